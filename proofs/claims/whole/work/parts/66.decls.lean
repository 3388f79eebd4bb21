/-! ===== all declarations of a block, simulated ===== -/
theorem cx_dj_up {K : ai_S} : ∀ (j j' a c : Nat), j ≤ j' → cx_dj K j a c → cx_dj K j' a c
  | 0, 0, _, _, _, h => h
  | 0, j' + 1, _, _, _, h => Or.inl h
  | j + 1, 0, _, _, hj, _ => by omega
  | j + 1, j' + 1, a, c, hj, h => by
    rcases h with h | ⟨h1, a', h2, h3, h4, h5⟩
    · exact Or.inl h
    · exact Or.inr ⟨h1, a', h2, h3, h4, cx_dj_up j j' a' c (by omega) h5⟩
def pDe (z : lm_T) (C R C' : ai_S) (tx : Nat → Int32) (n hf : Nat) (sc : sc_T) (SC : Nat → sc_T) (mk bs m ns pr vr dp p e nn nn0 : Nat) (stk : List mf_T) (k : Nat) : Prop :=
  ∃ (R' : ai_S) (j m1 ns1 p1 p1' e1 nn1 pr1 vr1 ex1 : Nat) (SC1 : Nat → sc_T), (bk z R' (k + j) stk.length (dp + 1) → bk z R k stk.length (dp + 1)) ∧ pv C' R' tx n hf ((0, bs, 350 * hf + nn0 + 1) :: sc) SC1 m1 ns1 pr1 vr1 p1 p1' e1 nn1 ((19, 350 * hf + nn0 + 1, dp, 0, ex1) :: stk) ∧ ¬ px_c tx n 0 (px_s tx n p1) = 36 ∧ ¬ px_c tx n 0 (px_s tx n p1) = 64 ∧ p ≤ p1 ∧ 2 * e1 + 3 * p ≤ 3 * p1 + 2 * e ∧ nn1 + p ≤ nn + p1 ∧ nn ≤ nn1 ∧ e ≤ e1 ∧ j + 12 * p ≤ 12 * p1 ∧ m ≤ m1 ∧ (∀ i, mk ≤ i → i < m1 → R' 21 i = nI (sc.length + 1)) ∧ (∀ i, i < mk → ¬ R' 21 i = nI (sc.length + 1)) ∧ R' 5 (350 * hf + nn0 + 1) = nI (ns1 - bs) ∧ ns ≤ ns1 ∧ (∀ q, 2 ≤ q → q ≤ 8 → ∀ i, i ≤ 350 * hf + nn → ¬ (q = 5 ∧ i = 350 * hf + nn0 + 1) → R' q i = R q i) ∧ mS R R' hf nn0 mk pr ∧ cS C C' e pr ∧ pr ≤ pr1 ∧ vr ≤ vr1 ∧ scw SC1 pr1 hf nn1 ∧ (∀ q, q < pr → SC1 q = SC q) ∧
    (C' 2 5 = 1 → C 2 5 = 1 ∧ cx_dj (cd C') (pr1 - pr) e e1 ∧ pf C' R' hf SC1 nn nn1 (350 * hf + nn0 + 1) e e1 pr pr1)
section SDE
variable {l : Launch} {D : va_G} {ρ : Nat → Nat} {τ : Nat → ClassId} {z : lm_T} {V : ai_V} {tx : Nat → Int32} {n hf : Nat} {sc : sc_T} {d dp mk bs nn0 K : Nat} {stk : List mf_T}
set_option maxHeartbeats 8000000 in
theorem simD (hV0 : hV ρ V tx n) (hV3 : V 2 3 = .ref 26) (hdp : dp ≤ 10) (hK : K ≤ 10) (hS : sS l D ρ τ z V tx n hf (d + 3) (dp + 1) K) (hst : stk.length + 1 ≤ dp) (hsl : sc.length + 2 ≤ 2 * dp) (hcl : sc_cl sc + 1 ≤ dp ∧ slo hf sc) (hsb : ∀ x ∈ sc, x.1 = 0 → x.2.2 ≤ 350 * hf + nn0) (hbs : 7 ≤ bs) (hn320 : n ≤ 320) :
    ∀ (w : Nat) (C R : ai_S) (SC : Nat → sc_T) (m ns pr vr p p' e nn k i ex : Nat) (G : Bool → ai_S → Prop), i + w = 321 → i ≤ p → pv C R tx n hf ((0, bs, 350 * hf + nn0 + 1) :: sc) SC m ns pr vr p p' e nn ((19, 350 * hf + nn0 + 1, dp, 0, ex) :: stk) → scw SC pr hf nn → mk ≤ m → (∀ i, mk ≤ i → i < m → R 21 i = nI (sc.length + 1)) → (∀ i, i < mk → ¬ R 21 i = nI (sc.length + 1)) → bs ≤ ns → R 5 (350 * hf + nn0 + 1) = nI (ns - bs) → nn0 + 1 ≤ nn → 2 * e ≤ 3 * p → nn ≤ p → k + 12 * (n - p) + 51 ≤ 100000 →
      (∀ C' : ai_S, pDe z C R C' tx n hf sc SC mk bs m ns pr vr dp p e nn nn0 stk k → G true C') → (∀ C' : ai_S, (∃ (R' : ai_S) (j : Nat), bd tx R' ∧ (lm z R' (k + j) → bk z R k stk.length (dp + 1))) → G false C') →
      ai_W (uC l D ρ τ) (d + 5) mX3_declarations 2 [(0, .ref 2), (1, .int (nI dp)), (2, .int (nI mk)), (3, .int (nI i))] [] C V (ai_qz V G) := by
  intro w
  induction w using Nat.strongRecOn with
  | ind w ih =>
    intro C R SC m ns pr vr p p' e nn k i ex G hiw hip hpv hscw hmk hl1 hl2 hbn h5 hnn0 he hnn hk hok hno
    obtain ⟨hT, hp, hpn, hC3, hmq, hsk, h8, h9, hnh, hsp, hsc, hnn3⟩ := id hpv
    obtain ⟨hmT, m2, mpn, m14, mhf, m15, hmf, m19⟩ := id hmq
    obtain ⟨hw1, hw2⟩ := sp_w hsp
    have hns : ns ≤ 31 := by
      have a1 : vr ≤ 24 := hsp.2.2.2.2.2.2.2.2.2.2.1
      have a2 : ns ≤ 7 + vr := hsp.2.2.2.2.2.2.2.2.2.2.2.2.2.1
      omega
    have hskp := px_s_ge tx n p
    have hskn : px_s tx n p ≤ n := px_s_le tx hpn
    have hss := px_s_s tx n p
    have T2 : ∀ v : Int32, ct_T (ai_up C 2 2 v) tx n := fun v => ⟨by rw [ai_up_n (by omega)]; exact hT.1, hT.2.1, fun i hi => by rw [ai_up_n (by omega)]; exact hT.2.2 i hi⟩
    refine vX3_declarations_2 hV3 ⟨fun h => absurd h ?_, fun _ => ?_⟩
    · rw [show (320 : Int32) = nI 320 from rfl, i_lt (by omega) (by omega)]; omega
    refine sp_take hV0 hT hp hpn (fun h36 => ai_zt ?_) (fun h36 => ai_zf ?_)
    · -- a variable
      have hlt : px_s tx n p < n := px_lt h36 (by decide)
      refine (sim_var (z := z) (d := d + 1) (k := k) (mk := mk) hV0 hV3 (by omega) hsb hpv hmk hl1 hl2 hbs hbn h5 hnn0 (by omega) h36).mb (fun b C6 h6 => ?_)
      rcases h6 with ⟨rfl, R6, p6, y1, y2, y3, y4, y5, y6, y7, y8, y9, y10, y11⟩ | ⟨rfl, R', g1, g2⟩
      · refine ai_zt ?_
        rw [nI_1 i]
        have p6n : p6 ≤ n := y2.2.2.1
        refine ih (w - 1) (by omega) C6 R6 SC (m + 1) (ns + 1) pr (vr + 1) p6 p6 e nn (k + 1) (i + 1) ex G (by omega) (by omega) y2 hscw (by omega) y5 y6 (by omega) y4 hnn0 (by omega) (by omega) (by omega) (fun C' hC' => hok C' ?_) (fun C' hC' => hno C' ?_)
        · obtain ⟨R', j, m1, ns1, p1, p1', e1, nn1, pr1, vr1, ex1, SC1, c1, c2, c3, c4, c5, c6, c7, c8, c9, c10, c11, c12, c13, c14, c15, c16, c17, c18, c19, c20, c21, c22, c23⟩ := hC'
          refine ⟨R', 1 + j, m1, ns1, p1, p1', e1, nn1, pr1, vr1, ex1, SC1, fun h => y1 (c1 (by rw [Nat.add_assoc]; exact h)), c2, c3, c4, by omega, by omega, by omega, c8, c9, by omega, by omega, c12, c13, c14, by omega, fun q a b i' hi' hne => by rw [c16 q a b i' hi' hne, y7 q a (by omega) i' hne], y8.tr c17 (Nat.le_refl _) (Nat.le_refl _) (Nat.le_refl _), y9.tr c18 (Nat.le_refl _) (Nat.le_refl _), c19, by omega, c21, c22, fun hN => ?_⟩
          obtain ⟨n6, k1, k2⟩ := c23 hN
          exact ⟨y10 n6, k1, k2⟩
        · obtain ⟨R', j, g1, g2⟩ := hC'
          exact ⟨R', 1 + j, g1, fun h => y1 (g2 (by rw [Nat.add_assoc]; exact h))⟩
      · exact ai_zf (hno _ ⟨R', 1, g1, g2⟩)
    refine sp_take (tx := tx) hV0 (T2 _) ai_up_s hskn (fun h64 => ai_zt ?_) (fun h64 => ai_zf ?_)
    · -- a procedure
      rw [hss] at h64 ⊢
      rw [ai_up_up]
      refine sim_prc (K := K) (k := k) (mk := mk) hV0 hV3 hdp hK hS hst hsl hcl hpv hscw hmk hl1 hl2 hnn0 he hnn hk h64 (fun C6 h6 => ai_zt ?_) (fun C' hC' => ai_zf (hno C' hC'))
      obtain ⟨R6, j6, p6, p6', e6, nn6, pr6, vr6, ex6, SC6, y1, y2, y3, y4, y5, y6, y7, y8, y9, y10, y11, y12, y13, y14, y15, y16, y17, y18⟩ := h6
      have p6n : p6 ≤ n := y2.2.2.1
      have sp6 := y2.2.2.2.2.2.2.2.2.2.1
      obtain ⟨gw1, gw2⟩ := sp_w sp6
      have r65 : R6 5 (350 * hf + nn0 + 1) = nI (ns - bs) := by rw [y11 5 (by omega) (by omega) _ (by omega)]; exact h5
      rw [nI_1 i]
      refine ih (w - 1) (by omega) C6 R6 SC6 (m + 1) ns pr6 vr6 p6 p6' e6 nn6 (k + j6) (i + 1) ex6 G (by omega) (by omega) y2 y16 (by omega) y9 y10 hbn r65 (by omega) (by omega) (by omega) (by omega) (fun C' hC' => hok C' ?_) (fun C' hC' => hno C' ?_)
      · obtain ⟨R', j, m1, ns1, p1, p1', e1, nn1, pr1, vr1, ex1, SC1, c1, c2, c3, c4, c5, c6, c7, c8, c9, c10, c11, c12, c13, c14, c15, c16, c17, c18, c19, c20, c21, c22, c23⟩ := hC'
        have e1l : e1 < 2 ^ 31 := by have := c2.2.2.1; omega
        refine ⟨R', j6 + j, m1, ns1, p1, p1', e1, nn1, pr1, vr1, ex1, SC1, fun h => y1 (c1 (by rw [Nat.add_assoc]; exact h)), c2, c3, c4, by omega, by omega, by omega, by omega, by omega, by omega, by omega, c12, c13, c14, c15, fun q a b i' hi' hne => by rw [c16 q a b i' (by omega) hne, y11 q a b i' hi'], y12.tr c17 (Nat.le_refl _) (Nat.le_refl _) (by omega), y13.tr c18 (by omega) (by omega), by omega, by omega, c21, fun q hq => (c22 q (by omega)).trans (y17 q hq), fun hN => ?_⟩
        obtain ⟨n6, k1, k2⟩ := c23 hN
        obtain ⟨n5, k3, k4, k5⟩ := y18 n6
        have hK6 : ∀ j, j < 3 → ∀ i, i < e6 → cd C' j i = cd C6 j i := fun j hj i hi => c18.2.2.1 (27 + j) (by omega) (by omega) i hi
        refine ⟨n5, ?_, ?_⟩
        · rw [show pr1 - pr = (pr1 - pr - 1) + 1 by omega]
          exact Or.inr ⟨(hK6 0 (by omega) e y7).trans k3, e6, (hK6 1 (by omega) e y7).trans k4, y7, c9, cx_dj_up _ _ _ _ (by omega) k1⟩
        · intro q h1 h2
          by_cases hq6 : q < pr6
          · refine pf_lift (pr := pr) (pr1 := pr6) k5 (by omega) (fun j hj i h1 h2 => hK6 j hj i h2) (fun j h1 h2 q _ h3 => c18.2.2.2 j h1 h2 q h3) (fun j h1 h2 q _ h3 => c17.2.2.2.2.1 j h1 h2 _ (Or.inl (by omega))) (fun q h1 h2 => ⟨fun x hx => ⟨fun h0 cnt hcl hcn => ?_, fun h0 => ?_⟩, fun q' hq' => c22 q' (Classical.byContradiction fun h => hq' (gw2 q' (by omega)))⟩) (fun q _ h2 => c22 q h2) (fun q' a b i' hi' hne => c16 q' a b i' hi'.2 (by omega)) (fun i' hi' hne => ⟨⟨hi'.1, by have := hi'.2; omega⟩, hne⟩) (Nat.le_refl _) c9 q h1 hq6
            · have hx2 : x.2.2 ≤ 350 * hf + nn6 := by
                rcases List.mem_cons.mp hx with rfl | hx
                · exact absurd h0 (by simp)
                · exact ((y16 q h2).1 x hx).1 h0
              by_cases hxn : x.2.2 = 350 * hf + nn0 + 1
              · rw [hxn, r65, i_eq (by omega) (by omega)] at hcn
                have sp1 := c2.2.2.2.2.2.2.2.2.2.1
                have hv1 : vr1 ≤ 24 := sp1.2.2.2.2.2.2.2.2.2.2.1
                have hn1 : ns1 ≤ 7 + vr1 := sp1.2.2.2.2.2.2.2.2.2.2.2.2.2.1
                exact ⟨ns1 - bs, by rw [hxn]; exact c14, by omega, by omega⟩
              · exact ⟨cnt, by rw [c16 5 (by omega) (by omega) _ hx2 (by omega)]; exact hcn, Nat.le_refl _, hcl⟩
            · have hx1 : x.1 ≤ pr6 := by
                rcases List.mem_cons.mp hx with rfl | hx
                · simp; omega
                · exact ((y16 q h2).1 x hx).2 h0
              exact ⟨c17.2.2.2.2.1 10 (by omega) (by omega) _ (Or.inl (by omega)), c17.2.2.2.2.1 11 (by omega) (by omega) _ (Or.inl (by omega))⟩
          · refine pf_lift (pr := pr6) (pr1 := pr1) k2 e1l (fun _ _ _ _ _ => rfl) (fun _ _ _ _ _ _ => rfl) (fun _ _ _ _ _ _ => rfl) (fun _ _ _ => sc_ag.rf) (fun _ _ _ => rfl) (fun _ _ _ _ _ _ => rfl) (fun i' hi' hne => ⟨⟨by have := hi'.1; omega, hi'.2⟩, hne⟩) (by omega) (Nat.le_refl _) q (by omega) h2
      · obtain ⟨R', j, g1, g2⟩ := hC'
        exact ⟨R', j6 + j, g1, fun h => y1 (g2 (by rw [Nat.add_assoc]; exact h))⟩
    · -- no more
      rw [hss] at h64 ⊢
      rw [ai_up_up]
      have cE1 : cE C (ai_up C 2 2 (nI (px_s tx n p))) e := cE.rf.u2 2 _ (by omega)
      have hpv' : pv (ai_up C 2 2 (nI (px_s tx n p))) R tx n hf ((0, bs, 350 * hf + nn0 + 1) :: sc) SC m ns pr vr (px_s tx n p) p' e nn ((19, 350 * hf + nn0 + 1, dp, 0, ex) :: stk) :=
        pv_of hpv cE1 (mE.rf (t := 0)) ai_up_s hskn (by rw [ai_up_n (by omega)]; exact hC3) m2 mpn m15 hmf m19 (by rw [hss]; exact hsk) (by rw [ai_up_n (by omega)]; exact h9) (by rw [ai_up_n (by omega)]; exact hnh) (Nat.le_refl _) hnn3
      refine hok _ ⟨R, 0, m, ns, px_s tx n p, p', e, nn, pr, vr, ex, SC, id, hpv', by rw [hss]; exact h36, by rw [hss]; exact h64, by omega, by omega, by omega, Nat.le_refl _, Nat.le_refl _, by omega, Nat.le_refl _, hl1, hl2, h5, Nat.le_refl _, fun _ _ _ _ _ _ => rfl, mS.rf, cE1.cs, Nat.le_refl _, Nat.le_refl _, hscw, fun _ _ => rfl, fun hN => ⟨by rw [ai_up_n (by omega)] at hN; exact hN, ?_, fun q h1 h2 => absurd h2 (by omega)⟩⟩
      rw [Nat.sub_self]
      exact (rfl : e = e)
end SDE
