/-! ===== the beginning of a statement, on both sides ===== -/
def oC (C : ai_S) (dp q : Nat) : ai_S := ai_up (ai_up (ai_up C 26 9 (if C 26 9 < nI dp then nI dp else C 26 9)) 26 8 (C 26 8 + 1)) 2 2 (nI q)
theorem oC_o {C : ai_S} {dp q a i : Nat} (h : ¬ (a = 2 ∧ i = 2)) (h2 : ¬ (a = 26 ∧ (i = 8 ∨ i = 9))) : oC C dp q a i = C a i := by
  unfold oC
  rw [ai_up_n (by omega), ai_up_n (by omega), ai_up_n (by omega)]
theorem oC_2 {C : ai_S} {dp q : Nat} : oC C dp q 2 2 = nI q := ai_up_s
theorem oC_up {C : ai_S} {dp q q' : Nat} : ai_up (oC C dp q) 2 2 (nI q') = oC C dp q' := by unfold oC; rw [ai_up_up]
section SOP
variable {C C' R R' : ai_S} {hf : Nat} {sc : sc_T} {SC : Nat → sc_T} {m ns pr vr : Nat} {tx : Nat → Int32} {n p p' e nn : Nat}
theorem sp_cong (h : sp C R hf sc SC m ns pr vr) (hC : ∀ q, 3 ≤ q → q ≤ 8 → C' q = C q) (h6' : C' 26 6 = C 26 6) (h7' : C' 26 7 = C 26 7) (hR0 : ∀ j, j = 21 ∨ j = 22 ∨ j = 36 ∨ j = 37 → R' 0 j = R 0 j) (hR5 : ∀ x ∈ sc, x.1 = 0 → R' 5 x.2.2 = R 5 x.2.2) (hR : ∀ q, q = 10 ∨ q = 11 ∨ (18 ≤ q ∧ q ≤ 21) → R' q = R q) : sp C' R' hf sc SC m ns pr vr := by
  obtain ⟨h1, h2, h3, h4, h5, h6, h7, h8, h9, h10, h11, h12, h13, h14, h15, h15a, h15b, h16, h17, h18⟩ := h
  have c3 : C' 3 = C 3 := hC 3 (by omega) (by omega)
  have hag : sc_ag R R' (16 * hf) SC SC sc := by
    refine ⟨fun x hx => ⟨fun h0 cnt hcl hc' => ⟨cnt, (hR5 x hx h0).trans hc', Nat.le_refl _, hcl⟩, fun _ => ⟨by rw [hR 10 (by omega)], by rw [hR 11 (by omega)]⟩⟩, fun _ _ => rfl⟩
  refine ⟨by rw [c3]; exact h1, by rw [hR0 36 (by omega)]; exact h2, by rw [c3]; exact h3, by rw [hR0 37 (by omega)]; exact h4, by rw [c3]; exact h5, by rw [h6']; exact h6, by rw [hR0 21 (by omega)]; exact h7, by rw [h7']; exact h8, by rw [hR0 22 (by omega)]; exact h9, h10, h11, h12, h13, h14, ?_, h15a, h15b, fun i hi => ?_, fun o x hx hx0 => ?_, h18⟩
  · refine sc_tp_mono ?_ h15
    cases sc with
    | nil => trivial
    | cons x tl => exact fun h0 => hR5 x List.mem_cons_self h0
  · obtain ⟨g1, o, x, g2, g3, g4, g5⟩ := h16 i hi
    refine ⟨?_, o, x, g2, ?_, ?_, ?_⟩
    · rw [hC 4 (by omega) (by omega), hR 18 (by omega)]; exact g1
    · rw [hR 21 (by omega)]; exact g3
    · rw [hC 6 (by omega) (by omega)]; exact g4
    · rw [hC 5 (by omega) (by omega), hC 7 (by omega) (by omega), hR 19 (by omega), hR 20 (by omega)]
      exact sy_k_mono hag g2 g5
  · rw [hC 8 (by omega) (by omega)]
    exact h17 o x hx hx0
theorem oC_cS {dp q : Nat} : cS C (oC C dp q) e pr := by
  unfold oC
  exact ((cS.rf.u 26 9 _ (by omega)).u 26 8 _ (by omega)).u 2 2 _ (by omega)
theorem oR_mS {dp q : Nat} : mS R (oR R dp q) hf nn m pr := by
  unfold oR
  exact ((mS.rf.u 0 24 _ (by omega)).u 0 23 _ (by omega)).u 0 2 _ (by omega)
theorem pv_open {dp q q' : Nat} {stk : List mf_T} (h : pv C R tx n hf sc SC m ns pr vr p p' e nn stk) (hq : q ≤ n) (hq' : q' ≤ n) (hs : px_s tx n q = px_s tx n q') : pv (oC C dp q) (oR R dp q') tx n hf sc SC m ns pr vr q q' e nn stk := by
  obtain ⟨hT, hp, hpn, hC3, ⟨hmT, m2, mpn, m14, mhf, m15, hmf, m19⟩, hsk, h8, h9, hnh, hsp, hsc, hnn3⟩ := h
  refine ⟨⟨by rw [oC_o (by omega) (by omega)]; exact hT.1, hT.2.1, fun i hi => by rw [oC_o (by omega) (by omega)]; exact hT.2.2 i hi⟩, oC_2, hq, by rw [oC_o (by omega) (by omega)]; exact hC3, ⟨oR_T hmT, oR_2, hq', by rw [oR_o (by omega)]; exact m14, ⟨mhf.1, mhf.2.o⟩, by rw [oR_o (by omega)]; exact m15, ?_, by rw [oR_o (by omega)]; exact m19⟩, hs, ?_, ?_, by rw [oC_o (by omega) (by omega), oR_o (by omega)]; exact hnh, ?_, hsc, hnn3⟩
  · exact ⟨by rw [oR_o (by omega)]; exact hmf.1, mf_l_keep _ (fun q h1 h2 i hi => oR_o (by omega)) hmf.2⟩
  · unfold oC oR
    rw [ai_up_n (by omega), ai_up_s, ai_up_n (by omega), ai_up_s, h8]
  · unfold oC oR
    rw [ai_up_n (by omega), ai_up_n (by omega), ai_up_s, ai_up_n (by omega), ai_up_n (by omega), ai_up_s, h9]
  · exact sp_cong hsp (fun q h1 h2 => by funext i; exact oC_o (by omega) (by omega)) (oC_o (by omega) (by omega)) (oC_o (by omega) (by omega)) (fun j hj => oR_o (by omega)) (fun x _ _ => oR_o (by omega)) (fun q hq => by funext i; exact oR_o (by omega))
end SOP
section S11
variable {l : Launch} {D : va_G} {ρ : Nat → Nat} {τ : Nat → ClassId} {z : lm_T} {V : ai_V} {tx : Nat → Int32} {n hf : Nat} {sc : sc_T} {SC : Nat → sc_T} {m ns pr vr d dp F : Nat} {C R C1 R1 : ai_S} {p p1 p1' e nn k K : Nat} {stk : List mf_T}
/-- the reference's round behind the expression -/
theorem on_11 {R : ai_S} {G : ai_S → Prop} {f nd x p hh : Nat} (hgh : hh ≤ 1 ∧ gh tx hh R) (hr : 350 * hh < nd ∧ nd < 350 * hh + 350) (hf : f < 70) (h13 : R 13 f = nI 11) (h14 : R 14 f = nI nd) (hnd : nd < 700) (h16 : R 16 f = nI 0) (h30 : R 0 30 = nI (f + 1)) (hg : R 0 31 = nI x) (hT : mt_T R tx n) (hp : R 0 2 = nI p) (hpn : p ≤ n)
    (hG : px_c tx n (-1) (px_s tx n p) = 59 → G (ai_up (ai_up (ai_up (hook R f nd 0 x) 0 2 (nI (px_s tx n p + 1))) 0 31 (nI nd)) 0 30 (nI f))) (hB : ¬ px_c tx n (-1) (px_s tx n p) = 59 → ∀ R' : ai_S, bd tx R' → G R') : ai_met (uM l D ρ τ) (d + 2) mX6_onward [.ref 0, .int (nI f)] R V (ai_qv V G) := by
  have H0 : ∀ q i, ¬ (q = 16 ∧ i = f) → ¬ (q = 3 ∧ i = nd) → hook R f nd 0 x q i = R q i := fun q i h1 h2 => hook_o h1 (by omega) (by omega)
  have HT : mt_T (hook R f nd 0 x) tx n := ⟨by rw [H0 _ _ (by omega) (by omega)]; exact hT.1, hT.2.1, fun i hi => by rw [H0 _ _ (by omega) (by omega)]; exact hT.2.2 i hi⟩
  have hM : ai_met (uM l D ρ τ) (d + 1) mX6_add [.ref 0, .int (nI f)] R V (ai_qv V (fun S4 => ai_met (uM l D ρ τ) (d + 1) mX6_eat [.ref 0, .int 59] S4 V (ai_qz V (fun b5 S6 => (b5 = true → ai_met (uM l D ρ τ) (d + 1) mX6_done [.ref 0, .int (S6 14 f)] S6 V (ai_qv V (fun S8 => G S8))) ∧ (b5 = false → ai_met (uM l D ρ τ) (d + 1) mX6_done [.ref 0, .int (S6 14 f)] (ai_up S6 0 19 1) V (ai_qv V (fun S10 => G S10))))))) := by
    refine sp_hook (by omega) h16 (by omega) h14 hnd hg (sp_eat HT (by rw [H0 _ _ (by omega) (by omega)]; exact hp) hpn (fun h => ai_zt ?_) (fun h => ai_zf ?_))
    · rw [ai_up_n (by omega), H0 14 f (by omega) (by omega), h14]
      exact sp_done (by rw [ai_up_n (by omega), H0 _ _ (by omega) (by omega)]; exact h30) (hG h)
    · exact sp_done (f := f) (by rw [ai_up_n (by omega), ai_up_n (by omega), H0 _ _ (by omega) (by omega)]; exact h30) (hB h _ (bd_of hgh (fun g => by (repeat with_reducible refine gh.u ?_ (by omega)); exact g.hk hr (fun h => absurd rfl h)) (by simp [ai_up_eq])))
  refine vX6_onward ⟨i_in (by omega) (by omega), ?_⟩
  rw [nI_clamp (show f < 2 ^ 31 by omega), h13]
  exact ⟨fun _ => hM, fun h => absurd h (by decide), fun h => absurd h (by decide), fun h => absurd h (by decide), fun h => absurd h (by decide), fun h => absurd h (by decide), fun h => absurd (by decide) h.1⟩
set_option maxHeartbeats 4000000 in
/-- an expression and a semicolon -/
theorem st_11 (hV0 : hV ρ V tx n) (hdp : dp ≤ 10) (op : Int32) (hE : sF l D ρ τ z V tx n hf sc SC m ns pr vr (d + 1) (dp + 1) F 0 0 mX3_expression 30) (hF : F ≤ 50) (hn320 : n ≤ 320)
    (hlm1 : lm z R1 (k + 1) → lm z R k) (hmS : mS R R1 hf nn m pr) (hcS : cS C C1 e pr) (hc5 : C1 2 5 = 1 → C 2 5 = 1) (hpv1 : pv C1 R1 tx n hf sc SC m ns pr vr p1 p1' (e + 1) (nn + 1) ((30, 0, dp + 1, 0, 0) :: (11, 350 * hf + nn + 1, dp, 0, 0) :: stk)) (hscw : scw SC pr hf nn) (hsc : ∀ x ∈ sc, x.1 = 0 → x.2.2 ≤ 350 * hf + nn) (hst : stk.length + 1 ≤ dp) (he : 2 * e ≤ 3 * p) (hnn : nn ≤ p) (hpp : p + 1 ≤ p1) (hk : k + 12 * (n - p) + 50 ≤ 100000) (h4 : R1 4 (350 * hf + nn + 1) = nI 0)
    (hcx : ∀ (C' R' : ai_S) (y mm nn2 : Nat), C1 2 5 = 1 → nn + 1 ≤ nn2 → (∀ j, j < 3 → cd C' j e = cd C1 j e) → (∀ q, q = 2 ∨ q = 5 ∨ q = 6 ∨ q = 7 → R' q (350 * hf + nn + 1) = R1 q (350 * hf + nn + 1)) → sc_ag R1 R' (16 * hf) SC SC sc → R' 3 (350 * hf + nn + 1) = nI y → cx_E (cd C') R' (16 * hf) SC sc 50 (fun i => nr hf nn nn2 i ∧ i ≠ 350 * hf + nn + 1) y (e + 1) mm → cd C' 0 mm = op → cx_S (cd C') R' (16 * hf) SC K (nr hf nn nn2) sc (350 * hf + nn + 1) e (mm + 1)) :
    ai_met (uC l D ρ τ) (d + 1) mX3_expression [.ref 2, .int (nI (dp + 1))] C1 V (ai_qz V (fun b3 S4 => (b3 = true → ai_met (uC l D ρ τ) (d + 1) mX3_take [.ref 2, .int 59] S4 V (ai_qz V (fun b5 S6 => (b5 = true → ai_met (uC l D ρ τ) (d + 1) mX2_add [.ref 26, .int op, .int 0, .int 0] S6 V (ai_qi V (fun x7 S8 => pS z C R tx n hf sc SC m ns pr vr p e nn stk K k true S8))) ∧ (b5 = false → pS z C R tx n hf sc SC m ns pr vr p e nn stk K k false S6)))) ∧ (b3 = false → pS z C R tx n hf sc SC m ns pr vr p e nn stk K k false S4))) := by
  have hp1n : p1 ≤ n := hpv1.2.2.1
  refine (hE C1 R1 p1 p1' (e + 1) (nn + 1) _ (k + 1) hpv1 (by simp; omega) (by omega) (by omega) (by omega)).mb (fun b C2 hE2 => ?_)
  obtain ⟨R2, j2, hlm2, hE2⟩ := hE2
  have hlm12 : lm z R2 (k + (1 + j2)) → lm z R k := fun h => hlm1 (hlm2 (by rw [Nat.add_assoc]; exact h))
  rcases hE2 with ⟨rfl, x, p2, p2', e2, nn2, hpv2, r31, rx, rt, r4, r5, r6, r7, r8, r9, r10, r11, r12, r13⟩ | ⟨hwr, hbb⟩
  · refine ai_zt ?_
    have hx1 : 350 * hf + (nn + 1) < x := rx.1
    have hx2 : x ≤ 350 * hf + nn2 := rx.2
    obtain ⟨gT, gp, gpn, gC3, gmq, gsk, g8, g9, gnh, gsp, gsc, gnn⟩ := id hpv2
    obtain ⟨gmT, gm2, gmpn, gm14, gmhf, gm15, gmf, gm19⟩ := id gmq
    obtain ⟨⟨s13, s14, s15, s16, s17⟩, gml, g30⟩ := mf_top gmf
    dsimp only at s13 s14 s15 s16 s17
    have hskn : px_s tx n p2 ≤ n := px_s_le tx gpn
    have hskp2 : p2 ≤ px_s tx n p2 := px_s_ge tx n p2
    have rd : ∀ (G : ai_S → Prop), (∀ S, G S → lm z S (k + (1 + j2) + 1)) → (px_c tx n (-1) (px_s tx n p2') = 59 → G (ai_up (ai_up (ai_up (hook R2 stk.length (350 * hf + nn + 1) 0 x) 0 2 (nI (px_s tx n p2' + 1))) 0 31 (nI (350 * hf + nn + 1))) 0 30 (nI stk.length))) → (¬ px_c tx n (-1) (px_s tx n p2') = 59 → ∀ R' : ai_S, bd tx R' → G R') → lm z R2 (k + (1 + j2)) := by
      intro G hG hg1 hg2
      exact lm_head (by omega) gm19 g30 (by omega) s13 (by omega) (fun h => by omega) (fun _ h _ => by omega) (fun _ _ => (on_11 (d := z.2.2.2.2.1 + 5) gmhf (by omega) (by omega) s13 s14 (by omega) s16 g30 r31 gmT gm2 gmpn (fun h => hG _ (hg1 h)) (fun h R' hR' => hG _ (hg2 h R' hR'))))
    refine sp_take (p := p2) hV0 gT gp gpn (fun ht => ai_zt ?_) (fun hf1 => ai_zf ?_)
    · have hlt2 : px_s tx n p2 < n := px_lt ht (by decide)
      have hy : px_c tx n (-1) (px_s tx n p2') = 59 := by rw [← gsk]; exact (px_cc (by decide) (by decide)).mp ht
      refine sp_cadd (e := e2) (by rw [ai_up_n (by omega)]; exact gC3) (by omega) ?_
      obtain ⟨C3, hC3⟩ : ∃ C3, C3 = cadd (ai_up C2 2 2 (nI (px_s tx n p2 + 1))) e2 op 0 0 := ⟨_, rfl⟩
      rw [← hC3]
      have hcE3 : cE C2 C3 e2 := by rw [hC3]; exact (cE.rf.u2 2 _ (by omega)).add (Nat.le_refl _) _ _ _
      obtain ⟨R', hR'⟩ : ∃ R', R' = ai_up (ai_up (ai_up (hook R2 stk.length (350 * hf + nn + 1) 0 x) 0 2 (nI (px_s tx n p2' + 1))) 0 31 (nI (350 * hf + nn + 1))) 0 30 (nI stk.length) := ⟨_, rfl⟩
      have hlm3 : lm z R' (k + (2 + j2)) → lm z R k := fun h => hlm12 (rd (fun S => S = R') (fun S hS => by rw [hS, show k + (1 + j2) + 1 = k + (2 + j2) by omega]; exact h) (fun _ => hR'.symm) (fun h' => absurd hy h'))
      have n0 : ∀ q i, ¬ q = 0 → ¬ (q = 16 ∧ i = stk.length) → ¬ (q = 3 ∧ i = 350 * hf + nn + 1) → R' q i = R2 q i := fun q i h h1 h2 => by rw [hR', ai_up_n (by omega), ai_up_n (by omega), ai_up_n (by omega), hook_o h1 (by omega) (by omega)]
      have n00 : ∀ j, j ≠ 2 → j ≠ 30 → j ≠ 31 → R' 0 j = R2 0 j := fun j h h1 h2 => by rw [hR', ai_up_n (by omega), ai_up_n (by omega), ai_up_n (by omega), hook_o (by omega) (by omega) (by omega)]
      have mR' : mE R2 R' (350 * hf + nn) (350 * hf + 350) := by rw [hR']; exact (((mE.rf.hk (fun _ => ⟨by omega, by omega⟩) (fun h => absurd rfl h)).u0 2 _ (by omega)).u0 31 _ (by omega)).u0 30 _ (by omega)
      have mR1 : mE R1 R' (350 * hf + nn) (350 * hf + 350) := (mE.rf.tr r11 (by omega)).tr mR' (Nat.le_refl _)
      have cE1 : cE C1 C3 (e + 1) := r12.tr hcE3 (by omega)
      refine ⟨R', 2 + j2, hlm3, Or.inl ⟨rfl, 350 * hf + nn + 1, px_s tx n p2 + 1, px_s tx n p2 + 1, e2 + 1, nn2, ns, pr, vr, SC, ?_, by rw [hR']; simp [ai_up_eq], ⟨by omega, by omega⟩, ?_, by omega, by omega, by omega, by omega, by omega, by omega, hmS.tr (mR1.ms (Nat.le_refl _) (Nat.le_refl _)) (Nat.le_refl _) (Nat.le_refl _) (Nat.le_refl _), hcS.tr cE1.cs (by omega) (Nat.le_refl _), Nat.le_refl _, Nat.le_refl _, Nat.le_refl _, hscw.le (by omega), fun _ _ => rfl, fun hN => ?_⟩⟩
      · refine pv_ofb hpv1 hsc cE1 mR1 (by rw [hC3]; simp [cadd, ai_up_eq]) hlt2 (by rw [hC3]; simp [cadd, ai_up_eq]) (by rw [hR', gsk]; simp [ai_up_eq]) hlt2 (by rw [n00 15 (by omega) (by omega) (by omega)]; exact gm15) ?_ (by rw [n00 19 (by omega) (by omega) (by omega)]; exact gm19) rfl ?_ ?_ r8 gnn
        · rw [hR']
          unfold hook
          exact ⟨ai_up_s, mf_l_o (mf_l_o (mf_l_o (mf_l_o (mf_l_o gml 3 _ _ (by omega)) 16 _ _ (by omega)) 0 2 _ (by omega)) 0 31 _ (by omega)) 0 30 _ (by omega)⟩
        · rw [n00 24 (by omega) (by omega) (by omega), hC3]; simp [cadd, ai_up_eq]; exact g9
        · rw [n00 20 (by omega) (by omega) (by omega), hC3]; simp only [cadd, ai_up_eq]; simpa using gnh
      · rw [n0 4 _ (by omega) (by omega) (by omega), r11.2.2.2 4 (by omega) (by omega) _ (Or.inl (by omega))]; exact h4
      · have hN2 : C2 2 5 = 1 := by rw [hC3] at hN; simpa [cadd, ai_up_eq] using hN
        obtain ⟨n1, kE⟩ := r13 hN2
        refine ⟨hc5 n1, hcx C3 R' x e2 nn2 n1 r8 (fun j hj => ?_) (fun q hq => ?_) (mR1.ag hsc) (by rw [hR', ai_up_n (by omega), ai_up_n (by omega), ai_up_n (by omega), hook_3]) ?_ (by rw [hC3, cd_cadd0]), fun q h1 h2 => absurd h2 (by omega)⟩
        · exact cE1.2.2.2 (27 + j) (by omega) (by omega) e (by omega)
        · rw [n0 q _ (by omega) (by omega) (by omega), r11.2.2.2 q (by omega) (by omega) _ (Or.inl (by omega))]
        · refine cx_E_lift kE (fun j hj i h1 h2 => ?_) (mR'.ag hsc) (fun q a c i h1 h2 _ => n0 q i (by omega) (by omega) (by omega)) hF (fun i hi => ⟨⟨by have := hi.1; omega, hi.2⟩, by have := hi.1; omega⟩)
          rw [hC3, cd_cadd hj (by omega)]
          exact ai_up_n (by omega)
    · have hy : ¬ px_c tx n (-1) (px_s tx n p2') = 59 := by rw [← gsk]; exact fun h => hf1 ((px_cc (by decide) (by decide)).mpr h)
      obtain ⟨R', w1, w2⟩ := lm_bad (z := z) (R := R2) (k := k + (1 + j2)) (k' := k + (1 + j2) + 1) (fun hall => rd (fun S => bd tx S) hall (fun h => absurd h hy) (fun _ R' hR' => hR'))
      exact ⟨R', 2 + j2, fun h => hlm12 (w2 (by rw [show k + (1 + j2) + 1 = k + (2 + j2) by omega]; exact h)), Or.inr ⟨w1, rfl⟩⟩
  · rcases hbb with rfl | hpg
    · exact ai_zf ⟨R2, 1 + j2, hlm12, Or.inr ⟨hwr, rfl⟩⟩
    · exact ⟨fun _ => pg_take hV0 hpg (by decide) (fun h => ai_zf ⟨R2, 1 + j2, hlm12, Or.inr ⟨hwr, rfl⟩⟩), fun _ => ⟨R2, 1 + j2, hlm12, Or.inr ⟨hwr, rfl⟩⟩⟩
end S11
