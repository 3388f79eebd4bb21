/-! ===== choices, simulated ===== -/
section SCI
variable {l : Launch} {D : va_G} {ρ : Nat → Nat} {τ : Nat → ClassId} {z : lm_T} {V : ai_V} {tx : Nat → Int32} {n hf : Nat} {sc : sc_T} {SC : Nat → sc_T} {m ns pr vr d dp F : Nat} {C R : ai_S} {p p' e nn k K : Nat} {stk : List mf_T}
theorem push_o {R : ai_S} {f q i : Nat} {c dp : Int32} (h0 : ¬ (q = 0 ∧ i = 30)) (h1 : q < 13 ∨ 17 < q ∨ i ≠ f) : mpush R f c dp q i = R q i := by
  unfold mpush
  rw [ai_up_n (by omega), ai_up_n (by omega), ai_up_n (by omega), ai_up_n (by omega), ai_up_n (by omega), ai_up_n (by omega)]
set_option maxHeartbeats 8000000 in
theorem sim_chc (hV0 : hV ρ V tx n) (hV3 : V 2 3 = .ref 26) (hdp : dp ≤ 10) (hE : sF l D ρ τ z V tx n hf sc SC m ns pr vr (d + 1) (dp + 1) F 0 0 mX3_expression 30) (hF : F ≤ 50) (hS : sS l D ρ τ z V tx n hf (d + 1) (dp + 1) K) (hpv : pv C R tx n hf sc SC m ns pr vr p p' e nn ((10, 0, dp, 0, 0) :: stk)) (hscw : scw SC pr hf nn) (hsl : sc.length + 2 ≤ 2 * dp) (hcl : sc_cl sc + 1 ≤ dp ∧ slo hf sc) (hst : stk.length + 1 ≤ dp) (he : 2 * e ≤ 3 * p) (hnn : nn ≤ p) (hk : k + 12 * (n - p) + 50 ≤ 100000) (hc : px_c tx n 0 (px_s tx n p) = 63) :
    ai_met (uC l D ρ τ) (d + 2) mX3_choice [.ref 2, .int (nI dp)] (oC C dp (px_s tx n p + 1)) V (ai_qz V (pS z C R tx n hf sc SC m ns pr vr p e nn stk (K + 1) k)) := by
  obtain ⟨hT, hp, hpn, hC3, hmq, hsk, h8, h9, hnh, hsp, hsc, hnn3⟩ := id hpv
  have hn320 : n ≤ 320 := hT.2.1
  obtain ⟨hw1, hw2⟩ := sp_w hsp
  refine vX3_choice hV3 (sp_cadd (e := e) (by rw [oC_o (by omega) (by omega)]; exact hC3) (by omega) ?_)
  rw [nI_1 dp]
  refine st_14 (t := 4) (cc := 15) hV0 hdp hE hF hpv hst he hnn hk hc (Or.inl ⟨rfl, rfl, rfl⟩) ?_
  rintro C5 R5 p5 e2 nn2 x j ⟨a1, ⟨p5', a2⟩, a3, a4, a5, a6, a7, a8, a9, a10, a11, a12, a13, a14, a15, a16, a17, a18⟩
  have hx1 := a9.1
  have hx2 := a9.2
  refine (hS sc SC m ns pr vr C5 R5 p5 p5' (e2 + 1) nn2 _ (k + j) a2 (hscw.le (by omega)) (by omega) ⟨by omega, hcl.2⟩ (by simp; omega) (by omega) (by omega) (by omega)).mb (fun b C6 hS6 => ?_)
  obtain ⟨R6, j6, hlm6, hS6⟩ := hS6
  have hlmA : lm z R6 (k + (j + j6)) → lm z R k := fun h => a1 (hlm6 (by rw [Nat.add_assoc]; exact h))
  rcases hS6 with ⟨rfl, y, p6, p6', e6, nn6, ns6, pr6, vr6, SC6, hpv6, b31, by0, b4, b5, b6, b7, b8, b9, b10, b11, b12, b13, b14, b15, b16, b17, b18⟩ | ⟨hwr, rfl⟩
  · refine ai_zt ?_
    have hy1 := by0.1
    have hy2 := by0.2
    obtain ⟨gT, gp, gpn, gC3, gmq, gsk, g8, g9, gnh, gsp, gsc, gnn⟩ := id hpv6
    obtain ⟨gmT, gm2, gmpn, gm14, gmhf, gm15, gmf, gm19⟩ := id gmq
    obtain ⟨⟨s13, s14, s15, s16, s17⟩, gml, g30⟩ := mf_top gmf
    dsimp only at s13 s14 s15 s16 s17
    obtain ⟨gw1, gw2⟩ := sp_w gsp
    refine sp_cadd (e := e6) gC3 (by omega) ?_
    rw [show cadd C6 e6 3 0 0 26 3 = nI (e6 + 1) by simp [cadd, ai_up_eq]]
    refine sp_setF (e := e6 + 1) (by simp [cadd, ai_up_eq]) (by omega) (by omega) ?_
    obtain ⟨C8, hC8⟩ : ∃ C8, C8 = ai_up (cadd C6 e6 3 0 0) 28 e2 (nI (e6 + 1)) := ⟨_, rfl⟩
    rw [← hC8]
    have hcE8 : cE C6 C8 e2 := by rw [hC8]; exact ((cE.rf (e := e2)).add (by omega) _ _ _).uK 28 e2 _ (by omega) (by omega) (Nat.le_refl _)
    obtain ⟨R8, hR8⟩ : ∃ R8, R8 = mpush (ai_up (hook R6 stk.length (350 * hf + nn + 1) x y) 13 stk.length 16) (stk.length + 1) 10 (nI (dp + 1)) := ⟨_, rfl⟩
    have f1 : ∀ q i, ¬ q = 0 → q < 13 ∨ 17 < q → ¬ (q = 4 ∧ i = x) → R8 q i = R6 q i := fun q i h0 h1 h2 => by rw [hR8, push_o (by omega) (by omega), ai_up_n (by omega), hook_o (by omega) (by omega) (by omega)]
    have f1s : ∀ q i, 13 ≤ q → q ≤ 17 → i < stk.length → R8 q i = R6 q i := fun q i h0 h1 h2 => by rw [hR8, push_o (by omega) (by omega), ai_up_n (by omega), hook_o (by omega) (by omega) (by omega)]
    have f2 : ∀ j, j ≠ 30 → R8 0 j = R6 0 j := fun j h1 => by rw [hR8, push_o (by omega) (by omega), ai_up_n (by omega), hook_o (by omega) (by omega) (by omega)]
    have f3 : R8 4 x = nI y := by rw [hR8, push_o (by omega) (by omega), ai_up_n (by omega), hook_4 (by omega)]
    have mR8 : mE R6 R8 (350 * hf + nn) (350 * hf + 350) := by rw [hR8]; exact ((mE.rf.hk (fun h => by omega) (fun _ => ⟨by omega, by omega⟩)).uF 13 _ _ (by omega) (by omega)).push _ _ _
    have hlm8 : lm z R8 (k + (j + j6 + 1)) → lm z R k := fun h => hlmA (lm_head (by omega) gm19 g30 (by omega) s13 (by omega) (fun h => by omega) (fun _ h _ => by omega) (fun _ _ => on_15 (d := z.2.2.2.2.1 + 5) (by omega) s13 s14 (by omega) s15 s16 (by omega) g30 b31 (by rw [← hR8, show k + (j + j6) + 1 = k + (j + j6 + 1) by omega]; exact h)))
    have hpv8 : pv C8 R8 tx n hf sc SC6 m ns6 pr6 vr6 p6 p6' (e6 + 1) nn6 ((10, 0, dp + 1, 0, 0) :: (16, 350 * hf + nn + 1, dp, y, 0) :: stk) := by
      refine pv_ofc hpv6 hsc hcE8 mR8 ?_ gpn ?_ (by rw [f2 2 (by omega)]; exact gm2) gmpn (by rw [f2 15 (by omega)]; exact gm15) ?_ (by rw [f2 19 (by omega)]; exact gm19) gsk ?_ ?_ (Nat.le_refl _) gnn
      · rw [hC8, ai_up_n (by omega)]; simp [cadd, ai_up_eq]; exact gp
      · rw [hC8, ai_up_n (by omega)]; simp [cadd, ai_up_eq]
      · rw [hR8]
        refine mf_push (stk := (16, 350 * hf + nn + 1, dp, y, 0) :: stk) ⟨mf_at_of ?_ ?_ ?_ ?_ ?_, ?_⟩ 10 (dp + 1)
        · rw [ai_up_s]; rfl
        · rw [ai_up_n (by omega), hook_o (by omega) (by omega) (by omega)]; exact s14
        · rw [ai_up_n (by omega), hook_o (by omega) (by omega) (by omega)]; exact s15
        · rw [ai_up_n (by omega), hook_16]
        · rw [ai_up_n (by omega), hook_o (by omega) (by omega) (by omega)]; exact s17
        · exact mf_l_keep stk (fun q h1 h2 i hi => by rw [ai_up_n (by omega), hook_o (by omega) (by omega) (by omega)]) gml
      · rw [f2 24 (by omega), hC8, ai_up_n (by omega)]; simp [cadd, ai_up_eq]; exact g9
      · rw [f2 20 (by omega), hC8, ai_up_n (by omega)]; simp only [cadd, ai_up_eq]; simpa using gnh
    have K8 : ∀ j, j < 3 → ∀ i, i < e6 → ¬ (j = 1 ∧ i = e2) → cd C8 j i = cd C6 j i := fun j hj i hi hne => by
      rw [hC8]
      show ai_up (cadd C6 e6 3 0 0) 28 e2 (nI (e6 + 1)) (27 + j) i = _
      rw [ai_up_n (by omega)]
      exact cd_cadd hj (by omega)
    have K5 : ∀ j, j < 3 → ∀ i, i < e2 + 1 → cd C6 j i = cd C5 j i := fun j hj i hi => b12.2.2.1 (27 + j) (by omega) (by omega) i hi
    have R65 : ∀ q, 2 ≤ q → q ≤ 8 → ∀ i, i ≤ 350 * hf + nn2 → R6 q i = R5 q i := fun q h1 h2 i hi => b11.2.2.2.1 q h1 h2 i (Or.inl hi)
    refine (hS sc SC6 m ns6 pr6 vr6 C8 R8 p6 p6' (e6 + 1) nn6 _ (k + (j + j6 + 1)) hpv8 b16 (by omega) ⟨by omega, hcl.2⟩ (by simp; omega) (by omega) (by omega) (by omega)).mb (fun b C9 hS9 => ?_)
    obtain ⟨R9, j9, hlm9, hS9⟩ := hS9
    have hlmB : lm z R9 (k + (j + j6 + 1 + j9)) → lm z R k := fun h => hlm8 (hlm9 (by rw [Nat.add_assoc]; exact h))
    rcases hS9 with ⟨rfl, w, p9, p9', e9, nn9, ns9, pr9, vr9, SC9, hpv9, c31, cy0, c4, c5, c6, c7, c8, c9, c10, c11, c12, c13, c14, c15, c16, c17, c18⟩ | ⟨hwr, rfl⟩
    · refine ai_zt ?_
      have hz1 := cy0.1
      have hz2 := cy0.2
      obtain ⟨qT, qp, qpn, qC3, qmq, qsk, q8, q9, qnh, qsp, qsc, qnn⟩ := id hpv9
      obtain ⟨qmT, qm2, qmpn, qm14, qmhf, qm15, qmf, qm19⟩ := id qmq
      obtain ⟨⟨v13, v14, v15, v16, v17⟩, qml, q30⟩ := mf_top qmf
      dsimp only at v13 v14 v15 v16 v17
      obtain ⟨-, qw2⟩ := sp_w qsp
      rw [qC3]
      refine sp_setF (e := e9) qC3 (by omega) (by omega) ?_
      obtain ⟨C10, hC10⟩ : ∃ C10, C10 = ai_up C9 28 e6 (nI e9) := ⟨_, rfl⟩
      rw [← hC10]
      have hcE10 : cE C9 C10 e6 := by rw [hC10]; exact (cE.rf (e := e6)).uK 28 e6 _ (by omega) (by omega) (Nat.le_refl _)
      obtain ⟨R10, hR10⟩ : ∃ R10, R10 = ai_up (ai_up (hook R9 stk.length (350 * hf + nn + 1) y w) 0 31 (nI (350 * hf + nn + 1))) 0 30 (nI stk.length) := ⟨_, rfl⟩
      obtain ⟨t1, t2, t3, t4, t5⟩ := hook_facts hR10 (by omega)
      have mR10 : mE R9 R10 (350 * hf + nn) (350 * hf + 350) := by rw [hR10]; exact ((mE.rf.hk (fun h => by omega) (fun _ => ⟨by omega, by omega⟩)).u0 31 _ (by omega)).u0 30 _ (by omega)
      have hlm10 : lm z R10 (k + (j + j6 + 1 + j9 + 1)) → lm z R k := fun h => hlmB (lm_head (by omega) qm19 q30 (by omega) v13 (by omega) (fun h => by omega) (fun _ h _ => by omega) (fun _ _ => on_16 (d := z.2.2.2.2.1 + 5) (by omega) v13 v14 (by omega) v16 (by omega) q30 c31 (by rw [← hR10, show k + (j + j6 + 1 + j9) + 1 = k + (j + j6 + 1 + j9 + 1) by omega]; exact h)))
      have K10 : ∀ j, j < 3 → ∀ i, ¬ (j = 1 ∧ i = e6) → cd C10 j i = cd C9 j i := fun j hj i hne => by
        rw [hC10]
        show ai_up C9 28 e6 (nI e9) (27 + j) i = _
        rw [ai_up_n (by omega)]
        rfl
      have K9 : ∀ j, j < 3 → ∀ i, i < e6 + 1 → cd C9 j i = cd C8 j i := fun j hj i hi => c12.2.2.1 (27 + j) (by omega) (by omega) i hi
      have K106 : ∀ j, j < 3 → ∀ i, i < e6 → ¬ (j = 1 ∧ i = e2) → cd C10 j i = cd C6 j i := fun j hj i hi hne => by rw [K10 j hj i (by omega), K9 j hj i (by omega), K8 j hj i hi hne]
      have R98 : ∀ q, 2 ≤ q → q ≤ 8 → ∀ i, i ≤ 350 * hf + nn6 → R9 q i = R8 q i := fun q h1 h2 i hi => c11.2.2.2.1 q h1 h2 i (Or.inl hi)
      have R106 : ∀ q, 2 ≤ q → q ≤ 8 → ∀ i, i ≤ 350 * hf + nn6 → ¬ (q = 4 ∧ i = x) → ¬ (q = 4 ∧ i = y) → R10 q i = R6 q i := fun q h1 h2 i hi h3 h4 => by rw [t1 q i (by omega) (by omega) h4, R98 q h1 h2 i hi, f1 q i (by omega) (by omega) h3]
      have A109 : ∀ q, 9 ≤ q → q ≤ 11 → ∀ i, R10 q i = R9 q i := fun q h1 h2 i => t1 q i (by omega) (by omega) (by omega)
      have A106 : ∀ q, 9 ≤ q → q ≤ 11 → ∀ i, i < 16 * hf + pr6 → R10 q i = R6 q i := fun q h1 h2 i hi => by rw [A109 q h1 h2, c11.2.2.2.2.1 q h1 h2 i (Or.inl hi), f1 q i (by omega) (by omega) (by omega)]
      have SC96 : ∀ q, q < pr → SC9 q = SC q := fun q hq => (c17 q (by omega)).trans (b17 q hq)
      refine ⟨R10, j + j6 + 1 + j9 + 1, hlm10, Or.inl ⟨rfl, 350 * hf + nn + 1, p9, p9', e9, nn9, ns9, pr9, vr9, SC9, ?_, t4, ⟨by omega, by omega⟩, ?_, by omega, by omega, by omega, by omega, by omega, by omega, (((a3.tr b11 (by omega) (Nat.le_refl _) (Nat.le_refl _)).tr (mR8.ms (Nat.le_refl _) (Nat.le_refl _)) (Nat.le_refl _) (Nat.le_refl _) (Nat.le_refl _)).tr c11 (by omega) (Nat.le_refl _) (by omega)).tr (mR10.ms (Nat.le_refl _) (Nat.le_refl _)) (Nat.le_refl _) (Nat.le_refl _) (Nat.le_refl _), (((a4.tr b12 (by omega) (Nat.le_refl _)).tr hcE8.cs (by omega) (Nat.le_refl _)).tr c12 (by omega) (by omega)).tr hcE10.cs (by omega) (Nat.le_refl _), by omega, by omega, by omega, c16, SC96, fun hN => ?_⟩⟩
      · refine pv_ofc hpv9 hsc hcE10 mR10 ?_ qpn ?_ (by rw [t2 2 (by omega) (by omega)]; exact qm2) qmpn (by rw [t2 15 (by omega) (by omega)]; exact qm15) ?_ (by rw [t2 19 (by omega) (by omega)]; exact qm19) qsk ?_ ?_ (Nat.le_refl _) qnn
        · rw [hC10, ai_up_n (by omega)]; exact qp
        · rw [hC10, ai_up_n (by omega)]; exact qC3
        · exact ⟨t5, mf_l_keep stk (fun q h1 h2 i hi => t1 q i (by omega) (by omega) (by omega)) qml⟩
        · rw [t2 24 (by omega) (by omega), hC10, ai_up_n (by omega)]; exact q9
        · rw [t2 20 (by omega) (by omega), hC10, ai_up_n (by omega)]; exact qnh
      · rw [R106 4 (by omega) (by omega) _ (by omega) (by omega) (by omega), R65 4 (by omega) (by omega) _ (by omega)]; exact a7
      · have hN9 : C9 2 5 = 1 := by rw [hC10, ai_up_n (by omega)] at hN; exact hN
        obtain ⟨n8, kS9, kP9⟩ := c18 hN9
        have hN6 : C6 2 5 = 1 := by rw [hC8, ai_up_n (by omega)] at n8; simpa [cadd, ai_up_eq] using n8
        obtain ⟨n5, kS, kP⟩ := b18 hN6
        obtain ⟨n1, k1, kE, k4⟩ := a18 n5
        have lE := cx_E_lt kE
        have lS := cx_S_lt kS
        have lS9 := cx_S_lt kS9
        refine ⟨n1, ⟨⟨by omega, by omega⟩, by omega, Or.inr (Or.inr (Or.inr (Or.inl ⟨?_, ?_, x, y, w, e2, e6, ?_, ?_, ?_, ?_, ?_, ?_, ?_, ?_, ?_, ?_⟩)))⟩, ?_⟩
        · rw [R106 2 (by omega) (by omega) _ (by omega) (by omega) (by omega), R65 2 (by omega) (by omega) _ (by omega)]; exact a5
        · rw [K106 0 (by omega) e (by omega) (by omega), K5 0 (by omega) e (by omega)]; exact k1
        · rw [R106 3 (by omega) (by omega) _ (by omega) (by omega) (by omega), R65 3 (by omega) (by omega) _ (by omega)]; exact a6
        · refine cx_E_lift kE (fun j hj i h1 h2 => ?_) (ag_of (nn := nn) (pr := pr) (fun x hx => ⟨hsc x hx, hw1 x hx⟩) (fun i hi => ?_) (fun q hq i hi => ?_) SC96 hw2) (fun q h1 h2 i h3 h4 h5 => ?_) (Nat.le_refl _) (fun i hi => ⟨⟨by have := hi.1; omega, by have := hi.2; omega⟩, by have := hi.1; omega⟩)
          · rw [K106 j hj i (by omega) (by omega), K5 j hj i (by omega)]
          · rw [R106 5 (by omega) (by omega) _ (by omega) (by omega) (by omega), R65 5 (by omega) (by omega) _ (by omega)]
          · rw [A106 q (by omega) (by omega) i (by omega), b11.2.2.2.2.1 q (by omega) (by omega) i (Or.inl hi)]
          · rw [R106 q (by omega) (by omega) _ (by omega) (by omega) (by omega), R65 q (by omega) (by omega) _ (by omega)]
        · rw [K106 0 (by omega) e2 (by omega) (by omega), K5 0 (by omega) e2 (by omega)]; exact k4
        · rw [K10 1 (by omega) e2 (by omega), K9 1 (by omega) e2 (by omega), hC8]
          show ai_up (cadd C6 e6 3 0 0) 28 e2 (nI (e6 + 1)) 28 e2 = _
          exact ai_up_s
        · rw [t1 4 x (by omega) (by omega) (by omega), R98 4 (by omega) (by omega) x (by omega)]; exact f3
        · refine cx_S_lift kS (fun j hj i h1 h2 => K106 j hj i h2 (by omega)) (ag_of (nn := nn) (pr := pr6) (fun x hx => ⟨hsc x hx, gw1 x hx⟩) (fun i hi => ?_) (fun q hq i hi => A106 q (by omega) (by omega) i hi) c17 gw2) ?_ (fun q h1 h2 i h3 h4 h5 => R106 q h1 h2 i h4 (by omega) (by omega)) (Nat.le_refl _) (fun i hi => ⟨⟨by have := hi.1; omega, by have := hi.2; omega⟩, by have := hi.1; omega⟩)
          · rw [R106 5 (by omega) (by omega) i (by omega) (by omega) (by omega)]
          · cases sc with
            | nil => trivial
            | cons x0 tl => exact fun h0 => R106 5 (by omega) (by omega) _ (by have := hsc x0 List.mem_cons_self h0; omega) (by omega) (by omega)
        · rw [K10 0 (by omega) e6 (by omega), K9 0 (by omega) e6 (by omega), hC8]
          show ai_up (cadd C6 e6 3 0 0) 28 e2 (nI (e6 + 1)) 27 e6 = _
          rw [ai_up_n (by omega)]; exact cd_cadd0
        · rw [hC10]
          show ai_up C9 28 e6 (nI e9) 28 e6 = _
          exact ai_up_s
        · exact t3
        · exact cx_S_lift kS9 (fun j hj i h1 h2 => K10 j hj i (by omega)) (mR10.ag hsc) (sc_hd_of (fun i => t1 5 i (by omega) (by omega) (by omega)) _) (fun q h1 h2 i h3 h4 h5 => t1 q i (by omega) (by omega) (by omega)) (Nat.le_refl _) (fun i hi => ⟨⟨by have := hi.1; omega, hi.2⟩, by have := hi.1; omega⟩)
        · intro q h1 h2
          by_cases hq6 : q < pr6
          · refine pf_lift (pr := pr) (pr1 := pr6) kP (by omega) (fun j hj i h1 h2 => K106 j hj i h2 (by omega)) (fun j h1 h2 q _ h3 => ?_) (fun j h1 h2 q _ h3 => A106 j h1 h2 _ (by omega)) (fun q h1 h2 => ag_of (nn := nn6) (pr := pr6) ?_ (fun i hi => R106 5 (by omega) (by omega) i hi (by omega) (by omega)) (fun q hq i hi => A106 q (by omega) (by omega) i hi) c17 gw2) (fun q _ h2 => c17 q h2) (fun q h1 h2 i h3 h4 => R106 q h1 h2 i h3.2 (by have := h3.1; omega) (by omega)) (fun i hi _ => ⟨⟨by have := hi.1; omega, by have := hi.2; omega⟩, by have := hi.1; omega⟩) (by omega) (by omega) q h1 hq6
            · rw [hcE10.1 j (by omega) (by omega), c12.2.2.2 j h1 h2 q h3, hcE8.1 j (by omega) (by omega)]
            · intro x' hx'
              rcases List.mem_cons.mp hx' with rfl | hx'
              · exact ⟨fun h => absurd h (by simp), fun _ => by simp; omega⟩
              · exact (b16 q h2).1 x' hx'
          · refine pf_lift (pr := pr6) (pr1 := pr9) kP9 (by omega) (fun j hj i h1 h2 => K10 j hj i (by omega)) (fun j h1 h2 q _ h3 => ?_) (fun j h1 h2 q _ h3 => A109 j h1 h2 _) (fun q h1 h2 => ag_of (nn := nn9) (pr := pr9) ?_ (fun i hi => t1 5 i (by omega) (by omega) (by omega)) (fun q hq i hi => A109 q (by omega) (by omega) i) (fun _ _ => rfl) qw2) (fun q _ h2 => rfl) (fun q h1 h2 i h3 h4 => t1 q i (by omega) (by omega) (by have := h3.1; omega)) (fun i hi _ => ⟨⟨by have := hi.1; omega, by have := hi.2; omega⟩, by have := hi.1; omega⟩) (by omega) (by omega) q (by omega) h2
            · rw [hcE10.1 j (by omega) (by omega)]
            · intro x' hx'
              rcases List.mem_cons.mp hx' with rfl | hx'
              · exact ⟨fun h => absurd h (by simp), fun _ => by simp; omega⟩
              · exact (c16 q h2).1 x' hx'
    · exact ai_zf ⟨R9, j + j6 + 1 + j9, hlmB, Or.inr ⟨hwr, rfl⟩⟩
  · exact ai_zf ⟨R6, j + j6, hlmA, Or.inr ⟨hwr, rfl⟩⟩
end SCI
