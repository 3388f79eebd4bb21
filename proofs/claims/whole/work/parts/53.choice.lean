/-! ===== choices and loops, simulated ===== -/
theorem sp_w {C R : ai_S} {hf : Nat} {sc : sc_T} {SC : Nat → sc_T} {m ns pr vr : Nat} (h : sp C R hf sc SC m ns pr vr) : (∀ x ∈ sc, x.1 ≠ 0 → x.1 ≤ pr) ∧ ∀ q, pr ≤ q → SC q = [] := by
  obtain ⟨h1, h2, h3, h4, h5, h6, h7, h8, h9, h10, h11, h12, h13, h14, h15, h15a, h15b, h16, h17, h18⟩ := h
  refine ⟨fun x hx h0 => ?_, h18⟩
  obtain ⟨o, ho⟩ := List.mem_iff_getElem?.mp hx
  exact (h17 o x ho h0).2.1
theorem sc_hd_of {R R' : ai_S} (h5 : ∀ i, R' 5 i = R 5 i) : ∀ sc : sc_T, sc_hd R R' sc
  | [] => trivial
  | _ :: _ => fun _ => h5 _
theorem pv_ofc {C C' R R' : ai_S} {e e0 e1 b t hf nn nn1 n m ns pr vr p p' p1 p1' : Nat} {tx : Nat → Int32} {sc : sc_T} {SC : Nat → sc_T} {stk stk1 : List mf_T} (h : pv C R tx n hf sc SC m ns pr vr p p' e nn stk) (hgb : ∀ x ∈ sc, x.1 = 0 → x.2.2 ≤ b) (hc : cE C C' e0) (hm : mE R R' b t) (hp : C' 2 2 = nI p1) (hpn : p1 ≤ n) (he : C' 26 3 = nI e1) (h2 : R' 0 2 = nI p1') (hp2 : p1' ≤ n) (h15 : R' 0 15 = nI (350 * hf + nn1)) (hs : mf R' stk1) (hw : R' 0 19 = 0) (hsk : px_s tx n p1 = px_s tx n p1') (h9 : C' 26 9 = R' 0 24) (hb : C' 2 5 = 1 ∧ R' 0 20 = 0 ∨ C' 2 5 = 0 ∧ R' 0 20 = 1) (hn1 : nn ≤ nn1) (hn2 : nn1 ≤ 330) (hbt : 350 * hf ≤ b ∧ t ≤ 350 * hf + 350 := by omega) : pv C' R' tx n hf sc SC m ns pr vr p1 p1' e1 nn1 stk1 := by
  obtain ⟨a1, a2, a3, a4, a5, a6, a7, a8, a9, a10, a11, a12⟩ := h
  refine ⟨ct_of a1 hc, hp, hpn, he, mq_of a5 hm h2 hp2 h15 hs hw hbt, hsk, ?_, h9, hb, sp_keep a10 hc hm hgb, fun x hx h0 => ?_, hn2⟩
  · rw [hc.2.2.1 8 (by omega) (by omega), hm.2.2.1 23 (by omega) (by omega) (by omega) (by omega) (by omega) (by omega) (by omega)]; exact a7
  · have := a11 x hx h0
    omega
section SCH
variable {l : Launch} {D : va_G} {ρ : Nat → Nat} {τ : Nat → ClassId} {z : lm_T} {V : ai_V} {tx : Nat → Int32} {n hf : Nat} {sc : sc_T} {SC : Nat → sc_T} {m ns pr vr d dp F : Nat} {C R : ai_S} {p p' e nn k K : Nat} {stk : List mf_T}
/-- behind the body of a loop -/
theorem hook_facts {R R8 : ai_S} {f nd ls x : Nat} (h : R8 = ai_up (ai_up (hook R f nd ls x) 0 31 (nI nd)) 0 30 (nI f)) (hls : ls ≠ 0) : (∀ q i, ¬ q = 0 → ¬ (q = 16 ∧ i = f) → ¬ (q = 4 ∧ i = ls) → R8 q i = R q i) ∧ (∀ j, j ≠ 30 → j ≠ 31 → R8 0 j = R 0 j) ∧ R8 4 ls = nI x ∧ R8 0 31 = nI nd ∧ R8 0 30 = nI f := by
  refine ⟨fun q i h0 h1 h2 => ?_, fun j h1 h2 => ?_, ?_, ?_, ?_⟩
  · rw [h, ai_up_n (by omega), ai_up_n (by omega), hook_o h1 (by omega) (by omega)]
  · rw [h, ai_up_n (by omega), ai_up_n (by omega), hook_o (by omega) (by omega) (by omega)]
  · rw [h, ai_up_n (by omega), ai_up_n (by omega), hook_4 hls]
  · rw [h, ai_up_n (by omega), ai_up_s]
  · rw [h, ai_up_s]
set_option maxHeartbeats 8000000 in
theorem sim_lop (hV0 : hV ρ V tx n) (hV3 : V 2 3 = .ref 26) (hdp : dp ≤ 10) (hE : sF l D ρ τ z V tx n hf sc SC m ns pr vr (d + 1) (dp + 1) F 0 0 mX3_expression 30) (hF : F ≤ 50) (hS : sS l D ρ τ z V tx n hf (d + 1) (dp + 1) K) (hpv : pv C R tx n hf sc SC m ns pr vr p p' e nn ((10, 0, dp, 0, 0) :: stk)) (hscw : scw SC pr hf nn) (hsl : sc.length + 2 ≤ 2 * dp) (hcl : sc_cl sc + 1 ≤ dp ∧ slo hf sc) (hst : stk.length + 1 ≤ dp) (he : 2 * e ≤ 3 * p) (hnn : nn ≤ p) (hk : k + 12 * (n - p) + 50 ≤ 100000) (hc : px_c tx n 0 (px_s tx n p) = 42) :
    ai_met (uC l D ρ τ) (d + 2) mX3_loop [.ref 2, .int (nI dp)] (oC C dp (px_s tx n p + 1)) V (ai_qz V (pS z C R tx n hf sc SC m ns pr vr p e nn stk (K + 1) k)) := by
  obtain ⟨hT, hp, hpn, hC3, hmq, hsk, h8, h9, hnh, hsp, hsc, hnn3⟩ := id hpv
  have hn320 : n ≤ 320 := hT.2.1
  obtain ⟨hw1, hw2⟩ := sp_w hsp
  refine vX3_loop hV3 (sp_cadd (e := e) (by rw [oC_o (by omega) (by omega)]; exact hC3) (by omega) ?_)
  rw [nI_1 dp, show cadd (oC C dp (px_s tx n p + 1)) e 1 0 0 26 3 = nI (e + 1) by simp [cadd, ai_up_eq]]
  refine st_14 (t := 5) (cc := 16) hV0 hdp hE hF hpv hst he hnn hk hc (Or.inr ⟨rfl, rfl, rfl⟩) ?_
  rintro C5 R5 p5 e2 nn2 x j ⟨a1, ⟨p5', a2⟩, a3, a4, a5, a6, a7, a8, a9, a10, a11, a12, a13, a14, a15, a16, a17, a18⟩
  have hx1 := a9.1
  have hx2 := a9.2
  refine (hS sc SC m ns pr vr C5 R5 p5 p5' (e2 + 1) nn2 _ (k + j) a2 (hscw.le (by omega)) (by omega) ⟨by omega, hcl.2⟩ (by simp; omega) (by omega) (by omega) (by omega)).mb (fun b C6 hS6 => ?_)
  obtain ⟨R6, j6, hlm6, hS6⟩ := hS6
  have hlmA : lm z R6 (k + (j + j6)) → lm z R k := fun h => a1 (hlm6 (by rw [Nat.add_assoc]; exact h))
  rcases hS6 with ⟨rfl, y, p6, p6', e6, nn6, ns6, pr6, vr6, SC6, hpv6, b31, by0, b4, b5, b6, b7, b8, b9, b10, b11, b12, b13, b14, b15, b16, b17, b18⟩ | ⟨hwr, rfl⟩
  · refine ai_zt ?_
    have hy1 := by0.1
    have hy2 := by0.2
    obtain ⟨gT, gp, gpn, gC3, gmq, gsk, g8, g9, gnh, gsp, gsc, gnn⟩ := id hpv6
    obtain ⟨gmT, gm2, gmpn, gm14, gmhf, gm15, gmf, gm19⟩ := id gmq
    obtain ⟨⟨s13, s14, s15, s16, s17⟩, gml, g30⟩ := mf_top gmf
    dsimp only at s13 s14 s15 s16 s17
    obtain ⟨-, gw2⟩ := sp_w gsp
    refine sp_cadd (e := e6) gC3 (by omega) ?_
    rw [show cadd C6 e6 3 (nI (e + 1)) 0 26 3 = nI (e6 + 1) by simp [cadd, ai_up_eq]]
    refine sp_setF (e := e6 + 1) (by simp [cadd, ai_up_eq]) (by omega) (by omega) ?_
    obtain ⟨C8, hC8⟩ : ∃ C8, C8 = ai_up (cadd C6 e6 3 (nI (e + 1)) 0) 28 e2 (nI (e6 + 1)) := ⟨_, rfl⟩
    rw [← hC8]
    have hcE8 : cE C6 C8 e2 := by rw [hC8]; exact ((cE.rf (e := e2)).add (by omega) _ _ _).uK 28 e2 _ (by omega) (by omega) (Nat.le_refl _)
    obtain ⟨R8, hR8⟩ : ∃ R8, R8 = ai_up (ai_up (hook R6 stk.length (350 * hf + nn + 1) x y) 0 31 (nI (350 * hf + nn + 1))) 0 30 (nI stk.length) := ⟨_, rfl⟩
    obtain ⟨f1, f2, f3, f4, f5⟩ := hook_facts hR8 (by omega)
    have mR8 : mE R6 R8 (350 * hf + nn) (350 * hf + 350) := by rw [hR8]; exact ((mE.rf.hk (fun h => by omega) (fun _ => ⟨by omega, by omega⟩)).u0 31 _ (by omega)).u0 30 _ (by omega)
    have hlm8 : lm z R8 (k + (j + j6 + 1)) → lm z R k := fun h => hlmA (lm_head (by omega) gm19 g30 (by omega) s13 (by omega) (fun h => by omega) (fun _ h _ => by omega) (fun _ _ => on_16 (d := z.2.2.2.2.1 + 5) (by omega) s13 s14 (by omega) s16 (by omega) g30 b31 (by rw [← hR8, show k + (j + j6) + 1 = k + (j + j6 + 1) by omega]; exact h)))
    have K8 : ∀ j, j < 3 → ∀ i, i < e6 → ¬ (j = 1 ∧ i = e2) → cd C8 j i = cd C6 j i := fun j hj i hi hne => by
      rw [hC8]
      show ai_up (cadd C6 e6 3 (nI (e + 1)) 0) 28 e2 (nI (e6 + 1)) (27 + j) i = _
      rw [ai_up_n (by omega)]
      exact cd_cadd hj (by omega)
    have K5 : ∀ j, j < 3 → ∀ i, i < e2 + 1 → cd C6 j i = cd C5 j i := fun j hj i hi => b12.2.2.1 (27 + j) (by omega) (by omega) i hi
    have R65 : ∀ q, 2 ≤ q → q ≤ 8 → ∀ i, i ≤ 350 * hf + nn2 → R6 q i = R5 q i := fun q h1 h2 i hi => b11.2.2.2.1 q h1 h2 i (Or.inl hi)
    have R895 : ∀ q, 9 ≤ q → q ≤ 11 → ∀ i, R8 q i = R6 q i := fun q h1 h2 i => f1 q i (by omega) (by omega) (by omega)
    refine ⟨R8, j + j6 + 1, hlm8, Or.inl ⟨rfl, 350 * hf + nn + 1, p6, p6', e6 + 1, nn6, ns6, pr6, vr6, SC6, ?_, f4, ⟨by omega, by omega⟩, ?_, by omega, by omega, by omega, by omega, by omega, by omega, (a3.tr b11 (by omega) (Nat.le_refl _) (Nat.le_refl _)).tr (mR8.ms (Nat.le_refl _) (Nat.le_refl _)) (Nat.le_refl _) (Nat.le_refl _) (Nat.le_refl _), (a4.tr b12 (by omega) (Nat.le_refl _)).tr hcE8.cs (by omega) (Nat.le_refl _), b13, b14, b15, b16, b17, fun hN => ?_⟩⟩
    · refine pv_ofc hpv6 hsc hcE8 mR8 ?_ gpn ?_ (by rw [f2 2 (by omega) (by omega)]; exact gm2) gmpn (by rw [f2 15 (by omega) (by omega)]; exact gm15) ?_ (by rw [f2 19 (by omega) (by omega)]; exact gm19) gsk ?_ ?_ (Nat.le_refl _) gnn
      · rw [hC8, ai_up_n (by omega)]; simp [cadd, ai_up_eq]; exact gp
      · rw [hC8, ai_up_n (by omega)]; simp [cadd, ai_up_eq]
      · refine ⟨f5, mf_l_keep stk (fun q h1 h2 i hi => f1 q i (by omega) (by omega) (by omega)) gml⟩
      · rw [f2 24 (by omega) (by omega), hC8, ai_up_n (by omega)]; simp [cadd, ai_up_eq]; exact g9
      · rw [f2 20 (by omega) (by omega), hC8, ai_up_n (by omega)]; simp only [cadd, ai_up_eq]; simpa using gnh
    · rw [f1 4 _ (by omega) (by omega) (by omega), R65 4 (by omega) (by omega) _ (by omega)]; exact a7
    · have hN6 : C6 2 5 = 1 := by rw [hC8, ai_up_n (by omega)] at hN; simpa [cadd, ai_up_eq] using hN
      obtain ⟨n5, kS, kP⟩ := b18 hN6
      obtain ⟨n1, k1, kE, k4⟩ := a18 n5
      have lE := cx_E_lt kE
      have lS := cx_S_lt kS
      refine ⟨n1, ⟨⟨by omega, by omega⟩, by omega, Or.inr (Or.inr (Or.inr (Or.inr (Or.inl ⟨?_, ?_, x, y, e2, e6, ?_, ?_, ?_, ?_, ?_, ?_, ?_, ?_, rfl⟩))))⟩, ?_⟩
      · rw [f1 2 _ (by omega) (by omega) (by omega), R65 2 (by omega) (by omega) _ (by omega)]; exact a5
      · rw [K8 0 (by omega) e (by omega) (by omega), K5 0 (by omega) e (by omega)]; exact k1
      · rw [f1 3 _ (by omega) (by omega) (by omega), R65 3 (by omega) (by omega) _ (by omega)]; exact a6
      · refine cx_E_lift kE (fun j hj i h1 h2 => ?_) (ag_of (nn := nn) (pr := pr) (fun x hx => ⟨hsc x hx, hw1 x hx⟩) (fun i hi => ?_) (fun q hq i hi => ?_) b17 hw2) (fun q h1 h2 i h3 h4 h5 => ?_) (Nat.le_refl _) (fun i hi => ⟨⟨by have := hi.1; omega, by have := hi.2; omega⟩, by have := hi.1; omega⟩)
        · rw [K8 j hj i (by omega) (by omega), K5 j hj i (by omega)]
        · rw [f1 5 _ (by omega) (by omega) (by omega), R65 5 (by omega) (by omega) _ (by omega)]
        · rw [R895 q (by omega) (by omega), b11.2.2.2.2.1 q (by omega) (by omega) i (Or.inl hi)]
        · rw [f1 q _ (by omega) (by omega) (by omega), R65 q (by omega) (by omega) _ (by omega)]
      · rw [K8 0 (by omega) e2 (by omega) (by omega), K5 0 (by omega) e2 (by omega)]; exact k4
      · rw [hC8]
        show ai_up (cadd C6 e6 3 (nI (e + 1)) 0) 28 e2 (nI (e6 + 1)) 28 e2 = _
        exact ai_up_s
      · exact f3
      · exact cx_S_lift kS (fun j hj i h1 h2 => K8 j hj i h2 (by omega)) (mR8.ag hsc) (sc_hd_of (fun i => f1 5 i (by omega) (by omega) (by omega)) _) (fun q h1 h2 i h3 h4 h5 => f1 q i (by omega) (by omega) (by omega)) (Nat.le_refl _) (fun i hi => ⟨⟨by have := hi.1; omega, hi.2⟩, by have := hi.1; omega⟩)
      · rw [hC8]
        show ai_up (cadd C6 e6 3 (nI (e + 1)) 0) 28 e2 (nI (e6 + 1)) 27 e6 = _
        rw [ai_up_n (by omega)]; exact cd_cadd0
      · rw [hC8]
        show ai_up (cadd C6 e6 3 (nI (e + 1)) 0) 28 e2 (nI (e6 + 1)) 28 e6 = _
        rw [ai_up_n (by omega)]; exact cd_cadd1
      · refine pf_lift kP (by omega) (fun j hj i h1 h2 => K8 j hj i h2 (by omega)) (fun j h1 h2 q _ _ => by rw [hcE8.1 j (by omega) (by omega)]) (fun j h1 h2 q _ _ => R895 j h1 h2 _) (fun q h1 h2 => ag_of (nn := nn6) (pr := pr6) ?_ (fun i _ => f1 5 i (by omega) (by omega) (by omega)) (fun q hq i _ => R895 q (by omega) (by omega) i) (fun _ _ => rfl) gw2) (fun _ _ _ => rfl) (fun q h1 h2 i h3 h4 => f1 q i (by omega) (by omega) (by have := h3.1; omega)) (fun i hi _ => ⟨⟨by have := hi.1; omega, hi.2⟩, by have := hi.1; omega⟩) (by omega) (by omega)
        intro x' hx'
        rcases List.mem_cons.mp hx' with rfl | hx'
        · exact ⟨fun h => absurd h (by simp), fun _ => by simp; omega⟩
        · exact (b16 q h2).1 x' hx'
  · exact ai_zf ⟨R6, j + j6, hlmA, Or.inr ⟨hwr, rfl⟩⟩
end SCH
