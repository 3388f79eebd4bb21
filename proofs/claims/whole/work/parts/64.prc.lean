/-! ===== a procedure's beginning: its name is declared, its level opened ===== -/
def prC (C : ai_S) (m e pr p3 : Nat) (c : Int32) (bad : Bool) : ai_S :=
  let Z := decC (ai_up (ai_up (ai_up (cadd (ai_up C 2 2 (nI p3)) e 3 0 0) 30 pr (nI (e + 1))) 31 pr 0) 26 6 (nI (pr + 1))) m c 2 (nI pr)
  if bad = true then ai_up Z 2 5 0 else Z
section PRC
variable {C R : ai_S} {tx : Nat → Int32} {n hf : Nat} {sc : sc_T} {SC : Nat → sc_T} {m ns pr vr p p' e nn p3 mk bs nd : Nat} {stk : List mf_T} {c : Int32} {bad : Bool}
theorem prC_o {q j : Nat} (h0 : ¬ (q = 2 ∧ (j = 2 ∨ j = 5))) (h1 : ¬ (q = 3 ∧ j = 4)) (h2 : ¬ (4 ≤ q ∧ q ≤ 7 ∧ j = m)) (h3 : ¬ (30 ≤ q ∧ q ≤ 31 ∧ j = pr)) (h4 : ¬ (q = 26 ∧ (j = 3 ∨ j = 6))) (h5 : ¬ (27 ≤ q ∧ q ≤ 29 ∧ j = e)) : prC C m e pr p3 c bad q j = C q j := by
  unfold prC cadd decC
  cases bad <;> simp only [if_true, if_false, Bool.false_eq_true]
  · rw [ai_up_n (by omega), ai_up_n (by omega), ai_up_n (by omega), ai_up_n (by omega), ai_up_n (by omega), ai_up_n (by omega), ai_up_n (by omega), ai_up_n (by omega), ai_up_n (by omega), ai_up_n (by omega), ai_up_n (by omega), ai_up_n (by omega), ai_up_n (by omega)]
  · rw [ai_up_n (by omega), ai_up_n (by omega), ai_up_n (by omega), ai_up_n (by omega), ai_up_n (by omega), ai_up_n (by omega), ai_up_n (by omega), ai_up_n (by omega), ai_up_n (by omega), ai_up_n (by omega), ai_up_n (by omega), ai_up_n (by omega), ai_up_n (by omega), ai_up_n (by omega)]
theorem prC_v : prC C m e pr p3 c bad 2 2 = nI p3 ∧ prC C m e pr p3 c bad 3 4 = nI (m + 1) ∧ prC C m e pr p3 c bad 4 m = c ∧ prC C m e pr p3 c bad 5 m = 2 ∧ prC C m e pr p3 c bad 6 m = C 3 5 ∧ prC C m e pr p3 c bad 7 m = nI pr ∧ prC C m e pr p3 c bad 30 pr = nI (e + 1) ∧ prC C m e pr p3 c bad 31 pr = 0 ∧ prC C m e pr p3 c bad 26 3 = nI (e + 1) ∧ prC C m e pr p3 c bad 26 6 = nI (pr + 1) ∧ prC C m e pr p3 c bad 27 e = 3 ∧ (bad = true → prC C m e pr p3 c bad 2 5 = 0) ∧ (bad = false → prC C m e pr p3 c bad 2 5 = C 2 5) := by
  unfold prC cadd decC
  cases bad <;> simp [ai_up_eq]
/-- the state at the formals -/
def prC5 (C : ai_S) (m e pr p3 lv : Nat) (c : Int32) (bad : Bool) : ai_S := ai_up (ai_up (ai_up (prC C m e pr p3 c bad) 3 5 (nI (lv + 1))) 8 (lv + 1) (nI pr)) 3 7 7
theorem prC5_o {lv q j : Nat} (h0 : ¬ (q = 2 ∧ (j = 2 ∨ j = 5))) (h1 : ¬ (q = 3 ∧ (j = 4 ∨ j = 5 ∨ j = 7))) (h2 : ¬ (4 ≤ q ∧ q ≤ 7 ∧ j = m)) (h3 : ¬ (30 ≤ q ∧ q ≤ 31 ∧ j = pr)) (h4 : ¬ (q = 26 ∧ (j = 3 ∨ j = 6))) (h5 : ¬ (27 ≤ q ∧ q ≤ 29 ∧ j = e)) (h6 : ¬ (q = 8 ∧ j = lv + 1)) : prC5 C m e pr p3 lv c bad q j = C q j := by
  unfold prC5
  rw [ai_up_n (by omega), ai_up_n (by omega), ai_up_n (by omega), prC_o h0 (by omega) h2 h3 h4 h5]
theorem prC5_4 {lv q j : Nat} (h1 : ¬ (q = 3 ∧ (j = 5 ∨ j = 7))) (h6 : ¬ q = 8) : prC5 C m e pr p3 lv c bad q j = prC C m e pr p3 c bad q j := by
  unfold prC5
  rw [ai_up_n (by omega), ai_up_n (by omega), ai_up_n (by omega)]
set_option maxHeartbeats 4000000 in
theorem pr_pv (hpv : pv C R tx n hf ((0, bs, nd) :: sc) SC m ns pr vr p p' e nn stk) (hpr : pr < 16) (hlen : sc.length + 2 ≤ 20) (hcl : sc_cl sc + 1 ≤ 10) (hp3 : p3 ≤ n) {q : Nat} :
    pv (prC5 C m e pr p3 (sc_cl sc) c bad) (hdR (ai_up R 0 2 (nI q)) m (16 * hf + pr) p3 pr (sc.length + 1) c bad) tx n hf ((pr + 1, 0, 0) :: (0, bs, nd) :: sc) (fun j => if j = pr then (0, bs, nd) :: sc else SC j) (m + 1) 7 (pr + 1) vr p3 p3 (e + 1) nn stk := by
  obtain ⟨hT, hp, hpn, hC3, ⟨hmT, m2, mpn, m14, mhf, m15, hmf, m19⟩, hsk, h8, h9, hnh, hsp, hsc, hnn3⟩ := hpv
  obtain ⟨s1, s2, s3, s4, s5, s6, s7, s8, s9, s10, s11, s12, s13, s14, s15, s15a, s15b, s16, s17, s18⟩ := id hsp
  obtain ⟨v1, v2, v3, v4, v5, v6, v7, v8, v9, v10, v11, v12, v13⟩ := prC_v (C := C) (m := m) (e := e) (pr := pr) (p3 := p3) (c := c) (bad := bad)
  obtain ⟨R4, hR4⟩ : ∃ R4, R4 = hdR (ai_up R 0 2 (nI q)) m (16 * hf + pr) p3 pr (sc.length + 1) c bad := ⟨_, rfl⟩
  obtain ⟨u1, u2, u3, u4, u5, u6, u7, u8, u9, u10, u11, u12⟩ := hdR_v (R := ai_up R 0 2 (nI q)) (m := m) (pq := 16 * hf + pr) (p3 := p3) (pr := pr) (lv := sc.length + 1) (c := c) (bad := bad)
  rw [← hR4] at u1 u2 u3 u4 u5 u6 u7 u8 u9 u10 u11 u12 ⊢
  rw [ai_up_n (by omega)] at u8 u12
  have ro : ∀ q' j, ¬ (q' = 0 ∧ (j = 2 ∨ j = 20 ∨ j = 21 ∨ j = 36 ∨ j = 37)) → ¬ ((q' = 10 ∨ q' = 11) ∧ j = 16 * hf + pr) → ¬ (18 ≤ q' ∧ q' ≤ 21 ∧ j = m) → R4 q' j = R q' j := fun q' j a b c' => by rw [hR4, hdR_o a b c', ai_up_n (by omega)]
  have s3' : C 3 5 = nI (sc_cl sc) := by rw [s3]; simp [sc_cl]
  have s4' : R 0 37 = nI (sc.length + 1) := by simpa using s4
  obtain ⟨C4, hC4⟩ : ∃ C4, C4 = prC C m e pr p3 c bad := ⟨_, rfl⟩
  rw [← hC4] at v1 v2 v3 v4 v5 v6 v7 v8 v9 v10 v11 v12 v13
  have c4 : ∀ {q j : Nat}, ¬ (q = 2 ∧ (j = 2 ∨ j = 5)) → ¬ (q = 3 ∧ j = 4) → ¬ (4 ≤ q ∧ q ≤ 7 ∧ j = m) → ¬ (30 ≤ q ∧ q ≤ 31 ∧ j = pr) → ¬ (q = 26 ∧ (j = 3 ∨ j = 6)) → ¬ (27 ≤ q ∧ q ≤ 29 ∧ j = e) → C4 q j = C q j := fun a b c' d e' f => by rw [hC4]; exact prC_o a b c' d e' f
  obtain ⟨C5, hC5⟩ : ∃ C5, C5 = prC5 C m e pr p3 (sc_cl sc) c bad := ⟨_, rfl⟩
  rw [← hC5]
  have c54 : ∀ {q j : Nat}, ¬ (q = 3 ∧ (j = 5 ∨ j = 7)) → ¬ q = 8 → C5 q j = C4 q j := fun a b => by rw [hC5, hC4]; exact prC5_4 a b
  have c5 : ∀ {q j : Nat}, ¬ (q = 2 ∧ (j = 2 ∨ j = 5)) → ¬ (q = 3 ∧ (j = 4 ∨ j = 5 ∨ j = 7)) → ¬ (4 ≤ q ∧ q ≤ 7 ∧ j = m) → ¬ (30 ≤ q ∧ q ≤ 31 ∧ j = pr) → ¬ (q = 26 ∧ (j = 3 ∨ j = 6)) → ¬ (27 ≤ q ∧ q ≤ 29 ∧ j = e) → ¬ (q = 8 ∧ j = sc_cl sc + 1) → C5 q j = C q j := fun a b c' d e' f g => by rw [hC5]; exact prC5_o a b c' d e' f g
  have c8 : C5 8 (sc_cl sc + 1) = nI pr := by rw [hC5]; unfold prC5; rw [ai_up_n (by omega), ai_up_s]
  have c35 : C5 3 5 = nI (sc_cl sc + 1) := by rw [hC5]; unfold prC5; rw [ai_up_n (by omega), ai_up_n (by omega), ai_up_s]
  have c37 : C5 3 7 = nI 7 := by rw [hC5]; unfold prC5; rw [ai_up_s]; rfl
  obtain ⟨R3, hR3⟩ : ∃ R3, R3 = ai_up R4 0 37 (nI (sc.length + 1)) := ⟨_, rfl⟩
  have r3 : ∀ q' j, ¬ (q' = 0 ∧ j = 37) → R3 q' j = R4 q' j := fun q' j a => by rw [hR3, ai_up_n (by omega)]
  have hscl : sc_cl ((0, bs, nd) :: sc) = sc_cl sc := by simp [sc_cl]
  have hw1 : ∀ x ∈ ((0, bs, nd) :: sc : sc_T), x.1 ≠ 0 → x.1 ≤ pr := (sp_w hsp).1
  have sp1 : sp C4 R3 hf ((0, bs, nd) :: sc) (fun j => if j = pr then (0, bs, nd) :: sc else SC j) (m + 1) ns (pr + 1) vr := by
    refine sp_decl (x0 := (0, bs, nd)) hsp (fun o x kd sl sw pl hx h => ?_) rfl ?_ (by rw [v3, r3 _ _ (by omega), u5]) v5 (by rw [r3 _ _ (by omega)]; exact u8) (fun q' a b i hi => c4 (by omega) (by omega) (by omega) (by omega) (by omega) (by omega)) (fun i => c4 (by omega) (by omega) (by omega) (by omega) (by omega) (by omega)) (fun q' a b i hi => by rw [r3 _ _ (by omega)]; exact ro _ _ (by omega) (by omega) (by omega)) v2 (c4 (by omega) (by omega) (by omega) (by omega) (by omega) (by omega)) (by rw [c4 (by omega) (by omega) (by omega) (by omega) (by omega) (by omega)]; exact s5) v10 (by rw [c4 (by omega) (by omega) (by omega) (by omega) (by omega) (by omega)]; exact s8) (by rw [r3 _ _ (by omega)]; exact u3) (by rw [hR3, ai_up_s, s4']) (by rw [r3 _ _ (by omega)]; exact u2) (by rw [r3 _ _ (by omega), ro _ _ (by omega) (by omega) (by omega)]; exact s9) (by omega) s11 (by omega) s13 s14 ?_ (fun o x hx h0 hle => ⟨by omega, if_neg (by omega)⟩) (fun j hj => by rw [if_neg (by omega)]; exact s18 j (by omega))
    · refine sy_k_mono ⟨fun x hx => ⟨fun h0 cnt hcl hcn => ⟨cnt, by rw [r3 _ _ (by omega), ro _ _ (by omega) (by omega) (by omega)]; exact hcn, Nat.le_refl _, hcl⟩, fun h0 => ?_⟩, fun j hj => if_neg (fun hjp => hj (s18 j (by omega)))⟩ hx h
      have := hw1 x hx h0
      exact ⟨by rw [r3 _ _ (by omega)]; exact ro _ _ (by omega) (by omega) (by omega), by rw [r3 _ _ (by omega)]; exact ro _ _ (by omega) (by omega) (by omega)⟩
    · exact Or.inr (Or.inr ⟨rfl, v4, by rw [r3 _ _ (by omega)]; exact u6, pr, hpr, by rw [r3 _ _ (by omega)]; exact u7, v6, if_pos rfl⟩)
    · obtain ⟨cnt, g1, g2⟩ := sp_tpB.mp s15
      exact sp_tpB.mpr ⟨cnt, by rw [r3 _ _ (by omega), ro _ _ (by omega) (by omega) (by omega)]; exact g1, g2⟩
  have sp2 : sp C5 R4 hf ((pr + 1, 0, 0) :: (0, bs, nd) :: sc) (fun j => if j = pr then (0, bs, nd) :: sc else SC j) (m + 1) 7 (pr + 1) vr := by
    refine sp_push_sc sp1 (by simp; omega) (by simp only [sc_cl]; simp; omega) (c54 (by omega) (by omega)) (by rw [c35]; simp only [sc_cl]; simp [Nat.add_comm]) c37 (c54 (by omega) (by omega)) (c54 (by omega) (by omega)) (r3 _ _ (by omega)).symm (by rw [u4]; simp) (r3 _ _ (by omega)).symm (r3 _ _ (by omega)).symm (fun q' a b => by funext i; exact c54 (by omega) (by omega)) (fun i hi => ?_) (fun x _ _ => (r3 _ _ (by omega)).symm) (fun x _ _ => ⟨(r3 _ _ (by omega)).symm, (r3 _ _ (by omega)).symm⟩) (fun q' a b => by funext i; exact (r3 _ _ (by omega)).symm) (by omega) (by omega) (by simp [sc_tp]) (fun _ => ⟨?_, by simp, rfl, by simp⟩)
    · rw [hscl] at hi
      rw [c5 (by omega) (by omega) (by omega) (by omega) (by omega) (by omega) (by omega), c4 (by omega) (by omega) (by omega) (by omega) (by omega) (by omega)]
    · rw [show sc_cl ((pr + 1, 0, 0) :: (0, bs, nd) :: sc) = sc_cl sc + 1 by simp [sc_cl, Nat.add_comm], c8]; rfl
  refine ⟨⟨by rw [c5 (by omega) (by omega) (by omega) (by omega) (by omega) (by omega) (by omega)]; exact hT.1, hT.2.1, fun j hj => by rw [c5 (by omega) (by omega) (by omega) (by omega) (by omega) (by omega) (by omega)]; exact hT.2.2 j hj⟩, by rw [c54 (by omega) (by omega)]; exact v1, hp3, by rw [c54 (by omega) (by omega)]; exact v9, ⟨⟨by rw [ro _ _ (by omega) (by omega) (by omega)]; exact hmT.1, hmT.2.1, fun j hj => by rw [ro _ _ (by omega) (by omega) (by omega)]; exact hmT.2.2 j hj⟩, u1, hp3, by rw [ro _ _ (by omega) (by omega) (by omega)]; exact m14, ⟨mhf.1, mhf.2.fr (fun q' i a b c' d' => ro q' i (by omega) (by omega) (by omega))⟩, by rw [ro _ _ (by omega) (by omega) (by omega)]; exact m15, ⟨by rw [ro _ _ (by omega) (by omega) (by omega)]; exact hmf.1, mf_l_keep _ (fun q' h1 h2 j hj => ro _ _ (by omega) (by omega) (by omega)) hmf.2⟩, by rw [ro _ _ (by omega) (by omega) (by omega)]; exact m19⟩, rfl, ?_, ?_, ?_, sp2, ?_, hnn3⟩
  · rw [c5 (by omega) (by omega) (by omega) (by omega) (by omega) (by omega) (by omega), ro _ _ (by omega) (by omega) (by omega)]; exact h8
  · rw [c5 (by omega) (by omega) (by omega) (by omega) (by omega) (by omega) (by omega), ro _ _ (by omega) (by omega) (by omega)]; exact h9
  · rw [c54 (by omega) (by omega)]
    cases hb : bad with
    | true => exact Or.inr ⟨v12 hb, u11 hb⟩
    | false => rw [v13 hb, u12 hb]; exact hnh
  · intro x hx h0
    rcases List.mem_cons.mp hx with rfl | hx
    · exact absurd h0 (by simp)
    · exact hsc x hx h0
end PRC
