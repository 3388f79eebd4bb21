/-! ===== one formal ===== -/
theorem fr_or : ∀ (w : Fin 64) (i : Fin 6), nI w.val ||| ((1 : Int32) <<< (nI i.val &&& 31)) = nI (w.val ||| 2 ^ i.val) := by decide +kernel
theorem fr_lt : ∀ (i : Fin 6) (w : Fin 64), w.val < 2 ^ i.val → w.val ||| 2 ^ i.val < 2 ^ (i.val + 1) := by decide +kernel
theorem fr_lt64 {i w : Nat} (hi : i ≤ 6) (hw : w < 2 ^ i) : w < 64 := Nat.lt_of_lt_of_le hw (Nat.pow_le_pow_right (by decide) hi : 2 ^ i ≤ 2 ^ 6)
theorem fr_tb {i w b : Nat} (hb : b < i) : (w ||| 2 ^ i).testBit b = w.testBit b := by
  rw [Nat.testBit_or, Nat.testBit_two_pow, decide_eq_false (by omega : ¬ i = b), Bool.or_false]
theorem fr_ti {i w : Nat} : (w ||| 2 ^ i).testBit i = true := by
  rw [Nat.testBit_or, Nat.testBit_two_pow, decide_eq_true rfl, Bool.or_true]
def frC (C : ai_S) (m pA pr0 i e : Nat) (c kd : Int32) (bad by_ : Bool) : ai_S :=
  let Z := ai_up (if bad = true then ai_up (decC (ai_up C 2 2 (nI pA)) m c kd (nI (i + 1))) 2 5 0 else decC (ai_up C 2 2 (nI pA)) m c kd (nI (i + 1))) 31 pr0 (nI (i + 1))
  if by_ = true then cadd (cadd Z e 12 (nI (i + 1)) 0) (e + 1) 16 (nI (i + 1)) 0 else Z
def frX (R : ai_S) (pA pq w' : Nat) (by_ : Bool) : ai_S := if by_ = true then ai_up (ai_up R 0 2 (nI pA)) 11 pq (nI w') else ai_up R 0 2 (nI pA)
def frR (R : ai_S) (m pA pq i w' : Nat) (c sw : Int32) (bad by_ : Bool) : ai_S :=
  ai_up (decR (if bad = true then ai_up (frX R pA pq w' by_) 0 20 1 else frX R pA pq w' by_) m c sw (nI (i + 1))) 10 pq (nI (i + 1))
section FRM
variable {C R : ai_S} {tx : Nat → Int32} {n hf : Nat} {sc1 : sc_T} {SC : Nat → sc_T} {m ns pr0 vr p p' e nn pA i w w' : Nat} {stk : List mf_T} {c kd sw : Int32} {bad by_ : Bool}
theorem frC_o {q j : Nat} (h0 : ¬ (q = 2 ∧ (j = 2 ∨ j = 5))) (h1 : ¬ (q = 3 ∧ j = 4)) (h2 : ¬ (4 ≤ q ∧ q ≤ 7 ∧ j = m)) (h3 : ¬ (q = 31 ∧ j = pr0)) (h4 : ¬ (q = 26 ∧ j = 3)) (h5 : ¬ (27 ≤ q ∧ q ≤ 29 ∧ e ≤ j)) : frC C m pA pr0 i e c kd bad by_ q j = C q j := by
  unfold frC cadd decC
  cases by_ <;> cases bad <;> simp only [if_true, if_false, Bool.false_eq_true]
  · rw [ai_up_n (by omega), ai_up_n (by omega), ai_up_n (by omega), ai_up_n (by omega), ai_up_n (by omega), ai_up_n (by omega), ai_up_n (by omega)]
  · rw [ai_up_n (by omega), ai_up_n (by omega), ai_up_n (by omega), ai_up_n (by omega), ai_up_n (by omega), ai_up_n (by omega), ai_up_n (by omega), ai_up_n (by omega)]
  · rw [ai_up_n (by omega), ai_up_n (by omega), ai_up_n (by omega), ai_up_n (by omega), ai_up_n (by omega), ai_up_n (by omega), ai_up_n (by omega), ai_up_n (by omega), ai_up_n (by omega), ai_up_n (by omega), ai_up_n (by omega), ai_up_n (by omega), ai_up_n (by omega), ai_up_n (by omega), ai_up_n (by omega)]
  · rw [ai_up_n (by omega), ai_up_n (by omega), ai_up_n (by omega), ai_up_n (by omega), ai_up_n (by omega), ai_up_n (by omega), ai_up_n (by omega), ai_up_n (by omega), ai_up_n (by omega), ai_up_n (by omega), ai_up_n (by omega), ai_up_n (by omega), ai_up_n (by omega), ai_up_n (by omega), ai_up_n (by omega), ai_up_n (by omega)]
theorem frC_v : frC C m pA pr0 i e c kd bad by_ 2 2 = nI pA ∧ frC C m pA pr0 i e c kd bad by_ 3 4 = nI (m + 1) ∧ frC C m pA pr0 i e c kd bad by_ 4 m = c ∧ frC C m pA pr0 i e c kd bad by_ 5 m = kd ∧ frC C m pA pr0 i e c kd bad by_ 6 m = C 3 5 ∧ frC C m pA pr0 i e c kd bad by_ 7 m = nI (i + 1) ∧ frC C m pA pr0 i e c kd bad by_ 31 pr0 = nI (i + 1) ∧ (bad = true → frC C m pA pr0 i e c kd bad by_ 2 5 = 0) ∧ (bad = false → frC C m pA pr0 i e c kd bad by_ 2 5 = C 2 5) := by
  unfold frC cadd decC
  cases by_ <;> cases bad <;> simp [ai_up_eq]
theorem frC_e (hC3 : C 26 3 = nI e) : frC C m pA pr0 i e c kd bad by_ 26 3 = nI (if by_ = true then e + 2 else e) := by
  unfold frC cadd decC
  cases by_ <;> cases bad <;> simp [ai_up_eq, hC3]
theorem frC_k : by_ = true → cd (frC C m pA pr0 i e c kd bad by_) 0 e = 12 ∧ cd (frC C m pA pr0 i e c kd bad by_) 1 e = nI (i + 1) ∧ cd (frC C m pA pr0 i e c kd bad by_) 2 e = 0 ∧ cd (frC C m pA pr0 i e c kd bad by_) 0 (e + 1) = 16 ∧ cd (frC C m pA pr0 i e c kd bad by_) 1 (e + 1) = nI (i + 1) := by
  intro h
  subst h
  unfold frC
  simp only [if_true]
  refine ⟨?_, ?_, ?_, cd_cadd0, cd_cadd1⟩
  · rw [cd_cadd (by omega) (by omega), cd_cadd0]
  · rw [cd_cadd (by omega) (by omega), cd_cadd1]
  · rw [cd_cadd (by omega) (by omega), cd_cadd2]
theorem frR_o {pq q j : Nat} (h0 : ¬ (q = 0 ∧ (j = 2 ∨ j = 20 ∨ j = 36))) (h1 : ¬ ((q = 10 ∨ q = 11) ∧ j = pq)) (h2 : ¬ (18 ≤ q ∧ q ≤ 21 ∧ j = m)) : frR R m pA pq i w' c sw bad by_ q j = R q j := by
  unfold frR decR frX
  cases by_ <;> cases bad <;> simp only [if_true, if_false, Bool.false_eq_true]
  · rw [ai_up_n (by omega), ai_up_n (by omega), ai_up_n (by omega), ai_up_n (by omega), ai_up_n (by omega), ai_up_n (by omega), ai_up_n (by omega)]
  · rw [ai_up_n (by omega), ai_up_n (by omega), ai_up_n (by omega), ai_up_n (by omega), ai_up_n (by omega), ai_up_n (by omega), ai_up_n (by omega), ai_up_n (by omega)]
  · rw [ai_up_n (by omega), ai_up_n (by omega), ai_up_n (by omega), ai_up_n (by omega), ai_up_n (by omega), ai_up_n (by omega), ai_up_n (by omega), ai_up_n (by omega)]
  · rw [ai_up_n (by omega), ai_up_n (by omega), ai_up_n (by omega), ai_up_n (by omega), ai_up_n (by omega), ai_up_n (by omega), ai_up_n (by omega), ai_up_n (by omega), ai_up_n (by omega)]
theorem frR_v {pq : Nat} : frR R m pA pq i w' c sw bad by_ 0 2 = nI pA ∧ frR R m pA pq i w' c sw bad by_ 0 36 = nI (m + 1) ∧ frR R m pA pq i w' c sw bad by_ 18 m = c ∧ frR R m pA pq i w' c sw bad by_ 19 m = sw ∧ frR R m pA pq i w' c sw bad by_ 20 m = nI (i + 1) ∧ frR R m pA pq i w' c sw bad by_ 21 m = R 0 37 ∧ frR R m pA pq i w' c sw bad by_ 10 pq = nI (i + 1) ∧ (by_ = true → frR R m pA pq i w' c sw bad by_ 11 pq = nI w') ∧ (by_ = false → frR R m pA pq i w' c sw bad by_ 11 pq = R 11 pq) ∧ (bad = true → frR R m pA pq i w' c sw bad by_ 0 20 = 1) ∧ (bad = false → frR R m pA pq i w' c sw bad by_ 0 20 = R 0 20) := by
  unfold frR decR frX
  cases by_ <;> cases bad <;> simp [ai_up_eq]
set_option maxHeartbeats 8000000 in
theorem frm_step (hpv : pv C R tx n hf ((pr0 + 1, 0, 0) :: sc1) SC m ns (pr0 + 1) vr p p' e nn stk) (hi : i < 6) (h10 : R 10 (16 * hf + pr0) = nI i) (h11 : R 11 (16 * hf + pr0) = nI w) (hw : w < 2 ^ i) (hm : m + 1 ≤ vr + 7 * (pr0 + 1)) (hpr0 : pr0 < 16) (hsc1 : ∀ x ∈ sc1, x.1 ≠ 0 → x.1 ≤ pr0) (hpA : pA ≤ n) (hby : by_ = true ∧ kd = 0 ∧ sw = 3 ∧ w' = w ||| 2 ^ i ∨ by_ = false ∧ kd = 1 ∧ sw = 4 ∧ w' = w) :
    pv (frC C m pA pr0 i e c kd bad by_) (frR R m pA (16 * hf + pr0) i w' c sw bad by_) tx n hf ((pr0 + 1, 0, 0) :: sc1) SC (m + 1) ns (pr0 + 1) vr pA pA (if by_ = true then e + 2 else e) nn stk ∧ frR R m pA (16 * hf + pr0) i w' c sw bad by_ 11 (16 * hf + pr0) = nI w' ∧ w' < 2 ^ (i + 1) ∧ (∀ b, b < i → w'.testBit b = w.testBit b) ∧ w'.testBit i = by_ := by
  obtain ⟨hT, hp, hpn, hC3, ⟨hmT, m2, mpn, m14, mhf, m15, hmf, m19⟩, hsk, h8, h9, hnh, hsp, hsc, hnn3⟩ := hpv
  obtain ⟨s1, s2, s3, s4, s5, s6, s7, s8, s9, s10, s11, s12, s13, s14, s15, s15a, s15b, s16, s17, s18⟩ := id hsp
  obtain ⟨v1, v2, v3, v4, v5, v6, v7, v8, v9⟩ := frC_v (C := C) (m := m) (pA := pA) (pr0 := pr0) (i := i) (e := e) (c := c) (kd := kd) (bad := bad) (by_ := by_)
  obtain ⟨u1, u2, u3, u4, u5, u6, u7, u8, u9, u10, u11⟩ := frR_v (R := R) (m := m) (pA := pA) (pq := 16 * hf + pr0) (i := i) (w' := w') (c := c) (sw := sw) (bad := bad) (by_ := by_)
  have hw64 : w < 64 := fr_lt64 (by omega) hw
  have e11 : frR R m pA (16 * hf + pr0) i w' c sw bad by_ 11 (16 * hf + pr0) = nI w' := by
    rcases hby with ⟨h1, _, _, h4⟩ | ⟨h1, _, _, h4⟩
    · exact u8 h1
    · rw [u9 h1, h11, h4]
  have ew : w' < 2 ^ (i + 1) := by
    rcases hby with ⟨h1, _, _, h4⟩ | ⟨h1, _, _, h4⟩
    · rw [h4]; exact fr_lt ⟨i, hi⟩ ⟨w, hw64⟩ hw
    · rw [h4]; exact Nat.lt_trans hw (Nat.pow_lt_pow_right (by decide) (by omega))
  have etb : ∀ b, b < i → w'.testBit b = w.testBit b := fun b hb => by
    rcases hby with ⟨h1, _, _, h4⟩ | ⟨h1, _, _, h4⟩
    · rw [h4]; exact fr_tb hb
    · rw [h4]
  have eti : w'.testBit i = by_ := by
    rcases hby with ⟨h1, _, _, h4⟩ | ⟨h1, _, _, h4⟩
    · rw [h4, h1]; exact fr_ti
    · rw [h4, h1]; exact Nat.testBit_lt_two_pow hw
  refine ⟨?_, e11, ew, etb, eti⟩
  refine ⟨⟨by rw [frC_o (by omega) (by omega) (by omega) (by omega) (by omega) (by omega)]; exact hT.1, hT.2.1, fun j hj => by rw [frC_o (by omega) (by omega) (by omega) (by omega) (by omega) (by omega)]; exact hT.2.2 j hj⟩, v1, hpA, frC_e hC3, ⟨⟨by rw [frR_o (by omega) (by omega) (by omega)]; exact hmT.1, hmT.2.1, fun j hj => by rw [frR_o (by omega) (by omega) (by omega)]; exact hmT.2.2 j hj⟩, u1, hpA, by rw [frR_o (by omega) (by omega) (by omega)]; exact m14, ⟨mhf.1, mhf.2.fr (fun q i a b c d' => frR_o (by omega) (by omega) (by omega))⟩, by rw [frR_o (by omega) (by omega) (by omega)]; exact m15, ⟨by rw [frR_o (by omega) (by omega) (by omega)]; exact hmf.1, mf_l_keep _ (fun q h1 h2 j hj => frR_o (by omega) (by omega) (by omega)) hmf.2⟩, by rw [frR_o (by omega) (by omega) (by omega)]; exact m19⟩, rfl, ?_, ?_, ?_, ?_, hsc, hnn3⟩
  · rw [frC_o (by omega) (by omega) (by omega) (by omega) (by omega) (by omega), frR_o (by omega) (by omega) (by omega)]; exact h8
  · rw [frC_o (by omega) (by omega) (by omega) (by omega) (by omega) (by omega), frR_o (by omega) (by omega) (by omega)]; exact h9
  · cases hb : bad with
    | true => subst hb; exact Or.inr ⟨v8 rfl, u10 rfl⟩
    | false => subst hb; rw [v9 rfl, u11 rfl]; exact hnh
  · refine sp_decl (x0 := (pr0 + 1, 0, 0)) hsp (fun o x kd' sl' sw' pl' hx h => ?_) rfl ?_ (by rw [v3, u3]) v5 u6 (fun q a b j hj => frC_o (by omega) (by omega) (by omega) (by omega) (by omega) (by omega)) (fun j => frC_o (by omega) (by omega) (by omega) (by omega) (by omega) (by omega)) (fun q a b j hj => frR_o (by omega) (by omega) (by omega)) v2 (frC_o (by omega) (by omega) (by omega) (by omega) (by omega) (by omega)) (by rw [frC_o (by omega) (by omega) (by omega) (by omega) (by omega) (by omega)]; exact s5) (by rw [frC_o (by omega) (by omega) (by omega) (by omega) (by omega) (by omega)]; exact s6) (by rw [frC_o (by omega) (by omega) (by omega) (by omega) (by omega) (by omega)]; exact s8) u2 (frR_o (by omega) (by omega) (by omega)) (by rw [frR_o (by omega) (by omega) (by omega)]; exact s7) (by rw [frR_o (by omega) (by omega) (by omega)]; exact s9) (by omega) s11 hm s13 s14 ?_ (fun o x hx h0 hle => ⟨hle, rfl⟩) s18
    · cases o with
      | zero =>
        simp only [List.getElem?_cons_zero, Option.some.injEq] at hx
        subst hx
        rcases h with ⟨h1, -⟩ | ⟨h1, v, cnt, ww, g1, g2, g3, g4, g5, g6, g7, g8, g9⟩ | ⟨h1, -⟩
        · exact absurd h1 (by simp)
        · simp only [Nat.add_sub_cancel] at g1 g2
          rw [h10, i_eq (by omega) (by omega)] at g1
          rw [h11, i_eq (by omega) (by omega)] at g2
          subst g1 g2
          refine Or.inr (Or.inl ⟨h1, v, i + 1, w', by simpa using u7, by simpa using e11, fr_lt64 (by omega) ew, by omega, g5, by omega, g7, g8, ?_⟩)
          rw [etb (v - 1) (by omega)]
          exact g9
        · exact absurd h1 (by simp)
      | succ o' =>
        simp only [List.getElem?_cons_succ, List.drop_succ_cons] at hx h ⊢
        refine sy_k_mono (sc := sc1) ⟨fun x hx => ⟨fun h0 cnt hcl hcn => ⟨cnt, by rw [frR_o (by omega) (by omega) (by omega)]; exact hcn, Nat.le_refl _, hcl⟩, fun h0 => ?_⟩, fun _ _ => rfl⟩ hx h
        have := hsc1 x hx h0
        exact ⟨frR_o (by omega) (by omega) (by omega), frR_o (by omega) (by omega) (by omega)⟩
    · refine Or.inr (Or.inl ⟨by simp, i + 1, i + 1, w', by simpa using u7, by simpa using e11, fr_lt64 (by omega) ew, by omega, by omega, Nat.le_refl _, u5, v6, ?_⟩)
      rw [Nat.add_sub_cancel, v4, u4, eti]
      rcases hby with ⟨h1, h2, h3, _⟩ | ⟨h1, h2, h3, _⟩
      · exact Or.inl ⟨h2, h3, h1⟩
      · exact Or.inr ⟨h2, h3, h1⟩
    · simp only [sc_tp] at s15 ⊢
      rw [if_neg (by simp)] at s15 ⊢
      exact s15
end FRM
