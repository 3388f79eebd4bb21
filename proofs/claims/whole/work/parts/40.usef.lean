/-! ===== a use of a name, on both sides ===== -/
section USB
variable {tx : Nat → Int32} {n hf : Nat} {sc : sc_T} {SC : Nat → sc_T} {m ns pr vr e q0 : Nat} {C R : ai_S}
set_option maxHeartbeats 4000000 in
theorem use_both (c ov of op ty : Int32) (hsp : sp C R hf sc SC m ns pr vr) (hC3 : C 26 3 = nI e) (hel : e < 488) (hq0 : R 0 15 = nI q0) (hql : q0 + 1 < 700) (hnh : C 2 5 = 1 ∧ R 0 20 = 0 ∨ C 2 5 = 0 ∧ R 0 20 = 1) (hsb : ∀ x ∈ sc, x.1 = 0 → x.2.2 ≤ q0) :
    ∃ Cu Ru : ai_S, (∀ (l : Launch) (D : va_G) (ρ : Nat → Nat) (τ : Nat → ClassId) (d : Nat) (V : ai_V) (G : ai_S → Prop), V 2 3 = .ref 26 → G Cu → ai_met (uC l D ρ τ) (d + 2) mX3_addUse [.ref 2, .int c, .int ov, .int of, .int op] C V (ai_qv V G)) ∧
      (∀ (l : Launch) (D : va_G) (ρ : Nat → Nat) (τ : Nat → ClassId) (d : Nat) (V : ai_V) (G : Int32 → ai_S → Prop), G (nI (q0 + 1)) Ru → ai_met (uM l D ρ τ) (d + 1) mX6_use [.ref 0, .int ty, .int c] R V (ai_qi V G)) ∧
      cE C Cu e ∧ Cu 26 3 = nI (e + 1) ∧ Cu 2 2 = C 2 2 ∧ Cu 26 9 = C 26 9 ∧
      (∀ b t, b < q0 + 1 → q0 + 1 < t → mE R Ru b t) ∧ Ru 0 15 = nI (q0 + 1) ∧ (∀ j, j ≠ 15 → j ≠ 20 → Ru 0 j = R 0 j) ∧ (∀ q, 9 ≤ q → Ru q = R q) ∧ Ru 2 (q0 + 1) = ty ∧ Ru 3 (q0 + 1) = nI 0 ∧ Ru 4 (q0 + 1) = nI 0 ∧ Ru 8 (q0 + 1) = nI 0 ∧
      (Cu 2 5 = 1 ∧ Ru 0 20 = 0 ∨ Cu 2 5 = 0 ∧ Ru 0 20 = 1) ∧ (Cu 2 5 = 1 → C 2 5 = 1 ∧ cx_us (cd Cu) Ru (16 * hf) SC sc (q0 + 1) e ov of op) := by
  have hm136 : m ≤ 136 := by
    obtain ⟨h1, h2, h3, h4, h5, h6, h7, h8, h9, h10, h11, h12, -⟩ := hsp
    omega
  have h34 : C 3 4 = nI m := hsp.1
  have h36 : R 0 36 = nI m := hsp.2.1
  have hfe : fnd (C 4) c m = fnd (R 18) c m := fnd_congr m (fun i hi => (hsp.2.2.2.2.2.2.2.2.2.2.2.2.2.2.2.2.2.1 i hi).1)
  cases hfc : fnd (C 4) c m with
  | none =>
    refine ⟨cadd (ai_up C 2 5 0) e ov 0 0, ai_up (mfresh R (q0 + 1) ty) 0 20 1, ?_, ?_, (cE.rf.u2 5 _ (by omega)).add (Nat.le_refl _) _ _ _, by simp [cadd, ai_up_eq], by simp [cadd, ai_up_eq], by simp [cadd, ai_up_eq], fun b t h1 h2 => (mE.rf.fresh _ _ h1 h2).u0 20 _ (by omega), by simp [mfresh, ai_up_eq], fun j h1 h2 => ?_, fun q hq => ?_, by simp [mfresh, ai_up_eq], by simp [mfresh, ai_up_eq]; rfl, by simp [mfresh, ai_up_eq]; rfl, by simp [mfresh, ai_up_eq]; rfl, Or.inr ⟨by simp [cadd, ai_up_eq], ai_up_s⟩, fun h => absurd h (by simp [cadd, ai_up_eq])⟩
    · intro l D ρ τ d V G hV3 hG
      exact sp_addUse hV3 h34 hm136 hC3 hel (fun i o hi => absurd (hfc.symm.trans hi) (by simp)) (fun _ => hG)
    · intro l D ρ τ d V G hG
      exact sp_use hq0 hql h36 (by omega) (fun i hi => absurd ((hfe.symm.trans hfc).symm.trans hi) (by simp)) (fun _ => hG)
    · unfold mfresh
      rw [ai_up_n (by omega), ai_up_n (by omega), ai_up_n (by omega), ai_up_n (by omega), ai_up_n (by omega), ai_up_n (by omega), ai_up_n (by omega)]
    · unfold mfresh
      rw [ai_up_o (by omega), ai_up_o (by omega), ai_up_o (by omega), ai_up_o (by omega), ai_up_o (by omega), ai_up_o (by omega), ai_up_o (by omega)]
  | some i =>
    have him : i < m := fnd_lt m i hfc
    obtain ⟨hrs, hkd⟩ := use_rel hsp him
    obtain ⟨o, ho⟩ : ∃ o : Int32, (C 5 i = 0 ∧ o = ov ∨ C 5 i = 1 ∧ o = of ∨ ¬ C 5 i = 0 ∧ ¬ C 5 i = 1 ∧ o = op) := by
      rcases hkd with h | h | h
      · exact ⟨ov, Or.inl ⟨h, rfl⟩⟩
      · exact ⟨of, Or.inr (Or.inl ⟨h, rfl⟩)⟩
      · exact ⟨op, Or.inr (Or.inr ⟨by rw [h]; decide, by rw [h]; decide, rfl⟩)⟩
    obtain ⟨Ru, hRu⟩ : ∃ Ru, Ru = ai_up (ai_up (ai_up (mfresh R (q0 + 1) ty) 5 (q0 + 1) (R 19 i)) 6 (q0 + 1) (R 20 i)) 7 (q0 + 1) (R 0 37 - R 21 i) := ⟨_, rfl⟩
    have hmE : ∀ b t, b < q0 + 1 → q0 + 1 < t → mE R Ru b t := fun b t h1 h2 => by
      rw [hRu]
      exact (((mE.rf.fresh _ _ h1 h2).uN 5 _ _ (by omega) (by omega) h1 h2).uN 6 _ _ (by omega) (by omega) h1 h2).uN 7 _ _ (by omega) (by omega) h1 h2
    refine ⟨cadd C e o (C 7 i) (C 3 5 - C 6 i), Ru, ?_, ?_, cE.rf.add (Nat.le_refl _) _ _ _, by simp [cadd, ai_up_eq], by simp [cadd, ai_up_eq], by simp [cadd, ai_up_eq], hmE, by rw [hRu]; simp [mfresh, ai_up_eq], fun j h1 h2 => ?_, fun q hq => ?_, by rw [hRu]; simp [mfresh, ai_up_eq], by rw [hRu]; simp [mfresh, ai_up_eq]; rfl, by rw [hRu]; simp [mfresh, ai_up_eq]; rfl, by rw [hRu]; simp [mfresh, ai_up_eq]; rfl, ?_, fun h => ⟨?_, C 5 i, ?_, ?_⟩⟩
    · intro l D ρ τ d V G hV3 hG
      refine sp_addUse hV3 h34 hm136 hC3 hel (fun i' o' hi' ho' => ?_) (fun hn => absurd (hfc.symm.trans hn) (by simp))
      have : i' = i := by rw [hfc] at hi'; cases hi'; rfl
      subst this
      have : o' = o := by
        rcases ho with ⟨a, b⟩ | ⟨a, b⟩ | ⟨a, a2, b⟩ <;> rcases ho' with ⟨a', b'⟩ | ⟨a', b'⟩ | ⟨a', a2', b'⟩
        · rw [b, b']
        · rw [a] at a'; exact absurd a' (by decide)
        · exact absurd a a'
        · rw [a] at a'; exact absurd a' (by decide)
        · rw [b, b']
        · exact absurd a a2'
        · exact absurd a' a
        · exact absurd a' a2
        · rw [b, b']
      rw [this]
      exact hG
    · intro l D ρ τ d V G hG
      refine sp_use hq0 hql h36 (by omega) (fun i' hi' => ?_) (fun hn => absurd ((hfe.symm.trans hfc) ▸ hn) (by
        intro h
        rw [← hfe, hfc] at hn
        cases hn))
      have : i' = i := by rw [← hfe, hfc] at hi'; cases hi'; rfl
      subst this
      rw [← hRu]
      exact hG
    · rw [hRu]
      unfold mfresh
      rw [ai_up_n (by omega), ai_up_n (by omega), ai_up_n (by omega), ai_up_n (by omega), ai_up_n (by omega), ai_up_n (by omega), ai_up_n (by omega), ai_up_n (by omega), ai_up_n (by omega)]
    · rw [hRu]
      unfold mfresh
      rw [ai_up_o (by omega), ai_up_o (by omega), ai_up_o (by omega), ai_up_o (by omega), ai_up_o (by omega), ai_up_o (by omega), ai_up_o (by omega), ai_up_o (by omega), ai_up_o (by omega)]
    · rw [show Ru 0 20 = R 0 20 by rw [hRu]; simp [mfresh, ai_up_eq]]
      simp only [cadd, ai_up_eq]
      simpa using hnh
    · simpa [cadd, ai_up_eq] using h
    · rw [cd_cadd1, cd_cadd2, show Ru 5 (q0 + 1) = R 19 i by rw [hRu]; simp [mfresh, ai_up_eq], show Ru 6 (q0 + 1) = R 20 i by rw [hRu]; simp [mfresh, ai_up_eq], show Ru 7 (q0 + 1) = R 0 37 - R 21 i by rw [hRu]; simp [ai_up_eq]]
      exact cx_rs_mono ((hmE q0 (q0 + 2) (by omega) (by omega)).ag hsb) hrs
    · rw [cd_cadd0]
      rcases ho with ⟨a, b⟩ | ⟨a, b⟩ | ⟨a, a2, b⟩
      · exact Or.inl ⟨a, b⟩
      · exact Or.inr (Or.inl ⟨a, b⟩)
      · rcases hkd with h | h | h
        · exact absurd h a
        · exact absurd h a2
        · exact Or.inr (Or.inr ⟨h, b⟩)
end USB
