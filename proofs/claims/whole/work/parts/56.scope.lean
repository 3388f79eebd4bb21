/-! ===== scopes grow and shrink ===== -/
section SCO
variable {C C' R R' : ai_S} {hf : Nat} {sc : sc_T} {SC SC' : Nat → sc_T} {m ns pr vr mk ns' pr' vr' : Nat} {x0 : Nat × Nat × Nat}
theorem sp_decl (h : sp C R hf sc SC m ns pr vr) (hold : ∀ (o : Nat) (x : Nat × Nat × Nat) (kd sl sw pl : Int32), sc[o]? = some x → sy_k R (16 * hf) SC x (sc.drop o) kd sl sw pl → sy_k R' (16 * hf) SC' x (sc.drop o) kd sl sw pl) (hx0 : sc[0]? = some x0) (hnew : sy_k R' (16 * hf) SC' x0 sc (C' 5 m) (C' 7 m) (R' 19 m) (R' 20 m)) (h4 : C' 4 m = R' 18 m) (h6 : C' 6 m = C 3 5) (h21 : R' 21 m = R 0 37) (hC : ∀ q, 4 ≤ q → q ≤ 7 → ∀ i, i < m → C' q i = C q i) (hC8 : ∀ i, C' 8 i = C 8 i) (hR : ∀ q, 18 ≤ q → q ≤ 21 → ∀ i, i < m → R' q i = R q i) (c34 : C' 3 4 = nI (m + 1)) (c35 : C' 3 5 = C 3 5) (c37 : C' 3 7 = nI ns') (c6 : C' 26 6 = nI pr') (c7 : C' 26 7 = nI vr') (r36 : R' 0 36 = nI (m + 1)) (r37 : R' 0 37 = R 0 37) (r21 : R' 0 21 = nI pr') (r22 : R' 0 22 = nI vr') (b1 : pr' ≤ 16) (b2 : vr' ≤ 24) (b3 : m + 1 ≤ vr' + 7 * pr') (b4 : 7 ≤ ns') (b5 : ns' ≤ 7 + vr') (htp : sc_tp R' sc ns') (h17' : ∀ (o : Nat) (x : Nat × Nat × Nat), sc[o]? = some x → x.1 ≠ 0 → x.1 ≤ pr → x.1 ≤ pr' ∧ SC' (x.1 - 1) = SC (x.1 - 1)) (h18' : ∀ q, pr' ≤ q → SC' q = []) : sp C' R' hf sc SC' (m + 1) ns' pr' vr' := by
  obtain ⟨h1, h2, h3, g4, h5, g6, h7, h8, h9, h10, h11, h12, h13, h14, h15, h15a, h15b, h16, h17, h18⟩ := h
  refine ⟨c34, r36, c35.trans h3, r37.trans g4, c37, c6, r21, c7, r22, b1, b2, b3, b4, b5, htp, h15a, h15b, fun i hi => ?_, fun o x hx hx0' => ?_, h18'⟩
  · by_cases him : i < m
    · obtain ⟨e1, o, x, e2, e3, e4, e5⟩ := h16 i him
      refine ⟨?_, o, x, e2, ?_, ?_, ?_⟩
      · rw [hC 4 (by omega) (by omega) i him, hR 18 (by omega) (by omega) i him]; exact e1
      · rw [hR 21 (by omega) (by omega) i him]; exact e3
      · rw [hC 6 (by omega) (by omega) i him]; exact e4
      · rw [hC 5 (by omega) (by omega) i him, hC 7 (by omega) (by omega) i him, hR 19 (by omega) (by omega) i him, hR 20 (by omega) (by omega) i him]
        exact hold o x _ _ _ _ e2 e5
    · have : i = m := by omega
      subst this
      refine ⟨h4, 0, x0, hx0, ?_, ?_, ?_⟩
      · rw [h21, g4]; rfl
      · rw [h6, h3]; rfl
      · exact hnew
  · obtain ⟨e1, e2, e3, e4⟩ := h17 o x hx hx0'
    obtain ⟨f1, f2⟩ := h17' o x hx hx0' e2
    exact ⟨by rw [hC8]; exact e1, f1, e3, f2.trans e4⟩
theorem sp_pop (h : sp C R hf (x0 :: sc) SC m ns pr vr) (hmk : mk ≤ m) (hlv : ∀ i, i < mk → ¬ R 21 i = nI (sc.length + 1)) (c34 : C' 3 4 = nI mk) (c35 : C' 3 5 = nI (sc_cl sc)) (c37 : C' 3 7 = nI ns') (c6 : C' 26 6 = C 26 6) (c7 : C' 26 7 = C 26 7) (r36 : R' 0 36 = nI mk) (r37 : R' 0 37 = nI sc.length) (r21 : R' 0 21 = R 0 21) (r22 : R' 0 22 = R 0 22) (hC : ∀ q, 4 ≤ q → q ≤ 8 → C' q = C q) (hR5 : ∀ x ∈ sc, x.1 = 0 → R' 5 x.2.2 = R 5 x.2.2) (hR : ∀ q, q = 10 ∨ q = 11 ∨ (18 ≤ q ∧ q ≤ 21) → R' q = R q) (b4 : 7 ≤ ns') (b5 : ns' ≤ 7 + vr) (htp : sc_tp R' sc ns') : sp C' R' hf sc SC mk ns' pr vr := by
  obtain ⟨h1, h2, h3, g4, h5, g6, h7, h8, h9, h10, h11, h12, h13, h14, h15, h15a, h15b, h16, h17, h18⟩ := h
  have hcl : sc_cl sc ≤ sc_cl (x0 :: sc) := by simp only [sc_cl]; omega
  simp only [List.length_cons] at h15a g4
  have hag : sc_ag R R' (16 * hf) SC SC sc := by
    refine ⟨fun x hx => ⟨fun h0 cnt hcl hc' => ⟨cnt, (hR5 x hx h0).trans hc', Nat.le_refl _, hcl⟩, fun _ => ⟨by rw [hR 10 (by omega)], by rw [hR 11 (by omega)]⟩⟩, fun _ _ => rfl⟩
  refine ⟨c34, r36, c35, r37, c37, c6.trans g6, r21.trans h7, c7.trans h8, r22.trans h9, h10, h11, by omega, b4, b5, htp, by omega, by omega, fun i hi => ?_, fun o x hx hx0' => ?_, h18⟩
  · obtain ⟨e1, o, x, e2, e3, e4, e5⟩ := h16 i (by omega)
    have ho : ∃ o', o = o' + 1 := by
      cases o with
      | zero =>
        refine absurd ?_ (hlv i hi)
        rw [e3]; simp
      | succ o' => exact ⟨o', rfl⟩
    obtain ⟨o', rfl⟩ := ho
    simp only [List.getElem?_cons_succ, List.drop_succ_cons, List.length_cons] at e2 e3 e4 e5
    refine ⟨?_, o', x, e2, ?_, ?_, ?_⟩
    · rw [hC 4 (by omega) (by omega), hR 18 (by omega)]; exact e1
    · rw [hR 21 (by omega), e3, show sc.length + 1 - (o' + 1) = sc.length - o' by omega]
    · rw [hC 6 (by omega) (by omega)]; exact e4
    · rw [hC 5 (by omega) (by omega), hC 7 (by omega) (by omega), hR 19 (by omega), hR 20 (by omega)]
      exact sy_k_mono hag e2 e5
  · have := h17 (o + 1) x (by simpa using hx) hx0'
    simp only [List.drop_succ_cons] at this
    rw [hC 8 (by omega) (by omega)]
    exact this
theorem sp_push_sc (h : sp C R hf sc SC m ns pr vr) (hlen : sc.length + 1 ≤ 20) (hcl : sc_cl (x0 :: sc) ≤ 10) (c34 : C' 3 4 = C 3 4) (c35 : C' 3 5 = nI (sc_cl (x0 :: sc))) (c37 : C' 3 7 = nI ns') (c6 : C' 26 6 = C 26 6) (c7 : C' 26 7 = C 26 7) (r36 : R' 0 36 = R 0 36) (r37 : R' 0 37 = nI (sc.length + 1)) (r21 : R' 0 21 = R 0 21) (r22 : R' 0 22 = R 0 22) (hC : ∀ q, 4 ≤ q → q ≤ 7 → C' q = C q) (hC8 : ∀ i, i ≤ sc_cl sc → C' 8 i = C 8 i) (hR5 : ∀ x ∈ sc, x.1 = 0 → R' 5 x.2.2 = R 5 x.2.2) (hR10 : ∀ x ∈ sc, x.1 ≠ 0 → R' 10 (16 * hf + (x.1 - 1)) = R 10 (16 * hf + (x.1 - 1)) ∧ R' 11 (16 * hf + (x.1 - 1)) = R 11 (16 * hf + (x.1 - 1))) (hR : ∀ q, 18 ≤ q → q ≤ 21 → R' q = R q) (b4 : 7 ≤ ns') (b5 : ns' ≤ 7 + vr) (htp : sc_tp R' (x0 :: sc) ns') (h17' : x0.1 ≠ 0 → C' 8 (sc_cl (x0 :: sc)) = nI (x0.1 - 1) ∧ x0.1 ≤ pr ∧ x0.2 = (0, 0) ∧ SC (x0.1 - 1) = sc) : sp C' R' hf (x0 :: sc) SC m ns' pr vr := by
  obtain ⟨h1, h2, h3, g4, h5, g6, h7, h8, h9, h10, h11, h12, h13, h14, h15, h15a, h15b, h16, h17, h18⟩ := h
  have hag : sc_ag R R' (16 * hf) SC SC sc := by
    refine ⟨fun x hx => ⟨fun h0 cnt hcl hc' => ⟨cnt, (hR5 x hx h0).trans hc', Nat.le_refl _, hcl⟩, fun h0 => hR10 x hx h0⟩, fun _ _ => rfl⟩
  refine ⟨c34.trans h1, r36.trans h2, c35, by simpa using r37, c37, c6.trans g6, r21.trans h7, c7.trans h8, r22.trans h9, h10, h11, h12, b4, b5, htp, by simpa using hlen, hcl, fun i hi => ?_, fun o x hx hx0' => ?_, h18⟩
  · obtain ⟨e1, o, x, e2, e3, e4, e5⟩ := h16 i hi
    refine ⟨?_, o + 1, x, by simpa using e2, ?_, ?_, ?_⟩
    · rw [hC 4 (by omega) (by omega), hR 18 (by omega) (by omega)]; exact e1
    · rw [hR 21 (by omega) (by omega), e3, List.length_cons, show sc.length + 1 - (o + 1) = sc.length - o by omega]
    · rw [hC 6 (by omega) (by omega)]; exact e4
    · rw [hC 5 (by omega) (by omega), hC 7 (by omega) (by omega), hR 19 (by omega) (by omega), hR 20 (by omega) (by omega)]
      exact sy_k_mono (sc := sc) hag e2 e5
  · cases o with
    | zero =>
      simp only [List.getElem?_cons_zero, Option.some.injEq] at hx
      subst hx
      exact h17' hx0'
    | succ o' =>
      simp only [List.getElem?_cons_succ] at hx
      obtain ⟨e1, e2, e3, e4⟩ := h17 o' x hx hx0'
      have := sc_cl_drop_le sc o'
      simp only [List.drop_succ_cons]
      exact ⟨by rw [hC8 _ this]; exact e1, e2, e3, e4⟩
theorem sc_tp_le {bs ns : Nat} (h : sc_tp R sc bs) (hb : bs ≤ ns) : sc_tp R sc ns := by
  cases sc with
  | nil => simp only [sc_tp] at *; omega
  | cons x t =>
    simp only [sc_tp] at *
    by_cases hx : x.1 = 0
    · rw [if_pos hx] at h ⊢
      obtain ⟨cnt, h1, h2⟩ := h
      exact ⟨cnt, h1, by omega⟩
    · rw [if_neg hx] at h ⊢
      omega
end SCO
