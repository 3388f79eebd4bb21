/-! ===== frames: order, cells apart, writing ===== -/
section FRS
variable {y : ys_T} {C R C' R' : ai_S} {G G' : gg_T} {pd pd' : Nat → Nat} {nf f f' v v' : Nat}
theorem fo_step (h : FR y C R G pd nf) (hf : f + 1 < nf) : gb G f + gn G f = gb G (f + 1) ∧ 31 * gi G f + gc G f + gn G f ≤ 31 * gi G (f + 1) + gc G (f + 1) ∧ gi G f ≤ gi G (f + 1) := by
  obtain ⟨_, _, h1, _, _⟩ := h.2 f (by omega)
  obtain ⟨_, _, _, _, h2⟩ := h.2 (f + 1) hf
  rcases h2 with ⟨h2, _⟩ | ⟨nd, h2⟩ | ⟨pr, o, ca, cnt, w, h2⟩
  · omega
  · obtain ⟨_, _, _, _, g1, _, _, g2, g3, _⟩ := h2
    rw [Nat.add_sub_cancel] at g1 g2 g3
    exact ⟨g3, by omega, by omega⟩
  · obtain ⟨_, _, _, _, _, _, _, _, _, g1, _, _, _, _, g2, _, _, _, _, _, _, _, g3, _⟩ := h2
    rw [Nat.add_sub_cancel] at g1 g3
    exact ⟨g3, by omega, by omega⟩
theorem fo_lt (h : FR y C R G pd nf) (hff : f < f') : f' < nf → gb G f + gn G f ≤ gb G f' ∧ 31 * gi G f + gc G f + gn G f ≤ 31 * gi G f' + gc G f' ∧ gi G f ≤ gi G f' := by
  induction f' with
  | zero => omega
  | succ g ih =>
    intro hg
    have h1 := fo_step h hg
    by_cases e : f = g
    · subst e
      exact ⟨by omega, h1.2⟩
    · have h2 := ih (by omega) (by omega)
      exact ⟨by omega, by omega, by omega⟩
theorem fo_top (h : FR y C R G pd nf) (hf : f < nf) : gb G f + gn G f ≤ gb G (nf - 1) + gn G (nf - 1) ∧ gi G f ≤ gi G (nf - 1) := by
  by_cases e : f = nf - 1
  · subst e; exact ⟨Nat.le_refl _, Nat.le_refl _⟩
  · have := fo_lt h (show f < nf - 1 by omega) (by omega)
    exact ⟨by omega, by omega⟩
/-- two cells are two on either side -/
theorem fo_ap (h : FR y C R G pd nf) (hf : f < nf) (hf' : f' < nf) (hv : v < gn G f) (hv' : v' < gn G f') : (gb G f + v = gb G f' + v' ∨ 31 * gi G f + gc G f + v = 31 * gi G f' + gc G f' + v') → f = f' ∧ v = v' := by
  intro he
  rcases Nat.lt_trichotomy f f' with hl | hl | hl
  · have := fo_lt h hl hf'
    omega
  · subst hl
    exact ⟨rfl, by omega⟩
  · have := fo_lt h hl hf
    omega
/-- bounds of addresses -/
theorem fo_bd (h : FR y C R G pd nf) (hf : f < nf) (hg : gi G (nf - 1) ≤ 30) (hv : v < gn G f) : gb G f + v < 961 ∧ 31 * gi G f + gc G f + v < 961 := by
  obtain ⟨_, h0, h1, _, _⟩ := h.2 f hf
  have h2 := (fo_top h hf).2
  omega
/-- nothing of the frames changed -/
theorem FR.keep (h : FR y C R G pd nf) (h11 : C' 11 = C 11) (h12 : C' 12 = C 12) (h13 : C' 13 = C 13) (h23 : ∀ q, 23 ≤ q → q ≤ 28 → R' q = R q) : FR y C' R' G pd nf := by
  refine ⟨h.1, fun f hf => ?_⟩
  have := h.2 f hf
  unfold fr ar at this ⊢
  rw [h11, h12, h13, h23 25 (by omega) (by omega), h23 27 (by omega) (by omega), h23 23 (by omega) (by omega), h23 24 (by omega) (by omega), h23 26 (by omega) (by omega), h23 28 (by omega) (by omega)]
  exact this
/-- a value is put into a cell -/
theorem FR.write (h : FR y C R G pd nf) {f2 v2 : Nat} {x : Int32} (hf2 : f2 < nf) (hv2 : v2 < gn G f2) (hk2 : gk G f2 v2 = true) (hp2 : pd f2 = 6) (h11 : C' 11 = upd (C 11) (31 * gi G f2 + gc G f2 + v2) x) (h12 : C' 12 = C 12) (h13 : C' 13 = C 13) (h27 : R' 27 = upd (R 27) (gb G f2 + v2) x) (h23 : ∀ q, 23 ≤ q → q ≤ 28 → q ≠ 27 → R' q = R q) : FR y C' R' G pd nf := by
  refine ⟨h.1, fun f hf => ?_⟩
  obtain ⟨a1, a2, a3, a4, a5⟩ := h.2 f hf
  have u : ∀ i, C' 11 i = if i = 31 * gi G f2 + gc G f2 + v2 then x else C 11 i := fun i => by rw [h11]; rfl
  have u' : ∀ i, R' 27 i = if i = gb G f2 + v2 then x else R 27 i := fun i => by rw [h27]; rfl
  refine ⟨by rw [h23 25 (by omega) (by omega) (by omega)]; exact a1, a2, a3, fun v hv hk hp => ?_, ?_⟩
  · rw [u, u']
    by_cases e : f = f2 ∧ v = v2
    · obtain ⟨rfl, rfl⟩ := e
      rw [if_pos rfl, if_pos rfl]
    · rw [if_neg (fun e1 => e (fo_ap h hf hf2 hv hv2 (Or.inr e1))), if_neg (fun e1 => e (fo_ap h hf hf2 hv hv2 (Or.inl e1)))]
      exact a4 v hv hk hp
  · rw [h12, h13, h23 23 (by omega) (by omega) (by omega), h23 24 (by omega) (by omega) (by omega), h23 26 (by omega) (by omega) (by omega)]
    rcases a5 with a5 | a5 | ⟨pr, o, ca, cnt, w, b1, b2, b3, b4, b5, b6, b7, b8, b9, b10, b11, b12, b13, b14, b15, b16, b17, b18, b19, b20, b21, b22, b23, b24, b25, b26⟩
    · exact Or.inl a5
    · exact Or.inr (Or.inl a5)
    · refine Or.inr (Or.inr ⟨pr, o, ca, cnt, w, b1, b2, b3, b4, b5, b6, b7, b8, b9, b10, b11, b12, b13, b14, b15, b16, b17, b18, b19, b20, b21, b22, b23, b24, b25, fun i hi => ?_⟩)
      obtain ⟨d1, d2, d3, d4, d5, d6, d7, d8⟩ := b26 i hi
      have hkv : gk G f (i + 1) = w.testBit i := by rw [b24]; simp
      refine ⟨d1, d2, d3, d4, d5, d6, fun hw => ?_, fun hw hp => ?_⟩
      · obtain ⟨e1, e2, e3⟩ := d7 hw
        have hne : ¬ (f = f2 ∧ i + 1 = v2) := by
          rintro ⟨rfl, rfl⟩
          rw [hkv, hw] at hk2
          cases hk2
        rw [u', u, h23 28 (by omega) (by omega) (by omega), if_neg (fun e4 => hne (fo_ap h hf hf2 (by omega) hv2 (Or.inl (by omega)))), if_neg (fun e4 => hne (fo_ap h hf hf2 (by omega) hv2 (Or.inr (by omega))))]
        exact ⟨e1, e2, e3⟩
      · have hne : ¬ (f = f2 ∧ i + 1 = v2) := by
          rintro ⟨rfl, rfl⟩
          omega
        rw [u, if_neg (fun e4 => hne (fo_ap h hf hf2 (by omega) hv2 (Or.inr (by omega))))]
        exact d8 hw hp
theorem g_eq (h : G' f = G f) : gs G' f = gs G f ∧ gi G' f = gi G f ∧ gb G' f = gb G f ∧ gc G' f = gc G f ∧ gn G' f = gn G f ∧ gr G' f = gr G f ∧ gk G' f = gk G f ∧ ga G' f = ga G f := by
  simp only [gs, gi, gb, gc, gn, gr, gk, ga, h, and_self]
/-- what is to be done doesn't hang on values -/
theorem kc_keep : ∀ (l : List Nat) (f b nf na t en wt : Nat), (∀ i, i < t → R' 22 i = R 22 i) → (∀ i, i < nf → R' 26 i = R 26 i) → (∀ i, i < en → C' 16 i = C 16 i ∧ C' 17 i = C 17 i) → (∀ i, i ≤ na → C' 13 i = C 13 i ∧ C' 14 i = C 14 i) → (∀ i, i < na ∨ (i = na ∧ ve l = true) → C' 15 i = C 15 i) → (∀ i, i < nf → G' i = G i ∧ pd' i = pd i) → kc y C R G pd l f b nf na t en wt → kc y C' R' G' pd' l f b nf na t en wt
  | [], f, b, nf, na, t, en, wt, _, _, _, _, _, hG, h => by
    obtain ⟨h1, h2, h3, h4, h5⟩ := h
    obtain ⟨g1, g2⟩ := hG f h2
    obtain ⟨s1, s2, s3, s4, s5, s6, s7, s8⟩ := g_eq g1
    exact ⟨h1, h2, by rw [g2, s6]; exact h3, by rw [s2]; exact h4, h5⟩
  | c :: l, f, b, nf, na, t, en, wt, h22, h26, h16, h13, h15, hG, h => by
    obtain ⟨h1, h2, h3, h4, h5, h6, h⟩ := h
    obtain ⟨g1, g2⟩ := hG f h2
    obtain ⟨s1, s2, s3, s4, s5, s6, s7, s8⟩ := g_eq g1
    refine ⟨h1, h2, h3, h4, by rw [g2, s6]; exact h5, by rw [s2]; exact h6, ?_⟩
    rcases h with h | h | h | h | h | h | h | h | h | h | h | h | h
    · obtain ⟨hc, t', n, z, j, k, b', a1, a2, a3, a4, a5, a6, a7, a8, a9⟩ := h
      refine Or.inl ⟨hc, t', n, z, j, k, b', a1, a2, by rw [h22 t' (by omega)]; exact a3, a4, by rw [s1]; exact a5, a6, a7, a8, kc_keep l f b' nf na t' en wt (fun i hi => h22 i (by omega)) h26 h16 h13 (fun i hi => h15 i ?_) hG a9⟩
      rcases hi with hi | hi
      · exact Or.inl hi
      · exact Or.inr ⟨hi.1, by simp [ve, hc]⟩
    · obtain ⟨hc, t', n, z, j, k, b', sg, w', a1, a2, a3, a4, a5, a6, a7, a8, a9, a10, a11, a12, a13⟩ := h
      refine Or.inr (Or.inl ⟨hc, t', n, z, j, k, b', sg, w', a1, a2, by rw [h22 t' (by omega)]; exact a3, a4, a5, a6, a7, by rw [s1]; exact a8, a9, a10, a11, a12, kc_keep l f b' nf na t' en w' (fun i hi => h22 i (by omega)) h26 h16 h13 (fun i hi => h15 i ?_) hG a13⟩)
      rcases hi with hi | hi
      · exact Or.inl hi
      · exact Or.inr ⟨hi.1, by simp [ve, hc]⟩
    · obtain ⟨hc, a0, en', f', b', a1, a2, a3, a4, a5⟩ := h
      have hf' : f' < nf := by cases l <;> exact a5.2.1
      refine Or.inr (Or.inr (Or.inl ⟨hc, a0, en', f', b', a1, by rw [(h16 en' (by omega)).1]; exact a2, by rw [(h16 en' (by omega)).2, (g_eq (hG f' hf').1).2.1]; exact a3, a4, kc_keep l f' b' nf na t en' wt h22 h26 (fun i hi => h16 i (by omega)) h13 (fun i hi => h15 i ?_) hG a5⟩))
      rcases hi with hi | hi
      · exact Or.inl hi
      · exact Or.inr ⟨hi.1, by simp [ve, hc]⟩
    · obtain ⟨hc, a0, t', f2, v, a1, a2, a3, a4, a5, a6, a7, a8, a9⟩ := h
      obtain ⟨e1, e2⟩ := hG f2 a3
      obtain ⟨r1, r2, r3, r4, r5, r6, r7, r8⟩ := g_eq e1
      refine Or.inr (Or.inr (Or.inr (Or.inl ⟨hc, a0, t', f2, v, a1, by rw [h22 t' (by omega), r3]; exact a2, a3, by rw [r5]; exact a4, by rw [r7]; exact a5, by rw [e2]; exact a6, by rw [h15 na (Or.inr ⟨rfl, by simp [ve, hc]⟩), r2, r4]; exact a7, a8, kc_keep l f (b + 1) nf na t' en wt (fun i hi => h22 i (by omega)) h26 h16 h13 (fun i hi => h15 i ?_) hG a9⟩)))
      rcases hi with hi | hi
      · exact Or.inl hi
      · rw [a8] at hi; cases hi.2
    · obtain ⟨hc, a0, t', a1, a2, a8, a9⟩ := h
      refine Or.inr (Or.inr (Or.inr (Or.inr (Or.inl ⟨hc, a0, t', a1, by rw [h22 t' (by omega)]; exact a2, a8, kc_keep l f (b + 1) nf na t' en wt (fun i hi => h22 i (by omega)) h26 h16 h13 (fun i hi => h15 i ?_) hG a9⟩))))
      rcases hi with hi | hi
      · exact Or.inl hi
      · rw [a8] at hi; cases hi.2
    · obtain ⟨hc, t', n, q, z, w, j, b', k, a1, a2, a3, a4, a5, a6, a7, a8, a9, a10, a11, a12, a13, a14, a15, a16, a17⟩ := h
      refine Or.inr (Or.inr (Or.inr (Or.inr (Or.inr (Or.inl ⟨hc, t', n, q, z, w, j, b', k, a1, a2, by rw [h22 t' (by omega)]; exact a3, a4, a5, a6, a7, a8, by rw [s1]; exact a9, a10, a11, a12, by rw [s1]; exact a13, a14, a15, a16, kc_keep l f b' nf na t' en wt (fun i hi => h22 i (by omega)) h26 h16 h13 (fun i hi => h15 i ?_) hG a17⟩)))))
      rcases hi with hi | hi
      · exact Or.inl hi
      · rw [a16] at hi; cases hi.2
    · obtain ⟨hc, t', n, j, k, a1, a2, a3, a4, a5, a6, a7⟩ := h
      refine Or.inr (Or.inr (Or.inr (Or.inr (Or.inr (Or.inr (Or.inl ⟨hc, t', n, j, k, a1, by rw [h22 t' (by omega)]; exact a2, by rw [s1]; exact a3, a4, a5, a6, kc_keep l f (j + 1) nf na t' en wt (fun i hi => h22 i (by omega)) h26 h16 h13 (fun i hi => h15 i ?_) hG a7⟩))))))
      rcases hi with hi | hi
      · exact Or.inl hi
      · rw [a6] at hi; cases hi.2
    · obtain ⟨hc, t', na', ca, pr, cnt, w, i0, c', n, b2, b', a1, a2, a3, a4, a5, a6, a7, a8, a9, a10, a11, a12, a13, a14, a15, a16, a17, a18, a19, a20, a21, a22, a23, a24⟩ := h
      have hca : ca < f := by cases l <;> exact a24.2.1
      refine Or.inr (Or.inr (Or.inr (Or.inr (Or.inr (Or.inr (Or.inr (Or.inl ⟨hc, t', na', ca, pr, cnt, w, i0, c', n, b2, b', a1, a2, a3, a4, by rw [g2]; exact a5, a6, a7, a8, a9, by rw [h22 t' (by omega), s8]; exact a10, a11, by rw [s1]; exact a12, a13, a14, a15, a16, by rw [s1]; exact a17, a18, a19, by rw [h26 f h2]; exact a20, by rw [(h13 na (by omega)).1, (g_eq (hG ca (by omega)).1).2.1]; exact a21, by rw [(h13 na (by omega)).2]; exact a22, by rw [(g_eq (hG ca (by omega)).1).2.2.2.2.2.1]; exact a23, kc_keep l ca b' f na' t' en wt (fun i hi => h22 i (by omega)) (fun i hi => h26 i (by omega)) h16 (fun i hi => h13 i (by omega)) (fun i hi => h15 i (Or.inl (by omega))) (fun i hi => hG i (by omega)) a24⟩)))))))
    · obtain ⟨hc, hpr0, t', na', ca, b', a1, a2, a3, a4, a5, a6, a7⟩ := h
      have hca : ca < f := by cases l <;> exact a7.2.1
      exact Or.inr (Or.inr (Or.inr (Or.inr (Or.inr (Or.inr (Or.inr (Or.inr (Or.inl ⟨hc, by rw [s1]; exact hpr0, t', na', ca, b', a1, a2, a3, by rw [h22 t' (by omega)]; exact a4, by rw [(h13 na (by omega)).1, (g_eq (hG ca (by omega)).1).2.1]; exact a5, by rw [(h13 na (by omega)).2]; exact a6, kc_keep l ca b' f na' t' en wt (fun i hi => h22 i (by omega)) (fun i hi => h26 i (by omega)) h16 (fun i hi => h13 i (by omega)) (fun i hi => h15 i (Or.inl (by omega))) (fun i hi => hG i (by omega)) a7⟩))))))))
    · obtain ⟨hc, t', n, b0, k, a1, a2, a3, a4, a5, a6, a7⟩ := h
      refine Or.inr (Or.inr (Or.inr (Or.inr (Or.inr (Or.inr (Or.inr (Or.inr (Or.inr (Or.inl ⟨hc, t', n, b0, k, a1, by rw [h22 t' (by omega)]; exact a2, by rw [s1]; exact a3, a4, a5, a6, kc_keep l f (b + 1) nf na t' en wt (fun i hi => h22 i (by omega)) h26 h16 h13 (fun i hi => h15 i ?_) hG a7⟩)))))))))
      rcases hi with hi | hi
      · exact Or.inl hi
      · rw [a6] at hi; cases hi.2
    · obtain ⟨hc, t', a1, a2, a3, a4, a5⟩ := h
      refine Or.inr (Or.inr (Or.inr (Or.inr (Or.inr (Or.inr (Or.inr (Or.inr (Or.inr (Or.inr (Or.inl ⟨hc, t', a1, a2, by rw [h22 t' (by omega)]; exact a3, a4, kc_keep l (f - 1) b f na t' en wt (fun i hi => h22 i (by omega)) (fun i hi => h26 i (by omega)) h16 h13 (fun i hi => h15 i ?_) (fun i hi => hG i (by omega)) a5⟩))))))))))
      rcases hi with hi | hi
      · exact Or.inl hi
      · rw [a4] at hi; cases hi.2
    · obtain ⟨hc, t', x, j, k, b', a1, a2, a3, a4, a5, a6, a7, a8⟩ := h
      refine Or.inr (Or.inr (Or.inr (Or.inr (Or.inr (Or.inr (Or.inr (Or.inr (Or.inr (Or.inr (Or.inr (Or.inl ⟨hc, t', x, j, k, b', a1, a2, by rw [h22 t' (by omega)]; exact a3, by rw [s1]; exact a4, a5, a6, a7, kc_keep l f b' nf na t' en wt (fun i hi => h22 i (by omega)) h26 h16 h13 (fun i hi => h15 i ?_) hG a8⟩)))))))))))
      rcases hi with hi | hi
      · exact Or.inl hi
      · rw [a7] at hi; cases hi.2
    · obtain ⟨hc, a0, b', a1, a2, a3⟩ := h
      refine Or.inr (Or.inr (Or.inr (Or.inr (Or.inr (Or.inr (Or.inr (Or.inr (Or.inr (Or.inr (Or.inr (Or.inr ⟨hc, a0, b', a1, a2, kc_keep l f b' nf na t en wt h22 h26 h16 h13 (fun i hi => h15 i ?_) hG a3⟩)))))))))))
      rcases hi with hi | hi
      · exact Or.inl hi
      · rw [a2] at hi; cases hi.2
/-- what every level has -/
theorem kc_lv {l : List Nat} {f b nf na t en wt : Nat} (h : kc y C R G pd l f b nf na t en wt) : b < ye y ∧ f < nf ∧ nf ≤ 11 * (na + 1) ∧ t ≤ 90 * (na + en + 1) ∧ en ≤ na := by
  cases l with
  | nil => obtain ⟨h1, h2, h3, h4, h5, h6, h7, h8, h9, _⟩ := h; exact ⟨h1, h2, by omega, by omega, by omega⟩
  | cons c l => exact ⟨h.1, h.2.1, h.2.2.1, h.2.2.2.1⟩
theorem kc_S {l : List Nat} {f b nf na t en wt : Nat} (h : kc y C R G pd l f b nf na t en wt) (hv : ve l = false) : pd f = 6 ∧ gr G f + en ≤ na ∧ f + 1 = nf ∧ gi G f = na := by
  cases l with
  | nil => obtain ⟨h1, h2, h3, h4, h5⟩ := h; exact ⟨h3.1, h3.2, h4.1, h4.2⟩
  | cons c l =>
    have hc : ¬ c < 10 := by simpa [ve] using hv
    obtain ⟨h1, h2, h3, h4, h5, h6, h7⟩ := h
    have h5' : pd f = 6 ∧ gr G f + en ≤ na := by rcases h5 with h5 | h5; omega; exact h5
    have h6' : f + 1 = nf ∧ gi G f = na := by rcases h6 with h6 | h6; omega; exact h6
    exact ⟨h5'.1, h5'.2, h6'.1, h6'.2⟩
/-- what follows is no actual -/
theorem kc_na : ∀ (l : List Nat) (f b nf na t en wt : Nat), kc y C R G pd l f b nf na t en wt → ¬ yK y 0 b = 23 ∧ ¬ yK y 0 b = 24
  | [], f, b, nf, na, t, en, wt, h => by
    obtain ⟨_, _, _, _, _, _, _, _, _, h⟩ := h
    rw [h]; decide
  | c :: l, f, b, nf, na, t, en, wt, h => by
    obtain ⟨h1, h2, h3, h4, h5, h6, h⟩ := h
    rcases h with h | h | h | h | h | h | h | h | h | h | h | h | h
    · obtain ⟨hc, t', n, z, j, k, b', a1, a2, a3, a4, a5, a6, a7, a8, a9⟩ := h
      rcases yO_inv a5 with ⟨_, e⟩ | ⟨_, e, _⟩
      · subst e; exact kc_na l f _ nf na t' en wt a9
      · rw [e]; decide
    · obtain ⟨hc, t', n, z, j, k, b', sg, w', a1, a2, a3, a4, a5, a6, _⟩ := h
      rw [a6, show (23 : Int32) = nI 23 from rfl, show (24 : Int32) = nI 24 from rfl, i_eq (by omega) (by omega), i_eq (by omega) (by omega)]
      omega
    · rw [h.2.1]; decide
    · rw [h.2.1]; decide
    · rw [h.2.1]; decide
    · obtain ⟨hc, t', n, q, z, w, j, b', k, a1, a2, a3, a4, _⟩ := h
      rw [a4]; decide
    · obtain ⟨hc, t', n, j, k, a1, a2, ⟨_, _, _, _, _, _, a3, _⟩, _⟩ := h
      rw [a3]; decide
    · obtain ⟨hc, t', na', ca, pr, cnt, w, i0, c', n, b2, b', a1, a2, a3, _⟩ := h
      rw [a3]; decide
    · obtain ⟨hc, _, t', na', ca, b', a1, a2, a3, _⟩ := h
      rw [a3]; decide
    · obtain ⟨hc, t', n, b0, k, a1, a2, ⟨_, _, _, _, _, _, _, _, _, a3, _⟩, _⟩ := h
      rw [a3]; decide
    · obtain ⟨hc, t', a1, a2, a3, a4, a5⟩ := h
      exact kc_na l _ b f na t' en wt a5
    · obtain ⟨hc, t', x, j, k, b', a1, a2, a3, a4, a5⟩ := h
      rcases yQ_inv a4 with ⟨e, _⟩ | ⟨_, _, m, x', e, _⟩
      · omega
      · exact yS_op e
    · rw [h.2.1]; decide
end FRS
