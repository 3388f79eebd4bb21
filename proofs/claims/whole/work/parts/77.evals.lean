/-! ===== expressions: their beginnings ===== -/
section EVS
variable {y : ys_T} {x : xs_T} {x0 fu N : Nat} {C R : ai_S} {j kk : Nat} {G : gg_T} {pd : Nat → Nat} {cs nf na t en wt : Nat} {l : List Nat} {f k n a b : Nat}
/-- what an expression begins from -/
def eb (y : ys_T) (x : xs_T) (fu : Nat) (C R : ai_S) (j kk : Nat) (G : gg_T) (pd : Nat → Nat) (cs nf na t en wt : Nat) (l : List Nat) (f k n a b : Nat) : Prop :=
  iv y (xC x) (xR x) C R G pd fu cs nf na (t + 1) en wt ∧ R 22 t = nI (8 + 16 * n + 16384 * f) ∧ yE y (gs G f) k n a b ∧ kc y C R G pd l f b nf na t en wt ∧ ve l = true ∧ f < nf ∧ pd f = 6 ∧ gr G f + en ≤ na ∧ C 9 4 = nI a ∧ C 9 5 = nI (gi G f) ∧ t + k ≤ 90 * (na + en + 1) ∧ k ≤ 50 ∧ 10 * j + kk + (2 * k + 121 * gr G f) + po l ≤ 4100 * cs
/-- numbers of it -/
theorem eb.bd (h : eb y x fu C R j kk G pd cs nf na t en wt l f k n a b) (hy : yG y x0) : nd7 n ∧ a < b ∧ b < ye y ∧ ye y ≤ 488 ∧ nf ≤ 341 ∧ na ≤ 30 ∧ en ≤ 30 ∧ t < 6000 ∧ cs ≤ fu ∧ fu ≤ 1000 ∧ j < 500000 ∧ kk < 5000000 ∧ gi G f ≤ na ∧ gi G (nf - 1) ≤ 30 := by
  obtain ⟨h1, h2, h3, h4, h5, h6, h7, h8, h9, h10, h11, h12, h13⟩ := h
  obtain ⟨g1, g2, g3, g4⟩ := kc_lv h4
  obtain ⟨_, ⟨_, _, b3, _, _⟩, ⟨_, _, c3⟩, ⟨_, _, d3, _, _⟩, _, _, _, _, f1, f2, f3, f4⟩ := h1
  have := (fo_top f2 h6).2
  have := hy.2.1
  exact ⟨yE_nd h3, yE_lt h3, g1, by omega, by omega, by omega, by omega, by omega, by omega, by omega, by omega, by omega, by omega, by omega⟩
/-- no fuel -/
theorem ev_fuel (hx : xk y x) (h : iv y (xC x) (xR x) C R G pd fu cs nf na (t + 1) en wt) (hl : lr (xz x) (ai_up (ai_up R 0 39 (nI t)) 0 51 1) (kk + 1) → lr (xz x) R kk) : rs x (ai_up (ai_up C 9 4 (nI (a + 1))) 9 3 1) (j + 1) R kk := by
  obtain ⟨_, _, ⟨c1, c2, _⟩, _⟩ := id h
  refine rs_stop (R' := ai_up (ai_up R 0 39 (nI t)) 0 51 1) (k1 := kk + 1) hx h (v := 1) ⟨by decide, by decide⟩ ai_up_s ai_up_s (fun q i p p' => ?_) (fun q i p p' => ?_) ?_ hl
  · rw [ai_up_n (by omega), ai_up_n (by omega)]
  · rw [ai_up_n (by omega), ai_up_n (by omega)]
  · rw [ai_up_n (by omega), ai_up_n (by omega), ai_up_n (by omega), ai_up_n (by omega), c1, c2]
/-- a number -/
theorem go_num (hy : yG y x0) (hx : xk y x) (ih : go y x fu (N + 1)) (hN : N ≤ 10 * j + kk) (h : eb y x fu C R j kk G pd cs nf na t en wt l f k n a b) (g1 : yR y 2 n = 7) (g2 : yK y 0 a = 10) (g3 : yK y 1 a = yR y 5 n) (g4 : yK y 2 a = 0) (g5 : b = a + 1) : rs x C j R kk := by
  obtain ⟨n7, hab, hbe, he, hnf, hna, hen, ht, hcs, hfu, hj, hk, hgi, hgt⟩ := h.bd hy
  obtain ⟨h1, h2, h3, h4, h5, h6, h7, h8, h9, h10, h11, h12, h13⟩ := h
  obtain ⟨y1, y2, y3, y4⟩ := h1.y hx
  obtain ⟨_, ⟨b1, b2, _, b4, b5⟩, ⟨c1, c2, c3⟩, _, _, hw, hen', h39, _⟩ := id h1
  have r2 : (ai_up R 0 39 (nI t)) 2 n = 7 := by rw [ai_up_n (by omega), y4 2 (by omega) (by omega)]; exact g1
  have hM := hx.1
  refine rs_step hM (by omega) b4 (st_wo hM h9 (by omega : a < ye y) he y1 (c := 10) (by rw [y3 0]; exact g2) (by decide) ?_)
  rw [show C 23 a = 0 by rw [y3 2]; exact g4, show C 22 a = yR y 5 n by rw [y3 1]; exact g3]
  refine vX1_workOut hM (vX0_outwards (vX0_outwards_5 ⟨fun _ => ⟨fun _ => ⟨fun hp => ⟨fun _ => ?_, fun hh => absurd hh (by decide)⟩, fun hp => ?_⟩, fun hh => absurd hh (by decide)⟩, fun hh => absurd (Int32.le_refl _) hh⟩))
  · rw [ai_up_n (by omega), ai_up_n (by omega), c1, b1, i_lt (by omega) (by omega)] at hp
    rw [ai_up_n (by omega), c1, nI_1]
    refine rs_ref (R1 := ai_up (ai_up (ai_up R 0 39 (nI t)) 0 53 (nI (cs + 1))) 0 50 (yR y 5 n)) (k1 := kk + 1) (fun hl => ?_) (ih _ _ _ _ (by omega) (Or.inr (Or.inr ⟨G, pd, cs + 1, nf, na, t, en, wt, l, f, b, h1.up (fun q i p p' => ?_) (fun q i p p' p'' => ?_) ⟨?_, ?_, by omega⟩ ⟨?_, ?_, hw.2.2.1, fun i hi => ?_⟩ ?_ ?_, kc_keep l f b nf na t en wt (fun i hi => ?_) (fun i hi => ?_) (fun i hi => ⟨?_, ?_⟩) (fun i hi => ⟨?_, ?_⟩) (fun i hi => ?_) (fun i hi => ⟨rfl, rfl⟩) h4, ?_, ?_, fun _ => ?_, by omega⟩)))
    · refine lr_do (by omega) h39 (by omega) b5 h2 (by omega) (by have := n7.2; omega) (by omega) (pf_8 (vX6_evaluate ⟨i_in n7.2 (by omega), ?_⟩))
      rw [nI_clamp (by have := n7.2; omega)]
      refine ⟨fun hh => absurd r2 hh, fun _ => sp_pay (by rw [ai_up_n (by omega)]; exact b2) (by rw [ai_up_n (by omega)]; exact c2) hfu hcs (fun _ => ai_zt ?_) (fun hh => by omega)⟩
      rw [show (ai_up (ai_up R 0 39 (nI t)) 0 53 (nI (cs + 1))) 5 n = yR y 5 n by rw [ai_up_n (by omega), ai_up_n (by omega), y4 5 (by omega) (by omega)]]
      exact hl
    · rw [ai_up_n (by omega), ai_up_n (by omega), ai_up_n (by omega)]
    · rw [ai_up_n (by omega), ai_up_n (by omega), ai_up_n (by omega)]
    · rw [ai_up_n (by omega), ai_up_s]
    · rw [ai_up_n (by omega), ai_up_s]
    · rw [ai_up_n (by omega), ai_up_n (by omega), ai_up_n (by omega)]; exact hw.1
    · rw [ai_up_n (by omega), ai_up_n (by omega), ai_up_n (by omega)]; exact hw.2.1
    · rw [ai_up_n (by omega), ai_up_n (by omega), ai_up_n (by omega), ai_up_n (by omega), ai_up_n (by omega), ai_up_n (by omega)]; exact hw.2.2.2 i hi
    · rw [ai_up_n (by omega), ai_up_n (by omega), ai_up_n (by omega)]; exact hen'
    · rw [ai_up_n (by omega), ai_up_n (by omega), ai_up_s]
    · rw [ai_up_n (by omega), ai_up_n (by omega), ai_up_n (by omega)]
    · rw [ai_up_n (by omega), ai_up_n (by omega), ai_up_n (by omega)]
    · rw [ai_up_n (by omega), ai_up_n (by omega), ai_up_n (by omega)]
    · rw [ai_up_n (by omega), ai_up_n (by omega), ai_up_n (by omega)]
    · rw [ai_up_n (by omega), ai_up_n (by omega), ai_up_n (by omega)]
    · rw [ai_up_n (by omega), ai_up_n (by omega), ai_up_n (by omega)]
    · rw [ai_up_n (by omega), ai_up_n (by omega), ai_up_n (by omega)]
    · rw [ai_up_n (by omega), ai_up_n (by omega), ai_up_s, g5]
    · rw [ai_up_n (by omega), ai_up_n (by omega), ai_up_n (by omega)]; exact h10
    · rw [ai_up_s, ai_up_s]
  · rw [ai_up_n (by omega), ai_up_n (by omega), c1, b1, i_lt (by omega) (by omega)] at hp
    refine ev_fuel hx h1 (fun hl => lr_do (by omega) h39 (by omega) b5 h2 (by omega) (by have := n7.2; omega) (by omega) (pf_8 (vX6_evaluate ⟨i_in n7.2 (by omega), ?_⟩)))
    rw [nI_clamp (by have := n7.2; omega)]
    exact ⟨fun hh => absurd r2 hh, fun _ => sp_pay (by rw [ai_up_n (by omega)]; exact b2) (by rw [ai_up_n (by omega)]; exact c2) hfu hcs (fun hh => by omega) (fun _ => ai_zf hl)⟩
end EVS
