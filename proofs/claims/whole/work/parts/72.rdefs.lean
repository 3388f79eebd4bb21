/-! ===== running: the program as both sides hold it ===== -/
/-- code, tree, first procedure, end of the code, procedures, their scopes -/
abbrev ys_T : Type := ai_S × ai_S × Nat × Nat × Nat × (Nat → sc_T)
abbrev yK (y : ys_T) : ai_S := y.1
abbrev yR (y : ys_T) : ai_S := y.2.1
abbrev yb (y : ys_T) : Nat := y.2.2.1
abbrev ye (y : ys_T) : Nat := y.2.2.2.1
abbrev yn (y : ys_T) : Nat := y.2.2.2.2.1
abbrev yC (y : ys_T) : Nat → sc_T := y.2.2.2.2.2
def nd7 (n : Nat) : Prop := 0 < n ∧ n < 700
def yE (y : ys_T) (sc : sc_T) (k x a b : Nat) : Prop := cx_E (yK y) (yR y) (yb y) (yC y) sc k nd7 x a b
def yO (y : ys_T) (sc : sc_T) (k j z a b : Nat) : Prop := cx_op (yE y sc k) (yK y) (yR y) j z a b
def yL (y : ys_T) (sc : sc_T) (k j x a b i : Nat) : Prop := cx_li (yE y sc k) (yK y) (yR y) j x a b i
def yS (y : ys_T) (sc : sc_T) (k n a b : Nat) : Prop := cx_S (yK y) (yR y) (yb y) (yC y) k nd7 sc n a b
def yQ (y : ys_T) (sc : sc_T) (k j x a b : Nat) : Prop := cx_sl (yS y sc k) (yR y) j x a b
def yU (y : ys_T) (sc : sc_T) (n a : Nat) (ov of op : Int32) : Prop := cx_us (yK y) (yR y) (yb y) (yC y) sc n a ov of op
section YY
variable {y : ys_T} {sc : sc_T} {k j x a b z i n : Nat}
theorem yE_lt (h : yE y sc k x a b) : a < b := cx_E_lt h
theorem yE_nd (h : yE y sc k x a b) : nd7 x := cx_E_P h
theorem yS_lt (h : yS y sc k x a b) : a < b := cx_S_lt h
theorem yS_nd (h : yS y sc k x a b) : nd7 x := cx_S_P h
theorem yO_le (h : yO y sc k j z a b) : a ≤ b := cx_op_le (fun _ _ _ h => yE_lt h) _ _ _ _ h
theorem yL_le (h : yL y sc k j z a b i) : a ≤ b := cx_li_le (fun _ _ _ h => yE_lt h) _ _ _ _ _ h
theorem yQ_le (h : yQ y sc k j z a b) : a ≤ b := cx_sl_le (fun _ _ _ h => yS_lt h) _ _ _ _ h
theorem yE_inv (h : yE y sc k x a b) : ∃ k', k = k' + 1 ∧ ((yR y 2 x = 7 ∧ yK y 0 a = 10 ∧ yK y 1 a = yR y 5 x ∧ yK y 2 a = 0 ∧ b = a + 1) ∨ (yR y 2 x = 8 ∧ yU y sc x a 11 12 13 ∧ b = a + 1) ∨ (yR y 2 x = 9 ∧ yU y sc x a 15 14 13 ∧ ∃ q, yR y 3 x = nI q ∧ yL y sc k' 6 q (a + 1) b 0) ∨
    ((yR y 2 x = 10 ∨ yR y 2 x = 11 ∨ yR y 2 x = 12) ∧ ∃ q z m, yR y 3 x = nI q ∧ yE y sc k' q a m ∧ yR y 4 q = nI z ∧ yO y sc k' 320 z m b) ∨ (yR y 2 x = 13 ∧ ∃ q, yR y 3 x = nI q ∧ yE y sc k' q a b)) := by
  cases k with
  | zero => exact absurd h id
  | succ k' =>
    have hP : ∀ i, nd7 i ∧ i ≠ x → nd7 i := fun i h => h.1
    obtain ⟨q1, q2, h⟩ := h
    refine ⟨k', rfl, ?_⟩
    rcases h with h | h | ⟨h1, h2, q, h3, h4⟩ | ⟨h1, q, z, m, h3, h4, h5, h6⟩ | ⟨h1, q, h3, h4⟩
    · exact Or.inl h
    · exact Or.inr (Or.inl h)
    · exact Or.inr (Or.inr (Or.inl ⟨h1, h2, q, h3, cx_li_w h4 (Nat.le_refl _) (Nat.le_refl _) hP⟩))
    · exact Or.inr (Or.inr (Or.inr (Or.inl ⟨h1, q, z, m, h3, cx_E_w h4 (Nat.le_refl _) hP, h5, cx_op_w h6 (Nat.le_refl _) (Nat.le_refl _) hP⟩)))
    · exact Or.inr (Or.inr (Or.inr (Or.inr ⟨h1, q, h3, cx_E_w h4 (Nat.le_refl _) hP⟩)))
theorem yE_up {k' : Nat} (h : yE y sc k x a b) (hk : k ≤ k') : yE y sc k' x a b := cx_E_w h hk (fun _ h => h)
theorem yO_inv (h : yO y sc k j z a b) : (z = 0 ∧ a = b) ∨ (0 < z ∧ yK y 0 a = 18 ∧ ∃ j' m z' sg, yE y sc k z (a + 1) m ∧ yR y 4 z = nI z' ∧ yR y 8 z = nI sg ∧ sg < 4 ∧ yK y 0 m = nI (sg + 19) ∧ yO y sc k j' z' (m + 1) b) := by
  cases j with
  | zero => exact Or.inl h
  | succ j' =>
    rcases h with h | ⟨h1, h2, m, z', sg, h3, h4, h5, h6, h7, h8⟩
    · exact Or.inl h
    · exact Or.inr ⟨h1, h2, j', m, z', sg, h3, h4, h5, h6, h7, h8⟩
theorem yQ_inv (h : yQ y sc k j x a b) : (x = 0 ∧ a = b) ∨ (0 < x ∧ ∃ j' m x', yS y sc k x a m ∧ yR y 4 x = nI x' ∧ yQ y sc k j' x' m b) := by
  cases j with
  | zero => exact Or.inl h
  | succ j' =>
    rcases h with h | ⟨h1, m, x', h3, h4, h5⟩
    · exact Or.inl h
    · exact Or.inr ⟨h1, j', m, x', h3, h4, h5⟩
theorem yS_w {P : Nat → Prop} (h : cx_S (yK y) (yR y) (yb y) (yC y) k P sc x a b) (hP : ∀ i, P i → nd7 i) : yS y sc k x a b :=
  cx_S_mono (e0 := a) (e1 := b) (fun _ _ _ _ _ => rfl) k k P nd7 sc x a b sc_ag.rf (sc_hd_of (fun _ => rfl) _) (Nat.le_refl _) hP (fun _ _ => ⟨rfl, rfl, rfl, rfl, rfl⟩) (fun _ _ _ => ⟨rfl, rfl⟩) (Nat.le_refl _) (Nat.le_refl _) h
/-- a loop: the place of its test, that of its jump back -/
def yW (y : ys_T) (sc : sc_T) (k n b0 j : Nat) : Prop := ∃ q z a1, nd7 n ∧ yR y 3 n = nI q ∧ yR y 4 q = nI z ∧ yK y 0 b0 = 4 ∧ yK y 1 b0 = nI (j + 1) ∧ yS y sc k z (b0 + 1) j ∧ yK y 0 j = 3 ∧ yK y 1 j = nI a1 ∧ yE y sc 50 q a1 b0
theorem yS_inv (h : yS y sc k x a b) : ∃ k', k = k' + 1 ∧
    ((yR y 2 x = 1 ∧ cx_tg (yK y) (yR y) (yb y) (yC y) sc x a ∧ ∃ q m, yR y 3 x = nI q ∧ yE y sc 50 q (a + 1) m ∧ yK y 0 m = 9 ∧ b = m + 1) ∨
     (yR y 2 x = 2 ∧ yU y sc x a 15 14 13 ∧ ∃ q, yR y 3 x = nI q ∧ yL y sc 50 6 q (a + 1) b 0) ∨
     (yR y 2 x = 3 ∧ yK y 0 a = 1 ∧ ∃ q m, yR y 3 x = nI q ∧ yE y sc 50 q (a + 1) m ∧ yK y 0 m = 5 ∧ b = m + 1) ∨
     (yR y 2 x = 4 ∧ yK y 0 a = 1 ∧ ∃ q z w m j, yR y 3 x = nI q ∧ yE y sc 50 q (a + 1) m ∧ yK y 0 m = 4 ∧ yK y 1 m = nI (j + 1) ∧ yR y 4 q = nI z ∧ yS y sc k' z (m + 1) j ∧ yK y 0 j = 3 ∧ yK y 1 j = nI b ∧ yR y 4 z = nI w ∧ yS y sc k' w (j + 1) b) ∨
     (yR y 2 x = 5 ∧ yK y 0 a = 1 ∧ ∃ q m j, yR y 3 x = nI q ∧ yE y sc 50 q (a + 1) m ∧ yW y sc k' x m j ∧ b = j + 1) ∨
     (yR y 2 x = 6 ∧ yK y 0 a = 2 ∧ ∃ bs cnt c q : Nat, yK y 1 a = nI bs ∧ yR y 5 x = nI cnt ∧ yK y 2 a = nI cnt ∧ cnt ≤ 24 ∧ bs + cnt ≤ 31 ∧ sc_tp (yR y) sc bs ∧ a < c ∧ cx_dj (yK y) 16 (a + 1) c ∧ yR y 3 x = nI q ∧ yQ y ((0, bs, x) :: sc) k' 320 q c b)) := by
  cases k with
  | zero => exact absurd h id
  | succ k' =>
    have hP : ∀ i, nd7 i ∧ i ≠ x → nd7 i := fun i h => h.1
    obtain ⟨q1, q2, h⟩ := h
    refine ⟨k', rfl, ?_⟩
    rcases h with ⟨g1, g2, q, m, g3, g4, g5, g6⟩ | ⟨g1, g2, q, g3, g4⟩ | ⟨g1, g2, q, m, g3, g4, g5, g6⟩ | ⟨g1, g2, q, z, w, m, j, g3, g4, g5, g6, g7, g8, g9, g10, g11, g12⟩ | ⟨g1, g2, q, z, m, j, g3, g4, g5, g6, g7, g8, g9, g10, g11⟩ | ⟨g1, g2, bs, cnt, c, q, g3, g4, g5, g6, g7, g8, g9, g10, g11, g12⟩
    · exact Or.inl ⟨g1, g2, q, m, g3, cx_E_w g4 (Nat.le_refl _) hP, g5, g6⟩
    · exact Or.inr (Or.inl ⟨g1, g2, q, g3, cx_li_w g4 (Nat.le_refl _) (Nat.le_refl _) hP⟩)
    · exact Or.inr (Or.inr (Or.inl ⟨g1, g2, q, m, g3, cx_E_w g4 (Nat.le_refl _) hP, g5, g6⟩))
    · exact Or.inr (Or.inr (Or.inr (Or.inl ⟨g1, g2, q, z, w, m, j, g3, cx_E_w g4 (Nat.le_refl _) hP, g5, g6, g7, yS_w g8 hP, g9, g10, g11, yS_w g12 hP⟩)))
    · exact Or.inr (Or.inr (Or.inr (Or.inr (Or.inl ⟨g1, g2, q, m, j, g3, cx_E_w g4 (Nat.le_refl _) hP, ⟨q, z, a + 1, q1, g3, g7, g5, by rw [g6, g11], yS_w g8 hP, g9, g10, cx_E_w g4 (Nat.le_refl _) hP⟩, g11⟩))))
    · exact Or.inr (Or.inr (Or.inr (Or.inr (Or.inr ⟨g1, g2, bs, cnt, c, q, g3, g4, g5, g6, g7, g8, g9, g10, g11, cx_sl_mono (e0 := c) (e1 := b) (fun _ _ _ h => cx_S_lt h) (fun _ _ _ _ _ h => ⟨yS_w h hP, rfl⟩) 320 320 q c b (Nat.le_refl _) (Nat.le_refl _) (Nat.le_refl _) g12⟩))))
/-- what a statement begins with -/
theorem yU_op {ov of op : Int32} (h : yU y sc n a ov of op) : yK y 0 a = ov ∨ yK y 0 a = of ∨ yK y 0 a = op := by
  obtain ⟨kd, _, h⟩ := h
  rcases h with ⟨_, h⟩ | ⟨_, h⟩ | ⟨_, h⟩
  · exact Or.inl h
  · exact Or.inr (Or.inl h)
  · exact Or.inr (Or.inr h)
theorem yS_op (h : yS y sc k x a b) : ¬ yK y 0 a = 23 ∧ ¬ yK y 0 a = 24 := by
  obtain ⟨k', _, h⟩ := yS_inv h
  rcases h with ⟨_, ⟨kd, sl, hp, _, h⟩, _⟩ | ⟨_, h, _⟩ | ⟨_, h, _⟩ | ⟨_, h, _⟩ | ⟨_, h, _⟩ | ⟨_, h, _⟩
  · rcases h with ⟨_, h, _⟩ | ⟨_, h, _⟩ | ⟨_, pr, _, _, h⟩
    · rw [h]; decide
    · rw [h]; decide
    · rcases h with ⟨o, _, h, _⟩ | ⟨h, _⟩
      · rw [h]; decide
      · rw [h]; decide
  · rcases yU_op h with h | h | h <;> rw [h] <;> decide
  all_goals rw [h]; decide
/-- a procedure -/
def yP (y : ys_T) (pr : Nat) : Prop := ∃ a c b n cnt w : Nat, yK y 3 pr = nI a ∧ yK y 4 pr = nI cnt ∧ yR y 10 (yb y + pr) = nI cnt ∧ cnt ≤ 6 ∧ yR y 11 (yb y + pr) = nI w ∧ w < 64 ∧ cx_pl (yK y) w cnt 0 a c ∧ yR y 9 (yb y + pr) = nI n ∧ yS y ((pr + 1, 0, 0) :: yC y pr) 10 n c b ∧ yK y 0 b = 17 ∧ b < ye y
/-- a program -/
def yG (y : ys_T) (x0 : Nat) : Prop := (∃ e0, yS y [] 10 x0 0 e0 ∧ yK y 0 e0 = 0 ∧ e0 < ye y) ∧ ye y ≤ 488 ∧ yn y ≤ 16 ∧ yb y ≤ 16 ∧ (∀ q, q < yn y → yP y q) ∧ (∀ q, q < yn y → sc_cl (yC y q) ≤ 9 ∧ yC y q ≠ []) ∧ ∀ q, yn y ≤ q → yC y q = []
end YY
theorem yG_of {K R : ai_S} {hf x e np : Nat} (hh : hf ≤ 1) (h : PG K R hf x e np) : ∃ SC, yG (K, R, 16 * hf, e, np, SC) x := by
  obtain ⟨SC, e0, nn, h1, h2, h3, h4, h5, h6, h7, h8, h9⟩ := h
  have hP : ∀ i, nr hf 0 nn i → nd7 i := fun i hi => ⟨by have := hi.1; omega, by have := hi.2; omega⟩
  refine ⟨SC, ⟨e0, yS_w h1 hP, h2, by show e0 < e; omega⟩, h4, h6, by show 16 * hf ≤ 16; omega, fun q hq => ?_, fun q hq => (h8 q hq).2, h9⟩
  obtain ⟨a, c, b, n, cnt, w, g1, g2, g3, g4, g5, g6, g7, g8, g9, g10, g11⟩ := h7 q hq
  exact ⟨a, c, b, n, cnt, w, g1, g2, g3, g4, g5, g6, g7, g8, yS_w g9 hP, g10, g11⟩
/-! ===== frames ===== -/
/-- scope, the class's frame, first cell, first slot, count, rank, which cells hold values, actuals (node, head) -/
abbrev gf_T : Type := sc_T × Nat × Nat × Nat × Nat × Nat × (Nat → Bool) × (Nat → Nat × Nat)
abbrev gg_T : Type := Nat → gf_T
abbrev gs (G : gg_T) (f : Nat) : sc_T := (G f).1
abbrev gi (G : gg_T) (f : Nat) : Nat := (G f).2.1
abbrev gb (G : gg_T) (f : Nat) : Nat := (G f).2.2.1
abbrev gc (G : gg_T) (f : Nat) : Nat := (G f).2.2.2.1
abbrev gn (G : gg_T) (f : Nat) : Nat := (G f).2.2.2.2.1
abbrev gr (G : gg_T) (f : Nat) : Nat := (G f).2.2.2.2.2.1
abbrev gk (G : gg_T) (f : Nat) : Nat → Bool := (G f).2.2.2.2.2.2.1
abbrev ga (G : gg_T) (f : Nat) : Nat → Nat × Nat := (G f).2.2.2.2.2.2.2
/-- an actual: as both sides hold it -/
def ar (y : ys_T) (C R : ai_S) (G : gg_T) (pd : Nat → Nat) (f ca cnt w i : Nat) : Prop :=
  nd7 (ga G f i).1 ∧ yR y 8 (ga G f i).1 = nI i ∧ yR y 4 (ga G f i).1 = nI (if i + 1 < cnt then (ga G f (i + 1)).1 else 0) ∧ (ga G f i).2 < ye y ∧
  (yR y 2 (ga G f i).1 = 8 ∧ yK y 0 (ga G f i).2 = 24 ∨ ¬ yR y 2 (ga G f i).1 = 8 ∧ yK y 0 (ga G f i).2 = 23) ∧ (∃ m, yE y (gs G ca) 50 (ga G f i).1 ((ga G f i).2 + 1) m ∧ m < ye y ∧ yK y 0 m = 25) ∧
  (w.testBit i = false → R 27 (gb G f + 1 + i) = nI (ga G f i).1 ∧ R 28 (gb G f + 1 + i) = nI ca ∧ C 11 (31 * gi G f + 1 + i) = nI (ga G f i).2) ∧
  (w.testBit i = true → pd f ≤ i → C 11 (31 * gi G f + 1 + i) = nI (ga G f i).2)
def fr (y : ys_T) (C R : ai_S) (G : gg_T) (pd : Nat → Nat) (f : Nat) : Prop :=
  R 25 f = nI (gb G f) ∧ gb G f ≤ 31 * gi G f + gc G f ∧ gc G f + gn G f ≤ 31 ∧
  (∀ v, v < gn G f → gk G f v = true → pd f = 6 ∨ v ≤ pd f → C 11 (31 * gi G f + gc G f + v) = R 27 (gb G f + v)) ∧
  ((f = 0 ∧ gs G f = [] ∧ gi G f = 0 ∧ gb G f = 0 ∧ gn G f = 0 ∧ gr G f = 0 ∧ pd f = 6 ∧ gc G f = 0) ∨
   (∃ nd, 0 < f ∧ gs G f = (0, gc G f, nd) :: gs G (f - 1) ∧ R 23 f = nI (f - 1) ∧ R 24 f = -1 ∧ gi G f = gi G (f - 1) ∧ yR y 5 nd = nI (gn G f) ∧ gr G f = gr G (f - 1) ∧ gc G (f - 1) + gn G (f - 1) ≤ gc G f ∧ gb G (f - 1) + gn G (f - 1) = gb G f ∧ pd (f - 1) = 6 ∧ pd f = 6 ∧ ∀ v, gk G f v = true) ∨
   (∃ pr o ca cnt w, 0 < f ∧ pr < yn y ∧ gs G f = (pr + 1, 0, 0) :: yC y pr ∧ gs G o = yC y pr ∧ R 23 f = nI o ∧ o < f ∧ R 24 f = nI (yb y + pr) ∧ R 26 f = nI ca ∧ ca < f ∧ gi G f = gi G (f - 1) + 1 ∧ C 12 (gi G f) = nI (gi G o) ∧ C 13 (gi G f) = nI (gi G ca) ∧ gr G f = gr G ca + 1 ∧ gr G o ≤ gr G ca ∧ gc G f = 0 ∧ gn G f = cnt + 1 ∧ yR y 10 (yb y + pr) = nI cnt ∧ cnt ≤ 6 ∧ yR y 11 (yb y + pr) = nI w ∧ w < 64 ∧ pd o = 6 ∧ pd ca = 6 ∧ gb G (f - 1) + gn G (f - 1) = gb G f ∧ (∀ v, gk G f v = (decide (v = 0) || w.testBit (v - 1))) ∧ pd f ≤ 6 ∧ ∀ i, i < cnt → ar y C R G pd f ca cnt w i))
def FR (y : ys_T) (C R : ai_S) (G : gg_T) (pd : Nat → Nat) (nf : Nat) : Prop := 0 < nf ∧ ∀ f, f < nf → fr y C R G pd f
/-! ===== what is still to be done ===== -/
/-- a value is awaited -/
def ve : List Nat → Bool
  | [] => false
  | c :: _ => decide (c < 10)
def kc (y : ys_T) (C R : ai_S) (G : gg_T) (pd : Nat → Nat) : List Nat → Nat → Nat → Nat → Nat → Nat → Nat → Nat → Prop
  | [], f, b, nf, na, t, en, wt => b < ye y ∧ f < nf ∧ (pd f = 6 ∧ gr G f + en ≤ na) ∧ (f + 1 = nf ∧ gi G f = na) ∧ nf = 1 ∧ na = 0 ∧ t = 0 ∧ en = 0 ∧ wt = 0 ∧ yK y 0 b = 0
  | c :: l, f, b, nf, na, t, en, wt => b < ye y ∧ f < nf ∧ nf ≤ 11 * (na + 1) ∧ (t ≤ 90 * (na + en + 1) ∧ en ≤ na) ∧ (c = 7 ∨ (pd f = 6 ∧ gr G f + en ≤ na)) ∧ (c < 3 ∨ (f + 1 = nf ∧ gi G f = na)) ∧
    ((c = 0 ∧ ∃ t' n z j k b', t = t' + 1 ∧ nd7 n ∧ R 22 t' = nI (9 + 16 * n + 16384 * f) ∧ yR y 4 n = nI z ∧ yO y (gs G f) k j z b b' ∧ t + k ≤ 90 * (na + en + 1) ∧ k < 50 ∧ ve l = true ∧ kc y C R G pd l f b' nf na t' en wt) ∨
     (c = 1 ∧ ∃ t' n z j k b' sg w', t = t' + 1 ∧ nd7 n ∧ R 22 t' = nI (10 + 16 * n + 16384 * f) ∧ yR y 8 n = nI sg ∧ sg < 4 ∧ yK y 0 b = nI (sg + 19) ∧ yR y 4 n = nI z ∧ yO y (gs G f) k j z (b + 1) b' ∧ wt = w' + 1 ∧ t + k ≤ 90 * (na + en + 1) ∧ k < 50 ∧ ve l = true ∧ kc y C R G pd l f b' nf na t' en w') ∨
     (c = 2 ∧ yK y 0 b = 25 ∧ ∃ en' f' b', en = en' + 1 ∧ C 16 en' = nI b' ∧ C 17 en' = nI (gi G f') ∧ ve l = true ∧ kc y C R G pd l f' b' nf na t en' wt) ∨
     (c = 3 ∧ yK y 0 b = 9 ∧ ∃ t' f2 v, t = t' + 1 ∧ R 22 t' = nI (1 + 16 * (gb G f2 + v)) ∧ f2 < nf ∧ v < gn G f2 ∧ gk G f2 v = true ∧ pd f2 = 6 ∧ C 15 na = nI (31 * gi G f2 + gc G f2 + v) ∧ ve l = false ∧ kc y C R G pd l f (b + 1) nf na t' en wt) ∨
     (c = 4 ∧ yK y 0 b = 5 ∧ ∃ t', t = t' + 1 ∧ R 22 t' = nI 2 ∧ ve l = false ∧ kc y C R G pd l f (b + 1) nf na t' en wt) ∨
     (c = 5 ∧ ∃ t' n q z w j b' k, t = t' + 1 ∧ nd7 n ∧ R 22 t' = nI (3 + 16 * n + 16384 * f) ∧ yK y 0 b = 4 ∧ yK y 1 b = nI (j + 1) ∧ yR y 3 n = nI q ∧ nd7 q ∧ yR y 4 q = nI z ∧ yS y (gs G f) k z (b + 1) j ∧ yK y 0 j = 3 ∧ yK y 1 j = nI b' ∧ yR y 4 z = nI w ∧ yS y (gs G f) k w (j + 1) b' ∧ t' + 2 * k + 53 ≤ 90 * (na + en + 1) ∧ nf + k ≤ 11 * (na + 1) ∧ ve l = false ∧ kc y C R G pd l f b' nf na t' en wt) ∨
     (c = 6 ∧ ∃ t' n j k, t = t' + 1 ∧ R 22 t' = nI (4 + 16 * n + 16384 * f) ∧ yW y (gs G f) k n b j ∧ t' + 2 * k + 55 ≤ 90 * (na + en + 1) ∧ nf + k ≤ 11 * (na + 1) ∧ ve l = false ∧ kc y C R G pd l f (j + 1) nf na t' en wt) ∨
     (c = 7 ∧ ∃ t' na' ca pr cnt w i c' n b2 b', t = t' + 1 ∧ na = na' + 1 ∧ yK y 0 b = 16 ∧ yK y 1 b = nI (i + 1) ∧ pd f = i ∧ w.testBit i = true ∧ i < cnt ∧ cnt ≤ 6 ∧ w < 64 ∧ R 22 t' = nI (12 + 16 * (ga G f i).1 + 16384 * f) ∧ pr < yn y ∧ gs G f = (pr + 1, 0, 0) :: yC y pr ∧ yR y 10 (yb y + pr) = nI cnt ∧ yR y 11 (yb y + pr) = nI w ∧ cx_pl (yK y) w (cnt - (i + 1)) (i + 1) (b + 1) c' ∧ yR y 9 (yb y + pr) = nI n ∧ yS y (gs G f) 10 n c' b2 ∧ yK y 0 b2 = 17 ∧ b2 < ye y ∧ R 26 f = nI ca ∧ C 13 na = nI (gi G ca) ∧ C 14 na = nI b' ∧ gr G ca + en ≤ na' ∧ kc y C R G pd l ca b' f na' t' en wt) ∨
     (c = 10 ∧ (∃ pr, gs G f = (pr + 1, 0, 0) :: yC y pr) ∧ ∃ t' na' ca b', t = t' + 1 ∧ na = na' + 1 ∧ yK y 0 b = 17 ∧ R 22 t' = nI (13 + 16384 * f) ∧ C 13 na = nI (gi G ca) ∧ C 14 na = nI b' ∧ kc y C R G pd l ca b' f na' t' en wt) ∨
     (c = 11 ∧ ∃ t' n b0 k, t = t' + 1 ∧ R 22 t' = nI (5 + 16 * n + 16384 * f) ∧ yW y (gs G f) k n b0 b ∧ t' + 2 * k + 55 ≤ 90 * (na + en + 1) ∧ nf + k ≤ 11 * (na + 1) ∧ ve l = false ∧ kc y C R G pd l f (b + 1) nf na t' en wt) ∨
     (c = 12 ∧ ∃ t', t = t' + 1 ∧ 0 < f ∧ R 22 t' = nI (6 + 16384 * f) ∧ ve l = false ∧ kc y C R G pd l (f - 1) b f na t' en wt) ∨
     (c = 13 ∧ ∃ t' x j k b', t = t' + 1 ∧ 0 < x ∧ R 22 t' = nI (7 + 16 * x + 16384 * f) ∧ yQ y (gs G f) k j x b b' ∧ t' + 2 * k + 54 ≤ 90 * (na + en + 1) ∧ nf + k ≤ 11 * (na + 1) ∧ ve l = false ∧ kc y C R G pd l f b' nf na t' en wt) ∨
     (c = 14 ∧ yK y 0 b = 3 ∧ ∃ b', yK y 1 b = nI b' ∧ ve l = false ∧ kc y C R G pd l f b' nf na t en wt))
/-- what is laid by for it -/
def po : List Nat → Nat
  | [] => 0
  | c :: l => (match c with | 0 => 1 | 1 => 11 | 2 => 10 | 3 => 11 | 4 => 11 | 5 => 21 | 6 => 11 | 7 => 0 | 10 => 11 | 11 => 22 | 12 => 1 | 13 => 1 | 14 => 10 | _ => 0) + po l
/-- what holds of both memories at each turn -/
def iv (y : ys_T) (C0 R0 C R : ai_S) (G : gg_T) (pd : Nat → Nat) (fu cs nf na t en wt : Nat) : Prop :=
  ((∀ q, q < 9 ∨ 19 < q → C q = C0 q) ∧ (∀ q, 1 ≤ q → q ≤ 21 → R q = R0 q) ∧ ∀ j, j < 39 → R 0 j = R0 0 j) ∧
  (C 9 1 = nI fu ∧ R 0 52 = nI fu ∧ fu ≤ 1000 ∧ C 9 3 = -1 ∧ R 0 51 = 0) ∧ (C 9 2 = nI cs ∧ R 0 53 = nI cs ∧ cs ≤ fu) ∧
  (C 10 5 = nI na ∧ R 0 54 = nI na ∧ na ≤ 30 ∧ C 10 6 = R 0 55 ∧ C 10 7 = R 0 56) ∧
  (∃ pc, C 9 14 = nI pc ∧ R 0 57 = nI pc ∧ pc ≤ 32 ∧ ∀ i, i < pc → C 19 i = R 30 i) ∧
  (C 9 12 = nI wt ∧ R 0 49 = nI wt ∧ wt ≤ 100 ∧ ∀ i, i < wt → C 18 i = R 29 i) ∧
  C 9 10 = nI en ∧ R 0 39 = nI t ∧
  (R 0 46 = nI nf ∧ FR y C R G pd nf ∧ R 0 47 = nI (gb G (nf - 1) + gn G (nf - 1)) ∧ gi G (nf - 1) = na)
/-- before an expression, a statement; behind one -/
def sE (y : ys_T) (C0 R0 : ai_S) (fu : Nat) (C R : ai_S) (j kk : Nat) : Prop := ∃ (G : gg_T) (pd : Nat → Nat) (cs nf na t en wt : Nat) (l : List Nat) (f k n a b : Nat),
  iv y C0 R0 C R G pd fu cs nf na (t + 1) en wt ∧ R 22 t = nI (8 + 16 * n + 16384 * f) ∧ yE y (gs G f) k n a b ∧ kc y C R G pd l f b nf na t en wt ∧ ve l = true ∧ f < nf ∧ pd f = 6 ∧ gr G f + en ≤ na ∧ C 9 4 = nI a ∧ C 9 5 = nI (gi G f) ∧ t + k ≤ 90 * (na + en + 1) ∧ k ≤ 50 ∧ 10 * j + kk + (2 * k + 121 * gr G f) + po l ≤ 4100 * cs
def sS' (y : ys_T) (C0 R0 : ai_S) (fu : Nat) (C R : ai_S) (j kk : Nat) : Prop := ∃ (G : gg_T) (pd : Nat → Nat) (cs nf na t en wt : Nat) (l : List Nat) (f k n a b : Nat),
  iv y C0 R0 C R G pd fu cs nf na (t + 1) en wt ∧ R 22 t = nI (0 + 16 * n + 16384 * f) ∧ yS y (gs G f) k n a b ∧ kc y C R G pd l f b nf na t en wt ∧ ve l = false ∧ f + 1 = nf ∧ C 9 4 = nI a ∧ C 9 5 = nI (gi G f) ∧ t + 2 * k + 53 ≤ 90 * (na + en + 1) ∧ nf + k ≤ 11 * (na + 1) ∧ 10 * j + kk + po l ≤ 4100 * cs
def sR' (y : ys_T) (C0 R0 : ai_S) (fu : Nat) (C R : ai_S) (j kk : Nat) : Prop := ∃ (G : gg_T) (pd : Nat → Nat) (cs nf na t en wt : Nat) (l : List Nat) (f b : Nat),
  iv y C0 R0 C R G pd fu cs nf na t en wt ∧ kc y C R G pd l f b nf na t en wt ∧ C 9 4 = nI b ∧ C 9 5 = nI (gi G f) ∧ (ve l = true → C 9 6 = R 0 50) ∧ 10 * j + kk + 3800 + po l ≤ 4100 * cs
