/-! ===== names: from a frame outwards ===== -/
section NMS
variable {y : ys_T} {C R : ai_S} {G : gg_T} {pd : Nat → Nat} {nf f : Nat}
theorem fo_sc {x0 : Nat} (hy : yG y x0) (h : FR y C R G pd nf) : ∀ f, f < nf → (gs G f).length ≤ f ∧ sc_cl (gs G f) ≤ 10 := by
  intro f
  induction f using Nat.strongRecOn with
  | ind f ih =>
    intro hf
    obtain ⟨_, _, _, _, h2⟩ := h.2 f hf
    rcases h2 with ⟨_, h2, _⟩ | ⟨nd, h0, h2, _⟩ | ⟨pr, o, ca, cnt, w, h0, h1, h2, h3, h4, h5, _⟩
    · rw [h2]; exact ⟨Nat.zero_le _, Nat.zero_le _⟩
    · have := ih (f - 1) (by omega) (by omega)
      rw [h2]
      simp only [List.length_cons, sc_cl, if_pos]
      omega
    · have := ih o h5 (by omega)
      have h6 := (hy.2.2.2.2.2.1 pr h1).1
      rw [h3] at this
      rw [h2]
      simp only [List.length_cons, sc_cl]
      rw [if_neg (by omega)]
      omega
theorem fo_up (h : FR y C R G pd nf) (hf : f < nf) {s : Nat × Nat × Nat} {rest : sc_T} (hs : gs G f = s :: rest) : ∃ f', f' < f ∧ R 23 f = nI f' ∧ gs G f' = rest ∧ gr G f' ≤ gr G f ∧ pd f' = 6 ∧ ((s.1 = 0 ∧ gi G f' = gi G f) ∨ (s.1 ≠ 0 ∧ C 12 (gi G f) = nI (gi G f'))) := by
  obtain ⟨_, _, _, _, h2⟩ := h.2 f hf
  rcases h2 with ⟨_, h2, _⟩ | ⟨nd, h0, h2, h3, h4, h5, h6, h7, h8, h9, h10, _⟩ | ⟨pr, o, ca, cnt, w, h0, h1, h2, h3, h4, h5, h6, h7, h8, h9, h10, h11, h12, h13, h14, h15, h16, h17, h18, h19, h20, _⟩
  · rw [h2] at hs; cases hs
  · rw [h2] at hs
    cases hs
    exact ⟨f - 1, by omega, h3, rfl, by omega, h10, Or.inl ⟨rfl, h5.symm⟩⟩
  · rw [h2] at hs
    cases hs
    exact ⟨o, h5, h4, h3, by omega, h20, Or.inr ⟨by simp, h10⟩⟩
/-- the way outwards -/
def pth (R : ai_S) : Nat → Nat → Nat → Prop
  | 0, f, f' => f' = f
  | o + 1, f, f' => ∃ g, g < f ∧ R 23 f = nI g ∧ pth R o g f'
theorem fo_out (h : FR y C R G pd nf) (hnf : nf ≤ 400) (hg : gi G (nf - 1) ≤ 30) : ∀ (o f : Nat), f < nf → o < (gs G f).length → ∃ f', f' ≤ f ∧ gs G f' = (gs G f).drop o ∧ gr G f' ≤ gr G f ∧ (pd f = 6 → pd f' = 6) ∧
    (∀ (R' : ai_S) (l : Launch) (D : va_G) (ρ : Nat → Nat) (τ : Nat → ClassId) (u : Nat) (V : ai_V) (Gp : Int32 → ai_S → Prop) (jj : Nat), R' 23 = R 23 → jj + o ≤ 400 → Gp (nI f') R' → ai_W (uM l D ρ τ) u mX6_outward 5 [(0, .ref 0), (2, .int (nI (jj + o))), (3, .int (nI f)), (4, .int (nI jj))] [] R' V (ai_qi V Gp)) ∧
    (∀ (C' : ai_S) (l : Launch) (D : va_G) (ρ : Nat → Nat) (τ : Nat → ClassId) (u : Nat) (V : ai_V) (Gp : Int32 → ai_S → Prop) (jj : Nat), C' 12 = C 12 → jj + sc_cl ((gs G f).take o) ≤ 10 → Gp (nI (gi G f')) C' → ai_W (uN l D ρ τ) (u + 1) mX0_outwards 5 [(0, .ref 10), (2, .int (nI (jj + sc_cl ((gs G f).take o)))), (3, .int (nI (gi G f))), (4, .int (nI jj))] [] C' V (ai_qi V Gp)) ∧ pth R o f f' := by
  intro o
  induction o with
  | zero =>
    intro f hf ho
    refine ⟨f, Nat.le_refl _, by simp, Nat.le_refl _, id, fun R' l D ρ τ u V Gp jj hR hj hG => ?_, fun C' l D ρ τ u V Gp jj hC hj hG => ?_, rfl⟩
    · exact vX6_outward_5 ⟨fun _ => hG, fun hh => absurd (Int32.le_refl _) hh⟩
    · exact vX0_outwards_5 ⟨fun _ => hG, fun hh => absurd (by simp [sc_cl, Int32.le_refl]) hh⟩
  | succ o ih =>
    intro f hf ho
    cases hs : gs G f with
    | nil => rw [hs] at ho; simp at ho
    | cons s rest =>
      rw [hs] at ho
      obtain ⟨g, g1, g2, g3, g4, g5, g6⟩ := fo_up h hf hs
      obtain ⟨f', a1, a2, a3, a4, a5, a6, a7⟩ := ih g (by omega) (by rw [g3]; simpa using ho)
      have hgf := (fo_top h hf).2
      refine ⟨f', by omega, by rw [a2, g3]; simp, by omega, fun _ => a4 g5, fun R' l D ρ τ u V Gp jj hR hj hG => ?_, fun C' l D ρ τ u V Gp jj hC hj hG => ?_, g, g1, g2, a7⟩
      · refine vX6_outward_5 ⟨fun hh => absurd hh ?_, fun _ => ⟨i_in (by omega) (by omega), ?_⟩⟩
        · rw [i_le (by omega) (by omega)]; omega
        · rw [nI_clamp (by omega), hR, g2, nI_1, show jj + (o + 1) = (jj + 1) + o by omega]
          exact a5 R' l D ρ τ u V Gp (jj + 1) hR (by omega) hG
      · rw [List.take_succ_cons] at hj ⊢
        rcases g6 with ⟨b1, b2⟩ | ⟨b1, b2⟩
        · have e : sc_cl (s :: rest.take o) = sc_cl (rest.take o) := by simp [sc_cl, b1]
          rw [e] at hj ⊢
          have := a6 C' l D ρ τ u V Gp jj hC (by rw [g3]; exact hj) hG
          rw [g3, b2] at this
          exact this
        · have e : sc_cl (s :: rest.take o) = 1 + sc_cl (rest.take o) := by simp [sc_cl, b1]
          rw [e] at hj ⊢
          refine vX0_outwards_5 ⟨fun hh => absurd hh ?_, fun _ => ⟨?_, nI_pos (by omega), ?_, i_in (by omega) (by omega), ?_⟩⟩
          · rw [i_le (by omega) (by omega)]; omega
          · rw [show (10 : Int32) = nI 10 from rfl, i_le (by omega) (by omega)]; omega
          · rw [show (31 : Int32) = nI 31 from rfl, i_le (by omega) (by omega)]; omega
          · rw [nI_clamp (by omega), hC, b2, nI_1, show jj + (1 + sc_cl (rest.take o)) = (jj + 1) + sc_cl (rest.take o) by omega]
            have := a6 C' l D ρ τ u V Gp (jj + 1) hC (by rw [g3]; omega) hG
            rw [g3] at this
            exact this
/-- where a name leads to: the frame, and both ways there -/
def nmw (C R : ai_S) (G : gg_T) (f f' : Nat) (ou hp : Int32) : Prop :=
  (∀ (R' : ai_S) (l : Launch) (D : va_G) (ρ : Nat → Nat) (τ : Nat → ClassId) (u : Nat) (V : ai_V) (Gp : Int32 → ai_S → Prop), R' 23 = R 23 → Gp (nI f') R' → ai_met (uM l D ρ τ) u mX6_outward [.ref 0, .int (nI f), .int ou] R' V (ai_qi V Gp)) ∧
  (∀ (C' : ai_S) (l : Launch) (D : va_G) (ρ : Nat → Nat) (τ : Nat → ClassId) (u : Nat) (V : ai_V) (Gp : Int32 → ai_S → Prop), C' 12 = C 12 → Gp (nI (gi G f')) C' → ai_met (uN l D ρ τ) (u + 1) mX0_outwards [.ref 10, .int (nI (gi G f)), .int hp] C' V (ai_qi V Gp))
/-- a call's frame -/
def cf (y : ys_T) (C R : ai_S) (G : gg_T) (pd : Nat → Nat) (f ca cnt w : Nat) : Prop := ca < f ∧ gc G f = 0 ∧ gn G f = cnt + 1 ∧ cnt ≤ 6 ∧ R 26 f = nI ca ∧ C 13 (gi G f) = nI (gi G ca) ∧ gr G f = gr G ca + 1 ∧ pd ca = 6 ∧ w < 64 ∧ ∀ i, i < cnt → ar y C R G pd f ca cnt w i
/-- what a name is, in this frame -/
def nmk (y : ys_T) (C R : ai_S) (G : gg_T) (pd : Nat → Nat) (f' : Nat) (w pl kd sl : Int32) : Prop :=
  (kd = 0 ∧ (w = 1 ∨ w = 3) ∧ ∃ v, pl = nI v ∧ v < gn G f' ∧ gk G f' v = true ∧ sl = nI (gc G f' + v)) ∨
  (kd = 1 ∧ w = 4 ∧ ∃ i ca cnt ww, pl = nI (i + 1) ∧ sl = nI (i + 1) ∧ i < cnt ∧ ww.testBit i = false ∧ cf y C R G pd f' ca cnt ww) ∨
  (kd = 2 ∧ w = 2 ∧ ∃ pr, pr < yn y ∧ pl = nI (yb y + pr) ∧ sl = nI pr ∧ gs G f' = yC y pr)
theorem fo_nm {x0 : Nat} (hy : yG y x0) (h : FR y C R G pd nf) (hnf : nf ≤ 400) (hg : gi G (nf - 1) ≤ 30) (hf : f < nf) (hp6 : pd f = 6) {w pl ou kd sl hp : Int32} (hr : cx_rs (yR y) (yb y) (yC y) (gs G f) w pl ou kd sl hp) :
    ∃ f', f' ≤ f ∧ gr G f' ≤ gr G f ∧ pd f' = 6 ∧ nmw C R G f f' ou hp ∧ nmk y C R G pd f' w pl kd sl := by
  obtain ⟨o, s, r1, r2, r3, r4⟩ := hr
  obtain ⟨ho, hos⟩ := List.getElem?_eq_some_iff.mp r1
  obtain ⟨f', a1, a2, a3, a4, a5, a6, -⟩ := fo_out h hnf hg o f hf ho
  obtain ⟨b1, b2⟩ := fo_sc hy h f hf
  have hcl := sc_cl_td (gs G f) o
  have hsf : gs G f' = s :: (gs G f).drop (o + 1) := by rw [a2, List.drop_eq_getElem_cons ho, hos]
  refine ⟨f', a1, a3, a4 hp6, ⟨fun R' l D ρ τ u V Gp hR hG => ?_, fun C' l D ρ τ u V Gp hC hG => ?_⟩, ?_⟩
  · subst r2
    refine vX6_outward ?_
    have := a5 R' l D ρ τ u V Gp 0 hR (by omega) hG
    rw [Nat.zero_add] at this
    exact this
  · subst r3
    refine vX0_outwards ?_
    have := a6 C' l D ρ τ u V Gp 0 hC (by omega) hG
    rw [Nat.zero_add] at this
    exact this
  · obtain ⟨_, _, c3, _, h2⟩ := h.2 f' (by omega)
    rcases r4 with ⟨k1, k2, k3, v, cnt, k4, k5, k6, k7, k8, k9⟩ | ⟨k1, v, cnt, ww, k4, k5, k6, k7, k8, k9, k10, k11, k12⟩ | ⟨k1, k2, k3, pr, k4, k5, k6, k7⟩
    · rcases h2 with ⟨_, h2, _⟩ | ⟨nd, h0, h2, h3, h4, h5, h6, h7, h8, h9, h10, h11, h12⟩ | ⟨pr, o', ca, cnt', w', h0, h1, h2, _⟩
      · rw [h2] at hsf; cases hsf
      · rw [h2] at hsf
        have hse := (List.cons.inj hsf).1
        subst hse
        have e : gn G f' = cnt := by
          have := h6.symm.trans k4
          rw [i_eq (by omega) (by omega)] at this
          exact this
        exact Or.inl ⟨k2, Or.inl k3, v, k8, by omega, h12 v, k9⟩
      · rw [h2] at hsf; have hse := (List.cons.inj hsf).1; subst hse; exact absurd k1 (by simp)
    · rcases h2 with ⟨_, h2, _⟩ | ⟨nd, h0, h2, _⟩ | ⟨pr, o', ca, cnt', w', g0, g1, g2, g3, g4, g5, g6, g7, g8, g9, g10, g11, g12, g13, g14, g15, g16, g17, g18, g19, g20, g21, g22, g23, g24, g25⟩
      · rw [h2] at hsf; cases hsf
      · rw [h2] at hsf; have hse := (List.cons.inj hsf).1; subst hse; exact absurd rfl k1
      · rw [g2] at hsf
        have hse := (List.cons.inj hsf).1
        subst hse
        have e1 : cnt' = cnt := by
          have := g16.symm.trans k4
          rw [i_eq (by omega) (by omega)] at this
          exact this
        have e2 : w' = ww := by
          have := g18.symm.trans k5
          rw [i_eq (by omega) (by omega)] at this
          exact this
        subst e1 e2
        rcases k12 with ⟨q1, q2, q3⟩ | ⟨q1, q2, q3⟩
        · refine Or.inl ⟨q1, Or.inr q2, v, k10, by omega, by rw [g23, q3]; simp, by rw [g14, Nat.zero_add]; exact k11⟩
        · refine Or.inr (Or.inl ⟨q1, q2, v - 1, ca, cnt', w', by rw [k10, Nat.sub_add_cancel k8], by rw [k11, Nat.sub_add_cancel k8], by omega, q3, g8, g14, g15, g17, g7, g11, g12, g21, g19, g25⟩)
    · refine Or.inr (Or.inr ⟨k2, k3, pr, ?_, k5, k6, by rw [a2, k7]⟩)
      refine Classical.byContradiction fun hn => ?_
      have := hy.2.2.2.2.2.2 pr (by omega)
      rw [k7, ← a2, hsf] at this
      cases this
end NMS
