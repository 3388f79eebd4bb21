/-! ===== statements: what stays, what is promised ===== -/
def cS (C C' : ai_S) (e pr : Nat) : Prop := (∀ q, q < 2 ∨ (8 < q ∧ q < 26) ∨ 31 < q → C' q = C q) ∧ C' 2 1 = C 2 1 ∧ (∀ q, 27 ≤ q → q ≤ 29 → ∀ i, i < e → C' q i = C q i) ∧ ∀ q, 30 ≤ q → q ≤ 31 → ∀ i, i < pr → C' q i = C q i
def mS (R R' : ai_S) (hf nn m pr : Nat) : Prop := R' 1 = R 1 ∧ (∀ q, q = 12 ∨ 21 < q → R' q = R q) ∧ (∀ j, j < 2 ∨ (2 < j ∧ j < 15) ∨ (15 < j ∧ j < 19) ∨ (24 < j ∧ j < 30) ∨ (31 < j ∧ j < 36) ∨ 37 < j → R' 0 j = R 0 j) ∧
  (∀ q, 2 ≤ q → q ≤ 8 → ∀ i, i ≤ 350 * hf + nn ∨ 350 * hf + 350 ≤ i → R' q i = R q i) ∧ (∀ q, 9 ≤ q → q ≤ 11 → ∀ i, i < 16 * hf + pr ∨ 16 * hf + 16 ≤ i → R' q i = R q i) ∧ ∀ i, i < m → R' 21 i = R 21 i
section SK
variable {C C1 C2 C' R R1 R2 R' : ai_S} {e e1 pr pr1 hf nn nn1 m m1 b t : Nat}
theorem cS.rf : cS C C e pr := ⟨fun _ _ => rfl, rfl, fun _ _ _ _ _ => rfl, fun _ _ _ _ _ => rfl⟩
theorem cS.tr (h1 : cS C C1 e pr) (h2 : cS C1 C2 e1 pr1) (he : e ≤ e1) (hp : pr ≤ pr1) : cS C C2 e pr :=
  ⟨fun q a => (h2.1 q a).trans (h1.1 q a), h2.2.1.trans h1.2.1, fun q a c i hi => (h2.2.2.1 q a c i (by omega)).trans (h1.2.2.1 q a c i hi), fun q a c i hi => (h2.2.2.2 q a c i (by omega)).trans (h1.2.2.2 q a c i hi)⟩
theorem cE.cs (h : cE C C' e) : cS C C' e pr :=
  ⟨fun q a => h.1 q (by omega) (by omega), h.2.1, fun q a c i hi => h.2.2.2 q a c i hi, fun q a c i hi => by rw [h.1 q (by omega) (by omega)]⟩
theorem cS.u (h : cS C C1 e pr) (q i : Nat) (x : Int32) (hq : q = 2 ∧ i ≠ 1 ∨ (3 ≤ q ∧ q ≤ 8) ∨ q = 26 ∨ (27 ≤ q ∧ q ≤ 29 ∧ e ≤ i) ∨ (30 ≤ q ∧ q ≤ 31 ∧ pr ≤ i)) : cS C (ai_up C1 q i x) e pr :=
  ⟨fun q' a => by rw [ai_up_o (by omega)]; exact h.1 q' a, by rw [ai_up_n (by omega)]; exact h.2.1, fun q' a c i' hi => by rw [ai_up_n (by omega)]; exact h.2.2.1 q' a c i' hi, fun q' a c i' hi => by rw [ai_up_n (by omega)]; exact h.2.2.2 q' a c i' hi⟩
theorem mS.rf : mS R R hf nn m pr := ⟨rfl, fun _ _ => rfl, fun _ _ => rfl, fun _ _ _ _ _ => rfl, fun _ _ _ _ _ => rfl, fun _ _ => rfl⟩
theorem mS.tr (h1 : mS R R1 hf nn m pr) (h2 : mS R1 R2 hf nn1 m1 pr1) (hn : nn ≤ nn1) (hm : m ≤ m1) (hp : pr ≤ pr1) : mS R R2 hf nn m pr :=
  ⟨h2.1.trans h1.1, fun q a => (h2.2.1 q a).trans (h1.2.1 q a), fun j a => (h2.2.2.1 j a).trans (h1.2.2.1 j a), fun q a c i hi => (h2.2.2.2.1 q a c i (by omega)).trans (h1.2.2.2.1 q a c i hi), fun q a c i hi => (h2.2.2.2.2.1 q a c i (by omega)).trans (h1.2.2.2.2.1 q a c i hi), fun i hi => (h2.2.2.2.2.2 i (by omega)).trans (h1.2.2.2.2.2 i hi)⟩
theorem mE.ms (h : mE R R' b t) (hb : 350 * hf + nn ≤ b) (ht : t ≤ 350 * hf + 350) : mS R R' hf nn m pr :=
  ⟨h.1, fun q a => h.2.1 q (by omega) (by omega), fun j a => h.2.2.1 j (by omega) (by omega) (by omega) (by omega) (by omega) (by omega) (by omega), fun q a c i hi => h.2.2.2 q a c i (by omega), fun q a c i hi => by rw [h.2.1 q (by omega) (by omega)], fun i hi => by rw [h.2.1 21 (by omega) (by omega)]⟩
theorem gh.ms {tx : Nat → Int32} (h : gh tx hf R) (hm : mS R R' hf nn m pr) : gh tx hf R' := by
  refine h.fr (fun q i a1 a2 a3 a4 => ?_)
  by_cases h0 : q = 0
  · subst h0
    exact hm.2.2.1 i (by omega)
  · by_cases h1 : q = 1
    · subst h1; rw [hm.1]
    · by_cases h8 : q ≤ 8
      · exact hm.2.2.2.1 q (by omega) h8 i (by omega)
      · by_cases h11 : q ≤ 11
        · exact hm.2.2.2.2.1 q (by omega) h11 i (by omega)
        · rw [hm.2.1 q (by omega)]
theorem mS.u (h : mS R R1 hf nn m pr) (q i : Nat) (x : Int32) (hq : q = 0 ∧ (i = 2 ∨ i = 15 ∨ (19 ≤ i ∧ i ≤ 24) ∨ i = 30 ∨ i = 31 ∨ i = 36 ∨ i = 37) ∨ (2 ≤ q ∧ q ≤ 8 ∧ 350 * hf + nn < i ∧ i < 350 * hf + 350) ∨ (9 ≤ q ∧ q ≤ 11 ∧ 16 * hf + pr ≤ i ∧ i < 16 * hf + 16) ∨ (13 ≤ q ∧ q ≤ 20) ∨ (q = 21 ∧ m ≤ i)) : mS R (ai_up R1 q i x) hf nn m pr :=
  ⟨by rw [ai_up_o (by omega)]; exact h.1, fun q' a => by rw [ai_up_o (by omega)]; exact h.2.1 q' a, fun j a => by rw [ai_up_n (by omega)]; exact h.2.2.1 j a, fun q' a c i' hi => by rw [ai_up_n (by omega)]; exact h.2.2.2.1 q' a c i' hi, fun q' a c i' hi => by rw [ai_up_n (by omega)]; exact h.2.2.2.2.1 q' a c i' hi, fun i' hi => by rw [ai_up_n (by omega)]; exact h.2.2.2.2.2 i' hi⟩
end SK
/-- blocks of a scope lie in its half -/
def slo (hf : Nat) (sc : sc_T) : Prop := ∀ x ∈ sc, x.1 = 0 → 350 * hf < x.2.2
theorem slo.c {hf : Nat} {sc : sc_T} {x : Nat × Nat × Nat} (h : slo hf sc) (hx : x.1 = 0 → 350 * hf < x.2.2) : slo hf (x :: sc) := fun y hy => by
  rcases List.mem_cons.mp hy with rfl | hy
  · exact hx
  · exact h y hy
/-- the scopes of the procedures are made of what is there -/
def scw (SC : Nat → sc_T) (pr hf nn : Nat) : Prop := ∀ q, q < pr → (∀ x ∈ SC q, (x.1 = 0 → x.2.2 ≤ 350 * hf + nn) ∧ (x.1 ≠ 0 → x.1 ≤ pr)) ∧ sc_cl (SC q) ≤ 9 ∧ SC q ≠ [] ∧ slo hf (SC q)
theorem scw.le {SC : Nat → sc_T} {pr hf nn nn1 : Nat} (h : scw SC pr hf nn) (hn : nn ≤ nn1) : scw SC pr hf nn1 := fun q hq => ⟨fun x hx => ⟨fun h0 => by have := ((h q hq).1 x hx).1 h0; omega, ((h q hq).1 x hx).2⟩, (h q hq).2⟩
/-- the procedures from pr up to pr1 -/
def pf (C R : ai_S) (hf : Nat) (SC : Nat → sc_T) (nn nn1 x e e1 pr pr1 : Nat) : Prop := ∀ q, pr ≤ q → q < pr1 → (∃ a, C 30 q = nI a ∧ e ≤ a ∧ a ≤ e1) ∧ cx_P (cd C) R (16 * hf) SC (fun i => nr hf nn nn1 i ∧ i ≠ x) e1 q
/-- a statement is read, on both sides -/
def ps (C R C' R' : ai_S) (tx : Nat → Int32) (n hf : Nat) (sc : sc_T) (SC : Nat → sc_T) (m ns pr vr p e nn : Nat) (stk : List mf_T) (K j : Nat) : Prop :=
  ∃ (x p1 p1' e1 nn1 ns1 pr1 vr1 : Nat) (SC1 : Nat → sc_T), pv C' R' tx n hf sc SC1 m ns1 pr1 vr1 p1 p1' e1 nn1 stk ∧ R' 0 31 = nI x ∧ nr hf nn nn1 x ∧ R' 4 x = nI 0 ∧ p < p1 ∧ 2 * e1 + 3 * p ≤ 3 * p1 + 2 * e ∧ nn1 + p ≤ nn + p1 ∧ nn ≤ nn1 ∧ e < e1 ∧ j + 6 + 12 * p ≤ 12 * p1 ∧ mS R R' hf nn m pr ∧ cS C C' e pr ∧ pr ≤ pr1 ∧ vr ≤ vr1 ∧ ns ≤ ns1 ∧ scw SC1 pr1 hf nn1 ∧ (∀ q, q < pr → SC1 q = SC q) ∧
    (C' 2 5 = 1 → C 2 5 = 1 ∧ cx_S (cd C') R' (16 * hf) SC1 K (nr hf nn nn1) sc x e e1 ∧ pf C' R' hf SC1 nn nn1 x e e1 pr pr1)
def pS (z : lm_T) (C R : ai_S) (tx : Nat → Int32) (n hf : Nat) (sc : sc_T) (SC : Nat → sc_T) (m ns pr vr p e nn : Nat) (stk : List mf_T) (K k : Nat) : Bool → ai_S → Prop := fun b C' =>
  ∃ (R' : ai_S) (j : Nat), (lm z R' (k + j) → lm z R k) ∧ ((b = true ∧ ps C R C' R' tx n hf sc SC m ns pr vr p e nn stk K j) ∨ (bd tx R' ∧ b = false))
/-- the simulation of a statement at depth dp -/
def sS (l : Launch) (D : va_G) (ρ : Nat → Nat) (τ : Nat → ClassId) (z : lm_T) (V : ai_V) (tx : Nat → Int32) (n hf d dp K : Nat) : Prop :=
  ∀ (sc : sc_T) (SC : Nat → sc_T) (m ns pr vr : Nat) (C R : ai_S) (p p' e nn : Nat) (stk : List mf_T) (k : Nat), pv C R tx n hf sc SC m ns pr vr p p' e nn ((10, 0, dp, 0, 0) :: stk) → scw SC pr hf nn → sc.length + 2 ≤ 2 * dp → (sc_cl sc + 1 ≤ dp ∧ slo hf sc) → stk.length + 1 ≤ dp → 2 * e ≤ 3 * p → nn ≤ p → k + 12 * (n - p) + 50 ≤ 100000 →
    ai_met (uC l D ρ τ) d mX3_statement [.ref 2, .int (nI dp)] C V (ai_qz V (pS z C R tx n hf sc SC m ns pr vr p e nn stk K k))
/-! what was read stays -/
section LIFT
variable {C C' R R' : ai_S} {hf : Nat} {sc : sc_T} {SC SC' : Nat → sc_T}
theorem cx_S_lift {k k' nn nn1 x a b : Nat} {P' : Nat → Prop} (hS : cx_S (cd C) R (16 * hf) SC k (nr hf nn nn1) sc x a b) (hK : ∀ j, j < 3 → ∀ i, a ≤ i → i < b → cd C' j i = cd C j i) (hag : sc_ag R R' (16 * hf) SC SC' sc) (hhd : sc_hd R R' sc) (hN : ∀ q, 2 ≤ q → q ≤ 8 → ∀ i, 350 * hf + nn < i → i ≤ 350 * hf + nn1 → ¬ (i = x ∧ (q = 4 ∨ q = 8)) → R' q i = R q i) (hk : k ≤ k') (hP : ∀ i, nr hf nn nn1 i → P' i) : cx_S (cd C') R' (16 * hf) SC' k' P' sc x a b :=
  cx_S_mono (e0 := a) (e1 := b) hK k k' _ P' sc x a b hag hhd hk hP (fun i hi => ⟨hN 2 (by omega) (by omega) i hi.1 hi.2 (by omega), hN 3 (by omega) (by omega) i hi.1 hi.2 (by omega), hN 5 (by omega) (by omega) i hi.1 hi.2 (by omega), hN 6 (by omega) (by omega) i hi.1 hi.2 (by omega), hN 7 (by omega) (by omega) i hi.1 hi.2 (by omega)⟩) (fun i hi hne => ⟨hN 4 (by omega) (by omega) i hi.1 hi.2 (by omega), hN 8 (by omega) (by omega) i hi.1 hi.2 (by omega)⟩) (Nat.le_refl _) (Nat.le_refl _) hS
theorem cx_E_lift {k k' nn nn1 x a b : Nat} {P' : Nat → Prop} (hS : cx_E (cd C) R (16 * hf) SC sc k (nr hf nn nn1) x a b) (hK : ∀ j, j < 3 → ∀ i, a ≤ i → i < b → cd C' j i = cd C j i) (hag : sc_ag R R' (16 * hf) SC SC' sc) (hN : ∀ q, 2 ≤ q → q ≤ 8 → ∀ i, 350 * hf + nn < i → i ≤ 350 * hf + nn1 → ¬ (i = x ∧ (q = 4 ∨ q = 8)) → R' q i = R q i) (hk : k ≤ k') (hP : ∀ i, nr hf nn nn1 i → P' i) : cx_E (cd C') R' (16 * hf) SC' sc k' P' x a b :=
  cx_E_mono (e0 := a) (e1 := b) hag hK k k' _ P' x a b hk hP (fun i hi => ⟨hN 2 (by omega) (by omega) i hi.1 hi.2 (by omega), hN 3 (by omega) (by omega) i hi.1 hi.2 (by omega), hN 5 (by omega) (by omega) i hi.1 hi.2 (by omega), hN 6 (by omega) (by omega) i hi.1 hi.2 (by omega), hN 7 (by omega) (by omega) i hi.1 hi.2 (by omega)⟩) (fun i hi hne => ⟨hN 4 (by omega) (by omega) i hi.1 hi.2 (by omega), hN 8 (by omega) (by omega) i hi.1 hi.2 (by omega)⟩) (Nat.le_refl _) (Nat.le_refl _) hS
theorem cx_pl_le {K : ai_S} {w : Nat} : ∀ (j i a c : Nat), cx_pl K w j i a c → a ≤ c
  | 0, _, a, c, h => by have : a = c := h; omega
  | j + 1, i, a, c, h => by
    rcases h with ⟨_, _, _, _, _, _, h⟩ | ⟨_, h⟩
    · have := cx_pl_le j (i + 1) (a + 2) c h; omega
    · exact cx_pl_le j (i + 1) a c h
theorem cx_pl_mono {K K' : ai_S} {w : Nat} : ∀ (j i a c : Nat), (∀ q, q < 3 → ∀ i', a ≤ i' → i' < c → K' q i' = K q i') → cx_pl K w j i a c → cx_pl K' w j i a c
  | 0, _, a, c, _, h => h
  | j + 1, i, a, c, hk, h => by
    rcases h with ⟨h1, h2, h3, h4, h5, h6, h⟩ | ⟨h1, h⟩
    · have := cx_pl_le _ _ _ _ h
      exact Or.inl ⟨h1, (hk 0 (by omega) a (by omega) (by omega)).trans h2, (hk 1 (by omega) a (by omega) (by omega)).trans h3, (hk 2 (by omega) a (by omega) (by omega)).trans h4, (hk 0 (by omega) (a + 1) (by omega) (by omega)).trans h5, (hk 1 (by omega) (a + 1) (by omega) (by omega)).trans h6, cx_pl_mono j (i + 1) (a + 2) c (fun q hq i' h1 h2 => hk q hq i' (by omega) h2) h⟩
    · exact Or.inr ⟨h1, cx_pl_mono j (i + 1) a c hk h⟩
theorem cx_P_lift {e e' q a0 : Nat} {P P' : Nat → Prop} (h : cx_P (cd C) R (16 * hf) SC P e q) (h30 : C 30 q = nI a0) (ha0 : a0 < 2 ^ 31) (he : e ≤ e') (hel : e < 2 ^ 31) (hK : ∀ j, j < 3 → ∀ i, a0 ≤ i → i < e → cd C' j i = cd C j i) (h3 : ∀ j, 30 ≤ j → j ≤ 31 → C' j q = C j q) (h9 : ∀ j, 9 ≤ j → j ≤ 11 → R' j (16 * hf + q) = R j (16 * hf + q)) (hag : sc_ag R R' (16 * hf) SC SC' ((q + 1, 0, 0) :: SC q)) (hSC : SC' q = SC q) (hN : ∀ q, 2 ≤ q → q ≤ 8 → ∀ i, P i → R' q i = R q i) (hP : ∀ i, P i → P' i) : cx_P (cd C') R' (16 * hf) SC' P' e' q := by
  obtain ⟨a, c, b, y, cnt, w, g1, g2, g3, g4, g5, g6, g7, g8, g9, g10, g11⟩ := h
  have g1' : C 30 q = nI a := g1
  have hle := cx_pl_le _ _ _ _ g7
  have hlt := cx_S_lt g9
  have haa : a0 = a := by
    rw [h30, i_eq ha0 (by omega)] at g1'
    exact g1'
  subst haa
  refine ⟨a0, c, b, y, cnt, w, (h3 30 (by omega) (by omega)).trans g1, (h3 31 (by omega) (by omega)).trans g2, (h9 10 (by omega) (by omega)).trans g3, g4, (h9 11 (by omega) (by omega)).trans g5, g6, cx_pl_mono _ _ _ _ (fun j hj i h1 h2 => hK j hj i (by omega) (by omega)) g7, (h9 9 (by omega) (by omega)).trans g8, ?_, (hK 0 (by omega) b (by omega) (by omega)).trans g10, by omega⟩
  rw [hSC]
  exact cx_S_mono (e0 := c) (e1 := b) (fun j hj i h1 h2 => hK j hj i (by omega) (by omega)) 10 10 P P' _ y c b hag (fun h => absurd h (by simp)) (Nat.le_refl _) hP (fun i hi => ⟨hN 2 (by omega) (by omega) i hi, hN 3 (by omega) (by omega) i hi, hN 5 (by omega) (by omega) i hi, hN 6 (by omega) (by omega) i hi, hN 7 (by omega) (by omega) i hi⟩) (fun i hi _ => ⟨hN 4 (by omega) (by omega) i hi, hN 8 (by omega) (by omega) i hi⟩) (Nat.le_refl _) (Nat.le_refl _) g9
/-- scopes stay -/
theorem ag_of {sc0 : sc_T} {nn pr : Nat} (hw : ∀ x ∈ sc0, (x.1 = 0 → x.2.2 ≤ 350 * hf + nn) ∧ (x.1 ≠ 0 → x.1 ≤ pr)) (h5 : ∀ i, i ≤ 350 * hf + nn → R' 5 i = R 5 i) (h10 : ∀ q, q = 10 ∨ q = 11 → ∀ i, i < 16 * hf + pr → R' q i = R q i) (hSC : ∀ q, q < pr → SC' q = SC q) (hSC0 : ∀ q, pr ≤ q → SC q = []) : sc_ag R R' (16 * hf) SC SC' sc0 := by
  refine ⟨fun x hx => ⟨fun h0 cnt hc h => ⟨cnt, (h5 _ ((hw x hx).1 h0)).trans h, Nat.le_refl _, hc⟩, fun h0 => ?_⟩, fun q hq => hSC q (Classical.byContradiction fun h => hq (hSC0 q (by omega)))⟩
  have := (hw x hx).2 h0
  exact ⟨h10 10 (by omega) _ (by omega), h10 11 (by omega) _ (by omega)⟩
theorem pf_lift {nn nn1 x e e1 pr pr1 nn' nn1' x' e' e1' : Nat} (h : pf C R hf SC nn nn1 x e e1 pr pr1) (hel : e1 < 2 ^ 31) (hK : ∀ j, j < 3 → ∀ i, e ≤ i → i < e1 → cd C' j i = cd C j i) (h3 : ∀ j, 30 ≤ j → j ≤ 31 → ∀ q, pr ≤ q → q < pr1 → C' j q = C j q) (h9 : ∀ j, 9 ≤ j → j ≤ 11 → ∀ q, pr ≤ q → q < pr1 → R' j (16 * hf + q) = R j (16 * hf + q)) (hag : ∀ q, pr ≤ q → q < pr1 → sc_ag R R' (16 * hf) SC SC' ((q + 1, 0, 0) :: SC q)) (hSC : ∀ q, pr ≤ q → q < pr1 → SC' q = SC q) (hN : ∀ q, 2 ≤ q → q ≤ 8 → ∀ i, nr hf nn nn1 i → i ≠ x → R' q i = R q i) (hP : ∀ i, nr hf nn nn1 i → i ≠ x → nr hf nn' nn1' i ∧ i ≠ x') (he : e' ≤ e) (he1 : e1 ≤ e1') : pf C' R' hf SC' nn' nn1' x' e' e1' pr pr1 := by
  intro q h1 h2
  obtain ⟨⟨a, g1, g2, g3⟩, g4⟩ := h q h1 h2
  refine ⟨⟨a, (h3 30 (by omega) (by omega) q h1 h2).trans g1, by omega, by omega⟩, ?_⟩
  exact cx_P_lift g4 g1 (by omega) he1 hel (fun j hj i h1 h2 => hK j hj i (by omega) h2) (fun j a b => h3 j a b q h1 h2) (fun j a b => h9 j a b q h1 h2) (hag q h1 h2) (hSC q h1 h2) (fun q' a b i hi => hN q' a b i hi.1 hi.2) (fun i hi => hP i hi.1 hi.2)
end LIFT
