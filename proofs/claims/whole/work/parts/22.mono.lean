/-! ===== what stays when memory grows ===== -/
section MONO
variable {K K' R R' : ai_S} {pb : Nat} {SC SC' : Nat → sc_T} {sc : sc_T} {np e0 e1 : Nat}
/-- the scope's own cells: counts of variables may grow, procedures' headings stay, and their scopes -/
def sc_ag (R R' : ai_S) (pb : Nat) (SC SC' : Nat → sc_T) (sc : sc_T) : Prop :=
  (∀ x ∈ sc, (x.1 = 0 → ∀ cnt : Nat, cnt ≤ 24 → R 5 x.2.2 = nI cnt → ∃ cnt' : Nat, R' 5 x.2.2 = nI cnt' ∧ cnt ≤ cnt' ∧ cnt' ≤ 24) ∧ (x.1 ≠ 0 → R' 10 (pb + (x.1 - 1)) = R 10 (pb + (x.1 - 1)) ∧ R' 11 (pb + (x.1 - 1)) = R 11 (pb + (x.1 - 1)))) ∧ ∀ pr : Nat, SC pr ≠ [] → SC' pr = SC pr
theorem sy_k_mono {x : Nat × Nat × Nat} {o : Nat} {kd sl sw sp : Int32} (ha : sc_ag R R' pb SC SC' sc) (hx : sc[o]? = some x) (h : sy_k R pb SC x (sc.drop o) kd sl sw sp) : sy_k R' pb SC' x (sc.drop o) kd sl sw sp := by
  have hm := ha.1 x (List.mem_of_getElem? hx)
  rcases h with ⟨h1, h2, h3, v, cnt, h4, h5, h6, h7, h8, h9⟩ | ⟨h1, v, cnt, w, h4, h5, h6, h7, h8, h9, h10, h11, h12⟩ | ⟨h1, h2, h3, pr, h4, h5, h6, h7⟩
  · obtain ⟨cnt', g1, g2, g3⟩ := hm.1 h1 cnt h5 h4
    exact Or.inl ⟨h1, h2, h3, v, cnt', g1, g3, by omega, h7, h8, h9⟩
  · obtain ⟨g1, g2⟩ := hm.2 h1
    exact Or.inr (Or.inl ⟨h1, v, cnt, w, g1.trans h4, g2.trans h5, h6, h7, h8, h9, h10, h11, h12⟩)
  · exact Or.inr (Or.inr ⟨h1, h2, h3, pr, h4, h5, h6, (ha.2 pr (by rw [h7]; exact fun e => by have := (List.getElem?_eq_some_iff.mp hx).1; have e2 := congrArg List.length e; simp at e2; omega)).trans h7⟩)
theorem cx_rs_mono {w pl ou kd sl hp : Int32} (ha : sc_ag R R' pb SC SC' sc) (h : cx_rs R pb SC sc w pl ou kd sl hp) : cx_rs R' pb SC' sc w pl ou kd sl hp := by
  obtain ⟨o, x, h1, h2, h3, h4⟩ := h
  exact ⟨o, x, h1, h2, h3, sy_k_mono ha h1 h4⟩
/-- the code from e0 up to e1 stays -/
def cx_kk (K K' : ai_S) (e0 e1 : Nat) : Prop := ∀ j, j < 3 → ∀ i, e0 ≤ i → i < e1 → K' j i = K j i
theorem cx_us_mono {n a : Nat} {ov of op : Int32} (ha : sc_ag R R' pb SC SC' sc) (hk : cx_kk K K' e0 e1) (h0 : e0 ≤ a) (h1 : a < e1) (h5 : R' 5 n = R 5 n) (h6 : R' 6 n = R 6 n) (h7 : R' 7 n = R 7 n) (h : cx_us K R pb SC sc n a ov of op) : cx_us K' R' pb SC' sc n a ov of op := by
  obtain ⟨kd, h2, h3⟩ := h
  refine ⟨kd, ?_, ?_⟩
  · rw [h5, h6, h7, hk 1 (by omega) a h0 h1, hk 2 (by omega) a h0 h1]
    exact cx_rs_mono ha h2
  · rw [hk 0 (by omega) a h0 h1]
    exact h3
theorem cx_op_le {E : Nat → Nat → Nat → Prop} (hE : ∀ x a b, E x a b → a < b) : ∀ (j x a b : Nat), cx_op E K R j x a b → a ≤ b
  | 0, x, a, b, h => by have := h.2; omega
  | j + 1, x, a, b, h => by
    rcases h with h | ⟨h1, h2, m, y, sg, h3, h4, h5, h6, h7, h8⟩
    · have := h.2; omega
    · have g1 := hE _ _ _ h3
      have g2 := cx_op_le hE j y (m + 1) b h8
      omega
theorem cx_li_le {E : Nat → Nat → Nat → Prop} (hE : ∀ x a b, E x a b → a < b) : ∀ (j x a b i : Nat), cx_li E K R j x a b i → a ≤ b
  | 0, x, a, b, i, h => by have := h.2; omega
  | j + 1, x, a, b, i, h => by
    rcases h with h | ⟨h1, h2, m, y, h3, h4, h5, h6, h7, h8⟩
    · have := h.2; omega
    · have g1 := hE _ _ _ h3
      have g2 := cx_li_le hE j y (m + 1) b (i + 1) h8
      omega
theorem cx_sl_le {P : Nat → Nat → Nat → Prop} (hE : ∀ x a b, P x a b → a < b) : ∀ (j x a b : Nat), cx_sl P R j x a b → a ≤ b
  | 0, x, a, b, h => by have := h.2; omega
  | j + 1, x, a, b, h => by
    rcases h with h | ⟨h1, m, y, h3, h4, h5⟩
    · have := h.2; omega
    · have g1 := hE _ _ _ h3
      have g2 := cx_sl_le hE j y m b h5
      omega
theorem cx_op_mono {E E' : Nat → Nat → Nat → Prop} (hlt : ∀ x a b, E x a b → a < b) (hk : cx_kk K K' e0 e1) (hE : ∀ x a b, e0 ≤ a → b ≤ e1 → E x a b → E' x a b ∧ R' 4 x = R 4 x ∧ R' 8 x = R 8 x) :
    ∀ (j j' x a b : Nat), j ≤ j' → e0 ≤ a → b ≤ e1 → cx_op E K R j x a b → cx_op E' K' R' j' x a b
  | 0, 0, x, a, b, _, _, _, h => h
  | 0, j' + 1, x, a, b, _, _, _, h => Or.inl h
  | j + 1, 0, x, a, b, hj, _, _, _ => by omega
  | j + 1, j' + 1, x, a, b, hj, h0, h1, h => by
    rcases h with h | ⟨g1, g2, m, y, sg, g3, g4, g5, g6, g7, g8⟩
    · exact Or.inl h
    · have l1 := hlt _ _ _ g3
      have l2 := cx_op_le hlt j y (m + 1) b g8
      obtain ⟨f1, f2, f3⟩ := hE x (a + 1) m (by omega) (by omega) g3
      refine Or.inr ⟨g1, ?_, m, y, sg, f1, f2.trans g4, f3.trans g5, g6, ?_, cx_op_mono hlt hk hE j j' y (m + 1) b (by omega) (by omega) h1 g8⟩
      · rw [hk 0 (by omega) a h0 (by omega)]; exact g2
      · rw [hk 0 (by omega) m (by omega) (by omega)]; exact g7
theorem cx_li_mono {E E' : Nat → Nat → Nat → Prop} (hlt : ∀ x a b, E x a b → a < b) (hk : cx_kk K K' e0 e1) (hE : ∀ x a b, e0 ≤ a → b ≤ e1 → E x a b → E' x a b ∧ R' 4 x = R 4 x ∧ R' 8 x = R 8 x ∧ R' 2 x = R 2 x) :
    ∀ (j j' x a b i : Nat), j ≤ j' → e0 ≤ a → b ≤ e1 → cx_li E K R j x a b i → cx_li E' K' R' j' x a b i
  | 0, 0, x, a, b, i, _, _, _, h => h
  | 0, j' + 1, x, a, b, i, _, _, _, h => Or.inl h
  | j + 1, 0, x, a, b, i, hj, _, _, _ => by omega
  | j + 1, j' + 1, x, a, b, i, hj, h0, h1, h => by
    rcases h with h | ⟨g1, g2, m, y, g3, g4, g5, g6, g7, g8⟩
    · exact Or.inl h
    · have l1 := hlt _ _ _ g3
      have l2 := cx_li_le hlt j y (m + 1) b (i + 1) g8
      obtain ⟨f1, f2, f3, f4⟩ := hE x (a + 1) m (by omega) (by omega) g3
      have ka := hk 0 (by omega) a h0 (by omega)
      refine Or.inr ⟨g1, ?_, m, y, f1, ?_, ?_, f3.trans g6, f2.trans g7, cx_li_mono hlt hk hE j j' y (m + 1) b (i + 1) (by omega) (by omega) h1 g8⟩
      · rw [f4, ka]; exact g2
      · rw [hk 0 (by omega) m (by omega) (by omega)]; exact g4
      · rw [hk 1 (by omega) a h0 (by omega)]; exact g5
theorem cx_sl_mono {P P' : Nat → Nat → Nat → Prop} (hlt : ∀ x a b, P x a b → a < b) (hE : ∀ x a b, e0 ≤ a → b ≤ e1 → P x a b → P' x a b ∧ R' 4 x = R 4 x) :
    ∀ (j j' x a b : Nat), j ≤ j' → e0 ≤ a → b ≤ e1 → cx_sl P R j x a b → cx_sl P' R' j' x a b
  | 0, 0, x, a, b, _, _, _, h => h
  | 0, j' + 1, x, a, b, _, _, _, h => Or.inl h
  | j + 1, 0, x, a, b, hj, _, _, _ => by omega
  | j + 1, j' + 1, x, a, b, hj, h0, h1, h => by
    rcases h with h | ⟨g1, m, y, g3, g4, g5⟩
    · exact Or.inl h
    · have l1 := hlt _ _ _ g3
      have l2 := cx_sl_le hlt j y m b g5
      obtain ⟨f1, f2⟩ := hE x a m (by omega) (by omega) g3
      exact Or.inr ⟨g1, m, y, f1, f2.trans g4, cx_sl_mono hlt hE j j' y m b (by omega) (by omega) h1 g5⟩
theorem cx_E_lt {P : Nat → Prop} {k n a b : Nat} (h : cx_E K R pb SC sc k P n a b) : a < b := by
  cases k with
  | zero => exact absurd h id
  | succ k => exact h.2.1
theorem cx_E_P {P : Nat → Prop} {k n a b : Nat} (h : cx_E K R pb SC sc k P n a b) : P n := by
  cases k with
  | zero => exact absurd h id
  | succ k => exact h.1
theorem cx_S_lt {P : Nat → Prop} {k n a b : Nat} (h : cx_S K R pb SC k P sc n a b) : a < b := by
  cases k with
  | zero => exact absurd h id
  | succ k => exact h.2.1
theorem cx_S_P {P : Nat → Prop} {k n a b : Nat} (h : cx_S K R pb SC k P sc n a b) : P n := by
  cases k with
  | zero => exact absurd h id
  | succ k => exact h.1
/-- the nodes' own cells: all but next and sign -/
def cx_nn (R R' : ai_S) (P : Nat → Prop) : Prop := ∀ i, P i → R' 2 i = R 2 i ∧ R' 3 i = R 3 i ∧ R' 5 i = R 5 i ∧ R' 6 i = R 6 i ∧ R' 7 i = R 7 i
def cx_n4 (R R' : ai_S) (P : Nat → Prop) (n : Nat) : Prop := ∀ i, P i → i ≠ n → R' 4 i = R 4 i ∧ R' 8 i = R 8 i
theorem cx_E_mono (ha : sc_ag R R' pb SC SC' sc) (hk : cx_kk K K' e0 e1) : ∀ (k k' : Nat) (P P' : Nat → Prop) (n a b : Nat), k ≤ k' → (∀ i, P i → P' i) → cx_nn R R' P → cx_n4 R R' P n → e0 ≤ a → b ≤ e1 → cx_E K R pb SC sc k P n a b → cx_E K' R' pb SC' sc k' P' n a b
  | 0, _, P, P', n, a, b, _, _, _, _, _, _, h => absurd h id
  | k + 1, 0, P, P', n, a, b, hj, _, _, _, _, _, _ => by omega
  | k + 1, k' + 1, P, P', n, a, b, hj, hP, hn, h4, h0, h1, h => by
    obtain ⟨q1, q2, h⟩ := h
    obtain ⟨r2, r3, r5, r6, r7⟩ := hn n q1
    have ka := fun j hj => hk j hj a h0 (by omega)
    have hP' : ∀ i, P i ∧ i ≠ n → P' i ∧ i ≠ n := fun i hi => ⟨hP i hi.1, hi.2⟩
    have hn' : cx_nn R R' (fun i => P i ∧ i ≠ n) := fun i hi => hn i hi.1
    have h4' : ∀ y, cx_n4 R R' (fun i => P i ∧ i ≠ n) y := fun y i hi _ => h4 i hi.1 hi.2
    have hrec : ∀ x a b, e0 ≤ a → b ≤ e1 → cx_E K R pb SC sc k (fun i => P i ∧ i ≠ n) x a b → cx_E K' R' pb SC' sc k' (fun i => P' i ∧ i ≠ n) x a b := fun x a b ha0 hb1 hx => cx_E_mono ha hk k k' _ _ x a b (by omega) hP' hn' (h4' x) ha0 hb1 hx
    have hlt : ∀ x a b, cx_E K R pb SC sc k (fun i => P i ∧ i ≠ n) x a b → a < b := fun x a b hx => cx_E_lt hx
    have at4 : ∀ x a b, cx_E K R pb SC sc k (fun i => P i ∧ i ≠ n) x a b → R' 4 x = R 4 x ∧ R' 8 x = R 8 x := fun x a b hx => h4 x (cx_E_P hx).1 (cx_E_P hx).2
    refine ⟨hP n q1, q2, ?_⟩
    rcases h with ⟨g1, g2, g3, g3', g4⟩ | ⟨g1, g2, g3⟩ | ⟨g1, g2, y, g3, g4⟩ | ⟨g1, y, z, m, g2, g3, g4, g5⟩ | ⟨g1, y, g2, g3⟩
    · exact Or.inl ⟨r2.trans g1, (ka 0 (by omega)).trans g2, by rw [ka 1 (by omega), r5]; exact g3, (ka 2 (by omega)).trans g3', g4⟩
    · exact Or.inr (Or.inl ⟨r2.trans g1, cx_us_mono ha hk h0 (by omega) r5 r6 r7 g2, g3⟩)
    · exact Or.inr (Or.inr (Or.inl ⟨r2.trans g1, cx_us_mono ha hk h0 (by omega) r5 r6 r7 g2, y, r3.trans g3, cx_li_mono hlt hk (fun x a b ha0 hb1 hx => ⟨hrec x a b ha0 hb1 hx, (at4 x a b hx).1, (at4 x a b hx).2, (hn x (cx_E_P hx).1).1⟩) 6 6 y (a + 1) b 0 (by omega) (by omega) h1 g4⟩))
    · have l1 := hlt _ _ _ g3
      have l2 := cx_op_le hlt _ _ _ _ g5
      refine Or.inr (Or.inr (Or.inr (Or.inl ⟨by rw [r2]; exact g1, y, z, m, r3.trans g2, hrec y a m h0 (by omega) g3, (at4 y a m g3).1.trans g4, cx_op_mono hlt hk (fun x a b ha0 hb1 hx => ⟨hrec x a b ha0 hb1 hx, at4 x a b hx⟩) 320 320 z m b (by omega) (by omega) h1 g5⟩)))
    · exact Or.inr (Or.inr (Or.inr (Or.inr ⟨r2.trans g1, y, r3.trans g2, hrec y a b h0 h1 g3⟩)))
theorem cx_dj_le : ∀ (j a c : Nat), cx_dj K j a c → a ≤ c
  | 0, a, c, h => by have : a = c := h; omega
  | j + 1, a, c, h => by
    rcases h with h | ⟨h1, a', h2, h3, h4, h5⟩
    · omega
    · omega
theorem cx_dj_mono (hk : cx_kk K K' e0 e1) : ∀ (j j' a c : Nat), j ≤ j' → e0 ≤ a → c ≤ e1 → cx_dj K j a c → cx_dj K' j' a c
  | 0, 0, a, c, _, _, _, h => h
  | 0, j' + 1, a, c, _, _, _, h => Or.inl h
  | j + 1, 0, a, c, hj, _, _, _ => by omega
  | j + 1, j' + 1, a, c, hj, h0, h1, h => by
    rcases h with h | ⟨g1, a', g2, g3, g4, g5⟩
    · exact Or.inl h
    · refine Or.inr ⟨?_, a', ?_, g3, g4, cx_dj_mono hk j j' a' c (by omega) (by omega) h1 g5⟩
      · rw [hk 0 (by omega) a h0 (by omega)]; exact g1
      · rw [hk 1 (by omega) a h0 (by omega)]; exact g2
theorem cx_tg_mono {n a : Nat} (ha : sc_ag R R' pb SC SC' sc) (hk : cx_kk K K' e0 e1) (h0 : e0 ≤ a) (h1 : a < e1) (h5 : R' 5 n = R 5 n) (h6 : R' 6 n = R 6 n) (h7 : R' 7 n = R 7 n) (h : cx_tg K R pb SC sc n a) : cx_tg K' R' pb SC' sc n a := by
  obtain ⟨kd, sl, hp, g1, g2⟩ := h
  refine ⟨kd, sl, hp, ?_, ?_⟩
  · rw [h5, h6, h7]; exact cx_rs_mono ha g1
  · rw [hk 0 (by omega) a h0 h1, hk 1 (by omega) a h0 h1, hk 2 (by omega) a h0 h1]
    exact g2
/-- the innermost block's count stays -/
def sc_hd (R R' : ai_S) (sc : sc_T) : Prop := match sc with
  | [] => True
  | x :: _ => x.1 = 0 → R' 5 x.2.2 = R 5 x.2.2
theorem sc_tp_mono {bs : Nat} (h : sc_hd R R' sc) (ht : sc_tp R sc bs) : sc_tp R' sc bs := by
  cases sc with
  | nil => exact ht
  | cons x t =>
    simp only [sc_tp, sc_hd] at *
    by_cases hx : x.1 = 0
    · rw [if_pos hx] at ht ⊢
      obtain ⟨cnt, h1, h2⟩ := ht
      exact ⟨cnt, (h hx).trans h1, h2⟩
    · rw [if_neg hx] at ht ⊢
      exact ht
theorem cx_S_mono (hk : cx_kk K K' e0 e1) : ∀ (k k' : Nat) (P P' : Nat → Prop) (sc : sc_T) (n a b : Nat), sc_ag R R' pb SC SC' sc → sc_hd R R' sc → k ≤ k' → (∀ i, P i → P' i) → cx_nn R R' P → cx_n4 R R' P n → e0 ≤ a → b ≤ e1 → cx_S K R pb SC k P sc n a b → cx_S K' R' pb SC' k' P' sc n a b
  | 0, _, P, P', sc, n, a, b, _, _, _, _, _, _, _, _, h => absurd h id
  | k + 1, 0, P, P', sc, n, a, b, _, _, hj, _, _, _, _, _, _ => by omega
  | k + 1, k' + 1, P, P', sc, n, a, b, ha, hh, hj, hP, hn, h4, h0, h1, h => by
    obtain ⟨q1, q2, h⟩ := h
    obtain ⟨r2, r3, r5, r6, r7⟩ := hn n q1
    have ka := fun j hj => hk j hj a h0 (by omega)
    have hP' : ∀ i, P i ∧ i ≠ n → P' i ∧ i ≠ n := fun i hi => ⟨hP i hi.1, hi.2⟩
    have hn' : cx_nn R R' (fun i => P i ∧ i ≠ n) := fun i hi => hn i hi.1
    have h4' : ∀ y, cx_n4 R R' (fun i => P i ∧ i ≠ n) y := fun y i hi _ => h4 i hi.1 hi.2
    have recE : ∀ x a b, e0 ≤ a → b ≤ e1 → cx_E K R pb SC sc 50 (fun i => P i ∧ i ≠ n) x a b → cx_E K' R' pb SC' sc 50 (fun i => P' i ∧ i ≠ n) x a b := fun x a b ha0 hb1 hx => cx_E_mono ha hk 50 50 _ _ x a b (by omega) hP' hn' (h4' x) ha0 hb1 hx
    have ltE : ∀ x a b, cx_E K R pb SC sc 50 (fun i => P i ∧ i ≠ n) x a b → a < b := fun x a b hx => cx_E_lt hx
    have a4E : ∀ x a b, cx_E K R pb SC sc 50 (fun i => P i ∧ i ≠ n) x a b → R' 4 x = R 4 x ∧ R' 8 x = R 8 x := fun x a b hx => h4 x (cx_E_P hx).1 (cx_E_P hx).2
    have recS : ∀ x a b, e0 ≤ a → b ≤ e1 → cx_S K R pb SC k (fun i => P i ∧ i ≠ n) sc x a b → cx_S K' R' pb SC' k' (fun i => P' i ∧ i ≠ n) sc x a b := fun x a b ha0 hb1 hx => cx_S_mono hk k k' _ _ sc x a b ha hh (by omega) hP' hn' (h4' x) ha0 hb1 hx
    have a4S : ∀ x a b, cx_S K R pb SC k (fun i => P i ∧ i ≠ n) sc x a b → R' 4 x = R 4 x := fun x a b hx => (h4 x (cx_S_P hx).1 (cx_S_P hx).2).1
    refine ⟨hP n q1, q2, ?_⟩
    rcases h with ⟨g1, g2, y, m, g3, g4, g5, g6⟩ | ⟨g1, g2, y, g3, g4⟩ | ⟨g1, g2, y, m, g3, g4, g5, g6⟩ | ⟨g1, g2, y, z, w, m, j, g3, g4, g5, g6, g7, g8, g9, g10, g11, g12⟩ | ⟨g1, g2, y, z, m, j, g3, g4, g5, g6, g7, g8, g9, g10, g11⟩ | ⟨g1, g2, bs, cnt, c, y, g3, g4, g5, g6, g7, g8, g9, g10, g11, g12⟩
    · have l1 := ltE _ _ _ g4
      exact Or.inl ⟨r2.trans g1, cx_tg_mono ha hk h0 (by omega) r5 r6 r7 g2, y, m, r3.trans g3, recE y _ m (by omega) (by omega) g4, (hk 0 (by omega) m (by omega) (by omega)).trans g5, g6⟩
    · exact Or.inr (Or.inl ⟨r2.trans g1, cx_us_mono ha hk h0 (by omega) r5 r6 r7 g2, y, r3.trans g3, cx_li_mono ltE hk (fun x a b ha0 hb1 hx => ⟨recE x a b ha0 hb1 hx, (a4E x a b hx).1, (a4E x a b hx).2, (hn x (cx_E_P hx).1).1⟩) 6 6 y (a + 1) b 0 (by omega) (by omega) h1 g4⟩)
    · have l1 := ltE _ _ _ g4
      exact Or.inr (Or.inr (Or.inl ⟨r2.trans g1, (ka 0 (by omega)).trans g2, y, m, r3.trans g3, recE y _ m (by omega) (by omega) g4, (hk 0 (by omega) m (by omega) (by omega)).trans g5, g6⟩))
    · have l1 := ltE _ _ _ g4
      have l2 := cx_S_lt g8
      have l3 := cx_S_lt g12
      exact Or.inr (Or.inr (Or.inr (Or.inl ⟨r2.trans g1, (ka 0 (by omega)).trans g2, y, z, w, m, j, r3.trans g3, recE y _ m (by omega) (by omega) g4, (hk 0 (by omega) m (by omega) (by omega)).trans g5, (hk 1 (by omega) m (by omega) (by omega)).trans g6, (a4E _ _ _ g4).1.trans g7, recS z _ j (by omega) (by omega) g8, (hk 0 (by omega) j (by omega) (by omega)).trans g9, (hk 1 (by omega) j (by omega) (by omega)).trans g10, (a4S _ _ _ g8).trans g11, recS w _ b (by omega) h1 g12⟩)))
    · have l1 := ltE _ _ _ g4
      have l2 := cx_S_lt g8
      exact Or.inr (Or.inr (Or.inr (Or.inr (Or.inl ⟨r2.trans g1, (ka 0 (by omega)).trans g2, y, z, m, j, r3.trans g3, recE y _ m (by omega) (by omega) g4, (hk 0 (by omega) m (by omega) (by omega)).trans g5, (hk 1 (by omega) m (by omega) (by omega)).trans g6, (a4E _ _ _ g4).1.trans g7, recS z _ j (by omega) (by omega) g8, (hk 0 (by omega) j (by omega) (by omega)).trans g9, (hk 1 (by omega) j (by omega) (by omega)).trans g10, g11⟩))))
    · have hlt : ∀ x a b, cx_S K R pb SC k (fun i => P i ∧ i ≠ n) ((0, bs, n) :: sc) x a b → a < b := fun x a b hx => cx_S_lt hx
      have l1 := cx_dj_le _ _ _ g10
      have l2 := cx_sl_le hlt _ _ _ _ g12
      have ha' : sc_ag R R' pb SC SC' ((0, bs, n) :: sc) := by
        refine ⟨fun x hx => ?_, ha.2⟩
        rcases List.mem_cons.mp hx with rfl | hx
        · refine ⟨fun _ cnt' hc' hc => ⟨cnt, r5.trans g4, ?_, g6⟩, fun hne => absurd rfl hne⟩
          have hc : R 5 n = nI cnt' := hc
          rw [g4, i_eq (by omega) (by omega)] at hc
          omega
        · exact ha.1 x hx
      refine Or.inr (Or.inr (Or.inr (Or.inr (Or.inr ⟨r2.trans g1, (ka 0 (by omega)).trans g2, bs, cnt, c, y, (ka 1 (by omega)).trans g3, r5.trans g4, (ka 2 (by omega)).trans g5, g6, g7, sc_tp_mono hh g8, g9, cx_dj_mono hk 16 16 _ _ (by omega) (by omega) (by omega) g10, r3.trans g11, cx_sl_mono hlt (fun x a b ha0 hb1 hx => ⟨cx_S_mono hk k k' _ _ _ x a b ha' (fun _ => r5) (by omega) hP' hn' (h4' x) ha0 hb1 hx, (h4 x (cx_S_P hx).1 (cx_S_P hx).2).1⟩) 320 320 y c b (by omega) (by omega) h1 g12⟩))))
theorem sc_ag.rf : sc_ag R R pb SC SC sc := ⟨fun _ _ => ⟨fun _ cnt hc h => ⟨cnt, h, Nat.le_refl _, hc⟩, fun _ => ⟨rfl, rfl⟩⟩, fun _ _ => rfl⟩
theorem cx_E_w {P P' : Nat → Prop} {k k' n a b : Nat} (h : cx_E K R pb SC sc k P n a b) (hk : k ≤ k') (hP : ∀ i, P i → P' i) : cx_E K R pb SC sc k' P' n a b :=
  cx_E_mono (e0 := a) (e1 := b) sc_ag.rf (fun _ _ _ _ _ => rfl) k k' P P' n a b hk hP (fun _ _ => ⟨rfl, rfl, rfl, rfl, rfl⟩) (fun _ _ _ => ⟨rfl, rfl⟩) (Nat.le_refl _) (Nat.le_refl _) h
theorem cx_op_w {P P' : Nat → Prop} {k k' c c' x a b : Nat} (h : cx_op (cx_E K R pb SC sc k P) K R c x a b) (hk : k ≤ k') (hc : c ≤ c') (hP : ∀ i, P i → P' i) : cx_op (cx_E K R pb SC sc k' P') K R c' x a b :=
  cx_op_mono (e0 := a) (e1 := b) (fun _ _ _ hx => cx_E_lt hx) (fun _ _ _ _ _ => rfl) (fun _ _ _ _ _ hx => ⟨cx_E_w hx hk hP, rfl, rfl⟩) c c' x a b hc (Nat.le_refl _) (Nat.le_refl _) h
theorem cx_li_w {P P' : Nat → Prop} {k k' c c' x a b i : Nat} (h : cx_li (cx_E K R pb SC sc k P) K R c x a b i) (hk : k ≤ k') (hc : c ≤ c') (hP : ∀ i, P i → P' i) : cx_li (cx_E K R pb SC sc k' P') K R c' x a b i :=
  cx_li_mono (e0 := a) (e1 := b) (fun _ _ _ hx => cx_E_lt hx) (fun _ _ _ _ _ => rfl) (fun _ _ _ _ _ hx => ⟨cx_E_w hx hk hP, rfl, rfl, rfl⟩) c c' x a b i hc (Nat.le_refl _) (Nat.le_refl _) h
end MONO
