/-! ===== the two loops ===== -/
/-- the reference's run, at the head of its loop in round k -/
def lr (z : lm_T) (R : ai_S) (k : Nat) : Prop := ai_W (lm_u z) (z.2.2.2.2.1 + 8) mX6_run 99 [(0, .ref 0), (3, .int (nI k))] [] R (lm_V z) (ai_qi (lm_V z) z.2.2.2.2.2.2.2)
/-- the class's world, its room, its references; both memories at the start; the reference's -/
abbrev xs_T : Type := Launch × va_G × (Nat → Nat) × (Nat → ClassId) × Nat × ai_V × ai_S × ai_S × lm_T
abbrev xu (x : xs_T) : ai_U := uN x.1 x.2.1 x.2.2.1 x.2.2.2.1
abbrev xd (x : xs_T) : Nat := x.2.2.2.2.1
abbrev xV (x : xs_T) : ai_V := x.2.2.2.2.2.1
abbrev xC (x : xs_T) : ai_S := x.2.2.2.2.2.2.1
abbrev xR (x : xs_T) : ai_S := x.2.2.2.2.2.2.2.1
abbrev xz (x : xs_T) : lm_T := x.2.2.2.2.2.2.2.2
/-- the end of a run -/
def rnF (C0 R0 C R : ai_S) : Prop := ((∀ q, q < 9 ∨ 19 < q → C q = C0 q) ∧ (∀ q, 1 ≤ q → q ≤ 21 → R q = R0 q) ∧ ∀ j, j < 39 → R 0 j = R0 0 j) ∧ C 9 2 = R 0 53 ∧ C 10 6 = R 0 55 ∧ C 10 7 = R 0 56 ∧ ∃ pc, C 9 14 = nI pc ∧ R 0 57 = nI pc ∧ pc ≤ 32 ∧ ∀ i, i < pc → C 19 i = R 30 i
/-- the class's loop, held against the reference's -/
def rs (x : xs_T) (C : ai_S) (j : Nat) (R : ai_S) (k : Nat) : Prop := ai_W (xu x) (xd x + 9) mX1_runProgram 59 [(0, .ref 9), (3, .int (nI j))] [] C (xV x) (ai_pi (fun a C' V' => V' = xV x ∧ ∃ R', rnF (xC x) (xR x) C' R' ∧ ((xz x).2.2.2.2.2.2.2 a R' → lr (xz x) R k)))
def go (y : ys_T) (x : xs_T) (fu N : Nat) : Prop := ∀ (C R : ai_S) (j kk : Nat), N ≤ 10 * j + kk → (sE y (xC x) (xR x) fu C R j kk ∨ sS' y (xC x) (xR x) fu C R j kk ∨ sR' y (xC x) (xR x) fu C R j kk) → rs x C j R kk
section LPS
variable {x : xs_T} {C R R1 : ai_S} {j k k1 a e : Nat}
theorem rs_ref (h : lr (xz x) R1 k1 → lr (xz x) R k) (hr : rs x C j R1 k1) : rs x C j R k :=
  hr.mono (fun _ _ _ ⟨a, h1, h2, R', h3, h4⟩ => ⟨a, h1, h2, R', h3, fun hp => h (h4 hp)⟩)
theorem rs_end {v : Int32} (hM : xV x 9 0 = .ref 20) (h3 : C 9 3 = v) (hv : ¬ v = -1) (hF : rnF (xC x) (xR x) C R1) (hl : (xz x).2.2.2.2.2.2.2 v R1 → lr (xz x) R k) : rs x C j R k := by
  subst h3
  exact vX1_runProgram_59 hM ⟨fun _ => ⟨fun _ => ⟨rfl, R1, hF, hl⟩, fun h => absurd h hv⟩, fun _ => ⟨fun _ => ⟨rfl, R1, hF, hl⟩, fun h => absurd h hv⟩⟩
theorem rs_step (hM : xV x 9 0 = .ref 20) (hj : j < 1000000) (h3 : C 9 3 = -1) (h : ai_met (xu x) (xd x + 8) mX1_step [.ref 9] C (xV x) (ai_qv (xV x) (fun C1 => rs x C1 (j + 1) R k))) : rs x C j R k := by
  refine vX1_runProgram_59 hM ⟨fun h => absurd h ?_, fun _ => ⟨fun h => absurd h3 h, fun _ => ?_⟩⟩
  · rw [show (1000000 : Int32) = nI 1000000 from rfl, i_le (by omega) (by omega)]; omega
  · rw [nI_1]; exact h
variable {G : ai_S → Prop}
theorem st_ctl (hM : xV x 9 0 = .ref 20) (hp : C 9 4 = nI a) (ha : a < e) (he : e ≤ 488) (h20 : C 20 3 = nI e) {c : Int32} (hop : C 21 a = c) (hc : c = 0 ∨ c = 1 ∨ c = 2 ∨ c = 3 ∨ c = 4 ∨ c = 5 ∨ c = 16 ∨ c = 17 ∨ c = 25) (h : ai_met (xu x) (xd x + 7) mX1_control [.ref 9, .int c, .int (C 22 a), .int (C 23 a)] (ai_up C 9 4 (nI (a + 1))) (xV x) (ai_qv (xV x) G)) : ai_met (xu x) (xd x + 8) mX1_step [.ref 9] C (xV x) (ai_qv (xV x) G) := by
  have e1 : (C 9 4).toNatClampNeg = a := by rw [hp, nI_clamp (by omega)]
  have e2 : C 9 4 + 1 = nI (a + 1) := by rw [hp, nI_1]
  refine vX1_step hM ⟨fun h => absurd h (by rw [hp]; exact nI_pos (by omega)), fun _ => ⟨by rw [h20, hp, i_le (by omega) (by omega)]; omega, by rw [hp, show (488 : Int32) = nI 488 from rfl, i_le (by omega) (by omega)]; omega, by rw [hp]; exact i_in (by omega) (by omega), ?_⟩⟩
  rw [e1, e2, hop]
  rcases hc with rfl | rfl | rfl | rfl | rfl | rfl | rfl | rfl | rfl
  all_goals repeat' (first | exact h | refine ⟨fun hh => absurd hh (by decide), fun _ => ?_⟩ | refine ⟨fun _ => ?_, fun hh => absurd hh (by decide)⟩)
theorem st_asg (hM : xV x 9 0 = .ref 20) (hp : C 9 4 = nI a) (ha : a < e) (he : e ≤ 488) (h20 : C 20 3 = nI e) {c : Int32} (hop : C 21 a = c) (hc : c = 6 ∨ c = 7 ∨ c = 8 ∨ c = 9) (h : ai_met (xu x) (xd x + 7) mX1_assign [.ref 9, .int c, .int (C 22 a), .int (C 23 a)] (ai_up C 9 4 (nI (a + 1))) (xV x) (ai_qv (xV x) G)) : ai_met (xu x) (xd x + 8) mX1_step [.ref 9] C (xV x) (ai_qv (xV x) G) := by
  have e1 : (C 9 4).toNatClampNeg = a := by rw [hp, nI_clamp (by omega)]
  have e2 : C 9 4 + 1 = nI (a + 1) := by rw [hp, nI_1]
  refine vX1_step hM ⟨fun h => absurd h (by rw [hp]; exact nI_pos (by omega)), fun _ => ⟨by rw [h20, hp, i_le (by omega) (by omega)]; omega, by rw [hp, show (488 : Int32) = nI 488 from rfl, i_le (by omega) (by omega)]; omega, by rw [hp]; exact i_in (by omega) (by omega), ?_⟩⟩
  rw [e1, e2, hop]
  rcases hc with rfl | rfl | rfl | rfl
  all_goals repeat' (first | exact h | refine ⟨fun hh => absurd hh (by decide), fun _ => ?_⟩ | refine ⟨fun _ => ?_, fun hh => absurd hh (by decide)⟩)
theorem st_wo (hM : xV x 9 0 = .ref 20) (hp : C 9 4 = nI a) (ha : a < e) (he : e ≤ 488) (h20 : C 20 3 = nI e) {c : Int32} (hop : C 21 a = c) (hc : c = 10 ∨ c = 11 ∨ c = 12) (h : ai_met (xu x) (xd x + 7) mX1_workOut [.ref 9, .int c, .int (C 22 a), .int (C 23 a)] (ai_up C 9 4 (nI (a + 1))) (xV x) (ai_qv (xV x) G)) : ai_met (xu x) (xd x + 8) mX1_step [.ref 9] C (xV x) (ai_qv (xV x) G) := by
  have e1 : (C 9 4).toNatClampNeg = a := by rw [hp, nI_clamp (by omega)]
  have e2 : C 9 4 + 1 = nI (a + 1) := by rw [hp, nI_1]
  refine vX1_step hM ⟨fun h => absurd h (by rw [hp]; exact nI_pos (by omega)), fun _ => ⟨by rw [h20, hp, i_le (by omega) (by omega)]; omega, by rw [hp, show (488 : Int32) = nI 488 from rfl, i_le (by omega) (by omega)]; omega, by rw [hp]; exact i_in (by omega) (by omega), ?_⟩⟩
  rw [e1, e2, hop]
  rcases hc with rfl | rfl | rfl
  all_goals repeat' (first | exact h | refine ⟨fun hh => absurd hh (by decide), fun _ => ?_⟩ | refine ⟨fun _ => ?_, fun hh => absurd hh (by decide)⟩)
theorem st_call (hM : xV x 9 0 = .ref 20) (hp : C 9 4 = nI a) (ha : a < e) (he : e ≤ 488) (h20 : C 20 3 = nI e) {c : Int32} (hop : C 21 a = c) (hc : c = 13 ∨ c = 14 ∨ c = 15) (h : ai_met (xu x) (xd x + 7) mX1_call [.ref 9, .int c, .int (C 22 a), .int (C 23 a)] (ai_up C 9 4 (nI (a + 1))) (xV x) (ai_qv (xV x) G)) : ai_met (xu x) (xd x + 8) mX1_step [.ref 9] C (xV x) (ai_qv (xV x) G) := by
  have e1 : (C 9 4).toNatClampNeg = a := by rw [hp, nI_clamp (by omega)]
  have e2 : C 9 4 + 1 = nI (a + 1) := by rw [hp, nI_1]
  refine vX1_step hM ⟨fun h => absurd h (by rw [hp]; exact nI_pos (by omega)), fun _ => ⟨by rw [h20, hp, i_le (by omega) (by omega)]; omega, by rw [hp, show (488 : Int32) = nI 488 from rfl, i_le (by omega) (by omega)]; omega, by rw [hp]; exact i_in (by omega) (by omega), ?_⟩⟩
  rw [e1, e2, hop]
  rcases hc with rfl | rfl | rfl
  all_goals repeat' (first | exact h | refine ⟨fun hh => absurd hh (by decide), fun _ => ?_⟩ | refine ⟨fun _ => ?_, fun hh => absurd hh (by decide)⟩)
/-- a value begins to wait -/
theorem st_wait (hM : xV x 9 0 = .ref 20) (hp : C 9 4 = nI a) (ha : a < e) (he : e ≤ 488) (h20 : C 20 3 = nI e) {w : Nat} (hop : C 21 a = 18) (hw : C 9 12 = nI w) (hw1 : w ≤ 100) (h : w < 100 → G (ai_up (ai_up (ai_up C 9 4 (nI (a + 1))) 18 w (C 9 6)) 9 12 (nI (w + 1)))) (h' : w = 100 → G (ai_up (ai_up C 9 4 (nI (a + 1))) 9 3 7)) : ai_met (xu x) (xd x + 8) mX1_step [.ref 9] C (xV x) (ai_qv (xV x) G) := by
  have e1 : (C 9 4).toNatClampNeg = a := by rw [hp, nI_clamp (by omega)]
  have e2 : C 9 4 + 1 = nI (a + 1) := by rw [hp, nI_1]
  refine vX1_step hM ⟨fun h => absurd h (by rw [hp]; exact nI_pos (by omega)), fun _ => ⟨by rw [h20, hp, i_le (by omega) (by omega)]; omega, by rw [hp, show (488 : Int32) = nI 488 from rfl, i_le (by omega) (by omega)]; omega, by rw [hp]; exact i_in (by omega) (by omega), ?_⟩⟩
  rw [e1, e2, hop]
  refine ⟨fun hh => absurd hh (by decide), fun _ => ⟨fun hh => absurd hh (by decide), fun _ => ⟨fun hh => absurd rfl hh, fun _ => ⟨by rw [hw]; exact nI_pos (by omega), fun hl => ?_, fun hl => ?_⟩⟩⟩⟩
  · rw [hw, show (100 : Int32) = nI 100 from rfl, i_lt (by omega) (by omega)] at hl
    rw [hw, nI_clamp (by omega), nI_1]
    exact ⟨i_in hl (by omega), h hl⟩
  · rw [hw, show (100 : Int32) = nI 100 from rfl, i_lt (by omega) (by omega)] at hl
    exact h' (by omega)
/-- two values are joined -/
def jn (sg : Nat) (a b : Int32) : Int32 := match sg with
  | 0 => a + b
  | 1 => a - b
  | 2 => a * b
  | _ => if b ≤ a then 0 else 1
theorem st_op (hM : xV x 9 0 = .ref 20) (hp : C 9 4 = nI a) (ha : a < e) (he : e ≤ 488) (h20 : C 20 3 = nI e) {w sg : Nat} (hsg : sg < 4) (hop : C 21 a = nI (sg + 19)) (hw : C 9 12 = nI (w + 1)) (hw1 : w < 100) (h : G (ai_up (ai_up (ai_up C 9 4 (nI (a + 1))) 9 12 (nI w)) 9 6 (jn sg (C 18 w) (C 9 6)))) : ai_met (xu x) (xd x + 8) mX1_step [.ref 9] C (xV x) (ai_qv (xV x) G) := by
  have e1 : (C 9 4).toNatClampNeg = a := by rw [hp, nI_clamp (by omega)]
  have e2 : C 9 4 + 1 = nI (a + 1) := by rw [hp, nI_1]
  have e3 : C 9 12 - 1 = nI w := by rw [hw, nI_pred]
  refine vX1_step hM ⟨fun h => absurd h (by rw [hp]; exact nI_pos (by omega)), fun _ => ⟨by rw [h20, hp, i_le (by omega) (by omega)]; omega, by rw [hp, show (488 : Int32) = nI 488 from rfl, i_le (by omega) (by omega)]; omega, by rw [hp]; exact i_in (by omega) (by omega), ?_⟩⟩
  rw [e1, e2, hop, e3, nI_clamp (show w < 2 ^ 31 by omega)]
  have w1 : ¬ C 9 12 ≤ 0 := by rw [hw]; exact nI_nle (by omega) (by omega)
  have w2 : C 9 12 ≤ 100 := by rw [hw, show (100 : Int32) = nI 100 from rfl, i_le (by omega) (by omega)]; omega
  have w3 : vp_in (nI w) 100 := i_in hw1 (by omega)
  match sg, hsg, h with
  | 0, _, h => exact ⟨fun hh => absurd hh (by decide), fun _ => ⟨fun hh => absurd hh (by decide), fun _ => ⟨fun _ => ⟨w1, w2, w3, fun hh => absurd rfl hh, fun _ => h⟩, fun hh => absurd hh (by decide)⟩⟩⟩
  | 1, _, h => exact ⟨fun hh => absurd hh (by decide), fun _ => ⟨fun hh => absurd hh (by decide), fun _ => ⟨fun _ => ⟨w1, w2, w3, fun _ => ⟨fun hh => absurd rfl hh, fun _ => h⟩, fun hh => absurd hh (by decide)⟩, fun hh => absurd hh (by decide)⟩⟩⟩
  | 2, _, h => exact ⟨fun hh => absurd hh (by decide), fun _ => ⟨fun hh => absurd hh (by decide), fun _ => ⟨fun _ => ⟨w1, w2, w3, fun _ => ⟨fun _ => ⟨fun hh => absurd rfl hh, fun _ => h⟩, fun hh => absurd hh (by decide)⟩, fun hh => absurd hh (by decide)⟩, fun hh => absurd hh (by decide)⟩⟩⟩
  | 3, _, h =>
    refine ⟨fun hh => absurd hh (by decide), fun _ => ⟨fun hh => absurd hh (by decide), fun _ => ⟨fun _ => ⟨w1, w2, w3, fun _ => ⟨fun _ => ⟨fun _ => ⟨fun hh => ?_, fun hh => ?_⟩, fun hh => absurd hh (by decide)⟩, fun hh => absurd hh (by decide)⟩, fun hh => absurd hh (by decide)⟩, fun hh => absurd hh (by decide)⟩⟩⟩
    · simp only [jn, if_pos hh] at h; exact h
    · simp only [jn, if_neg hh] at h; exact h
/-! the reference's rounds -/
variable {z : lm_T}
theorem lr_end {v : Int32} (h51 : R 0 51 = v) (hv : ¬ v = 0 ∨ R 0 39 = nI 0) (hG : z.2.2.2.2.2.2.2 v R) : lr z R k := by
  subst h51
  refine vX6_run_99 ⟨fun _ => hG, fun _ => ⟨fun _ => hG, fun h => ⟨fun _ => hG, fun h0 => ?_⟩⟩⟩
  rcases hv with hv | hv
  · exact absurd h0 hv
  · rw [hv] at h; exact absurd (by decide) h
theorem lr_do {c n f t : Nat} (hk : k < 10000000) (h39 : R 0 39 = nI (t + 1)) (ht : t < 7000) (h51 : R 0 51 = 0) (h22 : R 22 t = nI (c + 16 * n + 16384 * f)) (hc : c < 16) (hn : n < 1024) (hf : f < 1000) (h : ai_met (lm_u z) (z.2.2.2.2.1 + 7) mX6_perform [.ref 0, .int (nI c), .int (nI n), .int (nI f)] (ai_up R 0 39 (nI t)) (lm_V z) (ai_qv (lm_V z) (fun R1 => lr z R1 (k + 1)))) : lr z R k := by
  have e1 : R 0 39 - 1 = nI t := by rw [h39, nI_pred]
  refine vX6_run_99 ⟨fun h => absurd h ?_, fun _ => ⟨fun h => absurd h ?_, fun _ => ⟨fun h => absurd h51 h, fun _ => ⟨by rw [e1]; exact i_in ht (by omega), ?_⟩⟩⟩⟩
  · rw [show (10000000 : Int32) = nI 10000000 from rfl, i_le (by omega) (by omega)]; omega
  · rw [h39]; exact nI_nle (by omega) (by omega)
  · rw [e1, nI_clamp (by omega), h22, nI_1]
    rw [pk_andN (by omega) 4 (by decide), pk_shrN (by omega) _ 4 (by decide), pk_shrN (by omega) _ 14 (by decide), pk_andN (by omega) 10 (by decide)]
    rw [show (c + 16 * n + 16384 * f) % 2 ^ 4 = c by omega, show (c + 16 * n + 16384 * f) / 2 ^ 4 % 2 ^ 10 = n by omega, show (c + 16 * n + 16384 * f) / 2 ^ 14 = f by omega]
    exact h
/-- a task is laid by -/
theorem sp_later {u : Nat} {V : ai_V} {c n f t : Nat} (h39 : R 0 39 = nI t) (ht : t < 7000) (h : G (ai_up (ai_up R 22 t (nI (c + 16 * n + 16384 * f))) 0 39 (nI (t + 1)))) : ai_met (lm_u z) u mX6_later [.ref 0, .int (nI c), .int (nI n), .int (nI f)] R V (ai_qv V G) := by
  refine vX6_later ⟨by rw [h39]; exact i_in ht (by omega), ?_⟩
  rw [h39, nI_clamp (by omega), nI_1, show (16 : Int32) = nI 16 from rfl, show (16384 : Int32) = nI 16384 from rfl, pk_mul, pk_mul, nI_add, nI_add]
  exact h
theorem sp_pay {u : Nat} {V : ai_V} {G : Bool → ai_S → Prop} {fu cs : Nat} (h52 : R 0 52 = nI fu) (h53 : R 0 53 = nI cs) (hfu : fu ≤ 1000) (hcs : cs ≤ fu) (h : cs < fu → G true (ai_up R 0 53 (nI (cs + 1)))) (h' : cs = fu → G false (ai_up R 0 51 1)) : ai_met (lm_u z) u mX6_pay [.ref 0] R V (ai_qz V G) := by
  refine vX6_pay ⟨fun hh => ?_, fun hh => ?_⟩
  · rw [h52, h53, i_eq (by omega) (by omega)] at hh
    rw [h53, nI_1]
    exact h (by omega)
  · rw [h52, h53, i_eq (by omega) (by omega)] at hh
    exact h' hh
end LPS
