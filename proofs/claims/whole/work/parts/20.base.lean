/-! ===== small rows ===== -/
theorem ai_up_self {S : ai_S} {q k : Nat} {x : Int32} (h : S q k = x) : ai_up S q k x = S := by
  funext i j
  rw [ai_up_eq]
  by_cases hh : i = q ∧ j = k
  · rw [if_pos hh, hh.1, hh.2, h]
  · rw [if_neg hh]
theorem ai_up_up {S : ai_S} {q k : Nat} {x y : Int32} : ai_up (ai_up S q k x) q k y = ai_up S q k y := by
  funext i j
  simp only [ai_up_eq]
  by_cases hh : i = q ∧ j = k <;> simp [hh]
theorem ai_up_comm {S : ai_S} {q k q' k' : Nat} {x y : Int32} (h : ¬ (q = q' ∧ k = k')) : ai_up (ai_up S q k x) q' k' y = ai_up (ai_up S q' k' y) q k x := by
  funext i j
  simp only [ai_up_eq]
  by_cases h1 : i = q ∧ j = k <;> by_cases h2 : i = q' ∧ j = k'
  · exact absurd ⟨h1.1.symm.trans h2.1, h1.2.symm.trans h2.2⟩ h
  · rw [if_neg h2, if_pos h1, if_pos h1]
  · rw [if_pos h2, if_neg h1, if_pos h2]
  · rw [if_neg h2, if_neg h1, if_neg h1, if_neg h2]
theorem i_ofNat (n : Nat) : Int32.ofNat n = nI n := rfl
theorem i_lt {a b : Nat} (ha : a < 2 ^ 31) (hb : b < 2 ^ 31) : (nI a < nI b) = (a < b) := propext (nI_ltI ha hb)
theorem i_le {a b : Nat} (ha : a < 2 ^ 31) (hb : b < 2 ^ 31) : (nI a ≤ nI b) = (a ≤ b) := propext (nI_leI ha hb)
theorem i_eq {a b : Nat} (ha : a < 2 ^ 31) (hb : b < 2 ^ 31) : (nI a = nI b) = (a = b) := propext (nI_eq ha hb)
theorem i_in {a n : Nat} (h : a < n) (hn : n < 2 ^ 31) : vp_in (nI a) n := vp_in_nI h hn
/-! ===== the text: skipping spaces ===== -/
def px_sk (tx : Nat → Int32) (n : Nat) : Nat → Nat → Nat
  | 0, p => p
  | f + 1, p => if p < n ∧ (tx p = 32 ∨ tx p = 10) then px_sk tx n f (p + 1) else p
def px_s (tx : Nat → Int32) (n p : Nat) : Nat := px_sk tx n (n - p) p
/-- the sign at a place, d behind the end -/
def px_c (tx : Nat → Int32) (n : Nat) (d : Int32) (p : Nat) : Int32 := if p < n then tx p else d
section PX
variable {tx : Nat → Int32} {n p : Nat}
theorem px_s_end (h : n ≤ p) : px_s tx n p = p := by
  unfold px_s
  rw [show n - p = 0 by omega]
  rfl
theorem px_s_sp (h : p < n) (hc : tx p = 32 ∨ tx p = 10) : px_s tx n p = px_s tx n (p + 1) := by
  unfold px_s
  rw [show n - p = (n - (p + 1)) + 1 by omega, px_sk, if_pos ⟨h, hc⟩]
theorem px_s_no (hc : ¬ (tx p = 32 ∨ tx p = 10)) : px_s tx n p = p := by
  unfold px_s
  cases n - p with
  | zero => rfl
  | succ f => rw [px_sk, if_neg (fun h => hc h.2)]
theorem px_s_ind (P : Nat → Prop) (h0 : ∀ p, n ≤ p → P p) (h1 : ∀ p, p < n → (tx p = 32 ∨ tx p = 10) → P (p + 1) → P p) (h2 : ∀ p, p < n → ¬ (tx p = 32 ∨ tx p = 10) → P p) (p : Nat) : P p := by
  have key : ∀ f p, n - p ≤ f → P p := by
    intro f
    induction f with
    | zero => intro p hp; exact h0 p (by omega)
    | succ f ih =>
      intro p hp
      by_cases hlt : p < n
      · by_cases hc : tx p = 32 ∨ tx p = 10
        · exact h1 p hlt hc (ih _ (by omega))
        · exact h2 p hlt hc
      · exact h0 p (by omega)
  exact key _ p (Nat.le_refl _)
theorem px_s_ge (tx : Nat → Int32) (n p : Nat) : p ≤ px_s tx n p := by
  refine px_s_ind (tx := tx) (n := n) (fun p => p ≤ px_s tx n p) (fun p h => ?_) (fun p h hc ih => ?_) (fun p h hc => ?_) p
  · rw [px_s_end h]; exact Nat.le_refl _
  · rw [px_s_sp h hc]; omega
  · rw [px_s_no hc]; exact Nat.le_refl _
theorem px_s_le (tx : Nat → Int32) {n p : Nat} (h : p ≤ n) : px_s tx n p ≤ n := by
  refine px_s_ind (tx := tx) (n := n) (fun p => p ≤ n → px_s tx n p ≤ n) (fun p h h2 => ?_) (fun p h hc ih h2 => ?_) (fun p h hc h2 => ?_) p h
  · rw [px_s_end h]; exact h2
  · rw [px_s_sp h hc]; exact ih h
  · rw [px_s_no hc]; exact h2
theorem px_s_at (tx : Nat → Int32) (n p : Nat) : n ≤ px_s tx n p ∨ ¬ (tx (px_s tx n p) = 32 ∨ tx (px_s tx n p) = 10) := by
  refine px_s_ind (tx := tx) (n := n) (fun p => n ≤ px_s tx n p ∨ ¬ (tx (px_s tx n p) = 32 ∨ tx (px_s tx n p) = 10)) (fun p h => ?_) (fun p h hc ih => ?_) (fun p h hc => ?_) p
  · rw [px_s_end h]; exact Or.inl h
  · rw [px_s_sp h hc]; exact ih
  · rw [px_s_no hc]; exact Or.inr hc
theorem px_s_s (tx : Nat → Int32) (n p : Nat) : px_s tx n (px_s tx n p) = px_s tx n p := by
  rcases px_s_at tx n p with h | h
  · exact px_s_end h
  · exact px_s_no h
end PX
/-! ===== the class's reader: the text and its place ===== -/
def ct_T (C : ai_S) (tx : Nat → Int32) (n : Nat) : Prop := C 2 1 = nI n ∧ n ≤ 320 ∧ ∀ i, i < n → C 1 i = tx i
def mt_T (R : ai_S) (tx : Nat → Int32) (n : Nat) : Prop := R 0 1 = nI n ∧ n ≤ 320 ∧ ∀ i, i < n → R 1 i = tx i
section LEX
variable {l : Launch} {D : va_G} {ρ : Nat → Nat} {τ : Nat → ClassId} {d : Nat} {V : ai_V} {tx : Nat → Int32} {n : Nat}
/-- the text's cell, and what stands in it -/
def hV (ρ : Nat → Nat) (V : ai_V) (tx : Nat → Int32) (n : Nat) : Prop := V 2 0 = .ref 1 ∧ ∀ i, i < n → ai_zS ρ 1 i = tx i
theorem hV.y {C : ai_S} {p : Nat} (hV0 : hV ρ V tx n) (hT : ct_T C tx n) (hp : C 2 2 = nI p) (hpn : p ≤ n) : ¬ (C 2 1) ≤ (C 2 2) → ai_zS ρ 1 ((C 2 2)).toNatClampNeg = C 1 ((C 2 2)).toNatClampNeg := by
  obtain ⟨h1, h2, h3⟩ := hT
  intro hh
  rw [h1, hp, i_le (by omega) (by omega)] at hh
  rw [hp, nI_clamp (by omega), hV0.2 p (by omega), h3 p (by omega)]
theorem hV.z {C : ai_S} {p : Nat} (hV0 : hV ρ V tx n) (hT : ct_T C tx n) (hp : C 2 2 = nI p) (hpn : p ≤ n) : ¬ (C 2 1) ≤ ((C 2 2) + 1) → ai_zS ρ 1 (((C 2 2) + 1)).toNatClampNeg = C 1 (((C 2 2) + 1)).toNatClampNeg := by
  obtain ⟨h1, h2, h3⟩ := hT
  intro hh
  rw [h1, hp, nI_1, i_le (by omega) (by omega)] at hh
  rw [hp, nI_1, nI_clamp (by omega), hV0.2 (p + 1) (by omega), h3 (p + 1) (by omega)]
theorem sp_lookW {G : Int32 → ai_S → Prop} (hV0 : hV ρ V tx n) (p : Nat) : ∀ (C : ai_S), ct_T C tx n → C 2 2 = nI p → p ≤ n → G (px_c tx n 0 (px_s tx n p)) (ai_up C 2 2 (nI (px_s tx n p))) →
    ai_W (uC l D ρ τ) d mX3_look 0 [(0, .ref 2)] [] C V (ai_qi V G) := by
  refine px_s_ind (tx := tx) (n := n) (fun p => ∀ (C : ai_S), ct_T C tx n → C 2 2 = nI p → p ≤ n → G (px_c tx n 0 (px_s tx n p)) (ai_up C 2 2 (nI (px_s tx n p))) → ai_W (uC l D ρ τ) d mX3_look 0 [(0, .ref 2)] [] C V (ai_qi V G)) (fun p h => ?_) (fun p h hc ih => ?_) (fun p h hc => ?_) p
  · intro C hT hp hpn hG
    obtain ⟨h1, h2, h3⟩ := hT
    rw [px_s_end h, ai_up_self hp] at hG
    have hle : C 2 1 ≤ C 2 2 := by rw [h1, hp, i_le (by omega) (by omega)]; exact h
    refine vX3_look_0 hV0.1 (hV0.y ⟨h1, h2, h3⟩ hp hpn) ⟨fun _ => ?_, fun hc => absurd hle hc⟩
    simpa [px_c, show ¬ p < n by omega] using hG
  · intro C hT hp hpn hG
    obtain ⟨h1, h2, h3⟩ := hT
    have hle : ¬ C 2 1 ≤ C 2 2 := by rw [h1, hp, i_le (by omega) (by omega)]; omega
    have hx : C 1 (C 2 2).toNatClampNeg = tx p := by rw [hp, nI_clamp (by omega)]; exact h3 p h
    have hgo : ai_W (uC l D ρ τ) d mX3_look 0 [(0, .ref 2)] [] (ai_up C 2 2 (C 2 2 + 1)) V (ai_qi V G) := by
      refine ih _ ⟨?_, h2, ?_⟩ ?_ h ?_
      · rw [ai_up_n (by omega)]; exact h1
      · intro i hi; rw [ai_up_n (by omega)]; exact h3 i hi
      · rw [ai_up_s, hp, nI_1]
      · rw [ai_up_up, ← px_s_sp h hc]; exact hG
    refine vX3_look_0 hV0.1 (hV0.y ⟨h1, h2, h3⟩ hp hpn) ⟨fun h0 => absurd h0 hle, fun _ => ⟨by rw [hp]; exact i_in (by omega) (by omega), fun _ => hgo, fun hn => ⟨fun hn2 => ?_, fun _ => hgo⟩⟩⟩
    rw [hx] at hn hn2
    exact absurd hc (fun h => h.elim hn hn2)
  · intro C hT hp hpn hG
    obtain ⟨h1, h2, h3⟩ := hT
    have hle : ¬ C 2 1 ≤ C 2 2 := by rw [h1, hp, i_le (by omega) (by omega)]; omega
    have hx : C 1 (C 2 2).toNatClampNeg = tx p := by rw [hp, nI_clamp (by omega)]; exact h3 p h
    rw [px_s_no hc, ai_up_self hp] at hG
    refine vX3_look_0 hV0.1 (hV0.y ⟨h1, h2, h3⟩ hp hpn) ⟨fun h0 => absurd h0 hle, fun _ => ⟨by rw [hp]; exact i_in (by omega) (by omega), fun h32 => ?_, fun hn => ⟨fun hn2 => ?_, fun h10 => ?_⟩⟩⟩
    · rw [hx] at h32; exact absurd (Or.inl h32) hc
    · rw [hx]; simpa [px_c, h] using hG
    · rw [hx] at h10; exact absurd (Or.inr h10) hc
theorem sp_look {G : Int32 → ai_S → Prop} (hV0 : hV ρ V tx n) {p : Nat} {C : ai_S} (hT : ct_T C tx n) (hp : C 2 2 = nI p) (hpn : p ≤ n) (hG : G (px_c tx n 0 (px_s tx n p)) (ai_up C 2 2 (nI (px_s tx n p)))) :
    ai_met (uC l D ρ τ) d mX3_look [.ref 2] C V (ai_qi V G) :=
  ai_mof plX3 (Nat.le_of_ble_eq_true rfl) (lv := [(0, .ref 2)]) rfl (sp_lookW hV0 p C hT hp hpn hG)
theorem sp_take {G : Bool → ai_S → Prop} (hV0 : hV ρ V tx n) {p : Nat} {C : ai_S} {c : Int32} (hT : ct_T C tx n) (hp : C 2 2 = nI p) (hpn : p ≤ n)
    (ht : px_c tx n 0 (px_s tx n p) = c → G true (ai_up C 2 2 (nI (px_s tx n p + 1)))) (hf : ¬ px_c tx n 0 (px_s tx n p) = c → G false (ai_up C 2 2 (nI (px_s tx n p)))) :
    ai_met (uC l D ρ τ) (d + 1) mX3_take [.ref 2, .int c] C V (ai_qz V G) := by
  refine vX3_take (sp_look hV0 hT hp hpn ⟨fun h => ?_, hf⟩)
  rw [ai_up_s, ai_up_up, nI_1]
  exact ht h
theorem sp_peekW {G : Int32 → ai_S → Prop} (p : Nat) : ∀ (R : ai_S), mt_T R tx n → R 0 2 = nI p → p ≤ n → G (px_c tx n (-1) (px_s tx n p)) (ai_up R 0 2 (nI (px_s tx n p))) →
    ai_W (uM l D ρ τ) d mX6_peek 0 [(0, .ref 0)] [] R V (ai_qi V G) := by
  refine px_s_ind (tx := tx) (n := n) (fun p => ∀ (R : ai_S), mt_T R tx n → R 0 2 = nI p → p ≤ n → G (px_c tx n (-1) (px_s tx n p)) (ai_up R 0 2 (nI (px_s tx n p))) → ai_W (uM l D ρ τ) d mX6_peek 0 [(0, .ref 0)] [] R V (ai_qi V G)) (fun p h => ?_) (fun p h hc ih => ?_) (fun p h hc => ?_) p
  · intro C hT hp hpn hG
    obtain ⟨h1, h2, h3⟩ := hT
    rw [px_s_end h, ai_up_self hp] at hG
    have hle : C 0 1 ≤ C 0 2 := by rw [h1, hp, i_le (by omega) (by omega)]; exact h
    refine vX6_peek_0 ⟨fun _ => ?_, fun hc => absurd hle hc⟩
    simpa [px_c, show ¬ p < n by omega] using hG
  · intro C hT hp hpn hG
    obtain ⟨h1, h2, h3⟩ := hT
    have hle : ¬ C 0 1 ≤ C 0 2 := by rw [h1, hp, i_le (by omega) (by omega)]; omega
    have hx : C 1 (C 0 2).toNatClampNeg = tx p := by rw [hp, nI_clamp (by omega)]; exact h3 p h
    have hgo : ai_W (uM l D ρ τ) d mX6_peek 0 [(0, .ref 0)] [] (ai_up C 0 2 (C 0 2 + 1)) V (ai_qi V G) := by
      refine ih _ ⟨?_, h2, ?_⟩ ?_ h ?_
      · rw [ai_up_n (by omega)]; exact h1
      · intro i hi; rw [ai_up_n (by omega)]; exact h3 i hi
      · rw [ai_up_s, hp, nI_1]
      · rw [ai_up_up, ← px_s_sp h hc]; exact hG
    refine vX6_peek_0 ⟨fun h0 => absurd h0 hle, fun _ => ⟨by rw [hp]; exact i_in (by omega) (by omega), fun _ => hgo, fun hn => ⟨fun hn2 => ?_, fun _ => hgo⟩⟩⟩
    rw [hx] at hn hn2
    exact absurd hc (fun h => h.elim hn hn2)
  · intro C hT hp hpn hG
    obtain ⟨h1, h2, h3⟩ := hT
    have hle : ¬ C 0 1 ≤ C 0 2 := by rw [h1, hp, i_le (by omega) (by omega)]; omega
    have hx : C 1 (C 0 2).toNatClampNeg = tx p := by rw [hp, nI_clamp (by omega)]; exact h3 p h
    rw [px_s_no hc, ai_up_self hp] at hG
    refine vX6_peek_0 ⟨fun h0 => absurd h0 hle, fun _ => ⟨by rw [hp]; exact i_in (by omega) (by omega), fun h32 => ?_, fun hn => ⟨fun hn2 => ?_, fun h10 => ?_⟩⟩⟩
    · rw [hx] at h32; exact absurd (Or.inl h32) hc
    · rw [hx]; simpa [px_c, h] using hG
    · rw [hx] at h10; exact absurd (Or.inr h10) hc
theorem sp_peek {G : Int32 → ai_S → Prop} {p : Nat} {R : ai_S} (hT : mt_T R tx n) (hp : R 0 2 = nI p) (hpn : p ≤ n) (hG : G (px_c tx n (-1) (px_s tx n p)) (ai_up R 0 2 (nI (px_s tx n p)))) :
    ai_met (uM l D ρ τ) d mX6_peek [.ref 0] R V (ai_qi V G) :=
  ai_mof plX6 (Nat.le_of_ble_eq_true rfl) (lv := [(0, .ref 0)]) rfl (sp_peekW p R hT hp hpn hG)
theorem sp_eat {G : Bool → ai_S → Prop} {p : Nat} {R : ai_S} {c : Int32} (hT : mt_T R tx n) (hp : R 0 2 = nI p) (hpn : p ≤ n)
    (ht : px_c tx n (-1) (px_s tx n p) = c → G true (ai_up R 0 2 (nI (px_s tx n p + 1)))) (hf : ¬ px_c tx n (-1) (px_s tx n p) = c → G false (ai_up R 0 2 (nI (px_s tx n p)))) :
    ai_met (uM l D ρ τ) (d + 1) mX6_eat [.ref 0, .int c] R V (ai_qz V G) := by
  refine vX6_eat (sp_peek hT hp hpn ⟨fun h => ?_, hf⟩)
  rw [ai_up_s, ai_up_up, nI_1]
  exact ht h
end LEX
