/-! ===== declaring names, leaving a level ===== -/
section DCL
variable {l : Launch} {D : va_G} {ρ : Nat → Nat} {τ : Nat → ClassId} {d : Nat} {V : ai_V}
/-- the class's new entry -/
def decC (C : ai_S) (m : Nat) (c kd sl : Int32) : ai_S := ai_up (ai_up (ai_up (ai_up (ai_up C 4 m c) 5 m kd) 6 m (C 3 5)) 7 m sl) 3 4 (nI (m + 1))
theorem sp_dec0 {C : ai_S} {c kd sl : Int32} {m : Nat} {G : Bool → ai_S → Prop} (h3 : C 3 4 = nI m) (hm : m < 136) (hG : G false (decC C m c kd sl)) : ∀ (w i : Nat), i + w = m → ai_W (uC l D ρ τ) d mX4_declare 11 [(0, .ref 3), (1, .int c), (2, .int kd), (3, .int sl), (5, .int 0), (6, .int (nI i))] [] C V (ai_qz V G)
  | 0, i, hi => by
    refine vX4_declare_0_11 ?_
    rw [h3, i_le (by omega) (by omega)]
    refine ⟨fun _ => ⟨?_, i_in hm (by omega), ?_⟩, fun h => absurd (show m ≤ i by omega) h⟩
    · rw [show (136 : Int32) = nI 136 from rfl, i_le (by omega) (by omega)]; omega
    · rw [nI_clamp (show m < 2 ^ 31 by omega), nI_1]; exact hG
  | w + 1, i, hi => by
    refine vX4_declare_0_11 ?_
    rw [h3, i_le (by omega) (by omega), nI_1 i]
    refine ⟨fun h => absurd h (by omega), fun _ => ⟨?_, i_in (by omega) (by omega), fun _ => sp_dec0 h3 hm hG w (i + 1) (by omega), fun _ => sp_dec0 h3 hm hG w (i + 1) (by omega)⟩⟩
    rw [show (136 : Int32) = nI 136 from rfl, i_le (by omega) (by omega)]; omega
theorem sp_dec1 {C : ai_S} {c kd sl : Int32} {m : Nat} {G : Bool → ai_S → Prop} (h3 : C 3 4 = nI m) (hm : m < 136) : ∀ (w i : Nat), i + w = m → ((∃ i', i ≤ i' ∧ i' < m ∧ C 4 i' = c) → G false (decC C m c kd sl)) → ((∀ i', i ≤ i' → i' < m → ¬ C 4 i' = c) → G true (decC C m c kd sl)) → ai_W (uC l D ρ τ) d mX4_declare 11 [(0, .ref 3), (1, .int c), (2, .int kd), (3, .int sl), (5, .int 1), (6, .int (nI i))] [] C V (ai_qz V G)
  | 0, i, hi, _, hG => by
    refine vX4_declare_1_11 ?_
    rw [h3, i_le (by omega) (by omega)]
    refine ⟨fun _ => ⟨?_, i_in hm (by omega), ?_⟩, fun h => absurd (show m ≤ i by omega) h⟩
    · rw [show (136 : Int32) = nI 136 from rfl, i_le (by omega) (by omega)]; omega
    · rw [nI_clamp (show m < 2 ^ 31 by omega), nI_1]; exact hG (fun i' h1 h2 => by omega)
  | w + 1, i, hi, hB, hG => by
    refine vX4_declare_1_11 ?_
    rw [h3, i_le (by omega) (by omega), nI_1 i, nI_clamp (show i < 2 ^ 31 by omega)]
    refine ⟨fun h => absurd h (by omega), fun _ => ⟨?_, i_in (by omega) (by omega), fun hne => sp_dec1 h3 hm w (i + 1) (by omega) (fun ⟨i', h1, h2, h4⟩ => hB ⟨i', by omega, h2, h4⟩) (fun hall => hG (fun i' h1 h2 => ?_)), fun he => sp_dec0 h3 hm (hB ⟨i, by omega, by omega, he⟩) w (i + 1) (by omega)⟩⟩
    · rw [show (136 : Int32) = nI 136 from rfl, i_le (by omega) (by omega)]; omega
    · by_cases hh : i' = i
      · rw [hh]; exact hne
      · exact hall i' (by omega) h2
theorem sp_declare {C : ai_S} {c kd sl : Int32} {m mk : Nat} {G : ai_S → Prop} (h3 : C 3 4 = nI m) (hm : m < 136) (hmk : mk ≤ m) (hB : (∃ i', mk ≤ i' ∧ i' < m ∧ C 4 i' = c) → G (ai_up (decC C m c kd sl) 2 5 0)) (hG : ¬ (∃ i', mk ≤ i' ∧ i' < m ∧ C 4 i' = c) → G (decC C m c kd sl)) : ai_met (uC l D ρ τ) (d + 2) mX3_declare [.ref 2, .int c, .int kd, .int sl, .int (nI mk)] C V (ai_qv V G) := by
  refine vX3_declare (vX4_declare ?_)
  rw [if_neg (nI_pos (by omega))]
  exact sp_dec1 h3 hm (m - mk) mk (by omega) (fun h => ai_zf (hB h)) (fun h => ai_zt (hG (fun ⟨i', h1, h2, h4⟩ => h i' h1 h2 h4)))
/-- the reference's -/
def decR (R : ai_S) (m : Nat) (c w pl : Int32) : ai_S := ai_up (ai_up (ai_up (ai_up (ai_up R 18 m c) 19 m w) 20 m pl) 21 m (R 0 37)) 0 36 (nI (m + 1))
theorem sp_mdecW {c ww pl : Int32} {m mk : Nat} {G : ai_S → Prop} (hm : m < 160) : ∀ (w : Nat) (R : ai_S), R 0 36 = nI m → w ≤ m → (∀ i, mk ≤ i → i < m → R 21 i = R 0 37) → (∀ i, i < mk → ¬ R 21 i = R 0 37) → ((∃ i', mk ≤ i' ∧ i' < w ∧ R 18 i' = c) → G (decR (ai_up R 0 20 1) m c ww pl)) → (¬ (∃ i', mk ≤ i' ∧ i' < w ∧ R 18 i' = c) → G (decR R m c ww pl)) → ai_W (uM l D ρ τ) d mX6_declare 8 [(0, .ref 0), (1, .int c), (2, .int ww), (3, .int pl), (4, .int (nI w - 1))] [] R V (ai_qv V G)
  | 0, R, h36, hw, h1, h2, hB, hG => by
    refine vX6_declare_8 ⟨fun _ => ?_, fun h => absurd (by decide) h⟩
    rw [h36, nI_clamp (show m < 2 ^ 31 by omega), nI_1]
    exact ⟨i_in hm (by omega), hG (fun ⟨i', a, b, _⟩ => by omega)⟩
  | w + 1, R, h36, hw, h1, h2, hB, hG => by
    rw [nI_pred]
    refine vX6_declare_8 ⟨fun h => absurd h (nI_pos (by omega)), fun _ => ⟨i_in (by omega) (by omega), ?_⟩⟩
    rw [nI_clamp (show w < 2 ^ 31 by omega), h36, nI_clamp (show m < 2 ^ 31 by omega), nI_1, show nI w + (-1) = nI w - 1 from (Int32.sub_eq_add_neg _ _).symm]
    refine ⟨fun hne => ⟨i_in hm (by omega), hG (fun ⟨i', a, b, _⟩ => ?_)⟩, fun heq => ⟨fun hn => ?_, fun he => ?_⟩⟩
    · by_cases hh : mk ≤ w
      · exact hne (h1 w hh (by omega))
      · omega
    · refine sp_mdecW hm w R h36 (by omega) h1 h2 (fun ⟨i', a, b, c'⟩ => hB ⟨i', a, by omega, c'⟩) (fun hno => hG (fun ⟨i', a, b, c'⟩ => ?_))
      by_cases hh : i' = w
      · rw [hh] at c'; exact hn c'
      · exact hno ⟨i', a, by omega, c'⟩
    · have hmw : mk ≤ w := Classical.byContradiction fun hh => h2 w (by omega) heq
      have hb := hB ⟨w, hmw, by omega, he⟩
      exact sp_mdecW hm w (ai_up R 0 20 1) (by rw [ai_up_n (by omega)]; exact h36) (by omega) (fun i a b => by rw [ai_up_n (by omega), ai_up_n (by omega)]; exact h1 i a b) (fun i a => by rw [ai_up_n (by omega), ai_up_n (by omega)]; exact h2 i a) (fun _ => by rw [ai_up_up]; exact hb) (fun _ => hb)
theorem sp_mdec {R : ai_S} {c ww pl : Int32} {m mk : Nat} {G : ai_S → Prop} (hm : m < 160) (h36 : R 0 36 = nI m) (h1 : ∀ i, mk ≤ i → i < m → R 21 i = R 0 37) (h2 : ∀ i, i < mk → ¬ R 21 i = R 0 37) (hB : (∃ i', mk ≤ i' ∧ i' < m ∧ R 18 i' = c) → G (decR (ai_up R 0 20 1) m c ww pl)) (hG : ¬ (∃ i', mk ≤ i' ∧ i' < m ∧ R 18 i' = c) → G (decR R m c ww pl)) : ai_met (uM l D ρ τ) d mX6_declare [.ref 0, .int c, .int ww, .int pl] R V (ai_qv V G) := by
  refine vX6_declare ?_
  rw [h36]
  exact sp_mdecW hm m R h36 (Nat.le_refl _) h1 h2 hB hG
/-- leaving a level -/
theorem sp_leaveW {mk : Nat} {G : ai_S → Prop} : ∀ (w : Nat) (R : ai_S), R 0 36 = nI (mk + w) → mk + w < 160 → (∀ i, mk ≤ i → i < mk + w → R 21 i = R 0 37) → (∀ i, i < mk → ¬ R 21 i = R 0 37) → G (ai_up (ai_up R 0 36 (nI mk)) 0 37 (R 0 37 - 1)) → ai_W (uM l D ρ τ) d mX6_leave 0 [(0, .ref 0)] [] R V (ai_qv V G)
  | 0, R, h36, hm, h1, h2, hG => by
    rw [Nat.add_zero] at h36
    rw [ai_up_self h36] at hG
    refine vX6_leave_0 ⟨fun _ => hG, fun h => ?_⟩
    rw [h36, show (0 : Int32) = nI 0 from rfl, i_le (by omega) (by omega)] at h
    obtain ⟨m', hm'⟩ : ∃ m', mk = m' + 1 := ⟨mk - 1, by omega⟩
    rw [h36, hm', nI_pred, nI_clamp (show m' < 2 ^ 31 by omega)]
    exact ⟨i_in (by omega) (by omega), fun _ => hG, fun h' => absurd h' (h2 m' (by omega))⟩
  | w + 1, R, h36, hm, h1, h2, hG => by
    refine vX6_leave_0 ⟨fun h => ?_, fun _ => ?_⟩
    · rw [h36, show (0 : Int32) = nI 0 from rfl, i_le (by omega) (by omega)] at h; omega
    · rw [h36, ← Nat.add_assoc, nI_pred, nI_clamp (show mk + w < 2 ^ 31 by omega)]
      refine ⟨i_in (by omega) (by omega), fun h => absurd (h1 (mk + w) (by omega) (by omega)) h, fun _ => ?_⟩
      refine sp_leaveW w _ ai_up_s (by omega) (fun i a b => by rw [ai_up_n (by omega), ai_up_n (by omega)]; exact h1 i a (by omega)) (fun i a => by rw [ai_up_n (by omega), ai_up_n (by omega)]; exact h2 i a) ?_
      rw [ai_up_up, ai_up_n (by omega)]
      exact hG
theorem sp_leave {R : ai_S} {m mk : Nat} {G : ai_S → Prop} (h36 : R 0 36 = nI m) (hm : m < 160) (hmk : mk ≤ m) (h1 : ∀ i, mk ≤ i → i < m → R 21 i = R 0 37) (h2 : ∀ i, i < mk → ¬ R 21 i = R 0 37) (hG : G (ai_up (ai_up R 0 36 (nI mk)) 0 37 (R 0 37 - 1))) : ai_met (uM l D ρ τ) d mX6_leave [.ref 0] R V (ai_qv V G) :=
  ai_mof plX6 (Nat.le_of_ble_eq_true rfl) (lv := [(0, .ref 0)]) rfl (sp_leaveW (m - mk) R (by rw [h36, show mk + (m - mk) = m by omega]) (by omega) (fun i a b => h1 i a (by omega)) h2 hG)
theorem sp_goDeepW {G : ai_S → Prop} {R : ai_S} {f dp : Nat} (hf : f < 80) (hd : R 15 f = nI dp) (hdl : dp < 100) (hdp : ¬ dp ≤ 10) (hw : ∀ R' : ai_S, R' 0 19 = 1 → (∀ q i, ¬ (q = 0 ∧ (i = 19 ∨ i = 24)) → R' q i = R q i) → G R') : ai_met (uM l D ρ τ) (d + 1) mX6_goDeeper [.ref 0, .int (nI f)] R V (ai_qv V G) := by
  have h10 : (10 < nI dp) = (10 < dp) := by rw [show (10 : Int32) = nI 10 from rfl, i_lt (by omega) (by omega)]
  refine vX6_goDeeper ⟨i_in hf (by omega), ?_⟩
  rw [nI_clamp (show f < 2 ^ 31 by omega), hd, h10]
  refine ⟨fun h => ⟨fun h2 => hw _ ai_up_s (fun q i hq => ai_up_n (by omega)), fun h2 => hw _ (by rw [ai_up_n (by omega), ai_up_s]) (fun q i hq => by rw [ai_up_n (by omega), ai_up_n (by omega)])⟩, fun h => absurd (by omega) hdp⟩
theorem sp_setS {G : ai_S → Prop} {C : ai_S} {e a : Nat} {x : Int32} (he : C 26 3 = nI e) (hl : a < e) (hl2 : e ≤ 488) (hG : G (ai_up C 29 a x)) : ai_met (uC l D ρ τ) (d + 1) mX2_setSecond [.ref 26, .int (nI a), .int x] C V (ai_qv V G) := by
  refine vX2_setSecond_r ⟨nI_pos (by omega), ?_, ?_, i_in (by omega) (by omega), ?_⟩
  · rw [he, i_le (by omega) (by omega)]; omega
  · rw [show (488 : Int32) = nI 488 from rfl, i_le (by omega) (by omega)]; omega
  · rw [nI_clamp (by omega)]; exact hG
theorem sp_addProc {G : Int32 → ai_S → Prop} {C : ai_S} {pr : Nat} (h6 : C 26 6 = nI pr) (hl : pr < 16) (hG : G (nI pr) (ai_up (ai_up (ai_up C 30 pr (C 26 3)) 31 pr 0) 26 6 (nI (pr + 1)))) : ai_met (uC l D ρ τ) d mX2_addProcedure [.ref 26] C V (ai_qi V G) := by
  refine vX2_addProcedure_r ⟨?_, ?_, ?_⟩
  · rw [h6, show (16 : Int32) = nI 16 from rfl, i_le (by omega) (by omega)]; omega
  · rw [h6]; exact i_in hl (by omega)
  · rw [h6, nI_clamp (by omega), nI_1]; exact hG
theorem sp_setFC {G : ai_S → Prop} {C : ai_S} {pr q : Nat} {x : Int32} (h6 : C 26 6 = nI pr) (hl : pr ≤ 16) (hq : q < pr) (hG : G (ai_up C 31 q x)) : ai_met (uC l D ρ τ) (d + 1) mX2_setFormalCount [.ref 26, .int (nI q), .int x] C V (ai_qv V G) := by
  refine vX2_setFormalCount_r ⟨nI_pos (by omega), ?_, ?_, i_in (by omega) (by omega), ?_⟩
  · rw [h6, i_le (by omega) (by omega)]; omega
  · rw [show (16 : Int32) = nI 16 from rfl, i_le (by omega) (by omega)]; omega
  · rw [nI_clamp (by omega)]; exact hG
end DCL
