/-! ===== names: found alike on both sides ===== -/
def fnd (nm : Nat → Int32) (c : Int32) : Nat → Option Nat
  | 0 => none
  | i + 1 => if nm i = c then some i else fnd nm c i
theorem fnd_lt {nm : Nat → Int32} {c : Int32} : ∀ (m i : Nat), fnd nm c m = some i → i < m
  | 0, i, h => by cases h
  | m + 1, i, h => by
    unfold fnd at h
    split at h
    · cases h; omega
    · have := fnd_lt m i h; omega
theorem fnd_congr {nm nm' : Nat → Int32} {c : Int32} : ∀ (m : Nat), (∀ i, i < m → nm i = nm' i) → fnd nm c m = fnd nm' c m
  | 0, _ => rfl
  | m + 1, h => by
    unfold fnd
    rw [h m (by omega), fnd_congr m (fun i hi => h i (by omega))]
section NAM
variable {l : Launch} {D : va_G} {ρ : Nat → Nat} {τ : Nat → ClassId} {d : Nat} {V : ai_V}
theorem sp_findW {G : Int32 → ai_S → Prop} {C : ai_S} {c : Int32} (hs : ∀ i, i < 136 → C 4 i = c → G (nI i) C → G (nI i) C) : ∀ (m : Nat), m ≤ 136 → (∀ i, fnd (C 4) c m = some i → G (nI i) C) → (fnd (C 4) c m = none → G (-1) C) → ai_W (uC l D ρ τ) d mX4_find 13 [(0, .ref 3), (1, .int c), (2, .int (nI m - 1))] [] C V (ai_qi V G)
  | 0, _, _, hn => vX4_find_13 ⟨fun _ => hn rfl, fun h => absurd (by decide) h⟩
  | m + 1, hm, hy, hn => by
    rw [nI_pred]
    refine vX4_find_13 ⟨fun h => absurd h (nI_pos (by omega)), fun _ => ⟨i_in (by omega) (by omega), ?_⟩⟩
    rw [nI_clamp (show m < 2 ^ 31 by omega)]
    refine ⟨fun hne => ?_, fun he => hy m ?_⟩
    · rw [show nI m + (-1) = nI m - 1 from (Int32.sub_eq_add_neg _ _).symm]
      exact sp_findW hs m (by omega) (fun i hi => hy i (by unfold fnd; rw [if_neg hne]; exact hi)) (fun hi => hn (by unfold fnd; rw [if_neg hne]; exact hi))
    · unfold fnd; rw [if_pos he]
theorem sp_find {G : Int32 → ai_S → Prop} {C : ai_S} {c : Int32} {m : Nat} (h3 : C 3 4 = nI m) (hm : m ≤ 136) (hy : ∀ i, fnd (C 4) c m = some i → G (nI i) C) (hn : fnd (C 4) c m = none → G (-1) C) : ai_met (uC l D ρ τ) (d + 1) mX4_find [.ref 3, .int c] C V (ai_qi V G) := by
  refine vX4_find ?_
  rw [h3, if_neg (by rw [show (136 : Int32) = nI 136 from rfl, i_lt (by omega) (by omega)]; omega)]
  exact sp_findW (fun _ _ _ h => h) m hm hy hn
set_option maxHeartbeats 1000000 in
theorem sp_addUse {G : ai_S → Prop} (hV3 : V 2 3 = .ref 26) {C : ai_S} {c ov of op : Int32} {m e : Nat} (h3 : C 3 4 = nI m) (hm : m ≤ 136) (he : C 26 3 = nI e) (hel : e < 488)
    (hy : ∀ i o, fnd (C 4) c m = some i → (C 5 i = 0 ∧ o = ov ∨ C 5 i = 1 ∧ o = of ∨ ¬ C 5 i = 0 ∧ ¬ C 5 i = 1 ∧ o = op) → G (cadd C e o (C 7 i) (C 3 5 - C 6 i))) (hn : fnd (C 4) c m = none → G (cadd (ai_up C 2 5 0) e ov 0 0)) : ai_met (uC l D ρ τ) (d + 2) mX3_addUse [.ref 2, .int c, .int ov, .int of, .int op] C V (ai_qv V G) := by
  refine vX3_addUse hV3 (sp_find h3 hm (fun i hi => ?_) (fun hi => ?_))
  · have him := fnd_lt m i hi
    refine ⟨fun _ => ⟨fun h => absurd h (nI_pos (by omega)), fun _ => ⟨?_, ?_, i_in (by omega) (by omega), ?_⟩⟩, fun h => absurd (nI_pos' (by omega)) h⟩
    · rw [h3, i_le (by omega) (by omega)]; omega
    · rw [show (136 : Int32) = nI 136 from rfl, i_le (by omega) (by omega)]; omega
    · rw [nI_clamp (show i < 2 ^ 31 by omega)]
      exact ⟨fun h0 => ⟨fun h1 => sp_cadd he hel (hy i op hi (Or.inr (Or.inr ⟨h0, h1, rfl⟩))), fun h1 => sp_cadd he hel (hy i of hi (Or.inr (Or.inl ⟨h1, rfl⟩)))⟩, fun h0 => sp_cadd he hel (hy i ov hi (Or.inl ⟨h0, rfl⟩))⟩
  · refine ⟨fun h => absurd h (by decide), fun _ => ⟨fun _ => sp_cadd (by rw [ai_up_n (by omega)]; exact he) hel (hn hi), fun h => absurd (by decide) h⟩⟩
theorem sp_useW {G : Int32 → ai_S → Prop} {R : ai_S} {c : Int32} {q : Nat} (hq : q < 700) : ∀ (m : Nat), m ≤ 160 → (∀ i, fnd (R 18) c m = some i → G (nI q) (ai_up (ai_up (ai_up R 5 q (R 19 i)) 6 q (R 20 i)) 7 q (R 0 37 - R 21 i))) → (fnd (R 18) c m = none → G (nI q) (ai_up R 0 20 1)) → ai_W (uM l D ρ τ) d mX6_use 14 [(0, .ref 0), (2, .int c), (3, .int (nI q)), (4, .int (nI m - 1))] [] R V (ai_qi V G)
  | 0, _, _, hn => vX6_use_14 ⟨fun _ => ⟨fun h => absurd h (by decide), fun _ => hn rfl⟩, fun h => absurd (by decide) h⟩
  | m + 1, hm, hy, hn => by
    rw [nI_pred]
    refine vX6_use_14 ⟨fun h => absurd h (nI_pos (by omega)), fun _ => ⟨i_in (by omega) (by omega), ?_⟩⟩
    rw [nI_clamp (show m < 2 ^ 31 by omega), nI_clamp (show q < 2 ^ 31 by omega)]
    refine ⟨fun he => ⟨fun _ => ⟨i_in hq (by omega), hy m ?_⟩, fun h => absurd (nI_pos' (by omega)) h⟩, fun hne => ?_⟩
    · unfold fnd; rw [if_pos he]
    · rw [show nI m + (-1) = nI m - 1 from (Int32.sub_eq_add_neg _ _).symm]
      exact sp_useW hq m (by omega) (fun i hi => hy i (by unfold fnd; rw [if_neg hne]; exact hi)) (fun hi => hn (by unfold fnd; rw [if_neg hne]; exact hi))
/-- the reference's use of a name -/
theorem sp_use {G : Int32 → ai_S → Prop} {R : ai_S} {c t : Int32} {q m : Nat} (hq : R 0 15 = nI q) (hql : q + 1 < 700) (hm : R 0 36 = nI m) (hml : m ≤ 160)
    (hy : ∀ i, fnd (R 18) c m = some i → G (nI (q + 1)) (ai_up (ai_up (ai_up (mfresh R (q + 1) t) 5 (q + 1) (R 19 i)) 6 (q + 1) (R 20 i)) 7 (q + 1) (R 0 37 - R 21 i))) (hn : fnd (R 18) c m = none → G (nI (q + 1)) (ai_up (mfresh R (q + 1) t) 0 20 1)) : ai_met (uM l D ρ τ) (d + 1) mX6_use [.ref 0, .int t, .int c] R V (ai_qi V G) := by
  have c18 : mfresh R (q + 1) t 18 = R 18 := by funext i; simp [mfresh, ai_up_eq]
  have c19 : mfresh R (q + 1) t 19 = R 19 := by funext i; simp [mfresh, ai_up_eq]
  have c20 : mfresh R (q + 1) t 20 = R 20 := by funext i; simp [mfresh, ai_up_eq]
  have c21 : mfresh R (q + 1) t 21 = R 21 := by funext i; simp [mfresh, ai_up_eq]
  have c37 : mfresh R (q + 1) t 0 37 = R 0 37 := by simp [mfresh, ai_up_eq]
  refine vX6_use (sp_fresh hq hql ?_)
  rw [show mfresh R (q + 1) t 0 36 = nI m by simp [mfresh, ai_up_eq]; exact hm]
  refine sp_useW hql m hml (fun i hi => ?_) (fun hi => ?_)
  · rw [c19, c20, c21, c37]; exact hy i (by rw [← c18]; exact hi)
  · exact hn (by rw [← c18]; exact hi)
end NAM
/-! ===== numbers ===== -/
def nv (tx : Nat → Int32) (p : Nat) : Nat → Int32
  | 0 => 0
  | k + 1 => nv tx p k * 10 + (tx (p + k) - 48)
def dgt (tx : Nat → Int32) (n p i : Nat) : Prop := p + i < n ∧ 48 ≤ tx (p + i) ∧ tx (p + i) ≤ 57
section NUM
variable {l : Launch} {D : va_G} {ρ : Nat → Nat} {τ : Nat → ClassId} {d : Nat} {V : ai_V} {tx : Nat → Int32} {n p e : Nat}
set_option maxHeartbeats 1000000 in
theorem num_C {G : Bool → ai_S → Prop} (hV0 : hV ρ V tx n) (hV3 : V 2 3 = .ref 26) (hel : e < 488) : ∀ (w k : Nat) (C : ai_S) (sy : Int32), k + w = 9 → (∀ i, i < k → dgt tx n p i) → ct_T C tx n → C 2 2 = nI (p + k) → p + k ≤ n → sy = px_c tx n 0 (p + k) → C 26 3 = nI e →
    (∀ K, k ≤ K → K ≤ 9 → (∀ i, i < K → dgt tx n p i) → p + K ≤ n → (K = 9 ∨ ¬ dgt tx n p K) → G (decide (0 < K)) (cadd (ai_up C 2 2 (nI (p + K))) e 10 (nv tx p K) 0)) →
    ai_W (uC l D ρ τ) (d + 1) mX3_number 9 [(0, .ref 2), (1, .int (nI k)), (2, .int (nv tx p k)), (3, .int sy)] [] C V (ai_qz V G) := by
  have fin : ∀ (k : Nat) (C : ai_S), k ≤ 9 → C 2 2 = nI (p + k) → C 26 3 = nI e → G (decide (0 < k)) (cadd (ai_up C 2 2 (nI (p + k))) e 10 (nv tx p k) 0) → ai_met (uC l D ρ τ) d mX2_add [.ref 26, .int 10, .int (nv tx p k), .int 0] C V (ai_qi V (fun _ S3 => (nI k ≤ 0 → G false S3) ∧ (¬ nI k ≤ 0 → G true S3))) := by
    intro k C hk hp he hG
    have h0 : (nI k ≤ 0) = (k ≤ 0) := by rw [← nI_0, i_le (by omega) (by omega)]
    rw [ai_up_self hp] at hG
    refine sp_cadd he hel ?_
    rw [h0]
    refine ⟨fun h => ?_, fun h => ?_⟩
    · rw [show decide (0 < k) = false by simp; omega] at hG; exact hG
    · rw [show decide (0 < k) = true by simp; omega] at hG; exact hG
  intro w
  induction w with
  | zero =>
    intro k C sy hkw hd hT hp hpn hsy he hG
    have hk9 : k = 9 := by omega
    refine vX3_number_9 hV0.1 (hV0.z hT hp (by omega)) hV3 ⟨fun _ => fin k C (by omega) hp he (hG k (Nat.le_refl _) (by omega) hd hpn (Or.inl hk9)), fun h => absurd ?_ h⟩
    rw [show (9 : Int32) = nI 9 from rfl, i_le (by omega) (by omega)]; omega
  | succ w ih =>
    intro k C sy hkw hd hT hp hpn hsy he hG
    have n320 : n ≤ 320 := hT.2.1
    refine vX3_number_9 hV0.1 (hV0.z hT hp (by omega)) hV3 ⟨fun h => absurd h ?_, fun _ => ⟨fun h => fin k C (by omega) hp he (hG k (Nat.le_refl _) (by omega) hd hpn (Or.inr ?_)), fun h48 => ⟨fun h => fin k C (by omega) hp he (hG k (Nat.le_refl _) (by omega) hd hpn (Or.inr ?_)), fun h57 => ?_⟩⟩⟩
    · rw [show (9 : Int32) = nI 9 from rfl, i_le (by omega) (by omega)]; omega
    · rintro ⟨a, b, c⟩
      rw [hsy, px_c, if_pos a] at h
      exact absurd h (Int32.not_lt.mpr b)
    · rintro ⟨a, b, c⟩
      rw [hsy, px_c, if_pos a] at h
      exact absurd h (Int32.not_lt.mpr c)
    · have hlt : p + k < n := by
        refine Classical.byContradiction fun hn => ?_
        rw [hsy, px_c, if_neg hn] at h48
        exact absurd (by decide) h48
      have hsy' : sy = tx (p + k) := by rw [hsy, px_c, if_pos hlt]
      have hdk : dgt tx n p k := ⟨hlt, by rw [← hsy']; exact Int32.not_lt.mp h48, by rw [← hsy']; exact Int32.not_lt.mp h57⟩
      have hd' : ∀ i, i < k + 1 → dgt tx n p i := fun i hi => by
        by_cases h : i = k
        · rw [h]; exact hdk
        · exact hd i (by omega)
      have hT' : ct_T (ai_up C 2 2 (nI (p + (k + 1)))) tx n := ⟨by rw [ai_up_n (by omega)]; exact hT.1, hT.2.1, fun i hi => by rw [ai_up_n (by omega)]; exact hT.2.2 i hi⟩
      have go : ∀ sy', sy' = px_c tx n 0 (p + (k + 1)) → ai_W (uC l D ρ τ) (d + 1) mX3_number 9 [(0, .ref 2), (1, .int (nI k + 1)), (2, .int (nv tx p k * 10 + (sy - 48))), (3, .int sy')] [] (ai_up C 2 2 (nI (p + (k + 1)))) V (ai_qz V G) := by
        intro sy' hs
        rw [nI_1, hsy', show nv tx p k * 10 + (tx (p + k) - 48) = nv tx p (k + 1) from rfl]
        refine ih (k + 1) _ sy' (by omega) hd' hT' ai_up_s (by omega) hs (by rw [ai_up_n (by omega)]; exact he) (fun K h1 h2 h3 h4 h5 => ?_)
        rw [ai_up_up]
        exact hG K (by omega) h2 h3 h4 h5
      have e1 : C 2 2 + 1 = nI (p + (k + 1)) := by rw [hp, nI_1]; rfl
      rw [e1, hT.1]
      refine ⟨fun h => go 0 ?_, fun h => ⟨?_, go _ ?_⟩⟩
      · rw [i_le (by omega) (by omega)] at h
        rw [px_c, if_neg (by omega)]
      · rw [i_le (by omega) (by omega)] at h
        exact i_in (by omega) (by omega)
      · rw [i_le (by omega) (by omega)] at h
        rw [nI_clamp (show p + (k + 1) < 2 ^ 31 by omega), px_c, if_pos (by omega)]
        exact hT.2.2 _ (by omega)
/-- the reference's number, read -/
def numR (R : ai_S) (q f : Nat) (p' : Int32) (v : Int32) : ai_S := ai_up (ai_up (ai_up (mfresh (ai_up R 0 2 p') q 7) 5 q v) 0 31 (nI q)) 0 30 (nI f)
theorem i_swap (v t : Int32) : 10 * v + t - 48 = v * 10 + (t - 48) := by
  rw [Int32.mul_comm, Int32.sub_eq_add_neg, Int32.sub_eq_add_neg, Int32.add_assoc]
set_option maxHeartbeats 1000000 in
theorem num_M {G : ai_S → Prop} {q f hh : Nat} (hql : q + 1 < 700) (hqh : 350 * hh ≤ q ∧ q + 1 < 350 * hh + 350) : ∀ (w k : Nat) (R : ai_S), (hh ≤ 1 ∧ gh tx hh R) → k + w = 10 → 1 ≤ k → (∀ i, i < k → dgt tx n p i) → mt_T R tx n → R 0 2 = nI (p + k) → p + k ≤ n → R 0 15 = nI q → R 0 30 = nI (f + 1) →
    (∀ K, k ≤ K → K ≤ 9 → (∀ i, i < K → dgt tx n p i) → ¬ dgt tx n p K → p + K ≤ n → G (numR R (q + 1) f (nI (p + K)) (nv tx p K))) → ((∀ i, i < 10 → dgt tx n p i) → ∀ R' : ai_S, bd tx R' → G R') →
    ai_W (uM l D ρ τ) (d + 1) mX6_factor 44 [(0, .ref 0), (4, .int (nv tx p (min k 9))), (5, .int (nI k))] [] R V (ai_qv V G) := by
  have fin : ∀ (R : ai_S) (v : Int32), R 0 15 = nI q → R 0 30 = nI (f + 1) → G (ai_up (ai_up (ai_up (mfresh R (q + 1) 7) 5 (q + 1) v) 0 31 (nI (q + 1))) 0 30 (nI f)) → ai_met (uM l D ρ τ) d mX6_fresh [.ref 0, .int 7] R V (ai_qi V (fun x3 S4 => vp_in x3 700 ∧ ai_met (uM l D ρ τ) d mX6_done [.ref 0, .int x3] (ai_up S4 5 (x3).toNatClampNeg v) V (ai_qv V (fun S7 => G S7)))) := by
    intro R v h15 h30 hG
    refine sp_fresh h15 hql ⟨i_in hql (by omega), ?_⟩
    rw [nI_clamp (show q + 1 < 2 ^ 31 by omega)]
    exact sp_done (f := f) (by rw [ai_up_n (by omega)]; simp [mfresh, ai_up_eq]; exact h30) hG
  have bad : ∀ (R : ai_S) (v : Int32), (hh ≤ 1 ∧ gh tx hh R) → R 0 15 = nI q → R 0 30 = nI (f + 1) → (∀ R' : ai_S, bd tx R' → G R') → ai_met (uM l D ρ τ) d mX6_fresh [.ref 0, .int 7] (ai_up R 0 19 1) V (ai_qi V (fun x3 S4 => vp_in x3 700 ∧ ai_met (uM l D ρ τ) d mX6_done [.ref 0, .int x3] (ai_up S4 5 (x3).toNatClampNeg v) V (ai_qv V (fun S7 => G S7)))) := by
    intro R v hg h15 h30 hG
    refine fin _ v (by rw [ai_up_n (by omega)]; exact h15) (by rw [ai_up_n (by omega)]; exact h30) (hG _ (bd_of hg (fun g => ?_) ?_))
    · unfold mfresh
      repeat with_reducible refine gh.u ?_ (by omega)
      exact g
    · simp [mfresh, ai_up_eq]
  intro w
  induction w with
  | zero =>
    intro k R hg hkw hk1 hd hT hp hpn h15 h30 hG hB
    have hk : k = 10 := by omega
    subst hk
    have hB' := hB hd
    refine vX6_factor_44 ⟨fun _ => ⟨fun _ => bad R _ hg h15 h30 hB', fun h => absurd (by decide) h⟩, fun hlt => ⟨?_, ?_⟩⟩
    · rw [hp, hT.1, i_le (by have := hT.2.1; omega) (by have := hT.2.1; omega)] at hlt
      rw [hp]; exact i_in (by have := hT.2.1; omega) (by omega)
    · refine sp_within (fun _ _ => ai_zt ⟨fun _ => bad R _ hg h15 h30 hB', fun h => absurd (by decide) h⟩) (fun _ => ai_zf ⟨fun _ => bad R _ hg h15 h30 hB', fun h => absurd (by decide) h⟩)
  | succ w ih =>
    intro k R hg hkw hk1 hd hT hp hpn h15 h30 hG hB
    have n320 : n ≤ 320 := hT.2.1
    have hmin : min k 9 = k := by omega
    have h10 : (10 ≤ nI k) = (10 ≤ k) := by rw [show (10 : Int32) = nI 10 from rfl, i_le (by omega) (by omega)]
    have h9 : (9 ≤ nI k) = (9 ≤ k) := by rw [show (9 : Int32) = nI 9 from rfl, i_le (by omega) (by omega)]
    have stop : ¬ dgt tx n p k → ai_met (uM l D ρ τ) d mX6_fresh [.ref 0, .int 7] R V (ai_qi V (fun x3 S4 => vp_in x3 700 ∧ ai_met (uM l D ρ τ) d mX6_done [.ref 0, .int x3] (ai_up S4 5 (x3).toNatClampNeg (nv tx p k)) V (ai_qv V (fun S7 => G S7)))) := fun hnd => by
      have := hG k (Nat.le_refl _) (by omega) hd hnd hpn
      unfold numR at this
      rw [ai_up_self hp] at this
      exact fin R _ h15 h30 this
    rw [hmin]
    refine vX6_factor_44 ⟨fun hle => ?_, fun hlt => ?_⟩
    · rw [hp, hT.1, i_le (by omega) (by omega)] at hle
      rw [h10]
      exact ⟨fun h => absurd h (by omega), fun _ => stop (fun h => by have := h.1; omega)⟩
    · rw [hp, hT.1, i_le (by omega) (by omega)] at hlt
      rw [hp, nI_clamp (show p + k < 2 ^ 31 by omega), hT.2.2 (p + k) (by omega)]
      refine ⟨i_in (by omega) (by omega), sp_within (fun h1 h2 => ai_zt ?_) (fun h => ai_zf ?_)⟩
      · have hdk : dgt tx n p k := ⟨by omega, h1, h2⟩
        have hd' : ∀ i, i < k + 1 → dgt tx n p i := fun i hi => by
          by_cases h : i = k
          · rw [h]; exact hdk
          · exact hd i (by omega)
        have e1 : R 0 2 + 1 = nI (p + (k + 1)) := by rw [hp, nI_1]; rfl
        have hT' : mt_T (ai_up R 0 2 (nI (p + (k + 1)))) tx n := ⟨by rw [ai_up_n (by omega)]; exact hT.1, hT.2.1, fun i hi => by rw [ai_up_n (by omega)]; exact hT.2.2 i hi⟩
        have go := ih (k + 1) (ai_up R 0 2 (nI (p + (k + 1)))) ⟨hg.1, hg.2.u (by omega)⟩ (by omega) (by omega) hd' hT' ai_up_s (by omega) (by rw [ai_up_n (by omega)]; exact h15) (by rw [ai_up_n (by omega)]; exact h30) (fun K a b c dd ee => by unfold numR; rw [ai_up_up]; exact hG K (by omega) b c dd ee) hB
        rw [h10, h9, e1, nI_1, hp, nI_clamp (show p + k < 2 ^ 31 by omega), hT.2.2 (p + k) (by omega)]
        refine ⟨fun h => absurd h (by omega), fun _ => ⟨fun h => ?_, fun h => ⟨i_in (by omega) (by omega), ?_⟩⟩⟩
        · rw [show min (k + 1) 9 = k by omega] at go
          exact go
        · rw [show min (k + 1) 9 = k + 1 by omega] at go
          rw [i_swap]
          exact go
      · rw [h10]
        exact ⟨fun h => absurd h (by omega), fun _ => stop (fun hd => h ⟨hd.2.1, hd.2.2⟩)⟩
end NUM
