/-! ===== the two objects side by side ===== -/
theorem fi_clamp_lt (i : Int32) : i.toNatClampNeg < 2 ^ 31 := by
  have h := i.toInt_lt
  show i.toInt.toNat < _
  omega
theorem fi_of_nn {i : Int32} (h : ¬ i < 0) : nI i.toNatClampNeg = i := by
  have h0 : ¬ i.toInt < 0 := fun hh => h (Int32.lt_iff_toInt_lt.mpr (by simpa using hh))
  have h1 := i.toInt_lt
  apply Int32.toInt_inj.mp
  show (Int32.ofNat i.toInt.toNat).toInt = i.toInt
  rw [Int32.toInt_ofNat_of_lt (by omega)]
  omega
theorem fi_neg1 {k : Nat} (hk : k < 2 ^ 31) : (-1 : Int32) < nI k := by
  apply Int32.lt_iff_toInt_lt.mpr
  show _ < (Int32.ofNat k).toInt
  rw [Int32.toInt_ofNat_of_lt hk]
  have : (-1 : Int32).toInt = -1 := by decide
  omega
theorem bt_bits {x : BitVec 64} {k : Nat} (hk : k ≤ 56) : ((x >>> k).signExtend 32) &&& 255#32 = ((x.sshiftRight k).signExtend 32) &&& 255#32 := by
  have hm : ∀ i, i < 32 → (255#32).getLsbD i = decide (i < 8) := by decide
  apply BitVec.eq_of_getLsbD_eq
  intro i hi
  simp only [BitVec.getLsbD_and, BitVec.getLsbD_signExtend, hm i hi, BitVec.getLsbD_ushiftRight, BitVec.getLsbD_sshiftRight]
  by_cases h8 : i < 8
  · have h64 : k + i < 64 := by omega
    have h64' : i < 64 := by omega
    simp [h8, h64, hi, h64']
  · simp [h8]
def btA (x : Int64) (j : Int32) : Int32 := (Int64.toInt32 ((x.toUInt64 >>> ((Int32.toInt64 (8 * j)).toUInt64 &&& Int64.toUInt64 63)).toInt64)) &&& (255 : Int32)
def btB (x : Int64) (j : Int32) : Int32 := (Int64.toInt32 (x >>> (Int32.toInt64 (8 * j) &&& 63))) &&& (255 : Int32)
def btC (x : Int64) (j : Int32) : Int32 := (Int64.toInt32 (x >>> (Int32.toInt64 (8 * j) &&& 63))) &&& (127 : Int32)
theorem bt_eq {x : Int64} {j : Int32} {k : Nat} (hk : k ≤ 56) (e1 : ((Int32.toInt64 (8 * j)).toUInt64 &&& Int64.toUInt64 63) = UInt64.ofNat k) (e2 : (Int32.toInt64 (8 * j) &&& 63) = Int64.ofNat k) (e3 : ((UInt64.ofNat k).toBitVec % 64).toNat = k) (e4 : ((Int64.ofNat k).toBitVec.smod 64).toNat = k) : btA x j = btB x j := by
  unfold btA btB
  rw [e1, e2]
  apply Int32.toBitVec_inj.mp
  rw [Int32.toBitVec_and, Int32.toBitVec_and, Int64.toBitVec_toInt32, Int64.toBitVec_toInt32, Int64.toBitVec_shiftRight, BitVec.sshiftRight', e4]
  rw [show (x.toUInt64 >>> UInt64.ofNat k).toInt64.toBitVec = x.toBitVec >>> k from ?_]
  · exact bt_bits hk
  · show (x.toUInt64 >>> UInt64.ofNat k).toBitVec = _
    rw [UInt64.toBitVec_shiftRight]
    show x.toBitVec >>> ((UInt64.ofNat k).toBitVec % 64).toNat = _
    rw [e3]
theorem bt_all {x : Int64} {j : Nat} (hj : j < 8) : btA x (Int32.ofNat j) = btB x (Int32.ofNat j) := by
  match j, hj with
  | 0, _ => exact bt_eq (k := 0) (by decide) (by decide) (by decide) (by decide) (by decide)
  | 1, _ => exact bt_eq (k := 8) (by decide) (by decide) (by decide) (by decide) (by decide)
  | 2, _ => exact bt_eq (k := 16) (by decide) (by decide) (by decide) (by decide) (by decide)
  | 3, _ => exact bt_eq (k := 24) (by decide) (by decide) (by decide) (by decide) (by decide)
  | 4, _ => exact bt_eq (k := 32) (by decide) (by decide) (by decide) (by decide) (by decide)
  | 5, _ => exact bt_eq (k := 40) (by decide) (by decide) (by decide) (by decide) (by decide)
  | 6, _ => exact bt_eq (k := 48) (by decide) (by decide) (by decide) (by decide) (by decide)
  | 7, _ => exact bt_eq (k := 56) (by decide) (by decide) (by decide) (by decide) (by decide)
theorem bt_127 {w : Int32} (h : (w &&& 255) ≤ (127 : Int32)) : (w &&& 127) = (w &&& 255) := by
  have h1 : ((w &&& 255).toBitVec).toNat = w.toBitVec.toNat % 256 := by
    rw [Int32.toBitVec_and, BitVec.toNat_and]
    exact Nat.and_two_pow_sub_one_eq_mod _ 8
  have h2 : ((w &&& 127).toBitVec).toNat = w.toBitVec.toNat % 128 := by
    rw [Int32.toBitVec_and, BitVec.toNat_and]
    exact Nat.and_two_pow_sub_one_eq_mod _ 7
  apply Int32.toBitVec_inj.mp
  apply BitVec.eq_of_toNat_eq
  rw [h1, h2]
  have h3 : (w &&& 255).toInt ≤ 127 := Int32.le_iff_toInt_le.mp h
  have h4 : (w &&& 255).toInt = ((w.toBitVec.toNat % 256 : Nat) : Int) := by
    show ((w &&& 255).toBitVec).toInt = _
    rw [BitVec.toInt_eq_toNat_of_lt (by rw [h1]; omega), h1]
  omega
theorem bt_nar {b : Int32} : ((b &&& 255).toUInt32 % 65536).toInt32.toUInt32.toUInt16.toUInt32.toInt32 = (b &&& 255) := by
  have h1 : ((b &&& 255).toBitVec).toNat = b.toBitVec.toNat % 256 := by
    rw [Int32.toBitVec_and, BitVec.toNat_and]
    exact Nat.and_two_pow_sub_one_eq_mod _ 8
  obtain ⟨y, hy⟩ : ∃ y, y = b &&& 255 := ⟨_, rfl⟩
  rw [← hy] at h1 ⊢
  apply Int32.toBitVec_inj.mp
  apply BitVec.eq_of_toNat_eq
  have h5 : y.toBitVec.toNat < 256 := by omega
  have h6 : ((y.toUInt32 % 65536)).toNat = y.toBitVec.toNat := by
    show (y.toUInt32 % 65536).toNat = y.toUInt32.toNat
    rw [UInt32.toNat_mod]
    exact Nat.mod_eq_of_lt (Nat.lt_of_lt_of_le (show y.toUInt32.toNat < 256 from h5) (by decide))
  show (y.toUInt32 % 65536).toUInt16.toUInt32.toNat = _
  simp [h6]
  omega
/-- a program stays where what it is made of stays -/
theorem PG_keep {K K' R R' : ai_S} {hf x e np : Nat} (h : PG K R hf x e np) (hK : ∀ j, j ≤ 4 → K' j = K j) (h2 : ∀ q, 2 ≤ q → q ≤ 8 → ∀ i, 350 * hf < i → i < 350 * hf + 350 → R' q i = R q i) (h9 : ∀ q, 9 ≤ q → q ≤ 11 → ∀ i, 16 * hf ≤ i → i < 16 * hf + 16 → R' q i = R q i) : PG K' R' hf x e np := by
  obtain ⟨SC, e0, nn, a1, a2, a3, a4, a5, a6, a7, a8, a9⟩ := h
  have hkk : ∀ e0 e1, cx_kk K K' e0 e1 := fun _ _ j hj i _ _ => by rw [hK j (by omega)]
  have hu : ∀ q, 2 ≤ q → q ≤ 8 → ∀ i, nr hf 0 nn i → R' q i = R q i := fun q b1 b2 i hi => h2 q b1 b2 i (by have := hi.1; omega) (by have := hi.2; omega)
  have hnn : cx_nn R R' (nr hf 0 nn) := fun i hi => ⟨hu 2 (by omega) (by omega) i hi, hu 3 (by omega) (by omega) i hi, hu 5 (by omega) (by omega) i hi, hu 6 (by omega) (by omega) i hi, hu 7 (by omega) (by omega) i hi⟩
  have hn4 : ∀ n, cx_n4 R R' (nr hf 0 nn) n := fun n i hi _ => ⟨hu 4 (by omega) (by omega) i hi, hu 8 (by omega) (by omega) i hi⟩
  refine ⟨SC, e0, nn, cx_S_mono (hkk 0 e0) 10 10 _ _ [] x 0 e0 ⟨fun y hy => absurd hy (by simp), fun _ _ => rfl⟩ trivial (Nat.le_refl _) (fun _ h => h) hnn (hn4 x) (Nat.le_refl _) (Nat.le_refl _) a1, by rw [hK 0 (by omega)]; exact a2, a3, a4, a5, a6, fun q hq => ?_, a8, a9⟩
  obtain ⟨a, c, b, y, cnt, w, g1, g2, g3, g4, g5, g6, g7, g8, g9, g10, g11⟩ := a7 q hq
  refine ⟨a, c, b, y, cnt, w, by rw [hK 3 (by omega)]; exact g1, by rw [hK 4 (by omega)]; exact g2, by rw [h9 10 (by omega) (by omega) _ (by omega) (by omega)]; exact g3, g4, by rw [h9 11 (by omega) (by omega) _ (by omega) (by omega)]; exact g5, g6, cx_pl_mono _ _ _ _ (fun j hj i _ _ => by rw [hK j (by omega)]) g7, by rw [h9 9 (by omega) (by omega) _ (by omega) (by omega)]; exact g8, ?_, by rw [hK 0 (by omega)]; exact g10, g11⟩
  refine cx_S_mono (hkk c b) 10 10 _ _ _ y c b ⟨fun z hz => ⟨fun h0 ct hc h => ⟨ct, ?_, Nat.le_refl _, hc⟩, fun h0 => ?_⟩, fun _ _ => rfl⟩ (fun h => absurd h (by simp)) (Nat.le_refl _) (fun _ h => h) hnn (hn4 y) (Nat.le_refl _) (Nat.le_refl _) g9
  · rcases List.mem_cons.mp hz with rfl | hz
    · exact absurd h0 (by simp)
    · have := ((a8 q hq).1 z hz).2 h0
      rw [h2 5 (by omega) (by omega) _ this.1 (by omega)]; exact h
  · have hz1 : z.1 ≤ np := by
      rcases List.mem_cons.mp hz with rfl | hz
      · simp; omega
      · exact ((a8 q hq).1 z hz).1 h0
    exact ⟨h9 10 (by omega) (by omega) _ (by omega) (by omega), h9 11 (by omega) (by omega) _ (by omega) (by omega)⟩
/-- the texts -/
def NVt (C R : ai_S) : Prop := ∃ n : Nat, n ≤ 320 ∧ C 0 1 = nI n ∧ R 0 1 = nI n ∧ ∀ i, i < n → C 1 i = R 1 i ∧ ¬ R 1 i = 0 ∧ ¬ R 1 i = -1
/-- the programs -/
def NVp (C R : ai_S) : Prop := ∃ h0 : Nat, h0 ≤ 1 ∧ R 0 14 = nI h0 ∧ (C 0 6 = 0 ∧ R 0 18 = 0 ∨ ¬ C 0 6 = 0 ∧ ¬ R 0 18 = 0 ∧ ∃ x e np : Nat, R 0 16 = nI x ∧ C 20 3 = nI e ∧ C 20 6 = nI np ∧ R 12 0 = nI np ∧ C 20 7 = R 12 1 ∧ C 20 8 = R 12 2 ∧ C 20 9 = R 12 3 ∧ PG (fun j => C (21 + j)) R h0 x e np)
/-- what the last run left -/
def NVr (C R : ai_S) : Prop := C 9 2 = R 0 53 ∧ C 10 6 = R 0 55 ∧ C 10 7 = R 0 56 ∧ ∃ pc, C 9 14 = nI pc ∧ R 0 57 = nI pc ∧ pc ≤ 32 ∧ ∀ i, i < pc → C 19 i = R 30 i
def NV (C : ai_S) (V : ai_V) (R : ai_S) : Prop := NVt C R ∧ NVp C R ∧ NVr C R ∧ V 0 4 = .ref 20 ∧ V 0 5 = .ref 26 ∧ ∀ q k, vz (V q k)
/-- the program and the spare one change places -/
def sw (q : Nat) : Nat := if 20 ≤ q ∧ q ≤ 25 then q + 6 else if 26 ≤ q ∧ q ≤ 31 then q - 6 else q
def swv : Value → Value
  | .ref a => .ref (sw a)
  | v => v
def swS (C : ai_S) : ai_S := fun q => C (sw q)
def swV (V : ai_V) : ai_V := fun q k => swv (V (sw q) k)
def NVs (C : ai_S) (V : ai_V) (R : ai_S) : Prop := NV C V R ∨ NV (swS C) (swV V) R
section NVS
variable {C C' R R' : ai_S} {V V' : ai_V}
theorem NVr.keep (h : NVr C R) (c9 : C' 9 = C 9) (c10 : C' 10 = C 10) (c19 : C' 19 = C 19) (r : ∀ j, 53 ≤ j → j ≤ 57 → R' 0 j = R 0 j) (r30 : R' 30 = R 30) : NVr C' R' := by
  obtain ⟨a1, a2, a3, pc, a4, a5, a6, a7⟩ := h
  exact ⟨by rw [c9, r 53 (by omega) (by omega)]; exact a1, by rw [c10, r 55 (by omega) (by omega)]; exact a2, by rw [c10, r 56 (by omega) (by omega)]; exact a3, pc, by rw [c9]; exact a4, by rw [r 57 (by omega) (by omega)]; exact a5, a6, fun i hi => by rw [c19, r30]; exact a7 i hi⟩
theorem NVp.keep (h : NVp C R) (c6 : C' 0 6 = C 0 6) (c20 : C' 20 = C 20) (cK : ∀ j, j ≤ 4 → C' (21 + j) = C (21 + j)) (r14 : R' 0 14 = R 0 14) (r18 : R' 0 18 = R 0 18) (r16 : R' 0 16 = R 0 16) (r12 : R' 12 = R 12)
    (r2 : ∀ h0 : Nat, h0 ≤ 1 → R 0 14 = nI h0 → ¬ R 0 18 = 0 → (∀ q, 2 ≤ q → q ≤ 8 → ∀ i, 350 * h0 < i → i < 350 * h0 + 350 → R' q i = R q i) ∧ ∀ q, 9 ≤ q → q ≤ 11 → ∀ i, 16 * h0 ≤ i → i < 16 * h0 + 16 → R' q i = R q i) : NVp C' R' := by
  obtain ⟨h0, b1, b2, b3⟩ := h
  refine ⟨h0, b1, r14.trans b2, ?_⟩
  rcases b3 with ⟨d1, d2⟩ | ⟨d1, d2, x, e, np, d3, d4, d5, d6, d7, d8, d9, d10⟩
  · exact Or.inl ⟨c6.trans d1, r18.trans d2⟩
  · refine Or.inr ⟨by rw [c6]; exact d1, by rw [r18]; exact d2, x, e, np, r16.trans d3, by rw [c20]; exact d4, by rw [c20]; exact d5, by rw [r12]; exact d6, by rw [c20, r12]; exact d7, by rw [c20, r12]; exact d8, by rw [c20, r12]; exact d9, ?_⟩
    obtain ⟨e1, e2⟩ := r2 h0 b1 b2 d2
    exact PG_keep d10 cK e1 e2
theorem sw_sw (q : Nat) : sw (sw q) = q := by
  unfold sw
  by_cases h1 : 20 ≤ q ∧ q ≤ 25
  · rw [if_pos h1, if_neg (by omega), if_pos (by omega)]; omega
  · rw [if_neg h1]
    by_cases h2 : 26 ≤ q ∧ q ≤ 31
    · rw [if_pos h2, if_pos (by omega)]; omega
    · rw [if_neg h2, if_neg h1, if_neg h2]
theorem sw_lt {q : Nat} (h : q < 32) : sw q < 32 := by
  unfold sw
  by_cases h1 : 20 ≤ q ∧ q ≤ 25
  · rw [if_pos h1]; omega
  · rw [if_neg h1]
    by_cases h2 : 26 ≤ q ∧ q ≤ 31
    · rw [if_pos h2]; omega
    · rw [if_neg h2]; exact h
theorem sw_o {q : Nat} (h : q < 20) : sw q = q := by
  unfold sw
  rw [if_neg (by omega), if_neg (by omega)]
theorem swv_vz {v : Value} (h : vz v) : vz (swv v) := by
  rcases h with h | ⟨a, ha, h⟩ <;> rw [h]
  · exact Or.inl rfl
  · exact Or.inr ⟨sw a, sw_lt ha, rfl⟩
theorem vz_uv {q k : Nat} {x : Value} (h : ∀ q k, vz (V q k)) (hx : vz x) : ∀ i j, vz (ai_uv V q k x i j) := by
  intro i j
  unfold ai_uv
  by_cases hi : i = q
  · rw [if_pos hi]
    unfold updV
    by_cases hj : j = k
    · rw [if_pos hj]; exact hx
    · rw [if_neg hj]; exact h _ _
  · rw [if_neg hi]; exact h _ _
end NVS
/-- what a method of the two answers -/
def fsI (u : ai_U) (d5 : Nat) (M5 : ai_M) (as : List Value) (C : ai_S) (V : ai_V) (u' : ai_U) (d6 : Nat) (M6 : ai_M) (R : ai_S) (VR : ai_V) (Φ : Int32 → ai_S → Prop) : Prop :=
  ai_met u d5 M5 as C V (ai_pi (fun x C' V' => ∃ R', NVs C' V' R' ∧ (Φ x R' → ai_met u' d6 M6 as R VR (ai_qi VR Φ))))
def fsL (u : ai_U) (d5 : Nat) (M5 : ai_M) (as : List Value) (C : ai_S) (V : ai_V) (u' : ai_U) (d6 : Nat) (M6 : ai_M) (R : ai_S) (VR : ai_V) (Φ : Int64 → ai_S → Prop) : Prop :=
  ai_met u d5 M5 as C V (ai_ql V (fun x C' => ∃ R', NVs C' V R' ∧ (Φ x R' → ai_met u' d6 M6 as R VR (ai_ql VR Φ))))
theorem fsI_of {u u' : ai_U} {d5 d6 : Nat} {M5 M6 : ai_M} {as : List Value} {C R : ai_S} {V VR : ai_V} {Φ : Int32 → ai_S → Prop} (h : ai_met u d5 M5 as C V (ai_qi V (fun x C' => ∃ R', NV C' V R' ∧ (Φ x R' → ai_met u' d6 M6 as R VR (ai_qi VR Φ))))) : fsI u d5 M5 as C V u' d6 M6 R VR Φ :=
  h.mono (fun r S' V' ⟨h1, x, h2, R', h3, h4⟩ => ⟨x, h2, R', Or.inl (by rw [h1]; exact h3), h4⟩)
section FC
variable {l : Launch} {D : va_G} {ρ ρ' : Nat → Nat} {τ : Nat → ClassId} {d d' : Nat} {C R : ai_S} {V VR : ai_V}
theorem NV.t1 (h : NV C V R) : C 0 1 = R 0 1 := by
  obtain ⟨⟨n, _, a2, a3, _⟩, _⟩ := h
  rw [a2, a3]
theorem fc_length (h : NV C V R) (Φ : Int32 → ai_S → Prop) : fsI (uN l D ρ τ) (d + 54) mX5_length [.ref 0] C V (uM l D ρ' τ) (d' + 8) mX6_length R VR Φ :=
  fsI_of (vX5_length ⟨R, h, fun hp => vX6_length (by rw [← h.t1]; exact hp)⟩)
theorem fc_erase (h : NV C V R) (Φ : Int32 → ai_S → Prop) : fsI (uN l D ρ τ) (d + 54) mX5_erase [.ref 0] C V (uM l D ρ' τ) (d' + 8) mX6_erase R VR Φ := by
  obtain ⟨⟨n, a1, a2, a3, a4⟩, hp, hr, hv⟩ := id h
  refine fsI_of (vX5_erase ⟨ai_up R 0 1 0, ⟨⟨0, by omega, ai_up_s, ai_up_s, fun i hi => by omega⟩, ?_, ?_, hv⟩, fun hp => vX6_erase (by rw [← h.t1]; exact hp)⟩)
  · exact hp.keep (ai_up_n (by omega)) (ai_up_o (by omega)) (fun j _ => ai_up_o (by omega)) (ai_up_n (by omega)) (ai_up_n (by omega)) (ai_up_n (by omega)) (ai_up_o (by omega)) (fun h0 _ _ _ => ⟨fun q b1 b2 i _ _ => ai_up_n (by omega), fun q b1 b2 i _ _ => ai_up_n (by omega)⟩)
  · exact hr.keep (ai_up_o (by omega)) (ai_up_o (by omega)) (ai_up_o (by omega)) (fun j b1 b2 => ai_up_n (by omega)) (ai_up_o (by omega))
theorem fc_prints (h : NV C V R) (Φ : Int32 → ai_S → Prop) : fsI (uN l D ρ τ) (d + 54) mX5_prints [.ref 0] C V (uM l D ρ' τ) (d' + 8) mX6_prints R VR Φ := by
  obtain ⟨_, _, ⟨_, _, _, pc, a4, a5, _, _⟩, _⟩ := id h
  exact fsI_of (vX5_prints ⟨R, h, fun hp => vX6_prints (by rw [a5, ← a4]; exact hp)⟩)
theorem fc_cost (h : NV C V R) (Φ : Int32 → ai_S → Prop) : fsI (uN l D ρ τ) (d + 54) mX5_cost [.ref 0] C V (uM l D ρ' τ) (d' + 8) mX6_cost R VR Φ := by
  obtain ⟨_, _, ⟨a1, _⟩, _⟩ := id h
  exact fsI_of (vX5_cost ⟨R, h, fun hp => vX6_cost (by rw [← a1]; exact hp)⟩)
theorem fc_deepest (h : NV C V R) (Φ : Int32 → ai_S → Prop) : fsI (uN l D ρ τ) (d + 54) mX5_deepest [.ref 0] C V (uM l D ρ' τ) (d' + 8) mX6_deepest R VR Φ := by
  obtain ⟨_, _, ⟨_, a1, _⟩, _⟩ := id h
  exact fsI_of (vX5_deepest ⟨R, h, fun hp => vX6_deepest (by rw [← a1]; exact hp)⟩)
theorem fc_calls (h : NV C V R) (Φ : Int32 → ai_S → Prop) : fsI (uN l D ρ τ) (d + 54) mX5_calls [.ref 0] C V (uM l D ρ' τ) (d' + 8) mX6_calls R VR Φ := by
  obtain ⟨_, _, ⟨_, _, a1, _⟩, _⟩ := id h
  exact fsI_of (vX5_calls ⟨R, h, fun hp => vX6_calls (by rw [← a1]; exact hp)⟩)
theorem fc_printed (h : NV C V R) (i : Int32) (Φ : Int64 → ai_S → Prop) : fsL (uN l D ρ τ) (d + 54) mX5_printed [.ref 0, .int i] C V (uM l D ρ' τ) (d' + 8) mX6_printed R VR Φ := by
  obtain ⟨_, _, ⟨_, _, _, pc, a4, a5, a6, a7⟩, _⟩ := id h
  have out : (i < 0 ∨ R 0 57 - 1 < i) → Φ 4294967296 R → ai_met (uM l D ρ' τ) (d' + 8) mX6_printed [.ref 0, .int i] R VR (ai_ql VR Φ) := fun ho hp => by
    refine vX6_printed (vX6_within ⟨fun _ => ai_zf hp, fun h1 => ⟨fun _ => ai_zf hp, fun h2 => ?_⟩⟩)
    rcases ho with ho | ho
    · exact absurd ho h1
    · exact absurd ho h2
  by_cases h0 : i < 0
  · exact vX5_printed ⟨fun _ => ⟨R, Or.inl h, out (Or.inl h0)⟩, fun h1 => absurd h0 h1⟩
  · obtain ⟨k, hk, rfl⟩ : ∃ k : Nat, k < 2 ^ 31 ∧ i = nI k := ⟨i.toNatClampNeg, fi_clamp_lt _, (fi_of_nn h0).symm⟩
    have e57 : R 0 57 - 1 < nI k ↔ pc ≤ k := by
      rw [a5]
      by_cases hpc : pc = 0
      · subst hpc
        refine ⟨fun _ => by omega, fun _ => ?_⟩
        rw [show nI 0 - 1 = -1 from rfl]
        exact fi_neg1 hk
      · rw [show (1 : Int32) = nI 1 from rfl, pk_sub (by omega), i_lt (by omega) (by omega)]; omega
    refine vX5_printed ⟨fun h1 => absurd h1 h0, fun _ => ?_⟩
    rw [a4, i_le (by omega) (by omega)]
    refine ⟨fun hle => ⟨R, Or.inl h, out (Or.inr (e57.mpr hle))⟩, fun hlt => ⟨?_, ?_, R, Or.inl h, fun hp => ?_⟩⟩
    · rw [show (32 : Int32) = nI 32 from rfl, i_le (by omega) (by omega)]; omega
    · exact i_in (by omega) (by omega)
    · refine vX6_printed (vX6_within ⟨fun h1 => absurd h1 h0, fun _ => ⟨fun h2 => absurd (e57.mp h2) hlt, fun _ => ai_zt ⟨i_in (by omega) (by omega), ?_⟩⟩⟩)
      rw [nI_clamp (by omega)] at hp ⊢
      rw [← a7 k (by omega)]
      exact hp
theorem fc_about (h : NV C V R) (i : Int32) (Φ : Int32 → ai_S → Prop) : fsI (uN l D ρ τ) (d + 54) mX5_about [.ref 0, .int i] C V (uM l D ρ' τ) (d' + 8) mX6_about R VR Φ := by
  obtain ⟨_, ⟨h0, b1, b2, b3⟩, _, v4, _⟩ := id h
  refine fsI_of (vX5_about v4 ?_)
  rcases b3 with ⟨d1, d2⟩ | ⟨d1, d2, x, e, np, d3, d4, d5, d6, d7, d8, d9, d10⟩
  · exact ⟨fun h1 => absurd d1 h1, fun _ => ⟨R, h, fun hp => vX6_about ⟨fun _ => hp, fun h1 => absurd d2 h1⟩⟩⟩
  · have inn : ∀ k : Nat, k ≤ 3 → Φ (R 12 k) R → ai_met (uM l D ρ' τ) (d' + 8) mX6_about [.ref 0, .int (nI k)] R VR (ai_qi VR Φ) := fun k hk hp => by
      refine vX6_about ⟨fun h1 => absurd h1 d2, fun _ => vX6_within ⟨fun h1 => absurd h1 (nI_pos (by omega)), fun _ => ⟨fun h1 => absurd h1 ?_, fun _ => ai_zt ⟨i_in (by omega) (by omega), by rw [nI_clamp (by omega)]; exact hp⟩⟩⟩⟩
      rw [show (3 : Int32) = nI 3 from rfl, i_lt (by omega) (by omega)]; omega
    refine ⟨fun _ => ⟨fun e => ⟨R, h, fun hp => ?_⟩, fun e => ⟨R, h, fun hp => ?_⟩, fun e => ⟨R, h, fun hp => ?_⟩, fun e => ⟨R, h, fun hp => ?_⟩, fun hn => ⟨R, h, fun hp => vX6_about ⟨fun h1 => absurd h1 d2, fun _ => vX6_within ⟨fun _ => ai_zf hp, fun h1 => ⟨fun _ => ai_zf hp, fun h2 => ?_⟩⟩⟩⟩⟩, fun h1 => absurd h1 d1⟩
    · subst e; exact inn 0 (by omega) (by rw [d6, ← d5]; exact hp)
    · subst e; exact inn 1 (by omega) (by rw [← d7]; exact hp)
    · subst e; exact inn 2 (by omega) (by rw [← d8]; exact hp)
    · subst e; exact inn 3 (by omega) (by rw [← d9]; exact hp)
    · obtain ⟨k, hk, rfl⟩ : ∃ k : Nat, k < 2 ^ 31 ∧ i = nI k := ⟨i.toNatClampNeg, fi_clamp_lt _, (fi_of_nn h1).symm⟩
      rw [show (3 : Int32) = nI 3 from rfl, i_lt (by omega) (by omega)] at h2
      rw [show (0 : Int32) = nI 0 from rfl, show (1 : Int32) = nI 1 from rfl, show (2 : Int32) = nI 2 from rfl, show (3 : Int32) = nI 3 from rfl, i_eq (by omega) (by omega), i_eq (by omega) (by omega), i_eq (by omega) (by omega), i_eq (by omega) (by omega)] at hn
      omega
end FC
