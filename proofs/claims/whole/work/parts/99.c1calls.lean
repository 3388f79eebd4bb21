/-! ===== writing, reading, running ===== -/
section FW
variable {l : Launch} {D : va_G} {ρ ρ' : Nat → Nat} {τ : Nat → ClassId} {d d' : Nat} {C R : ai_S} {V VR : ai_V} {x : Int64} {Φ : Int32 → ai_S → Prop}
/-- a byte that is a sign -/
def okB (x : Int64) (j : Nat) : Prop := ¬ btB x (nI j) = 0 ∧ btB x (nI j) ≤ 127
theorem okB_C {j : Nat} (h : okB x j) : btC x (nI j) = btB x (nI j) := bt_127 h.2
theorem btB_ne {j : Nat} : ¬ btB x (nI j) = -1 := by
  intro h
  have h1 : ((btB x (nI j)).toBitVec).toNat < 256 := by
    unfold btB
    rw [Int32.toBitVec_and, BitVec.toNat_and]
    exact Nat.lt_of_le_of_lt Nat.and_le_right (by decide)
  rw [h] at h1
  exact absurd h1 (by decide)
theorem btA_nar {j : Nat} (hj : j < 8) : vp_nar .char ((Int32.toUInt32 (btA x (nI j)) % 65536).toInt32) = btB x (nI j) := by
  rw [vp_nar_char]
  have h := bt_nar (b := (Int64.toInt32 ((x.toUInt64 >>> ((Int32.toInt64 (8 * nI j)).toUInt64 &&& Int64.toUInt64 63)).toInt64)))
  exact h.trans (bt_all hj)
/-- half written -/
def NVw (C R : ai_S) (n i : Nat) : Prop := C 0 1 = nI n ∧ R 0 1 = nI n ∧ (∀ k, k < n + i → C 1 k = R 1 k ∧ ¬ R 1 k = 0 ∧ ¬ R 1 k = -1) ∧ NVp C R ∧ NVr C R
theorem wr63 {n j : Nat} (hj : j ≤ 8) (hnj : n + j ≤ 320) (hok : ∀ i, i < j → okB x i) (hv : V 0 4 = .ref 20 ∧ V 0 5 = .ref 26 ∧ ∀ q k, vz (V q k)) : ∀ (k i : Nat), i + k = j → ∀ C R : ai_S, NVw C R n i →
    ai_W (uN l D ρ τ) (d + 54) mX5_write 63 [(0, .ref 0), (1, .long x), (3, .int (nI j)), (4, .int (nI i))] [] C V (ai_qi V (fun a C' => ∃ R', NV C' V R' ∧ (Φ a R' → ai_W (uM l D ρ' τ) (d' + 8) mX6_write 69 [(0, .ref 0), (1, .long x), (3, .int (nI j)), (4, .int (nI i))] [] R VR (ai_qi VR Φ)))) := by
  intro k
  induction k with
  | zero =>
    intro i hi C R hw
    obtain ⟨w1, w2, w3, w4, w5⟩ := hw
    have hle : nI j ≤ nI i := by rw [i_le (by omega) (by omega)]; omega
    refine vX5_write_63 ⟨fun _ => ⟨ai_up R 0 1 (R 0 1 + nI j), ⟨⟨n + j, hnj, ?_, ?_, fun k hk => ?_⟩, ?_, ?_, hv⟩, fun hp => vX6_write_69 ⟨fun _ => hp, fun h => absurd hle h⟩⟩, fun h => absurd hle h⟩
    · rw [ai_up_s, w1, nI_add]
    · rw [ai_up_s, w2, nI_add]
    · rw [ai_up_n (by omega), ai_up_n (by omega)]; exact w3 k (by omega)
    · exact w4.keep (ai_up_n (by omega)) (ai_up_o (by omega)) (fun j _ => ai_up_o (by omega)) (ai_up_n (by omega)) (ai_up_n (by omega)) (ai_up_n (by omega)) (ai_up_o (by omega)) (fun h0 _ _ _ => ⟨fun q b1 b2 i _ _ => ai_up_n (by omega), fun q b1 b2 i _ _ => ai_up_n (by omega)⟩)
    · exact w5.keep (ai_up_o (by omega)) (ai_up_o (by omega)) (ai_up_o (by omega)) (fun j b1 b2 => ai_up_n (by omega)) (ai_up_o (by omega))
  | succ k ih =>
    intro i hi C R hw
    obtain ⟨w1, w2, w3, w4, w5⟩ := hw
    have hle : ¬ nI j ≤ nI i := by rw [i_le (by omega) (by omega)]; omega
    have hob := hok i (by omega)
    have hcl : (nI n + nI i).toNatClampNeg = n + i := by rw [nI_add, nI_clamp (by omega)]
    have hin : vp_in (nI n + nI i) 320 := by rw [nI_add]; exact i_in (by omega) (by omega)
    refine vX5_write_63 ⟨fun h => absurd h hle, fun _ => ?_⟩
    rw [w1, hcl]
    refine ⟨hin, ?_⟩
    rw [show vp_nar .char ((Int32.toUInt32 ((Int64.toInt32 ((x.toUInt64 >>> ((Int32.toInt64 (8 * nI i)).toUInt64 &&& Int64.toUInt64 63)).toInt64)) &&& (255 : Int32)) % 65536).toInt32) = btB x (nI i) from btA_nar (by omega), nI_1]
    refine (ih (i + 1) (by omega) (ai_up C 1 (n + i) (btB x (nI i))) (ai_up R 1 (n + i) (btB x (nI i))) ⟨?_, ?_, fun k hk => ?_, ?_, ?_⟩).mono (fun r S' V' ⟨e1, a, e2, R', e3, e4⟩ => ⟨e1, a, e2, R', e3, fun hp => vX6_write_69 ⟨fun h => absurd h hle, fun _ => ?_⟩⟩)
    · rw [ai_up_n (by omega)]; exact w1
    · rw [ai_up_n (by omega)]; exact w2
    · by_cases hkn : k = n + i
      · subst hkn
        rw [ai_up_s, ai_up_s]
        exact ⟨rfl, hob.1, btB_ne⟩
      · rw [ai_up_n (by omega), ai_up_n (by omega)]; exact w3 k (by omega)
    · exact w4.keep (ai_up_n (by omega)) (ai_up_o (by omega)) (fun j _ => ai_up_o (by omega)) (ai_up_n (by omega)) (ai_up_n (by omega)) (ai_up_n (by omega)) (ai_up_o (by omega)) (fun h0 _ _ _ => ⟨fun q b1 b2 i _ _ => ai_up_n (by omega), fun q b1 b2 i _ _ => ai_up_n (by omega)⟩)
    · exact w5.keep (ai_up_o (by omega)) (ai_up_o (by omega)) (ai_up_o (by omega)) (fun j b1 b2 => ai_up_n (by omega)) (ai_up_o (by omega))
    · rw [w2, hcl]
      refine ⟨hin, ?_⟩
      rw [show ((Int64.toInt32 (x >>> (Int32.toInt64 (8 * nI i) &&& 63))) &&& (127 : Int32)) = btB x (nI i) from okB_C hob, nI_1]
      exact e4 hp
/-- the count is known -/
theorem wrE (h : NV C V R) {j : Nat} (hj : j ≤ 8) (hok : ∀ i, i < j → okB x i) :
    ((C 0 1 + nI j ≤ 320 → ai_W (uN l D ρ τ) (d + 54) mX5_write 63 [(0, .ref 0), (1, .long x), (3, .int (nI j)), (4, .int 0)] [] C V (ai_qi V (fun a C' => ∃ R', NV C' V R' ∧ (Φ a R' → (R 0 1 + nI j ≤ 320 → ai_W (uM l D ρ' τ) (d' + 8) mX6_write 69 [(0, .ref 0), (1, .long x), (3, .int (nI j)), (4, .int 0)] [] R VR (ai_qi VR Φ)) ∧ (¬ R 0 1 + nI j ≤ 320 → Φ (-1) R))))) ∧
     (¬ C 0 1 + nI j ≤ 320 → ∃ R', NV C V R' ∧ (Φ (-1) R' → (R 0 1 + nI j ≤ 320 → ai_W (uM l D ρ' τ) (d' + 8) mX6_write 69 [(0, .ref 0), (1, .long x), (3, .int (nI j)), (4, .int 0)] [] R VR (ai_qi VR Φ)) ∧ (¬ R 0 1 + nI j ≤ 320 → Φ (-1) R)))) := by
  obtain ⟨⟨n, a1, a2, a3, a4⟩, hp, hr, hv⟩ := id h
  rw [a2, a3, nI_add, show (320 : Int32) = nI 320 from rfl, i_le (by omega) (by omega)]
  refine ⟨fun hle => ?_, fun hgt => ⟨R, h, fun hp => ⟨fun h1 => absurd h1 hgt, fun _ => hp⟩⟩⟩
  exact (wr63 (Φ := Φ) (VR := VR) (ρ' := ρ') (d' := d') hj hle hok hv j 0 (by omega) C R ⟨a2, a3, fun k hk => a4 k (by omega), hp, hr⟩).mono (fun r S' V' ⟨e1, a, e2, R', e3, e4⟩ => ⟨e1, a, e2, R', e3, fun hp => ⟨fun _ => e4 hp, fun h1 => absurd hle h1⟩⟩)
theorem wr5 (h : NV C V R) : ∀ (k j : Nat), j + k = 8 → (∀ i, i < j → okB x i) →
    ai_W (uN l D ρ τ) (d + 54) mX5_write 5 [(0, .ref 0), (1, .long x), (3, .int (nI j)), (4, .int (nI j))] [] C V (ai_qi V (fun a C' => ∃ R', NV C' V R' ∧ (Φ a R' → ai_W (uM l D ρ' τ) (d' + 8) mX6_write 5 [(0, .ref 0), (1, .long x), (3, .int (nI j)), (4, .int (nI j))] [] R VR (ai_qi VR Φ)))) := by
  intro k
  induction k with
  | zero =>
    intro j hj hok
    have h8 : 8 ≤ nI j := by rw [show (8 : Int32) = nI 8 from rfl, i_le (by omega) (by omega)]; omega
    obtain ⟨w1, w2⟩ := wrE (l := l) (D := D) (ρ := ρ) (ρ' := ρ') (τ := τ) (d := d) (d' := d') (VR := VR) (Φ := Φ) h (by omega) hok
    refine vX5_write_5 ⟨fun _ => ⟨fun hc => ?_, fun hc => ?_⟩, fun h1 => absurd h8 h1⟩
    · exact (w1 hc).mono (fun r S' V' ⟨e1, a, e2, R', e3, e4⟩ => ⟨e1, a, e2, R', e3, fun hp => vX6_write_5 ⟨fun _ => e4 hp, fun h1 => absurd h8 h1⟩⟩)
    · obtain ⟨R', e3, e4⟩ := w2 hc
      exact ⟨R', e3, fun hp => vX6_write_5 ⟨fun _ => e4 hp, fun h1 => absurd h8 h1⟩⟩
  | succ k ih =>
    intro j hj hok
    have h8 : ¬ 8 ≤ nI j := by rw [show (8 : Int32) = nI 8 from rfl, i_le (by omega) (by omega)]; omega
    have eA : ((Int64.toInt32 ((x.toUInt64 >>> ((Int32.toInt64 (8 * nI j)).toUInt64 &&& Int64.toUInt64 63)).toInt64)) &&& (255 : Int32)) = btB x (nI j) := bt_all (by omega)
    have eB : ((Int64.toInt32 (x >>> (Int32.toInt64 (8 * nI j) &&& 63))) &&& (255 : Int32)) = btB x (nI j) := rfl
    refine vX5_write_5 ⟨fun h1 => absurd h1 h8, fun _ => ?_⟩
    rw [eA]
    have six : ∀ {P : Prop}, P → P := fun h => h
    refine ⟨fun hn0 => ⟨fun hle => ?_, fun hgt => ⟨R, h, fun hp => vX6_write_5 ⟨fun h1 => absurd h1 h8, fun _ => ⟨fun _ => ⟨fun h2 => absurd h2 (by rw [eB]; exact hgt), fun _ => hp⟩, fun h2 => absurd (by rw [← eB]; exact h2) hn0⟩⟩⟩⟩, fun h0 => ?_⟩
    · rw [nI_1]
      refine (ih (j + 1) (by omega) (fun i hi => ?_)).mono (fun r S' V' ⟨e1, a, e2, R', e3, e4⟩ => ⟨e1, a, e2, R', e3, fun hp => vX6_write_5 ⟨fun h1 => absurd h1 h8, fun _ => ⟨fun _ => ⟨fun _ => ?_, fun h2 => absurd (by rw [eB]; exact hle) h2⟩, fun h2 => absurd (by rw [← eB]; exact h2) hn0⟩⟩⟩)
      · by_cases hij : i = j
        · subst hij; exact ⟨hn0, hle⟩
        · exact hok i (by omega)
      · rw [nI_1]; exact e4 hp
    · obtain ⟨w1, w2⟩ := wrE (l := l) (D := D) (ρ := ρ) (ρ' := ρ') (τ := τ) (d := d) (d' := d') (VR := VR) (Φ := Φ) h (show j ≤ 8 by omega) hok
      refine ⟨fun hc => ?_, fun hc => ?_⟩
      · exact (w1 hc).mono (fun r S' V' ⟨e1, a, e2, R', e3, e4⟩ => ⟨e1, a, e2, R', e3, fun hp => vX6_write_5 ⟨fun h1 => absurd h1 h8, fun _ => ⟨fun h2 => absurd (by rw [eB]; exact h0) h2, fun _ => e4 hp⟩⟩⟩)
      · obtain ⟨R', e3, e4⟩ := w2 hc
        exact ⟨R', e3, fun hp => vX6_write_5 ⟨fun h1 => absurd h1 h8, fun _ => ⟨fun h2 => absurd (by rw [eB]; exact h0) h2, fun _ => e4 hp⟩⟩⟩
theorem fc_write (h : NV C V R) (x : Int64) (Φ : Int32 → ai_S → Prop) : fsI (uN l D ρ τ) (d + 54) mX5_write [.ref 0, .long x] C V (uM l D ρ' τ) (d' + 8) mX6_write R VR Φ :=
  fsI_of (vX5_write ((wr5 (x := x) (Φ := Φ) h 8 0 rfl (fun i hi => absurd hi (by omega))).mono (fun r S' V' ⟨e1, a, e2, R', e3, e4⟩ => ⟨e1, a, e2, R', e3, fun hp => vX6_write (e4 hp)⟩)))
theorem mrgV_V1 : mrgV V (ai_uv (ai_uv V 2 3 (.ref 26)) 2 0 (.ref 1)) = ai_uv (ai_uv V 2 3 (.ref 26)) 2 0 (.ref 1) := by
  funext q
  unfold mrgV
  by_cases h : fzq q = true
  · rw [if_pos h]
    have h2 : q ≠ 2 := fun h2 => by subst h2; exact absurd h (by decide)
    funext k
    simp [ai_uv, h2]
  · rw [if_neg h]
theorem fc_read (h : NV C V R) (Φ : Int32 → ai_S → Prop) : fsI (uN l D ρ τ) (d + 54) mX5_read [.ref 0] C V (uM l D ρ' τ) (d' + 8) mX6_read R VR Φ := by
  obtain ⟨⟨n, t1, t2, t3, t4⟩, ⟨h0, p1, p2, p3⟩, hr, v4, v5, vv⟩ := id h
  obtain ⟨V1, hV1⟩ : ∃ V1, V1 = ai_uv (ai_uv V 2 3 (.ref 26)) 2 0 (.ref 1) := ⟨_, rfl⟩
  have vv1 : ∀ q k, vz (V1 q k) := by rw [hV1]; exact vz_uv (vz_uv vv (Or.inr ⟨26, by omega, rfl⟩)) (Or.inr ⟨1, by omega, rfl⟩)
  refine vX5_read v4 v5 ?_
  rw [t2, ← hV1]
  have hs := sim_readInto (l := l) (D := D) (ρ := fzr ρ C V) (τ := τ) (d := d) (V := V) (z := (l, D, ρ', τ, d', VR, R 0 14, Φ)) t1 (fun i hi => (t4 i hi).1) t3 (fun i hi => (t4 i hi).2) p2 p1 rfl (fun i hi => by rw [fzr_S (by omega)]; exact (t4 i hi).1)
  rw [← hV1] at hs
  have hb := ai_br (l := l) (D := D) (ρ := ρ) (τ := τ) (S := C) (V := V) (V1 := V1) (fun v hv => by
    rcases List.mem_cons.mp hv with rfl | hv
    · exact Or.inl (Or.inr ⟨2, by omega, rfl⟩)
    rcases List.mem_cons.mp hv with rfl | hv
    · exact Or.inl (Or.inr ⟨26, by omega, rfl⟩)
    rcases List.mem_cons.mp hv with rfl | hv
    · exact Or.inl (Or.inr ⟨1, by omega, rfl⟩)
    rcases List.mem_cons.mp hv with rfl | hv
    · exact Or.inr ⟨_, rfl⟩
    · exact absurd hv (by simp)) vv vv1 hs
  refine hb.mp (fun x S2 V2 ⟨e1, S', e2, R', ⟨f1, f2, f3, f4⟩, hΦ⟩ => ⟨by rw [e1, hV1, mrgV_V1], ?_⟩)
  have sf : ∀ q, fzq q = true → S2 q = C q := fun q hq => by rw [e2]; unfold mrgS; rw [if_pos hq]
  have sn : ∀ q, fzq q = false → S2 q = S' q := fun q hq => by rw [e2]; unfold mrgS; rw [if_neg (by rw [hq]; decide)]
  have w4 : V1 0 4 = .ref 20 := by rw [hV1]; simp [ai_uv]; exact v4
  have w5 : V1 0 5 = .ref 26 := by rw [hV1]; simp [ai_uv]; exact v5
  refine ⟨fun hx => ⟨R', Or.inl ⟨⟨n, t1, ?_, ?_, fun i hi => ?_⟩, ?_, ?_, w4, w5, vv1⟩, hΦ⟩, fun hx => ⟨R', Or.inr ⟨⟨n, t1, ?_, ?_, fun i hi => ?_⟩, ?_, ?_, ?_, ?_, ?_⟩, hΦ⟩⟩
  · rw [sf 0 (by decide)]; exact t2
  · rw [f1 1 (by omega) (by omega) (by omega) (by omega) (by omega) (by omega)]; exact t3
  · rw [sf 1 (by decide), f2]; exact t4 i hi
  · rcases f4 with ⟨hx0, _⟩ | ⟨_, g1, g2, g3, g4, g5⟩
    · exact absurd hx0 hx
    · exact (show NVp C R from ⟨h0, p1, p2, p3⟩).keep (by rw [sf 0 (by decide)]) (sf 20 (by decide)) (fun j hj => sf _ (by unfold fzq; simp; omega)) g1 g2 g3 g4 g5
  · exact hr.keep (sf 9 (by decide)) (sf 10 (by decide)) (sf 19 (by decide)) (fun j b1 b2 => f1 j (by omega) (by omega) (by omega) (by omega) (by omega) (by omega)) (f3 30 (by omega) (by omega))
  · show ai_up S2 0 6 1 (sw 0) 1 = _
    rw [sw_o (by omega), ai_up_n (by omega), sf 0 (by decide)]; exact t2
  · rw [f1 1 (by omega) (by omega) (by omega) (by omega) (by omega) (by omega)]; exact t3
  · show ai_up S2 0 6 1 (sw 1) i = _ ∧ _
    rw [sw_o (by omega), ai_up_n (by omega), sf 1 (by decide), f2]; exact t4 i hi
  · rcases f4 with ⟨_, g1, hf, y, e, np, k1, k2, k3, k4, k5, k6, k7, k8, k9, k10⟩ | ⟨hxx, _⟩
    · refine ⟨hf, k1, k2, Or.inr ⟨?_, by rw [g1]; decide, y, e, np, k3, ?_, ?_, k6, ?_, ?_, ?_, ?_⟩⟩
      · show ¬ ai_up S2 0 6 1 (sw 0) 6 = 0
        rw [sw_o (by omega), ai_up_s]; decide
      · show ai_up S2 0 6 1 26 3 = _
        rw [ai_up_n (by omega), sn 26 (by decide)]; exact k4
      · show ai_up S2 0 6 1 26 6 = _
        rw [ai_up_n (by omega), sn 26 (by decide)]; exact k5
      · show ai_up S2 0 6 1 26 7 = _
        rw [ai_up_n (by omega), sn 26 (by decide)]; exact k7
      · show ai_up S2 0 6 1 26 8 = _
        rw [ai_up_n (by omega), sn 26 (by decide)]; exact k8
      · show ai_up S2 0 6 1 26 9 = _
        rw [ai_up_n (by omega), sn 26 (by decide)]; exact k9
      · refine PG_keep k10 (fun j hj => ?_) (fun _ _ _ _ _ _ => rfl) (fun _ _ _ _ _ _ => rfl)
        show ai_up S2 0 6 1 (sw (21 + j)) = S' (27 + j)
        rw [show sw (21 + j) = 27 + j by unfold sw; rw [if_pos (by omega)]; omega, ai_up_o (by omega)]
        exact sn _ (by unfold fzq; simp; omega)
    · rcases hxx with hxx | hxx <;> (rw [hxx] at hx; exact absurd hx (by decide))
  · refine hr.keep ?_ ?_ ?_ (fun j b1 b2 => f1 j (by omega) (by omega) (by omega) (by omega) (by omega) (by omega)) (f3 30 (by omega) (by omega))
    · show ai_up S2 0 6 1 (sw 9) = _
      rw [sw_o (by omega), ai_up_o (by omega)]; exact sf 9 (by decide)
    · show ai_up S2 0 6 1 (sw 10) = _
      rw [sw_o (by omega), ai_up_o (by omega)]; exact sf 10 (by decide)
    · show ai_up S2 0 6 1 (sw 19) = _
      rw [sw_o (by omega), ai_up_o (by omega)]; exact sf 19 (by decide)
  · show swv (ai_uv (ai_uv V1 0 4 (.ref 26)) 0 5 (.ref 20) (sw 0) 4) = _
    rw [sw_o (by omega)]; simp [ai_uv, updV, swv, sw]
  · show swv (ai_uv (ai_uv V1 0 4 (.ref 26)) 0 5 (.ref 20) (sw 0) 5) = _
    rw [sw_o (by omega)]; simp [ai_uv, updV, swv, sw]
  · exact fun q k => swv_vz (vz_uv (vz_uv vv1 (Or.inr ⟨26, by omega, rfl⟩)) (Or.inr ⟨20, by omega, rfl⟩) _ _)
theorem fc_run (h : NV C V R) (i : Int32) (Φ : Int32 → ai_S → Prop) : fsI (uN l D ρ τ) (d + 54) mX5_run [.ref 0, .int i] C V (uM l D ρ' τ) (d' + 8) mX6_run R VR Φ := by
  obtain ⟨⟨n, t1, t2, t3, t4⟩, ⟨h0, p1, p2, p3⟩, hr, v4, v5, vv⟩ := id h
  refine vX5_run v4 ?_
  rcases p3 with ⟨d1, d2⟩ | ⟨d1, d2, y, e, np, d3, d4, d5, d6, d7, d8, d9, d10⟩
  · exact ⟨fun h1 => absurd d1 h1, fun _ => ⟨R, Or.inl h, fun hp => vX6_run ⟨fun h1 => absurd d2 h1, fun _ => hp⟩⟩⟩
  · refine ⟨fun _ => ⟨fun hn => ⟨R, Or.inl h, fun hp => vX6_run ⟨fun _ => vX6_within ⟨fun _ => ai_zf hp, fun h1 => absurd hn h1⟩, fun h1 => absurd h1 d2⟩⟩, fun hn => ⟨fun hle => ?_, fun hgt => ⟨R, Or.inl h, fun hp => vX6_run ⟨fun _ => vX6_within ⟨fun h1 => absurd h1 hn, fun _ => ⟨fun _ => ai_zf hp, fun h1 => absurd (Int32.not_lt.mp h1) hgt⟩⟩, fun h1 => absurd h1 d2⟩⟩⟩⟩, fun h1 => absurd h1 d1⟩
    obtain ⟨k, hk, rfl⟩ : ∃ k : Nat, k < 2 ^ 31 ∧ i = nI k := ⟨i.toNatClampNeg, fi_clamp_lt _, (fi_of_nn hn).symm⟩
    rw [show (1000 : Int32) = nI 1000 from rfl, i_le (by omega) (by omega)] at hle
    have hs := run_sim (xz9 := (l, D, ρ, τ, d + 44, ai_uv V 9 0 (.ref 20), C, R, (l, D, ρ', τ, d', VR, R 0 14, Φ))) trivial p1 d10 d4 d5 d2 d3 hle (V := V) rfl
    refine hs.mp (fun a C' V' ⟨e1, R', f, hΦ⟩ => ⟨e1, R', Or.inl ?_, hΦ⟩)
    obtain ⟨⟨f1, f2, f3⟩, f4⟩ := f
    refine ⟨⟨n, t1, ?_, ?_, fun i hi => ?_⟩, ?_, f4, ?_, ?_, ?_⟩
    · rw [f1 0 (by omega)]; exact t2
    · rw [f3 1 (by omega)]; exact t3
    · rw [f1 1 (by omega), f2 1 (by omega) (by omega)]; exact t4 i hi
    · exact (show NVp C R from ⟨h0, p1, p2, Or.inr ⟨d1, d2, y, e, np, d3, d4, d5, d6, d7, d8, d9, d10⟩⟩).keep (by rw [f1 0 (by omega)]) (f1 20 (by omega)) (fun j _ => f1 _ (by omega)) (f3 14 (by omega)) (f3 18 (by omega)) (f3 16 (by omega)) (f2 12 (by omega) (by omega)) (fun _ _ _ _ => ⟨fun q b1 b2 i _ _ => by rw [f2 q (by omega) (by omega)], fun q b1 b2 i _ _ => by rw [f2 q (by omega) (by omega)]⟩)
    · simp [ai_uv]; exact v4
    · simp [ai_uv]; exact v5
    · exact vz_uv vv (Or.inr ⟨20, by omega, rfl⟩)
end FW
