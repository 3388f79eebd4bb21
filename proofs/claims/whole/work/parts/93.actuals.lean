/-! ===== calls: actuals ===== -/
theorem bt0 : ∀ iz9, iz9 < 6 → ∀ wz9, wz9 < 64 → (((nI wz9 >>> (nI iz9 &&& 31)) &&& (1 : Int32)) = 0 ↔ wz9.testBit iz9 = false) := by decide +kernel
/-- an actual in the list of a call -/
def la (yz9 : ys_T) (scz9 : sc_T) (kz9 : Nat) (hx : Nat → Nat × Nat) (bz9 iz9 : Nat) : Prop :=
  nd7 (hx iz9).1 ∧ yR yz9 8 (hx iz9).1 = nI iz9 ∧ yR yz9 4 (hx iz9).1 = nI (hx (iz9 + 1)).1 ∧ (yR yz9 2 (hx iz9).1 = 8 ∧ yK yz9 0 (hx iz9).2 = 24 ∨ ¬ yR yz9 2 (hx iz9).1 = 8 ∧ yK yz9 0 (hx iz9).2 = 23) ∧ (∃ mz9, yE yz9 scz9 kz9 (hx iz9).1 ((hx iz9).2 + 1) mz9 ∧ yK yz9 0 mz9 = 25 ∧ mz9 < (hx (iz9 + 1)).2) ∧ yK yz9 1 (hx iz9).2 = nI (hx (iz9 + 1)).2 ∧ (hx iz9).2 < (hx (iz9 + 1)).2 ∧ (hx (iz9 + 1)).2 ≤ bz9
section LIE
variable {yz9 : ys_T} {scz9 : sc_T} {kz9 bz9 : Nat}
theorem li_ex : ∀ (jz9 qz9 az9 iz9 : Nat), yL yz9 scz9 kz9 jz9 qz9 az9 bz9 iz9 → ∃ (cntz9 : Nat) (hx : Nat → Nat × Nat), iz9 ≤ cntz9 ∧ cntz9 ≤ iz9 + jz9 ∧ hx cntz9 = (0, bz9) ∧ hx iz9 = (qz9, az9) ∧ ∀ i', iz9 ≤ i' → i' < cntz9 → la yz9 scz9 kz9 hx bz9 i'
  | 0, qz9, az9, iz9, hz9 => by
    obtain ⟨h1, h2⟩ : qz9 = 0 ∧ az9 = bz9 := hz9
    exact ⟨iz9, fun _ => (0, bz9), Nat.le_refl _, Nat.le_refl _, rfl, by rw [h1, h2], fun i' h3 h4 => by omega⟩
  | jz9 + 1, qz9, az9, iz9, hz9 => by
    rcases hz9 with ⟨h1, h2⟩ | ⟨h1, h2, mz9, zz9, h3, h4, h5, h6, h7, h8⟩
    · exact ⟨iz9, fun _ => (0, bz9), Nat.le_refl _, by omega, rfl, by rw [h1, h2], fun i' h3 h4 => by omega⟩
    · obtain ⟨cntz9, hx, g1, g2, g3z9, g4, g5z9⟩ := li_ex jz9 zz9 (mz9 + 1) (iz9 + 1) h8
      have hlt := yE_lt h3
      have hle : mz9 + 1 ≤ bz9 := yL_le h8
      obtain ⟨hy', e1z9, e2z9⟩ : ∃ hy' : Nat → Nat × Nat, hy' iz9 = (qz9, az9) ∧ ∀ i', i' ≠ iz9 → hy' i' = hx i' := ⟨fun i' => if i' = iz9 then (qz9, az9) else hx i', if_pos rfl, fun i' hz9 => if_neg hz9⟩
      refine ⟨cntz9, hy', by omega, by omega, by rw [e2z9 _ (by omega)]; exact g3z9, e1z9, fun i' h9 h10 => ?_⟩
      by_cases ez9 : i' = iz9
      · subst ez9
        unfold la
        rw [e1z9, e2z9 _ (by omega), g4]
        exact ⟨yE_nd h3, h6, h7, h2, ⟨mz9, h3, h4, by show mz9 < mz9 + 1; omega⟩, h5, by show az9 < mz9 + 1; omega, hle⟩
      · have := g5z9 i' (by omega) h10
        unfold la at this ⊢
        rw [e2z9 _ ez9, e2z9 _ (by omega)]
        exact this
end LIE
/-- the end of counting, in the class -/
def ecF (xz9 : xs_T) (Sz9 : ai_S) (p1z9 p2z9 ct bh : Int32) (Gz9 : ai_S → Prop) : Prop := (¬ p1z9 < 0 ∧ (¬ (Sz9 20 6) ≤ p1z9 ∧ (¬ 16 ≤ p1z9 ∧ (vp_in p1z9 16 ∧ ((ct = (Sz9 25 (p1z9).toNatClampNeg) → (((Sz9 10 5) < 30 → (¬ (Sz9 10 5) < 0 ∧ (vp_in ((Sz9 10 5) + 1) 31 ∧ (¬ ((((Sz9 10 5) + 1) * 31) + 0) < 0 ∧ (¬ 961 ≤ ((((Sz9 10 5) + 1) * 31) + 0) ∧ (vp_in ((((Sz9 10 5) + 1) * 31) + 0) 961 ∧ ai_W (xu xz9) (xd xz9 + 6) mX1_enterCall 102 [(0, .ref 9), (1, .int p1z9), (3, .int ct), (5, .int (Sz9 9 4)), (6, .int 0)] [] (ai_up (ai_up (ai_up (ai_up (ai_up (ai_up (ai_up Sz9 10 5 ((Sz9 10 5) + 1)) 10 7 ((Sz9 10 7) + 1)) 10 6 (if (Sz9 10 6) < ((Sz9 10 5) + 1) then ((Sz9 10 5) + 1) else (Sz9 10 6))) 12 (((Sz9 10 5) + 1)).toNatClampNeg p2z9) 13 (((Sz9 10 5) + 1)).toNatClampNeg (Sz9 9 5)) 14 (((Sz9 10 5) + 1)).toNatClampNeg bh) 11 (((((Sz9 10 5) + 1) * 31) + 0)).toNatClampNeg 0) (xV xz9) (ai_qv (xV xz9) Gz9))))))) ∧ (¬ (Sz9 10 5) < 30 → Gz9 (ai_up Sz9 9 3 5)))) ∧ (¬ ct = (Sz9 25 (p1z9).toNatClampNeg) → Gz9 (ai_up Sz9 9 3 4)))))))
section ECC
variable {yz9 : ys_T} {xz9 : xs_T} {scz9 : sc_T} {kz9 bz9 cntz9 : Nat} {hx : Nat → Nat × Nat} {Cz9 : ai_S} {Gp : ai_S → Prop} {p1z9 p2z9 : Int32}
theorem ec_cnt (hMz9 : xV xz9 9 0 = .ref 20) (he : ye yz9 ≤ 488) (hbe : bz9 < ye yz9) (h20 : Cz9 20 3 = nI (ye yz9)) (hKz9 : ∀ qz9, Cz9 (21 + qz9) = yK yz9 qz9) (hc6 : cntz9 ≤ 6) (hxc : hx cntz9 = (0, bz9)) (hla : ∀ iz9, iz9 < cntz9 → la yz9 scz9 kz9 hx bz9 iz9) (hna : ¬ yK yz9 0 bz9 = 23 ∧ ¬ yK yz9 0 bz9 = 24) (hG : ecF xz9 Cz9 p1z9 p2z9 (nI cntz9) (nI bz9) Gp) :
    ∀ (rz9 iz9 : Nat), cntz9 = iz9 + rz9 → ai_W (xu xz9) (xd xz9 + 6) mX1_enterCall 8 [(0, .ref 9), (1, .int p1z9), (2, .int p2z9), (3, .int (nI iz9)), (4, .int (nI (hx iz9).2))] [] Cz9 (xV xz9) (ai_qv (xV xz9) Gp) := by
  intro rz9
  induction rz9 with
  | zero =>
    intro iz9 hiz9
    have ez9 : iz9 = cntz9 := by omega
    subst ez9
    rw [hxc]
    refine vX1_enterCall_8 hMz9 ⟨fun _ => hG, fun hh => ⟨fun hl => absurd hl (nI_pos (by omega)), fun _ => ⟨by rw [h20, i_le (by omega) (by omega)]; omega, by rw [show (488 : Int32) = nI 488 from rfl, i_le (by omega) (by omega)]; omega, i_in (by omega) (by omega), fun h23 => ?_, fun _ => ⟨fun _ => hG, fun h24 => ?_⟩⟩⟩⟩
    · rw [nI_clamp (by omega), hKz9 0] at h23; exact absurd h23 hna.1
    · rw [nI_clamp (by omega), hKz9 0] at h24; exact absurd h24 hna.2
  | succ rz9 ihz9 =>
    intro iz9 hiz9
    obtain ⟨l1, l2, l3, l4, l5, l6, l7, l8⟩ := hla iz9 (by omega)
    have hr := ihz9 (iz9 + 1) (by omega)
    rw [nI_succ iz9] at hr
    refine vX1_enterCall_8 hMz9 ⟨fun hh => absurd hh ?_, fun _ => ⟨fun hl => absurd hl (nI_pos (by omega)), fun _ => ⟨by rw [h20, i_le (by omega) (by omega)]; omega, by rw [show (488 : Int32) = nI 488 from rfl, i_le (by omega) (by omega)]; omega, i_in (by omega) (by omega), ?_⟩⟩⟩
    · rw [show (6 : Int32) = nI 6 from rfl, i_le (by omega) (by omega)]; omega
    · rw [nI_clamp (by omega), hKz9 0, hKz9 1, l6]
      rcases l4 with ⟨_, l4⟩ | ⟨_, l4⟩
      · rw [l4]
        exact ⟨fun hh => absurd hh (by decide), fun _ => ⟨fun hh => absurd rfl hh, fun _ => hr⟩⟩
      · rw [l4]
        exact ⟨fun _ => hr, fun hh => absurd rfl hh⟩
theorem ec_put (hMz9 : xV xz9 9 0 = .ref 20) (he : ye yz9 ≤ 488) (hbe : bz9 < ye yz9) (hc6 : cntz9 ≤ 6) (hla : ∀ iz9, iz9 < cntz9 → la yz9 scz9 kz9 hx bz9 iz9) {na1 pr : Nat} (hna1 : na1 ≤ 30) (hpr : pr < yn yz9) (hn16 : yn yz9 ≤ 16) :
    ∀ (rz9 iz9 : Nat) (Sz9 : ai_S), cntz9 = iz9 + rz9 → Sz9 10 5 = nI na1 → Sz9 20 3 = nI (ye yz9) → Sz9 20 6 = nI (yn yz9) → (∀ qz9, Sz9 (21 + qz9) = yK yz9 qz9) →
      (∀ C3z9 : ai_S, (∀ qz9 i', ¬ (qz9 = 11 ∧ 31 * na1 + 1 + iz9 ≤ i' ∧ i' < 31 * na1 + 1 + cntz9) → ¬ (qz9 = 9 ∧ (i' = 4 ∨ i' = 5)) → C3z9 qz9 i' = Sz9 qz9 i') → (∀ i', iz9 ≤ i' → i' < cntz9 → C3z9 11 (31 * na1 + 1 + i') = nI (hx i').2) → C3z9 9 5 = nI na1 → C3z9 9 4 = yK yz9 3 pr → Gp C3z9) →
      ai_W (xu xz9) (xd xz9 + 6) mX1_enterCall 102 [(0, .ref 9), (1, .int (nI pr)), (3, .int (nI cntz9)), (5, .int (nI (hx iz9).2)), (6, .int (nI iz9))] [] Sz9 (xV xz9) (ai_qv (xV xz9) Gp) := by
  intro rz9
  induction rz9 with
  | zero =>
    intro iz9 Sz9 hiz9 h105 h203 h206 hKz9 hG
    refine vX1_enterCall_102 hMz9 ⟨fun _ => ⟨nI_pos (by omega), by rw [h206, i_le (by omega) (by omega)]; omega, by rw [show (16 : Int32) = nI 16 from rfl, i_le (by omega) (by omega)]; omega, i_in (by omega) (by omega), ?_⟩, fun hh => absurd ?_ hh⟩
    · rw [nI_clamp (by omega), hKz9 3, h105]
      exact hG _ (fun qz9 i' pz9 p' => by (repeat rw [ai_up_n (by omega)])) (fun i' h1 h2 => by omega) (by (repeat rw [ai_up_n (by omega)]); exact ai_up_s) ai_up_s
    · rw [i_le (by omega) (by omega)]; omega
  | succ rz9 ihz9 =>
    intro iz9 Sz9 hiz9 h105 h203 h206 hKz9 hG
    obtain ⟨l1, l2, l3, l4, l5, l6, l7, l8⟩ := hla iz9 (by omega)
    refine vX1_enterCall_102 hMz9 ⟨fun hh => absurd hh ?_, fun _ => ?_⟩
    · rw [i_le (by omega) (by omega)]; omega
    · rw [h105, show (31 : Int32) = nI 31 from rfl, show (1 : Int32) = nI 1 from rfl, pk_mul, nI_add, nI_add, show na1 * 31 + (1 + iz9) = 31 * na1 + 1 + iz9 by omega, nI_clamp (show 31 * na1 + 1 + iz9 < 2 ^ 31 by omega), nI_clamp (show (hx iz9).2 < 2 ^ 31 by omega), hKz9 1, l6, nI_add]
      refine ⟨nI_pos (by omega), by rw [show (961 : Int32) = nI 961 from rfl, i_le (by omega) (by omega)]; omega, i_in (by omega) (by omega), fun hl => absurd hl (nI_pos (by omega)), fun _ => ⟨by rw [h203, i_le (by omega) (by omega)]; omega, by rw [show (488 : Int32) = nI 488 from rfl, i_le (by omega) (by omega)]; omega, i_in (by omega) (by omega), ihz9 (iz9 + 1) _ (by omega) (by (repeat rw [ai_up_n (by omega)]); exact h105) (by (repeat rw [ai_up_n (by omega)]); exact h203) (by (repeat rw [ai_up_n (by omega)]); exact h206) (fun qz9 => by rw [ai_up_o (by omega)]; exact hKz9 qz9) (fun C3z9 g1 g2 g3z9 g4 => hG C3z9 (fun qz9 i' pz9 p' => ?_) (fun i' p1z9 p2z9 => ?_) g3z9 g4)⟩⟩
      · rw [g1 qz9 i' (by omega) p', ai_up_n (by omega)]
      · by_cases ez9 : i' = iz9
        · subst ez9; rw [g1 _ _ (by omega) (by omega), ai_up_s]
        · exact g2 i' (by omega) p2z9
end ECC
/-! the reference's -/
section RCC
variable {yz9 : ys_T} {scz9 : sc_T} {kz9 bz9 cntz9 wz9 pb nz9 fz9 nfz9 Bz9 : Nat} {hx : Nat → Nat × Nat}
theorem nm_loop (hc6 : cntz9 ≤ 6) (hc0 : 0 < cntz9) (hw : wz9 < 64) (hpb : pb < 32) (hn : nz9 < 700) (hnf : nfz9 < 400) (hBz9 : Bz9 + 1 + cntz9 ≤ 1300) (hxc : (hx cntz9).1 = 0) (hla : ∀ iz9, iz9 < cntz9 → la yz9 scz9 kz9 hx bz9 iz9) :
    ∀ (rz9 iz9 : Nat) (Sz9 : ai_S), cntz9 = iz9 + rz9 → Sz9 25 nfz9 = nI Bz9 → Sz9 11 pb = nI wz9 → (∀ qz9, 2 ≤ qz9 → qz9 ≤ 8 → Sz9 qz9 = yR yz9 qz9) → Sz9 3 nz9 = nI (hx 0).1 →
      ∃ R4 : ai_S, (∀ qz9 i', ¬ ((qz9 = 27 ∨ qz9 = 28) ∧ Bz9 + 1 + iz9 ≤ i' ∧ i' < Bz9 + 1 + cntz9) → R4 qz9 i' = Sz9 qz9 i') ∧ (∀ i', iz9 ≤ i' → i' < cntz9 → wz9.testBit i' = false → R4 27 (Bz9 + 1 + i') = nI (hx i').1 ∧ R4 28 (Bz9 + 1 + i') = nI fz9) ∧ (∀ i', iz9 ≤ i' → i' < cntz9 → wz9.testBit i' = true → R4 27 (Bz9 + 1 + i') = Sz9 27 (Bz9 + 1 + i')) ∧
        ∀ (l : Launch) (Dz9 : va_G) (ρ : Nat → Nat) (τ : Nat → ClassId) (uz9 : Nat) (V : ai_V) (Gp : ai_S → Prop), ai_met (uM l Dz9 ρ τ) uz9 mX6_arguments [.ref 0, .int (nI (hx 0).1), .int (nI nfz9)] R4 V (ai_qv V Gp) → ai_W (uM l Dz9 ρ τ) (uz9 + 1) mX6_call 173 [(0, .ref 0), (1, .int (nI nz9)), (2, .int (nI fz9)), (3, .int (nI cntz9)), (4, .int (nI pb)), (5, .int (nI nfz9)), (6, .int (nI (hx iz9).1))] [] Sz9 V (ai_qv V Gp) := by
  intro rz9
  induction rz9 with
  | zero =>
    intro iz9 Sz9 hiz9 h25 h11 hR h3
    have ez9 : iz9 = cntz9 := by omega
    subst ez9
    refine ⟨Sz9, fun _ _ _ => rfl, fun i' h1 h2 => by omega, fun i' h1 h2 => by omega, fun l Dz9 ρ τ uz9 V Gp hG => ?_⟩
    rw [hxc]
    refine vX6_call_173 ⟨fun _ => ⟨fun hh => absurd hh (nI_nle hc0 (by omega)), fun _ => ⟨i_in hn (by omega), ?_⟩⟩, fun hh => absurd (by decide) hh⟩
    rw [nI_clamp (by omega), h3]
    exact hG
  | succ rz9 ihz9 =>
    intro iz9 Sz9 hiz9 h25 h11 hR h3
    obtain ⟨l1, l2, l3, l4, l5, l6, l7, l8⟩ := hla iz9 (by omega)
    have l1' := l1.2
    have hbt := bt0 iz9 (by omega) wz9 hw
    by_cases hbit : wz9.testBit iz9 = true
    · obtain ⟨R4, g1, g2, g3z9, g4⟩ := ihz9 (iz9 + 1) Sz9 (by omega) h25 h11 hR h3
      refine ⟨R4, fun qz9 i' pz9 => g1 qz9 i' (by omega), fun i' p1z9 p2z9 p3z9 => ?_, fun i' p1z9 p2z9 p3z9 => ?_, fun l Dz9 ρ τ uz9 V Gp hG => ?_⟩
      · by_cases ez9 : i' = iz9
        · subst ez9; rw [hbit] at p3z9; cases p3z9
        · exact g2 i' (by omega) p2z9 p3z9
      · by_cases ez9 : i' = iz9
        · subst ez9; exact g1 _ _ (by omega)
        · exact g3z9 i' (by omega) p2z9 p3z9
      · refine vX6_call_173 ⟨fun hh => absurd hh (nI_nle l1.1 (by omega)), fun _ => ⟨i_in hnf (by omega), i_in l1' (by omega), i_in hpb (by omega), ?_⟩⟩
        rw [nI_clamp (show (hx iz9).1 < 2 ^ 31 by omega), nI_clamp (show pb < 2 ^ 31 by omega), h11, hR 8 (by omega) (by omega), l2, hR 4 (by omega) (by omega), l3]
        exact ⟨fun _ => g4 l Dz9 ρ τ uz9 V Gp hG, fun hh => absurd (hbt.mp hh) (by rw [hbit]; decide)⟩
    · have hbit' : wz9.testBit iz9 = false := by cases hq : wz9.testBit iz9 <;> simp_all
      obtain ⟨R4, g1, g2, g3z9, g4⟩ := ihz9 (iz9 + 1) (ai_up (ai_up Sz9 27 (Bz9 + 1 + iz9) (nI (hx iz9).1)) 28 (Bz9 + 1 + iz9) (nI fz9)) (by omega) (by (repeat rw [ai_up_n (by omega)]); exact h25) (by (repeat rw [ai_up_n (by omega)]); exact h11) (fun qz9 p1z9 p2z9 => by rw [ai_up_o (by omega), ai_up_o (by omega)]; exact hR qz9 p1z9 p2z9) (by (repeat rw [ai_up_n (by omega)]); exact h3)
      refine ⟨R4, fun qz9 i' pz9 => ?_, fun i' p1z9 p2z9 p3z9 => ?_, fun i' p1z9 p2z9 p3z9 => ?_, fun l Dz9 ρ τ uz9 V Gp hG => ?_⟩
      · rw [g1 qz9 i' (by omega)]; (repeat rw [ai_up_n (by omega)])
      · by_cases ez9 : i' = iz9
        · subst ez9
          rw [g1 _ _ (by omega), g1 _ _ (by omega)]
          exact ⟨by (repeat rw [ai_up_n (by omega)]); exact ai_up_s, ai_up_s⟩
        · exact g2 i' (by omega) p2z9 p3z9
      · by_cases ez9 : i' = iz9
        · subst ez9; rw [hbit'] at p3z9; cases p3z9
        · rw [g3z9 i' (by omega) p2z9 p3z9]; (repeat rw [ai_up_n (by omega)])
      · refine vX6_call_173 ⟨fun hh => absurd hh (nI_nle l1.1 (by omega)), fun _ => ⟨i_in hnf (by omega), i_in l1' (by omega), i_in hpb (by omega), ?_⟩⟩
        rw [nI_clamp (show (hx iz9).1 < 2 ^ 31 by omega), nI_clamp (show pb < 2 ^ 31 by omega), nI_clamp (show nfz9 < 2 ^ 31 by omega), h11, hR 8 (by omega) (by omega), l2, hR 4 (by omega) (by omega), l3, h25]
        refine ⟨fun hh => absurd (hbt.mpr hbit') hh, fun _ => ?_⟩
        rw [nI_1, nI_add, nI_clamp (by omega)]
        exact ⟨i_in (by omega) (by omega), g4 l Dz9 ρ τ uz9 V Gp hG⟩
theorem ag_loop {nb tz9 : Nat} (hc6 : cntz9 ≤ 6) (hw : wz9 < 64) (hpb : pb < 32) (hnf : nfz9 < 400) (hxc : (hx cntz9).1 = 0) (hla : ∀ iz9, iz9 < cntz9 → nd7 (hx iz9).1 ∧ yR yz9 8 (hx iz9).1 = nI iz9 ∧ yR yz9 4 (hx iz9).1 = nI (hx (iz9 + 1)).1) {Sz9 : ai_S} (h11 : Sz9 11 pb = nI wz9) (hR : ∀ qz9, 2 ≤ qz9 → qz9 ≤ 8 → Sz9 qz9 = yR yz9 qz9) (h26 : Sz9 26 nfz9 = nI fz9) (h9 : Sz9 9 pb = nI nb) (h39 : Sz9 0 39 = nI tz9) (ht : tz9 + 2 ≤ 7000) :
    ∀ (rz9 iz9 : Nat), cntz9 = iz9 + rz9 →
      (∃ i1z9, iz9 ≤ i1z9 ∧ i1z9 < cntz9 ∧ wz9.testBit i1z9 = true ∧ (∀ i', iz9 ≤ i' → i' < i1z9 → wz9.testBit i' = false) ∧ ∀ (zz9 : lm_T) (uz9 : Nat) (V : ai_V) (Gp : ai_S → Prop), Gp (ai_up (ai_up (ai_up (ai_up Sz9 22 tz9 (nI (12 + 16 * (hx i1z9).1 + 16384 * nfz9))) 0 39 (nI (tz9 + 1))) 22 (tz9 + 1) (nI (8 + 16 * (hx i1z9).1 + 16384 * fz9))) 0 39 (nI (tz9 + 1 + 1))) → ai_W (lm_u zz9) (uz9 + 1) mX6_arguments 10 [(0, .ref 0), (2, .int (nI nfz9)), (3, .int (nI pb)), (4, .int (nI (hx iz9).1))] [] Sz9 V (ai_qv V Gp)) ∨
      ((∀ i', iz9 ≤ i' → i' < cntz9 → wz9.testBit i' = false) ∧ ∀ (zz9 : lm_T) (uz9 : Nat) (V : ai_V) (Gp : ai_S → Prop), Gp (ai_up (ai_up (ai_up (ai_up Sz9 22 tz9 (nI (13 + 16 * 0 + 16384 * nfz9))) 0 39 (nI (tz9 + 1))) 22 (tz9 + 1) (nI (0 + 16 * nb + 16384 * nfz9))) 0 39 (nI (tz9 + 1 + 1))) → ai_W (lm_u zz9) (uz9 + 1) mX6_arguments 10 [(0, .ref 0), (2, .int (nI nfz9)), (3, .int (nI pb)), (4, .int (nI (hx iz9).1))] [] Sz9 V (ai_qv V Gp)) := by
  intro rz9
  induction rz9 with
  | zero =>
    intro iz9 hiz9
    have ez9 : iz9 = cntz9 := by omega
    subst ez9
    refine Or.inr ⟨fun i' h1 h2 => by omega, fun zz9 uz9 V Gp hG => ?_⟩
    rw [hxc]
    refine vX6_arguments_10 ⟨fun _ => sp_later (c := 13) (n := 0) h39 (by omega) ⟨i_in hpb (by omega), ?_⟩, fun hh => absurd (by decide) hh⟩
    rw [nI_clamp (by omega), show (ai_up (ai_up Sz9 22 tz9 (nI (13 + 16 * 0 + 16384 * nfz9))) 0 39 (nI (tz9 + 1))) 9 pb = nI nb by (repeat rw [ai_up_n (by omega)]); exact h9]
    exact sp_later (c := 0) ai_up_s (by omega) hG
  | succ rz9 ihz9 =>
    intro iz9 hiz9
    obtain ⟨l1, l2, l3⟩ := hla iz9 (by omega)
    have l1' := l1.2
    have hbt := bt0 iz9 (by omega) wz9 hw
    by_cases hbit : wz9.testBit iz9 = true
    · refine Or.inl ⟨iz9, Nat.le_refl _, by omega, hbit, fun i' h1 h2 => by omega, fun zz9 uz9 V Gp hG => ?_⟩
      refine vX6_arguments_10 ⟨fun hh => absurd hh (nI_nle l1.1 (by omega)), fun _ => ⟨i_in hpb (by omega), i_in l1' (by omega), ?_⟩⟩
      rw [nI_clamp (show (hx iz9).1 < 2 ^ 31 by omega), nI_clamp (show pb < 2 ^ 31 by omega), h11, hR 8 (by omega) (by omega), l2]
      refine ⟨fun _ => sp_later (c := 12) h39 (by omega) ⟨i_in hnf (by omega), ?_⟩, fun hh => absurd (hbt.mp hh) (by rw [hbit]; decide)⟩
      rw [nI_clamp (show nfz9 < 2 ^ 31 by omega), show (ai_up (ai_up Sz9 22 tz9 (nI (12 + 16 * (hx iz9).1 + 16384 * nfz9))) 0 39 (nI (tz9 + 1))) 26 nfz9 = nI fz9 by (repeat rw [ai_up_n (by omega)]); exact h26]
      exact sp_later (c := 8) ai_up_s (by omega) hG
    · have hbit' : wz9.testBit iz9 = false := by cases hq : wz9.testBit iz9 <;> simp_all
      have stepz9 : ∀ (zz9 : lm_T) (uz9 : Nat) (V : ai_V) (Gp : ai_S → Prop), ai_W (lm_u zz9) (uz9 + 1) mX6_arguments 10 [(0, .ref 0), (2, .int (nI nfz9)), (3, .int (nI pb)), (4, .int (nI (hx (iz9 + 1)).1))] [] Sz9 V (ai_qv V Gp) → ai_W (lm_u zz9) (uz9 + 1) mX6_arguments 10 [(0, .ref 0), (2, .int (nI nfz9)), (3, .int (nI pb)), (4, .int (nI (hx iz9).1))] [] Sz9 V (ai_qv V Gp) := by
        intro zz9 uz9 V Gp hG
        refine vX6_arguments_10 ⟨fun hh => absurd hh (nI_nle l1.1 (by omega)), fun _ => ⟨i_in hpb (by omega), i_in l1' (by omega), ?_⟩⟩
        rw [nI_clamp (show (hx iz9).1 < 2 ^ 31 by omega), nI_clamp (show pb < 2 ^ 31 by omega), h11, hR 8 (by omega) (by omega), l2, hR 4 (by omega) (by omega), l3]
        exact ⟨fun hh => absurd (hbt.mpr hbit') hh, fun _ => hG⟩
      rcases ihz9 (iz9 + 1) (by omega) with ⟨i1z9, g1, g2, g3z9, g4, g5z9⟩ | ⟨g1, g2⟩
      · refine Or.inl ⟨i1z9, by omega, g2, g3z9, fun i' h1 h2 => ?_, fun zz9 uz9 V Gp hG => stepz9 zz9 uz9 V Gp (g5z9 zz9 uz9 V Gp hG)⟩
        by_cases ez9 : i' = iz9
        · subst ez9; exact hbit'
        · exact g4 i' (by omega) h2
      · refine Or.inr ⟨fun i' h1 h2 => ?_, fun zz9 uz9 V Gp hG => stepz9 zz9 uz9 V Gp (g2 zz9 uz9 V Gp hG)⟩
        by_cases ez9 : i' = iz9
        · subst ez9; exact hbit'
        · exact g1 i' (by omega) h2
/-- the prelude skips formals by name -/
theorem pl_skip {Kz9 : ai_S} {cz9 : Nat} : ∀ (dz9 iz9 az9 : Nat), iz9 + dz9 ≤ cntz9 → (∀ i', iz9 ≤ i' → i' < iz9 + dz9 → wz9.testBit i' = false) → cx_pl Kz9 wz9 (cntz9 - iz9) iz9 az9 cz9 → cx_pl Kz9 wz9 (cntz9 - (iz9 + dz9)) (iz9 + dz9) az9 cz9
  | 0, iz9, az9, _, _, hz9 => hz9
  | dz9 + 1, iz9, az9, hd, hbz9, hz9 => by
    have ez9 : cntz9 - iz9 = (cntz9 - (iz9 + 1)) + 1 := by omega
    rw [ez9] at hz9
    rcases hz9 with ⟨hz9, _⟩ | ⟨_, hz9⟩
    · rw [hbz9 iz9 (by omega) (by omega)] at hz9; cases hz9
    · have := pl_skip dz9 (iz9 + 1) az9 (by omega) (fun i' h1 h2 => hbz9 i' (by omega) (by omega)) hz9
      rw [show iz9 + 1 + dz9 = iz9 + (dz9 + 1) by omega] at this
      exact this
end RCC
