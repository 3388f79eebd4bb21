/-! ===== the reference's call ===== -/
/-- a call is counted -/
def rcS (Sz9 : ai_S) (na : Nat) : ai_S := if nI (na + 1) ≤ Sz9 0 55 then ai_up (ai_up (ai_up Sz9 0 51 0) 0 54 (nI (na + 1))) 0 56 (Sz9 0 56 + 1) else ai_up (ai_up (ai_up (ai_up Sz9 0 51 0) 0 54 (nI (na + 1))) 0 56 (Sz9 0 56 + 1)) 0 55 (nI (na + 1))
theorem rcS_o {Sz9 : ai_S} {na qz9 iz9 : Nat} (hz9 : ¬ (qz9 = 0 ∧ (iz9 = 51 ∨ iz9 = 54 ∨ iz9 = 55 ∨ iz9 = 56))) : rcS Sz9 na qz9 iz9 = Sz9 qz9 iz9 := by
  unfold rcS
  split
  · (repeat rw [ai_up_n (by omega)])
  · (repeat rw [ai_up_n (by omega)])
theorem rcS_v (Sz9 : ai_S) (na : Nat) : rcS Sz9 na 0 51 = 0 ∧ rcS Sz9 na 0 54 = nI (na + 1) ∧ rcS Sz9 na 0 55 = (if nI (na + 1) ≤ Sz9 0 55 then Sz9 0 55 else nI (na + 1)) ∧ rcS Sz9 na 0 56 = Sz9 0 56 + 1 := by
  unfold rcS
  by_cases hz9 : nI (na + 1) ≤ Sz9 0 55
  · rw [if_pos hz9, if_pos hz9]
    refine ⟨?_, ?_, ?_, ai_up_s⟩
    · (repeat rw [ai_up_n (by omega)]); rw [ai_up_s]
    · (repeat rw [ai_up_n (by omega)]); rw [ai_up_s]
    · (repeat rw [ai_up_n (by omega)])
  · rw [if_neg hz9, if_neg hz9]
    refine ⟨?_, ?_, ai_up_s, ?_⟩
    · (repeat rw [ai_up_n (by omega)]); rw [ai_up_s]
    · (repeat rw [ai_up_n (by omega)]); rw [ai_up_s]
    · (repeat rw [ai_up_n (by omega)]); rw [ai_up_s]
section RCL
variable {yz9 : ys_T} {scz9 : sc_T} {kz9 bz9 cntz9 nz9 fz9 nfz9 Bz9 na cpz9 pr o rz9 : Nat} {hx : Nat → Nat × Nat} {Rz9 : ai_S}
variable {l : Launch} {Dz9 : va_G} {ρ : Nat → Nat} {τ : Nat → ClassId} {uz9 : Nat} {V : ai_V} {Gp : ai_S → Prop}
theorem rc_loop (hc6 : cntz9 ≤ 6) (hxc : (hx cntz9).1 = 0) (hla : ∀ iz9, iz9 < cntz9 → la yz9 scz9 kz9 hx bz9 iz9) (hR4 : Rz9 4 = yR yz9 4) (hG : ai_W (uM l Dz9 ρ τ) (uz9 + 1) mX6_call 21 [(0, .ref 0), (1, .int (nI nz9)), (2, .int (nI fz9)), (3, .int (nI cntz9)), (4, .int (nI 0))] [] Rz9 V (ai_qv V Gp)) : ∀ (rz9 iz9 : Nat), cntz9 = iz9 + rz9 → ai_W (uM l Dz9 ρ τ) (uz9 + 1) mX6_call 21 [(0, .ref 0), (1, .int (nI nz9)), (2, .int (nI fz9)), (3, .int (nI iz9)), (4, .int (nI (hx iz9).1))] [] Rz9 V (ai_qv V Gp) := by
  intro rz9
  induction rz9 with
  | zero =>
    intro iz9 hiz9
    have ez9 : iz9 = cntz9 := by omega
    subst ez9
    rw [hxc]
    exact hG
  | succ rz9 ihz9 =>
    intro iz9 hiz9
    obtain ⟨l1, l2, l3, _⟩ := hla iz9 (by omega)
    have l1' := l1.2
    refine vX6_call_21 ⟨fun hh => absurd hh (nI_nle l1.1 (by omega)), fun _ => ⟨i_in l1' (by omega), ?_⟩⟩
    rw [nI_clamp (by omega), hR4, l3, nI_1]
    exact ihz9 (iz9 + 1) (by omega)
theorem rc_3 {wz9 pz9 gz9 : Int32} (hc6 : cntz9 ≤ 6) (hxc : (hx cntz9).1 = 0) (hla : ∀ iz9, iz9 < cntz9 → la yz9 scz9 kz9 hx bz9 iz9) (hR : ∀ qz9, 2 ≤ qz9 → qz9 ≤ 11 → Rz9 qz9 = yR yz9 qz9) (hn : nz9 < 700) (hty : yR yz9 2 nz9 = 8 ∧ cntz9 = 0 ∨ ¬ yR yz9 2 nz9 = 8 ∧ yR yz9 3 nz9 = nI (hx 0).1) (hfm : fM Rz9 nz9 fz9 rz9 (fun R' => R' 0 59 = wz9 ∧ R' 0 60 = pz9 ∧ R' 0 61 = gz9)) (hr : rz9 ≤ 100) (hw : ¬ wz9 = 2) (hG : Gp (ai_up (scr Rz9 wz9 pz9 gz9) 0 51 3)) :
    ai_met (uM l Dz9 ρ τ) (uz9 + 2) mX6_call [.ref 0, .int (nI nz9), .int (nI fz9)] Rz9 V (ai_qv V Gp) := by
  have s59 := (scr_v Rz9 wz9 pz9 gz9).1
  refine vX6_call ⟨i_in hn (by omega), ?_⟩
  rw [nI_clamp (by omega), hR 2 (by omega) (by omega), hR 3 (by omega) (by omega)]
  rcases hty with ⟨t8, c0z9⟩ | ⟨t8, t3z9⟩
  · refine ⟨fun _ => sp_fol hfm hr rfl ?_, fun hh => absurd t8 hh⟩
    rw [s59]
    exact ⟨fun hh => absurd hh hw, fun _ => hG⟩
  · refine ⟨fun hh => absurd hh t8, fun _ => ?_⟩
    rw [t3z9]
    refine rc_loop hc6 hxc hla (hR 4 (by omega) (by omega)) (vX6_call_21 ⟨fun _ => sp_fol hfm hr rfl ?_, fun hh => absurd (by decide) hh⟩) cntz9 0 (by omega)
    rw [s59]
    exact ⟨fun hh => absurd hh hw, fun _ => hG⟩
theorem rc_go (hc6 : cntz9 ≤ 6) (hxc : (hx cntz9).1 = 0) (hla : ∀ iz9, iz9 < cntz9 → la yz9 scz9 kz9 hx bz9 iz9) (hR : ∀ qz9, 2 ≤ qz9 → qz9 ≤ 11 → Rz9 qz9 = yR yz9 qz9) (hn : nz9 < 700) (hf : fz9 < 400) (hty : yR yz9 2 nz9 = 8 ∧ cntz9 = 0 ∨ ¬ yR yz9 2 nz9 = 8 ∧ yR yz9 3 nz9 = nI (hx 0).1) (hfm : fM Rz9 nz9 fz9 rz9 (fun R' => R' 0 59 = 2 ∧ R' 0 60 = nI (yb yz9 + pr) ∧ R' 0 61 = nI o)) (hr : rz9 ≤ 100) (hpb : yb yz9 + pr < 32) (hcp : yR yz9 10 (yb yz9 + pr) = nI cpz9) (hcp6 : cpz9 ≤ 6) (h54 : Rz9 0 54 = nI na) (hna : na ≤ 30) (h46 : Rz9 0 46 = nI nfz9) (h47 : Rz9 0 47 = nI Bz9) (hBz9 : Bz9 + 7 ≤ 1300) (hnf : nfz9 < 400)
    (hG4 : ¬ cntz9 = cpz9 → Gp (ai_up (scr Rz9 2 (nI (yb yz9 + pr)) (nI o)) 0 51 4)) (hG5 : cntz9 = cpz9 → na = 30 → Gp (ai_up (scr Rz9 2 (nI (yb yz9 + pr)) (nI o)) 0 51 5))
    (hG0 : cntz9 = cpz9 → na < 30 → (cntz9 = 0 → ai_met (uM l Dz9 ρ τ) (uz9 + 1) mX6_arguments [.ref 0, .int 0, .int (nI nfz9)] (fnR (rcS (scr Rz9 2 (nI (yb yz9 + pr)) (nI o)) na) nfz9 Bz9 (1 + cntz9) (nI o) (nI (yb yz9 + pr)) (nI fz9)) V (ai_qv V Gp)) ∧ (0 < cntz9 → ai_W (uM l Dz9 ρ τ) (uz9 + 2) mX6_call 173 [(0, .ref 0), (1, .int (nI nz9)), (2, .int (nI fz9)), (3, .int (nI cntz9)), (4, .int (nI (yb yz9 + pr))), (5, .int (nI nfz9)), (6, .int (nI (hx 0).1))] [] (fnR (rcS (scr Rz9 2 (nI (yb yz9 + pr)) (nI o)) na) nfz9 Bz9 (1 + cntz9) (nI o) (nI (yb yz9 + pr)) (nI fz9)) V (ai_qv V Gp))) :
    ai_met (uM l Dz9 ρ τ) (uz9 + 2) mX6_call [.ref 0, .int (nI nz9), .int (nI fz9)] Rz9 V (ai_qv V Gp) := by
  obtain ⟨s59, s60, s61⟩ := scr_v Rz9 2 (nI (yb yz9 + pr)) (nI o)
  obtain ⟨Sz9, hSz9⟩ : ∃ Sz9, Sz9 = scr Rz9 2 (nI (yb yz9 + pr)) (nI o) := ⟨_, rfl⟩
  have so : ∀ qz9 iz9, ¬ (qz9 = 0 ∧ 59 ≤ iz9 ∧ iz9 ≤ 61) → Sz9 qz9 iz9 = Rz9 qz9 iz9 := fun qz9 iz9 pz9 => by rw [hSz9]; exact scr_o pz9
  rw [← hSz9] at hG4 hG5 hG0 s59 s60 s61
  have s54 : Sz9 0 54 = nI na := by rw [so _ _ (by omega)]; exact h54
  have s10 : Sz9 10 (yb yz9 + pr) = nI cpz9 := by rw [so _ _ (by omega), hR 10 (by omega) (by omega)]; exact hcp
  have e30 : ∀ {Az9 : Prop}, (¬ nI na = 30 → Az9) → (na < 30 → Az9) := fun hz9 hl => hz9 (by rw [show (30 : Int32) = nI 30 from rfl, i_eq (by omega) (by omega)]; omega)
  -- the frame, however the greatest number comes out
  have frm : cntz9 = cpz9 → na < 30 → ∀ (Gqz9 : Int32 → ai_S → Prop), Gqz9 (nI nfz9) (fnR (rcS Sz9 na) nfz9 Bz9 (1 + cntz9) (nI o) (nI (yb yz9 + pr)) (nI fz9)) → ((nI (na + 1) ≤ Sz9 0 55 → ai_met (uM l Dz9 ρ τ) (uz9 + 1) mX6_frame [.ref 0, .int (nI o), .int (nI (yb yz9 + pr)), .int (nI (1 + cntz9)), .int (nI fz9)] (ai_up (ai_up (ai_up Sz9 0 51 0) 0 54 (nI (na + 1))) 0 56 (Sz9 0 56 + 1)) V (ai_qi V Gqz9)) ∧ (¬ nI (na + 1) ≤ Sz9 0 55 → ai_met (uM l Dz9 ρ τ) (uz9 + 1) mX6_frame [.ref 0, .int (nI o), .int (nI (yb yz9 + pr)), .int (nI (1 + cntz9)), .int (nI fz9)] (ai_up (ai_up (ai_up (ai_up Sz9 0 51 0) 0 54 (nI (na + 1))) 0 56 (Sz9 0 56 + 1)) 0 55 (nI (na + 1))) V (ai_qi V Gqz9))) := by
    intro _ _ Gqz9 hq
    refine ⟨fun hmz9 => ?_, fun hmz9 => ?_⟩
    · have ez9 : rcS Sz9 na = ai_up (ai_up (ai_up Sz9 0 51 0) 0 54 (nI (na + 1))) 0 56 (Sz9 0 56 + 1) := if_pos hmz9
      rw [← ez9]
      exact sp_frame Bz9 (1 + cntz9) nfz9 (by omega) (by omega) hnf (by rw [rcS_o (by omega), so _ _ (by omega)]; exact h47) (by rw [rcS_o (by omega), so _ _ (by omega)]; exact h46) hq
    · have ez9 : rcS Sz9 na = ai_up (ai_up (ai_up (ai_up Sz9 0 51 0) 0 54 (nI (na + 1))) 0 56 (Sz9 0 56 + 1)) 0 55 (nI (na + 1)) := if_neg hmz9
      rw [← ez9]
      exact sp_frame Bz9 (1 + cntz9) nfz9 (by omega) (by omega) hnf (by rw [rcS_o (by omega), so _ _ (by omega)]; exact h47) (by rw [rcS_o (by omega), so _ _ (by omega)]; exact h46) hq
  have h3 : (fnR (rcS Sz9 na) nfz9 Bz9 (1 + cntz9) (nI o) (nI (yb yz9 + pr)) (nI fz9)) 3 nz9 = yR yz9 3 nz9 := by rw [fnR_o (by omega) (by omega) (by omega), rcS_o (by omega), so _ _ (by omega), hR 3 (by omega) (by omega)]
  refine vX6_call ⟨i_in hn (by omega), ?_⟩
  rw [nI_clamp (by omega), hR 2 (by omega) (by omega), hR 3 (by omega) (by omega)]
  rcases hty with ⟨t8, c0z9⟩ | ⟨t8, t3z9⟩
  · refine ⟨fun _ => sp_fol hfm hr rfl ?_, fun hh => absurd t8 hh⟩
    rw [← hSz9, s59, s60, s61, s54, nI_clamp (by omega), s10, nI_1]
    subst c0z9
    refine ⟨fun _ => ⟨i_in hpb (by omega), fun hcz9 => ⟨fun h30 => ?_, fun h30 => ?_⟩, fun hcz9 => hG4 (fun ez9 => hcz9 ?_)⟩, fun hh => absurd rfl hh⟩
    · have hc' : 0 = cpz9 := by rw [show (0 : Int32) = nI 0 from rfl, i_eq (by omega) (by omega)] at hcz9; exact hcz9
      have h30' : na < 30 := by
        rw [show (30 : Int32) = nI 30 from rfl, i_eq (by omega) (by omega)] at h30; omega
      exact frm hc' h30' _ ((hG0 hc' h30').1 rfl)
    · rw [show (30 : Int32) = nI 30 from rfl, i_eq (by omega) (by omega)] at h30
      refine hG5 ?_ h30
      rw [show (0 : Int32) = nI 0 from rfl, i_eq (by omega) (by omega)] at hcz9
      exact hcz9
    · rw [← ez9]; rfl
  · refine ⟨fun hh => absurd hh t8, fun _ => ?_⟩
    rw [t3z9]
    refine rc_loop hc6 hxc hla (hR 4 (by omega) (by omega)) (vX6_call_21 ⟨fun _ => sp_fol hfm hr rfl ?_, fun hh => absurd (by decide) hh⟩) cntz9 0 (by omega)
    rw [← hSz9, s59, s60, s61, s54, nI_clamp (show yb yz9 + pr < 2 ^ 31 by omega), s10, nI_1, show (1 : Int32) + nI cntz9 = nI (1 + cntz9) from nI_add 1 cntz9, nI_clamp (show nz9 < 2 ^ 31 by omega)]
    refine ⟨fun _ => ⟨i_in hpb (by omega), fun hcz9 => ⟨fun h30 => ?_, fun h30 => ?_⟩, fun hcz9 => hG4 (fun ez9 => hcz9 (by rw [ez9]))⟩, fun hh => absurd rfl hh⟩
    · have hc' : cntz9 = cpz9 := by rw [i_eq (by omega) (by omega)] at hcz9; exact hcz9
      have h30' : na < 30 := by
        rw [show (30 : Int32) = nI 30 from rfl, i_eq (by omega) (by omega)] at h30; omega
      obtain ⟨q1z9, q2z9⟩ := hG0 hc' h30'
      refine frm hc' h30' _ ⟨fun hz => ?_, fun hz => ⟨i_in hn (by omega), ?_⟩⟩
      · have hz' : cntz9 = 0 := by
          rw [show (0 : Int32) = nI 0 from rfl, i_le (by omega) (by omega)] at hz; omega
        exact q1z9 hz'
      · rw [h3, t3z9]
        refine q2z9 (Nat.pos_of_ne_zero (fun ez9 => hz ?_))
        rw [ez9]; decide
    · rw [show (30 : Int32) = nI 30 from rfl, i_eq (by omega) (by omega)] at h30
      refine hG5 ?_ h30
      rw [i_eq (by omega) (by omega)] at hcz9
      exact hcz9
end RCL
