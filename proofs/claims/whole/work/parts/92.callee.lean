/-! ===== calls: who is called ===== -/
/-- a call, once it is paid for -/
def clF (xz9 : xs_T) (fg p1z9 p2z9 p3z9 : Int32) (Sz9 : ai_S) (Gz9 : ai_S → Prop) : Prop := ai_met (xu xz9) (xd xz9 + 6) mX0_outwards [.ref 10, .int fg, .int p3z9] Sz9 (xV xz9) (ai_qi (xV xz9) (fun x2z9 S3 => ((¬ p1z9 = 13 → ((¬ p1z9 = 14 → Gz9 (ai_up S3 9 3 3)) ∧ (p1z9 = 14 → ai_met (xu xz9) (xd xz9 + 6) mX1_resolve [.ref 9, .int x2z9, .int p2z9] S3 (xV xz9) (ai_qi (xV xz9) (fun x6 S7 => ((x6 < 0 → Gz9 (ai_up S7 9 3 3)) ∧ (¬ x6 < 0 → (¬ (S7 20 3) ≤ x6 ∧ (¬ 488 ≤ x6 ∧ (vp_in x6 488 ∧ (((S7 21 (x6).toNatClampNeg) = 13 → ai_met (xu xz9) (xd xz9 + 6) mX0_outwards [.ref 10, .int (S7 9 15), .int (S7 23 (x6).toNatClampNeg)] S7 (xV xz9) (ai_qi (xV xz9) (fun x13 S14 => ai_met (xu xz9) (xd xz9 + 6) mX1_enterCall [.ref 9, .int (S7 22 (x6).toNatClampNeg), .int x13] S14 (xV xz9) (ai_qv (xV xz9) Gz9)))) ∧ (¬ (S7 21 (x6).toNatClampNeg) = 13 → Gz9 (ai_up S7 9 3 3))))))))))))) ∧ (p1z9 = 13 → ai_met (xu xz9) (xd xz9 + 6) mX1_enterCall [.ref 9, .int p2z9, .int x2z9] S3 (xV xz9) (ai_qv (xV xz9) Gz9)))))
section CLA
variable {yz9 : ys_T} {xz9 : xs_T} {x0z9 : Nat} {Cz9 Rz9 : ai_S} {Gz9 : gg_T} {pd : Nat → Nat} {nfz9 fz9 nz9 az9 : Nat}
/-- no procedure; or one, and where it was declared -/
def clo (yz9 : ys_T) (xz9 : xs_T) (Cz9 Rz9 : ai_S) (Gz9 : gg_T) (pd : Nat → Nat) (nfz9 fz9 nz9 az9 : Nat) : Prop :=
  (∃ (wz9 pz9 gz9 : Int32), ¬ wz9 = 2 ∧ fM Rz9 nz9 fz9 (gr Gz9 fz9) (fun R' => R' 0 59 = wz9 ∧ R' 0 60 = pz9 ∧ R' 0 61 = gz9) ∧ (∀ (Gp : ai_S → Prop), (∀ C1z9, agC Cz9 C1z9 → Gp (ai_up C1z9 9 3 3)) → clF xz9 (nI (gi Gz9 fz9)) (yK yz9 0 az9) (yK yz9 1 az9) (yK yz9 2 az9) Cz9 Gp)) ∨
  (∃ pr o : Nat, pr < yn yz9 ∧ o < nfz9 ∧ gs Gz9 o = yC yz9 pr ∧ pd o = 6 ∧ gr Gz9 o ≤ gr Gz9 fz9 ∧ fM Rz9 nz9 fz9 (gr Gz9 fz9) (fun R' => R' 0 59 = 2 ∧ R' 0 60 = nI (yb yz9 + pr) ∧ R' 0 61 = nI o) ∧
    (∀ (Gp : ai_S → Prop), (∀ C1z9, agC Cz9 C1z9 → ai_met (xu xz9) (xd xz9 + 6) mX1_enterCall [.ref 9, .int (nI pr), .int (nI (gi Gz9 o))] C1z9 (xV xz9) (ai_qv (xV xz9) Gp)) → clF xz9 (nI (gi Gz9 fz9)) (yK yz9 0 az9) (yK yz9 1 az9) (yK yz9 2 az9) Cz9 Gp))
theorem cl_prc (hy : yG yz9 x0z9) (hz9 : FR yz9 Cz9 Rz9 Gz9 pd nfz9) (hnf : nfz9 ≤ 400) (hg : gi Gz9 (nfz9 - 1) ≤ 30) (hf : fz9 < nfz9) (h6 : pd fz9 = 6) (hn : nz9 < 700) (hR : ∀ qz9, 2 ≤ qz9 → qz9 ≤ 11 → Rz9 qz9 = yR yz9 qz9) (hop : yK yz9 0 az9 = 13) (hrs : cx_rs (yR yz9) (yb yz9) (yC yz9) (gs Gz9 fz9) (yR yz9 5 nz9) (yR yz9 6 nz9) (yR yz9 7 nz9) 2 (yK yz9 1 az9) (yK yz9 2 az9)) : clo yz9 xz9 Cz9 Rz9 Gz9 pd nfz9 fz9 nz9 az9 := by
  obtain ⟨f', a1z9, a2, a3, a4, a6⟩ := fo_nm hy hz9 hnf hg hf h6 hrs
  have hnk : yR yz9 5 nz9 = 2 ∧ ∃ pr', pr' < yn yz9 ∧ yR yz9 6 nz9 = nI (yb yz9 + pr') ∧ yK yz9 1 az9 = nI pr' ∧ gs Gz9 f' = yC yz9 pr' := by
    rcases a6 with ⟨a6, _⟩ | ⟨a6, _⟩ | ⟨_, a6⟩
    · exact absurd a6 (by decide)
    · exact absurd a6 (by decide)
    · exact a6
  obtain ⟨k5z9, pr, k6z9, k7z9, k8z9, k9⟩ := hnk
  have fend := fol_end hn (by rw [hR 5 (by omega) (by omega)]) (by rw [hR 6 (by omega) (by omega)]) (by rw [hR 7 (by omega) (by omega)]) (by rw [k5z9]; decide) a4
  rw [k5z9, k7z9] at fend
  refine Or.inr ⟨pr, f', k6z9, by omega, k9, a3, a2, fend.up (Nat.zero_le _), fun Gp hG => ?_⟩
  unfold clF
  rw [hop, k8z9]
  exact a4.2 _ _ _ _ _ _ _ _ rfl ⟨fun hh => absurd rfl hh, fun _ => hG Cz9 (fun _ _ _ => rfl)⟩
theorem cl_all (hy : yG yz9 x0z9) (hMz9 : xV xz9 9 0 = .ref 20) (hz9 : FR yz9 Cz9 Rz9 Gz9 pd nfz9) (hnf : nfz9 ≤ 400) (hg : gi Gz9 (nfz9 - 1) ≤ 30) (hf : fz9 < nfz9) (h6 : pd fz9 = 6) (hgr : gr Gz9 fz9 ≤ 30) (hn : nz9 < 700) (h20 : Cz9 20 3 = nI (ye yz9)) (hKz9 : ∀ qz9, Cz9 (21 + qz9) = yK yz9 qz9) (hR : ∀ qz9, 2 ≤ qz9 → qz9 ≤ 11 → Rz9 qz9 = yR yz9 qz9) (hu : yU yz9 (gs Gz9 fz9) nz9 az9 15 14 13) : clo yz9 xz9 Cz9 Rz9 Gz9 pd nfz9 fz9 nz9 az9 := by
  have hye := hy.2.1
  have agc : agC Cz9 Cz9 := fun _ _ _ => rfl
  obtain ⟨kd, hrs, hkd⟩ := hu
  rcases hkd with ⟨k0z9, o1⟩ | ⟨k0z9, o1⟩ | ⟨k0z9, o1⟩
  · subst k0z9
    obtain ⟨f', a1z9, a2, a3, a4, a6⟩ := fo_nm hy hz9 hnf hg hf h6 hrs
    have k5z9 : yR yz9 5 nz9 = 1 ∨ yR yz9 5 nz9 = 3 := by
      rcases a6 with ⟨_, a6, _⟩ | ⟨a6, _⟩ | ⟨a6, _⟩
      · exact a6
      · exact absurd a6 (by decide)
      · exact absurd a6 (by decide)
    have hn4 : ¬ yR yz9 5 nz9 = 4 ∧ ¬ yR yz9 5 nz9 = 2 := by rcases k5z9 with ez9 | ez9 <;> rw [ez9] <;> decide
    refine Or.inl ⟨yR yz9 5 nz9, yR yz9 6 nz9, nI f', hn4.2, (fol_end hn (by rw [hR 5 (by omega) (by omega)]) (by rw [hR 6 (by omega) (by omega)]) (by rw [hR 7 (by omega) (by omega)]) hn4.1 a4).up (Nat.zero_le _), fun Gp hG => ?_⟩
    unfold clF
    rw [o1]
    exact a4.2 _ _ _ _ _ _ _ _ rfl ⟨fun _ => ⟨fun _ => hG Cz9 agc, fun hh => absurd hh (by decide)⟩, fun hh => absurd hh (by decide)⟩
  · subst k0z9
    obtain ⟨hd, a1z9, a2, a3⟩ := fol_nm hy hz9 hnf hg h20 hKz9 hR 30 fz9 nz9 (yK yz9 1 az9) (yK yz9 2 az9) hgr hf h6 hn hrs
    have clsz9 : ∀ (Qz9 : Int32 → ai_S → Prop) (Gp : ai_S → Prop), fC Cz9 (gi Gz9 hd) (yK yz9 1 az9) (gr Gz9 fz9) Qz9 → (∀ vz9 C1z9, agC Cz9 C1z9 → Qz9 vz9 C1z9 → ((vz9 < 0 → Gp (ai_up C1z9 9 3 3)) ∧ (¬ vz9 < 0 → (¬ (C1z9 20 3) ≤ vz9 ∧ (¬ 488 ≤ vz9 ∧ (vp_in vz9 488 ∧ (((C1z9 21 (vz9).toNatClampNeg) = 13 → ai_met (xu xz9) (xd xz9 + 6) mX0_outwards [.ref 10, .int (C1z9 9 15), .int (C1z9 23 (vz9).toNatClampNeg)] C1z9 (xV xz9) (ai_qi (xV xz9) (fun x13 S14 => ai_met (xu xz9) (xd xz9 + 6) mX1_enterCall [.ref 9, .int (C1z9 22 (vz9).toNatClampNeg), .int x13] S14 (xV xz9) (ai_qv (xV xz9) Gp)))) ∧ (¬ (C1z9 21 (vz9).toNatClampNeg) = 13 → Gp (ai_up C1z9 9 3 3))))))))) → clF xz9 (nI (gi Gz9 fz9)) (yK yz9 0 az9) (yK yz9 1 az9) (yK yz9 2 az9) Cz9 Gp := by
      intro Qz9 Gp hQ hG
      unfold clF
      rw [o1]
      refine a2.2 _ _ _ _ _ _ _ _ rfl ⟨fun _ => ⟨fun hh => absurd rfl hh, fun _ => ?_⟩, fun hh => absurd hh (by decide)⟩
      exact vX1_resolve hMz9 (hQ Cz9 _ _ _ _ _ _ _ 0 hMz9 agc (by omega) (fun vz9 C1z9 c1z9 c2z9 => hG vz9 C1z9 c1z9 c2z9))
    rcases a3 with ⟨p0z9, f0z9, b1, b2⟩ | ⟨x2z9, q2z9, e2z9, f2z9, kd2, b1, b2, b3, b4, b5, b6, b7, b8, b9, b10, b11, b12⟩
    · exact Or.inl ⟨0, p0z9, f0z9, by decide, b1, fun Gp hG => clsz9 _ Gp b2 (fun vz9 C1z9 c1z9 c2z9 => ⟨fun _ => hG C1z9 c1z9, fun hh => absurd (by rw [c2z9]; decide) hh⟩)⟩
    · have q31 : q2z9 < 2 ^ 31 := by omega
      have opq : ∀ C1z9, agC Cz9 C1z9 → C1z9 20 3 = nI (ye yz9) ∧ C1z9 21 q2z9 = yK yz9 0 q2z9 ∧ C1z9 22 q2z9 = yK yz9 1 q2z9 ∧ C1z9 23 q2z9 = yK yz9 2 q2z9 := fun C1z9 c1z9 => ⟨by rw [c1z9 _ _ (by omega)]; exact h20, by rw [c1z9 _ _ (by omega), hKz9 0], by rw [c1z9 _ _ (by omega), hKz9 1], by rw [c1z9 _ _ (by omega), hKz9 2]⟩
      rcases b5 with ⟨b5, b5'⟩ | ⟨b5, b5'⟩
      · subst b5
        have j5z9 : yR yz9 5 x2z9 = 1 ∨ yR yz9 5 x2z9 = 3 := by
          rcases b10 with ⟨_, a6, _⟩ | ⟨a6, _⟩ | ⟨a6, _⟩
          · exact a6
          · exact absurd a6 (by decide)
          · exact absurd a6 (by decide)
        refine Or.inl ⟨yR yz9 5 x2z9, yR yz9 6 x2z9, nI f2z9, by rcases j5z9 with ez9 | ez9 <;> rw [ez9] <;> decide, b11, fun Gp hG => clsz9 _ Gp b12 (fun v' C1z9 c1z9 c2z9 => ?_)⟩
        obtain ⟨c2z9, c3z9⟩ := c2z9
        subst c2z9
        obtain ⟨p1z9, p2z9, p3z9, p4z9⟩ := opq C1z9 c1z9
        rw [nI_clamp q31, p1z9, p2z9, p4z9, c3z9, b5']
        exact ⟨fun hh => absurd hh (nI_pos (by omega)), fun _ => ⟨by rw [i_le (by omega) (by omega)]; omega, by rw [show (488 : Int32) = nI 488 from rfl, i_le (by omega) (by omega)]; omega, i_in (by omega) (by omega), fun hh => absurd hh (by decide), fun _ => hG C1z9 c1z9⟩⟩
      · subst b5
        have hnk : yR yz9 5 x2z9 = 2 ∧ ∃ pr', pr' < yn yz9 ∧ yR yz9 6 x2z9 = nI (yb yz9 + pr') ∧ yK yz9 1 q2z9 = nI pr' ∧ gs Gz9 f2z9 = yC yz9 pr' := by
          rcases b10 with ⟨a6, _⟩ | ⟨a6, _⟩ | ⟨_, a6⟩
          · exact absurd a6 (by decide)
          · exact absurd a6 (by decide)
          · exact a6
        obtain ⟨k5z9, pr, k6z9, k7z9, k8z9, k9⟩ := hnk
        rw [k5z9, k7z9] at b11
        refine Or.inr ⟨pr, f2z9, k6z9, by omega, k9, b7, by omega, b11, fun Gp hG => clsz9 _ Gp b12 (fun v' C1z9 c1z9 c2z9 => ?_)⟩
        obtain ⟨c2z9, c3z9⟩ := c2z9
        subst c2z9
        obtain ⟨p1z9, p2z9, p3z9, p4z9⟩ := opq C1z9 c1z9
        rw [nI_clamp q31, p1z9, p2z9, p3z9, p4z9, c3z9, b5', k8z9]
        refine ⟨fun hh => absurd hh (nI_pos (by omega)), fun _ => ⟨by rw [i_le (by omega) (by omega)]; omega, by rw [show (488 : Int32) = nI 488 from rfl, i_le (by omega) (by omega)]; omega, i_in (by omega) (by omega), fun _ => ?_, fun hh => absurd rfl hh⟩⟩
        exact b9.2 _ _ _ _ _ _ _ _ (by funext iz9; exact c1z9 12 iz9 (by omega)) (hG C1z9 c1z9)
  · subst k0z9
    exact cl_prc hy hz9 hnf hg hf h6 hn hR o1 hrs
end CLA
