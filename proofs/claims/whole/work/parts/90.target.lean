/-! ===== assignments ===== -/
/-- an assignment, once it is paid for -/
def asF (xz9 : xs_T) (fg p1z9 p2z9 p3z9 : Int32) (Sz9 : ai_S) (Gz9 : ai_S → Prop) : Prop := ai_met (xu xz9) (xd xz9 + 6) mX0_outwards [.ref 10, .int fg, .int p3z9] Sz9 (xV xz9) (ai_qi (xV xz9) (fun x3 S4 => ((¬ p1z9 = 6 → ((¬ p1z9 = 7 → Gz9 (ai_up S4 9 3 2)) ∧ (p1z9 = 7 → ai_met (xu xz9) (xd xz9 + 6) mX1_resolve [.ref 9, .int x3, .int p2z9] S4 (xV xz9) (ai_qi (xV xz9) (fun x7 S8 => ((x7 < 0 → Gz9 (ai_up S8 9 3 2)) ∧ (¬ x7 < 0 → (¬ (S8 20 3) ≤ x7 ∧ (¬ 488 ≤ x7 ∧ (vp_in x7 488 ∧ (((S8 21 (x7).toNatClampNeg) = 11 → ai_met (xu xz9) (xd xz9 + 6) mX0_outwards [.ref 10, .int (S8 9 15), .int (S8 23 (x7).toNatClampNeg)] S8 (xV xz9) (ai_qi (xV xz9) (fun x14 S15 => (¬ (S15 20 3) ≤ x7 ∧ (¬ (S15 9 5) < 0 ∧ (¬ 31 ≤ (S15 9 5) ∧ (vp_in (S15 9 5) 31 ∧ Gz9 (ai_up S15 15 ((S15 9 5)).toNatClampNeg ((x14 * 31) + (S15 22 (x7).toNatClampNeg)))))))))) ∧ (¬ (S8 21 (x7).toNatClampNeg) = 11 → Gz9 (ai_up S8 9 3 2))))))))))))) ∧ (p1z9 = 6 → (¬ (S4 9 5) < 0 ∧ (¬ 31 ≤ (S4 9 5) ∧ (vp_in (S4 9 5) 31 ∧ Gz9 (ai_up S4 15 ((S4 9 5)).toNatClampNeg ((x3 * 31) + p2z9)))))))))
section ASH
theorem scr_5 {Rz9 : ai_S} {wz9 pz9 gz9 : Int32} {nz9 : Nat} : scr Rz9 wz9 pz9 gz9 5 nz9 = Rz9 5 nz9 := scr_o (by omega)
variable {yz9 : ys_T} {xz9 : xs_T} {x0z9 fu Nz9 : Nat} {Cz9 Rz9 : ai_S} {jz9 kk : Nat} {Gz9 : gg_T} {pd : Nat → Nat} {cs nfz9 na tz9 en wt : Nat} {l : List Nat} {fz9 kz9 nz9 az9 bz9 : Nat}
def tgo (yz9 : ys_T) (xz9 : xs_T) (Cz9 Rz9 : ai_S) (Gz9 : gg_T) (pd : Nat → Nat) (nfz9 na fz9 nz9 az9 : Nat) : Prop :=
  (∃ (f2z9 vz9 : Nat) (wz9 pz9 gz9 : Int32), f2z9 < nfz9 ∧ vz9 < gn Gz9 f2z9 ∧ gk Gz9 f2z9 vz9 = true ∧ pd f2z9 = 6 ∧
    (∀ (uz9 : Nat) (Gp : Int32 → ai_S → Prop), Gp (nI (gb Gz9 f2z9 + vz9)) (scr Rz9 wz9 pz9 gz9) → ai_met (lm_u (xz xz9)) (uz9 + 2) mX6_target [.ref 0, .int (nI nz9), .int (nI fz9)] Rz9 (lm_V (xz xz9)) (ai_qi (lm_V (xz xz9)) Gp)) ∧
    (∀ (Gp : ai_S → Prop), (∀ C1z9, agC Cz9 C1z9 → Gp (ai_up C1z9 15 na (nI (31 * gi Gz9 f2z9 + gc Gz9 f2z9 + vz9)))) → asF xz9 (nI (gi Gz9 fz9)) (yK yz9 0 az9) (yK yz9 1 az9) (yK yz9 2 az9) Cz9 Gp)) ∨
  (∃ (wz9 pz9 gz9 : Int32), (∀ (uz9 : Nat) (Gp : Int32 → ai_S → Prop), Gp (-1) (scr Rz9 wz9 pz9 gz9) → ai_met (lm_u (xz xz9)) (uz9 + 2) mX6_target [.ref 0, .int (nI nz9), .int (nI fz9)] Rz9 (lm_V (xz xz9)) (ai_qi (lm_V (xz xz9)) Gp)) ∧
    (∀ (Gp : ai_S → Prop), (∀ C1z9, agC Cz9 C1z9 → Gp (ai_up C1z9 9 3 2)) → asF xz9 (nI (gi Gz9 fz9)) (yK yz9 0 az9) (yK yz9 1 az9) (yK yz9 2 az9) Cz9 Gp))
theorem tg_all (hy : yG yz9 x0z9) (hMz9 : xV xz9 9 0 = .ref 20) (hz9 : FR yz9 Cz9 Rz9 Gz9 pd nfz9) (hnf : nfz9 ≤ 400) (hna : na ≤ 30) (hf : fz9 + 1 = nfz9) (hgi : gi Gz9 fz9 = na) (h6 : pd fz9 = 6) (hgr : gr Gz9 fz9 ≤ 30) (hn : nz9 < 700) (h95 : Cz9 9 5 = nI na) (h20 : Cz9 20 3 = nI (ye yz9)) (hKz9 : ∀ qz9, Cz9 (21 + qz9) = yK yz9 qz9) (hR : ∀ qz9, 2 ≤ qz9 → qz9 ≤ 11 → Rz9 qz9 = yR yz9 qz9) (ht : cx_tg (yK yz9) (yR yz9) (yb yz9) (yC yz9) (gs Gz9 fz9) nz9 az9) : tgo yz9 xz9 Cz9 Rz9 Gz9 pd nfz9 na fz9 nz9 az9 := by
  have hye := hy.2.1
  have hnf1 : nfz9 - 1 = fz9 := by omega
  have hg : gi Gz9 (nfz9 - 1) ≤ 30 := by rw [hnf1, hgi]; exact hna
  have hfn : fz9 < nfz9 := by omega
  obtain ⟨kd, slz9, hp, hrs, hkd⟩ := ht
  -- the class puts a target
  have putz9 : ∀ (ad : Nat) (Gp : ai_S → Prop), (∀ C1z9, agC Cz9 C1z9 → Gp (ai_up C1z9 15 na (nI ad))) → ∀ C1z9, agC Cz9 C1z9 → (¬ (C1z9 9 5) < 0 ∧ (¬ 31 ≤ (C1z9 9 5) ∧ (vp_in (C1z9 9 5) 31 ∧ Gp (ai_up C1z9 15 ((C1z9 9 5)).toNatClampNeg (nI ad))))) := by
    intro ad Gp hG C1z9 hC1
    rw [hC1 9 5 (by omega), h95, nI_clamp (by omega)]
    exact ⟨nI_pos (by omega), by rw [show (31 : Int32) = nI 31 from rfl, i_le (by omega) (by omega)]; omega, i_in (by omega) (by omega), hG C1z9 hC1⟩
  have agc : agC Cz9 Cz9 := fun _ _ _ => rfl
  rcases hkd with ⟨k0z9, o1, o2, o3z9⟩ | ⟨k0z9, o1, o2, o3z9⟩ | ⟨k0z9, pr, hpr16, o1, o2⟩
  · -- az9 variable
    subst k0z9
    obtain ⟨f', a1z9, a2, a3, a4, a6⟩ := fo_nm hy hz9 hnf hg hfn h6 hrs
    have hnk : (yR yz9 5 nz9 = 1 ∨ yR yz9 5 nz9 = 3) ∧ ∃ vz9, yR yz9 6 nz9 = nI vz9 ∧ vz9 < gn Gz9 f' ∧ gk Gz9 f' vz9 = true ∧ slz9 = nI (gc Gz9 f' + vz9) := by
      rcases a6 with ⟨_, a6⟩ | ⟨a6, _⟩ | ⟨a6, _⟩
      · exact a6
      · exact absurd a6 (by decide)
      · exact absurd a6 (by decide)
    obtain ⟨k5z9, vz9, k6z9, k7z9, k8z9, k9⟩ := hnk
    obtain ⟨r25, _⟩ := hz9.2 f' (by omega)
    have hbd := fo_bd hz9 (show f' < nfz9 by omega) hg k7z9
    have hn4 : ¬ yR yz9 5 nz9 = 4 := by rcases k5z9 with ez9 | ez9 <;> rw [ez9] <;> decide
    refine Or.inl ⟨f', vz9, yR yz9 5 nz9, yR yz9 6 nz9, nI f', by omega, k7z9, k8z9, a3, fun uz9 Gp hG => ?_, fun Gp hG => ?_⟩
    · refine vX6_target (sp_fol (fol_end hn (by rw [hR 5 (by omega) (by omega)]) (by rw [hR 6 (by omega) (by omega)]) (by rw [hR 7 (by omega) (by omega)]) hn4 a4) (by omega) rfl ?_)
      obtain ⟨s1z9, s2z9, s3z9⟩ := scr_v Rz9 (yR yz9 5 nz9) (yR yz9 6 nz9) (nI f')
      rw [s1z9, s2z9, s3z9, nI_clamp (by omega), scr_r (by omega), r25, k6z9, nI_add]
      rw [k6z9] at hG
      refine ⟨fun _ => ⟨i_in (by omega) (by omega), hG⟩, fun hne => ⟨fun h3 => absurd k5z9 (by intro hk5; rcases hk5 with ez9 | ez9; exact hne ez9; exact h3 ez9), fun _ => ⟨i_in (by omega) (by omega), hG⟩⟩⟩
    · unfold asF
      rw [o1, o2, o3z9, k9]
      refine a4.2 _ _ _ _ _ _ _ _ rfl ⟨fun hh => absurd rfl hh, fun _ => ?_⟩
      rw [show (31 : Int32) = nI 31 from rfl, pk_mul, nI_add, show gi Gz9 f' * 31 + (gc Gz9 f' + vz9) = 31 * gi Gz9 f' + gc Gz9 f' + vz9 by omega]
      exact putz9 _ Gp hG Cz9 agc
  · -- az9 formal by name
    subst k0z9
    obtain ⟨hd, a1z9, a2, a3⟩ := fol_nm hy hz9 hnf hg h20 hKz9 hR 30 fz9 nz9 slz9 hp hgr hfn h6 hn hrs
    have k5z9 : yR yz9 5 nz9 = 4 := by
      obtain ⟨f', _, _, _, _, a6⟩ := fo_nm hy hz9 hnf hg hfn h6 hrs
      rcases a6 with ⟨a6, _⟩ | ⟨_, a6, _⟩ | ⟨a6, _⟩
      · exact absurd a6 (by decide)
      · exact a6
      · exact absurd a6 (by decide)
    -- the class resolves it
    have clsz9 : ∀ (Qz9 : Int32 → ai_S → Prop) (Gp : ai_S → Prop), fC Cz9 (gi Gz9 hd) slz9 (gr Gz9 fz9) Qz9 → (∀ vz9 C1z9, agC Cz9 C1z9 → Qz9 vz9 C1z9 → ((vz9 < 0 → Gp (ai_up C1z9 9 3 2)) ∧ (¬ vz9 < 0 → (¬ (C1z9 20 3) ≤ vz9 ∧ (¬ 488 ≤ vz9 ∧ (vp_in vz9 488 ∧ (((C1z9 21 (vz9).toNatClampNeg) = 11 → ai_met (xu xz9) (xd xz9 + 6) mX0_outwards [.ref 10, .int (C1z9 9 15), .int (C1z9 23 (vz9).toNatClampNeg)] C1z9 (xV xz9) (ai_qi (xV xz9) (fun x14 S15 => (¬ (S15 20 3) ≤ vz9 ∧ (¬ (S15 9 5) < 0 ∧ (¬ 31 ≤ (S15 9 5) ∧ (vp_in (S15 9 5) 31 ∧ Gp (ai_up S15 15 ((S15 9 5)).toNatClampNeg ((x14 * 31) + (S15 22 (vz9).toNatClampNeg)))))))))) ∧ (¬ (C1z9 21 (vz9).toNatClampNeg) = 11 → Gp (ai_up C1z9 9 3 2))))))))) → asF xz9 (nI (gi Gz9 fz9)) (yK yz9 0 az9) (yK yz9 1 az9) (yK yz9 2 az9) Cz9 Gp := by
      intro Qz9 Gp hQ hG
      unfold asF
      rw [o1, o2, o3z9]
      refine a2.2 _ _ _ _ _ _ _ _ rfl ⟨fun _ => ⟨fun hh => absurd rfl hh, fun _ => ?_⟩, fun hh => absurd hh (by decide)⟩
      refine vX1_resolve hMz9 (hQ Cz9 _ _ _ _ _ _ _ 0 hMz9 agc (by omega) (fun vz9 C1z9 c1z9 c2z9 => hG vz9 C1z9 c1z9 c2z9))
    rcases a3 with ⟨p0z9, f0z9, b1, b2⟩ | ⟨x2z9, q2z9, e2z9, f2z9, kd2, b1, b2, b3, b4, b5, b6, b7, b8, b9, b10, b11, b12⟩
    · refine Or.inr ⟨0, p0z9, f0z9, fun uz9 Gp hG => ?_, fun Gp hG => clsz9 _ Gp b2 (fun vz9 C1z9 c1z9 c2z9 => ⟨fun _ => hG C1z9 c1z9, fun hh => absurd (by rw [c2z9]; decide) hh⟩)⟩
      refine vX6_target (sp_fol b1 (by omega) rfl ?_)
      obtain ⟨s1z9, s2z9, s3z9⟩ := scr_v Rz9 (0) (p0z9) (f0z9)
      rw [s1z9]
      exact ⟨fun hh => absurd hh (by decide), fun _ => ⟨fun _ => ⟨fun _ => hG, fun hh => absurd hh (by decide)⟩, fun hh => absurd hh (by decide)⟩⟩
    · have q31 : q2z9 < 2 ^ 31 := by omega
      have opq : ∀ C1z9, agC Cz9 C1z9 → C1z9 20 3 = nI (ye yz9) ∧ C1z9 21 q2z9 = yK yz9 0 q2z9 ∧ C1z9 22 q2z9 = yK yz9 1 q2z9 ∧ C1z9 23 q2z9 = yK yz9 2 q2z9 := fun C1z9 c1z9 => ⟨by rw [c1z9 _ _ (by omega)]; exact h20, by rw [c1z9 _ _ (by omega), hKz9 0], by rw [c1z9 _ _ (by omega), hKz9 1], by rw [c1z9 _ _ (by omega), hKz9 2]⟩
      rcases b5 with ⟨b5, b5'⟩ | ⟨b5, b5'⟩
      · subst b5
        have hnk : (yR yz9 5 x2z9 = 1 ∨ yR yz9 5 x2z9 = 3) ∧ ∃ vz9, yR yz9 6 x2z9 = nI vz9 ∧ vz9 < gn Gz9 f2z9 ∧ gk Gz9 f2z9 vz9 = true ∧ yK yz9 1 q2z9 = nI (gc Gz9 f2z9 + vz9) := by
          rcases b10 with ⟨_, a6⟩ | ⟨a6, _⟩ | ⟨a6, _⟩
          · exact a6
          · exact absurd a6 (by decide)
          · exact absurd a6 (by decide)
        obtain ⟨j5z9, vz9, k6z9, k7z9, k8z9, k9⟩ := hnk
        obtain ⟨r25, _⟩ := hz9.2 f2z9 (by omega)
        have hbd := fo_bd hz9 (show f2z9 < nfz9 by omega) hg k7z9
        refine Or.inl ⟨f2z9, vz9, yR yz9 5 x2z9, yR yz9 6 x2z9, nI f2z9, by omega, k7z9, k8z9, b7, fun uz9 Gp hG => ?_, fun Gp hG => clsz9 _ Gp b12 (fun v' C1z9 c1z9 c2z9 => ?_)⟩
        · refine vX6_target (sp_fol b11 (by omega) rfl ?_)
          obtain ⟨s1z9, s2z9, s3z9⟩ := scr_v Rz9 (yR yz9 5 x2z9) (yR yz9 6 x2z9) (nI f2z9)
          rw [s1z9, s2z9, s3z9, nI_clamp (by omega), scr_r (by omega), r25, k6z9, nI_add]
          rw [k6z9] at hG
          refine ⟨fun _ => ⟨i_in (by omega) (by omega), hG⟩, fun hne => ⟨fun h3 => absurd j5z9 (by intro hk5; rcases hk5 with ez9 | ez9; exact hne ez9; exact h3 ez9), fun _ => ⟨i_in (by omega) (by omega), hG⟩⟩⟩
        · obtain ⟨c2z9, c3z9⟩ := c2z9
          subst c2z9
          obtain ⟨p1z9, p2z9, p3z9, p4z9⟩ := opq C1z9 c1z9
          rw [nI_clamp q31, p1z9, p2z9, p4z9, c3z9, b5']
          refine ⟨fun hh => absurd hh (nI_pos (by omega)), fun _ => ⟨by rw [i_le (by omega) (by omega)]; omega, by rw [show (488 : Int32) = nI 488 from rfl, i_le (by omega) (by omega)]; omega, i_in (by omega) (by omega), fun _ => ?_, fun hh => absurd rfl hh⟩⟩
          refine b9.2 _ _ _ _ _ _ _ _ (by funext iz9; exact c1z9 12 iz9 (by omega)) ⟨by rw [p1z9, i_le (by omega) (by omega)]; omega, ?_⟩
          rw [p3z9, k9, show (31 : Int32) = nI 31 from rfl, pk_mul, nI_add, show gi Gz9 f2z9 * 31 + (gc Gz9 f2z9 + vz9) = 31 * gi Gz9 f2z9 + gc Gz9 f2z9 + vz9 by omega]
          exact putz9 _ Gp hG C1z9 c1z9
      · subst b5
        have j5z9 : yR yz9 5 x2z9 = 2 := by
          rcases b10 with ⟨a6, _⟩ | ⟨a6, _⟩ | ⟨_, a6, _⟩
          · exact absurd a6 (by decide)
          · exact absurd a6 (by decide)
          · exact a6
        refine Or.inr ⟨yR yz9 5 x2z9, yR yz9 6 x2z9, nI f2z9, fun uz9 Gp hG => ?_, fun Gp hG => clsz9 _ Gp b12 (fun v' C1z9 c1z9 c2z9 => ?_)⟩
        · refine vX6_target (sp_fol b11 (by omega) rfl ?_)
          obtain ⟨s1z9, s2z9, s3z9⟩ := scr_v Rz9 (yR yz9 5 x2z9) (yR yz9 6 x2z9) (nI f2z9)
          rw [s1z9, j5z9, nI_clamp (by omega), scr_5, hR 5 (by omega) (by omega), k5z9]
          rw [j5z9] at hG
          exact ⟨fun hh => absurd hh (by decide), fun _ => ⟨fun _ => ⟨fun hh => absurd rfl hh, fun _ => ⟨i_in hn (by omega), fun hh => absurd hh (by decide), fun _ => hG⟩⟩, fun hh => absurd hh (by decide)⟩⟩
        · obtain ⟨c2z9, c3z9⟩ := c2z9
          subst c2z9
          obtain ⟨p1z9, p2z9, p3z9, p4z9⟩ := opq C1z9 c1z9
          rw [nI_clamp q31, p1z9, p2z9, p4z9, c3z9, b5']
          exact ⟨fun hh => absurd hh (nI_pos (by omega)), fun _ => ⟨by rw [i_le (by omega) (by omega)]; omega, by rw [show (488 : Int32) = nI 488 from rfl, i_le (by omega) (by omega)]; omega, i_in (by omega) (by omega), fun hh => absurd hh (by decide), fun _ => hG C1z9 c1z9⟩⟩
  · -- az9 procedure
    subst k0z9
    obtain ⟨f', a1z9, a2, a3, a4, a6⟩ := fo_nm hy hz9 hnf hg hfn h6 hrs
    have hnk : yR yz9 5 nz9 = 2 ∧ ∃ pr', pr' < yn yz9 ∧ yR yz9 6 nz9 = nI (yb yz9 + pr') ∧ slz9 = nI pr' ∧ gs Gz9 f' = yC yz9 pr' := by
      rcases a6 with ⟨a6, _⟩ | ⟨a6, _⟩ | ⟨_, a6⟩
      · exact absurd a6 (by decide)
      · exact absurd a6 (by decide)
      · exact a6
    obtain ⟨k5z9, pr', k6z9, k7z9, k8z9, k9⟩ := hnk
    have hbz9 := hy.2.2.2.1
    have hn16 := hy.2.2.1
    have epr : pr = pr' := by
      have := o1.symm.trans k8z9
      rw [i_eq (by omega) (by omega)] at this
      exact this
    subst epr
    have fend := fol_end hn (by rw [hR 5 (by omega) (by omega)]) (by rw [hR 6 (by omega) (by omega)]) (by rw [hR 7 (by omega) (by omega)]) (by rw [k5z9]; decide) a4
    obtain ⟨s1z9, s2z9, s3z9⟩ := scr_v Rz9 (yR yz9 5 nz9) (yR yz9 6 nz9) (nI f')
    rcases o2 with ⟨o, q1z9, q2z9, q3z9, q4z9⟩ | ⟨q2z9, q3z9, q4z9⟩
    · obtain ⟨ho1, ho2⟩ := List.getElem?_eq_some_iff.mp q1z9
      obtain ⟨g1, b1, b2, b4, b5, b6⟩ := fo_nw hy hz9 hnf hg hfn ho1
      have hsf : gs Gz9 g1 = (pr + 1, 0, 0) :: (gs Gz9 fz9).drop (o + 1) := by rw [b2, List.drop_eq_getElem_cons ho1, ho2]
      obtain ⟨cl1, cl2⟩ := fo_sc hy hz9 fz9 hfn
      have hcl := sc_cl_td (gs Gz9 fz9) o
      have hcf : gc Gz9 g1 = 0 ∧ 0 < gn Gz9 g1 ∧ gk Gz9 g1 0 = true := by
        obtain ⟨_, _, _, _, h2⟩ := hz9.2 g1 (by omega)
        rcases h2 with ⟨_, h2, _⟩ | ⟨ndz9, h0, h2, _⟩ | ⟨pr2, o', ca, cnt', w', h0, h1', h2, u1z9, u2z9, u3, u4z9, u5, u6, u7, u8, u9, u10, u11, u12, u13, u14, u15, u16, u17, u18, u19, u20, u21, _⟩
        · rw [h2] at hsf; cases hsf
        · rw [h2] at hsf
          have hse := congrArg Prod.fst (List.cons.inj hsf).1
          simp at hse
        · exact ⟨u12, by omega, by rw [u21]; rfl⟩
      have hbd := fo_bd hz9 (show g1 < nfz9 by omega) hg hcf.2.1
      refine Or.inl ⟨g1, 0, yR yz9 5 nz9, yR yz9 6 nz9, nI f', by omega, hcf.2.1, hcf.2.2, b4 h6, fun uz9 Gp hG => ?_, fun Gp hG => ?_⟩
      · refine vX6_target (sp_fol fend (by omega) rfl ?_)
        rw [s1z9, k5z9, nI_clamp (by omega), scr_5, hR 5 (by omega) (by omega), k5z9]
        refine ⟨fun hh => absurd hh (by decide), fun _ => ⟨fun _ => ⟨fun hh => absurd rfl hh, fun _ => ⟨i_in hn (by omega), fun _ => ?_, fun hh => absurd rfl hh⟩⟩, fun hh => absurd hh (by decide)⟩⟩
        rw [k5z9, Nat.add_zero] at hG
        exact tg_in hy hz9 hnf hg k6z9 (scr Rz9 2 (yR yz9 6 nz9) (nI f')) (fun qz9 _ _ => scr_r (by omega)) (by rw [(scr_v Rz9 2 (yR yz9 6 nz9) (nI f')).2.1]; exact k7z9) o fz9 g1 hfn q1z9 b6 hG
      · unfold asF
        rw [q2z9, q3z9, q4z9]
        refine b5.2 _ _ _ _ _ _ _ _ rfl ⟨fun hh => absurd rfl hh, fun _ => ?_⟩
        rw [show (31 : Int32) = nI 31 from rfl, pk_mul, show (0 : Int32) = nI 0 from rfl, nI_add, show gi Gz9 g1 * 31 + 0 = 31 * gi Gz9 g1 + gc Gz9 g1 + 0 by omega]
        exact putz9 _ Gp hG Cz9 agc
    · refine Or.inr ⟨yR yz9 5 nz9, yR yz9 6 nz9, nI f', fun uz9 Gp hG => ?_, fun Gp hG => ?_⟩
      · refine vX6_target (sp_fol fend (by omega) rfl ?_)
        rw [s1z9, k5z9, nI_clamp (by omega), scr_5, hR 5 (by omega) (by omega), k5z9]
        refine ⟨fun hh => absurd hh (by decide), fun _ => ⟨fun _ => ⟨fun hh => absurd rfl hh, fun _ => ⟨i_in hn (by omega), fun _ => ?_, fun hh => absurd rfl hh⟩⟩, fun hh => absurd hh (by decide)⟩⟩
        rw [k5z9] at hG
        exact tg_no hy hz9 hnf k6z9 (scr Rz9 2 (yR yz9 6 nz9) (nI f')) (fun qz9 _ _ => scr_r (by omega)) (by rw [(scr_v Rz9 2 (yR yz9 6 nz9) (nI f')).2.1]; exact k7z9) hG (gs Gz9 fz9).length fz9 (Nat.le_refl _) hfn q4z9
      · unfold asF
        rw [q2z9, q3z9]
        exact a4.2 _ _ _ _ _ _ _ _ rfl ⟨fun _ => ⟨fun _ => hG Cz9 agc, fun hh => absurd hh (by decide)⟩, fun hh => absurd hh (by decide)⟩
end ASH
