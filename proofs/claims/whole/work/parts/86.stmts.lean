/-! ===== statements: their beginnings ===== -/
section STS
variable {yz9 : ys_T} {xz9 : xs_T} {x0z9 fu Nz9 : Nat} {Cz9 Rz9 : ai_S} {jz9 kk : Nat} {Gz9 : gg_T} {pd : Nat → Nat} {cs nfz9 na tz9 en wt : Nat} {l : List Nat} {fz9 kz9 nz9 az9 bz9 : Nat}
def sb (yz9 : ys_T) (xz9 : xs_T) (fu : Nat) (Cz9 Rz9 : ai_S) (jz9 kk : Nat) (Gz9 : gg_T) (pd : Nat → Nat) (cs nfz9 na tz9 en wt : Nat) (l : List Nat) (fz9 kz9 nz9 az9 bz9 : Nat) : Prop :=
  iv yz9 (xC xz9) (xR xz9) Cz9 Rz9 Gz9 pd fu cs nfz9 na (tz9 + 1) en wt ∧ Rz9 22 tz9 = nI (0 + 16 * nz9 + 16384 * fz9) ∧ yS yz9 (gs Gz9 fz9) kz9 nz9 az9 bz9 ∧ kc yz9 Cz9 Rz9 Gz9 pd l fz9 bz9 nfz9 na tz9 en wt ∧ ve l = false ∧ fz9 + 1 = nfz9 ∧ Cz9 9 4 = nI az9 ∧ Cz9 9 5 = nI (gi Gz9 fz9) ∧ tz9 + 2 * kz9 + 53 ≤ 90 * (na + en + 1) ∧ nfz9 + kz9 ≤ 11 * (na + 1) ∧ 10 * jz9 + kk + po l ≤ 4100 * cs
theorem sb.bd (hz9 : sb yz9 xz9 fu Cz9 Rz9 jz9 kk Gz9 pd cs nfz9 na tz9 en wt l fz9 kz9 nz9 az9 bz9) (hy : yG yz9 x0z9) : nd7 nz9 ∧ az9 < bz9 ∧ bz9 < ye yz9 ∧ ye yz9 ≤ 488 ∧ nfz9 ≤ 341 ∧ na ≤ 30 ∧ en ≤ na ∧ tz9 < 6000 ∧ cs ≤ fu ∧ fu ≤ 1000 ∧ jz9 < 500000 ∧ kk < 5000000 ∧ gi Gz9 fz9 = na ∧ gi Gz9 (nfz9 - 1) ≤ 30 ∧ pd fz9 = 6 ∧ gr Gz9 fz9 + en ≤ na ∧ 0 < kz9 := by
  obtain ⟨h1, h2, h3, h4, h5, h6, h7, h8, h9, h10, h11⟩ := hz9
  obtain ⟨g1, g2, g3z9, g4, g5z9⟩ := kc_lv h4
  obtain ⟨s1z9, s2z9, s3z9, s4z9⟩ := kc_S h4 h5
  obtain ⟨k', ek, _⟩ := yS_inv h3
  obtain ⟨_, ⟨_, _, b3, _, _⟩, ⟨_, _, c3z9⟩, ⟨_, _, d3z9, _, _⟩, _, _, _, _, f1z9, f2z9, f3z9, f4z9⟩ := h1
  have := hy.2.1
  exact ⟨yS_nd h3, yS_lt h3, g1, by omega, by omega, by omega, by omega, by omega, by omega, by omega, by omega, by omega, by omega, by omega, by omega, by omega, by omega⟩
/-- a print -/
theorem go_spr (hy : yG yz9 x0z9) (hx : xk yz9 xz9) (ihz9 : go yz9 xz9 fu (Nz9 + 1)) (hNz9 : Nz9 ≤ 10 * jz9 + kk) (hz9 : sb yz9 xz9 fu Cz9 Rz9 jz9 kk Gz9 pd cs nfz9 na tz9 en wt l fz9 (kz9 + 1) nz9 az9 bz9) (g1 : yR yz9 2 nz9 = 3) (g2 : yK yz9 0 az9 = 1) {q0 mz9 : Nat} (g3z9 : yR yz9 3 nz9 = nI q0) (g4 : yE yz9 (gs Gz9 fz9) 50 q0 (az9 + 1) mz9) (g5z9 : yK yz9 0 mz9 = 5) (g6 : bz9 = mz9 + 1) : rs xz9 Cz9 jz9 Rz9 kk := by
  obtain ⟨n7, hab, hbe, he, hnf, hna, hen, ht, hcs, hfu, hj, hk, hgi, hgt, hpd, hgr, hk0⟩ := hz9.bd hy
  obtain ⟨h1, h2, h3, h4, h5, h6, h7, h8, h9, h10, h11⟩ := hz9
  obtain ⟨y1, y2, y3, y4⟩ := h1.ly hx
  obtain ⟨_, ⟨b1, b2, _, b4, b5⟩, ⟨c1z9, c2z9, c3z9⟩, _, _, ⟨w1z9, w2z9, w3z9, w4z9⟩, hen', h39, hfr1, hfr, hfr2, hfr3⟩ := id h1
  have hMz9 := hx.1
  have n7' := n7.2
  have q7z9 := yE_nd g4
  have q7' := q7z9.2
  have hmb := yE_lt g4
  subst g6
  have r2 : ∀ vz9, (ai_up (ai_up Rz9 0 39 (nI tz9)) 0 53 vz9) 2 nz9 = 3 := fun vz9 => by (repeat rw [ai_up_n (by omega)]); rw [y4 2 (by omega) (by omega)]; exact g1
  have r3 : ∀ vz9, (ai_up (ai_up Rz9 0 39 (nI tz9)) 0 53 vz9) 3 nz9 = nI q0 := fun vz9 => by (repeat rw [ai_up_n (by omega)]); rw [y4 3 (by omega) (by omega)]; exact g3z9
  refine rs_step hMz9 (by omega) b4 (st_ctl hMz9 h7 (by omega : az9 < ye yz9) he y1 (c := 1) (by rw [y3 0]; exact g2) (by decide) (ct_1 hMz9 ⟨fun hp => ?_, fun hp => ?_⟩))
  · rw [ai_up_n (by omega), ai_up_n (by omega), c1z9, b1, i_lt (by omega) (by omega)] at hp
    rw [ai_up_n (by omega), c1z9, nI_1]
    refine rs_ref (R1 := ai_up (ai_up (ai_up (ai_up (ai_up (ai_up Rz9 0 39 (nI tz9)) 0 53 (nI (cs + 1))) 22 tz9 (nI (2 + 16 * 0 + 16384 * 0))) 0 39 (nI (tz9 + 1))) 22 (tz9 + 1) (nI (8 + 16 * q0 + 16384 * fz9))) 0 39 (nI (tz9 + 1 + 1))) (k1 := kk + 1) (fun hl => ?_) (ihz9 _ _ _ _ (by omega) (Or.inl ⟨Gz9, pd, cs + 1, nfz9, na, tz9 + 1, en, wt, 4 :: l, fz9, 50, q0, az9 + 1, mz9, h1.up (fun qz9 iz9 pz9 p' => ?_) (fun qz9 iz9 pz9 p' p'' => ?_) ⟨?_, ?_, by omega⟩ ⟨?_, ?_, by omega, fun iz9 hiz9 => ?_⟩ ?_ ?_, ?_, g4, ⟨by omega, by omega, by omega, by omega, Or.inr ⟨hpd, hgr⟩, Or.inr ⟨h6, hgi⟩, Or.inr (Or.inr (Or.inr (Or.inr (Or.inl ⟨rfl, g5z9, tz9, rfl, ?_, h5, kc_keep l fz9 (mz9 + 1) nfz9 na tz9 en wt (fun iz9 hiz9 => ?_) (fun iz9 hiz9 => ?_) (fun iz9 hiz9 => ⟨?_, ?_⟩) (fun iz9 hiz9 => ⟨?_, ?_⟩) (fun iz9 hiz9 => ?_) (fun iz9 hiz9 => ⟨rfl, rfl⟩) h4⟩))))⟩, rfl, by omega, hpd, hgr, ?_, ?_, by omega, by omega, ?_⟩))
    · refine lr_do (by omega) h39 (by omega) b5 h2 (by omega) (by omega) (by omega) (pf_0 (vX6_statement (sp_pay (by (repeat rw [ai_up_n (by omega)]); exact b2) (by (repeat rw [ai_up_n (by omega)]); exact c2z9) hfu hcs (fun _ => ai_zt ⟨i_in n7' (by omega), ?_⟩) (fun hh => by omega))))
      rw [nI_clamp (by omega), r2, r3]
      refine ⟨fun hh => absurd hh (by decide), fun hh => absurd hh (by decide), fun _ => ?_, fun hh => absurd hh (by decide), fun hh => absurd hh (by decide), fun hh => absurd rfl hh.2.2.1⟩
      exact sp_later (c := 2) (n := 0) (f := 0) (by (repeat rw [ai_up_n (by omega)]); exact ai_up_s) (by omega) (sp_later (c := 8) ai_up_s (by omega) hl)
    all_goals first | (simp only [po] at h11 ⊢; omega) | skip
    all_goals first | ((repeat rw [ai_up_n (by omega)]); done) | ((repeat rw [ai_up_n (by omega)]); rw [ai_up_s]; done) | ((repeat rw [ai_up_n (by omega)]); rw [ai_up_s]; (repeat rw [ai_up_n (by omega)]); rw [ai_up_s]; done) | ((repeat rw [ai_up_n (by omega)]); assumption) | ((repeat rw [ai_up_n (by omega)]); rw [ai_up_s]; assumption) | ((repeat rw [ai_up_n (by omega)]); exact w4z9 _ (by assumption))
  · rw [ai_up_n (by omega), ai_up_n (by omega), c1z9, b1, i_lt (by omega) (by omega)] at hp
    refine ev_fuel hx h1 (fun hl => lr_do (by omega) h39 (by omega) b5 h2 (by omega) (by omega) (by omega) (pf_0 (vX6_statement (sp_pay (by (repeat rw [ai_up_n (by omega)]); exact b2) (by (repeat rw [ai_up_n (by omega)]); exact c2z9) hfu hcs (fun hh => by omega) (fun _ => ai_zf hl)))))
/-- a choice -/
theorem go_sif (hy : yG yz9 x0z9) (hx : xk yz9 xz9) (ihz9 : go yz9 xz9 fu (Nz9 + 1)) (hNz9 : Nz9 ≤ 10 * jz9 + kk) (hz9 : sb yz9 xz9 fu Cz9 Rz9 jz9 kk Gz9 pd cs nfz9 na tz9 en wt l fz9 (kz9 + 1) nz9 az9 bz9) (g1 : yR yz9 2 nz9 = 4) (g2 : yK yz9 0 az9 = 1) {q0 zz9 wz9 mz9 jj : Nat} (g3z9 : yR yz9 3 nz9 = nI q0) (g4 : yE yz9 (gs Gz9 fz9) 50 q0 (az9 + 1) mz9) (g5z9 : yK yz9 0 mz9 = 4) (g6 : yK yz9 1 mz9 = nI (jj + 1)) (g7 : yR yz9 4 q0 = nI zz9) (g8 : yS yz9 (gs Gz9 fz9) kz9 zz9 (mz9 + 1) jj) (g9 : yK yz9 0 jj = 3) (g10 : yK yz9 1 jj = nI bz9) (g11 : yR yz9 4 zz9 = nI wz9) (g12 : yS yz9 (gs Gz9 fz9) kz9 wz9 (jj + 1) bz9) : rs xz9 Cz9 jz9 Rz9 kk := by
  obtain ⟨n7, hab, hbe, he, hnf, hna, hen, ht, hcs, hfu, hj, hk, hgi, hgt, hpd, hgr, hk0⟩ := hz9.bd hy
  obtain ⟨h1, h2, h3, h4, h5, h6, h7, h8, h9, h10, h11⟩ := hz9
  obtain ⟨y1, y2, y3, y4⟩ := h1.ly hx
  obtain ⟨_, ⟨b1, b2, _, b4, b5⟩, ⟨c1z9, c2z9, c3z9⟩, _, _, ⟨w1z9, w2z9, w3z9, w4z9⟩, hen', h39, hfr1, hfr, hfr2, hfr3⟩ := id h1
  have hMz9 := hx.1
  have n7' := n7.2
  have q7z9 := yE_nd g4
  have q7' := q7z9.2
  have hmb := yE_lt g4
  have gl8 := yS_lt g8
  have gl12 := yS_lt g12
  have r2 : ∀ vz9, (ai_up (ai_up Rz9 0 39 (nI tz9)) 0 53 vz9) 2 nz9 = 4 := fun vz9 => by (repeat rw [ai_up_n (by omega)]); rw [y4 2 (by omega) (by omega)]; exact g1
  have r3 : ∀ vz9, (ai_up (ai_up Rz9 0 39 (nI tz9)) 0 53 vz9) 3 nz9 = nI q0 := fun vz9 => by (repeat rw [ai_up_n (by omega)]); rw [y4 3 (by omega) (by omega)]; exact g3z9
  refine rs_step hMz9 (by omega) b4 (st_ctl hMz9 h7 (by omega : az9 < ye yz9) he y1 (c := 1) (by rw [y3 0]; exact g2) (by decide) (ct_1 hMz9 ⟨fun hp => ?_, fun hp => ?_⟩))
  · rw [ai_up_n (by omega), ai_up_n (by omega), c1z9, b1, i_lt (by omega) (by omega)] at hp
    rw [ai_up_n (by omega), c1z9, nI_1]
    refine rs_ref (R1 := ai_up (ai_up (ai_up (ai_up (ai_up (ai_up Rz9 0 39 (nI tz9)) 0 53 (nI (cs + 1))) 22 tz9 (nI (3 + 16 * nz9 + 16384 * fz9))) 0 39 (nI (tz9 + 1))) 22 (tz9 + 1) (nI (8 + 16 * q0 + 16384 * fz9))) 0 39 (nI (tz9 + 1 + 1))) (k1 := kk + 1) (fun hl => ?_) (ihz9 _ _ _ _ (by omega) (Or.inl ⟨Gz9, pd, cs + 1, nfz9, na, tz9 + 1, en, wt, 5 :: l, fz9, 50, q0, az9 + 1, mz9, h1.up (fun qz9 iz9 pz9 p' => ?_) (fun qz9 iz9 pz9 p' p'' => ?_) ⟨?_, ?_, by omega⟩ ⟨?_, ?_, by omega, fun iz9 hiz9 => ?_⟩ ?_ ?_, ?_, g4, ⟨by omega, by omega, by omega, by omega, Or.inr ⟨hpd, hgr⟩, Or.inr ⟨h6, hgi⟩, Or.inr (Or.inr (Or.inr (Or.inr (Or.inr (Or.inl ⟨rfl, tz9, nz9, q0, zz9, wz9, jj, bz9, kz9, rfl, n7, ?_, g5z9, g6, g3z9, q7z9, g7, g8, g9, g10, g11, g12, by omega, by omega, h5, kc_keep l fz9 bz9 nfz9 na tz9 en wt (fun iz9 hiz9 => ?_) (fun iz9 hiz9 => ?_) (fun iz9 hiz9 => ⟨?_, ?_⟩) (fun iz9 hiz9 => ⟨?_, ?_⟩) (fun iz9 hiz9 => ?_) (fun iz9 hiz9 => ⟨rfl, rfl⟩) h4⟩)))))⟩, rfl, by omega, hpd, hgr, ?_, ?_, by omega, by omega, ?_⟩))
    · refine lr_do (by omega) h39 (by omega) b5 h2 (by omega) (by omega) (by omega) (pf_0 (vX6_statement (sp_pay (by (repeat rw [ai_up_n (by omega)]); exact b2) (by (repeat rw [ai_up_n (by omega)]); exact c2z9) hfu hcs (fun _ => ai_zt ⟨i_in n7' (by omega), ?_⟩) (fun hh => by omega))))
      rw [nI_clamp (by omega), r2, r3]
      refine ⟨fun hh => absurd hh (by decide), fun hh => absurd hh (by decide), fun hh => absurd hh (by decide), fun _ => ?_, fun hh => absurd hh (by decide), fun hh => absurd rfl hh.2.2.2.1⟩
      exact sp_later (c := 3) (n := nz9) (f := fz9) (by (repeat rw [ai_up_n (by omega)]); exact ai_up_s) (by omega) (sp_later (c := 8) ai_up_s (by omega) hl)
    all_goals first | (simp only [po] at h11 ⊢; omega) | skip
    all_goals first | ((repeat rw [ai_up_n (by omega)]); done) | ((repeat rw [ai_up_n (by omega)]); rw [ai_up_s]; done) | ((repeat rw [ai_up_n (by omega)]); rw [ai_up_s]; (repeat rw [ai_up_n (by omega)]); rw [ai_up_s]; done) | ((repeat rw [ai_up_n (by omega)]); assumption) | ((repeat rw [ai_up_n (by omega)]); rw [ai_up_s]; assumption) | ((repeat rw [ai_up_n (by omega)]); exact w4z9 _ (by assumption))
  · rw [ai_up_n (by omega), ai_up_n (by omega), c1z9, b1, i_lt (by omega) (by omega)] at hp
    refine ev_fuel hx h1 (fun hl => lr_do (by omega) h39 (by omega) b5 h2 (by omega) (by omega) (by omega) (pf_0 (vX6_statement (sp_pay (by (repeat rw [ai_up_n (by omega)]); exact b2) (by (repeat rw [ai_up_n (by omega)]); exact c2z9) hfu hcs (fun hh => by omega) (fun _ => ai_zf hl)))))
/-- a loop -/
theorem go_swh (hy : yG yz9 x0z9) (hx : xk yz9 xz9) (ihz9 : go yz9 xz9 fu (Nz9 + 1)) (hNz9 : Nz9 ≤ 10 * jz9 + kk) (hz9 : sb yz9 xz9 fu Cz9 Rz9 jz9 kk Gz9 pd cs nfz9 na tz9 en wt l fz9 (kz9 + 1) nz9 az9 bz9) (g1 : yR yz9 2 nz9 = 5) (g2 : yK yz9 0 az9 = 1) {q0 mz9 jj : Nat} (g3z9 : yR yz9 3 nz9 = nI q0) (g4 : yE yz9 (gs Gz9 fz9) 50 q0 (az9 + 1) mz9) (g5z9 : yW yz9 (gs Gz9 fz9) kz9 nz9 mz9 jj) (g6 : bz9 = jj + 1) : rs xz9 Cz9 jz9 Rz9 kk := by
  obtain ⟨n7, hab, hbe, he, hnf, hna, hen, ht, hcs, hfu, hj, hk, hgi, hgt, hpd, hgr, hk0⟩ := hz9.bd hy
  obtain ⟨h1, h2, h3, h4, h5, h6, h7, h8, h9, h10, h11⟩ := hz9
  obtain ⟨y1, y2, y3, y4⟩ := h1.ly hx
  obtain ⟨_, ⟨b1, b2, _, b4, b5⟩, ⟨c1z9, c2z9, c3z9⟩, _, _, ⟨w1z9, w2z9, w3z9, w4z9⟩, hen', h39, hfr1, hfr, hfr2, hfr3⟩ := id h1
  have hMz9 := hx.1
  have n7' := n7.2
  have q7z9 := yE_nd g4
  have q7' := q7z9.2
  have hmb := yE_lt g4
  subst g6
  obtain ⟨_, _, _, _, _, _, _, _, gy, _⟩ := id g5z9
  have gl8 := yS_lt gy
  have r2 : ∀ vz9, (ai_up (ai_up Rz9 0 39 (nI tz9)) 0 53 vz9) 2 nz9 = 5 := fun vz9 => by (repeat rw [ai_up_n (by omega)]); rw [y4 2 (by omega) (by omega)]; exact g1
  have r3 : ∀ vz9, (ai_up (ai_up Rz9 0 39 (nI tz9)) 0 53 vz9) 3 nz9 = nI q0 := fun vz9 => by (repeat rw [ai_up_n (by omega)]); rw [y4 3 (by omega) (by omega)]; exact g3z9
  refine rs_step hMz9 (by omega) b4 (st_ctl hMz9 h7 (by omega : az9 < ye yz9) he y1 (c := 1) (by rw [y3 0]; exact g2) (by decide) (ct_1 hMz9 ⟨fun hp => ?_, fun hp => ?_⟩))
  · rw [ai_up_n (by omega), ai_up_n (by omega), c1z9, b1, i_lt (by omega) (by omega)] at hp
    rw [ai_up_n (by omega), c1z9, nI_1]
    refine rs_ref (R1 := ai_up (ai_up (ai_up (ai_up (ai_up (ai_up Rz9 0 39 (nI tz9)) 0 53 (nI (cs + 1))) 22 tz9 (nI (4 + 16 * nz9 + 16384 * fz9))) 0 39 (nI (tz9 + 1))) 22 (tz9 + 1) (nI (8 + 16 * q0 + 16384 * fz9))) 0 39 (nI (tz9 + 1 + 1))) (k1 := kk + 1) (fun hl => ?_) (ihz9 _ _ _ _ (by omega) (Or.inl ⟨Gz9, pd, cs + 1, nfz9, na, tz9 + 1, en, wt, 6 :: l, fz9, 50, q0, az9 + 1, mz9, h1.up (fun qz9 iz9 pz9 p' => ?_) (fun qz9 iz9 pz9 p' p'' => ?_) ⟨?_, ?_, by omega⟩ ⟨?_, ?_, by omega, fun iz9 hiz9 => ?_⟩ ?_ ?_, ?_, g4, ⟨by omega, by omega, by omega, by omega, Or.inr ⟨hpd, hgr⟩, Or.inr ⟨h6, hgi⟩, Or.inr (Or.inr (Or.inr (Or.inr (Or.inr (Or.inr (Or.inl ⟨rfl, tz9, nz9, jj, kz9, rfl, ?_, g5z9, by omega, by omega, h5, kc_keep l fz9 (jj + 1) nfz9 na tz9 en wt (fun iz9 hiz9 => ?_) (fun iz9 hiz9 => ?_) (fun iz9 hiz9 => ⟨?_, ?_⟩) (fun iz9 hiz9 => ⟨?_, ?_⟩) (fun iz9 hiz9 => ?_) (fun iz9 hiz9 => ⟨rfl, rfl⟩) h4⟩))))))⟩, rfl, by omega, hpd, hgr, ?_, ?_, by omega, by omega, ?_⟩))
    · refine lr_do (by omega) h39 (by omega) b5 h2 (by omega) (by omega) (by omega) (pf_0 (vX6_statement (sp_pay (by (repeat rw [ai_up_n (by omega)]); exact b2) (by (repeat rw [ai_up_n (by omega)]); exact c2z9) hfu hcs (fun _ => ai_zt ⟨i_in n7' (by omega), ?_⟩) (fun hh => by omega))))
      rw [nI_clamp (by omega), r2, r3]
      refine ⟨fun hh => absurd hh (by decide), fun hh => absurd hh (by decide), fun hh => absurd hh (by decide), fun hh => absurd hh (by decide), fun _ => ?_, fun hh => absurd rfl hh.2.2.2.2⟩
      exact sp_later (c := 4) (n := nz9) (f := fz9) (by (repeat rw [ai_up_n (by omega)]); exact ai_up_s) (by omega) (sp_later (c := 8) ai_up_s (by omega) hl)
    all_goals first | (simp only [po] at h11 ⊢; omega) | skip
    all_goals first | ((repeat rw [ai_up_n (by omega)]); done) | ((repeat rw [ai_up_n (by omega)]); rw [ai_up_s]; done) | ((repeat rw [ai_up_n (by omega)]); rw [ai_up_s]; (repeat rw [ai_up_n (by omega)]); rw [ai_up_s]; done) | ((repeat rw [ai_up_n (by omega)]); assumption) | ((repeat rw [ai_up_n (by omega)]); rw [ai_up_s]; assumption) | ((repeat rw [ai_up_n (by omega)]); exact w4z9 _ (by assumption))
  · rw [ai_up_n (by omega), ai_up_n (by omega), c1z9, b1, i_lt (by omega) (by omega)] at hp
    refine ev_fuel hx h1 (fun hl => lr_do (by omega) h39 (by omega) b5 h2 (by omega) (by omega) (by omega) (pf_0 (vX6_statement (sp_pay (by (repeat rw [ai_up_n (by omega)]); exact b2) (by (repeat rw [ai_up_n (by omega)]); exact c2z9) hfu hcs (fun hh => by omega) (fun _ => ai_zf hl)))))
end STS
