/-! ===== expressions: their beginnings ===== -/
section EVS
variable {yz9 : ys_T} {xz9 : xs_T} {x0z9 fu Nz9 : Nat} {Cz9 Rz9 : ai_S} {jz9 kk : Nat} {Gz9 : gg_T} {pd : Nat → Nat} {cs nfz9 na tz9 en wt : Nat} {l : List Nat} {fz9 kz9 nz9 az9 bz9 : Nat}
/-- what an expression begins from -/
def eb (yz9 : ys_T) (xz9 : xs_T) (fu : Nat) (Cz9 Rz9 : ai_S) (jz9 kk : Nat) (Gz9 : gg_T) (pd : Nat → Nat) (cs nfz9 na tz9 en wt : Nat) (l : List Nat) (fz9 kz9 nz9 az9 bz9 : Nat) : Prop :=
  iv yz9 (xC xz9) (xR xz9) Cz9 Rz9 Gz9 pd fu cs nfz9 na (tz9 + 1) en wt ∧ Rz9 22 tz9 = nI (8 + 16 * nz9 + 16384 * fz9) ∧ yE yz9 (gs Gz9 fz9) kz9 nz9 az9 bz9 ∧ kc yz9 Cz9 Rz9 Gz9 pd l fz9 bz9 nfz9 na tz9 en wt ∧ ve l = true ∧ fz9 < nfz9 ∧ pd fz9 = 6 ∧ gr Gz9 fz9 + en ≤ na ∧ Cz9 9 4 = nI az9 ∧ Cz9 9 5 = nI (gi Gz9 fz9) ∧ tz9 + kz9 ≤ 90 * (na + en + 1) ∧ kz9 ≤ 50 ∧ 10 * jz9 + kk + (2 * kz9 + 121 * gr Gz9 fz9) + po l ≤ 4100 * cs
/-- numbers of it -/
theorem eb.bd (hz9 : eb yz9 xz9 fu Cz9 Rz9 jz9 kk Gz9 pd cs nfz9 na tz9 en wt l fz9 kz9 nz9 az9 bz9) (hy : yG yz9 x0z9) : nd7 nz9 ∧ az9 < bz9 ∧ bz9 < ye yz9 ∧ ye yz9 ≤ 488 ∧ nfz9 ≤ 341 ∧ na ≤ 30 ∧ en ≤ 30 ∧ tz9 < 6000 ∧ cs ≤ fu ∧ fu ≤ 1000 ∧ jz9 < 500000 ∧ kk < 5000000 ∧ gi Gz9 fz9 ≤ na ∧ gi Gz9 (nfz9 - 1) ≤ 30 := by
  obtain ⟨h1, h2, h3, h4, h5, h6, h7, h8, h9, h10, h11, h12, h13⟩ := hz9
  obtain ⟨g1, g2, g3z9, g4⟩ := kc_lv h4
  obtain ⟨_, ⟨_, _, b3, _, _⟩, ⟨_, _, c3z9⟩, ⟨_, _, d3z9, _, _⟩, _, _, _, _, f1z9, f2z9, f3z9, f4z9⟩ := h1
  have := (fo_top f2z9 h6).2
  have := hy.2.1
  exact ⟨yE_nd h3, yE_lt h3, g1, by omega, by omega, by omega, by omega, by omega, by omega, by omega, by omega, by omega, by omega, by omega⟩
/-- no fuel -/
theorem ev_fuel (hx : xk yz9 xz9) (hz9 : iv yz9 (xC xz9) (xR xz9) Cz9 Rz9 Gz9 pd fu cs nfz9 na (tz9 + 1) en wt) (hl : lr (xz xz9) (ai_up (ai_up Rz9 0 39 (nI tz9)) 0 51 1) (kk + 1) → lr (xz xz9) Rz9 kk) : rs xz9 (ai_up (ai_up Cz9 9 4 (nI (az9 + 1))) 9 3 1) (jz9 + 1) Rz9 kk := by
  obtain ⟨_, _, ⟨c1z9, c2z9, _⟩, _⟩ := id hz9
  refine rs_stop (R' := ai_up (ai_up Rz9 0 39 (nI tz9)) 0 51 1) (k1 := kk + 1) hx hz9 (v := 1) ⟨by decide, by decide⟩ ai_up_s ai_up_s (fun qz9 iz9 pz9 p' => ?_) (fun qz9 iz9 pz9 p' => ?_) ?_ hl
  · rw [ai_up_n (by omega), ai_up_n (by omega)]
  · rw [ai_up_n (by omega), ai_up_n (by omega)]
  · rw [ai_up_n (by omega), ai_up_n (by omega), ai_up_n (by omega), ai_up_n (by omega), c1z9, c2z9]
/-- a number -/
theorem go_num (hy : yG yz9 x0z9) (hx : xk yz9 xz9) (ihz9 : go yz9 xz9 fu (Nz9 + 1)) (hNz9 : Nz9 ≤ 10 * jz9 + kk) (hz9 : eb yz9 xz9 fu Cz9 Rz9 jz9 kk Gz9 pd cs nfz9 na tz9 en wt l fz9 kz9 nz9 az9 bz9) (g1 : yR yz9 2 nz9 = 7) (g2 : yK yz9 0 az9 = 10) (g3z9 : yK yz9 1 az9 = yR yz9 5 nz9) (g4 : yK yz9 2 az9 = 0) (g5z9 : bz9 = az9 + 1) : rs xz9 Cz9 jz9 Rz9 kk := by
  obtain ⟨n7, hab, hbe, he, hnf, hna, hen, ht, hcs, hfu, hj, hk, hgi, hgt⟩ := hz9.bd hy
  obtain ⟨h1, h2, h3, h4, h5, h6, h7, h8, h9, h10, h11, h12, h13⟩ := hz9
  subst g5z9
  obtain ⟨y1, y2, y3, y4⟩ := h1.ly hx
  obtain ⟨_, ⟨b1, b2, _, b4, b5⟩, ⟨c1z9, c2z9, c3z9⟩, _, _, ⟨w1z9, w2z9, w3z9, w4z9⟩, hen', h39, _⟩ := id h1
  have r2 : (ai_up Rz9 0 39 (nI tz9)) 2 nz9 = 7 := by rw [ai_up_n (by omega), y4 2 (by omega) (by omega)]; exact g1
  have hMz9 := hx.1
  refine rs_step hMz9 (by omega) b4 (st_wo hMz9 h9 (by omega : az9 < ye yz9) he y1 (c := 10) (by rw [y3 0]; exact g2) (by decide) ?_)
  rw [show Cz9 23 az9 = 0 by rw [y3 2]; exact g4, show Cz9 22 az9 = yR yz9 5 nz9 by rw [y3 1]; exact g3z9]
  refine vX1_workOut hMz9 (vX0_outwards (vX0_outwards_5 ⟨fun _ => ⟨fun _ => ⟨fun hp => ⟨fun _ => ?_, fun hh => absurd hh (by decide)⟩, fun hp => ?_⟩, fun hh => absurd hh (by decide)⟩, fun hh => absurd (Int32.le_refl _) hh⟩))
  · rw [ai_up_n (by omega), ai_up_n (by omega), c1z9, b1, i_lt (by omega) (by omega)] at hp
    rw [ai_up_n (by omega), c1z9, nI_1]
    refine rs_ref (R1 := ai_up (ai_up (ai_up Rz9 0 39 (nI tz9)) 0 53 (nI (cs + 1))) 0 50 (yR yz9 5 nz9)) (k1 := kk + 1) (fun hl => ?_) (ihz9 _ _ _ _ (by omega) (Or.inr (Or.inr ⟨Gz9, pd, cs + 1, nfz9, na, tz9, en, wt, l, fz9, az9 + 1, h1.up (fun qz9 iz9 pz9 p' => ?_) (fun qz9 iz9 pz9 p' p'' => ?_) ⟨?_, ?_, by omega⟩ ⟨?_, ?_, w3z9, fun iz9 hiz9 => ?_⟩ ?_ ?_, kc_keep l fz9 (az9 + 1) nfz9 na tz9 en wt (fun iz9 hiz9 => ?_) (fun iz9 hiz9 => ?_) (fun iz9 hiz9 => ⟨?_, ?_⟩) (fun iz9 hiz9 => ⟨?_, ?_⟩) (fun iz9 hiz9 => ?_) (fun iz9 hiz9 => ⟨rfl, rfl⟩) h4, ?_, ?_, fun _ => ?_, by omega⟩)))
    · refine lr_do (by omega) h39 (by omega) b5 h2 (by omega) (by have := n7.2; omega) (by omega) (pf_8 (vX6_evaluate ⟨i_in n7.2 (by omega), ?_⟩))
      rw [nI_clamp (by have := n7.2; omega)]
      refine ⟨fun hh => absurd r2 hh, fun _ => sp_pay (by rw [ai_up_n (by omega)]; exact b2) (by rw [ai_up_n (by omega)]; exact c2z9) hfu hcs (fun _ => ai_zt ?_) (fun hh => by omega)⟩
      rw [show (ai_up (ai_up Rz9 0 39 (nI tz9)) 0 53 (nI (cs + 1))) 5 nz9 = yR yz9 5 nz9 by rw [ai_up_n (by omega), ai_up_n (by omega), y4 5 (by omega) (by omega)]]
      exact hl
    all_goals first | ((repeat rw [ai_up_n (by omega)]); done) | ((repeat rw [ai_up_n (by omega)]); rw [ai_up_s]; done) | ((repeat rw [ai_up_n (by omega)]); rw [ai_up_s]; (repeat rw [ai_up_n (by omega)]); rw [ai_up_s]; done) | ((repeat rw [ai_up_n (by omega)]); assumption) | ((repeat rw [ai_up_n (by omega)]); rw [ai_up_s]; assumption) | ((repeat rw [ai_up_n (by omega)]); exact w4z9 _ (by assumption))
  · rw [ai_up_n (by omega), ai_up_n (by omega), c1z9, b1, i_lt (by omega) (by omega)] at hp
    refine ev_fuel hx h1 (fun hl => lr_do (by omega) h39 (by omega) b5 h2 (by omega) (by have := n7.2; omega) (by omega) (pf_8 (vX6_evaluate ⟨i_in n7.2 (by omega), ?_⟩)))
    rw [nI_clamp (by have := n7.2; omega)]
    exact ⟨fun hh => absurd r2 hh, fun _ => sp_pay (by rw [ai_up_n (by omega)]; exact b2) (by rw [ai_up_n (by omega)]; exact c2z9) hfu hcs (fun hh => by omega) (fun _ => ai_zf hl)⟩
/-- a variable -/
theorem go_var (hy : yG yz9 x0z9) (hx : xk yz9 xz9) (ihz9 : go yz9 xz9 fu (Nz9 + 1)) (hNz9 : Nz9 ≤ 10 * jz9 + kk) (hz9 : eb yz9 xz9 fu Cz9 Rz9 jz9 kk Gz9 pd cs nfz9 na tz9 en wt l fz9 kz9 nz9 az9 (az9 + 1)) (g1 : yR yz9 2 nz9 = 8) (g2 : yK yz9 0 az9 = 11) (g3z9 : cx_rs (yR yz9) (yb yz9) (yC yz9) (gs Gz9 fz9) (yR yz9 5 nz9) (yR yz9 6 nz9) (yR yz9 7 nz9) 0 (yK yz9 1 az9) (yK yz9 2 az9)) : rs xz9 Cz9 jz9 Rz9 kk := by
  obtain ⟨n7, hab, hbe, he, hnf, hna, hen, ht, hcs, hfu, hj, hk, hgi, hgt⟩ := hz9.bd hy
  obtain ⟨h1, h2, h3, h4, h5, h6, h7, h8, h9, h10, h11, h12, h13⟩ := hz9
  obtain ⟨y1, y2, y3, y4⟩ := h1.ly hx
  obtain ⟨_, ⟨b1, b2, _, b4, b5⟩, ⟨c1z9, c2z9, c3z9⟩, _, _, ⟨w1z9, w2z9, w3z9, w4z9⟩, hen', h39, hfr1, hfr, _⟩ := id h1
  obtain ⟨f', a1z9, a2, a3, ⟨a4, a5⟩, a6⟩ := fo_nm hy hfr (by omega) hgt h6 h7 g3z9
  have hnk : (yR yz9 5 nz9 = 1 ∨ yR yz9 5 nz9 = 3) ∧ ∃ vz9, yR yz9 6 nz9 = nI vz9 ∧ vz9 < gn Gz9 f' ∧ gk Gz9 f' vz9 = true ∧ yK yz9 1 az9 = nI (gc Gz9 f' + vz9) := by
    rcases a6 with ⟨_, a6⟩ | ⟨a6, _⟩ | ⟨a6, _⟩
    · exact a6
    · exact absurd a6 (by decide)
    · exact absurd a6 (by decide)
  obtain ⟨k5z9, vz9, k6z9, k7z9, k8z9, k9⟩ := hnk
  have hf' : f' < nfz9 := by omega
  obtain ⟨r25, _, _, hval, _⟩ := hfr.2 f' hf'
  have hv := hval vz9 k7z9 k8z9 (Or.inl a3)
  have hbd := fo_bd hfr hf' hgt k7z9
  have hgf' := (fo_top hfr hf').2
  have r2 : (ai_up Rz9 0 39 (nI tz9)) 2 nz9 = 8 := by rw [ai_up_n (by omega), y4 2 (by omega) (by omega)]; exact g1
  have r5z9 : (ai_up Rz9 0 39 (nI tz9)) 5 nz9 = yR yz9 5 nz9 := by rw [ai_up_n (by omega), y4 5 (by omega) (by omega)]
  have hn4 : ¬ yR yz9 5 nz9 = 4 ∧ ¬ yR yz9 5 nz9 = 2 := by rcases k5z9 with ez9 | ez9 <;> rw [ez9] <;> decide
  have hMz9 := hx.1
  have n7' := n7.2
  refine rs_step hMz9 (by omega) b4 (st_wo hMz9 h9 (by omega : az9 < ye yz9) he y1 (c := 11) (by rw [y3 0]; exact g2) (by decide) ?_)
  rw [show Cz9 23 az9 = yK yz9 2 az9 by rw [y3 2], show Cz9 22 az9 = nI (gc Gz9 f' + vz9) by rw [y3 1]; exact k9]
  have e95z9 : (ai_up Cz9 9 4 (nI (az9 + 1))) 9 5 = nI (gi Gz9 fz9) := by (repeat rw [ai_up_n (by omega)]); exact h10
  refine vX1_workOut hMz9 ?_
  rw [e95z9]
  refine a5 _ _ _ _ _ _ _ _ (by funext qz9; (repeat rw [ai_up_n (by omega)])) ⟨fun _ => ⟨fun hp => ⟨fun hh => absurd rfl hh, fun _ => ?_⟩, fun hp => ?_⟩, fun hh => absurd hh (by decide)⟩
  · rw [ai_up_n (by omega), ai_up_n (by omega), c1z9, b1, i_lt (by omega) (by omega)] at hp
    rw [show (31 : Int32) = nI 31 from rfl, pk_mul, nI_add, show gi Gz9 f' * 31 + (gc Gz9 f' + vz9) = 31 * gi Gz9 f' + gc Gz9 f' + vz9 by omega]
    refine ⟨nI_pos (by omega), by rw [show (961 : Int32) = nI 961 from rfl, i_le (by omega) (by omega)]; omega, i_in (by omega) (by omega), ?_⟩
    rw [nI_clamp (by omega), show (ai_up Cz9 9 4 (nI (az9 + 1))) 11 (31 * gi Gz9 f' + gc Gz9 f' + vz9) = Rz9 27 (gb Gz9 f' + vz9) by (repeat rw [ai_up_n (by omega)]); exact hv, show (ai_up Cz9 9 4 (nI (az9 + 1))) 9 2 + 1 = nI (cs + 1) by (repeat rw [ai_up_n (by omega)]); rw [c1z9, nI_1]]
    refine rs_ref (R1 := ai_up (ai_up (ai_up Rz9 0 39 (nI tz9)) 0 53 (nI (cs + 1))) 0 50 (Rz9 27 (gb Gz9 f' + vz9))) (k1 := kk + 1) (fun hl => ?_) (ihz9 _ _ _ _ (by omega) (Or.inr (Or.inr ⟨Gz9, pd, cs + 1, nfz9, na, tz9, en, wt, l, fz9, az9 + 1, h1.up (fun qz9 iz9 pz9 p' => ?_) (fun qz9 iz9 pz9 p' p'' => ?_) ⟨?_, ?_, by omega⟩ ⟨?_, ?_, w3z9, fun iz9 hiz9 => ?_⟩ ?_ ?_, kc_keep l fz9 (az9 + 1) nfz9 na tz9 en wt (fun iz9 hiz9 => ?_) (fun iz9 hiz9 => ?_) (fun iz9 hiz9 => ⟨?_, ?_⟩) (fun iz9 hiz9 => ⟨?_, ?_⟩) (fun iz9 hiz9 => ?_) (fun iz9 hiz9 => ⟨rfl, rfl⟩) h4, ?_, ?_, fun _ => ?_, by omega⟩)))
    · refine lr_do (by omega) h39 (by omega) b5 h2 (by omega) (by omega) (by omega) (pf_8 (vX6_evaluate ⟨i_in n7' (by omega), ?_⟩))
      rw [nI_clamp (by omega), r2, r5z9]
      refine ⟨fun _ => ⟨fun hh => absurd rfl hh, fun _ => ⟨fun _ => ⟨fun hh => absurd hh hn4.2, fun _ => sp_pay (by (repeat rw [ai_up_n (by omega)]); exact b2) (by (repeat rw [ai_up_n (by omega)]); exact c2z9) hfu hcs (fun _ => ai_zt ?_) (fun hh => by omega)⟩, fun hh => absurd hh hn4.1⟩⟩, fun hh => absurd hh (by decide)⟩
      rw [show (ai_up (ai_up Rz9 0 39 (nI tz9)) 0 53 (nI (cs + 1))) 7 nz9 = yR yz9 7 nz9 by (repeat rw [ai_up_n (by omega)]); rw [y4 7 (by omega) (by omega)]]
      refine a4 _ _ _ _ _ _ _ _ (by funext qz9; (repeat rw [ai_up_n (by omega)])) ⟨i_in (by omega) (by omega), ?_⟩
      rw [nI_clamp (by omega), show (ai_up (ai_up Rz9 0 39 (nI tz9)) 0 53 (nI (cs + 1))) 25 f' = nI (gb Gz9 f') by (repeat rw [ai_up_n (by omega)]); exact r25, show (ai_up (ai_up Rz9 0 39 (nI tz9)) 0 53 (nI (cs + 1))) 6 nz9 = nI vz9 by (repeat rw [ai_up_n (by omega)]); rw [y4 6 (by omega) (by omega)]; exact k6z9, nI_add, nI_clamp (by omega), show (ai_up (ai_up Rz9 0 39 (nI tz9)) 0 53 (nI (cs + 1))) 27 (gb Gz9 f' + vz9) = Rz9 27 (gb Gz9 f' + vz9) by (repeat rw [ai_up_n (by omega)])]
      exact ⟨i_in (by omega) (by omega), hl⟩
    all_goals first | ((repeat rw [ai_up_n (by omega)]); done) | ((repeat rw [ai_up_n (by omega)]); rw [ai_up_s]; done) | ((repeat rw [ai_up_n (by omega)]); rw [ai_up_s]; (repeat rw [ai_up_n (by omega)]); rw [ai_up_s]; done) | ((repeat rw [ai_up_n (by omega)]); assumption) | ((repeat rw [ai_up_n (by omega)]); rw [ai_up_s]; assumption) | ((repeat rw [ai_up_n (by omega)]); exact w4z9 _ (by assumption))
  · rw [ai_up_n (by omega), ai_up_n (by omega), c1z9, b1, i_lt (by omega) (by omega)] at hp
    refine ev_fuel hx h1 (fun hl => lr_do (by omega) h39 (by omega) b5 h2 (by omega) (by omega) (by omega) (pf_8 (vX6_evaluate ⟨i_in n7' (by omega), ?_⟩)))
    rw [nI_clamp (by omega), r2, r5z9]
    exact ⟨fun _ => ⟨fun hh => absurd rfl hh, fun _ => ⟨fun _ => ⟨fun hh => absurd hh hn4.2, fun _ => sp_pay (by (repeat rw [ai_up_n (by omega)]); exact b2) (by (repeat rw [ai_up_n (by omega)]); exact c2z9) hfu hcs (fun hh => by omega) (fun _ => ai_zf hl)⟩, fun hh => absurd hh hn4.1⟩⟩, fun hh => absurd hh (by decide)⟩
/-- a formal by name: its actual is worked out -/
theorem go_nam (hy : yG yz9 x0z9) (hx : xk yz9 xz9) (ihz9 : go yz9 xz9 fu (Nz9 + 1)) (hNz9 : Nz9 ≤ 10 * jz9 + kk) (hz9 : eb yz9 xz9 fu Cz9 Rz9 jz9 kk Gz9 pd cs nfz9 na tz9 en wt l fz9 kz9 nz9 az9 (az9 + 1)) (g1 : yR yz9 2 nz9 = 8) (g2 : yK yz9 0 az9 = 12) (g3z9 : cx_rs (yR yz9) (yb yz9) (yC yz9) (gs Gz9 fz9) (yR yz9 5 nz9) (yR yz9 6 nz9) (yR yz9 7 nz9) 1 (yK yz9 1 az9) (yK yz9 2 az9)) : rs xz9 Cz9 jz9 Rz9 kk := by
  obtain ⟨n7, hab, hbe, he, hnf, hna, hen, ht, hcs, hfu, hj, hk, hgi, hgt⟩ := hz9.bd hy
  obtain ⟨h1, h2, h3, h4, h5, h6, h7, h8, h9, h10, h11, h12, h13⟩ := hz9
  obtain ⟨y1, y2, y3, y4⟩ := h1.ly hx
  obtain ⟨_, ⟨b1, b2, _, b4, b5⟩, ⟨c1z9, c2z9, c3z9⟩, _, _, ⟨w1z9, w2z9, w3z9, w4z9⟩, hen', h39, hfr1, hfr, _⟩ := id h1
  obtain ⟨f', a1z9, a2, a3, ⟨a4, a5⟩, a6⟩ := fo_nm hy hfr (by omega) hgt h6 h7 g3z9
  have hnk : yR yz9 5 nz9 = 4 ∧ ∃ iz9 ca cntz9 ww, yR yz9 6 nz9 = nI (iz9 + 1) ∧ yK yz9 1 az9 = nI (iz9 + 1) ∧ iz9 < cntz9 ∧ ww.testBit iz9 = false ∧ cf yz9 Cz9 Rz9 Gz9 pd f' ca cntz9 ww := by
    rcases a6 with ⟨a6, _⟩ | ⟨_, a6⟩ | ⟨a6, _⟩
    · exact absurd a6 (by decide)
    · exact a6
    · exact absurd a6 (by decide)
  obtain ⟨k5z9, i1z9, ca, cntz9, ww, k6z9, k7z9, k8z9, k9, d1z9, d2z9, d3z9, d4z9, d5z9, d6z9, d7z9, d8z9, d9z9, d10z9⟩ := hnk
  have hf' : f' < nfz9 := by omega
  obtain ⟨r25, _⟩ := hfr.2 f' hf'
  obtain ⟨e1z9, e2z9, e3z9, e4z9, e5z9, ⟨mz9, e6z9, e6', e6''⟩, e7z9, e8⟩ := d10z9 i1z9 k8z9
  obtain ⟨e7a, e7b, e7c⟩ := e7z9 k9
  obtain ⟨xn, hxn⟩ : ∃ xn, xn = (ga Gz9 f' i1z9).1 := ⟨_, rfl⟩
  obtain ⟨haz9, hha⟩ : ∃ haz9, haz9 = (ga Gz9 f' i1z9).2 := ⟨_, rfl⟩
  rw [← hxn] at e1z9 e2z9 e3z9 e6z9 e7a
  rw [← hha] at e4z9 e6z9 e7c
  have hbd := fo_bd hfr hf' hgt (v := i1z9 + 1) (by omega)
  have hgf' := (fo_top hfr hf').2
  have hgca := (fo_top hfr (show ca < nfz9 by omega)).2
  have r2 : (ai_up Rz9 0 39 (nI tz9)) 2 nz9 = 8 := by rw [ai_up_n (by omega), y4 2 (by omega) (by omega)]; exact g1
  have r5z9 : (ai_up Rz9 0 39 (nI tz9)) 5 nz9 = 4 := by rw [ai_up_n (by omega), y4 5 (by omega) (by omega)]; exact k5z9
  have hMz9 := hx.1
  have n7' := n7.2
  have e1' := e1z9.2
  have hlv := kc_lv h4
  refine rs_step hMz9 (by omega) b4 (st_wo hMz9 h9 (by omega : az9 < ye yz9) he y1 (c := 12) (by rw [y3 0]; exact g2) (by decide) ?_)
  rw [show Cz9 23 az9 = yK yz9 2 az9 by rw [y3 2], show Cz9 22 az9 = nI (i1z9 + 1) by rw [y3 1]; exact k7z9]
  have e95z9 : (ai_up Cz9 9 4 (nI (az9 + 1))) 9 5 = nI (gi Gz9 fz9) := by (repeat rw [ai_up_n (by omega)]); exact h10
  refine vX1_workOut hMz9 ?_
  rw [e95z9]
  have e910 : (ai_up Cz9 9 4 (nI (az9 + 1))) 9 10 = nI en := by (repeat rw [ai_up_n (by omega)]); exact hen'
  refine a5 _ _ _ _ _ _ _ _ (by funext qz9; (repeat rw [ai_up_n (by omega)])) ⟨fun hh => absurd rfl hh, fun _ => ?_⟩
  rw [e910, e95z9, ai_up_s, show (31 : Int32) = nI 31 from rfl, pk_mul, nI_add, show gi Gz9 f' * 31 + (i1z9 + 1) = 31 * gi Gz9 f' + 1 + i1z9 by omega]
  refine ⟨nI_pos (by omega), by rw [show (30 : Int32) = nI 30 from rfl, i_lt (by omega) (by omega)]; omega, i_in (by omega) (by omega), nI_pos (by omega), by rw [show (961 : Int32) = nI 961 from rfl, i_le (by omega) (by omega)]; omega, i_in (by omega) (by omega), nI_pos (by omega), by rw [i_le (by omega) (by omega)]; omega, i_in (by omega) (by omega), ?_⟩
  rw [nI_clamp (show en < 2 ^ 31 by omega), nI_clamp (show 31 * gi Gz9 f' + 1 + i1z9 < 2 ^ 31 by omega), nI_clamp (show gi Gz9 f' < 2 ^ 31 by omega), nI_1, show (ai_up Cz9 9 4 (nI (az9 + 1))) 11 (31 * gi Gz9 f' + 1 + i1z9) = nI haz9 by (repeat rw [ai_up_n (by omega)]); exact e7c, nI_1, show (ai_up Cz9 9 4 (nI (az9 + 1))) 13 (gi Gz9 f') = nI (gi Gz9 ca) by (repeat rw [ai_up_n (by omega)]); exact d6z9]
  refine rs_ref (R1 := ai_up (ai_up (ai_up Rz9 0 39 (nI tz9)) 22 tz9 (nI (8 + 16 * xn + 16384 * ca))) 0 39 (nI (tz9 + 1))) (k1 := kk + 1) (fun hl => ?_) (ihz9 _ _ _ _ (by omega) (Or.inl ⟨Gz9, pd, cs, nfz9, na, tz9, en + 1, wt, 2 :: l, ca, 50, xn, haz9 + 1, mz9, h1.up (fun qz9 iz9 pz9 p' => ?_) (fun qz9 iz9 pz9 p' p'' => ?_) ⟨?_, ?_, by omega⟩ ⟨?_, ?_, w3z9, fun iz9 hiz9 => ?_⟩ ?_ ?_, ?_, e6z9, ⟨e6', by omega, by omega, by omega, Or.inr ⟨d8z9, by omega⟩, Or.inl (by omega), Or.inr (Or.inr (Or.inl ⟨rfl, e6'', en, fz9, az9 + 1, rfl, ?_, ?_, h5, kc_keep l fz9 (az9 + 1) nfz9 na tz9 en wt (fun iz9 hiz9 => ?_) (fun iz9 hiz9 => ?_) (fun iz9 hiz9 => ⟨?_, ?_⟩) (fun iz9 hiz9 => ⟨?_, ?_⟩) (fun iz9 hiz9 => ?_) (fun iz9 hiz9 => ⟨rfl, rfl⟩) h4⟩))⟩, rfl, by omega, d8z9, by omega, ?_, ?_, by omega, Nat.le_refl _, ?_⟩))
  · refine lr_do (by omega) h39 (by omega) b5 h2 (by omega) (by omega) (by omega) (pf_8 (vX6_evaluate ⟨i_in n7' (by omega), ?_⟩))
    rw [nI_clamp (by omega), r2, r5z9]
    refine ⟨fun _ => ⟨fun hh => absurd rfl hh, fun _ => ⟨fun hh => absurd rfl hh, fun _ => ?_⟩⟩, fun hh => absurd hh (by decide)⟩
    rw [show (ai_up Rz9 0 39 (nI tz9)) 7 nz9 = yR yz9 7 nz9 by (repeat rw [ai_up_n (by omega)]); rw [y4 7 (by omega) (by omega)]]
    refine a4 _ _ _ _ _ _ _ _ (by funext qz9; (repeat rw [ai_up_n (by omega)])) ⟨i_in (by omega) (by omega), ?_⟩
    rw [nI_clamp (show f' < 2 ^ 31 by omega), show (ai_up Rz9 0 39 (nI tz9)) 25 f' = nI (gb Gz9 f') by (repeat rw [ai_up_n (by omega)]); exact r25, show (ai_up Rz9 0 39 (nI tz9)) 6 nz9 = nI (i1z9 + 1) by (repeat rw [ai_up_n (by omega)]); rw [y4 6 (by omega) (by omega)]; exact k6z9, nI_add, nI_clamp (by omega), show gb Gz9 f' + (i1z9 + 1) = gb Gz9 f' + 1 + i1z9 by omega, show (ai_up Rz9 0 39 (nI tz9)) 27 (gb Gz9 f' + 1 + i1z9) = nI xn by (repeat rw [ai_up_n (by omega)]); exact e7a, show (ai_up Rz9 0 39 (nI tz9)) 28 (gb Gz9 f' + 1 + i1z9) = nI ca by (repeat rw [ai_up_n (by omega)]); exact e7b]
    exact ⟨i_in (by omega) (by omega), sp_later (c := 8) ai_up_s (by omega) hl⟩
  all_goals first | (simp only [po]; omega) | skip
  all_goals first | ((repeat rw [ai_up_n (by omega)]); done) | ((repeat rw [ai_up_n (by omega)]); rw [ai_up_s]; done) | ((repeat rw [ai_up_n (by omega)]); rw [ai_up_s]; (repeat rw [ai_up_n (by omega)]); rw [ai_up_s]; done) | ((repeat rw [ai_up_n (by omega)]); assumption) | ((repeat rw [ai_up_n (by omega)]); rw [ai_up_s]; assumption) | ((repeat rw [ai_up_n (by omega)]); exact w4z9 _ (by assumption))
/-- operands -/
theorem go_opn (hy : yG yz9 x0z9) (hx : xk yz9 xz9) (ihz9 : go yz9 xz9 fu (Nz9 + 1)) (hNz9 : Nz9 ≤ 10 * jz9 + kk) (hz9 : eb yz9 xz9 fu Cz9 Rz9 jz9 kk Gz9 pd cs nfz9 na tz9 en wt l fz9 (kz9 + 1) nz9 az9 bz9) (g1 : yR yz9 2 nz9 = 10 ∨ yR yz9 2 nz9 = 11 ∨ yR yz9 2 nz9 = 12) {qz9 zz9 mz9 : Nat} (g2 : yR yz9 3 nz9 = nI qz9) (g3z9 : yE yz9 (gs Gz9 fz9) kz9 qz9 az9 mz9) (g4 : yR yz9 4 qz9 = nI zz9) (g5z9 : yO yz9 (gs Gz9 fz9) kz9 320 zz9 mz9 bz9) : rs xz9 Cz9 jz9 Rz9 kk := by
  obtain ⟨n7, hab, hbe, he, hnf, hna, hen, ht, hcs, hfu, hj, hk, hgi, hgt⟩ := hz9.bd hy
  obtain ⟨h1, h2, h3, h4, h5, h6, h7, h8, h9, h10, h11, h12, h13⟩ := hz9
  obtain ⟨y1, y2, y3, y4⟩ := h1.ly hx
  obtain ⟨_, ⟨b1, b2, _, b4, b5⟩, ⟨c1z9, c2z9, c3z9⟩, _, _, ⟨w1z9, w2z9, w3z9, w4z9⟩, hen', h39, hfr1, hfr, _⟩ := id h1
  have hlv := kc_lv h4
  have n7' := n7.2
  have q7z9 := yE_nd g3z9
  have q7' := q7z9.2
  have hmb := yO_le g5z9
  have hne : ¬ yR yz9 2 nz9 = 7 ∧ ¬ yR yz9 2 nz9 = 8 ∧ ¬ yR yz9 2 nz9 = 9 ∧ ¬ yR yz9 2 nz9 = 13 := by rcases g1 with ez9 | ez9 | ez9 <;> rw [ez9] <;> decide
  refine rs_ref (R1 := ai_up (ai_up (ai_up (ai_up (ai_up Rz9 0 39 (nI tz9)) 22 tz9 (nI (9 + 16 * qz9 + 16384 * fz9))) 0 39 (nI (tz9 + 1))) 22 (tz9 + 1) (nI (8 + 16 * qz9 + 16384 * fz9))) 0 39 (nI (tz9 + 1 + 1))) (k1 := kk + 1) (fun hl => ?_) (ihz9 _ _ _ _ (by omega) (Or.inl ⟨Gz9, pd, cs, nfz9, na, tz9 + 1, en, wt, 0 :: l, fz9, kz9, qz9, az9, mz9, h1.up (fun qz9 iz9 pz9 p' => rfl) (fun qz9 iz9 pz9 p' p'' => ?_) ⟨c1z9, ?_, by omega⟩ ⟨w1z9, ?_, w3z9, fun iz9 hiz9 => ?_⟩ hen' ?_, ?_, g3z9, ⟨by omega, by omega, by omega, by omega, Or.inr ⟨h7, by omega⟩, Or.inl (by omega), Or.inl ⟨rfl, tz9, qz9, zz9, 320, kz9, bz9, rfl, q7z9, ?_, g4, g5z9, by omega, by omega, h5, kc_keep l fz9 bz9 nfz9 na tz9 en wt (fun iz9 hiz9 => ?_) (fun iz9 hiz9 => ?_) (fun iz9 hiz9 => ⟨rfl, rfl⟩) (fun iz9 hiz9 => ⟨rfl, rfl⟩) (fun iz9 hiz9 => rfl) (fun iz9 hiz9 => ⟨rfl, rfl⟩) h4⟩⟩, rfl, by omega, h7, by omega, h9, h10, by omega, by omega, ?_⟩))
  · refine lr_do (by omega) h39 (by omega) b5 h2 (by omega) (by omega) (by omega) (pf_8 (vX6_evaluate ⟨i_in n7' (by omega), ?_⟩))
    rw [nI_clamp (by omega), show (ai_up Rz9 0 39 (nI tz9)) 2 nz9 = yR yz9 2 nz9 by (repeat rw [ai_up_n (by omega)]); rw [y4 2 (by omega) (by omega)]]
    refine ⟨fun _ => ⟨fun _ => ⟨fun _ => ⟨fun hh => absurd hh hne.2.2.2, fun _ => ?_⟩, fun hh => absurd hh hne.2.2.1⟩, fun hh => absurd hh hne.2.1⟩, fun hh => absurd hh hne.1⟩
    rw [show (ai_up Rz9 0 39 (nI tz9)) 3 nz9 = nI qz9 by (repeat rw [ai_up_n (by omega)]); rw [y4 3 (by omega) (by omega)]; exact g2]
    refine sp_later (c := 9) ai_up_s (by omega) ?_
    rw [show (ai_up (ai_up (ai_up Rz9 0 39 (nI tz9)) 22 tz9 (nI (9 + 16 * qz9 + 16384 * fz9))) 0 39 (nI (tz9 + 1))) 3 nz9 = nI qz9 by (repeat rw [ai_up_n (by omega)]); rw [y4 3 (by omega) (by omega)]; exact g2]
    exact sp_later (c := 8) ai_up_s (by omega) hl
  all_goals first | (simp only [po]; omega) | skip
  all_goals first | ((repeat rw [ai_up_n (by omega)]); done) | ((repeat rw [ai_up_n (by omega)]); rw [ai_up_s]; done) | ((repeat rw [ai_up_n (by omega)]); rw [ai_up_s]; (repeat rw [ai_up_n (by omega)]); rw [ai_up_s]; done) | ((repeat rw [ai_up_n (by omega)]); assumption) | ((repeat rw [ai_up_n (by omega)]); rw [ai_up_s]; assumption) | ((repeat rw [ai_up_n (by omega)]); exact w4z9 _ (by assumption))
/-- parentheses -/
theorem go_par (hy : yG yz9 x0z9) (hx : xk yz9 xz9) (ihz9 : go yz9 xz9 fu (Nz9 + 1)) (hNz9 : Nz9 ≤ 10 * jz9 + kk) (hz9 : eb yz9 xz9 fu Cz9 Rz9 jz9 kk Gz9 pd cs nfz9 na tz9 en wt l fz9 (kz9 + 1) nz9 az9 bz9) (g1 : yR yz9 2 nz9 = 13) {qz9 : Nat} (g2 : yR yz9 3 nz9 = nI qz9) (g3z9 : yE yz9 (gs Gz9 fz9) kz9 qz9 az9 bz9) : rs xz9 Cz9 jz9 Rz9 kk := by
  obtain ⟨n7, hab, hbe, he, hnf, hna, hen, ht, hcs, hfu, hj, hk, hgi, hgt⟩ := hz9.bd hy
  obtain ⟨h1, h2, h3, h4, h5, h6, h7, h8, h9, h10, h11, h12, h13⟩ := hz9
  obtain ⟨y1, y2, y3, y4⟩ := h1.ly hx
  obtain ⟨_, ⟨b1, b2, _, b4, b5⟩, ⟨c1z9, c2z9, c3z9⟩, _, _, ⟨w1z9, w2z9, w3z9, w4z9⟩, hen', h39, hfr1, hfr, _⟩ := id h1
  have n7' := n7.2
  refine rs_ref (R1 := ai_up (ai_up (ai_up Rz9 0 39 (nI tz9)) 22 tz9 (nI (8 + 16 * qz9 + 16384 * fz9))) 0 39 (nI (tz9 + 1))) (k1 := kk + 1) (fun hl => ?_) (ihz9 _ _ _ _ (by omega) (Or.inl ⟨Gz9, pd, cs, nfz9, na, tz9, en, wt, l, fz9, kz9, qz9, az9, bz9, h1.up (fun qz9 iz9 pz9 p' => rfl) (fun qz9 iz9 pz9 p' p'' => ?_) ⟨c1z9, ?_, by omega⟩ ⟨w1z9, ?_, w3z9, fun iz9 hiz9 => ?_⟩ hen' ?_, ?_, g3z9, kc_keep l fz9 bz9 nfz9 na tz9 en wt (fun iz9 hiz9 => ?_) (fun iz9 hiz9 => ?_) (fun iz9 hiz9 => ⟨rfl, rfl⟩) (fun iz9 hiz9 => ⟨rfl, rfl⟩) (fun iz9 hiz9 => rfl) (fun iz9 hiz9 => ⟨rfl, rfl⟩) h4, h5, by omega, h7, by omega, h9, h10, by omega, by omega, by omega⟩))
  · refine lr_do (by omega) h39 (by omega) b5 h2 (by omega) (by omega) (by omega) (pf_8 (vX6_evaluate ⟨i_in n7' (by omega), ?_⟩))
    rw [nI_clamp (by omega), show (ai_up Rz9 0 39 (nI tz9)) 2 nz9 = 13 by (repeat rw [ai_up_n (by omega)]); rw [y4 2 (by omega) (by omega)]; exact g1]
    refine ⟨fun _ => ⟨fun _ => ⟨fun _ => ⟨fun _ => ?_, fun hh => absurd rfl hh⟩, fun hh => absurd hh (by decide)⟩, fun hh => absurd hh (by decide)⟩, fun hh => absurd hh (by decide)⟩
    rw [show (ai_up Rz9 0 39 (nI tz9)) 3 nz9 = nI qz9 by (repeat rw [ai_up_n (by omega)]); rw [y4 3 (by omega) (by omega)]; exact g2]
    exact sp_later (c := 8) ai_up_s (by omega) hl
  all_goals first | ((repeat rw [ai_up_n (by omega)]); done) | ((repeat rw [ai_up_n (by omega)]); rw [ai_up_s]; done) | ((repeat rw [ai_up_n (by omega)]); rw [ai_up_s]; (repeat rw [ai_up_n (by omega)]); rw [ai_up_s]; done) | ((repeat rw [ai_up_n (by omega)]); assumption) | ((repeat rw [ai_up_n (by omega)]); rw [ai_up_s]; assumption) | ((repeat rw [ai_up_n (by omega)]); exact w4z9 _ (by assumption))
end EVS
