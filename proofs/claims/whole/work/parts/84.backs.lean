/-! ===== behind conditions, loops, blocks ===== -/
section BKV
variable {yz9 : ys_T} {xz9 : xs_T} {x0z9 fu Nz9 : Nat} {Cz9 Rz9 : ai_S} {jz9 kk : Nat} {Gz9 : gg_T} {pd : Nat → Nat} {cs nfz9 na tz9 en wt : Nat} {l : List Nat} {fz9 bz9 : Nat}
/-- behind the condition of a choice -/
theorem go_ifc (hy : yG yz9 x0z9) (hx : xk yz9 xz9) (ihz9 : go yz9 xz9 fu (Nz9 + 1)) (hNz9 : Nz9 ≤ 10 * jz9 + kk) (hz9 : rb yz9 xz9 fu Cz9 Rz9 jz9 kk Gz9 pd cs nfz9 na tz9 en wt (5 :: l) fz9 bz9) : rs xz9 Cz9 jz9 Rz9 kk := by
  obtain ⟨hbe, he, hfn, hnf, hna, hen, ht, hcs, hfu, hj, hk, hgi, hgt, hnf2⟩ := hz9.bd hy
  obtain ⟨h1, h2, h3, h4, h5, h6⟩ := hz9
  obtain ⟨y1, y2, y3, y4⟩ := h1.ly hx
  obtain ⟨_, ⟨b1, b2, _, b4, b5⟩, ⟨c1z9, c2z9, c3z9⟩, _, _, ⟨w1z9, w2z9, w3z9, w4z9⟩, hen', h39, hfr1, hfr, hfr2, hfr3⟩ := id h1
  have hv := h5 rfl
  have hMz9 := hx.1
  obtain ⟨l7, l8, t', nz9, q0, zz9, wz9, jj, b', kz9, a1z9, a2, a3, a4, a5, a6, a7, a8, a9, a10, a11, a12, a13, a14, a15, a16, a17⟩ := kci_5 h2
  subst a1z9
  have n7 := a2.2
  have q7z9 := a7.2
  have z7 := (yS_nd a9).2
  have zl := yS_lt a9
  have wl := yS_lt a13
  have lv := kc_lv a17
  have e3z9 : (ai_up Rz9 0 39 (nI t')) 3 nz9 = nI q0 := by (repeat rw [ai_up_n (by omega)]); rw [y4 3 (by omega) (by omega)]; exact a6
  have e4z9 : (ai_up Rz9 0 39 (nI t')) 4 q0 = nI zz9 := by (repeat rw [ai_up_n (by omega)]); rw [y4 4 (by omega) (by omega)]; exact a8
  have e4' : (ai_up Rz9 0 39 (nI t')) 4 zz9 = nI wz9 := by (repeat rw [ai_up_n (by omega)]); rw [y4 4 (by omega) (by omega)]; exact a12
  have e50 : (ai_up Rz9 0 39 (nI t')) 0 50 = Cz9 9 6 := by (repeat rw [ai_up_n (by omega)]); exact hv.symm
  have c96 : (ai_up Cz9 9 4 (nI (bz9 + 1))) 9 6 = Cz9 9 6 := by (repeat rw [ai_up_n (by omega)])
  refine rs_step hMz9 (by omega) b4 (st_ctl hMz9 h3 hbe he y1 (c := 4) (by rw [y3 0]; exact a4) (by decide) (ct_4 hMz9 ⟨fun hp => ?_, fun hp => ?_⟩))
  · rw [c96] at hp
    refine rs_ref (R1 := ai_up (ai_up (ai_up Rz9 0 39 (nI t')) 22 t' (nI (0 + 16 * zz9 + 16384 * fz9))) 0 39 (nI (t' + 1))) (k1 := kk + 1) (fun hl => ?_) (ihz9 _ _ _ _ (by omega) (Or.inr (Or.inl ⟨Gz9, pd, cs, nfz9, na, t', en, wt, 14 :: l, fz9, kz9, zz9, bz9 + 1, jj, h1.up (fun qz9 iz9 pz9 p' => ?_) (fun qz9 iz9 pz9 p' p'' => ?_) ⟨?_, ?_, by omega⟩ ⟨?_, ?_, by omega, fun iz9 hiz9 => ?_⟩ ?_ ?_, ?_, a9, ⟨by omega, by omega, by omega, by omega, Or.inr l7, Or.inr l8, Or.inr (Or.inr (Or.inr (Or.inr (Or.inr (Or.inr (Or.inr (Or.inr (Or.inr (Or.inr (Or.inr (Or.inr ⟨rfl, a10, b', a11, a16, kc_keep l fz9 b' nfz9 na t' en wt (fun iz9 hiz9 => ?_) (fun iz9 hiz9 => ?_) (fun iz9 hiz9 => ⟨?_, ?_⟩) (fun iz9 hiz9 => ⟨?_, ?_⟩) (fun iz9 hiz9 => ?_) (fun iz9 hiz9 => ⟨rfl, rfl⟩) a17⟩)))))))))))⟩, rfl, l8.1, ?_, ?_, a14, a15, ?_⟩)))
    · refine lr_do (by omega) h39 (by omega) b5 a3 (by omega) (by omega) (by omega) (pf_3 ?_)
      rw [nI_clamp (show nz9 < 2 ^ 31 by omega), e3z9, nI_clamp (show q0 < 2 ^ 31 by omega), e4z9, e50]
      exact ⟨i_in n7 (by omega), i_in q7z9 (by omega), fun hh => absurd hh hp, fun _ => sp_later (c := 0) ai_up_s (by omega) hl⟩
    all_goals first | (simp only [po] at h6 ⊢; omega) | skip
    all_goals first | ((repeat rw [ai_up_n (by omega)]); done) | ((repeat rw [ai_up_n (by omega)]); rw [ai_up_s]; done) | ((repeat rw [ai_up_n (by omega)]); rw [ai_up_s]; (repeat rw [ai_up_n (by omega)]); rw [ai_up_s]; done) | ((repeat rw [ai_up_n (by omega)]); assumption) | ((repeat rw [ai_up_n (by omega)]); rw [ai_up_s]; assumption) | ((repeat rw [ai_up_n (by omega)]); exact w4z9 _ (by assumption))
  · rw [c96] at hp
    rw [show Cz9 22 bz9 = nI (jj + 1) by rw [y3 1]; exact a5]
    refine rs_ref (R1 := ai_up (ai_up (ai_up Rz9 0 39 (nI t')) 22 t' (nI (0 + 16 * wz9 + 16384 * fz9))) 0 39 (nI (t' + 1))) (k1 := kk + 1) (fun hl => ?_) (ihz9 _ _ _ _ (by omega) (Or.inr (Or.inl ⟨Gz9, pd, cs, nfz9, na, t', en, wt, l, fz9, kz9, wz9, jj + 1, b', h1.up (fun qz9 iz9 pz9 p' => ?_) (fun qz9 iz9 pz9 p' p'' => ?_) ⟨?_, ?_, by omega⟩ ⟨?_, ?_, by omega, fun iz9 hiz9 => ?_⟩ ?_ ?_, ?_, a13, kc_keep l fz9 b' nfz9 na t' en wt (fun iz9 hiz9 => ?_) (fun iz9 hiz9 => ?_) (fun iz9 hiz9 => ⟨?_, ?_⟩) (fun iz9 hiz9 => ⟨?_, ?_⟩) (fun iz9 hiz9 => ?_) (fun iz9 hiz9 => ⟨rfl, rfl⟩) a17, a16, l8.1, ?_, ?_, a14, a15, ?_⟩)))
    · refine lr_do (by omega) h39 (by omega) b5 a3 (by omega) (by omega) (by omega) (pf_3 ?_)
      rw [nI_clamp (show nz9 < 2 ^ 31 by omega), e3z9, nI_clamp (show q0 < 2 ^ 31 by omega), e4z9, nI_clamp (show zz9 < 2 ^ 31 by omega), e4', e50]
      exact ⟨i_in n7 (by omega), i_in q7z9 (by omega), fun _ => ⟨i_in z7 (by omega), sp_later (c := 0) ai_up_s (by omega) hl⟩, fun hh => absurd hp hh⟩
    all_goals first | (simp only [po] at h6 ⊢; omega) | skip
    all_goals first | ((repeat rw [ai_up_n (by omega)]); done) | ((repeat rw [ai_up_n (by omega)]); rw [ai_up_s]; done) | ((repeat rw [ai_up_n (by omega)]); rw [ai_up_s]; (repeat rw [ai_up_n (by omega)]); rw [ai_up_s]; done) | ((repeat rw [ai_up_n (by omega)]); assumption) | ((repeat rw [ai_up_n (by omega)]); rw [ai_up_s]; assumption) | ((repeat rw [ai_up_n (by omega)]); exact w4z9 _ (by assumption))
/-- behind the condition of a loop -/
theorem go_whl (hy : yG yz9 x0z9) (hx : xk yz9 xz9) (ihz9 : go yz9 xz9 fu (Nz9 + 1)) (hNz9 : Nz9 ≤ 10 * jz9 + kk) (hz9 : rb yz9 xz9 fu Cz9 Rz9 jz9 kk Gz9 pd cs nfz9 na tz9 en wt (6 :: l) fz9 bz9) : rs xz9 Cz9 jz9 Rz9 kk := by
  obtain ⟨hbe, he, hfn, hnf, hna, hen, ht, hcs, hfu, hj, hk, hgi, hgt, hnf2⟩ := hz9.bd hy
  obtain ⟨h1, h2, h3, h4, h5, h6⟩ := hz9
  obtain ⟨y1, y2, y3, y4⟩ := h1.ly hx
  obtain ⟨_, ⟨b1, b2, _, b4, b5⟩, ⟨c1z9, c2z9, c3z9⟩, _, _, ⟨w1z9, w2z9, w3z9, w4z9⟩, hen', h39, hfr1, hfr, hfr2, hfr3⟩ := id h1
  have hv := h5 rfl
  have hMz9 := hx.1
  obtain ⟨l7, l8, t', nz9, jj, kz9, a1z9, a2, a3, a4, a5, a6, a7⟩ := kci_6 h2
  subst a1z9
  obtain ⟨q0, zz9, a1', k1z9, k2z9, k3z9, k4z9, k5z9, k6z9, k7z9, k8z9, k9⟩ := id a3
  have n7 := k1z9.2
  have q7z9 := (yE_nd k9).2
  have z7 := (yS_nd k6z9).2
  have zl := yS_lt k6z9
  have lv := kc_lv a7
  have e50 : (ai_up Rz9 0 39 (nI t')) 0 50 = Cz9 9 6 := by (repeat rw [ai_up_n (by omega)]); exact hv.symm
  have c96 : (ai_up Cz9 9 4 (nI (bz9 + 1))) 9 6 = Cz9 9 6 := by (repeat rw [ai_up_n (by omega)])
  refine rs_step hMz9 (by omega) b4 (st_ctl hMz9 h3 hbe he y1 (c := 4) (by rw [y3 0]; exact k4z9) (by decide) (ct_4 hMz9 ⟨fun hp => ?_, fun hp => ?_⟩))
  · rw [c96] at hp
    refine rs_ref (R1 := ai_up (ai_up (ai_up (ai_up (ai_up Rz9 0 39 (nI t')) 22 t' (nI (5 + 16 * nz9 + 16384 * fz9))) 0 39 (nI (t' + 1))) 22 (t' + 1) (nI (0 + 16 * zz9 + 16384 * fz9))) 0 39 (nI (t' + 1 + 1))) (k1 := kk + 1) (fun hl => ?_) (ihz9 _ _ _ _ (by omega) (Or.inr (Or.inl ⟨Gz9, pd, cs, nfz9, na, t' + 1, en, wt, 11 :: l, fz9, kz9, zz9, bz9 + 1, jj, h1.up (fun qz9 iz9 pz9 p' => ?_) (fun qz9 iz9 pz9 p' p'' => ?_) ⟨?_, ?_, by omega⟩ ⟨?_, ?_, by omega, fun iz9 hiz9 => ?_⟩ ?_ ?_, ?_, k6z9, ⟨by omega, by omega, by omega, by omega, Or.inr l7, Or.inr l8, Or.inr (Or.inr (Or.inr (Or.inr (Or.inr (Or.inr (Or.inr (Or.inr (Or.inr (Or.inl ⟨rfl, t', nz9, bz9, kz9, rfl, ?_, a3, a4, a5, a6, kc_keep l fz9 (jj + 1) nfz9 na t' en wt (fun iz9 hiz9 => ?_) (fun iz9 hiz9 => ?_) (fun iz9 hiz9 => ⟨?_, ?_⟩) (fun iz9 hiz9 => ⟨?_, ?_⟩) (fun iz9 hiz9 => ?_) (fun iz9 hiz9 => ⟨rfl, rfl⟩) a7⟩)))))))))⟩, rfl, l8.1, ?_, ?_, by omega, a5, ?_⟩)))
    · refine lr_do (by omega) h39 (by omega) b5 a2 (by omega) (by omega) (by omega) (pf_4 ⟨fun hh => absurd (by rw [← e50]; exact hh) hp, fun _ => ?_⟩)
      refine sp_later (c := 5) ai_up_s (by omega) ⟨i_in n7 (by omega), ?_⟩
      rw [nI_clamp (show nz9 < 2 ^ 31 by omega), show (ai_up (ai_up (ai_up Rz9 0 39 (nI t')) 22 t' (nI (5 + 16 * nz9 + 16384 * fz9))) 0 39 (nI (t' + 1))) 3 nz9 = nI q0 by (repeat rw [ai_up_n (by omega)]); rw [y4 3 (by omega) (by omega)]; exact k2z9, nI_clamp (show q0 < 2 ^ 31 by omega), show (ai_up (ai_up (ai_up Rz9 0 39 (nI t')) 22 t' (nI (5 + 16 * nz9 + 16384 * fz9))) 0 39 (nI (t' + 1))) 4 q0 = nI zz9 by (repeat rw [ai_up_n (by omega)]); rw [y4 4 (by omega) (by omega)]; exact k3z9]
      exact ⟨i_in q7z9 (by omega), sp_later (c := 0) ai_up_s (by omega) hl⟩
    all_goals first | (simp only [po] at h6 ⊢; omega) | skip
    all_goals first | ((repeat rw [ai_up_n (by omega)]); done) | ((repeat rw [ai_up_n (by omega)]); rw [ai_up_s]; done) | ((repeat rw [ai_up_n (by omega)]); rw [ai_up_s]; (repeat rw [ai_up_n (by omega)]); rw [ai_up_s]; done) | ((repeat rw [ai_up_n (by omega)]); assumption) | ((repeat rw [ai_up_n (by omega)]); rw [ai_up_s]; assumption) | ((repeat rw [ai_up_n (by omega)]); exact w4z9 _ (by assumption))
  · rw [c96] at hp
    rw [show Cz9 22 bz9 = nI (jj + 1) by rw [y3 1]; exact k5z9]
    refine rs_ref (R1 := ai_up Rz9 0 39 (nI t')) (k1 := kk + 1) (fun hl => ?_) (ihz9 _ _ _ _ (by omega) (Or.inr (Or.inr ⟨Gz9, pd, cs, nfz9, na, t', en, wt, l, fz9, jj + 1, h1.up (fun qz9 iz9 pz9 p' => ?_) (fun qz9 iz9 pz9 p' p'' => ?_) ⟨?_, ?_, by omega⟩ ⟨?_, ?_, by omega, fun iz9 hiz9 => ?_⟩ ?_ ?_, kc_keep l fz9 (jj + 1) nfz9 na t' en wt (fun iz9 hiz9 => ?_) (fun iz9 hiz9 => ?_) (fun iz9 hiz9 => ⟨?_, ?_⟩) (fun iz9 hiz9 => ⟨?_, ?_⟩) (fun iz9 hiz9 => ?_) (fun iz9 hiz9 => ⟨rfl, rfl⟩) a7, ?_, ?_, fun hh => ?_, ?_⟩)))
    · exact lr_do (by omega) h39 (by omega) b5 a2 (by omega) (by omega) (by omega) (pf_4 ⟨fun _ => hl, fun hh => absurd (by rw [e50]; exact hp) hh⟩)
    all_goals first | (rw [a6] at hh; cases hh; done) | (simp only [po] at h6 ⊢; omega) | skip
    all_goals first | ((repeat rw [ai_up_n (by omega)]); done) | ((repeat rw [ai_up_n (by omega)]); rw [ai_up_s]; done) | ((repeat rw [ai_up_n (by omega)]); rw [ai_up_s]; (repeat rw [ai_up_n (by omega)]); rw [ai_up_s]; done) | ((repeat rw [ai_up_n (by omega)]); assumption) | ((repeat rw [ai_up_n (by omega)]); rw [ai_up_s]; assumption) | ((repeat rw [ai_up_n (by omega)]); exact w4z9 _ (by assumption))
/-- a loop's way back -/
theorem go_wend (hy : yG yz9 x0z9) (hx : xk yz9 xz9) (ihz9 : go yz9 xz9 fu (Nz9 + 1)) (hNz9 : Nz9 ≤ 10 * jz9 + kk) (hz9 : rb yz9 xz9 fu Cz9 Rz9 jz9 kk Gz9 pd cs nfz9 na tz9 en wt (11 :: l) fz9 bz9) : rs xz9 Cz9 jz9 Rz9 kk := by
  obtain ⟨hbe, he, hfn, hnf, hna, hen, ht, hcs, hfu, hj, hk, hgi, hgt, hnf2⟩ := hz9.bd hy
  obtain ⟨h1, h2, h3, h4, h5, h6⟩ := hz9
  obtain ⟨y1, y2, y3, y4⟩ := h1.ly hx
  obtain ⟨_, ⟨b1, b2, _, b4, b5⟩, ⟨c1z9, c2z9, c3z9⟩, _, _, ⟨w1z9, w2z9, w3z9, w4z9⟩, hen', h39, hfr1, hfr, hfr2, hfr3⟩ := id h1
  have hMz9 := hx.1
  obtain ⟨l7, l8, t', nz9, b0, kz9, a1z9, a2, a3, a4, a5, a6, a7⟩ := kci_11 h2
  subst a1z9
  obtain ⟨q0, zz9, a1', k1z9, k2z9, k3z9, k4z9, k5z9, k6z9, k7z9, k8z9, k9⟩ := id a3
  have n7 := k1z9.2
  have q7z9 := (yE_nd k9).2
  have zl := yS_lt k6z9
  have lv := kc_lv a7
  refine rs_step hMz9 (by omega) b4 (st_ctl hMz9 h3 hbe he y1 (c := 3) (by rw [y3 0]; exact k7z9) (by decide) (ct_3 hMz9 ?_))
  rw [show Cz9 22 bz9 = nI a1' by rw [y3 1]; exact k8z9]
  refine rs_ref (R1 := ai_up (ai_up (ai_up (ai_up (ai_up Rz9 0 39 (nI t')) 22 t' (nI (4 + 16 * nz9 + 16384 * fz9))) 0 39 (nI (t' + 1))) 22 (t' + 1) (nI (8 + 16 * q0 + 16384 * fz9))) 0 39 (nI (t' + 1 + 1))) (k1 := kk + 1) (fun hl => ?_) (ihz9 _ _ _ _ (by omega) (Or.inl ⟨Gz9, pd, cs, nfz9, na, t' + 1, en, wt, 6 :: l, fz9, 50, q0, a1', b0, h1.up (fun qz9 iz9 pz9 p' => ?_) (fun qz9 iz9 pz9 p' p'' => ?_) ⟨?_, ?_, by omega⟩ ⟨?_, ?_, by omega, fun iz9 hiz9 => ?_⟩ ?_ ?_, ?_, k9, ⟨by omega, by omega, by omega, by omega, Or.inr l7, Or.inr l8, Or.inr (Or.inr (Or.inr (Or.inr (Or.inr (Or.inr (Or.inl ⟨rfl, t', nz9, bz9, kz9, rfl, ?_, a3, a4, a5, a6, kc_keep l fz9 (bz9 + 1) nfz9 na t' en wt (fun iz9 hiz9 => ?_) (fun iz9 hiz9 => ?_) (fun iz9 hiz9 => ⟨?_, ?_⟩) (fun iz9 hiz9 => ⟨?_, ?_⟩) (fun iz9 hiz9 => ?_) (fun iz9 hiz9 => ⟨rfl, rfl⟩) a7⟩))))))⟩, rfl, hfn, l7.1, l7.2, ?_, ?_, by omega, by omega, ?_⟩))
  · refine lr_do (by omega) h39 (by omega) b5 a2 (by omega) (by omega) (by omega) (pf_5 ?_)
    refine sp_later (c := 4) ai_up_s (by omega) ⟨i_in n7 (by omega), ?_⟩
    rw [nI_clamp (show nz9 < 2 ^ 31 by omega), show (ai_up (ai_up (ai_up Rz9 0 39 (nI t')) 22 t' (nI (4 + 16 * nz9 + 16384 * fz9))) 0 39 (nI (t' + 1))) 3 nz9 = nI q0 by (repeat rw [ai_up_n (by omega)]); rw [y4 3 (by omega) (by omega)]; exact k2z9]
    exact sp_later (c := 8) ai_up_s (by omega) hl
  all_goals first | (simp only [po] at h6 ⊢; omega) | skip
  all_goals first | ((repeat rw [ai_up_n (by omega)]); done) | ((repeat rw [ai_up_n (by omega)]); rw [ai_up_s]; done) | ((repeat rw [ai_up_n (by omega)]); rw [ai_up_s]; (repeat rw [ai_up_n (by omega)]); rw [ai_up_s]; done) | ((repeat rw [ai_up_n (by omega)]); assumption) | ((repeat rw [ai_up_n (by omega)]); rw [ai_up_s]; assumption) | ((repeat rw [ai_up_n (by omega)]); exact w4z9 _ (by assumption))
/-- the next statement of a block -/
theorem go_seq (hy : yG yz9 x0z9) (hx : xk yz9 xz9) (ihz9 : go yz9 xz9 fu (Nz9 + 1)) (hNz9 : Nz9 ≤ 10 * jz9 + kk) (hz9 : rb yz9 xz9 fu Cz9 Rz9 jz9 kk Gz9 pd cs nfz9 na tz9 en wt (13 :: l) fz9 bz9) : rs xz9 Cz9 jz9 Rz9 kk := by
  obtain ⟨hbe, he, hfn, hnf, hna, hen, ht, hcs, hfu, hj, hk, hgi, hgt, hnf2⟩ := hz9.bd hy
  obtain ⟨h1, h2, h3, h4, h5, h6⟩ := hz9
  obtain ⟨y1, y2, y3, y4⟩ := h1.ly hx
  obtain ⟨_, ⟨b1, b2, _, b4, b5⟩, ⟨c1z9, c2z9, c3z9⟩, _, _, ⟨w1z9, w2z9, w3z9, w4z9⟩, hen', h39, hfr1, hfr, hfr2, hfr3⟩ := id h1
  have hMz9 := hx.1
  obtain ⟨l7, l8, t', nz9, jj, kz9, b', a1z9, a2, a3, a4, a5, a6, a7, a8⟩ := kci_13 h2
  subst a1z9
  have lv := kc_lv a8
  rcases yQ_inv a4 with ⟨e1z9, _⟩ | ⟨_, jj', mz9, n', e1z9, e2z9, e3z9⟩
  · omega
  · have n7 := (yS_nd e1z9).2
    have mlz9 := yQ_le e3z9
    have e4z9 : (ai_up Rz9 0 39 (nI t')) 4 nz9 = nI n' := by (repeat rw [ai_up_n (by omega)]); rw [y4 4 (by omega) (by omega)]; exact e2z9
    rcases yQ_inv e3z9 with ⟨e5z9, e6z9⟩ | ⟨e5z9, _, m2z9, n2z9, e6z9, _⟩
    · subst e6z9
      refine rs_ref (R1 := ai_up (ai_up (ai_up Rz9 0 39 (nI t')) 22 t' (nI (0 + 16 * nz9 + 16384 * fz9))) 0 39 (nI (t' + 1))) (k1 := kk + 1) (fun hl => ?_) (ihz9 _ _ _ _ (by omega) (Or.inr (Or.inl ⟨Gz9, pd, cs, nfz9, na, t', en, wt, l, fz9, kz9, nz9, bz9, mz9, h1.up (fun qz9 iz9 pz9 p' => rfl) (fun qz9 iz9 pz9 p' p'' => ?_) ⟨c1z9, ?_, by omega⟩ ⟨w1z9, ?_, by omega, fun iz9 hiz9 => ?_⟩ hen' ?_, ?_, e1z9, kc_keep l fz9 mz9 nfz9 na t' en wt (fun iz9 hiz9 => ?_) (fun iz9 hiz9 => ?_) (fun iz9 hiz9 => ⟨rfl, rfl⟩) (fun iz9 hiz9 => ⟨rfl, rfl⟩) (fun iz9 hiz9 => rfl) (fun iz9 hiz9 => ⟨rfl, rfl⟩) a8, a7, l8.1, h3, h4, by omega, a6, ?_⟩)))
      · refine lr_do (by omega) h39 (by omega) b5 a3 (by omega) (by omega) (by omega) (pf_7 ?_)
        rw [nI_clamp (by omega), e4z9, e5z9]
        exact ⟨i_in n7 (by omega), fun _ => sp_later (c := 0) ai_up_s (by omega) hl, fun hh => absurd (by decide) hh⟩
      all_goals first | (simp only [po] at h6 ⊢; omega) | skip
      all_goals first | ((repeat rw [ai_up_n (by omega)]); done) | ((repeat rw [ai_up_n (by omega)]); rw [ai_up_s]; done) | ((repeat rw [ai_up_n (by omega)]); rw [ai_up_s]; (repeat rw [ai_up_n (by omega)]); rw [ai_up_s]; done) | ((repeat rw [ai_up_n (by omega)]); assumption) | ((repeat rw [ai_up_n (by omega)]); rw [ai_up_s]; assumption) | ((repeat rw [ai_up_n (by omega)]); exact w4z9 _ (by assumption))
    · have n7' := (yS_nd e6z9).2
      refine rs_ref (R1 := ai_up (ai_up (ai_up (ai_up (ai_up Rz9 0 39 (nI t')) 22 t' (nI (7 + 16 * n' + 16384 * fz9))) 0 39 (nI (t' + 1))) 22 (t' + 1) (nI (0 + 16 * nz9 + 16384 * fz9))) 0 39 (nI (t' + 1 + 1))) (k1 := kk + 1) (fun hl => ?_) (ihz9 _ _ _ _ (by omega) (Or.inr (Or.inl ⟨Gz9, pd, cs, nfz9, na, t' + 1, en, wt, 13 :: l, fz9, kz9, nz9, bz9, mz9, h1.up (fun qz9 iz9 pz9 p' => rfl) (fun qz9 iz9 pz9 p' p'' => ?_) ⟨c1z9, ?_, by omega⟩ ⟨w1z9, ?_, by omega, fun iz9 hiz9 => ?_⟩ hen' ?_, ?_, e1z9, ⟨by omega, by omega, by omega, by omega, Or.inr l7, Or.inr l8, Or.inr (Or.inr (Or.inr (Or.inr (Or.inr (Or.inr (Or.inr (Or.inr (Or.inr (Or.inr (Or.inr (Or.inl ⟨rfl, t', n', jj', kz9, b', rfl, e5z9, ?_, e3z9, a5, a6, a7, kc_keep l fz9 b' nfz9 na t' en wt (fun iz9 hiz9 => ?_) (fun iz9 hiz9 => ?_) (fun iz9 hiz9 => ⟨rfl, rfl⟩) (fun iz9 hiz9 => ⟨rfl, rfl⟩) (fun iz9 hiz9 => rfl) (fun iz9 hiz9 => ⟨rfl, rfl⟩) a8⟩)))))))))))⟩, rfl, l8.1, h3, h4, by omega, a6, ?_⟩)))
      · refine lr_do (by omega) h39 (by omega) b5 a3 (by omega) (by omega) (by omega) (pf_7 ?_)
        rw [nI_clamp (by omega), e4z9]
        exact ⟨i_in n7 (by omega), fun hh => absurd hh (nI_nle (by omega) (by omega)), fun _ => sp_later (c := 7) ai_up_s (by omega) (sp_later (c := 0) ai_up_s (by omega) hl)⟩
      all_goals first | (simp only [po] at h6 ⊢; omega) | skip
      all_goals first | ((repeat rw [ai_up_n (by omega)]); done) | ((repeat rw [ai_up_n (by omega)]); rw [ai_up_s]; done) | ((repeat rw [ai_up_n (by omega)]); rw [ai_up_s]; (repeat rw [ai_up_n (by omega)]); rw [ai_up_s]; done) | ((repeat rw [ai_up_n (by omega)]); assumption) | ((repeat rw [ai_up_n (by omega)]); rw [ai_up_s]; assumption) | ((repeat rw [ai_up_n (by omega)]); exact w4z9 _ (by assumption))
/-- a block's end -/
theorem go_blk (hy : yG yz9 x0z9) (hx : xk yz9 xz9) (ihz9 : go yz9 xz9 fu (Nz9 + 1)) (hNz9 : Nz9 ≤ 10 * jz9 + kk) (hz9 : rb yz9 xz9 fu Cz9 Rz9 jz9 kk Gz9 pd cs nfz9 na tz9 en wt (12 :: l) fz9 bz9) : rs xz9 Cz9 jz9 Rz9 kk := by
  obtain ⟨hbe, he, hfn, hnf, hna, hen, ht, hcs, hfu, hj, hk, hgi, hgt, hnf2⟩ := hz9.bd hy
  obtain ⟨h1, h2, h3, h4, h5, h6⟩ := hz9
  obtain ⟨y1, y2, y3, y4⟩ := h1.ly hx
  obtain ⟨_, ⟨b1, b2, _, b4, b5⟩, ⟨c1z9, c2z9, c3z9⟩, _, _, ⟨w1z9, w2z9, w3z9, w4z9⟩, hen', h39, hfr1, hfr, hfr2, hfr3⟩ := id h1
  have hMz9 := hx.1
  obtain ⟨l7, l8, t', a1z9, a2, a3, a4, a5⟩ := kci_12 h2
  subst a1z9
  obtain ⟨q1z9, q2z9, q3z9, q4z9⟩ := kc_S a5 a4
  have hst := fo_step hfr (f := fz9 - 1) (by omega)
  rw [Nat.sub_add_cancel a2] at hst
  have r25 := (hfr.2 fz9 hfn).1
  refine rs_ref (R1 := ai_up (ai_up (ai_up Rz9 0 39 (nI t')) 0 46 (nI fz9)) 0 47 (nI (gb Gz9 fz9))) (k1 := kk + 1) (fun hl => ?_) (ihz9 _ _ _ _ (by omega) (Or.inr (Or.inr ⟨Gz9, pd, cs, fz9, na, t', en, wt, l, fz9 - 1, bz9, h1.gen (fun qz9 iz9 pz9 p' => rfl) (fun qz9 iz9 pz9 p' => ?_) ⟨c1z9, ?_, by omega⟩ ⟨w1z9, ?_, by omega, fun iz9 hiz9 => ?_⟩ hen' ?_ ⟨?_, FR.keep (C := Cz9) (R := Rz9) ⟨a2, fun gz9 hg => hfr.2 gz9 (by omega)⟩ rfl rfl rfl (fun qz9 q1z9 q2z9 => ?_), ?_, q4z9⟩, kc_keep l (fz9 - 1) bz9 fz9 na t' en wt (fun iz9 hiz9 => ?_) (fun iz9 hiz9 => ?_) (fun iz9 hiz9 => ⟨rfl, rfl⟩) (fun iz9 hiz9 => ⟨rfl, rfl⟩) (fun iz9 hiz9 => rfl) (fun iz9 hiz9 => ⟨rfl, rfl⟩) a5, h3, ?_, fun hh => ?_, ?_⟩)))
  · refine lr_do (n := 0) (by omega) h39 (by omega) b5 (c := 6) (by rw [a3]) (by omega) (by omega) (by omega) (pf_6 ?_)
    rw [nI_clamp (by omega), show (ai_up Rz9 0 39 (nI t')) 25 fz9 = nI (gb Gz9 fz9) by (repeat rw [ai_up_n (by omega)]); exact r25]
    exact ⟨i_in (by omega) (by omega), hl⟩
  all_goals first | (rw [a4] at hh; cases hh; done) | (simp only [po] at h6 ⊢; omega) | (rw [h4, q4z9, l8.2]; done) | (rw [ai_up_o (by omega), ai_up_o (by omega), ai_up_o (by omega)]; done) | (rw [ai_up_s, hst.1]; done) | skip
  all_goals first | ((repeat rw [ai_up_n (by omega)]); done) | ((repeat rw [ai_up_n (by omega)]); rw [ai_up_s]; done) | ((repeat rw [ai_up_n (by omega)]); rw [ai_up_s]; (repeat rw [ai_up_n (by omega)]); rw [ai_up_s]; done) | ((repeat rw [ai_up_n (by omega)]); assumption) | ((repeat rw [ai_up_n (by omega)]); rw [ai_up_s]; assumption) | ((repeat rw [ai_up_n (by omega)]); exact w4z9 _ (by assumption))
end BKV
