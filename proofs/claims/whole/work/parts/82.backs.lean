/-! ===== behind values ===== -/
section BKT
variable {yz9 : ys_T} {xz9 : xs_T} {x0z9 fu Nz9 : Nat} {Cz9 Rz9 : ai_S} {jz9 kk : Nat} {Gz9 : gg_T} {pd : Nat → Nat} {cs nfz9 na tz9 en wt : Nat} {l : List Nat} {fz9 bz9 : Nat}
/-- behind a later operand -/
theorem go_op2 (hy : yG yz9 x0z9) (hx : xk yz9 xz9) (ihz9 : go yz9 xz9 fu (Nz9 + 1)) (hNz9 : Nz9 ≤ 10 * jz9 + kk) (hz9 : rb yz9 xz9 fu Cz9 Rz9 jz9 kk Gz9 pd cs nfz9 na tz9 en wt (1 :: l) fz9 bz9) : rs xz9 Cz9 jz9 Rz9 kk := by
  obtain ⟨hbe, he, hfn, hnf, hna, hen, ht, hcs, hfu, hj, hk, hgi, hgt, hnf2⟩ := hz9.bd hy
  obtain ⟨h1, h2, h3, h4, h5, h6⟩ := hz9
  obtain ⟨y1, y2, y3, y4⟩ := h1.ly hx
  obtain ⟨_, ⟨b1, b2, _, b4, b5⟩, ⟨c1z9, c2z9, c3z9⟩, _, _, ⟨w1z9, w2z9, w3z9, w4z9⟩, hen', h39, hfr1, hfr, _⟩ := id h1
  have hv := h5 rfl
  have hMz9 := hx.1
  obtain ⟨l7, t', nz9, zz9, jj, kz9, b', sg, w', a1z9, a2, a3, a4, a5, a6, a7, a8, a9, a10, a11, a12, a13⟩ := kci_1 h2
  subst a1z9 a9
  have n7 := a2.2
  have e4z9 : (ai_up Rz9 0 39 (nI t')) 4 nz9 = nI zz9 := by (repeat rw [ai_up_n (by omega)]); rw [y4 4 (by omega) (by omega)]; exact a7
  have e8 : (ai_up Rz9 0 39 (nI t')) 8 nz9 = nI sg := by (repeat rw [ai_up_n (by omega)]); rw [y4 8 (by omega) (by omega)]; exact a4
  have e49 : (ai_up Rz9 0 39 (nI t')) 0 49 = nI (w' + 1) := by (repeat rw [ai_up_n (by omega)]); exact w2z9
  have e29 : (ai_up Rz9 0 39 (nI t')) 29 w' = Cz9 18 w' := by (repeat rw [ai_up_n (by omega)]); exact (w4z9 w' (by omega)).symm
  have e50 : (ai_up Rz9 0 39 (nI t')) 0 50 = Cz9 9 6 := by (repeat rw [ai_up_n (by omega)]); exact hv.symm
  obtain ⟨vv, hvv⟩ : ∃ vv, vv = jn sg (Cz9 18 w') (Cz9 9 6) := ⟨_, rfl⟩
  have zd := kc_lv a13
  refine rs_step hMz9 (by omega) b4 (st_op hMz9 h3 hbe he y1 a5 (by rw [y3 0]; exact a6) w1z9 (by omega) ?_)
  rw [← hvv]
  rcases yO_inv a8 with ⟨e1z9, e2z9⟩ | ⟨e1z9, e2z9, jj', mz9, z', sg', e5z9, e6z9, e7z9, e8', e9z9, e10z9⟩
  · subst e2z9
    refine rs_ref (R1 := ai_up (ai_up (ai_up Rz9 0 39 (nI t')) 0 49 (nI w')) 0 50 vv) (k1 := kk + 1) (fun hl => ?_) (ihz9 _ _ _ _ (by omega) (Or.inr (Or.inr ⟨Gz9, pd, cs, nfz9, na, t', en, w', l, fz9, bz9 + 1, h1.up (fun qz9 iz9 pz9 p' => ?_) (fun qz9 iz9 pz9 p' p'' => ?_) ⟨?_, ?_, by omega⟩ ⟨?_, ?_, by omega, fun iz9 hiz9 => ?_⟩ ?_ ?_, kc_keep l fz9 (bz9 + 1) nfz9 na t' en w' (fun iz9 hiz9 => ?_) (fun iz9 hiz9 => ?_) (fun iz9 hiz9 => ⟨?_, ?_⟩) (fun iz9 hiz9 => ⟨?_, ?_⟩) (fun iz9 hiz9 => ?_) (fun iz9 hiz9 => ⟨rfl, rfl⟩) a13, ?_, ?_, fun _ => ?_, by simp only [po] at h6; omega⟩)))
    · refine lr_do (by omega) h39 (by omega) b5 a3 (by omega) (by omega) (by omega) (pf_10 (sp_opd e49 (by omega) n7 e8 a5 e4z9 (by omega) (fun _ => ?_) (fun hh => by omega)))
      rw [e29, e50, ← hvv]
      exact hl
    all_goals first | ((repeat rw [ai_up_n (by omega)]); exact w4z9 _ (by omega)) | skip
    all_goals first | ((repeat rw [ai_up_n (by omega)]); done) | ((repeat rw [ai_up_n (by omega)]); rw [ai_up_s]; done) | ((repeat rw [ai_up_n (by omega)]); rw [ai_up_s]; (repeat rw [ai_up_n (by omega)]); rw [ai_up_s]; done) | ((repeat rw [ai_up_n (by omega)]); assumption) | ((repeat rw [ai_up_n (by omega)]); rw [ai_up_s]; assumption) | ((repeat rw [ai_up_n (by omega)]); exact w4z9 _ (by assumption))
  · have zn := yE_nd e5z9
    have zn' := zn.2
    have zb := yE_lt e5z9
    have zc := yO_le e10z9
    refine rs_step hMz9 (by omega) (by (repeat rw [ai_up_n (by omega)]); exact b4) (st_wait (a := bz9 + 1) (w := w') hMz9 (by (repeat rw [ai_up_n (by omega)]); exact ai_up_s) (by omega : bz9 + 1 < ye yz9) he (by (repeat rw [ai_up_n (by omega)]); exact y1) (by (repeat rw [ai_up_n (by omega)]); rw [y3 0]; exact e2z9) (by (repeat rw [ai_up_n (by omega)]); exact ai_up_s) (by omega) (fun hw => ?_) (fun hw => by omega))
    rw [ai_up_s]
    refine rs_ref (R1 := ai_up (ai_up (ai_up (ai_up (ai_up (ai_up (ai_up (ai_up (ai_up Rz9 0 39 (nI t')) 0 49 (nI w')) 0 50 vv) 29 w' vv) 0 49 (nI (w' + 1))) 22 t' (nI (10 + 16 * zz9 + 16384 * fz9))) 0 39 (nI (t' + 1))) 22 (t' + 1) (nI (8 + 16 * zz9 + 16384 * fz9))) 0 39 (nI (t' + 1 + 1))) (k1 := kk + 1) (fun hl => ?_) (ihz9 _ _ _ _ (by omega) (Or.inl ⟨Gz9, pd, cs, nfz9, na, t' + 1, en, w' + 1, 1 :: l, fz9, kz9, zz9, bz9 + 1 + 1, mz9, h1.up (fun qz9 iz9 pz9 p' => ?_) (fun qz9 iz9 pz9 p' p'' => ?_) ⟨?_, ?_, by omega⟩ ⟨?_, ?_, by omega, wt_push (fun iz9 hiz9 => w4z9 iz9 (by omega)) (by (repeat rw [ai_up_o (by omega)]); rw [ai_up_q]; (repeat rw [ai_up_o (by omega)])) (by (repeat rw [ai_up_o (by omega)]); rw [ai_up_q]; (repeat rw [ai_up_o (by omega)]))⟩ ?_ ?_, ?_, e5z9, ⟨by omega, by omega, by omega, by omega, Or.inr l7, Or.inl (by omega), Or.inr (Or.inl ⟨rfl, t', zz9, z', jj', kz9, b', sg', w', rfl, zn, ?_, e7z9, e8', e9z9, e6z9, e10z9, rfl, a10, a11, a12, kc_keep l fz9 b' nfz9 na t' en w' (fun iz9 hiz9 => ?_) (fun iz9 hiz9 => ?_) (fun iz9 hiz9 => ⟨?_, ?_⟩) (fun iz9 hiz9 => ⟨?_, ?_⟩) (fun iz9 hiz9 => ?_) (fun iz9 hiz9 => ⟨rfl, rfl⟩) a13⟩)⟩, rfl, hfn, l7.1, l7.2, ?_, ?_, by omega, by omega, ?_⟩))
    · refine lr_do (by omega) h39 (by omega) b5 a3 (by omega) (by omega) (by omega) (pf_10 (sp_opd e49 (by omega) n7 e8 a5 e4z9 (by omega) (fun hh => by omega) (fun _ => ?_)))
      rw [e29, e50, ← hvv]
      refine sp_later (c := 10) (by (repeat rw [ai_up_n (by omega)]); exact ai_up_s) (by omega) ?_
      rw [show (ai_up (ai_up (ai_up (ai_up (ai_up (ai_up (ai_up Rz9 0 39 (nI t')) 0 49 (nI w')) 0 50 vv) 29 w' vv) 0 49 (nI (w' + 1))) 22 t' (nI (10 + 16 * zz9 + 16384 * fz9))) 0 39 (nI (t' + 1))) 4 nz9 = nI zz9 by (repeat rw [ai_up_n (by omega)]); rw [y4 4 (by omega) (by omega)]; exact a7]
      exact sp_later (c := 8) ai_up_s (by omega) hl
    all_goals first | (simp only [po] at h6 ⊢; omega) | skip
    all_goals first | ((repeat rw [ai_up_n (by omega)]); done) | ((repeat rw [ai_up_n (by omega)]); rw [ai_up_s]; done) | ((repeat rw [ai_up_n (by omega)]); rw [ai_up_s]; (repeat rw [ai_up_n (by omega)]); rw [ai_up_s]; done) | ((repeat rw [ai_up_n (by omega)]); assumption) | ((repeat rw [ai_up_n (by omega)]); rw [ai_up_s]; assumption) | ((repeat rw [ai_up_n (by omega)]); exact w4z9 _ (by assumption))
/-- behind an actual -/
theorem go_ent (hy : yG yz9 x0z9) (hx : xk yz9 xz9) (ihz9 : go yz9 xz9 fu (Nz9 + 1)) (hNz9 : Nz9 ≤ 10 * jz9 + kk) (hz9 : rb yz9 xz9 fu Cz9 Rz9 jz9 kk Gz9 pd cs nfz9 na tz9 en wt (2 :: l) fz9 bz9) : rs xz9 Cz9 jz9 Rz9 kk := by
  obtain ⟨hbe, he, hfn, hnf, hna, hen, ht, hcs, hfu, hj, hk, hgi, hgt, hnf2⟩ := hz9.bd hy
  obtain ⟨h1, h2, h3, h4, h5, h6⟩ := hz9
  obtain ⟨y1, y2, y3, y4⟩ := h1.ly hx
  obtain ⟨_, ⟨b1, b2, _, b4, b5⟩, ⟨c1z9, c2z9, c3z9⟩, _, _, ⟨w1z9, w2z9, w3z9, w4z9⟩, hen', h39, hfr1, hfr, _⟩ := id h1
  have hv := h5 rfl
  have hMz9 := hx.1
  obtain ⟨l7, a0z9, en', f', b', a1z9, a2, a3, a4, a5⟩ := kci_2 h2
  subst a1z9
  refine rs_step hMz9 (by omega) b4 (st_ctl hMz9 h3 hbe he y1 (c := 25) (by rw [y3 0]; exact a0z9) (by decide) (ct_25 hMz9 ?_))
  rw [show (ai_up Cz9 9 4 (nI (bz9 + 1))) 9 10 = nI (en' + 1) by (repeat rw [ai_up_n (by omega)]); exact hen', nI_pred, nI_clamp (show en' < 2 ^ 31 by omega), show (ai_up Cz9 9 4 (nI (bz9 + 1))) 16 en' = nI b' by (repeat rw [ai_up_n (by omega)]); exact a2, show (ai_up Cz9 9 4 (nI (bz9 + 1))) 17 en' = nI (gi Gz9 f') by (repeat rw [ai_up_n (by omega)]); exact a3]
  refine ⟨nI_nle (by omega) (by omega), by rw [show (30 : Int32) = nI 30 from rfl, i_lt (by omega) (by omega)]; omega, i_in (by omega) (by omega), ihz9 _ _ _ _ (by omega) (Or.inr (Or.inr ⟨Gz9, pd, cs, nfz9, na, tz9, en', wt, l, f', b', h1.up (fun qz9 iz9 pz9 p' => ?_) (fun qz9 iz9 pz9 p' p'' => rfl) ⟨?_, ?_, by omega⟩ ⟨?_, ?_, by omega, fun iz9 hiz9 => ?_⟩ ?_ ?_, kc_keep l f' b' nfz9 na tz9 en' wt (fun iz9 hiz9 => rfl) (fun iz9 hiz9 => rfl) (fun iz9 hiz9 => ⟨?_, ?_⟩) (fun iz9 hiz9 => ⟨?_, ?_⟩) (fun iz9 hiz9 => ?_) (fun iz9 hiz9 => ⟨rfl, rfl⟩) a5, ?_, ?_, fun _ => ?_, by simp only [po] at h6; omega⟩))⟩
  all_goals first | ((repeat rw [ai_up_n (by omega)]); done) | ((repeat rw [ai_up_n (by omega)]); rw [ai_up_s]; done) | ((repeat rw [ai_up_n (by omega)]); rw [ai_up_s]; (repeat rw [ai_up_n (by omega)]); rw [ai_up_s]; done) | ((repeat rw [ai_up_n (by omega)]); assumption) | ((repeat rw [ai_up_n (by omega)]); rw [ai_up_s]; assumption) | ((repeat rw [ai_up_n (by omega)]); exact w4z9 _ (by assumption))
/-- a jump -/
theorem go_jmp (hy : yG yz9 x0z9) (hx : xk yz9 xz9) (ihz9 : go yz9 xz9 fu (Nz9 + 1)) (hNz9 : Nz9 ≤ 10 * jz9 + kk) (hz9 : rb yz9 xz9 fu Cz9 Rz9 jz9 kk Gz9 pd cs nfz9 na tz9 en wt (14 :: l) fz9 bz9) : rs xz9 Cz9 jz9 Rz9 kk := by
  obtain ⟨hbe, he, hfn, hnf, hna, hen, ht, hcs, hfu, hj, hk, hgi, hgt, hnf2⟩ := hz9.bd hy
  obtain ⟨h1, h2, h3, h4, h5, h6⟩ := hz9
  obtain ⟨y1, y2, y3, y4⟩ := h1.ly hx
  obtain ⟨_, ⟨b1, b2, _, b4, b5⟩, ⟨c1z9, c2z9, c3z9⟩, _, _, ⟨w1z9, w2z9, w3z9, w4z9⟩, hen', h39, hfr1, hfr, _⟩ := id h1
  have hMz9 := hx.1
  obtain ⟨l7, l8, a0z9, b', a1z9, a2, a3⟩ := kci_14 h2
  refine rs_step hMz9 (by omega) b4 (st_ctl hMz9 h3 hbe he y1 (c := 3) (by rw [y3 0]; exact a0z9) (by decide) (ct_3 hMz9 ?_))
  rw [show Cz9 22 bz9 = nI b' by rw [y3 1]; exact a1z9]
  refine ihz9 _ _ _ _ (by omega) (Or.inr (Or.inr ⟨Gz9, pd, cs, nfz9, na, tz9, en, wt, l, fz9, b', h1.up (fun qz9 iz9 pz9 p' => ?_) (fun qz9 iz9 pz9 p' p'' => rfl) ⟨?_, ?_, by omega⟩ ⟨?_, ?_, by omega, fun iz9 hiz9 => ?_⟩ ?_ ?_, kc_keep l fz9 b' nfz9 na tz9 en wt (fun iz9 hiz9 => rfl) (fun iz9 hiz9 => rfl) (fun iz9 hiz9 => ⟨?_, ?_⟩) (fun iz9 hiz9 => ⟨?_, ?_⟩) (fun iz9 hiz9 => ?_) (fun iz9 hiz9 => ⟨rfl, rfl⟩) a3, ?_, ?_, fun hh => ?_, by simp only [po] at h6; omega⟩))
  all_goals first | (rw [a2] at hh; cases hh; done) | skip
  all_goals first | ((repeat rw [ai_up_n (by omega)]); done) | ((repeat rw [ai_up_n (by omega)]); rw [ai_up_s]; done) | ((repeat rw [ai_up_n (by omega)]); rw [ai_up_s]; (repeat rw [ai_up_n (by omega)]); rw [ai_up_s]; done) | ((repeat rw [ai_up_n (by omega)]); assumption) | ((repeat rw [ai_up_n (by omega)]); rw [ai_up_s]; assumption) | ((repeat rw [ai_up_n (by omega)]); exact w4z9 _ (by assumption))
/-- the end -/
theorem go_end (hy : yG yz9 x0z9) (hx : xk yz9 xz9) (hz9 : rb yz9 xz9 fu Cz9 Rz9 jz9 kk Gz9 pd cs nfz9 na tz9 en wt [] fz9 bz9) : rs xz9 Cz9 jz9 Rz9 kk := by
  obtain ⟨hbe, he, hfn, hnf, hna, hen, ht, hcs, hfu, hj, hk, hgi, hgt, hnf2⟩ := hz9.bd hy
  obtain ⟨h1, h2, h3, h4, h5, h6⟩ := hz9
  obtain ⟨y1, y2, y3, y4⟩ := h1.ly hx
  obtain ⟨_, ⟨b1, b2, _, b4, b5⟩, ⟨c1z9, c2z9, c3z9⟩, _, _, ⟨w1z9, w2z9, w3z9, w4z9⟩, hen', h39, hfr1, hfr, _⟩ := id h1
  have hMz9 := hx.1
  obtain ⟨_, _, _, _, a1z9, a2, a3, a4, a5, a6⟩ := h2
  refine rs_step hMz9 (by omega) b4 (st_ctl hMz9 h3 hbe he y1 (c := 0) (by rw [y3 0]; exact a6) (by decide) (ct_0 hMz9 ?_))
  refine rs_end (R1 := Rz9) hMz9 (v := 0) ai_up_s (by decide) (h1.fin (fun qz9 iz9 pz9 p' => by (repeat rw [ai_up_n (by omega)])) (fun qz9 iz9 pz9 p' => rfl) (by (repeat rw [ai_up_n (by omega)]); rw [c1z9, c2z9])) (fun hG => lr_end b5 (Or.inr (by rw [h39, a3])) hG)
/-- behind the right side of an assignment -/
theorem go_store (hy : yG yz9 x0z9) (hx : xk yz9 xz9) (ihz9 : go yz9 xz9 fu (Nz9 + 1)) (hNz9 : Nz9 ≤ 10 * jz9 + kk) (hz9 : rb yz9 xz9 fu Cz9 Rz9 jz9 kk Gz9 pd cs nfz9 na tz9 en wt (3 :: l) fz9 bz9) : rs xz9 Cz9 jz9 Rz9 kk := by
  obtain ⟨hbe, he, hfn, hnf, hna, hen, ht, hcs, hfu, hj, hk, hgi, hgt, hnf2⟩ := hz9.bd hy
  obtain ⟨h1, h2, h3, h4, h5, h6⟩ := hz9
  obtain ⟨y1, y2, y3, y4⟩ := h1.ly hx
  obtain ⟨_, ⟨b1, b2, _, b4, b5⟩, ⟨c1z9, c2z9, c3z9⟩, _, _, ⟨w1z9, w2z9, w3z9, w4z9⟩, hen', h39, hfr1, hfr, hfr2, hfr3⟩ := id h1
  have hv := h5 rfl
  have hMz9 := hx.1
  obtain ⟨l7, l8, a0z9, t', f2z9, vz9, a1z9, a2, a3, a4, a5, a6, a7, a8, a9⟩ := kci_3 h2
  subst a1z9
  have hbd := fo_bd hfr a3 hgt a4
  obtain ⟨ad, had⟩ : ∃ ad, ad = 31 * gi Gz9 f2z9 + gc Gz9 f2z9 + vz9 := ⟨_, rfl⟩
  obtain ⟨cd', hcd⟩ : ∃ cd', cd' = gb Gz9 f2z9 + vz9 := ⟨_, rfl⟩
  rw [← had] at a7 hbd
  rw [← hcd] at a2 hbd
  refine rs_step hMz9 (by omega) b4 (st_asg hMz9 h3 hbe he y1 (c := 9) (by rw [y3 0]; exact a0z9) (by decide) (vX1_assign hMz9 ⟨fun hh => absurd rfl hh, fun _ => ?_⟩))
  rw [show (ai_up Cz9 9 4 (nI (bz9 + 1))) 9 5 = nI na by (repeat rw [ai_up_n (by omega)]); rw [h4, l8.2], nI_clamp (show na < 2 ^ 31 by omega), show (ai_up Cz9 9 4 (nI (bz9 + 1))) 15 na = nI ad by (repeat rw [ai_up_n (by omega)]); exact a7, nI_clamp (show ad < 2 ^ 31 by omega), show (ai_up Cz9 9 4 (nI (bz9 + 1))) 9 6 = Cz9 9 6 by (repeat rw [ai_up_n (by omega)])]
  refine ⟨nI_pos (by omega), by rw [show (31 : Int32) = nI 31 from rfl, i_le (by omega) (by omega)]; omega, i_in (by omega) (by omega), nI_pos (by omega), by rw [show (961 : Int32) = nI 961 from rfl, i_le (by omega) (by omega)]; omega, i_in (by omega) (by omega), ?_⟩
  refine rs_ref (R1 := ai_up (ai_up Rz9 0 39 (nI t')) 27 cd' (Cz9 9 6)) (k1 := kk + 1) (fun hl => ?_) (ihz9 _ _ _ _ (by omega) (Or.inr (Or.inr ⟨Gz9, pd, cs, nfz9, na, t', en, wt, l, fz9, bz9 + 1, h1.gen (fun qz9 iz9 pz9 p' => ?_) (fun qz9 iz9 pz9 p' => ?_) ⟨?_, ?_, by omega⟩ ⟨?_, ?_, by omega, fun iz9 hiz9 => ?_⟩ ?_ ?_ ⟨?_, hfr.write (x := Cz9 9 6) a3 a4 a5 a6 (by rw [ai_up_q, ← had, ai_up_o (by omega)]) (by rw [ai_up_o (by omega), ai_up_o (by omega)]) (by rw [ai_up_o (by omega), ai_up_o (by omega)]) (by rw [ai_up_q, ← hcd, ai_up_o (by omega)]) (fun qz9 q1z9 q2z9 q3z9 => by rw [ai_up_o (by omega), ai_up_o (by omega)]), ?_, hfr3⟩, kc_keep l fz9 (bz9 + 1) nfz9 na t' en wt (fun iz9 hiz9 => ?_) (fun iz9 hiz9 => ?_) (fun iz9 hiz9 => ⟨?_, ?_⟩) (fun iz9 hiz9 => ⟨?_, ?_⟩) (fun iz9 hiz9 => ?_) (fun iz9 hiz9 => ⟨rfl, rfl⟩) a9, ?_, ?_, fun hh => ?_, by simp only [po] at h6; omega⟩)))
  · refine lr_do (n := cd') (f := 0) (by omega) h39 (by omega) b5 (c := 1) (by rw [a2, Nat.mul_zero, Nat.add_zero]) (by omega) (by omega) (by omega) (pf_1 ?_)
    rw [show (1024 : Int32) = nI 1024 from rfl, pk_mul, nI_add, show cd' + 1024 * 0 = cd' by omega, nI_clamp (by omega), show (ai_up Rz9 0 39 (nI t')) 0 50 = Cz9 9 6 by (repeat rw [ai_up_n (by omega)]); exact hv.symm]
    exact ⟨i_in (by omega) (by omega), hl⟩
  all_goals first | (rw [a8] at hh; cases hh; done) | skip
  all_goals first | ((repeat rw [ai_up_n (by omega)]); done) | ((repeat rw [ai_up_n (by omega)]); rw [ai_up_s]; done) | ((repeat rw [ai_up_n (by omega)]); rw [ai_up_s]; (repeat rw [ai_up_n (by omega)]); rw [ai_up_s]; done) | ((repeat rw [ai_up_n (by omega)]); assumption) | ((repeat rw [ai_up_n (by omega)]); rw [ai_up_s]; assumption) | ((repeat rw [ai_up_n (by omega)]); exact w4z9 _ (by assumption))
end BKT
