/-! ===== what is done behind a value, behind a statement ===== -/
section BKS
variable {yz9 : ys_T} {xz9 : xs_T} {x0z9 fu Nz9 : Nat} {Cz9 Rz9 : ai_S} {jz9 kk : Nat} {Gz9 : gg_T} {pd : Nat → Nat} {cs nfz9 na tz9 en wt : Nat} {l : List Nat} {fz9 bz9 : Nat}
def rb (yz9 : ys_T) (xz9 : xs_T) (fu : Nat) (Cz9 Rz9 : ai_S) (jz9 kk : Nat) (Gz9 : gg_T) (pd : Nat → Nat) (cs nfz9 na tz9 en wt : Nat) (l : List Nat) (fz9 bz9 : Nat) : Prop :=
  iv yz9 (xC xz9) (xR xz9) Cz9 Rz9 Gz9 pd fu cs nfz9 na tz9 en wt ∧ kc yz9 Cz9 Rz9 Gz9 pd l fz9 bz9 nfz9 na tz9 en wt ∧ Cz9 9 4 = nI bz9 ∧ Cz9 9 5 = nI (gi Gz9 fz9) ∧ (ve l = true → Cz9 9 6 = Rz9 0 50) ∧ 10 * jz9 + kk + 3800 + po l ≤ 4100 * cs
theorem rb.bd (hz9 : rb yz9 xz9 fu Cz9 Rz9 jz9 kk Gz9 pd cs nfz9 na tz9 en wt l fz9 bz9) (hy : yG yz9 x0z9) : bz9 < ye yz9 ∧ ye yz9 ≤ 488 ∧ fz9 < nfz9 ∧ nfz9 ≤ 341 ∧ na ≤ 30 ∧ en ≤ na ∧ tz9 < 6000 ∧ cs ≤ fu ∧ fu ≤ 1000 ∧ jz9 < 500000 ∧ kk < 5000000 ∧ gi Gz9 fz9 ≤ na ∧ gi Gz9 (nfz9 - 1) ≤ 30 ∧ nfz9 ≤ 11 * (na + 1) := by
  obtain ⟨h1, h4, _, _, _, h6⟩ := hz9
  obtain ⟨g1, g2, g3z9, g4, g5z9⟩ := kc_lv h4
  obtain ⟨_, ⟨_, _, b3, _, _⟩, ⟨_, _, c3z9⟩, ⟨_, _, d3z9, _, _⟩, _, _, _, _, f1z9, f2z9, f3z9, f4z9⟩ := h1
  have := (fo_top f2z9 g2).2
  have := hy.2.1
  exact ⟨g1, by omega, by omega, by omega, by omega, by omega, by omega, by omega, by omega, by omega, by omega, by omega, by omega, by omega⟩
/-- behind the first operand -/
theorem go_op1 (hy : yG yz9 x0z9) (hx : xk yz9 xz9) (ihz9 : go yz9 xz9 fu (Nz9 + 1)) (hNz9 : Nz9 ≤ 10 * jz9 + kk) (hz9 : rb yz9 xz9 fu Cz9 Rz9 jz9 kk Gz9 pd cs nfz9 na tz9 en wt (0 :: l) fz9 bz9) : rs xz9 Cz9 jz9 Rz9 kk := by
  obtain ⟨hbe, he, hfn, hnf, hna, hen, ht, hcs, hfu, hj, hk, hgi, hgt, hnf2⟩ := hz9.bd hy
  obtain ⟨h1, h2, h3, h4, h5, h6⟩ := hz9
  obtain ⟨y1, y2, y3, y4⟩ := h1.ly hx
  obtain ⟨_, ⟨b1, b2, _, b4, b5⟩, ⟨c1z9, c2z9, c3z9⟩, _, _, ⟨w1z9, w2z9, w3z9, w4z9⟩, hen', h39, hfr1, hfr, _⟩ := id h1
  obtain ⟨_, _, _, _, h7, h8, hh⟩ := h2
  have hv := h5 rfl
  have hMz9 := hx.1
  rcases hh with hh | hh | hh | hh | hh | hh | hh | hh | hh | hh | hh | hh | hh
  case inl =>
    obtain ⟨_, t', nz9, zz9, jj, kz9, b', a1z9, a2, a3, a4, a5, a6, a7, a8, a9⟩ := hh
    subst a1z9
    have n7 := a2.2
    have l7 : pd fz9 = 6 ∧ gr Gz9 fz9 + en ≤ na := by rcases h7 with h7 | h7; exact absurd h7 (by decide); exact h7
    have e4z9 : (ai_up Rz9 0 39 (nI t')) 4 nz9 = nI zz9 := by (repeat rw [ai_up_n (by omega)]); rw [y4 4 (by omega) (by omega)]; exact a4
    rcases yO_inv a5 with ⟨e1z9, e2z9⟩ | ⟨e1z9, e2z9, jj', mz9, z', sg, e5z9, e6z9, e7z9, e8, e9z9, e10z9⟩
    · subst e2z9
      refine rs_ref (R1 := ai_up Rz9 0 39 (nI t')) (k1 := kk + 1) (fun hl => ?_) (ihz9 _ _ _ _ (by omega) (Or.inr (Or.inr ⟨Gz9, pd, cs, nfz9, na, t', en, wt, l, fz9, bz9, h1.up (fun qz9 iz9 pz9 p' => rfl) (fun qz9 iz9 pz9 p' p'' => ?_) ⟨c1z9, ?_, by omega⟩ ⟨w1z9, ?_, w3z9, fun iz9 hiz9 => ?_⟩ hen' ?_, kc_keep l fz9 bz9 nfz9 na t' en wt (fun iz9 hiz9 => ?_) (fun iz9 hiz9 => ?_) (fun iz9 hiz9 => ⟨rfl, rfl⟩) (fun iz9 hiz9 => ⟨rfl, rfl⟩) (fun iz9 hiz9 => rfl) (fun iz9 hiz9 => ⟨rfl, rfl⟩) a9, h3, h4, fun _ => ?_, by simp only [po] at h6; omega⟩)))
      · refine lr_do (by omega) h39 (by omega) b5 a3 (by omega) (by omega) (by omega) (pf_9 (vX6_operandDone ⟨fun _ => ⟨i_in n7 (by omega), ?_⟩, fun hh => absurd rfl hh⟩))
        rw [nI_clamp (by omega), e4z9, e1z9]
        exact ⟨fun hh => absurd rfl hh, fun _ => hl⟩
      all_goals first | ((repeat rw [ai_up_n (by omega)]); done) | ((repeat rw [ai_up_n (by omega)]); rw [ai_up_s]; done) | ((repeat rw [ai_up_n (by omega)]); rw [ai_up_s]; (repeat rw [ai_up_n (by omega)]); rw [ai_up_s]; done) | ((repeat rw [ai_up_n (by omega)]); assumption) | ((repeat rw [ai_up_n (by omega)]); rw [ai_up_s]; assumption) | ((repeat rw [ai_up_n (by omega)]); exact w4z9 _ (by assumption))
    · have zn := yE_nd e5z9
      have zn' := zn.2
      have zb := yE_lt e5z9
      have zc := yO_le e10z9
      have zd := kc_lv a9
      have hz0 : ¬ nI zz9 = 0 := nI_ne0 (by omega) (by omega)
      refine rs_step hMz9 (by omega) b4 (st_wait hMz9 h3 hbe he y1 (by rw [y3 0]; exact e2z9) w1z9 w3z9 (fun hw => ?_) (fun hw => ?_))
      · refine rs_ref (R1 := ai_up (ai_up (ai_up (ai_up (ai_up (ai_up (ai_up Rz9 0 39 (nI t')) 29 wt (Cz9 9 6)) 0 49 (nI (wt + 1))) 22 t' (nI (10 + 16 * zz9 + 16384 * fz9))) 0 39 (nI (t' + 1))) 22 (t' + 1) (nI (8 + 16 * zz9 + 16384 * fz9))) 0 39 (nI (t' + 1 + 1))) (k1 := kk + 1) (fun hl => ?_) (ihz9 _ _ _ _ (by omega) (Or.inl ⟨Gz9, pd, cs, nfz9, na, t' + 1, en, wt + 1, 1 :: l, fz9, kz9, zz9, bz9 + 1, mz9, h1.up (fun qz9 iz9 pz9 p' => ?_) (fun qz9 iz9 pz9 p' p'' => ?_) ⟨?_, ?_, by omega⟩ ⟨?_, ?_, by omega, wt_push w4z9 (by (repeat rw [ai_up_o (by omega)]); rw [ai_up_q]; (repeat rw [ai_up_o (by omega)])) (by (repeat rw [ai_up_o (by omega)]); rw [ai_up_q]; (repeat rw [ai_up_o (by omega)]))⟩ ?_ ?_, ?_, e5z9, ⟨by omega, by omega, by omega, by omega, Or.inr l7, Or.inl (by omega), Or.inr (Or.inl ⟨rfl, t', zz9, z', jj', kz9, b', sg, wt, rfl, zn, ?_, e7z9, e8, e9z9, e6z9, e10z9, rfl, a6, a7, a8, kc_keep l fz9 b' nfz9 na t' en wt (fun iz9 hiz9 => ?_) (fun iz9 hiz9 => ?_) (fun iz9 hiz9 => ⟨?_, ?_⟩) (fun iz9 hiz9 => ⟨?_, ?_⟩) (fun iz9 hiz9 => ?_) (fun iz9 hiz9 => ⟨rfl, rfl⟩) a9⟩)⟩, rfl, hfn, l7.1, l7.2, ?_, ?_, by omega, by omega, ?_⟩))
        · refine lr_do (by omega) h39 (by omega) b5 a3 (by omega) (by omega) (by omega) (pf_9 (vX6_operandDone ⟨fun _ => ⟨i_in n7 (by omega), ?_⟩, fun hh => absurd rfl hh⟩))
          rw [nI_clamp (by omega), e4z9, show (ai_up Rz9 0 39 (nI t')) 0 49 = nI wt by (repeat rw [ai_up_n (by omega)]); exact w2z9, show (ai_up Rz9 0 39 (nI t')) 0 50 = Cz9 9 6 by (repeat rw [ai_up_n (by omega)]); exact hv.symm]
          refine ⟨fun _ => ⟨fun _ => ⟨i_in (by omega) (by omega), ?_⟩, fun hh => ?_⟩, fun hh => absurd hh hz0⟩
          · rw [nI_clamp (by omega), nI_1]
            refine sp_later (c := 10) (by (repeat rw [ai_up_n (by omega)]); exact ai_up_s) (by omega) ?_
            rw [show (ai_up (ai_up (ai_up (ai_up (ai_up Rz9 0 39 (nI t')) 29 wt (Cz9 9 6)) 0 49 (nI (wt + 1))) 22 t' (nI (10 + 16 * zz9 + 16384 * fz9))) 0 39 (nI (t' + 1))) 4 nz9 = nI zz9 by (repeat rw [ai_up_n (by omega)]); rw [y4 4 (by omega) (by omega)]; exact a4]
            exact sp_later (c := 8) ai_up_s (by omega) hl
          · rw [show (100 : Int32) = nI 100 from rfl, i_eq (by omega) (by omega)] at hh; omega
        all_goals first | (simp only [po] at h6 ⊢; omega) | skip
        all_goals first | ((repeat rw [ai_up_n (by omega)]); done) | ((repeat rw [ai_up_n (by omega)]); rw [ai_up_s]; done) | ((repeat rw [ai_up_n (by omega)]); rw [ai_up_s]; (repeat rw [ai_up_n (by omega)]); rw [ai_up_s]; done) | ((repeat rw [ai_up_n (by omega)]); assumption) | ((repeat rw [ai_up_n (by omega)]); rw [ai_up_s]; assumption) | ((repeat rw [ai_up_n (by omega)]); exact w4z9 _ (by assumption))
      · refine rs_stop (R' := ai_up (ai_up Rz9 0 39 (nI t')) 0 51 7) (k1 := kk + 1) hx h1 (v := 7) ⟨by decide, by decide⟩ ai_up_s ai_up_s (fun qz9 iz9 pz9 p' => ?_) (fun qz9 iz9 pz9 p' => ?_) ?_ (fun hl => ?_)
        · (repeat rw [ai_up_n (by omega)])
        · (repeat rw [ai_up_n (by omega)])
        · (repeat rw [ai_up_n (by omega)]); rw [c1z9, c2z9]
        · refine lr_do (by omega) h39 (by omega) b5 a3 (by omega) (by omega) (by omega) (pf_9 (vX6_operandDone ⟨fun _ => ⟨i_in n7 (by omega), ?_⟩, fun hh => absurd rfl hh⟩))
          rw [nI_clamp (by omega), e4z9, show (ai_up Rz9 0 39 (nI t')) 0 49 = nI wt by (repeat rw [ai_up_n (by omega)]); exact w2z9]
          refine ⟨fun _ => ⟨fun hh => absurd ?_ hh, fun hh => hl⟩, fun hh => absurd hh hz0⟩
          rw [hw]; rfl
  all_goals exact absurd hh.1 (by decide)
end BKS
