/-! ===== behind an actual by value; behind a body ===== -/
section RTS
variable {yz9 : ys_T} {xz9 : xs_T} {x0z9 fu Nz9 : Nat} {Cz9 Rz9 : ai_S} {jz9 kk : Nat} {Gz9 : gg_T} {pd : Nat → Nat} {cs nfz9 na tz9 en wt : Nat} {l : List Nat} {fz9 bz9 : Nat}
theorem go_arg (hy : yG yz9 x0z9) (hx : xk yz9 xz9) (ihz9 : go yz9 xz9 fu (Nz9 + 1)) (hNz9 : Nz9 ≤ 10 * jz9 + kk) (hz9 : rb yz9 xz9 fu Cz9 Rz9 jz9 kk Gz9 pd cs nfz9 na tz9 en wt (7 :: l) fz9 bz9) : rs xz9 Cz9 jz9 Rz9 kk := by
  obtain ⟨hbe, he, hfn, hnf, hna, hen, ht, hcs, hfu, hj, hk, hgi, hgt, hnf2⟩ := hz9.bd hy
  obtain ⟨h1, h2, h3, h4, h5, h6⟩ := hz9
  obtain ⟨y1, y2, y3, y4⟩ := h1.ly hx
  obtain ⟨_, ⟨b1, b2, _, b4, b5⟩, ⟨c1z9, c2z9, c3z9⟩, _, _, ⟨w1z9, w2z9, w3z9, w4z9⟩, hen', h39, hfr1, hfr, hfr2, hfr3⟩ := id h1
  have hv := h5 rfl
  have hMz9 := hx.1
  obtain ⟨l8, t', na', ca, pr, cntz9, wz9, iz9, c', nz9, b3, b', a1z9, a2, a3, a4, a5, a6, a7, a8, a9, a10, a11, a12, a13, a14, a15, a16, a17, a18, a19, a20, a21, a22, a23, a24⟩ := kci_7 h2
  obtain ⟨l8a, l8b⟩ := l8
  subst a1z9 a2 l8a
  obtain ⟨o, ca', cnt', w', f1z9, f2z9, f4z9, f5z9, f6z9, f7z9, f8z9, f9z9, f10, f11z9, f12z9, f13, f14z9, f15, f16, f17z9, f18, f19, f20z9, f21, f22, f23, f24, f25, f26⟩ := fo_call hfr (by omega) a12
  have e1z9 : cnt' = cntz9 := by
    have := f17z9.symm.trans a13
    rw [i_eq (by omega) (by omega)] at this
    exact this
  have e2z9 : w' = wz9 := by
    have := f19.symm.trans a14
    rw [i_eq (by omega) (by omega)] at this
    exact this
  have hcaf : ca < fz9 := by cases l <;> exact a24.2.1
  subst e1z9 e2z9
  obtain ⟨r25, _⟩ := hfr.2 fz9 (by omega)
  obtain ⟨k1z9, k2z9, k3z9, k4z9, k5z9, k6z9, k7z9, k8z9⟩ := f26 iz9 a7
  obtain ⟨xn, hxn⟩ : ∃ xn, xn = (ga Gz9 fz9 iz9).1 := ⟨_, rfl⟩
  rw [← hxn] at k1z9 k2z9 k3z9 a10
  have xn7 := k1z9.2
  have hbd := fo_bd hfr (show fz9 < fz9 + 1 by omega) hgt (v := iz9 + 1) (by omega)
  rw [f15, l8b] at hbd
  have hgra := fo_gr hfr ca (by omega)
  have hlv := kc_lv a24
  have hgica := (fo_top hfr (show ca < fz9 + 1 by omega)).2
  rw [Nat.add_sub_cancel, l8b] at hgica
  refine rs_step hMz9 (by omega) b4 (st_ctl hMz9 h3 hbe he y1 (c := 16) (by rw [y3 0]; exact a3) (by decide) (ct_16 hMz9 ?_))
  rw [show Cz9 22 bz9 = nI (iz9 + 1) by rw [y3 1]; exact a4, show (ai_up Cz9 9 4 (nI (bz9 + 1))) 9 5 = nI (na' + 1) by (repeat rw [ai_up_n (by omega)]); rw [h4, l8b], show (ai_up Cz9 9 4 (nI (bz9 + 1))) 9 6 = Cz9 9 6 by (repeat rw [ai_up_n (by omega)]), show (31 : Int32) = nI 31 from rfl, pk_mul, nI_add, show (na' + 1) * 31 + (iz9 + 1) = 31 * (na' + 1) + 1 + iz9 by omega, nI_clamp (by omega)]
  refine ⟨nI_pos (by omega), by rw [show (961 : Int32) = nI 961 from rfl, i_le (by omega) (by omega)]; omega, i_in (by omega) (by omega), ?_⟩
  obtain ⟨C1z9, hC1⟩ : ∃ C1z9, C1z9 = ai_up (ai_up Cz9 9 4 (nI (bz9 + 1))) 11 (31 * (na' + 1) + 1 + iz9) (Cz9 9 6) := ⟨_, rfl⟩
  obtain ⟨R1, hR1⟩ : ∃ R1, R1 = ai_up (ai_up Rz9 0 39 (nI t')) 27 (gb Gz9 fz9 + 1 + iz9) (Cz9 9 6) := ⟨_, rfl⟩
  rw [← hC1]
  have co : ∀ qz9 i', ¬ (qz9 = 9 ∧ i' = 4) → ¬ (qz9 = 11) → C1z9 qz9 i' = Cz9 qz9 i' := fun qz9 i' pz9 p' => by rw [hC1]; (repeat rw [ai_up_n (by omega)])
  have ro : ∀ qz9 i', ¬ (qz9 = 0 ∧ i' = 39) → ¬ (qz9 = 27) → R1 qz9 i' = Rz9 qz9 i' := fun qz9 i' pz9 p' => by rw [hR1]; (repeat rw [ai_up_n (by omega)])
  have hfr' : FR yz9 C1z9 R1 Gz9 (fun qz9 => if qz9 = fz9 then iz9 + 1 else pd qz9) (fz9 + 1) := hfr.arg a12 a5 a7 a13 a8 a14 a9 a6 (by rw [hC1, l8b, ai_up_q, ai_up_o (by omega)]) (by funext qz9; exact co _ _ (by omega) (by omega)) (by funext qz9; exact co _ _ (by omega) (by omega)) (by rw [hR1, ai_up_q, ai_up_o (by omega)]) (fun qz9 p1z9 p2z9 p3z9 => by funext q'; exact ro _ _ (by omega) (by omega))
  refine go_args hy hx ihz9 (by omega) (h1.gen (fun qz9 i' pz9 p' => co _ _ (by omega) (by omega)) (fun qz9 i' pz9 p' => ro _ _ (by omega) (by omega)) ⟨?_, ?_, c3z9⟩ ⟨?_, ?_, w3z9, fun i' hi' => ?_⟩ ?_ ?_ ⟨?_, hfr', ?_, hfr3⟩) a12 a13 a8 a14 a9 (by rw [ro _ _ (by omega) (by omega)]; exact a20) hcaf a23 (kc_keep l ca b' fz9 na' t' en wt (fun i' hi' => ro _ _ (by omega) (by omega)) (fun i' hi' => ro _ _ (by omega) (by omega)) (fun i' hi' => ⟨co _ _ (by omega) (by omega), co _ _ (by omega) (by omega)⟩) (fun i' hi' => ⟨co _ _ (by omega) (by omega), co _ _ (by omega) (by omega)⟩) (fun i' hi' => co _ _ (by omega) (by omega)) (fun i' hi' => ⟨rfl, if_neg (by omega)⟩) a24) (by rw [co _ _ (by omega) (by omega)]; exact a22) (if_pos rfl) a7 a15 a16 a17 a18 a19 ?_ ?_ (by omega) (by omega) (by simp only [po] at h6; omega) ((xz xz9).2.2.2.2.1 + 5) (fun hl => ?_)
  · rw [co _ _ (by omega) (by omega)]; exact c1z9
  · rw [ro _ _ (by omega) (by omega)]; exact c2z9
  · rw [co _ _ (by omega) (by omega)]; exact w1z9
  · rw [ro _ _ (by omega) (by omega)]; exact w2z9
  · rw [co _ _ (by omega) (by omega), ro _ _ (by omega) (by omega)]; exact w4z9 i' hi'
  · rw [co _ _ (by omega) (by omega)]; exact hen'
  · rw [hR1]; (repeat rw [ai_up_n (by omega)]); rw [ai_up_s]
  · rw [ro _ _ (by omega) (by omega)]; exact hfr1
  · rw [ro _ _ (by omega) (by omega)]; exact hfr2
  · rw [hC1]; (repeat rw [ai_up_n (by omega)]); rw [ai_up_s]
  · rw [co _ _ (by omega) (by omega), h4, l8b]
  · refine lr_do (by omega) h39 (by omega) b5 a10 (by omega) (by omega) (by omega) (pf_12 ?_)
    rw [nI_clamp (show fz9 < 2 ^ 31 by omega), nI_clamp (show xn < 2 ^ 31 by omega), show (ai_up Rz9 0 39 (nI t')) 25 fz9 = nI (gb Gz9 fz9) by (repeat rw [ai_up_n (by omega)]); exact r25, show (ai_up Rz9 0 39 (nI t')) 8 xn = nI iz9 by (repeat rw [ai_up_n (by omega)]); rw [y4 8 (by omega) (by omega)]; exact k2z9, show (ai_up Rz9 0 39 (nI t')) 4 xn = nI (if iz9 + 1 < cnt' then (ga Gz9 fz9 (iz9 + 1)).1 else 0) by (repeat rw [ai_up_n (by omega)]); rw [y4 4 (by omega) (by omega)]; exact k3z9, show (ai_up Rz9 0 39 (nI t')) 0 50 = Cz9 9 6 by (repeat rw [ai_up_n (by omega)]); exact hv.symm, nI_1, nI_add, nI_clamp (by omega), ← hR1]
    exact ⟨i_in (by omega) (by omega), i_in xn7 (by omega), i_in (by omega) (by omega), hl⟩
/-- a call ends -/
theorem go_ret (hy : yG yz9 x0z9) (hx : xk yz9 xz9) (ihz9 : go yz9 xz9 fu (Nz9 + 1)) (hNz9 : Nz9 ≤ 10 * jz9 + kk) (hz9 : rb yz9 xz9 fu Cz9 Rz9 jz9 kk Gz9 pd cs nfz9 na tz9 en wt (10 :: l) fz9 bz9) : rs xz9 Cz9 jz9 Rz9 kk := by
  obtain ⟨hbe, he, hfn, hnf, hna, hen, ht, hcs, hfu, hj, hk, hgi, hgt, hnf2⟩ := hz9.bd hy
  obtain ⟨h1, h2, h3, h4, h5, h6⟩ := hz9
  obtain ⟨y1, y2, y3, y4⟩ := h1.ly hx
  obtain ⟨⟨s1z9, s2z9, s3z9⟩, ⟨b1, b2, b3, b4, b5⟩, ⟨c1z9, c2z9, c3z9⟩, ⟨d1z9, d2z9, d3z9, d4z9, d5z9⟩, ⟨pc, p1z9, p2z9, p3z9, p4z9⟩, ⟨w1z9, w2z9, w3z9, w4z9⟩, hen', h39, hfr1, hfr, hfr2, hfr3⟩ := id h1
  have hMz9 := hx.1
  obtain ⟨l7, l8, ⟨pr, hs⟩, t', na', ca, b', a1z9, a2, a3, a4, a5, a6, a7⟩ := kci_10 h2
  obtain ⟨l8a, l8b⟩ := l8
  subst a1z9 a2 l8a
  obtain ⟨o, ca', cnt', w', f1z9, f2z9, f4z9, f5z9, f6z9, f7z9, f8z9, f9z9, f10, f11z9, f12z9, f13, f14z9, f15, f16, f17z9, f18, f19, f20z9, f21, f22, f23, f24, f25, f26⟩ := fo_call hfr (by omega) hs
  obtain ⟨r25, _, _, hval, _⟩ := hfr.2 fz9 (by omega)
  have hv0 := hval 0 (by omega) (by rw [f24]; rfl) (Or.inl l7.1)
  rw [f15, l8b, Nat.add_zero, Nat.add_zero, Nat.add_zero] at hv0
  have hbd := fo_bd hfr (show fz9 < fz9 + 1 by omega) hgt (v := 0) (by omega)
  have hst := fo_step hfr (f := fz9 - 1) (by omega)
  rw [Nat.sub_add_cancel f1z9] at hst
  have hlv := kc_lv a7
  refine rs_step hMz9 (by omega) b4 (st_ctl hMz9 h3 hbe he y1 (c := 17) (by rw [y3 0]; exact a3) (by decide) (ct_17 hMz9 ?_))
  rw [show (ai_up Cz9 9 4 (nI (bz9 + 1))) 10 5 = nI (na' + 1) by (repeat rw [ai_up_n (by omega)]); exact d1z9, show (31 : Int32) = nI 31 from rfl, show (0 : Int32) = nI 0 from rfl, pk_mul, nI_add, show (na' + 1) * 31 + 0 = 31 * (na' + 1) by omega, nI_clamp (show 31 * (na' + 1) < 2 ^ 31 by omega), nI_clamp (show na' + 1 < 2 ^ 31 by omega), nI_pred, show (ai_up Cz9 9 4 (nI (bz9 + 1))) 11 (31 * (na' + 1)) = Rz9 27 (gb Gz9 fz9) by (repeat rw [ai_up_n (by omega)]); exact hv0, show (ai_up Cz9 9 4 (nI (bz9 + 1))) 14 (na' + 1) = nI b' by (repeat rw [ai_up_n (by omega)]); exact a6, show (ai_up Cz9 9 4 (nI (bz9 + 1))) 13 (na' + 1) = nI (gi Gz9 ca) by (repeat rw [ai_up_n (by omega)]); exact a5]
  refine ⟨nI_pos (by omega), by rw [show (961 : Int32) = nI 961 from rfl, i_le (by omega) (by omega)]; omega, i_in (by omega) (by omega), nI_pos (by omega), by rw [i_le (by omega) (by omega)]; omega, i_in (by omega) (by omega), by rw [i_le (by omega) (by omega)]; omega, ?_⟩
  obtain ⟨C1z9, hC1⟩ : ∃ C1z9, C1z9 = ai_up (ai_up (ai_up (ai_up (ai_up Cz9 9 4 (nI (bz9 + 1))) 9 6 (Rz9 27 (gb Gz9 fz9))) 9 4 (nI b')) 9 5 (nI (gi Gz9 ca))) 10 5 (nI na') := ⟨_, rfl⟩
  obtain ⟨R1, hR1⟩ : ∃ R1, R1 = ai_up (ai_up (ai_up (ai_up (ai_up Rz9 0 39 (nI t')) 0 50 (Rz9 27 (gb Gz9 fz9))) 0 54 (nI na')) 0 46 (nI fz9)) 0 47 (nI (gb Gz9 fz9)) := ⟨_, rfl⟩
  rw [← hC1]
  have co : ∀ qz9 i', ¬ (qz9 = 9 ∧ (i' = 4 ∨ i' = 5 ∨ i' = 6)) → ¬ (qz9 = 10 ∧ i' = 5) → C1z9 qz9 i' = Cz9 qz9 i' := fun qz9 i' pz9 p' => by rw [hC1]; (repeat rw [ai_up_n (by omega)])
  have ro : ∀ qz9 i', ¬ (qz9 = 0 ∧ (i' = 39 ∨ i' = 46 ∨ i' = 47 ∨ i' = 50 ∨ i' = 54)) → R1 qz9 i' = Rz9 qz9 i' := fun qz9 i' pz9 => by rw [hR1]; (repeat rw [ai_up_n (by omega)])
  refine rs_ref (R1 := R1) (k1 := kk + 1) (fun hl => ?_) (ihz9 C1z9 R1 (jz9 + 1) (kk + 1) (by omega) (Or.inr (Or.inr ⟨Gz9, pd, cs, fz9, na', t', en, wt, l, ca, b', ⟨⟨fun qz9 hq => ?_, fun qz9 q1z9 q2z9 => ?_, fun qz9 hq => ?_⟩, ⟨?_, ?_, b3, ?_, ?_⟩, ⟨?_, ?_, c3z9⟩, ⟨?_, ?_, by omega, ?_, ?_⟩, ⟨pc, ?_, ?_, p3z9, fun iz9 hiz9 => ?_⟩, ⟨?_, ?_, w3z9, fun iz9 hiz9 => ?_⟩, ?_, ?_, ?_, FR.keep (C := Cz9) (R := Rz9) ⟨f1z9, fun gz9 hg => hfr.2 gz9 (by omega)⟩ ?_ ?_ ?_ (fun qz9 q1z9 q2z9 => ?_), ?_, by omega⟩, kc_keep l ca b' fz9 na' t' en wt (fun iz9 hiz9 => ro _ _ (by omega)) (fun iz9 hiz9 => ro _ _ (by omega)) (fun iz9 hiz9 => ⟨co _ _ (by omega) (by omega), co _ _ (by omega) (by omega)⟩) (fun iz9 hiz9 => ⟨co _ _ (by omega) (by omega), co _ _ (by omega) (by omega)⟩) (fun iz9 hiz9 => co _ _ (by omega) (by omega)) (fun iz9 hiz9 => ⟨rfl, rfl⟩) a7, ?_, ?_, fun _ => ?_, ?_⟩)))
  · refine lr_do (n := 0) (by omega) h39 (by omega) b5 (c := 13) (by rw [a4]) (by omega) (by omega) (by omega) (pf_13 ?_)
    rw [nI_clamp (show fz9 < 2 ^ 31 by omega), show (ai_up Rz9 0 39 (nI t')) 25 fz9 = nI (gb Gz9 fz9) by (repeat rw [ai_up_n (by omega)]); exact r25, nI_clamp (by omega), show (ai_up Rz9 0 39 (nI t')) 27 (gb Gz9 fz9) = Rz9 27 (gb Gz9 fz9) by (repeat rw [ai_up_n (by omega)]), show (ai_up Rz9 0 39 (nI t')) 0 54 = nI (na' + 1) by (repeat rw [ai_up_n (by omega)]); exact d2z9, nI_pred, ← hR1]
    exact ⟨i_in (by omega) (by omega), i_in (by omega) (by omega), hl⟩
  · rw [← s1z9 qz9 hq]; funext iz9; exact co _ _ (by omega) (by omega)
  · rw [← s2z9 qz9 q1z9 q2z9]; funext iz9; exact ro _ _ (by omega)
  · rw [← s3z9 qz9 hq]; exact ro _ _ (by omega)
  · rw [co _ _ (by omega) (by omega)]; exact b1
  · rw [ro _ _ (by omega)]; exact b2
  · rw [co _ _ (by omega) (by omega)]; exact b4
  · rw [ro _ _ (by omega)]; exact b5
  · rw [co _ _ (by omega) (by omega)]; exact c1z9
  · rw [ro _ _ (by omega)]; exact c2z9
  · rw [hC1, ai_up_s]
  · rw [hR1]; (repeat rw [ai_up_n (by omega)]); rw [ai_up_s]
  · rw [co _ _ (by omega) (by omega), ro _ _ (by omega)]; exact d4z9
  · rw [co _ _ (by omega) (by omega), ro _ _ (by omega)]; exact d5z9
  · rw [co _ _ (by omega) (by omega)]; exact p1z9
  · rw [ro _ _ (by omega)]; exact p2z9
  · rw [co _ _ (by omega) (by omega), ro _ _ (by omega)]; exact p4z9 iz9 hiz9
  · rw [co _ _ (by omega) (by omega)]; exact w1z9
  · rw [ro _ _ (by omega)]; exact w2z9
  · rw [co _ _ (by omega) (by omega), ro _ _ (by omega)]; exact w4z9 iz9 hiz9
  · rw [co _ _ (by omega) (by omega)]; exact hen'
  · rw [hR1]; (repeat rw [ai_up_n (by omega)]); rw [ai_up_s]
  · rw [hR1]; (repeat rw [ai_up_n (by omega)]); rw [ai_up_s]
  · funext iz9; exact co _ _ (by omega) (by omega)
  · funext iz9; exact co _ _ (by omega) (by omega)
  · funext iz9; exact co _ _ (by omega) (by omega)
  · funext iz9; exact ro _ _ (by omega)
  · rw [hR1, ai_up_s, hst.1]
  · rw [hC1]; (repeat rw [ai_up_n (by omega)]); rw [ai_up_s]
  · rw [hC1]; (repeat rw [ai_up_n (by omega)]); rw [ai_up_s]
  · rw [hC1, hR1]; (repeat rw [ai_up_n (by omega)]); rw [ai_up_s]; (repeat rw [ai_up_n (by omega)]); rw [ai_up_s]
  · simp only [po] at h6; omega
end RTS
