/-! ===== behind values and statements ===== -/
section BKU
variable {yz9 : ys_T} {xz9 : xs_T} {x0z9 fu Nz9 : Nat} {Cz9 Rz9 C'z9 R' C0z9 R0z9 : ai_S} {jz9 kk : Nat} {Gz9 : gg_T} {pd : Nat → Nat} {cs nfz9 na tz9 t' en wt : Nat} {l : List Nat} {fz9 bz9 : Nat}
theorem iv.pr (hz9 : iv yz9 C0z9 R0z9 Cz9 Rz9 Gz9 pd fu cs nfz9 na tz9 en wt) {pc' : Nat} (hcz9 : ∀ qz9 iz9, ¬ (qz9 = 9 ∧ (iz9 = 4 ∨ iz9 = 14)) → ¬ qz9 = 19 → C'z9 qz9 iz9 = Cz9 qz9 iz9) (hr : ∀ qz9 iz9, ¬ (qz9 = 0 ∧ (iz9 = 39 ∨ iz9 = 57)) → ¬ qz9 = 30 → R' qz9 iz9 = Rz9 qz9 iz9)
    (h14 : C'z9 9 14 = nI pc' ∧ R' 0 57 = nI pc' ∧ pc' ≤ 32 ∧ ∀ iz9, iz9 < pc' → C'z9 19 iz9 = R' 30 iz9) (h39 : R' 0 39 = nI t') : iv yz9 C0z9 R0z9 C'z9 R' Gz9 pd fu cs nfz9 na t' en wt := by
  obtain ⟨⟨a1z9, a2, a3⟩, ⟨b1, b2, b3, b4, b5⟩, ⟨c1z9, c2z9, c3z9⟩, ⟨d1z9, d2z9, d3z9, d4z9, d5z9⟩, _, ⟨w1z9, w2z9, w3z9, w4z9⟩, g1, _, f1z9, f2z9, f3z9, f4z9⟩ := hz9
  refine ⟨⟨fun qz9 hq => ?_, fun qz9 h1 h2 => ?_, fun jz9 hj => ?_⟩, ⟨?_, ?_, b3, ?_, ?_⟩, ⟨?_, ?_, c3z9⟩, ⟨?_, ?_, d3z9, ?_, ?_⟩, ⟨pc', h14⟩, ⟨?_, ?_, w3z9, fun iz9 hiz9 => ?_⟩, ?_, h39, ?_, f2z9.keep ?_ ?_ ?_ (fun qz9 h1 h2 => ?_), ?_, f4z9⟩
  · rw [← a1z9 qz9 hq]; funext iz9; exact hcz9 qz9 iz9 (by omega) (by omega)
  · rw [← a2 qz9 h1 h2]; funext iz9; exact hr qz9 iz9 (by omega) (by omega)
  · rw [← a3 jz9 hj]; exact hr 0 jz9 (by omega) (by omega)
  · rw [hcz9 9 1 (by omega) (by omega)]; exact b1
  · rw [hr 0 52 (by omega) (by omega)]; exact b2
  · rw [hcz9 9 3 (by omega) (by omega)]; exact b4
  · rw [hr 0 51 (by omega) (by omega)]; exact b5
  · rw [hcz9 9 2 (by omega) (by omega)]; exact c1z9
  · rw [hr 0 53 (by omega) (by omega)]; exact c2z9
  · rw [hcz9 10 5 (by omega) (by omega)]; exact d1z9
  · rw [hr 0 54 (by omega) (by omega)]; exact d2z9
  · rw [hcz9 10 6 (by omega) (by omega), hr 0 55 (by omega) (by omega)]; exact d4z9
  · rw [hcz9 10 7 (by omega) (by omega), hr 0 56 (by omega) (by omega)]; exact d5z9
  · rw [hcz9 9 12 (by omega) (by omega)]; exact w1z9
  · rw [hr 0 49 (by omega) (by omega)]; exact w2z9
  · rw [hcz9 18 iz9 (by omega) (by omega), hr 29 iz9 (by omega) (by omega)]; exact w4z9 iz9 hiz9
  · rw [hcz9 9 10 (by omega) (by omega)]; exact g1
  · rw [hr 0 46 (by omega) (by omega)]; exact f1z9
  · funext iz9; exact hcz9 11 iz9 (by omega) (by omega)
  · funext iz9; exact hcz9 12 iz9 (by omega) (by omega)
  · funext iz9; exact hcz9 13 iz9 (by omega) (by omega)
  · funext iz9; exact hr qz9 iz9 (by omega) (by omega)
  · rw [hr 0 47 (by omega) (by omega)]; exact f3z9
theorem pt_push {wz9 : Nat} {vz9 : Int32} (hz9 : ∀ iz9, iz9 < wz9 → Cz9 19 iz9 = Rz9 30 iz9) (hcz9 : C'z9 19 = upd (Cz9 19) wz9 vz9) (hr : R' 30 = upd (Rz9 30) wz9 vz9) : ∀ iz9, iz9 < wz9 + 1 → C'z9 19 iz9 = R' 30 iz9 := by
  intro iz9 hiz9
  rw [hcz9, hr]
  unfold upd
  by_cases ez9 : iz9 = wz9
  · rw [if_pos ez9, if_pos ez9]
  · rw [if_neg ez9, if_neg ez9]
    exact hz9 iz9 (by omega)
/-- a print -/
theorem go_print (hy : yG yz9 x0z9) (hx : xk yz9 xz9) (ihz9 : go yz9 xz9 fu (Nz9 + 1)) (hNz9 : Nz9 ≤ 10 * jz9 + kk) (hz9 : rb yz9 xz9 fu Cz9 Rz9 jz9 kk Gz9 pd cs nfz9 na tz9 en wt (4 :: l) fz9 bz9) : rs xz9 Cz9 jz9 Rz9 kk := by
  obtain ⟨hbe, he, hfn, hnf, hna, hen, ht, hcs, hfu, hj, hk, hgi, hgt, hnf2⟩ := hz9.bd hy
  obtain ⟨h1, h2, h3, h4, h5, h6⟩ := hz9
  obtain ⟨y1, y2, y3, y4⟩ := h1.ly hx
  obtain ⟨_, ⟨b1, b2, _, b4, b5⟩, ⟨c1z9, c2z9, c3z9⟩, _, ⟨pc, p1z9, p2z9, p3z9, p4z9⟩, ⟨w1z9, w2z9, w3z9, w4z9⟩, hen', h39, hfr1, hfr, hfr2, hfr3⟩ := id h1
  have hv := h5 rfl
  have hMz9 := hx.1
  obtain ⟨l7, l8, a0z9, t', a1z9, a2, a8, a9⟩ := kci_4 h2
  subst a1z9
  refine rs_step hMz9 (by omega) b4 (st_ctl hMz9 h3 hbe he y1 (c := 5) (by rw [y3 0]; exact a0z9) (by decide) (ct_5 hMz9 ⟨fun hp => ?_, fun hp => ?_⟩))
  · rw [show (ai_up Cz9 9 4 (nI (bz9 + 1))) 9 14 = nI pc by (repeat rw [ai_up_n (by omega)]); exact p1z9, show (32 : Int32) = nI 32 from rfl, i_lt (by omega) (by omega)] at hp
    rw [show (ai_up Cz9 9 4 (nI (bz9 + 1))) 9 14 = nI pc by (repeat rw [ai_up_n (by omega)]); exact p1z9, nI_clamp (by omega), nI_1, show (ai_up Cz9 9 4 (nI (bz9 + 1))) 9 6 = Cz9 9 6 by (repeat rw [ai_up_n (by omega)])]
    refine ⟨i_in hp (by omega), rs_ref (R1 := ai_up (ai_up (ai_up Rz9 0 39 (nI t')) 30 pc (Cz9 9 6)) 0 57 (nI (pc + 1))) (k1 := kk + 1) (fun hl => ?_) (ihz9 _ _ _ _ (by omega) (Or.inr (Or.inr ⟨Gz9, pd, cs, nfz9, na, t', en, wt, l, fz9, bz9 + 1, h1.pr (pc' := pc + 1) (fun qz9 iz9 pz9 p' => ?_) (fun qz9 iz9 pz9 p' => ?_) ⟨?_, ?_, by omega, pt_push p4z9 (by (repeat rw [ai_up_o (by omega)]); rw [ai_up_q]; (repeat rw [ai_up_o (by omega)])) (by (repeat rw [ai_up_o (by omega)]); rw [ai_up_q]; (repeat rw [ai_up_o (by omega)]))⟩ ?_, kc_keep l fz9 (bz9 + 1) nfz9 na t' en wt (fun iz9 hiz9 => ?_) (fun iz9 hiz9 => ?_) (fun iz9 hiz9 => ⟨?_, ?_⟩) (fun iz9 hiz9 => ⟨?_, ?_⟩) (fun iz9 hiz9 => ?_) (fun iz9 hiz9 => ⟨rfl, rfl⟩) a9, ?_, ?_, fun hh => ?_, by simp only [po] at h6; omega⟩)))⟩
    · refine lr_do (n := 0) (f := 0) (by omega) h39 (by omega) b5 (c := 2) (by rw [a2]) (by omega) (by omega) (by omega) (pf_2 ⟨fun _ => ?_, fun hh => ?_⟩)
      · rw [show (ai_up Rz9 0 39 (nI t')) 0 57 = nI pc by (repeat rw [ai_up_n (by omega)]); exact p2z9, nI_clamp (by omega), nI_1, show (ai_up Rz9 0 39 (nI t')) 0 50 = Cz9 9 6 by (repeat rw [ai_up_n (by omega)]); exact hv.symm]
        exact ⟨i_in hp (by omega), hl⟩
      · rw [show (ai_up Rz9 0 39 (nI t')) 0 57 = nI pc by (repeat rw [ai_up_n (by omega)]); exact p2z9, show (32 : Int32) = nI 32 from rfl, i_eq (by omega) (by omega)] at hh
        omega
    all_goals first | (rw [a8] at hh; cases hh; done) | skip
    all_goals first | ((repeat rw [ai_up_n (by omega)]); done) | ((repeat rw [ai_up_n (by omega)]); rw [ai_up_s]; done) | ((repeat rw [ai_up_n (by omega)]); rw [ai_up_s]; (repeat rw [ai_up_n (by omega)]); rw [ai_up_s]; done) | ((repeat rw [ai_up_n (by omega)]); assumption) | ((repeat rw [ai_up_n (by omega)]); rw [ai_up_s]; assumption) | ((repeat rw [ai_up_n (by omega)]); exact w4z9 _ (by assumption))
  · rw [show (ai_up Cz9 9 4 (nI (bz9 + 1))) 9 14 = nI pc by (repeat rw [ai_up_n (by omega)]); exact p1z9, show (32 : Int32) = nI 32 from rfl, i_lt (by omega) (by omega)] at hp
    refine rs_stop (R' := ai_up (ai_up Rz9 0 39 (nI t')) 0 51 6) (k1 := kk + 1) hx h1 (v := 6) ⟨by decide, by decide⟩ ai_up_s ai_up_s (fun qz9 iz9 pz9 p' => ?_) (fun qz9 iz9 pz9 p' => ?_) ?_ (fun hl => ?_)
    · (repeat rw [ai_up_n (by omega)])
    · (repeat rw [ai_up_n (by omega)])
    · (repeat rw [ai_up_n (by omega)]); rw [c1z9, c2z9]
    · refine lr_do (n := 0) (f := 0) (by omega) h39 (by omega) b5 (c := 2) (by rw [a2]) (by omega) (by omega) (by omega) (pf_2 ⟨fun hh => absurd ?_ hh, fun hh => hl⟩)
      rw [show (ai_up Rz9 0 39 (nI t')) 0 57 = nI pc by (repeat rw [ai_up_n (by omega)]); exact p2z9, show (32 : Int32) = nI 32 from rfl, i_eq (by omega) (by omega)]
      omega
end BKU
