/-! ===== calls in expressions and as statements; all turns together ===== -/
section RUN
variable {yz9 : ys_T} {xz9 : xs_T} {x0z9 fu Nz9 : Nat} {Cz9 Rz9 : ai_S} {jz9 kk : Nat} {Gz9 : gg_T} {pd : Nat → Nat} {cs nfz9 na tz9 en wt : Nat} {l : List Nat} {fz9 kz9 nz9 az9 bz9 : Nat}
theorem yU_op3 {scz9 : sc_T} (hz9 : yU yz9 scz9 nz9 az9 15 14 13) : yK yz9 0 az9 = 13 ∨ yK yz9 0 az9 = 14 ∨ yK yz9 0 az9 = 15 := by
  rcases yU_op hz9 with hz9 | hz9 | hz9
  · exact Or.inr (Or.inr hz9)
  · exact Or.inr (Or.inl hz9)
  · exact Or.inl hz9
/-- a call in an expression -/
theorem go_ecl (hy : yG yz9 x0z9) (hx : xk yz9 xz9) (ihz9 : go yz9 xz9 fu (Nz9 + 1)) (hNz9 : Nz9 ≤ 10 * jz9 + kk) (hz9 : eb yz9 xz9 fu Cz9 Rz9 jz9 kk Gz9 pd cs nfz9 na tz9 en wt l fz9 (kz9 + 1) nz9 az9 bz9) (g1 : yR yz9 2 nz9 = 9) (g2 : yU yz9 (gs Gz9 fz9) nz9 az9 15 14 13) {qz9 : Nat} (g3z9 : yR yz9 3 nz9 = nI qz9) (g4 : yL yz9 (gs Gz9 fz9) kz9 6 qz9 (az9 + 1) bz9 0) : rs xz9 Cz9 jz9 Rz9 kk := by
  obtain ⟨n7, hab, hbe, he, hnf, hna, hen, ht, hcs, hfu, hj, hk, hgi, hgt⟩ := hz9.bd hy
  obtain ⟨h1, h2, h3, h4, h5, h6, h7, h8, h9, h10, h11, h12, h13⟩ := hz9
  obtain ⟨y1, y2, y3, y4⟩ := h1.ly hx
  obtain ⟨_, ⟨b1, b2, _, b4, b5⟩, ⟨c1z9, c2z9, c3z9⟩, _, _, _, hen', h39, _⟩ := id h1
  have n7' := n7.2
  obtain ⟨cntz9, hv, l1, l2, l3, l4, l5⟩ := li_ex 6 qz9 (az9 + 1) 0 g4
  have r2 : (ai_up Rz9 0 39 (nI tz9)) 2 nz9 = 9 := by (repeat rw [ai_up_n (by omega)]); rw [y4 2 (by omega) (by omega)]; exact g1
  refine go_call hy hx ihz9 hNz9 h1 h4 h6 h7 h8 h9 h10 hab hj (yU_op3 g2) (fun Cb Rbz9 q1z9 q2z9 q3z9 q4z9 => cl_all hy hx.1 q1z9 (by omega) hgt h6 h7 (by omega) n7' q2z9 q3z9 q4z9 g2) (show cntz9 ≤ 6 by omega) l3 (by rw [l4]) (fun iz9 hiz9 => l5 iz9 (Nat.zero_le _) hiz9) (by omega) (Or.inr ⟨by rw [g1]; decide, by rw [l4]; exact g3z9⟩) n7' (by omega) (fun hlt hG => ?_) (fun hle hl => ?_)
  · refine lr_do (by omega) h39 (by omega) b5 h2 (by omega) (by omega) (by omega) (pf_8 (vX6_evaluate ⟨i_in n7' (by omega), ?_⟩))
    rw [nI_clamp (by omega), r2]
    exact ⟨fun _ => ⟨fun _ => ⟨fun hh => absurd rfl hh, fun _ => sp_pay (by (repeat rw [ai_up_n (by omega)]); exact b2) (by (repeat rw [ai_up_n (by omega)]); exact c2z9) hfu hcs (fun _ => ai_zt hG) (fun hh => by omega)⟩, fun hh => absurd hh (by decide)⟩, fun hh => absurd hh (by decide)⟩
  · refine lr_do (by omega) h39 (by omega) b5 h2 (by omega) (by omega) (by omega) (pf_8 (vX6_evaluate ⟨i_in n7' (by omega), ?_⟩))
    rw [nI_clamp (by omega), r2]
    exact ⟨fun _ => ⟨fun _ => ⟨fun hh => absurd rfl hh, fun _ => sp_pay (by (repeat rw [ai_up_n (by omega)]); exact b2) (by (repeat rw [ai_up_n (by omega)]); exact c2z9) hfu hcs (fun hh => by omega) (fun _ => ai_zf hl)⟩, fun hh => absurd hh (by decide)⟩, fun hh => absurd hh (by decide)⟩
/-- a procedure's name alone -/
theorem go_enm (hy : yG yz9 x0z9) (hx : xk yz9 xz9) (ihz9 : go yz9 xz9 fu (Nz9 + 1)) (hNz9 : Nz9 ≤ 10 * jz9 + kk) (hz9 : eb yz9 xz9 fu Cz9 Rz9 jz9 kk Gz9 pd cs nfz9 na tz9 en wt l fz9 (kz9 + 1) nz9 az9 (az9 + 1)) (g1 : yR yz9 2 nz9 = 8) (g2 : yK yz9 0 az9 = 13) (g3z9 : cx_rs (yR yz9) (yb yz9) (yC yz9) (gs Gz9 fz9) (yR yz9 5 nz9) (yR yz9 6 nz9) (yR yz9 7 nz9) 2 (yK yz9 1 az9) (yK yz9 2 az9)) : rs xz9 Cz9 jz9 Rz9 kk := by
  obtain ⟨n7, hab, hbe, he, hnf, hna, hen, ht, hcs, hfu, hj, hk, hgi, hgt⟩ := hz9.bd hy
  obtain ⟨h1, h2, h3, h4, h5, h6, h7, h8, h9, h10, h11, h12, h13⟩ := hz9
  obtain ⟨y1, y2, y3, y4⟩ := h1.ly hx
  obtain ⟨_, ⟨b1, b2, _, b4, b5⟩, ⟨c1z9, c2z9, c3z9⟩, _, _, _, hen', h39, _, hfr, _⟩ := id h1
  have n7' := n7.2
  have k5z9 : yR yz9 5 nz9 = 2 := by
    obtain ⟨f', _, _, _, _, a6⟩ := fo_nm hy hfr (by omega) hgt h6 h7 g3z9
    rcases a6 with ⟨a6, _⟩ | ⟨a6, _⟩ | ⟨_, a6, _⟩
    · exact absurd a6 (by decide)
    · exact absurd a6 (by decide)
    · exact a6
  have r2 : (ai_up Rz9 0 39 (nI tz9)) 2 nz9 = 8 := by (repeat rw [ai_up_n (by omega)]); rw [y4 2 (by omega) (by omega)]; exact g1
  have r5z9 : (ai_up Rz9 0 39 (nI tz9)) 5 nz9 = 2 := by (repeat rw [ai_up_n (by omega)]); rw [y4 5 (by omega) (by omega)]; exact k5z9
  refine go_call (hv := fun _ => (0, az9 + 1)) hy hx ihz9 hNz9 h1 h4 h6 h7 h8 h9 h10 hab hj (Or.inl g2) (fun Cb Rbz9 q1z9 q2z9 q3z9 q4z9 => cl_prc hy q1z9 (by omega) hgt h6 h7 n7' q4z9 g2 g3z9) (Nat.zero_le _) rfl rfl (fun iz9 hiz9 => by omega) (Nat.zero_le _) (Or.inl ⟨g1, rfl⟩) n7' (by omega) (fun hlt hG => ?_) (fun hle hl => ?_)
  · refine lr_do (by omega) h39 (by omega) b5 h2 (by omega) (by omega) (by omega) (pf_8 (vX6_evaluate ⟨i_in n7' (by omega), ?_⟩))
    rw [nI_clamp (by omega), r2, r5z9]
    exact ⟨fun _ => ⟨fun hh => absurd rfl hh, fun _ => ⟨fun _ => ⟨fun _ => sp_pay (by (repeat rw [ai_up_n (by omega)]); exact b2) (by (repeat rw [ai_up_n (by omega)]); exact c2z9) hfu hcs (fun _ => ai_zt hG) (fun hh => by omega), fun hh => absurd rfl hh⟩, fun hh => absurd hh (by decide)⟩⟩, fun hh => absurd hh (by decide)⟩
  · refine lr_do (by omega) h39 (by omega) b5 h2 (by omega) (by omega) (by omega) (pf_8 (vX6_evaluate ⟨i_in n7' (by omega), ?_⟩))
    rw [nI_clamp (by omega), r2, r5z9]
    exact ⟨fun _ => ⟨fun hh => absurd rfl hh, fun _ => ⟨fun _ => ⟨fun _ => sp_pay (by (repeat rw [ai_up_n (by omega)]); exact b2) (by (repeat rw [ai_up_n (by omega)]); exact c2z9) hfu hcs (fun hh => by omega) (fun _ => ai_zf hl), fun hh => absurd rfl hh⟩, fun hh => absurd hh (by decide)⟩⟩, fun hh => absurd hh (by decide)⟩
/-- a call as a statement -/
theorem go_scl (hy : yG yz9 x0z9) (hx : xk yz9 xz9) (ihz9 : go yz9 xz9 fu (Nz9 + 1)) (hNz9 : Nz9 ≤ 10 * jz9 + kk) (hz9 : sb yz9 xz9 fu Cz9 Rz9 jz9 kk Gz9 pd cs nfz9 na tz9 en wt l fz9 (kz9 + 1) nz9 az9 bz9) (g1 : yR yz9 2 nz9 = 2) (g2 : yU yz9 (gs Gz9 fz9) nz9 az9 15 14 13) {qz9 : Nat} (g3z9 : yR yz9 3 nz9 = nI qz9) (g4 : yL yz9 (gs Gz9 fz9) 50 6 qz9 (az9 + 1) bz9 0) : rs xz9 Cz9 jz9 Rz9 kk := by
  obtain ⟨n7, hab, hbe, he, hnf, hna, hen, ht, hcs, hfu, hj, hk, hgi, hgt, hpd, hgr, hk0⟩ := hz9.bd hy
  obtain ⟨h1, h2, h3, h4, h5, h6, h7, h8, h9, h10, h11⟩ := hz9
  obtain ⟨y1, y2, y3, y4⟩ := h1.ly hx
  obtain ⟨_, ⟨b1, b2, _, b4, b5⟩, ⟨c1z9, c2z9, c3z9⟩, _, _, _, hen', h39, _⟩ := id h1
  have n7' := n7.2
  obtain ⟨cntz9, hv, l1, l2, l3, l4, l5⟩ := li_ex 6 qz9 (az9 + 1) 0 g4
  refine go_call hy hx ihz9 hNz9 h1 h4 (by omega) hpd hgr h7 h8 hab hj (yU_op3 g2) (fun Cb Rbz9 q1z9 q2z9 q3z9 q4z9 => cl_all hy hx.1 q1z9 (by omega) hgt (by omega) hpd (by omega) n7' q2z9 q3z9 q4z9 g2) (show cntz9 ≤ 6 by omega) l3 (by rw [l4]) (fun iz9 hiz9 => l5 iz9 (Nat.zero_le _) hiz9) (Nat.le_refl _) (Or.inr ⟨by rw [g1]; decide, by rw [l4]; exact g3z9⟩) n7' (by omega) (fun hlt hG => ?_) (fun hle hl => ?_)
  · refine lr_do (by omega) h39 (by omega) b5 h2 (by omega) (by omega) (by omega) (pf_0 (vX6_statement (sp_pay (by (repeat rw [ai_up_n (by omega)]); exact b2) (by (repeat rw [ai_up_n (by omega)]); exact c2z9) hfu hcs (fun _ => ai_zt ⟨i_in n7' (by omega), ?_⟩) (fun hh => by omega))))
    rw [nI_clamp (by omega), show (ai_up (ai_up Rz9 0 39 (nI tz9)) 0 53 (nI (cs + 1))) 2 nz9 = 2 by (repeat rw [ai_up_n (by omega)]); rw [y4 2 (by omega) (by omega)]; exact g1]
    exact ⟨fun hh => absurd hh (by decide), fun _ => hG, fun hh => absurd hh (by decide), fun hh => absurd hh (by decide), fun hh => absurd hh (by decide), fun hh => absurd rfl hh.2.1⟩
  · exact lr_do (by omega) h39 (by omega) b5 h2 (by omega) (by omega) (by omega) (pf_0 (vX6_statement (sp_pay (by (repeat rw [ai_up_n (by omega)]); exact b2) (by (repeat rw [ai_up_n (by omega)]); exact c2z9) hfu hcs (fun hh => by omega) (fun _ => ai_zf hl))))
/-- one turn -/
theorem go_turn (hy : yG yz9 x0z9) (hx : xk yz9 xz9) (ihz9 : go yz9 xz9 fu (Nz9 + 1)) : go yz9 xz9 fu Nz9 := by
  intro Cz9 Rz9 jz9 kk hNz9 hz9
  rcases hz9 with hz9 | hz9 | hz9
  · obtain ⟨Gz9, pd, cs, nfz9, na, tz9, en, wt, l, fz9, kz9, nz9, az9, bz9, hz9⟩ := hz9
    have hbz9 : eb yz9 xz9 fu Cz9 Rz9 jz9 kk Gz9 pd cs nfz9 na tz9 en wt l fz9 kz9 nz9 az9 bz9 := hz9
    obtain ⟨k', ek, hE⟩ := yE_inv hz9.2.2.1
    subst ek
    rcases hE with ⟨t1z9, t2z9, t3z9, t4z9, t5z9⟩ | ⟨t1z9, ⟨kd, t2z9, t3z9⟩, t4z9⟩ | ⟨t1z9, t2z9, qz9, t3z9, t4z9⟩ | ⟨t1z9, qz9, zz9, mz9, t2z9, t3z9, t4z9, t5z9⟩ | ⟨t1z9, qz9, t2z9, t3z9⟩
    · exact go_num hy hx ihz9 hNz9 hbz9 t1z9 t2z9 t3z9 t4z9 t5z9
    · subst t4z9
      rcases t3z9 with ⟨t3z9, t5z9⟩ | ⟨t3z9, t5z9⟩ | ⟨t3z9, t5z9⟩
      · subst t3z9; exact go_var hy hx ihz9 hNz9 hbz9 t1z9 t5z9 t2z9
      · subst t3z9; exact go_nam hy hx ihz9 hNz9 hbz9 t1z9 t5z9 t2z9
      · subst t3z9; exact go_enm hy hx ihz9 hNz9 hbz9 t1z9 t5z9 t2z9
    · exact go_ecl hy hx ihz9 hNz9 hbz9 t1z9 t2z9 t3z9 t4z9
    · exact go_opn hy hx ihz9 hNz9 hbz9 t1z9 t2z9 t3z9 t4z9 t5z9
    · exact go_par hy hx ihz9 hNz9 hbz9 t1z9 t2z9 t3z9
  · obtain ⟨Gz9, pd, cs, nfz9, na, tz9, en, wt, l, fz9, kz9, nz9, az9, bz9, hz9⟩ := hz9
    have hbz9 : sb yz9 xz9 fu Cz9 Rz9 jz9 kk Gz9 pd cs nfz9 na tz9 en wt l fz9 kz9 nz9 az9 bz9 := hz9
    obtain ⟨k', ek, hSz9⟩ := yS_inv hz9.2.2.1
    subst ek
    rcases hSz9 with ⟨t1z9, t2z9, qz9, mz9, t3z9, t4z9, t5z9, t6⟩ | ⟨t1z9, t2z9, qz9, t3z9, t4z9⟩ | ⟨t1z9, t2z9, qz9, mz9, t3z9, t4z9, t5z9, t6⟩ | ⟨t1z9, t2z9, qz9, zz9, wz9, mz9, jj, t3z9, t4z9, t5z9, t6, t7, t8, t9, t10, t11, t12⟩ | ⟨t1z9, t2z9, qz9, mz9, jj, t3z9, t4z9, t5z9, t6⟩ | ⟨t1z9, t2z9, bs, cntz9, cz9, qz9, t3z9, t4z9, t5z9, t6, t7, t8, t9, t10, t11, t12⟩
    · exact go_sas hy hx ihz9 hNz9 hbz9 t1z9 t2z9 t3z9 t4z9 t5z9 t6
    · exact go_scl hy hx ihz9 hNz9 hbz9 t1z9 t2z9 t3z9 t4z9
    · exact go_spr hy hx ihz9 hNz9 hbz9 t1z9 t2z9 t3z9 t4z9 t5z9 t6
    · exact go_sif hy hx ihz9 hNz9 hbz9 t1z9 t2z9 t3z9 t4z9 t5z9 t6 t7 t8 t9 t10 t11 t12
    · exact go_swh hy hx ihz9 hNz9 hbz9 t1z9 t2z9 t3z9 t4z9 t5z9 t6
    · exact go_sbl hy hx ihz9 hNz9 hbz9 t1z9 t2z9 t3z9 t4z9 t5z9 t6 t7 t8 t9 t10 t11 t12
  · obtain ⟨Gz9, pd, cs, nfz9, na, tz9, en, wt, l, fz9, bz9, hz9⟩ := hz9
    have hbz9 : rb yz9 xz9 fu Cz9 Rz9 jz9 kk Gz9 pd cs nfz9 na tz9 en wt l fz9 bz9 := hz9
    cases l with
    | nil => exact go_end hy hx hbz9
    | cons cz9 l =>
      have hk := hz9.2.1.2.2.2.2.2.2
      rcases hk with hk | hk | hk | hk | hk | hk | hk | hk | hk | hk | hk | hk | hk
      · have ez9 := hk.1; subst ez9; exact go_op1 hy hx ihz9 hNz9 hbz9
      · have ez9 := hk.1; subst ez9; exact go_op2 hy hx ihz9 hNz9 hbz9
      · have ez9 := hk.1; subst ez9; exact go_ent hy hx ihz9 hNz9 hbz9
      · have ez9 := hk.1; subst ez9; exact go_store hy hx ihz9 hNz9 hbz9
      · have ez9 := hk.1; subst ez9; exact go_print hy hx ihz9 hNz9 hbz9
      · have ez9 := hk.1; subst ez9; exact go_ifc hy hx ihz9 hNz9 hbz9
      · have ez9 := hk.1; subst ez9; exact go_whl hy hx ihz9 hNz9 hbz9
      · have ez9 := hk.1; subst ez9; exact go_arg hy hx ihz9 hNz9 hbz9
      · have ez9 := hk.1; subst ez9; exact go_ret hy hx ihz9 hNz9 hbz9
      · have ez9 := hk.1; subst ez9; exact go_wend hy hx ihz9 hNz9 hbz9
      · have ez9 := hk.1; subst ez9; exact go_blk hy hx ihz9 hNz9 hbz9
      · have ez9 := hk.1; subst ez9; exact go_seq hy hx ihz9 hNz9 hbz9
      · have ez9 := hk.1; subst ez9; exact go_jmp hy hx ihz9 hNz9 hbz9
theorem go_none : go yz9 xz9 fu 4100001 := by
  intro Cz9 Rz9 jz9 kk hNz9 hz9
  exfalso
  rcases hz9 with ⟨Gz9, pd, cs, nfz9, na, tz9, en, wt, l, fz9, kz9, nz9, az9, bz9, h1, hz9⟩ | ⟨Gz9, pd, cs, nfz9, na, tz9, en, wt, l, fz9, kz9, nz9, az9, bz9, h1, hz9⟩ | ⟨Gz9, pd, cs, nfz9, na, tz9, en, wt, l, fz9, bz9, h1, hz9⟩
  · obtain ⟨_, ⟨_, _, b3, _, _⟩, ⟨_, _, c3z9⟩, _⟩ := h1
    obtain ⟨_, _, _, _, _, _, _, _, _, _, _, hz9⟩ := hz9
    omega
  · obtain ⟨_, ⟨_, _, b3, _, _⟩, ⟨_, _, c3z9⟩, _⟩ := h1
    obtain ⟨_, _, _, _, _, _, _, _, _, hz9⟩ := hz9
    omega
  · obtain ⟨_, ⟨_, _, b3, _, _⟩, ⟨_, _, c3z9⟩, _⟩ := h1
    obtain ⟨_, _, _, _, hz9⟩ := hz9
    omega
theorem go_all (hy : yG yz9 x0z9) (hx : xk yz9 xz9) : go yz9 xz9 fu 0 := by
  have keyz9 : ∀ mz9, mz9 ≤ 4100001 → go yz9 xz9 fu (4100001 - mz9) := by
    intro mz9
    induction mz9 with
    | zero => intro _; exact go_none
    | succ mz9 ihz9 =>
      intro hmz9
      have := ihz9 (by omega)
      rw [show 4100001 - mz9 = (4100001 - (mz9 + 1)) + 1 by omega] at this
      exact go_turn hy hx this
  have := keyz9 4100001 (Nat.le_refl _)
  rw [Nat.sub_self] at this
  exact this
end RUN
