/-! ===== a block begins ===== -/
section SBL
variable {yz9 : ys_T} {xz9 : xs_T} {x0z9 fu Nz9 : Nat} {Cz9 Rz9 : ai_S} {jz9 kk : Nat} {Gz9 : gg_T} {pd : Nat → Nat} {cs nfz9 na tz9 en wt : Nat} {l : List Nat} {fz9 kz9 nz9 az9 bz9 : Nat}
/-- a block's frame -/
def gB (Gz9 : gg_T) (nfz9 fz9 bs nz9 cntz9 : Nat) : gg_T := fun iz9 => if iz9 = nfz9 then ((0, bs, nz9) :: gs Gz9 fz9, gi Gz9 fz9, gb Gz9 fz9 + gn Gz9 fz9, bs, cntz9, gr Gz9 fz9, fun _ => true, fun _ => (0, 0)) else Gz9 iz9
theorem gB_o {bs cntz9 iz9 : Nat} (hz9 : iz9 ≠ nfz9) : gB Gz9 nfz9 fz9 bs nz9 cntz9 iz9 = Gz9 iz9 := if_neg hz9
theorem gB_n (Gz9 : gg_T) (nfz9 fz9 bs nz9 cntz9 : Nat) : gs (gB Gz9 nfz9 fz9 bs nz9 cntz9) nfz9 = (0, bs, nz9) :: gs Gz9 fz9 ∧ gi (gB Gz9 nfz9 fz9 bs nz9 cntz9) nfz9 = gi Gz9 fz9 ∧ gb (gB Gz9 nfz9 fz9 bs nz9 cntz9) nfz9 = gb Gz9 fz9 + gn Gz9 fz9 ∧ gc (gB Gz9 nfz9 fz9 bs nz9 cntz9) nfz9 = bs ∧ gn (gB Gz9 nfz9 fz9 bs nz9 cntz9) nfz9 = cntz9 ∧ gr (gB Gz9 nfz9 fz9 bs nz9 cntz9) nfz9 = gr Gz9 fz9 ∧ ∀ vz9, gk (gB Gz9 nfz9 fz9 bs nz9 cntz9) nfz9 vz9 = true := by
  simp [gs, gi, gb, gc, gn, gr, gk, gB]
/-- the first free slot lies behind what is there -/
theorem tp_le (hfr : FR yz9 Cz9 Rz9 Gz9 pd nfz9) (hf : fz9 < nfz9) {bs : Nat} (hz9 : sc_tp (yR yz9) (gs Gz9 fz9) bs) : gc Gz9 fz9 + gn Gz9 fz9 ≤ bs ∧ 7 ≤ bs ∨ gc Gz9 fz9 + gn Gz9 fz9 ≤ bs := by
  obtain ⟨_, _, a3, _, a5⟩ := hfr.2 fz9 hf
  rcases a5 with ⟨b1, b2, b3, b4, b5, b6, b7, b8⟩ | ⟨ndz9, b1, b2, b3, b4, b5, b6, _⟩ | ⟨pr, o, ca, cntz9, wz9, b1, b2, b3, b4, b5, b6, b7, b8, b9, b10, b11, b12, b13, b14, b15, b16z9, b17, b18, _⟩
  · exact Or.inr (by omega)
  · rw [b2] at hz9
    simp only [sc_tp, if_pos] at hz9
    obtain ⟨ct, h1, h2⟩ := hz9
    refine Or.inr ?_
    by_cases hct : ct < 2 ^ 31
    · have := b6.symm.trans h1
      rw [i_eq (by omega) hct] at this
      omega
    · omega
  · rw [b3] at hz9
    simp only [sc_tp] at hz9
    rw [if_neg (by omega)] at hz9
    exact Or.inr (by omega)
theorem go_sbl (hy : yG yz9 x0z9) (hx : xk yz9 xz9) (ihz9 : go yz9 xz9 fu (Nz9 + 1)) (hNz9 : Nz9 ≤ 10 * jz9 + kk) (hz9 : sb yz9 xz9 fu Cz9 Rz9 jz9 kk Gz9 pd cs nfz9 na tz9 en wt l fz9 (kz9 + 1) nz9 az9 bz9) (g1 : yR yz9 2 nz9 = 6) (g2 : yK yz9 0 az9 = 2) {bs cntz9 cz9 q0 : Nat} (g3z9 : yK yz9 1 az9 = nI bs) (g4 : yR yz9 5 nz9 = nI cntz9) (g5z9 : yK yz9 2 az9 = nI cntz9) (g6 : cntz9 ≤ 24) (g7 : bs + cntz9 ≤ 31) (g8 : sc_tp (yR yz9) (gs Gz9 fz9) bs) (g9 : az9 < cz9) (g10 : cx_dj (yK yz9) 16 (az9 + 1) cz9) (g11 : yR yz9 3 nz9 = nI q0) (g12 : yQ yz9 ((0, bs, nz9) :: gs Gz9 fz9) kz9 320 q0 cz9 bz9) : rs xz9 Cz9 jz9 Rz9 kk := by
  obtain ⟨n7, hab, hbe, he, hnf, hna, hen, ht, hcs, hfu, hj, hk, hgi, hgt, hpd, hgr, hk0⟩ := hz9.bd hy
  obtain ⟨h1, h2, h3, h4, h5, h6, h7, h8, h9, h10, h11⟩ := hz9
  obtain ⟨y1, y2, y3, y4⟩ := h1.ly hx
  obtain ⟨_, ⟨b1, b2, _, b4, b5⟩, ⟨c1z9, c2z9, c3z9⟩, _, _, ⟨w1z9, w2z9, w3z9, w4z9⟩, hen', h39, hfr1, hfr, hfr2, hfr3⟩ := id h1
  have hMz9 := hx.1
  have n7' := n7.2
  have hcb := yQ_le g12
  have hlv := kc_lv h4
  have hfn : fz9 < nfz9 := by omega
  have htp : gc Gz9 fz9 + gn Gz9 fz9 ≤ bs := by rcases tp_le hfr hfn g8 with t1z9 | t1z9 <;> omega
  have hef : nfz9 - 1 = fz9 := by omega
  rw [hef] at hfr2 hfr3
  obtain ⟨ff1, ff2z9, ff3, _⟩ := hfr.2 fz9 hfn
  have h46 : Rz9 0 46 = nI nfz9 := hfr1
  refine rs_step hMz9 (by omega) b4 (st_ctl hMz9 h7 (by omega : az9 < ye yz9) he y1 (c := 2) (by rw [y3 0]; exact g2) (by decide) (ct_2 hMz9 ?_))
  rw [show Cz9 22 az9 = nI bs by rw [y3 1]; exact g3z9, show Cz9 23 az9 = nI cntz9 by rw [y3 2]; exact g5z9]
  refine vX1_beginBlock hMz9 ⟨fun hp => ?_, fun hp => ?_⟩
  · rw [ai_up_n (by omega), ai_up_n (by omega), c1z9, b1, i_lt (by omega) (by omega)] at hp
    rw [ai_up_n (by omega), c1z9, nI_1]
    refine bz_C hMz9 g6 (by omega) hna cntz9 0 _ (by omega) (by (repeat rw [ai_up_n (by omega)]); rw [h8, hgi]) (fun C1z9 z1 z2 => ?_)
    -- the class's memory now
    have k1z9 : ∀ qz9 iz9, ¬ (qz9 = 9 ∧ (iz9 = 2 ∨ iz9 = 4)) → ¬ (qz9 = 11 ∧ 31 * na + bs ≤ iz9 ∧ iz9 < 31 * na + bs + cntz9) → C1z9 qz9 iz9 = Cz9 qz9 iz9 := fun qz9 iz9 pz9 p' => by rw [z1 qz9 iz9 (by omega)]; (repeat rw [ai_up_n (by omega)])
    have k2z9 : C1z9 9 2 = nI (cs + 1) := by rw [z1 9 2 (by omega), ai_up_s]
    have k4z9 : C1z9 9 4 = nI (az9 + 1) := by rw [z1 9 4 (by omega)]; (repeat rw [ai_up_n (by omega)]); rw [ai_up_s]
    refine go_dj hx he (by omega : cz9 < ye yz9) 16 (az9 + 1) (jz9 + 1) C1z9 (by omega) g10 (by rw [k1z9 _ _ (by omega) (by omega)]; exact b4) k4z9 (by rw [k1z9 _ _ (by omega) (by omega)]; exact y1) (fun qz9 => by rw [← y3 qz9]; funext iz9; exact k1z9 _ _ (by omega) (by omega)) (fun sz9 hs => ?_)
    obtain ⟨C2z9, hC2⟩ : ∃ C2z9, C2z9 = ai_up C1z9 9 4 (nI cz9) := ⟨_, rfl⟩
    rw [← hC2]
    have m1z9 : ∀ qz9 iz9, ¬ (qz9 = 9 ∧ (iz9 = 2 ∨ iz9 = 4)) → ¬ (qz9 = 11 ∧ 31 * na + bs ≤ iz9 ∧ iz9 < 31 * na + bs + cntz9) → C2z9 qz9 iz9 = Cz9 qz9 iz9 := fun qz9 iz9 pz9 p' => by rw [hC2, ai_up_n (by omega)]; exact k1z9 qz9 iz9 pz9 p'
    have m2z9 : C2z9 9 2 = nI (cs + 1) := by rw [hC2, ai_up_n (by omega)]; exact k2z9
    have m4z9 : C2z9 9 4 = nI cz9 := by rw [hC2, ai_up_s]
    have mz : ∀ iz9, 31 * na + bs ≤ iz9 → iz9 < 31 * na + bs + cntz9 → C2z9 11 iz9 = 0 := fun iz9 p1z9 p2z9 => by rw [hC2, ai_up_n (by omega)]; exact z2 iz9 (by omega) p2z9
    -- the new frame's facts, for any memory of the reference that has it
    have finz9 : ∀ (R2 : ai_S) (lt : List Nat) (t2z9 : Nat), (∀ qz9 iz9, ¬ (23 ≤ qz9 ∧ qz9 ≤ 26 ∧ iz9 = nfz9) → ¬ (qz9 = 27 ∧ gb Gz9 fz9 + gn Gz9 fz9 ≤ iz9 ∧ iz9 < gb Gz9 fz9 + gn Gz9 fz9 + cntz9) → ¬ (qz9 = 0 ∧ (iz9 = 39 ∨ iz9 = 46 ∨ iz9 = 47 ∨ iz9 = 53)) → ¬ (qz9 = 22 ∧ tz9 ≤ iz9) → R2 qz9 iz9 = Rz9 qz9 iz9) → R2 23 nfz9 = nI fz9 → R2 24 nfz9 = -1 → R2 25 nfz9 = nI (gb Gz9 fz9 + gn Gz9 fz9) → (∀ iz9, gb Gz9 fz9 + gn Gz9 fz9 ≤ iz9 → iz9 < gb Gz9 fz9 + gn Gz9 fz9 + cntz9 → R2 27 iz9 = 0) → R2 0 46 = nI (nfz9 + 1) → R2 0 47 = nI (gb Gz9 fz9 + gn Gz9 fz9 + cntz9) → R2 0 53 = nI (cs + 1) → R2 0 39 = nI t2z9 → R2 22 tz9 = nI (6 + 16384 * nfz9) →
        iv yz9 (xC xz9) (xR xz9) C2z9 R2 (gB Gz9 nfz9 fz9 bs nz9 cntz9) (fun iz9 => if iz9 = nfz9 then 6 else pd iz9) fu (cs + 1) (nfz9 + 1) na t2z9 en wt ∧ kc yz9 C2z9 R2 (gB Gz9 nfz9 fz9 bs nz9 cntz9) (fun iz9 => if iz9 = nfz9 then 6 else pd iz9) (12 :: l) nfz9 bz9 (nfz9 + 1) na (tz9 + 1) en wt := by
      intro R2 lt t2z9 r1z9 r23 r24 r25 rz r46 r47 r53 r39 r22
      obtain ⟨s1z9, s2z9, s3z9, s4z9, s5, s6z9, s7⟩ := gB_n Gz9 nfz9 fz9 bs nz9 cntz9
      have hGo : ∀ iz9, iz9 < nfz9 → gB Gz9 nfz9 fz9 bs nz9 cntz9 iz9 = Gz9 iz9 ∧ (if iz9 = nfz9 then 6 else pd iz9) = pd iz9 := fun iz9 hiz9 => ⟨gB_o (by omega), if_neg (by omega)⟩
      obtain ⟨o1, o2, o3z9, o4z9, o5z9, o6, o7, o8z9⟩ := g_eq (hGo fz9 hfn).1
      refine ⟨h1.gen (fun qz9 iz9 pz9 p' => m1z9 qz9 iz9 (by omega) (by omega)) (fun qz9 iz9 pz9 p' => r1z9 qz9 iz9 (by omega) (by omega) (by omega) (by omega)) ⟨m2z9, r53, by omega⟩ ⟨?_, ?_, w3z9, fun iz9 hiz9 => ?_⟩ ?_ r39 ⟨r46, FR.push (hfr.ext (fun iz9 hiz9 => ?_) (fun iz9 hiz9 => ⟨?_, ?_⟩) (fun qz9 p1z9 p2z9 iz9 hiz9 => ?_) (fun iz9 hiz9 => ⟨?_, ?_⟩) hGo) ?_, ?_, ?_⟩, ⟨hbe, by omega, by omega, by omega, Or.inr ⟨if_pos rfl, by rw [s6z9]; exact hgr⟩, Or.inr ⟨rfl, by rw [s2z9]; exact hgi⟩, Or.inr (Or.inr (Or.inr (Or.inr (Or.inr (Or.inr (Or.inr (Or.inr (Or.inr (Or.inr (Or.inl ⟨rfl, tz9, rfl, by omega, r22, h5, ?_⟩))))))))))⟩⟩
      · rw [m1z9 _ _ (by omega) (by omega)]; exact w1z9
      · rw [r1z9 _ _ (by omega) (by omega) (by omega) (by omega)]; exact w2z9
      · rw [m1z9 _ _ (by omega) (by omega), r1z9 _ _ (by omega) (by omega) (by omega) (by omega)]; exact w4z9 iz9 hiz9
      · rw [m1z9 _ _ (by omega) (by omega)]; exact hen'
      · rw [hef, hgi] at hiz9; exact m1z9 _ _ (by omega) (by omega)
      · exact m1z9 _ _ (by omega) (by omega)
      · exact m1z9 _ _ (by omega) (by omega)
      · exact r1z9 _ _ (by omega) (by omega) (by omega) (by omega)
      · rw [hef] at hiz9; exact r1z9 _ _ (by omega) (by omega) (by omega) (by omega)
      · exact r1z9 _ _ (by omega) (by omega) (by omega) (by omega)
      · refine ⟨by rw [s3z9]; exact r25, by rw [s2z9, s3z9, s4z9]; omega, by rw [s4z9, s5]; exact g7, fun vz9 hv _ _ => ?_, Or.inr (Or.inl ⟨nz9, by omega, ?_, ?_, r24, ?_, by rw [s5]; exact g4, ?_, ?_, ?_, ?_, if_pos rfl, s7⟩)⟩
        · rw [s5] at hv
          rw [s2z9, s3z9, s4z9, hgi, mz _ (by omega) (by omega), rz _ (by omega) (by omega)]
        · rw [s1z9, s4z9, hef, o1]
        · rw [hef]; exact r23
        · rw [s2z9, hef, o2]
        · rw [s6z9, hef, o6]
        · rw [hef, o4z9, o5z9, s4z9]; exact htp
        · rw [hef, o3z9, o5z9, s3z9]
        · rw [hef]; show (if fz9 = nfz9 then 6 else pd fz9) = 6; rw [if_neg (by omega)]; exact hpd
      · rw [Nat.add_sub_cancel, s3z9, s5]; exact r47
      · rw [Nat.add_sub_cancel, s2z9]; exact hgi
      · rw [hef]
        exact kc_keep l fz9 bz9 nfz9 na tz9 en wt (fun iz9 hiz9 => r1z9 _ _ (by omega) (by omega) (by omega) (by omega)) (fun iz9 hiz9 => r1z9 _ _ (by omega) (by omega) (by omega) (by omega)) (fun iz9 hiz9 => ⟨m1z9 _ _ (by omega) (by omega), m1z9 _ _ (by omega) (by omega)⟩) (fun iz9 hiz9 => ⟨m1z9 _ _ (by omega) (by omega), m1z9 _ _ (by omega) (by omega)⟩) (fun iz9 hiz9 => m1z9 _ _ (by omega) (by omega)) hGo h4
    -- the reference's round
    obtain ⟨R1, hR1⟩ : ∃ R1, R1 = fnR (ai_up (ai_up Rz9 0 39 (nI tz9)) 0 53 (nI (cs + 1))) nfz9 (gb Gz9 fz9 + gn Gz9 fz9) cntz9 (nI fz9) (-1) 0 := ⟨_, rfl⟩
    obtain ⟨v2, v3, v4z9, _, v6, v7, v8⟩ := fnR_v (ai_up (ai_up Rz9 0 39 (nI tz9)) 0 53 (nI (cs + 1))) nfz9 (gb Gz9 fz9 + gn Gz9 fz9) cntz9 (nI fz9) (-1) 0
    rw [← hR1] at v2 v3 v4z9 v6 v7 v8
    have v1z9 : ∀ qz9 iz9, ¬ (23 ≤ qz9 ∧ qz9 ≤ 26 ∧ iz9 = nfz9) → ¬ (qz9 = 27 ∧ gb Gz9 fz9 + gn Gz9 fz9 ≤ iz9 ∧ iz9 < gb Gz9 fz9 + gn Gz9 fz9 + cntz9) → ¬ (qz9 = 0 ∧ (iz9 = 39 ∨ iz9 = 46 ∨ iz9 = 47 ∨ iz9 = 53)) → R1 qz9 iz9 = Rz9 qz9 iz9 := fun qz9 iz9 pz9 p' p'' => by rw [hR1, fnR_o pz9 p' (by omega)]; (repeat rw [ai_up_n (by omega)])
    have v9 : R1 0 53 = nI (cs + 1) := by rw [hR1, fnR_o (by omega) (by omega) (by omega), ai_up_s]
    have v10 : R1 0 39 = nI tz9 := by rw [hR1, fnR_o (by omega) (by omega) (by omega)]; (repeat rw [ai_up_n (by omega)]); rw [ai_up_s]
    have rndz9 : ∀ (Gp : ai_S → Prop), ai_met (lm_u (xz xz9)) ((xz xz9).2.2.2.2.1 + 5) mX6_later [.ref 0, .int 6, .int 0, .int (nI nfz9)] R1 (lm_V (xz xz9)) (ai_qv (lm_V (xz xz9)) (fun S33 => ((nI q0 ≤ 0 → Gp S33) ∧ (¬ nI q0 ≤ 0 → ai_met (lm_u (xz xz9)) ((xz xz9).2.2.2.2.1 + 5) mX6_later [.ref 0, .int 7, .int (nI q0), .int (nI nfz9)] S33 (lm_V (xz xz9)) (ai_qv (lm_V (xz xz9)) Gp))))) → ai_met (lm_u (xz xz9)) ((xz xz9).2.2.2.2.1 + 6) mX6_statement [.ref 0, .int (nI nz9), .int (nI fz9)] (ai_up Rz9 0 39 (nI tz9)) (lm_V (xz xz9)) (ai_qv (lm_V (xz xz9)) Gp) := by
      intro Gp hGp
      refine vX6_statement (sp_pay (by (repeat rw [ai_up_n (by omega)]); exact b2) (by (repeat rw [ai_up_n (by omega)]); exact c2z9) hfu hcs (fun _ => ai_zt ⟨i_in n7' (by omega), ?_⟩) (fun hh => by omega))
      have r2 : (ai_up (ai_up Rz9 0 39 (nI tz9)) 0 53 (nI (cs + 1))) 2 nz9 = 6 := by (repeat rw [ai_up_n (by omega)]); rw [y4 2 (by omega) (by omega)]; exact g1
      have r3 : (ai_up (ai_up Rz9 0 39 (nI tz9)) 0 53 (nI (cs + 1))) 3 nz9 = nI q0 := by (repeat rw [ai_up_n (by omega)]); rw [y4 3 (by omega) (by omega)]; exact g11
      have r5z9 : (ai_up (ai_up Rz9 0 39 (nI tz9)) 0 53 (nI (cs + 1))) 5 nz9 = nI cntz9 := by (repeat rw [ai_up_n (by omega)]); rw [y4 5 (by omega) (by omega)]; exact g4
      rw [nI_clamp (by omega), r2, r3, r5z9]
      refine ⟨fun hh => absurd hh (by decide), fun hh => absurd hh (by decide), fun hh => absurd hh (by decide), fun hh => absurd hh (by decide), fun hh => absurd hh (by decide), fun _ => sp_frame (gb Gz9 fz9 + gn Gz9 fz9) cntz9 nfz9 (by omega) (by omega) (by omega) (by (repeat rw [ai_up_n (by omega)]); exact hfr2) (by (repeat rw [ai_up_n (by omega)]); exact h46) ?_⟩
      rw [← hR1]
      exact hGp
    rcases yQ_inv g12 with ⟨e1z9, e2z9⟩ | ⟨e1z9, _, mz9, n2z9, e3z9, _⟩
    · subst e2z9
      obtain ⟨R2, hR2⟩ : ∃ R2, R2 = ai_up (ai_up R1 22 tz9 (nI (6 + 16 * 0 + 16384 * nfz9))) 0 39 (nI (tz9 + 1)) := ⟨_, rfl⟩
      obtain ⟨o1, o2⟩ := finz9 R2 l (tz9 + 1) (fun qz9 iz9 pz9 p' p'' p3z9 => by rw [hR2]; (repeat rw [ai_up_n (by omega)]); exact v1z9 qz9 iz9 pz9 p' (by omega)) (by rw [hR2]; (repeat rw [ai_up_n (by omega)]); exact v2) (by rw [hR2]; (repeat rw [ai_up_n (by omega)]); exact v3) (by rw [hR2]; (repeat rw [ai_up_n (by omega)]); exact v4z9) (fun iz9 p1z9 p2z9 => by rw [hR2]; (repeat rw [ai_up_n (by omega)]); exact v6 iz9 p1z9 p2z9) (by rw [hR2]; (repeat rw [ai_up_n (by omega)]); exact v7) (by rw [hR2]; (repeat rw [ai_up_n (by omega)]); exact v8) (by rw [hR2]; (repeat rw [ai_up_n (by omega)]); exact v9) (by rw [hR2]; exact ai_up_s) (by rw [hR2]; (repeat rw [ai_up_n (by omega)]); rw [ai_up_s])
      refine rs_ref (R1 := R2) (k1 := kk + 1) (fun hl => lr_do (by omega) h39 (by omega) b5 h2 (by omega) (by omega) (by omega) (pf_0 (rndz9 _ (sp_later (c := 6) (n := 0) v10 (by omega) ⟨fun _ => ?_, fun hh => absurd (by rw [e1z9]; decide) hh⟩)))) (ihz9 C2z9 R2 (jz9 + 1 + sz9) (kk + 1) (by omega) (Or.inr (Or.inr ⟨gB Gz9 nfz9 fz9 bs nz9 cntz9, fun iz9 => if iz9 = nfz9 then 6 else pd iz9, cs + 1, nfz9 + 1, na, tz9 + 1, en, wt, 12 :: l, nfz9, cz9, o1, o2, m4z9, ?_, fun hh => (by cases hh), ?_⟩)))
      · rw [← hR2]; exact hl
      · rw [(gB_n Gz9 nfz9 fz9 bs nz9 cntz9).2.1, m1z9 _ _ (by omega) (by omega)]; exact h8
      · simp only [po] at h11 ⊢; omega
    · have q7z9 := (yS_nd e3z9).2
      obtain ⟨R2, hR2⟩ : ∃ R2, R2 = ai_up (ai_up (ai_up (ai_up R1 22 tz9 (nI (6 + 16 * 0 + 16384 * nfz9))) 0 39 (nI (tz9 + 1))) 22 (tz9 + 1) (nI (7 + 16 * q0 + 16384 * nfz9))) 0 39 (nI (tz9 + 1 + 1)) := ⟨_, rfl⟩
      obtain ⟨o1, o2⟩ := finz9 R2 l (tz9 + 1 + 1) (fun qz9 iz9 pz9 p' p'' p3z9 => by rw [hR2]; (repeat rw [ai_up_n (by omega)]); exact v1z9 qz9 iz9 pz9 p' (by omega)) (by rw [hR2]; (repeat rw [ai_up_n (by omega)]); exact v2) (by rw [hR2]; (repeat rw [ai_up_n (by omega)]); exact v3) (by rw [hR2]; (repeat rw [ai_up_n (by omega)]); exact v4z9) (fun iz9 p1z9 p2z9 => by rw [hR2]; (repeat rw [ai_up_n (by omega)]); exact v6 iz9 p1z9 p2z9) (by rw [hR2]; (repeat rw [ai_up_n (by omega)]); exact v7) (by rw [hR2]; (repeat rw [ai_up_n (by omega)]); exact v8) (by rw [hR2]; (repeat rw [ai_up_n (by omega)]); exact v9) (by rw [hR2]; exact ai_up_s) (by rw [hR2]; (repeat rw [ai_up_n (by omega)]); rw [ai_up_s])
      obtain ⟨s1z9, s2z9, s3z9, s4z9, s5, s6z9, s7⟩ := gB_n Gz9 nfz9 fz9 bs nz9 cntz9
      refine rs_ref (R1 := R2) (k1 := kk + 1) (fun hl => lr_do (by omega) h39 (by omega) b5 h2 (by omega) (by omega) (by omega) (pf_0 (rndz9 _ (sp_later (c := 6) (n := 0) v10 (by omega) ⟨fun hh => absurd hh (nI_nle (by omega) (by omega)), fun _ => sp_later (c := 7) ai_up_s (by omega) ?_⟩)))) (ihz9 C2z9 R2 (jz9 + 1 + sz9) (kk + 1) (by omega) (Or.inr (Or.inr ⟨gB Gz9 nfz9 fz9 bs nz9 cntz9, fun iz9 => if iz9 = nfz9 then 6 else pd iz9, cs + 1, nfz9 + 1, na, tz9 + 1 + 1, en, wt, 13 :: 12 :: l, nfz9, cz9, o1, ⟨by omega, by omega, by omega, by omega, Or.inr ⟨if_pos rfl, by rw [s6z9]; exact hgr⟩, Or.inr ⟨rfl, by rw [s2z9]; exact hgi⟩, Or.inr (Or.inr (Or.inr (Or.inr (Or.inr (Or.inr (Or.inr (Or.inr (Or.inr (Or.inr (Or.inr (Or.inl ⟨rfl, tz9 + 1, q0, 320, kz9, bz9, rfl, e1z9, by rw [hR2]; (repeat rw [ai_up_n (by omega)]); rw [ai_up_s], by rw [s1z9]; exact g12, by omega, by omega, rfl, o2⟩)))))))))))⟩, m4z9, ?_, fun hh => (by cases hh), ?_⟩)))
      · rw [← hR2]; exact hl
      · rw [s2z9, m1z9 _ _ (by omega) (by omega)]; exact h8
      · simp only [po] at h11 ⊢; omega
  · rw [ai_up_n (by omega), ai_up_n (by omega), c1z9, b1, i_lt (by omega) (by omega)] at hp
    refine ev_fuel hx h1 (fun hl => lr_do (by omega) h39 (by omega) b5 h2 (by omega) (by omega) (by omega) (pf_0 (vX6_statement (sp_pay (by (repeat rw [ai_up_n (by omega)]); exact b2) (by (repeat rw [ai_up_n (by omega)]); exact c2z9) hfu hcs (fun hh => by omega) (fun _ => ai_zf hl)))))
end SBL
