/-! ===== an assignment begins ===== -/
section SAS
variable {yz9 : ys_T} {xz9 : xs_T} {x0z9 fu Nz9 : Nat} {Cz9 Rz9 : ai_S} {jz9 kk : Nat} {Gz9 : gg_T} {pd : Nat → Nat} {cs nfz9 na tz9 en wt : Nat} {l : List Nat} {fz9 kz9 nz9 az9 bz9 : Nat}
theorem go_sas (hy : yG yz9 x0z9) (hx : xk yz9 xz9) (ihz9 : go yz9 xz9 fu (Nz9 + 1)) (hNz9 : Nz9 ≤ 10 * jz9 + kk) (hz9 : sb yz9 xz9 fu Cz9 Rz9 jz9 kk Gz9 pd cs nfz9 na tz9 en wt l fz9 (kz9 + 1) nz9 az9 bz9) (g1 : yR yz9 2 nz9 = 1) (g2 : cx_tg (yK yz9) (yR yz9) (yb yz9) (yC yz9) (gs Gz9 fz9) nz9 az9) {q0 mz9 : Nat} (g3z9 : yR yz9 3 nz9 = nI q0) (g4 : yE yz9 (gs Gz9 fz9) 50 q0 (az9 + 1) mz9) (g5z9 : yK yz9 0 mz9 = 9) (g6 : bz9 = mz9 + 1) : rs xz9 Cz9 jz9 Rz9 kk := by
  obtain ⟨n7, hab, hbe, he, hnf, hna, hen, ht, hcs, hfu, hj, hk, hgi, hgt, hpd, hgr, hk0⟩ := hz9.bd hy
  obtain ⟨h1, h2, h3, h4, h5, h6, h7, h8, h9, h10, h11⟩ := hz9
  obtain ⟨y1, y2, y3, y4⟩ := h1.ly hx
  obtain ⟨_, ⟨b1, b2, _, b4, b5⟩, ⟨c1z9, c2z9, c3z9⟩, _, _, ⟨w1z9, w2z9, w3z9, w4z9⟩, hen', h39, hfr1, hfr, hfr2, hfr3⟩ := id h1
  have hMz9 := hx.1
  have n7' := n7.2
  have q7z9 := yE_nd g4
  have q7' := q7z9.2
  have hmb := yE_lt g4
  subst g6
  have hop : yK yz9 0 az9 = 6 ∨ yK yz9 0 az9 = 7 ∨ yK yz9 0 az9 = 8 := by
    obtain ⟨kd, slz9, hp, _, hk'⟩ := id g2
    rcases hk' with ⟨_, o1, _⟩ | ⟨_, o1, _⟩ | ⟨_, pr, _, _, o2⟩
    · exact Or.inl o1
    · exact Or.inr (Or.inl o1)
    · rcases o2 with ⟨o, _, o3z9, _⟩ | ⟨o3z9, _⟩
      · exact Or.inl o3z9
      · exact Or.inr (Or.inr o3z9)
  have hop9 : ¬ yK yz9 0 az9 = 9 := by rcases hop with ez9 | ez9 | ez9 <;> rw [ez9] <;> decide
  have hop4 : yK yz9 0 az9 = 6 ∨ yK yz9 0 az9 = 7 ∨ yK yz9 0 az9 = 8 ∨ yK yz9 0 az9 = 9 := by
    rcases hop with ez9 | ez9 | ez9
    · exact Or.inl ez9
    · exact Or.inr (Or.inl ez9)
    · exact Or.inr (Or.inr (Or.inl ez9))
  refine rs_step hMz9 (by omega) b4 (st_asg hMz9 h7 (by omega : az9 < ye yz9) he y1 (c := yK yz9 0 az9) (by rw [y3 0]) hop4 (vX1_assign hMz9 ⟨fun _ => ⟨fun hp => ?_, fun hp => ?_⟩, fun hh => absurd hh hop9⟩))
  · rw [ai_up_n (by omega), ai_up_n (by omega), c1z9, b1, i_lt (by omega) (by omega)] at hp
    rw [show (ai_up Cz9 9 4 (nI (az9 + 1))) 9 2 + 1 = nI (cs + 1) by (repeat rw [ai_up_n (by omega)]); rw [c1z9, nI_1], show (ai_up Cz9 9 4 (nI (az9 + 1))) 9 5 = nI (gi Gz9 fz9) by (repeat rw [ai_up_n (by omega)]); exact h8, show Cz9 22 az9 = yK yz9 1 az9 by rw [y3 1], show Cz9 23 az9 = yK yz9 2 az9 by rw [y3 2]]
    obtain ⟨Cb, hCb⟩ : ∃ Cb, Cb = ai_up (ai_up Cz9 9 4 (nI (az9 + 1))) 9 2 (nI (cs + 1)) := ⟨_, rfl⟩
    obtain ⟨Rbz9, hRb⟩ : ∃ Rbz9, Rbz9 = ai_up (ai_up Rz9 0 39 (nI tz9)) 0 53 (nI (cs + 1)) := ⟨_, rfl⟩
    rw [← hCb]
    have cb : ∀ qz9 iz9, ¬ (qz9 = 9 ∧ (iz9 = 2 ∨ iz9 = 4)) → Cb qz9 iz9 = Cz9 qz9 iz9 := fun qz9 iz9 pz9 => by rw [hCb]; (repeat rw [ai_up_n (by omega)])
    have rb' : ∀ qz9 iz9, ¬ (qz9 = 0 ∧ (iz9 = 39 ∨ iz9 = 53)) → Rbz9 qz9 iz9 = Rz9 qz9 iz9 := fun qz9 iz9 pz9 => by rw [hRb]; (repeat rw [ai_up_n (by omega)])
    have cb2 : Cb 9 2 = nI (cs + 1) := by rw [hCb, ai_up_s]
    have cb4 : Cb 9 4 = nI (az9 + 1) := by rw [hCb]; (repeat rw [ai_up_n (by omega)]); rw [ai_up_s]
    have rb53 : Rbz9 0 53 = nI (cs + 1) := by rw [hRb, ai_up_s]
    have rb39 : Rbz9 0 39 = nI tz9 := by rw [hRb]; (repeat rw [ai_up_n (by omega)]); rw [ai_up_s]
    have hfb : FR yz9 Cb Rbz9 Gz9 pd nfz9 := hfr.keep (by funext iz9; exact cb _ _ (by omega)) (by funext iz9; exact cb _ _ (by omega)) (by funext iz9; exact cb _ _ (by omega)) (fun qz9 _ _ => by funext iz9; exact rb' _ _ (by omega))
    have rndz9 : ∀ (Gp : ai_S → Prop), ai_met (lm_u (xz xz9)) ((xz xz9).2.2.2.2.1 + 5) mX6_target [.ref 0, .int (nI nz9), .int (nI fz9)] Rbz9 (lm_V (xz xz9)) (ai_qi (lm_V (xz xz9)) (fun x5z9 S6 => ((0 ≤ x5z9 → ai_met (lm_u (xz xz9)) ((xz xz9).2.2.2.2.1 + 5) mX6_later [.ref 0, .int 1, .int (x5z9 &&& (1023 : Int32)), .int (x5z9 >>> ((10 : Int32) &&& 31))] S6 (lm_V (xz xz9)) (ai_qv (lm_V (xz xz9)) (fun S9 => ai_met (lm_u (xz xz9)) ((xz xz9).2.2.2.2.1 + 5) mX6_later [.ref 0, .int 8, .int (nI q0), .int (nI fz9)] S9 (lm_V (xz xz9)) (ai_qv (lm_V (xz xz9)) Gp)))) ∧ (¬ 0 ≤ x5z9 → Gp (ai_up S6 0 51 2))))) → ai_met (lm_u (xz xz9)) ((xz xz9).2.2.2.2.1 + 6) mX6_statement [.ref 0, .int (nI nz9), .int (nI fz9)] (ai_up Rz9 0 39 (nI tz9)) (lm_V (xz xz9)) (ai_qv (lm_V (xz xz9)) Gp) := by
      intro Gp hGp
      refine vX6_statement (sp_pay (by (repeat rw [ai_up_n (by omega)]); exact b2) (by (repeat rw [ai_up_n (by omega)]); exact c2z9) hfu hcs (fun _ => ai_zt ⟨i_in n7' (by omega), ?_⟩) (fun hh => by omega))
      rw [← hRb]
      rw [nI_clamp (by omega), show Rbz9 2 nz9 = 1 by rw [rb' _ _ (by omega), y4 2 (by omega) (by omega)]; exact g1, show Rbz9 3 nz9 = nI q0 by rw [rb' _ _ (by omega), y4 3 (by omega) (by omega)]; exact g3z9]
      exact ⟨fun _ => hGp, fun hh => absurd hh (by decide), fun hh => absurd hh (by decide), fun hh => absurd hh (by decide), fun hh => absurd hh (by decide), fun hh => absurd rfl hh.1⟩
    have hta : tgo yz9 xz9 Cb Rbz9 Gz9 pd nfz9 na fz9 nz9 az9 := tg_all hy hMz9 hfb (by omega) hna h6 hgi hpd (by omega) n7' (by rw [cb _ _ (by omega), h8, hgi]) (by rw [cb _ _ (by omega)]; exact y1) (fun qz9 => by rw [← y3 qz9]; funext iz9; exact cb _ _ (by omega)) (fun qz9 p1z9 p2z9 => by rw [← y4 qz9 p1z9 p2z9]; funext iz9; exact rb' _ _ (by omega)) g2
    rcases hta with ⟨f2z9, vz9, wz9, pz9, gz9, t1z9, t2z9, t3z9, t4z9, t5z9, t6⟩ | ⟨wz9, pz9, gz9, t5z9, t6⟩
    · have hbd := fo_bd hfr t1z9 hgt t2z9
      obtain ⟨cd', hcd⟩ : ∃ cd', cd' = gb Gz9 f2z9 + vz9 := ⟨_, rfl⟩
      rw [← hcd] at t5z9 hbd
      refine t6 (fun C1z9 => rs xz9 C1z9 (jz9 + 1) Rz9 kk) (fun C1z9 hC1 => ?_)
      have c1o : ∀ qz9 iz9, ¬ (qz9 = 9 ∧ (iz9 = 2 ∨ iz9 = 4 ∨ iz9 = 15)) → C1z9 qz9 iz9 = Cz9 qz9 iz9 := fun qz9 iz9 pz9 => by rw [hC1 qz9 iz9 (by omega), cb qz9 iz9 (by omega)]
      refine rs_ref (R1 := ai_up (ai_up (ai_up (ai_up (scr Rbz9 wz9 pz9 gz9) 22 tz9 (nI (1 + 16 * cd' + 16384 * 0))) 0 39 (nI (tz9 + 1))) 22 (tz9 + 1) (nI (8 + 16 * q0 + 16384 * fz9))) 0 39 (nI (tz9 + 1 + 1))) (k1 := kk + 1) (fun hl => ?_) (ihz9 _ _ _ _ (by omega) (Or.inl ⟨Gz9, pd, cs + 1, nfz9, na, tz9 + 1, en, wt, 3 :: l, fz9, 50, q0, az9 + 1, mz9, h1.up (fun qz9 iz9 pz9 p' => ?_) (fun qz9 iz9 pz9 p' p'' => ?_) ⟨?_, ?_, by omega⟩ ⟨?_, ?_, by omega, fun iz9 hiz9 => ?_⟩ ?_ ?_, ?_, g4, ⟨by omega, by omega, by omega, by omega, Or.inr ⟨hpd, hgr⟩, Or.inr ⟨h6, hgi⟩, Or.inr (Or.inr (Or.inr (Or.inl ⟨rfl, g5z9, tz9, f2z9, vz9, rfl, ?_, t1z9, t2z9, t3z9, t4z9, ?_, h5, kc_keep l fz9 (mz9 + 1) nfz9 na tz9 en wt (fun iz9 hiz9 => ?_) (fun iz9 hiz9 => ?_) (fun iz9 hiz9 => ⟨?_, ?_⟩) (fun iz9 hiz9 => ⟨?_, ?_⟩) (fun iz9 hiz9 => ?_) (fun iz9 hiz9 => ⟨rfl, rfl⟩) h4⟩)))⟩, rfl, by omega, hpd, hgr, ?_, ?_, by omega, by omega, ?_⟩))
      · refine lr_do (by omega) h39 (by omega) b5 h2 (by omega) (by omega) (by omega) (pf_0 (rndz9 _ (t5z9 _ _ ⟨fun _ => ?_, fun hh => absurd (nI_pos' (by omega)) hh⟩)))
        rw [pk_andN (by omega) 10 (by decide), pk_shrN (by omega) _ 10 (by decide), show cd' % 2 ^ 10 = cd' by omega, show cd' / 2 ^ 10 = 0 by omega]
        exact sp_later (c := 1) (by rw [scr_o (by omega)]; exact rb39) (by omega) (sp_later (c := 8) ai_up_s (by omega) hl)
      all_goals first | (simp only [po] at h11 ⊢; omega) | skip
      · (repeat rw [ai_up_n (by omega)]); exact c1o qz9 iz9 (by omega)
      · (repeat rw [ai_up_n (by omega)]); rw [scr_o (by omega)]; exact rb' qz9 iz9 (by omega)
      · (repeat rw [ai_up_n (by omega)]); rw [hC1 _ _ (by omega)]; exact cb2
      · (repeat rw [ai_up_n (by omega)]); rw [scr_o (by omega)]; exact rb53
      · (repeat rw [ai_up_n (by omega)]); rw [c1o _ _ (by omega)]; exact w1z9
      · (repeat rw [ai_up_n (by omega)]); rw [scr_o (by omega), rb' _ _ (by omega)]; exact w2z9
      · (repeat rw [ai_up_n (by omega)]); rw [scr_o (by omega), rb' _ _ (by omega), c1o _ _ (by omega)]; exact w4z9 iz9 hiz9
      · (repeat rw [ai_up_n (by omega)]); rw [c1o _ _ (by omega)]; exact hen'
      · (repeat rw [ai_up_n (by omega)]); rw [ai_up_s]
      · (repeat rw [ai_up_n (by omega)]); rw [ai_up_s]
      · (repeat rw [ai_up_n (by omega)]); rw [ai_up_s, Nat.mul_zero, Nat.add_zero, hcd]
      · rw [ai_up_s]
      · (repeat rw [ai_up_n (by omega)]); rw [scr_o (by omega)]; exact rb' _ _ (by omega)
      · (repeat rw [ai_up_n (by omega)]); rw [scr_o (by omega)]; exact rb' _ _ (by omega)
      · (repeat rw [ai_up_n (by omega)]); exact c1o _ _ (by omega)
      · (repeat rw [ai_up_n (by omega)]); exact c1o _ _ (by omega)
      · (repeat rw [ai_up_n (by omega)]); exact c1o _ _ (by omega)
      · (repeat rw [ai_up_n (by omega)]); exact c1o _ _ (by omega)
      · rcases hiz9 with hiz9 | hiz9
        · (repeat rw [ai_up_n (by omega)]); exact c1o _ _ (by omega)
        · rw [h5] at hiz9; cases hiz9.2
      · (repeat rw [ai_up_n (by omega)]); rw [hC1 _ _ (by omega)]; exact cb4
      · (repeat rw [ai_up_n (by omega)]); rw [c1o _ _ (by omega)]; exact h8
    · refine t6 (fun C1z9 => rs xz9 C1z9 (jz9 + 1) Rz9 kk) (fun C1z9 hC1 => ?_)
      have c1o : ∀ qz9 iz9, ¬ (qz9 = 9 ∧ (iz9 = 2 ∨ iz9 = 4 ∨ iz9 = 15)) → C1z9 qz9 iz9 = Cz9 qz9 iz9 := fun qz9 iz9 pz9 => by rw [hC1 qz9 iz9 (by omega), cb qz9 iz9 (by omega)]
      refine rs_stop (R' := ai_up (scr Rbz9 wz9 pz9 gz9) 0 51 2) (k1 := kk + 1) hx h1 (v := 2) ⟨by decide, by decide⟩ ai_up_s ai_up_s (fun qz9 iz9 pz9 p' => ?_) (fun qz9 iz9 pz9 p' => ?_) ?_ (fun hl => ?_)
      · rw [ai_up_n (by omega)]; exact c1o qz9 iz9 (by omega)
      · rw [ai_up_n (by omega), scr_o (by omega)]; exact rb' qz9 iz9 (by omega)
      · rw [ai_up_n (by omega), ai_up_n (by omega), scr_o (by omega), hC1 _ _ (by omega), cb2, rb53]
      · refine lr_do (by omega) h39 (by omega) b5 h2 (by omega) (by omega) (by omega) (pf_0 (rndz9 _ (t5z9 _ _ ⟨fun hh => absurd hh (by decide), fun _ => hl⟩)))
  · rw [ai_up_n (by omega), ai_up_n (by omega), c1z9, b1, i_lt (by omega) (by omega)] at hp
    refine ev_fuel hx h1 (fun hl => lr_do (by omega) h39 (by omega) b5 h2 (by omega) (by omega) (by omega) (pf_0 (vX6_statement (sp_pay (by (repeat rw [ai_up_n (by omega)]); exact b2) (by (repeat rw [ai_up_n (by omega)]); exact c2z9) hfu hcs (fun hh => by omega) (fun _ => ai_zf hl)))))
end SAS
