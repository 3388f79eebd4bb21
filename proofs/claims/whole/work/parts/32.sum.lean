/-! ===== sums ===== -/
section SSU
variable {l : Launch} {D : va_G} {ρ : Nat → Nat} {τ : Nat → ClassId} {z : lm_T} {V : ai_V} {tx : Nat → Int32} {n hf : Nat} {sc : sc_T} {SC : Nat → sc_T} {m ns pr vr d dp F : Nat}
set_option maxHeartbeats 4000000 in
theorem simL_sum (hV0 : hV ρ V tx n) (hV3 : V 2 3 = .ref 26) (hdp : dp ≤ 10) (hF : sF l D ρ τ z V tx n hf sc SC m ns pr vr (d + 1) dp F 4 2 mX3_product 36) (stk : List mf_T) (b0 : Nat) (hsb : ∀ x ∈ sc, x.1 = 0 → x.2.2 ≤ b0) (hb0 : 350 * hf ≤ b0) :
    ∀ (w : Nat) (C R : ai_S) (p p' e nn k i nd ls ex g : Nat), n ≤ p + w → pv C R tx n hf sc SC m ns pr vr p p' e nn ((34, nd, dp, ls, ex) :: stk) → stk.length + 4 * (11 - dp) ≤ 57 → 2 * e ≤ 3 * p + 1 → nn ≤ p → i ≤ p → k + 12 * (n - p) + 50 ≤ 100000 → R 0 31 = nI g → b0 < g → g ≤ 350 * hf + nn → (nd = 0 → ls = 0) → (nd ≠ 0 → b0 < ls ∧ ls ≤ 350 * hf + nn ∧ nd ≤ 350 * hf + nn ∧ b0 < nd ∧ ls ≠ g ∧ nd ≠ g ∧ nd ≠ ls ∧ R 4 nd = nI 0) → R 4 g = nI 0 →
      ai_W (uC l D ρ τ) (d + 2) mX3_sum 12 [(0, .ref 2), (1, .int (nI dp)), (2, .int (nI i))] [] C V (ai_qz V (fun b C' => ∃ (R' : ai_S) (j : Nat), (lm z R' (k + j) → lm z R k) ∧ ((b = true ∧ pl C R C' R' tx n hf sc SC m ns pr vr p e nn stk F 11 b0 nd ls ex g j) ∨ (bd tx R' ∧ (b = false ∨ pg C' tx n 3 e))))) := by
  intro w
  induction w using Nat.strongRecOn with
  | ind w ih =>
    intro C R p p' e nn k i nd ls ex g hw hpv hst he hnn hi hk hg hg1 hg2 hz hnz hg4
    obtain ⟨hT, hp, hpn, hC3, hmq, hsk, h8, h9, hnh, hsp, hsc, hnn3⟩ := id hpv
    have hn320 : n ≤ 320 := hT.2.1
    have hskn : px_s tx n p ≤ n := px_s_le tx hpn
    have hskp : p ≤ px_s tx n p := px_s_ge tx n p
    refine vX3_sum_12 hV3 ⟨fun h => absurd h ?_, fun _ => ?_⟩
    · rw [show (320 : Int32) = nI 320 from rfl, i_lt (by omega) (by omega)]; omega
    have hT1 : ct_T (ai_up C 2 2 (nI (px_s tx n p))) tx n := ⟨by rw [ai_up_n (by omega)]; exact hT.1, hT.2.1, fun i hi => by rw [ai_up_n (by omega)]; exact hT.2.2 i hi⟩
    have hss : px_s tx n (px_s tx n p) = px_s tx n p := px_s_s tx n p
    refine sp_take hV0 hT hp hpn (fun ht => ai_zt ?_) (fun hf1 => ai_zf (sp_take (p := px_s tx n p) hV0 hT1 ai_up_s hskn (fun ht => ai_zt ?_) (fun hf0 => ai_zf ?_)))
    · -- one more factor
      have hlt : px_s tx n p < n := px_lt ht (by decide)
      have hy : px_c tx n (-1) (px_s tx n p') = 43 := by rw [← hsk]; exact (px_cc (by decide) (by decide)).mp ht
      obtain ⟨R2, nd2, nn2, hlm, q1, q2, q3, q4, q5, q6, q7, q8, q9, q10, q11⟩ := sum_more0 (z := z) (k := k) (b0 := b0) (by omega) hmq (by omega) hg hg1 hg2 (by omega) hz (fun h => by have := hnz h; omega) hb0 hy
      rw [← hsk] at q2
      have hnn2 : nn ≤ nn2 ∧ nn2 ≤ nn + 1 ∧ nd2 ≠ 0 ∧ b0 < nd2 ∧ nd2 ≤ 350 * hf + nn2 ∧ nd2 ≠ g ∧ R2 4 nd2 = nI 0 := by
        by_cases h0 : nd = 0
        · obtain ⟨a1, a2, a3, a4, a5, a6⟩ := q11 h0
          exact ⟨by omega, by omega, by omega, by omega, by omega, by omega, a5⟩
        · obtain ⟨a1, a2, a3⟩ := q10 h0
          obtain ⟨b1, b2, b3, b4, b5, b6, b7, b8⟩ := hnz h0
          refine ⟨by omega, by omega, by omega, by omega, by omega, by omega, ?_⟩
          rw [a1, q8 4 (by omega) (by omega) nd b3 (by omega) (by omega)]
          exact b8
      refine sp_cadd (e := e) (by rw [ai_up_n (by omega)]; exact hC3) (by omega) ?_
      have hcE2 : cE C (cadd (ai_up C 2 2 (nI (px_s tx n p + 1))) e 18 0 0) e := (cE.rf.u2 2 _ (by omega)).add (Nat.le_refl _) _ _ _
      have hpv2 : pv (cadd (ai_up C 2 2 (nI (px_s tx n p + 1))) e 18 0 0) R2 tx n hf sc SC m ns pr vr (px_s tx n p + 1) (px_s tx n p + 1) (e + 1) nn2 ((36, 0, dp, 0, 0) :: (34, nd2, dp, g, 0) :: stk) := by
        refine pv_ofb hpv hsb hcE2 q7 (by simp [cadd, ai_up_eq]) hlt (by simp [cadd, ai_up_eq]) q2 hlt q3 q1 q4 rfl ?_ ?_ hnn2.1 (by omega)
        · rw [q6]; simp [cadd, ai_up_eq]; exact h9
        · rw [q5]; simp only [cadd, ai_up_eq]; simpa using hnh
      refine (hF _ R2 _ _ _ _ _ (k + 1) hpv2 (by simp; omega) (by omega) (by omega) (by omega)).mb (fun b C3 hE => ?_)
      obtain ⟨R3, j3, hlm3, hE⟩ := hE
      have hlm13 : lm z R3 (k + (1 + j3)) → lm z R k := fun h => hlm (hlm3 (by rw [Nat.add_assoc]; exact h))
      rcases hE with ⟨rfl, x3, p3, p3', e3, nn3, hpv3, r31, rx, -, r4, r5, r6, r7, r8, r9, r10, r11, r12, r13⟩ | ⟨hwr, hbb⟩
      · -- it is read: on
        refine ai_zt ?_
        have hp3n : p3 ≤ n := hpv3.2.2.1
        refine sp_cadd (e := e3) hpv3.2.2.2.1 (by omega) ?_
        have hcE4 : cE C3 (cadd C3 e3 19 0 0) e3 := cE.rf.add (Nat.le_refl _) _ _ _
        have hpv4 : pv (cadd C3 e3 19 0 0) R3 tx n hf sc SC m ns pr vr p3 p3' (e3 + 1) nn3 ((34, nd2, dp, g, 0) :: stk) := by
          obtain ⟨gT, gp, gpn, gC3, gmq, gsk, g8, g9, gnh, gsp, gsc, gnn⟩ := id hpv3
          refine pv_of (t := 0) hpv3 hcE4 mE.rf (by simp [cadd, ai_up_eq]; exact gp) gpn (by simp [cadd, ai_up_eq]) gmq.2.1 gmq.2.2.1 gmq.2.2.2.2.2.1 gmq.2.2.2.2.2.2.1 gmq.2.2.2.2.2.2.2 gsk (by simp [cadd, ai_up_eq]; exact g9) (by simp only [cadd, ai_up_eq]; simpa using gnh) (Nat.le_refl _) gnn
        have r4g : R3 4 g = R2 4 g := r11.2.2.2 4 (by omega) (by omega) g (Or.inl (by omega))
        rw [nI_1 i]
        have hx1 : 350 * hf + nn2 < x3 := rx.1
        have hx2 : x3 ≤ 350 * hf + nn3 := rx.2
        refine (ih (n - p3) (by omega) (cadd C3 e3 19 0 0) R3 p3 p3' (e3 + 1) nn3 (k + (1 + j3)) (i + 1) nd2 g 0 x3 (by omega) hpv4 hst (by omega) (by omega) (by omega) (by omega) r31 (by omega) hx2 (fun h => absurd h hnn2.2.2.1) (fun _ => ⟨hg1, by omega, by omega, by omega, by omega, by omega, hnn2.2.2.2.2.2.1, ?_⟩) r4).mono ?_
        · rw [r11.2.2.2 4 (by omega) (by omega) nd2 (Or.inl (by omega))]; exact hnn2.2.2.2.2.2.2
        rintro r C' V' ⟨h1, b, h2, R', j', h3, h4⟩
        refine ⟨h1, b, h2, R', 1 + j3 + j', fun h => hlm13 (h3 (by rw [show k + (1 + j3) + j' = k + (1 + j3 + j') by omega]; exact h)), ?_⟩
        rcases h4 with ⟨hb, x, p1, p1', e1, nn1, v1, v2, v3, v4, v5, v6, v7, v8, v9, v10, v11, v12, v13, v14⟩ | h4
        · refine Or.inl ⟨hb, x, p1, p1', e1, nn1, v1, v2, v3, by omega, by omega, by omega, by omega, by omega, by omega, (q7.tr r11 (by omega)).tr v10 (Nat.le_refl _), ((hcE2.tr r12 (by omega)).tr hcE4 (by omega)).tr v11 (by omega), ?_, ?_, ?_⟩
          · intro q a c i hi h1 h2 h3
            rw [v12 q a c i (by omega) (by omega) (by omega) (by omega), r11.2.2.2 q a c i (Or.inl (by omega))]
            exact q8 q a c i hi h1 h3
          · intro h
            have g1 := v13 h
            rw [show cadd C3 e3 19 0 0 2 5 = C3 2 5 by simp [cadd, ai_up_eq]] at g1
            have g2 := (r13 g1).1
            simpa [cadd, ai_up_eq] using g2
          · rcases v14 with ⟨w1, -⟩ | ⟨w1, w2, w3, w4, w5, w6, y, c, w7, w8, w9⟩
            · exact absurd w1 hnn2.2.2.1
            · obtain ⟨w4a, w4b⟩ := w4 hnn2.2.2.1
              refine Or.inr ⟨w1, w2, by omega, fun h0 => ?_, fun h0 => ?_, ?_, x3, c + 1, w4b, by omega, fun hN => ?_⟩
              · obtain ⟨a1, a2, a3⟩ := q10 h0
                obtain ⟨b1, b2, b3, b4, b5, b6, b7, b8⟩ := hnz h0
                refine ⟨by omega, ?_⟩
                rw [v12 4 (by omega) (by omega) ls (by omega) (by omega) (by omega) (by omega), r11.2.2.2 4 (by omega) (by omega) ls (Or.inl (by omega))]
                exact a3
              · obtain ⟨a1, a2, a3, a4, a5, a6⟩ := q11 h0
                refine ⟨by omega, ?_, ?_, by rw [ht]; decide⟩
                · rw [w4a, v12 2 (by omega) (by omega) nd2 (by omega) (by omega) (by omega) (by omega), r11.2.2.2 2 (by omega) (by omega) nd2 (Or.inl (by omega))]
                  exact a3
                · rw [w4a, v12 3 (by omega) (by omega) nd2 (by omega) (by omega) (by omega) (by omega), r11.2.2.2 3 (by omega) (by omega) nd2 (Or.inl (by omega))]
                  exact a4
              · rw [v12 8 (by omega) (by omega) g (by omega) (by omega) (by omega) (by omega), r11.2.2.2 8 (by omega) (by omega) g (Or.inl (by omega))]
                exact q9
              · have g1 : C3 2 5 = 1 := by
                  have := v13 hN
                  simpa [cadd, ai_up_eq] using this
                have kE := (r13 g1).2
                have k27 : ∀ i, i < e3 → ∀ j, j < 3 → cd C' j i = cd C3 j i := fun i hi j hj => by
                  rw [show cd C' j i = cd (cadd C3 e3 19 0 0) j i from v11.2.2.2 (27 + j) (by omega) (by omega) i (by omega), cd_cadd hj (by omega)]
                refine Or.inr ⟨by omega, ?_, e3, y, 0, ?_, w7, w6, by omega, ?_, cx_op_w (w9 hN) (Nat.le_refl _) (Nat.le_refl _) (fun i hi => ⟨by omega, hi.2.1, hi.2.2⟩)⟩
                · rw [k27 e (by omega) 0 (by omega), show cd C3 0 e = cd (cadd (ai_up C 2 2 (nI (px_s tx n p + 1))) e 18 0 0) 0 e from r12.2.2.2 27 (by omega) (by omega) e (by omega), cd_cadd0]
                · refine cx_E_mono (e0 := e + 1) (e1 := e3) (v10.ag hsb) (fun j hj i _ hi => k27 i hi j hj) F F _ _ x3 (e + 1) e3 (Nat.le_refl _) (fun i hi => ⟨?_, ?_, ?_⟩) (fun i hi => ?_) (fun i hi hne => ?_) (Nat.le_refl _) (Nat.le_refl _) kE
                  · have := hi.1; omega
                  · have := hi.2; omega
                  · have := hi.1; omega
                  · have h1 := hi.1
                    have h2 := hi.2
                    exact ⟨v12 2 (by omega) (by omega) i h2 (by omega) (by omega) (by omega), v12 3 (by omega) (by omega) i h2 (by omega) (by omega) (by omega), v12 5 (by omega) (by omega) i h2 (by omega) (by omega) (by omega), v12 6 (by omega) (by omega) i h2 (by omega) (by omega) (by omega), v12 7 (by omega) (by omega) i h2 (by omega) (by omega) (by omega)⟩
                  · have h1 := hi.1
                    have h2 := hi.2
                    exact ⟨v12 4 (by omega) (by omega) i h2 (by omega) (by omega) (by omega), v12 8 (by omega) (by omega) i h2 (by omega) (by omega) (by omega)⟩
                · rw [show cd C' 0 e3 = cd (cadd C3 e3 19 0 0) 0 e3 from v11.2.2.2 27 (by omega) (by omega) e3 (by omega), cd_cadd0]
                  rfl
        · exact Or.inr ⟨h4.1, h4.2.imp id (fun h => h.le (by omega) (by omega))⟩
      · rcases hbb with rfl | hpg
        · exact ai_zf ⟨R3, 1 + j3, hlm13, Or.inr ⟨hwr, Or.inl rfl⟩⟩
        · refine ⟨fun _ => ?_, fun _ => ⟨R3, 1 + j3, hlm13, Or.inr ⟨hwr, Or.inl rfl⟩⟩⟩
          refine pg_add (q0 := 4) hpg (fun C4 hpg4 _ => ?_)
          refine vX3_sum_12 hV3 ⟨fun h => absurd h ?_, fun _ => pg_take hV0 hpg4 (by decide) (fun h => ai_zf (pg_take hV0 h (by decide) (fun h => ai_zf ⟨R3, 1 + j3, hlm13, Or.inr ⟨hwr, Or.inr (h.le (by omega) (by omega))⟩⟩)))⟩
          rw [nI_1, show (320 : Int32) = nI 320 from rfl, i_lt (by omega) (by omega)]; omega
    · -- one more, behind a minus
      rw [hss, ai_up_up]
      rw [hss] at ht
      have hlt : px_s tx n p < n := px_lt ht (by decide)
      have hy : px_c tx n (-1) (px_s tx n p') = 45 := by rw [← hsk]; exact (px_cc (by decide) (by decide)).mp ht
      obtain ⟨R2, nd2, nn2, hlm, q1, q2, q3, q4, q5, q6, q7, q8, q9, q10, q11⟩ := sum_more1 (z := z) (k := k) (b0 := b0) (by omega) hmq (by omega) hg hg1 hg2 (by omega) hz (fun h => by have := hnz h; omega) hb0 hy
      rw [← hsk] at q2
      have hnn2 : nn ≤ nn2 ∧ nn2 ≤ nn + 1 ∧ nd2 ≠ 0 ∧ b0 < nd2 ∧ nd2 ≤ 350 * hf + nn2 ∧ nd2 ≠ g ∧ R2 4 nd2 = nI 0 := by
        by_cases h0 : nd = 0
        · obtain ⟨a1, a2, a3, a4, a5, a6⟩ := q11 h0
          exact ⟨by omega, by omega, by omega, by omega, by omega, by omega, a5⟩
        · obtain ⟨a1, a2, a3⟩ := q10 h0
          obtain ⟨b1, b2, b3, b4, b5, b6, b7, b8⟩ := hnz h0
          refine ⟨by omega, by omega, by omega, by omega, by omega, by omega, ?_⟩
          rw [a1, q8 4 (by omega) (by omega) nd b3 (by omega) (by omega)]
          exact b8
      refine sp_cadd (e := e) (by rw [ai_up_n (by omega)]; exact hC3) (by omega) ?_
      have hcE2 : cE C (cadd (ai_up C 2 2 (nI (px_s tx n p + 1))) e 18 0 0) e := (cE.rf.u2 2 _ (by omega)).add (Nat.le_refl _) _ _ _
      have hpv2 : pv (cadd (ai_up C 2 2 (nI (px_s tx n p + 1))) e 18 0 0) R2 tx n hf sc SC m ns pr vr (px_s tx n p + 1) (px_s tx n p + 1) (e + 1) nn2 ((36, 0, dp, 0, 0) :: (34, nd2, dp, g, 1) :: stk) := by
        refine pv_ofb hpv hsb hcE2 q7 (by simp [cadd, ai_up_eq]) hlt (by simp [cadd, ai_up_eq]) q2 hlt q3 q1 q4 rfl ?_ ?_ hnn2.1 (by omega)
        · rw [q6]; simp [cadd, ai_up_eq]; exact h9
        · rw [q5]; simp only [cadd, ai_up_eq]; simpa using hnh
      refine (hF _ R2 _ _ _ _ _ (k + 1) hpv2 (by simp; omega) (by omega) (by omega) (by omega)).mb (fun b C3 hE => ?_)
      obtain ⟨R3, j3, hlm3, hE⟩ := hE
      have hlm13 : lm z R3 (k + (1 + j3)) → lm z R k := fun h => hlm (hlm3 (by rw [Nat.add_assoc]; exact h))
      rcases hE with ⟨rfl, x3, p3, p3', e3, nn3, hpv3, r31, rx, -, r4, r5, r6, r7, r8, r9, r10, r11, r12, r13⟩ | ⟨hwr, hbb⟩
      · -- it is read: on
        refine ai_zt ?_
        have hp3n : p3 ≤ n := hpv3.2.2.1
        refine sp_cadd (e := e3) hpv3.2.2.2.1 (by omega) ?_
        have hcE4 : cE C3 (cadd C3 e3 20 0 0) e3 := cE.rf.add (Nat.le_refl _) _ _ _
        have hpv4 : pv (cadd C3 e3 20 0 0) R3 tx n hf sc SC m ns pr vr p3 p3' (e3 + 1) nn3 ((34, nd2, dp, g, 1) :: stk) := by
          obtain ⟨gT, gp, gpn, gC3, gmq, gsk, g8, g9, gnh, gsp, gsc, gnn⟩ := id hpv3
          refine pv_of (t := 0) hpv3 hcE4 mE.rf (by simp [cadd, ai_up_eq]; exact gp) gpn (by simp [cadd, ai_up_eq]) gmq.2.1 gmq.2.2.1 gmq.2.2.2.2.2.1 gmq.2.2.2.2.2.2.1 gmq.2.2.2.2.2.2.2 gsk (by simp [cadd, ai_up_eq]; exact g9) (by simp only [cadd, ai_up_eq]; simpa using gnh) (Nat.le_refl _) gnn
        have r4g : R3 4 g = R2 4 g := r11.2.2.2 4 (by omega) (by omega) g (Or.inl (by omega))
        rw [nI_1 i]
        have hx1 : 350 * hf + nn2 < x3 := rx.1
        have hx2 : x3 ≤ 350 * hf + nn3 := rx.2
        refine (ih (n - p3) (by omega) (cadd C3 e3 20 0 0) R3 p3 p3' (e3 + 1) nn3 (k + (1 + j3)) (i + 1) nd2 g 1 x3 (by omega) hpv4 hst (by omega) (by omega) (by omega) (by omega) r31 (by omega) hx2 (fun h => absurd h hnn2.2.2.1) (fun _ => ⟨hg1, by omega, by omega, by omega, by omega, by omega, hnn2.2.2.2.2.2.1, ?_⟩) r4).mono ?_
        · rw [r11.2.2.2 4 (by omega) (by omega) nd2 (Or.inl (by omega))]; exact hnn2.2.2.2.2.2.2
        rintro r C' V' ⟨h1, b, h2, R', j', h3, h4⟩
        refine ⟨h1, b, h2, R', 1 + j3 + j', fun h => hlm13 (h3 (by rw [show k + (1 + j3) + j' = k + (1 + j3 + j') by omega]; exact h)), ?_⟩
        rcases h4 with ⟨hb, x, p1, p1', e1, nn1, v1, v2, v3, v4, v5, v6, v7, v8, v9, v10, v11, v12, v13, v14⟩ | h4
        · refine Or.inl ⟨hb, x, p1, p1', e1, nn1, v1, v2, v3, by omega, by omega, by omega, by omega, by omega, by omega, (q7.tr r11 (by omega)).tr v10 (Nat.le_refl _), ((hcE2.tr r12 (by omega)).tr hcE4 (by omega)).tr v11 (by omega), ?_, ?_, ?_⟩
          · intro q a c i hi h1 h2 h3
            rw [v12 q a c i (by omega) (by omega) (by omega) (by omega), r11.2.2.2 q a c i (Or.inl (by omega))]
            exact q8 q a c i hi h1 h3
          · intro h
            have g1 := v13 h
            rw [show cadd C3 e3 20 0 0 2 5 = C3 2 5 by simp [cadd, ai_up_eq]] at g1
            have g2 := (r13 g1).1
            simpa [cadd, ai_up_eq] using g2
          · rcases v14 with ⟨w1, -⟩ | ⟨w1, w2, w3, w4, w5, w6, y, c, w7, w8, w9⟩
            · exact absurd w1 hnn2.2.2.1
            · obtain ⟨w4a, w4b⟩ := w4 hnn2.2.2.1
              refine Or.inr ⟨w1, w2, by omega, fun h0 => ?_, fun h0 => ?_, ?_, x3, c + 1, w4b, by omega, fun hN => ?_⟩
              · obtain ⟨a1, a2, a3⟩ := q10 h0
                obtain ⟨b1, b2, b3, b4, b5, b6, b7, b8⟩ := hnz h0
                refine ⟨by omega, ?_⟩
                rw [v12 4 (by omega) (by omega) ls (by omega) (by omega) (by omega) (by omega), r11.2.2.2 4 (by omega) (by omega) ls (Or.inl (by omega))]
                exact a3
              · obtain ⟨a1, a2, a3, a4, a5, a6⟩ := q11 h0
                refine ⟨by omega, ?_, ?_, by rw [ht]; decide⟩
                · rw [w4a, v12 2 (by omega) (by omega) nd2 (by omega) (by omega) (by omega) (by omega), r11.2.2.2 2 (by omega) (by omega) nd2 (Or.inl (by omega))]
                  exact a3
                · rw [w4a, v12 3 (by omega) (by omega) nd2 (by omega) (by omega) (by omega) (by omega), r11.2.2.2 3 (by omega) (by omega) nd2 (Or.inl (by omega))]
                  exact a4
              · rw [v12 8 (by omega) (by omega) g (by omega) (by omega) (by omega) (by omega), r11.2.2.2 8 (by omega) (by omega) g (Or.inl (by omega))]
                exact q9
              · have g1 : C3 2 5 = 1 := by
                  have := v13 hN
                  simpa [cadd, ai_up_eq] using this
                have kE := (r13 g1).2
                have k27 : ∀ i, i < e3 → ∀ j, j < 3 → cd C' j i = cd C3 j i := fun i hi j hj => by
                  rw [show cd C' j i = cd (cadd C3 e3 20 0 0) j i from v11.2.2.2 (27 + j) (by omega) (by omega) i (by omega), cd_cadd hj (by omega)]
                refine Or.inr ⟨by omega, ?_, e3, y, 1, ?_, w7, w6, by omega, ?_, cx_op_w (w9 hN) (Nat.le_refl _) (Nat.le_refl _) (fun i hi => ⟨by omega, hi.2.1, hi.2.2⟩)⟩
                · rw [k27 e (by omega) 0 (by omega), show cd C3 0 e = cd (cadd (ai_up C 2 2 (nI (px_s tx n p + 1))) e 18 0 0) 0 e from r12.2.2.2 27 (by omega) (by omega) e (by omega), cd_cadd0]
                · refine cx_E_mono (e0 := e + 1) (e1 := e3) (v10.ag hsb) (fun j hj i _ hi => k27 i hi j hj) F F _ _ x3 (e + 1) e3 (Nat.le_refl _) (fun i hi => ⟨?_, ?_, ?_⟩) (fun i hi => ?_) (fun i hi hne => ?_) (Nat.le_refl _) (Nat.le_refl _) kE
                  · have := hi.1; omega
                  · have := hi.2; omega
                  · have := hi.1; omega
                  · have h1 := hi.1
                    have h2 := hi.2
                    exact ⟨v12 2 (by omega) (by omega) i h2 (by omega) (by omega) (by omega), v12 3 (by omega) (by omega) i h2 (by omega) (by omega) (by omega), v12 5 (by omega) (by omega) i h2 (by omega) (by omega) (by omega), v12 6 (by omega) (by omega) i h2 (by omega) (by omega) (by omega), v12 7 (by omega) (by omega) i h2 (by omega) (by omega) (by omega)⟩
                  · have h1 := hi.1
                    have h2 := hi.2
                    exact ⟨v12 4 (by omega) (by omega) i h2 (by omega) (by omega) (by omega), v12 8 (by omega) (by omega) i h2 (by omega) (by omega) (by omega)⟩
                · rw [show cd C' 0 e3 = cd (cadd C3 e3 20 0 0) 0 e3 from v11.2.2.2 27 (by omega) (by omega) e3 (by omega), cd_cadd0]
                  rfl
        · exact Or.inr ⟨h4.1, h4.2.imp id (fun h => h.le (by omega) (by omega))⟩
      · rcases hbb with rfl | hpg
        · exact ai_zf ⟨R3, 1 + j3, hlm13, Or.inr ⟨hwr, Or.inl rfl⟩⟩
        · refine ⟨fun _ => ?_, fun _ => ⟨R3, 1 + j3, hlm13, Or.inr ⟨hwr, Or.inl rfl⟩⟩⟩
          refine pg_add (q0 := 4) hpg (fun C4 hpg4 _ => ?_)
          refine vX3_sum_12 hV3 ⟨fun h => absurd h ?_, fun _ => pg_take hV0 hpg4 (by decide) (fun h => ai_zf (pg_take hV0 h (by decide) (fun h => ai_zf ⟨R3, 1 + j3, hlm13, Or.inr ⟨hwr, Or.inr (h.le (by omega) (by omega))⟩⟩)))⟩
          rw [nI_1, show (320 : Int32) = nI 320 from rfl, i_lt (by omega) (by omega)]; omega
    · -- no more
      rw [hss, ai_up_up]
      rw [hss] at hf0
      have hy : ¬ px_c tx n (-1) (px_s tx n p') = 43 := by rw [← hsk]; exact fun h => hf1 ((px_cc (by decide) (by decide)).mpr h)
      have hy2 : ¬ px_c tx n (-1) (px_s tx n p') = 45 := by rw [← hsk]; exact fun h => hf0 ((px_cc (by decide) (by decide)).mpr h)
      obtain ⟨R2, x, hlm, q1, q2, q3, q4, q5, q6, q7, q8, q9, q10⟩ := sum_stop (z := z) (k := k) (b0 := b0) (by omega) hmq (by omega) hg hg1 hg2 (by omega) hz (fun h => by have := hnz h; omega) hb0 hy hy2
      rw [← hsk] at q2
      refine ⟨R2, 1, hlm, Or.inl ⟨rfl, x, px_s tx n p, px_s tx n p, e, nn, ?_, q3, ?_, hskp, by omega, by omega, Nat.le_refl _, Nat.le_refl _, by omega, q8, cE.rf.u2 2 _ (by omega), fun q a c i hi h1 h2 h3 => q9 q a c i hi h1 h3, fun h => by rw [ai_up_n (by omega)] at h; exact h, ?_⟩⟩
      · refine pv_ofb hpv hsb (cE.rf.u2 2 _ (by omega)) q8 ai_up_s hskn (by rw [ai_up_n (by omega)]; exact hC3) q2 hskn (by rw [q4]; exact hmq.2.2.2.2.2.1) q1 q5 rfl ?_ ?_ (Nat.le_refl _) hnn3
        · rw [q7, ai_up_n (by omega)]; exact h9
        · rw [q6, ai_up_n (by omega)]; exact hnh
      · rcases q10 with ⟨a1, a2, a3, a4⟩ | ⟨a1, a2, a3, a4⟩
        · rw [a2, a4]; exact hg4
        · obtain ⟨b1, b2, b3, b4, b5, b6, b7, b8⟩ := hnz a1
          rw [a2, q9 4 (by omega) (by omega) nd b3 (by omega) (by omega)]; exact b8
      · rcases q10 with ⟨a1, a2, a3, a4⟩ | ⟨a1, a2, a3, a4⟩
        · exact Or.inl ⟨a1, a2, rfl, rfl, px_s_s tx n p, q9 2 (by omega) (by omega) g hg2 (by omega) (by omega)⟩
        · obtain ⟨b1, b2, b3, b4, b5, b6, b7, b8⟩ := hnz a1
          refine Or.inr ⟨by omega, by omega, by omega, fun _ => ⟨a2, a4⟩, fun h => absurd h a1, a3, 0, 0, ?_, by omega, fun _ => ⟨rfl, rfl⟩⟩
          rw [q9 4 (by omega) (by omega) g hg2 (by omega) (by omega)]; exact hg4
end SSU
