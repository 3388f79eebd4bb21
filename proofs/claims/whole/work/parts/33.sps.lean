/-! ===== product and sum ===== -/
section SPS
variable {l : Launch} {D : va_G} {ρ : Nat → Nat} {τ : Nat → ClassId} {z : lm_T} {V : ai_V} {tx : Nat → Int32} {n hf : Nat} {sc : sc_T} {SC : Nat → sc_T} {m ns pr vr d dp F : Nat}
set_option maxHeartbeats 4000000 in
theorem sim_prod (hV0 : hV ρ V tx n) (hV3 : V 2 3 = .ref 26) (hdp : dp ≤ 10) (hF : sF l D ρ τ z V tx n hf sc SC m ns pr vr (d + 1) dp F 6 3 mX3_factor 39) : sF l D ρ τ z V tx n hf sc SC m ns pr vr (d + 2) dp (F + 1) 4 2 mX3_product 36 := by
  intro C R p p' e nn stk k hpv hst he hnn hk
  obtain ⟨hT, hp, hpn, hC3, hmq, hsk, h8, h9, hnh, hsp, hsc, hnn3⟩ := id hpv
  have hn320 : n ≤ 320 := hT.2.1
  obtain ⟨hmT, m2, mpn, m14, mhf, m15, hmf, m19⟩ := id hmq
  obtain ⟨⟨t13, t14, t15, t16, t17⟩, hml, h30⟩ := mf_top hmf
  dsimp only at t13 t14 t15 t16 t17
  obtain ⟨R1, hR1⟩ : ∃ R1, R1 = mpush (ai_up R 13 stk.length (nI 37)) (stk.length + 1) (nI 39) (nI dp) := ⟨_, rfl⟩
  have hlm1 : lm z R1 (k + 1) → lm z R k := fun hlm => lm_head (by omega) m19 h30 (by omega) t13 (by omega) (fun h => by omega) (fun _ _ _ => ex_36 (by omega) h30 t15 t13 (by rw [← hR1]; exact hlm)) (fun _ h => by omega)
  have hmE1 : ∀ b t, mE R R1 b t := fun b t => by rw [hR1]; exact (mE.rf.uF 13 _ _ (by omega) (by omega)).push _ _ _
  have hmf1 : mf R1 ((39, 0, dp, 0, 0) :: (37, 0, dp, 0, 0) :: stk) := by
    rw [hR1]
    refine mf_push (stk := (37, 0, dp, 0, 0) :: stk) ⟨mf_at_of ?_ ?_ ?_ ?_ ?_, mf_l_o hml 13 _ _ (by omega)⟩ 39 dp
    · simp [ai_up_eq]
    · simp [ai_up_eq, t14]
    · simp [ai_up_eq, t15]
    · simp [ai_up_eq, t16]
    · simp [ai_up_eq, t17]
  have e2 : R1 0 2 = nI p' := by rw [hR1]; simp [mpush, ai_up_eq]; exact m2
  have e15 : R1 0 15 = nI (350 * hf + nn) := by rw [hR1]; simp [mpush, ai_up_eq]; exact m15
  have e19 : R1 0 19 = 0 := by rw [hR1]; simp [mpush, ai_up_eq]; exact m19
  have e20 : R1 0 20 = R 0 20 := by rw [hR1]; simp [mpush, ai_up_eq]
  have e24 : R1 0 24 = R 0 24 := by rw [hR1]; simp [mpush, ai_up_eq]
  have hpv1 : pv C R1 tx n hf sc SC m ns pr vr p p' e nn ((39, 0, dp, 0, 0) :: (37, 0, dp, 0, 0) :: stk) :=
    pv_of (t := 0) hpv cE.rf (hmE1 _ _) hp hpn hC3 e2 mpn e15 hmf1 e19 hsk (by rw [e24]; exact h9) (by rw [e20]; exact hnh) (Nat.le_refl _) hnn3
  refine vX3_product hV3 ((hF C R1 p p' e nn _ (k + 1) hpv1 (by simp; omega) he hnn (by omega)).mb (fun b C3 hE => ?_))
  obtain ⟨R3, j3, hlm3, hE⟩ := hE
  have hlm13 : lm z R3 (k + (1 + j3)) → lm z R k := fun h => hlm1 (hlm3 (by rw [Nat.add_assoc]; exact h))
  rcases hE with ⟨rfl, x3, p3, p3', e3, nn3, hpv3, r31, rx, rt, r4, r5, r6, r7, r8, r9, r10, r11, r12, r13⟩ | ⟨hwr, hbb⟩
  · refine ai_zt ?_
    have hx1 : 350 * hf + nn < x3 := rx.1
    have hx2 : x3 ≤ 350 * hf + nn3 := rx.2
    have hp3n : p3 ≤ n := hpv3.2.2.1
    refine (simL_prod hV0 hV3 hdp hF stk (350 * hf + nn) hsc (by omega) (n - p3) C3 R3 p3 p3' e3 nn3 (k + (1 + j3)) 0 0 0 0 x3 (by omega) hpv3 (by omega) (by omega) (by omega) (by omega) (by omega) r31 hx1 hx2 (fun _ => rfl) (fun h => absurd rfl h) r4).mono ?_
    rintro r C' V' ⟨h1, b, h2, R', j', h3, h4⟩
    refine ⟨h1, b, h2, R', 1 + j3 + j', fun h => hlm13 (h3 (by rw [show k + (1 + j3) + j' = k + (1 + j3 + j') by omega]; exact h)), ?_⟩
    rcases h4 with ⟨hb, x, p1, p1', e1, nn1, v1, v2, v3, v4, v5, v6, v7, v8, v9, v10, v11, v12, v13, v14⟩ | h4
    · have hxr : nr hf nn nn1 x := by
        rcases v14 with ⟨-, w2, w3, w4, -⟩ | ⟨w1, w2, -⟩
        · exact ⟨by omega, by omega⟩
        · exact ⟨by omega, by omega⟩
      have hxt : tn R' tx n p p1 x := by
        rcases v14 with ⟨-, w2, w3, w4, w5, w6⟩ | ⟨w1, w2, w3, w4, w5, -⟩
        · rw [w2]
          exact ⟨fun h => by rw [w6] at h; obtain ⟨g1, g2, g3⟩ := rt.1 h; exact ⟨g1, g2, w5.trans g3⟩, fun g1 g2 g3 => by rw [w6]; exact rt.2 g1 g2 g3⟩
        · obtain ⟨a1, a2, a3, a4⟩ := w5 rfl
          refine ⟨fun h => absurd (a2.symm.trans h) (by decide), fun g1 g2 g3 => ?_⟩
          rw [← (rt.1 (rt.2 g1 g2 g3)).2.2] at g3
          exact absurd g3 a4
      refine Or.inl ⟨hb, x, p1, p1', e1, nn1, v1, v2, hxr, hxt, v3, by omega, by omega, by omega, by omega, by omega, by omega, ((hmE1 _ _).tr r11 (Nat.le_refl _)).tr v10 (Nat.le_refl _), r12.tr v11 (by omega), fun hN => ?_⟩
      have g1 := v13 hN
      have hp1n : p1 ≤ n := v1.2.2.1
      obtain ⟨g2, kE⟩ := r13 g1
      refine ⟨g2, ?_⟩
      have kE' : ∀ P' : Nat → Prop, (∀ i, nr hf nn nn3 i → P' i) → cx_E (cd C') R' (16 * hf) SC sc F P' x3 e e3 := by
        intro P' hP'
        refine cx_E_mono (e0 := e) (e1 := e3) (v10.ag hsc) (v11.kk e) F F _ _ x3 e e3 (Nat.le_refl _) hP' (fun i hi => ?_) (fun i hi hne => ?_) (Nat.le_refl _) (Nat.le_refl _) kE
        · have h1 := hi.1
          have h2 := hi.2
          exact ⟨v12 2 (by omega) (by omega) i h2 (by omega) (by omega) (by omega), v12 3 (by omega) (by omega) i h2 (by omega) (by omega) (by omega), v12 5 (by omega) (by omega) i h2 (by omega) (by omega) (by omega), v12 6 (by omega) (by omega) i h2 (by omega) (by omega) (by omega), v12 7 (by omega) (by omega) i h2 (by omega) (by omega) (by omega)⟩
        · have h1 := hi.1
          have h2 := hi.2
          exact ⟨v12 4 (by omega) (by omega) i h2 (by omega) (by omega) (by omega), v12 8 (by omega) (by omega) i h2 (by omega) (by omega) (by omega)⟩
      rcases v14 with ⟨-, w2, w3, w4, -⟩ | ⟨w1, w2, w3, w4, w5, w6, y, c, w7, w8, w9⟩
      · rw [w2, w3, w4]
        exact cx_E_w (kE' _ (fun i hi => hi)) (by omega) (fun i hi => hi)
      · obtain ⟨a1, a2, a3, -⟩ := w5 rfl
        refine ⟨hxr, by omega, Or.inr (Or.inr (Or.inr (Or.inl ⟨Or.inr (Or.inr a2), x3, y, e3, a3, kE' _ (fun i hi => ⟨⟨hi.1, ?_⟩, ?_⟩), w7, cx_op_w (w9 hN) (Nat.le_refl _) (by omega) (fun i hi => ⟨⟨by omega, hi.2.1⟩, hi.2.2⟩)⟩)))⟩
        · have := hi.2; omega
        · have := hi.2; omega
    · exact Or.inr ⟨h4.1, h4.2.imp id (fun h => h.le (by omega) (by omega))⟩
  · rcases hbb with rfl | hpg
    · exact ai_zf ⟨R3, 1 + j3, hlm13, Or.inr ⟨hwr, Or.inl rfl⟩⟩
    · refine ⟨fun _ => ?_, fun _ => ⟨R3, 1 + j3, hlm13, Or.inr ⟨hwr, Or.inl rfl⟩⟩⟩
      refine vX3_product_12 hV3 ⟨fun h => absurd h (by decide), fun _ => pg_take hV0 hpg (by decide) (fun h => ai_zf ⟨R3, 1 + j3, hlm13, Or.inr ⟨hwr, Or.inr (h.le (by omega) (by omega))⟩⟩)⟩
set_option maxHeartbeats 4000000 in
theorem sim_sum (hV0 : hV ρ V tx n) (hV3 : V 2 3 = .ref 26) (hdp : dp ≤ 10) (hF : sF l D ρ τ z V tx n hf sc SC m ns pr vr (d + 1) dp F 4 2 mX3_product 36) : sF l D ρ τ z V tx n hf sc SC m ns pr vr (d + 2) dp (F + 1) 2 1 mX3_sum 33 := by
  intro C R p p' e nn stk k hpv hst he hnn hk
  obtain ⟨hT, hp, hpn, hC3, hmq, hsk, h8, h9, hnh, hsp, hsc, hnn3⟩ := id hpv
  have hn320 : n ≤ 320 := hT.2.1
  obtain ⟨hmT, m2, mpn, m14, mhf, m15, hmf, m19⟩ := id hmq
  obtain ⟨⟨t13, t14, t15, t16, t17⟩, hml, h30⟩ := mf_top hmf
  dsimp only at t13 t14 t15 t16 t17
  obtain ⟨R1, hR1⟩ : ∃ R1, R1 = mpush (ai_up R 13 stk.length (nI 34)) (stk.length + 1) (nI 36) (nI dp) := ⟨_, rfl⟩
  have hlm1 : lm z R1 (k + 1) → lm z R k := fun hlm => lm_head (by omega) m19 h30 (by omega) t13 (by omega) (fun h => by omega) (fun _ _ _ => ex_33 (by omega) h30 t15 t13 (by rw [← hR1]; exact hlm)) (fun _ h => by omega)
  have hmE1 : ∀ b t, mE R R1 b t := fun b t => by rw [hR1]; exact (mE.rf.uF 13 _ _ (by omega) (by omega)).push _ _ _
  have hmf1 : mf R1 ((36, 0, dp, 0, 0) :: (34, 0, dp, 0, 0) :: stk) := by
    rw [hR1]
    refine mf_push (stk := (34, 0, dp, 0, 0) :: stk) ⟨mf_at_of ?_ ?_ ?_ ?_ ?_, mf_l_o hml 13 _ _ (by omega)⟩ 36 dp
    · simp [ai_up_eq]
    · simp [ai_up_eq, t14]
    · simp [ai_up_eq, t15]
    · simp [ai_up_eq, t16]
    · simp [ai_up_eq, t17]
  have e2 : R1 0 2 = nI p' := by rw [hR1]; simp [mpush, ai_up_eq]; exact m2
  have e15 : R1 0 15 = nI (350 * hf + nn) := by rw [hR1]; simp [mpush, ai_up_eq]; exact m15
  have e19 : R1 0 19 = 0 := by rw [hR1]; simp [mpush, ai_up_eq]; exact m19
  have e20 : R1 0 20 = R 0 20 := by rw [hR1]; simp [mpush, ai_up_eq]
  have e24 : R1 0 24 = R 0 24 := by rw [hR1]; simp [mpush, ai_up_eq]
  have hpv1 : pv C R1 tx n hf sc SC m ns pr vr p p' e nn ((36, 0, dp, 0, 0) :: (34, 0, dp, 0, 0) :: stk) :=
    pv_of (t := 0) hpv cE.rf (hmE1 _ _) hp hpn hC3 e2 mpn e15 hmf1 e19 hsk (by rw [e24]; exact h9) (by rw [e20]; exact hnh) (Nat.le_refl _) hnn3
  refine vX3_sum hV3 ((hF C R1 p p' e nn _ (k + 1) hpv1 (by simp; omega) he hnn (by omega)).mb (fun b C3 hE => ?_))
  obtain ⟨R3, j3, hlm3, hE⟩ := hE
  have hlm13 : lm z R3 (k + (1 + j3)) → lm z R k := fun h => hlm1 (hlm3 (by rw [Nat.add_assoc]; exact h))
  rcases hE with ⟨rfl, x3, p3, p3', e3, nn3, hpv3, r31, rx, rt, r4, r5, r6, r7, r8, r9, r10, r11, r12, r13⟩ | ⟨hwr, hbb⟩
  · refine ai_zt ?_
    have hx1 : 350 * hf + nn < x3 := rx.1
    have hx2 : x3 ≤ 350 * hf + nn3 := rx.2
    have hp3n : p3 ≤ n := hpv3.2.2.1
    refine (simL_sum hV0 hV3 hdp hF stk (350 * hf + nn) hsc (by omega) (n - p3) C3 R3 p3 p3' e3 nn3 (k + (1 + j3)) 0 0 0 0 x3 (by omega) hpv3 (by omega) (by omega) (by omega) (by omega) (by omega) r31 hx1 hx2 (fun _ => rfl) (fun h => absurd rfl h) r4).mono ?_
    rintro r C' V' ⟨h1, b, h2, R', j', h3, h4⟩
    refine ⟨h1, b, h2, R', 1 + j3 + j', fun h => hlm13 (h3 (by rw [show k + (1 + j3) + j' = k + (1 + j3 + j') by omega]; exact h)), ?_⟩
    rcases h4 with ⟨hb, x, p1, p1', e1, nn1, v1, v2, v3, v4, v5, v6, v7, v8, v9, v10, v11, v12, v13, v14⟩ | h4
    · have hxr : nr hf nn nn1 x := by
        rcases v14 with ⟨-, w2, w3, w4, -⟩ | ⟨w1, w2, -⟩
        · exact ⟨by omega, by omega⟩
        · exact ⟨by omega, by omega⟩
      have hxt : tn R' tx n p p1 x := by
        rcases v14 with ⟨-, w2, w3, w4, w5, w6⟩ | ⟨w1, w2, w3, w4, w5, -⟩
        · rw [w2]
          exact ⟨fun h => by rw [w6] at h; obtain ⟨g1, g2, g3⟩ := rt.1 h; exact ⟨g1, g2, w5.trans g3⟩, fun g1 g2 g3 => by rw [w6]; exact rt.2 g1 g2 g3⟩
        · obtain ⟨a1, a2, a3, a4⟩ := w5 rfl
          refine ⟨fun h => absurd (a2.symm.trans h) (by decide), fun g1 g2 g3 => ?_⟩
          rw [← (rt.1 (rt.2 g1 g2 g3)).2.2] at g3
          exact absurd g3 a4
      refine Or.inl ⟨hb, x, p1, p1', e1, nn1, v1, v2, hxr, hxt, v3, by omega, by omega, by omega, by omega, by omega, by omega, ((hmE1 _ _).tr r11 (Nat.le_refl _)).tr v10 (Nat.le_refl _), r12.tr v11 (by omega), fun hN => ?_⟩
      have g1 := v13 hN
      have hp1n : p1 ≤ n := v1.2.2.1
      obtain ⟨g2, kE⟩ := r13 g1
      refine ⟨g2, ?_⟩
      have kE' : ∀ P' : Nat → Prop, (∀ i, nr hf nn nn3 i → P' i) → cx_E (cd C') R' (16 * hf) SC sc F P' x3 e e3 := by
        intro P' hP'
        refine cx_E_mono (e0 := e) (e1 := e3) (v10.ag hsc) (v11.kk e) F F _ _ x3 e e3 (Nat.le_refl _) hP' (fun i hi => ?_) (fun i hi hne => ?_) (Nat.le_refl _) (Nat.le_refl _) kE
        · have h1 := hi.1
          have h2 := hi.2
          exact ⟨v12 2 (by omega) (by omega) i h2 (by omega) (by omega) (by omega), v12 3 (by omega) (by omega) i h2 (by omega) (by omega) (by omega), v12 5 (by omega) (by omega) i h2 (by omega) (by omega) (by omega), v12 6 (by omega) (by omega) i h2 (by omega) (by omega) (by omega), v12 7 (by omega) (by omega) i h2 (by omega) (by omega) (by omega)⟩
        · have h1 := hi.1
          have h2 := hi.2
          exact ⟨v12 4 (by omega) (by omega) i h2 (by omega) (by omega) (by omega), v12 8 (by omega) (by omega) i h2 (by omega) (by omega) (by omega)⟩
      rcases v14 with ⟨-, w2, w3, w4, -⟩ | ⟨w1, w2, w3, w4, w5, w6, y, c, w7, w8, w9⟩
      · rw [w2, w3, w4]
        exact cx_E_w (kE' _ (fun i hi => hi)) (by omega) (fun i hi => hi)
      · obtain ⟨a1, a2, a3, -⟩ := w5 rfl
        refine ⟨hxr, by omega, Or.inr (Or.inr (Or.inr (Or.inl ⟨Or.inr (Or.inl a2), x3, y, e3, a3, kE' _ (fun i hi => ⟨⟨hi.1, ?_⟩, ?_⟩), w7, cx_op_w (w9 hN) (Nat.le_refl _) (by omega) (fun i hi => ⟨⟨by omega, hi.2.1⟩, hi.2.2⟩)⟩)))⟩
        · have := hi.2; omega
        · have := hi.2; omega
    · exact Or.inr ⟨h4.1, h4.2.imp id (fun h => h.le (by omega) (by omega))⟩
  · rcases hbb with rfl | hpg
    · exact ai_zf ⟨R3, 1 + j3, hlm13, Or.inr ⟨hwr, Or.inl rfl⟩⟩
    · refine ⟨fun _ => ?_, fun _ => ⟨R3, 1 + j3, hlm13, Or.inr ⟨hwr, Or.inl rfl⟩⟩⟩
      refine vX3_sum_12 hV3 ⟨fun h => absurd h (by decide), fun _ => pg_take hV0 hpg (by decide) (fun h => ai_zf (pg_take hV0 h (by decide) (fun h => ai_zf ⟨R3, 1 + j3, hlm13, Or.inr ⟨hwr, Or.inr (h.le (by omega) (by omega))⟩⟩)))⟩
end SPS
