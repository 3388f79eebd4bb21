/-! ===== assignments and prints, simulated ===== -/
section SAS
variable {l : Launch} {D : va_G} {ρ : Nat → Nat} {τ : Nat → ClassId} {z : lm_T} {V : ai_V} {tx : Nat → Int32} {n hf : Nat} {sc : sc_T} {SC : Nat → sc_T} {m ns pr vr d dp F : Nat} {C R : ai_S} {p p' e nn k K : Nat} {stk : List mf_T}
/-- the reference's round at a statement -/
theorem rd_st (hk : k < 100000) (hq : mq R tx n hf p' nn ((10, 0, dp, 0, 0) :: stk)) (hst : stk.length < 70) (h : ai_met (lm_u z) (z.2.2.2.2.1 + 7) mX6_openStatement [.ref 0, .int (nI stk.length)] R (lm_V z) (ai_qv (lm_V z) (fun S => lm z S (k + 1)))) : lm z R k := by
  obtain ⟨hT, h2, hpn, h14, hhf, h15, hmf, h19⟩ := hq
  obtain ⟨⟨t13, t14, t15, t16, t17⟩, hml, h30⟩ := mf_top hmf
  dsimp only at t13 t14 t15 t16 t17
  exact lm_head hk h19 h30 (by omega) t13 (by omega) (fun _ => h) (fun h => absurd rfl h) (fun h => absurd rfl h)
set_option maxHeartbeats 4000000 in
theorem sim_asg (hV0 : hV ρ V tx n) (hV3 : V 2 3 = .ref 26) (hdp : dp ≤ 10) (hE : sF l D ρ τ z V tx n hf sc SC m ns pr vr (d + 3) (dp + 1) F 0 0 mX3_expression 30) (hF : F ≤ 50) (hpv : pv C R tx n hf sc SC m ns pr vr p p' e nn ((10, 0, dp, 0, 0) :: stk)) (hscw : scw SC pr hf nn) (hst : stk.length + 1 ≤ dp) (he : 2 * e ≤ 3 * p) (hnn : nn ≤ p) (hk : k + 12 * (n - p) + 50 ≤ 100000) {c : Int32} (hc : px_c tx n 0 (px_s tx n p) = c) (h97 : 97 ≤ c) (h122 : c ≤ 122) (h61 : px_c tx n 0 (px_s tx n (px_s tx n p + 1)) = 61) :
    ai_met (uC l D ρ τ) (d + 4) mX3_assignment [.ref 2, .int c, .int (nI dp)] (oC C dp (px_s tx n (px_s tx n p + 1) + 1)) V (ai_qz V (pS z C R tx n hf sc SC m ns pr vr p e nn stk (K + 1) k)) := by
  obtain ⟨hT, hp, hpn, hC3, hmq, hsk, h8, h9, hnh, hsp, hsc, hnn3⟩ := id hpv
  have hn320 : n ≤ 320 := hT.2.1
  obtain ⟨hmT, m2, mpn, m14, mhf, m15, hmf, m19⟩ := id hmq
  obtain ⟨⟨t13, t14, t15, t16, t17⟩, hml, h30⟩ := mf_top hmf
  dsimp only at t13 t14 t15 t16 t17
  have c0 : c ≠ 0 := fun h => by rw [h] at h97; exact absurd h97 (by decide)
  have c1 : c ≠ -1 := fun h => by rw [h] at h97; exact absurd h97 (by decide)
  have hlt : px_s tx n p < n := px_lt hc c0
  have hskp := px_s_ge tx n p
  have hsk3 := px_s_ge tx n (px_s tx n p + 1)
  have hlt3 : px_s tx n (px_s tx n p + 1) < n := px_lt h61 (by decide)
  have hc' : px_c tx n (-1) (px_s tx n p') = c := by rw [← hsk]; exact (px_cc c0 c1).mp hc
  have h61' : px_c tx n (-1) (px_s tx n (px_s tx n p' + 1)) = 61 := by rw [← hsk]; exact (px_cc (by decide) (by decide)).mp h61
  obtain ⟨p3, hp3⟩ : ∃ p3, p3 = px_s tx n (px_s tx n p + 1) + 1 := ⟨_, rfl⟩
  have hp3' : px_s tx n (px_s tx n p' + 1) + 1 = p3 := by rw [hp3, hsk]
  rw [← hp3]
  have hpv0 := pv_open (dp := dp) (q := p3) (q' := p3) hpv (by omega) (by omega) rfl
  obtain ⟨-, -, -, o26, omq, -, -, o9, onh, osp, osc, -⟩ := id hpv0
  obtain ⟨Cu, Ru, uc, um, u1, u2, u3, u4, u5, u6, u7, u8, u9, u10, u11, u12, u13, u14⟩ := tgt_both c 1 osp o26 (by omega) omq.2.2.2.2.2.1 (by omega) onh osc
  refine vX3_assignment hV3 (uc l D ρ τ d V _ hV3 ?_)
  obtain ⟨R1, hR1⟩ : ∃ R1, R1 = mpush (ai_up (ai_up Ru 14 stk.length (nI (350 * hf + nn + 1))) 13 stk.length 11) (stk.length + 1) 30 (nI (dp + 1)) := ⟨_, rfl⟩
  have hlm1 : lm z R1 (k + 1) → lm z R k := fun h => rd_st (by omega) hmq (by omega) (os_let (d := z.2.2.2.2.1 + 5) mhf (by omega) hmT m2 mpn t15 hdp hc' h97 h122 (fun _ => by
    rw [hp3']
    refine um _ _ _ _ _ _ _ (sp_push (f := stk.length + 1) ?_ (by omega) (by rw [← hR1]; exact h))
    rw [ai_up_n (by omega), ai_up_n (by omega), u7 30 (by omega) (by omega), oR_o (by omega)]; exact h30) (fun h' => absurd (h61'.symm.trans h') (by decide)) (fun h' => absurd h61' h'))
  have oE1 : mE (oR R dp p3) R1 (350 * hf + nn) (350 * hf + 350) := by
    rw [hR1]
    exact (((u5 _ _ (by omega) (by omega)).uF 14 _ _ (by omega) (by omega)).uF 13 _ _ (by omega) (by omega)).push _ _ _
  have R10 : ∀ j, j ≠ 30 → R1 0 j = Ru 0 j := fun j h => by
    rw [hR1]
    unfold mpush
    rw [ai_up_n (by omega), ai_up_n (by omega), ai_up_n (by omega), ai_up_n (by omega), ai_up_n (by omega), ai_up_n (by omega), ai_up_n (by omega), ai_up_n (by omega)]
  have R1n : ∀ q i, 2 ≤ q → q ≤ 8 → R1 q i = Ru q i := fun q i h1 h2 => by
    rw [hR1]
    unfold mpush
    rw [ai_up_n (by omega), ai_up_n (by omega), ai_up_n (by omega), ai_up_n (by omega), ai_up_n (by omega), ai_up_n (by omega), ai_up_n (by omega), ai_up_n (by omega)]
  have hpv1 : pv Cu R1 tx n hf sc SC m ns pr vr p3 p3 (e + 1) (nn + 1) ((30, 0, dp + 1, 0, 0) :: (11, 350 * hf + nn + 1, dp, 0, 0) :: stk) := by
    refine pv_of hpv0 u1 oE1 (by rw [u3]; exact oC_2) (by omega) u2 (by rw [R10 2 (by omega), u7 2 (by omega) (by omega)]; exact oR_2) (by omega) (by rw [R10 15 (by omega)]; exact u6) ?_ (by rw [R10 19 (by omega), u7 19 (by omega) (by omega)]; exact omq.2.2.2.2.2.2.2) rfl (by rw [u4, R10 24 (by omega), u7 24 (by omega) (by omega)]; exact o9) (by rw [R10 20 (by omega)]; exact u13) (by omega) (by omega)
    rw [hR1]
    refine mf_push (stk := (11, 350 * hf + nn + 1, dp, 0, 0) :: stk) ⟨mf_at_of ?_ ?_ ?_ ?_ ?_, ?_⟩ 30 (dp + 1)
    · rw [ai_up_s]; rfl
    · rw [ai_up_n (by omega), ai_up_s]
    · rw [ai_up_n (by omega), ai_up_n (by omega), u8 15 (by omega), oR_o (by omega)]; exact t15
    · rw [ai_up_n (by omega), ai_up_n (by omega), u8 16 (by omega), oR_o (by omega)]; exact t16
    · rw [ai_up_n (by omega), ai_up_n (by omega), u8 17 (by omega), oR_o (by omega)]; exact t17
    · refine mf_l_o (mf_l_o (mf_l_keep stk (fun q h1 h2 i hi => ?_) hml) 14 _ _ (by omega)) 13 _ _ (by omega)
      rw [u8 q (by omega), oR_o (by omega)]
  rw [nI_1 dp]
  refine st_11 (p := p) (d := d + 2) hV0 hdp 9 hE hF hn320 hlm1 (oR_mS.tr (oE1.ms (Nat.le_refl _) (Nat.le_refl _)) (Nat.le_refl _) (Nat.le_refl _) (Nat.le_refl _)) (oC_cS.tr u1.cs (Nat.le_refl _) (Nat.le_refl _)) (fun h => by have := (u14 h).1; rw [oC_o (by omega) (by omega)] at this; exact this) hpv1 hscw hsc hst he hnn (by omega) hk (by rw [R1n 4 _ (by omega) (by omega)]; exact u11) ?_
  intro C' R' y mm nn2 hN hn2 hK hnd hag h3 hx h9'
  have htg := (u14 hN).2
  have lE := cx_E_lt hx
  refine ⟨⟨by omega, by omega⟩, by omega, Or.inl ⟨by rw [hnd 2 (by omega), R1n 2 _ (by omega) (by omega)]; exact u9, ?_, y, mm, h3, hx, h9', rfl⟩⟩
  have hag2 : sc_ag Ru R' (16 * hf) SC SC sc := by
    refine ⟨fun x hx => ⟨fun h0 cnt hcl h => ?_, fun h0 => ?_⟩, fun _ _ => rfl⟩
    · exact (hag.1 x hx).1 h0 cnt hcl (by rw [R1n 5 _ (by omega) (by omega)]; exact h)
    · have e10 : R1 10 = Ru 10 := by rw [hR1]; unfold mpush; rw [ai_up_o (by omega), ai_up_o (by omega), ai_up_o (by omega), ai_up_o (by omega), ai_up_o (by omega), ai_up_o (by omega), ai_up_o (by omega), ai_up_o (by omega)]
      have e11 : R1 11 = Ru 11 := by rw [hR1]; unfold mpush; rw [ai_up_o (by omega), ai_up_o (by omega), ai_up_o (by omega), ai_up_o (by omega), ai_up_o (by omega), ai_up_o (by omega), ai_up_o (by omega), ai_up_o (by omega)]
      have := (hag.1 x hx).2 h0
      rw [e10, e11] at this
      exact this
  exact cx_tg_mono (e0 := e) (e1 := e + 1) hag2 (fun j hj i h1 h2 => by rw [show i = e by omega]; exact hK j hj) (Nat.le_refl _) (by omega) (by rw [hnd 5 (by omega), R1n 5 _ (by omega) (by omega)]) (by rw [hnd 6 (by omega), R1n 6 _ (by omega) (by omega)]) (by rw [hnd 7 (by omega), R1n 7 _ (by omega) (by omega)]) htg
set_option maxHeartbeats 4000000 in
theorem sim_prt (hV0 : hV ρ V tx n) (hV3 : V 2 3 = .ref 26) (hdp : dp ≤ 10) (hE : sF l D ρ τ z V tx n hf sc SC m ns pr vr (d + 1) (dp + 1) F 0 0 mX3_expression 30) (hF : F ≤ 50) (hpv : pv C R tx n hf sc SC m ns pr vr p p' e nn ((10, 0, dp, 0, 0) :: stk)) (hscw : scw SC pr hf nn) (hst : stk.length + 1 ≤ dp) (he : 2 * e ≤ 3 * p) (hnn : nn ≤ p) (hk : k + 12 * (n - p) + 50 ≤ 100000) (hc : px_c tx n 0 (px_s tx n p) = 33) :
    ai_met (uC l D ρ τ) (d + 2) mX3_print [.ref 2, .int (nI dp)] (oC C dp (px_s tx n p + 1)) V (ai_qz V (pS z C R tx n hf sc SC m ns pr vr p e nn stk (K + 1) k)) := by
  obtain ⟨hT, hp, hpn, hC3, hmq, hsk, h8, h9, hnh, hsp, hsc, hnn3⟩ := id hpv
  have hn320 : n ≤ 320 := hT.2.1
  obtain ⟨hmT, m2, mpn, m14, mhf, m15, hmf, m19⟩ := id hmq
  obtain ⟨⟨t13, t14, t15, t16, t17⟩, hml, h30⟩ := mf_top hmf
  dsimp only at t13 t14 t15 t16 t17
  have hlt : px_s tx n p < n := px_lt hc (by decide)
  have hskp := px_s_ge tx n p
  have hc' : px_c tx n (-1) (px_s tx n p') = 33 := by rw [← hsk]; exact (px_cc (by decide) (by decide)).mp hc
  obtain ⟨p3, hp3⟩ : ∃ p3, p3 = px_s tx n p + 1 := ⟨_, rfl⟩
  have hp3' : px_s tx n p' + 1 = p3 := by rw [hp3, hsk]
  rw [← hp3]
  have hpv0 := pv_open (dp := dp) (q := p3) (q' := p3) hpv (by omega) (by omega) rfl
  obtain ⟨-, -, -, o26, omq, -, -, o9, onh, osp, osc, -⟩ := id hpv0
  refine vX3_print hV3 (sp_cadd (e := e) o26 (by omega) ?_)
  obtain ⟨Cu, hCu⟩ : ∃ Cu, Cu = cadd (oC C dp p3) e 1 0 0 := ⟨_, rfl⟩
  have u1 : cE (oC C dp p3) Cu e := by rw [hCu]; exact cE.rf.add (Nat.le_refl _) _ _ _
  rw [← hCu]
  obtain ⟨R1, hR1⟩ : ∃ R1, R1 = mpush (ai_up (ai_up (mfresh (oR R dp p3) (350 * hf + nn + 1) 3) 14 stk.length (nI (350 * hf + nn + 1))) 13 stk.length 11) (stk.length + 1) 30 (nI (dp + 1)) := ⟨_, rfl⟩
  have hlm1 : lm z R1 (k + 1) → lm z R k := fun h => rd_st (by omega) hmq (by omega) (os_prt (d := z.2.2.2.2.1 + 5) (by omega) hmT m2 mpn t15 hdp m15 (by omega) h30 hc' (by rw [hp3', ← hR1]; exact h))
  have oE1 : mE (oR R dp p3) R1 (350 * hf + nn) (350 * hf + 350) := by
    rw [hR1]
    exact (((mE.rf.fresh _ _ (by omega) (by omega)).uF 14 _ _ (by omega) (by omega)).uF 13 _ _ (by omega) (by omega)).push _ _ _
  have hpv1 : pv Cu R1 tx n hf sc SC m ns pr vr p3 p3 (e + 1) (nn + 1) ((30, 0, dp + 1, 0, 0) :: (11, 350 * hf + nn + 1, dp, 0, 0) :: stk) := by
    refine pv_of hpv0 u1 oE1 (by rw [hCu]; simp [cadd, ai_up_eq]; exact oC_2) (by omega) (by rw [hCu]; simp [cadd, ai_up_eq]) (by rw [hR1]; simp [mpush, mfresh, ai_up_eq]; exact oR_2) (by omega) (by rw [hR1]; simp [mpush, mfresh, ai_up_eq]; rfl) ?_ (by rw [hR1]; simp [mpush, mfresh, ai_up_eq]; exact omq.2.2.2.2.2.2.2) rfl (by rw [hCu, hR1]; simp [cadd, mpush, mfresh, ai_up_eq]; exact o9) (by rw [hCu, hR1]; simp only [cadd, mpush, mfresh, ai_up_eq]; simpa using onh) (by omega) (by omega)
    rw [hR1]
    refine mf_push (stk := (11, 350 * hf + nn + 1, dp, 0, 0) :: stk) ⟨mf_at_of ?_ ?_ ?_ ?_ ?_, ?_⟩ 30 (dp + 1)
    · rw [ai_up_s]; rfl
    · rw [ai_up_n (by omega), ai_up_s]
    · simp [mfresh, ai_up_eq]; rw [oR_o (by omega)]; exact t15
    · simp [mfresh, ai_up_eq]; rw [oR_o (by omega)]; exact t16
    · simp [mfresh, ai_up_eq]; rw [oR_o (by omega)]; exact t17
    · exact mf_l_o (mf_l_o (mf_l_fresh (mf_l_keep stk (fun q h1 h2 i hi => oR_o (by omega)) hml) _ _) 14 _ _ (by omega)) 13 _ _ (by omega)
  rw [nI_1 dp]
  refine st_11 (p := p) (d := d) hV0 hdp 5 hE hF hn320 hlm1 (oR_mS.tr (oE1.ms (Nat.le_refl _) (Nat.le_refl _)) (Nat.le_refl _) (Nat.le_refl _) (Nat.le_refl _)) (oC_cS.tr u1.cs (Nat.le_refl _) (Nat.le_refl _)) (fun h => by rw [hCu] at h; simp [cadd, ai_up_eq] at h; rw [oC_o (by omega) (by omega)] at h; exact h) hpv1 hscw hsc hst he hnn (by omega) hk (by rw [hR1]; simp [mpush, mfresh, ai_up_eq]; rfl) ?_
  intro C' R' y mm nn2 hN hn2 hK hnd hag h3 hx h9'
  have lE := cx_E_lt hx
  refine ⟨⟨by omega, by omega⟩, by omega, Or.inr (Or.inr (Or.inl ⟨by rw [hnd 2 (by omega), hR1]; simp [mpush, mfresh, ai_up_eq], by rw [hK 0 (by omega), hCu, cd_cadd0], y, mm, h3, hx, h9', rfl⟩))⟩
end SAS
