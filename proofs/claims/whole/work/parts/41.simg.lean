/-! ===== factors: names, calls, parentheses ===== -/
section SFB
variable {l : Launch} {D : va_G} {ρ : Nat → Nat} {τ : Nat → ClassId} {z : lm_T} {V : ai_V} {tx : Nat → Int32} {n hf : Nat} {sc : sc_T} {SC : Nat → sc_T} {m ns pr vr d dp F : Nat} {C R : ai_S} {p p' e nn k : Nat} {stk : List mf_T}
set_option maxHeartbeats 4000000 in
/-- a name alone -/
theorem sf_name (hV3 : V 2 3 = .ref 26) (hpv : pv C R tx n hf sc SC m ns pr vr p p' e nn ((39, 0, dp, 0, 0) :: stk)) (hst : stk.length < 70) (he : 2 * e ≤ 3 * p + 2) (hnn : nn ≤ p) (hk : k < 100000) {c : Int32} (hc : px_c tx n 0 (px_s tx n p) = c) (h97 : 97 ≤ c) (h122 : c ≤ 122) (h40 : ¬ px_c tx n 0 (px_s tx n (px_s tx n p + 1)) = 40) :
    ai_met (uC l D ρ τ) (d + 2) mX3_addUse [.ref 2, .int c, .int 11, .int 12, .int 13] (ai_up C 2 2 (nI (px_s tx n (px_s tx n p + 1)))) V (ai_qv V (fun C' => pE z C R tx n hf sc SC m ns pr vr p e nn stk (F + 1) 6 k true C')) := by
  obtain ⟨hT, hp, hpn, hC3, hmq, hsk, h8, h9, hnh, hsp, hsc, hnn3⟩ := id hpv
  have hn320 : n ≤ 320 := hT.2.1
  obtain ⟨hmT, m2, mpn, m14, mhf, m15, hmf, m19⟩ := id hmq
  obtain ⟨⟨t13, t14, t15, t16, t17⟩, hml, h30⟩ := mf_top hmf
  have c0 : c ≠ 0 := fun h => by rw [h] at h97; exact absurd h97 (by decide)
  have c1 : c ≠ -1 := fun h => by rw [h] at h97; exact absurd h97 (by decide)
  have hlt : px_s tx n p < n := px_lt hc c0
  have hskp := px_s_ge tx n p
  have hsk3 := px_s_ge tx n (px_s tx n p + 1)
  have hsk3n : px_s tx n (px_s tx n p + 1) ≤ n := px_s_le tx hlt
  have hc' : px_c tx n (-1) (px_s tx n p') = c := by rw [← hsk]; exact (px_cc c0 c1).mp hc
  have h40' : ¬ px_c tx n (-1) (px_s tx n (px_s tx n p' + 1)) = 40 := by rw [← hsk]; exact fun h => h40 ((px_cc (by decide) (by decide)).mpr h)
  have hcE0 : cE C (ai_up C 2 2 (nI (px_s tx n (px_s tx n p + 1)))) e := cE.rf.u2 2 _ (by omega)
  have hmE0 : ∀ b t, mE R (ai_up R 0 2 (nI (px_s tx n (px_s tx n p' + 1)))) b t := fun b t => mE.rf.u0 2 _ (by omega)
  obtain ⟨Cu, Ru, uc, um, u1, u2, u3, u4, u5, u6, u7, u8, u9, u10, u11, u12, u13, u14⟩ := use_both c 11 12 13 8 (sp_keep hsp hcE0 (hmE0 (350 * hf + nn) 0) hsc) (by rw [ai_up_n (by omega)]; exact hC3) (by omega) (by rw [ai_up_n (by omega)]; exact m15) (by omega) (by rw [ai_up_n (by omega), ai_up_n (by omega)]; exact hnh) hsc
  refine uc l D ρ τ d V _ hV3 ?_
  obtain ⟨R', hR'⟩ : ∃ R', R' = ai_up (ai_up Ru 0 31 (nI (350 * hf + nn + 1))) 0 30 (nI stk.length) := ⟨_, rfl⟩
  have hlm : lm z R' (k + 1) → lm z R k := fun h => rd_fac hk hmq hst (fac_let (d := z.2.2.2.2.1 + 3) (by omega) hmT m2 mpn hc' h97 h122 (fun h' => absurd h' h40') (fun _ => um _ _ _ _ _ _ _ (sp_done (f := stk.length) (by rw [u7 30 (by omega) (by omega), ai_up_n (by omega)]; exact h30) (by rw [← hR']; exact h))))
  have hmE : mE R R' (350 * hf + nn) (350 * hf + 350) := by
    rw [hR']
    exact (((hmE0 _ _).tr (u5 (350 * hf + nn) (350 * hf + 350) (by omega) (by omega)) (Nat.le_refl _)).u0 31 _ (by omega)).u0 30 _ (by omega)
  have hn' : ∀ q i, 2 ≤ q → R' q i = Ru q i := fun q i hq => by rw [hR', ai_up_n (by omega), ai_up_n (by omega)]
  refine ⟨R', 1, hlm, Or.inl ⟨rfl, 350 * hf + nn + 1, px_s tx n (px_s tx n p + 1), px_s tx n (px_s tx n p + 1), e + 1, nn + 1, ?_, by rw [hR']; simp [ai_up_eq], ⟨by omega, by omega⟩, ⟨fun _ => ⟨by rw [hc]; exact h97, by rw [hc]; exact h122, px_s_s tx n _⟩, fun _ _ _ => by rw [hn' 2 _ (by omega)]; exact u9⟩, by rw [hn' 4 _ (by omega)]; exact u11, by omega, by omega, by omega, by omega, by omega, by omega, hmE, hcE0.tr u1 (Nat.le_refl _), fun hN => ?_⟩⟩
  · refine pv_of hpv (hcE0.tr u1 (Nat.le_refl _)) hmE (by rw [u3, ai_up_s]) hsk3n u2 (by rw [hR', ai_up_n (by omega), ai_up_n (by omega), u7 2 (by omega) (by omega), ai_up_s, hsk]) hsk3n (by rw [hR', ai_up_n (by omega), ai_up_n (by omega)]; exact u6) ?_ (by rw [hR', ai_up_n (by omega), ai_up_n (by omega), u7 19 (by omega) (by omega), ai_up_n (by omega)]; exact m19) rfl ?_ ?_ (by omega) (by omega)
    · rw [hR']
      refine ⟨ai_up_s, mf_l_o (mf_l_o (mf_l_keep stk (fun q h1 h2 i hi => ?_) hml) 0 31 _ (by omega)) 0 30 _ (by omega)⟩
      rw [u8 q (by omega), ai_up_n (by omega)]
    · rw [u4, ai_up_n (by omega), show R' 0 24 = R 0 24 by rw [hR', ai_up_n (by omega), ai_up_n (by omega), u7 24 (by omega) (by omega), ai_up_n (by omega)]]; exact h9
    · rw [show R' 0 20 = Ru 0 20 by rw [hR', ai_up_n (by omega), ai_up_n (by omega)]]; exact u13
  · obtain ⟨n1, n2⟩ := u14 hN
    rw [ai_up_n (by omega)] at n1
    refine ⟨n1, ⟨by omega, by omega⟩, by omega, Or.inr (Or.inl ⟨by rw [hn' 2 _ (by omega)]; exact u9, ?_, rfl⟩)⟩
    refine cx_us_mono (e0 := e) (e1 := e + 1) (R := Ru) ?_ (fun _ _ _ _ _ => rfl) (Nat.le_refl _) (by omega) (hn' 5 _ (by omega)) (hn' 6 _ (by omega)) (hn' 7 _ (by omega)) n2
    refine (mE.ag (b := 350 * hf + nn) (t := 0) ?_ hsc)
    rw [hR']
    exact (mE.rf.u0 31 _ (by omega)).u0 30 _ (by omega)
set_option maxHeartbeats 4000000 in
/-- a call -/
theorem sf_call (hV0 : hV ρ V tx n) (hV3 : V 2 3 = .ref 26) (hdp : dp ≤ 10) (hE : sF l D ρ τ z V tx n hf sc SC m ns pr vr (d + 2) (dp + 1) F 0 0 mX3_expression 30) (hpv : pv C R tx n hf sc SC m ns pr vr p p' e nn ((39, 0, dp, 0, 0) :: stk)) (hst : stk.length + 4 * (11 - dp) ≤ 59) (he : 2 * e ≤ 3 * p + 2) (hnn : nn ≤ p) (hk : k + 12 * (n - p) + 50 ≤ 100000 + 3) {c : Int32} (hc : px_c tx n 0 (px_s tx n p) = c) (h97 : 97 ≤ c) (h122 : c ≤ 122) (h40 : px_c tx n 0 (px_s tx n (px_s tx n p + 1)) = 40) :
    ai_met (uC l D ρ τ) (d + 3) mX3_addUse [.ref 2, .int c, .int 15, .int 14, .int 13] (ai_up C 2 2 (nI (px_s tx n (px_s tx n p + 1) + 1))) V (ai_qv V (fun S13 => ai_met (uC l D ρ τ) (d + 3) mX3_list [.ref 2, .int (nI (dp + 1))] S13 V (ai_qz V (fun b C' => pE z C R tx n hf sc SC m ns pr vr p e nn stk (F + 1) 6 k b C')))) := by
  obtain ⟨hT, hp, hpn, hC3, hmq, hsk, h8, h9, hnh, hsp, hsc, hnn3⟩ := id hpv
  have hn320 : n ≤ 320 := hT.2.1
  obtain ⟨hmT, m2, mpn, m14, mhf, m15, hmf, m19⟩ := id hmq
  obtain ⟨⟨t13, t14, t15, t16, t17⟩, hml, h30⟩ := mf_top hmf
  dsimp only at t13 t14 t15 t16 t17
  have c0 : c ≠ 0 := fun h => by rw [h] at h97; exact absurd h97 (by decide)
  have c1 : c ≠ -1 := fun h => by rw [h] at h97; exact absurd h97 (by decide)
  have hlt : px_s tx n p < n := px_lt hc c0
  have hskp := px_s_ge tx n p
  have hsk3 := px_s_ge tx n (px_s tx n p + 1)
  have hlt3 : px_s tx n (px_s tx n p + 1) < n := px_lt h40 (by decide)
  have hc' : px_c tx n (-1) (px_s tx n p') = c := by rw [← hsk]; exact (px_cc c0 c1).mp hc
  have h40' : px_c tx n (-1) (px_s tx n (px_s tx n p' + 1)) = 40 := by rw [← hsk]; exact (px_cc (by decide) (by decide)).mp h40
  obtain ⟨p3, hp3⟩ : ∃ p3, p3 = px_s tx n (px_s tx n p + 1) + 1 := ⟨_, rfl⟩
  have hp3' : px_s tx n (px_s tx n p' + 1) + 1 = p3 := by rw [hp3, hsk]
  rw [← hp3]
  have hcE0 : cE C (ai_up C 2 2 (nI p3)) e := cE.rf.u2 2 _ (by omega)
  have hmE0 : ∀ b t, mE R (ai_up R 0 2 (nI p3)) b t := fun b t => mE.rf.u0 2 _ (by omega)
  obtain ⟨Cu, Ru, uc, um, u1, u2, u3, u4, u5, u6, u7, u8, u9, u10, u11, u12, u13, u14⟩ := use_both c 15 14 13 9 (sp_keep hsp hcE0 (hmE0 (350 * hf + nn) 0) hsc) (by rw [ai_up_n (by omega)]; exact hC3) (by omega) (by rw [ai_up_n (by omega)]; exact m15) (by omega) (by rw [ai_up_n (by omega), ai_up_n (by omega)]; exact hnh) hsc
  refine uc l D ρ τ (d + 1) V _ hV3 ?_
  have hcE1 : cE C Cu e := hcE0.tr u1 (Nat.le_refl _)
  have uT : ct_T Cu tx n := ct_of hT hcE1
  have u22 : Cu 2 2 = nI p3 := by rw [u3, ai_up_s]
  -- the reference, with its frame marked
  obtain ⟨Rw, hRw⟩ : ∃ Rw, Rw = ai_up (ai_up Ru 14 stk.length (nI (350 * hf + nn + 1))) 13 stk.length 40 := ⟨_, rfl⟩
  have wE : mE R Rw (350 * hf + nn) (350 * hf + 350) := by
    rw [hRw]
    exact (((hmE0 _ _).tr (u5 (350 * hf + nn) (350 * hf + 350) (by omega) (by omega)) (Nat.le_refl _)).uF 14 _ _ (by omega) (by omega)).uF 13 _ _ (by omega) (by omega)
  have w0 : ∀ j, Rw 0 j = Ru 0 j := fun j => by rw [hRw, ai_up_n (by omega), ai_up_n (by omega)]
  have wn : ∀ q i, 2 ≤ q → q ≤ 8 → Rw q i = Ru q i := fun q i h1 h2 => by rw [hRw, ai_up_n (by omega), ai_up_n (by omega)]
  have w2 : Rw 0 2 = nI p3 := by rw [w0, u7 2 (by omega) (by omega), ai_up_s]
  have wT : mt_T Rw tx n := ⟨by rw [w0, u7 1 (by omega) (by omega), ai_up_n (by omega)]; exact hmT.1, hmT.2.1, fun i hi => by rw [wE.1]; exact hmT.2.2 i hi⟩
  have w30 : Rw 0 30 = nI (stk.length + 1) := by rw [w0, u7 30 (by omega) (by omega), ai_up_n (by omega)]; exact h30
  have w13 : Rw 13 stk.length = nI 40 := by rw [hRw, ai_up_s]; rfl
  have w14 : Rw 14 stk.length = nI (350 * hf + nn + 1) := by rw [hRw, ai_up_n (by omega), ai_up_s]
  have w15 : Rw 15 stk.length = nI dp := by rw [hRw, ai_up_n (by omega), ai_up_n (by omega), u8 15 (by omega), ai_up_n (by omega)]; exact t15
  have w16 : Rw 16 stk.length = nI 0 := by rw [hRw, ai_up_n (by omega), ai_up_n (by omega), u8 16 (by omega), ai_up_n (by omega)]; exact t16
  have w17 : Rw 17 stk.length = nI 0 := by rw [hRw, ai_up_n (by omega), ai_up_n (by omega), u8 17 (by omega), ai_up_n (by omega)]; exact t17
  have wl : mf_l Rw stk := by
    rw [hRw]
    refine mf_l_o (mf_l_o (mf_l_keep stk (fun q h1 h2 i hi => ?_) hml) 14 _ _ (by omega)) 13 _ _ (by omega)
    rw [u8 q (by omega), ai_up_n (by omega)]
  have hopen : ∀ (G : ai_S → Prop), (px_c tx n (-1) (px_s tx n p3) = 41 → G (ai_up (ai_up (ai_up Rw 0 2 (nI (px_s tx n p3 + 1))) 0 31 (nI (350 * hf + nn + 1))) 0 30 (nI stk.length))) → (¬ px_c tx n (-1) (px_s tx n p3) = 41 → G (mpush (ai_up Rw 0 2 (nI (px_s tx n p3))) (stk.length + 1) 30 (nI (dp + 1)))) → ai_met (lm_u z) (z.2.2.2.2.1 + 5) mX6_openList [.ref 0, .int (nI stk.length), .int 40, .int (R 15 stk.length + 1)] (ai_up Ru 14 stk.length (nI (350 * hf + nn + 1))) (lm_V z) (ai_qv (lm_V z) (fun S13 => G S13)) := by
    intro G hg1 hg2
    refine vX6_openList ⟨i_in (by omega) (by omega), ?_⟩
    rw [nI_clamp (show stk.length < 2 ^ 31 by omega), ← hRw, t15, nI_1]
    refine sp_eat wT w2 (by omega) (fun h => ai_zt (sp_close40 (d := z.2.2.2.2.1 + 3) (by omega) (by rw [ai_up_n (by omega)]; exact w13) (by rw [ai_up_n (by omega)]; exact w14) (by rw [ai_up_n (by omega)]; exact w30) (hg1 h))) (fun h => ai_zf (sp_push (f := stk.length + 1) (by rw [ai_up_n (by omega)]; exact w30) (by omega) (hg2 h)))
  have hrd : ∀ (G : ai_S → Prop), (∀ S, G S → lm z S (k + 1)) → (px_c tx n (-1) (px_s tx n p3) = 41 → G (ai_up (ai_up (ai_up Rw 0 2 (nI (px_s tx n p3 + 1))) 0 31 (nI (350 * hf + nn + 1))) 0 30 (nI stk.length))) → (¬ px_c tx n (-1) (px_s tx n p3) = 41 → G (mpush (ai_up Rw 0 2 (nI (px_s tx n p3))) (stk.length + 1) 30 (nI (dp + 1)))) → lm z R k := by
    intro G hG hg1 hg2
    refine rd_fac (by omega) hmq (by omega) (fac_let (d := z.2.2.2.2.1 + 3) (by omega) hmT m2 mpn hc' h97 h122 (fun _ => ?_) (fun h' => absurd h40' h'))
    rw [hp3']
    exact um _ _ _ _ _ _ _ (hopen _ (fun h => hG _ (hg1 h)) (fun h => hG _ (hg2 h)))
  have hsk4 := px_s_ge tx n p3
  have hsk4n : px_s tx n p3 ≤ n := px_s_le tx (by omega)
  refine vX3_list hV3 (sp_take hV0 uT u22 (by omega) (fun ht => ai_zt ?_) (fun hf0 => ai_zf ?_))
  · -- no actuals
    have hlt4 : px_s tx n p3 < n := px_lt ht (by decide)
    have ht' : px_c tx n (-1) (px_s tx n p3) = 41 := (px_cc (by decide) (by decide)).mp ht
    obtain ⟨R', hR'⟩ : ∃ R', R' = ai_up (ai_up (ai_up Rw 0 2 (nI (px_s tx n p3 + 1))) 0 31 (nI (350 * hf + nn + 1))) 0 30 (nI stk.length) := ⟨_, rfl⟩
    have hlm : lm z R' (k + 1) → lm z R k := fun h => hrd (fun S => S = R') (fun S hS => by rw [hS]; exact h) (fun _ => hR'.symm) (fun h' => absurd ht' h')
    have hmE : mE R R' (350 * hf + nn) (350 * hf + 350) := by rw [hR']; exact ((wE.u0 2 _ (by omega)).u0 31 _ (by omega)).u0 30 _ (by omega)
    have hn' : ∀ q i, 2 ≤ q → q ≤ 8 → R' q i = Ru q i := fun q i h1 h2 => by rw [hR', ai_up_n (by omega), ai_up_n (by omega), ai_up_n (by omega)]; exact wn q i h1 h2
    have hcE2 : cE C (ai_up Cu 2 2 (nI (px_s tx n p3 + 1))) e := hcE1.u2 2 _ (by omega)
    refine ⟨R', 1, hlm, Or.inl ⟨rfl, 350 * hf + nn + 1, px_s tx n p3 + 1, px_s tx n p3 + 1, e + 1, nn + 1, ?_, by rw [hR']; simp [ai_up_eq], ⟨by omega, by omega⟩, ⟨fun h => ?_, fun _ _ h => ?_⟩, by rw [hn' 4 _ (by omega) (by omega)]; exact u11, by omega, by omega, by omega, by omega, by omega, by omega, hmE, hcE2, fun hN => ?_⟩⟩
    · refine pv_of hpv hcE2 hmE ai_up_s (by omega) (by rw [ai_up_n (by omega)]; exact u2) (by rw [hR', ai_up_n (by omega), ai_up_n (by omega), ai_up_s]) (by omega) (by rw [hR', ai_up_n (by omega), ai_up_n (by omega), ai_up_n (by omega), w0]; exact u6) ?_ (by rw [hR', ai_up_n (by omega), ai_up_n (by omega), ai_up_n (by omega), w0, u7 19 (by omega) (by omega), ai_up_n (by omega)]; exact m19) rfl ?_ ?_ (by omega) (by omega)
      · rw [hR']; exact ⟨ai_up_s, mf_l_o (mf_l_o (mf_l_o wl 0 2 _ (by omega)) 0 31 _ (by omega)) 0 30 _ (by omega)⟩
      · rw [ai_up_n (by omega), u4, ai_up_n (by omega), show R' 0 24 = R 0 24 by rw [hR', ai_up_n (by omega), ai_up_n (by omega), ai_up_n (by omega), w0, u7 24 (by omega) (by omega), ai_up_n (by omega)]]; exact h9
      · rw [ai_up_n (by omega), show R' 0 20 = Ru 0 20 by rw [hR', ai_up_n (by omega), ai_up_n (by omega), ai_up_n (by omega), w0]]; exact u13
    · rw [hn' 2 _ (by omega) (by omega), u9] at h; exact absurd h (by decide)
    · rw [h40] at h; exact absurd h (by decide)
    · rw [ai_up_n (by omega)] at hN
      obtain ⟨n1, n2⟩ := u14 hN
      rw [ai_up_n (by omega)] at n1
      refine ⟨n1, ⟨by omega, by omega⟩, by omega, Or.inr (Or.inr (Or.inl ⟨by rw [hn' 2 _ (by omega) (by omega)]; exact u9, ?_, 0, by rw [hn' 3 _ (by omega) (by omega)]; exact u10, cx_li_nil _ _ _⟩))⟩
      refine cx_us_mono (e0 := e) (e1 := e + 1) (R := Ru) ?_ (fun j hj i _ _ => ai_up_n (by omega)) (Nat.le_refl _) (by omega) (hn' 5 _ (by omega) (by omega)) (hn' 6 _ (by omega) (by omega)) (hn' 7 _ (by omega) (by omega)) n2
      refine (mE.ag (b := 350 * hf + nn) (t := 0) ?_ hsc)
      rw [hR', hRw]
      exact ((((mE.rf.uF 14 _ _ (by omega) (by omega)).uF 13 _ _ (by omega) (by omega)).u0 2 _ (by omega)).u0 31 _ (by omega)).u0 30 _ (by omega)
  · -- actuals
    have hf' : ¬ px_c tx n (-1) (px_s tx n p3) = 41 := fun h => hf0 ((px_cc (by decide) (by decide)).mpr h)
    obtain ⟨R1, hR1⟩ : ∃ R1, R1 = mpush (ai_up Rw 0 2 (nI (px_s tx n p3))) (stk.length + 1) 30 (nI (dp + 1)) := ⟨_, rfl⟩
    have hlm : lm z R1 (k + 1) → lm z R k := fun h => hrd (fun S => S = R1) (fun S hS => by rw [hS]; exact h) (fun h' => absurd h' hf') (fun _ => hR1.symm)
    have hmE : mE R R1 (350 * hf + nn) (350 * hf + 350) := by rw [hR1]; exact (wE.u0 2 _ (by omega)).push _ _ _
    have hn' : ∀ q i, 2 ≤ q → q ≤ 8 → R1 q i = Ru q i := fun q i h1 h2 => by
      rw [hR1]
      unfold mpush
      rw [ai_up_n (by omega), ai_up_n (by omega), ai_up_n (by omega), ai_up_n (by omega), ai_up_n (by omega), ai_up_n (by omega), ai_up_n (by omega)]
      exact wn q i h1 h2
    have h0' : ∀ j, j ≠ 2 → j ≠ 30 → R1 0 j = Ru 0 j := fun j h1 h2 => by
      rw [hR1]
      unfold mpush
      rw [ai_up_n (by omega), ai_up_n (by omega), ai_up_n (by omega), ai_up_n (by omega), ai_up_n (by omega), ai_up_n (by omega), ai_up_n (by omega)]
      exact w0 j
    have hcE2 : cE C (ai_up Cu 2 2 (nI (px_s tx n p3))) e := hcE1.u2 2 _ (by omega)
    have hpv1 : pv (ai_up Cu 2 2 (nI (px_s tx n p3))) R1 tx n hf sc SC m ns pr vr (px_s tx n p3) (px_s tx n p3) (e + 1) (nn + 1) ((30, 0, dp + 1, 0, 0) :: (40, 350 * hf + nn + 1, dp, 0, 0) :: stk) := by
      refine pv_of hpv hcE2 hmE ai_up_s hsk4n (by rw [ai_up_n (by omega)]; exact u2) (by rw [hR1]; simp [mpush, ai_up_eq]) hsk4n (by rw [h0' 15 (by omega) (by omega)]; exact u6) ?_ (by rw [h0' 19 (by omega) (by omega), u7 19 (by omega) (by omega), ai_up_n (by omega)]; exact m19) rfl ?_ ?_ (by omega) (by omega)
      · rw [hR1]
        refine mf_push (stk := (40, 350 * hf + nn + 1, dp, 0, 0) :: stk) ⟨mf_at_of ?_ ?_ ?_ ?_ ?_, mf_l_o wl 0 2 _ (by omega)⟩ 30 (dp + 1)
        · rw [ai_up_n (by omega)]; exact w13
        · rw [ai_up_n (by omega)]; exact w14
        · rw [ai_up_n (by omega)]; exact w15
        · rw [ai_up_n (by omega)]; exact w16
        · rw [ai_up_n (by omega)]; exact w17
      · rw [ai_up_n (by omega), u4, ai_up_n (by omega), h0' 24 (by omega) (by omega), u7 24 (by omega) (by omega), ai_up_n (by omega)]; exact h9
      · rw [ai_up_n (by omega), h0' 20 (by omega) (by omega)]; exact u13
    refine (simL_list (d := d) (Or.inl rfl) hV0 hV3 hdp hE stk (350 * hf + nn) (350 * hf + nn + 1) hsc (by omega) (by omega) 5 _ R1 (px_s tx n p3) (px_s tx n p3) (e + 1) (nn + 1) (k + 1) 0 0 (by omega) hpv1 (by omega) (by omega) (by omega) (by omega) (by omega) (fun h => absurd rfl h)).mono ?_
    rintro r C' V' ⟨h1, b, h2, R', j', h3, h4⟩
    refine ⟨h1, b, h2, R', 1 + j', fun h => hlm (h3 (by rw [Nat.add_assoc]; exact h)), ?_⟩
    rcases h4 with ⟨hb, x, p1, e1, nn1, v1, v2, v3, v4, v5, v6, v7, v8, v9, v10, v11, v12, v13, v14, v15, v16, v17, v18⟩ | ⟨w1, w2⟩
    · obtain ⟨p1', vp⟩ : ∃ p1' : Nat, pv C' R' tx n hf sc SC m ns pr vr p1 p1' e1 nn1 stk := by
        rcases v1 with ⟨-, h⟩ | ⟨h, -⟩
        · exact h
        · exact absurd h (by decide)
      have hq : ∀ q, 2 ≤ q → q ≤ 8 → ¬ q = 3 → R' q (350 * hf + nn + 1) = Ru q (350 * hf + nn + 1) := fun q a c h => by rw [v14 q a c _ (by omega) (by omega) (by omega)]; exact hn' q _ a c
      refine Or.inl ⟨hb, 350 * hf + nn + 1, p1, p1', e1, nn1, vp, v2, ⟨by omega, by omega⟩, ⟨fun h => ?_, fun _ _ h => ?_⟩, by rw [hq 4 (by omega) (by omega) (by omega)]; exact u11, by omega, by omega, by omega, by omega, by omega, by omega, hmE.tr v12 (Nat.le_refl _), hcE2.tr v13 (by omega), fun hN => ?_⟩
      · rw [hq 2 (by omega) (by omega) (by omega), u9] at h; exact absurd h (by decide)
      · rw [h40] at h; exact absurd h (by decide)
      · have n0 := v15 hN
        rw [ai_up_n (by omega)] at n0
        obtain ⟨n1, n2⟩ := u14 n0
        rw [ai_up_n (by omega)] at n1
        refine ⟨n1, ⟨by omega, by omega⟩, by omega, Or.inr (Or.inr (Or.inl ⟨by rw [hq 2 (by omega) (by omega) (by omega)]; exact u9, ?_, x, v16 rfl, cx_li_w (v18 hN) (Nat.le_refl _) (by omega) (fun i hi => ⟨⟨?_, hi.2⟩, ?_⟩)⟩))⟩
        · refine cx_us_mono (e0 := e) (e1 := e + 1) (R := Ru) ?_ (fun j hj i h1 h2 => ?_) (Nat.le_refl _) (by omega) (hq 5 (by omega) (by omega) (by omega)) (hq 6 (by omega) (by omega) (by omega)) (hq 7 (by omega) (by omega) (by omega)) n2
          · have a1 : mE Ru R1 (350 * hf + nn) (350 * hf + 350) := by
              rw [hR1, hRw]
              exact (((mE.rf.uF 14 _ _ (by omega) (by omega)).uF 13 _ _ (by omega) (by omega)).u0 2 _ (by omega)).push _ _ _
            exact (a1.tr v12 (Nat.le_refl _)).ag hsc
          · rw [show cd C' j i = cd (ai_up Cu 2 2 (nI (px_s tx n p3))) j i from v13.2.2.2 (27 + j) (by omega) (by omega) i (by omega)]
            exact ai_up_n (by omega)
        · have := hi.1; omega
        · have := hi.1; omega
    · refine Or.inr ⟨w1, ?_⟩
      rcases w2 with w2 | ⟨w2, -⟩
      · exact Or.inl w2
      · exact absurd w2 (by decide)
end SFB
