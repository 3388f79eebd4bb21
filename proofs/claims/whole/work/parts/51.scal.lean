/-! ===== calls as statements, simulated ===== -/
section SCA
variable {l : Launch} {D : va_G} {ρ : Nat → Nat} {τ : Nat → ClassId} {z : lm_T} {V : ai_V} {tx : Nat → Int32} {n hf : Nat} {sc : sc_T} {SC : Nat → sc_T} {m ns pr vr d dp F : Nat} {C R : ai_S} {p p' e nn k K : Nat} {stk : List mf_T}
set_option maxHeartbeats 8000000 in
theorem sim_cal (hV0 : hV ρ V tx n) (hV3 : V 2 3 = .ref 26) (hdp : dp ≤ 10) (hE : sF l D ρ τ z V tx n hf sc SC m ns pr vr (d + 2) (dp + 1) F 0 0 mX3_expression 30) (hF : F ≤ 50) (hpv : pv C R tx n hf sc SC m ns pr vr p p' e nn ((10, 0, dp, 0, 0) :: stk)) (hscw : scw SC pr hf nn) (hst : stk.length + 1 ≤ dp) (he : 2 * e ≤ 3 * p) (hnn : nn ≤ p) (hk : k + 12 * (n - p) + 50 ≤ 100000) {c : Int32} (hc : px_c tx n 0 (px_s tx n p) = c) (h97 : 97 ≤ c) (h122 : c ≤ 122) (h61 : ¬ px_c tx n 0 (px_s tx n (px_s tx n p + 1)) = 61) :
    ai_met (uC l D ρ τ) (d + 3) mX3_addUse [.ref 2, .int c, .int 15, .int 14, .int 13] (oC C dp (px_s tx n (px_s tx n p + 1))) V (ai_qv V (fun S27 => ai_met (uC l D ρ τ) (d + 3) mX3_take [.ref 2, .int 40] S27 V (ai_qz V (fun b28 S29 => (b28 = true → ai_met (uC l D ρ τ) (d + 3) mX3_list [.ref 2, .int (nI (dp + 1))] S29 V (ai_qz V (fun b30 S31 => (b30 = true → ai_met (uC l D ρ τ) (d + 3) mX3_take [.ref 2, .int 59] S31 V (ai_qz V (fun b32 S33 => (b32 = true → pS z C R tx n hf sc SC m ns pr vr p e nn stk (K + 1) k true S33) ∧ (b32 = false → pS z C R tx n hf sc SC m ns pr vr p e nn stk (K + 1) k false S33)))) ∧ (b30 = false → pS z C R tx n hf sc SC m ns pr vr p e nn stk (K + 1) k false S31)))) ∧ (b28 = false → pS z C R tx n hf sc SC m ns pr vr p e nn stk (K + 1) k false S29))))) := by
  obtain ⟨hT, hp, hpn, hC3, hmq, hsk, h8, h9, hnh, hsp, hsc, hnn3⟩ := id hpv
  have hn320 : n ≤ 320 := hT.2.1
  obtain ⟨hmT, m2, mpn, m14, mhf, m15, hmf, m19⟩ := id hmq
  obtain ⟨⟨t13, t14, t15, t16, t17⟩, hml, h30⟩ := mf_top hmf
  dsimp only at t13 t14 t15 t16 t17
  have c0 : c ≠ 0 := fun h => by rw [h] at h97; exact absurd h97 (by decide)
  have c1 : c ≠ -1 := fun h => by rw [h] at h97; exact absurd h97 (by decide)
  have hlt : px_s tx n p < n := px_lt hc c0
  have hskp := px_s_ge tx n p
  have hsk3 := px_s_ge tx n (px_s tx n p + 1)
  have hsk3n : px_s tx n (px_s tx n p + 1) ≤ n := px_s_le tx hlt
  have hc' : px_c tx n (-1) (px_s tx n p') = c := by rw [← hsk]; exact (px_cc c0 c1).mp hc
  have h61' : ¬ px_c tx n (-1) (px_s tx n (px_s tx n p' + 1)) = 61 := by rw [← hsk]; exact fun h => h61 ((px_cc (by decide) (by decide)).mpr h)
  have hss3 := px_s_s tx n (px_s tx n p + 1)
  obtain ⟨q, hq⟩ : ∃ q, q = px_s tx n (px_s tx n p + 1) := ⟨_, rfl⟩
  have hq' : px_s tx n (px_s tx n p' + 1) = q := by rw [hq, hsk]
  rw [← hq] at hss3 hsk3 hsk3n ⊢
  have osp : sp (oC C dp q) (oR R dp (q + 1)) hf sc SC m ns pr vr := sp_cong hsp (fun q h1 h2 => by funext i; exact oC_o (by omega) (by omega)) (oC_o (by omega) (by omega)) (oC_o (by omega) (by omega)) (fun j hj => oR_o (by omega)) (fun x _ _ => oR_o (by omega)) (fun q hq => by funext i; exact oR_o (by omega))
  obtain ⟨Cu, Ru, uc, um, u1, u2, u3, u4, u5, u6, u7, u8, u9, u10, u11, u12, u13, u14⟩ := use_both c 15 14 13 2 osp (by rw [oC_o (by omega) (by omega)]; exact hC3) (by omega) (by rw [oR_o (by omega)]; exact m15) (by omega) (by rw [oC_o (by omega) (by omega), oR_o (by omega)]; exact hnh) hsc
  refine uc l D ρ τ (d + 1) V _ hV3 ?_
  have hcS1 : cS C Cu e pr := oC_cS.tr u1.cs (Nat.le_refl _) (Nat.le_refl _)
  have uT : ct_T Cu tx n := ct_of ⟨by rw [oC_o (by omega) (by omega)]; exact hT.1, hT.2.1, fun i hi => by rw [oC_o (by omega) (by omega)]; exact hT.2.2 i hi⟩ u1
  have u22 : Cu 2 2 = nI q := by rw [u3]; exact oC_2
  have badD : ∀ C' : ai_S, (¬ px_c tx n (-1) q = 40) → pS z C R tx n hf sc SC m ns pr vr p e nn stk (K + 1) k false C' := fun C' h40 => by
    obtain ⟨R', w1, w2⟩ := lm_bad (z := z) (R := R) (k := k) (k' := k + 1) (fun hall => rd_st (by omega) hmq (by omega) (os_let (d := z.2.2.2.2.1 + 5) mhf (by omega) hmT m2 mpn t15 hdp hc' h97 h122 (fun h' => absurd h' h61') (fun h' => by rw [hq'] at h'; exact absurd h' h40) (fun _ _ R' hR' => hall R' hR')))
    exact ⟨R', 1, w2, Or.inr ⟨w1, rfl⟩⟩
  refine sp_take hV0 uT u22 hsk3n (fun h40 => ai_zt ?_) (fun h40 => ai_zf (badD _ (fun h => h40 (by rw [hss3]; exact (px_cc (by decide) (by decide)).mpr h))))
  rw [hss3] at h40 ⊢
  have h40' : px_c tx n (-1) (px_s tx n (px_s tx n p' + 1)) = 40 := by rw [hq']; exact (px_cc (by decide) (by decide)).mp h40
  have hlt3 : q < n := px_lt h40 (by decide)
  obtain ⟨p3, hp3⟩ : ∃ p3, p3 = q + 1 := ⟨_, rfl⟩
  rw [← hp3] at u5 u7 u8 um ⊢
  have hpv0 := pv_open (dp := dp) (q := p3) (q' := p3) hpv (by omega) (by omega) rfl
  obtain ⟨-, -, -, o26, omq, -, -, o9, onh, -, osc, -⟩ := id hpv0
  have hcE1 : cE (oC C dp p3) (ai_up Cu 2 2 (nI p3)) e := by
    have a1 : cE (oC C dp p3) (oC C dp q) e := by have := (cE.rf (C := oC C dp p3) (e := e)).u2 2 (nI q) (by omega); rw [oC_up] at this; exact this
    exact (a1.tr u1 (Nat.le_refl _)).u2 2 _ (by omega)
  have uT3 : ct_T (ai_up Cu 2 2 (nI p3)) tx n := ct_of hpv0.1 hcE1
  -- the reference, with its frame marked
  obtain ⟨Rw, hRw⟩ : ∃ Rw, Rw = ai_up (ai_up Ru 14 stk.length (nI (350 * hf + nn + 1))) 13 stk.length 12 := ⟨_, rfl⟩
  have wE : mE (oR R dp p3) Rw (350 * hf + nn) (350 * hf + 350) := by
    rw [hRw]
    exact ((u5 (350 * hf + nn) (350 * hf + 350) (by omega) (by omega)).uF 14 _ _ (by omega) (by omega)).uF 13 _ _ (by omega) (by omega)
  have w0 : ∀ j, Rw 0 j = Ru 0 j := fun j => by rw [hRw, ai_up_n (by omega), ai_up_n (by omega)]
  have wn : ∀ q i, 2 ≤ q → q ≤ 8 → Rw q i = Ru q i := fun q i h1 h2 => by rw [hRw, ai_up_n (by omega), ai_up_n (by omega)]
  have w2 : Rw 0 2 = nI p3 := by rw [w0, u7 2 (by omega) (by omega)]; exact oR_2
  have wT : mt_T Rw tx n := ⟨by rw [w0, u7 1 (by omega) (by omega), oR_o (by omega)]; exact hmT.1, hmT.2.1, fun i hi => by rw [wE.1, oR_o (by omega)]; exact hmT.2.2 i hi⟩
  have w30 : Rw 0 30 = nI (stk.length + 1) := by rw [w0, u7 30 (by omega) (by omega), oR_o (by omega)]; exact h30
  have w13 : Rw 13 stk.length = nI 12 := by rw [hRw, ai_up_s]; rfl
  have w14 : Rw 14 stk.length = nI (350 * hf + nn + 1) := by rw [hRw, ai_up_n (by omega), ai_up_s]
  have w15 : Rw 15 stk.length = nI dp := by rw [hRw, ai_up_n (by omega), ai_up_n (by omega), u8 15 (by omega), oR_o (by omega)]; exact t15
  have w16 : Rw 16 stk.length = nI 0 := by rw [hRw, ai_up_n (by omega), ai_up_n (by omega), u8 16 (by omega), oR_o (by omega)]; exact t16
  have w17 : Rw 17 stk.length = nI 0 := by rw [hRw, ai_up_n (by omega), ai_up_n (by omega), u8 17 (by omega), oR_o (by omega)]; exact t17
  have wl : mf_l Rw stk := by
    rw [hRw]
    refine mf_l_o (mf_l_o (mf_l_keep stk (fun q h1 h2 i hi => ?_) hml) 14 _ _ (by omega)) 13 _ _ (by omega)
    rw [u8 q (by omega), oR_o (by omega)]
  have wT2 : ∀ v : Int32, mt_T (ai_up Rw 0 2 v) tx n := fun v => ⟨by rw [ai_up_n (by omega)]; exact wT.1, wT.2.1, fun i hi => by rw [ai_up_n (by omega)]; exact wT.2.2 i hi⟩
  have hsk4 := px_s_ge tx n p3
  have hsk4n : px_s tx n p3 ≤ n := px_s_le tx (by omega)
  have hopen : ∀ (G : ai_S → Prop), (∀ S, G S → lm z S (k + 1)) → (px_c tx n (-1) (px_s tx n p3) = 41 → px_c tx n (-1) (px_s tx n (px_s tx n p3 + 1)) = 59 → G (ai_up (ai_up (ai_up Rw 0 2 (nI (px_s tx n (px_s tx n p3 + 1) + 1))) 0 31 (nI (350 * hf + nn + 1))) 0 30 (nI stk.length))) → (px_c tx n (-1) (px_s tx n p3) = 41 → ¬ px_c tx n (-1) (px_s tx n (px_s tx n p3 + 1)) = 59 → ∀ R' : ai_S, bd tx R' → G R') → (¬ px_c tx n (-1) (px_s tx n p3) = 41 → G (mpush (ai_up Rw 0 2 (nI (px_s tx n p3))) (stk.length + 1) 30 (nI (dp + 1)))) → lm z R k := by
    intro G hG hg1 hg2 hg3
    refine rd_st (by omega) hmq (by omega) (os_let (d := z.2.2.2.2.1 + 5) mhf (by omega) hmT m2 mpn t15 hdp hc' h97 h122 (fun h' => absurd h' h61') (fun _ => ?_) (fun _ h' => absurd h40' h'))
    rw [hq', ← hp3]
    refine um _ _ _ _ _ _ _ (vX6_openList ⟨i_in (by omega) (by omega), ?_⟩)
    rw [nI_clamp (show stk.length < 2 ^ 31 by omega), ← hRw]
    refine sp_eat wT w2 (by omega) (fun h => ai_zt ?_) (fun h => ai_zf (sp_push (f := stk.length + 1) (by rw [ai_up_n (by omega)]; exact w30) (by omega) (hG _ (hg3 h))))
    have hlt4 : px_s tx n p3 < n := px_lt h (by decide)
    refine sp_close12 (d := z.2.2.2.2.1 + 3) ⟨mhf.1, ((mhf.2.o (dp := dp) (q := p3)).me wE (by omega) (Nat.le_refl _)).u (by omega)⟩ (by omega) (by rw [ai_up_n (by omega)]; exact w13) (by rw [ai_up_n (by omega)]; exact w14) (by rw [ai_up_n (by omega)]; exact w30) (wT2 _) ai_up_s hlt4 (fun h59 => ?_) (fun h59 R' hR' => hG _ (hg2 h h59 R' hR'))
    rw [ai_up_up]
    exact hG _ (hg1 h h59)
  refine vX3_list hV3 (sp_take hV0 uT3 ai_up_s (by omega) (fun ht => ai_zt ?_) (fun hf0 => ai_zf ?_))
  · -- no actuals
    have hlt4 : px_s tx n p3 < n := px_lt ht (by decide)
    have ht' : px_c tx n (-1) (px_s tx n p3) = 41 := (px_cc (by decide) (by decide)).mp ht
    rw [ai_up_up]
    have hsk5 := px_s_ge tx n (px_s tx n p3 + 1)
    refine ai_zt (sp_take (tx := tx) hV0 ⟨by rw [ai_up_n (by omega)]; exact uT.1, uT.2.1, fun i hi => by rw [ai_up_n (by omega)]; exact uT.2.2 i hi⟩ ai_up_s hlt4 (fun h59 => ai_zt ?_) (fun h59 => ai_zf ?_))
    · have hlt5 : px_s tx n (px_s tx n p3 + 1) < n := px_lt h59 (by decide)
      have h59' : px_c tx n (-1) (px_s tx n (px_s tx n p3 + 1)) = 59 := (px_cc (by decide) (by decide)).mp h59
      rw [ai_up_up]
      obtain ⟨p5, hp5⟩ : ∃ p5, p5 = px_s tx n (px_s tx n p3 + 1) + 1 := ⟨_, rfl⟩
      rw [← hp5] at hopen ⊢
      obtain ⟨R', hR'⟩ : ∃ R', R' = ai_up (ai_up (ai_up Rw 0 2 (nI p5)) 0 31 (nI (350 * hf + nn + 1))) 0 30 (nI stk.length) := ⟨_, rfl⟩
      have hlm : lm z R' (k + 1) → lm z R k := fun h => hopen (fun S => S = R') (fun S hS => by rw [hS]; exact h) (fun _ _ => hR'.symm) (fun _ h' => absurd h59' h') (fun h' => absurd ht' h')
      have hmE : mE (oR R dp p3) R' (350 * hf + nn) (350 * hf + 350) := by rw [hR']; exact ((wE.u0 2 _ (by omega)).u0 31 _ (by omega)).u0 30 _ (by omega)
      have hn' : ∀ q i, 2 ≤ q → q ≤ 8 → R' q i = Ru q i := fun q i h1 h2 => by rw [hR', ai_up_n (by omega), ai_up_n (by omega), ai_up_n (by omega)]; exact wn q i h1 h2
      have h0' : ∀ j, j ≠ 2 → j ≠ 30 → j ≠ 31 → R' 0 j = Ru 0 j := fun j h1 h2 h3 => by rw [hR', ai_up_n (by omega), ai_up_n (by omega), ai_up_n (by omega)]; exact w0 j
      have hcE2 : cE (oC C dp p3) (ai_up Cu 2 2 (nI p5)) e := by have := hcE1.u2 2 (nI p5) (by omega); rw [ai_up_up] at this; exact this
      refine ⟨R', 1, hlm, Or.inl ⟨rfl, 350 * hf + nn + 1, p5, p5, e + 1, nn + 1, ns, pr, vr, SC, ?_, by rw [hR']; simp [ai_up_eq], ⟨by omega, by omega⟩, by rw [hn' 4 _ (by omega) (by omega)]; exact u11, by omega, by omega, by omega, by omega, by omega, by omega, oR_mS.tr (hmE.ms (Nat.le_refl _) (Nat.le_refl _)) (Nat.le_refl _) (Nat.le_refl _) (Nat.le_refl _), oC_cS.tr hcE2.cs (Nat.le_refl _) (Nat.le_refl _), Nat.le_refl _, Nat.le_refl _, Nat.le_refl _, hscw.le (by omega), fun _ _ => rfl, fun hN => ?_⟩⟩
      · refine pv_of hpv0 hcE2 hmE ai_up_s (by omega) (by rw [ai_up_n (by omega)]; exact u2) (by rw [hR']; simp [ai_up_eq]) (by omega) (by rw [h0' 15 (by omega) (by omega) (by omega)]; exact u6) ?_ (by rw [h0' 19 (by omega) (by omega) (by omega), u7 19 (by omega) (by omega), oR_o (by omega)]; exact m19) rfl ?_ ?_ (by omega) (by omega)
        · rw [hR']; exact ⟨ai_up_s, mf_l_o (mf_l_o (mf_l_o wl 0 2 _ (by omega)) 0 31 _ (by omega)) 0 30 _ (by omega)⟩
        · rw [ai_up_n (by omega), u4, h0' 24 (by omega) (by omega) (by omega), u7 24 (by omega) (by omega)]
          have := o9
          unfold oC at this ⊢
          rw [ai_up_n (by omega)] at this ⊢
          exact this
        · rw [ai_up_n (by omega), h0' 20 (by omega) (by omega) (by omega)]; exact u13
      · rw [ai_up_n (by omega)] at hN
        obtain ⟨n1, n2⟩ := u14 hN
        rw [oC_o (by omega) (by omega)] at n1
        refine ⟨n1, ⟨⟨by omega, by omega⟩, by omega, Or.inr (Or.inl ⟨by rw [hn' 2 _ (by omega) (by omega)]; exact u9, ?_, 0, by rw [hn' 3 _ (by omega) (by omega)]; exact u10, cx_li_nil _ _ _⟩)⟩, fun q h1 h2 => absurd h2 (by omega)⟩
        refine cx_us_mono (e0 := e) (e1 := e + 1) (R := Ru) ?_ (fun j hj i _ _ => ai_up_n (by omega)) (Nat.le_refl _) (by omega) (hn' 5 _ (by omega) (by omega)) (hn' 6 _ (by omega) (by omega)) (hn' 7 _ (by omega) (by omega)) n2
        refine (mE.ag (b := 350 * hf + nn) (t := 0) ?_ hsc)
        rw [hR', hRw]
        exact ((((mE.rf.uF 14 _ _ (by omega) (by omega)).uF 13 _ _ (by omega) (by omega)).u0 2 _ (by omega)).u0 31 _ (by omega)).u0 30 _ (by omega)
    · have h59' : ¬ px_c tx n (-1) (px_s tx n (px_s tx n p3 + 1)) = 59 := fun h => h59 ((px_cc (by decide) (by decide)).mpr h)
      obtain ⟨R', w1', w2'⟩ := lm_bad (z := z) (R := R) (k := k) (k' := k + 1) (fun hall => hopen (fun S => bd tx S) hall (fun _ h' => absurd h' h59') (fun _ _ R' hR' => hR') (fun h' => absurd ht' h'))
      exact ⟨R', 1, w2', Or.inr ⟨w1', rfl⟩⟩
  · -- actuals
    have hf' : ¬ px_c tx n (-1) (px_s tx n p3) = 41 := fun h => hf0 ((px_cc (by decide) (by decide)).mpr h)
    rw [ai_up_up]
    obtain ⟨R1, hR1⟩ : ∃ R1, R1 = mpush (ai_up Rw 0 2 (nI (px_s tx n p3))) (stk.length + 1) 30 (nI (dp + 1)) := ⟨_, rfl⟩
    have hlm : lm z R1 (k + 1) → lm z R k := fun h => hopen (fun S => S = R1) (fun S hS => by rw [hS]; exact h) (fun h' => absurd h' hf') (fun h' => absurd h' hf') (fun _ => hR1.symm)
    have hmE : mE (oR R dp p3) R1 (350 * hf + nn) (350 * hf + 350) := by rw [hR1]; exact (wE.u0 2 _ (by omega)).push _ _ _
    have hn' : ∀ q i, 2 ≤ q → q ≤ 8 → R1 q i = Ru q i := fun q i h1 h2 => by
      rw [hR1]
      unfold mpush
      rw [ai_up_n (by omega), ai_up_n (by omega), ai_up_n (by omega), ai_up_n (by omega), ai_up_n (by omega), ai_up_n (by omega), ai_up_n (by omega)]
      exact wn q i h1 h2
    have h0' : ∀ j, j ≠ 2 → j ≠ 30 → R1 0 j = Ru 0 j := fun j h1 h2 => by
      rw [hR1]
      unfold mpush
      rw [ai_up_n (by omega), ai_up_n (by omega), ai_up_n (by omega), ai_up_n (by omega), ai_up_n (by omega), ai_up_n (by omega), ai_up_n (by omega)]
      exact w0 j
    have hcE2 : cE (oC C dp p3) (ai_up Cu 2 2 (nI (px_s tx n p3))) e := by have := hcE1.u2 2 (nI (px_s tx n p3)) (by omega); rw [ai_up_up] at this; exact this
    have hpv1 : pv (ai_up Cu 2 2 (nI (px_s tx n p3))) R1 tx n hf sc SC m ns pr vr (px_s tx n p3) (px_s tx n p3) (e + 1) (nn + 1) ((30, 0, dp + 1, 0, 0) :: (12, 350 * hf + nn + 1, dp, 0, 0) :: stk) := by
      refine pv_of hpv0 hcE2 hmE ai_up_s hsk4n (by rw [ai_up_n (by omega)]; exact u2) (by rw [hR1]; simp [mpush, ai_up_eq]) hsk4n (by rw [h0' 15 (by omega) (by omega)]; exact u6) ?_ (by rw [h0' 19 (by omega) (by omega), u7 19 (by omega) (by omega), oR_o (by omega)]; exact m19) rfl ?_ ?_ (by omega) (by omega)
      · rw [hR1]
        refine mf_push (stk := (12, 350 * hf + nn + 1, dp, 0, 0) :: stk) ⟨mf_at_of ?_ ?_ ?_ ?_ ?_, mf_l_o wl 0 2 _ (by omega)⟩ 30 (dp + 1)
        · rw [ai_up_n (by omega)]; exact w13
        · rw [ai_up_n (by omega)]; exact w14
        · rw [ai_up_n (by omega)]; exact w15
        · rw [ai_up_n (by omega)]; exact w16
        · rw [ai_up_n (by omega)]; exact w17
      · rw [ai_up_n (by omega), u4, h0' 24 (by omega) (by omega), u7 24 (by omega) (by omega)]
        have := o9
        unfold oC at this ⊢
        rw [ai_up_n (by omega)] at this ⊢
        exact this
      · rw [ai_up_n (by omega), h0' 20 (by omega) (by omega)]; exact u13
    refine (simL_list (d := d) (Or.inr rfl) hV0 hV3 hdp hE stk (350 * hf + nn) (350 * hf + nn + 1) hsc (by omega) (by omega) 5 _ R1 (px_s tx n p3) (px_s tx n p3) (e + 1) (nn + 1) (k + 1) 0 0 (by omega) hpv1 (by omega) (by omega) (by omega) (by omega) (by omega) (fun h => absurd rfl h)).mono ?_
    rintro r C' V' ⟨h1, b, h2, R', j', h3, h4⟩
    refine ⟨h1, b, h2, ?_⟩
    have hlmj : lm z R' (k + (1 + j')) → lm z R k := fun h => hlm (h3 (by rw [Nat.add_assoc]; exact h))
    rcases h4 with ⟨hb, x, p1, e1, nn1, v1, v2, v3, v4, v5, v6, v7, v8, v9, v10, v11, v12, v13, v14, v15, v16, v17, v18⟩ | ⟨w1', w2'⟩
    · obtain ⟨v59, vT, vp⟩ : px_c tx n 0 (px_s tx n p1) = 59 ∧ ct_T C' tx n ∧ pv (ai_up C' 2 2 (nI (px_s tx n p1 + 1))) R' tx n hf sc SC m ns pr vr (px_s tx n p1 + 1) (px_s tx n p1 + 1) e1 nn1 stk := by
        rcases v1 with ⟨h, -⟩ | ⟨-, h⟩
        · exact absurd h (by decide)
        · exact h
      have hsk6 := px_s_ge tx n p1
      rw [hb]
      refine ai_zt (sp_take hV0 vT v3 v4 (fun _ => ai_zt ?_) (fun h => absurd v59 h))
      have hq : ∀ q, 2 ≤ q → q ≤ 8 → ¬ q = 3 → R' q (350 * hf + nn + 1) = Ru q (350 * hf + nn + 1) := fun q a c h => by rw [v14 q a c _ (by omega) (by omega) (by omega)]; exact hn' q _ a c
      refine ⟨R', 1 + j', hlmj, Or.inl ⟨rfl, 350 * hf + nn + 1, px_s tx n p1 + 1, px_s tx n p1 + 1, e1, nn1, ns, pr, vr, SC, vp, v2, ⟨by omega, by omega⟩, by rw [hq 4 (by omega) (by omega) (by omega)]; exact u11, by omega, by omega, by omega, by omega, by omega, by omega, oR_mS.tr ((hmE.tr v12 (Nat.le_refl _)).ms (Nat.le_refl _) (Nat.le_refl _)) (Nat.le_refl _) (Nat.le_refl _) (Nat.le_refl _), oC_cS.tr ((hcE2.tr v13 (by omega)).u2 2 _ (by omega)).cs (Nat.le_refl _) (Nat.le_refl _), Nat.le_refl _, Nat.le_refl _, Nat.le_refl _, hscw.le (by omega), fun _ _ => rfl, fun hN => ?_⟩⟩
      rw [ai_up_n (by omega)] at hN
      have n0 := v15 hN
      rw [ai_up_n (by omega)] at n0
      obtain ⟨n1, n2⟩ := u14 n0
      rw [oC_o (by omega) (by omega)] at n1
      have hK' : ∀ j i, j < 3 → cd (ai_up C' 2 2 (nI (px_s tx n p1 + 1))) j i = cd C' j i := fun j i hj => ai_up_n (by omega)
      refine ⟨n1, ⟨⟨by omega, by omega⟩, by omega, Or.inr (Or.inl ⟨by rw [hq 2 (by omega) (by omega) (by omega)]; exact u9, ?_, x, v16 rfl, ?_⟩)⟩, fun q h1 h2 => absurd h2 (by omega)⟩
      · refine cx_us_mono (e0 := e) (e1 := e + 1) (R := Ru) ?_ (fun j hj i h1 h2 => ?_) (Nat.le_refl _) (by omega) (hq 5 (by omega) (by omega) (by omega)) (hq 6 (by omega) (by omega) (by omega)) (hq 7 (by omega) (by omega) (by omega)) n2
        · have a1 : mE Ru R1 (350 * hf + nn) (350 * hf + 350) := by
            rw [hR1, hRw]
            exact (((mE.rf.uF 14 _ _ (by omega) (by omega)).uF 13 _ _ (by omega) (by omega)).u0 2 _ (by omega)).push _ _ _
          exact (a1.tr v12 (Nat.le_refl _)).ag hsc
        · rw [hK' j i hj, show cd C' j i = cd (ai_up Cu 2 2 (nI (px_s tx n p3))) j i from v13.2.2.2 (27 + j) (by omega) (by omega) i (by omega)]
          exact ai_up_n (by omega)
      · refine cx_li_mono (e0 := e + 1) (e1 := e1) (E := cx_E (cd C') R' (16 * hf) SC sc F (nr hf (nn + 1) nn1)) (fun _ _ _ hx => cx_E_lt hx) (fun j hj i _ _ => hK' j i hj) (fun x a b _ _ hx => ⟨?_, rfl, rfl, rfl⟩) 6 6 x (e + 1) e1 0 (Nat.le_refl _) (Nat.le_refl _) (Nat.le_refl _) (v18 hN)
        exact cx_E_lift hx (fun j hj i _ _ => hK' j i hj) sc_ag.rf (fun _ _ _ _ _ _ _ => rfl) hF (fun i hi => ⟨⟨by have := hi.1; omega, hi.2⟩, by have := hi.1; omega⟩)
    · rcases w2' with w2' | ⟨-, wT', p1, w3', w4', w5'⟩
      · rw [w2']
        exact ai_zf ⟨R', 1 + j', hlmj, Or.inr ⟨w1', rfl⟩⟩
      · have hfin : pS z C R tx n hf sc SC m ns pr vr p e nn stk (K + 1) k false (ai_up C' 2 2 (nI (px_s tx n p1))) := ⟨R', 1 + j', hlmj, Or.inr ⟨w1', rfl⟩⟩
        refine ⟨fun _ => sp_take hV0 wT' w4' w3' (fun h => absurd h w5') (fun _ => ai_zf hfin), fun _ => ⟨R', 1 + j', hlmj, Or.inr ⟨w1', rfl⟩⟩⟩
end SCA
