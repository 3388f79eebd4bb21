/-! ===== parentheses, and factors whole ===== -/
section SFP
variable {l : Launch} {D : va_G} {ρ : Nat → Nat} {τ : Nat → ClassId} {z : lm_T} {V : ai_V} {tx : Nat → Int32} {n hf : Nat} {sc : sc_T} {SC : Nat → sc_T} {m ns pr vr d dp F : Nat} {C R : ai_S} {p p' e nn k : Nat} {stk : List mf_T}
set_option maxHeartbeats 4000000 in
theorem sf_par (hV0 : hV ρ V tx n) (hV3 : V 2 3 = .ref 26) (hdp : dp ≤ 10) (hE : sF l D ρ τ z V tx n hf sc SC m ns pr vr (d + 1) (dp + 1) F 0 0 mX3_expression 30) (hpv : pv C R tx n hf sc SC m ns pr vr p p' e nn ((39, 0, dp, 0, 0) :: stk)) (hst : stk.length + 4 * (11 - dp) ≤ 59) (he : 2 * e ≤ 3 * p + 2) (hnn : nn ≤ p) (hk : k + 12 * (n - p) + 50 ≤ 100000 + 3) (h40 : px_c tx n 0 (px_s tx n p) = 40) :
    ai_met (uC l D ρ τ) (d + 1) mX3_expression [.ref 2, .int (nI (dp + 1))] (ai_up C 2 2 (nI (px_s tx n p + 1))) V (ai_qz V (fun b3 S4 => (b3 = true → ai_met (uC l D ρ τ) (d + 1) mX3_take [.ref 2, .int 41] S4 V (ai_qz V (fun b5 S6 => (b5 = true → pE z C R tx n hf sc SC m ns pr vr p e nn stk (F + 1) 6 k true S6) ∧ (b5 = false → pE z C R tx n hf sc SC m ns pr vr p e nn stk (F + 1) 6 k false S6)))) ∧ (b3 = false → pE z C R tx n hf sc SC m ns pr vr p e nn stk (F + 1) 6 k false S4))) := by
  obtain ⟨hT, hp, hpn, hC3, hmq, hsk, h8, h9, hnh, hsp, hsc, hnn3⟩ := id hpv
  have hn320 : n ≤ 320 := hT.2.1
  obtain ⟨hmT, m2, mpn, m14, mhf, m15, hmf, m19⟩ := id hmq
  obtain ⟨⟨t13, t14, t15, t16, t17⟩, hml, h30⟩ := mf_top hmf
  dsimp only at t13 t14 t15 t16 t17
  have hlt : px_s tx n p < n := px_lt h40 (by decide)
  have hskp := px_s_ge tx n p
  have h40' : px_c tx n (-1) (px_s tx n p') = 40 := by rw [← hsk]; exact (px_cc (by decide) (by decide)).mp h40
  obtain ⟨R1, hR1⟩ : ∃ R1, R1 = mpush (ai_up (ai_up (mfresh (ai_up R 0 2 (nI (px_s tx n p + 1))) (350 * hf + nn + 1) 13) 14 stk.length (nI (350 * hf + nn + 1))) 13 stk.length 41) (stk.length + 1) 30 (nI (dp + 1)) := ⟨_, rfl⟩
  have hlm1 : lm z R1 (k + 1) → lm z R k := fun h => rd_fac (by omega) hmq (by omega) (fac_par (d := z.2.2.2.2.1 + 4) (by omega) hmT m2 mpn m15 (by omega) h30 t15 h40' (by rw [← hsk, ← hR1]; exact h))
  have hmE1 : mE R R1 (350 * hf + nn) (350 * hf + 350) := by
    rw [hR1]
    exact ((((mE.rf.u0 2 _ (by omega)).fresh _ _ (by omega) (by omega)).uF 14 _ _ (by omega) (by omega)).uF 13 _ _ (by omega) (by omega)).push _ _ _
  have hcE1 : cE C (ai_up C 2 2 (nI (px_s tx n p + 1))) e := cE.rf.u2 2 _ (by omega)
  have hpv1 : pv (ai_up C 2 2 (nI (px_s tx n p + 1))) R1 tx n hf sc SC m ns pr vr (px_s tx n p + 1) (px_s tx n p + 1) e (nn + 1) ((30, 0, dp + 1, 0, 0) :: (41, 350 * hf + nn + 1, dp, 0, 0) :: stk) := by
    refine pv_of hpv hcE1 hmE1 ai_up_s hlt (by rw [ai_up_n (by omega)]; exact hC3) (by rw [hR1]; simp [mpush, mfresh, ai_up_eq]) hlt (by rw [hR1]; simp [mpush, mfresh, ai_up_eq]; rfl) ?_ (by rw [hR1]; simp [mpush, mfresh, ai_up_eq]; exact m19) rfl ?_ ?_ (by omega) (by omega)
    · rw [hR1]
      refine mf_push (stk := (41, 350 * hf + nn + 1, dp, 0, 0) :: stk) ⟨mf_at_of ?_ ?_ ?_ ?_ ?_, ?_⟩ 30 (dp + 1)
      · rw [ai_up_s]; rfl
      · rw [ai_up_n (by omega), ai_up_s]
      · simp [mfresh, ai_up_eq]; exact t15
      · simp [mfresh, ai_up_eq]; exact t16
      · simp [mfresh, ai_up_eq]; exact t17
      · exact mf_l_o (mf_l_o (mf_l_fresh (mf_l_o hml 0 2 _ (by omega)) _ _) 14 _ _ (by omega)) 13 _ _ (by omega)
    · rw [ai_up_n (by omega), hR1]; simp [mpush, mfresh, ai_up_eq]; exact h9
    · rw [ai_up_n (by omega), show R1 0 20 = R 0 20 by rw [hR1]; simp [mpush, mfresh, ai_up_eq]]; exact hnh
  refine (hE _ R1 _ _ _ _ _ (k + 1) hpv1 (by simp; omega) (by omega) (by omega) (by omega)).mb (fun b C2 hE2 => ?_)
  obtain ⟨R2, j2, hlm2, hE2⟩ := hE2
  have hlm12 : lm z R2 (k + (1 + j2)) → lm z R k := fun h => hlm1 (hlm2 (by rw [Nat.add_assoc]; exact h))
  rcases hE2 with ⟨rfl, x, p2, p2', e2, nn2, hpv2, r31, rx, rt, r4, r5, r6, r7, r8, r9, r10, r11, r12, r13⟩ | ⟨hwr, hbb⟩
  · refine ai_zt ?_
    have hx1 : 350 * hf + (nn + 1) < x := rx.1
    have hx2 : x ≤ 350 * hf + nn2 := rx.2
    obtain ⟨gT, gp, gpn, gC3, gmq, gsk, g8, g9, gnh, gsp, gsc, gnn⟩ := id hpv2
    obtain ⟨gmT, gm2, gmpn, gm14, gmhf, gm15, gmf, gm19⟩ := id gmq
    obtain ⟨⟨s13, s14, s15, s16, s17⟩, gml, g30⟩ := mf_top gmf
    dsimp only at s13 s14 s15 s16 s17
    have hskn : px_s tx n p2 ≤ n := px_s_le tx gpn
    have hskp2 : p2 ≤ px_s tx n p2 := px_s_ge tx n p2
    obtain ⟨H, hH⟩ : ∃ H, H = hook R2 stk.length (350 * hf + nn + 1) 0 x := ⟨_, rfl⟩
    have H0 : ∀ q i, ¬ (q = 16 ∧ i = stk.length) → ¬ (q = 3 ∧ i = 350 * hf + nn + 1) → H q i = R2 q i := fun q i h1 h2 => by rw [hH]; exact hook_o h1 (by omega) (by omega)
    have mH : mE R2 H (350 * hf + nn) (350 * hf + 350) := by rw [hH]; exact mE.rf.hk (fun _ => ⟨by omega, by omega⟩) (fun h => absurd rfl h)
    have HT : mt_T H tx n := ⟨by rw [H0 _ _ (by omega) (by omega)]; exact gmT.1, gmT.2.1, fun i hi => by rw [H0 _ _ (by omega) (by omega)]; exact gmT.2.2 i hi⟩
    have rd : ∀ (P : Prop) (G : ai_S → Prop), (∀ S, G S → lm z S (k + (1 + j2) + 1)) → (px_c tx n (-1) (px_s tx n p2') = 41 → G (ai_up (ai_up (ai_up H 0 2 (nI (px_s tx n p2' + 1))) 0 31 (nI (350 * hf + nn + 1))) 0 30 (nI stk.length))) → (¬ px_c tx n (-1) (px_s tx n p2') = 41 → ∀ R' : ai_S, bd tx R' → G R') → lm z R2 (k + (1 + j2)) := by
      intro _ G hG hg1 hg2
      refine lm_head (by omega) gm19 g30 (by omega) s13 (by omega) (fun h => by omega) (fun _ _ _ => ex_41 (d := z.2.2.2.2.1 + 6) (by omega) s13 (sp_hook (by omega) s16 (by omega) s14 (by omega) r31 ?_)) (fun _ h => by omega)
      rw [← hH]
      refine sp_eat HT (by rw [H0 _ _ (by omega) (by omega)]; exact gm2) gmpn (fun h => ai_zt ?_) (fun h => ai_zf ?_)
      · rw [ai_up_n (by omega), H0 14 _ (by omega) (by omega), s14]
        exact sp_done (by rw [ai_up_n (by omega), H0 _ _ (by omega) (by omega)]; exact g30) (hG _ (hg1 h))
      · refine sp_done (f := stk.length) (by rw [ai_up_n (by omega), ai_up_n (by omega), H0 _ _ (by omega) (by omega)]; exact g30) (hG _ (hg2 h _ (bd_of gmhf (fun g => by (repeat with_reducible refine gh.u ?_ (by omega)); exact g.me mH (by omega) (Nat.le_refl _)) (by simp [ai_up_eq]))))
    refine sp_take (p := p2) hV0 gT gp gpn (fun ht => ai_zt ?_) (fun hf1 => ai_zf ?_)
    · have hlt2 : px_s tx n p2 < n := px_lt ht (by decide)
      have hy : px_c tx n (-1) (px_s tx n p2') = 41 := by rw [← gsk]; exact (px_cc (by decide) (by decide)).mp ht
      obtain ⟨R', hR'⟩ : ∃ R', R' = ai_up (ai_up (ai_up H 0 2 (nI (px_s tx n p2' + 1))) 0 31 (nI (350 * hf + nn + 1))) 0 30 (nI stk.length) := ⟨_, rfl⟩
      have hlm3 : lm z R' (k + (2 + j2)) → lm z R k := fun h => hlm12 (rd True (fun S => S = R') (fun S hS => by rw [hS, show k + (1 + j2) + 1 = k + (2 + j2) by omega]; exact h) (fun _ => hR'.symm) (fun h' => absurd hy h'))
      have n0 : ∀ q i, ¬ q = 0 → R' q i = H q i := fun q i h => by rw [hR', ai_up_n (by omega), ai_up_n (by omega), ai_up_n (by omega)]
      have mR' : mE R2 R' (350 * hf + nn) (350 * hf + 350) := by rw [hR']; exact ((mH.u0 2 _ (by omega)).u0 31 _ (by omega)).u0 30 _ (by omega)
      have hmE : mE R R' (350 * hf + nn) (350 * hf + 350) := (hmE1.tr r11 (by omega)).tr mR' (Nat.le_refl _)
      have hcE : cE C (ai_up C2 2 2 (nI (px_s tx n p2 + 1))) e := (hcE1.tr r12 (Nat.le_refl _)).u2 2 _ (by omega)
      have q1 : ∀ q, 2 ≤ q → q ≤ 8 → ¬ q = 3 → R' q (350 * hf + nn + 1) = R1 q (350 * hf + nn + 1) := fun q a c h => by
        rw [n0 q _ (by omega), H0 q _ (by omega) (by omega)]; exact r11.2.2.2 q a c _ (Or.inl (by omega))
      have q2 : R' 2 (350 * hf + nn + 1) = 13 := by rw [q1 2 (by omega) (by omega) (by omega), hR1]; simp [mpush, mfresh, ai_up_eq]
      refine ⟨R', 2 + j2, hlm3, Or.inl ⟨rfl, 350 * hf + nn + 1, px_s tx n p2 + 1, px_s tx n p2 + 1, e2, nn2, ?_, by rw [hR']; simp [ai_up_eq], ⟨by omega, by omega⟩, ⟨fun h => ?_, fun a1 _ _ => ?_⟩, ?_, by omega, by omega, by omega, by omega, by omega, by omega, hmE, hcE, fun hN => ?_⟩⟩
      · refine pv_of hpv hcE hmE ai_up_s hlt2 (by rw [ai_up_n (by omega)]; exact gC3) (by rw [hR', gsk]; simp [ai_up_eq]) hlt2 ?_ ?_ ?_ rfl ?_ ?_ (by omega) gnn
        · rw [hR', ai_up_n (by omega), ai_up_n (by omega), ai_up_n (by omega), H0 _ _ (by omega) (by omega)]; exact gm15
        · rw [hR', hH]
          unfold hook
          exact ⟨ai_up_s, mf_l_o (mf_l_o (mf_l_o (mf_l_o (mf_l_o gml 3 _ _ (by omega)) 16 _ _ (by omega)) 0 2 _ (by omega)) 0 31 _ (by omega)) 0 30 _ (by omega)⟩
        · rw [hR', ai_up_n (by omega), ai_up_n (by omega), ai_up_n (by omega), H0 _ _ (by omega) (by omega)]; exact gm19
        · rw [show R' 0 24 = R2 0 24 by rw [hR', ai_up_n (by omega), ai_up_n (by omega), ai_up_n (by omega), H0 _ _ (by omega) (by omega)], ai_up_n (by omega)]; exact g9
        · rw [show R' 0 20 = R2 0 20 by rw [hR', ai_up_n (by omega), ai_up_n (by omega), ai_up_n (by omega), H0 _ _ (by omega) (by omega)], ai_up_n (by omega)]; exact gnh
      · rw [q2] at h; exact absurd h (by decide)
      · rw [h40] at a1; exact absurd a1 (by decide)
      · rw [q1 4 (by omega) (by omega) (by omega), hR1]; simp [mpush, mfresh, ai_up_eq]; rfl
      · rw [ai_up_n (by omega)] at hN
        obtain ⟨n1, kE⟩ := r13 hN
        rw [ai_up_n (by omega)] at n1
        refine ⟨n1, ⟨by omega, by omega⟩, by omega, Or.inr (Or.inr (Or.inr (Or.inr ⟨q2, x, by rw [n0 3 _ (by omega), hH, hook_3], ?_⟩)))⟩
        have fr : ∀ q i, 2 ≤ q → q ≤ 8 → 350 * hf + (nn + 1) < i → R' q i = R2 q i := fun q i a c h => by rw [n0 q i (by omega), H0 q i (by omega) (by omega)]
        refine cx_E_mono (e0 := e) (e1 := e2) (mR'.ag hsc) (fun j hj i _ hi => ai_up_n (by omega)) F F _ _ x e e2 (Nat.le_refl _) (fun i hi => ⟨⟨?_, hi.2⟩, ?_⟩) (fun i hi => ?_) (fun i hi hne => ?_) (Nat.le_refl _) (Nat.le_refl _) kE
        · have := hi.1; omega
        · have := hi.1; omega
        · have h1 := hi.1
          exact ⟨fr 2 i (by omega) (by omega) h1, fr 3 i (by omega) (by omega) h1, fr 5 i (by omega) (by omega) h1, fr 6 i (by omega) (by omega) h1, fr 7 i (by omega) (by omega) h1⟩
        · have h1 := hi.1
          exact ⟨fr 4 i (by omega) (by omega) h1, fr 8 i (by omega) (by omega) h1⟩
    · have hy : ¬ px_c tx n (-1) (px_s tx n p2') = 41 := by rw [← gsk]; exact fun h => hf1 ((px_cc (by decide) (by decide)).mpr h)
      obtain ⟨R', w1, w2⟩ := lm_bad (z := z) (R := R2) (k := k + (1 + j2)) (k' := k + (1 + j2) + 1) (fun hall => rd True (fun S => bd tx S) hall (fun h => absurd h hy) (fun _ R' hR' => hR'))
      exact ⟨R', 2 + j2, fun h => hlm12 (w2 (by rw [show k + (1 + j2) + 1 = k + (2 + j2) by omega]; exact h)), Or.inr ⟨w1, Or.inl rfl⟩⟩
  · rcases hbb with rfl | hpg
    · exact ai_zf ⟨R2, 1 + j2, hlm12, Or.inr ⟨hwr, Or.inl rfl⟩⟩
    · exact ⟨fun _ => pg_take hV0 hpg (by decide) (fun h => ai_zf ⟨R2, 1 + j2, hlm12, Or.inr ⟨hwr, Or.inl rfl⟩⟩), fun _ => ⟨R2, 1 + j2, hlm12, Or.inr ⟨hwr, Or.inl rfl⟩⟩⟩
end SFP
