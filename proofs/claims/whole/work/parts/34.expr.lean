/-! ===== expressions ===== -/
section SEX
variable {z : lm_T} {tx : Nat → Int32} {n : Nat} {R : ai_S} {stk : List mf_T} {hf p nn nd dp ls ex g k b0 : Nat}
set_option maxHeartbeats 1000000 in
theorem less2_stop (hk : k < 100000) (hq : mq R tx n hf p nn ((32, nd, dp, ls, ex) :: stk)) (hst : stk.length < 70) (hg : R 0 31 = nI g) (hg1 : b0 < g) (hg2 : g ≤ 350 * hf + nn) (hnn : nn ≤ 321) (h0 : nd ≠ 0) (hnz : b0 < ls ∧ ls ≤ 350 * hf + nn ∧ nd ≤ 350 * hf + nn) (hb0 : 350 * hf ≤ b0) :
    ∃ (R2 : ai_S), (lm z R2 (k + 1) → lm z R k) ∧ mf R2 stk ∧ R2 0 2 = nI (px_s tx n p) ∧ R2 0 31 = nI nd ∧ R2 0 15 = R 0 15 ∧ R2 0 19 = 0 ∧ R2 0 20 = R 0 20 ∧ R2 0 24 = R 0 24 ∧ mE R R2 b0 (350 * hf + 350) ∧ nX R R2 (350 * hf + nn) g ls ∧ R2 8 g = nI ex ∧ R2 4 ls = nI g := by
  obtain ⟨hT, h2, hpn, h14, hhf, h15, hmf, h19⟩ := hq
  obtain ⟨⟨t13, t14, t15, t16, t17⟩, hml, h30⟩ := mf_top hmf
  dsimp only at t13 t14 t15 t16 t17
  obtain ⟨l1, l2, l3⟩ := hnz
  refine ⟨_, fun hlm => lm_head hk h19 h30 (by omega) t13 (by omega) (fun h => by omega) (fun _ _ _ => ex_32 (by omega) t13 (opz_less2 hT h2 hpn t14 t16 t17 h30 hst hg (by omega) (by omega) h0 (by omega) (by omega) t13 hlm)) (fun _ h => by omega), fa_B hmf, ?_, ?_, ?_, ?_, ?_, ?_, ((fr_opB _ hg1 (by omega) l1 (by omega)).u0 31 _ (by omega)).u0 30 _ (by omega), ?_, ?_, ?_⟩
  · simp [opB, ai_up_eq]
  · simp [opB, ai_up_eq]
  · simp [opB, ai_up_eq]
  · simp [opB, ai_up_eq, h19]
  · simp [opB, ai_up_eq]
  · simp [opB, ai_up_eq]
  · intro q a c i hi h1 h2
    rw [ai_up_n (by omega), ai_up_n (by omega), opB_n a c h1 h2]
  · rw [ai_up_n (by omega), ai_up_n (by omega), opB_8]
  · rw [ai_up_n (by omega), ai_up_n (by omega), opB_4]
end SEX
section SEY
variable {l : Launch} {D : va_G} {ρ : Nat → Nat} {τ : Nat → ClassId} {z : lm_T} {V : ai_V} {tx : Nat → Int32} {n hf : Nat} {sc : sc_T} {SC : Nat → sc_T} {m ns pr vr d dp F : Nat}
/-- too deep -/
theorem sim_expr11 (hV3 : V 2 3 = .ref 26) : sF l D ρ τ z V tx n hf sc SC m ns pr vr (d + 2) 11 F 0 0 mX3_expression 30 := by
  intro C R p p' e nn stk k hpv hst he hnn hk
  obtain ⟨hT, hp, hpn, hC3, hmq, hsk, h8, h9, hnh, hsp, hsc, hnn3⟩ := id hpv
  obtain ⟨hmT, m2, mpn, m14, mhf, m15, hmf, m19⟩ := id hmq
  obtain ⟨⟨t13, t14, t15, t16, t17⟩, hml, h30⟩ := mf_top hmf
  dsimp only at t13 t14 t15 t16 t17
  refine vX3_expression hV3 (sp_reach hV3 (fun h => absurd h (by decide)) (fun _ => ai_zf ?_))
  by_cases hlm : ∃ R' : ai_S, bd tx R' ∧ (lm z R' (k + 1) → lm z R k)
  · obtain ⟨R', h1, h2⟩ := hlm
    exact ⟨R', 1, h2, Or.inr ⟨h1, Or.inl rfl⟩⟩
  · refine absurd ⟨_, bd_1, fun _ => ?_⟩ hlm
    refine lm_head (by omega) m19 h30 (by omega) t13 (by omega) (fun h => by omega) (fun _ _ _ => ex_30 mhf (by omega) h30 t15 t13 (by omega) (fun h => by omega) (fun _ R' hR' => ?_)) (fun _ h => by omega)
    exact Classical.byContradiction fun hn => hlm ⟨R', hR', fun h => absurd h hn⟩
set_option maxHeartbeats 4000000 in
theorem sim_expr (hV0 : hV ρ V tx n) (hV3 : V 2 3 = .ref 26) (hdp : dp ≤ 10) (hF : sF l D ρ τ z V tx n hf sc SC m ns pr vr (d + 1) dp F 2 1 mX3_sum 33) : sF l D ρ τ z V tx n hf sc SC m ns pr vr (d + 2) dp (F + 1) 0 0 mX3_expression 30 := by
  intro C R p p' e nn stk k hpv hst he hnn hk
  obtain ⟨hT, hp, hpn, hC3, hmq, hsk, h8, h9, hnh, hsp, hsc, hnn3⟩ := id hpv
  have hn320 : n ≤ 320 := hT.2.1
  obtain ⟨hmT, m2, mpn, m14, mhf, m15, hmf, m19⟩ := id hmq
  obtain ⟨⟨t13, t14, t15, t16, t17⟩, hml, h30⟩ := mf_top hmf
  dsimp only at t13 t14 t15 t16 t17
  obtain ⟨R1, hR1⟩ : ∃ R1, R1 = mpush (ai_up (ai_up R 0 24 (if R 0 24 < nI dp then nI dp else R 0 24)) 13 stk.length 31) (stk.length + 1) 33 (nI dp) := ⟨_, rfl⟩
  have hlm1 : lm z R1 (k + 1) → lm z R k := fun hlm => lm_head (by omega) m19 h30 (by omega) t13 (by omega) (fun h => by omega) (fun _ _ _ => ex_30 mhf (by omega) h30 t15 t13 (by omega) (fun _ => by rw [← hR1]; exact hlm) (fun h => absurd hdp h)) (fun _ h => by omega)
  have hmE1 : ∀ b t, mE R R1 b t := fun b t => by rw [hR1]; exact ((mE.rf.u0 24 _ (by omega)).uF 13 _ _ (by omega) (by omega)).push _ _ _
  have hmf1 : mf R1 ((33, 0, dp, 0, 0) :: (31, 0, dp, 0, 0) :: stk) := by
    rw [hR1]
    refine mf_push (stk := (31, 0, dp, 0, 0) :: stk) ⟨mf_at_of ?_ ?_ ?_ ?_ ?_, mf_l_o (mf_l_o hml 0 24 _ (by omega)) 13 _ _ (by omega)⟩ 33 dp
    · simp [ai_up_eq]; rfl
    · simp [ai_up_eq, t14]
    · simp [ai_up_eq, t15]
    · simp [ai_up_eq, t16]
    · simp [ai_up_eq, t17]
  have e2 : R1 0 2 = nI p' := by rw [hR1]; simp [mpush, ai_up_eq]; exact m2
  have e15 : R1 0 15 = nI (350 * hf + nn) := by rw [hR1]; simp [mpush, ai_up_eq]; exact m15
  have e19 : R1 0 19 = 0 := by rw [hR1]; simp [mpush, ai_up_eq]; exact m19
  have e20 : R1 0 20 = R 0 20 := by rw [hR1]; simp [mpush, ai_up_eq]
  have e24 : R1 0 24 = (if R 0 24 < nI dp then nI dp else R 0 24) := by rw [hR1]; simp [mpush, ai_up_eq]
  obtain ⟨C1, hC1⟩ : ∃ C1, C1 = ai_up C 26 9 (if C 26 9 < nI dp then nI dp else C 26 9) := ⟨_, rfl⟩
  have hcE1 : cE C C1 e := by rw [hC1]; exact cE.rf.u26 9 _ (by omega)
  have c25 : C1 2 5 = C 2 5 := by rw [hC1, ai_up_n (by omega)]
  have hpv1 : pv C1 R1 tx n hf sc SC m ns pr vr p p' e nn ((33, 0, dp, 0, 0) :: (31, 0, dp, 0, 0) :: stk) := by
    refine pv_of (t := 0) hpv hcE1 (hmE1 _ _) (by rw [hC1, ai_up_n (by omega)]; exact hp) hpn (by rw [hC1, ai_up_n (by omega)]; exact hC3) e2 mpn e15 hmf1 e19 hsk ?_ (by rw [e20, c25]; exact hnh) (Nat.le_refl _) hnn3
    rw [e24, hC1, ai_up_s, h9]
  refine vX3_expression hV3 (sp_reach hV3 (fun _ => ai_zt ?_) (fun h => absurd ?_ h))
  rotate_left
  · rw [show (10 : Int32) = nI 10 from rfl, i_le (by omega) (by omega)]; exact hdp
  rw [← hC1]
  refine (hF C1 R1 p p' e nn _ (k + 1) hpv1 (by simp; omega) he hnn (by omega)).mb (fun b C3 hE => ?_)
  obtain ⟨R3, j3, hlm3, hE⟩ := hE
  have hlm13 : lm z R3 (k + (1 + j3)) → lm z R k := fun h => hlm1 (hlm3 (by rw [Nat.add_assoc]; exact h))
  rcases hE with ⟨rfl, x3, p3, p3', e3, nn3, hpv3, r31, rx, rt, r4, r5, r6, r7, r8, r9, r10, r11, r12, r13⟩ | ⟨hwr, hbb⟩
  · refine ai_zt ?_
    have hx1 : 350 * hf + nn < x3 := rx.1
    have hx2 : x3 ≤ 350 * hf + nn3 := rx.2
    obtain ⟨gT, gp, gpn, gC3, gmq, gsk, g8, g9, gnh, gsp, gsc, gnn⟩ := id hpv3
    have hskn : px_s tx n p3 ≤ n := px_s_le tx gpn
    have hskp : p3 ≤ px_s tx n p3 := px_s_ge tx n p3
    refine sp_take hV0 gT gp gpn (fun ht => ai_zt ?_) (fun hf0 => ai_zf ?_)
    · -- compared with a second sum
      have hlt : px_s tx n p3 < n := px_lt ht (by decide)
      have hy : px_c tx n (-1) (px_s tx n p3') = 60 := by rw [← gsk]; exact (px_cc (by decide) (by decide)).mp ht
      obtain ⟨R4, nd2, nn4, hlm4, q1, q2, q3, q4, q5, q6, q7, q8, q9, q10, q11⟩ := less_more (z := z) (k := k + (1 + j3)) (b0 := 350 * hf + nn) (by omega) gmq (by omega) r31 hx1 hx2 (by omega) (fun _ => rfl) (fun h => absurd rfl h) (by omega) hy rfl
      obtain ⟨a1, a2, a3, a4, a5, a6⟩ := q11 rfl
      rw [← gsk] at q2
      refine sp_cadd (e := e3) (by rw [ai_up_n (by omega)]; exact gC3) (by omega) ?_
      have hcE4 : cE C3 (cadd (ai_up C3 2 2 (nI (px_s tx n p3 + 1))) e3 18 0 0) e3 := (cE.rf.u2 2 _ (by omega)).add (Nat.le_refl _) _ _ _
      have hpv4 : pv (cadd (ai_up C3 2 2 (nI (px_s tx n p3 + 1))) e3 18 0 0) R4 tx n hf sc SC m ns pr vr (px_s tx n p3 + 1) (px_s tx n p3 + 1) (e3 + 1) nn4 ((33, 0, dp, 0, 0) :: (32, nd2, dp, x3, 3) :: stk) := by
        refine pv_ofb hpv3 hsc hcE4 q7 (by simp [cadd, ai_up_eq]) hlt (by simp [cadd, ai_up_eq]) q2 hlt q3 q1 q4 rfl ?_ ?_ (by omega) (by omega)
        · rw [q6]; simp [cadd, ai_up_eq]; exact g9
        · rw [q5]; simp only [cadd, ai_up_eq]; simpa using gnh
      refine (hF _ R4 _ _ _ _ _ (k + (1 + j3) + 1) hpv4 (by simp; omega) (by omega) (by omega) (by omega)).mb (fun b C5 hE => ?_)
      obtain ⟨R5, j5, hlm5, hE⟩ := hE
      have hlm15 : lm z R5 (k + (2 + j3 + j5)) → lm z R k := fun h => hlm13 (hlm4 (hlm5 (by rw [show k + (1 + j3) + 1 + j5 = k + (2 + j3 + j5) by omega]; exact h)))
      rcases hE with ⟨rfl, x5, p5, p5', e5, nn5, hpv5, s31, sx, -, s4, s5, s6, s7, s8, s9, s10, s11, s12, s13⟩ | ⟨hwr, hbb⟩
      · refine ai_zt ?_
        have hy1 : 350 * hf + nn4 < x5 := sx.1
        have hy2 : x5 ≤ 350 * hf + nn5 := sx.2
        obtain ⟨fT, fp, fpn, fC3, fmq, fsk, f8, f9, fnh, fsp, fsc, fnn⟩ := id hpv5
        obtain ⟨R6, hlm6, u1, u2, u3, u4, u5, u6, u7, u8, u9, u10, u11⟩ := less2_stop (z := z) (k := k + (2 + j3 + j5)) (b0 := 350 * hf + nn) (by omega) fmq (by omega) s31 (by omega) hy2 (by omega) (by omega) ⟨hx1, by omega, by omega⟩ (by omega)
        refine sp_cadd (e := e5) fC3 (by omega) ?_
        have hcE6 : cE C5 (cadd C5 e5 22 0 0) e5 := cE.rf.add (Nat.le_refl _) _ _ _
        have hmE6 : mE R R6 (350 * hf + nn) (350 * hf + 350) := (((((hmE1 _ _).tr r11 (Nat.le_refl _)).tr q7 (Nat.le_refl _)).tr s11 (by omega)).tr u8 (Nat.le_refl _))
        have hxt : tn R6 tx n p p5 nd2 := by
          refine ⟨fun h => ?_, fun g1 g2 g3 => ?_⟩
          · rw [u9 2 (by omega) (by omega) nd2 (by omega) (by omega) (by omega), s11.2.2.2 2 (by omega) (by omega) nd2 (Or.inl (by omega)), a3] at h
            exact absurd h (by decide)
          · rw [← (rt.1 (rt.2 g1 g2 g3)).2.2, ht] at g3
            exact absurd g3 (by decide)
        refine ⟨R6, 3 + j3 + j5, fun h => hlm15 (hlm6 (by rw [show k + (2 + j3 + j5) + 1 = k + (3 + j3 + j5) by omega]; exact h)), Or.inl ⟨rfl, nd2, p5, px_s tx n p5', e5 + 1, nn5, ?_, u3, ⟨by omega, by omega⟩, hxt, ?_, by omega, by omega, by omega, by omega, by omega, by omega, hmE6, (((hcE1.tr r12 (Nat.le_refl _)).tr hcE4 (by omega)).tr s12 (by omega)).tr hcE6 (by omega), fun hN => ?_⟩⟩
        · refine pv_ofb hpv5 hsc hcE6 u8 (by simp [cadd, ai_up_eq]; exact fp) fpn (by simp [cadd, ai_up_eq]) u2 (px_s_le tx fmq.2.2.1) (by rw [u4]; exact fmq.2.2.2.2.2.1) u1 u5 (by rw [px_s_s]; exact fsk) ?_ ?_ (Nat.le_refl _) fnn
          · rw [u7]; simp [cadd, ai_up_eq]; exact f9
          · rw [u6]; simp only [cadd, ai_up_eq]; simpa using fnh
        · rw [u9 4 (by omega) (by omega) nd2 (by omega) (by omega) (by omega), s11.2.2.2 4 (by omega) (by omega) nd2 (Or.inl (by omega))]; exact a5
        · have n5 : C5 2 5 = 1 := by simpa [cadd, ai_up_eq] using hN
          obtain ⟨n4, kE5⟩ := s13 n5
          have n3 : C3 2 5 = 1 := by simpa [cadd, ai_up_eq] using n4
          obtain ⟨n1, kE3⟩ := r13 n3
          rw [c25] at n1
          refine ⟨n1, ⟨by omega, by omega⟩, by omega, Or.inr (Or.inr (Or.inr (Or.inl ⟨Or.inl ?_, x3, x5, e3, ?_, ?_, u11, Or.inr ⟨by omega, ?_, e5, 0, 3, ?_, ?_, u10, by omega, ?_, Or.inl ⟨rfl, rfl⟩⟩⟩)))⟩
          · rw [u9 2 (by omega) (by omega) nd2 (by omega) (by omega) (by omega), s11.2.2.2 2 (by omega) (by omega) nd2 (Or.inl (by omega))]; exact a3
          · rw [u9 3 (by omega) (by omega) nd2 (by omega) (by omega) (by omega), s11.2.2.2 3 (by omega) (by omega) nd2 (Or.inl (by omega))]; exact a4
          · have k3 : ∀ i, i < e3 → ∀ j, j < 3 → cd (cadd C5 e5 22 0 0) j i = cd C3 j i := fun i hi j hj => by
              rw [cd_cadd hj (by omega), show cd C5 j i = cd (cadd (ai_up C3 2 2 (nI (px_s tx n p3 + 1))) e3 18 0 0) j i from s12.2.2.2 (27 + j) (by omega) (by omega) i (by omega), cd_cadd hj (by omega)]
              exact ai_up_n (by omega)
            have fr : ∀ q, 2 ≤ q → q ≤ 8 → ∀ i, i ≤ 350 * hf + nn3 → ¬ (q = 8 ∧ i = x3) → ¬ (q = 4 ∧ i = x3) → ¬ (q = 4 ∧ i = 0) → R6 q i = R3 q i := fun q a c i hi h1 h2 h3 => by
              rw [u9 q a c i (by omega) (by omega) (by omega), s11.2.2.2 q a c i (Or.inl (by omega))]
              exact q8 q a c i hi h1 (by omega)
            refine cx_E_mono (e0 := e) (e1 := e3) (((q7.tr s11 (by omega)).tr u8 (Nat.le_refl _)).ag hsc) (fun j hj i _ hi => k3 i hi j hj) F F _ _ x3 e e3 (Nat.le_refl _) (fun i hi => ⟨⟨hi.1, ?_⟩, ?_⟩) (fun i hi => ?_) (fun i hi hne => ?_) (Nat.le_refl _) (Nat.le_refl _) kE3
            · have := hi.2; omega
            · have := hi.2; omega
            · have h1 := hi.1
              have h2 := hi.2
              exact ⟨fr 2 (by omega) (by omega) i h2 (by omega) (by omega) (by omega), fr 3 (by omega) (by omega) i h2 (by omega) (by omega) (by omega), fr 5 (by omega) (by omega) i h2 (by omega) (by omega) (by omega), fr 6 (by omega) (by omega) i h2 (by omega) (by omega) (by omega), fr 7 (by omega) (by omega) i h2 (by omega) (by omega) (by omega)⟩
            · have h1 := hi.1
              have h2 := hi.2
              exact ⟨fr 4 (by omega) (by omega) i h2 (by omega) (by omega) (by omega), fr 8 (by omega) (by omega) i h2 (by omega) (by omega) (by omega)⟩
          · rw [cd_cadd (by omega) (by omega), show cd C5 0 e3 = cd (cadd (ai_up C3 2 2 (nI (px_s tx n p3 + 1))) e3 18 0 0) 0 e3 from s12.2.2.2 27 (by omega) (by omega) e3 (by omega), cd_cadd0]
          · have fr : ∀ q, 2 ≤ q → q ≤ 8 → ∀ i, i ≤ 350 * hf + nn5 → ¬ (q = 8 ∧ i = x5) → ¬ (q = 4 ∧ i = x3) → R6 q i = R5 q i := u9
            refine cx_E_mono (e0 := e3 + 1) (e1 := e5) (u8.ag hsc) (fun j hj i _ hi => cd_cadd hj (by omega)) F F _ _ x5 (e3 + 1) e5 (Nat.le_refl _) (fun i hi => ⟨⟨?_, ?_⟩, ?_⟩) (fun i hi => ?_) (fun i hi hne => ?_) (Nat.le_refl _) (Nat.le_refl _) kE5
            · have := hi.1; omega
            · have := hi.2; omega
            · have := hi.1; omega
            · have h1 := hi.1
              have h2 := hi.2
              exact ⟨fr 2 (by omega) (by omega) i h2 (by omega) (by omega), fr 3 (by omega) (by omega) i h2 (by omega) (by omega), fr 5 (by omega) (by omega) i h2 (by omega) (by omega), fr 6 (by omega) (by omega) i h2 (by omega) (by omega), fr 7 (by omega) (by omega) i h2 (by omega) (by omega)⟩
            · have h1 := hi.1
              have h2 := hi.2
              exact ⟨fr 4 (by omega) (by omega) i h2 (by omega) (by omega), fr 8 (by omega) (by omega) i h2 (by omega) (by omega)⟩
          · rw [u9 4 (by omega) (by omega) x5 hy2 (by omega) (by omega)]; exact s4
          · rw [cd_cadd0]; rfl
      · rcases hbb with rfl | hpg
        · exact ai_zf ⟨R5, 2 + j3 + j5, hlm15, Or.inr ⟨hwr, Or.inl rfl⟩⟩
        · refine ⟨fun _ => pg_add (q0 := 2) hpg (fun C4 hpg4 _ => ⟨R5, 2 + j3 + j5, hlm15, Or.inr ⟨hwr, Or.inr (hpg4.le (by omega) (by omega))⟩⟩), fun _ => ⟨R5, 2 + j3 + j5, hlm15, Or.inr ⟨hwr, Or.inl rfl⟩⟩⟩
    · -- a sum alone
      have hy : ¬ px_c tx n (-1) (px_s tx n p3') = 60 := by rw [← gsk]; exact fun h => hf0 ((px_cc (by decide) (by decide)).mpr h)
      obtain ⟨R4, x, hlm4, q1, q2, q3, q4, q5, q6, q7, q8, q9, q10⟩ := less_stop (z := z) (k := k + (1 + j3)) (b0 := 350 * hf + nn) (by omega) gmq (by omega) r31 hx1 hx2 (by omega) (fun _ => rfl) (fun h => absurd rfl h) (by omega) hy
      rw [← gsk] at q2
      obtain ⟨a1, a2, a3, a4⟩ : 0 = 0 ∧ x = x3 ∧ R4 8 x3 = R3 8 x3 ∧ R4 4 x3 = R3 4 x3 := by
        rcases q10 with h | h
        · exact h
        · exact absurd rfl h.1
      subst a2
      refine ⟨R4, 2 + j3, fun h => hlm13 (hlm4 (by rw [show k + (1 + j3) + 1 = k + (2 + j3) by omega]; exact h)), Or.inl ⟨rfl, x, px_s tx n p3, px_s tx n p3, e3, nn3, ?_, q3, ⟨hx1, hx2⟩, ⟨fun h => by rw [q9 2 (by omega) (by omega) x hx2 (by omega) (by omega)] at h; obtain ⟨g1, g2, g3⟩ := rt.1 h; exact ⟨g1, g2, by rw [px_s_s]; exact g3⟩, fun g1 g2 g3 => by rw [q9 2 (by omega) (by omega) x hx2 (by omega) (by omega)]; exact rt.2 g1 g2 g3⟩, by rw [a4]; exact r4, by omega, by omega, by omega, by omega, by omega, by omega, ((hmE1 _ _).tr r11 (Nat.le_refl _)).tr q8 (Nat.le_refl _), (hcE1.tr r12 (Nat.le_refl _)).tr (cE.rf.u2 (e := e3) 2 _ (by omega)) (by omega), fun hN => ?_⟩⟩
      · refine pv_ofb hpv3 hsc (cE.rf.u2 2 _ (by omega)) q8 ai_up_s hskn (by rw [ai_up_n (by omega)]; exact gC3) q2 hskn (by rw [q4]; exact gmq.2.2.2.2.2.1) q1 q5 rfl ?_ ?_ (Nat.le_refl _) gnn
        · rw [q7, ai_up_n (by omega)]; exact g9
        · rw [q6, ai_up_n (by omega)]; exact gnh
      · have n3 : C3 2 5 = 1 := by rw [ai_up_n (by omega)] at hN; exact hN
        obtain ⟨n1, kE3⟩ := r13 n3
        rw [c25] at n1
        refine ⟨n1, ?_⟩
        refine cx_E_mono (e0 := e) (e1 := e3) (q8.ag hsc) (fun j hj i _ hi => ai_up_n (by omega)) F (F + 1) _ _ x e e3 (by omega) (fun i hi => hi) (fun i hi => ?_) (fun i hi hne => ?_) (Nat.le_refl _) (Nat.le_refl _) kE3
        · have h1 := hi.1
          have h2 := hi.2
          exact ⟨q9 2 (by omega) (by omega) i h2 (by omega) (by omega), q9 3 (by omega) (by omega) i h2 (by omega) (by omega), q9 5 (by omega) (by omega) i h2 (by omega) (by omega), q9 6 (by omega) (by omega) i h2 (by omega) (by omega), q9 7 (by omega) (by omega) i h2 (by omega) (by omega)⟩
        · have h1 := hi.1
          have h2 := hi.2
          exact ⟨q9 4 (by omega) (by omega) i h2 (by omega) (by omega), q9 8 (by omega) (by omega) i h2 (by omega) (by omega)⟩
  · rcases hbb with rfl | hpg
    · exact ai_zf ⟨R3, 1 + j3, hlm13, Or.inr ⟨hwr, Or.inl rfl⟩⟩
    · exact ⟨fun _ => pg_take hV0 hpg (by decide) (fun h => ai_zf ⟨R3, 1 + j3, hlm13, Or.inr ⟨hwr, Or.inr (h.le (by omega) (by omega))⟩⟩), fun _ => ⟨R3, 1 + j3, hlm13, Or.inr ⟨hwr, Or.inl rfl⟩⟩⟩
end SEY
