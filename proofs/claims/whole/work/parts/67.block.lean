/-! ===== a block, simulated ===== -/
section SBK
variable {l : Launch} {D : va_G} {ρ : Nat → Nat} {τ : Nat → ClassId} {z : lm_T} {V : ai_V} {tx : Nat → Int32} {n hf : Nat} {sc : sc_T} {SC : Nat → sc_T} {m ns pr vr d dp K : Nat} {C R : ai_S} {p p' e nn k : Nat} {stk : List mf_T}
set_option maxHeartbeats 8000000 in
theorem sim_blk (hV0 : hV ρ V tx n) (hV3 : V 2 3 = .ref 26) (hdp : dp ≤ 10) (hK : K ≤ 10) (hS1 : sS l D ρ τ z V tx n hf (d + 3) (dp + 1) K) (hS2 : sS l D ρ τ z V tx n hf (d + 5) (dp + 1) K) (hpv : pv C R tx n hf sc SC m ns pr vr p p' e nn ((10, 0, dp, 0, 0) :: stk)) (hscw : scw SC pr hf nn) (hsl : sc.length + 2 ≤ 2 * dp) (hcl : sc_cl sc + 1 ≤ dp ∧ slo hf sc) (hst : stk.length + 1 ≤ dp) (he : 2 * e ≤ 3 * p) (hnn : nn ≤ p) (hk : k + 12 * (n - p) + 50 ≤ 100000) (hc : px_c tx n 0 (px_s tx n p) = 123) :
    ai_met (uC l D ρ τ) (d + 6) mX3_block [.ref 2, .int (nI dp)] (oC C dp (px_s tx n p + 1)) V (ai_qz V (pS z C R tx n hf sc SC m ns pr vr p e nn stk (K + 1) k)) := by
  obtain ⟨hT, hp, hpn, hC3, hmq, hsk, h8, h9, hnh, hsp, hsc, hnn3⟩ := id hpv
  have hn320 : n ≤ 320 := hT.2.1
  obtain ⟨hmT, m2, mpn, m14, mhf, m15, hmf, m19⟩ := id hmq
  obtain ⟨⟨t13, t14, t15, t16, t17⟩, hml, h30⟩ := mf_top hmf
  dsimp only at t13 t14 t15 t16 t17
  obtain ⟨hw1, hw2⟩ := sp_w hsp
  obtain ⟨s1, s2, s3, s4, s5, s6, s7, s8, s9, s10, s11, s12, s13, s14, s15, s15a, s15b, s16, s17, s18⟩ := id hsp
  have hlt : px_s tx n p < n := px_lt hc (by decide)
  have hskp := px_s_ge tx n p
  have hc' : px_c tx n (-1) (px_s tx n p') = 123 := by rw [← hsk]; exact (px_cc (by decide) (by decide)).mp hc
  obtain ⟨p3, hp3⟩ : ∃ p3, p3 = px_s tx n p + 1 := ⟨_, rfl⟩
  have hp3' : px_s tx n p' + 1 = p3 := by rw [hp3, hsk]
  rw [← hp3]
  have hpv0 := pv_open (dp := dp) (q := p3) (q' := p3) hpv (by omega) (by omega) rfl
  obtain ⟨-, -, -, o26, omq, -, -, o9, onh, osp, osc, -⟩ := id hpv0
  refine vX3_block hV3 ?_
  rw [show oC C dp p3 3 7 = nI ns by rw [oC_o (by omega) (by omega)]; exact s5, show oC C dp p3 3 4 = nI m by rw [oC_o (by omega) (by omega)]; exact s1]
  refine sp_cadd (e := e) o26 (by omega) ?_
  obtain ⟨Cu, hCu⟩ : ∃ Cu, Cu = cadd (oC C dp p3) e 2 (nI ns) 0 := ⟨_, rfl⟩
  have u1 : cE (oC C dp p3) Cu e := by rw [hCu]; exact cE.rf.add (Nat.le_refl _) _ _ _
  have cu0 : cd Cu 0 e = 2 ∧ cd Cu 1 e = nI ns := by rw [hCu]; exact ⟨cd_cadd0, cd_cadd1⟩
  rw [← hCu]
  have oC25 : Cu 2 5 = C 2 5 := by rw [hCu]; unfold cadd; rw [ai_up_n (by omega), ai_up_n (by omega), ai_up_n (by omega), ai_up_n (by omega), oC_o (by omega) (by omega)]
  obtain ⟨R1, hR1⟩ : ∃ R1, R1 = ai_up (ai_up (ai_up (mfresh (oR R dp p3) (350 * hf + nn + 1) 6) 14 stk.length (nI (350 * hf + nn + 1))) 0 37 (nI (sc.length + 1))) 13 stk.length 19 := ⟨_, rfl⟩
  obtain ⟨RA, hRA⟩ : ∃ RA, RA = ai_up (ai_up (mfresh (oR R dp p3) (350 * hf + nn + 1) 6) 14 stk.length (nI (350 * hf + nn + 1))) 13 stk.length 19 := ⟨_, rfl⟩
  have hR1A : R1 = ai_up RA 0 37 (nI (sc.length + 1)) := by rw [hR1, hRA, ai_up_comm (by omega)]
  have r1A : ∀ q i, ¬ (q = 0 ∧ i = 37) → R1 q i = RA q i := fun q i h => by rw [hR1A, ai_up_n (by omega)]
  have hlm1 : lm z R1 (k + 1) → lm z R k := fun h => rd_st (by omega) hmq (by omega) (os_blk (d := z.2.2.2.2.1 + 5) (by omega) hmT m2 mpn t15 hdp m15 (by omega) hc' (by rw [hp3', s4, nI_1, ← hR1]; exact h))
  have oEA : mE (oR R dp p3) RA (350 * hf + nn) (350 * hf + 350) := by
    rw [hRA]
    exact ((mE.rf.fresh _ _ (by omega) (by omega)).uF 14 _ _ (by omega) (by omega)).uF 13 _ _ (by omega) (by omega)
  have hpvA : pv Cu RA tx n hf sc SC m ns pr vr p3 p3 (e + 1) (nn + 1) ((19, 350 * hf + nn + 1, dp, 0, 0) :: stk) := by
    refine pv_of hpv0 u1 oEA (by rw [hCu]; simp [cadd, ai_up_eq]; exact oC_2) (by omega) (by rw [hCu]; simp [cadd, ai_up_eq]) (by rw [hRA]; simp [mfresh, ai_up_eq]; exact oR_2) (by omega) (by rw [hRA]; simp [mfresh, ai_up_eq]; rfl) ?_ (by rw [hRA]; simp [mfresh, ai_up_eq]; exact omq.2.2.2.2.2.2.2) rfl (by rw [hCu, hRA]; simp [cadd, mfresh, ai_up_eq]; exact o9) (by rw [hCu, hRA]; simp only [cadd, mfresh, ai_up_eq]; simpa using onh) (by omega) (by omega)
    rw [hRA]
    refine ⟨?_, mf_at_of ?_ ?_ ?_ ?_ ?_, ?_⟩
    · simp [mfresh, ai_up_eq]; rw [oR_o (by omega)]; exact h30
    · rw [ai_up_s]; rfl
    · rw [ai_up_n (by omega), ai_up_s]
    · simp [mfresh, ai_up_eq]; rw [oR_o (by omega)]; exact t15
    · simp [mfresh, ai_up_eq]; rw [oR_o (by omega)]; exact t16
    · simp [mfresh, ai_up_eq]; rw [oR_o (by omega)]; exact t17
    · exact mf_l_o (mf_l_o (mf_l_fresh (mf_l_keep stk (fun q h1 h2 i hi => oR_o (by omega)) hml) _ _) 14 _ _ (by omega)) 13 _ _ (by omega)
  have a5 : RA 5 (350 * hf + nn + 1) = nI 0 := by rw [hRA]; simp [mfresh, ai_up_eq]; rfl
  have a2 : RA 2 (350 * hf + nn + 1) = 6 := by rw [hRA]; simp [mfresh, ai_up_eq]
  have a3 : RA 3 (350 * hf + nn + 1) = nI 0 := by rw [hRA]; simp [mfresh, ai_up_eq]; rfl
  have a4 : RA 4 (350 * hf + nn + 1) = nI 0 := by rw [hRA]; simp [mfresh, ai_up_eq]; rfl
  have aR : ∀ q i, ¬ q = 0 → i ≤ 350 * hf + nn ∨ q = 10 ∨ q = 11 ∨ 18 ≤ q → ¬ (q = 14 ∨ q = 13) → RA q i = R q i := fun q i h0 h1 h2 => by
    rw [hRA]; unfold mfresh
    rw [ai_up_n (by omega), ai_up_n (by omega), ai_up_n (by omega), ai_up_n (by omega), ai_up_n (by omega), ai_up_n (by omega), ai_up_n (by omega), ai_up_n (by omega), oR_o (by omega)]
  have hscl : sc_cl ((0, ns, 350 * hf + nn + 1) :: sc) = sc_cl sc := by simp [sc_cl]
  have hpv1 : pv Cu R1 tx n hf ((0, ns, 350 * hf + nn + 1) :: sc) SC m ns pr vr p3 p3 (e + 1) (nn + 1) ((19, 350 * hf + nn + 1, dp, 0, 0) :: stk) := by
    obtain ⟨f1, f2, f3, f4, ⟨fT, f5, f6, f7, f8, f9, f10, f11⟩, f12, f13, f14, f15, f16, f17, f18⟩ := hpvA
    refine ⟨f1, f2, f3, f4, ⟨⟨by rw [r1A _ _ (by omega)]; exact fT.1, fT.2.1, fun i hi => by rw [r1A _ _ (by omega)]; exact fT.2.2 i hi⟩, by rw [r1A _ _ (by omega)]; exact f5, f6, by rw [r1A _ _ (by omega)]; exact f7, ⟨f8.1, by rw [hR1A]; exact f8.2.u (by omega)⟩, by rw [r1A _ _ (by omega)]; exact f9, ⟨by rw [r1A _ _ (by omega)]; exact f10.1, mf_l_keep _ (fun q h1 h2 i hi => r1A _ _ (by omega)) f10.2⟩, by rw [r1A _ _ (by omega)]; exact f11⟩, f12, by rw [r1A _ _ (by omega)]; exact f13, by rw [r1A _ _ (by omega)]; exact f14, by rw [r1A _ _ (by omega)]; exact f15, ?_, fun x hx h0 => ?_, f18⟩
    · obtain ⟨v1, v2, v3, v4, v5, -⟩ := id f16
      exact sp_push_sc f16 (by omega) (by rw [hscl]; omega) rfl (by rw [hscl]; exact v3) v5 rfl rfl (r1A _ _ (by omega)) (by rw [hR1A, ai_up_s]) (r1A _ _ (by omega)) (r1A _ _ (by omega)) (fun _ _ _ => rfl) (fun _ _ => rfl) (fun x _ _ => r1A _ _ (by omega)) (fun x _ _ => ⟨r1A _ _ (by omega), r1A _ _ (by omega)⟩) (fun q a b => by funext i; exact r1A _ _ (by omega)) s13 s14 (sp_tpB.mpr ⟨0, by rw [r1A _ _ (by omega)]; exact a5, by omega⟩) (fun h => absurd rfl h)
    · rcases List.mem_cons.mp hx with rfl | hx
      · show 350 * hf + nn + 1 ≤ _; omega
      · exact f17 x hx h0
  have h1F : R1 13 stk.length = nI 19 := by rw [hR1, ai_up_s]; rfl
  have h1D : R1 15 stk.length = nI dp := by rw [r1A _ _ (by omega)]; exact (mf_top hpvA.2.2.2.2.1.2.2.2.2.2.2.1).1.2.2.1
  have h130 : R1 0 30 = nI (stk.length + 1) := by rw [r1A _ _ (by omega)]; exact (mf_top hpvA.2.2.2.2.1.2.2.2.2.2.2.1).2.2
  have h119 : R1 0 19 = 0 := hpv1.2.2.2.2.1.2.2.2.2.2.2.2
  have toL : bk z R1 (k + 1) stk.length (dp + 1) → lm z R k := fun h => hlm1 (bk_19 (by omega) h119 h130 (by omega) h1F h1D h)
  have mR1 : mS R R1 hf nn m pr := by
    rw [hR1A]
    exact ((oR_mS (hf := hf) (nn := nn) (m := m) (pr := pr)).tr (oEA.ms (Nat.le_refl _) (Nat.le_refl _)) (Nat.le_refl _) (Nat.le_refl _) (Nat.le_refl _)).u 0 37 _ (by omega)
  have cS1 : cS C Cu e pr := (oC_cS (e := e) (pr := pr)).tr u1.cs (Nat.le_refl _) (Nat.le_refl _)
  have l21 : ∀ i, i < m → ¬ R1 21 i = nI (sc.length + 1) := fun i hi => by
    obtain ⟨_, o, x, _, g3, _⟩ := s16 i hi
    rw [r1A _ _ (by omega), aR _ _ (by omega) (by omega) (by omega), g3, i_eq (by omega) (by omega)]; omega
  refine vX3_declarations hV3 ?_
  refine simD (K := K) (mk := m) (bs := ns) (nn0 := nn) hV0 hV3 hdp hK hS1 hst hsl hcl hsc s13 hn320 321 Cu R1 SC m ns pr vr p3 p3 (e + 1) (nn + 1) (k + 1) 0 0 _ (by omega) (by omega) hpv1 (hscw.le (by omega)) (Nat.le_refl _) (fun i a b => by omega) l21 (Nat.le_refl _) (by rw [Nat.sub_self, r1A _ _ (by omega)]; exact a5) (Nat.le_refl _) (by omega) (by omega) (by omega) (fun C2 h2 => ai_zt ?_) (fun C' hC' => ai_zf ?_)
  · obtain ⟨R2, j2, m1, ns1, p1, p1', e1, nn1, pr1, vr1, ex1, SC1, c1, c2, c3, c4, c5, c6, c7, c8, c9, c10, c11, c12, c13, c14, c15, c16, c17, c18, c19, c20, c21, c22, c23⟩ := h2
    obtain ⟨gT, gp, gpn, gC3, gmq, gsk, g8, g9, gnh, gsp, gsc, gnn⟩ := id c2
    obtain ⟨gmT, gm2, gmpn, gm14, gmhf, gm15, gmf, gm19⟩ := id gmq
    obtain ⟨gw1, gw2⟩ := sp_w gsp
    obtain ⟨q1, q2, q3, q4, q5, q6, q7, q8, q9, q10, q11, q12, q13, q14, -⟩ := id gsp
    rw [q5, pk_sub c15]
    refine sp_setS (e := e1) (a := e) gC3 (by omega) (by omega) ?_
    obtain ⟨C3, hC3'⟩ : ∃ C3, C3 = ai_up C2 29 e (nI (ns1 - ns)) := ⟨_, rfl⟩
    rw [← hC3']
    have c3o : ∀ {q i : Nat}, ¬ (q = 29 ∧ i = e) → C3 q i = C2 q i := fun h => by rw [hC3', ai_up_n (by omega)]
    have cE3 : cE C2 C3 e := ⟨fun q a b => by funext i; exact c3o (by omega), c3o (by omega), fun j _ _ => c3o (by omega), fun q a b i hi => c3o (by omega)⟩
    have hpv3 : pv C3 R2 tx n hf ((0, ns, 350 * hf + nn + 1) :: sc) SC1 m1 ns1 pr1 vr1 p1 p1' e1 nn1 ((19, 350 * hf + nn + 1, dp, 0, ex1) :: stk) :=
      pv_ofc c2 gsc cE3 (mE.rf (t := 0)) (by rw [c3o (by omega)]; exact gp) gpn (by rw [c3o (by omega)]; exact gC3) gm2 gmpn gm15 gmf gm19 gsk (by rw [c3o (by omega)]; exact g9) (by rw [c3o (by omega)]; exact gnh) (Nat.le_refl _) gnn
    have htp : sc_tp R2 sc ns := by
      refine sc_tp_mono (R := R) ?_ s15
      cases sc with
      | nil => trivial
      | cons x0 tl =>
        intro h0
        have := hsc x0 List.mem_cons_self h0
        rw [c16 5 (by omega) (by omega) _ (by omega) (by omega), r1A _ _ (by omega), aR _ _ (by omega) (by omega) (by omega)]
    have n2 : ∀ q, 2 ≤ q → q ≤ 8 → ¬ q = 5 → R2 q (350 * hf + nn + 1) = RA q (350 * hf + nn + 1) := fun q a b c' => by rw [c16 q a b _ (by omega) (by omega), r1A _ _ (by omega)]
    refine (simB (z := z) (d := d + 4) (K := K) hV0 hV3 hdp hS2 stk m ns nn hst hsl hcl hn320 hsc 320 C3 R2 SC1 m1 ns1 pr1 vr1 p1 p1' e1 nn1 (k + 1 + j2) 0 0 19 ex1 (by omega) (by omega) hpv3 (Or.inr ⟨rfl, c3, c4⟩) c21 c11 c12 c13 htp (fun _ => by rw [n2 3 (by omega) (by omega) (by omega)]; exact a3) (fun h => absurd rfl h) (by omega) (by omega) (by omega) (by omega)).mono ?_
    rintro rr C' V' ⟨h1, b, h2, R', jB, h3, h4⟩
    refine ⟨h1, b, h2, R', 1 + (j2 + jB), fun h => toL (c1 (h3 (by rw [show k + 1 + j2 + jB = k + (1 + (j2 + jB)) by omega]; exact h))), ?_⟩
    rcases h4 with ⟨hb, x, pE, pE', eE, nnE, nsE, prE, vrE, SCE, y1, y2, y3, y4, y5, y6, y7, y8, y9, y10, y11, y12, y13, y14, y15, y16, y17, y18, y19⟩ | h4
    · have A16 : ∀ q, 9 ≤ q → q ≤ 11 → ∀ i, i < 16 * hf + pr1 → R' q i = R2 q i := fun q a b i hi => y9.2.2.2.2.1 q a b i (Or.inl hi)
      have N16 : ∀ q, 2 ≤ q → q ≤ 8 → ∀ i', i' ≤ 350 * hf + nn1 → ¬ (q = 3 ∧ i' = 350 * hf + nn + 1) → R' q i' = R2 q i' := fun q a b i' hi' hne => y16 q a b i' hi' (fun h => hne ⟨h.1, h.2.1⟩) (fun h => h.2.2 rfl)
      have K16 : ∀ j, j < 3 → ∀ i, i < e1 → ¬ i = e → cd C' j i = cd C2 j i := fun j hj i hi hne => by
        rw [show cd C' j i = cd C3 j i from y10.2.2.1 (27 + j) (by omega) (by omega) i hi]
        exact c3o (by omega)
      have Ke : ∀ j, j < 3 → cd C' j e = cd C3 j e := fun j hj => y10.2.2.1 (27 + j) (by omega) (by omega) e (by omega)
      have K2e : ∀ j, j < 2 → cd C' j e = cd Cu j e := fun j hj => by
        rw [Ke j (by omega), show cd C3 j e = cd C2 j e from c3o (by omega)]
        exact c18.2.2.1 (27 + j) (by omega) (by omega) e (by omega)
      have eEl : eE < 2 ^ 31 := by have := y1.2.2.1; omega
      refine Or.inl ⟨hb, 350 * hf + nn + 1, pE, pE', eE, nnE, nsE, prE, vrE, SCE, y1, y2, ⟨by omega, by omega⟩, ?_, by omega, by omega, by omega, by omega, by omega, by omega, (mR1.tr c17 (Nat.le_refl _) (Nat.le_refl _) (Nat.le_refl _)).tr y9 (Nat.le_refl _) (Nat.le_refl _) c19, ?_, by omega, by omega, y13, y14, fun q hq => (y15 q (by omega)).trans (c22 q hq), fun hN => ?_⟩
      · rw [N16 4 (by omega) (by omega) _ (by omega) (by omega), n2 4 (by omega) (by omega) (by omega)]; exact a4
      · have w1 := cS1.tr c18 (by omega) (Nat.le_refl _)
        have w2 : cS C C3 e pr := by rw [hC3']; exact w1.u 29 e _ (by omega)
        exact w2.tr y10 (by omega) c19
      · obtain ⟨n3, kL, kP1⟩ := y19 hN
        rw [c3o (by omega)] at n3
        obtain ⟨n2', kD, kP2⟩ := c23 n3
        have e5 : R' 5 (350 * hf + nn + 1) = nI (ns1 - ns) := by rw [N16 5 (by omega) (by omega) _ (by omega) (by omega)]; exact c14
        refine ⟨by rw [← oC25]; exact n2', ⟨⟨by omega, by omega⟩, by omega, Or.inr (Or.inr (Or.inr (Or.inr (Or.inr ⟨?_, ?_, ns, ns1 - ns, e1, x, ?_, e5, ?_, by omega, by omega, ?_, by omega, ?_, y17 rfl, ?_⟩))))⟩, ?_⟩
        · rw [N16 2 (by omega) (by omega) _ (by omega) (by omega), n2 2 (by omega) (by omega) (by omega)]; exact a2
        · rw [K2e 0 (by omega)]; exact cu0.1
        · rw [K2e 1 (by omega)]; exact cu0.2
        · rw [Ke 2 (by omega)]; show C3 29 e = _; rw [hC3', ai_up_s]
        · refine sc_tp_mono (R := R2) ?_ htp
          cases sc with
          | nil => trivial
          | cons x0 tl => exact fun h0 => N16 5 (by omega) (by omega) _ (by have := hsc x0 List.mem_cons_self h0; omega) (by omega)
        · exact cx_dj_mono (e0 := e + 1) (e1 := e1) (fun q hq i h1 h2 => K16 q hq i h2 (by omega)) _ _ _ _ (by omega) (Nat.le_refl _) (Nat.le_refl _) kD
        · refine cx_sl_mono (e0 := e1) (e1 := eE) (fun _ _ _ hx => cx_S_lt hx) (fun x a b _ _ hx => ⟨?_, rfl⟩) _ _ _ _ _ (Nat.le_refl _) (Nat.le_refl _) (Nat.le_refl _) kL
          exact cx_S_lift hx (fun _ _ _ _ _ => rfl) sc_ag.rf (sc_hd_of (fun _ => rfl) _) (fun _ _ _ _ _ _ _ => rfl) (Nat.le_refl _) (fun i hi => ⟨⟨by have := hi.1; omega, hi.2⟩, by have := hi.1; omega⟩)
        · intro q h1 h2
          by_cases hq6 : q < pr1
          · refine pf_lift (pr := pr) (pr1 := pr1) kP2 (by omega) (fun j hj i h1 h2 => K16 j hj i h2 (by omega)) (fun j h1 h2 q _ h3 => by rw [y10.2.2.2 j h1 h2 q h3]; exact c3o (by omega)) (fun j h1 h2 q _ h3 => A16 j h1 h2 _ (by omega)) (fun q h1 h2 => ag_of (nn := nn1) (pr := pr1) ?_ (fun i hi => N16 5 (by omega) (by omega) i hi (by omega)) (fun q hq i hi => A16 q (by omega) (by omega) i hi) y15 gw2) (fun q _ h2 => y15 q h2) (fun q' a b i' hi' hne => N16 q' a b i' hi'.2 (by omega)) (fun i' hi' hne => ⟨⟨by have := hi'.1; omega, by have := hi'.2; omega⟩, hne⟩) (by omega) (by omega) q h1 hq6
            intro x' hx'
            rcases List.mem_cons.mp hx' with rfl | hx'
            · exact ⟨fun h => absurd h (by simp), fun _ => by simp; omega⟩
            · exact (c21 q h2).1 x' hx'
          · exact pf_lift (pr := pr1) (pr1 := prE) kP1 eEl (fun _ _ _ _ _ => rfl) (fun _ _ _ _ _ _ => rfl) (fun _ _ _ _ _ _ => rfl) (fun _ _ _ => sc_ag.rf) (fun _ _ _ => rfl) (fun _ _ _ _ _ _ => rfl) (fun i' hi' hne => ⟨⟨by have := hi'.1; omega, hi'.2⟩, hne⟩) (by omega) (Nat.le_refl _) q (by omega) h2
    · exact Or.inr h4
  · obtain ⟨R', j, g1, g2⟩ := hC'
    exact ⟨R', 1 + j, fun h => toL (g2 (by rw [Nat.add_assoc]; exact h)), Or.inr ⟨g1, rfl⟩⟩
end SBK
