/-! ===== conditions ===== -/
section SCD
variable {l : Launch} {D : va_G} {ρ : Nat → Nat} {τ : Nat → ClassId} {z : lm_T} {V : ai_V} {tx : Nat → Int32} {n hf : Nat} {sc : sc_T} {SC : Nat → sc_T} {m ns pr vr d dp F : Nat} {C R : ai_S} {p p' e nn k K : Nat} {stk : List mf_T}
theorem on_14 {R : ai_S} {G : ai_S → Prop} {f nd x p cc hh : Nat} {t : Int32} (hgh : hh ≤ 1 ∧ gh tx hh R) (hr : 350 * hh < nd ∧ nd < 350 * hh + 350) (hf : f < 70) (h13 : R 13 f = nI 14) (h14 : R 14 f = nI nd) (hnd : nd < 700) (h15 : R 15 f = nI dp) (h16 : R 16 f = nI 0) (h30 : R 0 30 = nI (f + 1)) (hg : R 0 31 = nI x) (hT : mt_T R tx n) (hp : R 0 2 = nI p) (hpn : p ≤ n) (ht : R 2 nd = t) (htc : t = 4 ∧ cc = 15 ∨ t = 5 ∧ cc = 16)
    (hG : px_c tx n (-1) (px_s tx n p) = 41 → G (mpush (ai_up (ai_up (hook R f nd 0 x) 0 2 (nI (px_s tx n p + 1))) 13 f (nI cc)) (f + 1) 10 (nI (dp + 1)))) (hB : ¬ px_c tx n (-1) (px_s tx n p) = 41 → ∀ R' : ai_S, bd tx R' → G R') : ai_met (uM l D ρ τ) (d + 2) mX6_onward [.ref 0, .int (nI f)] R V (ai_qv V G) := by
  have H0 : ∀ q i, ¬ (q = 16 ∧ i = f) → ¬ (q = 3 ∧ i = nd) → hook R f nd 0 x q i = R q i := fun q i h1 h2 => hook_o h1 (by omega) (by omega)
  have HT : mt_T (hook R f nd 0 x) tx n := ⟨by rw [H0 _ _ (by omega) (by omega)]; exact hT.1, hT.2.1, fun i hi => by rw [H0 _ _ (by omega) (by omega)]; exact hT.2.2 i hi⟩
  refine vX6_onward ⟨i_in (by omega) (by omega), ?_⟩
  rw [nI_clamp (show f < 2 ^ 31 by omega), h13, h15, nI_1 dp]
  refine ⟨fun h => absurd h (by decide), fun h => absurd h (by decide), fun _ => ?_, fun h => absurd h (by decide), fun h => absurd h (by decide), fun h => absurd h (by decide), fun h => absurd (by decide) h.2.2.1⟩
  refine sp_hook (by omega) h16 (by omega) h14 hnd hg (sp_eat HT (by rw [H0 _ _ (by omega) (by omega)]; exact hp) hpn (fun h => ai_zt ?_) (fun h => ai_zf ?_))
  · rw [ai_up_n (by omega), H0 14 f (by omega) (by omega), h14, nI_clamp (show nd < 2 ^ 31 by omega), ai_up_n (by omega), H0 2 nd (by omega) (by omega), ht]
    refine ⟨i_in hnd (by omega), fun hne => ?_, fun he => ?_⟩
    · rcases htc with ⟨a, b⟩ | ⟨a, b⟩
      · exact absurd a hne
      · have := hG h
        rw [b] at this
        exact sp_push (f := f + 1) (by rw [ai_up_n (by omega), ai_up_n (by omega), H0 _ _ (by omega) (by omega)]; exact h30) (by omega) this
    · rcases htc with ⟨a, b⟩ | ⟨a, b⟩
      · have := hG h
        rw [b] at this
        exact sp_push (f := f + 1) (by rw [ai_up_n (by omega), ai_up_n (by omega), H0 _ _ (by omega) (by omega)]; exact h30) (by omega) this
      · rw [a] at he; exact absurd he (by decide)
  · rw [ai_up_n (by omega), H0 14 f (by omega) (by omega), h14]
    refine ⟨i_in hnd (by omega), fun _ => sp_push (f := f + 1) (by rw [ai_up_n (by omega), ai_up_n (by omega), ai_up_n (by omega), H0 _ _ (by omega) (by omega)]; exact h30) (by omega) (hB h _ (bd_of hgh (fun g => by unfold mpush; (repeat with_reducible refine gh.u ?_ (by omega)); exact g.hk hr (fun h => absurd rfl h)) (by simp [mpush, ai_up_eq]))), fun _ => sp_push (f := f + 1) (by rw [ai_up_n (by omega), ai_up_n (by omega), ai_up_n (by omega), H0 _ _ (by omega) (by omega)]; exact h30) (by omega) (hB h _ (bd_of hgh (fun g => by unfold mpush; (repeat with_reducible refine gh.u ?_ (by omega)); exact g.hk hr (fun h => absurd rfl h)) (by simp [mpush, ai_up_eq])))⟩
theorem on_15 {R : ai_S} {G : ai_S → Prop} {f nd x ls : Nat} (hf : f < 70) (h13 : R 13 f = nI 15) (h14 : R 14 f = nI nd) (hnd : nd < 700) (h15 : R 15 f = nI dp) (h16 : R 16 f = nI ls) (hl : ls < 700) (h30 : R 0 30 = nI (f + 1)) (hg : R 0 31 = nI x)
    (hG : G (mpush (ai_up (hook R f nd ls x) 13 f 16) (f + 1) 10 (nI (dp + 1)))) : ai_met (uM l D ρ τ) (d + 2) mX6_onward [.ref 0, .int (nI f)] R V (ai_qv V G) := by
  refine vX6_onward ⟨i_in (by omega) (by omega), ?_⟩
  rw [nI_clamp (show f < 2 ^ 31 by omega), h13, h15, nI_1 dp]
  refine ⟨fun h => absurd h (by decide), fun h => absurd h (by decide), fun h => absurd h (by decide), fun _ => ?_, fun h => absurd h (by decide), fun h => absurd h (by decide), fun h => absurd (by decide) h.2.2.2.1⟩
  exact sp_hook (by omega) h16 hl h14 hnd hg (sp_push (f := f + 1) (by rw [ai_up_n (by omega), hook_o (by omega) (by omega) (by omega)]; exact h30) (by omega) hG)
theorem on_16 {R : ai_S} {G : ai_S → Prop} {f nd x ls : Nat} (hf : f < 70) (h13 : R 13 f = nI 16) (h14 : R 14 f = nI nd) (hnd : nd < 700) (h16 : R 16 f = nI ls) (hl : ls < 700) (h30 : R 0 30 = nI (f + 1)) (hg : R 0 31 = nI x)
    (hG : G (ai_up (ai_up (hook R f nd ls x) 0 31 (nI nd)) 0 30 (nI f))) : ai_met (uM l D ρ τ) (d + 2) mX6_onward [.ref 0, .int (nI f)] R V (ai_qv V G) := by
  refine vX6_onward ⟨i_in (by omega) (by omega), ?_⟩
  rw [nI_clamp (show f < 2 ^ 31 by omega), h13]
  refine ⟨fun h => absurd h (by decide), fun h => absurd h (by decide), fun h => absurd h (by decide), fun h => absurd h (by decide), fun _ => ?_, fun h => absurd h (by decide), fun h => absurd (by decide) h.2.2.2.2.1⟩
  refine sp_hook (by omega) h16 hl h14 hnd hg ?_
  rw [hook_o (by omega) (by omega) (by omega), h14]
  exact sp_done (by rw [hook_o (by omega) (by omega) (by omega)]; exact h30) hG
/-- behind the condition -/
def pC (z : lm_T) (C R C5 R5 : ai_S) (tx : Nat → Int32) (n hf : Nat) (sc : sc_T) (SC : Nat → sc_T) (m ns pr vr dp p e nn : Nat) (stk : List mf_T) (k cc : Nat) (t : Int32) (p5 e2 nn2 x j : Nat) : Prop :=
  (lm z R5 (k + j) → lm z R k) ∧ (∃ p5' : Nat, pv C5 R5 tx n hf sc SC m ns pr vr p5 p5' (e2 + 1) nn2 ((10, 0, dp + 1, 0, 0) :: (cc, 350 * hf + nn + 1, dp, x, 0) :: stk)) ∧ mS R R5 hf nn m pr ∧ cS C C5 e pr ∧ R5 2 (350 * hf + nn + 1) = t ∧ R5 3 (350 * hf + nn + 1) = nI x ∧ R5 4 (350 * hf + nn + 1) = nI 0 ∧ R5 4 x = nI 0 ∧ nr hf (nn + 1) nn2 x ∧ p + 4 ≤ p5 ∧ p5 ≤ n ∧ 2 * (e2 + 1) + 3 * p + 6 ≤ 3 * p5 + 2 * e ∧ nn2 + p + 2 ≤ nn + p5 ∧ nn + 1 ≤ nn2 ∧ nn2 ≤ 330 ∧ e + 1 < e2 ∧ j + 30 + 12 * p ≤ 12 * p5 ∧
    (C5 2 5 = 1 → C 2 5 = 1 ∧ cd C5 0 e = 1 ∧ cx_E (cd C5) R5 (16 * hf) SC sc 50 (nr hf (nn + 1) nn2) x (e + 1) e2 ∧ cd C5 0 e2 = 4)
set_option maxHeartbeats 8000000 in
theorem st_14 {H : Int32 → ai_S → Prop} {cc : Nat} {t ch : Int32} (hV0 : hV ρ V tx n) (hdp : dp ≤ 10) (hE : sF l D ρ τ z V tx n hf sc SC m ns pr vr (d + 1) (dp + 1) F 0 0 mX3_expression 30) (hF : F ≤ 50) (hpv : pv C R tx n hf sc SC m ns pr vr p p' e nn ((10, 0, dp, 0, 0) :: stk)) (hst : stk.length + 1 ≤ dp) (he : 2 * e ≤ 3 * p) (hnn : nn ≤ p) (hk : k + 12 * (n - p) + 50 ≤ 100000) (hc : px_c tx n 0 (px_s tx n p) = ch) (hch : ch = 63 ∧ t = 4 ∧ cc = 15 ∨ ch = 42 ∧ t = 5 ∧ cc = 16)
    (hH : ∀ (C5 R5 : ai_S) (p5 e2 nn2 x j : Nat), pC z C R C5 R5 tx n hf sc SC m ns pr vr dp p e nn stk k cc t p5 e2 nn2 x j → H (nI e2) C5) :
    ai_met (uC l D ρ τ) (d + 1) mX3_take [.ref 2, .int 40] (cadd (oC C dp (px_s tx n p + 1)) e 1 0 0) V (ai_qz V (fun b3 S4 => (b3 = true → ai_met (uC l D ρ τ) (d + 1) mX3_expression [.ref 2, .int (nI (dp + 1))] S4 V (ai_qz V (fun b5 S6 => (b5 = true → ai_met (uC l D ρ τ) (d + 1) mX3_take [.ref 2, .int 41] S6 V (ai_qz V (fun b7 S8 => (b7 = true → ai_met (uC l D ρ τ) (d + 1) mX2_add [.ref 26, .int 4, .int 0, .int 0] S8 V (ai_qi V (fun x9 S10 => H x9 S10))) ∧ (b7 = false → pS z C R tx n hf sc SC m ns pr vr p e nn stk K k false S8)))) ∧ (b5 = false → pS z C R tx n hf sc SC m ns pr vr p e nn stk K k false S6)))) ∧ (b3 = false → pS z C R tx n hf sc SC m ns pr vr p e nn stk K k false S4))) := by
  obtain ⟨hT, hp, hpn, hC3, hmq, hsk, h8, h9, hnh, hsp, hsc, hnn3⟩ := id hpv
  have hn320 : n ≤ 320 := hT.2.1
  obtain ⟨hmT, m2, mpn, m14, mhf, m15, hmf, m19⟩ := id hmq
  obtain ⟨⟨t13, t14, t15, t16, t17⟩, hml, h30⟩ := mf_top hmf
  dsimp only at t13 t14 t15 t16 t17
  have hc0 : ch ≠ 0 ∧ ch ≠ -1 := by
    rcases hch with ⟨h, -⟩ | ⟨h, -⟩ <;> rw [h] <;> decide
  have hlt : px_s tx n p < n := px_lt hc hc0.1
  have hskp := px_s_ge tx n p
  have hc' : px_c tx n (-1) (px_s tx n p') = ch := by rw [← hsk]; exact (px_cc hc0.1 hc0.2).mp hc
  have hcc : px_c tx n (-1) (px_s tx n p') = 63 ∧ t = 4 ∨ px_c tx n (-1) (px_s tx n p') = 42 ∧ t = 5 := by
    rcases hch with ⟨h1, h2, -⟩ | ⟨h1, h2, -⟩
    · exact Or.inl ⟨hc'.trans h1, h2⟩
    · exact Or.inr ⟨hc'.trans h1, h2⟩
  have htc : t = 4 ∧ cc = 15 ∨ t = 5 ∧ cc = 16 := by
    rcases hch with ⟨-, h2, h3⟩ | ⟨-, h2, h3⟩
    · exact Or.inl ⟨h2, h3⟩
    · exact Or.inr ⟨h2, h3⟩
  have hsk3 := px_s_ge tx n (px_s tx n p + 1)
  have oT : ct_T (cadd (oC C dp (px_s tx n p + 1)) e 1 0 0) tx n := by
    refine ct_of (e := e) ?_ (cE.rf.add (Nat.le_refl _) _ _ _)
    exact ⟨by rw [oC_o (by omega) (by omega)]; exact hT.1, hT.2.1, fun i hi => by rw [oC_o (by omega) (by omega)]; exact hT.2.2 i hi⟩
  have orf : ∀ (G : ai_S → Prop), (∀ S, G S → lm z S (k + 1)) → (px_c tx n (-1) (px_s tx n (px_s tx n p' + 1)) = 40 → G (mpush (ai_up (ai_up (mfresh (oR R dp (px_s tx n (px_s tx n p' + 1) + 1)) (350 * hf + nn + 1) t) 14 stk.length (nI (350 * hf + nn + 1))) 13 stk.length 14) (stk.length + 1) 30 (nI (dp + 1)))) → (¬ px_c tx n (-1) (px_s tx n (px_s tx n p' + 1)) = 40 → ∀ R' : ai_S, bd tx R' → G R') → lm z R k := fun G hG hg1 hg2 =>
    rd_st (by omega) hmq (by omega) (os_cnd (d := z.2.2.2.2.1 + 5) mhf (by omega) (by omega) hmT m2 mpn t15 hdp m15 (by omega) h30 hcc (fun h => hG _ (hg1 h)) (fun h R' hR' => hG _ (hg2 h R' hR')))
  refine sp_take hV0 oT (by simp [cadd, ai_up_eq]; exact oC_2) hlt (fun h40 => ai_zt ?_) (fun h40 => ai_zf ?_)
  · have hlt3 : px_s tx n (px_s tx n p + 1) < n := px_lt h40 (by decide)
    have h40' : px_c tx n (-1) (px_s tx n (px_s tx n p' + 1)) = 40 := by rw [← hsk]; exact (px_cc (by decide) (by decide)).mp h40
    obtain ⟨p3, hp3⟩ : ∃ p3, p3 = px_s tx n (px_s tx n p + 1) + 1 := ⟨_, rfl⟩
    have hp3' : px_s tx n (px_s tx n p' + 1) + 1 = p3 := by rw [hp3, hsk]
    rw [← hp3]
    have hpv0 := pv_open (dp := dp) (q := p3) (q' := p3) hpv (by omega) (by omega) rfl
    obtain ⟨-, -, -, o26, omq, -, -, o9, onh, osp, osc, -⟩ := id hpv0
    obtain ⟨Cu, hCu⟩ : ∃ Cu, Cu = ai_up (cadd (oC C dp (px_s tx n p + 1)) e 1 0 0) 2 2 (nI p3) := ⟨_, rfl⟩
    have u1 : cE (oC C dp p3) Cu e := by
      have a1 : cE (oC C dp p3) (oC C dp (px_s tx n p + 1)) e := by have := (cE.rf (C := oC C dp p3) (e := e)).u2 2 (nI (px_s tx n p + 1)) (by omega); rw [oC_up] at this; exact this
      rw [hCu]
      exact (a1.add (Nat.le_refl _) _ _ _).u2 2 _ (by omega)
    rw [← hCu]
    obtain ⟨R1, hR1⟩ : ∃ R1, R1 = mpush (ai_up (ai_up (mfresh (oR R dp p3) (350 * hf + nn + 1) t) 14 stk.length (nI (350 * hf + nn + 1))) 13 stk.length 14) (stk.length + 1) 30 (nI (dp + 1)) := ⟨_, rfl⟩
    have hlm1 : lm z R1 (k + 1) → lm z R k := fun h => orf (fun S => S = R1) (fun S hS => by rw [hS]; exact h) (fun _ => by rw [hp3', ← hR1]) (fun h' => absurd h40' h')
    have oE1 : mE (oR R dp p3) R1 (350 * hf + nn) (350 * hf + 350) := by
      rw [hR1]
      exact (((mE.rf.fresh _ _ (by omega) (by omega)).uF 14 _ _ (by omega) (by omega)).uF 13 _ _ (by omega) (by omega)).push _ _ _
    have hpv1 : pv Cu R1 tx n hf sc SC m ns pr vr p3 p3 (e + 1) (nn + 1) ((30, 0, dp + 1, 0, 0) :: (14, 350 * hf + nn + 1, dp, 0, 0) :: stk) := by
      refine pv_of hpv0 u1 oE1 (by rw [hCu]; exact ai_up_s) (by omega) (by rw [hCu]; simp [cadd, ai_up_eq]) (by rw [hR1]; simp [mpush, mfresh, ai_up_eq]; exact oR_2) (by omega) (by rw [hR1]; simp [mpush, mfresh, ai_up_eq]; rfl) ?_ (by rw [hR1]; simp [mpush, mfresh, ai_up_eq]; exact omq.2.2.2.2.2.2.2) rfl ?_ ?_ (by omega) (by omega)
      · rw [hR1]
        refine mf_push (stk := (14, 350 * hf + nn + 1, dp, 0, 0) :: stk) ⟨mf_at_of ?_ ?_ ?_ ?_ ?_, ?_⟩ 30 (dp + 1)
        · rw [ai_up_s]; rfl
        · rw [ai_up_n (by omega), ai_up_s]
        · simp [mfresh, ai_up_eq]; rw [oR_o (by omega)]; exact t15
        · simp [mfresh, ai_up_eq]; rw [oR_o (by omega)]; exact t16
        · simp [mfresh, ai_up_eq]; rw [oR_o (by omega)]; exact t17
        · exact mf_l_o (mf_l_o (mf_l_fresh (mf_l_keep stk (fun q h1 h2 i hi => oR_o (by omega)) hml) _ _) 14 _ _ (by omega)) 13 _ _ (by omega)
      · rw [hCu, hR1]; simp [cadd, mpush, mfresh, ai_up_eq]
        have := o9
        unfold oC at this ⊢
        rw [ai_up_n (by omega)] at this ⊢
        exact this
      · rw [hCu, hR1]; simp only [cadd, mpush, mfresh, ai_up_eq]; simp
        rw [oC_o (by omega) (by omega)]
        have := onh
        rw [oC_o (by omega) (by omega)] at this
        exact this
    refine (hE Cu R1 p3 p3 (e + 1) (nn + 1) _ (k + 1) hpv1 (by simp; omega) (by omega) (by omega) (by omega)).mb (fun b C2 hE2 => ?_)
    obtain ⟨R2, j2, hlm2, hE2⟩ := hE2
    have hlm12 : lm z R2 (k + (1 + j2)) → lm z R k := fun h => hlm1 (hlm2 (by rw [Nat.add_assoc]; exact h))
    rcases hE2 with ⟨rfl, x, p2, p2', e2, nn2, hpv2, r31, rx, rt, r4, r5, r6, r7, r8, r9, r10, r11, r12, r13⟩ | ⟨hwr, hbb⟩
    · refine ai_zt ?_
      have hx1 : 350 * hf + (nn + 1) < x := rx.1
      have hx2 : x ≤ 350 * hf + nn2 := rx.2
      obtain ⟨gT, gp, gpn, gC3, gmq, gsk, g8, g9, gnh, gsp, gsc, gnn⟩ := id hpv2
      obtain ⟨gmT, gm2, gmpn, gm14, gmhf, gm15, gmf, gm19⟩ := id gmq
      obtain ⟨⟨s13, s14, s15, s16, s17⟩, gml, g30⟩ := mf_top gmf
      dsimp only at s13 s14 s15 s16 s17
      have hskn : px_s tx n p2 ≤ n := px_s_le tx gpn
      have hskp2 : p2 ≤ px_s tx n p2 := px_s_ge tx n p2
      have r2nd : R2 2 (350 * hf + nn + 1) = t := by rw [r11.2.2.2 2 (by omega) (by omega) _ (Or.inl (by omega)), hR1]; simp [mpush, mfresh, ai_up_eq]
      have rd : ∀ (G : ai_S → Prop), (∀ S, G S → lm z S (k + (1 + j2) + 1)) → (px_c tx n (-1) (px_s tx n p2') = 41 → G (mpush (ai_up (ai_up (hook R2 stk.length (350 * hf + nn + 1) 0 x) 0 2 (nI (px_s tx n p2' + 1))) 13 stk.length (nI cc)) (stk.length + 1) 10 (nI (dp + 1)))) → (¬ px_c tx n (-1) (px_s tx n p2') = 41 → ∀ R' : ai_S, bd tx R' → G R') → lm z R2 (k + (1 + j2)) := by
        intro G hG hg1 hg2
        exact lm_head (by omega) gm19 g30 (by omega) s13 (by omega) (fun h => by omega) (fun _ h _ => by omega) (fun _ _ => (on_14 (d := z.2.2.2.2.1 + 5) gmhf (by omega) (by omega) s13 s14 (by omega) s15 s16 g30 r31 gmT gm2 gmpn r2nd htc (fun h => hG _ (hg1 h)) (fun h R' hR' => hG _ (hg2 h R' hR'))))
      refine sp_take (p := p2) hV0 gT gp gpn (fun ht => ai_zt ?_) (fun hf1 => ai_zf ?_)
      · have hlt2 : px_s tx n p2 < n := px_lt ht (by decide)
        have hy : px_c tx n (-1) (px_s tx n p2') = 41 := by rw [← gsk]; exact (px_cc (by decide) (by decide)).mp ht
        refine sp_cadd (e := e2) (by rw [ai_up_n (by omega)]; exact gC3) (by omega) ?_
        obtain ⟨C3, hC3'⟩ : ∃ C3, C3 = cadd (ai_up C2 2 2 (nI (px_s tx n p2 + 1))) e2 4 0 0 := ⟨_, rfl⟩
        rw [← hC3']
        have hcE3 : cE C2 C3 e2 := by rw [hC3']; exact (cE.rf.u2 2 _ (by omega)).add (Nat.le_refl _) _ _ _
        obtain ⟨R', hR'⟩ : ∃ R', R' = mpush (ai_up (ai_up (hook R2 stk.length (350 * hf + nn + 1) 0 x) 0 2 (nI (px_s tx n p2' + 1))) 13 stk.length (nI cc)) (stk.length + 1) 10 (nI (dp + 1)) := ⟨_, rfl⟩
        have hlm3 : lm z R' (k + (2 + j2)) → lm z R k := fun h => hlm12 (rd (fun S => S = R') (fun S hS => by rw [hS, show k + (1 + j2) + 1 = k + (2 + j2) by omega]; exact h) (fun _ => hR'.symm) (fun h' => absurd hy h'))
        have n0 : ∀ q i, 2 ≤ q → q ≤ 8 → ¬ (q = 3 ∧ i = 350 * hf + nn + 1) → R' q i = R2 q i := fun q i h h1 h2 => by
          rw [hR']
          unfold mpush
          rw [ai_up_n (by omega), ai_up_n (by omega), ai_up_n (by omega), ai_up_n (by omega), ai_up_n (by omega), ai_up_n (by omega), ai_up_n (by omega), ai_up_n (by omega), hook_o (by omega) (by omega) (by omega)]
        have n00 : ∀ j, j ≠ 2 → j ≠ 30 → R' 0 j = R2 0 j := fun j h h1 => by
          rw [hR']
          unfold mpush
          rw [ai_up_n (by omega), ai_up_n (by omega), ai_up_n (by omega), ai_up_n (by omega), ai_up_n (by omega), ai_up_n (by omega), ai_up_n (by omega), ai_up_n (by omega), hook_o (by omega) (by omega) (by omega)]
        have mR' : mE R2 R' (350 * hf + nn) (350 * hf + 350) := by rw [hR']; exact (((mE.rf.hk (fun _ => ⟨by omega, by omega⟩) (fun h => absurd rfl h)).u0 2 _ (by omega)).uF 13 _ _ (by omega) (by omega)).push _ _ _
        have mR1 : mE R1 R' (350 * hf + nn) (350 * hf + 350) := (mE.rf.tr r11 (by omega)).tr mR' (Nat.le_refl _)
        have cE1 : cE Cu C3 (e + 1) := r12.tr hcE3 (by omega)
        refine hH C3 R' (px_s tx n p2 + 1) e2 nn2 x (2 + j2) ⟨hlm3, ⟨px_s tx n p2 + 1, ?_⟩, oR_mS.tr ((oE1.tr mR1 (Nat.le_refl _)).ms (Nat.le_refl _) (Nat.le_refl _)) (Nat.le_refl _) (Nat.le_refl _) (Nat.le_refl _), oC_cS.tr ((u1.tr cE1 (by omega))).cs (Nat.le_refl _) (Nat.le_refl _), ?_, ?_, ?_, ?_, ⟨hx1, hx2⟩, by omega, hlt2, by omega, by omega, r8, gnn, by omega, by omega, fun hN => ?_⟩
        · refine pv_ofb hpv1 hsc cE1 mR1 (by rw [hC3']; simp [cadd, ai_up_eq]) hlt2 (by rw [hC3']; simp [cadd, ai_up_eq]) (by rw [hR', gsk]; simp [mpush, ai_up_eq]) hlt2 (by rw [n00 15 (by omega) (by omega)]; exact gm15) ?_ (by rw [n00 19 (by omega) (by omega)]; exact gm19) rfl ?_ ?_ r8 gnn
          · rw [hR']
            refine mf_push (stk := (cc, 350 * hf + nn + 1, dp, x, 0) :: stk) ⟨mf_at_of ?_ ?_ ?_ ?_ ?_, ?_⟩ 10 (dp + 1)
            · exact ai_up_s
            · rw [ai_up_n (by omega), ai_up_n (by omega), hook_o (by omega) (by omega) (by omega)]; exact s14
            · rw [ai_up_n (by omega), ai_up_n (by omega), hook_o (by omega) (by omega) (by omega)]; exact s15
            · rw [ai_up_n (by omega), ai_up_n (by omega), hook_16]
            · rw [ai_up_n (by omega), ai_up_n (by omega), hook_o (by omega) (by omega) (by omega)]; exact s17
            · unfold hook
              exact mf_l_o (mf_l_o (mf_l_o (mf_l_o gml 3 _ _ (by omega)) 16 _ _ (by omega)) 0 2 _ (by omega)) 13 _ _ (by omega)
          · rw [n00 24 (by omega) (by omega), hC3']; simp [cadd, ai_up_eq]; exact g9
          · rw [n00 20 (by omega) (by omega), hC3']; simp only [cadd, ai_up_eq]; simpa using gnh
        · rw [n0 2 _ (by omega) (by omega) (by omega)]; exact r2nd
        · rw [hR']
          unfold mpush
          rw [ai_up_n (by omega), ai_up_n (by omega), ai_up_n (by omega), ai_up_n (by omega), ai_up_n (by omega), ai_up_n (by omega), ai_up_n (by omega), ai_up_n (by omega), hook_3]
        · rw [n0 4 _ (by omega) (by omega) (by omega), r11.2.2.2 4 (by omega) (by omega) _ (Or.inl (by omega)), hR1]; simp [mpush, mfresh, ai_up_eq]; rfl
        · rw [n0 4 _ (by omega) (by omega) (by omega)]; exact r4
        · have hN2 : C2 2 5 = 1 := by rw [hC3'] at hN; simpa [cadd, ai_up_eq] using hN
          obtain ⟨n1, kE⟩ := r13 hN2
          have n1' : C 2 5 = 1 := by
            rw [hCu, ai_up_n (by omega)] at n1
            simp [cadd, ai_up_eq] at n1
            rw [oC_o (by omega) (by omega)] at n1
            exact n1
          refine ⟨n1', ?_, ?_, by rw [hC3', cd_cadd0]⟩
          · rw [show cd C3 0 e = cd Cu 0 e from cE1.2.2.2 27 (by omega) (by omega) e (by omega), hCu]
            show ai_up (cadd (oC C dp (px_s tx n p + 1)) e 1 0 0) 2 2 (nI p3) 27 e = 1
            rw [ai_up_n (by omega)]
            exact cd_cadd0
          · refine cx_E_lift kE (fun j hj i h1 h2 => ?_) (mR'.ag hsc) (fun q a c i h1 h2 _ => n0 q i (by omega) (by omega) (by omega)) hF (fun i hi => hi)
            rw [hC3', cd_cadd hj (by omega)]
            exact ai_up_n (by omega)
      · have hy : ¬ px_c tx n (-1) (px_s tx n p2') = 41 := by rw [← gsk]; exact fun h => hf1 ((px_cc (by decide) (by decide)).mpr h)
        obtain ⟨R', w1, w2⟩ := lm_bad (z := z) (R := R2) (k := k + (1 + j2)) (k' := k + (1 + j2) + 1) (fun hall => rd (fun S => bd tx S) hall (fun h => absurd h hy) (fun _ R' hR' => hR'))
        exact ⟨R', 2 + j2, fun h => hlm12 (w2 (by rw [show k + (1 + j2) + 1 = k + (2 + j2) by omega]; exact h)), Or.inr ⟨w1, rfl⟩⟩
    · rcases hbb with rfl | hpg
      · exact ai_zf ⟨R2, 1 + j2, hlm12, Or.inr ⟨hwr, rfl⟩⟩
      · exact ⟨fun _ => pg_take hV0 hpg (by decide) (fun h => ai_zf ⟨R2, 1 + j2, hlm12, Or.inr ⟨hwr, rfl⟩⟩), fun _ => ⟨R2, 1 + j2, hlm12, Or.inr ⟨hwr, rfl⟩⟩⟩
  · have h40' : ¬ px_c tx n (-1) (px_s tx n (px_s tx n p' + 1)) = 40 := by rw [← hsk]; exact fun h => h40 ((px_cc (by decide) (by decide)).mpr h)
    obtain ⟨R', w1, w2⟩ := lm_bad (z := z) (R := R) (k := k) (k' := k + 1) (fun hall => orf (fun S => bd tx S) hall (fun h => absurd h h40') (fun _ R' hR' => hR'))
    exact ⟨R', 1, w2, Or.inr ⟨w1, rfl⟩⟩
end SCD
