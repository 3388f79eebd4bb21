/-! ===== lists of actuals ===== -/
/-- behind the closing parenthesis: the reference has read the semicolon of a call too -/
def pz (cL : Nat) (C' R' : ai_S) (tx : Nat → Int32) (n hf : Nat) (sc : sc_T) (SC : Nat → sc_T) (m ns pr vr p1 e1 nn1 : Nat) (stk : List mf_T) : Prop :=
  (cL = 40 ∧ ∃ p1' : Nat, pv C' R' tx n hf sc SC m ns pr vr p1 p1' e1 nn1 stk) ∨
  (cL = 12 ∧ px_c tx n 0 (px_s tx n p1) = 59 ∧ ct_T C' tx n ∧ pv (ai_up C' 2 2 (nI (px_s tx n p1 + 1))) R' tx n hf sc SC m ns pr vr (px_s tx n p1 + 1) (px_s tx n p1 + 1) e1 nn1 stk)
def pL (cL : Nat) (C R C' R' : ai_S) (tx : Nat → Int32) (n hf : Nat) (sc : sc_T) (SC : Nat → sc_T) (m ns pr vr p e nn : Nat) (stk : List mf_T) (F b0 nd ls i j : Nat) : Prop :=
  ∃ x p1 e1 nn1 : Nat, pz cL C' R' tx n hf sc SC m ns pr vr p1 e1 nn1 stk ∧ R' 0 31 = nI nd ∧ C' 2 2 = nI p1 ∧ p1 ≤ n ∧ p < p1 ∧ 2 * e1 + 3 * p ≤ 3 * p1 + 2 * e ∧ nn1 + p ≤ nn + p1 ∧ nn ≤ nn1 ∧ nn1 ≤ 330 ∧ e ≤ e1 ∧ j + 12 * p ≤ 12 * p1 ∧ mE R R' b0 (350 * hf + 350) ∧ cE C C' e ∧
    (∀ q, 2 ≤ q → q ≤ 8 → ∀ i', i' ≤ 350 * hf + nn → ¬ (q = 3 ∧ i' = nd ∧ ls = 0) → ¬ (q = 4 ∧ i' = ls ∧ ls ≠ 0) → R' q i' = R q i') ∧ (C' 2 5 = 1 → C 2 5 = 1) ∧ (ls = 0 → R' 3 nd = nI x) ∧ (ls ≠ 0 → R' 4 ls = nI x) ∧
    (C' 2 5 = 1 → cx_li (cx_E (cd C') R' (16 * hf) SC sc F (nr hf nn nn1)) (cd C') R' (6 - i) x e e1 i)
/-- the class is done with its list, but no semicolon stands there -/
def pns (cL : Nat) (C' : ai_S) (tx : Nat → Int32) (n : Nat) : Prop := cL = 12 ∧ ct_T C' tx n ∧ ∃ p1 : Nat, p1 ≤ n ∧ C' 2 2 = nI p1 ∧ ¬ px_c tx n 0 (px_s tx n p1) = 59
def pLi (cL : Nat) (z : lm_T) (C R : ai_S) (tx : Nat → Int32) (n hf : Nat) (sc : sc_T) (SC : Nat → sc_T) (m ns pr vr p e nn : Nat) (stk : List mf_T) (F b0 nd ls i k : Nat) : Bool → ai_S → Prop := fun b C' =>
  ∃ (R' : ai_S) (j : Nat), (lm z R' (k + j) → lm z R k) ∧ ((b = true ∧ pL cL C R C' R' tx n hf sc SC m ns pr vr p e nn stk F b0 nd ls i j) ∨ (bd tx R' ∧ (b = false ∨ pns cL C' tx n)))
section LST
variable {l : Launch} {D : va_G} {ρ : Nat → Nat} {τ : Nat → ClassId} {z : lm_T} {V : ai_V} {tx : Nat → Int32} {n hf : Nat} {sc : sc_T} {SC : Nat → sc_T} {m ns pr vr d dp F : Nat}
theorem pg_set {C : ai_S} {q el a : Nat} {x : Int32} {G : ai_S → Prop} (h : pg C tx n q el) (ha : a < el) (hG : ∀ C', pg C' tx n q el → G C') : ai_met (uC l D ρ τ) (d + 1) mX2_setFirst [.ref 26, .int (nI a), .int x] C V (ai_qv V G) := by
  obtain ⟨hT, p, e1, h1, h2, h3, h4, h5, h6, h7⟩ := h
  refine sp_setF (e := e1) h5 (by omega) (by omega) (hG _ ⟨⟨by rw [ai_up_n (by omega)]; exact hT.1, hT.2.1, fun i hi => by rw [ai_up_n (by omega)]; exact hT.2.2 i hi⟩, p, e1, h1, by rw [ai_up_n (by omega)]; exact h2, h3, h4, by rw [ai_up_n (by omega)]; exact h5, h6, h7⟩)
theorem lm_some {R : ai_S} {k k' : Nat} {P : ai_S → Prop} (h : (∀ R', P R' → lm z R' k') → lm z R k) (hne : ∃ R', P R') : ∃ R', P R' ∧ (lm z R' k' → lm z R k) := by
  refine Classical.byContradiction fun hc => ?_
  have h1 : ∀ R', P R' → lm z R' k' ∧ ¬ lm z R k := fun R' hP => Classical.byContradiction fun h2 => hc ⟨R', hP, fun h3 => Classical.byContradiction fun h4 => h2 ⟨h3, h4⟩⟩
  obtain ⟨R', hP⟩ := hne
  exact (h1 R' hP).2 (h (fun R' hP => (h1 R' hP).1))
theorem lm_bad {R : ai_S} {k k' : Nat} (h : (∀ R' : ai_S, bd tx R' → lm z R' k') → lm z R k) : ∃ R' : ai_S, bd tx R' ∧ (lm z R' k' → lm z R k) := lm_some h ⟨_, bd_1⟩
theorem cx_li_nil {E : Nat → Nat → Nat → Prop} {K R : ai_S} (c a i : Nat) : cx_li E K R c 0 a a i := by
  cases c with
  | zero => exact ⟨rfl, rfl⟩
  | succ c => exact Or.inl ⟨rfl, rfl⟩
set_option maxHeartbeats 8000000 in
theorem simL_list {cL : Nat} (hcL : cL = 40 ∨ cL = 12) (hV0 : hV ρ V tx n) (hV3 : V 2 3 = .ref 26) (hdp : dp ≤ 10) (hE : sF l D ρ τ z V tx n hf sc SC m ns pr vr (d + 2) (dp + 1) F 0 0 mX3_expression 30) (stk : List mf_T) (b0 nd : Nat) (hsb : ∀ x ∈ sc, x.1 = 0 → x.2.2 ≤ b0) (hb0 : 350 * hf ≤ b0) (hnd : b0 < nd) :
    ∀ (w : Nat) (C R : ai_S) (p p' e nn k i ls : Nat), i + w = 5 → pv C R tx n hf sc SC m ns pr vr p p' e nn ((30, 0, dp + 1, 0, 0) :: (cL, nd, dp, ls, i) :: stk) → stk.length + 1 + 4 * (11 - (dp + 1)) ≤ 56 → 2 * e ≤ 3 * p → nn ≤ p → k + 12 * (n - p) + 50 ≤ 100000 → nd ≤ 350 * hf + nn → (ls ≠ 0 → b0 < ls ∧ ls ≤ 350 * hf + nn ∧ ls ≠ nd) →
      ai_W (uC l D ρ τ) (d + 3) mX3_list 13 [(0, .ref 2), (1, .int (nI (dp + 1))), (2, .int (nI i))] [] C V (ai_qz V (pLi cL z C R tx n hf sc SC m ns pr vr p e nn stk F b0 nd ls i k)) := by
  intro w
  induction w using Nat.strongRecOn with
  | ind w ih =>
    intro C R p p' e nn k i ls hiw hpv hst he hnn hk hnd2 hls
    obtain ⟨hT, hp, hpn, hC3, hmq, hsk, h8, h9, hnh, hsp, hsc, hnn3⟩ := id hpv
    have hn320 : n ≤ 320 := hT.2.1
    -- one actual, its head being o
    have step : ∀ o : Int32, (al tx n p ∧ o = 24 ∨ ¬ al tx n p ∧ o = 23) → ai_met (uC l D ρ τ) (d + 2) mX2_add [.ref 26, .int o, .int 0, .int 0] C V (ai_qi V (fun x4 S5 => ai_met (uC l D ρ τ) (d + 2) mX3_expression [.ref 2, .int (nI (dp + 1))] S5 V (ai_qz V (fun b6 S7 => (b6 = true → ai_met (uC l D ρ τ) (d + 2) mX2_add [.ref 26, .int 25, .int 0, .int 0] S7 V (ai_qi V (fun x8 S9 => ai_met (uC l D ρ τ) (d + 2) mX2_setFirst [.ref 26, .int x4, .int (S9 26 3)] S9 V (ai_qv V (fun S11 => ai_met (uC l D ρ τ) (d + 2) mX3_take [.ref 2, .int 41] S11 V (ai_qz V (fun b12 S13 => (b12 = true → pLi cL z C R tx n hf sc SC m ns pr vr p e nn stk F b0 nd ls i k true S13) ∧ (b12 = false → ai_met (uC l D ρ τ) (d + 2) mX3_take [.ref 2, .int 44] S13 V (ai_qz V (fun b14 S15 => (b14 = true → ai_W (uC l D ρ τ) (d + 3) mX3_list 13 [(0, .ref 2), (1, .int (nI (dp + 1))), (2, .int (nI i + 1))] [] S15 V (ai_qz V (pLi cL z C R tx n hf sc SC m ns pr vr p e nn stk F b0 nd ls i k))) ∧ (b14 = false → pLi cL z C R tx n hf sc SC m ns pr vr p e nn stk F b0 nd ls i k false S15))))))))))) ∧ (b6 = false → pLi cL z C R tx n hf sc SC m ns pr vr p e nn stk F b0 nd ls i k false S7))))) := by
      intro o ho
      refine sp_cadd (e := e) hC3 (by omega) ?_
      have hcE1 : cE C (cadd C e o 0 0) e := cE.rf.add (Nat.le_refl _) _ _ _
      have hpv1 : pv (cadd C e o 0 0) R tx n hf sc SC m ns pr vr p p' (e + 1) nn ((30, 0, dp + 1, 0, 0) :: (cL, nd, dp, ls, i) :: stk) :=
        pv_of (t := 0) hpv hcE1 mE.rf (by simp [cadd, ai_up_eq]; exact hp) hpn (by simp [cadd, ai_up_eq]) hmq.2.1 hmq.2.2.1 hmq.2.2.2.2.2.1 hmq.2.2.2.2.2.2.1 hmq.2.2.2.2.2.2.2 hsk (by simp [cadd, ai_up_eq]; exact h9) (by simp only [cadd, ai_up_eq]; simpa using hnh) (Nat.le_refl _) hnn3
      refine (hE _ R p p' (e + 1) nn _ k hpv1 (by simp; omega) (by omega) hnn (by omega)).mb (fun b C2 hE2 => ?_)
      obtain ⟨R2, j2, hlm2, hE2⟩ := hE2
      rcases hE2 with ⟨rfl, x, p2, p2', e2, nn2, hpv2, r31, rx, rt, r4, r5, r6, r7, r8, r9, r10, r11, r12, r13⟩ | ⟨hwr, hbb⟩
      · refine ai_zt ?_
        have hx1 : 350 * hf + nn < x := rx.1
        have hx2 : x ≤ 350 * hf + nn2 := rx.2
        obtain ⟨gT, gp, gpn, gC3, gmq, gsk, g8, g9, gnh, gsp, gsc, gnn⟩ := id hpv2
        obtain ⟨gmT, gm2, gmpn, gm14, gmhf, gm15, gmf, gm19⟩ := id gmq
        obtain ⟨⟨t13, t14, t15, t16, t17⟩, hml, h30⟩ := mf_top gmf
        dsimp only at t13 t14 t15 t16 t17
        have hskn : px_s tx n p2 ≤ n := px_s_le tx gpn
        have hskp : p2 ≤ px_s tx n p2 := px_s_ge tx n p2
        have hskn' : px_s tx n p2' ≤ n := px_s_le tx gmpn
        refine sp_cadd (e := e2) gC3 (by omega) ?_
        rw [show cadd C2 e2 25 0 0 26 3 = nI (e2 + 1) by simp [cadd, ai_up_eq]]
        refine sp_setF (e := e2 + 1) (by simp [cadd, ai_up_eq]) (by omega) (by omega) ?_
        obtain ⟨C4, hC4⟩ : ∃ C4, C4 = ai_up (cadd C2 e2 25 0 0) 28 e (nI (e2 + 1)) := ⟨_, rfl⟩
        rw [← hC4]
        have hcE4 : cE C C4 e := by
          have a1 := hcE1.tr r12 (by omega)
          have a2 : cE C2 (cadd C2 e2 25 0 0) e := cE.rf.add (by omega) _ _ _
          rw [hC4]
          exact (a1.tr a2 (Nat.le_refl _)).uK 28 e _ (by omega) (by omega) (Nat.le_refl _)
        have c42 : C4 2 2 = nI p2 := by rw [hC4, ai_up_n (by omega)]; simp [cadd, ai_up_eq]; exact gp
        have c45 : C4 2 5 = C2 2 5 := by rw [hC4, ai_up_n (by omega)]; simp [cadd, ai_up_eq]
        have c43 : C4 26 3 = nI (e2 + 1) := by rw [hC4, ai_up_n (by omega)]; simp [cadd, ai_up_eq]
        have c49 : C4 26 9 = C2 26 9 := by rw [hC4, ai_up_n (by omega)]; simp [cadd, ai_up_eq]
        have cT4 : ct_T C4 tx n := ct_of hT hcE4
        -- the code of this actual
        have k4 : ∀ j', j' < 3 → ∀ i', e < i' → i' < e2 → cd C4 j' i' = cd C2 j' i' := fun j' hj' i' h1 h2 => by
          rw [hC4]
          show ai_up (cadd C2 e2 25 0 0) 28 e (nI (e2 + 1)) (27 + j') i' = _
          rw [ai_up_n (by omega)]
          exact cd_cadd hj' (by omega)
        have k40 : cd C4 0 e = o := by
          rw [hC4]
          show ai_up (cadd C2 e2 25 0 0) 28 e (nI (e2 + 1)) 27 e = _
          rw [ai_up_n (by omega), show cadd C2 e2 25 0 0 27 e = cd (cadd C2 e2 25 0 0) 0 e from rfl, cd_cadd (by omega) (by omega), show cd C2 0 e = cd (cadd C e o 0 0) 0 e from r12.2.2.2 27 (by omega) (by omega) e (by omega), cd_cadd0]
        have k41 : cd C4 1 e = nI (e2 + 1) := by
          rw [hC4]
          show ai_up (cadd C2 e2 25 0 0) 28 e (nI (e2 + 1)) 28 e = _
          exact ai_up_s
        have k42 : cd C4 0 e2 = 25 := by
          rw [hC4]
          show ai_up (cadd C2 e2 25 0 0) 28 e (nI (e2 + 1)) 27 e2 = _
          rw [ai_up_n (by omega)]
          exact cd_cadd0
        have elem : ∀ (C' R' : ai_S) (e1 nn1 y : Nat), C2 2 5 = 1 → nn2 ≤ nn1 → (∀ j', j' < 3 → ∀ i', i' < e2 + 1 → cd C' j' i' = cd C4 j' i') → mE R2 R' b0 (350 * hf + 350) → (∀ q, 2 ≤ q → q ≤ 8 → ∀ i', 350 * hf + nn < i' → i' ≤ 350 * hf + nn2 → ¬ (q = 8 ∧ i' = x) → ¬ (q = 4 ∧ i' = x) → R' q i' = R2 q i') → R' 8 x = nI i → R' 4 x = nI y → (px_c tx n 0 (px_s tx n p2) = 41 ∨ px_c tx n 0 (px_s tx n p2) = 44) → cx_li (cx_E (cd C') R' (16 * hf) SC sc F (nr hf nn nn1)) (cd C') R' (5 - i) y (e2 + 1) e1 (i + 1) → cx_li (cx_E (cd C') R' (16 * hf) SC sc F (nr hf nn nn1)) (cd C') R' (6 - i) x e e1 i := by
          intro C' R' e1 nn1 y hN hnn1 hK hm hfr h8x h4x hch hrest
          obtain ⟨n1, kE⟩ := r13 hN
          rw [show 6 - i = (5 - i) + 1 by omega]
          have h2x : R' 2 x = R2 2 x := hfr 2 (by omega) (by omega) x hx1 hx2 (by omega) (by omega)
          refine Or.inr ⟨by omega, ?_, e2, y, ?_, ?_, ?_, h8x, h4x, hrest⟩
          · rw [h2x, hK 0 (by omega) e (by omega), k40]
            rcases ho with ⟨hal, ho⟩ | ⟨hal, ho⟩
            · exact Or.inl ⟨rt.2 hal.1 hal.2.1 hal.2.2, ho⟩
            · refine Or.inr ⟨fun h => ?_, ho⟩
              obtain ⟨b1, b2, b3⟩ := rt.1 h
              rw [b3] at hch
              exact hal ⟨b1, b2, hch⟩
          · refine cx_E_mono (e0 := e + 1) (e1 := e2) (hm.ag hsb) (fun j' hj' i' h1 h2 => by rw [hK j' hj' i' (by omega), k4 j' hj' i' (by omega) h2]) F F _ _ x (e + 1) e2 (Nat.le_refl _) (fun i' hi' => ⟨hi'.1, ?_⟩) (fun i' hi' => ?_) (fun i' hi' hne => ?_) (Nat.le_refl _) (Nat.le_refl _) kE
            · have := hi'.2; omega
            · have h1 := hi'.1
              have h2 := hi'.2
              exact ⟨hfr 2 (by omega) (by omega) i' h1 h2 (by omega) (by omega), hfr 3 (by omega) (by omega) i' h1 h2 (by omega) (by omega), hfr 5 (by omega) (by omega) i' h1 h2 (by omega) (by omega), hfr 6 (by omega) (by omega) i' h1 h2 (by omega) (by omega), hfr 7 (by omega) (by omega) i' h1 h2 (by omega) (by omega)⟩
            · have h1 := hi'.1
              have h2 := hi'.2
              exact ⟨hfr 4 (by omega) (by omega) i' h1 h2 (by omega) (by omega), hfr 8 (by omega) (by omega) i' h1 h2 (by omega) (by omega)⟩
          · rw [hK 0 (by omega) e2 (by omega), k42]
          · rw [hK 1 (by omega) e (by omega), k41]
        -- the reference's round
        have hlsl : ls < 700 := by
          by_cases h : ls = 0
          · omega
          · have := (hls h).2.1; omega
        have mB : mE R2 (liB R2 stk.length nd ls x i) b0 (350 * hf + 350) := by
          unfold liB
          exact ((mE.rf.hk (fun _ => ⟨hnd, by omega⟩) (fun h => ⟨(hls h).1, by have := (hls h).2.1; omega⟩)).uN 8 x _ (by omega) (by omega) (by omega) (by omega)).uF 17 _ _ (by omega) (by omega)
        have nB : ∀ q, 2 ≤ q → q ≤ 8 → ∀ i', ¬ (q = 3 ∧ i' = nd ∧ ls = 0) → ¬ (q = 4 ∧ i' = ls ∧ ls ≠ 0) → ¬ (q = 8 ∧ i' = x) → liB R2 stk.length nd ls x i q i' = R2 q i' := fun q a c i' h1 h2 h3 => liB_o (by omega) h1 h2 h3 (by omega)
        have B8 : liB R2 stk.length nd ls x i 8 x = nI i := by unfold liB; rw [ai_up_n (by omega), ai_up_s]
        have B3 : ls = 0 → liB R2 stk.length nd ls x i 3 nd = nI x := fun h => by unfold liB; rw [ai_up_n (by omega), ai_up_n (by omega), h, hook_3]
        have B4 : ls ≠ 0 → liB R2 stk.length nd ls x i 4 ls = nI x := fun h => by unfold liB; rw [ai_up_n (by omega), ai_up_n (by omega), hook_4 h]
        have B4x : liB R2 stk.length nd ls x i 4 x = nI 0 := by rw [nB 4 (by omega) (by omega) x (by omega) (fun h => by have := hls h.2.2; omega) (by omega)]; exact r4
        have lB : mf_l (liB R2 stk.length nd ls x i) stk := by
          unfold liB hook
          refine mf_l_o (mf_l_o (mf_l_o ?_ 16 _ _ (by omega)) 8 _ _ (by omega)) 17 _ _ (by omega)
          split
          · exact mf_l_o hml 3 _ _ (by omega)
          · exact mf_l_o hml 4 _ _ (by omega)
        have hmR : mE R R2 b0 (350 * hf + 350) := mE.rf.tr r11 (by omega)
        have hss : px_s tx n (px_s tx n p2) = px_s tx n p2 := px_s_s tx n p2
        have B0 : ∀ j', liB R2 stk.length nd ls x i 0 j' = R2 0 j' := fun j' => liB_o (by omega) (by omega) (by omega) (by omega) (by omega)
        have onli : ∀ (P : Prop) (G : ai_S → Prop) (hcomma : px_c tx n (-1) (px_s tx n p2') = 44 → i + 1 < 6 → G (mpush (ai_up (liB R2 stk.length nd ls x i) 0 2 (nI (px_s tx n p2' + 1))) (stk.length + 1) 30 (nI (dp + 1)))) (hclose : px_c tx n (-1) (px_s tx n p2') = 41 → ai_met (lm_u z) (z.2.2.2.2.1 + 6) mX6_closeList [.ref 0, .int (nI stk.length)] (ai_up (liB R2 stk.length nd ls x i) 0 2 (nI (px_s tx n p2' + 1))) (lm_V z) (ai_qv (lm_V z) (fun S => G S))) (hbad : (px_c tx n (-1) (px_s tx n p2') = 44 → ¬ i + 1 < 6) → ¬ px_c tx n (-1) (px_s tx n p2') = 41 → ∀ R' : ai_S, bd tx R' → G R'), ai_met (lm_u z) (z.2.2.2.2.1 + 7) mX6_onward [.ref 0, .int (nI stk.length)] R2 (lm_V z) (ai_qv (lm_V z) G) := fun _ G h1 h2 h3 => on_li (d := z.2.2.2.2.1 + 4) gmhf (by omega) (fun h => by omega) (by omega) hcL (by omega) t13 t14 (by omega) t15 t16 hlsl t17 (by omega) h30 r31 (by omega) gmT gm2 gmpn h1 h2 h3
        have hhead : ∀ (k2 : Nat), k2 < 100000 → ai_met (lm_u z) (z.2.2.2.2.1 + 7) mX6_onward [.ref 0, .int (nI stk.length)] R2 (lm_V z) (ai_qv (lm_V z) (fun R' => lm z R' (k2 + 1))) → lm z R2 k2 := fun k2 hk2 h => lm_head hk2 gm19 h30 (by omega) t13 (by omega) (fun h => by omega) (fun h1 h2 h3 => by omega) (fun _ _ => h)
        refine sp_take (p := p2) hV0 cT4 c42 gpn (fun ht => ai_zt ?_) (fun hf1 => ai_zf (sp_take (tx := tx) (p := px_s tx n p2) hV0 ⟨by rw [ai_up_n (by omega)]; exact cT4.1, cT4.2.1, fun i hi => by rw [ai_up_n (by omega)]; exact cT4.2.2 i hi⟩ ai_up_s hskn (fun ht => ai_zt ?_) (fun hf2 => ai_zf ?_)))
        · -- the list ends
          have hlt : px_s tx n p2 < n := px_lt ht (by decide)
          have hy : px_c tx n (-1) (px_s tx n p2') = 41 := by rw [← gsk]; exact (px_cc (by decide) (by decide)).mp ht
          have hcE5 : cE C (ai_up C4 2 2 (nI (px_s tx n p2 + 1))) e := hcE4.u2 2 _ (by omega)
          have fin : ∀ (R' : ai_S) (p3 : Nat) (C' : ai_S), (∀ q, 2 ≤ q → q ≤ 8 → ∀ i', R' q i' = liB R2 stk.length nd ls x i q i') → mE R2 R' b0 (350 * hf + 350) → pz cL (ai_up C4 2 2 (nI (px_s tx n p2 + 1))) R' tx n hf sc SC m ns pr vr (px_s tx n p2 + 1) (e2 + 1) nn2 stk → R' 0 31 = nI nd → pL cL C R (ai_up C4 2 2 (nI (px_s tx n p2 + 1))) R' tx n hf sc SC m ns pr vr p e nn stk F b0 nd ls i (j2 + 1) := by
            intro R' p3 C' hn hm hz h31
            refine ⟨x, px_s tx n p2 + 1, e2 + 1, nn2, hz, h31, ai_up_s, hlt, by omega, by omega, by omega, by omega, gnn, by omega, by omega, hmR.tr hm (Nat.le_refl _), hcE5, fun q a c i' hi' h1 h2 => ?_, fun h => ?_, fun h => by rw [hn 3 (by omega) (by omega)]; exact B3 h, fun h => by rw [hn 4 (by omega) (by omega)]; exact B4 h, fun hN => ?_⟩
            · rw [hn q a c, nB q a c i' h1 h2 (by omega)]
              exact r11.2.2.2 q a c i' (Or.inl hi')
            · rw [ai_up_n (by omega), c45] at h
              have := (r13 h).1
              simpa [cadd, ai_up_eq] using this
            · rw [ai_up_n (by omega), c45] at hN
              exact elem _ R' (e2 + 1) nn2 0 hN (Nat.le_refl _) (fun j' hj' i' hi' => ai_up_n (by omega)) hm (fun q a c i' h1 h2 h3 h4 => by rw [hn q a c]; exact nB q a c i' (by omega) (fun h => by have := hls h.2.2; omega) (by omega)) (by rw [hn 8 (by omega) (by omega)]; exact B8) (by rw [hn 4 (by omega) (by omega)]; exact B4x) (Or.inl ht) (cx_li_nil _ _ _)
          rcases hcL with h40 | h12
          · obtain ⟨R', hR'⟩ : ∃ R', R' = ai_up (ai_up (ai_up (liB R2 stk.length nd ls x i) 0 2 (nI (px_s tx n p2' + 1))) 0 31 (nI nd)) 0 30 (nI stk.length) := ⟨_, rfl⟩
            have mR' : mE R2 R' b0 (350 * hf + 350) := by rw [hR']; exact ((mB.u0 2 _ (by omega)).u0 31 _ (by omega)).u0 30 _ (by omega)
            have nR' : ∀ q, 2 ≤ q → q ≤ 8 → ∀ i', R' q i' = liB R2 stk.length nd ls x i q i' := fun q a c i' => by rw [hR', ai_up_n (by omega), ai_up_n (by omega), ai_up_n (by omega)]
            refine ⟨R', j2 + 1, fun h => hlm2 (hhead (k + j2) (by omega) (onli True _ (fun h44 => absurd (hy.symm.trans h44) (by decide)) (fun _ => sp_close40 (d := z.2.2.2.2.1 + 5) (nd := nd) (by omega) (by rw [ai_up_n (by omega), liB_o (by omega) (by omega) (by omega) (by omega) (by omega), ← h40]; exact t13) (by rw [ai_up_n (by omega), liB_o (by omega) (by omega) (by omega) (by omega) (by omega)]; exact t14) (by rw [ai_up_n (by omega), B0]; exact h30) (by rw [← hR', Nat.add_assoc]; exact h)) (fun _ h41 => absurd hy h41))), Or.inl ⟨rfl, fin R' 0 C nR' mR' (Or.inl ⟨h40, px_s tx n p2 + 1, ?_⟩) (by rw [hR']; simp [ai_up_eq])⟩⟩
            refine pv_ofb (nn1 := nn2) hpv hsb hcE5 (hmR.tr mR' (Nat.le_refl _)) ai_up_s hlt (by rw [ai_up_n (by omega)]; exact c43) (by rw [hR', gsk]; simp [ai_up_eq]) hlt ?_ ?_ ?_ rfl ?_ ?_ r8 gnn
            · rw [hR', ai_up_n (by omega), ai_up_n (by omega), ai_up_n (by omega), B0]; exact gm15
            · rw [hR']; exact ⟨ai_up_s, mf_l_o (mf_l_o (mf_l_o lB 0 2 _ (by omega)) 0 31 _ (by omega)) 0 30 _ (by omega)⟩
            · rw [hR', ai_up_n (by omega), ai_up_n (by omega), ai_up_n (by omega), B0]; exact gm19
            · rw [show R' 0 24 = R2 0 24 by rw [hR', ai_up_n (by omega), ai_up_n (by omega), ai_up_n (by omega), B0], ai_up_n (by omega), c49]; exact g9
            · rw [show R' 0 20 = R2 0 20 by rw [hR', ai_up_n (by omega), ai_up_n (by omega), ai_up_n (by omega), B0], ai_up_n (by omega), c45]; exact gnh
          · have hT3 : mt_T (ai_up (liB R2 stk.length nd ls x i) 0 2 (nI (px_s tx n p2' + 1))) tx n := ⟨by rw [ai_up_n (by omega), B0]; exact gmT.1, gmT.2.1, fun i' hi' => by rw [ai_up_n (by omega), liB_o (by omega) (by omega) (by omega) (by omega) (by omega)]; exact gmT.2.2 i' hi'⟩
            have e13 : ai_up (liB R2 stk.length nd ls x i) 0 2 (nI (px_s tx n p2' + 1)) 13 stk.length = nI 12 := by rw [ai_up_n (by omega), liB_o (by omega) (by omega) (by omega) (by omega) (by omega), ← h12]; exact t13
            have e14 : ai_up (liB R2 stk.length nd ls x i) 0 2 (nI (px_s tx n p2' + 1)) 14 stk.length = nI nd := by rw [ai_up_n (by omega), liB_o (by omega) (by omega) (by omega) (by omega) (by omega)]; exact t14
            have e30 : ai_up (liB R2 stk.length nd ls x i) 0 2 (nI (px_s tx n p2' + 1)) 0 30 = nI (stk.length + 1) := by rw [ai_up_n (by omega), B0]; exact h30
            have hlt' : px_s tx n p2' + 1 ≤ n := by rw [← gsk]; exact hlt
            by_cases h59 : px_c tx n (-1) (px_s tx n (px_s tx n p2' + 1)) = 59
            · have h59' : px_c tx n 0 (px_s tx n (px_s tx n p2 + 1)) = 59 := by rw [gsk]; exact (px_cc (by decide) (by decide)).mpr h59
              have hlt3 : px_s tx n (px_s tx n p2 + 1) < n := px_lt h59' (by decide)
              obtain ⟨R', hR'⟩ : ∃ R', R' = ai_up (ai_up (ai_up (ai_up (liB R2 stk.length nd ls x i) 0 2 (nI (px_s tx n p2' + 1))) 0 2 (nI (px_s tx n (px_s tx n p2' + 1) + 1))) 0 31 (nI nd)) 0 30 (nI stk.length) := ⟨_, rfl⟩
              have mR' : mE R2 R' b0 (350 * hf + 350) := by rw [hR']; exact (((mB.u0 2 _ (by omega)).u0 2 _ (by omega)).u0 31 _ (by omega)).u0 30 _ (by omega)
              have nR' : ∀ q, 2 ≤ q → q ≤ 8 → ∀ i', R' q i' = liB R2 stk.length nd ls x i q i' := fun q a c i' => by rw [hR', ai_up_n (by omega), ai_up_n (by omega), ai_up_n (by omega), ai_up_n (by omega)]
              refine ⟨R', j2 + 1, fun h => hlm2 (hhead (k + j2) (by omega) (onli True _ (fun h44 => absurd (hy.symm.trans h44) (by decide)) (fun _ => sp_close12 (d := z.2.2.2.2.1 + 4) ⟨gmhf.1, (gmhf.2.li (by omega) (fun h => by omega) (by omega)).u (by omega)⟩ (by omega) e13 e14 e30 hT3 ai_up_s hlt' (fun _ => by rw [← hR', Nat.add_assoc]; exact h) (fun h' => absurd h59 h')) (fun _ h41 => absurd hy h41))), Or.inl ⟨rfl, fin R' 0 C nR' mR' (Or.inr ⟨h12, h59', ct_of hT hcE5, ?_⟩) (by rw [hR']; simp [ai_up_eq])⟩⟩
              refine pv_ofb (nn1 := nn2) hpv hsb (hcE5.u2 2 _ (by omega)) (hmR.tr mR' (Nat.le_refl _)) ai_up_s hlt3 (by rw [ai_up_n (by omega), ai_up_n (by omega)]; exact c43) (by rw [hR', gsk]; simp [ai_up_eq]) hlt3 ?_ ?_ ?_ rfl ?_ ?_ r8 gnn
              · rw [hR', ai_up_n (by omega), ai_up_n (by omega), ai_up_n (by omega), ai_up_n (by omega), B0]; exact gm15
              · rw [hR']; exact ⟨ai_up_s, mf_l_o (mf_l_o (mf_l_o (mf_l_o lB 0 2 _ (by omega)) 0 2 _ (by omega)) 0 31 _ (by omega)) 0 30 _ (by omega)⟩
              · rw [hR', ai_up_n (by omega), ai_up_n (by omega), ai_up_n (by omega), ai_up_n (by omega), B0]; exact gm19
              · rw [show R' 0 24 = R2 0 24 by rw [hR', ai_up_n (by omega), ai_up_n (by omega), ai_up_n (by omega), ai_up_n (by omega), B0], ai_up_n (by omega), ai_up_n (by omega), c49]; exact g9
              · rw [show R' 0 20 = R2 0 20 by rw [hR', ai_up_n (by omega), ai_up_n (by omega), ai_up_n (by omega), ai_up_n (by omega), B0], ai_up_n (by omega), ai_up_n (by omega), c45]; exact gnh
            · obtain ⟨R', w1, w2⟩ := lm_bad (z := z) (R := R2) (k := k + j2) (k' := k + j2 + 1) (fun hall => hhead (k + j2) (by omega) (onli True _ (fun h44 => absurd (hy.symm.trans h44) (by decide)) (fun _ => sp_close12 (d := z.2.2.2.2.1 + 4) ⟨gmhf.1, (gmhf.2.li (by omega) (fun h => by omega) (by omega)).u (by omega)⟩ (by omega) e13 e14 e30 hT3 ai_up_s hlt' (fun h' => absurd h' h59) (fun _ R' hR' => hall R' hR')) (fun _ h41 => absurd hy h41)))
              exact ⟨R', j2 + 1, fun h => hlm2 (w2 (by rw [Nat.add_assoc]; exact h)), Or.inr ⟨w1, Or.inr ⟨h12, ct_of hT hcE5, px_s tx n p2 + 1, hlt, ai_up_s, fun h => h59 (by rw [← gsk]; exact (px_cc (by decide) (by decide)).mp h)⟩⟩⟩
        · -- one more
          rw [hss] at ht
          rw [hss, ai_up_up]
          have hlt : px_s tx n p2 < n := px_lt ht (by decide)
          have hy : px_c tx n (-1) (px_s tx n p2') = 44 := by rw [← gsk]; exact (px_cc (by decide) (by decide)).mp ht
          have hcE5 : cE C (ai_up C4 2 2 (nI (px_s tx n p2 + 1))) e := hcE4.u2 2 _ (by omega)
          by_cases h6 : i + 1 < 6
          · obtain ⟨R3, hR3⟩ : ∃ R3, R3 = mpush (ai_up (liB R2 stk.length nd ls x i) 0 2 (nI (px_s tx n p2' + 1))) (stk.length + 1) 30 (nI (dp + 1)) := ⟨_, rfl⟩
            have hlm3 : lm z R3 (k + (j2 + 1)) → lm z R k := fun h => hlm2 (hhead (k + j2) (by omega) (onli True _ (fun _ _ => by rw [← hR3, Nat.add_assoc]; exact h) (fun h41 => absurd (hy.symm.trans h41) (by decide)) (fun h' _ => absurd h6 (h' hy))))
            have mR3 : mE R2 R3 b0 (350 * hf + 350) := by rw [hR3]; exact (mB.u0 2 _ (by omega)).push _ _ _
            have nR3 : ∀ q, 2 ≤ q → q ≤ 8 → ∀ i', R3 q i' = liB R2 stk.length nd ls x i q i' := fun q a c i' => by
              rw [hR3]
              unfold mpush
              rw [ai_up_n (by omega), ai_up_n (by omega), ai_up_n (by omega), ai_up_n (by omega), ai_up_n (by omega), ai_up_n (by omega), ai_up_n (by omega)]
            have R30 : ∀ j', j' ≠ 2 → j' ≠ 30 → R3 0 j' = R2 0 j' := fun j' h1 h2 => by
              rw [hR3]
              unfold mpush
              rw [ai_up_n (by omega), ai_up_n (by omega), ai_up_n (by omega), ai_up_n (by omega), ai_up_n (by omega), ai_up_n (by omega), ai_up_n (by omega), B0]
            have hpv3 : pv (ai_up C4 2 2 (nI (px_s tx n p2 + 1))) R3 tx n hf sc SC m ns pr vr (px_s tx n p2 + 1) (px_s tx n p2 + 1) (e2 + 1) nn2 ((30, 0, dp + 1, 0, 0) :: (cL, nd, dp, x, i + 1) :: stk) := by
              refine pv_ofb (nn1 := nn2) hpv hsb hcE5 (hmR.tr mR3 (Nat.le_refl _)) ai_up_s hlt (by rw [ai_up_n (by omega)]; exact c43) (by rw [hR3, gsk]; simp [mpush, ai_up_eq]) hlt (by rw [R30 15 (by omega) (by omega)]; exact gm15) ?_ (by rw [R30 19 (by omega) (by omega)]; exact gm19) rfl (by rw [R30 24 (by omega) (by omega), ai_up_n (by omega), c49]; exact g9) (by rw [R30 20 (by omega) (by omega), ai_up_n (by omega), c45]; exact gnh) r8 gnn
              rw [hR3]
              refine mf_push (stk := (cL, nd, dp, x, i + 1) :: stk) ⟨mf_at_of ?_ ?_ ?_ ?_ ?_, mf_l_o lB 0 2 _ (by omega)⟩ 30 (dp + 1)
              · rw [ai_up_n (by omega), liB_o (by omega) (by omega) (by omega) (by omega) (by omega)]; exact t13
              · rw [ai_up_n (by omega), liB_o (by omega) (by omega) (by omega) (by omega) (by omega)]; exact t14
              · rw [ai_up_n (by omega), liB_o (by omega) (by omega) (by omega) (by omega) (by omega)]; exact t15
              · rw [ai_up_n (by omega)]; unfold liB; rw [ai_up_n (by omega), ai_up_n (by omega), hook_16]
              · rw [ai_up_n (by omega)]; exact ai_up_s
            rw [nI_1 i]
            refine (ih (w - 1) (by omega) (ai_up C4 2 2 (nI (px_s tx n p2 + 1))) R3 (px_s tx n p2 + 1) (px_s tx n p2 + 1) (e2 + 1) nn2 (k + (j2 + 1)) (i + 1) x (by omega) hpv3 hst (by omega) (by omega) (by omega) (by omega) (fun _ => ⟨by omega, hx2, by omega⟩)).mono ?_
            rintro r C' V' ⟨h1, b, h2, R', j', h3, h4⟩
            refine ⟨h1, b, h2, R', j2 + 1 + j', fun h => hlm3 (h3 (by rw [show k + (j2 + 1) + j' = k + (j2 + 1 + j') by omega]; exact h)), ?_⟩
            rcases h4 with ⟨hb, x', p1, e1, nn1, v1, v2, v3, v4, v5, v6, v7, v8, v9, v10, v11, v12, v13, v14, v15, v16, v17, v18⟩ | h4
            · have nR' : ∀ q, 2 ≤ q → q ≤ 8 → ∀ i', i' ≤ 350 * hf + nn2 → ¬ (q = 4 ∧ i' = x) → R' q i' = liB R2 stk.length nd ls x i q i' := fun q a c i' h1 h2 => (v14 q a c i' h1 (by omega) (by omega)).trans (nR3 q a c i')
              refine Or.inl ⟨hb, x, p1, e1, nn1, v1, v2, v3, v4, by omega, by omega, by omega, by omega, v9, by omega, by omega, (hmR.tr mR3 (Nat.le_refl _)).tr v12 (Nat.le_refl _), hcE5.tr v13 (by omega), fun q a c i' hi' h1 h2 => ?_, fun h => ?_, fun h => ?_, fun h => ?_, fun hN => ?_⟩
              · rw [nR' q a c i' (by omega) (by omega), nB q a c i' h1 h2 (by omega)]
                exact r11.2.2.2 q a c i' (Or.inl hi')
              · have := v15 h
                rw [ai_up_n (by omega), c45] at this
                have := (r13 this).1
                simpa [cadd, ai_up_eq] using this
              · rw [nR' 3 (by omega) (by omega) nd (by omega) (by omega)]; exact B3 h
              · rw [nR' 4 (by omega) (by omega) ls (by have := hls h; omega) (by have := hls h; omega)]; exact B4 h
              · have hN2 : C2 2 5 = 1 := by
                  have := v15 hN
                  rw [ai_up_n (by omega), c45] at this
                  exact this
                refine elem C' R' e1 nn1 x' hN2 v8 (fun j' hj' i' hi' => ?_) (mR3.tr v12 (Nat.le_refl _)) (fun q a c i' h1 h2 h3 h4 => ?_) ?_ (v17 (by omega)) (Or.inr ht) (cx_li_w (v18 hN) (Nat.le_refl _) (by omega) (fun i' hi' => ⟨?_, hi'.2⟩))
                · rw [show cd C' j' i' = cd (ai_up C4 2 2 (nI (px_s tx n p2 + 1))) j' i' from v13.2.2.2 (27 + j') (by omega) (by omega) i' hi']
                  exact ai_up_n (by omega)
                · rw [nR' q a c i' h2 h4]
                  exact nB q a c i' (by omega) (fun h => by have := hls h.2.2; omega) h3
                · rw [nR' 8 (by omega) (by omega) x hx2 (by omega)]; exact B8
                · have := hi'.1; omega
            · exact Or.inr h4
          · obtain ⟨R', w1, w2⟩ := lm_bad (z := z) (R := R2) (k := k + j2) (k' := k + j2 + 1) (fun hall => hhead (k + j2) (by omega) (onli True _ (fun _ h => absurd h h6) (fun h41 => absurd (hy.symm.trans h41) (by decide)) (fun _ _ R' hR' => hall R' hR')))
            refine vX3_list_13 hV3 ⟨fun _ => ⟨R', j2 + 1, fun h => hlm2 (w2 (by rw [Nat.add_assoc]; exact h)), Or.inr ⟨w1, Or.inl rfl⟩⟩, fun h => absurd ?_ h⟩
            rw [nI_1, show (6 : Int32) = nI 6 from rfl, i_le (by omega) (by omega)]; omega
        · -- neither
          rw [hss] at hf2
          have hy1 : ¬ px_c tx n (-1) (px_s tx n p2') = 41 := by rw [← gsk]; exact fun h => hf1 ((px_cc (by decide) (by decide)).mpr h)
          have hy2 : ¬ px_c tx n (-1) (px_s tx n p2') = 44 := by rw [← gsk]; exact fun h => hf2 ((px_cc (by decide) (by decide)).mpr h)
          obtain ⟨R', w1, w2⟩ := lm_bad (z := z) (R := R2) (k := k + j2) (k' := k + j2 + 1) (fun hall => hhead (k + j2) (by omega) (onli True _ (fun h => absurd h hy2) (fun h => absurd h hy1) (fun _ _ R' hR' => hall R' hR')))
          exact ⟨R', j2 + 1, fun h => hlm2 (w2 (by rw [Nat.add_assoc]; exact h)), Or.inr ⟨w1, Or.inl rfl⟩⟩
      · rcases hbb with rfl | hpg
        · exact ai_zf ⟨R2, j2, hlm2, Or.inr ⟨hwr, Or.inl rfl⟩⟩
        · refine ⟨fun _ => ?_, fun _ => ⟨R2, j2, hlm2, Or.inr ⟨hwr, Or.inl rfl⟩⟩⟩
          refine pg_add (q0 := 0) hpg (fun C3 hpg3 _ => pg_set hpg3 (by omega) (fun C4 hpg4 => pg_take hV0 hpg4 (by decide) (fun h => ai_zf (pg_take hV0 h (by decide) (fun h => ai_zf ⟨R2, j2, hlm2, Or.inr ⟨hwr, Or.inl rfl⟩⟩)))))
    refine vX3_list_13 hV3 ⟨fun h => absurd h ?_, fun _ => ?_⟩
    · rw [show (6 : Int32) = nI 6 from rfl, i_le (by omega) (by omega)]; omega
    refine sp_alone hV0 hT hp hpn (fun h => ai_zt (step 24 (Or.inl ⟨h, rfl⟩))) (fun h => ai_zf (step 23 (Or.inr ⟨h, rfl⟩)))
end LST
