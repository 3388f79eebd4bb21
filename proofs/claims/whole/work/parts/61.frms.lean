/-! ===== formals, simulated ===== -/
/-- behind the formals -/
def pFo (z : lm_T) (C R C' : ai_S) (tx : Nat → Int32) (n hf : Nat) (sc1 : sc_T) (SC : Nat → sc_T) (m1 pr0 vr nn dp nd p e w i : Nat) (stk : List mf_T) (k : Nat) (H : Prop) : Prop :=
  ∃ (R' : ai_S) (cnt w1 p1 e1 : Nat), (lm z R' (k + 1) → H) ∧ pv C' R' tx n hf ((pr0 + 1, 0, 0) :: sc1) SC (m1 + cnt) 7 (pr0 + 1) vr p1 p1 e1 nn ((10, 0, dp + 1, 0, 0) :: (20, nd, dp, 0, 16 * hf + pr0) :: stk) ∧ i ≤ cnt ∧ cnt ≤ 6 ∧ R' 10 (16 * hf + pr0) = nI cnt ∧ R' 11 (16 * hf + pr0) = nI w1 ∧ w1 < 64 ∧ (∀ b, b < i → w1.testBit b = w.testBit b) ∧ C' 31 pr0 = nI cnt ∧ (∀ j, m1 ≤ j → j < m1 + cnt → R' 21 j = nI (sc1.length + 1)) ∧ (∀ j, j < m1 → ¬ R' 21 j = nI (sc1.length + 1)) ∧ p + 1 ≤ p1 ∧ 2 * e1 + 3 * p ≤ 3 * p1 + 2 * e ∧ e ≤ e1 ∧ (∀ q, 2 ≤ q → q ≤ 9 → ∀ j, R' q j = R q j) ∧ mS R R' hf nn m1 pr0 ∧ cS C C' e pr0 ∧ (∀ j, C' 30 j = C 30 j) ∧ (C' 2 5 = 1 → C 2 5 = 1 ∧ cx_pl (cd C') w1 (cnt - i) i e e1)
def pFs (z : lm_T) (C R : ai_S) (tx : Nat → Int32) (n hf : Nat) (sc1 : sc_T) (SC : Nat → sc_T) (m1 pr0 vr nn dp nd p e w i : Nat) (stk : List mf_T) (k : Nat) (H : Prop) : Bool → ai_S → Prop := fun b C' =>
  (b = true ∧ pFo z C R C' tx n hf sc1 SC m1 pr0 vr nn dp nd p e w i stk k H) ∨ (b = false ∧ ∃ R' : ai_S, bd tx R' ∧ (lm z R' (k + 1) → H))
theorem lm_badH {tx : Nat → Int32} {z : lm_T} {k' : Nat} {H : Prop} (h : (∀ R' : ai_S, bd tx R' → lm z R' k') → H) : ∃ R' : ai_S, bd tx R' ∧ (lm z R' k' → H) := by
  refine Classical.byContradiction fun hcon => ?_
  have hall : (∀ R' : ai_S, bd tx R' → lm z R' k') := fun R' hR' => Classical.byContradiction fun h' => hcon ⟨R', hR', fun h2 => absurd h2 h'⟩
  exact hcon ⟨_, bd_1, fun _ => h hall⟩
section FRS
variable {l : Launch} {D : va_G} {ρ : Nat → Nat} {τ : Nat → ClassId} {z : lm_T} {V : ai_V} {tx : Nat → Int32} {n hf : Nat} {sc1 : sc_T} {SC : Nat → sc_T} {d dp m1 pr0 vr nn nd ex k : Nat}
set_option maxHeartbeats 8000000 in
theorem simF (hV0 : hV ρ V tx n) (hV3 : V 2 3 = .ref 26) (stk : List mf_T) (hst : stk.length < 60) (hn320 : n ≤ 320) (hpr0 : pr0 < 16) (hsc1 : ∀ x ∈ sc1, x.1 ≠ 0 → x.1 ≤ pr0) (hm1 : m1 + 6 ≤ vr + 7 * (pr0 + 1)) :
    ∀ (w0 i : Nat) (C R : ai_S) (p p' e w : Nat), i + w0 = 6 → pv C R tx n hf ((pr0 + 1, 0, 0) :: sc1) SC (m1 + i) 7 (pr0 + 1) vr p p' e nn ((19, nd, dp, 0, ex) :: stk) → R 10 (16 * hf + pr0) = nI i → R 11 (16 * hf + pr0) = nI w → w < 2 ^ i → C 31 pr0 = nI i → (∀ j, m1 ≤ j → j < m1 + i → R 21 j = nI (sc1.length + 1)) → (∀ j, j < m1 → ¬ R 21 j = nI (sc1.length + 1)) → 2 * e ≤ 3 * p →
      ai_W (uC l D ρ τ) (d + 3) mX3_formals 21 [(0, .ref 2), (1, .int (nI pr0)), (2, .int (nI m1)), (3, .int (nI i))] [] C V (ai_qz V (pFs z C R tx n hf sc1 SC m1 pr0 vr nn dp nd p e w i stk k (hd z R k stk.length (dp + 1) (16 * hf + pr0) 1 i))) := by
  intro w0
  induction w0 with
  | zero =>
    intro i C R p p' e w hiw hpv h10 h11 hw h31 hl1 hl2 he
    obtain ⟨hT, hp, hpn, hC3, hmq, hsk, h8, h9, hnh, hsp, hsc, hnn3⟩ := id hpv
    obtain ⟨hmT, m2, mpn, m14, mhf, m15, hmf, m19⟩ := id hmq
    refine vX3_formals_21 hV3 ⟨fun _ => Or.inr ⟨rfl, lm_badH (fun hall => ?_)⟩, fun h => absurd ?_ h⟩
    · by_cases h35 : px_c tx n (-1) (px_s tx n p') = 35
      · exact hd_bad mhf (by omega) m19 hmT m2 mpn (Or.inl ⟨h35, rfl⟩) (fun h => by omega) hall
      · exact hd_bad mhf (by omega) m19 hmT m2 mpn (Or.inr ⟨h35, rfl⟩) (fun h => by omega) hall
    · rw [show (6 : Int32) = nI 6 from rfl, i_le (by omega) (by omega)]; omega
  | succ w0 ih =>
    intro i C R p p' e w hiw hpv h10 h11 hw h31 hl1 hl2 he
    obtain ⟨hT, hp, hpn, hC3, hmq, hsk, h8, h9, hnh, hsp, hsc, hnn3⟩ := id hpv
    obtain ⟨hmT, m2, mpn, m14, mhf, m15, hmf, m19⟩ := id hmq
    obtain ⟨⟨t13, t14, t15, t16, t17⟩, hml, h30⟩ := mf_top hmf
    dsimp only at t13 t14 t15 t16 t17
    obtain ⟨s1, s2, s3, s4, s5, s6, s7, s8, s9, s10, s11, s12, s13, s14, s15, s15a, s15b, s16, s17, s18⟩ := id hsp
    have s4' : R 0 37 = nI (sc1.length + 1) := by simpa using s4
    have hskp := px_s_ge tx n p
    have hskn : px_s tx n p ≤ n := px_s_le tx hpn
    have hss := px_s_s tx n p
    have T2 : ∀ v : Int32, ct_T (ai_up C 2 2 v) tx n := fun v => ⟨by rw [ai_up_n (by omega)]; exact hT.1, hT.2.1, fun i hi => by rw [ai_up_n (by omega)]; exact hT.2.2 i hi⟩
    have hl1' : ∀ j, m1 ≤ j → j < m1 + i → R 21 j = R 0 37 := fun j a b => by rw [s4']; exact hl1 j a b
    have hl2' : ∀ j, j < m1 → ¬ R 21 j = R 0 37 := fun j a => by rw [s4']; exact hl2 j a
    obtain ⟨H, hH⟩ : ∃ H, H = hd z R k stk.length (dp + 1) (16 * hf + pr0) 1 i := ⟨_, rfl⟩
    rw [← hH]
    -- no name
    have noname : ∀ (C' : ai_S) (r : Nat), (px_c tx n (-1) (px_s tx n p') = 35 ∧ r = px_s tx n (px_s tx n p' + 1) ∨ ¬ px_c tx n (-1) (px_s tx n p') = 35 ∧ r = px_s tx n p') → ¬ (97 ≤ px_c tx n 0 r ∧ px_c tx n 0 r ≤ 122) → pFs z C R tx n hf sc1 SC m1 pr0 vr nn dp nd p e w i stk k H false C' := by
      intro C' r hr hnl
      refine Or.inr ⟨rfl, lm_badH (fun hall => ?_)⟩
      rw [hH]
      refine hd_bad mhf (by omega) m19 hmT m2 mpn hr (fun _ h => ?_) hall
      by_cases hlt2 : r < n
      · unfold px_c at h hnl
        rw [if_pos hlt2] at h hnl
        exact hnl h
      · unfold px_c at h
        rw [if_neg hlt2] at h
        exact absurd h.1 (by decide)
    -- a name: behind it
    have tail : ∀ (r : Nat) (c kd sw : Int32) (bad by_ : Bool) (w' : Nat), (by_ = true ∧ kd = 0 ∧ sw = 3 ∧ w' = w ||| 2 ^ i ∧ px_c tx n (-1) (px_s tx n p') = 35 ∧ r = px_s tx n (px_s tx n p' + 1) ∧ p + 1 ≤ r ∨ by_ = false ∧ kd = 1 ∧ sw = 4 ∧ w' = w ∧ ¬ px_c tx n (-1) (px_s tx n p') = 35 ∧ r = px_s tx n p' ∧ p ≤ r) → px_c tx n 0 r = c → 97 ≤ c → c ≤ 122 → (bad = true ∧ (∃ i', m1 ≤ i' ∧ i' < m1 + i ∧ R 18 i' = c) ∨ bad = false ∧ ¬ (∃ i', m1 ≤ i' ∧ i' < m1 + i ∧ R 18 i' = c)) →
        ai_met (uC l D ρ τ) (d + 2) mX3_take [.ref 2, .int 41] (frC C (m1 + i) (r + 1) pr0 i e c kd bad by_) V (ai_qz V (fun b15 S16 => (b15 = true → pFs z C R tx n hf sc1 SC m1 pr0 vr nn dp nd p e w i stk k H true S16) ∧ (b15 = false → ai_met (uC l D ρ τ) (d + 2) mX3_take [.ref 2, .int 44] S16 V (ai_qz V (fun b17 S18 => (b17 = true → ai_W (uC l D ρ τ) (d + 3) mX3_formals 21 [(0, .ref 2), (1, .int (nI pr0)), (2, .int (nI m1)), (3, .int (nI i + 1))] [] S18 V (ai_qz V (pFs z C R tx n hf sc1 SC m1 pr0 vr nn dp nd p e w i stk k H))) ∧ (b17 = false → pFs z C R tx n hf sc1 SC m1 pr0 vr nn dp nd p e w i stk k H false S18)))))) := by
      intro r c kd sw bad by_ w' hby hc h97 h122 hbad
      have c0 : c ≠ 0 := fun h => by rw [h] at h97; exact absurd h97 (by decide)
      have c1 : c ≠ -1 := fun h => by rw [h] at h97; exact absurd h97 (by decide)
      have hrn : r < n := px_lt hc c0
      have hc' : px_c tx n (-1) r = c := (px_cc c0 c1).mp hc
      have hpr : p + (if by_ = true then 1 else 0) ≤ r := by
        rcases hby with ⟨h, _, _, _, _, _, h2⟩ | ⟨h, _, _, _, _, _, h2⟩ <;> rw [h] <;> simpa using h2
      obtain ⟨eA, heA⟩ : ∃ eA, eA = if by_ = true then e + 2 else e := ⟨_, rfl⟩
      have heA2 : 2 * eA + 3 * p ≤ 3 * r + 3 + 2 * e ∧ e ≤ eA := by
        rcases hby with ⟨h, _, _, _, _, _, h2⟩ | ⟨h, _, _, _, _, _, h2⟩
        · rw [heA, h]; simp; omega
        · rw [heA, h]; simp; omega
      obtain ⟨pvA, a11, aw, atb, ati⟩ := frm_step (bad := bad) (c := c) (pA := r + 1) (kd := kd) (sw := sw) (w' := w') (by_ := by_) hpv (by omega) h10 h11 hw (by omega) hpr0 hsc1 hrn (by
        rcases hby with ⟨x1, x2, x3, x4, _⟩ | ⟨x1, x2, x3, x4, _⟩
        · exact Or.inl ⟨x1, x2, x3, x4⟩
        · exact Or.inr ⟨x1, x2, x3, x4⟩)
      rw [← heA] at pvA
      obtain ⟨v1, v2, v3, v4, v5, v6, v7, v8, v9⟩ := frC_v (C := C) (m := m1 + i) (pA := r + 1) (pr0 := pr0) (i := i) (e := e) (c := c) (kd := kd) (bad := bad) (by_ := by_)
      obtain ⟨u1, u2, u3, u4, u5, u6, u7, u8, u9, u10, u11⟩ := frR_v (R := R) (m := m1 + i) (pA := r + 1) (pq := 16 * hf + pr0) (i := i) (w' := w') (c := c) (sw := sw) (bad := bad) (by_ := by_)
      obtain ⟨CA, hCA⟩ : ∃ CA, CA = frC C (m1 + i) (r + 1) pr0 i e c kd bad by_ := ⟨_, rfl⟩
      obtain ⟨RA, hRA⟩ : ∃ RA, RA = frR R (m1 + i) (r + 1) (16 * hf + pr0) i w' c sw bad by_ := ⟨_, rfl⟩
      have co : ∀ q j, ¬ (q = 2 ∧ (j = 2 ∨ j = 5)) → ¬ (q = 3 ∧ j = 4) → ¬ (4 ≤ q ∧ q ≤ 7 ∧ j = m1 + i) → ¬ (q = 31 ∧ j = pr0) → ¬ (q = 26 ∧ j = 3) → ¬ (27 ≤ q ∧ q ≤ 29 ∧ e ≤ j) → CA q j = C q j := fun q j a1 a2 a3 a4 a5 a6 => by rw [hCA]; exact frC_o a1 a2 a3 a4 a5 a6
      have ro : ∀ q j, ¬ (q = 0 ∧ (j = 2 ∨ j = 20 ∨ j = 36)) → ¬ ((q = 10 ∨ q = 11) ∧ j = 16 * hf + pr0) → ¬ (18 ≤ q ∧ q ≤ 21 ∧ j = m1 + i) → RA q j = R q j := fun q j a1 a2 a3 => by rw [hRA]; exact frR_o a1 a2 a3
      have hkc : by_ = true → cd CA 0 e = 12 ∧ cd CA 1 e = nI (i + 1) ∧ cd CA 2 e = 0 ∧ cd CA 0 (e + 1) = 16 ∧ cd CA 1 (e + 1) = nI (i + 1) := by rw [hCA]; exact frC_k
      rw [← hCA, ← hRA] at pvA
      rw [← hCA] at v1 v2 v3 v4 v5 v6 v7 v8 v9 ⊢
      rw [← hRA] at u1 u2 u3 u4 u5 u6 u7 u8 u9 u10 u11 a11
      obtain ⟨gT, gp, gpn, gC3, gmq, gsk, g8, g9, gnh, gsp, gsc, gnn⟩ := id pvA
      obtain ⟨gmT, gm2, gmpn, gm14, gmhf, gm15, gmf, gm19⟩ := id gmq
      have mA : mS R RA hf nn m1 pr0 := ⟨by funext j; exact ro _ _ (by omega) (by omega) (by omega), fun q a => by funext j; exact ro _ _ (by omega) (by omega) (by omega), fun j a => ro _ _ (by omega) (by omega) (by omega), fun q a b j hj => ro _ _ (by omega) (by omega) (by omega), fun q a b j hj => ro _ _ (by omega) (by omega) (by omega), fun j hj => ro _ _ (by omega) (by omega) (by omega)⟩
      have cA : cS C CA e pr0 := ⟨fun q a => by funext j; exact co _ _ (by omega) (by omega) (by omega) (by omega) (by omega) (by omega), co _ _ (by omega) (by omega) (by omega) (by omega) (by omega) (by omega), fun q a b j hj => co _ _ (by omega) (by omega) (by omega) (by omega) (by omega) (by omega), fun q a b j hj => co _ _ (by omega) (by omega) (by omega) (by omega) (by omega) (by omega)⟩
      have c5 : CA 2 5 = 1 → C 2 5 = 1 := fun h => by
        cases hb : bad with
        | true => rw [v8 hb] at h; exact absurd h (by decide)
        | false => rw [v9 hb] at h; exact h
      have l21 : ∀ j, m1 ≤ j → j < m1 + (i + 1) → RA 21 j = nI (sc1.length + 1) := fun j a b => by
        by_cases hj : j = m1 + i
        · rw [hj, u6]; exact s4'
        · rw [ro _ _ (by omega) (by omega) (by omega)]; exact hl1 j a (by omega)
      have l21' : ∀ j, j < m1 → ¬ RA 21 j = nI (sc1.length + 1) := fun j a => by rw [ro _ _ (by omega) (by omega) (by omega)]; exact hl2 j a
      have hskA := px_s_ge tx n (r + 1)
      have hskAn : px_s tx n (r + 1) ≤ n := px_s_le tx hrn
      have hssA := px_s_s tx n (r + 1)
      have toH : hdE z RA k stk.length (dp + 1) (16 * hf + pr0) i → H := fun h => by
        rw [hH]
        refine hd_step (m := m1 + i) (m1 := m1) (w := w) (w' := w') (bad := bad) (by_ := by_) (sw := sw) (c := c) (r := r) (by omega) (by omega) m19 hmT m2 mpn h11 hw h10 s2 (by omega) hl1' hl2' ?_ hc' h97 h122 hbad (by rw [← hRA]; exact h)
        rcases hby with ⟨x1, x2, x3, x4, x5, x6, _⟩ | ⟨x1, x2, x3, x4, x5, x6, _⟩
        · exact Or.inl ⟨x1, x3, x4, x5, x6⟩
        · exact Or.inr ⟨x1, x3, x4, x5, x6⟩
      have plc : ∀ (C' : ai_S) (w1 cnt e1 : Nat), (∀ j, j < 3 → ∀ i', i' < eA → cd C' j i' = cd CA j i') → w1.testBit i = by_ → i + 1 ≤ cnt → cx_pl (cd C') w1 (cnt - (i + 1)) (i + 1) eA e1 → cx_pl (cd C') w1 (cnt - i) i e e1 := by
        intro C' w1 cnt e1 hK htb hcn hpl
        rw [show cnt - i = (cnt - (i + 1)) + 1 by omega]
        cases hb : by_ with
        | true =>
          rw [hb] at heA htb
          simp at heA
          subst heA
          obtain ⟨k1, k2, k3, k4, k5⟩ := hkc hb
          exact Or.inl ⟨htb, by rw [hK 0 (by omega) e (by omega)]; exact k1, by rw [hK 1 (by omega) e (by omega)]; exact k2, by rw [hK 2 (by omega) e (by omega)]; exact k3, by rw [hK 0 (by omega) (e + 1) (by omega)]; exact k4, by rw [hK 1 (by omega) (e + 1) (by omega)]; exact k5, hpl⟩
        | false =>
          rw [hb] at heA htb
          simp at heA
          subst heA
          exact Or.inr ⟨htb, hpl⟩
      refine sp_take hV0 gT v1 hrn (fun h41 => ai_zt ?_) (fun h41 => ai_zf (sp_take (tx := tx) hV0 ⟨by rw [ai_up_n (by omega)]; exact gT.1, gT.2.1, fun i hi => by rw [ai_up_n (by omega)]; exact gT.2.2 i hi⟩ ai_up_s hskAn (fun h44 => ai_zt ?_) (fun h44 => ai_zf ?_)))
      · -- the last
        have hltA : px_s tx n (r + 1) < n := px_lt h41 (by decide)
        have h41' : px_c tx n (-1) (px_s tx n (r + 1)) = 41 := (px_cc (by decide) (by decide)).mp h41
        obtain ⟨R', hR'⟩ : ∃ R', R' = mpush (ai_up (ai_up (ai_up RA 0 2 (nI (px_s tx n (r + 1) + 1))) 17 stk.length (nI (16 * hf + pr0))) 13 stk.length 20) (stk.length + 1) 10 (nI (dp + 1)) := ⟨_, rfl⟩
        have hlm : lm z R' (k + 1) → H := fun h => toH (hd_E gmhf gmT u1 hrn (by omega) (by rw [ro _ _ (by omega) (by omega) (by omega)]; exact h30) (fun h' => absurd (h41'.symm.trans h') (by decide)) (fun _ => by rw [← hR']; exact h) (fun _ h' => absurd h41' h'))
        have r0 : ∀ j, j ≠ 2 → j ≠ 30 → R' 0 j = RA 0 j := fun j a b => by rw [hR', push_o (by omega) (by omega), ai_up_n (by omega), ai_up_n (by omega), ai_up_n (by omega)]
        have rq : ∀ q j, ¬ q = 0 → q < 13 ∨ 17 < q → R' q j = RA q j := fun q j a b => by rw [hR', push_o (by omega) (by omega), ai_up_n (by omega), ai_up_n (by omega), ai_up_n (by omega)]
        have mR : mE RA R' (350 * hf + nn) (350 * hf + 350) := by rw [hR']; exact (((mE.rf.u0 2 _ (by omega)).uF 17 _ _ (by omega) (by omega)).uF 13 _ _ (by omega) (by omega)).push _ _ _
        have cE2 : cE CA (ai_up CA 2 2 (nI (px_s tx n (r + 1) + 1))) eA := cE.rf.u2 2 _ (by omega)
        refine Or.inl ⟨rfl, R', i + 1, w', px_s tx n (r + 1) + 1, eA, hlm, ?_, by omega, by omega, by rw [rq _ _ (by omega) (by omega)]; exact u7, by rw [rq _ _ (by omega) (by omega)]; exact a11, fr_lt64 (by omega) aw, atb, by rw [ai_up_n (by omega)]; exact v7, fun j a b => by rw [rq _ _ (by omega) (by omega)]; exact l21 j a b, fun j a => by rw [rq _ _ (by omega) (by omega)]; exact l21' j a, by split at hpr <;> omega, by omega, heA2.2, fun q a b j => by rw [rq _ _ (by omega) (by omega)]; exact ro _ _ (by omega) (by omega) (by omega), mA.tr (mR.ms (Nat.le_refl _) (Nat.le_refl _)) (Nat.le_refl _) (Nat.le_refl _) (Nat.le_refl _), cA.tr cE2.cs heA2.2 (Nat.le_refl _), fun j => by rw [ai_up_n (by omega)]; exact co _ _ (by omega) (by omega) (by omega) (by omega) (by omega) (by omega), fun hN => ?_⟩
        · refine pv_of pvA cE2 mR ai_up_s hltA (by rw [ai_up_n (by omega)]; exact gC3) (by rw [hR']; simp [mpush, ai_up_eq]) hltA (by rw [r0 15 (by omega) (by omega)]; exact gm15) ?_ (by rw [r0 19 (by omega) (by omega)]; exact gm19) rfl (by rw [r0 24 (by omega) (by omega), ai_up_n (by omega)]; exact g9) (by rw [r0 20 (by omega) (by omega), ai_up_n (by omega)]; exact gnh) (Nat.le_refl _) gnn
          rw [hR']
          have tA : ∀ q j, 13 ≤ q → q ≤ 17 → RA q j = R q j := fun q j a b => ro _ _ (by omega) (by omega) (by omega)
          refine mf_push (stk := (20, nd, dp, 0, 16 * hf + pr0) :: stk) ⟨mf_at_of ?_ ?_ ?_ ?_ ?_, ?_⟩ 10 (dp + 1)
          · rw [ai_up_s]; rfl
          · rw [ai_up_n (by omega), ai_up_n (by omega), ai_up_n (by omega), tA _ _ (by omega) (by omega)]; exact t14
          · rw [ai_up_n (by omega), ai_up_n (by omega), ai_up_n (by omega), tA _ _ (by omega) (by omega)]; exact t15
          · rw [ai_up_n (by omega), ai_up_n (by omega), ai_up_n (by omega), tA _ _ (by omega) (by omega)]; exact t16
          · rw [ai_up_n (by omega), ai_up_s]
          · exact mf_l_o (mf_l_o (mf_l_o (mf_l_keep stk (fun q h1 h2 j hj => tA q j h1 h2) hml) 0 2 _ (by omega)) 17 _ _ (by omega)) 13 _ _ (by omega)
        · rw [ai_up_n (by omega)] at hN
          refine ⟨c5 hN, plc _ w' (i + 1) eA (fun j hj i' _ => ai_up_n (by omega)) ati (Nat.le_refl _) ?_⟩
          rw [Nat.sub_self]
          exact (rfl : eA = eA)
      · -- one more
        rw [hssA] at h44 ⊢
        rw [ai_up_up]
        have hltA : px_s tx n (r + 1) < n := px_lt h44 (by decide)
        have h44' : px_c tx n (-1) (px_s tx n (r + 1)) = 44 := (px_cc (by decide) (by decide)).mp h44
        obtain ⟨RB, hRB⟩ : ∃ RB, RB = ai_up RA 0 2 (nI (px_s tx n (r + 1) + 1)) := ⟨_, rfl⟩
        have toH2 : hd z RB k stk.length (dp + 1) (16 * hf + pr0) 1 (i + 1) → H := fun h => toH (hd_E gmhf gmT u1 hrn (by omega) (by rw [ro _ _ (by omega) (by omega) (by omega)]; exact h30) (fun _ => by rw [← hRB]; exact h) (fun h' => absurd (h44'.symm.trans h') (by decide)) (fun h' _ => absurd h44' h'))
        have rb : ∀ q j, ¬ (q = 0 ∧ j = 2) → RB q j = RA q j := fun q j a => by rw [hRB, ai_up_n (by omega)]
        have mB : mE RA RB (350 * hf + nn) (350 * hf + 350) := by rw [hRB]; exact mE.rf.u0 2 _ (by omega)
        have cE2 : cE CA (ai_up CA 2 2 (nI (px_s tx n (r + 1) + 1))) eA := cE.rf.u2 2 _ (by omega)
        have pvB : pv (ai_up CA 2 2 (nI (px_s tx n (r + 1) + 1))) RB tx n hf ((pr0 + 1, 0, 0) :: sc1) SC (m1 + (i + 1)) 7 (pr0 + 1) vr (px_s tx n (r + 1) + 1) (px_s tx n (r + 1) + 1) eA nn ((19, nd, dp, 0, ex) :: stk) := by
          refine pv_of pvA cE2 mB ai_up_s hltA (by rw [ai_up_n (by omega)]; exact gC3) (by rw [hRB]; exact ai_up_s) hltA (by rw [rb _ _ (by omega)]; exact gm15) ?_ (by rw [rb _ _ (by omega)]; exact gm19) rfl (by rw [rb _ _ (by omega), ai_up_n (by omega)]; exact g9) (by rw [rb _ _ (by omega), ai_up_n (by omega)]; exact gnh) (Nat.le_refl _) gnn
          rw [hRB]
          exact mf_o gmf 0 2 _ (by omega) (by omega)
        rw [nI_1 i]
        refine (ih (i + 1) _ RB (px_s tx n (r + 1) + 1) (px_s tx n (r + 1) + 1) eA w' (by omega) pvB (by rw [rb _ _ (by omega)]; exact u7) (by rw [rb _ _ (by omega)]; exact a11) aw (by rw [ai_up_n (by omega)]; exact v7) (fun j a b => by rw [rb _ _ (by omega)]; exact l21 j a b) (fun j a => by rw [rb _ _ (by omega)]; exact l21' j a) (by omega)).mono ?_
        rintro rr C' V' ⟨h1, b, h2, h3⟩
        refine ⟨h1, b, h2, ?_⟩
        rcases h3 with ⟨hb, R', cnt, w1, p1, e1, x1, x2, x3, x4, x5, x6, x7, x8, x9, x10, x11, x12, x13, x14, x15, x16, x17, x18, x19⟩ | ⟨hb, R', x1, x2⟩
        · refine Or.inl ⟨hb, R', cnt, w1, p1, e1, fun h => toH2 (x1 h), x2, by omega, x4, x5, x6, x7, fun b' hb' => by rw [x8 b' (by omega)]; exact atb b' hb', x9, x10, x11, by split at hpr <;> omega, by omega, by omega, fun q a b j => by rw [x15 q a b j, rb _ _ (by omega)]; exact ro _ _ (by omega) (by omega) (by omega), (mA.tr (mB.ms (Nat.le_refl _) (Nat.le_refl _)) (Nat.le_refl _) (Nat.le_refl _) (Nat.le_refl _)).tr x16 (Nat.le_refl _) (Nat.le_refl _) (Nat.le_refl _), (cA.tr (cE2.cs (pr := pr0)) heA2.2 (Nat.le_refl _)).tr x17 heA2.2 (Nat.le_refl _), fun j => by rw [x18 j, ai_up_n (by omega)]; exact co _ _ (by omega) (by omega) (by omega) (by omega) (by omega) (by omega), fun hN => ?_⟩
          obtain ⟨y1, y2⟩ := x19 hN
          rw [ai_up_n (by omega)] at y1
          refine ⟨c5 y1, plc C' w1 cnt e1 (fun j hj i' hi' => ?_) (by rw [x8 i (by omega)]; exact ati) x3 y2⟩
          rw [show cd C' j i' = cd (ai_up CA 2 2 (nI (px_s tx n (r + 1) + 1))) j i' from x17.2.2.1 (27 + j) (by omega) (by omega) i' hi']
          exact ai_up_n (by omega)
        · exact Or.inr ⟨hb, R', x1, fun h => toH2 (x2 h)⟩
      · -- neither
        rw [hssA] at h44
        refine Or.inr ⟨rfl, lm_badH (fun hall => toH (hd_E gmhf gmT u1 hrn (by omega) (by rw [ro _ _ (by omega) (by omega) (by omega)]; exact h30) (fun h' => absurd ((px_cc (by decide) (by decide)).mpr h') h44) (fun h' => absurd ((px_cc (by decide) (by decide)).mpr h') h41) (fun _ _ => hall)))⟩
    have e1i : (1 : Int32) + nI i = nI (i + 1) := by rw [Int32.add_comm, nI_1]
    have hb18 : ∀ (v : Int32) (c : Int32), (∃ i', m1 ≤ i' ∧ i' < m1 + i ∧ ai_up C 2 2 v 4 i' = c) ↔ ∃ i', m1 ≤ i' ∧ i' < m1 + i ∧ R 18 i' = c := fun v c => by
      constructor
      · rintro ⟨i', a, b, h⟩
        rw [ai_up_n (by omega), (s16 i' b).1] at h
        exact ⟨i', a, b, h⟩
      · rintro ⟨i', a, b, h⟩
        exact ⟨i', a, b, by rw [ai_up_n (by omega), (s16 i' b).1]; exact h⟩
    have d6 : ∀ (pA : Nat) (c kd : Int32), decC (ai_up C 2 2 (nI pA)) (m1 + i) c kd (nI (i + 1)) 26 6 = nI (pr0 + 1) := fun pA c kd => by
      unfold decC
      rw [ai_up_n (by omega), ai_up_n (by omega), ai_up_n (by omega), ai_up_n (by omega), ai_up_n (by omega), ai_up_n (by omega)]; exact s6
    have d3 : ∀ (pA : Nat) (c kd : Int32), decC (ai_up C 2 2 (nI pA)) (m1 + i) c kd (nI (i + 1)) 26 3 = nI e := fun pA c kd => by
      unfold decC
      rw [ai_up_n (by omega), ai_up_n (by omega), ai_up_n (by omega), ai_up_n (by omega), ai_up_n (by omega), ai_up_n (by omega)]; exact hC3
    refine vX3_formals_21 hV3 ⟨fun h => absurd h ?_, fun _ => ?_⟩
    · rw [show (6 : Int32) = nI 6 from rfl, i_le (by omega) (by omega)]; omega
    rw [e1i]
    refine sp_take hV0 hT hp hpn (fun h35 => ai_zt ?_) (fun h35 => ai_zf ?_)
    · have hlt : px_s tx n p < n := px_lt h35 (by decide)
      have h35' : px_c tx n (-1) (px_s tx n p') = 35 := by rw [← hsk]; exact (px_cc (by decide) (by decide)).mp h35
      have hsk3 := px_s_ge tx n (px_s tx n p + 1)
      refine sp_takeName hV0 (T2 _) ai_up_s hlt (fun c hc h97 h122 => ⟨fun _ => ?_, fun h => ?_⟩) (fun c hc hnl => ⟨fun h => absurd rfl h, fun _ => noname _ _ (Or.inl ⟨h35', by rw [← hsk]⟩) (by rw [hc]; exact hnl)⟩)
      · rw [ai_up_up]
        have T := fun bad hb => tail (px_s tx n (px_s tx n p + 1)) c 0 3 bad true (w ||| 2 ^ i) (Or.inl ⟨rfl, rfl, rfl, rfl, h35', by rw [← hsk], by omega⟩) hc h97 h122 hb
        refine sp_declare (m := m1 + i) (mk := m1) (by rw [ai_up_n (by omega)]; exact s1) (by omega) (by omega) (fun hd' => ?_) (fun hd' => ?_)
        · have TT := T true (Or.inl ⟨rfl, (hb18 _ _).mp hd'⟩)
          refine sp_setFC (pr := pr0 + 1) (by rw [ai_up_n (by omega)]; exact d6 _ _ _) (by omega) (by omega) ?_
          refine sp_cadd (e := e) (by rw [ai_up_n (by omega), ai_up_n (by omega)]; exact d3 _ _ _) (by omega) (sp_cadd (e := e + 1) (by simp [cadd, ai_up_eq]) (by omega) ?_)
          rw [nI_1 i]
          rw [nI_1 i] at TT
          simpa only [frC, if_true] using TT
        · have TT := T false (Or.inr ⟨rfl, fun h => hd' ((hb18 _ _).mpr h)⟩)
          refine sp_setFC (pr := pr0 + 1) (d6 _ _ _) (by omega) (by omega) ?_
          refine sp_cadd (e := e) (by rw [ai_up_n (by omega)]; exact d3 _ _ _) (by omega) (sp_cadd (e := e + 1) (by simp [cadd, ai_up_eq]) (by omega) ?_)
          rw [nI_1 i]
          rw [nI_1 i] at TT
          simpa only [frC, if_true, if_false, Bool.false_eq_true] using TT
      · rw [h] at h97; exact absurd h97 (by decide)
    · have h35' : ¬ px_c tx n (-1) (px_s tx n p') = 35 := by rw [← hsk]; exact fun h => h35 ((px_cc (by decide) (by decide)).mpr h)
      refine sp_takeName hV0 (T2 _) ai_up_s hskn (fun c hc h97 h122 => ⟨fun _ => ?_, fun h => ?_⟩) (fun c hc hnl => ⟨fun h => absurd rfl h, fun _ => noname _ _ (Or.inr ⟨h35', hsk⟩) (by rw [hss] at hc; rw [hc]; exact hnl)⟩)
      · rw [hss] at hc ⊢
        rw [ai_up_up]
        have T := fun bad hb => tail (px_s tx n p) c 1 4 bad false w (Or.inr ⟨rfl, rfl, rfl, rfl, h35', hsk, hskp⟩) hc h97 h122 hb
        refine sp_declare (m := m1 + i) (mk := m1) (by rw [ai_up_n (by omega)]; exact s1) (by omega) (by omega) (fun hd' => ?_) (fun hd' => ?_)
        · have TT := T true (Or.inl ⟨rfl, (hb18 _ _).mp hd'⟩)
          refine sp_setFC (pr := pr0 + 1) (by rw [ai_up_n (by omega)]; exact d6 _ _ _) (by omega) (by omega) ?_
          rw [nI_1 i]
          rw [nI_1 i] at TT
          simpa only [frC, if_true, if_false, Bool.false_eq_true] using TT
        · have TT := T false (Or.inr ⟨rfl, fun h => hd' ((hb18 _ _).mpr h)⟩)
          refine sp_setFC (pr := pr0 + 1) (d6 _ _ _) (by omega) (by omega) ?_
          rw [nI_1 i]
          rw [nI_1 i] at TT
          simpa only [frC, if_true, if_false, Bool.false_eq_true] using TT
      · rw [h] at h97; exact absurd h97 (by decide)
end FRS
