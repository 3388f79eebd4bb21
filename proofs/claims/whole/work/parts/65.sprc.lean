/-! ===== a procedure, simulated ===== -/
def pPr (z : lm_T) (C R C' : ai_S) (tx : Nat → Int32) (n hf : Nat) (sc : sc_T) (SC : Nat → sc_T) (mk bs m ns pr vr dp p e nn nn0 : Nat) (stk : List mf_T) (k : Nat) : Prop :=
  ∃ (R' : ai_S) (j p1 p1' e1 nn1 pr1 vr1 ex1 : Nat) (SC1 : Nat → sc_T), (bk z R' (k + j) stk.length (dp + 1) → bk z R k stk.length (dp + 1)) ∧ pv C' R' tx n hf ((0, bs, 350 * hf + nn0 + 1) :: sc) SC1 (m + 1) ns pr1 vr1 p1 p1' e1 nn1 ((19, 350 * hf + nn0 + 1, dp, 0, ex1) :: stk) ∧ p < p1 ∧ 2 * e1 + 3 * p ≤ 3 * p1 + 2 * e ∧ nn1 + p ≤ nn + p1 ∧ nn ≤ nn1 ∧ e < e1 ∧ j + 12 * p ≤ 12 * p1 ∧ (∀ i, mk ≤ i → i < m + 1 → R' 21 i = nI (sc.length + 1)) ∧ (∀ i, i < mk → ¬ R' 21 i = nI (sc.length + 1)) ∧ (∀ q, 2 ≤ q → q ≤ 8 → ∀ i, i ≤ 350 * hf + nn → R' q i = R q i) ∧ mS R R' hf nn0 mk pr ∧ cS C C' e pr ∧ pr + 1 ≤ pr1 ∧ vr ≤ vr1 ∧ scw SC1 pr1 hf nn1 ∧ (∀ q, q < pr → SC1 q = SC q) ∧
    (C' 2 5 = 1 → C 2 5 = 1 ∧ cd C' 0 e = 3 ∧ cd C' 1 e = nI e1 ∧ pf C' R' hf SC1 nn nn1 (350 * hf + nn0 + 1) e e1 pr pr1)
section SPR
variable {l : Launch} {D : va_G} {ρ : Nat → Nat} {τ : Nat → ClassId} {z : lm_T} {V : ai_V} {tx : Nat → Int32} {n hf : Nat} {sc : sc_T} {SC : Nat → sc_T} {m ns pr vr d dp mk bs nn0 ex K : Nat} {C R : ai_S} {p p' e nn k : Nat} {stk : List mf_T} {G : Bool → ai_S → Prop}
set_option maxHeartbeats 8000000 in
theorem sim_prc (hV0 : hV ρ V tx n) (hV3 : V 2 3 = .ref 26) (hdp : dp ≤ 10) (hK : K ≤ 10) (hS : sS l D ρ τ z V tx n hf (d + 3) (dp + 1) K) (hst : stk.length + 1 ≤ dp) (hsl : sc.length + 2 ≤ 2 * dp) (hcl : sc_cl sc + 1 ≤ dp ∧ slo hf sc) (hpv : pv C R tx n hf ((0, bs, 350 * hf + nn0 + 1) :: sc) SC m ns pr vr p p' e nn ((19, 350 * hf + nn0 + 1, dp, 0, ex) :: stk)) (hscw : scw SC pr hf nn) (hmk : mk ≤ m) (hl1 : ∀ i, mk ≤ i → i < m → R 21 i = nI (sc.length + 1)) (hl2 : ∀ i, i < mk → ¬ R 21 i = nI (sc.length + 1)) (hnn0 : nn0 + 1 ≤ nn) (he : 2 * e ≤ 3 * p) (hnn : nn ≤ p) (hk : k + 12 * (n - p) + 51 ≤ 100000) (h64 : px_c tx n 0 (px_s tx n p) = 64)
    (hok : ∀ C' : ai_S, pPr z C R C' tx n hf sc SC mk bs m ns pr vr dp p e nn nn0 stk k → G true C') (hno : ∀ C' : ai_S, (∃ (R' : ai_S) (j : Nat), bd tx R' ∧ (lm z R' (k + j) → bk z R k stk.length (dp + 1))) → G false C') :
    ai_met (uC l D ρ τ) (d + 4) mX3_procedure [.ref 2, .int (nI dp), .int (nI mk)] (ai_up C 2 2 (nI (px_s tx n p + 1))) V (ai_qz V G) := by
  obtain ⟨hT, hp, hpn, hC3, hmq, hsk, h8, h9, hnh, hsp, hsc, hnn3⟩ := id hpv
  have hn320 : n ≤ 320 := hT.2.1
  obtain ⟨hmT, m2, mpn, m14, mhf, m15, hmf, m19⟩ := id hmq
  obtain ⟨⟨t13, t14, t15, t16, t17⟩, hml, h30⟩ := mf_top hmf
  dsimp only at t13 t14 t15 t16 t17
  obtain ⟨s1, s2, s3, s4, s5, s6, s7, s8, s9, s10, s11, s12, s13, s14, s15, s15a, s15b, s16, s17, s18⟩ := id hsp
  have s3' : C 3 5 = nI (sc_cl sc) := by rw [s3]; simp [sc_cl]
  have s4' : R 0 37 = nI (sc.length + 1) := by simpa using s4
  have hw1 : ∀ x ∈ ((0, bs, 350 * hf + nn0 + 1) :: sc : sc_T), x.1 ≠ 0 → x.1 ≤ pr := (sp_w hsp).1
  have hlt : px_s tx n p < n := px_lt h64 (by decide)
  have hskp := px_s_ge tx n p
  have h64' : px_c tx n (-1) (px_s tx n p') = 64 := by rw [← hsk]; exact (px_cc (by decide) (by decide)).mp h64
  have hsk3 := px_s_ge tx n (px_s tx n p + 1)
  have hsk4 := px_s_ge tx n (px_s tx n (px_s tx n p + 1) + 1)
  have T2 : ∀ v : Int32, ct_T (ai_up C 2 2 v) tx n := fun v => ⟨by rw [ai_up_n (by omega)]; exact hT.1, hT.2.1, fun i hi => by rw [ai_up_n (by omega)]; exact hT.2.2 i hi⟩
  have T2m : ∀ v : Int32, mt_T (ai_up R 0 2 v) tx n := fun v => ⟨by rw [ai_up_n (by omega)]; exact hmT.1, hmT.2.1, fun i hi => by rw [ai_up_n (by omega)]; exact hmT.2.2 i hi⟩
  obtain ⟨H, hH⟩ : ∃ H, H = bk z R k stk.length (dp + 1) := ⟨_, rfl⟩
  unfold pPr at hok
  rw [← hH] at hok hno
  obtain ⟨RQ, hRQ⟩ : ∃ RQ, RQ = ai_up R 0 2 (nI (px_s tx n p' + 1)) := ⟨_, rfl⟩
  have rQ : ∀ q j, ¬ (q = 0 ∧ j = 2) → RQ q j = R q j := fun q j a => by rw [hRQ, ai_up_n (by omega)]
  have toH : ai_met (lm_u z) (z.2.2.2.2.1 + 5) mX6_heading [.ref 0, .int (nI stk.length), .int (nI (dp + 1))] RQ (lm_V z) (ai_qv (lm_V z) (fun S => lm z S (k + 1))) → H := fun h => by
    rw [hH]
    exact bk_prc (by omega) hmT m2 mpn t13 h64' (by rw [← hRQ]; exact h)
  have hl1' : ∀ i, mk ≤ i → i < m → RQ 21 i = RQ 0 37 := fun i a b => by rw [rQ _ _ (by omega), rQ _ _ (by omega), s4']; exact hl1 i a b
  have hl2' : ∀ i, i < mk → ¬ RQ 21 i = RQ 0 37 := fun i a => by rw [rQ _ _ (by omega), rQ _ _ (by omega), s4']; exact hl2 i a
  have TQ : mt_T RQ tx n := by rw [hRQ]; exact T2m _
  have opn : ∀ (c c2 : Int32), px_c tx n (-1) (px_s tx n (px_s tx n p + 1)) = c → (97 ≤ c ∧ c ≤ 122 → px_c tx n (-1) (px_s tx n (px_s tx n (px_s tx n p + 1) + 1)) = c2) → _ → _ → H := fun c c2 hc hc2 hB hG => toH (hd_open (q := px_s tx n p + 1) (m := m) (mk := mk) (pr := pr) (hf := hf) (lv := sc.length + 1) TQ (by rw [hRQ, ai_up_s, hsk]) hlt (by rw [rQ _ _ (by omega)]; exact m19) (by rw [rQ _ _ (by omega)]; exact s7) s10 (by rw [rQ _ _ (by omega)]; exact m14) ⟨mhf.1, by rw [hRQ]; exact mhf.2.u (by omega)⟩ (by rw [rQ _ _ (by omega)]; exact s2) (by omega) (by rw [rQ _ _ (by omega)]; exact s4') hl1' hl2' hc hc2 hB hG)
  have ref : ∀ (c c2 : Int32), px_c tx n (-1) (px_s tx n (px_s tx n p + 1)) = c → (97 ≤ c ∧ c ≤ 122 → px_c tx n (-1) (px_s tx n (px_s tx n (px_s tx n p + 1) + 1)) = c2) → (¬ (97 ≤ c ∧ c ≤ 122) ∨ ¬ c2 = 40 ∨ ¬ pr < 16) → ∃ (R' : ai_S) (j : Nat), bd tx R' ∧ (lm z R' (k + j) → H) := by
    intro c c2 hc hc2 hbad
    obtain ⟨R', g1, g2⟩ := lm_badH (tx := tx) (z := z) (k' := k + 1) (H := H) (fun hall => opn c c2 hc hc2 (fun _ => hall) (fun a1 a2 a3 a4 => absurd hbad (by
      rintro (h | h | h)
      · exact h ⟨a1, a2⟩
      · exact h a3
      · exact h a4)))
    exact ⟨R', 1, g1, g2⟩
  refine vX3_procedure hV3 (sp_takeName hV0 (T2 _) ai_up_s hlt (fun c hc h97 h122 => ⟨fun h => ?_, fun _ => ?_⟩) (fun c hc hnl => ⟨fun _ => hno _ ?_, fun h => absurd rfl h⟩))
  · rw [h] at h97; exact absurd h97 (by decide)
  · have c0 : c ≠ 0 := fun h => by rw [h] at h97; exact absurd h97 (by decide)
    have c1 : c ≠ -1 := fun h => by rw [h] at h97; exact absurd h97 (by decide)
    have hlt2 : px_s tx n (px_s tx n p + 1) < n := px_lt hc c0
    have hc' : px_c tx n (-1) (px_s tx n (px_s tx n p + 1)) = c := (px_cc c0 c1).mp hc
    rw [ai_up_up]
    refine sp_take hV0 (T2 _) ai_up_s hlt2 (fun h40 => ai_zt ?_) (fun h40 => ai_zf (hno _ (ref c _ hc' (fun _ => rfl) (Or.inr (Or.inl (fun h => h40 ((px_cc (by decide) (by decide)).mpr h)))))))
    have hlt3 : px_s tx n (px_s tx n (px_s tx n p + 1) + 1) < n := px_lt h40 (by decide)
    have h40' : px_c tx n (-1) (px_s tx n (px_s tx n (px_s tx n p + 1) + 1)) = 40 := (px_cc (by decide) (by decide)).mp h40
    obtain ⟨p3, hp3⟩ : ∃ p3, p3 = px_s tx n (px_s tx n (px_s tx n p + 1) + 1) + 1 := ⟨_, rfl⟩
    rw [ai_up_up, ← hp3, ai_up_n (by omega : ¬ (26 = 2 ∧ 6 = 2)), s6, show (16 : Int32) = nI 16 from rfl, i_lt (by omega) (by omega)]
    refine ⟨fun h16 => ?_, fun h16 => hno _ (ref c 40 hc' (fun _ => h40') (Or.inr (Or.inr h16)))⟩
    refine sp_cadd (e := e) (by rw [ai_up_n (by omega)]; exact hC3) (by omega) ?_
    refine sp_addProc (pr := pr) (by simp [cadd, ai_up_eq, s6]) h16 ?_
    rw [show cadd (ai_up C 2 2 (nI p3)) e 3 0 0 26 3 = nI (e + 1) from ai_up_s]
    obtain ⟨X3, hX3⟩ : ∃ X3, X3 = ai_up (ai_up (ai_up (cadd (ai_up C 2 2 (nI p3)) e 3 0 0) 30 pr (nI (e + 1))) 31 pr 0) 26 6 (nI (pr + 1)) := ⟨_, rfl⟩
    have x3o : ∀ q j, 3 ≤ q → q ≤ 8 → X3 q j = C q j := fun q j a b => by rw [hX3]; unfold cadd; rw [ai_up_n (by omega), ai_up_n (by omega), ai_up_n (by omega), ai_up_n (by omega), ai_up_n (by omega), ai_up_n (by omega), ai_up_n (by omega), ai_up_n (by omega)]
    rw [← hX3]
    have hb18 : (∃ i', mk ≤ i' ∧ i' < m ∧ X3 4 i' = c) ↔ ∃ i', mk ≤ i' ∧ i' < m ∧ RQ 18 i' = c := by
      constructor
      · rintro ⟨i', a, b, h⟩
        rw [x3o _ _ (by omega) (by omega), (s16 i' b).1] at h
        exact ⟨i', a, b, by rw [rQ _ _ (by omega)]; exact h⟩
      · rintro ⟨i', a, b, h⟩
        exact ⟨i', a, b, by rw [x3o _ _ (by omega) (by omega), (s16 i' b).1, ← rQ _ _ (by omega)]; exact h⟩
    -- behind the name
    have main : ∀ (bad : Bool) (S12 : ai_S), S12 = prC C m e pr p3 c bad → (bad = true ∧ (∃ i', mk ≤ i' ∧ i' < m ∧ RQ 18 i' = c) ∨ bad = false ∧ ¬ (∃ i', mk ≤ i' ∧ i' < m ∧ RQ 18 i' = c)) → (¬ ((S12 3 5) + 1) < 0 ∧ (¬ 10 < ((S12 3 5) + 1) ∧ (vp_in ((S12 3 5) + 1) 11 ∧ ai_met (uC l D ρ τ) (d + 3) mX3_formals [.ref 2, .int (nI pr)] (ai_up (ai_up (ai_up S12 3 5 ((S12 3 5) + 1)) 8 (((S12 3 5) + 1)).toNatClampNeg (nI pr)) 3 7 7) V (ai_qz V (fun b16 S17 => (b16 = true → ai_met (uC l D ρ τ) (d + 3) mX3_statement [.ref 2, .int (nI dp + 1)] S17 V (ai_qz V (fun b18 S19 => (b18 = true → ai_met (uC l D ρ τ) (d + 3) mX2_add [.ref 26, .int 17, .int 0, .int 0] (ai_up (ai_up (ai_up S19 3 5 ((S19 3 5) - 1)) 3 7 (S12 3 7)) 3 4 (S12 3 4)) V (ai_qi V (fun x20 S21 => ai_met (uC l D ρ τ) (d + 3) mX2_setFirst [.ref 26, .int (nI e), .int (S21 26 3)] S21 V (ai_qv V (fun S23 => G true S23))))) ∧ (b18 = false → G false S19)))) ∧ (b16 = false → G false S17)))))) := by
      intro bad S12 hS12 hbad
      clear hb18
      obtain ⟨v1, v2, v3, v4, v5, v6, v7, v8, v9, v10, v11, v12, v13⟩ := prC_v (C := C) (m := m) (e := e) (pr := pr) (p3 := p3) (c := c) (bad := bad)
      rw [← hS12] at v1 v2 v3 v4 v5 v6 v7 v8 v9 v10 v11 v12 v13
      have e35 : S12 3 5 = nI (sc_cl sc) := by rw [hS12, prC_o (by omega) (by omega) (by omega) (by omega) (by omega) (by omega)]; exact s3'
      have e37 : S12 3 7 = nI ns := by rw [hS12, prC_o (by omega) (by omega) (by omega) (by omega) (by omega) (by omega)]; exact s5
      rw [e35, e37, v2, nI_1 (sc_cl sc), nI_clamp (by omega), hS12, show ai_up (ai_up (ai_up (prC C m e pr p3 c bad) 3 5 (nI (sc_cl sc + 1))) 8 (sc_cl sc + 1) (nI pr)) 3 7 7 = prC5 C m e pr p3 (sc_cl sc) c bad from rfl]
      refine ⟨nI_pos (by omega), by rw [show (10 : Int32) = nI 10 from rfl, i_lt (by omega) (by omega)]; omega, i_in (by omega) (by omega), ?_⟩
      have hpv4 := pr_pv (c := c) (bad := bad) (q := px_s tx n p' + 1) hpv h16 (by omega) (by omega) (show p3 ≤ n by omega)
      obtain ⟨u1, u2, u3, u4, u5, u6, u7, u8, u9, u10, u11, u12⟩ := hdR_v (R := RQ) (m := m) (pq := 16 * hf + pr) (p3 := p3) (pr := pr) (lv := sc.length + 1) (c := c) (bad := bad)
      rw [← hRQ] at hpv4
      obtain ⟨R4, hR4⟩ : ∃ R4, R4 = hdR RQ m (16 * hf + pr) p3 pr (sc.length + 1) c bad := ⟨_, rfl⟩
      rw [← hR4] at hpv4 u1 u2 u3 u4 u5 u6 u7 u8 u9 u10 u11 u12
      obtain ⟨C5, hC5⟩ : ∃ C5, C5 = prC5 C m e pr p3 (sc_cl sc) c bad := ⟨_, rfl⟩
      rw [← hC5] at hpv4 ⊢
      have c54 : ∀ {q j : Nat}, ¬ (q = 3 ∧ (j = 5 ∨ j = 7)) → ¬ q = 8 → C5 q j = S12 q j := fun a b => by rw [hC5, hS12]; exact prC5_4 a b
      have c5 : ∀ {q j : Nat}, ¬ (q = 2 ∧ (j = 2 ∨ j = 5)) → ¬ (q = 3 ∧ (j = 4 ∨ j = 5 ∨ j = 7)) → ¬ (4 ≤ q ∧ q ≤ 7 ∧ j = m) → ¬ (30 ≤ q ∧ q ≤ 31 ∧ j = pr) → ¬ (q = 26 ∧ (j = 3 ∨ j = 6)) → ¬ (27 ≤ q ∧ q ≤ 29 ∧ j = e) → ¬ (q = 8 ∧ j = sc_cl sc + 1) → C5 q j = C q j := fun a b c' d e' f g => by rw [hC5]; exact prC5_o a b c' d e' f g
      have r4 : ∀ q' j, ¬ (q' = 0 ∧ (j = 2 ∨ j = 20 ∨ j = 21 ∨ j = 36 ∨ j = 37)) → ¬ ((q' = 10 ∨ q' = 11) ∧ j = 16 * hf + pr) → ¬ (18 ≤ q' ∧ q' ≤ 21 ∧ j = m) → R4 q' j = R q' j := fun q' j a b c' => by rw [hR4, hdR_o a b c', rQ _ _ (by omega)]
      have hN25 : C5 2 5 = 1 → C 2 5 = 1 := fun h => by
        rw [c54 (by omega) (by omega)] at h
        cases hb : bad with
        | true => rw [v12 hb] at h; exact absurd h (by decide)
        | false => rw [v13 hb] at h; exact h
      have r421 : ∀ j, mk ≤ j → j < m + 1 → R4 21 j = nI (sc.length + 1) := fun j a b => by
        by_cases hj : j = m
        · rw [hj, u8, rQ _ _ (by omega)]; exact s4'
        · rw [r4 _ _ (by omega) (by omega) (by omega)]; exact hl1 j a (by omega)
      have r421' : ∀ j, j < mk → ¬ R4 21 j = nI (sc.length + 1) := fun j a => by rw [r4 _ _ (by omega) (by omega) (by omega)]; exact hl2 j a
      have lv2 : ∀ j, j < m + 1 → ¬ R4 21 j = nI (((0, bs, 350 * hf + nn0 + 1) :: sc : sc_T).length + 1) := fun j a => by
        rw [List.length_cons]
        by_cases hj : j = m
        · rw [hj, u8, rQ _ _ (by omega), s4', i_eq (by omega) (by omega)]; omega
        · obtain ⟨_, o, x, _, g3, _⟩ := s16 j (by omega)
          rw [r4 _ _ (by omega) (by omega) (by omega), g3, List.length_cons, i_eq (by omega) (by omega)]; omega
      have mS4 : mS R R4 hf nn0 mk pr := ⟨by funext j; exact r4 _ _ (by omega) (by omega) (by omega), fun q a => by funext j; exact r4 _ _ (by omega) (by omega) (by omega), fun j a => r4 _ _ (by omega) (by omega) (by omega), fun q a b j hj => r4 _ _ (by omega) (by omega) (by omega), fun q a b j hj => r4 _ _ (by omega) (by omega) (by omega), fun j hj => r4 _ _ (by omega) (by omega) (by omega)⟩
      have cS5 : cS C C5 e pr := ⟨fun q a => by funext j; exact c5 (by omega) (by omega) (by omega) (by omega) (by omega) (by omega) (by omega), c5 (by omega) (by omega) (by omega) (by omega) (by omega) (by omega) (by omega), fun q a b j hj => c5 (by omega) (by omega) (by omega) (by omega) (by omega) (by omega) (by omega), fun q a b j hj => c5 (by omega) (by omega) (by omega) (by omega) (by omega) (by omega) (by omega)⟩
      have badE : ∀ bad' : Bool, (bad' = true ∧ (∃ i', mk ≤ i' ∧ i' < m ∧ RQ 18 i' = c) ∨ bad' = false ∧ ¬ (∃ i', mk ≤ i' ∧ i' < m ∧ RQ 18 i' = c)) → bad' = bad := fun bad' h => by
        rcases h with ⟨y1, y2⟩ | ⟨y1, y2⟩ <;> rcases hbad with ⟨x1, x2⟩ | ⟨x1, x2⟩
        · rw [y1, x1]
        · exact absurd y2 x2
        · exact absurd x2 y2
        · rw [y1, x1]
      clear hbad
      have goodE : ¬ (¬ (97 ≤ c ∧ c ≤ 122) ∨ ¬ (40 : Int32) = 40 ∨ ¬ pr < 16) := by
        rintro (h | h | h)
        · exact h ⟨h97, h122⟩
        · exact h rfl
        · exact h h16
      refine (sim_fml (z := z) (d := d) (k := k) (H := H) hV0 hV3 stk (by omega) hn320 h16 hw1 (by omega) hpv4 (by rw [u9]; rfl) (by rw [u10]; rfl) (by rw [c54 (by omega) (by omega), v8]; rfl) lv2 (by omega) (fun h41 hh => ?_) (fun h41 hh => ?_)).mb (fun b C17 h17 => ?_)
      · refine opn c 40 hc' (fun _ => h40') (fun hb => absurd hb goodE) (fun _ _ _ _ bad' hb' => ?_)
        rw [badE bad' hb', ← hp3, ← hR4]
        exact ⟨fun _ => hh, fun hn => absurd h41 hn⟩
      · refine opn c 40 hc' (fun _ => h40') (fun hb => absurd hb goodE) (fun _ _ _ _ bad' hb' => ?_)
        rw [badE bad' hb', ← hp3, ← hR4]
        exact ⟨fun hn => absurd hn h41, fun _ => hh⟩
      rcases h17 with ⟨rfl, R17, cnt, w1, p4, e4, x1, x2, x3, x4, x5, x6, x7, x8, x9, x10, x11, x12, x13, x14, x15, x16, x17, x18, x19⟩ | ⟨rfl, R', g1, g2⟩
      · refine ai_zt ?_
        rw [nI_1 dp]
        have scw4 : scw (fun j => if j = pr then (0, bs, 350 * hf + nn0 + 1) :: sc else SC j) (pr + 1) hf nn := fun q hq => by
          dsimp only
          by_cases hqp : q = pr
          · rw [if_pos hqp]
            exact ⟨fun x hx => ⟨hsc x hx, fun h0 => by have := hw1 x hx h0; omega⟩, by simp only [sc_cl]; simp; omega, by simp, hcl.2.c (fun _ => by show 350 * hf < 350 * hf + nn0 + 1; omega)⟩
          · rw [if_neg hqp]
            have := hscw q (by omega)
            exact ⟨fun x hx => ⟨(this.1 x hx).1, fun h0 => by have := (this.1 x hx).2 h0; omega⟩, this.2⟩
        have scl2 : sc_cl ((pr + 1, 0, 0) :: (0, bs, 350 * hf + nn0 + 1) :: sc) = sc_cl sc + 1 := by simp [sc_cl, Nat.add_comm]
        have p4n : p4 ≤ n := x2.2.2.1
        refine (hS _ _ (m + 1 + cnt) 7 (pr + 1) vr C17 R17 p4 p4 e4 nn _ (k + 1) x2 scw4 (by simp; omega) ⟨by rw [scl2]; omega, (hcl.2.c (fun _ => by show 350 * hf < 350 * hf + nn0 + 1; omega)).c (fun h => absurd h (by simp))⟩ (by simp; omega) (by omega) (by omega) (by omega)).mb (fun b C19 h19 => ?_)
        obtain ⟨R19, j6, hlm6, h19⟩ := h19
        rcases h19 with ⟨rfl, y, p6, p6', e6, nn6, ns6, pr6, vr6, SC6, hpv6, b31, by0, b4, b5, b6, b7, b8, b9, b10, b11, b12, b13, b14, b15, b16, b17, b18⟩ | ⟨hwr, rfl⟩
        · refine ai_zt ?_
          obtain ⟨gT, gp, gpn, gC3, gmq, gsk, g8, g9, gnh, gsp, gsc, gnn⟩ := id hpv6
          obtain ⟨gmT, gm2, gmpn, gm14, gmhf, gm15, gmf, gm19⟩ := id gmq
          obtain ⟨⟨w13, w14, w15, w16, w17⟩, gml, g30⟩ := mf_top gmf
          dsimp only at w13 w14 w15 w16 w17
          obtain ⟨q1, q2, q3, q4, q5, q6, q7, q8, q9, q10, q11, q12, q13, q14, q15, q15a, q15b, q16, q17, q18⟩ := id gsp
          have q4' : R19 0 37 = nI (sc.length + 2) := by simpa using q4
          have hpq : 16 * hf + pr < 32 := by omega
          obtain ⟨R7, hR7⟩ : ∃ R7, R7 = ai_up (ai_up (ai_up (ai_up R19 9 (16 * hf + pr) (nI y)) 0 36 (nI (m + 1))) 0 37 (R19 0 37 - 1)) 13 stk.length 19 := ⟨_, rfl⟩
          have r7 : ∀ q j, ¬ (q = 9 ∧ j = 16 * hf + pr) → ¬ (q = 0 ∧ (j = 36 ∨ j = 37)) → ¬ (q = 13 ∧ j = stk.length) → R7 q j = R19 q j := fun q j a b c' => by rw [hR7, ai_up_n (by omega), ai_up_n (by omega), ai_up_n (by omega), ai_up_n (by omega)]
          have r79 : R7 9 (16 * hf + pr) = nI y := by rw [hR7, ai_up_n (by omega), ai_up_n (by omega), ai_up_n (by omega), ai_up_s]
          have r736 : R7 0 36 = nI (m + 1) := by rw [hR7, ai_up_n (by omega), ai_up_n (by omega), ai_up_s]
          have r737 : R7 0 37 = nI (sc.length + 1) := by rw [hR7, ai_up_n (by omega), ai_up_s, q4', nI_pred]
          have r713 : R7 13 stk.length = nI 19 := by rw [hR7, ai_up_s]; rfl
          have hbk : bk z R7 (k + (1 + j6)) stk.length (dp + 1) → H := fun h => by
            refine x1 (hlm6 (bk_20 (q := 16 * hf + pr) (m := m + 1 + cnt) (mk := m + 1) (by omega) gm19 g30 (by omega) w13 w15 w17 hpq b31 q2 (by omega) (by omega) (fun i a b => ?_) (fun i a => ?_) (by rw [← hR7, Nat.add_assoc]; exact h)))
            · rw [q4', b11.2.2.2.2.2 i b]; exact x10 i a b
            · rw [q4', b11.2.2.2.2.2 i (by omega)]; exact x11 i a
          have q3' : C19 3 5 - 1 = nI (sc_cl sc) := by rw [q3, scl2, nI_pred]
          rw [q3']
          refine sp_cadd (e := e6) (by rw [ai_up_n (by omega), ai_up_n (by omega), ai_up_n (by omega)]; exact gC3) (by omega) ?_
          rw [show cadd (ai_up (ai_up (ai_up C19 3 5 (nI (sc_cl sc))) 3 7 (nI ns)) 3 4 (nI (m + 1))) e6 17 0 0 26 3 = nI (e6 + 1) from ai_up_s]
          refine sp_setF (e := e6 + 1) (a := e) ai_up_s (by omega) (by omega) ?_
          obtain ⟨C7, hC7⟩ : ∃ C7, C7 = ai_up (cadd (ai_up (ai_up (ai_up C19 3 5 (nI (sc_cl sc))) 3 7 (nI ns)) 3 4 (nI (m + 1))) e6 17 0 0) 28 e (nI (e6 + 1)) := ⟨_, rfl⟩
          rw [← hC7]
          have c7 : ∀ {q j : Nat}, ¬ (q = 3 ∧ (j = 4 ∨ j = 5 ∨ j = 7)) → ¬ (27 ≤ q ∧ q ≤ 29 ∧ j = e6) → ¬ (q = 26 ∧ j = 3) → ¬ (q = 28 ∧ j = e) → C7 q j = C19 q j := fun a b c' d' => by
            rw [hC7]; unfold cadd
            rw [ai_up_n (by omega), ai_up_n (by omega), ai_up_n (by omega), ai_up_n (by omega), ai_up_n (by omega), ai_up_n (by omega), ai_up_n (by omega), ai_up_n (by omega)]
          have c728 : C7 28 e = nI (e6 + 1) := by rw [hC7, ai_up_s]
          have c727 : C7 27 e6 = 17 := by rw [hC7]; unfold cadd; rw [ai_up_n (by omega), ai_up_n (by omega), ai_up_n (by omega), ai_up_n (by omega), ai_up_s]
          have c734 : C7 3 4 = nI (m + 1) := by rw [hC7]; unfold cadd; rw [ai_up_n (by omega), ai_up_n (by omega), ai_up_n (by omega), ai_up_n (by omega), ai_up_n (by omega), ai_up_s]
          have c735 : C7 3 5 = nI (sc_cl sc) := by rw [hC7]; unfold cadd; rw [ai_up_n (by omega), ai_up_n (by omega), ai_up_n (by omega), ai_up_n (by omega), ai_up_n (by omega), ai_up_n (by omega), ai_up_n (by omega), ai_up_s]
          have c737 : C7 3 7 = nI ns := by rw [hC7]; unfold cadd; rw [ai_up_n (by omega), ai_up_n (by omega), ai_up_n (by omega), ai_up_n (by omega), ai_up_n (by omega), ai_up_n (by omega), ai_up_s]
          have c7e : C7 26 3 = nI (e6 + 1) := by rw [hC7]; unfold cadd; rw [ai_up_n (by omega), ai_up_s]
          have nod : ∀ q, 2 ≤ q → q ≤ 8 → ∀ i, i ≤ 350 * hf + nn → R7 q i = R q i := fun q a b i hi => by rw [r7 _ _ (by omega) (by omega) (by omega), b11.2.2.2.1 q a b i (Or.inl hi), x15 q a (by omega) i, r4 _ _ (by omega) (by omega) (by omega)]
          have l21 : ∀ i, i < m + 1 → R7 21 i = R4 21 i := fun i hi => by rw [r7 _ _ (by omega) (by omega) (by omega), b11.2.2.2.2.2 i (by omega), x16.2.2.2.2.2 i hi]
          have SCq : ∀ q, q < pr → SC6 q = SC q := fun q hq => by rw [b17 q (by omega)]; exact if_neg (by omega)
          have SCp : SC6 pr = (0, bs, 350 * hf + nn0 + 1) :: sc := by rw [b17 pr (by omega)]; exact if_pos rfl
          refine hok _ ⟨R7, 1 + j6, p6, p6', e6 + 1, nn6, pr6, vr6, 16 * hf + pr, SC6, hbk, ?_, by omega, by omega, by omega, b8, by omega, by omega, fun i a b => by rw [l21 i b]; exact r421 i a b, fun i a => by rw [l21 i (by omega)]; exact r421' i a, nod, ?_, ?_, b13, b14, b16, SCq, fun hN => ?_⟩
          · refine ⟨⟨by rw [c7 (by omega) (by omega) (by omega) (by omega)]; exact gT.1, gT.2.1, fun j hj => by rw [c7 (by omega) (by omega) (by omega) (by omega)]; exact gT.2.2 j hj⟩, by rw [c7 (by omega) (by omega) (by omega) (by omega)]; exact gp, gpn, c7e, ⟨⟨by rw [r7 _ _ (by omega) (by omega) (by omega)]; exact gmT.1, gmT.2.1, fun j hj => by rw [r7 _ _ (by omega) (by omega) (by omega)]; exact gmT.2.2 j hj⟩, by rw [r7 _ _ (by omega) (by omega) (by omega)]; exact gm2, gmpn, by rw [r7 _ _ (by omega) (by omega) (by omega)]; exact gm14, ⟨gmhf.1, by rw [hR7]; exact (((gmhf.2.u (by omega)).u (by omega)).u (by omega)).u (by omega)⟩, by rw [r7 _ _ (by omega) (by omega) (by omega)]; exact gm15, ⟨by rw [r7 _ _ (by omega) (by omega) (by omega)]; simpa using g30, mf_at_of r713 (by rw [r7 _ _ (by omega) (by omega) (by omega)]; exact w14) (by rw [r7 _ _ (by omega) (by omega) (by omega)]; exact w15) (by rw [r7 _ _ (by omega) (by omega) (by omega)]; exact w16) (by rw [r7 _ _ (by omega) (by omega) (by omega)]; exact w17), mf_l_keep stk (fun q' h1 h2 j hj => r7 _ _ (by omega) (by omega) (by omega)) gml⟩, by rw [r7 _ _ (by omega) (by omega) (by omega)]; exact gm19⟩, gsk, by rw [c7 (by omega) (by omega) (by omega) (by omega), r7 _ _ (by omega) (by omega) (by omega)]; exact g8, by rw [c7 (by omega) (by omega) (by omega) (by omega), r7 _ _ (by omega) (by omega) (by omega)]; exact g9, by rw [c7 (by omega) (by omega) (by omega) (by omega), r7 _ _ (by omega) (by omega) (by omega)]; exact gnh, ?_, fun x hx h0 => gsc x (List.mem_cons_of_mem _ hx) h0, gnn⟩
            refine sp_pop gsp (by omega) (fun i hi => ?_) c734 (by rw [c735]; simp [sc_cl]) c737 (c7 (by omega) (by omega) (by omega) (by omega)) (c7 (by omega) (by omega) (by omega) (by omega)) r736 (by rw [r737]; simp) (r7 _ _ (by omega) (by omega) (by omega)) (r7 _ _ (by omega) (by omega) (by omega)) (fun q a b => by funext i; exact c7 (by omega) (by omega) (by omega) (by omega)) (fun x _ _ => r7 _ _ (by omega) (by omega) (by omega)) (fun q hq => by funext i; exact r7 _ _ (by omega) (by omega) (by omega)) s13 (by omega) ?_
            · rw [b11.2.2.2.2.2 i (by omega)]; exact x11 i hi
            · obtain ⟨ct, g1, g2⟩ := sp_tpB.mp s15
              exact sp_tpB.mpr ⟨ct, by rw [nod 5 (by omega) (by omega) _ (by omega)]; exact g1, g2⟩
          · rw [hR7]
            exact (((((mS4.tr x16 (by omega) (by omega) (Nat.le_refl _)).tr b11 (by omega) (by omega) (by omega)).u 9 _ _ (by omega)).u 0 36 _ (by omega)).u 0 37 _ (by omega)).u 13 _ _ (by omega)
          · have a1 := (cS5.tr x17 (by omega) (Nat.le_refl _)).tr b12 (by omega) (by omega)
            rw [hC7]; unfold cadd
            exact ((((((((a1.u 3 5 _ (by omega)).u 3 7 _ (by omega)).u 3 4 _ (by omega)).u 27 _ _ (by omega)).u 28 _ _ (by omega)).u 29 _ _ (by omega)).u 26 3 _ (by omega)).u 28 e _ (by omega))
          · rw [c7 (by omega) (by omega) (by omega) (by omega)] at hN
            obtain ⟨n17, kS, kP⟩ := b18 hN
            obtain ⟨n5, kL⟩ := x19 n17
            refine ⟨hN25 n5, ?_, c728, ?_⟩
            · show C7 27 e = 3
              rw [c7 (by omega) (by omega) (by omega) (by omega), b12.2.2.1 27 (by omega) (by omega) e (by omega), x17.2.2.1 27 (by omega) (by omega) e (by omega), c54 (by omega) (by omega)]; exact v11
            · have c30 : C7 30 pr = nI (e + 1) := by rw [c7 (by omega) (by omega) (by omega) (by omega), b12.2.2.2 30 (by omega) (by omega) pr (by omega), x18, c54 (by omega) (by omega)]; exact v7
              have hK7 : ∀ j, j < 3 → ∀ i, e4 ≤ i → i < e6 → cd C7 j i = cd C19 j i := fun j hj i h1 h2 => c7 (by omega) (by omega) (by omega) (by omega)
              have ag7 : ∀ sc0 : sc_T, sc_ag R19 R7 (16 * hf) SC6 SC6 sc0 := fun sc0 => ⟨fun x hx => ⟨fun h0 ct hc h => ⟨ct, (r7 _ _ (by omega) (by omega) (by omega)).trans h, Nat.le_refl _, hc⟩, fun _ => ⟨r7 _ _ (by omega) (by omega) (by omega), r7 _ _ (by omega) (by omega) (by omega)⟩⟩, fun _ _ => rfl⟩
              intro q h1 h2
              by_cases hqp : q = pr
              · subst hqp
                refine ⟨⟨e + 1, c30, by omega, by omega⟩, e + 1, e4, e6, y, cnt, w1, c30, ?_, ?_, x4, ?_, x7, ?_, r79, ?_, c727, by omega⟩
                · show C7 31 q = nI cnt
                  rw [c7 (by omega) (by omega) (by omega) (by omega), b12.2.2.2 31 (by omega) (by omega) q (by omega)]; exact x9
                · rw [r7 _ _ (by omega) (by omega) (by omega), b11.2.2.2.2.1 10 (by omega) (by omega) _ (by omega)]; exact x5
                · rw [r7 _ _ (by omega) (by omega) (by omega), b11.2.2.2.2.1 11 (by omega) (by omega) _ (by omega)]; exact x6
                · refine cx_pl_mono _ _ _ _ (fun j hj i h1 h2 => ?_) kL
                  show C7 (27 + j) i = C17 (27 + j) i
                  rw [c7 (by omega) (by omega) (by omega) (by omega), b12.2.2.1 (27 + j) (by omega) (by omega) i (by omega)]
                · rw [SCp]
                  exact cx_S_lift kS hK7 (ag7 _) (sc_hd_of (fun i => r7 _ _ (by omega) (by omega) (by omega)) _) (fun q' a b i _ _ _ => r7 _ _ (by omega) (by omega) (by omega)) hK (fun i hi => ⟨hi, by have := hi.1; omega⟩)
              · exact pf_lift (pr := pr + 1) (pr1 := pr6) kP (by omega) hK7 (fun j h1 h2 q _ h3 => c7 (by omega) (by omega) (by omega) (by omega)) (fun j h1 h2 q h3 h4 => r7 _ _ (by omega) (by omega) (by omega)) (fun q _ _ => ag7 _) (fun _ _ _ => rfl) (fun q' a b i _ _ => r7 _ _ (by omega) (by omega) (by omega)) (fun i hi _ => ⟨hi, by have := hi.1; omega⟩) (by omega) (by omega) q (by omega) h2
        · exact ai_zf (hno _ ⟨R19, 1 + j6, hwr, fun h => x1 (hlm6 (by rw [Nat.add_assoc]; exact h))⟩)
      · exact ai_zf (hno _ ⟨R', 1, g1, g2⟩)
    refine sp_declare (m := m) (mk := mk) (by rw [x3o _ _ (by omega) (by omega)]; exact s1) (by omega) hmk (fun hd' => main true _ (by rw [hX3]; unfold prC; simp) (Or.inl ⟨rfl, hb18.mp hd'⟩)) (fun hd' => main false _ (by rw [hX3]; unfold prC; simp) (Or.inr ⟨rfl, fun h => hd' (hb18.mpr h)⟩))
  · have hnl' : ¬ (97 ≤ px_c tx n (-1) (px_s tx n (px_s tx n p + 1)) ∧ px_c tx n (-1) (px_s tx n (px_s tx n p + 1)) ≤ 122) := fun h => by
      by_cases hlt2 : px_s tx n (px_s tx n p + 1) < n
      · unfold px_c at h hc
        rw [if_pos hlt2] at h hc
        rw [hc] at h
        exact hnl h
      · unfold px_c at h
        rw [if_neg hlt2] at h
        exact absurd h.1 (by decide)
    exact ref _ 0 rfl (fun h => absurd h hnl') (Or.inl hnl')
end SPR
