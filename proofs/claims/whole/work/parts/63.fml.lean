/-! ===== all formals of a heading ===== -/
section FML
variable {l : Launch} {D : va_G} {ρ : Nat → Nat} {τ : Nat → ClassId} {z : lm_T} {V : ai_V} {tx : Nat → Int32} {n hf : Nat} {sc1 : sc_T} {SC : Nat → sc_T} {d dp m1 pr0 vr nn nd ex k p e : Nat} {C R : ai_S} {H : Prop}
set_option maxHeartbeats 4000000 in
theorem sim_fml (hV0 : hV ρ V tx n) (hV3 : V 2 3 = .ref 26) (stk : List mf_T) (hst : stk.length < 60) (hn320 : n ≤ 320) (hpr0 : pr0 < 16) (hsc1 : ∀ x ∈ sc1, x.1 ≠ 0 → x.1 ≤ pr0) (hm1 : m1 + 6 ≤ vr + 7 * (pr0 + 1)) (hpv : pv C R tx n hf ((pr0 + 1, 0, 0) :: sc1) SC m1 7 (pr0 + 1) vr p p e nn ((19, nd, dp, 0, ex) :: stk)) (h10 : R 10 (16 * hf + pr0) = nI 0) (h11 : R 11 (16 * hf + pr0) = nI 0) (h31 : C 31 pr0 = nI 0) (hl2 : ∀ j, j < m1 → ¬ R 21 j = nI (sc1.length + 1)) (he : 2 * e ≤ 3 * p)
    (hH0 : px_c tx n (-1) (px_s tx n p) = 41 → hd z (ai_up R 0 2 (nI (px_s tx n p + 1))) k stk.length (dp + 1) (16 * hf + pr0) 0 0 → H)
    (hH1 : ¬ px_c tx n (-1) (px_s tx n p) = 41 → hd z (ai_up R 0 2 (nI (px_s tx n p))) k stk.length (dp + 1) (16 * hf + pr0) 1 0 → H) :
    ai_met (uC l D ρ τ) (d + 3) mX3_formals [.ref 2, .int (nI pr0)] C V (ai_qz V (pFs z C R tx n hf sc1 SC m1 pr0 vr nn dp nd p e 0 0 stk k H)) := by
  obtain ⟨hT, hp, hpn, hC3, hmq, hsk, h8, h9, hnh, hsp, hsc, hnn3⟩ := id hpv
  obtain ⟨hmT, m2, mpn, m14, mhf, m15, hmf, m19⟩ := id hmq
  obtain ⟨⟨t13, t14, t15, t16, t17⟩, hml, h30⟩ := mf_top hmf
  dsimp only at t13 t14 t15 t16 t17
  obtain ⟨s1, s2, s3, s4, s5, s6, s7, s8, s9, s10, s11, s12, s13, s14, s15, s15a, s15b, s16, s17, s18⟩ := id hsp
  have hskp := px_s_ge tx n p
  have hskn : px_s tx n p ≤ n := px_s_le tx hpn
  have hss := px_s_s tx n p
  refine vX3_formals hV3 (sp_take hV0 hT hp hpn (fun h41 => ai_zt ?_) (fun h41 => ai_zf ?_))
  · -- none
    have hlt : px_s tx n p < n := px_lt h41 (by decide)
    have h41' : px_c tx n (-1) (px_s tx n p) = 41 := (px_cc (by decide) (by decide)).mp h41
    obtain ⟨R', hR'⟩ : ∃ R', R' = mpush (ai_up (ai_up (ai_up R 0 2 (nI (px_s tx n p + 1))) 17 stk.length (nI (16 * hf + pr0))) 13 stk.length 20) (stk.length + 1) 10 (nI (dp + 1)) := ⟨_, rfl⟩
    have hlm : lm z R' (k + 1) → H := fun h => hH0 h41' (hd_0 (by omega) (by rw [ai_up_n (by omega)]; exact h30) (by rw [← hR']; exact h))
    have r0 : ∀ j, j ≠ 2 → j ≠ 30 → R' 0 j = R 0 j := fun j a b => by rw [hR', push_o (by omega) (by omega), ai_up_n (by omega), ai_up_n (by omega), ai_up_n (by omega)]
    have rq : ∀ q j, ¬ q = 0 → q < 13 ∨ 17 < q → R' q j = R q j := fun q j a b => by rw [hR', push_o (by omega) (by omega), ai_up_n (by omega), ai_up_n (by omega), ai_up_n (by omega)]
    have mR : mE R R' (350 * hf + nn) (350 * hf + 350) := by rw [hR']; exact (((mE.rf.u0 2 _ (by omega)).uF 17 _ _ (by omega) (by omega)).uF 13 _ _ (by omega) (by omega)).push _ _ _
    have cE2 : cE C (ai_up C 2 2 (nI (px_s tx n p + 1))) e := cE.rf.u2 2 _ (by omega)
    refine Or.inl ⟨rfl, R', 0, 0, px_s tx n p + 1, e, hlm, ?_, by omega, by omega, by rw [rq _ _ (by omega) (by omega)]; exact h10, by rw [rq _ _ (by omega) (by omega)]; exact h11, by omega, fun b hb => by omega, by rw [ai_up_n (by omega)]; exact h31, fun j a b => by omega, fun j a => by rw [rq _ _ (by omega) (by omega)]; exact hl2 j a, by omega, by omega, Nat.le_refl _, fun q a b j => rq _ _ (by omega) (by omega), mR.ms (Nat.le_refl _) (Nat.le_refl _), cE2.cs, fun j => ai_up_n (by omega), fun hN => ⟨by rw [ai_up_n (by omega)] at hN; exact hN, rfl⟩⟩
    refine pv_of hpv cE2 mR ai_up_s hlt (by rw [ai_up_n (by omega)]; exact hC3) (by rw [hR']; simp [mpush, ai_up_eq]) hlt (by rw [r0 15 (by omega) (by omega)]; exact m15) ?_ (by rw [r0 19 (by omega) (by omega)]; exact m19) rfl (by rw [r0 24 (by omega) (by omega), ai_up_n (by omega)]; exact h9) (by rw [r0 20 (by omega) (by omega), ai_up_n (by omega)]; exact hnh) (Nat.le_refl _) hnn3
    rw [hR']
    refine mf_push (stk := (20, nd, dp, 0, 16 * hf + pr0) :: stk) ⟨mf_at_of ?_ ?_ ?_ ?_ ?_, ?_⟩ 10 (dp + 1)
    · rw [ai_up_s]; rfl
    · rw [ai_up_n (by omega), ai_up_n (by omega), ai_up_n (by omega)]; exact t14
    · rw [ai_up_n (by omega), ai_up_n (by omega), ai_up_n (by omega)]; exact t15
    · rw [ai_up_n (by omega), ai_up_n (by omega), ai_up_n (by omega)]; exact t16
    · rw [ai_up_n (by omega), ai_up_s]
    · exact mf_l_o (mf_l_o (mf_l_o hml 0 2 _ (by omega)) 17 _ _ (by omega)) 13 _ _ (by omega)
  · -- some
    have h41' : ¬ px_c tx n (-1) (px_s tx n p) = 41 := fun h => h41 ((px_cc (by decide) (by decide)).mpr h)
    obtain ⟨RB, hRB⟩ : ∃ RB, RB = ai_up R 0 2 (nI (px_s tx n p)) := ⟨_, rfl⟩
    have toH : hd z RB k stk.length (dp + 1) (16 * hf + pr0) 1 0 → H := fun h => hH1 h41' (by rw [← hRB]; exact h)
    have rb : ∀ q j, ¬ (q = 0 ∧ j = 2) → RB q j = R q j := fun q j a => by rw [hRB, ai_up_n (by omega)]
    have mB : mE R RB (350 * hf + nn) (350 * hf + 350) := by rw [hRB]; exact mE.rf.u0 2 _ (by omega)
    have cE2 : cE C (ai_up C 2 2 (nI (px_s tx n p))) e := cE.rf.u2 2 _ (by omega)
    have pvB : pv (ai_up C 2 2 (nI (px_s tx n p))) RB tx n hf ((pr0 + 1, 0, 0) :: sc1) SC (m1 + 0) 7 (pr0 + 1) vr (px_s tx n p) (px_s tx n p) e nn ((19, nd, dp, 0, ex) :: stk) := by
      refine pv_of hpv cE2 mB ai_up_s hskn (by rw [ai_up_n (by omega)]; exact hC3) (by rw [hRB]; exact ai_up_s) hskn (by rw [rb _ _ (by omega)]; exact m15) ?_ (by rw [rb _ _ (by omega)]; exact m19) rfl (by rw [rb _ _ (by omega), ai_up_n (by omega)]; exact h9) (by rw [rb _ _ (by omega), ai_up_n (by omega)]; exact hnh) (Nat.le_refl _) hnn3
      rw [hRB]
      exact mf_o hmf 0 2 _ (by omega) (by omega)
    rw [ai_up_n (by omega : ¬ (3 = 2 ∧ 4 = 2)), s1]
    refine (simF (z := z) (k := k) hV0 hV3 stk hst hn320 hpr0 hsc1 hm1 6 0 _ RB (px_s tx n p) (px_s tx n p) e 0 (by omega) pvB (by rw [rb _ _ (by omega)]; exact h10) (by rw [rb _ _ (by omega)]; exact h11) (by omega) (by rw [ai_up_n (by omega)]; exact h31) (fun j a b => by omega) (fun j a => by rw [rb _ _ (by omega)]; exact hl2 j a) (by omega)).mono ?_
    rintro rr C' V' ⟨h1, b, h2, h3⟩
    refine ⟨h1, b, h2, ?_⟩
    rcases h3 with ⟨hb, R', cnt, w1, p1, e1, x1, x2, x3, x4, x5, x6, x7, x8, x9, x10, x11, x12, x13, x14, x15, x16, x17, x18, x19⟩ | ⟨hb, R', x1, x2⟩
    · refine Or.inl ⟨hb, R', cnt, w1, p1, e1, fun h => toH (x1 h), x2, x3, x4, x5, x6, x7, x8, x9, x10, x11, by omega, by omega, by omega, fun q a b j => by rw [x15 q a b j, rb _ _ (by omega)], (mB.ms (Nat.le_refl _) (Nat.le_refl _)).tr x16 (Nat.le_refl _) (Nat.le_refl _) (Nat.le_refl _), (cE2.cs (pr := pr0)).tr x17 (Nat.le_refl _) (Nat.le_refl _), fun j => by rw [x18 j, ai_up_n (by omega)], fun hN => ?_⟩
      obtain ⟨y1, y2⟩ := x19 hN
      rw [ai_up_n (by omega)] at y1
      exact ⟨y1, y2⟩
    · exact Or.inr ⟨hb, R', x1, fun h => toH (x2 h)⟩
end FML
