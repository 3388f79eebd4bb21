/-! ===== a statement, simulated ===== -/
section STM
variable {l : Launch} {D : va_G} {ρ : Nat → Nat} {τ : Nat → ClassId} {z : lm_T} {V : ai_V} {tx : Nat → Int32} {n hf : Nat}
set_option maxHeartbeats 2000000 in
theorem sim_st0 (hV3 : V 2 3 = .ref 26) {d : Nat} : sS l D ρ τ z V tx n hf (d + 2) 11 0 := by
  intro sc SC m ns pr vr C R p p' e nn stk k hpv hscw hsl hcl hst he hnn hk
  obtain ⟨hT, hp, hpn, hC3, hmq, hsk, h8, h9, hnh, hsp, hsc, hnn3⟩ := id hpv
  have hn320 : n ≤ 320 := hT.2.1
  obtain ⟨hmT, m2, mpn, m14, mhf, m15, hmf, m19⟩ := id hmq
  obtain ⟨⟨t13, t14, t15, t16, t17⟩, hml, h30⟩ := mf_top hmf
  dsimp only at t13 t14 t15 t16 t17
  obtain ⟨s1, s2, s3, s4, s5, s6, s7, s8, s9, s10, s11, s12, -⟩ := id hsp
  refine vX3_statement hV3 (sp_reach hV3 (fun h => absurd h (by decide)) (fun _ => ai_zf ?_))
  obtain ⟨R', g1, g2⟩ := lm_badH (tx := tx) (z := z) (k' := k + 1) (H := lm z R k) (fun hall => rd_st (by omega) hmq (by omega) (os_deep (d := z.2.2.2.2.1 + 3) (m := m) mhf (by omega) (by omega) hmT m2 mpn t15 (by omega) (by omega) m15 (by omega) h30 s2 (by omega) hall))
  exact ⟨R', 1, g2, Or.inr ⟨g1, rfl⟩⟩
set_option maxHeartbeats 4000000 in
theorem sim_st1 (hV0 : hV ρ V tx n) (hV3 : V 2 3 = .ref 26) {d dp K F : Nat} (hdp : dp ≤ 10) (hK : K ≤ 10) (hF : F ≤ 50) (hE : ∀ (sc : sc_T) (SC : Nat → sc_T) (m ns pr vr : Nat), sF l D ρ τ z V tx n hf sc SC m ns pr vr (d + 5) (dp + 1) F 0 0 mX3_expression 30) (hS1 : sS l D ρ τ z V tx n hf (d + 3) (dp + 1) K) (hS2 : sS l D ρ τ z V tx n hf (d + 5) (dp + 1) K) : sS l D ρ τ z V tx n hf (d + 7) dp (K + 1) := by
  intro sc SC m ns pr vr C R p p' e nn stk k hpv hscw hsl hcl hst he hnn hk
  obtain ⟨hT, hp, hpn, hC3, hmq, hsk, h8, h9, hnh, hsp, hsc, hnn3⟩ := id hpv
  obtain ⟨hmT, m2, mpn, m14, mhf, m15, hmf, m19⟩ := id hmq
  obtain ⟨⟨t13, t14, t15, t16, t17⟩, hml, h30⟩ := mf_top hmf
  dsimp only at t13 t14 t15 t16 t17
  have hskn : px_s tx n p ≤ n := px_s_le tx hpn
  have hss := px_s_s tx n p
  have oT : ∀ q, ct_T (oC C dp q) tx n := fun q => ⟨by rw [oC_o (by omega) (by omega)]; exact hT.1, hT.2.1, fun i hi => by rw [oC_o (by omega) (by omega)]; exact hT.2.2 i hi⟩
  have hx10 : nI dp ≤ 10 := by rw [show (10 : Int32) = nI 10 from rfl, i_le (by omega) (by omega)]; exact hdp
  refine vX3_statement hV3 (sp_reach hV3 (fun _ => ai_zt ?_) (fun h => absurd hx10 h))
  obtain ⟨C0, hC0⟩ : ∃ C0, C0 = ai_up (ai_up C 26 9 (if C 26 9 < nI dp then nI dp else C 26 9)) 26 8 (ai_up C 26 9 (if C 26 9 < nI dp then nI dp else C 26 9) 26 8 + 1) := ⟨_, rfl⟩
  have c0 : ∀ q, ai_up C0 2 2 (nI q) = oC C dp q := fun q => by rw [hC0, ai_up_n (by omega : ¬ (26 = 26 ∧ 8 = 9))]; rfl
  have c0T : ct_T C0 tx n := ⟨by rw [hC0, ai_up_n (by omega), ai_up_n (by omega)]; exact hT.1, hT.2.1, fun i hi => by rw [hC0, ai_up_n (by omega), ai_up_n (by omega)]; exact hT.2.2 i hi⟩
  rw [← hC0]
  have bz : ∀ (b : Bool) (S : ai_S), pS z C R tx n hf sc SC m ns pr vr p e nn stk (K + 1) k b S → (b = true → pS z C R tx n hf sc SC m ns pr vr p e nn stk (K + 1) k true S) ∧ (b = false → pS z C R tx n hf sc SC m ns pr vr p e nn stk (K + 1) k false S) := fun b S h => ⟨fun hb => by rw [hb] at h; exact h, fun hb => by rw [hb] at h; exact h⟩
  refine sp_take hV0 c0T (by rw [hC0, ai_up_n (by omega), ai_up_n (by omega)]; exact hp) hpn (fun h123 => ai_zt ?_) (fun h123 => ai_zf ?_)
  · rw [c0]
    exact (sim_blk hV0 hV3 hdp hK hS1 hS2 hpv hscw hsl hcl hst he hnn hk h123).mb bz
  rw [c0]
  refine sp_take hV0 (oT _) oC_2 hskn (fun h33 => ai_zt ?_) (fun h33 => ai_zf ?_)
  · rw [hss] at h33 ⊢
    rw [oC_up]
    exact (sim_prt (d := d + 4) hV0 hV3 hdp (hE _ _ _ _ _ _) hF hpv hscw hst he hnn hk h33).mb bz
  rw [hss] at h33 ⊢
  rw [oC_up]
  refine sp_take hV0 (oT _) oC_2 hskn (fun h63 => ai_zt ?_) (fun h63 => ai_zf ?_)
  · rw [hss] at h63 ⊢
    rw [oC_up]
    exact (sim_chc (d := d + 4) hV0 hV3 hdp (hE _ _ _ _ _ _) hF hS2 hpv hscw hsl hcl hst he hnn hk h63).mb bz
  rw [hss] at h63 ⊢
  rw [oC_up]
  refine sp_take hV0 (oT _) oC_2 hskn (fun h42 => ai_zt ?_) (fun h42 => ai_zf ?_)
  · rw [hss] at h42 ⊢
    rw [oC_up]
    exact (sim_lop (d := d + 4) hV0 hV3 hdp (hE _ _ _ _ _ _) hF hS2 hpv hscw hsl hcl hst he hnn hk h42).mb bz
  rw [hss] at h42 ⊢
  rw [oC_up]
  refine sp_takeName hV0 (oT _) oC_2 hskn (fun c hc h97 h122 => ⟨fun _ => ?_, fun h => ?_⟩) (fun c hc hnl => ⟨fun h => absurd rfl h, fun _ => ?_⟩)
  · rw [hss] at hc ⊢
    rw [oC_up]
    have hlt : px_s tx n p < n := px_lt hc (fun h => by rw [h] at h97; exact absurd h97 (by decide))
    refine sp_take hV0 (oT _) oC_2 hlt (fun h61 => ai_zt ?_) (fun h61 => ai_zf ?_)
    · rw [oC_up]
      exact (sim_asg (d := d + 2) hV0 hV3 hdp (hE _ _ _ _ _ _) hF hpv hscw hst he hnn hk hc h97 h122 h61).mb bz
    · rw [oC_up, nI_1 dp]
      exact sim_cal (d := d + 3) hV0 hV3 hdp (hE _ _ _ _ _ _) hF hpv hscw hst he hnn hk hc h97 h122 h61
  · rw [h] at h97; exact absurd h97 (by decide)
  · rw [hss] at hc
    have hcm : ∀ v : Int32, v ≠ 0 → v ≠ -1 → ¬ px_c tx n 0 (px_s tx n p) = v → ¬ px_c tx n (-1) (px_s tx n p') = v := fun v h0 h1 h h2 => h ((px_cc h0 h1).mpr (by rw [hsk]; exact h2))
    have hnl' : ¬ (97 ≤ px_c tx n (-1) (px_s tx n p') ∧ px_c tx n (-1) (px_s tx n p') ≤ 122) := fun h => by
      rw [← hsk] at h
      by_cases hlt2 : px_s tx n p < n
      · unfold px_c at h hc
        rw [if_pos hlt2] at h hc
        rw [hc] at h
        exact hnl h
      · unfold px_c at h
        rw [if_neg hlt2] at h
        exact absurd h.1 (by decide)
    obtain ⟨R', g1, g2⟩ := lm_badH (tx := tx) (z := z) (k' := k + 1) (H := lm z R k) (fun hall => rd_st (by omega) hmq (by omega) (os_bad (d := z.2.2.2.2.1 + 5) mhf (by omega) hmT m2 mpn t15 hdp rfl hnl' (hcm 33 (by decide) (by decide) h33) (hcm 63 (by decide) (by decide) h63) (hcm 42 (by decide) (by decide) h42) (hcm 123 (by decide) (by decide) h123) hall))
    exact ⟨R', 1, g2, Or.inr ⟨g1, rfl⟩⟩
/-- a statement at depth 11 - K -/
theorem sim_S (hV0 : hV ρ V tx n) (hV3 : V 2 3 = .ref 26) : ∀ (K d : Nat), K ≤ 11 → sS l D ρ τ z V tx n hf (d + 5 * K + 2) (11 - K) K
  | 0, d, _ => sim_st0 hV3
  | K + 1, d, hK => by
    have h1 := sim_S hV0 hV3 K (d + 1) (by omega)
    have h2 := sim_S hV0 hV3 K (d + 3) (by omega)
    have h := sim_st1 (l := l) (D := D) (ρ := ρ) (τ := τ) (z := z) (V := V) (tx := tx) (n := n) (hf := hf) (d := d + 5 * K) (dp := 10 - K) (K := K) (F := 4 * K) hV0 hV3 (by omega) (by omega) (by omega) (fun sc SC m ns pr vr => by
      have := sim_E (l := l) (D := D) (ρ := ρ) (τ := τ) (z := z) (tx := tx) (n := n) (hf := hf) (sc := sc) (SC := SC) (m := m) (ns := ns) (pr := pr) (vr := vr) hV0 hV3 K (d + 3) (by omega)
      rw [show 10 - K + 1 = 11 - K by omega, show d + 5 * K + 5 = d + 3 + 5 * K + 2 by omega]
      exact this) (by rw [show 10 - K + 1 = 11 - K by omega, show d + 5 * K + 3 = d + 1 + 5 * K + 2 by omega]; exact h1) (by rw [show 10 - K + 1 = 11 - K by omega, show d + 5 * K + 5 = d + 3 + 5 * K + 2 by omega]; exact h2)
    rw [show d + 5 * (K + 1) + 2 = d + 5 * K + 7 by omega, show 11 - (K + 1) = 10 - K by omega]
    exact h
end STM
