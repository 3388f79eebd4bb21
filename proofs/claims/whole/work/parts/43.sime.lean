/-! ===== every expression, simulated ===== -/
section SFE
variable {l : Launch} {D : va_G} {ρ : Nat → Nat} {τ : Nat → ClassId} {z : lm_T} {V : ai_V} {tx : Nat → Int32} {n hf : Nat} {sc : sc_T} {SC : Nat → sc_T} {m ns pr vr d dp F : Nat}
/-- spaces before don't matter -/
theorem pE_back {C R : ai_S} {p q e nn k fuel s : Nat} {stk : List mf_T} {b : Bool} {C' : ai_S} (hpq : p ≤ q) (hs : px_s tx n q = px_s tx n p) (h : pE z (ai_up C 2 2 (nI q)) R tx n hf sc SC m ns pr vr q e nn stk fuel s k b C') : pE z C R tx n hf sc SC m ns pr vr p e nn stk fuel s k b C' := by
  obtain ⟨R', j, h1, h2⟩ := h
  refine ⟨R', j, h1, ?_⟩
  rcases h2 with ⟨hb, x, p1, p1', e1, nn1, hpv1, r31, rx, rt, r4, r5, r6, r7, r8, r9, r10, r11, r12, r13⟩ | h2
  · refine Or.inl ⟨hb, x, p1, p1', e1, nn1, hpv1, r31, rx, ?_, r4, by omega, by omega, by omega, r8, r9, by omega, r11, (cE.rf.u2 2 _ (by omega)).tr r12 (Nat.le_refl _), fun hN => ?_⟩
    · unfold tn at rt ⊢
      rw [hs] at rt
      exact rt
    · have := r13 hN
      rw [ai_up_n (by omega)] at this
      exact this
  · exact Or.inr h2
set_option maxHeartbeats 4000000 in
theorem sim_factor (hV0 : hV ρ V tx n) (hV3 : V 2 3 = .ref 26) (hdp : dp ≤ 10) (hE : ∀ d', sF l D ρ τ z V tx n hf sc SC m ns pr vr (d + 2 + d') (dp + 1) F 0 0 mX3_expression 30) : sF l D ρ τ z V tx n hf sc SC m ns pr vr (d + 4) dp (F + 1) 6 3 mX3_factor 39 := by
  intro C R p p' e nn stk k hpv hst he hnn hk
  obtain ⟨hT, hp, hpn, hC3, hmq, hsk, h8, h9, hnh, hsp, hsc, hnn3⟩ := id hpv
  have hn320 : n ≤ 320 := hT.2.1
  have hss := px_s_s tx n p
  have hskn : px_s tx n p ≤ n := px_s_le tx hpn
  have hskp := px_s_ge tx n p
  have hT1 : ∀ v : Int32, ct_T (ai_up C 2 2 v) tx n := fun v => ⟨by rw [ai_up_n (by omega)]; exact hT.1, hT.2.1, fun i hi => by rw [ai_up_n (by omega)]; exact hT.2.2 i hi⟩
  refine vX3_factor hV3 (sp_take hV0 hT hp hpn (fun h40 => ai_zt ?_) (fun h40 => ai_zf ?_))
  · rw [nI_1 dp]
    exact sf_par (d := d + 2) hV0 hV3 hdp (hE 1) hpv hst he hnn hk h40
  · refine sp_takeName hV0 (hT1 _) ai_up_s hskn (fun c hc h97 h122 => ⟨fun _ => ?_, fun h => ?_⟩) (fun c hc hnl => ⟨fun h => absurd rfl h, fun _ => ?_⟩)
    · rw [hss] at hc
      have hlt : px_s tx n p < n := px_lt hc (fun h => by rw [h] at h97; exact absurd h97 (by decide))
      rw [hss, ai_up_up]
      refine sp_take hV0 (hT1 _) ai_up_s hlt (fun h => ai_zt ?_) (fun h => ai_zf ?_)
      · rw [ai_up_up, nI_1 dp]
        refine (sf_call (d := d) (F := F) hV0 hV3 hdp (hE 0) hpv hst he hnn hk hc h97 h122 h).mv (fun S hS => hS.mb (fun b C' h => ?_))
        exact ⟨fun hb => by rw [hb] at h; exact h, fun hb => by rw [hb] at h; exact h⟩
      · rw [ai_up_up]
        exact sf_name (d := d + 1) hV3 hpv (by omega) he hnn (by omega) hc h97 h122 h
    · rw [h] at h97; exact absurd h97 (by decide)
    · rw [hss] at hc
      rw [hss, ai_up_up]
      have hpv1 : pv (ai_up C 2 2 (nI (px_s tx n p))) R tx n hf sc SC m ns pr vr (px_s tx n p) p' e nn ((39, 0, dp, 0, 0) :: stk) :=
        pv_of (t := 0) hpv (cE.rf.u2 2 _ (by omega)) mE.rf ai_up_s hskn (by rw [ai_up_n (by omega)]; exact hC3) hmq.2.1 hmq.2.2.1 hmq.2.2.2.2.2.1 hmq.2.2.2.2.2.2.1 hmq.2.2.2.2.2.2.2 (by rw [hss]; exact hsk) (by rw [ai_up_n (by omega)]; exact h9) (by rw [ai_up_n (by omega)]; exact hnh) (Nat.le_refl _) hnn3
      refine (sf_num (z := z) (k := k) (d := d + 2) (F := F) hV0 hV3 hpv1 (by omega) (by omega) (by omega) (by omega) hss (by rw [hc]; exact hnl) h40).mb (fun b C' h => ?_)
      have h' := pE_back hskp hss h
      exact ⟨fun hb => by rw [hb] at h'; exact h', fun hb => by rw [hb] at h'; exact h'⟩
/-- an expression at depth 11 - K -/
theorem sim_E (hV0 : hV ρ V tx n) (hV3 : V 2 3 = .ref 26) : ∀ (K d : Nat), K ≤ 11 → sF l D ρ τ z V tx n hf sc SC m ns pr vr (d + 5 * K + 2) (11 - K) (4 * K) 0 0 mX3_expression 30
  | 0, d, _ => sim_expr11 hV3
  | K + 1, d, hK => by
    have h : ∀ d', sF l D ρ τ z V tx n hf sc SC m ns pr vr (d + 5 * K + 2 + d') (11 - (K + 1) + 1) (4 * K) 0 0 mX3_expression 30 := fun d' => by
      have := sim_E hV0 hV3 K (d + d') (by omega)
      rw [show 11 - (K + 1) + 1 = 11 - K by omega, show d + 5 * K + 2 + d' = d + d' + 5 * K + 2 by omega]
      exact this
    have h1 := sim_factor (d := d + 5 * K) hV0 hV3 (by omega) h
    have h2 := sim_prod (d := d + 5 * K + 3) hV0 hV3 (by omega) h1
    have h3 := sim_sum (d := d + 5 * K + 4) hV0 hV3 (by omega) h2
    have h4 := sim_expr (d := d + 5 * K + 5) hV0 hV3 (by omega) h3
    exact h4
end SFE
