/-! ===== factors, simulated ===== -/
section SFA
variable {l : Launch} {D : va_G} {ρ : Nat → Nat} {τ : Nat → ClassId} {z : lm_T} {V : ai_V} {tx : Nat → Int32} {n hf : Nat} {sc : sc_T} {SC : Nat → sc_T} {m ns pr vr d dp F : Nat} {C R : ai_S} {p p' e nn k : Nat} {stk : List mf_T}
set_option maxHeartbeats 4000000 in
/-- a number -/
theorem sf_num (hV0 : hV ρ V tx n) (hV3 : V 2 3 = .ref 26) (hpv : pv C R tx n hf sc SC m ns pr vr p p' e nn ((39, 0, dp, 0, 0) :: stk)) (hst : stk.length < 70) (he : 2 * e ≤ 3 * p + 2) (hnn : nn ≤ p) (hk : k < 100000) (hsp0 : px_s tx n p = p) (h97 : ¬ (97 ≤ px_c tx n 0 p ∧ px_c tx n 0 p ≤ 122)) (h40 : ¬ px_c tx n 0 p = 40) :
    ai_met (uC l D ρ τ) (d + 1) mX3_number [.ref 2] C V (ai_qz V (fun b C' => pE z C R tx n hf sc SC m ns pr vr p e nn stk (F + 1) 6 k b C')) := by
  obtain ⟨hT, hp, hpn, hC3, hmq, hsk, h8, h9, hnh, hsp, hsc, hnn3⟩ := id hpv
  have hn320 : n ≤ 320 := hT.2.1
  obtain ⟨hmT, m2, mpn, m14, mhf, m15, hmf, m19⟩ := id hmq
  obtain ⟨⟨t13, t14, t15, t16, t17⟩, hml, h30⟩ := mf_top hmf
  have hsk' : px_s tx n p' = p := by rw [← hsk]; exact hsp0
  refine vX3_number hV0.1 hV3 (sp_look hV0 hT hp hpn ?_)
  rw [hsp0, ai_up_self hp]
  refine num_C (p := p) (e := e) hV0 hV3 (by omega) 9 0 C _ (by omega) (fun i hi => by omega) hT hp hpn rfl hC3 (fun K h1 h2 h3 h4 h5 => ?_)
  have hcE : cE C (cadd (ai_up C 2 2 (nI (p + K))) e 10 (nv tx p K) 0) e := (cE.rf.u2 2 _ (by omega)).add (Nat.le_refl _) _ _ _
  by_cases hK : K = 0
  · -- no digit at all
    subst hK
    have hnd : ¬ dgt tx n p 0 := by
      rcases h5 with h5 | h5
      · omega
      · exact h5
    have b1 : ¬ (48 ≤ px_c tx n (-1) (px_s tx n p') ∧ px_c tx n (-1) (px_s tx n p') ≤ 57) := fun h => by
      rw [hsk'] at h
      have hlt : p < n := Classical.byContradiction fun hn => by
        unfold px_c at h
        rw [if_neg hn] at h
        exact absurd h.1 (by decide)
      unfold px_c at h
      rw [if_pos hlt] at h
      exact hnd ⟨hlt, h.1, h.2⟩
    have b2 : ¬ (97 ≤ px_c tx n (-1) (px_s tx n p') ∧ px_c tx n (-1) (px_s tx n p') ≤ 122) := fun h => by
      rw [hsk'] at h
      by_cases hlt : p < n
      · unfold px_c at h h97
        rw [if_pos hlt] at h h97
        exact h97 h
      · unfold px_c at h
        rw [if_neg hlt] at h
        exact absurd h.1 (by decide)
    have b3 : ¬ px_c tx n (-1) (px_s tx n p') = 40 := fun h => by
      rw [hsk'] at h
      exact h40 ((px_cc (by decide) (by decide)).mpr h)
    obtain ⟨R', w1, w2⟩ := lm_bad (z := z) (R := R) (k := k) (k' := k + 1) (fun hall => rd_fac hk hmq hst (fac_bad (d := z.2.2.2.2.1 + 4) mhf (by omega) hmT m2 mpn rfl b1 b2 b3 hall))
    exact ⟨R', 1, w2, Or.inr ⟨w1, Or.inl (by decide)⟩⟩
  · have hd0 : dgt tx n (px_s tx n p') 0 := by rw [hsk']; exact h3 0 (by omega)
    have hb : decide (0 < K) = true := by simp; omega
    by_cases hdK : dgt tx n p K
    · -- a tenth digit
      have hK9 : K = 9 := by
        rcases h5 with h5 | h5
        · exact h5
        · exact absurd hdK h5
      subst hK9
      have b4 : ∀ K', K' ≤ 9 → ¬ dgt tx n (px_s tx n p') K' → False := fun K' a2 a4 => by
        rw [hsk'] at a4
        by_cases h : K' = 9
        · rw [h] at a4; exact absurd hdK a4
        · exact absurd (h3 K' (by omega)) a4
      obtain ⟨R', w1, w2⟩ := lm_bad (z := z) (R := R) (k := k) (k' := k + 1) (fun hall => rd_fac hk hmq hst (fac_num (d := z.2.2.2.2.1 + 5) mhf ⟨by omega, by omega⟩ (by omega) hmT m2 mpn m15 (by omega) h30 hd0 (fun K' a1 a2 a3 a4 _ => (b4 K' a2 a4).elim) (fun _ => hall)))
      · refine ⟨R', 1, w2, Or.inr ⟨w1, Or.inr ⟨ct_of hT hcE, p + 9, e + 1, hdK.1, by simp [cadd, ai_up_eq], hdK.2.1, hdK.2.2, by simp [cadd, ai_up_eq], by omega, by omega⟩⟩⟩
    · -- read
      obtain ⟨R', hR'⟩ : ∃ R', R' = numR R (350 * hf + nn + 1) stk.length (nI (p + K)) (nv tx p K) := ⟨_, rfl⟩
      have hlm : lm z R' (k + 1) → lm z R k := fun h => rd_fac hk hmq hst (fac_num (d := z.2.2.2.2.1 + 5) mhf ⟨by omega, by omega⟩ (by omega) hmT m2 mpn m15 (by omega) h30 hd0 (fun K' a1 a2 a3 a4 _ => by
        rw [hsk'] at a3 a4 ⊢
        have : K' = K := by
          rcases Nat.lt_trichotomy K' K with h | h | h
          · exact absurd (h3 K' h) a4
          · exact h
          · exact absurd (a3 K h) hdK
        rw [this, ← hR']
        exact h) (fun h10 => by
        rw [hsk'] at h10
        exact absurd (h10 K (by omega)) hdK))
      have hmE : mE R R' (350 * hf + nn) (350 * hf + 350) := by
        rw [hR']
        unfold numR
        exact ((((mE.rf.u0 2 _ (by omega)).fresh _ _ (by omega) (by omega)).uN 5 _ _ (by omega) (by omega) (by omega) (by omega)).u0 31 _ (by omega)).u0 30 _ (by omega)
      refine ⟨R', 1, hlm, Or.inl ⟨hb, 350 * hf + nn + 1, p + K, p + K, e + 1, nn + 1, ?_, ?_, ⟨by omega, by omega⟩, ⟨fun h => ?_, fun a1 a2 _ => absurd ⟨by rw [hsp0] at a1; exact a1, by rw [hsp0] at a2; exact a2⟩ h97⟩, ?_, by omega, by omega, by omega, by omega, by omega, by omega, hmE, hcE, fun hN => ⟨?_, ⟨by omega, by omega⟩, by omega, Or.inl ⟨?_, ?_, ?_, cd_cadd2, rfl⟩⟩⟩⟩
      · refine pv_of hpv hcE hmE (by simp [cadd, ai_up_eq]) h4 (by simp [cadd, ai_up_eq]) (by rw [hR']; simp [numR, mfresh, ai_up_eq]) h4 (by rw [hR']; simp [numR, mfresh, ai_up_eq]; rfl) ?_ (by rw [hR']; simp [numR, mfresh, ai_up_eq]; exact m19) rfl ?_ ?_ (by omega) (by omega)
        · rw [hR']
          exact ⟨ai_up_s, mf_l_o (mf_l_o (mf_l_o (mf_l_fresh (mf_l_o hml 0 2 _ (by omega)) _ _) 5 _ _ (by omega)) 0 31 _ (by omega)) 0 30 _ (by omega)⟩
        · rw [show R' 0 24 = R 0 24 by rw [hR']; simp [numR, mfresh, ai_up_eq]]; simp [cadd, ai_up_eq]; exact h9
        · rw [show R' 0 20 = R 0 20 by rw [hR']; simp [numR, mfresh, ai_up_eq]]; simp only [cadd, ai_up_eq]; simpa using hnh
      · rw [hR']; simp [numR, ai_up_eq]
      · rw [hR'] at h; simp [numR, mfresh, ai_up_eq] at h
      · rw [hR']; simp [numR, mfresh, ai_up_eq]; rfl
      · simpa [cadd, ai_up_eq] using hN
      · rw [hR']; simp [numR, mfresh, ai_up_eq]
      · rw [cd_cadd0]
      · rw [cd_cadd1, hR']; simp [numR, mfresh, ai_up_eq]
end SFA
