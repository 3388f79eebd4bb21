/-! ===== two values are joined ===== -/
section OPD
/-- the reference joins two values -/
theorem sp_opd {zz9 : lm_T} {Sz9 : ai_S} {V : ai_V} {uz9 wz9 sg nz9 z' fx : Nat} {Gp : ai_S → Prop} (h49 : Sz9 0 49 = nI (wz9 + 1)) (hw : wz9 < 100) (hn : nz9 < 700) (h8 : Sz9 8 nz9 = nI sg) (hsg : sg < 4) (h4 : Sz9 4 nz9 = nI z') (hz : z' < 700)
    (h0 : z' = 0 → Gp (ai_up (ai_up Sz9 0 49 (nI wz9)) 0 50 (jn sg (Sz9 29 wz9) (Sz9 0 50))))
    (h1 : 0 < z' → ai_met (lm_u zz9) uz9 mX6_later [.ref 0, .int 10, .int (nI z'), .int (nI fx)] (ai_up (ai_up (ai_up (ai_up Sz9 0 49 (nI wz9)) 0 50 (jn sg (Sz9 29 wz9) (Sz9 0 50))) 29 wz9 (jn sg (Sz9 29 wz9) (Sz9 0 50))) 0 49 (nI (wz9 + 1))) V (ai_qv V (fun S7 => ai_met (lm_u zz9) uz9 mX6_later [.ref 0, .int 8, .int (S7 4 nz9), .int (nI fx)] S7 V (ai_qv V Gp)))) :
    ai_met (lm_u zz9) (uz9 + 1) mX6_operandDone [.ref 0, .int (nI nz9), .int (nI fx), .int 1] Sz9 V (ai_qv V Gp) := by
  refine vX6_operandDone ⟨fun hh => absurd hh (by decide), fun _ => ?_⟩
  rw [h49, nI_pred, nI_clamp (show nz9 < 2 ^ 31 by omega), nI_clamp (show wz9 < 2 ^ 31 by omega), h8, h4, nI_1]
  refine ⟨i_in hw (by omega), i_in hn (by omega), ?_⟩
  have ne100 : ¬ nI wz9 = 100 := by rw [show (100 : Int32) = nI 100 from rfl, i_eq (by omega) (by omega)]; omega
  have keyz9 : ∀ vz9 : Int32, vz9 = jn sg (Sz9 29 wz9) (Sz9 0 50) → ((¬ nI z' = 0 → ((¬ nI wz9 = 100 → ai_met (lm_u zz9) uz9 mX6_later [.ref 0, .int 10, .int (nI z'), .int (nI fx)] (ai_up (ai_up (ai_up (ai_up Sz9 0 49 (nI wz9)) 0 50 vz9) 29 wz9 vz9) 0 49 (nI (wz9 + 1))) V (ai_qv V (fun S7 => ai_met (lm_u zz9) uz9 mX6_later [.ref 0, .int 8, .int (S7 4 nz9), .int (nI fx)] S7 V (ai_qv V Gp)))) ∧ (nI wz9 = 100 → Gp (ai_up (ai_up (ai_up Sz9 0 49 (nI wz9)) 0 50 vz9) 0 51 7)))) ∧ (nI z' = 0 → Gp (ai_up (ai_up Sz9 0 49 (nI wz9)) 0 50 vz9))) := by
    intro vz9 hv
    subst hv
    refine ⟨fun hh => ⟨fun _ => h1 ?_, fun hz9 => absurd hz9 ne100⟩, fun hh => h0 ?_⟩
    · refine Nat.pos_of_ne_zero (fun ez9 => hh ?_); rw [ez9]; rfl
    · rw [show (0 : Int32) = nI 0 from rfl, i_eq (by omega) (by omega)] at hh; exact hh
  have hs : sg = 0 ∨ sg = 1 ∨ sg = 2 ∨ sg = 3 := by omega
  clear h0 h1 h8 h4 h49
  rcases hs with ez9 | ez9 | ez9 | ez9
  · subst ez9
    exact ⟨fun hh => absurd nI_0 hh, fun _ => keyz9 _ rfl⟩
  · subst ez9
    refine ⟨fun _ => ⟨fun hh => absurd rfl hh, fun _ => keyz9 _ ?_⟩, fun hh => absurd hh (by decide)⟩
    simp only [jn]
  · subst ez9
    refine ⟨fun _ => ⟨fun _ => ⟨fun hh => absurd rfl hh, fun _ => keyz9 _ ?_⟩, fun hh => absurd hh (by decide)⟩, fun hh => absurd hh (by decide)⟩
    simp only [jn]
  · subst ez9
    refine ⟨fun _ => ⟨fun _ => ⟨fun _ => ⟨fun hh => keyz9 0 ?_, fun hh => keyz9 1 ?_⟩, fun hh => absurd hh (by decide)⟩, fun hh => absurd hh (by decide)⟩, fun hh => absurd hh (by decide)⟩
    · simp only [jn, if_pos hh]
    · simp only [jn, if_neg hh]
/-- a value more waits -/
theorem wt_push {Cz9 Rz9 C'z9 R' : ai_S} {wz9 : Nat} {vz9 : Int32} (hz9 : ∀ iz9, iz9 < wz9 → Cz9 18 iz9 = Rz9 29 iz9) (hcz9 : C'z9 18 = upd (Cz9 18) wz9 vz9) (hr : R' 29 = upd (Rz9 29) wz9 vz9) : ∀ iz9, iz9 < wz9 + 1 → C'z9 18 iz9 = R' 29 iz9 := by
  intro iz9 hiz9
  rw [hcz9, hr]
  unfold upd
  by_cases ez9 : iz9 = wz9
  · rw [if_pos ez9, if_pos ez9]
  · rw [if_neg ez9, if_neg ez9]
    exact hz9 iz9 (by omega)
end OPD
