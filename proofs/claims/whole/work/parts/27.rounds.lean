/-! ===== rounds on expressions ===== -/
section RDE
variable {l : Launch} {D : va_G} {ρ : Nat → Nat} {τ : Nat → ClassId} {d : Nat} {V : ai_V} {R : ai_S} {G : ai_S → Prop} {f : Nat}
theorem ex_31 (hf : f < 80) (h13 : R 13 f = nI 31) (hM : ai_met (uM l D ρ τ) d mX6_operand [.ref 0, .int (nI f), .int 60, .int 60, .int 10, .int 33] R V (ai_qv V (fun S => G S))) : ai_met (uM l D ρ τ) (d + 1) mX6_expression [.ref 0, .int (nI f)] R V (ai_qv V G) := by
  refine vX6_expression ⟨i_in hf (by omega), ?_⟩
  rw [nI_clamp (show f < 2 ^ 31 by omega), h13]
  exact ⟨fun _ => ⟨fun h => absurd h (by decide), fun _ => ⟨fun _ => ⟨fun _ => hM, fun h => absurd (by decide) h⟩, fun h => absurd h (by decide)⟩⟩, fun h => absurd h (by decide)⟩
theorem ex_32 (hf : f < 80) (h13 : R 13 f = nI 32) (hM : ai_met (uM l D ρ τ) d mX6_operand [.ref 0, .int (nI f), .int 60, .int 60, .int 10, .int 33] R V (ai_qv V (fun S => G S))) : ai_met (uM l D ρ τ) (d + 1) mX6_expression [.ref 0, .int (nI f)] R V (ai_qv V G) := by
  refine vX6_expression ⟨i_in hf (by omega), ?_⟩
  rw [nI_clamp (show f < 2 ^ 31 by omega), h13]
  exact ⟨fun _ => ⟨fun h => absurd h (by decide), fun _ => ⟨fun _ => ⟨fun h => absurd h (by decide), fun _ => ⟨fun h => absurd (by decide) h, fun _ => hM⟩⟩, fun h => absurd h (by decide)⟩⟩, fun h => absurd h (by decide)⟩
theorem ex_34 (hf : f < 80) (h13 : R 13 f = nI 34) (hM : ai_met (uM l D ρ τ) d mX6_operand [.ref 0, .int (nI f), .int 43, .int 45, .int 11, .int 36] R V (ai_qv V (fun S => G S))) : ai_met (uM l D ρ τ) (d + 1) mX6_expression [.ref 0, .int (nI f)] R V (ai_qv V G) := by
  refine vX6_expression ⟨i_in hf (by omega), ?_⟩
  rw [nI_clamp (show f < 2 ^ 31 by omega), h13]
  exact ⟨fun _ => ⟨fun h => absurd h (by decide), fun _ => ⟨fun _ => ⟨fun h => absurd h (by decide), fun _ => ⟨fun _ => ⟨fun h => absurd (by decide) h, fun _ => hM⟩, fun h => absurd h (by decide)⟩⟩, fun h => absurd h (by decide)⟩⟩, fun h => absurd h (by decide)⟩
theorem ex_37 (hf : f < 80) (h13 : R 13 f = nI 37) (hM : ai_met (uM l D ρ τ) d mX6_operand [.ref 0, .int (nI f), .int 42, .int 42, .int 12, .int 39] R V (ai_qv V (fun S => G S))) : ai_met (uM l D ρ τ) (d + 1) mX6_expression [.ref 0, .int (nI f)] R V (ai_qv V G) := by
  refine vX6_expression ⟨i_in hf (by omega), ?_⟩
  rw [nI_clamp (show f < 2 ^ 31 by omega), h13]
  exact ⟨fun _ => ⟨fun h => absurd h (by decide), fun _ => ⟨fun _ => ⟨fun h => absurd h (by decide), fun _ => ⟨fun _ => ⟨fun _ => ⟨fun h => absurd (by decide) h, fun _ => hM⟩, fun h => absurd h (by decide)⟩, fun h => absurd h (by decide)⟩⟩, fun h => absurd h (by decide)⟩⟩, fun h => absurd h (by decide)⟩
theorem ex_39 (hf : f < 80) (h13 : R 13 f = nI 39) (hM : ai_met (uM l D ρ τ) d mX6_factor [.ref 0, .int (nI f)] R V (ai_qv V (fun S => G S))) : ai_met (uM l D ρ τ) (d + 1) mX6_expression [.ref 0, .int (nI f)] R V (ai_qv V G) := by
  refine vX6_expression ⟨i_in hf (by omega), ?_⟩
  rw [nI_clamp (show f < 2 ^ 31 by omega), h13]
  exact ⟨fun _ => ⟨fun h => absurd h (by decide), fun _ => ⟨fun _ => ⟨fun h => absurd h (by decide), fun _ => ⟨fun _ => ⟨fun _ => ⟨fun _ => ⟨fun h => absurd (by decide) h, fun _ => hM⟩, fun h => absurd h (by decide)⟩, fun h => absurd h (by decide)⟩, fun h => absurd h (by decide)⟩⟩, fun h => absurd h (by decide)⟩⟩, fun h => absurd h (by decide)⟩
theorem ex_33 {dp : Nat} (hf : f < 78) (h30 : R 0 30 = nI (f + 1)) (h15 : R 15 f = nI dp) (h13 : R 13 f = nI 33) (hG : G (mpush (ai_up R 13 f (nI 34)) (f + 1) (nI 36) (nI dp))) : ai_met (uM l D ρ τ) (d + 1) mX6_expression [.ref 0, .int (nI f)] R V (ai_qv V G) := by
  have hM : ai_met (uM l D ρ τ) d mX6_push [.ref 0, .int (nI 36), .int (nI dp)] (ai_up R 13 f (nI 34)) V (ai_qv V (fun S => G S)) := sp_push (f := f + 1) (by rw [ai_up_n (by omega)]; exact h30) (by omega) hG
  refine vX6_expression ⟨i_in (by omega) (by omega), ?_⟩
  rw [nI_clamp (show f < 2 ^ 31 by omega), h15, h13]
  exact ⟨fun _ => ⟨fun _ => hM, fun h => absurd (by decide) h⟩, fun h => absurd h (by decide)⟩
theorem ex_36 {dp : Nat} (hf : f < 78) (h30 : R 0 30 = nI (f + 1)) (h15 : R 15 f = nI dp) (h13 : R 13 f = nI 36) (hG : G (mpush (ai_up R 13 f (nI 37)) (f + 1) (nI 39) (nI dp))) : ai_met (uM l D ρ τ) (d + 1) mX6_expression [.ref 0, .int (nI f)] R V (ai_qv V G) := by
  have hM : ai_met (uM l D ρ τ) d mX6_push [.ref 0, .int (nI 39), .int (nI dp)] (ai_up R 13 f (nI 37)) V (ai_qv V (fun S => G S)) := sp_push (f := f + 1) (by rw [ai_up_n (by omega)]; exact h30) (by omega) hG
  refine vX6_expression ⟨i_in (by omega) (by omega), ?_⟩
  rw [nI_clamp (show f < 2 ^ 31 by omega), h15, h13]
  exact ⟨fun _ => ⟨fun h => absurd h (by decide), fun _ => ⟨fun h => absurd (by decide) h, fun _ => hM⟩⟩, fun h => absurd h (by decide)⟩
theorem ex_30 {tx : Nat → Int32} {dp hh : Nat} (hg : hh ≤ 1 ∧ gh tx hh R) (hf : f < 78) (h30 : R 0 30 = nI (f + 1)) (h15 : R 15 f = nI dp) (h13 : R 13 f = nI 30) (hdp : dp < 100) (ht : dp ≤ 10 → G (mpush (ai_up (ai_up R 0 24 (if R 0 24 < nI dp then nI dp else R 0 24)) 13 f 31) (f + 1) 33 (nI dp))) (hw : ¬ dp ≤ 10 → ∀ R' : ai_S, bd tx R' → G R') : ai_met (uM l D ρ τ) (d + 2) mX6_expression [.ref 0, .int (nI f)] R V (ai_qv V G) := by
  have hM : ai_met (uM l D ρ τ) (d + 1) mX6_goDeeper [.ref 0, .int (nI f)] R V (ai_qv V (fun S27 => ai_met (uM l D ρ τ) (d + 1) mX6_push [.ref 0, .int 33, .int (nI dp)] (ai_up S27 13 f 31) V (ai_qv V (fun S => G S)))) := by
    refine sp_goDeeper (by omega) h15 hdp (fun h => sp_push (f := f + 1) (by rw [ai_up_n (by omega), ai_up_n (by omega)]; exact h30) (by omega) (ht h)) (fun h R' h19 ho h30' => sp_push (f := f + 1) (by rw [ai_up_n (by omega), h30' 0 30 (by omega)]; exact h30) (by omega) (hw h _ (bd_of hg (fun g => ?_) ?_)))
    · have g' : gh tx hh R' := g.fr (fun q i a _ _ _ => h30' q i (by omega))
      unfold mpush
      repeat with_reducible refine gh.u ?_ (by omega)
      exact g'
    · simp [mpush, ai_up_eq, h19]
  refine vX6_expression ⟨i_in (by omega) (by omega), ?_⟩
  rw [nI_clamp (show f < 2 ^ 31 by omega), h15, h13]
  exact ⟨fun h => absurd (by decide) h, fun _ => hM⟩
theorem ex_41 (hf : f < 80) (h13 : R 13 f = nI 41) (hM : ai_met (uM l D ρ τ) d mX6_add [.ref 0, .int (nI f)] R V (ai_qv V (fun S14 => ai_met (uM l D ρ τ) d mX6_eat [.ref 0, .int 41] S14 V (ai_qz V (fun b15 S16 => (b15 = true → ai_met (uM l D ρ τ) d mX6_done [.ref 0, .int (S16 14 f)] S16 V (ai_qv V (fun S => G S))) ∧ (b15 = false → ai_met (uM l D ρ τ) d mX6_done [.ref 0, .int (S16 14 f)] (ai_up S16 0 19 1) V (ai_qv V (fun S => G S)))))))) : ai_met (uM l D ρ τ) (d + 1) mX6_expression [.ref 0, .int (nI f)] R V (ai_qv V G) := by
  refine vX6_expression ⟨i_in hf (by omega), ?_⟩
  rw [nI_clamp (show f < 2 ^ 31 by omega), h13]
  exact ⟨fun _ => ⟨fun h => absurd h (by decide), fun _ => ⟨fun _ => ⟨fun h => absurd h (by decide), fun _ => ⟨fun _ => ⟨fun _ => ⟨fun _ => ⟨fun _ => hM, fun h => absurd h (by decide)⟩, fun h => absurd h (by decide)⟩, fun h => absurd h (by decide)⟩, fun h => absurd h (by decide)⟩⟩, fun h => absurd h (by decide)⟩⟩, fun h => absurd h (by decide)⟩
end RDE
