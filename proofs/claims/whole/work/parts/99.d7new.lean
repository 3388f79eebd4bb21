/-! ===== the two new objects ===== -/
def lV0 : ai_V := fun q k => if q = 0 ∧ k = 4 then .ref 20 else if q = 0 ∧ k = 5 then .ref 26 else .null
set_option maxRecDepth 100000 in
theorem st5 {l : Launch} {D : va_G} {τ : Nat → ClassId} {a : Nat} {ws : va_W} (h : ctX5 τ a ws) : ∃ ρ : Nat → Nat, ρ 0 = a ∧ ws = ai_w (uN l D ρ τ) (fun _ _ => 0) lV0 := by
  obtain ⟨q8, q19, q19_q5, q19_q5_q8, q19_q5_q17, q19_q5_q26, q19_q5_q35, q19_q5_q43, q30, q30_q5, q30_q5_q8, q30_q5_q16, q30_q5_q24, q30_q5_q32, q30_q5_q40, q30_q18, q30_q26, q30_q34, q30_q42, q41, q41_q8, q41_q17, q41_q26, q41_q34, q41_q42, q52, q52_q8, q52_q17, q52_q26, q52_q34, q52_q42, rfl⟩ := h
  exact ⟨fun q => ([a, q8, q19, q19_q5, q19_q5_q8, q19_q5_q17, q19_q5_q26, q19_q5_q35, q19_q5_q43, q30, q30_q5, q30_q5_q8, q30_q5_q16, q30_q5_q24, q30_q5_q32, q30_q5_q40, q30_q18, q30_q26, q30_q34, q30_q42, q41, q41_q8, q41_q17, q41_q26, q41_q34, q41_q42, q52, q52_q8, q52_q17, q52_q26, q52_q34, q52_q42] : List Nat).getD q 0, rfl, by simp only [ai_w, uN, uM, layN, layM, List.mapIdx_cons, List.mapIdx_nil]; rfl⟩
set_option maxHeartbeats 4000000 in
set_option maxRecDepth 100000 in
theorem st6 {l : Launch} {D : va_G} {τ : Nat → ClassId} {a : Nat} {ws : va_W} (h : ctX6 τ a ws) : ∃ ρ : Nat → Nat, ρ 0 = a ∧ ws = ai_w (uM l D ρ τ) (fun _ _ => 0) (fun _ _ => .null) := by
  obtain ⟨q8, q17, q26, q35, q44, q53, q62, q71, q79, q87, q95, q103, q111, q119, q127, q135, q143, q152, q161, q170, q179, q188, q197, q206, q215, q224, q233, q242, q250, q258, rfl⟩ := h
  exact ⟨fun q => ([a, q8, q17, q26, q35, q44, q53, q62, q71, q79, q87, q95, q103, q111, q119, q127, q135, q143, q152, q161, q170, q179, q188, q197, q206, q215, q224, q233, q242, q250, q258] : List Nat).getD q 0, rfl, by simp only [ai_w, uM, layM, List.mapIdx_cons, List.mapIdx_nil, ai_c, ai_f, Nat.reduceLT, if_true, if_pos]; rfl⟩
theorem NV0 : NV (fun _ _ => 0) lV0 (fun _ _ => 0) := by
  refine ⟨⟨0, by omega, rfl, rfl, fun i hi => absurd hi (by omega)⟩, ⟨0, by omega, rfl, Or.inl ⟨rfl, rfl⟩⟩, ⟨rfl, rfl, rfl, 0, rfl, rfl, by omega, fun i hi => absurd hi (by omega)⟩, rfl, rfl, fun q k => ?_⟩
  unfold lV0
  split
  · exact Or.inr ⟨20, by omega, rfl⟩
  · split
    · exact Or.inr ⟨26, by omega, rfl⟩
    · exact Or.inl rfl
theorem lw_apart {l : Launch} {D : va_G} {τ : Nat → ClassId} {ρ ρ' : Nat → Nat} {C R : ai_S} {V VR : ai_V} {A : Nat → Prop} (h : va_D A (ai_w (uN l D ρ τ) C V ++ ai_w (uM l D ρ' τ) R VR)) : lwD A ρ ρ' := by
  have len1 : (ai_w (uN l D ρ τ) C V).length = 32 := by simp [ai_w, uN]; rfl
  have at1 : ∀ i, i < 32 → ∃ x, (ai_w (uN l D ρ τ) C V ++ ai_w (uM l D ρ' τ) R VR)[i]? = some (ρ i, x) := fun i hi => by
    have hl : i < layN.length := hi
    exact ⟨_, by rw [List.getElem?_append_left (by rw [len1]; exact hi)]; exact ai_w_at (u := uN l D ρ τ) (List.getElem?_eq_getElem hl)⟩
  have at2 : ∀ i, i < 31 → ∃ x, (ai_w (uN l D ρ τ) C V ++ ai_w (uM l D ρ' τ) R VR)[32 + i]? = some (ρ' i, x) := fun i hi => by
    have hl : i < layM.length := hi
    exact ⟨_, by rw [List.getElem?_append_right (by rw [len1]; omega), len1, Nat.add_sub_cancel_left]; exact ai_w_at (u := uM l D ρ' τ) (List.getElem?_eq_getElem hl)⟩
  refine ⟨fun i j hi hj hij => ?_, fun i j hi hj hij => ?_, fun i j hi hj hij => ?_, fun i hi => ?_, fun i hi => ?_⟩
  · obtain ⟨x, hx⟩ := at1 i hi
    obtain ⟨y, hy⟩ := at1 j hj
    exact h.1 i j _ _ hx hy hij
  · obtain ⟨x, hx⟩ := at2 i hi
    obtain ⟨y, hy⟩ := at2 j hj
    have := h.1 _ _ _ _ hx hy hij
    omega
  · obtain ⟨x, hx⟩ := at1 i hi
    obtain ⟨y, hy⟩ := at2 j hj
    have := h.1 _ _ _ _ hx hy hij
    omega
  · obtain ⟨x, hx⟩ := at1 i hi
    exact h.2 _ _ hx
  · obtain ⟨x, hx⟩ := at2 i hi
    exact h.2 _ _ hx
