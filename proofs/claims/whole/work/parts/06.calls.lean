/-! ===== calls ===== -/
section AIC
variable {u : ai_U} {d : Nat} {M : ai_M} {pc : Nat} {lv : List (Nat × Value)} {st : List Value} {S : ai_S} {V : ai_V} {Q : ai_P}
/-- a virtual call's words -/
def ai_Cv (own : String) (idx ci n : Nat) (M' : ai_M) : Prop := (∃ (T : u_T) (N : Nat), vwCl[ci]? = some (M'.1.cls, T, N)) ∧ Cond.methodLink own idx M'.1 ∈ ai_ws ∧ Cond.instanceMethod M'.1 ∈ ai_ws ∧ Cond.selects M'.1.cls M'.1 M'.1 ∈ ai_ws ∧ Cond.initialized M'.1.cls ∈ ai_ws ∧ Cond.code M'.1 M'.2.1 M'.2.2.1 M'.2.2.2 ∈ ai_ws ∧
  (M'.1.cls ≠ "java/lang/invoke/MethodHandle" ∧ M'.1.cls ≠ "java/lang/invoke/VarHandle" ∧ (parseMethodDescriptor M'.1.desc).map (fun d => d.parameters.length) = some n) ∧ M'.2.2.1 ≤ 26
/-- a static call's -/
def ai_Cs (own : String) (idx n : Nat) (M' : ai_M) : Prop := Cond.methodLink own idx M'.1 ∈ ai_ws ∧ Cond.static M'.1 ∈ ai_ws ∧ Cond.initialized M'.1.cls ∈ ai_ws ∧ Cond.code M'.1 M'.2.1 M'.2.2.1 M'.2.2.2 ∈ ai_ws ∧
  (M'.1.cls ≠ "java/lang/invoke/MethodHandle" ∧ M'.1.cls ≠ "java/lang/invoke/VarHandle" ∧ (parseMethodDescriptor M'.1.desc).map (fun d => d.parameters.length) = some n) ∧ M'.2.2.1 ≤ 26
theorem ai_Pc.blind {u : ai_U} {as : List Value} {sz : Nat} {S : ai_S} {V : ai_V} : FrameBlind (ai_Pc u as sz S V) := by
  intro a U g mk h
  obtain ⟨h0, h1, h2, h3, h4⟩ := h
  exact ⟨h0, h1, h2, h3.same rfl, h4⟩
theorem ai_cat_map (ρ : Nat → Nat) (l : List Value) : ((l.map (ai_v ρ)).map fun v => v.category).sum = (l.map fun v => v.category).sum := by
  simp [Function.comp_def, ai_v_cat]
theorem ai_free {u : ai_U} {A : Nat → Prop} {S : ai_S} {V : ai_V} {s : State} {H : Heap} {locs : List Loc} (hA : ∀ q : Nat, s.heap.size ≤ q → A q) (hD : ai_D u A) (hS : va_S A s.heap H locs) : ∀ q, va_A (ai_w u S V) H.size q → A q := by
  intro q h
  rcases h with ⟨k, e, h⟩ | h
  · obtain ⟨h1, h2⟩ := ai_w_of h
    have h2 : q = u.2.2.1 k := h2
    rw [h2]
    exact hD.2 k h1
  · exact hA q (Nat.le_trans hS.1 h)
/-- behind a call -/
theorem ai_back {p : Program} {e : Env} {s : State} {m : MethodId} {args : Array Value} {below : List Frame} {meth : Method} {c : Code} {A : Nat → Prop} {H : Heap} {locs : List Loc} {ls : Array Slot} {g : JFrame} {rest : List Value} {Q' : ai_P} {R : Room} {aa : Array Value}
    (hg : g = F0 m pc ls (st.map (ai_v u.2.2.1))) (hA : ∀ q : Nat, s.heap.size ≤ q → A q) (hD : ai_D u A) (hS : va_S A s.heap H locs)
    (hr : va_Run p u.1 e R s m args below meth c H locs 0 0 0 0 g (rest.map (ai_v u.2.2.1)) (ai_Q u (va_A (ai_w u S V) H.size) Q' aa) (va_A (ai_w u S V) H.size))
    (kk : ∀ (r : Option Value) (S' : ai_S) (V' : ai_V) (H1 : Heap) (locs1 : List Loc), Q' r S' V' → va_P u.2.1 vwCl (ai_w u S' V') H1 → va_S A s.heap H1 locs1 → W p u.1 e R s m args below meth c H1 locs1 0 0 (MQ below (ai_Q u A Q) args s 0 0 A) (F0 m (pc + 3) ls ((r.toList ++ rest).map (ai_v u.2.2.1)))) :
    W p u.1 e R s m args below meth c H locs 0 0 (MQ below (ai_Q u A Q) args s 0 0 A) g := by
  intro T hT X
  obtain ⟨v, st₀, t, T', L, h0, X', hL, e1, e2, ⟨⟨r, S', V', hv, hQ, hP'⟩, hz, hk⟩, stp⟩ := hr T hT X
  have hf := ai_free (S := S) (V := V) hA hD hS
  rw [h0] at hz hk
  have hv : v = r.map (ai_v u.2.2.1) := by cases hv; rfl
  have hS' : va_S A s.heap T'.heap (locs ++ L) := by
    refine ⟨Nat.le_trans hS.1 (by rw [e1]; exact hz), fun q h1 h2 => ?_, fun q hq => ?_⟩
    · rw [e1, hk q (Nat.lt_of_lt_of_le h1 hS.1) (fun z => h2 (hf q z))]
      exact hS.2.1 q h1 h2
    · rcases List.mem_append.mp hq with h | h
      · exact hS.2.2 q h
      · exact hf _ (hL q h)
  obtain ⟨t2, a1, b1⟩ := kk r S' V' T'.heap (locs ++ L) hQ (by rw [e1]; exact hP') hS' T' rfl X'
  refine ⟨t2, stp t2 ?_, b1⟩
  have hfr : ({ g with pc := g.pc + 3, stack := v.toList ++ rest.map (ai_v u.2.2.1) } : JFrame) = F0 m (pc + 3) ls ((r.toList ++ rest).map (ai_v u.2.2.1)) := by
    subst hg
    subst hv
    cases r <;> rfl
  rw [hfr]
  exact a1
theorem ai_callV {M' : ai_M} {idx ci n q : Nat} {ks : List Nat} {As rest : List Value} {Q' : ai_P} (h : decode M.2.1 pc = .ok (.invokevirtual idx, 3)) (cv : ai_Cv M.1.cls idx ci n M') (hq : u.2.2.2.2[q]? = some (.inr (ci, ks))) (hst : st = As.reverse ++ .ref q :: rest) (hn : As.length = n) (hW : (rest.map fun v => v.category).sum ≤ 8)
    (hM : ai_met u d M' (.ref q :: As) S V Q') (kk : ∀ r S' V', Q' r S' V' → ai_W u (d + 1) M (pc + 3) lv (r.toList ++ rest) S' V' Q) : ai_W u (d + 1) M pc lv st S V Q := by
  intro p e s m args below meth c A H locs ls X hA hP hD hS hl
  obtain ⟨⟨T, N, c0⟩, c1, c2, c3, c4, c5, c6, c7⟩ := cv
  have hts := X.2.2.2.2.2.1
  have hW0 : ∀ w, w ∈ ai_ws → w.before args s = true := fun w hw => hts w (List.mem_cons_of_mem _ hw)
  refine ai_back (Q' := Q') rfl hA hD hS (va_runV (As := As.map (ai_v u.2.2.1)) (rest := rest.map (ai_v u.2.2.1)) (b := u.2.2.1 q) (C := M'.1.cls) (n := n) (index := idx) ⟨X.1, X.2.1, X.2.2.1, X.2.2.2.2.1, hts⟩ (hM H.size) ⟨callB_of n hts (ai_good c5) rfl rfl rfl (hW0 _ c4) (hW0 _ c1) c6 ⟨Nat.le_refl _, ?_⟩, hW0 _ c2, hW0 _ c3⟩ ⟨ai_Pc.blind, va_recv X.2.2.2.2.2.2.2.1 hP c0 (ai_w_atO hq (ai_ci c0)), fun U hU hWm => ⟨rfl, by rw [hU], by rw [hU]; exact hP, X.2.2.2.2.2.2.2.warm hWm, hD.1, fun _ _ => trivial⟩⟩ rfl (by simpa using hn) hl.1 ?_ (lv_room ?_) h ⟨Nat.le_refl _, Nat.le_refl _⟩) (fun r S' V' H1 locs1 hQ hP1 hS1 => kk r S' V' hQ p e s m args below meth c A H1 locs1 ls X hA hP1 hD hS1 hl)
  · show 8 + (M'.2.2.1 + 11) + 45 * d ≤ 45 * (d + 1)
    omega
  · show st.map (ai_v u.2.2.1) = _
    rw [hst]
    simp [ai_v]
  · rw [ai_cat_map]
    exact hW
theorem ai_callS {M' : ai_M} {idx n : Nat} {As rest : List Value} {Q' : ai_P} (h : decode M.2.1 pc = .ok (.invokestatic idx, 3)) (cv : ai_Cs M.1.cls idx n M') (hst : st = As.reverse ++ rest) (hn : As.length = n) (hW : (rest.map fun v => v.category).sum ≤ 8)
    (hM : ai_met u d M' As S V Q') (kk : ∀ r S' V', Q' r S' V' → ai_W u (d + 1) M (pc + 3) lv (r.toList ++ rest) S' V' Q) : ai_W u (d + 1) M pc lv st S V Q := by
  intro p e s m args below meth c A H locs ls X hA hP hD hS hl
  obtain ⟨c1, c2, c4, c5, c6, c7⟩ := cv
  have hts := X.2.2.2.2.2.1
  have hW0 : ∀ w, w ∈ ai_ws → w.before args s = true := fun w hw => hts w (List.mem_cons_of_mem _ hw)
  refine ai_back (Q' := Q') rfl hA hD hS (va_runS (As := As.map (ai_v u.2.2.1)) (rest := rest.map (ai_v u.2.2.1)) (n := n) (index := idx) ⟨X.1, X.2.1, X.2.2.1, X.2.2.2.2.1, hts⟩ (hM H.size) ⟨callB_of n hts (ai_good c5) rfl rfl rfl (hW0 _ c4) (hW0 _ c1) c6 ⟨Nat.le_refl _, ?_⟩, hW0 _ c2⟩ ⟨ai_Pc.blind, fun U hU hWm => ⟨rfl, by rw [hU], by rw [hU]; exact hP, X.2.2.2.2.2.2.2.warm hWm, hD.1, fun _ _ => trivial⟩⟩ rfl (by simpa using hn) hl.1 ?_ (lv_room ?_) h ⟨Nat.le_refl _, Nat.le_refl _⟩) (fun r S' V' H1 locs1 hQ hP1 hS1 => kk r S' V' hQ p e s m args below meth c A H1 locs1 ls X hA hP1 hD hS1 hl)
  · show 8 + (M'.2.2.1 + 11) + 45 * d ≤ 45 * (d + 1)
    omega
  · show st.map (ai_v u.2.2.1) = _
    rw [hst]
    simp
  · rw [ai_cat_map]
    exact hW
end AIC
