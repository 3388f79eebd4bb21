/-! ===== the law: a call of the class, then of the reference ===== -/
def lwD (A : Nat → Prop) (ρ ρ' : Nat → Nat) : Prop := (∀ i j : Nat, i < 32 → j < 32 → ρ i = ρ j → i = j) ∧ (∀ i j : Nat, i < 31 → j < 31 → ρ' i = ρ' j → i = j) ∧ (∀ i j : Nat, i < 32 → j < 31 → ρ i ≠ ρ' j) ∧ (∀ i : Nat, i < 32 → A (ρ i)) ∧ ∀ i : Nat, i < 31 → A (ρ' i)
theorem lw_hts {a : Array Value} {s : State} {y : Cond} (h : ∀ w ∈ lw_tbl, w.before a s = true) (hy : y ∈ ai_ws) : ∀ w ∈ y :: ai_ws, w.before a s = true := fun w hw => by
  have h1 : w ∈ ai_ws := by
    rcases List.mem_cons.mp hw with h2 | h2
    · rw [h2]; exact hy
    · exact h2
  exact h w (List.mem_filter.mp h1).1
/-- a virtual call from the law -/
theorem lw_run {p : Program} {e : Env} {s : State} {m : MethodId} {below : List Frame} {meth : Method} {c : Code} {b cells slots pc idx ci n d : Nat} {u : ai_U} {M : ai_M} {ι : Type} {Q : ι → ai_P} {S : ai_S} {V : ai_V} {As rest : List Value} {ks : List Nat} {H : Heap} {locs : List Loc} {ls : Array Slot}
    (hx : p.tables.exec = Jvm.exec) (hb : c.code = code) (hml : c.maxLocals = 4) (hown : s.vm.findClass RL = some m.cls) (hts : ∀ w ∈ lw_tbl, w.before #[Value.ref b] s = true) (hK : ai_K u s) (cv : ai_Cv RL idx ci n M) (hq : u.2.2.2.2[0]? = some (.inr (ci, ks))) (hAs : As.map (ai_v u.2.2.1) = As) (hn : As.length = n) (hW : (rest.map fun v => v.category).sum ≤ 8) (hd : d ≤ 100)
    (hM : ai_metA u d M (.ref 0 :: As) S V Q) (h : decode code pc = .ok (.invokevirtual idx, 3)) (hP : va_P u.2.1 vwCl (ai_w u S V) H) (hD : ∀ i j : Nat, i < u.2.2.2.2.length → j < u.2.2.2.2.length → u.2.2.1 i = u.2.2.1 j → i = j) (hl : ls.size = 4) (hcs : cells ≤ 600000 ∧ slots ≤ 7302250) :
    va_Run p u.1 e room_1 s m #[Value.ref b] below meth c H locs cells slots 0 0 (F0 m pc ls (As.reverse ++ .ref (u.2.2.1 0) :: rest)) rest (fun st o t => ∀ i, ai_Q u (va_A (ai_w u S V) H.size) (Q i) (Value.ref (u.2.2.1 0) :: As).toArray st o t) (va_A (ai_w u S V) H.size) := by
  obtain ⟨⟨T, N, c0⟩, c1, c2, c3, c4, c5, c6, c7⟩ := cv
  have hts' := lw_hts hts c5
  have hW0 : ∀ w, w ∈ ai_ws → w.before #[Value.ref b] s = true := fun w hw => hts' w (List.mem_cons_of_mem _ hw)
  refine va_runV (As := As) (rest := rest) (b := u.2.2.1 0) (C := M.1.cls) (n := n) (index := idx) ⟨hx, hb, hml, hown, hts'⟩ (hM H.size) ⟨callB_of n hts' (ai_good c5) rfl rfl rfl (hW0 _ c4) (hW0 _ c1) c6 ⟨?_, ?_⟩, hW0 _ c2, hW0 _ c3⟩ ⟨ai_Pc.blind, va_recv hK.1 hP c0 (ai_w_atO hq (ai_ci c0)), fun U hU hWm => ⟨?_, by rw [hU], by rw [hU]; exact hP, hK.warm hWm, hD, fun _ _ => trivial⟩⟩ rfl hn hl rfl (lv_room hW) h ⟨hcs.1, hcs.2⟩
  · show d + 1 ≤ 2048
    omega
  · show 8 + (M.2.2.1 + 11) + 45 * d ≤ 84000
    omega
  · show _ = ((Value.ref 0 :: As).map (ai_v u.2.2.1)).toArray
    rw [List.map_cons, hAs]
    rfl
section LWC
variable {p : Program} {l : Launch} {e : Env} {s : State} {m : MethodId} {below : List Frame} {meth : Method} {c : Code} {b cells slots pc idx n : Nat} {D : va_G} {τ : Nat → ClassId} {ρ ρ' : Nat → Nat} {M5 M6 : ai_M} {C R : ai_S} {V VR : ai_V} {As rest : List Value} {H : Heap} {locs : List Loc} {ls : Array Slot} {Q : State → Prop}
/-- what the reference will do, once the class has answered x and left H1 -/
def HFI (l : Launch) (D : va_G) (τ : Nat → ClassId) (ρ ρ' : Nat → Nat) (M6 : ai_M) (as : List Value) (R : ai_S) (VR : ai_V) (x : Int32) (H1 : Heap) : Prop := ai_met (uM l D ρ' τ) 8 M6 as R VR (ai_qi VR (fun a R2 => a = x ∧ ∃ C2 V2, NVs C2 V2 R2 ∧ va_P D vwCl (ai_w (uN l D ρ τ) C2 V2) H1))
def HFL (l : Launch) (D : va_G) (τ : Nat → ClassId) (ρ ρ' : Nat → Nat) (M6 : ai_M) (as : List Value) (R : ai_S) (VR : ai_V) (x : Int64) (H1 : Heap) : Prop := ai_met (uM l D ρ' τ) 8 M6 as R VR (ai_ql VR (fun a R2 => a = x ∧ ∃ C2 V2, NVs C2 V2 R2 ∧ va_P D vwCl (ai_w (uN l D ρ τ) C2 V2) H1))
theorem lw_far {H H1 : Heap} (hI : lwD (fun q : Nat => s.heap.size ≤ q) ρ ρ') (hk : ∀ q : Nat, q < H.size → ¬ va_A (ai_w (uN l D ρ τ) C V) H.size q → H1[q]? = H[q]?) (hPM : va_P D vwCl (ai_w (uM l D ρ' τ) R VR) H) : va_P D vwCl (ai_w (uM l D ρ' τ) R VR) H1 := by
  refine hPM.kept (fun k q hq => ?_)
  obtain ⟨h1, h2⟩ := ai_w_of hq
  have h1 : k < 31 := h1
  have h2 : q.1 = ρ' k := h2
  refine hk _ (hPM k q hq).lt (fun hA => ?_)
  rcases hA with ⟨j, x, hj⟩ | hge
  · obtain ⟨h3, h4⟩ := ai_w_of hj
    have h4 : q.1 = ρ j := h4
    exact hI.2.2.1 j k h3 h1 (h4.symm.trans h2)
  · exact absurd (hPM k q hq).lt (by omega)
theorem lw_far2 {H H1 : Heap} (hI : lwD (fun q : Nat => s.heap.size ≤ q) ρ ρ') (hk : ∀ q : Nat, q < H.size → ¬ va_A (ai_w (uM l D ρ' τ) R VR) H.size q → H1[q]? = H[q]?) (hPN : va_P D vwCl (ai_w (uN l D ρ τ) C V) H) : va_P D vwCl (ai_w (uN l D ρ τ) C V) H1 := by
  refine hPN.kept (fun k q hq => ?_)
  obtain ⟨h1, h2⟩ := ai_w_of hq
  have h1 : k < 32 := h1
  have h2 : q.1 = ρ k := h2
  refine hk _ (hPN k q hq).lt (fun hA => ?_)
  rcases hA with ⟨j, x, hj⟩ | hge
  · obtain ⟨h3, h4⟩ := ai_w_of hj
    have h4 : q.1 = ρ' j := h4
    exact hI.2.2.1 k j h1 h3 (h2.symm.trans h4)
  · exact absurd (hPN k q hq).lt (by omega)
theorem lw_S {H H1 : Heap} {locs L : List Loc} {wN : va_W} (hS : va_S (fun q : Nat => s.heap.size ≤ q) s.heap H locs) (hA : ∀ (k : Nat) (q : Nat × va_E), wN[k]? = some q → s.heap.size ≤ q.1) (hz : H.size ≤ H1.size) (hk : ∀ q : Nat, q < H.size → ¬ va_A wN H.size q → H1[q]? = H[q]?) (hL : ∀ q ∈ L, va_A wN H.size q.base) : va_S (fun q : Nat => s.heap.size ≤ q) s.heap H1 (locs ++ L) := by
  have hf : ∀ q, va_A wN H.size q → s.heap.size ≤ q := fun q h => by
    rcases h with ⟨k, x, h⟩ | h
    · exact hA k _ h
    · exact Nat.le_trans hS.1 h
  refine ⟨Nat.le_trans hS.1 hz, fun q h1 h2 => ?_, fun q hq => ?_⟩
  · rw [hk q (Nat.lt_of_lt_of_le h1 hS.1) (fun z => h2 (hf q z))]
    exact hS.2.1 q h1 h2
  · rcases List.mem_append.mp hq with h | h
    · exact hS.2.2 q h
    · exact hf _ (hL q h)
/-- the class's call -/
theorem lw_c1 (hx : p.tables.exec = Jvm.exec) (hb : c.code = code) (hml : c.maxLocals = 4) (hown : s.vm.findClass RL = some m.cls) (hts : ∀ w ∈ lw_tbl, w.before #[Value.ref b] s = true) (hK : cw_K D τ s) (hI : lwD (fun q : Nat => s.heap.size ≤ q) ρ ρ') (cv : ai_Cv RL idx 5 n M5) (hAs : As.map (ai_v ρ) = As) (hn : As.length = n) (hW : (rest.map fun v => v.category).sum ≤ 8)
    (fs : ∀ Φ, fsI (uN l D ρ τ) 54 M5 (.ref 0 :: As) C V (uM l D ρ' τ) 8 M6 R VR Φ) (h : decode code pc = .ok (.invokevirtual idx, 3)) (hcs : cells ≤ 600000 ∧ slots ≤ 7302250) (hPN : va_P D vwCl (ai_w (uN l D ρ τ) C V) H) (hPM : va_P D vwCl (ai_w (uM l D ρ' τ) R VR) H) (hS : va_S (fun q : Nat => s.heap.size ≤ q) s.heap H locs) (hl : ls.size = 4)
    (kk : ∀ (x : Int32) (H1 : Heap) (locs1 : List Loc), va_P D vwCl (ai_w (uM l D ρ' τ) R VR) H1 → va_S (fun q : Nat => s.heap.size ≤ q) s.heap H1 locs1 → HFI l D τ ρ ρ' M6 (.ref 0 :: As) R VR x H1 → W p l e room_1 s m #[Value.ref b] below meth c H1 locs1 cells slots Q (F0 m (pc + 3) ls (.int x :: rest))) :
    W p l e room_1 s m #[Value.ref b] below meth c H locs cells slots Q (F0 m pc ls (As.reverse ++ .ref (ρ 0) :: rest)) := by
  have hrun := lw_run (e := e) (below := below) (meth := meth) (locs := locs) (u := uN l D ρ τ) hx hb hml hown hts (hK.ai) cv rfl hAs hn hW (by omega) (ai_met_all (fun _ _ => True) fs) h hPN (fun i j hi hj => hI.1 i j hi hj) hl hcs
  intro T hT X
  obtain ⟨v, st₀, t, T', L, h0, X', hL, e1, e2, hQ, stp⟩ := hrun T hT X
  obtain ⟨⟨r, S1, V1, q1, ⟨x, q2, q3⟩, q4⟩, hz, hk⟩ := hQ (fun _ _ => True)
  rw [h0] at hz hk
  obtain ⟨⟨r2, S2, V2, w1, ⟨x2, w2, R2, w3, w4⟩, w5⟩, -⟩ := hQ (fun a R2 => a = x ∧ ∃ C2 V2, NVs C2 V2 R2 ∧ va_P D vwCl (ai_w (uN l D ρ τ) C2 V2) T'.heap)
  subst q2
  subst w2
  have ex : x2 = x := by
    have := q1.symm.trans w1
    simp [ai_v] at this
    exact this.symm
  subst ex
  have hv : v = some (.int x2) := by cases q1; rfl
  subst hv
  obtain ⟨t2, a1, b1⟩ := kk x2 T'.heap (locs ++ L) (lw_far hI (by rw [e1]; exact hk) hPM) (lw_S hS (fun k q hq => by obtain ⟨h1, h2⟩ := ai_w_of hq; rw [h2]; exact hI.2.2.2.1 k h1) (by rw [e1]; exact hz) (by rw [e1]; exact hk) hL) (w4 ⟨rfl, S2, V2, w3, by rw [e1]; exact w5⟩) T' rfl X'
  exact ⟨t2, stp t2 a1, b1⟩
/-- the reference's call -/
theorem lw_c2 (hx : p.tables.exec = Jvm.exec) (hb : c.code = code) (hml : c.maxLocals = 4) (hown : s.vm.findClass RL = some m.cls) (hts : ∀ w ∈ lw_tbl, w.before #[Value.ref b] s = true) (hK : cw_K D τ s) (hI : lwD (fun q : Nat => s.heap.size ≤ q) ρ ρ') (cv : ai_Cv RL idx 6 n M6) (hAs : As.map (ai_v ρ') = As) (hn : As.length = n) (hW : (rest.map fun v => v.category).sum ≤ 8) {x : Int32}
    (hF : HFI l D τ ρ ρ' M6 (.ref 0 :: As) R VR x H) (h : decode code pc = .ok (.invokevirtual idx, 3)) (hcs : cells ≤ 600000 ∧ slots ≤ 7302250) (hPM : va_P D vwCl (ai_w (uM l D ρ' τ) R VR) H) (hS : va_S (fun q : Nat => s.heap.size ≤ q) s.heap H locs) (hl : ls.size = 4)
    (kk : ∀ (C2 : ai_S) (V2 : ai_V) (R2 : ai_S) (H1 : Heap) (locs1 : List Loc), NVs C2 V2 R2 → va_P D vwCl (ai_w (uN l D ρ τ) C2 V2) H1 → va_P D vwCl (ai_w (uM l D ρ' τ) R2 VR) H1 → va_S (fun q : Nat => s.heap.size ≤ q) s.heap H1 locs1 → W p l e room_1 s m #[Value.ref b] below meth c H1 locs1 cells slots Q (F0 m (pc + 3) ls (.int x :: rest))) :
    W p l e room_1 s m #[Value.ref b] below meth c H locs cells slots Q (F0 m pc ls (As.reverse ++ .ref (ρ' 0) :: rest)) := by
  have hrun := lw_run (e := e) (below := below) (meth := meth) (locs := locs) (u := uM l D ρ' τ) hx hb hml hown hts (hK.ai) cv rfl hAs hn hW (by omega) (ai_met_all () (fun _ : Unit => hF)) h hPM (fun i j hi hj => hI.2.1 i j hi hj) hl hcs
  intro T hT X
  obtain ⟨v, st₀, t, T', L, h0, X', hL, e1, e2, hQ, stp⟩ := hrun T hT X
  obtain ⟨⟨r, S1, V1, q1, ⟨q0, x1, q2, ⟨q3, C2, V2, q4, q5⟩⟩, q6⟩, hz, hk⟩ := hQ ()
  rw [h0] at hz hk
  subst q2
  subst q3
  subst q0
  have hv : v = some (.int x1) := by cases q1; rfl
  subst hv
  obtain ⟨t2, a1, b1⟩ := kk C2 V2 S1 T'.heap (locs ++ L) q4 (lw_far2 hI (by rw [e1]; exact hk) q5) (by rw [e1]; exact q6) (lw_S hS (fun k q hq => by obtain ⟨h1, h2⟩ := ai_w_of hq; rw [h2]; exact hI.2.2.2.2 k h1) (by rw [e1]; exact hz) (by rw [e1]; exact hk) hL) T' rfl X'
  exact ⟨t2, stp t2 a1, b1⟩
end LWC
