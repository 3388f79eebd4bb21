/-! ===== the law's start ===== -/
theorem lw_cwK {b : Nat} {s : State} (hts : ∀ w ∈ lw_tbl, w.before #[Value.ref b] s = true) : ∃ (D : va_G) (τ : Nat → ClassId), cw_K D τ s := by
  have hW : ∀ w ∈ ai_ws, w.before #[Value.ref b] s = true := fun w hw => hts w (List.mem_filter.mp hw).1
  obtain ⟨c0, i0, k0⟩ := u_known (C := RX0) (T := TX0) (N := 8) (n := 8) hW inX0 (hts (.instantiable RX0 8) (by decide +kernel))
  obtain ⟨c1, i1, k1⟩ := u_known (C := RX1) (T := TX1) (N := 16) (n := 16) hW inX1 (hts (.instantiable RX1 16) (by decide +kernel))
  obtain ⟨c2, i2, k2⟩ := u_known (C := RX2) (T := TX2) (N := 10) (n := 10) hW inX2 (hts (.instantiable RX2 10) (by decide +kernel))
  obtain ⟨c3, i3, k3⟩ := u_known (C := RX3) (T := TX3) (N := 6) (n := 6) hW inX3 (hts (.instantiable RX3 6) (by decide +kernel))
  obtain ⟨c4, i4, k4⟩ := u_known (C := RX4) (T := TX4) (N := 8) (n := 8) hW inX4 (hts (.instantiable RX4 8) (by decide +kernel))
  obtain ⟨c5, i5, k5⟩ := u_known (C := RX5) (T := TX5) (N := 7) (n := 7) hW inX5 (hts (.instantiable RX5 7) (by decide +kernel))
  obtain ⟨c6, i6, k6⟩ := u_known (C := RX6) (T := TX6) (N := 62) (n := 62) hW inX6 (hts (.instantiable RX6 62) (by decide +kernel))
  obtain ⟨cI, kI, coI, a1, a2, a3⟩ := Cond.arrayClass_spec (hts (.arrayClass .int) (by decide +kernel))
  obtain ⟨cC, kC, coC, b1, b2, b3⟩ := Cond.arrayClass_spec (hts (.arrayClass .char) (by decide +kernel))
  refine ⟨(fun k => if k = 0 then c0 else if k = 1 then c1 else if k = 2 then c2 else if k = 3 then c3 else if k = 4 then c4 else if k = 5 then c5 else c6, fun k => if k = 0 then i0 else if k = 1 then i1 else if k = 2 then i2 else if k = 3 then i3 else if k = 4 then i4 else if k = 5 then i5 else i6), fun t => if t = 0 then cI else cC, ⟨fun c q hq => ?_, fun k q hk => ?_⟩, fun w hw => ?_, fun w hw => ?_⟩
  · match c, hq with
    | 0, hq => cases hq; exact k0
    | 1, hq => cases hq; exact k1
    | 2, hq => cases hq; exact k2
    | 3, hq => cases hq; exact k3
    | 4, hq => cases hq; exact k4
    | 5, hq => cases hq; exact k5
    | 6, hq => cases hq; exact k6
    | c + 7, hq => simp [vwCl] at hq
  · match k, hk with
    | 0, hk => cases hk; exact ⟨fun n z => ⟨fun k h => (by cases h), kI, a2, coI, a3⟩, a1⟩
    | 1, hk => cases hk; exact ⟨fun n z => ⟨fun k h => (by cases h), kC, b2, coC, b3⟩, b1⟩
    | k + 2, hk => simp [cw_tys] at hk
  · obtain ⟨h1, h2⟩ := List.mem_filter.mp hw
    refine va_Nw.of ?_ (hts w (List.mem_append_right _ h1))
    cases w <;> first | rfl | (simp [ai_isN] at h2; done)
  · obtain ⟨h1, h2⟩ := List.mem_filter.mp hw
    refine va_Nw.of ?_ (hts w (List.mem_append_right _ h1))
    cases w <;> first | rfl | (simp [cw_isN] at h2; done)
/-- a constructor is called by the law -/
theorem lw_init {p : Program} {l : Launch} {e : Env} {s : State} {m : MethodId} {below : List Frame} {meth : Method} {c : Code} {b b' pc idx mc' ms' cells slots : Nat} {D : va_G} {τ : Nat → ClassId} {A : Nat → Prop} {M' : ai_M} {R' : Room} {x0 : va_E} {ws wr : va_W} {Q' : va_W → Prop} {H : Heap} {locs : List Loc} {ls : Array Slot} {st : List Value} {Q : State → Prop}
    (hx : p.tables.exec = Jvm.exec) (hb : c.code = code) (hml : c.maxLocals = 4) (hown : s.vm.findClass RL = some m.cls) (hts : ∀ w ∈ lw_tbl, w.before #[Value.ref b] s = true) (hK : cw_K D τ s)
    (h : decode code pc = .ok (.invokespecial idx, 3)) (hM : cMet l D τ R' M' b' [(b', x0)] mc' ms' Q') (w1 : Cond.methodLink RL idx M'.1 ∈ ai_ws) (w2 : Cond.initialized M'.1.cls ∈ ai_ws) (w3 : Cond.instanceMethod M'.1 ∈ ai_ws) (w4 : Cond.code M'.1 M'.2.1 M'.2.2.1 M'.2.2.2 ∈ ai_ws) (hr : M'.2.2.2 = none) (hn : M'.1.name = "<init>") (hd : M'.1.cls ≠ "java/lang/invoke/MethodHandle" ∧ M'.1.cls ≠ "java/lang/invoke/VarHandle" ∧ (parseMethodDescriptor M'.1.desc).map (fun d => d.parameters.length) = some 0)
    (hR : R'.frames + 1 ≤ 2048 ∧ 8 + (M'.2.2.1 + 11) + R'.locals ≤ 84000) (hRc : R'.cells = mc' ∧ R'.slots = ms') (hf : cells + mc' ≤ 600000 ∧ slots + ms' ≤ 7302250) (q0 : Nat) (isR : List Nat) (hq : ws[q0]? = some (b', x0)) (hwr : isR.map (fun i => ws[i]?) = wr.map some) (hnd : va_nd isR = true) (hdis : ∀ i ∈ isR, i ∉ [q0]) (hW : (st.map fun v => v.category).sum ≤ 8)
    (hA : ∀ q : Nat, s.heap.size ≤ q → A q) (hP : va_P D vwCl ws H) (hD : va_D A ws) (hS : va_S A s.heap H locs) (hl : ls.size = 4)
    (kk : ∀ (w1 : va_W) (H1 : Heap) (locs1 : List Loc), Q' w1 → va_P D vwCl (wr ++ w1) H1 → va_D A (wr ++ w1) → va_S A s.heap H1 locs1 → W p l e room_1 s m #[Value.ref b] below meth c H1 locs1 (cells + mc') (slots + ms') Q (F0 m (pc + 3) ls st)) : W p l e room_1 s m #[Value.ref b] below meth c H locs cells slots Q (F0 m pc ls (.ref b' :: st)) := by
  have hts' := lw_hts hts w4
  have hC : [q0].map (fun i => ws[i]?) = [((b', x0) : Nat × va_E)].map some := by simp [hq]
  have hPc := hP.sub (ws' := [(b', x0)]) [q0] (by simp [hq])
  have hDc := hD.sub (ws' := [(b', x0)]) [q0] rfl hC
  have hFc := va_free (wc := [(b', x0)]) hD hS hA [q0] hC
  have hrun := va_runI (R := room_1) (cells := cells) (slots := slots) (As := []) (rest := st) (g := F0 m pc ls (.ref b' :: st)) ⟨hx, hb, hml, hown, hts'⟩ (hM H.size) ⟨callB_of (ret := none) 0 hts' (ai_good w4) (by rw [hr]) hRc.1 hRc.2 (hts' _ (List.mem_cons_of_mem _ w2)) (hts' _ (List.mem_cons_of_mem _ w1)) hd hR, hn, hts' _ (List.mem_cons_of_mem _ w3)⟩ ⟨fun aa U g mk q => by obtain ⟨q0, q1, qP, qK, qD⟩ := q; exact ⟨q0, q1, qP, qK.same rfl, qD⟩, fun U hU hWm => ⟨rfl, by rw [hU], by rw [hU]; exact hPc, hK.warm hWm, hDc.weaken (fun _ _ _ _ => trivial)⟩⟩ rfl rfl hl rfl (lv_room hW) h hf (locs := locs) (e := e) (below := below) (meth := meth)
  intro T hT Y
  obtain ⟨v, st₀, t, T', L, h0, Y', hL, e1, e2, ⟨⟨hv, w1', hQ', hP', hD'⟩, hz, hk⟩, stp⟩ := hrun T hT Y
  rw [h0] at hz hk
  have hv : v = none := by cases hv; rfl
  subst hv
  obtain ⟨hP2, hD2⟩ := va_join hP hD [q0] isR hC hwr hnd hdis hk hFc hP' hD'
  have hS' : va_S A s.heap T'.heap (locs ++ L) := by
    refine ⟨Nat.le_trans hS.1 (by rw [e1]; exact hz), fun q h1 h2 => ?_, fun q hq' => ?_⟩
    · rw [e1, hk q (Nat.lt_of_lt_of_le h1 hS.1) (fun z => h2 (hFc q z))]
      exact hS.2.1 q h1 h2
    · rcases List.mem_append.mp hq' with h | h
      · exact hS.2.2 q h
      · exact hFc _ (hL q h)
  obtain ⟨t2, a1, b1⟩ := kk w1' T'.heap (locs ++ L) hQ' (by rw [e1]; exact hP2) hD2 hS' T' rfl Y'
  exact ⟨t2, stp t2 a1, b1⟩
