/-! ===== constructors: a row an instruction ===== -/
def cw_isN : Cond → Bool
  | .methodLinkNest .. => true
  | _ => false
def cw_nw : List Cond := tables_1.filter cw_isN
theorem cw_inN {w : Cond} (i : Nat) (h : tables_1[i]? = some w) (g : cw_isN w = true) : w ∈ cw_nw := List.mem_filter.mpr ⟨List.mem_of_getElem? h, g⟩
def cw_tys (τ : Nat → ClassId) : List (ClassId × FieldType) := [(τ 0, .int), (τ 1, .char)]
def cw_K (D : va_G) (τ : Nat → ClassId) (s : State) : Prop := va_K D vwCl (cw_tys τ) s ∧ (∀ w ∈ ai_nw, va_Nw w s) ∧ ∀ w ∈ cw_nw, va_Nw w s
theorem cw_K.ai {l : Launch} {D : va_G} {ρ : Nat → Nat} {τ : Nat → ClassId} {lay : ai_L} {s : State} (h : cw_K D τ s) : ai_K (l, D, ρ, τ, lay) s := ⟨h.1, h.2.1⟩
theorem cw_K.warm {D : va_G} {τ : Nat → ClassId} {s U : State} (h : cw_K D τ s) (hW : s.WarmedH U.vm) : cw_K D τ U := by
  refine ⟨va_K.moved hW.alike h.1, fun w hw => ?_, fun w hw => ?_⟩
  · have h1 := h.2.1 w hw
    have h2 := (List.mem_filter.mp hw).2
    cases w <;> first | exact va_Nw.warmF hW h1 | (simp [ai_isN] at h2; done)
  · have h1 := h.2.2 w hw
    have h2 := (List.mem_filter.mp hw).2
    cases w <;> first | exact va_Nw.warmM hW h1 | (simp [cw_isN] at h2; done)
theorem cw_K.same {D : va_G} {τ : Nat → ClassId} {s U : State} (h : cw_K D τ s) (hW : s.vm = U.vm) : cw_K D τ U := by
  refine ⟨va_K.moved (by rw [hW]; exact Vm.Alike.refl _) h.1, fun w hw => ?_, fun w hw => ?_⟩
  · have h1 := h.2.1 w hw
    have h2 := (List.mem_filter.mp hw).2
    refine va_Nw.same ?_ hW h1
    cases w <;> first | rfl | (simp [ai_isN] at h2; done)
  · have h1 := h.2.2 w hw
    have h2 := (List.mem_filter.mp hw).2
    refine va_Nw.same ?_ hW h1
    cases w <;> first | rfl | (simp [cw_isN] at h2; done)
def cw_X (M : ai_M) (p : Program) (s : State) (m : MethodId) (args : Array Value) (meth : Method) (c : Code) : Prop :=
  p.tables.exec = Jvm.exec ∧ c.code = M.2.1 ∧ c.maxLocals = M.2.2.1 ∧ meth.sig.returnType = M.2.2.2 ∧ s.vm.findClass M.1.cls = some m.cls ∧ (∀ w ∈ Cond.code M.1 M.2.1 M.2.2.1 M.2.2.2 :: ai_ws, w.before args s = true) ∧ meth.locks = false ∧ meth.name = "<init>"
def cw_Q (D : va_G) (A : Nat → Prop) (Q : va_W → Prop) : Array Value → State → Outcome → State → Prop := fun _ st oc t => (oc = .returned none ∧ ∃ ws, Q ws ∧ va_P D vwCl ws t.heap ∧ va_D A ws) ∧ va_F A st t
/-- from here the constructor comes to its end -/
def cW (l : Launch) (D : va_G) (τ : Nat → ClassId) (R : Room) (M : ai_M) (A : Nat → Prop) (mc ms : Nat) (a pc : Nat) (st : List Value) (cells slots : Nat) (ws : va_W) (Q : va_W → Prop) : Prop :=
  ∀ (p : Program) (e : Env) (s : State) (m : MethodId) (args : Array Value) (below : List Frame) (meth : Method) (c : Code) (H : Heap) (locs : List Loc) (ls : Array Slot),
    cw_X M p s m args meth c → cw_K D τ s → (∀ q : Nat, s.heap.size ≤ q → A q) → va_P D vwCl ws H → va_D A ws → va_S A s.heap H locs → lv_has ls M.2.2.1 [(0, .ref a)] →
      W p l e R s m args below meth c H locs cells slots (MQ below (cw_Q D A Q) args s mc ms A) (F0 m pc ls st)
def cMet (l : Launch) (D : va_G) (τ : Nat → ClassId) (R : Room) (M : ai_M) (a : Nat) (ws0 : va_W) (mc ms : Nat) (Q : va_W → Prop) : Prop :=
  ∀ sz : Nat, Met l M.1 (Cond.code M.1 M.2.1 M.2.2.1 M.2.2.2 :: ai_ws) R (va_Pc [.ref a] (fun U => U.heap.size = sz ∧ va_P D vwCl ws0 U.heap ∧ cw_K D τ U ∧ va_D (fun _ => True) ws0)) (cw_Q D (va_A ws0 sz) Q) mc ms (va_A ws0 sz)
section CWR
variable {l : Launch} {D : va_G} {τ : Nat → ClassId} {R : Room} {M : ai_M} {A : Nat → Prop} {mc ms a pc cells slots : Nat} {st : List Value} {ws : va_W} {Q : va_W → Prop}
theorem cw_of (hy : plainName M.1.cls = true) (hL : 1 ≤ M.2.2.1) (hn : M.1.name = "<init>") {ws0 : va_W} (h : ∀ A : Nat → Prop, cW l D τ R M A mc ms a 0 [] 0 0 ws0 Q) : cMet l D τ R M a ws0 mc ms Q := by
  intro sz
  refine Met.ofW (cc := M.2.1) (maxL := M.2.2.1) (ret := M.2.2.2) hy rfl ?_
  intro p e s m args below meth c s₁ B hml hv
  obtain ⟨rfl, hsz, hP, hK, hD⟩ := hv
  subst hsz
  have hl' := lv_entry ([.ref a]) (n := M.2.2.1) hL
  rw [lg_entry_eq]
  refine h (va_A ws0 s.heap.size) p e s m _ below meth c s.heap [] _ ⟨B.exec, B.bytes, hml, B.returns, findClass_of_methodNamed B.named, atoms_spec (ws := Cond.code M.1 M.2.1 M.2.2.1 M.2.2.2 :: ai_ws) B.pre, B.notSynchronized, (name_of_methodNamed B.named B.method).1.trans hn⟩ hK (fun q h => Or.inr h) hP (hD.self) va_S.rf hl'
theorem cw_ret (h : decode M.2.1 pc = .ok (.return_, 1)) (hr : M.2.2.2 = none) (k : Q ws) : cW l D τ R M A mc ms a pc [] mc ms ws Q :=
  fun p e s m args below meth c H locs ls X hK hA hP hD hS hl => W.vret X.1 X.2.1 (X.2.2.2.1.trans hr) (fun t ht _ => ⟨⟨rfl, ws, k, by rw [ht]; exact hP, hD⟩, hS.F ht⟩) hS.2.2 h X.2.2.2.2.2.2.1
theorem cw_load (h : decode M.2.1 pc = .ok (.aload_n 0, 1)) (k : cW l D τ R M A mc ms a (pc + 1) (.ref a :: st) cells slots ws Q) : cW l D τ R M A mc ms a pc st cells slots ws Q :=
  fun p e s m args below meth c H locs ls X hK hA hP hD hS hl => lv_aload_n X.1 X.2.1 h rfl (lv_at hl 0 rfl) (k p e s m args below meth c H locs ls X hK hA hP hD hS hl)
theorem cw_dup {q : Nat} (h : decode M.2.1 pc = .ok (.dup, 1)) (k : cW l D τ R M A mc ms a (pc + 1) (.ref q :: .ref q :: st) cells slots ws Q) : cW l D τ R M A mc ms a pc (.ref q :: st) cells slots ws Q :=
  fun p e s m args below meth c H locs ls X hK hA hP hD hS hl => lv_dup X.1 X.2.1 h rfl (k p e s m args below meth c H locs ls X hK hA hP hD hS hl)
theorem cw_iconst {n : Int} {v : Int32} (h : decode M.2.1 pc = .ok (.iconst n, 1)) (hv : Int32.ofInt n = v) (k : cW l D τ R M A mc ms a (pc + 1) (.int v :: st) cells slots ws Q) : cW l D τ R M A mc ms a pc st cells slots ws Q :=
  fun p e s m args below meth c H locs ls X hK hA hP hD hS hl => lv_iconst X.1 X.2.1 h hv (k p e s m args below meth c H locs ls X hK hA hP hD hS hl)
theorem cw_bipush {n : Int} {v : Int32} (h : decode M.2.1 pc = .ok (.bipush n, 2)) (hv : (Int8.ofInt n).toInt32 = v) (k : cW l D τ R M A mc ms a (pc + 2) (.int v :: st) cells slots ws Q) : cW l D τ R M A mc ms a pc st cells slots ws Q :=
  fun p e s m args below meth c H locs ls X hK hA hP hD hS hl => lv_bipush X.1 X.2.1 h hv (k p e s m args below meth c H locs ls X hK hA hP hD hS hl)
theorem cw_sipush {n : Int} {v : Int32} (h : decode M.2.1 pc = .ok (.sipush n, 3)) (hv : (Int16.ofInt n).toInt32 = v) (k : cW l D τ R M A mc ms a (pc + 3) (.int v :: st) cells slots ws Q) : cW l D τ R M A mc ms a pc st cells slots ws Q :=
  fun p e s m args below meth c H locs ls X hK hA hP hD hS hl => lv_sipush X.1 X.2.1 h hv (k p e s m args below meth c H locs ls X hK hA hP hD hS hl)
theorem cw_obj {idx : Nat} (h : decode M.2.1 pc = .ok (.invokespecial idx, 3)) (w1 : Cond.methodLink M.1.cls idx objectInit ∈ ai_ws) (w2 : Cond.instanceMethod objectInit ∈ ai_ws) (w3 : Cond.code objectInit ⟨#[0xb1]⟩ 1 none ∈ ai_ws) (hf : 1 ≤ R.frames) (hl' : 12 ≤ R.locals) (k : cW l D τ R M A mc ms a (pc + 3) [] cells slots ws Q) : cW l D τ R M A mc ms a pc [.ref a] cells slots ws Q := by
  intro p e s m args below meth c H locs ls X hK hA hP hD hS hl
  have hts := X.2.2.2.2.2.1
  refine W.objInit X.1 X.2.1 X.2.2.2.2.1 (hts _ (List.mem_cons_of_mem _ w1)) (hts _ (List.mem_cons_of_mem _ w2)) (hts _ (List.mem_cons_of_mem _ w3)) rfl (by rw [X.2.2.1]; exact hl.1) rfl h hf hl' ?_
  exact k p e s m args below meth c H locs ls X hK hA hP hD hS hl
theorem cw_newI {n : Int32} {N : Nat} (h : decode M.2.1 pc = .ok (.newarray .int, 2)) (w1 : Cond.arrayClass .int ∈ ai_ws) (hn : ¬ n < 0) (hN : n.toNatClampNeg = N) (hb : N ≤ 100000) (hc : cells + 1 ≤ R.cells) (hs : slots + N ≤ R.slots) (k : ∀ q : Nat, cW l D τ R M A mc ms a (pc + 2) (.ref q :: st) (cells + 1) (slots + N) (ws ++ [(q, .inl (τ 0, N, .inl (fun _ => 0)))]) Q) : cW l D τ R M A mc ms a pc (.int n :: st) cells slots ws Q := by
  intro p e s m args below meth c H locs ls X hK hA hP hD hS hl
  refine va_newa (atype := .int) (a0 := (N, .inl (fun _ => 0))) X.1 X.2.1 (X.2.2.2.2.2.1 _ (List.mem_cons_of_mem _ w1)) rfl hK.1 hP hD hS hA (fun _ => rfl) hn hN (by show N * 4 ≤ _; omega) hc hs h (fun q cA H1 hK1 hP1 hD1 hS1 => ?_)
  have e1 : va_RA s cA .int := (hK1.2 2 (cA, .int) rfl).2
  have e2 : va_RA s (τ 0) .int := (hK.1.2 0 (τ 0, .int) rfl).2
  have e3 : cA = τ 0 := Option.some.inj ((show s.vm.findClass _ = some cA from e1).symm.trans (show s.vm.findClass _ = some (τ 0) from e2))
  subst e3
  exact k q p e s m args below meth c H1 locs ls X hK hA hP1 hD1 hS1 hl
theorem cw_newC {n : Int32} {N : Nat} (h : decode M.2.1 pc = .ok (.newarray .char, 2)) (w1 : Cond.arrayClass .char ∈ ai_ws) (hn : ¬ n < 0) (hN : n.toNatClampNeg = N) (hb : N ≤ 100000) (hc : cells + 1 ≤ R.cells) (hs : slots + N ≤ R.slots) (k : ∀ q : Nat, cW l D τ R M A mc ms a (pc + 2) (.ref q :: st) (cells + 1) (slots + N) (ws ++ [(q, .inl (τ 1, N, .inl (fun _ => 0)))]) Q) : cW l D τ R M A mc ms a pc (.int n :: st) cells slots ws Q := by
  intro p e s m args below meth c H locs ls X hK hA hP hD hS hl
  refine va_newa (atype := .char) (a0 := (N, .inl (fun _ => 0))) X.1 X.2.1 (X.2.2.2.2.2.1 _ (List.mem_cons_of_mem _ w1)) rfl hK.1 hP hD hS hA (fun _ => rfl) hn hN (by show N * 2 ≤ _; omega) hc hs h (fun q cA H1 hK1 hP1 hD1 hS1 => ?_)
  have e1 : va_RA s cA .char := (hK1.2 2 (cA, .char) rfl).2
  have e2 : va_RA s (τ 1) .char := (hK.1.2 1 (τ 1, .char) rfl).2
  have e3 : cA = τ 1 := Option.some.inj ((show s.vm.findClass _ = some cA from e1).symm.trans (show s.vm.findClass _ = some (τ 1) from e2))
  subst e3
  exact k q p e s m args below meth c H1 locs ls X hK hA hP1 hD1 hS1 hl
theorem cw_new {C : String} {T : u_T} {N ci idx : Nat} {ty : Nat → FieldType} {fs : List Value} (h : decode M.2.1 pc = .ok (.new idx, 3)) (hC : vwCl[ci]? = some (C, T, N)) (hin : ∀ w ∈ u_ws C T N, w ∈ ai_ws) (hty : ∀ k, k < N → parseFieldDescriptor (T k).2.2.1 = some (ty k)) (w1 : Cond.classLink M.1.cls idx C ∈ ai_ws) (w2 : Cond.instantiable C N ∈ ai_ws) (w3 : Cond.initialized C ∈ ai_ws) (hfs : ∀ j, j < N → defaultValue (ty j) = vp_V fs j) (hc : cells + 1 ≤ R.cells) (hs : slots + N ≤ R.slots) (k : ∀ q : Nat, cW l D τ R M A mc ms a (pc + 3) (.ref q :: st) (cells + 1) (slots + N) (ws ++ [(q, .inr (ci, fs))]) Q) : cW l D τ R M A mc ms a pc st cells slots ws Q := by
  intro p e s m args below meth c H locs ls X hK hA hP hD hS hl
  have hts := X.2.2.2.2.2.1
  exact va_new X.1 X.2.1 hts (fun w hw => List.mem_cons_of_mem _ (hin w hw)) ty hty X.2.2.2.2.1 (hts _ (List.mem_cons_of_mem _ w1)) (hts _ (List.mem_cons_of_mem _ w2)) (hts _ (List.mem_cons_of_mem _ w3)) hK.1 hP hD hS hA hC hfs hc hs h (fun q H1 hP1 hD1 hS1 => k q p e s m args below meth c H1 locs ls X hK hA hP1 hD1 hS1 hl)
theorem cw_putF {C : String} {T : u_T} {N ci idx k q0 : Nat} {ty0 : Nat → FieldType} {fs : List Value} {v : Value} {ws' : va_W} (h : decode M.2.1 pc = .ok (.putfield idx, 3)) (hC : vwCl[ci]? = some (C, T, N)) (hin : ∀ w ∈ u_ws C T N, w ∈ ai_ws) (hty : ∀ k, k < N → parseFieldDescriptor (T k).2.2.1 = some (ty0 k)) (hnm : ∀ a, a < N → ∀ b, b < N → a ≠ b → (T a).2.1 ≠ (T b).2.1) (w1 : Cond.fieldLink M.1.cls idx (T k).1 (T k).2.1 (T k).2.2.1 ∈ ai_ws) (hq : ws[q0]? = some (a, .inr (ci, fs))) (hk : k < N) (hfin : (T k).2.2.2 = true) (hdecl : (T k).1 = M.1.cls) (hn : narrow (ty0 k) v = v) (hfit : fits (ty0 k) v = true) (hl' : k < fs.length) (hw : ws.set q0 (a, .inr (ci, fs.set k v)) = ws') (kk : cW l D τ R M A mc ms a (pc + 3) st cells slots ws' Q) : cW l D τ R M A mc ms a pc (v :: .ref a :: st) cells slots ws Q := by
  intro p e s m args below meth c H locs ls X hK hA hP hD hS hl
  have hts := X.2.2.2.2.2.1
  refine va_putF X.1 X.2.1 hts (fun w hw => List.mem_cons_of_mem _ (hin w hw)) ty0 hty hnm X.2.2.2.2.1 hK.1 hP hD hS q0 hq hC k hk (hts _ (List.mem_cons_of_mem _ w1)) (fun _ h9 => h9) hfin X.2.2.2.2.2.2.2 hdecl (hty k hk) hn hfit hl' h (fun H1 locs1 hP1 hD1 hS1 => ?_)
  rw [hw] at hP1 hD1
  exact kk p e s m args below meth c H1 locs1 ls X hK hA hP1 hD1 hS1 hl
theorem cw_putN {C : String} {T : u_T} {N ci idx k q0 : Nat} {ty0 : Nat → FieldType} {fs : List Value} {v : Value} {ws' : va_W} (h : decode M.2.1 pc = .ok (.putfield idx, 3)) (hC : vwCl[ci]? = some (C, T, N)) (hin : ∀ w ∈ u_ws C T N, w ∈ ai_ws) (hty : ∀ k, k < N → parseFieldDescriptor (T k).2.2.1 = some (ty0 k)) (hnm : ∀ a, a < N → ∀ b, b < N → a ≠ b → (T a).2.1 ≠ (T b).2.1) (w1 : Cond.fieldLink M.1.cls idx (T k).1 (T k).2.1 (T k).2.2.1 ∈ ai_ws) (hq : ws[q0]? = some (a, .inr (ci, fs))) (hk : k < N) (hfin : (T k).2.2.2 = false) (hn : narrow (ty0 k) v = v) (hfit : fits (ty0 k) v = true) (hl' : k < fs.length) (hw : ws.set q0 (a, .inr (ci, fs.set k v)) = ws') (kk : cW l D τ R M A mc ms a (pc + 3) st cells slots ws' Q) : cW l D τ R M A mc ms a pc (v :: .ref a :: st) cells slots ws Q := by
  intro p e s m args below meth c H locs ls X hK hA hP hD hS hl
  have hts := X.2.2.2.2.2.1
  refine va_put X.1 X.2.1 hts (fun w hw => List.mem_cons_of_mem _ (hin w hw)) ty0 hty hnm X.2.2.2.2.1 hK.1 hP hD hS q0 hq hC k hk (hts _ (List.mem_cons_of_mem _ w1)) (fun _ h9 => h9) hfin (hty k hk) hn hfit hl' h (fun H1 locs1 hP1 hD1 hS1 => ?_)
  rw [hw] at hP1 hD1
  exact kk p e s m args below meth c H1 locs1 ls X hK hA hP1 hD1 hS1 hl
/-- another constructor is called, on a cell of its own -/
theorem cw_init {M' : ai_M} {R' : Room} {idx b mc' ms' : Nat} {host : String} {x0 : va_E} {wr : va_W} {Q' : va_W → Prop} (h : decode M.2.1 pc = .ok (.invokespecial idx, 3)) (hM : cMet l D τ R' M' b [(b, x0)] mc' ms' Q') (w1 : Cond.methodLinkNest M.1.cls idx M'.1 host ∈ cw_nw) (w2 : Cond.initialized M'.1.cls ∈ ai_ws) (w3 : Cond.instanceMethod M'.1 ∈ ai_ws) (w4 : Cond.code M'.1 M'.2.1 M'.2.2.1 M'.2.2.2 ∈ ai_ws) (hr : M'.2.2.2 = none) (hn : M'.1.name = "<init>") (hd : M'.1.cls ≠ "java/lang/invoke/MethodHandle" ∧ M'.1.cls ≠ "java/lang/invoke/VarHandle" ∧ (parseMethodDescriptor M'.1.desc).map (fun d => d.parameters.length) = some 0)
    (hR : R'.frames + 1 ≤ R.frames ∧ 8 + (M'.2.2.1 + 11) + R'.locals ≤ R.locals) (hRc : R'.cells = mc' ∧ R'.slots = ms') (hf : cells + mc' ≤ R.cells ∧ slots + ms' ≤ R.slots) (q0 : Nat) (isR : List Nat) (hq : ws[q0]? = some (b, x0)) (hwr : isR.map (fun i => ws[i]?) = wr.map some) (hnd : va_nd isR = true) (hdis : ∀ i ∈ isR, i ∉ [q0]) (hW : (st.map fun v => v.category).sum ≤ 8)
    (kk : ∀ w1 : va_W, Q' w1 → cW l D τ R M A mc ms a (pc + 3) st (cells + mc') (slots + ms') (wr ++ w1) Q) : cW l D τ R M A mc ms a pc (.ref b :: st) cells slots ws Q := by
  intro p e s m args below meth c H locs ls X hK hA hP hD hS hl
  have hts := X.2.2.2.2.2.1
  have hC : [q0].map (fun i => ws[i]?) = [((b, x0) : Nat × va_E)].map some := by simp [hq]
  have hPc := hP.sub (ws' := [(b, x0)]) [q0] (by simp [hq])
  have hDc := hD.sub (ws' := [(b, x0)]) [q0] rfl hC
  have hFc := va_free (wc := [(b, x0)]) hD hS hA [q0] hC
  have hrun := va_runIN (As := []) (rest := st) (g := F0 m pc ls (.ref b :: st)) ⟨X.1, X.2.1, X.2.2.1, X.2.2.2.2.1, hts⟩ (hM H.size) ⟨va_cnB (ret := none) 0 hts (ai_good w4) (by rw [hr]) hRc.1 hRc.2 (hK.2.2 _ w1) (hts _ (List.mem_cons_of_mem _ w2)) hd hR, hn, hts _ (List.mem_cons_of_mem _ w3)⟩ ⟨fun aa U g mk q => by obtain ⟨q0, q1, qP, qK, qD⟩ := q; exact ⟨q0, q1, qP, qK.same rfl, qD⟩, fun U hU hWm => ⟨rfl, by rw [hU], by rw [hU]; exact hPc, hK.warm hWm, hDc.weaken (fun _ _ _ _ => trivial)⟩⟩ rfl rfl hl.1 rfl (lv_room hW) h hf (locs := locs) (e := e) (below := below) (meth := meth)
  intro T hT Y
  obtain ⟨v, st₀, t, T', L, h0, Y', hL, e1, e2, ⟨⟨hv, w1', hQ', hP', hD'⟩, hz, hk⟩, stp⟩ := hrun T hT Y
  rw [h0] at hz hk
  have hv : v = none := by cases hv; rfl
  subst hv
  obtain ⟨hP2, hD2⟩ := va_join hP hD [q0] isR hC hwr hnd hdis hk hFc hP' hD'
  have hS' : va_S A s.heap T'.heap (locs ++ L) := by
    refine ⟨Nat.le_trans hS.1 (by rw [e1]; exact hz), fun q h1 h2 => ?_, fun q hq' => ?_⟩
    · rw [e1, hk q (Nat.lt_of_lt_of_le h1 hS.1) (fun z => h2 (hFc q z))]
      exact hS.2.1 q h1 h2
    · rcases List.mem_append.mp hq' with h | h
      · exact hS.2.2 q h
      · exact hFc _ (hL q h)
  obtain ⟨t2, a1, b1⟩ := kk w1' hQ' p e s m args below meth c T'.heap (locs ++ L) ls X hK hA (by rw [e1]; exact hP2) hD2 hS' hl T' rfl Y'
  exact ⟨t2, stp t2 a1, b1⟩
end CWR
