/-! ===== a flat memory over the kit: S q k is the int in field or element k of cell q; V q k a reference that may change; a reference is the number of its cell ===== -/
abbrev ai_L : Type := List ((Nat × Nat) ⊕ (Nat × List Nat))
abbrev ai_S : Type := Nat → Nat → Int32
abbrev ai_V : Type := Nat → Nat → Value
/-- launch, class numbers, addresses of the cells, array classes (0: int, 1: char), layout -/
abbrev ai_U : Type := Launch × va_G × (Nat → Nat) × (Nat → ClassId) × ai_L
/-- name, bytes, locals, answer -/
abbrev ai_M : Type := MethodName × ByteArray × Nat × Option FieldType
abbrev ai_P : Type := Option Value → ai_S → ai_V → Prop
def ai_up (S : ai_S) (q k : Nat) (x : Int32) : ai_S := fun i => if i = q then upd (S q) k x else S i
def ai_uv (V : ai_V) (q k : Nat) (x : Value) : ai_V := fun i => if i = q then updV (V q) k x else V i
theorem ai_up_s {S : ai_S} {q k : Nat} {x : Int32} : ai_up S q k x q k = x := by simp [ai_up, upd]
theorem ai_up_n {S : ai_S} {q k i j : Nat} {x : Int32} (h : ¬ (i = q ∧ j = k)) : ai_up S q k x i j = S i j := by
  unfold ai_up upd
  by_cases hi : i = q
  · subst hi
    by_cases hj : j = k
    · exact absurd ⟨rfl, hj⟩ h
    · simp [hj]
  · simp [hi]
theorem ai_up_eq (S : ai_S) (q k i j : Nat) (x : Int32) : ai_up S q k x i j = if i = q ∧ j = k then x else S i j := by
  by_cases h : i = q ∧ j = k
  · rw [if_pos h, h.1, h.2, ai_up_s]
  · rw [if_neg h, ai_up_n h]
theorem ai_up_q {S : ai_S} {q k : Nat} {x : Int32} : ai_up S q k x q = upd (S q) k x := by simp [ai_up]
theorem ai_up_o {S : ai_S} {q k i : Nat} {x : Int32} (h : i ≠ q) : ai_up S q k x i = S i := by simp [ai_up, h]
def ai_v (ρ : Nat → Nat) : Value → Value
  | .ref a => .ref (ρ a)
  | v => v
theorem ai_v_cat (ρ : Nat → Nat) (v : Value) : (ai_v ρ v).category = v.category := by cases v <;> rfl
def ai_f (ρ : Nat → Nat) (S : ai_S) (V : ai_V) (q k t : Nat) : Value := match t with
  | 0 => .int (S q k)
  | 1 => ai_v ρ (V q k)
  | r + 2 => .ref (ρ r)
/-- what a cell holds that isn't to change: told by the addresses' numbers beyond -/
def ai_zS (ρ : Nat → Nat) : ai_S := fun q k => Int32.ofNat (ρ (32 + 2 * (q + 32 * k)))
def ai_zV (ρ : Nat → Nat) : ai_V := fun q k => match ρ (33 + 2 * (q + 32 * k)) with
  | 0 => .null
  | a + 1 => .ref a
/-- an entry of 10 or more: the cell isn't to change -/
def ai_c (ρ : Nat → Nat) (τ : Nat → ClassId) (S : ai_S) (V : ai_V) (q : Nat) (e : (Nat × Nat) ⊕ (Nat × List Nat)) : va_E := match e with
  | .inl a => if a.1 < 10 then .inl (τ a.1, a.2, .inl (S q)) else .inl (τ (a.1 - 10), a.2, .inl (ai_zS ρ q))
  | .inr o => if o.1 < 10 then .inr (o.1, o.2.mapIdx (fun k t => ai_f ρ S V q k t)) else .inr (o.1 - 10, o.2.mapIdx (fun k t => ai_f ρ (ai_zS ρ) (ai_zV ρ) q k t))
def ai_w (u : ai_U) (S : ai_S) (V : ai_V) : va_W := u.2.2.2.2.mapIdx (fun q e => (u.2.2.1 q, ai_c u.2.2.1 u.2.2.2.1 S V q e))
theorem ai_w_at {u : ai_U} {S : ai_S} {V : ai_V} {q : Nat} {e : (Nat × Nat) ⊕ (Nat × List Nat)} (h : u.2.2.2.2[q]? = some e) : (ai_w u S V)[q]? = some (u.2.2.1 q, ai_c u.2.2.1 u.2.2.2.1 S V q e) := by
  simp [ai_w, List.getElem?_mapIdx, h]
theorem ai_w_atA {u : ai_U} {S : ai_S} {V : ai_V} {q t n : Nat} (h : u.2.2.2.2[q]? = some (.inl (t, n))) (ht : t < 10) : (ai_w u S V)[q]? = some (u.2.2.1 q, .inl (u.2.2.2.1 t, n, .inl (S q))) := by
  rw [ai_w_at h]; simp [ai_c, ht]
theorem ai_w_atO {u : ai_U} {S : ai_S} {V : ai_V} {q ci : Nat} {ks : List Nat} (h : u.2.2.2.2[q]? = some (.inr (ci, ks))) (hc : ci < 10) : (ai_w u S V)[q]? = some (u.2.2.1 q, .inr (ci, ks.mapIdx (fun k t => ai_f u.2.2.1 S V q k t))) := by
  rw [ai_w_at h]; simp [ai_c, hc]
theorem ai_ci {ci : Nat} {x : vw_C} (h : vwCl[ci]? = some x) : ci < 10 := by
  have h1 := (List.getElem?_eq_some_iff.mp h).1
  have h2 : vwCl.length = 7 := rfl
  omega
theorem ai_w_of {u : ai_U} {S : ai_S} {V : ai_V} {q : Nat} {x : Nat × va_E} (h : (ai_w u S V)[q]? = some x) : q < u.2.2.2.2.length ∧ x.1 = u.2.2.1 q := by
  simp only [ai_w, List.getElem?_mapIdx] at h
  cases he : u.2.2.2.2[q]? with
  | none => rw [he] at h; cases h
  | some e =>
    rw [he] at h
    cases h
    exact ⟨(List.getElem?_eq_some_iff.mp he).1, rfl⟩
/-- an int field is put -/
theorem ai_w_put {u : ai_U} {S : ai_S} {V : ai_V} {q k ci : Nat} {ks : List Nat} {x : Int32} (hc : ci < 10) (hq : u.2.2.2.2[q]? = some (.inr (ci, ks))) (hk : ks[k]? = some 0) :
    (ai_w u S V).set q (u.2.2.1 q, .inr (ci, (ks.mapIdx (fun k t => ai_f u.2.2.1 S V q k t)).set k (.int x))) = ai_w u (ai_up S q k x) V := by
  have hl := (List.getElem?_eq_some_iff.mp hq).1
  have hkl := (List.getElem?_eq_some_iff.mp hk).1
  apply List.ext_getElem?
  intro i
  by_cases hi : i = q
  · subst hi
    rw [List.getElem?_set_self (by simpa [ai_w] using hl), ai_w_atO hq hc]
    congr 2
    show (Sum.inr _ : va_E) = Sum.inr _
    congr 2
    apply List.ext_getElem?
    intro j
    by_cases hj : j = k
    · subst hj
      rw [List.getElem?_set_self (by simpa using hkl)]
      simp [List.getElem?_mapIdx, hk, ai_f, ai_up_s]
    · rw [List.getElem?_set_ne (Ne.symm hj)]
      simp only [List.getElem?_mapIdx]
      cases ks[j]? with
      | none => rfl
      | some t =>
        match t with
        | 0 => simp [ai_f, ai_up_n (S := S) (q := i) (k := k) (i := i) (j := j) (x := x) (fun h => hj h.2)]
        | 1 => rfl
        | t + 2 => rfl
  · rw [List.getElem?_set_ne (Ne.symm hi)]
    simp only [ai_w, List.getElem?_mapIdx]
    cases u.2.2.2.2[i]? with
    | none => rfl
    | some e =>
      have e1 : ai_up S q k x i = S i := ai_up_o hi
      cases e with
      | inl a => simp [ai_c, e1]
      | inr o =>
        simp only [ai_c, Option.map_some]
        by_cases ho : o.1 < 10
        · rw [if_pos ho, if_pos ho]
          congr 4
          refine congrArg (fun g => List.mapIdx g o.2) ?_
          funext j t
          match t with
          | 0 => simp [ai_f, e1]
          | 1 => rfl
          | t + 2 => rfl
        · rw [if_neg ho, if_neg ho]
/-- a reference field is put -/
theorem ai_w_putV {u : ai_U} {S : ai_S} {V : ai_V} {q k ci : Nat} {ks : List Nat} {x : Value} (hc : ci < 10) (hq : u.2.2.2.2[q]? = some (.inr (ci, ks))) (hk : ks[k]? = some 1) :
    (ai_w u S V).set q (u.2.2.1 q, .inr (ci, (ks.mapIdx (fun k t => ai_f u.2.2.1 S V q k t)).set k (ai_v u.2.2.1 x))) = ai_w u S (ai_uv V q k x) := by
  have hl := (List.getElem?_eq_some_iff.mp hq).1
  have hkl := (List.getElem?_eq_some_iff.mp hk).1
  apply List.ext_getElem?
  intro i
  by_cases hi : i = q
  · subst hi
    rw [List.getElem?_set_self (by simpa [ai_w] using hl), ai_w_atO hq hc]
    congr 2
    show (Sum.inr _ : va_E) = Sum.inr _
    congr 2
    apply List.ext_getElem?
    intro j
    by_cases hj : j = k
    · subst hj
      rw [List.getElem?_set_self (by simpa using hkl)]
      simp [List.getElem?_mapIdx, hk, ai_f, ai_uv, updV]
    · rw [List.getElem?_set_ne (Ne.symm hj)]
      simp only [List.getElem?_mapIdx]
      cases ks[j]? with
      | none => rfl
      | some t =>
        match t with
        | 0 => rfl
        | 1 => simp [ai_f, ai_uv, updV, hj]
        | t + 2 => rfl
  · rw [List.getElem?_set_ne (Ne.symm hi)]
    simp only [ai_w, List.getElem?_mapIdx]
    cases u.2.2.2.2[i]? with
    | none => rfl
    | some e =>
      have e1 : ai_uv V q k x i = V i := by simp [ai_uv, hi]
      cases e with
      | inl a => rfl
      | inr o =>
        simp only [ai_c, Option.map_some]
        by_cases ho : o.1 < 10
        · rw [if_pos ho, if_pos ho]
          congr 4
          refine congrArg (fun g => List.mapIdx g o.2) ?_
          funext j t
          match t with
          | 0 => rfl
          | 1 => simp [ai_f, e1]
          | t + 2 => rfl
        · rw [if_neg ho, if_neg ho]
/-- an element is put -/
theorem ai_w_ast {u : ai_U} {S : ai_S} {V : ai_V} {q k t n : Nat} {x : Int32} (ht : t < 10) (hq : u.2.2.2.2[q]? = some (.inl (t, n))) :
    (ai_w u S V).set q (u.2.2.1 q, .inl (u.2.2.2.1 t, n, .inl (upd (S q) k x))) = ai_w u (ai_up S q k x) V := by
  have hl := (List.getElem?_eq_some_iff.mp hq).1
  apply List.ext_getElem?
  intro i
  by_cases hi : i = q
  · subst hi
    rw [List.getElem?_set_self (by simpa [ai_w] using hl), ai_w_atA hq ht]
    simp [ai_up_q]
  · rw [List.getElem?_set_ne (Ne.symm hi)]
    simp only [ai_w, List.getElem?_mapIdx]
    cases u.2.2.2.2[i]? with
    | none => rfl
    | some e =>
      have e1 : ai_up S q k x i = S i := ai_up_o hi
      cases e with
      | inl a => simp [ai_c, e1]
      | inr o =>
        simp only [ai_c, Option.map_some]
        by_cases ho : o.1 < 10
        · rw [if_pos ho, if_pos ho]
          congr 4
          refine congrArg (fun g => List.mapIdx g o.2) ?_
          funext j t
          match t with
          | 0 => simp [ai_f, e1]
          | 1 => rfl
          | t + 2 => rfl
        · rw [if_neg ho, if_neg ho]
/-- the cells are apart, and of a kind -/
def ai_D (u : ai_U) (A : Nat → Prop) : Prop := (∀ i j : Nat, i < u.2.2.2.2.length → j < u.2.2.2.2.length → u.2.2.1 i = u.2.2.1 j → i = j) ∧ ∀ i : Nat, i < u.2.2.2.2.length → A (u.2.2.1 i)
theorem ai_D.va {u : ai_U} {A : Nat → Prop} (h : ai_D u A) (S : ai_S) (V : ai_V) : va_D A (ai_w u S V) := by
  refine ⟨fun i j x y hi hj hxy => ?_, fun i x hi => ?_⟩
  · obtain ⟨h1, h2⟩ := ai_w_of hi
    obtain ⟨h3, h4⟩ := ai_w_of hj
    exact h.1 i j h1 h3 (by rw [← h2, ← h4]; exact hxy)
  · obtain ⟨h1, h2⟩ := ai_w_of hi
    rw [h2]
    exact h.2 i h1
/-- the words that every method here may use; those on nest mates apart -/
def ai_ws : List Cond := lw_tbl.filter goodWord
def ai_isN : Cond → Bool
  | .fieldLinkNest .. => true
  | _ => false
def ai_nw : List Cond := tables_1.filter ai_isN
theorem ai_in {w : Cond} (i : Nat) (h : lw_tbl[i]? = some w) (g : goodWord w = true) : w ∈ ai_ws := List.mem_filter.mpr ⟨List.mem_of_getElem? h, g⟩
theorem ai_inN {w : Cond} (i : Nat) (h : tables_1[i]? = some w) (g : ai_isN w = true) : w ∈ ai_nw := List.mem_filter.mpr ⟨List.mem_of_getElem? h, g⟩
theorem ai_good {y : Cond} (h : y ∈ ai_ws) {z : Cond} : GoodIn (z :: ai_ws) (y :: ai_ws) := by
  intro w hw
  have h1 : w ∈ ai_ws := by
    rcases List.mem_cons.mp hw with h2 | h2
    · rw [h2]; exact h
    · exact h2
  exact ⟨List.mem_cons_of_mem _ h1, good_of_word (List.mem_filter.mp h1).2⟩
def ai_tys (u : ai_U) : List (ClassId × FieldType) := [(u.2.2.2.1 0, .int), (u.2.2.2.1 1, .char)]
def ai_K (u : ai_U) (s : State) : Prop := va_K u.2.1 vwCl (ai_tys u) s ∧ ∀ w ∈ ai_nw, va_Nw w s
theorem ai_K.warm {u : ai_U} {s U : State} (h : ai_K u s) (hW : s.WarmedH U.vm) : ai_K u U := by
  refine ⟨va_K.moved hW.alike h.1, fun w hw => ?_⟩
  have h1 := h.2 w hw
  have h2 := (List.mem_filter.mp hw).2
  cases w <;> first | exact va_Nw.warmF hW h1 | (simp [ai_isN] at h2; done)
theorem ai_K.same {u : ai_U} {s U : State} (h : ai_K u s) (hW : s.vm = U.vm) : ai_K u U := by
  refine ⟨va_K.moved (by rw [hW]; exact Vm.Alike.refl _) h.1, fun w hw => ?_⟩
  have h1 := h.2 w hw
  have h2 := (List.mem_filter.mp hw).2
  refine va_Nw.same ?_ hW h1
  cases w <;> first | rfl | (simp [ai_isN] at h2; done)
def ai_rm (d : Nat) : Room := { frames := d, cells := 0, slots := 0, locals := 45 * d }
/-- what holds of a method's frame -/
def ai_X (u : ai_U) (M : ai_M) (p : Program) (s : State) (m : MethodId) (args : Array Value) (meth : Method) (c : Code) : Prop :=
  p.tables.exec = Jvm.exec ∧ c.code = M.2.1 ∧ c.maxLocals = M.2.2.1 ∧ meth.sig.returnType = M.2.2.2 ∧ s.vm.findClass M.1.cls = some m.cls ∧ (∀ w ∈ Cond.code M.1 M.2.1 M.2.2.1 M.2.2.2 :: ai_ws, w.before args s = true) ∧ meth.locks = false ∧ ai_K u s
def ai_Q (u : ai_U) (A : Nat → Prop) (Q : ai_P) : Array Value → State → Outcome → State → Prop := fun _ st oc t =>
  (∃ (r : Option Value) (S' : ai_S) (V' : ai_V), oc = .returned (r.map (ai_v u.2.2.1)) ∧ Q r S' V' ∧ va_P u.2.1 vwCl (ai_w u S' V') t.heap) ∧ va_F A st t
def ai_lv (u : ai_U) (lv : List (Nat × Value)) : List (Nat × Value) := lv.map (fun q => (q.1, ai_v u.2.2.1 q.2))
/-- from here the method comes to its end, with Q of its answer and the memory behind it -/
def ai_W (u : ai_U) (d : Nat) (M : ai_M) (pc : Nat) (lv : List (Nat × Value)) (st : List Value) (S : ai_S) (V : ai_V) (Q : ai_P) : Prop :=
  ∀ (p : Program) (e : Env) (s : State) (m : MethodId) (args : Array Value) (below : List Frame) (meth : Method) (c : Code) (A : Nat → Prop) (H : Heap) (locs : List Loc) (ls : Array Slot),
    ai_X u M p s m args meth c → (∀ q : Nat, s.heap.size ≤ q → A q) → va_P u.2.1 vwCl (ai_w u S V) H → ai_D u A → va_S A s.heap H locs → lv_has ls M.2.2.1 (ai_lv u lv) →
      W p u.1 e (ai_rm d) s m args below meth c H locs 0 0 (MQ below (ai_Q u A Q) args s 0 0 A) (F0 m pc ls (st.map (ai_v u.2.2.1)))
def ai_Pc (u : ai_U) (as : List Value) (sz : Nat) (S : ai_S) (V : ai_V) : Array Value → State → Prop := va_Pc (as.map (ai_v u.2.2.1)) (fun U => U.heap.size = sz ∧ va_P u.2.1 vwCl (ai_w u S V) U.heap ∧ ai_K u U ∧ ai_D u (fun _ => True))
/-- a method's contract -/
def ai_met (u : ai_U) (d : Nat) (M : ai_M) (as : List Value) (S : ai_S) (V : ai_V) (Q : ai_P) : Prop :=
  ∀ sz : Nat, Met u.1 M.1 (Cond.code M.1 M.2.1 M.2.2.1 M.2.2.2 :: ai_ws) (ai_rm d) (ai_Pc u as sz S V) (ai_Q u (va_A (ai_w u S V) sz) Q) 0 0 (va_A (ai_w u S V) sz)
theorem ai_args_map (ρ : Nat → Nat) : ∀ (as : List Value) (i : Nat), lv_args i (as.map (ai_v ρ)) = (lv_args i as).map (fun q => (q.1, ai_v ρ q.2))
  | [], _ => rfl
  | v :: vs, i => by
    simp only [List.map_cons, lv_args, ai_v_cat, ai_args_map ρ vs]
theorem ai_sl_len (ρ : Nat → Nat) : ∀ (as : List Value), (lg_sl (as.map (ai_v ρ))).length = (lg_sl as).length
  | [] => rfl
  | v :: vs => by
    have := ai_sl_len ρ vs
    simp only [lg_sl, List.map_cons, List.flatMap_cons, List.length_append, ai_v_cat] at this ⊢
    rw [this]
    split <;> rfl
theorem ai_met_of {u : ai_U} {d : Nat} {M : ai_M} {as : List Value} {S : ai_S} {V : ai_V} {Q : ai_P} (hy : plainName M.1.cls = true) (hl : (lg_sl as).length ≤ M.2.2.1) (h : ai_W u d M 0 (lv_args 0 as) [] S V Q) : ai_met u d M as S V Q := by
  intro sz
  refine Met.ofW (cc := M.2.1) (maxL := M.2.2.1) (ret := M.2.2.2) hy rfl ?_
  intro p e s m args below meth c s₁ B hml hv
  obtain ⟨rfl, hsz, hP, hK, hD⟩ := hv
  subst hsz
  have hl' := lv_entry (as.map (ai_v u.2.2.1)) (n := M.2.2.1) (by rw [ai_sl_len]; exact hl)
  rw [lg_entry_eq]
  rw [ai_args_map] at hl'
  refine h p e s m _ below meth c (va_A (ai_w u S V) s.heap.size) s.heap [] _ ⟨B.exec, B.bytes, hml, B.returns, findClass_of_methodNamed B.named, atoms_spec (ws := Cond.code M.1 M.2.1 M.2.2.1 M.2.2.2 :: ai_ws) B.pre, B.notSynchronized, hK⟩ (fun q h => Or.inr h) hP ⟨hD.1, fun i hi => ?_⟩ va_S.rf hl'
  exact Or.inl ⟨i, _, ai_w_at (List.getElem?_eq_getElem hi)⟩
theorem ai_W.mono {u : ai_U} {d : Nat} {M : ai_M} {pc : Nat} {lv : List (Nat × Value)} {st : List Value} {S : ai_S} {V : ai_V} {Q Q' : ai_P} (h : ai_W u d M pc lv st S V Q) (hQ : ∀ r S' V', Q r S' V' → Q' r S' V') : ai_W u d M pc lv st S V Q' := by
  intro p e s m args below meth c A H locs ls X hA hP hD hS hl T hT Y
  obtain ⟨t, a, o, b1, b2, ⟨⟨r, S', V', c1, c2, c3⟩, c4⟩, b4⟩ := h p e s m args below meth c A H locs ls X hA hP hD hS hl T hT Y
  exact ⟨t, a, o, b1, b2, ⟨⟨r, S', V', c1, hQ _ _ _ c2, c3⟩, c4⟩, b4⟩
theorem ai_met.mono {u : ai_U} {d : Nat} {M : ai_M} {as : List Value} {S : ai_S} {V : ai_V} {Q Q' : ai_P} (h : ai_met u d M as S V Q) (hQ : ∀ r S' V', Q r S' V' → Q' r S' V') : ai_met u d M as S V Q' := by
  intro sz p e ha hc hk s m args below hf h1 h2 h3
  obtain ⟨k, o, a1, a2, a3, ⟨⟨r, S', V', c1, c2, c3⟩, c4⟩, b4⟩ := h sz p e ha hc hk s m args below hf h1 h2 h3
  exact ⟨k, o, a1, a2, a3, ⟨⟨r, S', V', c1, hQ _ _ _ c2, c3⟩, c4⟩, b4⟩
