/-! ===== a row an instruction ===== -/
section AIR
variable {u : ai_U} {d : Nat} {M : ai_M} {pc : Nat} {lv : List (Nat × Value)} {st : List Value} {S : ai_S} {V : ai_V} {Q : ai_P}
theorem ai_lv_at {u : ai_U} {ls : Array Slot} {n i : Nat} {lv : List (Nat × Value)} {v : Value} (h : lv_has ls n (ai_lv u lv)) (k : Nat) (hk : lv[k]? = some (i, v)) : ls[i]? = some (.val (ai_v u.2.2.1 v)) :=
  lv_at h k (by simp [ai_lv, hk])
theorem ai_lv_sub {u : ai_U} {ls : Array Slot} {n : Nat} {lv lv' : List (Nat × Value)} (h : lv_has ls n (ai_lv u lv)) (hs : ∀ q ∈ lv', q ∈ lv) : lv_has ls n (ai_lv u lv') := by
  refine ⟨h.1, h.2.1, fun q hq => h.2.2 q ?_⟩
  obtain ⟨x, hx, rfl⟩ := List.mem_map.mp hq
  exact List.mem_map.mpr ⟨x, hs x hx, rfl⟩
/-- other locals, all of them among those that are known -/
theorem ai_loc (lv' : List (Nat × Value)) (hs : ∀ q ∈ lv', q ∈ lv) (k : ai_W u d M pc lv' st S V Q) : ai_W u d M pc lv st S V Q :=
  fun p e s m args below meth c A H locs ls X hA hP hD hS hl => k p e s m args below meth c A H locs ls X hA hP hD hS (ai_lv_sub hl hs)
theorem ai_iconst {n : Int} {v : Int32} (h : decode M.2.1 pc = .ok (.iconst n, 1)) (hv : Int32.ofInt n = v) (k : ai_W u d M (pc + 1) lv (.int v :: st) S V Q) : ai_W u d M pc lv st S V Q :=
  fun p e s m args below meth c A H locs ls X hA hP hD hS hl => lv_iconst X.1 X.2.1 h hv (k p e s m args below meth c A H locs ls X hA hP hD hS hl)
theorem ai_bipush {n : Int} {v : Int32} (h : decode M.2.1 pc = .ok (.bipush n, 2)) (hv : (Int8.ofInt n).toInt32 = v) (k : ai_W u d M (pc + 2) lv (.int v :: st) S V Q) : ai_W u d M pc lv st S V Q :=
  fun p e s m args below meth c A H locs ls X hA hP hD hS hl => lv_bipush X.1 X.2.1 h hv (k p e s m args below meth c A H locs ls X hA hP hD hS hl)
theorem ai_sipush {n : Int} {v : Int32} (h : decode M.2.1 pc = .ok (.sipush n, 3)) (hv : (Int16.ofInt n).toInt32 = v) (k : ai_W u d M (pc + 3) lv (.int v :: st) S V Q) : ai_W u d M pc lv st S V Q :=
  fun p e s m args below meth c A H locs ls X hA hP hD hS hl => lv_sipush X.1 X.2.1 h hv (k p e s m args below meth c A H locs ls X hA hP hD hS hl)
theorem ai_ldc {idx : Nat} {v : Int32} (h : decode M.2.1 pc = .ok (.ldc idx, 2)) (hc : Cond.constant M.1.cls idx v ∈ ai_ws) (k : ai_W u d M (pc + 2) lv (.int v :: st) S V Q) : ai_W u d M pc lv st S V Q :=
  fun p e s m args below meth c A H locs ls X hA hP hD hS hl => lv_ldc X.1 X.2.1 X.2.2.2.2.1 (X.2.2.2.2.2.1 _ (List.mem_cons_of_mem _ hc)) h (k p e s m args below meth c A H locs ls X hA hP hD hS hl)
theorem ai_ldcw {idx : Nat} {v : Int32} (h : decode M.2.1 pc = .ok (.ldc_w idx, 3)) (hc : Cond.constant M.1.cls idx v ∈ ai_ws) (k : ai_W u d M (pc + 3) lv (.int v :: st) S V Q) : ai_W u d M pc lv st S V Q :=
  fun p e s m args below meth c A H locs ls X hA hP hD hS hl => lv_ldcw X.1 X.2.1 X.2.2.2.2.1 (X.2.2.2.2.2.1 _ (List.mem_cons_of_mem _ hc)) h (k p e s m args below meth c A H locs ls X hA hP hD hS hl)
theorem ai_ldc2 {idx : Nat} {v : Int64} (h : decode M.2.1 pc = .ok (.ldc2_w idx, 3)) (hc : Cond.constantLong M.1.cls idx v ∈ ai_ws) (k : ai_W u d M (pc + 3) lv (.long v :: st) S V Q) : ai_W u d M pc lv st S V Q :=
  fun p e s m args below meth c A H locs ls X hA hP hD hS hl => lv_ldc2 X.1 X.2.1 X.2.2.2.2.1 (X.2.2.2.2.2.1 _ (List.mem_cons_of_mem _ hc)) h (k p e s m args below meth c A H locs ls X hA hP hD hS hl)
theorem ai_iload {i j : Nat} {x : Int32} (h : decode M.2.1 pc = .ok (.iload i, 2)) (hj : lv[j]? = some (i, .int x)) (k : ai_W u d M (pc + 2) lv (.int x :: st) S V Q) : ai_W u d M pc lv st S V Q :=
  fun p e s m args below meth c A H locs ls X hA hP hD hS hl => lv_iload X.1 X.2.1 h (ai_lv_at hl j hj) (k p e s m args below meth c A H locs ls X hA hP hD hS hl)
theorem ai_iload_n {n : Fin 4} {i j : Nat} {x : Int32} (h : decode M.2.1 pc = .ok (.iload_n n, 1)) (hi : (n : Nat) = i) (hj : lv[j]? = some (i, .int x)) (k : ai_W u d M (pc + 1) lv (.int x :: st) S V Q) : ai_W u d M pc lv st S V Q :=
  fun p e s m args below meth c A H locs ls X hA hP hD hS hl => lv_iload_n X.1 X.2.1 h hi (ai_lv_at hl j hj) (k p e s m args below meth c A H locs ls X hA hP hD hS hl)
theorem ai_lload_n {n : Fin 4} {i j : Nat} {x : Int64} (h : decode M.2.1 pc = .ok (.lload_n n, 1)) (hi : (n : Nat) = i) (hj : lv[j]? = some (i, .long x)) (k : ai_W u d M (pc + 1) lv (.long x :: st) S V Q) : ai_W u d M pc lv st S V Q :=
  fun p e s m args below meth c A H locs ls X hA hP hD hS hl => lv_lload_n X.1 X.2.1 h hi (ai_lv_at hl j hj) (k p e s m args below meth c A H locs ls X hA hP hD hS hl)
theorem ai_aload {i j : Nat} {x : Nat} (h : decode M.2.1 pc = .ok (.aload i, 2)) (hj : lv[j]? = some (i, .ref x)) (k : ai_W u d M (pc + 2) lv (.ref x :: st) S V Q) : ai_W u d M pc lv st S V Q :=
  fun p e s m args below meth c A H locs ls X hA hP hD hS hl => lv_aload X.1 X.2.1 h (ai_lv_at hl j hj) (k p e s m args below meth c A H locs ls X hA hP hD hS hl)
theorem ai_aload_n {n : Fin 4} {i j : Nat} {x : Nat} (h : decode M.2.1 pc = .ok (.aload_n n, 1)) (hi : (n : Nat) = i) (hj : lv[j]? = some (i, .ref x)) (k : ai_W u d M (pc + 1) lv (.ref x :: st) S V Q) : ai_W u d M pc lv st S V Q :=
  fun p e s m args below meth c A H locs ls X hA hP hD hS hl => lv_aload_n X.1 X.2.1 h hi (ai_lv_at hl j hj) (k p e s m args below meth c A H locs ls X hA hP hD hS hl)
/-- a store: the locals behind it -/
def ai_st (lv : List (Nat × Value)) (i : Nat) (v : Value) : List (Nat × Value) := (i, v) :: lv.filter (fun q => !(q.1 == i) && !(q.1 + 1 == i && q.2.category == 2))
theorem ai_st_map (u : ai_U) (lv : List (Nat × Value)) (i : Nat) (v : Value) : (i, ai_v u.2.2.1 v) :: (ai_lv u lv).filter (fun q => !(q.1 == i) && !(q.1 + 1 == i && q.2.category == 2)) = ai_lv u (ai_st lv i v) := by
  simp only [ai_lv, ai_st, List.map_cons, List.filter_map]
  congr 2
  apply List.filter_congr
  intro x _
  simp [Function.comp, ai_v_cat]
theorem ai_istore {i : Nat} {x : Int32} {lv' : List (Nat × Value)} (h : decode M.2.1 pc = .ok (.istore i, 2)) (hi : i < M.2.2.1) (hl' : ai_st lv i (.int x) = lv') (k : ai_W u d M (pc + 2) lv' st S V Q) : ai_W u d M pc lv (.int x :: st) S V Q :=
  fun p e s m args below meth c A H locs ls X hA hP hD hS hl => lv_istore X.1 X.2.1 h hl hi (ai_st_map u lv i (.int x)) (fun ls' h' => k p e s m args below meth c A H locs ls' X hA hP hD hS (hl' ▸ h'))
theorem ai_istore_n {n : Fin 4} {i : Nat} {x : Int32} {lv' : List (Nat × Value)} (h : decode M.2.1 pc = .ok (.istore_n n, 1)) (hn : (n : Nat) = i) (hi : i < M.2.2.1) (hl' : ai_st lv i (.int x) = lv') (k : ai_W u d M (pc + 1) lv' st S V Q) : ai_W u d M pc lv (.int x :: st) S V Q :=
  fun p e s m args below meth c A H locs ls X hA hP hD hS hl => lv_istore_n X.1 X.2.1 h hn hl hi (ai_st_map u lv i (.int x)) (fun ls' h' => k p e s m args below meth c A H locs ls' X hA hP hD hS (hl' ▸ h'))
theorem ai_astore_n {n : Fin 4} {i : Nat} {x : Nat} {lv' : List (Nat × Value)} (h : decode M.2.1 pc = .ok (.astore_n n, 1)) (hn : (n : Nat) = i) (hi : i < M.2.2.1) (hl' : ai_st lv i (.ref x) = lv') (k : ai_W u d M (pc + 1) lv' st S V Q) : ai_W u d M pc lv (.ref x :: st) S V Q :=
  fun p e s m args below meth c A H locs ls X hA hP hD hS hl => lv_astore_n X.1 X.2.1 h hn hl hi (ai_st_map u lv i (.ref x)) (fun ls' h' => k p e s m args below meth c A H locs ls' X hA hP hD hS (hl' ▸ h'))
theorem ai_iinc {i j : Nat} {n : Int} {x v : Int32} {lv' : List (Nat × Value)} (h : decode M.2.1 pc = .ok (.iinc i n, 3)) (hj : lv[j]? = some (i, .int x)) (hv : x + Int32.ofInt n = v) (hi : i < M.2.2.1) (hl' : ai_st lv i (.int v) = lv') (k : ai_W u d M (pc + 3) lv' st S V Q) : ai_W u d M pc lv st S V Q :=
  fun p e s m args below meth c A H locs ls X hA hP hD hS hl => lv_iinc (k := j) (v := v) X.1 X.2.1 h hl (by simp [ai_lv, hj, ai_v]) hv hi (ai_st_map u lv i (.int v)) (fun ls' h' => k p e s m args below meth c A H locs ls' X hA hP hD hS (hl' ▸ h'))
theorem ai_iadd {x y : Int32} (h : decode M.2.1 pc = .ok (.iadd, 1)) (k : ai_W u d M (pc + 1) lv (.int (x + y) :: st) S V Q) : ai_W u d M pc lv (.int y :: .int x :: st) S V Q :=
  fun p e s m args below meth c A H locs ls X hA hP hD hS hl => lv_iadd X.1 X.2.1 h (k p e s m args below meth c A H locs ls X hA hP hD hS hl)
theorem ai_isub {x y : Int32} (h : decode M.2.1 pc = .ok (.isub, 1)) (k : ai_W u d M (pc + 1) lv (.int (x - y) :: st) S V Q) : ai_W u d M pc lv (.int y :: .int x :: st) S V Q :=
  fun p e s m args below meth c A H locs ls X hA hP hD hS hl => lv_isub X.1 X.2.1 h (k p e s m args below meth c A H locs ls X hA hP hD hS hl)
theorem ai_imul {x y : Int32} (h : decode M.2.1 pc = .ok (.imul, 1)) (k : ai_W u d M (pc + 1) lv (.int (x * y) :: st) S V Q) : ai_W u d M pc lv (.int y :: .int x :: st) S V Q :=
  fun p e s m args below meth c A H locs ls X hA hP hD hS hl => lv_imul X.1 X.2.1 h (k p e s m args below meth c A H locs ls X hA hP hD hS hl)
theorem ai_iand {x y : Int32} (h : decode M.2.1 pc = .ok (.iand, 1)) (k : ai_W u d M (pc + 1) lv (.int (x &&& y) :: st) S V Q) : ai_W u d M pc lv (.int y :: .int x :: st) S V Q :=
  fun p e s m args below meth c A H locs ls X hA hP hD hS hl => lv_iand X.1 X.2.1 h (k p e s m args below meth c A H locs ls X hA hP hD hS hl)
theorem ai_ior {x y : Int32} (h : decode M.2.1 pc = .ok (.ior, 1)) (k : ai_W u d M (pc + 1) lv (.int (x ||| y) :: st) S V Q) : ai_W u d M pc lv (.int y :: .int x :: st) S V Q :=
  fun p e s m args below meth c A H locs ls X hA hP hD hS hl => lv_ior X.1 X.2.1 h (k p e s m args below meth c A H locs ls X hA hP hD hS hl)
theorem ai_ishl {x y : Int32} (h : decode M.2.1 pc = .ok (.ishl, 1)) (k : ai_W u d M (pc + 1) lv (.int (x <<< (y &&& 31)) :: st) S V Q) : ai_W u d M pc lv (.int y :: .int x :: st) S V Q :=
  fun p e s m args below meth c A H locs ls X hA hP hD hS hl => lv_ishl X.1 X.2.1 h (k p e s m args below meth c A H locs ls X hA hP hD hS hl)
theorem ai_ishr {x y : Int32} (h : decode M.2.1 pc = .ok (.ishr, 1)) (k : ai_W u d M (pc + 1) lv (.int (x >>> (y &&& 31)) :: st) S V Q) : ai_W u d M pc lv (.int y :: .int x :: st) S V Q :=
  fun p e s m args below meth c A H locs ls X hA hP hD hS hl => lv_ishr X.1 X.2.1 h (k p e s m args below meth c A H locs ls X hA hP hD hS hl)
theorem ai_lshr {x : Int64} {y : Int32} (h : decode M.2.1 pc = .ok (.lshr, 1)) (k : ai_W u d M (pc + 1) lv (.long (x >>> (y.toInt64 &&& 63)) :: st) S V Q) : ai_W u d M pc lv (.int y :: .long x :: st) S V Q :=
  fun p e s m args below meth c A H locs ls X hA hP hD hS hl => lv_lshr X.1 X.2.1 h rfl (k p e s m args below meth c A H locs ls X hA hP hD hS hl)
theorem ai_lushr {x : Int64} {y : Int32} (h : decode M.2.1 pc = .ok (.lushr, 1)) (k : ai_W u d M (pc + 1) lv (.long ((x.toUInt64 >>> (y.toInt64.toUInt64 &&& Int64.toUInt64 63)).toInt64) :: st) S V Q) : ai_W u d M pc lv (.int y :: .long x :: st) S V Q :=
  fun p e s m args below meth c A H locs ls X hA hP hD hS hl => lv_lushr X.1 X.2.1 h rfl (k p e s m args below meth c A H locs ls X hA hP hD hS hl)
theorem ai_i2l {x : Int32} (h : decode M.2.1 pc = .ok (.i2l, 1)) (k : ai_W u d M (pc + 1) lv (.long x.toInt64 :: st) S V Q) : ai_W u d M pc lv (.int x :: st) S V Q :=
  fun p e s m args below meth c A H locs ls X hA hP hD hS hl => lv_i2l X.1 X.2.1 h rfl (k p e s m args below meth c A H locs ls X hA hP hD hS hl)
theorem ai_l2i {x : Int64} (h : decode M.2.1 pc = .ok (.l2i, 1)) (k : ai_W u d M (pc + 1) lv (.int x.toInt32 :: st) S V Q) : ai_W u d M pc lv (.long x :: st) S V Q :=
  fun p e s m args below meth c A H locs ls X hA hP hD hS hl => lv_l2i X.1 X.2.1 h rfl (k p e s m args below meth c A H locs ls X hA hP hD hS hl)
theorem ai_i2c {x : Int32} (h : decode M.2.1 pc = .ok (.i2c, 1)) (k : ai_W u d M (pc + 1) lv (.int (x.toUInt32 % 65536).toInt32 :: st) S V Q) : ai_W u d M pc lv (.int x :: st) S V Q :=
  fun p e s m args below meth c A H locs ls X hA hP hD hS hl => lv_i2c X.1 X.2.1 h rfl (k p e s m args below meth c A H locs ls X hA hP hD hS hl)
theorem ai_dup {v : Value} (h : decode M.2.1 pc = .ok (.dup, 1)) (hv : v.category = 1) (k : ai_W u d M (pc + 1) lv (v :: v :: st) S V Q) : ai_W u d M pc lv (v :: st) S V Q :=
  fun p e s m args below meth c A H locs ls X hA hP hD hS hl => lv_dup X.1 X.2.1 h (by rw [ai_v_cat]; exact hv) (k p e s m args below meth c A H locs ls X hA hP hD hS hl)
theorem ai_dup2 {v w : Value} (h : decode M.2.1 pc = .ok (.dup2, 1)) (hv : v.category = 1) (hw : w.category = 1) (k : ai_W u d M (pc + 1) lv (v :: w :: v :: w :: st) S V Q) : ai_W u d M pc lv (v :: w :: st) S V Q :=
  fun p e s m args below meth c A H locs ls X hA hP hD hS hl => lv_dup2_11 X.1 X.2.1 h (by rw [ai_v_cat]; exact hv) (by rw [ai_v_cat]; exact hw) (k p e s m args below meth c A H locs ls X hA hP hD hS hl)
theorem ai_pop {v : Value} (h : decode M.2.1 pc = .ok (.pop, 1)) (hv : v.category = 1) (k : ai_W u d M (pc + 1) lv st S V Q) : ai_W u d M pc lv (v :: st) S V Q :=
  fun p e s m args below meth c A H locs ls X hA hP hD hS hl => lv_pop X.1 X.2.1 h (by rw [ai_v_cat]; exact hv) (k p e s m args below meth c A H locs ls X hA hP hD hS hl)
theorem ai_goto {off : Int} {tgt : Nat} (h : decode M.2.1 pc = .ok (.goto off, 3)) (ht : (pc : Int) + off = (tgt : Int)) (k : ai_W u d M tgt lv st S V Q) : ai_W u d M pc lv st S V Q :=
  fun p e s m args below meth c A H locs ls X hA hP hD hS hl => lv_goto X.1 X.2.1 h ht (k p e s m args below meth c A H locs ls X hA hP hD hS hl)
theorem ai_if_eq {x : Int32} {off : Int} {tgt : Nat} (h : decode M.2.1 pc = .ok (.ifCond .eq off, 3)) (ht : (pc : Int) + off = (tgt : Int)) (kk : (x = 0 → ai_W u d M tgt lv st S V Q) ∧ (¬ x = 0 → ai_W u d M (pc + 3) lv st S V Q)) : ai_W u d M pc lv (.int x :: st) S V Q :=
  fun p e s m args below meth c A H locs ls X hA hP hD hS hl => lv_if_eq X.1 X.2.1 h ht (fun hc => kk.1 hc p e s m args below meth c A H locs ls X hA hP hD hS hl) (fun hc => kk.2 hc p e s m args below meth c A H locs ls X hA hP hD hS hl)
theorem ai_if_ne {x : Int32} {off : Int} {tgt : Nat} (h : decode M.2.1 pc = .ok (.ifCond .ne off, 3)) (ht : (pc : Int) + off = (tgt : Int)) (kk : (¬ x = 0 → ai_W u d M tgt lv st S V Q) ∧ (x = 0 → ai_W u d M (pc + 3) lv st S V Q)) : ai_W u d M pc lv (.int x :: st) S V Q :=
  fun p e s m args below meth c A H locs ls X hA hP hD hS hl => lv_if_ne X.1 X.2.1 h ht (fun hc => kk.1 hc p e s m args below meth c A H locs ls X hA hP hD hS hl) (fun hc => kk.2 hc p e s m args below meth c A H locs ls X hA hP hD hS hl)
theorem ai_if_lt {x : Int32} {off : Int} {tgt : Nat} (h : decode M.2.1 pc = .ok (.ifCond .lt off, 3)) (ht : (pc : Int) + off = (tgt : Int)) (kk : (x < 0 → ai_W u d M tgt lv st S V Q) ∧ (¬ x < 0 → ai_W u d M (pc + 3) lv st S V Q)) : ai_W u d M pc lv (.int x :: st) S V Q :=
  fun p e s m args below meth c A H locs ls X hA hP hD hS hl => lv_if_lt X.1 X.2.1 h ht (fun hc => kk.1 hc p e s m args below meth c A H locs ls X hA hP hD hS hl) (fun hc => kk.2 hc p e s m args below meth c A H locs ls X hA hP hD hS hl)
theorem ai_if_ge {x : Int32} {off : Int} {tgt : Nat} (h : decode M.2.1 pc = .ok (.ifCond .ge off, 3)) (ht : (pc : Int) + off = (tgt : Int)) (kk : (0 ≤ x → ai_W u d M tgt lv st S V Q) ∧ (¬ 0 ≤ x → ai_W u d M (pc + 3) lv st S V Q)) : ai_W u d M pc lv (.int x :: st) S V Q :=
  fun p e s m args below meth c A H locs ls X hA hP hD hS hl => lv_if_ge X.1 X.2.1 h ht (fun hc => kk.1 hc p e s m args below meth c A H locs ls X hA hP hD hS hl) (fun hc => kk.2 hc p e s m args below meth c A H locs ls X hA hP hD hS hl)
theorem ai_if_gt {x : Int32} {off : Int} {tgt : Nat} (h : decode M.2.1 pc = .ok (.ifCond .gt off, 3)) (ht : (pc : Int) + off = (tgt : Int)) (kk : (0 < x → ai_W u d M tgt lv st S V Q) ∧ (¬ 0 < x → ai_W u d M (pc + 3) lv st S V Q)) : ai_W u d M pc lv (.int x :: st) S V Q :=
  fun p e s m args below meth c A H locs ls X hA hP hD hS hl => lv_if_gt X.1 X.2.1 h ht (fun hc => kk.1 hc p e s m args below meth c A H locs ls X hA hP hD hS hl) (fun hc => kk.2 hc p e s m args below meth c A H locs ls X hA hP hD hS hl)
theorem ai_if_le {x : Int32} {off : Int} {tgt : Nat} (h : decode M.2.1 pc = .ok (.ifCond .le off, 3)) (ht : (pc : Int) + off = (tgt : Int)) (kk : (x ≤ 0 → ai_W u d M tgt lv st S V Q) ∧ (¬ x ≤ 0 → ai_W u d M (pc + 3) lv st S V Q)) : ai_W u d M pc lv (.int x :: st) S V Q :=
  fun p e s m args below meth c A H locs ls X hA hP hD hS hl => lv_if_le X.1 X.2.1 h ht (fun hc => kk.1 hc p e s m args below meth c A H locs ls X hA hP hD hS hl) (fun hc => kk.2 hc p e s m args below meth c A H locs ls X hA hP hD hS hl)
theorem ai_icmp_eq {x y : Int32} {off : Int} {tgt : Nat} (h : decode M.2.1 pc = .ok (.if_icmp .eq off, 3)) (ht : (pc : Int) + off = (tgt : Int)) (kk : (x = y → ai_W u d M tgt lv st S V Q) ∧ (¬ x = y → ai_W u d M (pc + 3) lv st S V Q)) : ai_W u d M pc lv (.int y :: .int x :: st) S V Q :=
  fun p e s m args below meth c A H locs ls X hA hP hD hS hl => lv_icmp_eq X.1 X.2.1 h ht (fun hc => kk.1 hc p e s m args below meth c A H locs ls X hA hP hD hS hl) (fun hc => kk.2 hc p e s m args below meth c A H locs ls X hA hP hD hS hl)
theorem ai_icmp_ne {x y : Int32} {off : Int} {tgt : Nat} (h : decode M.2.1 pc = .ok (.if_icmp .ne off, 3)) (ht : (pc : Int) + off = (tgt : Int)) (kk : (¬ x = y → ai_W u d M tgt lv st S V Q) ∧ (x = y → ai_W u d M (pc + 3) lv st S V Q)) : ai_W u d M pc lv (.int y :: .int x :: st) S V Q :=
  fun p e s m args below meth c A H locs ls X hA hP hD hS hl => lv_icmp_ne X.1 X.2.1 h ht (fun hc => kk.1 hc p e s m args below meth c A H locs ls X hA hP hD hS hl) (fun hc => kk.2 hc p e s m args below meth c A H locs ls X hA hP hD hS hl)
theorem ai_icmp_lt {x y : Int32} {off : Int} {tgt : Nat} (h : decode M.2.1 pc = .ok (.if_icmp .lt off, 3)) (ht : (pc : Int) + off = (tgt : Int)) (kk : (x < y → ai_W u d M tgt lv st S V Q) ∧ (¬ x < y → ai_W u d M (pc + 3) lv st S V Q)) : ai_W u d M pc lv (.int y :: .int x :: st) S V Q :=
  fun p e s m args below meth c A H locs ls X hA hP hD hS hl => lv_icmp_lt X.1 X.2.1 h ht (fun hc => kk.1 hc p e s m args below meth c A H locs ls X hA hP hD hS hl) (fun hc => kk.2 hc p e s m args below meth c A H locs ls X hA hP hD hS hl)
theorem ai_icmp_ge {x y : Int32} {off : Int} {tgt : Nat} (h : decode M.2.1 pc = .ok (.if_icmp .ge off, 3)) (ht : (pc : Int) + off = (tgt : Int)) (kk : (y ≤ x → ai_W u d M tgt lv st S V Q) ∧ (¬ y ≤ x → ai_W u d M (pc + 3) lv st S V Q)) : ai_W u d M pc lv (.int y :: .int x :: st) S V Q :=
  fun p e s m args below meth c A H locs ls X hA hP hD hS hl => lv_icmp_ge X.1 X.2.1 h ht (fun hc => kk.1 hc p e s m args below meth c A H locs ls X hA hP hD hS hl) (fun hc => kk.2 hc p e s m args below meth c A H locs ls X hA hP hD hS hl)
theorem ai_icmp_gt {x y : Int32} {off : Int} {tgt : Nat} (h : decode M.2.1 pc = .ok (.if_icmp .gt off, 3)) (ht : (pc : Int) + off = (tgt : Int)) (kk : (y < x → ai_W u d M tgt lv st S V Q) ∧ (¬ y < x → ai_W u d M (pc + 3) lv st S V Q)) : ai_W u d M pc lv (.int y :: .int x :: st) S V Q :=
  fun p e s m args below meth c A H locs ls X hA hP hD hS hl => lv_icmp_gt X.1 X.2.1 h ht (fun hc => kk.1 hc p e s m args below meth c A H locs ls X hA hP hD hS hl) (fun hc => kk.2 hc p e s m args below meth c A H locs ls X hA hP hD hS hl)
theorem ai_icmp_le {x y : Int32} {off : Int} {tgt : Nat} (h : decode M.2.1 pc = .ok (.if_icmp .le off, 3)) (ht : (pc : Int) + off = (tgt : Int)) (kk : (x ≤ y → ai_W u d M tgt lv st S V Q) ∧ (¬ x ≤ y → ai_W u d M (pc + 3) lv st S V Q)) : ai_W u d M pc lv (.int y :: .int x :: st) S V Q :=
  fun p e s m args below meth c A H locs ls X hA hP hD hS hl => lv_icmp_le X.1 X.2.1 h ht (fun hc => kk.1 hc p e s m args below meth c A H locs ls X hA hP hD hS hl) (fun hc => kk.2 hc p e s m args below meth c A H locs ls X hA hP hD hS hl)
theorem ai_tabOut {dflt lo hi : Int} {offs : Array Int} {len : Nat} {x : Int32} {tgt : Nat} (h : decode M.2.1 pc = .ok (.tableswitch dflt lo hi offs, len)) (hx : x.toInt < lo ∨ hi < x.toInt) (ht : (pc : Int) + dflt = (tgt : Int)) (k : ai_W u d M tgt lv st S V Q) : ai_W u d M pc lv (.int x :: st) S V Q :=
  fun p e s m args below meth c A H locs ls X hA hP hD hS hl => lv_tableOut X.1 X.2.1 h hx ht (k p e s m args below meth c A H locs ls X hA hP hD hS hl)
theorem ai_tabIn {dflt lo hi : Int} {offs : Array Int} {len : Nat} {x : Int32} {off : Int} {tgt : Nat} (h : decode M.2.1 pc = .ok (.tableswitch dflt lo hi offs, len)) (h1 : ¬ x.toInt < lo) (h2 : ¬ hi < x.toInt) (ho : offs[(x.toInt - lo).toNat]? = some off) (ht : (pc : Int) + off = (tgt : Int)) (k : ai_W u d M tgt lv st S V Q) : ai_W u d M pc lv (.int x :: st) S V Q :=
  fun p e s m args below meth c A H locs ls X hA hP hD hS hl => lv_tableIn X.1 X.2.1 h h1 h2 ho ht (k p e s m args below meth c A H locs ls X hA hP hD hS hl)
theorem ai_lookup {dflt : Int} {ps : Array (Int × Int)} {len : Nat} {x : Int32} {off : Int} {tgt : Nat} (h : decode M.2.1 pc = .ok (.lookupswitch dflt ps, len)) (hp : (ps.toList.zip (ps.toList.drop 1)).all (fun (a, next) => a.1 < next.1) = true) (ho : Op.lookupswitch.offset ps.toList dflt x.toInt = off) (ht : (pc : Int) + off = (tgt : Int)) (k : ai_W u d M tgt lv st S V Q) : ai_W u d M pc lv (.int x :: st) S V Q :=
  fun p e s m args below meth c A H locs ls X hA hP hD hS hl => lv_lookup X.1 X.2.1 h hp ho ht (k p e s m args below meth c A H locs ls X hA hP hD hS hl)
/-- returns -/
theorem ai_iret {x : Int32} {ty : FieldType} (h : decode M.2.1 pc = .ok (.ireturn, 1)) (hr : M.2.2.2 = some ty) (hn : narrow ty (.int x) = .int x) (k : Q (some (.int x)) S V) : ai_W u d M pc lv [.int x] S V Q :=
  fun p e s m args below meth c A H locs ls X hA hP hD hS hl => W.zret (ty := ty) X.1 X.2.1 (X.2.2.2.1.trans hr) hn (fun t ht _ => ⟨⟨some (.int x), S, V, rfl, k, by rw [ht]; exact hP⟩, hS.F ht⟩) hS.2.2 h X.2.2.2.2.2.2.1
theorem ai_lret {x : Int64} (h : decode M.2.1 pc = .ok (.lreturn, 1)) (hr : M.2.2.2 = some .long) (k : Q (some (.long x)) S V) : ai_W u d M pc lv [.long x] S V Q :=
  fun p e s m args below meth c A H locs ls X hA hP hD hS hl => W.lret X.1 X.2.1 (X.2.2.2.1.trans hr) (fun t ht _ => ⟨⟨some (.long x), S, V, rfl, k, by rw [ht]; exact hP⟩, hS.F ht⟩) hS.2.2 h X.2.2.2.2.2.2.1
theorem ai_vret (h : decode M.2.1 pc = .ok (.return_, 1)) (hr : M.2.2.2 = none) (k : Q none S V) : ai_W u d M pc lv [] S V Q :=
  fun p e s m args below meth c A H locs ls X hA hP hD hS hl => W.vret X.1 X.2.1 (X.2.2.2.1.trans hr) (fun t ht _ => ⟨⟨none, S, V, rfl, k, by rw [ht]; exact hP⟩, hS.F ht⟩) hS.2.2 h X.2.2.2.2.2.2.1
/-- a field's words: own class, place in its pool, class number, field number -/
def ai_Fd (own : String) (idx ci k : Nat) : Prop := ∃ (C : String) (T : u_T) (N : Nat), vwCl[ci]? = some (C, T, N) ∧ k < N ∧ (∀ w ∈ u_ws C T N, w ∈ ai_ws) ∧ (Cond.fieldLink own idx (T k).1 (T k).2.1 (T k).2.2.1 ∈ ai_ws ∨ ∃ host : String, Cond.fieldLinkNest own idx (T k).1 (T k).2.1 (T k).2.2.1 host ∈ ai_nw)
/-- that it may be put, and its type -/
def ai_Pd (ci k : Nat) (ty : FieldType) : Prop := ∃ (C : String) (T : u_T) (N : Nat) (ty0 : Nat → FieldType), vwCl[ci]? = some (C, T, N) ∧ (∀ k, k < N → parseFieldDescriptor (T k).2.2.1 = some (ty0 k)) ∧ (∀ a, a < N → ∀ b, b < N → a ≠ b → (T a).2.1 ≠ (T b).2.1) ∧ (T k).2.2.2 = false ∧ ty0 k = ty
theorem ai_get {idx ci k q t : Nat} {ks : List Nat} {v : Value} (h : decode M.2.1 pc = .ok (.getfield idx, 3)) (fd : ai_Fd M.1.cls idx ci k) (hq : u.2.2.2.2[q]? = some (.inr (ci, ks))) (hk : ks[k]? = some t) (hv : ai_f u.2.2.1 S V q k t = ai_v u.2.2.1 v) (kk : ai_W u d M (pc + 3) lv (v :: st) S V Q) : ai_W u d M pc lv (.ref q :: st) S V Q := by
  intro p e s m args below meth c A H locs ls X hA hP hD hS hl
  obtain ⟨C, T, N, h1, h2, h3, h4⟩ := fd
  have h5 := kk p e s m args below meth c A H locs ls X hA hP hD hS hl
  have h6 : (ks.mapIdx (fun k t => ai_f u.2.2.1 S V q k t))[k]? = some (ai_v u.2.2.1 v) := by simp [List.getElem?_mapIdx, hk, hv]
  have hts := X.2.2.2.2.2.1
  rcases h4 with h4 | ⟨host, h4⟩
  · exact va_get X.1 X.2.1 hts (fun w hw => List.mem_cons_of_mem _ (h3 w hw)) X.2.2.2.2.1 X.2.2.2.2.2.2.2.1 hP q (ai_w_atO hq (ai_ci h1)) h1 k h2 (hts _ (List.mem_cons_of_mem _ h4)) (fun _ h9 => h9) h6 h h5
  · exact va_getN X.1 X.2.1 hts (fun w hw => List.mem_cons_of_mem _ (h3 w hw)) X.2.2.2.2.1 X.2.2.2.2.2.2.2.1 hP q (ai_w_atO hq (ai_ci h1)) h1 k h2 (va_Nw.use rfl (X.2.2.2.2.2.2.2.2 _ h4)) (fun _ h9 => h9) h6 h h5
theorem ai_getI {idx ci k q : Nat} {ks : List Nat} (h : decode M.2.1 pc = .ok (.getfield idx, 3)) (fd : ai_Fd M.1.cls idx ci k) (hq : u.2.2.2.2[q]? = some (.inr (ci, ks))) (hk : ks[k]? = some 0) (kk : ai_W u d M (pc + 3) lv (.int (S q k) :: st) S V Q) : ai_W u d M pc lv (.ref q :: st) S V Q := ai_get h fd hq hk rfl kk
theorem ai_getR {idx ci k q r : Nat} {ks : List Nat} (h : decode M.2.1 pc = .ok (.getfield idx, 3)) (fd : ai_Fd M.1.cls idx ci k) (hq : u.2.2.2.2[q]? = some (.inr (ci, ks))) (hk : ks[k]? = some (r + 2)) (kk : ai_W u d M (pc + 3) lv (.ref r :: st) S V Q) : ai_W u d M pc lv (.ref q :: st) S V Q := ai_get h fd hq hk rfl kk
theorem ai_getV {idx ci k q : Nat} {ks : List Nat} {v : Value} (h : decode M.2.1 pc = .ok (.getfield idx, 3)) (fd : ai_Fd M.1.cls idx ci k) (hq : u.2.2.2.2[q]? = some (.inr (ci, ks))) (hk : ks[k]? = some 1) (kk : V q k = v ∧ ai_W u d M (pc + 3) lv (v :: st) S V Q) : ai_W u d M pc lv (.ref q :: st) S V Q := ai_get (v := v) h fd hq hk (by simp [ai_f, kk.1]) kk.2
theorem ai_put0 {idx ci k q t : Nat} {ks : List Nat} {v : Value} {ty : FieldType} {S' : ai_S} {V' : ai_V} (h : decode M.2.1 pc = .ok (.putfield idx, 3)) (fd : ai_Fd M.1.cls idx ci k) (pd : ai_Pd ci k ty) (hq : u.2.2.2.2[q]? = some (.inr (ci, ks))) (hk : ks[k]? = some t) (hn : narrow ty (ai_v u.2.2.1 v) = ai_v u.2.2.1 v) (hf : fits ty (ai_v u.2.2.1 v) = true)
    (hw : (ai_w u S V).set q (u.2.2.1 q, .inr (ci, (ks.mapIdx (fun k t => ai_f u.2.2.1 S V q k t)).set k (ai_v u.2.2.1 v))) = ai_w u S' V') (kk : ai_W u d M (pc + 3) lv st S' V' Q) : ai_W u d M pc lv (v :: .ref q :: st) S V Q := by
  intro p e s m args below meth c A H locs ls X hA hP hD hS hl
  obtain ⟨C, T, N, h1, h2, h3, h4⟩ := fd
  obtain ⟨C', T', N', ty0, g1, g2, g3, g4, g5⟩ := pd
  cases g1.symm.trans h1
  have hts := X.2.2.2.2.2.1
  have hlen : k < (ks.mapIdx (fun k t => ai_f u.2.2.1 S V q k t)).length := by simpa using (List.getElem?_eq_some_iff.mp hk).1
  have h5 : ∀ (H1 : Heap) (locs1 : List Loc), va_P u.2.1 vwCl ((ai_w u S V).set q (u.2.2.1 q, .inr (ci, (ks.mapIdx (fun k t => ai_f u.2.2.1 S V q k t)).set k (ai_v u.2.2.1 v)))) H1 → va_D A ((ai_w u S V).set q (u.2.2.1 q, .inr (ci, (ks.mapIdx (fun k t => ai_f u.2.2.1 S V q k t)).set k (ai_v u.2.2.1 v)))) → va_S A s.heap H1 locs1 → W p u.1 e (ai_rm d) s m args below meth c H1 locs1 0 0 (MQ below (ai_Q u A Q) args s 0 0 A) (F0 m (pc + 3) ls (st.map (ai_v u.2.2.1))) := by
    intro H1 locs1 hP1 _ hS1
    rw [hw] at hP1
    exact kk p e s m args below meth c A H1 locs1 ls X hA hP1 hD hS1 hl
  rcases h4 with h4 | ⟨host, h4⟩
  · exact va_put X.1 X.2.1 hts (fun w hw => List.mem_cons_of_mem _ (h3 w hw)) ty0 g2 g3 X.2.2.2.2.1 X.2.2.2.2.2.2.2.1 hP (hD.va S V) hS q (ai_w_atO hq (ai_ci h1)) h1 k h2 (hts _ (List.mem_cons_of_mem _ h4)) (fun _ h9 => h9) g4 (by rw [g2 k h2, g5]) hn hf hlen h h5
  · exact va_putN X.1 X.2.1 hts (fun w hw => List.mem_cons_of_mem _ (h3 w hw)) ty0 g2 g3 X.2.2.2.2.1 X.2.2.2.2.2.2.2.1 hP (hD.va S V) hS q (ai_w_atO hq (ai_ci h1)) h1 k h2 (va_Nw.use rfl (X.2.2.2.2.2.2.2.2 _ h4)) (fun _ h9 => h9) g4 (by rw [g2 k h2, g5]) hn hf hlen h h5
theorem ai_putI {idx ci k q : Nat} {ks : List Nat} {x : Int32} {ty : FieldType} (h : decode M.2.1 pc = .ok (.putfield idx, 3)) (fd : ai_Fd M.1.cls idx ci k) (pd : ai_Pd ci k ty) (hq : u.2.2.2.2[q]? = some (.inr (ci, ks))) (hk : ks[k]? = some 0) (hn : narrow ty (.int x) = .int x) (hf : fits ty (.int x) = true) (kk : ai_W u d M (pc + 3) lv st (ai_up S q k x) V Q) : ai_W u d M pc lv (.int x :: .ref q :: st) S V Q :=
  ai_put0 h fd pd hq hk hn hf (ai_w_put (ai_ci pd.choose_spec.choose_spec.choose_spec.choose_spec.1) hq hk) kk
theorem ai_putV {idx ci k q : Nat} {ks : List Nat} {v : Value} {ty : FieldType} (h : decode M.2.1 pc = .ok (.putfield idx, 3)) (fd : ai_Fd M.1.cls idx ci k) (pd : ai_Pd ci k ty) (hq : u.2.2.2.2[q]? = some (.inr (ci, ks))) (hk : ks[k]? = some 1) (hn : narrow ty (ai_v u.2.2.1 v) = ai_v u.2.2.1 v) (hf : fits ty (ai_v u.2.2.1 v) = true) (kk : ai_W u d M (pc + 3) lv st S (ai_uv V q k v) Q) : ai_W u d M pc lv (v :: .ref q :: st) S V Q :=
  ai_put0 h fd pd hq hk hn hf (ai_w_putV (ai_ci pd.choose_spec.choose_spec.choose_spec.choose_spec.1) hq hk) kk
theorem ai_iald {q n : Nat} {i : Int32} (h : decode M.2.1 pc = .ok (.iaload, 1)) (hq : u.2.2.2.2[q]? = some (.inl (0, n))) (kk : vp_in i n ∧ ai_W u d M (pc + 1) lv (.int (S q i.toNatClampNeg) :: st) S V Q) : ai_W u d M pc lv (.int i :: .ref q :: st) S V Q :=
  fun p e s m args below meth c A H locs ls X hA hP hD hS hl => va_iald X.1 X.2.1 X.2.2.2.2.2.2.2.1 hP q 0 (ai_w_atA hq (by omega)) rfl kk.1 h (kk.2 p e s m args below meth c A H locs ls X hA hP hD hS hl)
theorem ai_cald {q n : Nat} {i : Int32} (h : decode M.2.1 pc = .ok (.caload, 1)) (hq : u.2.2.2.2[q]? = some (.inl (1, n))) (kk : vp_in i n ∧ ai_W u d M (pc + 1) lv (.int (S q i.toNatClampNeg) :: st) S V Q) : ai_W u d M pc lv (.int i :: .ref q :: st) S V Q :=
  fun p e s m args below meth c A H locs ls X hA hP hD hS hl => va_cald X.1 X.2.1 X.2.2.2.2.2.2.2.1 hP q 1 (ai_w_atA hq (by omega)) rfl kk.1 h (kk.2 p e s m args below meth c A H locs ls X hA hP hD hS hl)
theorem ai_iast {q n : Nat} {i x : Int32} (h : decode M.2.1 pc = .ok (.iastore, 1)) (hq : u.2.2.2.2[q]? = some (.inl (0, n))) (kk : vp_in i n ∧ ai_W u d M (pc + 1) lv st (ai_up S q i.toNatClampNeg x) V Q) : ai_W u d M pc lv (.int x :: .int i :: .ref q :: st) S V Q :=
  fun p e s m args below meth c A H locs ls X hA hP hD hS hl => va_iast X.1 X.2.1 X.2.2.2.2.2.2.2.1 hP (hD.va S V) hS q 0 (ai_w_atA hq (by omega)) rfl kk.1 h (fun H1 locs1 hP1 _ hS1 => kk.2 p e s m args below meth c A H1 locs1 ls X hA (ai_w_ast (S := S) (V := V) (k := i.toNatClampNeg) (x := x) (by omega) hq ▸ hP1) hD hS1 hl)
theorem ai_cast {q n : Nat} {i x : Int32} (h : decode M.2.1 pc = .ok (.castore, 1)) (hq : u.2.2.2.2[q]? = some (.inl (1, n))) (kk : vp_in i n ∧ ai_W u d M (pc + 1) lv st (ai_up S q i.toNatClampNeg (vp_nar .char x)) V Q) : ai_W u d M pc lv (.int x :: .int i :: .ref q :: st) S V Q :=
  fun p e s m args below meth c A H locs ls X hA hP hD hS hl => va_cast X.1 X.2.1 X.2.2.2.2.2.2.2.1 hP (hD.va S V) hS q 1 (ai_w_atA hq (by omega)) rfl kk.1 h (fun H1 locs1 hP1 _ hS1 => kk.2 p e s m args below meth c A H1 locs1 ls X hA (ai_w_ast (S := S) (V := V) (k := i.toNatClampNeg) (x := vp_nar .char x) (by omega) hq ▸ hP1) hD hS1 hl)
theorem ai_alen {q t n : Nat} {v : Int32} (h : decode M.2.1 pc = .ok (.arraylength, 1)) (hq : u.2.2.2.2[q]? = some (.inl (t, n))) (ht : t < 2) (hv : Int32.ofNat n = v) (kk : ai_W u d M (pc + 1) lv (.int v :: st) S V Q) : ai_W u d M pc lv (.ref q :: st) S V Q := by
  intro p e s m args below meth c A H locs ls X hA hP hD hS hl
  have h5 := kk p e s m args below meth c A H locs ls X hA hP hD hS hl
  match t, ht, hq with
  | 0, _, hq => exact va_alen X.1 X.2.1 X.2.2.2.2.2.2.2.1 hP q 0 (ai_w_atA hq (by omega)) (ty := .int) rfl hv h h5
  | 1, _, hq => exact va_alen X.1 X.2.1 X.2.2.2.2.2.2.2.1 hP q 1 (ai_w_atA hq (by omega)) (ty := .char) rfl hv h h5
end AIR
