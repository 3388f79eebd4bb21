/-! ===== from the law's entry ===== -/
theorem aw_at {α : Type} (ws : List α) (y : α) (n : Nat) (hn : ws.length = n) : (ws ++ [y])[n]? = some y := by
  subst hn; simp
theorem aw_pre {α : Type} (ws : List α) (y : α) (n : Nat) (hn : ws.length = n) : (List.range n).map (fun i => (ws ++ [y])[i]?) = ws.map some := by
  subst hn
  apply List.ext_getElem?
  intro i
  by_cases h : i < ws.length
  · simp [h, List.getElem?_append_left]
  · simp [h]
set_option maxHeartbeats 400000 in
set_option maxRecDepth 100000 in
theorem whole_start {p : Program} {e : Env} {s : State} {m : MethodId} {below : List Frame} {meth : Method} {c : Code} (l : Launch) {b L : Nat} {xs : Nat → Int32} (hL : L ≤ 1536) (C0 : lw_At p s m meth c b L xs) : W p l e room_1 s m #[Value.ref b] below meth c s.heap [] 0 0 (lw_Z below #[Value.ref b] s) (entryFrame m ([Value.ref b] : List Value).toArray 4) := by
  obtain ⟨hx, hb, hr, hml, hown, hts, hX, hbl, hlocks, hgv⟩ := id C0
  have hown : s.vm.findClass RL = some m.cls := hown
  have hW : ∀ w ∈ ai_ws, w.before #[Value.ref b] s = true := fun w hw => hts w (List.mem_filter.mp hw).1
  obtain ⟨D, τ, hK⟩ := lw_cwK hts
  have hA : ∀ q : Nat, s.heap.size ≤ q → (fun q : Nat => s.heap.size ≤ q) q := fun _ h => h
  have hS : va_S (fun q : Nat => s.heap.size ≤ q) s.heap s.heap [] := va_S.rf
  have hP : va_P D vwCl [] s.heap := fun k q h => by simp at h
  have hD : va_D (fun q : Nat => s.heap.size ≤ q) [] := ⟨fun i j p q h => by simp at h, fun k q h => by simp at h⟩
  have hl := lv_entry ([.ref b]) (n := 4) (Nat.le_of_ble_eq_true rfl)
  rw [lg_entry_eq]
  generalize (lg_sl ([.ref b]) ++ List.replicate (4 - (lg_sl ([.ref b])).length) Slot.unset).toArray = ls at hl ⊢
  have hl : lv_has ls 4 [(0, .ref b)] := hl
  refine va_new (ci := 5) (fs := [.null, .int 0, .null, .null, .null, .null, .int 0]) (C := RX5) (T := TX5) (N := 7) hx hb hW inX5 tyX5 tyX5_ok hown (hts (.classLink RL 7 RX5) (by decide +kernel)) (hts (.instantiable RX5 7) (by decide +kernel)) (hts (.initialized RX5) (by decide +kernel)) hK.1 hP hD hS hA rfl (by decide) (Nat.le_of_ble_eq_true rfl) (Nat.le_of_ble_eq_true rfl) dL_law_0 (fun q0 H hP hD hS => ?_)
  refine lv_dup hx hb dL_law_3 rfl ?_
  refine lw_init (M' := mX5_init) (R' := ctR5) (wr := []) hx hb hml hown hts hK dL_law_4 (ccX5 l D τ q0) (ai_in 87 (by decide +kernel) rfl) (ai_in 77 (by decide +kernel) rfl) (ai_in 88 (by decide +kernel) rfl) wcX5_init rfl rfl ⟨by decide, by decide, by decide +kernel⟩ ⟨by decide, by decide⟩ ⟨rfl, rfl⟩ ⟨by decide, by decide⟩ 0 [] rfl rfl rfl (by decide) (Nat.le_of_ble_eq_true rfl) hA hP hD hS hl.1 (fun w1 H locs hw hP hD hS => ?_)
  refine lv_astore_n (lv' := [(1, .ref q0), (0, .ref b)]) hx hb dL_law_7 rfl hl (by decide) rfl (fun ls hl => ?_)
  have hw2 := st5 (l := l) (D := D) hw
  cases hw2 with
  | intro ρ h =>
  cases h with
  | intro e1 h =>
  rw [List.nil_append] at hP hD
  have hlen : w1.length = 32 := by rw [h]; simp [ai_w, uN]; rfl
  refine va_new (ci := 6) (fs := [.null, .int 0, .int 0, .null, .null, .null, .null, .null, .null, .null, .null, .null, .null, .null, .int 0, .int 0, .int 0, .int 0, .int 0, .int 0, .int 0, .int 0, .int 0, .int 0, .int 0, .null, .null, .null, .null, .null, .int 0, .int 0, .null, .null, .null, .null, .int 0, .int 0, .null, .int 0, .null, .null, .null, .null, .null, .null, .int 0, .int 0, .null, .int 0, .int 0, .int 0, .int 0, .int 0, .int 0, .int 0, .int 0, .int 0, .null, .int 0, .int 0, .int 0]) (C := RX6) (T := TX6) (N := 62) hx hb hW inX6 tyX6 tyX6_ok hown (hts (.classLink RL 10 RX6) (by decide +kernel)) (hts (.instantiable RX6 62) (by decide +kernel)) (hts (.initialized RX6) (by decide +kernel)) hK.1 hP hD hS hA rfl (by decide) (Nat.le_of_ble_eq_true rfl) (Nat.le_of_ble_eq_true rfl) dL_law_8 (fun q1 H hP hD hS => ?_)
  refine lv_dup hx hb dL_law_11 rfl ?_
  refine lw_init (M' := mX6_init) (R' := ctR6) (wr := w1) hx hb hml hown hts hK dL_law_12 (ccX6 l D τ q1) (ai_in 684 (by decide +kernel) rfl) (ai_in 83 (by decide +kernel) rfl) (ai_in 685 (by decide +kernel) rfl) wcX6_init rfl rfl ⟨by decide, by decide, by decide +kernel⟩ ⟨by decide, by decide⟩ ⟨rfl, rfl⟩ ⟨by decide, by decide⟩ 32 (List.range 32) (aw_at _ _ _ hlen) (aw_pre _ _ _ hlen) rfl (by decide) (Nat.le_of_ble_eq_true rfl) hA hP hD hS hl.1 (fun w2 H locs hw hP hD hS => ?_)
  refine lv_astore_n (lv' := [(2, .ref q1), (1, .ref q0), (0, .ref b)]) hx hb dL_law_15 rfl hl (by decide) rfl (fun ls hl => ?_)
  refine lv_iconst (v := 0) hx hb dL_law_16 (by decide) ?_
  refine lv_istore_n (lv' := [(3, .int 0), (2, .ref q1), (1, .ref q0), (0, .ref b)]) hx hb dL_law_17 rfl hl (by decide) rfl (fun ls hl => ?_)
  have hw3 := st6 (l := l) (D := D) hw
  cases hw3 with
  | intro ρ' h9 =>
  cases h9 with
  | intro e2 h' =>
  rw [h, h'] at hP hD
  refine W.widen (k := 600000) (n := 7302250) (by decide) (by decide) ?_
  have hPN : va_P D vwCl (ai_w (uN l D ρ τ) (fun _ _ => 0) lV0) H := fun k q hk => hP k q (by rw [List.getElem?_append_left (List.getElem?_eq_some_iff.mp hk).1]; exact hk)
  have hPM : va_P D vwCl (ai_w (uM l D ρ' τ) (fun _ _ => 0) (fun _ _ => .null)) H := fun k q hk => hP ((ai_w (uN l D ρ τ) (fun _ _ => 0) lV0).length + k) q (by rw [List.getElem?_append_right (Nat.le_add_right _ _), Nat.add_sub_cancel_left]; exact hk)
  exact lw_loop (a1 := q0) (a2 := q1) ⟨hx, hb, hml, hown, hts, hX, hbl⟩ hr hlocks hL hK e2 (L + 1) 0 (Nat.zero_le _) (by omega) ρ _ _ _ H locs ls (lw_apart hD) e1 NV0 hPN hPM hS (lv_sub hl (l' := [(0, .ref b), (1, .ref q0), (2, .ref q1), (3, .int (nI 0))]) [3, 2, 1, 0] rfl)
