/-! ===== the law's calls ===== -/
set_option maxRecDepth 100000 in
theorem wclX5_write : Cond.code yX5_write cX5_write 6 (some .int) ∈ ai_ws := ai_in 317 rfl rfl
theorem cvL_15 : ai_Cv RL 15 5 1 mX5_write := ⟨⟨_, _, rfl⟩, ai_in 314 (by decide +kernel) rfl, ai_in 315 (by decide +kernel) rfl, ai_in 316 (by decide +kernel) rfl, ai_in 77 (by decide +kernel) rfl, wclX5_write, ⟨by decide +kernel, by decide +kernel, by decide +kernel⟩, by decide⟩
set_option maxRecDepth 100000 in
theorem wclX5_erase : Cond.code yX5_erase cX5_erase 2 (some .int) ∈ ai_ws := ai_in 324 rfl rfl
theorem cvL_20 : ai_Cv RL 20 5 0 mX5_erase := ⟨⟨_, _, rfl⟩, ai_in 321 (by decide +kernel) rfl, ai_in 322 (by decide +kernel) rfl, ai_in 323 (by decide +kernel) rfl, ai_in 77 (by decide +kernel) rfl, wclX5_erase, ⟨by decide +kernel, by decide +kernel, by decide +kernel⟩, by decide⟩
set_option maxRecDepth 100000 in
theorem wclX5_length : Cond.code yX5_length cX5_length 1 (some .int) ∈ ai_ws := ai_in 328 rfl rfl
theorem cvL_25 : ai_Cv RL 25 5 0 mX5_length := ⟨⟨_, _, rfl⟩, ai_in 325 (by decide +kernel) rfl, ai_in 326 (by decide +kernel) rfl, ai_in 327 (by decide +kernel) rfl, ai_in 77 (by decide +kernel) rfl, wclX5_length, ⟨by decide +kernel, by decide +kernel, by decide +kernel⟩, by decide⟩
set_option maxRecDepth 100000 in
theorem wclX5_read : Cond.code yX5_read cX5_read 3 (some .int) ∈ ai_ws := ai_in 332 rfl rfl
theorem cvL_29 : ai_Cv RL 29 5 0 mX5_read := ⟨⟨_, _, rfl⟩, ai_in 329 (by decide +kernel) rfl, ai_in 330 (by decide +kernel) rfl, ai_in 331 (by decide +kernel) rfl, ai_in 77 (by decide +kernel) rfl, wclX5_read, ⟨by decide +kernel, by decide +kernel, by decide +kernel⟩, by decide⟩
set_option maxRecDepth 100000 in
theorem wclX5_run : Cond.code yX5_run cX5_run 2 (some .int) ∈ ai_ws := ai_in 512 rfl rfl
theorem cvL_33 : ai_Cv RL 33 5 1 mX5_run := ⟨⟨_, _, rfl⟩, ai_in 509 (by decide +kernel) rfl, ai_in 510 (by decide +kernel) rfl, ai_in 511 (by decide +kernel) rfl, ai_in 77 (by decide +kernel) rfl, wclX5_run, ⟨by decide +kernel, by decide +kernel, by decide +kernel⟩, by decide⟩
set_option maxRecDepth 100000 in
theorem wclX5_prints : Cond.code yX5_prints cX5_prints 1 (some .int) ∈ ai_ws := ai_in 656 rfl rfl
theorem cvL_38 : ai_Cv RL 38 5 0 mX5_prints := ⟨⟨_, _, rfl⟩, ai_in 653 (by decide +kernel) rfl, ai_in 654 (by decide +kernel) rfl, ai_in 655 (by decide +kernel) rfl, ai_in 77 (by decide +kernel) rfl, wclX5_prints, ⟨by decide +kernel, by decide +kernel, by decide +kernel⟩, by decide⟩
set_option maxRecDepth 100000 in
theorem wclX5_printed : Cond.code yX5_printed cX5_printed 2 (some .long) ∈ ai_ws := ai_in 660 rfl rfl
theorem cvL_42 : ai_Cv RL 42 5 1 mX5_printed := ⟨⟨_, _, rfl⟩, ai_in 657 (by decide +kernel) rfl, ai_in 658 (by decide +kernel) rfl, ai_in 659 (by decide +kernel) rfl, ai_in 77 (by decide +kernel) rfl, wclX5_printed, ⟨by decide +kernel, by decide +kernel, by decide +kernel⟩, by decide⟩
set_option maxRecDepth 100000 in
theorem wclX5_cost : Cond.code yX5_cost cX5_cost 1 (some .int) ∈ ai_ws := ai_in 669 rfl rfl
theorem cvL_47 : ai_Cv RL 47 5 0 mX5_cost := ⟨⟨_, _, rfl⟩, ai_in 666 (by decide +kernel) rfl, ai_in 667 (by decide +kernel) rfl, ai_in 668 (by decide +kernel) rfl, ai_in 77 (by decide +kernel) rfl, wclX5_cost, ⟨by decide +kernel, by decide +kernel, by decide +kernel⟩, by decide⟩
set_option maxRecDepth 100000 in
theorem wclX5_deepest : Cond.code yX5_deepest cX5_deepest 1 (some .int) ∈ ai_ws := ai_in 673 rfl rfl
theorem cvL_51 : ai_Cv RL 51 5 0 mX5_deepest := ⟨⟨_, _, rfl⟩, ai_in 670 (by decide +kernel) rfl, ai_in 671 (by decide +kernel) rfl, ai_in 672 (by decide +kernel) rfl, ai_in 77 (by decide +kernel) rfl, wclX5_deepest, ⟨by decide +kernel, by decide +kernel, by decide +kernel⟩, by decide⟩
set_option maxRecDepth 100000 in
theorem wclX5_calls : Cond.code yX5_calls cX5_calls 1 (some .int) ∈ ai_ws := ai_in 677 rfl rfl
theorem cvL_55 : ai_Cv RL 55 5 0 mX5_calls := ⟨⟨_, _, rfl⟩, ai_in 674 (by decide +kernel) rfl, ai_in 675 (by decide +kernel) rfl, ai_in 676 (by decide +kernel) rfl, ai_in 77 (by decide +kernel) rfl, wclX5_calls, ⟨by decide +kernel, by decide +kernel, by decide +kernel⟩, by decide⟩
set_option maxRecDepth 100000 in
theorem wclX5_about : Cond.code yX5_about cX5_about 2 (some .int) ∈ ai_ws := ai_in 681 rfl rfl
theorem cvL_59 : ai_Cv RL 59 5 1 mX5_about := ⟨⟨_, _, rfl⟩, ai_in 678 (by decide +kernel) rfl, ai_in 679 (by decide +kernel) rfl, ai_in 680 (by decide +kernel) rfl, ai_in 77 (by decide +kernel) rfl, wclX5_about, ⟨by decide +kernel, by decide +kernel, by decide +kernel⟩, by decide⟩
set_option maxRecDepth 100000 in
theorem wclX6_write : Cond.code yX6_write cX6_write 6 (some .int) ∈ ai_ws := ai_in 877 rfl rfl
theorem cvL_19 : ai_Cv RL 19 6 1 mX6_write := ⟨⟨_, _, rfl⟩, ai_in 874 (by decide +kernel) rfl, ai_in 875 (by decide +kernel) rfl, ai_in 876 (by decide +kernel) rfl, ai_in 83 (by decide +kernel) rfl, wclX6_write, ⟨by decide +kernel, by decide +kernel, by decide +kernel⟩, by decide⟩
set_option maxRecDepth 100000 in
theorem wclX6_erase : Cond.code yX6_erase cX6_erase 2 (some .int) ∈ ai_ws := ai_in 881 rfl rfl
theorem cvL_24 : ai_Cv RL 24 6 0 mX6_erase := ⟨⟨_, _, rfl⟩, ai_in 878 (by decide +kernel) rfl, ai_in 879 (by decide +kernel) rfl, ai_in 880 (by decide +kernel) rfl, ai_in 83 (by decide +kernel) rfl, wclX6_erase, ⟨by decide +kernel, by decide +kernel, by decide +kernel⟩, by decide⟩
set_option maxRecDepth 100000 in
theorem wclX6_length : Cond.code yX6_length cX6_length 1 (some .int) ∈ ai_ws := ai_in 885 rfl rfl
theorem cvL_28 : ai_Cv RL 28 6 0 mX6_length := ⟨⟨_, _, rfl⟩, ai_in 882 (by decide +kernel) rfl, ai_in 883 (by decide +kernel) rfl, ai_in 884 (by decide +kernel) rfl, ai_in 83 (by decide +kernel) rfl, wclX6_length, ⟨by decide +kernel, by decide +kernel, by decide +kernel⟩, by decide⟩
set_option maxRecDepth 100000 in
theorem wclX6_read : Cond.code yX6_read cX6_read 5 (some .int) ∈ ai_ws := ai_in 889 rfl rfl
theorem cvL_32 : ai_Cv RL 32 6 0 mX6_read := ⟨⟨_, _, rfl⟩, ai_in 886 (by decide +kernel) rfl, ai_in 887 (by decide +kernel) rfl, ai_in 888 (by decide +kernel) rfl, ai_in 83 (by decide +kernel) rfl, wclX6_read, ⟨by decide +kernel, by decide +kernel, by decide +kernel⟩, by decide⟩
set_option maxRecDepth 100000 in
theorem wclX6_run : Cond.code yX6_run cX6_run 5 (some .int) ∈ ai_ws := ai_in 981 rfl rfl
theorem cvL_37 : ai_Cv RL 37 6 1 mX6_run := ⟨⟨_, _, rfl⟩, ai_in 978 (by decide +kernel) rfl, ai_in 979 (by decide +kernel) rfl, ai_in 980 (by decide +kernel) rfl, ai_in 83 (by decide +kernel) rfl, wclX6_run, ⟨by decide +kernel, by decide +kernel, by decide +kernel⟩, by decide⟩
set_option maxRecDepth 100000 in
theorem wclX6_prints : Cond.code yX6_prints cX6_prints 1 (some .int) ∈ ai_ws := ai_in 1034 rfl rfl
theorem cvL_41 : ai_Cv RL 41 6 0 mX6_prints := ⟨⟨_, _, rfl⟩, ai_in 1031 (by decide +kernel) rfl, ai_in 1032 (by decide +kernel) rfl, ai_in 1033 (by decide +kernel) rfl, ai_in 83 (by decide +kernel) rfl, wclX6_prints, ⟨by decide +kernel, by decide +kernel, by decide +kernel⟩, by decide⟩
set_option maxRecDepth 100000 in
theorem wclX6_printed : Cond.code yX6_printed cX6_printed 2 (some .long) ∈ ai_ws := ai_in 1038 rfl rfl
theorem cvL_46 : ai_Cv RL 46 6 1 mX6_printed := ⟨⟨_, _, rfl⟩, ai_in 1035 (by decide +kernel) rfl, ai_in 1036 (by decide +kernel) rfl, ai_in 1037 (by decide +kernel) rfl, ai_in 83 (by decide +kernel) rfl, wclX6_printed, ⟨by decide +kernel, by decide +kernel, by decide +kernel⟩, by decide⟩
set_option maxRecDepth 100000 in
theorem wclX6_cost : Cond.code yX6_cost cX6_cost 1 (some .int) ∈ ai_ws := ai_in 1043 rfl rfl
theorem cvL_50 : ai_Cv RL 50 6 0 mX6_cost := ⟨⟨_, _, rfl⟩, ai_in 1040 (by decide +kernel) rfl, ai_in 1041 (by decide +kernel) rfl, ai_in 1042 (by decide +kernel) rfl, ai_in 83 (by decide +kernel) rfl, wclX6_cost, ⟨by decide +kernel, by decide +kernel, by decide +kernel⟩, by decide⟩
set_option maxRecDepth 100000 in
theorem wclX6_deepest : Cond.code yX6_deepest cX6_deepest 1 (some .int) ∈ ai_ws := ai_in 1047 rfl rfl
theorem cvL_54 : ai_Cv RL 54 6 0 mX6_deepest := ⟨⟨_, _, rfl⟩, ai_in 1044 (by decide +kernel) rfl, ai_in 1045 (by decide +kernel) rfl, ai_in 1046 (by decide +kernel) rfl, ai_in 83 (by decide +kernel) rfl, wclX6_deepest, ⟨by decide +kernel, by decide +kernel, by decide +kernel⟩, by decide⟩
set_option maxRecDepth 100000 in
theorem wclX6_calls : Cond.code yX6_calls cX6_calls 1 (some .int) ∈ ai_ws := ai_in 1051 rfl rfl
theorem cvL_58 : ai_Cv RL 58 6 0 mX6_calls := ⟨⟨_, _, rfl⟩, ai_in 1048 (by decide +kernel) rfl, ai_in 1049 (by decide +kernel) rfl, ai_in 1050 (by decide +kernel) rfl, ai_in 83 (by decide +kernel) rfl, wclX6_calls, ⟨by decide +kernel, by decide +kernel, by decide +kernel⟩, by decide⟩
set_option maxRecDepth 100000 in
theorem wclX6_about : Cond.code yX6_about cX6_about 2 (some .int) ∈ ai_ws := ai_in 1055 rfl rfl
theorem cvL_62 : ai_Cv RL 62 6 1 mX6_about := ⟨⟨_, _, rfl⟩, ai_in 1052 (by decide +kernel) rfl, ai_in 1053 (by decide +kernel) rfl, ai_in 1054 (by decide +kernel) rfl, ai_in 83 (by decide +kernel) rfl, wclX6_about, ⟨by decide +kernel, by decide +kernel, by decide +kernel⟩, by decide⟩
section LWL
variable {p : Program} {l : Launch} {e : Env} {s : State} {m : MethodId} {below : List Frame} {meth : Method} {c : Code} {b cells slots pc idx n : Nat} {D : va_G} {τ : Nat → ClassId} {ρ ρ' : Nat → Nat} {M5 M6 : ai_M} {C R : ai_S} {V VR : ai_V} {As rest : List Value} {H : Heap} {locs : List Loc} {ls : Array Slot} {Q : State → Prop}
/-- the class's call -/
theorem lw_c1L (hx : p.tables.exec = Jvm.exec) (hb : c.code = code) (hml : c.maxLocals = 4) (hown : s.vm.findClass RL = some m.cls) (hts : ∀ w ∈ lw_tbl, w.before #[Value.ref b] s = true) (hK : cw_K D τ s) (hI : lwD (fun q : Nat => s.heap.size ≤ q) ρ ρ') (cv : ai_Cv RL idx 5 n M5) (hAs : As.map (ai_v ρ) = As) (hn : As.length = n) (hW : (rest.map fun v => v.category).sum ≤ 8)
    (fs : ∀ Φ, fsL (uN l D ρ τ) 54 M5 (.ref 0 :: As) C V (uM l D ρ' τ) 8 M6 R VR Φ) (h : decode code pc = .ok (.invokevirtual idx, 3)) (hcs : cells ≤ 600000 ∧ slots ≤ 7302250) (hPN : va_P D vwCl (ai_w (uN l D ρ τ) C V) H) (hPM : va_P D vwCl (ai_w (uM l D ρ' τ) R VR) H) (hS : va_S (fun q : Nat => s.heap.size ≤ q) s.heap H locs) (hl : ls.size = 4)
    (kk : ∀ (x : Int64) (H1 : Heap) (locs1 : List Loc), va_P D vwCl (ai_w (uM l D ρ' τ) R VR) H1 → va_S (fun q : Nat => s.heap.size ≤ q) s.heap H1 locs1 → HFL l D τ ρ ρ' M6 (.ref 0 :: As) R VR x H1 → W p l e room_1 s m #[Value.ref b] below meth c H1 locs1 cells slots Q (F0 m (pc + 3) ls (.long x :: rest))) :
    W p l e room_1 s m #[Value.ref b] below meth c H locs cells slots Q (F0 m pc ls (As.reverse ++ .ref (ρ 0) :: rest)) := by
  have hrun := lw_run (e := e) (below := below) (meth := meth) (locs := locs) (u := uN l D ρ τ) hx hb hml hown hts (hK.ai) cv rfl hAs hn hW (by omega) (ai_met_all (fun _ _ => True) fs) h hPN (fun i j hi hj => hI.1 i j hi hj) hl hcs
  intro T hT X
  obtain ⟨v, st₀, t, T', L, h0, X', hL, e1, e2, hQ, stp⟩ := hrun T hT X
  obtain ⟨⟨r, S1, V1, q1, ⟨qv, x, q2, q3⟩, q4⟩, hz, hk⟩ := hQ (fun _ _ => True)
  rw [h0] at hz hk
  obtain ⟨⟨r2, S2, V2, w1, ⟨wv, x2, w2, R2, w3, w4⟩, w5⟩, -⟩ := hQ (fun a R2 => a = x ∧ ∃ C2 V2, NVs C2 V2 R2 ∧ va_P D vwCl (ai_w (uN l D ρ τ) C2 V2) T'.heap)
  subst q2
  subst w2
  subst wv
  have ex : x2 = x := by
    have := q1.symm.trans w1
    simp [ai_v] at this
    exact this.symm
  subst ex
  have hv : v = some (.long x2) := by cases q1; rfl
  subst hv
  obtain ⟨t2, a1, b1⟩ := kk x2 T'.heap (locs ++ L) (lw_far hI (by rw [e1]; exact hk) hPM) (lw_S hS (fun k q hq => by obtain ⟨h1, h2⟩ := ai_w_of hq; rw [h2]; exact hI.2.2.2.1 k h1) (by rw [e1]; exact hz) (by rw [e1]; exact hk) hL) (w4 ⟨rfl, S2, V2, w3, by rw [e1]; exact w5⟩) T' rfl X'
  exact ⟨t2, stp t2 a1, b1⟩
/-- the reference's call -/
theorem lw_c2L (hx : p.tables.exec = Jvm.exec) (hb : c.code = code) (hml : c.maxLocals = 4) (hown : s.vm.findClass RL = some m.cls) (hts : ∀ w ∈ lw_tbl, w.before #[Value.ref b] s = true) (hK : cw_K D τ s) (hI : lwD (fun q : Nat => s.heap.size ≤ q) ρ ρ') (cv : ai_Cv RL idx 6 n M6) (hAs : As.map (ai_v ρ') = As) (hn : As.length = n) (hW : (rest.map fun v => v.category).sum ≤ 8) {x : Int64}
    (hF : HFL l D τ ρ ρ' M6 (.ref 0 :: As) R VR x H) (h : decode code pc = .ok (.invokevirtual idx, 3)) (hcs : cells ≤ 600000 ∧ slots ≤ 7302250) (hPM : va_P D vwCl (ai_w (uM l D ρ' τ) R VR) H) (hS : va_S (fun q : Nat => s.heap.size ≤ q) s.heap H locs) (hl : ls.size = 4)
    (kk : ∀ (C2 : ai_S) (V2 : ai_V) (R2 : ai_S) (H1 : Heap) (locs1 : List Loc), NVs C2 V2 R2 → va_P D vwCl (ai_w (uN l D ρ τ) C2 V2) H1 → va_P D vwCl (ai_w (uM l D ρ' τ) R2 VR) H1 → va_S (fun q : Nat => s.heap.size ≤ q) s.heap H1 locs1 → W p l e room_1 s m #[Value.ref b] below meth c H1 locs1 cells slots Q (F0 m (pc + 3) ls (.long x :: rest))) :
    W p l e room_1 s m #[Value.ref b] below meth c H locs cells slots Q (F0 m pc ls (As.reverse ++ .ref (ρ' 0) :: rest)) := by
  have hrun := lw_run (e := e) (below := below) (meth := meth) (locs := locs) (u := uM l D ρ' τ) hx hb hml hown hts (hK.ai) cv rfl hAs hn hW (by omega) (ai_met_all () (fun _ : Unit => hF)) h hPM (fun i j hi hj => hI.2.1 i j hi hj) hl hcs
  intro T hT X
  obtain ⟨v, st₀, t, T', L, h0, X', hL, e1, e2, hQ, stp⟩ := hrun T hT X
  obtain ⟨⟨r, S1, V1, q1, ⟨q0, x1, q2, ⟨q3, C2, V2, q4, q5⟩⟩, q6⟩, hz, hk⟩ := hQ ()
  rw [h0] at hz hk
  subst q2
  subst q3
  subst q0
  have hv : v = some (.long x1) := by cases q1; rfl
  subst hv
  obtain ⟨t2, a1, b1⟩ := kk C2 V2 S1 T'.heap (locs ++ L) q4 (lw_far2 hI (by rw [e1]; exact hk) q5) (by rw [e1]; exact q6) (lw_S hS (fun k q hq => by obtain ⟨h1, h2⟩ := ai_w_of hq; rw [h2]; exact hI.2.2.2.2 k h1) (by rw [e1]; exact hz) (by rw [e1]; exact hk) hL) T' rfl X'
  exact ⟨t2, stp t2 a1, b1⟩
end LWL
/-! ===== the program and the spare one change places ===== -/
def swr (e : (Nat × Nat) ⊕ (Nat × List Nat)) : (Nat × Nat) ⊕ (Nat × List Nat) := match e with
  | .inl a => .inl a
  | .inr q => .inr (q.1, q.2.map (fun t => if t < 2 then t else sw (t - 2) + 2))
theorem sw_lay : ∀ q, q < 32 → layN[sw q]? = (layN[q]?).map swr := by decide +kernel
theorem ai_v_sw (ρ : Nat → Nat) (v : Value) : ai_v (fun q => ρ (sw q)) (swv v) = ai_v ρ v := by
  cases v <;> simp [ai_v, swv, sw_sw]
theorem ai_f_sw (ρ : Nat → Nat) (C : ai_S) (V : ai_V) (q k t : Nat) : ai_f (fun q => ρ (sw q)) (swS C) (swV V) q k t = ai_f ρ C V (sw q) k (if t < 2 then t else sw (t - 2) + 2) := by
  match t with
  | 0 => rfl
  | 1 => simp [ai_f, swV, ai_v_sw]
  | r + 2 => rw [if_neg (by omega)]; rfl
theorem sw_at {l : Launch} {D : va_G} {ρ : Nat → Nat} {τ : Nat → ClassId} {C : ai_S} {V : ai_V} {q : Nat} (hq : q < 32) : (ai_w (uN l D (fun q => ρ (sw q)) τ) (swS C) (swV V))[q]? = (ai_w (uN l D ρ τ) C V)[sw q]? := by
  unfold ai_w uN
  simp only [List.getElem?_mapIdx]
  rw [sw_lay q hq]
  cases he : layN[q]? with
  | none => rfl
  | some e =>
    have hg := fz_good e (List.mem_of_getElem? he)
    simp only [Option.map_some]
    congr 2
    cases e with
    | inl a =>
      simp only [fzg, decide_eq_true_eq] at hg
      simp only [ai_c, swr]
      rw [if_pos hg, if_pos hg]
      rfl
    | inr w =>
      simp only [fzg, Bool.and_eq_true, decide_eq_true_eq, List.all_eq_true] at hg
      simp only [ai_c, swr]
      rw [if_pos hg.1, if_pos hg.1]
      congr 2
      refine List.ext_getElem? (fun k => ?_)
      simp only [List.getElem?_mapIdx, List.getElem?_map, Option.map_map]
      cases w.2[k]? with
      | none => rfl
      | some t => simp only [Option.map_some, Function.comp]; rw [ai_f_sw]
theorem sw_P {l : Launch} {D : va_G} {ρ : Nat → Nat} {τ : Nat → ClassId} {C : ai_S} {V : ai_V} {H : Heap} (h : va_P D vwCl (ai_w (uN l D ρ τ) C V) H) : va_P D vwCl (ai_w (uN l D (fun q => ρ (sw q)) τ) (swS C) (swV V)) H := by
  intro k q hk
  have h1 : k < 32 := (ai_w_of hk).1
  rw [sw_at h1] at hk
  exact h _ q hk
theorem sw_D {A : Nat → Prop} {ρ ρ' : Nat → Nat} (h : lwD A ρ ρ') : lwD A (fun q => ρ (sw q)) ρ' := by
  obtain ⟨h1, h2, h3, h4, h5⟩ := h
  refine ⟨fun i j hi hj hij => ?_, h2, fun i j hi hj => h3 _ _ (sw_lt hi) hj, fun i hi => h4 _ (sw_lt hi), h5⟩
  have e := h1 _ _ (sw_lt hi) (sw_lt hj) hij
  rw [← sw_sw i, e, sw_sw]
