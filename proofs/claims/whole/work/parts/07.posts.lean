/-! ===== ends of methods, and what the walks use ===== -/
def ai_qi (V : ai_V) (G : Int32 → ai_S → Prop) : ai_P := fun r S' V' => V' = V ∧ ∃ x : Int32, r = some (.int x) ∧ G x S'
def ai_ql (V : ai_V) (G : Int64 → ai_S → Prop) : ai_P := fun r S' V' => V' = V ∧ ∃ x : Int64, r = some (.long x) ∧ G x S'
def ai_qz (V : ai_V) (G : Bool → ai_S → Prop) : ai_P := fun r S' V' => V' = V ∧ ∃ b : Bool, r = some (.int (if b = true then 1 else 0)) ∧ G b S'
def ai_qv (V : ai_V) (G : ai_S → Prop) : ai_P := fun r S' V' => V' = V ∧ r = none ∧ G S'
def ai_pi (G : Int32 → ai_S → ai_V → Prop) : ai_P := fun r S' V' => ∃ x : Int32, r = some (.int x) ∧ G x S' V'
section AIP
variable {u : ai_U} {d : Nat} {M : ai_M} {pc : Nat} {lv : List (Nat × Value)} {st : List Value} {S : ai_S} {V : ai_V} {Q : ai_P}
theorem ai_mof {as : List Value} {lv : List (Nat × Value)} (hy : plainName M.1.cls = true) (hl : (lg_sl as).length ≤ M.2.2.1) (hlv : lv_args 0 as = lv) (h : ai_W u d M 0 lv [] S V Q) : ai_met u d M as S V Q := by
  subst hlv
  exact ai_met_of hy hl h
theorem ai_locj {lv' : List (Nat × Value)} (js : List Nat) (hs : js.map (fun j => lv[j]?) = lv'.map some) (k : ai_W u d M pc lv' st S V Q) : ai_W u d M pc lv st S V Q := by
  refine ai_loc lv' (fun q hq => ?_) k
  have h1 : some q ∈ lv'.map some := List.mem_map.mpr ⟨q, hq, rfl⟩
  rw [← hs] at h1
  obtain ⟨j, -, hj⟩ := List.mem_map.mp h1
  exact List.mem_of_getElem? hj
theorem ai_met.mi {as : List Value} {G G' : Int32 → ai_S → Prop} (h : ai_met u d M as S V (ai_qi V G)) (hG : ∀ x S', G x S' → G' x S') : ai_met u d M as S V (ai_qi V G') :=
  h.mono fun _ _ _ ⟨h1, x, h2, h3⟩ => ⟨h1, x, h2, hG _ _ h3⟩
theorem ai_met.ml {as : List Value} {G G' : Int64 → ai_S → Prop} (h : ai_met u d M as S V (ai_ql V G)) (hG : ∀ x S', G x S' → G' x S') : ai_met u d M as S V (ai_ql V G') :=
  h.mono fun _ _ _ ⟨h1, x, h2, h3⟩ => ⟨h1, x, h2, hG _ _ h3⟩
theorem ai_met.mb {as : List Value} {G G' : Bool → ai_S → Prop} (h : ai_met u d M as S V (ai_qz V G)) (hG : ∀ x S', G x S' → G' x S') : ai_met u d M as S V (ai_qz V G') :=
  h.mono fun _ _ _ ⟨h1, x, h2, h3⟩ => ⟨h1, x, h2, hG _ _ h3⟩
theorem ai_met.mz {as : List Value} {A B A' B' : ai_S → Prop} (h : ai_met u d M as S V (ai_qz V (fun b S1 => (b = true → A S1) ∧ (b = false → B S1)))) (hA : ∀ S', A S' → A' S') (hB : ∀ S', B S' → B' S') : ai_met u d M as S V (ai_qz V (fun b S1 => (b = true → A' S1) ∧ (b = false → B' S1))) :=
  h.mb fun _ _ h => ⟨fun e => hA _ (h.1 e), fun e => hB _ (h.2 e)⟩
theorem ai_met.mv {as : List Value} {G G' : ai_S → Prop} (h : ai_met u d M as S V (ai_qv V G)) (hG : ∀ S', G S' → G' S') : ai_met u d M as S V (ai_qv V G') :=
  h.mono fun _ _ _ ⟨h1, h2, h3⟩ => ⟨h1, h2, hG _ h3⟩
theorem ai_met.mp {as : List Value} {G G' : Int32 → ai_S → ai_V → Prop} (h : ai_met u d M as S V (ai_pi G)) (hG : ∀ x S' V', G x S' V' → G' x S' V') : ai_met u d M as S V (ai_pi G') :=
  h.mono fun _ _ _ ⟨x, h2, h3⟩ => ⟨x, h2, hG _ _ _ h3⟩
theorem ai_zt {A B : Prop} (h : A) : (true = true → A) ∧ (true = false → B) := ⟨fun _ => h, fun e => (by cases e)⟩
theorem ai_zf {A B : Prop} (h : B) : (false = true → A) ∧ (false = false → B) := ⟨fun e => (by cases e), fun _ => h⟩
section AICC
variable {M' : ai_M} {idx ci n q : Nat} {ks : List Nat} {As rest : List Value}
theorem ai_callVi (h : decode M.2.1 pc = .ok (.invokevirtual idx, 3)) (cv : ai_Cv M.1.cls idx ci n M') (hq : u.2.2.2.2[q]? = some (.inr (ci, ks))) (hst : st = As.reverse ++ .ref q :: rest) (hn : As.length = n) (hW : (rest.map fun v => v.category).sum ≤ 8)
    (hM : ai_met u d M' (.ref q :: As) S V (ai_qi V (fun x S1 => ai_W u (d + 1) M (pc + 3) lv (.int x :: rest) S1 V Q))) : ai_W u (d + 1) M pc lv st S V Q :=
  ai_callV h cv hq hst hn hW hM (fun r S' V' ⟨h1, x, h2, h3⟩ => by subst h1; subst h2; exact h3)
theorem ai_callVl (h : decode M.2.1 pc = .ok (.invokevirtual idx, 3)) (cv : ai_Cv M.1.cls idx ci n M') (hq : u.2.2.2.2[q]? = some (.inr (ci, ks))) (hst : st = As.reverse ++ .ref q :: rest) (hn : As.length = n) (hW : (rest.map fun v => v.category).sum ≤ 8)
    (hM : ai_met u d M' (.ref q :: As) S V (ai_ql V (fun x S1 => ai_W u (d + 1) M (pc + 3) lv (.long x :: rest) S1 V Q))) : ai_W u (d + 1) M pc lv st S V Q :=
  ai_callV h cv hq hst hn hW hM (fun r S' V' ⟨h1, x, h2, h3⟩ => by subst h1; subst h2; exact h3)
theorem ai_callVp (h : decode M.2.1 pc = .ok (.invokevirtual idx, 3)) (cv : ai_Cv M.1.cls idx ci n M') (hq : u.2.2.2.2[q]? = some (.inr (ci, ks))) (hst : st = As.reverse ++ .ref q :: rest) (hn : As.length = n) (hW : (rest.map fun v => v.category).sum ≤ 8)
    (hM : ai_met u d M' (.ref q :: As) S V (ai_pi (fun x S1 V1 => ai_W u (d + 1) M (pc + 3) lv (.int x :: rest) S1 V1 Q))) : ai_W u (d + 1) M pc lv st S V Q :=
  ai_callV h cv hq hst hn hW hM (fun r S' V' ⟨x, h2, h3⟩ => by subst h2; exact h3)
theorem ai_callVz (h : decode M.2.1 pc = .ok (.invokevirtual idx, 3)) (cv : ai_Cv M.1.cls idx ci n M') (hq : u.2.2.2.2[q]? = some (.inr (ci, ks))) (hst : st = As.reverse ++ .ref q :: rest) (hn : As.length = n) (hW : (rest.map fun v => v.category).sum ≤ 8)
    (hM : ai_met u d M' (.ref q :: As) S V (ai_qz V (fun b S1 => (b = true → ai_W u (d + 1) M (pc + 3) lv (.int 1 :: rest) S1 V Q) ∧ (b = false → ai_W u (d + 1) M (pc + 3) lv (.int 0 :: rest) S1 V Q)))) : ai_W u (d + 1) M pc lv st S V Q :=
  ai_callV h cv hq hst hn hW hM (fun r S' V' ⟨h1, b, h2, h3⟩ => by
    subst h1; subst h2
    cases b with
    | true => exact h3.1 rfl
    | false => exact h3.2 rfl)
theorem ai_callVv (h : decode M.2.1 pc = .ok (.invokevirtual idx, 3)) (cv : ai_Cv M.1.cls idx ci n M') (hq : u.2.2.2.2[q]? = some (.inr (ci, ks))) (hst : st = As.reverse ++ .ref q :: rest) (hn : As.length = n) (hW : (rest.map fun v => v.category).sum ≤ 8)
    (hM : ai_met u d M' (.ref q :: As) S V (ai_qv V (fun S1 => ai_W u (d + 1) M (pc + 3) lv rest S1 V Q))) : ai_W u (d + 1) M pc lv st S V Q :=
  ai_callV h cv hq hst hn hW hM (fun r S' V' ⟨h1, h2, h3⟩ => by subst h1; subst h2; exact h3)
theorem ai_callSi (h : decode M.2.1 pc = .ok (.invokestatic idx, 3)) (cv : ai_Cs M.1.cls idx n M') (hst : st = As.reverse ++ rest) (hn : As.length = n) (hW : (rest.map fun v => v.category).sum ≤ 8)
    (hM : ai_met u d M' As S V (ai_qi V (fun x S1 => ai_W u (d + 1) M (pc + 3) lv (.int x :: rest) S1 V Q))) : ai_W u (d + 1) M pc lv st S V Q :=
  ai_callS h cv hst hn hW hM (fun r S' V' ⟨h1, x, h2, h3⟩ => by subst h1; subst h2; exact h3)
theorem ai_callSz (h : decode M.2.1 pc = .ok (.invokestatic idx, 3)) (cv : ai_Cs M.1.cls idx n M') (hst : st = As.reverse ++ rest) (hn : As.length = n) (hW : (rest.map fun v => v.category).sum ≤ 8)
    (hM : ai_met u d M' As S V (ai_qz V (fun b S1 => (b = true → ai_W u (d + 1) M (pc + 3) lv (.int 1 :: rest) S1 V Q) ∧ (b = false → ai_W u (d + 1) M (pc + 3) lv (.int 0 :: rest) S1 V Q)))) : ai_W u (d + 1) M pc lv st S V Q :=
  ai_callS h cv hst hn hW hM (fun r S' V' ⟨h1, b, h2, h3⟩ => by
    subst h1; subst h2
    cases b with
    | true => exact h3.1 rfl
    | false => exact h3.2 rfl)
end AICC
theorem ai_reti {x : Int32} {G : Int32 → ai_S → Prop} (h : decode M.2.1 pc = .ok (.ireturn, 1)) (hr : M.2.2.2 = some .int) (k : G x S) : ai_W u d M pc lv [.int x] S V (ai_qi V G) := ai_iret h hr rfl ⟨rfl, x, rfl, k⟩
theorem ai_retp {x : Int32} {G : Int32 → ai_S → ai_V → Prop} (h : decode M.2.1 pc = .ok (.ireturn, 1)) (hr : M.2.2.2 = some .int) (k : G x S V) : ai_W u d M pc lv [.int x] S V (ai_pi G) := ai_iret h hr rfl ⟨x, rfl, k⟩
theorem ai_rett {G : Bool → ai_S → Prop} (h : decode M.2.1 pc = .ok (.ireturn, 1)) (hr : M.2.2.2 = some .boolean) (k : G true S) : ai_W u d M pc lv [.int 1] S V (ai_qz V G) := ai_iret h hr rfl ⟨rfl, true, rfl, k⟩
theorem ai_retf {G : Bool → ai_S → Prop} (h : decode M.2.1 pc = .ok (.ireturn, 1)) (hr : M.2.2.2 = some .boolean) (k : G false S) : ai_W u d M pc lv [.int 0] S V (ai_qz V G) := ai_iret h hr rfl ⟨rfl, false, rfl, k⟩
theorem ai_retl {x : Int64} {G : Int64 → ai_S → Prop} (h : decode M.2.1 pc = .ok (.lreturn, 1)) (hr : M.2.2.2 = some .long) (k : G x S) : ai_W u d M pc lv [.long x] S V (ai_ql V G) := ai_lret h hr ⟨rfl, x, rfl, k⟩
theorem ai_retv {G : ai_S → Prop} (h : decode M.2.1 pc = .ok (.return_, 1)) (hr : M.2.2.2 = none) (k : G S) : ai_W u d M pc lv [] S V (ai_qv V G) := ai_vret h hr ⟨rfl, rfl, k⟩
theorem ai_getIx {idx ci k q : Nat} {ks : List Nat} (x : Int32) (h : decode M.2.1 pc = .ok (.getfield idx, 3)) (fd : ai_Fd M.1.cls idx ci k) (hq : u.2.2.2.2[q]? = some (.inr (ci, ks))) (hk : ks[k]? = some 0) (hv : S q k = x) (kk : ai_W u d M (pc + 3) lv (.int x :: st) S V Q) : ai_W u d M pc lv (.ref q :: st) S V Q := by
  subst hv
  exact ai_getI h fd hq hk kk
theorem ai_ialdx {q n : Nat} {i : Int32} (x : Int32) (h : decode M.2.1 pc = .ok (.iaload, 1)) (hq : u.2.2.2.2[q]? = some (.inl (0, n))) (hv : S q i.toNatClampNeg = x) (kk : vp_in i n ∧ ai_W u d M (pc + 1) lv (.int x :: st) S V Q) : ai_W u d M pc lv (.int i :: .ref q :: st) S V Q := by
  subst hv
  exact ai_iald h hq kk
theorem ai_caldx {q n : Nat} {i : Int32} (x : Int32) (h : decode M.2.1 pc = .ok (.caload, 1)) (hq : u.2.2.2.2[q]? = some (.inl (1, n))) (hv : S q i.toNatClampNeg = x) (kk : vp_in i n ∧ ai_W u d M (pc + 1) lv (.int x :: st) S V Q) : ai_W u d M pc lv (.int i :: .ref q :: st) S V Q := by
  subst hv
  exact ai_cald h hq kk
theorem ai_iastx {q n : Nat} {i x : Int32} (k : Nat) (h : decode M.2.1 pc = .ok (.iastore, 1)) (hq : u.2.2.2.2[q]? = some (.inl (0, n))) (hk : i.toNatClampNeg = k) (kk : vp_in i n ∧ ai_W u d M (pc + 1) lv st (ai_up S q k x) V Q) : ai_W u d M pc lv (.int x :: .int i :: .ref q :: st) S V Q := by
  subst hk
  exact ai_iast h hq kk
/-- another name for the top, and for the memory -/
theorem ai_top {x : Int32} (y : Int32) (h : x = y) (k : ai_W u d M pc lv (.int y :: st) S V Q) : ai_W u d M pc lv (.int x :: st) S V Q := h ▸ k
theorem ai_mem (S' : ai_S) (h : S = S') (k : ai_W u d M pc lv st S' V Q) : ai_W u d M pc lv st S V Q := h ▸ k
/-- switches -/
theorem ai_tab {dflt lo hi : Int} {offs : Array Int} {len : Nat} {x : Int32} {off : Int} {tgt : Nat} (c : Int32) (h : decode M.2.1 pc = .ok (.tableswitch dflt lo hi offs, len)) (hx : x = c) (h1 : ¬ c.toInt < lo) (h2 : ¬ hi < c.toInt) (ho : offs[(c.toInt - lo).toNat]? = some off) (ht : (pc : Int) + off = (tgt : Int)) (k : ai_W u d M tgt lv st S V Q) : ai_W u d M pc lv (.int x :: st) S V Q := by
  subst hx
  exact ai_tabIn h h1 h2 ho ht k
theorem ai_swx {x : Int32} {n : Int} (c : Int32) (hc : c.toInt = n) (h : ¬ x = c) : x.toInt ≠ n := fun e => h (Int32.toInt_inj.mp (e.trans hc.symm))
theorem ai_tabD {dflt lo hi : Int} {offs : Array Int} {len : Nat} {x : Int32} {tgt : Nat} (ex : List Int) (h : decode M.2.1 pc = .ok (.tableswitch dflt lo hi offs, len)) (hx : ∀ c ∈ ex, x.toInt ≠ c) (hs : (offs.size : Int) = hi - lo + 1)
    (hc : (List.range offs.size).all (fun i => decide (lo + (i : Int) ∈ ex) || decide (offs[i]? = some dflt)) = true) (ht : (pc : Int) + dflt = (tgt : Int)) (k : ai_W u d M tgt lv st S V Q) : ai_W u d M pc lv (.int x :: st) S V Q := by
  by_cases h1 : x.toInt < lo
  · exact ai_tabOut h (Or.inl h1) ht k
  · by_cases h2 : hi < x.toInt
    · exact ai_tabOut h (Or.inr h2) ht k
    · have h3 : (x.toInt - lo).toNat < offs.size := by omega
      have h4 := List.all_eq_true.mp hc _ (List.mem_range.mpr h3)
      rcases Bool.or_eq_true _ _ ▸ h4 with h5 | h5
      · have h6 := of_decide_eq_true h5
        rw [show lo + (((x.toInt - lo).toNat : Nat) : Int) = x.toInt by omega] at h6
        exact absurd rfl (hx _ h6)
      · exact ai_tabIn h h1 h2 (of_decide_eq_true h5) ht k
theorem ai_look {dflt : Int} {ps : Array (Int × Int)} {len : Nat} {x : Int32} {off : Int} {tgt : Nat} (c : Int32) (h : decode M.2.1 pc = .ok (.lookupswitch dflt ps, len)) (hx : x = c) (hp : (ps.toList.zip (ps.toList.drop 1)).all (fun (a, next) => a.1 < next.1) = true) (ho : Op.lookupswitch.offset ps.toList dflt c.toInt = off) (ht : (pc : Int) + off = (tgt : Int)) (k : ai_W u d M tgt lv st S V Q) : ai_W u d M pc lv (.int x :: st) S V Q := by
  subst hx
  exact ai_lookup h hp ho ht k
def ai_Cx (own : String) (idx : Nat) (y : MethodName) (cc : ByteArray) : Prop := Cond.methodLink own idx y ∈ ai_ws ∧ Cond.static y ∈ ai_ws ∧ Cond.initialized "java/lang/Math" ∈ ai_ws ∧ Cond.code y cc 2 (some .int) ∈ ai_ws
theorem ai_mmax {idx : Nat} {x y : Int32} (h : decode M.2.1 pc = .ok (.invokestatic idx, 3)) (cx : ai_Cx M.1.cls idx Lib.Math.max.name Lib.Math.max.code) (hW : (st.map fun v => v.category).sum ≤ 8) (k : ai_W u (d + 1) M (pc + 3) lv (.int (if x < y then y else x) :: st) S V Q) : ai_W u (d + 1) M pc lv (.int y :: .int x :: st) S V Q := by
  intro p e s m args below meth c A H locs ls X hA hP hD hS hl
  have hW0 : ∀ w, w ∈ ai_ws → w.before args s = true := fun w hw => X.2.2.2.2.2.1 w (List.mem_cons_of_mem _ hw)
  refine va_mmax X.1 X.2.1 (by rw [X.2.2.1, hl.1]) X.2.2.2.2.1 (hW0 _ cx.1) (hW0 _ cx.2.1) (hW0 _ cx.2.2.1) (hW0 _ cx.2.2.2) (by show 1 ≤ d + 1; omega) ?_ (Nat.zero_le _) (Nat.zero_le _) h (k p e s m args below meth c A H locs ls X hA hP hD hS hl)
  rw [ai_cat_map]
  show _ ≤ 45 * (d + 1)
  omega
theorem ai_mmin {idx : Nat} {x y : Int32} (h : decode M.2.1 pc = .ok (.invokestatic idx, 3)) (cx : ai_Cx M.1.cls idx Lib.Math.min.name Lib.Math.min.code) (hW : (st.map fun v => v.category).sum ≤ 8) (k : ai_W u (d + 1) M (pc + 3) lv (.int (if y < x then y else x) :: st) S V Q) : ai_W u (d + 1) M pc lv (.int y :: .int x :: st) S V Q := by
  intro p e s m args below meth c A H locs ls X hA hP hD hS hl
  have hW0 : ∀ w, w ∈ ai_ws → w.before args s = true := fun w hw => X.2.2.2.2.2.1 w (List.mem_cons_of_mem _ hw)
  refine va_mmin X.1 X.2.1 (by rw [X.2.2.1, hl.1]) X.2.2.2.2.1 (hW0 _ cx.1) (hW0 _ cx.2.1) (hW0 _ cx.2.2.1) (hW0 _ cx.2.2.2) (by show 1 ≤ d + 1; omega) ?_ (Nat.zero_le _) (Nat.zero_le _) h (k p e s m args below meth c A H locs ls X hA hP hD hS hl)
  rw [ai_cat_map]
  show _ ≤ 45 * (d + 1)
  omega
end AIP
