/-! ===== the reader's world within the class's ===== -/
def fzq (q : Nat) : Bool := q == 0 || q == 1 || (9 ≤ q && q ≤ 25)
def fzm (e : (Nat × Nat) ⊕ (Nat × List Nat)) : (Nat × Nat) ⊕ (Nat × List Nat) := match e with
  | .inl a => .inl (a.1 + 10, a.2)
  | .inr o => .inr (o.1 + 10, o.2)
def fzg (e : (Nat × Nat) ⊕ (Nat × List Nat)) : Bool := match e with
  | .inl a => a.1 < 10
  | .inr o => o.1 < 10 && o.2.all (fun t => t < 34)
theorem fz_lay : layC = layN.mapIdx (fun q e => if fzq q = true then fzm e else e) := by decide +kernel
theorem fz_good : ∀ e ∈ layN, fzg e = true := by decide +kernel
theorem fz_len : layN.length = 32 := rfl
/-- addresses that tell the cells' contents -/
def fzr (ρ : Nat → Nat) (S : ai_S) (V : ai_V) : Nat → Nat := fun m => if m < 32 then ρ m else if m % 2 = 0 then (S ((m - 32) / 2 % 32) ((m - 32) / 2 / 32)).toBitVec.toNat else match V ((m - 33) / 2 % 32) ((m - 33) / 2 / 32) with
  | .ref a => a + 1
  | _ => 0
def vz (v : Value) : Prop := v = .null ∨ ∃ a : Nat, a < 32 ∧ v = .ref a
section FZ
variable {l : Launch} {D : va_G} {ρ : Nat → Nat} {τ : Nat → ClassId} {S S' : ai_S} {V V1 : ai_V}
theorem fzr_lo {m : Nat} (h : m < 32) : fzr ρ S V m = ρ m := by unfold fzr; rw [if_pos h]
theorem fz_i32 (x : Int32) : Int32.ofNat x.toBitVec.toNat = x := by
  apply Int32.toBitVec_inj.mp
  simp
theorem fzr_S {q : Nat} (h : q < 32) : ai_zS (fzr ρ S V) q = S q := by
  funext k
  have e1 : (32 + 2 * (q + 32 * k) - 32) / 2 = q + 32 * k := by omega
  have e2 : (q + 32 * k) % 32 = q := by omega
  have e3 : (q + 32 * k) / 32 = k := by omega
  unfold ai_zS fzr
  rw [if_neg (by omega), if_pos (by omega), e1, e2, e3, fz_i32]
theorem fzr_V {q k : Nat} (h : q < 32) (hv : vz (V q k)) : ai_zV (fzr ρ S V) q k = V q k := by
  have e1 : (33 + 2 * (q + 32 * k) - 33) / 2 = q + 32 * k := by omega
  have e2 : (q + 32 * k) % 32 = q := by omega
  have e3 : (q + 32 * k) / 32 = k := by omega
  have e : fzr ρ S V (33 + 2 * (q + 32 * k)) = (match V q k with | .ref a => a + 1 | _ => 0) := by
    unfold fzr
    rw [if_neg (by omega), if_neg (by omega), e1, e2, e3]
  unfold ai_zV
  rw [e]
  rcases hv with hv | ⟨a, _, hv⟩ <;> rw [hv]
theorem fz_v {v : Value} (hv : vz v) : ai_v (fzr ρ S V) v = ai_v ρ v := by
  rcases hv with hv | ⟨a, ha, hv⟩ <;> rw [hv]
  · rfl
  · show Value.ref _ = Value.ref _
    rw [fzr_lo ha]
def mrgS (S S' : ai_S) : ai_S := fun q => if fzq q = true then S q else S' q
def mrgV (V V' : ai_V) : ai_V := fun q => if fzq q = true then V q else V' q
theorem fz_f {q k t : Nat} {X Y : ai_S} {U W : ai_V} (hX : X q = Y q) (hU : U q k = W q k) (hv : vz (W q k)) (ht : t < 34) : ai_f (fzr ρ S V) X U q k t = ai_f ρ Y W q k t := by
  match t with
  | 0 => simp [ai_f, hX]
  | 1 => simp [ai_f, hU, fz_v hv]
  | r + 2 => simp [ai_f, fzr_lo (show r < 32 by omega)]
theorem fz_w (hV : ∀ q k, vz (V q k)) (hV1 : ∀ q k, vz (V1 q k)) : ai_w (uC l D (fzr ρ S V) τ) S' V1 = ai_w (uN l D ρ τ) (mrgS S S') (mrgV V V1) := by
  unfold ai_w uC uN
  dsimp only
  rw [fz_lay]
  refine List.ext_getElem? (fun q => ?_)
  simp only [List.getElem?_mapIdx, Option.map_map]
  cases he : layN[q]? with
  | none => rfl
  | some e =>
    have hq : q < 32 := by have := (List.getElem?_eq_some_iff.mp he).1; rw [fz_len] at this; exact this
    have hg := fz_good e (List.mem_of_getElem? he)
    simp only [Option.map_some, Function.comp]
    rw [fzr_lo hq]
    congr 2
    have hmap : ∀ (ks : List Nat) (X Y : ai_S) (U W : ai_V), (∀ t ∈ ks, t < 34) → X q = Y q → (∀ k, U q k = W q k) → (∀ k, vz (W q k)) → ks.mapIdx (fun k t => ai_f (fzr ρ S V) X U q k t) = ks.mapIdx (fun k t => ai_f ρ Y W q k t) := by
      intro ks X Y U W h1 h2 h3 h4
      refine List.ext_getElem? (fun k => ?_)
      simp only [List.getElem?_mapIdx]
      cases hk : ks[k]? with
      | none => rfl
      | some t => simp only [Option.map_some]; rw [fz_f h2 (h3 k) (h4 k) (h1 t (List.mem_of_getElem? hk))]
    by_cases hz : fzq q = true
    · rw [if_pos hz]
      cases e with
      | inl a =>
        simp only [fzg, decide_eq_true_eq] at hg
        show ai_c _ _ _ _ _ (Sum.inl (a.1 + 10, a.2)) = _
        simp only [ai_c]
        rw [if_neg (by omega), if_pos hg, fzr_S hq, Nat.add_sub_cancel]
        unfold mrgS
        rw [if_pos hz]
      | inr o =>
        simp only [fzg, Bool.and_eq_true, decide_eq_true_eq, List.all_eq_true] at hg
        show ai_c _ _ _ _ _ (Sum.inr (o.1 + 10, o.2)) = _
        simp only [ai_c]
        rw [if_neg (by omega), if_pos hg.1, Nat.add_sub_cancel]
        rw [hmap o.2 _ (mrgS S S') _ (mrgV V V1) (fun t ht => by simpa using hg.2 t ht) ?_ ?_ ?_]
        · rw [fzr_S hq]; unfold mrgS; rw [if_pos hz]
        · intro k; rw [fzr_V hq (hV q k)]; unfold mrgV; rw [if_pos hz]
        · intro k; unfold mrgV; rw [if_pos hz]; exact hV q k
    · rw [if_neg hz]
      cases e with
      | inl a =>
        simp only [fzg, decide_eq_true_eq] at hg
        simp only [ai_c]
        rw [if_pos hg, if_pos hg]
        unfold mrgS
        rw [if_neg hz]
      | inr o =>
        simp only [fzg, Bool.and_eq_true, decide_eq_true_eq, List.all_eq_true] at hg
        simp only [ai_c]
        rw [if_pos hg.1, if_pos hg.1]
        rw [hmap o.2 _ (mrgS S S') _ (mrgV V V1) (fun t ht => by simpa using hg.2 t ht) ?_ ?_ ?_]
        · unfold mrgS; rw [if_neg hz]
        · intro k; unfold mrgV; rw [if_neg hz]
        · intro k; unfold mrgV; rw [if_neg hz]; exact hV1 q k
theorem mrg_self : mrgS S S = S := by funext q; unfold mrgS; split <;> rfl
theorem mrgV_self : mrgV V V = V := by funext q; unfold mrgV; split <;> rfl
theorem met_conv {y : MethodName} {ws : List Cond} {rm : Room} {Pc Pc' : Array Value → State → Prop} {Qc Qc' : Array Value → State → Outcome → State → Prop} {mc ms : Nat} {free : Addr → Prop} (hP : ∀ a s, Pc' a s → Pc a s) (hQ : ∀ a st o t, Qc a st o t → Qc' a st o t) (h : Met l y ws rm Pc Qc mc ms free) : Met l y ws rm Pc' Qc' mc ms free := by
  intro p e h1 h2 h3 s m args below hf hs hP' hK
  obtain ⟨n, o, w1, w2, w3, w4⟩ := h p e h1 h2 h3 s m args below hf hs (hP _ _ hP') hK
  exact ⟨n, o, w1, w2, w3, hQ _ _ _ _ w4.1, w4.2⟩
theorem fz_D {A : Nat → Prop} (h : ai_D (uN l D ρ τ) (fun _ => True)) : ai_D (uC l D (fzr ρ S V) τ) (fun _ => True) := by
  refine ⟨fun i j hi hj hij => ?_, fun _ _ => trivial⟩
  have hi' : i < 32 := hi
  have hj' : j < 32 := hj
  have hij' : fzr ρ S V i = fzr ρ S V j := hij
  rw [fzr_lo hi', fzr_lo hj'] at hij'
  exact h.1 i j hi' hj' hij'
/-- a method of the reader, called from the class -/
theorem ai_br {d : Nat} {M : ai_M} {as : List Value} {G : Int32 → ai_S → Prop} (hs : ∀ v ∈ as, vz v ∨ ∃ x : Int32, v = .int x) (hV : ∀ q k, vz (V q k)) (hV1 : ∀ q k, vz (V1 q k)) (h : ai_met (uC l D (fzr ρ S V) τ) d M as S V (ai_pi (fun x S' V' => V' = V1 ∧ G x S'))) : ai_met (uN l D ρ τ) d M as S V (ai_pi (fun x S2 V2 => V2 = mrgV V V1 ∧ ∃ S', S2 = mrgS S S' ∧ G x S')) := by
  have e0 : ai_w (uC l D (fzr ρ S V) τ) S V = ai_w (uN l D ρ τ) S V := by
    have := fz_w (l := l) (D := D) (ρ := ρ) (τ := τ) (S := S) (S' := S) hV hV
    rw [mrg_self, mrgV_self] at this
    exact this
  have ea : as.map (ai_v (fzr ρ S V)) = as.map (ai_v ρ) := List.map_congr_left (fun v hv => by
    rcases hs v hv with h1 | ⟨x, h1⟩
    · exact fz_v h1
    · rw [h1]; rfl)
  intro sz
  have h1 := h sz
  rw [e0] at h1
  refine met_conv (fun a s hp => ?_) (fun a st o t hq => ?_) h1
  · obtain ⟨p0, p1, p2, p3, p4⟩ := hp
    refine ⟨?_, p1, ?_, p3, fz_D (A := fun _ => True) p4⟩
    · rw [show as.map (ai_v (uC l D (fzr ρ S V) τ).2.2.1) = as.map (ai_v (uN l D ρ τ).2.2.1) from ea]; exact p0
    · rw [e0]; exact p2
  · obtain ⟨⟨r, S', V', q1, ⟨x, q2, q3, q4⟩, q5⟩, q6⟩ := hq
    subst q3
    refine ⟨⟨r, mrgS S S', mrgV V V', ?_, ⟨x, q2, rfl, S', rfl, q4⟩, ?_⟩, q6⟩
    · rw [q1, q2]; rfl
    · rw [← fz_w (l := l) (D := D) (ρ := ρ) (τ := τ) hV hV1]; exact q5
end FZ
