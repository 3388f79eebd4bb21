/-! ===== a method's end is one: contracts with the same beginning hold together ===== -/
theorem met_all {ι : Type} (i0 : ι) {l : Launch} {y : MethodName} {ws : List Cond} {rm : Room} {Pc : Array Value → State → Prop} {Qc : ι → Array Value → State → Outcome → State → Prop} {mc ms : Nat} {free : Addr → Prop} (h : ∀ i, Met l y ws rm Pc (Qc i) mc ms free) : Met l y ws rm Pc (fun a st o t => ∀ i, Qc i a st o t) mc ms free := by
  intro p e h1 h2 h3 s m args below hf hs hP hK
  obtain ⟨n, o, w1, w2, w3, w4⟩ := h i0 p e h1 h2 h3 s m args below hf hs hP hK
  refine ⟨n, o, w1, w2, w3, fun i => ?_, w4.2⟩
  obtain ⟨n', o', v1, v2, v3, v4⟩ := h i p e h1 h2 h3 s m args below hf hs hP hK
  have hn : n' = n := by
    rcases Nat.lt_trichotomy n' n with hlt | heq | hlt
    · exact absurd (w1 n' hlt) v3.not_within
    · exact heq
    · exact absurd (v1 n hlt) w3.not_within
  subst hn
  have ho := Ended.outcome_unique v3 w3
  subst ho
  exact v4.1
/-- contracts of one method, taken together -/
def ai_metA {ι : Type} (u : ai_U) (d : Nat) (M : ai_M) (as : List Value) (S : ai_S) (V : ai_V) (Q : ι → ai_P) : Prop :=
  ∀ sz : Nat, Met u.1 M.1 (Cond.code M.1 M.2.1 M.2.2.1 M.2.2.2 :: ai_ws) (ai_rm d) (ai_Pc u as sz S V) (fun a st o t => ∀ i, ai_Q u (va_A (ai_w u S V) sz) (Q i) a st o t) 0 0 (va_A (ai_w u S V) sz)
theorem ai_met_all {ι : Type} (i0 : ι) {u : ai_U} {d : Nat} {M : ai_M} {as : List Value} {S : ai_S} {V : ai_V} {Q : ι → ai_P} (h : ∀ i, ai_met u d M as S V (Q i)) : ai_metA u d M as S V Q := fun sz => met_all i0 (fun i => h i sz)
/-- what lies beyond the layout doesn't matter -/
theorem ai_c_cong {ρ : Nat → Nat} {τ : Nat → ClassId} {S S' : ai_S} {V : ai_V} {q : Nat} {e : (Nat × Nat) ⊕ (Nat × List Nat)} (h : S' q = S q) : ai_c ρ τ S' V q e = ai_c ρ τ S V q e := by
  unfold ai_c
  cases e with
  | inl a => simp only [h]
  | inr a =>
    have e1 : (fun k t => ai_f ρ S' V q k t) = (fun k t => ai_f ρ S V q k t) := by
      funext k t
      unfold ai_f
      rw [h]
    simp only [e1]
theorem ai_w_cong {u : ai_U} {S S' : ai_S} {V : ai_V} (h : ∀ q, q < u.2.2.2.2.length → S' q = S q) : ai_w u S' V = ai_w u S V := by
  unfold ai_w
  refine List.ext_getElem? (fun q => ?_)
  simp only [List.getElem?_mapIdx]
  cases he : u.2.2.2.2[q]? with
  | none => rfl
  | some e =>
    have hq : q < u.2.2.2.2.length := (List.getElem?_eq_some_iff.mp he).1
    simp only [Option.map_some, ai_c_cong (h q hq)]
theorem ai_W_cong {u : ai_U} {d : Nat} {M : ai_M} {pc : Nat} {lv : List (Nat × Value)} {st : List Value} {S S' : ai_S} {V : ai_V} {Q : ai_P} (h : ∀ q, q < u.2.2.2.2.length → S' q = S q) (k : ai_W u d M pc lv st S' V Q) : ai_W u d M pc lv st S V Q := by
  have e := ai_w_cong (V := V) h
  unfold ai_W at k ⊢
  rw [e] at k
  exact k
