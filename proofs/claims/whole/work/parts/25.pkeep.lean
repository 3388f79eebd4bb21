/-! ===== what stays, step by step ===== -/
section PK
variable {C C1 C2 C' R R1 R2 R' : ai_S} {e e1 b t hf nn nn1 n m ns pr vr p p' p1 p1' : Nat} {tx : Nat → Int32} {sc : sc_T} {SC : Nat → sc_T} {stk stk1 : List mf_T}
theorem cE.u2 (h : cE C C1 e) (j : Nat) (x : Int32) (hj : j ≠ 1) : cE C (ai_up C1 2 j x) e :=
  ⟨fun q a c => by rw [ai_up_o a]; exact h.1 q a c, by rw [ai_up_n (by omega)]; exact h.2.1, fun j' a c => by rw [ai_up_n (by omega)]; exact h.2.2.1 j' a c, fun q a c i hi => by rw [ai_up_n (by omega)]; exact h.2.2.2 q a c i hi⟩
theorem cE.u26 (h : cE C C1 e) (j : Nat) (x : Int32) (hj : j = 3 ∨ j = 9) : cE C (ai_up C1 26 j x) e :=
  ⟨fun q a c => by rw [ai_up_o (by omega)]; exact h.1 q a c, by rw [ai_up_n (by omega)]; exact h.2.1, fun j' a c => by rw [ai_up_n (by omega)]; exact h.2.2.1 j' a c, fun q a c i hi => by rw [ai_up_n (by omega)]; exact h.2.2.2 q a c i hi⟩
theorem cE.uK (h : cE C C1 e) (q i : Nat) (x : Int32) (h1 : 27 ≤ q) (h2 : q ≤ 29) (hi : e ≤ i) : cE C (ai_up C1 q i x) e :=
  ⟨fun q' a c => by rw [ai_up_o (by omega)]; exact h.1 q' a c, by rw [ai_up_n (by omega)]; exact h.2.1, fun j' a c => by rw [ai_up_n (by omega)]; exact h.2.2.1 j' a c, fun q' a c i' hi' => by rw [ai_up_n (by omega)]; exact h.2.2.2 q' a c i' hi'⟩
theorem cE.add (h : cE C C1 e) (h1 : e ≤ e1) (o a b : Int32) : cE C (cadd C1 e1 o a b) e :=
  (((h.uK 27 e1 o (by omega) (by omega) h1).uK 28 e1 a (by omega) (by omega) h1).uK 29 e1 b (by omega) (by omega) h1).u26 3 _ (Or.inl rfl)
theorem mE.u0 (h : mE R R1 b t) (j : Nat) (x : Int32) (hj : j = 2 ∨ j = 15 ∨ j = 19 ∨ j = 20 ∨ j = 24 ∨ j = 30 ∨ j = 31) : mE R (ai_up R1 0 j x) b t :=
  ⟨by rw [ai_up_o (by omega)]; exact h.1, fun q a c => by rw [ai_up_o (by omega)]; exact h.2.1 q a c, fun j' a1 a2 a3 a4 a5 a6 a7 => by rw [ai_up_n (by omega)]; exact h.2.2.1 j' a1 a2 a3 a4 a5 a6 a7, fun q a c i hi => by rw [ai_up_n (by omega)]; exact h.2.2.2 q a c i hi⟩
theorem mE.uN (h : mE R R1 b t) (q i : Nat) (x : Int32) (h1 : 2 ≤ q) (h2 : q ≤ 8) (hi : b < i) (hi2 : i < t) : mE R (ai_up R1 q i x) b t :=
  ⟨by rw [ai_up_o (by omega)]; exact h.1, fun q' a c => by rw [ai_up_o (by omega)]; exact h.2.1 q' a c, fun j' a1 a2 a3 a4 a5 a6 a7 => by rw [ai_up_n (by omega)]; exact h.2.2.1 j' a1 a2 a3 a4 a5 a6 a7, fun q' a c i' hi' => by rw [ai_up_n (by omega)]; exact h.2.2.2 q' a c i' hi'⟩
theorem mE.uF (h : mE R R1 b t) (q i : Nat) (x : Int32) (h1 : 13 ≤ q) (h2 : q ≤ 17) : mE R (ai_up R1 q i x) b t :=
  ⟨by rw [ai_up_o (by omega)]; exact h.1, fun q' a c => by rw [ai_up_o (by omega)]; exact h.2.1 q' a c, fun j' a1 a2 a3 a4 a5 a6 a7 => by rw [ai_up_n (by omega)]; exact h.2.2.1 j' a1 a2 a3 a4 a5 a6 a7, fun q' a c i' hi' => by rw [ai_up_n (by omega)]; exact h.2.2.2 q' a c i' hi'⟩
theorem mE.push (h : mE R R1 b t) (f : Nat) (c dp : Int32) : mE R (mpush R1 f c dp) b t :=
  (((((h.uF 13 f c (by omega) (by omega)).uF 14 f 0 (by omega) (by omega)).uF 15 f dp (by omega) (by omega)).uF 16 f 0 (by omega) (by omega)).uF 17 f 0 (by omega) (by omega)).u0 30 _ (by omega)
theorem mE.fresh (h : mE R R1 b t) (q : Nat) (ty : Int32) (hi : b < q) (hi2 : q < t) : mE R (mfresh R1 q ty) b t :=
  (((((h.u0 15 _ (by omega)).uN 2 q ty (by omega) (by omega) hi hi2).uN 3 q 0 (by omega) (by omega) hi hi2).uN 4 q 0 (by omega) (by omega) hi hi2).uN 5 q 0 (by omega) (by omega) hi hi2).uN 8 q 0 (by omega) (by omega) hi hi2
/-- the stack -/
theorem mf_push (h : mf_l R stk) (c dp : Nat) : mf (mpush R stk.length (nI c) (nI dp)) ((c, 0, dp, 0, 0) :: stk) := by
  refine ⟨by simp [mpush, ai_up_s], ⟨⟨?_, ?_, ?_, ?_, ?_⟩, mf_l_keep stk (fun q h1 h2 i hi => ?_) h⟩⟩
  · simp [mpush, ai_up_eq]
  · simp [mpush, ai_up_eq]; rfl
  · simp [mpush, ai_up_eq]
  · simp [mpush, ai_up_eq]; rfl
  · simp [mpush, ai_up_eq]; rfl
  · unfold mpush
    rw [ai_up_n (by omega), ai_up_n (by omega), ai_up_n (by omega), ai_up_n (by omega), ai_up_n (by omega), ai_up_n (by omega)]
theorem mf_l_o (h : mf_l R stk) (q i : Nat) (x : Int32) (hq : q < 13 ∨ 17 < q ∨ stk.length ≤ i) : mf_l (ai_up R q i x) stk :=
  mf_l_keep stk (fun q' h1 h2 i' hi' => ai_up_n (by omega)) h
theorem mf_o (h : mf R stk) (q i : Nat) (x : Int32) (hq : q < 13 ∨ 17 < q) (h0 : ¬ (q = 0 ∧ i = 30)) : mf (ai_up R q i x) stk :=
  ⟨by rw [ai_up_n (by omega)]; exact h.1, mf_l_o h.2 q i x (by omega)⟩
theorem mf_top {x : mf_T} (h : mf R (x :: stk)) : mf_at R stk.length x ∧ mf_l R stk ∧ R 0 30 = nI (stk.length + 1) := ⟨h.2.1, h.2.2, by simpa using h.1⟩
theorem mf_pop {x : mf_T} {y : Int32} (h : mf_l R (x :: stk)) : mf (ai_up (ai_up R 0 31 y) 0 30 (nI stk.length)) stk :=
  ⟨ai_up_s, mf_l_o (mf_l_o h.2 0 31 y (by omega)) 0 30 _ (by omega)⟩
theorem mf_l_fresh (h : mf_l R stk) (q : Nat) (ty : Int32) : mf_l (mfresh R q ty) stk := by
  unfold mfresh
  exact mf_l_o (mf_l_o (mf_l_o (mf_l_o (mf_l_o (mf_l_o h 0 15 _ (by omega)) 2 q _ (by omega)) 3 q _ (by omega)) 4 q _ (by omega)) 5 q _ (by omega)) 8 q _ (by omega)
/-- the names that hold stay -/
theorem sp_keep (h : sp C R hf sc SC m ns pr vr) (hc : cE C C' e) (hm : mE R R' b t) (hg : ∀ x ∈ sc, x.1 = 0 → x.2.2 ≤ b) : sp C' R' hf sc SC m ns pr vr := by
  obtain ⟨h1, h2, h3, h4, h5, h6, h7, h8, h9, h10, h11, h12, h13, h14, h15, h15a, h15b, h16, h17, h18⟩ := h
  have c3 : C' 3 = C 3 := hc.1 3 (by omega) (by omega)
  have hR5 : ∀ x ∈ sc, x.1 = 0 → R' 5 x.2.2 = R 5 x.2.2 := fun x hx h0 => hm.2.2.2 5 (by omega) (by omega) _ (Or.inl (hg x hx h0))
  have hag : sc_ag R R' (16 * hf) SC SC sc := by
    refine ⟨fun x hx => ⟨fun h0 cnt hcl hc' => ⟨cnt, (hR5 x hx h0).trans hc', Nat.le_refl _, hcl⟩, fun _ => ⟨by rw [hm.2.1 10 (by omega) (by omega)], by rw [hm.2.1 11 (by omega) (by omega)]⟩⟩, fun _ _ => rfl⟩
  refine ⟨by rw [c3]; exact h1, by rw [hm.2.2.1 36 (by omega) (by omega) (by omega) (by omega) (by omega) (by omega) (by omega)]; exact h2, by rw [c3]; exact h3, by rw [hm.2.2.1 37 (by omega) (by omega) (by omega) (by omega) (by omega) (by omega) (by omega)]; exact h4, by rw [c3]; exact h5, by rw [hc.2.2.1 6 (by omega) (by omega)]; exact h6, by rw [hm.2.2.1 21 (by omega) (by omega) (by omega) (by omega) (by omega) (by omega) (by omega)]; exact h7, by rw [hc.2.2.1 7 (by omega) (by omega)]; exact h8, by rw [hm.2.2.1 22 (by omega) (by omega) (by omega) (by omega) (by omega) (by omega) (by omega)]; exact h9, h10, h11, h12, h13, h14, ?_, h15a, h15b, fun i hi => ?_, fun o x hx hx0 => ?_, h18⟩
  · refine sc_tp_mono ?_ h15
    cases sc with
    | nil => trivial
    | cons x tl => exact fun h0 => hR5 x List.mem_cons_self h0
  · obtain ⟨g1, o, x, g2, g3, g4, g5⟩ := h16 i hi
    refine ⟨?_, o, x, g2, ?_, ?_, ?_⟩
    · rw [hc.1 4 (by omega) (by omega), hm.2.1 18 (by omega) (by omega)]; exact g1
    · rw [hm.2.1 21 (by omega) (by omega)]; exact g3
    · rw [hc.1 6 (by omega) (by omega)]; exact g4
    · rw [hc.1 5 (by omega) (by omega), hc.1 7 (by omega) (by omega), hm.2.1 19 (by omega) (by omega), hm.2.1 20 (by omega) (by omega)]
      exact sy_k_mono hag g2 g5
  · rw [hc.1 8 (by omega) (by omega)]
    exact h17 o x hx hx0
theorem mq_of (h : mq R tx n hf p' nn stk) (hm : mE R R' b t) (h2 : R' 0 2 = nI p1') (hp : p1' ≤ n) (h15 : R' 0 15 = nI (350 * hf + nn1)) (hs : mf R' stk1) (hw : R' 0 19 = 0) (hbt : 350 * hf ≤ b ∧ t ≤ 350 * hf + 350) : mq R' tx n hf p1' nn1 stk1 := by
  obtain ⟨⟨a1, a2, a3⟩, b1, b2, b3, b4, b5, b6, b7⟩ := h
  exact ⟨⟨by rw [hm.2.2.1 1 (by omega) (by omega) (by omega) (by omega) (by omega) (by omega) (by omega)]; exact a1, a2, fun i hi => by rw [hm.1]; exact a3 i hi⟩, h2, hp, by rw [hm.2.2.1 14 (by omega) (by omega) (by omega) (by omega) (by omega) (by omega) (by omega)]; exact b3, ⟨b4.1, b4.2.me hm hbt.1 hbt.2⟩, h15, hs, hw⟩
theorem ct_of (h : ct_T C tx n) (hc : cE C C' e) : ct_T C' tx n := ⟨hc.2.1.trans h.1, h.2.1, fun i hi => by rw [hc.1 1 (by omega) (by omega)]; exact h.2.2 i hi⟩
theorem pv_ofb (h : pv C R tx n hf sc SC m ns pr vr p p' e nn stk) (hgb : ∀ x ∈ sc, x.1 = 0 → x.2.2 ≤ b) (hc : cE C C' e) (hm : mE R R' b t) (hp : C' 2 2 = nI p1) (hpn : p1 ≤ n) (he : C' 26 3 = nI e1) (h2 : R' 0 2 = nI p1') (hp2 : p1' ≤ n) (h15 : R' 0 15 = nI (350 * hf + nn1)) (hs : mf R' stk1) (hw : R' 0 19 = 0) (hsk : px_s tx n p1 = px_s tx n p1') (h9 : C' 26 9 = R' 0 24) (hb : C' 2 5 = 1 ∧ R' 0 20 = 0 ∨ C' 2 5 = 0 ∧ R' 0 20 = 1) (hn1 : nn ≤ nn1) (hn2 : nn1 ≤ 330) (hbt : 350 * hf ≤ b ∧ t ≤ 350 * hf + 350 := by omega) : pv C' R' tx n hf sc SC m ns pr vr p1 p1' e1 nn1 stk1 := by
  obtain ⟨a1, a2, a3, a4, a5, a6, a7, a8, a9, a10, a11, a12⟩ := h
  refine ⟨ct_of a1 hc, hp, hpn, he, mq_of a5 hm h2 hp2 h15 hs hw hbt, hsk, ?_, h9, hb, sp_keep a10 hc hm hgb, fun x hx h0 => ?_, hn2⟩
  · rw [hc.2.2.1 8 (by omega) (by omega), hm.2.2.1 23 (by omega) (by omega) (by omega) (by omega) (by omega) (by omega) (by omega)]; exact a7
  · have := a11 x hx h0
    omega
theorem pv_of (h : pv C R tx n hf sc SC m ns pr vr p p' e nn stk) (hc : cE C C' e) (hm : mE R R' (350 * hf + nn) t) (hp : C' 2 2 = nI p1) (hpn : p1 ≤ n) (he : C' 26 3 = nI e1) (h2 : R' 0 2 = nI p1') (hp2 : p1' ≤ n) (h15 : R' 0 15 = nI (350 * hf + nn1)) (hs : mf R' stk1) (hw : R' 0 19 = 0) (hsk : px_s tx n p1 = px_s tx n p1') (h9 : C' 26 9 = R' 0 24) (hb : C' 2 5 = 1 ∧ R' 0 20 = 0 ∨ C' 2 5 = 0 ∧ R' 0 20 = 1) (hn1 : nn ≤ nn1) (hn2 : nn1 ≤ 330) (hbt : t ≤ 350 * hf + 350 := by omega) : pv C' R' tx n hf sc SC m ns pr vr p1 p1' e1 nn1 stk1 :=
  pv_ofb h h.2.2.2.2.2.2.2.2.2.2.1 hc hm hp hpn he h2 hp2 h15 hs hw hsk h9 hb hn1 hn2 ⟨by omega, hbt⟩
theorem px_cc {tx : Nat → Int32} {n q : Nat} {c : Int32} (h0 : c ≠ 0) (h1 : c ≠ -1) : px_c tx n 0 q = c ↔ px_c tx n (-1) q = c := by
  unfold px_c
  split
  · rfl
  · exact ⟨fun h => absurd h.symm h0, fun h => absurd h.symm h1⟩
theorem px_lt {tx : Nat → Int32} {n q : Nat} {d c : Int32} (h : px_c tx n d q = c) (h0 : c ≠ d) : q < n := by
  unfold px_c at h
  split at h
  · assumption
  · exact absurd h.symm h0
section PGT
variable {l : Launch} {D : va_G} {ρ : Nat → Nat} {τ : Nat → ClassId} {d : Nat} {V : ai_V} {G : Bool → ai_S → Prop}
/-- at a digit: nothing but a digit is there -/
theorem pg_take (hV0 : hV ρ V tx n) {c : Int32} {q0 el : Nat} (h : pg C tx n q0 el) (hc : c < 48 ∨ 57 < c) (hG : pg C tx n q0 el → G false C) : ai_met (uC l D ρ τ) (d + 1) mX3_take [.ref 2, .int c] C V (ai_qz V G) := by
  obtain ⟨hT, q, e9, hq, hp, h1, h2, -⟩ := id h
  have hns : ¬ (tx q = 32 ∨ tx q = 10) := by
    rintro (e | e) <;> rw [e] at h1 <;> exact absurd h1 (by decide)
  have hsk : px_s tx n q = q := px_s_no hns
  refine sp_take hV0 hT hp (by omega) (fun h3 => ?_) (fun _ => ?_)
  · rw [hsk, px_c, if_pos hq] at h3
    rw [h3] at h1 h2
    rcases hc with hc | hc
    · exact absurd hc (Int32.not_lt.mpr h1)
    · exact absurd hc (Int32.not_lt.mpr h2)
  · rw [hsk, ai_up_self hp]
    exact hG h
/-- one more instruction there -/
theorem pg_add {Gi : Int32 → ai_S → Prop} {q0 el : Nat} {o a b : Int32} (h : pg C tx n (q0 + 1) el) (hG : ∀ C', pg C' tx n q0 el → ∀ x, Gi x C') : ai_met (uC l D ρ τ) d mX2_add [.ref 26, .int o, .int a, .int b] C V (ai_qi V Gi) := by
  obtain ⟨hT, q, e9, hq, hp, h1, h2, h3, h4, h5⟩ := h
  refine sp_cadd h3 (by omega) (hG _ ⟨⟨?_, hT.2.1, fun i hi => ?_⟩, q, e9 + 1, hq, ?_, h1, h2, ?_, by omega, by omega⟩ _)
  · simp [cadd, ai_up_eq]; exact hT.1
  · simp [cadd, ai_up_eq]; exact hT.2.2 i hi
  · simp [cadd, ai_up_eq]; exact hp
  · simp [cadd, ai_up_eq]
end PGT
theorem pg.le {q q1 el el1 : Nat} (h : pg C tx n q el) (hq : q1 ≤ q) (hel : el1 ≤ el) : pg C tx n q1 el1 := by
  obtain ⟨hT, q, e9, h0, hp, h1, h2, h3, h4, h5⟩ := h
  exact ⟨hT, q, e9, h0, hp, h1, h2, h3, by omega, by omega⟩
end PK
