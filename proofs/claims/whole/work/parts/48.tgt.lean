/-! ===== an assignment's target, on both sides ===== -/
theorem sc_cl_at : ∀ (sc : sc_T) (L : Nat), L < sc_cl sc → ∃ (o : Nat) (x : Nat × Nat × Nat), sc[o]? = some x ∧ x.1 ≠ 0 ∧ sc_cl (sc.drop o) = L + 1
  | [], L, h => by simp [sc_cl] at h
  | x :: t, L, h => by
    by_cases hL : L < sc_cl t
    · obtain ⟨o, y, h1, h2, h3⟩ := sc_cl_at t L hL
      exact ⟨o + 1, y, by simpa using h1, h2, by simpa using h3⟩
    · refine ⟨0, x, rfl, fun h0 => ?_, ?_⟩
      · simp only [sc_cl, h0, if_pos] at h; omega
      · simp only [sc_cl, List.drop_zero] at h ⊢
        by_cases hx : x.1 = 0
        · rw [if_pos hx] at h ⊢; omega
        · rw [if_neg hx] at h ⊢; omega
theorem sc_cl_drop_le (sc : sc_T) (o : Nat) : sc_cl (sc.drop o) ≤ sc_cl sc := by have := sc_cl_td sc o; omega
theorem sc_drop_cons {sc : sc_T} {o : Nat} {x : Nat × Nat × Nat} (h : sc[o]? = some x) : sc.drop o = x :: sc.drop (o + 1) := by
  obtain ⟨h1, h2⟩ := List.getElem?_eq_some_iff.mp h
  rw [List.drop_eq_getElem_cons h1, h2]
section TGT
variable {hf : Nat} {sc : sc_T} {SC : Nat → sc_T} {m ns pr vr e q0 : Nat} {C R : ai_S}
set_option maxHeartbeats 4000000 in
theorem tgt_both (c ty : Int32) (hsp : sp C R hf sc SC m ns pr vr) (hC3 : C 26 3 = nI e) (hel : e < 488) (hq0 : R 0 15 = nI q0) (hql : q0 + 1 < 700) (hnh : C 2 5 = 1 ∧ R 0 20 = 0 ∨ C 2 5 = 0 ∧ R 0 20 = 1) (hsb : ∀ x ∈ sc, x.1 = 0 → x.2.2 ≤ q0) :
    ∃ Cu Ru : ai_S, (∀ (l : Launch) (D : va_G) (ρ : Nat → Nat) (τ : Nat → ClassId) (d : Nat) (V : ai_V) (G : ai_S → Prop), V 2 3 = .ref 26 → G Cu → ai_met (uC l D ρ τ) (d + 3) mX3_addTarget [.ref 2, .int c] C V (ai_qv V G)) ∧
      (∀ (l : Launch) (D : va_G) (ρ : Nat → Nat) (τ : Nat → ClassId) (d : Nat) (V : ai_V) (G : Int32 → ai_S → Prop), G (nI (q0 + 1)) Ru → ai_met (uM l D ρ τ) (d + 1) mX6_use [.ref 0, .int ty, .int c] R V (ai_qi V G)) ∧
      cE C Cu e ∧ Cu 26 3 = nI (e + 1) ∧ Cu 2 2 = C 2 2 ∧ Cu 26 9 = C 26 9 ∧
      (∀ b t, b < q0 + 1 → q0 + 1 < t → mE R Ru b t) ∧ Ru 0 15 = nI (q0 + 1) ∧ (∀ j, j ≠ 15 → j ≠ 20 → Ru 0 j = R 0 j) ∧ (∀ q, 9 ≤ q → Ru q = R q) ∧ Ru 2 (q0 + 1) = ty ∧ Ru 3 (q0 + 1) = nI 0 ∧ Ru 4 (q0 + 1) = nI 0 ∧ Ru 8 (q0 + 1) = nI 0 ∧
      (Cu 2 5 = 1 ∧ Ru 0 20 = 0 ∨ Cu 2 5 = 0 ∧ Ru 0 20 = 1) ∧ (Cu 2 5 = 1 → C 2 5 = 1 ∧ cx_tg (cd Cu) Ru (16 * hf) SC sc (q0 + 1) e) := by
  have hm136 : m ≤ 136 := by
    obtain ⟨h1, h2, h3, h4, h5, h6, h7, h8, h9, h10, h11, h12, -⟩ := hsp
    omega
  have h34 : C 3 4 = nI m := hsp.1
  have h36 : R 0 36 = nI m := hsp.2.1
  have hfe : fnd (C 4) c m = fnd (R 18) c m := fnd_congr m (fun i hi => (hsp.2.2.2.2.2.2.2.2.2.2.2.2.2.2.2.2.2.1 i hi).1)
  cases hfc : fnd (C 4) c m with
  | none =>
    obtain ⟨Cu, Ru, uc, um, u1, u2, u3, u4, u5, u6, u7, u8, u9, u10, u11, u12, u13, u14⟩ := use_both c 6 7 8 ty hsp hC3 hel hq0 hql hnh hsb
    refine ⟨cadd (ai_up C 2 5 0) e 6 0 0, ai_up (mfresh R (q0 + 1) ty) 0 20 1, ?_, ?_, (cE.rf.u2 5 _ (by omega)).add (Nat.le_refl _) _ _ _, by simp [cadd, ai_up_eq], by simp [cadd, ai_up_eq], by simp [cadd, ai_up_eq], fun b t h1 h2 => (mE.rf.fresh _ _ h1 h2).u0 20 _ (by omega), by simp [mfresh, ai_up_eq], fun j h1 h2 => ?_, fun q hq => ?_, by simp [mfresh, ai_up_eq], by simp [mfresh, ai_up_eq]; rfl, by simp [mfresh, ai_up_eq]; rfl, by simp [mfresh, ai_up_eq]; rfl, Or.inr ⟨by simp [cadd, ai_up_eq], ai_up_s⟩, fun h => absurd h (by simp [cadd, ai_up_eq])⟩
    · intro l D ρ τ d V G hV3 hG
      refine vX3_addTarget hV3 (sp_find h34 hm136 (fun i hi => absurd (hfc.symm.trans hi) (by simp)) (fun _ => ⟨fun _ => ?_, fun h => absurd (by decide) h⟩))
      exact sp_addUse hV3 h34 hm136 hC3 hel (fun i o hi _ => absurd (hfc.symm.trans hi) (by simp)) (fun _ => hG)
    · intro l D ρ τ d V G hG
      exact sp_use hq0 hql h36 (by omega) (fun i hi => absurd ((hfe.symm.trans hfc).symm.trans hi) (by simp)) (fun _ => hG)
    · unfold mfresh
      rw [ai_up_n (by omega), ai_up_n (by omega), ai_up_n (by omega), ai_up_n (by omega), ai_up_n (by omega), ai_up_n (by omega), ai_up_n (by omega)]
    · unfold mfresh
      rw [ai_up_o (by omega), ai_up_o (by omega), ai_up_o (by omega), ai_up_o (by omega), ai_up_o (by omega), ai_up_o (by omega), ai_up_o (by omega)]
  | some i =>
    have him : i < m := fnd_lt m i hfc
    obtain ⟨hrs, hkd⟩ := use_rel hsp him
    obtain ⟨h1, h2, h3, h4, h5, h6, h7, h8, h9, h10, h11, h12, h13, h14, h15, h15a, h15b, h16, h17, h18⟩ := id hsp
    obtain ⟨g1, o', x, g2, g3, g4, g5⟩ := h16 i him
    have hLle := sc_cl_drop_le sc o'
    obtain ⟨L, hL⟩ : ∃ L, L = sc_cl (sc.drop o') := ⟨_, rfl⟩
    rw [← hL] at g4 hLle
    obtain ⟨Ru, hRu⟩ : ∃ Ru, Ru = ai_up (ai_up (ai_up (mfresh R (q0 + 1) ty) 5 (q0 + 1) (R 19 i)) 6 (q0 + 1) (R 20 i)) 7 (q0 + 1) (R 0 37 - R 21 i) := ⟨_, rfl⟩
    have hmE : ∀ b t, b < q0 + 1 → q0 + 1 < t → mE R Ru b t := fun b t h1 h2 => by
      rw [hRu]
      exact (((mE.rf.fresh _ _ h1 h2).uN 5 _ _ (by omega) (by omega) h1 h2).uN 6 _ _ (by omega) (by omega) h1 h2).uN 7 _ _ (by omega) (by omega) h1 h2
    have hrs' : cx_rs Ru (16 * hf) SC sc (Ru 5 (q0 + 1)) (Ru 6 (q0 + 1)) (Ru 7 (q0 + 1)) (C 5 i) (C 7 i) (C 3 5 - C 6 i) := by
      rw [show Ru 5 (q0 + 1) = R 19 i by rw [hRu]; simp [mfresh, ai_up_eq], show Ru 6 (q0 + 1) = R 20 i by rw [hRu]; simp [mfresh, ai_up_eq], show Ru 7 (q0 + 1) = R 0 37 - R 21 i by rw [hRu]; simp [ai_up_eq]]
      exact cx_rs_mono ((hmE q0 (q0 + 2) (by omega) (by omega)).ag hsb) hrs
    -- what the class adds
    have key : ∃ oo aa bb : Int32, (∀ (l : Launch) (D : va_G) (ρ : Nat → Nat) (τ : Nat → ClassId) (d : Nat) (V : ai_V) (G : ai_S → Prop), V 2 3 = .ref 26 → G (cadd C e oo aa bb) → ai_met (uC l D ρ τ) (d + 3) mX3_addTarget [.ref 2, .int c] C V (ai_qv V G)) ∧ ((C 5 i = 0 ∧ oo = 6 ∧ aa = C 7 i ∧ bb = C 3 5 - C 6 i) ∨ (C 5 i = 1 ∧ oo = 7 ∧ aa = C 7 i ∧ bb = C 3 5 - C 6 i) ∨ (C 5 i = 2 ∧ ∃ pr : Nat, pr < 16 ∧ C 7 i = nI pr ∧ ((∃ o : Nat, sc[o]? = some (pr + 1, 0, 0) ∧ oo = 6 ∧ aa = 0 ∧ bb = nI (sc_cl (sc.take o))) ∨ (oo = 8 ∧ bb = C 3 5 - C 6 i ∧ ∀ o : Nat, sc[o]? ≠ some (pr + 1, 0, 0))))) := by
      have fin : ∀ (l : Launch) (D : va_G) (ρ : Nat → Nat) (τ : Nat → ClassId) (d : Nat) (V : ai_V) (G : ai_S → Prop), V 2 3 = .ref 26 → (∀ (P : Prop), (C 5 i = 2 → L + 1 ≤ sc_cl sc → C 8 (L + 1) = C 7 i → P) → ((C 5 i = 2 → L + 1 ≤ sc_cl sc → C 8 (L + 1) = C 7 i → False) → P) → P) := fun _ _ _ _ _ _ _ _ P h1 h2 => by
        by_cases h : C 5 i = 2 ∧ L + 1 ≤ sc_cl sc ∧ C 8 (L + 1) = C 7 i
        · exact h1 h.1 h.2.1 h.2.2
        · exact h2 (fun a b c => h ⟨a, b, c⟩)
      have walk : ∀ (l : Launch) (D : va_G) (ρ : Nat → Nat) (τ : Nat → ClassId) (d : Nat) (V : ai_V) (G : ai_S → Prop), V 2 3 = .ref 26 → (C 5 i = 2 → L + 1 ≤ sc_cl sc → C 8 (L + 1) = C 7 i → G (cadd C e 6 0 (C 3 5 - C 6 i - 1))) → ((C 5 i = 2 → L + 1 ≤ sc_cl sc → ¬ C 8 (L + 1) = C 7 i) → ∀ oo, (C 5 i = 0 ∧ oo = 6 ∨ C 5 i = 1 ∧ oo = 7 ∨ ¬ C 5 i = 0 ∧ ¬ C 5 i = 1 ∧ oo = 8) → G (cadd C e oo (C 7 i) (C 3 5 - C 6 i))) → ai_met (uC l D ρ τ) (d + 3) mX3_addTarget [.ref 2, .int c] C V (ai_qv V G) := by
        intro l D ρ τ d V G hV3 hA hN
        have hadd : (C 5 i = 2 → L + 1 ≤ sc_cl sc → ¬ C 8 (L + 1) = C 7 i) → ai_met (uC l D ρ τ) (d + 2) mX3_addUse [.ref 2, .int c, .int 6, .int 7, .int 8] C V (ai_qv V (fun S => G S)) := fun hno => by
          refine sp_addUse hV3 h34 hm136 hC3 hel (fun i' o hi' ho' => ?_) (fun hn => absurd (hfc.symm.trans hn) (by simp))
          have : i' = i := by rw [hfc] at hi'; cases hi'; rfl
          subst this
          exact hN hno o ho'
        refine vX3_addTarget hV3 (sp_find h34 hm136 (fun i' hi' => ?_) (fun hn => absurd (hfc.symm.trans hn) (by simp)))
        have : i' = i := by rw [hfc] at hi'; cases hi'; rfl
        subst this
        refine ⟨fun h => absurd h (nI_pos (by omega)), fun _ => ⟨by rw [h34, i_le (by omega) (by omega)]; omega, by rw [show (136 : Int32) = nI 136 from rfl, i_le (by omega) (by omega)]; omega, i_in (by omega) (by omega), ?_⟩⟩
        rw [nI_clamp (show i' < 2 ^ 31 by omega), g4, nI_1, h3, nI_clamp (show L + 1 < 2 ^ 31 by omega)]
        refine ⟨fun hk2 => ⟨by rw [show (1 : Int32) = nI 1 from rfl, i_lt (by omega) (by omega)]; omega, fun hlt => hadd (fun _ hle => ?_), fun hge => ⟨?_, i_in ?_ (by omega), fun hne => hadd (fun _ _ => hne), fun heq => ?_⟩⟩, fun hk2 => hadd (fun h => absurd h hk2)⟩
        · rw [i_lt (by omega) (by omega)] at hlt; omega
        · rw [i_lt (by omega) (by omega)] at hge
          rw [show (10 : Int32) = nI 10 from rfl, i_lt (by omega) (by omega)]; omega
        · rw [i_lt (by omega) (by omega)] at hge; omega
        · rw [i_lt (by omega) (by omega)] at hge
          have := hA hk2 (by omega) heq
          rw [h3, g4] at this
          exact sp_cadd hC3 hel this
      -- the three kinds
      rcases g5 with ⟨hx0, hk, hw, _⟩ | ⟨hx0, v, cnt, w, -, -, -, -, -, -, -, -, hk⟩ | ⟨hx0, hk, hw, pr', hpr, hpl, hsl, hSC⟩
      · exact ⟨6, C 7 i, C 3 5 - C 6 i, fun l D ρ τ d V G hV3 hG => walk l D ρ τ d V G hV3 (fun h => by rw [hk] at h; exact absurd h (by decide)) (fun _ oo ho => by
          rcases ho with ⟨_, b⟩ | ⟨a, _⟩ | ⟨a, _⟩
          · rw [b]; exact hG
          · rw [hk] at a; exact absurd a (by decide)
          · exact absurd hk a), Or.inl ⟨hk, rfl, rfl, rfl⟩⟩
      · rcases hk with ⟨hk, -, -⟩ | ⟨hk, -, -⟩
        · exact ⟨6, C 7 i, C 3 5 - C 6 i, fun l D ρ τ d V G hV3 hG => walk l D ρ τ d V G hV3 (fun h => by rw [hk] at h; exact absurd h (by decide)) (fun _ oo ho => by
            rcases ho with ⟨_, b⟩ | ⟨a, _⟩ | ⟨a, _⟩
            · rw [b]; exact hG
            · rw [hk] at a; exact absurd a (by decide)
            · exact absurd hk a), Or.inl ⟨hk, rfl, rfl, rfl⟩⟩
        · exact ⟨7, C 7 i, C 3 5 - C 6 i, fun l D ρ τ d V G hV3 hG => walk l D ρ τ d V G hV3 (fun h => by rw [hk] at h; exact absurd h (by decide)) (fun _ oo ho => by
            rcases ho with ⟨a, _⟩ | ⟨_, b⟩ | ⟨_, a, _⟩
            · rw [hk] at a; exact absurd a (by decide)
            · rw [b]; exact hG
            · exact absurd hk a), Or.inr (Or.inl ⟨hk, rfl, rfl, rfl⟩)⟩
      · have hol : o' < sc.length := (List.getElem?_eq_some_iff.mp g2).1
        by_cases hA : L + 1 ≤ sc_cl sc ∧ C 8 (L + 1) = C 7 i
        · obtain ⟨o, y, y1, y2, y3⟩ := sc_cl_at sc L (by omega)
          obtain ⟨z1, z2, z3, z4⟩ := h17 o y y1 y2
          have hy : y = (pr' + 1, 0, 0) := by
            rw [y3, hA.2, hsl, i_eq (by omega) (by omega)] at z1
            have e1 : y.1 = pr' + 1 := by omega
            exact Prod.ext e1 z3
          refine ⟨6, 0, C 3 5 - C 6 i - 1, fun l D ρ τ d V G hV3 hG => walk l D ρ τ d V G hV3 (fun _ _ _ => hG) (fun hno => absurd hA.2 (hno hk hA.1)), Or.inr (Or.inr ⟨hk, pr', hpr, hsl, Or.inl ⟨o, by rw [y1, hy], rfl, rfl, ?_⟩⟩)⟩
          have htd := sc_cl_td sc o
          rw [h3, g4, pk_sub (by omega), show sc_cl sc - L = (sc_cl (sc.take o)) + 1 by omega, nI_pred]
        · refine ⟨8, C 7 i, C 3 5 - C 6 i, fun l D ρ τ d V G hV3 hG => walk l D ρ τ d V G hV3 (fun _ a b => absurd ⟨a, b⟩ hA) (fun _ oo ho => by
            rcases ho with ⟨a, _⟩ | ⟨a, _⟩ | ⟨_, _, b⟩
            · rw [hk] at a; exact absurd a (by decide)
            · rw [hk] at a; exact absurd a (by decide)
            · rw [b]; exact hG), Or.inr (Or.inr ⟨hk, pr', hpr, hsl, Or.inr ⟨rfl, rfl, fun o ho => hA ?_⟩⟩)⟩
          obtain ⟨z1, z2, z3, z4⟩ := h17 o (pr' + 1, 0, 0) ho (by simp)
          have ho' : o < sc.length := (List.getElem?_eq_some_iff.mp ho).1
          have hlen := congrArg List.length (hSC.symm.trans z4)
          simp only [List.length_drop] at hlen
          have hoo : o' = o + 1 := by omega
          have hdc := sc_drop_cons ho
          have hcl : sc_cl (sc.drop o) = L + 1 := by
            rw [hdc, hL, hoo]
            simp [sc_cl]; omega
          have := sc_cl_drop_le sc o
          refine ⟨by omega, ?_⟩
          rw [hcl] at z1
          rw [z1, hsl]
          simp
    obtain ⟨oo, aa, bb, kw, kr⟩ := key
    refine ⟨cadd C e oo aa bb, Ru, kw, ?_, cE.rf.add (Nat.le_refl _) _ _ _, by simp [cadd, ai_up_eq], by simp [cadd, ai_up_eq], by simp [cadd, ai_up_eq], hmE, by rw [hRu]; simp [mfresh, ai_up_eq], fun j h1 h2 => ?_, fun q hq => ?_, by rw [hRu]; simp [mfresh, ai_up_eq], by rw [hRu]; simp [mfresh, ai_up_eq]; rfl, by rw [hRu]; simp [mfresh, ai_up_eq]; rfl, by rw [hRu]; simp [mfresh, ai_up_eq]; rfl, ?_, fun h => ⟨?_, C 5 i, C 7 i, C 3 5 - C 6 i, hrs', ?_⟩⟩
    · intro l D ρ τ d V G hG
      refine sp_use hq0 hql h36 (by omega) (fun i' hi' => ?_) (fun hn => absurd ((hfe.symm.trans hfc) ▸ hn) (by
        intro h
        rw [← hfe, hfc] at hn
        cases hn))
      have : i' = i := by rw [← hfe, hfc] at hi'; cases hi'; rfl
      subst this
      rw [← hRu]
      exact hG
    · rw [hRu]
      unfold mfresh
      rw [ai_up_n (by omega), ai_up_n (by omega), ai_up_n (by omega), ai_up_n (by omega), ai_up_n (by omega), ai_up_n (by omega), ai_up_n (by omega), ai_up_n (by omega), ai_up_n (by omega)]
    · rw [hRu]
      unfold mfresh
      rw [ai_up_o (by omega), ai_up_o (by omega), ai_up_o (by omega), ai_up_o (by omega), ai_up_o (by omega), ai_up_o (by omega), ai_up_o (by omega), ai_up_o (by omega), ai_up_o (by omega)]
    · rw [show Ru 0 20 = R 0 20 by rw [hRu]; simp [mfresh, ai_up_eq]]
      simp only [cadd, ai_up_eq]
      simpa using hnh
    · simpa [cadd, ai_up_eq] using h
    · rw [cd_cadd0, cd_cadd1, cd_cadd2]
      rcases kr with ⟨a, b, c', d'⟩ | ⟨a, b, c', d'⟩ | ⟨a, pr', b, c'⟩
      · exact Or.inl ⟨a, b, c', d'⟩
      · exact Or.inr (Or.inl ⟨a, b, c', d'⟩)
      · exact Or.inr (Or.inr ⟨a, pr', b, c'⟩)
end TGT
