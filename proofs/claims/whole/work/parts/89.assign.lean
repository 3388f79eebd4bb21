/-! ===== assignments: targets ===== -/
section ASG
variable {yz9 : ys_T} {xz9 : xs_T} {x0z9 fu Nz9 : Nat} {Cz9 Rz9 : ai_S} {jz9 kk : Nat} {Gz9 : gg_T} {pd : Nat → Nat} {cs nfz9 na tz9 en wt : Nat} {l : List Nat} {fz9 kz9 nz9 az9 bz9 : Nat}
/-- a procedure's body lies in a scope once -/
theorem fo_uq (hfr : FR yz9 Cz9 Rz9 Gz9 pd nfz9) (hnf : nfz9 ≤ 400) (hg : gi Gz9 (nfz9 - 1) ≤ 30) (hf : fz9 < nfz9) {o1 pr : Nat} (h1 : (gs Gz9 fz9)[o1]? = some (pr + 1, 0, 0)) : (gs Gz9 fz9).length = o1 + 1 + (yC yz9 pr).length := by
  obtain ⟨ho, hos⟩ := List.getElem?_eq_some_iff.mp h1
  obtain ⟨f', a1z9, a2, _⟩ := fo_out hfr hnf hg o1 fz9 hf ho
  have hsf : gs Gz9 f' = (pr + 1, 0, 0) :: (gs Gz9 fz9).drop (o1 + 1) := by rw [a2, List.drop_eq_getElem_cons ho, hos]
  obtain ⟨_, _, _, _, h2⟩ := hfr.2 f' (by omega)
  rcases h2 with ⟨_, h2, _⟩ | ⟨ndz9, h0, h2, _⟩ | ⟨pr', o', ca, cnt', w', h0, h1', h2, _⟩
  · rw [h2] at hsf; cases hsf
  · rw [h2] at hsf
    have hse := congrArg Prod.fst (List.cons.inj hsf).1
    simp at hse
  · rw [h2] at hsf
    have hse := congrArg Prod.fst (List.cons.inj hsf).1
    have hpr : pr' = pr := by simp at hse; exact hse
    have hl := congrArg List.length (List.cons.inj hsf).2
    rw [hpr, List.length_drop] at hl
    omega
/-- the reference looks for the call -/
theorem tg_in (hy : yG yz9 x0z9) (hfr : FR yz9 Cz9 Rz9 Gz9 pd nfz9) (hnf : nfz9 ≤ 400) (hg : gi Gz9 (nfz9 - 1) ≤ 30) {pr : Nat} (hpr : pr < yn yz9) (Sz9 : ai_S) (h23 : ∀ qz9, 23 ≤ qz9 → qz9 ≤ 26 → Sz9 qz9 = Rz9 qz9) (h60 : Sz9 0 60 = nI (yb yz9 + pr)) {l' : Launch} {Dz9 : va_G} {ρ : Nat → Nat} {τ : Nat → ClassId} {uz9 : Nat} {V : ai_V} {Gp : Int32 → ai_S → Prop} :
    ∀ (o fz9 f' : Nat), fz9 < nfz9 → (gs Gz9 fz9)[o]? = some (pr + 1, 0, 0) → pth Rz9 o fz9 f' → Gp (nI (gb Gz9 f')) Sz9 → ai_W (uM l' Dz9 ρ τ) uz9 mX6_target 59 [(0, .ref 0), (3, .int (nI fz9))] [] Sz9 V (ai_qi V Gp) := by
  have hbz9 := hy.2.2.2.1
  have hn := hy.2.2.1
  intro o
  induction o with
  | zero =>
    intro fz9 f' hf ho hpt hG
    have hff : f' = fz9 := hpt
    subst hff
    obtain ⟨r25, _, _, _, h2⟩ := hfr.2 f' hf
    have hne : gs Gz9 f' ≠ [] := by intro ez9; rw [ez9] at ho; simp at ho
    have hhd : ∃ restz9, gs Gz9 f' = (pr + 1, 0, 0) :: restz9 := by
      cases hs : gs Gz9 f' with
      | nil => exact absurd hs hne
      | cons sz9 restz9 => rw [hs] at ho; simp at ho; exact ⟨restz9, by rw [ho]⟩
    obtain ⟨restz9, hs⟩ := hhd
    rcases h2 with ⟨_, h2, _⟩ | ⟨ndz9, h0, h2, _⟩ | ⟨pr', o', ca, cnt', w', h0, h1', h2, _, _, _, h24, _⟩
    · exact absurd h2 hne
    · rw [h2] at hs
      have hse := congrArg Prod.fst (List.cons.inj hs).1
      simp at hse
    · rw [h2] at hs
      have hse := congrArg Prod.fst (List.cons.inj hs).1
      have hpr' : pr' = pr := by simp at hse; exact hse
      subst hpr'
      refine vX6_target_59 ⟨fun hh => absurd hh (nI_nle h0 (by omega)), fun _ => ⟨i_in (by omega) (by omega), fun _ => ?_, fun hh => absurd ?_ hh⟩⟩
      · rw [nI_clamp (by omega), h23 25 (by omega) (by omega), r25]; exact hG
      · rw [nI_clamp (by omega), h23 24 (by omega) (by omega), h24, h60]
  | succ o ihz9 =>
    intro fz9 f' hf ho hpt hG
    cases hs : gs Gz9 fz9 with
    | nil => rw [hs] at ho; simp at ho
    | cons sz9 restz9 =>
      have hlen := fo_uq hfr hnf hg hf ho
      obtain ⟨gz9, e1z9, e2z9, e3z9, e4z9, e5z9, e6z9⟩ := fo_up hfr hf hs
      rw [hs] at ho hlen
      obtain ⟨g', p1z9, p2z9, p3z9⟩ := hpt
      have eg : g' = gz9 := by
        have := p2z9.symm.trans e2z9
        rw [i_eq (by omega) (by omega)] at this
        exact this
      subst eg
      have c3z9 := ihz9 g' f' (by omega) (by rw [e3z9]; simpa using ho) p3z9 hG
      have how : ¬ Rz9 24 fz9 = nI (yb yz9 + pr) := by
        obtain ⟨_, _, _, _, h2⟩ := hfr.2 fz9 hf
        rcases h2 with ⟨_, h2, _⟩ | ⟨ndz9, h0, h2, _, h24, _⟩ | ⟨pr', o', ca, cnt', w', h0, h1', h2, _, _, _, h24, _⟩
        · rw [h2] at hs; cases hs
        · rw [h24]
          intro ez9
          have := congrArg Int32.toInt ez9
          rw [nI_toInt (by omega)] at this
          have e9z9 : (-1 : Int32).toInt = -1 := by decide
          omega
        · rw [h24, i_eq (by omega) (by omega)]
          intro ez9
          have hpr' : pr' = pr := by omega
          subst hpr'
          rw [h2] at hs
          have := congrArg List.length (List.cons.inj hs).2
          simp only [List.length_cons] at hlen
          omega
      have hf0 : 0 < fz9 := by omega
      refine vX6_target_59 ⟨fun hh => absurd hh (nI_nle hf0 (by omega)), fun _ => ⟨i_in (by omega) (by omega), fun hh => absurd hh ?_, fun _ => ?_⟩⟩
      · rw [nI_clamp (by omega), h23 24 (by omega) (by omega), h60]; exact how
      · rw [nI_clamp (by omega), h23 23 (by omega) (by omega), e2z9]; exact c3z9
theorem tg_no (hy : yG yz9 x0z9) (hfr : FR yz9 Cz9 Rz9 Gz9 pd nfz9) (hnf : nfz9 ≤ 400) {pr : Nat} (hpr : pr < yn yz9) (Sz9 : ai_S) (h23 : ∀ qz9, 23 ≤ qz9 → qz9 ≤ 26 → Sz9 qz9 = Rz9 qz9) (h60 : Sz9 0 60 = nI (yb yz9 + pr)) {l' : Launch} {Dz9 : va_G} {ρ : Nat → Nat} {τ : Nat → ClassId} {uz9 : Nat} {V : ai_V} {Gp : Int32 → ai_S → Prop} (hG : Gp (-1) Sz9) :
    ∀ (o fz9 : Nat), (gs Gz9 fz9).length ≤ o → fz9 < nfz9 → (∀ iz9 : Nat, (gs Gz9 fz9)[iz9]? ≠ some (pr + 1, 0, 0)) → ai_W (uM l' Dz9 ρ τ) uz9 mX6_target 59 [(0, .ref 0), (3, .int (nI fz9))] [] Sz9 V (ai_qi V Gp) := by
  have hbz9 := hy.2.2.2.1
  have hn := hy.2.2.1
  have basez9 : ∀ fz9, fz9 < nfz9 → gs Gz9 fz9 = [] → ai_W (uM l' Dz9 ρ τ) uz9 mX6_target 59 [(0, .ref 0), (3, .int (nI fz9))] [] Sz9 V (ai_qi V Gp) := by
    intro fz9 hf hs
    obtain ⟨_, _, _, _, h2⟩ := hfr.2 fz9 hf
    rcases h2 with ⟨h2, _⟩ | ⟨ndz9, h0, h2, _⟩ | ⟨pr', o', ca, cnt', w', h0, h1', h2, _⟩
    · subst h2
      exact vX6_target_59 ⟨fun _ => hG, fun hh => absurd (by decide) hh⟩
    · rw [h2] at hs; cases hs
    · rw [h2] at hs; cases hs
  intro o
  induction o with
  | zero =>
    intro fz9 hl hf hno
    exact basez9 fz9 hf (List.length_eq_zero_iff.mp (by omega))
  | succ o ihz9 =>
    intro fz9 hl hf hno
    cases hs : gs Gz9 fz9 with
    | nil => exact basez9 fz9 hf hs
    | cons sz9 restz9 =>
      obtain ⟨gz9, e1z9, e2z9, e3z9, e4z9, e5z9, e6z9⟩ := fo_up hfr hf hs
      have hf0 : 0 < fz9 := by omega
      rw [hs] at hl hno
      have how : ¬ Rz9 24 fz9 = nI (yb yz9 + pr) := by
        obtain ⟨_, _, _, _, h2⟩ := hfr.2 fz9 hf
        rcases h2 with ⟨_, h2, _⟩ | ⟨ndz9, h0, h2, _, h24, _⟩ | ⟨pr', o', ca, cnt', w', h0, h1', h2, _, _, _, h24, _⟩
        · rw [h2] at hs; cases hs
        · rw [h24]
          intro ez9
          have := congrArg Int32.toInt ez9
          rw [nI_toInt (by omega)] at this
          have e9z9 : (-1 : Int32).toInt = -1 := by decide
          omega
        · rw [h24, i_eq (by omega) (by omega)]
          intro ez9
          have hpr' : pr' = pr := by omega
          subst hpr'
          rw [h2] at hs
          have := (List.cons.inj hs).1
          exact hno 0 (by rw [← this]; rfl)
      refine vX6_target_59 ⟨fun hh => absurd hh (nI_nle hf0 (by omega)), fun _ => ⟨i_in (by omega) (by omega), fun hh => absurd hh ?_, fun _ => ?_⟩⟩
      · rw [nI_clamp (by omega), h23 24 (by omega) (by omega), h60]; exact how
      · rw [nI_clamp (by omega), h23 23 (by omega) (by omega), e2z9]
        refine ihz9 gz9 (by rw [e3z9]; simp at hl; omega) (by omega) (fun iz9 => ?_)
        rw [e3z9]
        have := hno (iz9 + 1)
        simpa using this
theorem fo_nw (hy : yG yz9 x0z9) (hz9 : FR yz9 Cz9 Rz9 Gz9 pd nfz9) (hnf : nfz9 ≤ 400) (hg : gi Gz9 (nfz9 - 1) ≤ 30) (hf : fz9 < nfz9) {o : Nat} (ho : o < (gs Gz9 fz9).length) : ∃ f', f' ≤ fz9 ∧ gs Gz9 f' = (gs Gz9 fz9).drop o ∧ (pd fz9 = 6 → pd f' = 6) ∧ nmw Cz9 Rz9 Gz9 fz9 f' (nI o) (nI (sc_cl ((gs Gz9 fz9).take o))) ∧ pth Rz9 o fz9 f' := by
  obtain ⟨f', a1z9, a2, a3, a4, a5, a6, a7⟩ := fo_out hz9 hnf hg o fz9 hf ho
  obtain ⟨b1, b2⟩ := fo_sc hy hz9 fz9 hf
  have hcl := sc_cl_td (gs Gz9 fz9) o
  refine ⟨f', a1z9, a2, a4, ⟨fun R' l Dz9 ρ τ uz9 V Gp hR hG => ?_, fun C'z9 l Dz9 ρ τ uz9 V Gp hC hG => ?_⟩, a7⟩
  · refine vX6_outward ?_
    have := a5 R' l Dz9 ρ τ uz9 V Gp 0 hR (by omega) hG
    rw [Nat.zero_add] at this
    exact this
  · refine vX0_outwards ?_
    have := a6 C'z9 l Dz9 ρ τ uz9 V Gp 0 hC (by omega) hG
    rw [Nat.zero_add] at this
    exact this
/-- whose body it is -/
theorem fo_ar (hfr : FR yz9 Cz9 Rz9 Gz9 pd nfz9) (hnf : nfz9 ≤ 400) (hg : gi Gz9 (nfz9 - 1) ≤ 30) (hf : fz9 < nfz9) {o pr : Nat} (ho : (gs Gz9 fz9)[o]? = some (pr + 1, 0, 0)) : pr < yn yz9 := by
  obtain ⟨ho1, ho2⟩ := List.getElem?_eq_some_iff.mp ho
  obtain ⟨g1, b1, b2, _⟩ := fo_out hfr hnf hg o fz9 hf ho1
  have hsf : gs Gz9 g1 = (pr + 1, 0, 0) :: (gs Gz9 fz9).drop (o + 1) := by rw [b2, List.drop_eq_getElem_cons ho1, ho2]
  obtain ⟨_, _, _, _, h2⟩ := hfr.2 g1 (by omega)
  rcases h2 with ⟨_, h2, _⟩ | ⟨ndz9, h0, h2, _⟩ | ⟨pr2, o', ca, cnt', w', h0, h1', h2, _⟩
  · rw [h2] at hsf; cases hsf
  · rw [h2] at hsf
    have hse := congrArg Prod.fst (List.cons.inj hsf).1
    simp at hse
  · rw [h2] at hsf
    have hse := congrArg Prod.fst (List.cons.inj hsf).1
    have hpr' : pr2 = pr := by simp at hse; exact hse
    omega
end ASG
