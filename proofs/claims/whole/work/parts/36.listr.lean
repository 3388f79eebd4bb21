/-! ===== lists of actuals: the reference's rounds ===== -/
/-- hung under its node -/
def hook (R : ai_S) (f nd ls x : Nat) : ai_S := ai_up (if ls = 0 then ai_up R 3 nd (nI x) else ai_up R 4 ls (nI x)) 16 f (nI x)
theorem hook_o {R : ai_S} {f nd ls x q i : Nat} (h1 : ¬ (q = 16 ∧ i = f)) (h2 : ¬ (q = 3 ∧ i = nd ∧ ls = 0)) (h3 : ¬ (q = 4 ∧ i = ls ∧ ls ≠ 0)) : hook R f nd ls x q i = R q i := by
  unfold hook
  rw [ai_up_n h1]
  split
  · exact ai_up_n (fun h => h2 ⟨h.1, h.2, by assumption⟩)
  · exact ai_up_n (fun h => h3 ⟨h.1, h.2, by assumption⟩)
theorem hook_3 {R : ai_S} {f nd x : Nat} : hook R f nd 0 x 3 nd = nI x := by simp [hook, ai_up_eq]
theorem hook_4 {R : ai_S} {f nd ls x : Nat} (h : ls ≠ 0) : hook R f nd ls x 4 ls = nI x := by simp [hook, h, ai_up_eq]
theorem hook_16 {R : ai_S} {f nd ls x : Nat} : hook R f nd ls x 16 f = nI x := ai_up_s
theorem mE.hk {R R1 : ai_S} {b t f nd ls x : Nat} (h : mE R R1 b t) (h1 : ls = 0 → b < nd ∧ nd < t) (h2 : ls ≠ 0 → b < ls ∧ ls < t) : mE R (hook R1 f nd ls x) b t := by
  unfold hook
  split
  · exact (h.uN 3 nd _ (by omega) (by omega) (h1 (by assumption)).1 (h1 (by assumption)).2).uF 16 f _ (by omega) (by omega)
  · exact (h.uN 4 ls _ (by omega) (by omega) (h2 (by assumption)).1 (h2 (by assumption)).2).uF 16 f _ (by omega) (by omega)
section LIR
variable {l : Launch} {D : va_G} {ρ : Nat → Nat} {τ : Nat → ClassId} {d : Nat} {V : ai_V} {tx : Nat → Int32} {n : Nat} {R : ai_S} {G : ai_S → Prop} {f nd ls ex dp p x : Nat}
theorem sp_hook (hf : f < 80) (h16 : R 16 f = nI ls) (hl : ls < 700) (h14 : R 14 f = nI nd) (hnd : nd < 700) (hg : R 0 31 = nI x) (hG : G (hook R f nd ls x)) : ai_met (uM l D ρ τ) d mX6_add [.ref 0, .int (nI f)] R V (ai_qv V G) := by
  by_cases h0 : ls = 0
  · subst h0
    exact sp_madd0 hf h16 h14 hnd hg (by simpa [hook] using hG)
  · exact sp_madd hf h16 (by omega) hl hg (by simpa [hook, h0] using hG)
theorem sp_close40 (hf : f < 80) (h13 : R 13 f = nI 40) (h14 : R 14 f = nI nd) (h30 : R 0 30 = nI (f + 1)) (hG : G (ai_up (ai_up R 0 31 (nI nd)) 0 30 (nI f))) : ai_met (uM l D ρ τ) (d + 1) mX6_closeList [.ref 0, .int (nI f)] R V (ai_qv V G) := by
  refine vX6_closeList ⟨i_in hf (by omega), ?_⟩
  rw [nI_clamp (show f < 2 ^ 31 by omega), h13, h14]
  exact ⟨fun _ => sp_done h30 hG, fun h => absurd h (by decide)⟩
theorem sp_close12 {hh : Nat} (hgh : hh ≤ 1 ∧ gh tx hh R) (hf : f < 80) (h13 : R 13 f = nI 12) (h14 : R 14 f = nI nd) (h30 : R 0 30 = nI (f + 1)) (hT : mt_T R tx n) (hp : R 0 2 = nI p) (hpn : p ≤ n) (hG : px_c tx n (-1) (px_s tx n p) = 59 → G (ai_up (ai_up (ai_up R 0 2 (nI (px_s tx n p + 1))) 0 31 (nI nd)) 0 30 (nI f))) (hB : ¬ px_c tx n (-1) (px_s tx n p) = 59 → ∀ R' : ai_S, bd tx R' → G R') : ai_met (uM l D ρ τ) (d + 2) mX6_closeList [.ref 0, .int (nI f)] R V (ai_qv V G) := by
  refine vX6_closeList ⟨i_in hf (by omega), ?_⟩
  rw [nI_clamp (show f < 2 ^ 31 by omega), h13]
  refine ⟨fun h => absurd (by decide) h, fun _ => sp_eat hT hp hpn (fun h => ai_zt ?_) (fun h => ai_zf ?_)⟩
  · rw [ai_up_n (by omega), h14]
    exact sp_done (by rw [ai_up_n (by omega)]; exact h30) (hG h)
  · exact sp_done (f := f) (by rw [ai_up_n (by omega), ai_up_n (by omega)]; exact h30) (hB h _ (bd_of hgh (fun g => by (repeat with_reducible refine gh.u ?_ (by omega)); exact g) (by simp [ai_up_eq])))
/-- what is closed though something was wrong -/
theorem sp_closeW {cL hh : Nat} (hgh : hh ≤ 1 ∧ gh tx hh R) (hc : cL = 40 ∨ cL = 12) (hf : f < 80) (h13 : R 13 f = nI cL) (h30 : R 0 30 = nI (f + 1)) (h19 : R 0 19 = 1) (hT : mt_T R tx n) (hp : R 0 2 = nI p) (hpn : p ≤ n) (hB : ∀ R' : ai_S, bd tx R' → G R') : ai_met (uM l D ρ τ) (d + 2) mX6_closeList [.ref 0, .int (nI f)] R V (ai_qv V G) := by
  refine vX6_closeList ⟨i_in hf (by omega), ?_⟩
  rw [nI_clamp (show f < 2 ^ 31 by omega), h13]
  rcases hc with rfl | rfl
  · exact ⟨fun _ => sp_done h30 (hB _ (bd_of hgh (fun g => by (repeat with_reducible refine gh.u ?_ (by omega)); exact g) (by simp [ai_up_eq, h19]))), fun h => absurd h (by decide)⟩
  · refine ⟨fun h => absurd (by decide) h, fun _ => sp_eat hT hp hpn (fun h => ai_zt ?_) (fun h => ai_zf ?_)⟩
    · exact sp_done (f := f) (by rw [ai_up_n (by omega)]; exact h30) (hB _ (bd_of hgh (fun g => by (repeat with_reducible refine gh.u ?_ (by omega)); exact g) (by simp [ai_up_eq, h19])))
    · exact sp_done (f := f) (by rw [ai_up_n (by omega), ai_up_n (by omega)]; exact h30) (hB _ (bd_of hgh (fun g => by (repeat with_reducible refine gh.u ?_ (by omega)); exact g) (by simp [ai_up_eq])))
/-- behind an actual -/
def liB (R : ai_S) (f nd ls x i : Nat) : ai_S := ai_up (ai_up (hook R f nd ls x) 8 x (nI i)) 17 f (nI (i + 1))
theorem liB_o {i q j : Nat} (h1 : ¬ (q = 16 ∧ j = f)) (h2 : ¬ (q = 3 ∧ j = nd ∧ ls = 0)) (h3 : ¬ (q = 4 ∧ j = ls ∧ ls ≠ 0)) (h4 : ¬ (q = 8 ∧ j = x)) (h5 : ¬ (q = 17 ∧ j = f)) : liB R f nd ls x i q j = R q j := by
  unfold liB
  rw [ai_up_n h5, ai_up_n h4, hook_o h1 h2 h3]
theorem gh.hk {hh : Nat} (g : gh tx hh R) (hr : 350 * hh < nd ∧ nd < 350 * hh + 350) (hrl : ls ≠ 0 → 350 * hh < ls ∧ ls < 350 * hh + 350) : gh tx hh (hook R f nd ls x) :=
  g.fr (fun q i a b c d => hook_o (by omega) (by omega) (fun h => by have := hrl h.2.2; omega))
theorem gh.li {hh i : Nat} (g : gh tx hh R) (hr : 350 * hh < nd ∧ nd < 350 * hh + 350) (hrl : ls ≠ 0 → 350 * hh < ls ∧ ls < 350 * hh + 350) (hrx : 350 * hh < x ∧ x < 350 * hh + 350) : gh tx hh (liB R f nd ls x i) :=
  ((g.hk hr hrl).u (by omega)).u (by omega)
set_option maxHeartbeats 2000000 in
theorem on_li {cL i hh : Nat} (hgh : hh ≤ 1 ∧ gh tx hh R) (hr : 350 * hh < nd ∧ nd < 350 * hh + 350) (hrl : ls ≠ 0 → 350 * hh < ls ∧ ls < 350 * hh + 350) (hrx : 350 * hh < x ∧ x < 350 * hh + 350) (hc : cL = 40 ∨ cL = 12) (hf : f < 70) (h13 : R 13 f = nI cL) (h14 : R 14 f = nI nd) (hnd : nd < 700) (h15 : R 15 f = nI dp) (h16 : R 16 f = nI ls) (hl : ls < 700) (h17 : R 17 f = nI i) (hi : i ≤ 6) (h30 : R 0 30 = nI (f + 1)) (hg : R 0 31 = nI x) (hx : x < 700) (hT : mt_T R tx n) (hp : R 0 2 = nI p) (hpn : p ≤ n)
    (hcomma : px_c tx n (-1) (px_s tx n p) = 44 → i + 1 < 6 → G (mpush (ai_up (liB R f nd ls x i) 0 2 (nI (px_s tx n p + 1))) (f + 1) 30 (nI (dp + 1))))
    (hclose : px_c tx n (-1) (px_s tx n p) = 41 → ai_met (uM l D ρ τ) (d + 2) mX6_closeList [.ref 0, .int (nI f)] (ai_up (liB R f nd ls x i) 0 2 (nI (px_s tx n p + 1))) V (ai_qv V (fun S => G S)))
    (hbad : (px_c tx n (-1) (px_s tx n p) = 44 → ¬ i + 1 < 6) → ¬ px_c tx n (-1) (px_s tx n p) = 41 → ∀ R' : ai_S, bd tx R' → G R') : ai_met (uM l D ρ τ) (d + 3) mX6_onward [.ref 0, .int (nI f)] R V (ai_qv V G) := by
  have b13 : liB R f nd ls x i 13 f = nI cL := by rw [liB_o (by omega) (by omega) (by omega) (by omega) (by omega)]; exact h13
  have b14 : liB R f nd ls x i 14 f = nI nd := by rw [liB_o (by omega) (by omega) (by omega) (by omega) (by omega)]; exact h14
  have b17 : liB R f nd ls x i 17 f = nI (i + 1) := ai_up_s
  have b30 : liB R f nd ls x i 0 30 = nI (f + 1) := by rw [liB_o (by omega) (by omega) (by omega) (by omega) (by omega)]; exact h30
  have b2 : liB R f nd ls x i 0 2 = nI p := by rw [liB_o (by omega) (by omega) (by omega) (by omega) (by omega)]; exact hp
  have bT : mt_T (liB R f nd ls x i) tx n := ⟨by rw [liB_o (by omega) (by omega) (by omega) (by omega) (by omega)]; exact hT.1, hT.2.1, fun j hj => by rw [liB_o (by omega) (by omega) (by omega) (by omega) (by omega)]; exact hT.2.2 j hj⟩
  have hu17 : hook R f nd ls x 17 f = nI i := by rw [hook_o (by omega) (by omega) (by omega)]; exact h17
  have hu31 : hook R f nd ls x 0 31 = nI x := by rw [hook_o (by omega) (by omega) (by omega)]; exact hg
  have hT1 : ∀ v : Int32, mt_T (ai_up (liB R f nd ls x i) 0 2 v) tx n := fun v => ⟨by rw [ai_up_n (by omega)]; exact bT.1, bT.2.1, fun j hj => by rw [ai_up_n (by omega)]; exact bT.2.2 j hj⟩
  have hskn : px_s tx n p ≤ n := px_s_le tx hpn
  have hss : px_s tx n (px_s tx n p) = px_s tx n p := px_s_s tx n p
  have h6 : (6 ≤ nI (i + 1)) = (6 ≤ i + 1) := by rw [show (6 : Int32) = nI 6 from rfl, i_le (by omega) (by omega)]
  have hM : ai_met (uM l D ρ τ) (d + 2) mX6_add [.ref 0, .int (nI f)] R V (ai_qv V (fun S57 => (vp_in (S57 0 31) 700 ∧ ai_met (uM l D ρ τ) (d + 2) mX6_eat [.ref 0, .int 44] (ai_up (ai_up S57 8 ((S57 0 31)).toNatClampNeg (S57 17 f)) 17 f ((S57 17 f) + 1)) V (ai_qz V (fun b59 S60 => (b59 = true → ((6 ≤ (S60 17 f) → ai_met (uM l D ρ τ) (d + 2) mX6_push [.ref 0, .int 30, .int (nI dp + 1)] (ai_up S60 0 19 1) V (ai_qv V (fun S63 => G S63))) ∧ (¬ 6 ≤ (S60 17 f) → ai_met (uM l D ρ τ) (d + 2) mX6_push [.ref 0, .int 30, .int (nI dp + 1)] S60 V (ai_qv V (fun S65 => G S65))))) ∧ (b59 = false → ai_met (uM l D ρ τ) (d + 2) mX6_eat [.ref 0, .int 41] S60 V (ai_qz V (fun b66 S67 => (b66 = true → ai_met (uM l D ρ τ) (d + 2) mX6_closeList [.ref 0, .int (nI f)] S67 V (ai_qv V (fun S69 => G S69))) ∧ (b66 = false → ai_met (uM l D ρ τ) (d + 2) mX6_closeList [.ref 0, .int (nI f)] (ai_up S67 0 19 1) V (ai_qv V (fun S71 => G S71))))))))))) := by
    refine sp_hook (by omega) h16 hl h14 hnd hg ?_
    rw [hu31, hu17, nI_clamp (show x < 2 ^ 31 by omega), nI_1, show ai_up (ai_up (hook R f nd ls x) 8 x (nI i)) 17 f (nI (i + 1)) = liB R f nd ls x i from rfl]
    refine ⟨i_in hx (by omega), sp_eat (p := p) bT b2 hpn (fun h => ai_zt ?_) (fun h => ai_zf ?_)⟩
    · rw [ai_up_n (by omega), b17, h6, nI_1]
      refine ⟨fun h5 => sp_push (f := f + 1) (by rw [ai_up_n (by omega), ai_up_n (by omega)]; exact b30) (by omega) (hbad (fun _ => by omega) (by rw [h]; decide) _ (bd_of hgh (fun g => by unfold mpush; (repeat with_reducible refine gh.u ?_ (by omega)); exact g.li hr hrl hrx) (by simp [mpush, ai_up_eq]))), fun h5 => sp_push (f := f + 1) (by rw [ai_up_n (by omega)]; exact b30) (by omega) (hcomma h (by omega))⟩
    · refine sp_eat (p := px_s tx n p) (hT1 _) ai_up_s hskn (fun h2 => ai_zt ?_) (fun h2 => ai_zf ?_)
      · rw [hss, ai_up_up]
        rw [hss] at h2
        exact hclose h2
      · rw [hss, ai_up_up]
        rw [hss] at h2
        refine sp_closeW (tx := tx) (cL := cL) (p := px_s tx n p) ⟨hgh.1, ((hgh.2.li hr hrl hrx).u (by omega)).u (by omega)⟩ hc (by omega) (by rw [ai_up_n (by omega), ai_up_n (by omega)]; exact b13) (by rw [ai_up_n (by omega), ai_up_n (by omega)]; exact b30) ai_up_s ⟨by rw [ai_up_n (by omega)]; exact (hT1 _).1, (hT1 0).2.1, fun j hj => by rw [ai_up_n (by omega)]; exact (hT1 _).2.2 j hj⟩ (by rw [ai_up_n (by omega), ai_up_s]) hskn (hbad (fun h' => absurd h' h) h2)
  refine vX6_onward ⟨i_in (by omega) (by omega), ?_⟩
  rw [nI_clamp (show f < 2 ^ 31 by omega), h13, h15]
  rcases hc with rfl | rfl
  · exact ⟨fun h => absurd h (by decide), fun h => absurd h (by decide), fun h => absurd h (by decide), fun h => absurd h (by decide), fun h => absurd h (by decide), fun _ => hM, fun h => absurd (by decide) h.2.2.2.2.2⟩
  · exact ⟨fun h => absurd h (by decide), fun _ => hM, fun h => absurd h (by decide), fun h => absurd h (by decide), fun h => absurd h (by decide), fun h => absurd h (by decide), fun h => absurd (by decide) h.2.1⟩
end LIR
/-- a name alone stands here -/
def al (tx : Nat → Int32) (n p : Nat) : Prop := 97 ≤ px_c tx n 0 (px_s tx n p) ∧ px_c tx n 0 (px_s tx n p) ≤ 122 ∧ (px_c tx n 0 (px_s tx n (px_s tx n p + 1)) = 41 ∨ px_c tx n 0 (px_s tx n (px_s tx n p + 1)) = 44)
theorem sp_alone {l : Launch} {D : va_G} {ρ : Nat → Nat} {τ : Nat → ClassId} {d : Nat} {V : ai_V} {tx : Nat → Int32} {n p : Nat} {C : ai_S} {G : Bool → ai_S → Prop} (hV0 : hV ρ V tx n) (hT : ct_T C tx n) (hp : C 2 2 = nI p) (hpn : p ≤ n) (ht : al tx n p → G true C) (hf : ¬ al tx n p → G false C) : ai_met (uC l D ρ τ) (d + 2) mX3_isNameAlone [.ref 2] C V (ai_qz V G) := by
  have back : ∀ v : Int32, ai_up (ai_up C 2 2 v) 2 2 (C 2 2) = C := fun v => by rw [ai_up_up, ai_up_self rfl]
  refine vX3_isNameAlone (sp_takeName hV0 hT hp hpn (fun c hc h1 h2 => ⟨fun h => ?_, fun _ => ?_⟩) (fun c hc hn => ⟨fun _ => ?_, fun h => absurd rfl h⟩))
  · rw [h] at h1; exact absurd h1 (by decide)
  · have hlt : px_s tx n p < n := px_lt hc (fun h => by rw [h] at h1; exact absurd h1 (by decide))
    refine sp_look (tx := tx) (p := px_s tx n p + 1) hV0 ⟨by rw [ai_up_n (by omega)]; exact hT.1, hT.2.1, fun i hi => by rw [ai_up_n (by omega)]; exact hT.2.2 i hi⟩ ai_up_s hlt ⟨fun h => ?_, fun h => ⟨fun h3 => ?_, fun h3 => ?_⟩⟩
    · rw [ai_up_up, back]; exact ht ⟨by rw [hc]; exact h1, by rw [hc]; exact h2, Or.inr h⟩
    · rw [ai_up_up, back]; exact hf (fun h4 => h4.2.2.elim h3 h)
    · rw [ai_up_up, back]; exact ht ⟨by rw [hc]; exact h1, by rw [hc]; exact h2, Or.inl h3⟩
  · rw [back]; exact hf (fun h4 => hn ⟨by rw [← hc]; exact h4.1, by rw [← hc]; exact h4.2.1⟩)
