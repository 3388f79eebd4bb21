/-! ===== factors ===== -/
/-- a name is found: node and instruction belong together -/
theorem use_rel {C R : ai_S} {hf : Nat} {sc : sc_T} {SC : Nat → sc_T} {m ns pr vr i : Nat} (h : sp C R hf sc SC m ns pr vr) (hi : i < m) : cx_rs R (16 * hf) SC sc (R 19 i) (R 20 i) (R 0 37 - R 21 i) (C 5 i) (C 7 i) (C 3 5 - C 6 i) ∧ (C 5 i = 0 ∨ C 5 i = 1 ∨ C 5 i = 2) := by
  obtain ⟨h1, h2, h3, h4, h5, h6, h7, h8, h9, h10, h11, h12, h13, h14, h15, h15a, h15b, h16, h17, h18⟩ := h
  obtain ⟨g1, o, x, g2, g3, g4, g5⟩ := h16 i hi
  have ho : o < sc.length := (List.getElem?_eq_some_iff.mp g2).1
  refine ⟨⟨o, x, g2, ?_, ?_, g5⟩, ?_⟩
  · rw [h4, g3, pk_sub (by omega), show sc.length - (sc.length - o) = o by omega]
  · have := sc_cl_td sc o
    rw [h3, g4, pk_sub (by omega), show sc_cl sc - sc_cl (sc.drop o) = sc_cl (sc.take o) by omega]
  · rcases g5 with ⟨-, h, -⟩ | ⟨-, _, _, _, -, -, -, -, -, -, -, -, h⟩ | ⟨-, h, -⟩
    · exact Or.inl h
    · rcases h with ⟨h, -⟩ | ⟨h, -⟩
      · exact Or.inl h
      · exact Or.inr (Or.inl h)
    · exact Or.inr (Or.inr h)
section FAC
variable {l : Launch} {D : va_G} {ρ : Nat → Nat} {τ : Nat → ClassId} {z : lm_T} {V : ai_V} {tx : Nat → Int32} {n hf : Nat} {sc : sc_T} {SC : Nat → sc_T} {m ns pr vr d dp F : Nat} {C R : ai_S} {p p' e nn k : Nat} {stk : List mf_T}
/-- the reference's round at a factor -/
theorem rd_fac (hk : k < 100000) (hq : mq R tx n hf p' nn ((39, 0, dp, 0, 0) :: stk)) (hst : stk.length < 70) (h : ai_met (lm_u z) (z.2.2.2.2.1 + 6) mX6_factor [.ref 0, .int (nI stk.length)] R (lm_V z) (ai_qv (lm_V z) (fun S => lm z S (k + 1)))) : lm z R k := by
  obtain ⟨hT, h2, hpn, h14, hhf, h15, hmf, h19⟩ := hq
  obtain ⟨⟨t13, t14, t15, t16, t17⟩, hml, h30⟩ := mf_top hmf
  dsimp only at t13 t14 t15 t16 t17
  exact lm_head hk h19 h30 (by omega) t13 (by omega) (fun h => by omega) (fun _ _ _ => ex_39 (by omega) t13 h) (fun _ h => by omega)
/-- its parts: what it does at the sign that stands there -/
theorem fac_num {G : ai_S → Prop} {f q hh : Nat} (hgh : hh ≤ 1 ∧ gh tx hh R) (hqh : 350 * hh ≤ q ∧ q + 1 < 350 * hh + 350) (hf80 : f < 80) (hT : mt_T R tx n) (h2 : R 0 2 = nI p) (hpn : p ≤ n) (h15 : R 0 15 = nI q) (hql : q + 1 < 700) (h30 : R 0 30 = nI (f + 1)) (hd0 : dgt tx n (px_s tx n p) 0)
    (hok : ∀ K, 1 ≤ K → K ≤ 9 → (∀ i, i < K → dgt tx n (px_s tx n p) i) → ¬ dgt tx n (px_s tx n p) K → px_s tx n p + K ≤ n → G (numR R (q + 1) f (nI (px_s tx n p + K)) (nv tx (px_s tx n p) K))) (hbad : (∀ i, i < 10 → dgt tx n (px_s tx n p) i) → ∀ R' : ai_S, bd tx R' → G R') : ai_met (uM l D ρ τ) (d + 1) mX6_factor [.ref 0, .int (nI f)] R V (ai_qv V G) := by
  have hc : px_c tx n (-1) (px_s tx n p) = tx (px_s tx n p) := by unfold px_c; rw [if_pos (by simpa using hd0.1)]
  have hd1 : 48 ≤ tx (px_s tx n p) := by simpa using hd0.2.1
  have hd2 : tx (px_s tx n p) ≤ 57 := by simpa using hd0.2.2
  have hlt : px_s tx n p < n := by simpa using hd0.1
  refine vX6_factor (sp_peek hT h2 hpn ⟨i_in hf80 (by omega), sp_within (fun _ _ => ai_zt ?_) (fun h => absurd ⟨by rw [hc]; exact hd1, by rw [hc]; exact hd2⟩ h)⟩)
  rw [ai_up_s, ai_up_up, nI_1, hc]
  have hv : tx (px_s tx n p) - 48 = nv tx (px_s tx n p) (min 1 9) := by
    show _ = 0 * 10 + (tx (px_s tx n p + 0) - 48)
    rw [Nat.add_zero, Int32.zero_mul, Int32.zero_add]
  rw [hv]
  refine num_M (q := q) (f := f) hql hqh 9 1 _ ⟨hgh.1, hgh.2.u (by omega)⟩ (by omega) (by omega) (fun i hi => by rw [show i = 0 by omega]; exact hd0) ⟨by rw [ai_up_n (by omega)]; exact hT.1, hT.2.1, fun i hi => by rw [ai_up_n (by omega)]; exact hT.2.2 i hi⟩ ai_up_s hlt (by rw [ai_up_n (by omega)]; exact h15) (by rw [ai_up_n (by omega)]; exact h30) (fun K h1 h3 h4 h5 h6 => ?_) hbad
  have := hok K h1 h3 h4 h5 h6
  unfold numR at this ⊢
  rw [ai_up_up]
  exact this
theorem fac_let {G : ai_S → Prop} {f : Nat} (hf80 : f < 80) (hT : mt_T R tx n) (h2 : R 0 2 = nI p) (hpn : p ≤ n) {c : Int32} (hc : px_c tx n (-1) (px_s tx n p) = c) (h97 : 97 ≤ c) (h122 : c ≤ 122)
    (hcall : px_c tx n (-1) (px_s tx n (px_s tx n p + 1)) = 40 → ai_met (uM l D ρ τ) (d + 2) mX6_use [.ref 0, .int 9, .int c] (ai_up R 0 2 (nI (px_s tx n (px_s tx n p + 1) + 1))) V (ai_qi V (fun x10 S11 => ai_met (uM l D ρ τ) (d + 2) mX6_openList [.ref 0, .int (nI f), .int 40, .int (R 15 f + 1)] (ai_up S11 14 f x10) V (ai_qv V (fun S13 => G S13)))))
    (hname : ¬ px_c tx n (-1) (px_s tx n (px_s tx n p + 1)) = 40 → ai_met (uM l D ρ τ) (d + 2) mX6_use [.ref 0, .int 8, .int c] (ai_up R 0 2 (nI (px_s tx n (px_s tx n p + 1)))) V (ai_qi V (fun x14 S15 => ai_met (uM l D ρ τ) (d + 2) mX6_done [.ref 0, .int x14] S15 V (ai_qv V (fun S17 => G S17))))) : ai_met (uM l D ρ τ) (d + 3) mX6_factor [.ref 0, .int (nI f)] R V (ai_qv V G) := by
  have hlt : px_s tx n p < n := px_lt hc (fun h => by rw [h] at h97; exact absurd h97 (by decide))
  refine vX6_factor (sp_peek hT h2 hpn ⟨i_in hf80 (by omega), sp_within (fun _ h57 => ?_) (fun _ => ai_zf ?_)⟩)
  · rw [hc] at h57
    exact absurd (Int32.le_trans h97 h57) (by decide)
  rw [ai_up_s, ai_up_up, nI_1, hc, nI_clamp (show f < 2 ^ 31 by omega), ai_up_n (by omega)]
  refine sp_isLetter (fun _ _ => ai_zt ?_) (fun h => absurd ⟨h97, h122⟩ h)
  refine sp_eat (tx := tx) (p := px_s tx n p + 1) ⟨by rw [ai_up_n (by omega)]; exact hT.1, hT.2.1, fun i hi => by rw [ai_up_n (by omega)]; exact hT.2.2 i hi⟩ ai_up_s hlt (fun h => ai_zt ?_) (fun h => ai_zf ?_)
  · rw [ai_up_up]; exact hcall h
  · rw [ai_up_up]; exact hname h
theorem fac_par {G : ai_S → Prop} {f q : Nat} (hf80 : f < 78) (hT : mt_T R tx n) (h2 : R 0 2 = nI p) (hpn : p ≤ n) (h15 : R 0 15 = nI q) (hql : q + 1 < 700) (h30 : R 0 30 = nI (f + 1)) (hdd : R 15 f = nI dp) (hc : px_c tx n (-1) (px_s tx n p) = 40)
    (hG : G (mpush (ai_up (ai_up (mfresh (ai_up R 0 2 (nI (px_s tx n p + 1))) (q + 1) 13) 14 f (nI (q + 1))) 13 f 41) (f + 1) 30 (nI (dp + 1)))) : ai_met (uM l D ρ τ) (d + 2) mX6_factor [.ref 0, .int (nI f)] R V (ai_qv V G) := by
  refine vX6_factor (sp_peek hT h2 hpn ⟨i_in (by omega) (by omega), sp_within (fun h _ => ?_) (fun _ => ai_zf ?_)⟩)
  · rw [hc] at h; exact absurd h (by decide)
  rw [ai_up_s, ai_up_up, nI_1, hc, nI_clamp (show f < 2 ^ 31 by omega), ai_up_n (by omega), hdd, nI_1]
  refine sp_isLetter (fun h _ => absurd h (by decide)) (fun _ => ai_zf ⟨fun h => absurd rfl h, fun _ => ?_⟩)
  refine sp_fresh (q := q) (by rw [ai_up_n (by omega)]; exact h15) hql ?_
  exact sp_push (f := f + 1) (by rw [ai_up_n (by omega), ai_up_n (by omega)]; simp [mfresh, ai_up_eq]; exact h30) (by omega) hG
theorem fac_bad {G : ai_S → Prop} {f hh : Nat} (hgh : hh ≤ 1 ∧ gh tx hh R) (hf80 : f < 80) (hT : mt_T R tx n) (h2 : R 0 2 = nI p) (hpn : p ≤ n) {c : Int32} (hc : px_c tx n (-1) (px_s tx n p) = c) (h1 : ¬ (48 ≤ c ∧ c ≤ 57)) (h3 : ¬ (97 ≤ c ∧ c ≤ 122)) (h4 : ¬ c = 40) (hG : ∀ R' : ai_S, bd tx R' → G R') : ai_met (uM l D ρ τ) (d + 2) mX6_factor [.ref 0, .int (nI f)] R V (ai_qv V G) := by
  refine vX6_factor (sp_peek hT h2 hpn ⟨i_in hf80 (by omega), sp_within (fun a b => absurd ⟨by rw [← hc]; exact a, by rw [← hc]; exact b⟩ h1) (fun _ => ai_zf ?_)⟩)
  rw [hc]
  exact sp_isLetter (fun a b => absurd ⟨a, b⟩ h3) (fun _ => ai_zf ⟨fun _ => hG _ (bd_of hgh (fun g => by (repeat with_reducible refine gh.u ?_ (by omega)); exact g) (by simp [ai_up_eq])), fun h => absurd h h4⟩)
end FAC
