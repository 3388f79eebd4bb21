/-! ===== the reference's rounds at the beginning of a statement ===== -/
def oR (R : ai_S) (dp q : Nat) : ai_S := ai_up (ai_up (ai_up R 0 24 (if R 0 24 < nI dp then nI dp else R 0 24)) 0 23 (R 0 23 + 1)) 0 2 (nI q)
theorem oR_o {R : ai_S} {dp q a i : Nat} (h : ¬ (a = 0 ∧ (i = 2 ∨ i = 23 ∨ i = 24))) : oR R dp q a i = R a i := by
  unfold oR
  rw [ai_up_n (by omega), ai_up_n (by omega), ai_up_n (by omega)]
theorem oR_2 {R : ai_S} {dp q : Nat} : oR R dp q 0 2 = nI q := ai_up_s
theorem oR_up {R : ai_S} {dp q q' : Nat} : ai_up (oR R dp q) 0 2 (nI q') = oR R dp q' := by unfold oR; rw [ai_up_up]
theorem oR_T {R : ai_S} {dp q n : Nat} {tx : Nat → Int32} (h : mt_T R tx n) : mt_T (oR R dp q) tx n := ⟨by rw [oR_o (by omega)]; exact h.1, h.2.1, fun i hi => by rw [oR_o (by omega)]; exact h.2.2 i hi⟩
theorem gh.o {tx : Nat → Int32} {R : ai_S} {hh dp q : Nat} (g : gh tx hh R) : gh tx hh (oR R dp q) := g.fr (fun a i h1 _ _ _ => oR_o (by omega))
section OST
variable {l : Launch} {D : va_G} {ρ : Nat → Nat} {τ : Nat → ClassId} {d : Nat} {V : ai_V} {tx : Nat → Int32} {n p f dp q0 : Nat} {R : ai_S} {G : ai_S → Prop}
theorem os_pre (hf : f < 80) (hT : mt_T R tx n) (h2 : R 0 2 = nI p) (hpn : p ≤ n) (h15 : R 15 f = nI dp) (hdp : dp ≤ 10) (hM : ai_met (uM l D ρ τ) (d + 1) mX6_isLetter [.ref 0, .int (px_c tx n (-1) (px_s tx n p))] (oR R dp (px_s tx n p + 1)) V (ai_qz V (fun b6 S7 => (b6 = true → ai_met (uM l D ρ τ) (d + 1) mX6_eat [.ref 0, .int 61] S7 V (ai_qz V (fun b8 S9 => (b8 = true → ai_met (uM l D ρ τ) (d + 1) mX6_use [.ref 0, .int 1, .int (px_c tx n (-1) (px_s tx n p))] S9 V (ai_qi V (fun x10 S11 => ai_met (uM l D ρ τ) (d + 1) mX6_push [.ref 0, .int 30, .int (nI (dp + 1))] (ai_up (ai_up S11 14 f x10) 13 f 11) V (ai_qv V (fun S13 => G S13))))) ∧ (b8 = false → ai_met (uM l D ρ τ) (d + 1) mX6_eat [.ref 0, .int 40] S9 V (ai_qz V (fun b14 S15 => (b14 = true → ai_met (uM l D ρ τ) (d + 1) mX6_use [.ref 0, .int 2, .int (px_c tx n (-1) (px_s tx n p))] S15 V (ai_qi V (fun x16 S17 => ai_met (uM l D ρ τ) (d + 1) mX6_openList [.ref 0, .int (nI f), .int 12, .int (nI (dp + 1))] (ai_up S17 14 f x16) V (ai_qv V (fun S19 => G S19))))) ∧ (b14 = false → G (ai_up S15 0 19 1)))))))) ∧ (b6 = false → ((¬ (px_c tx n (-1) (px_s tx n p)) = 33 → (((px_c tx n (-1) (px_s tx n p)) = 63 → ai_met (uM l D ρ τ) (d + 1) mX6_eat [.ref 0, .int 40] S7 V (ai_qz V (fun b22 S23 => (b22 = true → ai_met (uM l D ρ τ) (d + 1) mX6_fresh [.ref 0, .int 4] S23 V (ai_qi V (fun x24 S25 => ai_met (uM l D ρ τ) (d + 1) mX6_push [.ref 0, .int 30, .int (nI (dp + 1))] (ai_up (ai_up S25 14 f x24) 13 f 14) V (ai_qv V (fun S27 => G S27))))) ∧ (b22 = false → ai_met (uM l D ρ τ) (d + 1) mX6_fresh [.ref 0, .int 4] (ai_up S23 0 19 1) V (ai_qi V (fun x28 S29 => ai_met (uM l D ρ τ) (d + 1) mX6_push [.ref 0, .int 30, .int (nI (dp + 1))] (ai_up (ai_up S29 14 f x28) 13 f 14) V (ai_qv V (fun S31 => G S31)))))))) ∧ (¬ (px_c tx n (-1) (px_s tx n p)) = 63 → ((¬ (px_c tx n (-1) (px_s tx n p)) = 42 → ((¬ (px_c tx n (-1) (px_s tx n p)) = 123 → G (ai_up S7 0 19 1)) ∧ ((px_c tx n (-1) (px_s tx n p)) = 123 → ai_met (uM l D ρ τ) (d + 1) mX6_fresh [.ref 0, .int 6] S7 V (ai_qi V (fun x34 S35 => G (ai_up (ai_up (ai_up S35 14 f x34) 0 37 ((S35 0 37) + 1)) 13 f 19)))))) ∧ ((px_c tx n (-1) (px_s tx n p)) = 42 → ai_met (uM l D ρ τ) (d + 1) mX6_eat [.ref 0, .int 40] S7 V (ai_qz V (fun b36 S37 => (b36 = true → ai_met (uM l D ρ τ) (d + 1) mX6_fresh [.ref 0, .int 5] S37 V (ai_qi V (fun x38 S39 => ai_met (uM l D ρ τ) (d + 1) mX6_push [.ref 0, .int 30, .int (nI (dp + 1))] (ai_up (ai_up S39 14 f x38) 13 f 14) V (ai_qv V (fun S41 => G S41))))) ∧ (b36 = false → ai_met (uM l D ρ τ) (d + 1) mX6_fresh [.ref 0, .int 5] (ai_up S37 0 19 1) V (ai_qi V (fun x42 S43 => ai_met (uM l D ρ τ) (d + 1) mX6_push [.ref 0, .int 30, .int (nI (dp + 1))] (ai_up (ai_up S43 14 f x42) 13 f 14) V (ai_qv V (fun S45 => G S45)))))))))))) ∧ ((px_c tx n (-1) (px_s tx n p)) = 33 → ai_met (uM l D ρ τ) (d + 1) mX6_fresh [.ref 0, .int 3] S7 V (ai_qi V (fun x46 S47 => ai_met (uM l D ρ τ) (d + 1) mX6_push [.ref 0, .int 30, .int (nI (dp + 1))] (ai_up (ai_up S47 14 f x46) 13 f 11) V (ai_qv V (fun S49 => G S49)))))))))) : ai_met (uM l D ρ τ) (d + 2) mX6_openStatement [.ref 0, .int (nI f)] R V (ai_qv V G) := by
  refine vX6_openStatement (sp_peek hT h2 hpn ⟨i_in hf (by omega), ?_⟩)
  rw [nI_clamp (show f < 2 ^ 31 by omega), show ai_up R 0 2 (nI (px_s tx n p)) 15 f = nI dp by rw [ai_up_n (by omega)]; exact h15, nI_1 dp]
  refine sp_goDeeper hf (by rw [ai_up_n (by omega)]; exact h15) (by omega) (fun _ => ?_) (fun h => absurd hdp h)
  have e : ∀ X : ai_S, X = ai_up (ai_up R 0 2 (nI (px_s tx n p))) 0 24 (if ai_up R 0 2 (nI (px_s tx n p)) 0 24 < nI dp then nI dp else ai_up R 0 2 (nI (px_s tx n p)) 0 24) → ai_up (ai_up X 0 23 (X 0 23 + 1)) 0 2 (X 0 2 + 1) = oR R dp (px_s tx n p + 1) := by
    intro X hX
    have x24 : ai_up R 0 2 (nI (px_s tx n p)) 0 24 = R 0 24 := ai_up_n (by omega)
    rw [x24] at hX
    have x23 : X 0 23 = R 0 23 := by rw [hX, ai_up_n (by omega), ai_up_n (by omega)]
    have x2 : X 0 2 = nI (px_s tx n p) := by rw [hX, ai_up_n (by omega), ai_up_s]
    rw [x23, x2, nI_1, hX]
    unfold oR
    rw [ai_up_comm (by omega : ¬ (0 = 0 ∧ 2 = 24)), ai_up_comm (by omega : ¬ (0 = 0 ∧ 2 = 23)), ai_up_up]
  rw [e _ rfl]
  exact hM

theorem os_let {hh : Nat} (hgh : hh ≤ 1 ∧ gh tx hh R) (hf : f < 80) (hT : mt_T R tx n) (h2 : R 0 2 = nI p) (hpn : p ≤ n) (h15 : R 15 f = nI dp) (hdp : dp ≤ 10) {c : Int32} (hc : px_c tx n (-1) (px_s tx n p) = c) (h97 : 97 ≤ c) (h122 : c ≤ 122)
    (hasg : px_c tx n (-1) (px_s tx n (px_s tx n p + 1)) = 61 → ai_met (uM l D ρ τ) (d + 1) mX6_use [.ref 0, .int 1, .int c] (oR R dp (px_s tx n (px_s tx n p + 1) + 1)) V (ai_qi V (fun x10 S11 => ai_met (uM l D ρ τ) (d + 1) mX6_push [.ref 0, .int 30, .int (nI (dp + 1))] (ai_up (ai_up S11 14 f x10) 13 f 11) V (ai_qv V (fun S13 => G S13)))))
    (hcall : px_c tx n (-1) (px_s tx n (px_s tx n p + 1)) = 40 → ai_met (uM l D ρ τ) (d + 1) mX6_use [.ref 0, .int 2, .int c] (oR R dp (px_s tx n (px_s tx n p + 1) + 1)) V (ai_qi V (fun x16 S17 => ai_met (uM l D ρ τ) (d + 1) mX6_openList [.ref 0, .int (nI f), .int 12, .int (nI (dp + 1))] (ai_up S17 14 f x16) V (ai_qv V (fun S19 => G S19)))))
    (hbad : ¬ px_c tx n (-1) (px_s tx n (px_s tx n p + 1)) = 61 → ¬ px_c tx n (-1) (px_s tx n (px_s tx n p + 1)) = 40 → ∀ R' : ai_S, bd tx R' → G R') : ai_met (uM l D ρ τ) (d + 2) mX6_openStatement [.ref 0, .int (nI f)] R V (ai_qv V G) := by
  have hlt : px_s tx n p < n := px_lt hc (fun h => by rw [h] at h97; exact absurd h97 (by decide))
  refine os_pre hf hT h2 hpn h15 hdp ?_
  rw [hc]
  have hss := px_s_s tx n (px_s tx n p + 1)
  have hsn : px_s tx n (px_s tx n p + 1) ≤ n := px_s_le tx hlt
  refine sp_isLetter (fun _ _ => ai_zt ?_) (fun h => absurd ⟨h97, h122⟩ h)
  refine sp_eat (oR_T hT) oR_2 hlt (fun h => ai_zt ?_) (fun h => ai_zf ?_)
  · rw [oR_up]; exact hasg h
  · rw [oR_up]
    refine sp_eat (oR_T hT) oR_2 hsn (fun h3 => ai_zt ?_) (fun h3 => ai_zf ?_)
    · rw [oR_up, hss]; rw [hss] at h3; exact hcall h3
    · rw [hss] at h3; exact hbad h h3 _ (bd_of hgh (fun g => by (repeat with_reducible refine gh.u ?_ (by omega)); exact g.o) (by simp [ai_up_eq]))
theorem os_prt (hf : f < 78) (hT : mt_T R tx n) (h2 : R 0 2 = nI p) (hpn : p ≤ n) (h15 : R 15 f = nI dp) (hdp : dp ≤ 10) (hq : R 0 15 = nI q0) (hql : q0 + 1 < 700) (h30 : R 0 30 = nI (f + 1)) (hc : px_c tx n (-1) (px_s tx n p) = 33)
    (hG : G (mpush (ai_up (ai_up (mfresh (oR R dp (px_s tx n p + 1)) (q0 + 1) 3) 14 f (nI (q0 + 1))) 13 f 11) (f + 1) 30 (nI (dp + 1)))) : ai_met (uM l D ρ τ) (d + 2) mX6_openStatement [.ref 0, .int (nI f)] R V (ai_qv V G) := by
  refine os_pre (by omega) hT h2 hpn h15 hdp ?_
  rw [hc]
  refine sp_isLetter (fun h _ => absurd h (by decide)) (fun _ => ai_zf ⟨fun h => absurd rfl h, fun _ => sp_fresh (q := q0) (by rw [oR_o (by omega)]; exact hq) hql ?_⟩)
  exact sp_push (f := f + 1) (by rw [ai_up_n (by omega), ai_up_n (by omega)]; simp [mfresh, ai_up_eq]; rw [oR_o (by omega)]; exact h30) (by omega) hG
theorem os_cnd {hh : Nat} (hgh : hh ≤ 1 ∧ gh tx hh R) (hqh : 350 * hh ≤ q0 ∧ q0 + 1 < 350 * hh + 350) (hf : f < 78) (hT : mt_T R tx n) (h2 : R 0 2 = nI p) (hpn : p ≤ n) (h15 : R 15 f = nI dp) (hdp : dp ≤ 10) (hq : R 0 15 = nI q0) (hql : q0 + 1 < 700) (h30 : R 0 30 = nI (f + 1)) {t : Int32} (hc : px_c tx n (-1) (px_s tx n p) = 63 ∧ t = 4 ∨ px_c tx n (-1) (px_s tx n p) = 42 ∧ t = 5)
    (hG : px_c tx n (-1) (px_s tx n (px_s tx n p + 1)) = 40 → G (mpush (ai_up (ai_up (mfresh (oR R dp (px_s tx n (px_s tx n p + 1) + 1)) (q0 + 1) t) 14 f (nI (q0 + 1))) 13 f 14) (f + 1) 30 (nI (dp + 1)))) (hbad : ¬ px_c tx n (-1) (px_s tx n (px_s tx n p + 1)) = 40 → ∀ R' : ai_S, bd tx R' → G R') : ai_met (uM l D ρ τ) (d + 2) mX6_openStatement [.ref 0, .int (nI f)] R V (ai_qv V G) := by
  have hlt : px_s tx n p < n := by
    rcases hc with ⟨h, _⟩ | ⟨h, _⟩
    · exact px_lt h (by decide)
    · exact px_lt h (by decide)
  have hsn : px_s tx n (px_s tx n p + 1) ≤ n := px_s_le tx hlt
  have hM : ∀ t : Int32, (px_c tx n (-1) (px_s tx n (px_s tx n p + 1)) = 40 → G (mpush (ai_up (ai_up (mfresh (oR R dp (px_s tx n (px_s tx n p + 1) + 1)) (q0 + 1) t) 14 f (nI (q0 + 1))) 13 f 14) (f + 1) 30 (nI (dp + 1)))) → ai_met (uM l D ρ τ) (d + 1) mX6_eat [.ref 0, .int 40] (oR R dp (px_s tx n p + 1)) V (ai_qz V (fun b22 S23 => (b22 = true → ai_met (uM l D ρ τ) (d + 1) mX6_fresh [.ref 0, .int t] S23 V (ai_qi V (fun x24 S25 => ai_met (uM l D ρ τ) (d + 1) mX6_push [.ref 0, .int 30, .int (nI (dp + 1))] (ai_up (ai_up S25 14 f x24) 13 f 14) V (ai_qv V (fun S27 => G S27))))) ∧ (b22 = false → ai_met (uM l D ρ τ) (d + 1) mX6_fresh [.ref 0, .int t] (ai_up S23 0 19 1) V (ai_qi V (fun x28 S29 => ai_met (uM l D ρ τ) (d + 1) mX6_push [.ref 0, .int 30, .int (nI (dp + 1))] (ai_up (ai_up S29 14 f x28) 13 f 14) V (ai_qv V (fun S31 => G S31))))))) := by
    intro t hg
    refine sp_eat (oR_T hT) oR_2 hlt (fun h => ai_zt ?_) (fun h => ai_zf ?_)
    · rw [oR_up]
      refine sp_fresh (q := q0) (by rw [oR_o (by omega)]; exact hq) hql ?_
      exact sp_push (f := f + 1) (by rw [ai_up_n (by omega), ai_up_n (by omega)]; simp [mfresh, ai_up_eq]; rw [oR_o (by omega)]; exact h30) (by omega) (hg h)
    · rw [oR_up]
      refine sp_fresh (q := q0) (by rw [ai_up_n (by omega), oR_o (by omega)]; exact hq) hql ?_
      exact sp_push (f := f + 1) (by rw [ai_up_n (by omega), ai_up_n (by omega)]; simp [mfresh, ai_up_eq]; rw [oR_o (by omega)]; exact h30) (by omega) (hbad h _ (bd_of hgh (fun g => by unfold mpush mfresh; (repeat with_reducible refine gh.u ?_ (by omega)); exact g.o) (by simp [mpush, mfresh, ai_up_eq])))
  refine os_pre (by omega) hT h2 hpn h15 hdp ?_
  rcases hc with ⟨hc, ht⟩ | ⟨hc, ht⟩
  · rw [hc]
    subst ht
    exact sp_isLetter (fun h _ => absurd h (by decide)) (fun _ => ai_zf ⟨fun _ => ⟨fun _ => hM 4 hG, fun h => absurd rfl h⟩, fun h => absurd h (by decide)⟩)
  · rw [hc]
    subst ht
    exact sp_isLetter (fun h _ => absurd h (by decide)) (fun _ => ai_zf ⟨fun _ => ⟨fun h => absurd h (by decide), fun _ => ⟨fun h => absurd rfl h, fun _ => hM 5 hG⟩⟩, fun h => absurd h (by decide)⟩)
theorem os_blk (hf : f < 80) (hT : mt_T R tx n) (h2 : R 0 2 = nI p) (hpn : p ≤ n) (h15 : R 15 f = nI dp) (hdp : dp ≤ 10) (hq : R 0 15 = nI q0) (hql : q0 + 1 < 700) (hc : px_c tx n (-1) (px_s tx n p) = 123)
    (hG : G (ai_up (ai_up (ai_up (mfresh (oR R dp (px_s tx n p + 1)) (q0 + 1) 6) 14 f (nI (q0 + 1))) 0 37 (R 0 37 + 1)) 13 f 19)) : ai_met (uM l D ρ τ) (d + 2) mX6_openStatement [.ref 0, .int (nI f)] R V (ai_qv V G) := by
  refine os_pre (by omega) hT h2 hpn h15 hdp ?_
  rw [hc]
  refine sp_isLetter (fun _ h => absurd h (by decide)) (fun _ => ai_zf ⟨fun _ => ⟨fun h => absurd h (by decide), fun _ => ⟨fun _ => ⟨fun h => absurd rfl h, fun _ => sp_fresh (q := q0) (by rw [oR_o (by omega)]; exact hq) hql ?_⟩, fun h => absurd h (by decide)⟩⟩, fun h => absurd h (by decide)⟩)
  rw [show mfresh (oR R dp (px_s tx n p + 1)) (q0 + 1) 6 0 37 = R 0 37 by simp [mfresh, ai_up_eq]; rw [oR_o (by omega)]]
  exact hG
theorem os_bad {hh : Nat} (hgh : hh ≤ 1 ∧ gh tx hh R) (hf : f < 80) (hT : mt_T R tx n) (h2 : R 0 2 = nI p) (hpn : p ≤ n) (h15 : R 15 f = nI dp) (hdp : dp ≤ 10) {c : Int32} (hc : px_c tx n (-1) (px_s tx n p) = c) (h1 : ¬ (97 ≤ c ∧ c ≤ 122)) (h3 : ¬ c = 33) (h4 : ¬ c = 63) (h5 : ¬ c = 42) (h6 : ¬ c = 123) (hG : ∀ R' : ai_S, bd tx R' → G R') : ai_met (uM l D ρ τ) (d + 2) mX6_openStatement [.ref 0, .int (nI f)] R V (ai_qv V G) := by
  refine os_pre (by omega) hT h2 hpn h15 hdp ?_
  rw [hc]
  exact sp_isLetter (fun a b => absurd ⟨a, b⟩ h1) (fun _ => ai_zf ⟨fun _ => ⟨fun h => absurd h h4, fun _ => ⟨fun _ => ⟨fun _ => hG _ (bd_of hgh (fun g => by (repeat with_reducible refine gh.u ?_ (by omega)); exact g.o) (by simp [ai_up_eq])), fun h => absurd h h6⟩, fun h => absurd h h5⟩⟩, fun h => absurd h h3⟩)
end OST
