/-! ===== the reference's rounds in a block ===== -/
/-- in the midst of a block's round: it looks at what comes -/
def bk (z : lm_T) (R : ai_S) (k f dd : Nat) : Prop := ai_W (lm_u z) (z.2.2.2.2.1 + 6) mX6_block 54 [(0, .ref 0), (1, .int (nI f)), (2, .int (nI dd))] [] R (lm_V z) (ai_qv (lm_V z) (fun S => lm z S (k + 1)))
section BLK
variable {z : lm_T} {R : ai_S} {k f dp : Nat}
theorem on_bk {l : Launch} {D : va_G} {ρ : Nat → Nat} {τ : Nat → ClassId} {d : Nat} {V : ai_V} {G : ai_S → Prop} {c : Nat} (hf : f < 70) (h13 : R 13 f = nI c) (hc : c = 19 ∨ c = 20 ∨ c = 22) (h15 : R 15 f = nI dp) (h : ai_met (uM l D ρ τ) d mX6_block [.ref 0, .int (nI f), .int (nI (dp + 1))] R V (ai_qv V (fun S => G S))) : ai_met (uM l D ρ τ) (d + 1) mX6_onward [.ref 0, .int (nI f)] R V (ai_qv V G) := by
  refine vX6_onward ⟨i_in (by omega) (by omega), ?_⟩
  rw [nI_clamp (show f < 2 ^ 31 by omega), h13, h15, nI_1 dp]
  rcases hc with rfl | rfl | rfl
  · exact ⟨fun h => absurd h (by decide), fun h => absurd h (by decide), fun h => absurd h (by decide), fun h => absurd h (by decide), fun h => absurd h (by decide), fun h => absurd h (by decide), fun _ => h⟩
  · exact ⟨fun h => absurd h (by decide), fun h => absurd h (by decide), fun h => absurd h (by decide), fun h => absurd h (by decide), fun h => absurd h (by decide), fun h => absurd h (by decide), fun _ => h⟩
  · exact ⟨fun h => absurd h (by decide), fun h => absurd h (by decide), fun h => absurd h (by decide), fun h => absurd h (by decide), fun h => absurd h (by decide), fun h => absurd h (by decide), fun _ => h⟩
theorem bk_19 (hk : k < 100000) (h19 : R 0 19 = 0) (h30 : R 0 30 = nI (f + 1)) (hf : f < 70) (h13 : R 13 f = nI 19) (h15 : R 15 f = nI dp) (h : bk z R k f (dp + 1)) : lm z R k := by
  refine lm_head hk h19 h30 (by omega) h13 (by omega) (fun h => by omega) (fun _ h _ => by omega) (fun _ _ => on_bk hf h13 (Or.inl rfl) h15 (vX6_block ⟨i_in (by omega) (by omega), ?_⟩))
  rw [nI_clamp (show f < 2 ^ 31 by omega), h13]
  refine ⟨fun _ => vX6_block_38 ⟨i_in (by omega) (by omega), ?_⟩, fun h => absurd h (by decide)⟩
  rw [nI_clamp (show f < 2 ^ 31 by omega), h13]
  exact ⟨fun _ => h, fun h => absurd h (by decide)⟩
theorem bk_22 {nd ls x : Nat} (hk : k < 100000) (h19 : R 0 19 = 0) (h30 : R 0 30 = nI (f + 1)) (hf : f < 70) (h13 : R 13 f = nI 22) (h15 : R 15 f = nI dp) (h14 : R 14 f = nI nd) (hnd : nd < 700) (h16 : R 16 f = nI ls) (hl : ls < 700) (hg : R 0 31 = nI x) (h : bk z (hook R f nd ls x) k f (dp + 1)) : lm z R k := by
  refine lm_head hk h19 h30 (by omega) h13 (by omega) (fun h => by omega) (fun _ h _ => by omega) (fun _ _ => on_bk hf h13 (Or.inr (Or.inr rfl)) h15 (vX6_block ⟨i_in (by omega) (by omega), ?_⟩))
  rw [nI_clamp (show f < 2 ^ 31 by omega), h13]
  refine ⟨fun _ => vX6_block_38 ⟨i_in (by omega) (by omega), ?_⟩, fun h => absurd h (by decide)⟩
  rw [nI_clamp (show f < 2 ^ 31 by omega), h13]
  exact ⟨fun h => absurd (by decide) h, fun _ => sp_hook (by omega) h16 hl h14 hnd hg h⟩
theorem bk_20 {q m mk : Nat} {g : Int32} (hk : k < 100000) (h19 : R 0 19 = 0) (h30 : R 0 30 = nI (f + 1)) (hf : f < 70) (h13 : R 13 f = nI 20) (h15 : R 15 f = nI dp) (h17 : R 17 f = nI q) (hq : q < 32) (hg : R 0 31 = g) (h36 : R 0 36 = nI m) (hm : m < 160) (hmk : mk ≤ m) (h1 : ∀ i, mk ≤ i → i < m → R 21 i = R 0 37) (h2 : ∀ i, i < mk → ¬ R 21 i = R 0 37) (h : bk z (ai_up (ai_up (ai_up (ai_up R 9 q g) 0 36 (nI mk)) 0 37 (R 0 37 - 1)) 13 f 19) k f (dp + 1)) : lm z R k := by
  refine lm_head hk h19 h30 (by omega) h13 (by omega) (fun h => by omega) (fun _ h _ => by omega) (fun _ _ => on_bk hf h13 (Or.inr (Or.inl rfl)) h15 (vX6_block ⟨i_in (by omega) (by omega), ?_⟩))
  rw [nI_clamp (show f < 2 ^ 31 by omega), h13, h17, nI_clamp (show q < 2 ^ 31 by omega), hg]
  refine ⟨fun h => absurd (by decide) h, fun _ => ⟨i_in hq (by omega), ?_⟩⟩
  refine sp_leave (m := m) (mk := mk) (by rw [ai_up_n (by omega)]; exact h36) hm hmk (fun i a b => by rw [ai_up_n (by omega), ai_up_n (by omega)]; exact h1 i a b) (fun i a => by rw [ai_up_n (by omega), ai_up_n (by omega)]; exact h2 i a) (vX6_block_38 ⟨i_in (by omega) (by omega), ?_⟩)
  rw [nI_clamp (show f < 2 ^ 31 by omega), ai_up_s, ai_up_n (by omega : ¬ (0 = 9 ∧ 37 = q))]
  exact ⟨fun _ => h, fun h => absurd h (by decide)⟩
variable {tx : Nat → Int32} {n p nd dd : Nat}
/-- the end of the block -/
theorem bk_end {c m mk : Nat} (hf : f < 70) (hT : mt_T R tx n) (hp : R 0 2 = nI p) (hpn : p ≤ n) (h13 : R 13 f = nI c) (hc : c = 19 ∨ c = 22) (h14 : R 14 f = nI nd) (h30 : R 0 30 = nI (f + 1)) (h36 : R 0 36 = nI m) (hm : m < 160) (hmk : mk ≤ m) (h1 : ∀ i, mk ≤ i → i < m → R 21 i = R 0 37) (h2 : ∀ i, i < mk → ¬ R 21 i = R 0 37) (h125 : px_c tx n (-1) (px_s tx n p) = 125)
    (h : lm z (ai_up (ai_up (ai_up (ai_up (ai_up R 0 2 (nI (px_s tx n p + 1))) 0 36 (nI mk)) 0 37 (R 0 37 - 1)) 0 31 (nI nd)) 0 30 (nI f)) (k + 1)) : bk z R k f dd := by
  have hM : ai_met (lm_u z) (z.2.2.2.2.1 + 5) mX6_leave [.ref 0] (ai_up (ai_up R 0 2 (nI (px_s tx n p))) 0 2 (ai_up R 0 2 (nI (px_s tx n p)) 0 2 + 1)) (lm_V z) (ai_qv (lm_V z) (fun S9 => ai_met (lm_u z) (z.2.2.2.2.1 + 5) mX6_done [.ref 0, .int (S9 14 f)] S9 (lm_V z) (ai_qv (lm_V z) (fun S11 => lm z S11 (k + 1))))) := by
    rw [ai_up_s, ai_up_up, nI_1]
    refine sp_leave (m := m) (mk := mk) (by rw [ai_up_n (by omega)]; exact h36) hm hmk (fun i a b => by rw [ai_up_n (by omega), ai_up_n (by omega)]; exact h1 i a b) (fun i a => by rw [ai_up_n (by omega), ai_up_n (by omega)]; exact h2 i a) ?_
    rw [ai_up_n (by omega : ¬ (0 = 0 ∧ 37 = 2)), ai_up_n (by omega), ai_up_n (by omega), ai_up_n (by omega), h14]
    exact sp_done (by rw [ai_up_n (by omega), ai_up_n (by omega), ai_up_n (by omega)]; exact h30) h
  refine vX6_block_54 (sp_peek hT hp hpn ⟨i_in (by omega) (by omega), ?_⟩)
  rw [nI_clamp (show f < 2 ^ 31 by omega), ai_up_n (by omega : ¬ (13 = 0 ∧ f = 2)), h13, h125]
  rcases hc with rfl | rfl
  · exact ⟨fun h => absurd (by decide) h, fun _ => ⟨fun _ => ⟨fun _ => ⟨fun h => absurd rfl h, fun _ => hM⟩, fun h => absurd h (by decide)⟩, fun h => absurd h (by decide)⟩⟩
  · exact ⟨fun _ => ⟨fun h => absurd rfl h, fun _ => hM⟩, fun h => absurd h (by decide)⟩
/-- one more statement -/
theorem bk_stm {c : Nat} (hf : f < 70) (hT : mt_T R tx n) (hp : R 0 2 = nI p) (hpn : p ≤ n) (h13 : R 13 f = nI c) (hc : c = 22 ∨ c = 19 ∧ ¬ px_c tx n (-1) (px_s tx n p) = 36 ∧ ¬ px_c tx n (-1) (px_s tx n p) = 64) (h30 : R 0 30 = nI (f + 1)) (h125 : ¬ px_c tx n (-1) (px_s tx n p) = 125)
    (h : lm z (mpush (ai_up (ai_up R 0 2 (nI (px_s tx n p))) 13 f 22) (f + 1) 10 (nI dd)) (k + 1)) : bk z R k f dd := by
  have hM : ai_met (lm_u z) (z.2.2.2.2.1 + 5) mX6_push [.ref 0, .int 10, .int (nI dd)] (ai_up (ai_up R 0 2 (nI (px_s tx n p))) 13 f 22) (lm_V z) (ai_qv (lm_V z) (fun S7 => lm z S7 (k + 1))) := sp_push (f := f + 1) (by rw [ai_up_n (by omega), ai_up_n (by omega)]; exact h30) (by omega) h
  refine vX6_block_54 (sp_peek hT hp hpn ⟨i_in (by omega) (by omega), ?_⟩)
  rw [nI_clamp (show f < 2 ^ 31 by omega), ai_up_n (by omega : ¬ (13 = 0 ∧ f = 2)), h13]
  rcases hc with rfl | ⟨rfl, h36, h64⟩
  · exact ⟨fun _ => ⟨fun _ => hM, fun h => absurd h h125⟩, fun h => absurd h (by decide)⟩
  · exact ⟨fun h => absurd (by decide) h, fun _ => ⟨fun _ => ⟨fun _ => ⟨fun _ => hM, fun h => absurd h h125⟩, fun h => absurd h h64⟩, fun h => absurd h h36⟩⟩
/-- a procedure -/
theorem bk_prc (hf : f < 70) (hT : mt_T R tx n) (hp : R 0 2 = nI p) (hpn : p ≤ n) (h13 : R 13 f = nI 19) (h64 : px_c tx n (-1) (px_s tx n p) = 64)
    (h : ai_met (lm_u z) (z.2.2.2.2.1 + 5) mX6_heading [.ref 0, .int (nI f), .int (nI dd)] (ai_up R 0 2 (nI (px_s tx n p + 1))) (lm_V z) (ai_qv (lm_V z) (fun S => lm z S (k + 1)))) : bk z R k f dd := by
  refine vX6_block_54 (sp_peek hT hp hpn ⟨i_in (by omega) (by omega), ?_⟩)
  rw [nI_clamp (show f < 2 ^ 31 by omega), ai_up_n (by omega : ¬ (13 = 0 ∧ f = 2)), h13, h64, ai_up_s, ai_up_up, nI_1]
  exact ⟨fun h => absurd (by decide) h, fun _ => ⟨fun _ => ⟨fun h => absurd rfl h, fun _ => h⟩, fun h => absurd h (by decide)⟩⟩
/-- a variable -/
theorem bk_var {m mk cnt vr hh : Nat} (hgh : hh ≤ 1 ∧ gh tx hh R) (hf : f < 70) (hT : mt_T R tx n) (hp : R 0 2 = nI p) (hpn : p ≤ n) (h13 : R 13 f = nI 19) (h14 : R 14 f = nI nd) (hnd : nd < 700) (h19 : R 0 19 = 0) (h36' : R 0 36 = nI m) (hm : m < 160) (h1 : ∀ i, mk ≤ i → i < m → R 21 i = R 0 37) (h2 : ∀ i, i < mk → ¬ R 21 i = R 0 37) (h5 : R 5 nd = nI cnt) (h22 : R 0 22 = nI vr) (hvr : vr < 2 ^ 31) (h36 : px_c tx n (-1) (px_s tx n p) = 36) {c c2 : Int32} (hc : px_c tx n (-1) (px_s tx n (px_s tx n p + 1)) = c) (hc2 : 97 ≤ c ∧ c ≤ 122 → px_c tx n (-1) (px_s tx n (px_s tx n (px_s tx n p + 1) + 1)) = c2)
    (hB : ¬ (97 ≤ c ∧ c ≤ 122) ∨ ¬ c2 = 59 ∨ ¬ vr < 24 → ∀ R' : ai_S, bd tx R' → lm z R' (k + 1))
    (hG : 97 ≤ c → c ≤ 122 → c2 = 59 → vr < 24 → ∀ X : ai_S, ((∃ i', mk ≤ i' ∧ i' < m ∧ R 18 i' = c) ∧ X = ai_up (ai_up R 0 2 (nI (px_s tx n (px_s tx n (px_s tx n p + 1) + 1) + 1))) 0 20 1 ∨ ¬ (∃ i', mk ≤ i' ∧ i' < m ∧ R 18 i' = c) ∧ X = ai_up R 0 2 (nI (px_s tx n (px_s tx n (px_s tx n p + 1) + 1) + 1))) → lm z (ai_up (ai_up (decR X m c 1 (nI cnt)) 5 nd (nI (cnt + 1))) 0 22 (nI (vr + 1))) (k + 1)) : bk z R k f dd := by
  have hlt : px_s tx n p < n := px_lt h36 (by decide)
  have T2 : ∀ v : Int32, mt_T (ai_up R 0 2 v) tx n := fun v => ⟨by rw [ai_up_n (by omega)]; exact hT.1, hT.2.1, fun i hi => by rw [ai_up_n (by omega)]; exact hT.2.2 i hi⟩
  refine vX6_block_54 (sp_peek hT hp hpn ⟨i_in (by omega) (by omega), ?_⟩)
  rw [nI_clamp (show f < 2 ^ 31 by omega), ai_up_n (by omega : ¬ (13 = 0 ∧ f = 2)), h13, h36, ai_up_s, ai_up_up, nI_1]
  refine ⟨fun h => absurd (by decide) h, fun _ => ⟨fun h => absurd rfl h, fun _ => ?_⟩⟩
  refine sp_peek (T2 _) ai_up_s hlt ?_
  rw [hc, ai_up_up, ai_up_s, ai_up_up, nI_1]
  refine sp_isLetter (fun h97 h122 => ai_zt ?_) (fun hnl => ai_zf (hB (Or.inl hnl) _ (bd_of hgh (fun g => by (repeat with_reducible refine gh.u ?_ (by omega)); exact g) (by simp [ai_up_eq]))))
  have hlt2 : px_s tx n (px_s tx n p + 1) < n := px_lt hc (fun h => by rw [h] at h97; exact absurd h97 (by decide))
  have hc2' := hc2 ⟨h97, h122⟩
  refine sp_eat (T2 _) ai_up_s hlt2 (fun h59 => ai_zt ?_) (fun h59 => ai_zf (hB (Or.inr (Or.inl (by rw [← hc2']; exact h59))) _ (bd_of hgh (fun g => by (repeat with_reducible refine gh.u ?_ (by omega)); exact g) (by simp [ai_up_eq]))))
  rw [ai_up_up, ai_up_n (by omega : ¬ (0 = 0 ∧ 22 = 2)), h22, ai_up_n (by omega : ¬ (0 = 0 ∧ 19 = 2)), ai_up_n (by omega : ¬ (14 = 0 ∧ f = 2)), h14, nI_clamp (show nd < 2 ^ 31 by omega), ai_up_n (by omega : ¬ (5 = 0 ∧ nd = 2)), h5, show (24 : Int32) = nI 24 from rfl, i_le (by omega) (by omega)]
  refine ⟨fun h24 => hB (Or.inr (Or.inr (by omega))) _ (bd_of hgh (fun g => by (repeat with_reducible refine gh.u ?_ (by omega)); exact g) (by simp [ai_up_eq])), fun h24 => ⟨fun _ => ⟨i_in hnd (by omega), ?_⟩, fun h => absurd h19 h⟩⟩
  have fin : ∀ X : ai_S, ((∃ i', mk ≤ i' ∧ i' < m ∧ R 18 i' = c) ∧ X = ai_up (ai_up R 0 2 (nI (px_s tx n (px_s tx n (px_s tx n p + 1) + 1) + 1))) 0 20 1 ∨ ¬ (∃ i', mk ≤ i' ∧ i' < m ∧ R 18 i' = c) ∧ X = ai_up R 0 2 (nI (px_s tx n (px_s tx n (px_s tx n p + 1) + 1) + 1))) → (vp_in (decR X m c 1 (nI cnt) 14 f) 700 ∧ lm z (ai_up (ai_up (decR X m c 1 (nI cnt)) 5 (decR X m c 1 (nI cnt) 14 f).toNatClampNeg (decR X m c 1 (nI cnt) 5 (decR X m c 1 (nI cnt) 14 f).toNatClampNeg + 1)) 0 22 (decR X m c 1 (nI cnt) 0 22 + 1)) (k + 1)) := by
    intro X hX
    have xo : ∀ q i, ¬ (q = 0 ∧ (i = 2 ∨ i = 20)) → X q i = R q i := fun q i h => by
      rcases hX with ⟨_, rfl⟩ | ⟨_, rfl⟩
      · rw [ai_up_n (by omega), ai_up_n (by omega)]
      · rw [ai_up_n (by omega)]
    have e14 : decR X m c 1 (nI cnt) 14 f = nI nd := by unfold decR; rw [ai_up_n (by omega), ai_up_n (by omega), ai_up_n (by omega), ai_up_n (by omega), ai_up_n (by omega), xo _ _ (by omega)]; exact h14
    have e5 : decR X m c 1 (nI cnt) 5 nd = nI cnt := by unfold decR; rw [ai_up_n (by omega), ai_up_n (by omega), ai_up_n (by omega), ai_up_n (by omega), ai_up_n (by omega), xo _ _ (by omega)]; exact h5
    have e22 : decR X m c 1 (nI cnt) 0 22 = nI vr := by unfold decR; rw [ai_up_n (by omega), ai_up_n (by omega), ai_up_n (by omega), ai_up_n (by omega), ai_up_n (by omega), xo _ _ (by omega)]; exact h22
    rw [e14, nI_clamp (show nd < 2 ^ 31 by omega), e5, e22, nI_1, nI_1]
    exact ⟨i_in hnd (by omega), hG h97 h122 (by rw [← hc2']; exact h59) (by omega) X hX⟩
  refine sp_mdec (m := m) (mk := mk) hm (by rw [ai_up_n (by omega)]; exact h36') (fun i a b => by rw [ai_up_n (by omega), ai_up_n (by omega)]; exact h1 i a b) (fun i a => by rw [ai_up_n (by omega), ai_up_n (by omega)]; exact h2 i a) (fun hd => fin _ (Or.inl ⟨by simpa [ai_up_eq] using hd, rfl⟩)) (fun hd => fin _ (Or.inr ⟨by simpa [ai_up_eq] using hd, rfl⟩))
end BLK
