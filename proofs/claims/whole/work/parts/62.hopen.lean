/-! ===== the reference's heading, from its start ===== -/
def hdR (R : ai_S) (m pq p3 pr lv : Nat) (c : Int32) (bad : Bool) : ai_S :=
  ai_up (ai_up (ai_up (decR (if bad = true then ai_up (ai_up (ai_up R 0 2 (nI p3)) 0 21 (nI (pr + 1))) 0 20 1 else ai_up (ai_up R 0 2 (nI p3)) 0 21 (nI (pr + 1))) m c 2 (nI pq)) 10 pq 0) 11 pq 0) 0 37 (nI (lv + 1))
section HDO
variable {z : lm_T} {R : ai_S} {k f dd m mk pr hf lv q n : Nat} {tx : Nat → Int32} {c c2 : Int32} {bad : Bool}
theorem hdR_o {pq p3 q j : Nat} (h0 : ¬ (q = 0 ∧ (j = 2 ∨ j = 20 ∨ j = 21 ∨ j = 36 ∨ j = 37))) (h1 : ¬ ((q = 10 ∨ q = 11) ∧ j = pq)) (h2 : ¬ (18 ≤ q ∧ q ≤ 21 ∧ j = m)) : hdR R m pq p3 pr lv c bad q j = R q j := by
  unfold hdR decR
  cases bad <;> simp only [if_true, if_false, Bool.false_eq_true]
  · rw [ai_up_n (by omega), ai_up_n (by omega), ai_up_n (by omega), ai_up_n (by omega), ai_up_n (by omega), ai_up_n (by omega), ai_up_n (by omega), ai_up_n (by omega), ai_up_n (by omega), ai_up_n (by omega)]
  · rw [ai_up_n (by omega), ai_up_n (by omega), ai_up_n (by omega), ai_up_n (by omega), ai_up_n (by omega), ai_up_n (by omega), ai_up_n (by omega), ai_up_n (by omega), ai_up_n (by omega), ai_up_n (by omega), ai_up_n (by omega)]
theorem hdR_v {pq p3 : Nat} : hdR R m pq p3 pr lv c bad 0 2 = nI p3 ∧ hdR R m pq p3 pr lv c bad 0 21 = nI (pr + 1) ∧ hdR R m pq p3 pr lv c bad 0 36 = nI (m + 1) ∧ hdR R m pq p3 pr lv c bad 0 37 = nI (lv + 1) ∧ hdR R m pq p3 pr lv c bad 18 m = c ∧ hdR R m pq p3 pr lv c bad 19 m = 2 ∧ hdR R m pq p3 pr lv c bad 20 m = nI pq ∧ hdR R m pq p3 pr lv c bad 21 m = R 0 37 ∧ hdR R m pq p3 pr lv c bad 10 pq = 0 ∧ hdR R m pq p3 pr lv c bad 11 pq = 0 ∧ (bad = true → hdR R m pq p3 pr lv c bad 0 20 = 1) ∧ (bad = false → hdR R m pq p3 pr lv c bad 0 20 = R 0 20) := by
  unfold hdR decR
  cases bad <;> simp [ai_up_eq]
theorem hd_open (hT : mt_T R tx n) (hp : R 0 2 = nI q) (hqn : q ≤ n) (h19 : R 0 19 = 0) (h21 : R 0 21 = nI pr) (hpr : pr ≤ 16) (h14 : R 0 14 = nI hf) (hhf : hf ≤ 1 ∧ gh tx hf R) (h36 : R 0 36 = nI m) (hm : m < 160) (h37 : R 0 37 = nI lv) (hl1 : ∀ i, mk ≤ i → i < m → R 21 i = R 0 37) (hl2 : ∀ i, i < mk → ¬ R 21 i = R 0 37) (hc : px_c tx n (-1) (px_s tx n q) = c) (hc2 : 97 ≤ c ∧ c ≤ 122 → px_c tx n (-1) (px_s tx n (px_s tx n q + 1)) = c2)
    (hB : ¬ (97 ≤ c ∧ c ≤ 122) ∨ ¬ c2 = 40 ∨ ¬ pr < 16 → ∀ R' : ai_S, bd tx R' → lm z R' (k + 1))
    (hG : 97 ≤ c → c ≤ 122 → c2 = 40 → pr < 16 → ∀ bad : Bool, (bad = true ∧ (∃ i', mk ≤ i' ∧ i' < m ∧ R 18 i' = c) ∨ bad = false ∧ ¬ (∃ i', mk ≤ i' ∧ i' < m ∧ R 18 i' = c)) → (px_c tx n (-1) (px_s tx n (px_s tx n (px_s tx n q + 1) + 1)) = 41 → hd z (ai_up (hdR R m (16 * hf + pr) (px_s tx n (px_s tx n q + 1) + 1) pr lv c bad) 0 2 (nI (px_s tx n (px_s tx n (px_s tx n q + 1) + 1) + 1))) k f dd (16 * hf + pr) 0 0) ∧ (¬ px_c tx n (-1) (px_s tx n (px_s tx n (px_s tx n q + 1) + 1)) = 41 → hd z (ai_up (hdR R m (16 * hf + pr) (px_s tx n (px_s tx n q + 1) + 1) pr lv c bad) 0 2 (nI (px_s tx n (px_s tx n (px_s tx n q + 1) + 1)))) k f dd (16 * hf + pr) 1 0)) : ai_met (lm_u z) (z.2.2.2.2.1 + 5) mX6_heading [.ref 0, .int (nI f), .int (nI dd)] R (lm_V z) (ai_qv (lm_V z) (fun S => lm z S (k + 1))) := by
  have T2 : ∀ v : Int32, mt_T (ai_up R 0 2 v) tx n := fun v => ⟨by rw [ai_up_n (by omega)]; exact hT.1, hT.2.1, fun i hi => by rw [ai_up_n (by omega)]; exact hT.2.2 i hi⟩
  have b : ∀ X : ai_S, gh tx hf X → (¬ (97 ≤ c ∧ c ≤ 122) ∨ ¬ c2 = 40 ∨ ¬ pr < 16) → lm z (ai_up X 0 19 1) (k + 1) := fun X g h => hB h _ (bd_of hhf (fun _ => g.u (by omega)) (by rw [ai_up_s]; decide))
  refine vX6_heading (sp_peek hT hp hqn ?_)
  rw [hc, ai_up_s, ai_up_up, nI_1]
  refine sp_isLetter (fun h97 h122 => ai_zt ?_) (fun hnl => ai_zf (b _ (by (repeat with_reducible refine gh.u ?_ (by omega)); exact hhf.2) (Or.inl hnl)))
  have hlt : px_s tx n q < n := px_lt hc (fun h => by rw [h] at h97; exact absurd h97 (by decide))
  have hc2' := hc2 ⟨h97, h122⟩
  refine sp_eat (T2 _) ai_up_s hlt (fun h40 => ai_zt ?_) (fun h40 => ai_zf (b _ (by (repeat with_reducible refine gh.u ?_ (by omega)); exact hhf.2) (Or.inr (Or.inl (by rw [← hc2']; exact h40)))))
  have hlt2 : px_s tx n (px_s tx n q + 1) < n := px_lt h40 (by decide)
  obtain ⟨p3, hp3⟩ : ∃ p3, p3 = px_s tx n (px_s tx n q + 1) + 1 := ⟨_, rfl⟩
  rw [← hp3] at hG ⊢
  have e16 : (16 : Int32) * nI hf + nI pr = nI (16 * hf + pr) := by rw [show (16 : Int32) = nI 16 from rfl, pk_mul, nI_add]
  rw [ai_up_up, ai_up_n (by omega : ¬ (0 = 0 ∧ 21 = 2)), h21, ai_up_n (by omega : ¬ (0 = 0 ∧ 19 = 2)), ai_up_n (by omega : ¬ (0 = 0 ∧ 14 = 2)), h14, e16, show (16 : Int32) = nI 16 from rfl, i_le (by omega) (by omega), nI_1 pr]
  refine ⟨fun h => b _ (by (repeat with_reducible refine gh.u ?_ (by omega)); exact hhf.2) (Or.inr (Or.inr (by omega))), fun h => ⟨fun _ => ?_, fun h' => absurd h19 h'⟩⟩
  have hG' := hG h97 h122 (by rw [← hc2']; exact h40) (by omega)
  have fin : ∀ (bad : Bool) (X : ai_S), (bad = true ∧ (∃ i', mk ≤ i' ∧ i' < m ∧ R 18 i' = c) ∨ bad = false ∧ ¬ (∃ i', mk ≤ i' ∧ i' < m ∧ R 18 i' = c)) → X = (if bad = true then ai_up (ai_up (ai_up R 0 2 (nI p3)) 0 21 (nI (pr + 1))) 0 20 1 else ai_up (ai_up R 0 2 (nI p3)) 0 21 (nI (pr + 1))) → (vp_in (nI (16 * hf + pr)) 32 ∧ ai_met (lm_u z) (z.2.2.2.2.1 + 4) mX6_eat [.ref 0, .int 41] (ai_up (ai_up (ai_up (decR X m c 2 (nI (16 * hf + pr))) 10 (nI (16 * hf + pr)).toNatClampNeg 0) 11 (nI (16 * hf + pr)).toNatClampNeg 0) 0 37 (decR X m c 2 (nI (16 * hf + pr)) 0 37 + 1)) (lm_V z) (ai_qz (lm_V z) (fun b12 S13 => (b12 = true → hd z S13 k f dd (16 * hf + pr) 0 0) ∧ (b12 = false → hd z S13 k f dd (16 * hf + pr) 1 0)))) := by
    intro bad X hbad hX
    have x37 : decR X m c 2 (nI (16 * hf + pr)) 0 37 = nI lv := by
      unfold decR
      rw [ai_up_n (by omega), ai_up_n (by omega), ai_up_n (by omega), ai_up_n (by omega), ai_up_n (by omega), hX]
      split
      · rw [ai_up_n (by omega), ai_up_n (by omega), ai_up_n (by omega)]; exact h37
      · rw [ai_up_n (by omega), ai_up_n (by omega)]; exact h37
    rw [x37, nI_1 lv, nI_clamp (by omega)]
    have eR : ai_up (ai_up (ai_up (decR X m c 2 (nI (16 * hf + pr))) 10 (16 * hf + pr) 0) 11 (16 * hf + pr) 0) 0 37 (nI (lv + 1)) = hdR R m (16 * hf + pr) p3 pr lv c bad := by rw [hX]; rfl
    rw [eR]
    obtain ⟨g1, g2⟩ := hG' bad hbad
    refine ⟨i_in (by omega) (by omega), sp_eat (tx := tx) (n := n) (p := p3) ⟨by rw [hdR_o (by omega) (by omega) (by omega)]; exact hT.1, hT.2.1, fun i hi => by rw [hdR_o (by omega) (by omega) (by omega)]; exact hT.2.2 i hi⟩ hdR_v.1 (by omega) (fun h41 => ai_zt (g1 h41)) (fun h41 => ai_zf (g2 h41))⟩
  have e18 : ∀ i', ai_up (ai_up R 0 2 (nI p3)) 0 21 (nI (pr + 1)) 18 i' = R 18 i' := fun i' => by rw [ai_up_n (by omega), ai_up_n (by omega)]
  refine sp_mdec (m := m) (mk := mk) hm (by rw [ai_up_n (by omega), ai_up_n (by omega)]; exact h36) (fun i a b => by rw [ai_up_n (by omega), ai_up_n (by omega), ai_up_n (by omega), ai_up_n (by omega)]; exact hl1 i a b) (fun i a => by rw [ai_up_n (by omega), ai_up_n (by omega), ai_up_n (by omega), ai_up_n (by omega)]; exact hl2 i a) (fun hd' => ?_) (fun hd' => ?_)
  · simp only [e18] at hd'
    exact fin true _ (Or.inl ⟨rfl, hd'⟩) (by simp)
  · simp only [e18] at hd'
    exact fin false _ (Or.inr ⟨rfl, hd'⟩) (by simp)
end HDO
