/-! ===== the reference's heading, formal by formal ===== -/
def hd (z : lm_T) (R : ai_S) (k f dd pq : Nat) (mo : Int32) (i : Nat) : Prop := ai_W (lm_u z) (z.2.2.2.2.1 + 5) mX6_heading 135 [(0, .ref 0), (1, .int (nI f)), (2, .int (nI dd)), (4, .int (nI pq)), (5, .int mo), (6, .int (nI i))] [] R (lm_V z) (ai_qv (lm_V z) (fun S => lm z S (k + 1)))
section HDG
variable {z : lm_T} {R : ai_S} {k f dd pq i m m1 w w' r p n : Nat} {tx : Nat → Int32} {c sw : Int32} {bad by_ : Bool}
/-- no more formals -/
theorem hd_0 (hf : f < 70) (h30 : R 0 30 = nI (f + 1)) (h : lm z (mpush (ai_up (ai_up R 17 f (nI pq)) 13 f 20) (f + 1) 10 (nI dd)) (k + 1)) : hd z R k f dd pq 0 i := by
  have hM : vp_in (nI f) 80 ∧ ai_met (lm_u z) (z.2.2.2.2.1 + 4) mX6_push [.ref 0, .int 10, .int (nI dd)] (ai_up (ai_up R 17 (nI f).toNatClampNeg (nI pq)) 13 (nI f).toNatClampNeg 20) (lm_V z) (ai_qv (lm_V z) (fun S4 => lm z S4 (k + 1))) := by
    rw [nI_clamp (show f < 2 ^ 31 by omega)]
    exact ⟨i_in (by omega) (by omega), sp_push (f := f + 1) (by rw [ai_up_n (by omega), ai_up_n (by omega)]; exact h30) (by omega) h⟩
  exact vX6_heading_0_135 ⟨fun _ => hM, fun _ => hM⟩
/-- what comes behind a formal -/
def hdE (z : lm_T) (R : ai_S) (k f dd pq i : Nat) : Prop := ai_met (lm_u z) (z.2.2.2.2.1 + 4) mX6_eat [.ref 0, .int 44] R (lm_V z) (ai_qz (lm_V z) (fun b20 S21 => (b20 = true → ai_W (lm_u z) (z.2.2.2.2.1 + 5) mX6_heading 135 [(0, .ref 0), (1, .int (nI f)), (2, .int (nI dd)), (4, .int (nI pq)), (5, .int 1), (6, .int (nI i + 1))] [] S21 (lm_V z) (ai_qv (lm_V z) (fun S => lm z S (k + 1)))) ∧ (b20 = false → ai_met (lm_u z) (z.2.2.2.2.1 + 4) mX6_eat [.ref 0, .int 41] S21 (lm_V z) (ai_qz (lm_V z) (fun b22 S23 => (b22 = true → ai_W (lm_u z) (z.2.2.2.2.1 + 5) mX6_heading 135 [(0, .ref 0), (1, .int (nI f)), (2, .int (nI dd)), (4, .int (nI pq)), (5, .int 0), (6, .int (nI i + 1))] [] S23 (lm_V z) (ai_qv (lm_V z) (fun S => lm z S (k + 1)))) ∧ (b22 = false → ai_W (lm_u z) (z.2.2.2.2.1 + 5) mX6_heading 135 [(0, .ref 0), (1, .int (nI f)), (2, .int (nI dd)), (4, .int (nI pq)), (5, .int 0), (6, .int (nI i + 1))] [] (ai_up S23 0 19 1) (lm_V z) (ai_qv (lm_V z) (fun S => lm z S (k + 1)))))))))
theorem hd_E {hh : Nat} (hgh : hh ≤ 1 ∧ gh tx hh R) (hT : mt_T R tx n) (hp : R 0 2 = nI p) (hpn : p ≤ n) (hf : f < 70) (h30 : R 0 30 = nI (f + 1))
    (hcomma : px_c tx n (-1) (px_s tx n p) = 44 → hd z (ai_up R 0 2 (nI (px_s tx n p + 1))) k f dd pq 1 (i + 1))
    (hclose : px_c tx n (-1) (px_s tx n p) = 41 → lm z (mpush (ai_up (ai_up (ai_up R 0 2 (nI (px_s tx n p + 1))) 17 f (nI pq)) 13 f 20) (f + 1) 10 (nI dd)) (k + 1))
    (hbad : ¬ px_c tx n (-1) (px_s tx n p) = 44 → ¬ px_c tx n (-1) (px_s tx n p) = 41 → ∀ R' : ai_S, bd tx R' → lm z R' (k + 1)) : hdE z R k f dd pq i := by
  have hss := px_s_s tx n p
  have hsn : px_s tx n p ≤ n := px_s_le tx hpn
  have T2 : ∀ v : Int32, mt_T (ai_up R 0 2 v) tx n := fun v => ⟨by rw [ai_up_n (by omega)]; exact hT.1, hT.2.1, fun i hi => by rw [ai_up_n (by omega)]; exact hT.2.2 i hi⟩
  unfold hdE
  rw [nI_1 i]
  refine sp_eat hT hp hpn (fun h => ai_zt (hcomma h)) (fun h => ai_zf (sp_eat (T2 _) ai_up_s hsn (fun h2 => ai_zt ?_) (fun h2 => ai_zf ?_)))
  · rw [hss] at h2 ⊢
    rw [ai_up_up]
    exact hd_0 hf (by rw [ai_up_n (by omega)]; exact h30) (hclose h2)
  · rw [hss] at h2
    refine hd_0 hf (by rw [ai_up_n (by omega), ai_up_n (by omega), ai_up_n (by omega)]; exact h30) (hbad h h2 _ (bd_of hgh (fun g => by unfold mpush; (repeat with_reducible refine gh.u ?_ (by omega)); exact g) ?_))
    rw [push_o (by omega) (by omega), ai_up_n (by omega), ai_up_n (by omega), ai_up_s]; decide
theorem hd_step (hi : i < 6) (hpq : pq < 32) (h19 : R 0 19 = 0) (hT : mt_T R tx n) (hp : R 0 2 = nI p) (hpn : p ≤ n) (h11 : R 11 pq = nI w) (hw : w < 2 ^ i) (h10 : R 10 pq = nI i) (h36 : R 0 36 = nI m) (hm : m < 160) (hl1 : ∀ i, m1 ≤ i → i < m → R 21 i = R 0 37) (hl2 : ∀ i, i < m1 → ¬ R 21 i = R 0 37) (hby : by_ = true ∧ sw = 3 ∧ w' = w ||| 2 ^ i ∧ px_c tx n (-1) (px_s tx n p) = 35 ∧ r = px_s tx n (px_s tx n p + 1) ∨ by_ = false ∧ sw = 4 ∧ w' = w ∧ ¬ px_c tx n (-1) (px_s tx n p) = 35 ∧ r = px_s tx n p) (hc : px_c tx n (-1) r = c) (h97 : 97 ≤ c) (h122 : c ≤ 122) (hbad : bad = true ∧ (∃ i', m1 ≤ i' ∧ i' < m ∧ R 18 i' = c) ∨ bad = false ∧ ¬ (∃ i', m1 ≤ i' ∧ i' < m ∧ R 18 i' = c))
    (h : hdE z (frR R m (r + 1) pq i w' c sw bad by_) k f dd pq i) : hd z R k f dd pq 1 i := by
  have hss := px_s_s tx n p
  have hsn : px_s tx n p ≤ n := px_s_le tx hpn
  have T2 : ∀ v : Int32, mt_T (ai_up R 0 2 v) tx n := fun v => ⟨by rw [ai_up_n (by omega)]; exact hT.1, hT.2.1, fun i hi => by rw [ai_up_n (by omega)]; exact hT.2.2 i hi⟩
  have n7 : ¬ 7 ≤ nI i := by rw [show (7 : Int32) = nI 7 from rfl, i_le (by omega) (by omega)]; omega
  have n6 : ¬ 6 ≤ nI i := by rw [show (6 : Int32) = nI 6 from rfl, i_le (by omega) (by omega)]; omega
  have hw64 : w < 64 := fr_lt64 (by omega) hw
  -- behind the declaration
  have fin : ∀ X : ai_S, X = frX R (r + 1) pq w' by_ → ∀ Y : ai_S, (bad = true ∧ Y = ai_up X 0 20 1 ∨ bad = false ∧ Y = X) → ai_up (decR Y m c sw (nI (i + 1))) 10 pq (decR Y m c sw (nI (i + 1)) 10 pq + 1) = frR R m (r + 1) pq i w' c sw bad by_ := by
    intro X hX Y hY
    have y10 : Y 10 pq = nI i := by
      have x10 : X 10 pq = nI i := by
        rw [hX]; unfold frX
        split
        · rw [ai_up_n (by omega), ai_up_n (by omega)]; exact h10
        · rw [ai_up_n (by omega)]; exact h10
      rcases hY with ⟨_, rfl⟩ | ⟨_, rfl⟩
      · rw [ai_up_n (by omega)]; exact x10
      · exact x10
    have d10 : decR Y m c sw (nI (i + 1)) 10 pq = nI i := by
      unfold decR
      rw [ai_up_n (by omega), ai_up_n (by omega), ai_up_n (by omega), ai_up_n (by omega), ai_up_n (by omega)]; exact y10
    rw [d10, nI_1]
    unfold frR
    rcases hY with ⟨hb, rfl⟩ | ⟨hb, rfl⟩
    · rw [hb, hX]; simp
    · rw [hb, ← hX]; simp
  have xo : ∀ q j, ¬ (q = 0 ∧ j = 2) → ¬ q = 11 → frX R (r + 1) pq w' by_ q j = R q j := fun q j a b => by
    unfold frX
    split
    · rw [ai_up_n (by omega), ai_up_n (by omega)]
    · rw [ai_up_n (by omega)]
  have dcl : ∀ {G : ai_S → Prop}, G (frR R m (r + 1) pq i w' c sw bad by_) → ai_met (lm_u z) (z.2.2.2.2.1 + 4) mX6_declare [.ref 0, .int c, .int sw, .int (nI (i + 1))] (frX R (r + 1) pq w' by_) (lm_V z) (ai_qv (lm_V z) (fun S => G (ai_up S 10 pq (S 10 pq + 1)))) := by
    intro G hG
    have e18 : ∀ i', frX R (r + 1) pq w' by_ 18 i' = R 18 i' := fun i' => xo _ _ (by omega) (by omega)
    refine sp_mdec (m := m) (mk := m1) hm (by rw [xo _ _ (by omega) (by omega)]; exact h36) (fun j a b => by rw [xo _ _ (by omega) (by omega), xo _ _ (by omega) (by omega)]; exact hl1 j a b) (fun j a => by rw [xo _ _ (by omega) (by omega), xo _ _ (by omega) (by omega)]; exact hl2 j a) (fun hd' => ?_) (fun hd' => ?_)
    · simp only [e18] at hd'
      rcases hbad with ⟨b1, b2⟩ | ⟨b1, b2⟩
      · rw [fin _ rfl _ (Or.inl ⟨b1, rfl⟩)]; exact hG
      · exact absurd hd' b2
    · simp only [e18] at hd'
      rcases hbad with ⟨b1, b2⟩ | ⟨b1, b2⟩
      · exact absurd b2 hd'
      · rw [fin _ rfl _ (Or.inr ⟨b1, rfl⟩)]; exact hG
  refine vX6_heading_1_135 ⟨fun h7 => absurd h7 n7, fun _ => ⟨fun h => absurd h19 h, fun _ => ?_⟩⟩
  rcases hby with ⟨hb, hsw, hw', h35, hr⟩ | ⟨hb, hsw, hw', h35, hr⟩
  · have hlt : px_s tx n p < n := px_lt h35 (by decide)
    refine sp_eat hT hp hpn (fun _ => ai_zt ?_) (fun h' => absurd h35 h')
    refine sp_peek (T2 _) ai_up_s hlt ?_
    rw [← hr, hc, ai_up_up, ai_up_s, ai_up_up, nI_1]
    refine sp_isLetter (fun _ _ => ai_zt ⟨fun h6 => absurd h6 n6, fun _ => ⟨fun _ => ⟨i_in hpq (by omega), ?_⟩, fun h' => absurd (by rw [ai_up_n (by omega)]; exact h19) h'⟩⟩) (fun h' => absurd ⟨h97, h122⟩ h')
    rw [nI_clamp (show pq < 2 ^ 31 by omega), ai_up_n (by omega : ¬ (11 = 0 ∧ pq = 2)), h11, fr_or ⟨w, hw64⟩ ⟨i, hi⟩]
    have e : ai_up (ai_up R 0 2 (nI (r + 1))) 11 pq (nI (w ||| 2 ^ i)) = frX R (r + 1) pq w' by_ := by unfold frX; rw [hb, hw']; simp
    rw [e, nI_1 i, ← hsw]
    have := dcl (G := fun S => hdE z S k f dd pq i) h
    unfold hdE at this
    rw [nI_1 i] at this
    exact this
  · refine sp_eat hT hp hpn (fun h' => absurd h' h35) (fun _ => ai_zf ?_)
    refine sp_peek (T2 _) ai_up_s hsn ?_
    rw [hss, ← hr, hc, ai_up_up, ai_up_s, ai_up_up, nI_1]
    refine sp_isLetter (fun _ _ => ai_zt ⟨fun h6 => absurd h6 n6, fun _ => ⟨fun _ => ?_, fun h' => absurd (by rw [ai_up_n (by omega)]; exact h19) h'⟩⟩) (fun h' => absurd ⟨h97, h122⟩ h')
    have e : ai_up R 0 2 (nI (r + 1)) = frX R (r + 1) pq w' by_ := by unfold frX; rw [hb]; simp
    rw [e, nI_clamp (show pq < 2 ^ 31 by omega), nI_1 i, ← hsw]
    have := dcl (G := fun S => vp_in (nI pq) 32 ∧ hdE z S k f dd pq i) ⟨i_in hpq (by omega), h⟩
    unfold hdE at this
    rw [nI_1 i] at this
    exact this
theorem hd_bad {hh : Nat} (hgh : hh ≤ 1 ∧ gh tx hh R) (hi : i < 7) (h19 : R 0 19 = 0) (hT : mt_T R tx n) (hp : R 0 2 = nI p) (hpn : p ≤ n) (hr : px_c tx n (-1) (px_s tx n p) = 35 ∧ r = px_s tx n (px_s tx n p + 1) ∨ ¬ px_c tx n (-1) (px_s tx n p) = 35 ∧ r = px_s tx n p) (hc : i < 6 → ¬ (97 ≤ px_c tx n (-1) r ∧ px_c tx n (-1) r ≤ 122))
    (h : ∀ R' : ai_S, bd tx R' → lm z R' (k + 1)) : hd z R k f dd pq 1 i := by
  have hss := px_s_s tx n p
  have hsn : px_s tx n p ≤ n := px_s_le tx hpn
  have T2 : ∀ v : Int32, mt_T (ai_up R 0 2 v) tx n := fun v => ⟨by rw [ai_up_n (by omega)]; exact hT.1, hT.2.1, fun i hi => by rw [ai_up_n (by omega)]; exact hT.2.2 i hi⟩
  have n7 : ¬ 7 ≤ nI i := by rw [show (7 : Int32) = nI 7 from rfl, i_le (by omega) (by omega)]; omega
  have b : ∀ X : ai_S, gh tx hh X → lm z (ai_up X 0 19 1) (k + 1) := fun X g => h _ (bd_of hgh (fun _ => g.u (by omega)) (by rw [ai_up_s]; decide))
  have n6 : i < 6 → ¬ 6 ≤ nI i := fun h6 => by rw [show (6 : Int32) = nI 6 from rfl, i_le (by omega) (by omega)]; omega
  have y6 : ¬ i < 6 → 6 ≤ nI i := fun h6 => by rw [show (6 : Int32) = nI 6 from rfl, i_le (by omega) (by omega)]; omega
  refine vX6_heading_1_135 ⟨fun h7 => absurd h7 n7, fun _ => ⟨fun h => absurd h19 h, fun _ => ?_⟩⟩
  rcases hr with ⟨h35, hr⟩ | ⟨h35, hr⟩
  · have hlt : px_s tx n p < n := px_lt h35 (by decide)
    refine sp_eat hT hp hpn (fun _ => ai_zt ?_) (fun h' => absurd h35 h')
    refine sp_peek (T2 _) ai_up_s hlt ?_
    rw [← hr]
    refine sp_isLetter (fun h1 h2 => ai_zt ⟨fun _ => b _ (by (repeat with_reducible refine gh.u ?_ (by omega)); exact hgh.2), fun hn => ?_⟩) (fun _ => ai_zf (b _ (by (repeat with_reducible refine gh.u ?_ (by omega)); exact hgh.2)))
    by_cases h6 : i < 6
    · exact absurd ⟨h1, h2⟩ (hc h6)
    · exact absurd (y6 h6) hn
  · refine sp_eat hT hp hpn (fun h' => absurd h' h35) (fun _ => ai_zf ?_)
    refine sp_peek (T2 _) ai_up_s hsn ?_
    rw [hss, ← hr]
    refine sp_isLetter (fun h1 h2 => ai_zt ⟨fun _ => b _ (by (repeat with_reducible refine gh.u ?_ (by omega)); exact hgh.2), fun hn => ?_⟩) (fun _ => ai_zf (b _ (by (repeat with_reducible refine gh.u ?_ (by omega)); exact hgh.2)))
    by_cases h6 : i < 6
    · exact absurd ⟨h1, h2⟩ (hc h6)
    · exact absurd (y6 h6) hn
end HDG
