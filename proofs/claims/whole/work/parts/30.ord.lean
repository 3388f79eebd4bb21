/-! ===== one round at an operand ===== -/
/-- nodes up to N stay, but for the sign of g and the next of ls -/
def nX (R R' : ai_S) (N g ls : Nat) : Prop := ∀ q, 2 ≤ q → q ≤ 8 → ∀ i, i ≤ N → ¬ (q = 8 ∧ i = g) → ¬ (q = 4 ∧ i = ls) → R' q i = R q i
section ORD
variable {z : lm_T} {tx : Nat → Int32} {n : Nat} {R : ai_S} {stk : List mf_T} {hf p nn nd dp ls ex g k b0 : Nat}
set_option maxHeartbeats 1000000 in
theorem prod_stop (hk : k < 100000) (hq : mq R tx n hf p nn ((37, nd, dp, ls, ex) :: stk)) (hst : stk.length < 70) (hg : R 0 31 = nI g) (hg1 : b0 < g) (hg2 : g ≤ 350 * hf + nn) (hnn : nn ≤ 321) (hz : nd = 0 → ls = 0) (hnz : nd ≠ 0 → b0 < ls ∧ ls ≤ 350 * hf + nn ∧ nd ≤ 350 * hf + nn) (hb0 : 350 * hf ≤ b0) (hn : ¬ px_c tx n (-1) (px_s tx n p) = 42) :
    ∃ (R2 : ai_S) (x : Nat), (lm z R2 (k + 1) → lm z R k) ∧ mf R2 stk ∧ R2 0 2 = nI (px_s tx n p) ∧ R2 0 31 = nI x ∧ R2 0 15 = R 0 15 ∧ R2 0 19 = 0 ∧ R2 0 20 = R 0 20 ∧ R2 0 24 = R 0 24 ∧ mE R R2 b0 (350 * hf + 350) ∧ nX R R2 (350 * hf + nn) g ls ∧ ((nd = 0 ∧ x = g ∧ R2 8 g = R 8 g ∧ R2 4 g = R 4 g) ∨ (nd ≠ 0 ∧ x = nd ∧ R2 8 g = nI ex ∧ R2 4 ls = nI g)) := by
  obtain ⟨hT, h2, hpn, h14, hhf, h15, hmf, h19⟩ := hq
  obtain ⟨⟨t13, t14, t15, t16, t17⟩, hml, h30⟩ := mf_top hmf
  dsimp only at t13 t14 t15 t16 t17
  have hnd : nd < 700 := by
    by_cases h : nd = 0
    · omega
    · have := (hnz h).2.2; omega
  have hls : ls < 700 := by
    by_cases h : nd = 0
    · have := hz h; omega
    · have := (hnz h).2.1; omega
  by_cases h0 : nd = 0
  · refine ⟨_, g, fun hlm => lm_head hk h19 h30 (by omega) t13 (by omega) (fun h => by omega) (fun _ _ _ => ex_37 (by omega) t13 (opz_prod hT h2 hpn t14 t15 t16 t17 h30 hst hg (by omega) h15 (by omega) hnd hz (fun h => by have := hnz h; omega) hls t13 (fun _ _ => hlm) (fun _ h => absurd h0 h) (fun h => absurd h hn) (fun h => absurd h hn))) (fun _ h => by omega), fa_A hmf, ?_, ?_, ?_, ?_, ?_, ?_, fr_A _, ?_, Or.inl ⟨h0, rfl, ?_, ?_⟩⟩
    · simp [ai_up_eq]
    · simp [ai_up_eq]
    · simp [ai_up_eq]
    · simp [ai_up_eq, h19]
    · simp [ai_up_eq]
    · simp [ai_up_eq]
    · intro q a c i hi h1 h2
      rw [ai_up_n (by omega), ai_up_n (by omega), ai_up_n (by omega)]
    · simp [ai_up_eq]
    · simp [ai_up_eq]
  · obtain ⟨l1, l2, l3⟩ := hnz h0
    refine ⟨_, nd, fun hlm => lm_head hk h19 h30 (by omega) t13 (by omega) (fun h => by omega) (fun _ _ _ => ex_37 (by omega) t13 (opz_prod hT h2 hpn t14 t15 t16 t17 h30 hst hg (by omega) h15 (by omega) hnd hz (fun h => by have := hnz h; omega) hls t13 (fun _ h => absurd h h0) (fun _ _ => hlm) (fun h => absurd h hn) (fun h => absurd h hn))) (fun _ h => by omega), fa_B hmf, ?_, ?_, ?_, ?_, ?_, ?_, ((fr_opB _ hg1 (by omega) l1 (by omega)).u0 31 _ (by omega)).u0 30 _ (by omega), ?_, Or.inr ⟨h0, rfl, ?_, ?_⟩⟩
    · simp [opB, ai_up_eq]
    · simp [opB, ai_up_eq]
    · simp [opB, ai_up_eq]
    · simp [opB, ai_up_eq, h19]
    · simp [opB, ai_up_eq]
    · simp [opB, ai_up_eq]
    · intro q a c i hi h1 h2
      rw [ai_up_n (by omega), ai_up_n (by omega), opB_n a c h1 h2]
    · rw [ai_up_n (by omega), ai_up_n (by omega), opB_8]
    · rw [ai_up_n (by omega), ai_up_n (by omega), opB_4]
set_option maxHeartbeats 1000000 in
theorem prod_more (hk : k < 100000) (hq : mq R tx n hf p nn ((37, nd, dp, ls, ex) :: stk)) (hst : stk.length < 70) (hg : R 0 31 = nI g) (hg1 : b0 < g) (hg2 : g ≤ 350 * hf + nn) (hnn : nn ≤ 321) (hz : nd = 0 → ls = 0) (hnz : nd ≠ 0 → b0 < ls ∧ ls ≤ 350 * hf + nn ∧ nd ≤ 350 * hf + nn) (hb0 : 350 * hf ≤ b0) (hy : px_c tx n (-1) (px_s tx n p) = 42)  :
    ∃ (R2 : ai_S) (nd2 nn2 : Nat), (lm z R2 (k + 1) → lm z R k) ∧ mf R2 ((39, 0, dp, 0, 0) :: (37, nd2, dp, g, 2) :: stk) ∧ R2 0 2 = nI ((px_s tx n p) + 1) ∧ R2 0 15 = nI (350 * hf + nn2) ∧ R2 0 19 = 0 ∧ R2 0 20 = R 0 20 ∧ R2 0 24 = R 0 24 ∧ mE R R2 b0 (350 * hf + 350) ∧ nX R R2 (350 * hf + nn) g ls ∧ R2 8 g = nI ex ∧ (nd ≠ 0 → nd2 = nd ∧ nn2 = nn ∧ R2 4 ls = nI g) ∧ (nd = 0 → nd2 = 350 * hf + nn + 1 ∧ nn2 = nn + 1 ∧ R2 2 nd2 = 12 ∧ R2 3 nd2 = nI g ∧ R2 4 nd2 = nI 0 ∧ R2 4 g = R 4 g) := by
  obtain ⟨hT, h2, hpn, h14, hhf, h15, hmf, h19⟩ := hq
  obtain ⟨⟨t13, t14, t15, t16, t17⟩, hml, h30⟩ := mf_top hmf
  dsimp only at t13 t14 t15 t16 t17
  have hnd : nd < 700 := by
    by_cases h : nd = 0
    · omega
    · have := (hnz h).2.2; omega
  have hls : ls < 700 := by
    by_cases h : nd = 0
    · have := hz h; omega
    · have := (hnz h).2.1; omega
  by_cases h0 : nd = 0
  · have hg700 : g < 700 := by omega
    refine ⟨_, 350 * hf + nn + 1, nn + 1, fun hlm => lm_head hk h19 h30 (by omega) t13 (by omega) (fun h => by omega) (fun _ _ _ => ex_37 (by omega) t13 (opz_prod hT h2 hpn t14 t15 t16 t17 h30 hst hg (by omega) h15 (by omega) hnd hz (fun h => by have := hnz h; omega) hls t13 (fun h _ => absurd hy h) (fun h _ => absurd hy h) (fun _ _ => hlm) (fun _ h => absurd h0 h))) (fun _ h => by omega), fa_C hmf, ?_, ?_, ?_, ?_, ?_, fr_M _ (fr_opC _ hg1 (by omega) (by omega) (by omega)), ?_, ?_, fun h => absurd h0 h, fun _ => ⟨rfl, rfl, ?_, ?_, ?_, ?_⟩⟩
    · simp [opM, mpush, ai_up_eq]
    · simp [opM, mpush, opC, mfresh, ai_up_eq]; rfl
    · simp [opM, mpush, opC, mfresh, ai_up_eq, h19]
    · simp [opM, mpush, opC, mfresh, ai_up_eq]
    · simp [opM, mpush, opC, mfresh, ai_up_eq]
    · intro q a c i hi h1 h2
      rw [opM_n a c, opC_n a c h1 (by omega)]
    · rw [opM_n (by omega) (by omega), opC_8]
    · rw [opM_n (by omega) (by omega), opC_2]
    · rw [opM_n (by omega) (by omega), opC_3]
    · rw [opM_n (by omega) (by omega), opC_4]
    · rw [opM_n (by omega) (by omega), opC_n (by omega) (by omega) (by omega) (by omega)]
  · obtain ⟨l1, l2, l3⟩ := hnz h0
    refine ⟨_, nd, nn, fun hlm => lm_head hk h19 h30 (by omega) t13 (by omega) (fun h => by omega) (fun _ _ _ => ex_37 (by omega) t13 (opz_prod hT h2 hpn t14 t15 t16 t17 h30 hst hg (by omega) h15 (by omega) hnd hz (fun h => by have := hnz h; omega) hls t13 (fun h _ => absurd hy h) (fun h _ => absurd hy h) (fun _ h => absurd h h0) (fun _ _ => hlm))) (fun _ h => by omega), fa_D hmf, ?_, ?_, ?_, ?_, ?_, fr_M _ (fr_opB _ hg1 (by omega) l1 (by omega)), ?_, ?_, fun _ => ⟨rfl, rfl, ?_⟩, fun h => absurd h h0⟩
    · simp [opM, mpush, ai_up_eq]
    · simp [opM, mpush, opB, ai_up_eq, h15]
    · simp [opM, mpush, opB, ai_up_eq, h19]
    · simp [opM, mpush, opB, ai_up_eq]
    · simp [opM, mpush, opB, ai_up_eq]
    · intro q a c i hi h1 h2
      rw [opM_n a c, opB_n a c h1 h2]
    · rw [opM_n (by omega) (by omega), opB_8]
    · rw [opM_n (by omega) (by omega), opB_4]
set_option maxHeartbeats 1000000 in
theorem sum_stop (hk : k < 100000) (hq : mq R tx n hf p nn ((34, nd, dp, ls, ex) :: stk)) (hst : stk.length < 70) (hg : R 0 31 = nI g) (hg1 : b0 < g) (hg2 : g ≤ 350 * hf + nn) (hnn : nn ≤ 321) (hz : nd = 0 → ls = 0) (hnz : nd ≠ 0 → b0 < ls ∧ ls ≤ 350 * hf + nn ∧ nd ≤ 350 * hf + nn) (hb0 : 350 * hf ≤ b0) (hn : ¬ px_c tx n (-1) (px_s tx n p) = 43) (hn2 : ¬ px_c tx n (-1) (px_s tx n p) = 45) :
    ∃ (R2 : ai_S) (x : Nat), (lm z R2 (k + 1) → lm z R k) ∧ mf R2 stk ∧ R2 0 2 = nI (px_s tx n p) ∧ R2 0 31 = nI x ∧ R2 0 15 = R 0 15 ∧ R2 0 19 = 0 ∧ R2 0 20 = R 0 20 ∧ R2 0 24 = R 0 24 ∧ mE R R2 b0 (350 * hf + 350) ∧ nX R R2 (350 * hf + nn) g ls ∧ ((nd = 0 ∧ x = g ∧ R2 8 g = R 8 g ∧ R2 4 g = R 4 g) ∨ (nd ≠ 0 ∧ x = nd ∧ R2 8 g = nI ex ∧ R2 4 ls = nI g)) := by
  obtain ⟨hT, h2, hpn, h14, hhf, h15, hmf, h19⟩ := hq
  obtain ⟨⟨t13, t14, t15, t16, t17⟩, hml, h30⟩ := mf_top hmf
  dsimp only at t13 t14 t15 t16 t17
  have hnd : nd < 700 := by
    by_cases h : nd = 0
    · omega
    · have := (hnz h).2.2; omega
  have hls : ls < 700 := by
    by_cases h : nd = 0
    · have := hz h; omega
    · have := (hnz h).2.1; omega
  by_cases h0 : nd = 0
  · refine ⟨_, g, fun hlm => lm_head hk h19 h30 (by omega) t13 (by omega) (fun h => by omega) (fun _ _ _ => ex_34 (by omega) t13 (opz_sum hT h2 hpn t14 t15 t16 t17 h30 hst hg (by omega) h15 (by omega) hnd hz (fun h => by have := hnz h; omega) hls t13 (fun _ _ _ => hlm) (fun _ _ h => absurd h0 h) (fun h => absurd h hn) (fun h => absurd h hn) (fun h => absurd h hn2) (fun h => absurd h hn2))) (fun _ h => by omega), fa_A hmf, ?_, ?_, ?_, ?_, ?_, ?_, fr_A _, ?_, Or.inl ⟨h0, rfl, ?_, ?_⟩⟩
    · simp [ai_up_eq]
    · simp [ai_up_eq]
    · simp [ai_up_eq]
    · simp [ai_up_eq, h19]
    · simp [ai_up_eq]
    · simp [ai_up_eq]
    · intro q a c i hi h1 h2
      rw [ai_up_n (by omega), ai_up_n (by omega), ai_up_n (by omega)]
    · simp [ai_up_eq]
    · simp [ai_up_eq]
  · obtain ⟨l1, l2, l3⟩ := hnz h0
    refine ⟨_, nd, fun hlm => lm_head hk h19 h30 (by omega) t13 (by omega) (fun h => by omega) (fun _ _ _ => ex_34 (by omega) t13 (opz_sum hT h2 hpn t14 t15 t16 t17 h30 hst hg (by omega) h15 (by omega) hnd hz (fun h => by have := hnz h; omega) hls t13 (fun _ _ h => absurd h h0) (fun _ _ _ => hlm) (fun h => absurd h hn) (fun h => absurd h hn) (fun h => absurd h hn2) (fun h => absurd h hn2))) (fun _ h => by omega), fa_B hmf, ?_, ?_, ?_, ?_, ?_, ?_, ((fr_opB _ hg1 (by omega) l1 (by omega)).u0 31 _ (by omega)).u0 30 _ (by omega), ?_, Or.inr ⟨h0, rfl, ?_, ?_⟩⟩
    · simp [opB, ai_up_eq]
    · simp [opB, ai_up_eq]
    · simp [opB, ai_up_eq]
    · simp [opB, ai_up_eq, h19]
    · simp [opB, ai_up_eq]
    · simp [opB, ai_up_eq]
    · intro q a c i hi h1 h2
      rw [ai_up_n (by omega), ai_up_n (by omega), opB_n a c h1 h2]
    · rw [ai_up_n (by omega), ai_up_n (by omega), opB_8]
    · rw [ai_up_n (by omega), ai_up_n (by omega), opB_4]
set_option maxHeartbeats 1000000 in
theorem sum_more0 (hk : k < 100000) (hq : mq R tx n hf p nn ((34, nd, dp, ls, ex) :: stk)) (hst : stk.length < 70) (hg : R 0 31 = nI g) (hg1 : b0 < g) (hg2 : g ≤ 350 * hf + nn) (hnn : nn ≤ 321) (hz : nd = 0 → ls = 0) (hnz : nd ≠ 0 → b0 < ls ∧ ls ≤ 350 * hf + nn ∧ nd ≤ 350 * hf + nn) (hb0 : 350 * hf ≤ b0) (hy : px_c tx n (-1) (px_s tx n p) = 43)  :
    ∃ (R2 : ai_S) (nd2 nn2 : Nat), (lm z R2 (k + 1) → lm z R k) ∧ mf R2 ((36, 0, dp, 0, 0) :: (34, nd2, dp, g, 0) :: stk) ∧ R2 0 2 = nI ((px_s tx n p) + 1) ∧ R2 0 15 = nI (350 * hf + nn2) ∧ R2 0 19 = 0 ∧ R2 0 20 = R 0 20 ∧ R2 0 24 = R 0 24 ∧ mE R R2 b0 (350 * hf + 350) ∧ nX R R2 (350 * hf + nn) g ls ∧ R2 8 g = nI ex ∧ (nd ≠ 0 → nd2 = nd ∧ nn2 = nn ∧ R2 4 ls = nI g) ∧ (nd = 0 → nd2 = 350 * hf + nn + 1 ∧ nn2 = nn + 1 ∧ R2 2 nd2 = 11 ∧ R2 3 nd2 = nI g ∧ R2 4 nd2 = nI 0 ∧ R2 4 g = R 4 g) := by
  obtain ⟨hT, h2, hpn, h14, hhf, h15, hmf, h19⟩ := hq
  obtain ⟨⟨t13, t14, t15, t16, t17⟩, hml, h30⟩ := mf_top hmf
  dsimp only at t13 t14 t15 t16 t17
  have hnd : nd < 700 := by
    by_cases h : nd = 0
    · omega
    · have := (hnz h).2.2; omega
  have hls : ls < 700 := by
    by_cases h : nd = 0
    · have := hz h; omega
    · have := (hnz h).2.1; omega
  by_cases h0 : nd = 0
  · have hg700 : g < 700 := by omega
    refine ⟨_, 350 * hf + nn + 1, nn + 1, fun hlm => lm_head hk h19 h30 (by omega) t13 (by omega) (fun h => by omega) (fun _ _ _ => ex_34 (by omega) t13 (opz_sum hT h2 hpn t14 t15 t16 t17 h30 hst hg (by omega) h15 (by omega) hnd hz (fun h => by have := hnz h; omega) hls t13 (fun h _ _ => absurd hy h) (fun h _ _ => absurd hy h) (fun _ _ => hlm) (fun _ h => absurd h0 h) (fun h => absurd (hy.symm.trans h) (by decide)) (fun h => absurd (hy.symm.trans h) (by decide)))) (fun _ h => by omega), fa_C hmf, ?_, ?_, ?_, ?_, ?_, fr_M _ (fr_opC _ hg1 (by omega) (by omega) (by omega)), ?_, ?_, fun h => absurd h0 h, fun _ => ⟨rfl, rfl, ?_, ?_, ?_, ?_⟩⟩
    · simp [opM, mpush, ai_up_eq]
    · simp [opM, mpush, opC, mfresh, ai_up_eq]; rfl
    · simp [opM, mpush, opC, mfresh, ai_up_eq, h19]
    · simp [opM, mpush, opC, mfresh, ai_up_eq]
    · simp [opM, mpush, opC, mfresh, ai_up_eq]
    · intro q a c i hi h1 h2
      rw [opM_n a c, opC_n a c h1 (by omega)]
    · rw [opM_n (by omega) (by omega), opC_8]
    · rw [opM_n (by omega) (by omega), opC_2]
    · rw [opM_n (by omega) (by omega), opC_3]
    · rw [opM_n (by omega) (by omega), opC_4]
    · rw [opM_n (by omega) (by omega), opC_n (by omega) (by omega) (by omega) (by omega)]
  · obtain ⟨l1, l2, l3⟩ := hnz h0
    refine ⟨_, nd, nn, fun hlm => lm_head hk h19 h30 (by omega) t13 (by omega) (fun h => by omega) (fun _ _ _ => ex_34 (by omega) t13 (opz_sum hT h2 hpn t14 t15 t16 t17 h30 hst hg (by omega) h15 (by omega) hnd hz (fun h => by have := hnz h; omega) hls t13 (fun h _ _ => absurd hy h) (fun h _ _ => absurd hy h) (fun _ h => absurd h h0) (fun _ _ => hlm) (fun h => absurd (hy.symm.trans h) (by decide)) (fun h => absurd (hy.symm.trans h) (by decide)))) (fun _ h => by omega), fa_D hmf, ?_, ?_, ?_, ?_, ?_, fr_M _ (fr_opB _ hg1 (by omega) l1 (by omega)), ?_, ?_, fun _ => ⟨rfl, rfl, ?_⟩, fun h => absurd h h0⟩
    · simp [opM, mpush, ai_up_eq]
    · simp [opM, mpush, opB, ai_up_eq, h15]
    · simp [opM, mpush, opB, ai_up_eq, h19]
    · simp [opM, mpush, opB, ai_up_eq]
    · simp [opM, mpush, opB, ai_up_eq]
    · intro q a c i hi h1 h2
      rw [opM_n a c, opB_n a c h1 h2]
    · rw [opM_n (by omega) (by omega), opB_8]
    · rw [opM_n (by omega) (by omega), opB_4]
set_option maxHeartbeats 1000000 in
theorem sum_more1 (hk : k < 100000) (hq : mq R tx n hf p nn ((34, nd, dp, ls, ex) :: stk)) (hst : stk.length < 70) (hg : R 0 31 = nI g) (hg1 : b0 < g) (hg2 : g ≤ 350 * hf + nn) (hnn : nn ≤ 321) (hz : nd = 0 → ls = 0) (hnz : nd ≠ 0 → b0 < ls ∧ ls ≤ 350 * hf + nn ∧ nd ≤ 350 * hf + nn) (hb0 : 350 * hf ≤ b0) (hy : px_c tx n (-1) (px_s tx n p) = 45)  :
    ∃ (R2 : ai_S) (nd2 nn2 : Nat), (lm z R2 (k + 1) → lm z R k) ∧ mf R2 ((36, 0, dp, 0, 0) :: (34, nd2, dp, g, 1) :: stk) ∧ R2 0 2 = nI ((px_s tx n p) + 1) ∧ R2 0 15 = nI (350 * hf + nn2) ∧ R2 0 19 = 0 ∧ R2 0 20 = R 0 20 ∧ R2 0 24 = R 0 24 ∧ mE R R2 b0 (350 * hf + 350) ∧ nX R R2 (350 * hf + nn) g ls ∧ R2 8 g = nI ex ∧ (nd ≠ 0 → nd2 = nd ∧ nn2 = nn ∧ R2 4 ls = nI g) ∧ (nd = 0 → nd2 = 350 * hf + nn + 1 ∧ nn2 = nn + 1 ∧ R2 2 nd2 = 11 ∧ R2 3 nd2 = nI g ∧ R2 4 nd2 = nI 0 ∧ R2 4 g = R 4 g) := by
  obtain ⟨hT, h2, hpn, h14, hhf, h15, hmf, h19⟩ := hq
  obtain ⟨⟨t13, t14, t15, t16, t17⟩, hml, h30⟩ := mf_top hmf
  dsimp only at t13 t14 t15 t16 t17
  have hnd : nd < 700 := by
    by_cases h : nd = 0
    · omega
    · have := (hnz h).2.2; omega
  have hls : ls < 700 := by
    by_cases h : nd = 0
    · have := hz h; omega
    · have := (hnz h).2.1; omega
  by_cases h0 : nd = 0
  · have hg700 : g < 700 := by omega
    refine ⟨_, 350 * hf + nn + 1, nn + 1, fun hlm => lm_head hk h19 h30 (by omega) t13 (by omega) (fun h => by omega) (fun _ _ _ => ex_34 (by omega) t13 (opz_sum hT h2 hpn t14 t15 t16 t17 h30 hst hg (by omega) h15 (by omega) hnd hz (fun h => by have := hnz h; omega) hls t13 (fun _ h _ => absurd hy h) (fun _ h _ => absurd hy h) (fun h => absurd (hy.symm.trans h) (by decide)) (fun h => absurd (hy.symm.trans h) (by decide)) (fun _ _ => hlm) (fun _ h => absurd h0 h))) (fun _ h => by omega), fa_C hmf, ?_, ?_, ?_, ?_, ?_, fr_M _ (fr_opC _ hg1 (by omega) (by omega) (by omega)), ?_, ?_, fun h => absurd h0 h, fun _ => ⟨rfl, rfl, ?_, ?_, ?_, ?_⟩⟩
    · simp [opM, mpush, ai_up_eq]
    · simp [opM, mpush, opC, mfresh, ai_up_eq]; rfl
    · simp [opM, mpush, opC, mfresh, ai_up_eq, h19]
    · simp [opM, mpush, opC, mfresh, ai_up_eq]
    · simp [opM, mpush, opC, mfresh, ai_up_eq]
    · intro q a c i hi h1 h2
      rw [opM_n a c, opC_n a c h1 (by omega)]
    · rw [opM_n (by omega) (by omega), opC_8]
    · rw [opM_n (by omega) (by omega), opC_2]
    · rw [opM_n (by omega) (by omega), opC_3]
    · rw [opM_n (by omega) (by omega), opC_4]
    · rw [opM_n (by omega) (by omega), opC_n (by omega) (by omega) (by omega) (by omega)]
  · obtain ⟨l1, l2, l3⟩ := hnz h0
    refine ⟨_, nd, nn, fun hlm => lm_head hk h19 h30 (by omega) t13 (by omega) (fun h => by omega) (fun _ _ _ => ex_34 (by omega) t13 (opz_sum hT h2 hpn t14 t15 t16 t17 h30 hst hg (by omega) h15 (by omega) hnd hz (fun h => by have := hnz h; omega) hls t13 (fun _ h _ => absurd hy h) (fun _ h _ => absurd hy h) (fun h => absurd (hy.symm.trans h) (by decide)) (fun h => absurd (hy.symm.trans h) (by decide)) (fun _ h => absurd h h0) (fun _ _ => hlm))) (fun _ h => by omega), fa_D hmf, ?_, ?_, ?_, ?_, ?_, fr_M _ (fr_opB _ hg1 (by omega) l1 (by omega)), ?_, ?_, fun _ => ⟨rfl, rfl, ?_⟩, fun h => absurd h h0⟩
    · simp [opM, mpush, ai_up_eq]
    · simp [opM, mpush, opB, ai_up_eq, h15]
    · simp [opM, mpush, opB, ai_up_eq, h19]
    · simp [opM, mpush, opB, ai_up_eq]
    · simp [opM, mpush, opB, ai_up_eq]
    · intro q a c i hi h1 h2
      rw [opM_n a c, opB_n a c h1 h2]
    · rw [opM_n (by omega) (by omega), opB_8]
    · rw [opM_n (by omega) (by omega), opB_4]
set_option maxHeartbeats 1000000 in
theorem less_stop (hk : k < 100000) (hq : mq R tx n hf p nn ((31, nd, dp, ls, ex) :: stk)) (hst : stk.length < 70) (hg : R 0 31 = nI g) (hg1 : b0 < g) (hg2 : g ≤ 350 * hf + nn) (hnn : nn ≤ 321) (hz : nd = 0 → ls = 0) (hnz : nd ≠ 0 → b0 < ls ∧ ls ≤ 350 * hf + nn ∧ nd ≤ 350 * hf + nn) (hb0 : 350 * hf ≤ b0) (hn : ¬ px_c tx n (-1) (px_s tx n p) = 60) :
    ∃ (R2 : ai_S) (x : Nat), (lm z R2 (k + 1) → lm z R k) ∧ mf R2 stk ∧ R2 0 2 = nI (px_s tx n p) ∧ R2 0 31 = nI x ∧ R2 0 15 = R 0 15 ∧ R2 0 19 = 0 ∧ R2 0 20 = R 0 20 ∧ R2 0 24 = R 0 24 ∧ mE R R2 b0 (350 * hf + 350) ∧ nX R R2 (350 * hf + nn) g ls ∧ ((nd = 0 ∧ x = g ∧ R2 8 g = R 8 g ∧ R2 4 g = R 4 g) ∨ (nd ≠ 0 ∧ x = nd ∧ R2 8 g = nI ex ∧ R2 4 ls = nI g)) := by
  obtain ⟨hT, h2, hpn, h14, hhf, h15, hmf, h19⟩ := hq
  obtain ⟨⟨t13, t14, t15, t16, t17⟩, hml, h30⟩ := mf_top hmf
  dsimp only at t13 t14 t15 t16 t17
  have hnd : nd < 700 := by
    by_cases h : nd = 0
    · omega
    · have := (hnz h).2.2; omega
  have hls : ls < 700 := by
    by_cases h : nd = 0
    · have := hz h; omega
    · have := (hnz h).2.1; omega
  by_cases h0 : nd = 0
  · refine ⟨_, g, fun hlm => lm_head hk h19 h30 (by omega) t13 (by omega) (fun h => by omega) (fun _ _ _ => ex_31 (by omega) t13 (opz_less hT h2 hpn t14 t15 t16 t17 h30 hst hg (by omega) h15 (by omega) hnd hz (fun h => by have := hnz h; omega) hls t13 (fun _ _ => hlm) (fun _ h => absurd h0 h) (fun h => absurd h hn) (fun h => absurd h hn))) (fun _ h => by omega), fa_A hmf, ?_, ?_, ?_, ?_, ?_, ?_, fr_A _, ?_, Or.inl ⟨h0, rfl, ?_, ?_⟩⟩
    · simp [ai_up_eq]
    · simp [ai_up_eq]
    · simp [ai_up_eq]
    · simp [ai_up_eq, h19]
    · simp [ai_up_eq]
    · simp [ai_up_eq]
    · intro q a c i hi h1 h2
      rw [ai_up_n (by omega), ai_up_n (by omega), ai_up_n (by omega)]
    · simp [ai_up_eq]
    · simp [ai_up_eq]
  · obtain ⟨l1, l2, l3⟩ := hnz h0
    refine ⟨_, nd, fun hlm => lm_head hk h19 h30 (by omega) t13 (by omega) (fun h => by omega) (fun _ _ _ => ex_31 (by omega) t13 (opz_less hT h2 hpn t14 t15 t16 t17 h30 hst hg (by omega) h15 (by omega) hnd hz (fun h => by have := hnz h; omega) hls t13 (fun _ h => absurd h h0) (fun _ _ => hlm) (fun h => absurd h hn) (fun h => absurd h hn))) (fun _ h => by omega), fa_B hmf, ?_, ?_, ?_, ?_, ?_, ?_, ((fr_opB _ hg1 (by omega) l1 (by omega)).u0 31 _ (by omega)).u0 30 _ (by omega), ?_, Or.inr ⟨h0, rfl, ?_, ?_⟩⟩
    · simp [opB, ai_up_eq]
    · simp [opB, ai_up_eq]
    · simp [opB, ai_up_eq]
    · simp [opB, ai_up_eq, h19]
    · simp [opB, ai_up_eq]
    · simp [opB, ai_up_eq]
    · intro q a c i hi h1 h2
      rw [ai_up_n (by omega), ai_up_n (by omega), opB_n a c h1 h2]
    · rw [ai_up_n (by omega), ai_up_n (by omega), opB_8]
    · rw [ai_up_n (by omega), ai_up_n (by omega), opB_4]
set_option maxHeartbeats 1000000 in
theorem less_more (hk : k < 100000) (hq : mq R tx n hf p nn ((31, nd, dp, ls, ex) :: stk)) (hst : stk.length < 70) (hg : R 0 31 = nI g) (hg1 : b0 < g) (hg2 : g ≤ 350 * hf + nn) (hnn : nn ≤ 321) (hz : nd = 0 → ls = 0) (hnz : nd ≠ 0 → b0 < ls ∧ ls ≤ 350 * hf + nn ∧ nd ≤ 350 * hf + nn) (hb0 : 350 * hf ≤ b0) (hy : px_c tx n (-1) (px_s tx n p) = 60) (h0 : nd = 0) :
    ∃ (R2 : ai_S) (nd2 nn2 : Nat), (lm z R2 (k + 1) → lm z R k) ∧ mf R2 ((33, 0, dp, 0, 0) :: (32, nd2, dp, g, 3) :: stk) ∧ R2 0 2 = nI ((px_s tx n p) + 1) ∧ R2 0 15 = nI (350 * hf + nn2) ∧ R2 0 19 = 0 ∧ R2 0 20 = R 0 20 ∧ R2 0 24 = R 0 24 ∧ mE R R2 b0 (350 * hf + 350) ∧ nX R R2 (350 * hf + nn) g ls ∧ R2 8 g = nI ex ∧ (nd ≠ 0 → nd2 = nd ∧ nn2 = nn ∧ R2 4 ls = nI g) ∧ (nd = 0 → nd2 = 350 * hf + nn + 1 ∧ nn2 = nn + 1 ∧ R2 2 nd2 = 10 ∧ R2 3 nd2 = nI g ∧ R2 4 nd2 = nI 0 ∧ R2 4 g = R 4 g) := by
  obtain ⟨hT, h2, hpn, h14, hhf, h15, hmf, h19⟩ := hq
  obtain ⟨⟨t13, t14, t15, t16, t17⟩, hml, h30⟩ := mf_top hmf
  dsimp only at t13 t14 t15 t16 t17
  have hnd : nd < 700 := by
    by_cases h : nd = 0
    · omega
    · have := (hnz h).2.2; omega
  have hls : ls < 700 := by
    by_cases h : nd = 0
    · have := hz h; omega
    · have := (hnz h).2.1; omega
  · have hg700 : g < 700 := by omega
    refine ⟨_, 350 * hf + nn + 1, nn + 1, fun hlm => lm_head hk h19 h30 (by omega) t13 (by omega) (fun h => by omega) (fun _ _ _ => ex_31 (by omega) t13 (opz_less hT h2 hpn t14 t15 t16 t17 h30 hst hg (by omega) h15 (by omega) hnd hz (fun h => by have := hnz h; omega) hls t13 (fun h _ => absurd hy h) (fun h _ => absurd hy h) (fun _ _ => hlm) (fun _ h => absurd h0 h))) (fun _ h => by omega), fa_CL hmf, ?_, ?_, ?_, ?_, ?_, fr_L _ (fr_opC _ hg1 (by omega) (by omega) (by omega)), ?_, ?_, fun h => absurd h0 h, fun _ => ⟨rfl, rfl, ?_, ?_, ?_, ?_⟩⟩
    · simp [opL, mpush, ai_up_eq]
    · simp [opL, mpush, opC, mfresh, ai_up_eq]; rfl
    · simp [opL, mpush, opC, mfresh, ai_up_eq, h19]
    · simp [opL, mpush, opC, mfresh, ai_up_eq]
    · simp [opL, mpush, opC, mfresh, ai_up_eq]
    · intro q a c i hi h1 h2
      rw [opL_n a c, opC_n a c h1 (by omega)]
    · rw [opL_n (by omega) (by omega), opC_8]
    · rw [opL_n (by omega) (by omega), opC_2]
    · rw [opL_n (by omega) (by omega), opC_3]
    · rw [opL_n (by omega) (by omega), opC_4]
    · rw [opL_n (by omega) (by omega), opC_n (by omega) (by omega) (by omega) (by omega)]
end ORD
