/-! ===== what the four ends of operand leave ===== -/
section OPF
variable {R : ai_S} {stk : List mf_T} {cc nd dp ls ex g sk q e' th b t : Nat} {T : Int32}
theorem mf_at_of {B : ai_S} {f : Nat} {x : mf_T} (h1 : B 13 f = nI x.1) (h2 : B 14 f = nI x.2.1) (h3 : B 15 f = nI x.2.2.1) (h4 : B 16 f = nI x.2.2.2.1) (h5 : B 17 f = nI x.2.2.2.2) : mf_at B f x := ⟨h1, h2, h3, h4, h5⟩
theorem fa_A (h : mf R ((cc, nd, dp, ls, ex) :: stk)) : mf (ai_up (ai_up (ai_up R 0 2 (nI sk)) 0 31 (nI g)) 0 30 (nI stk.length)) stk :=
  mf_pop (x := (cc, nd, dp, ls, ex)) (mf_l_o h.2 0 2 _ (by omega))
theorem fa_opB_l (h : mf R ((cc, nd, dp, ls, ex) :: stk)) : mf_l (opB R stk.length g ls ex sk) stk := by
  unfold opB
  exact mf_l_o (mf_l_o (mf_l_o (mf_l_o (mf_l_o h.2.2 0 2 _ (by omega)) 0 31 _ (by omega)) 8 g _ (by omega)) 4 ls _ (by omega)) 16 _ _ (by omega)
theorem fa_B (h : mf R ((cc, nd, dp, ls, ex) :: stk)) : mf (ai_up (ai_up (opB R stk.length g ls ex sk) 0 31 (nI nd)) 0 30 (nI stk.length)) stk :=
  ⟨ai_up_s, mf_l_o (mf_l_o (fa_opB_l h) 0 31 _ (by omega)) 0 30 _ (by omega)⟩
theorem fa_D (h : mf R ((cc, nd, dp, ls, ex) :: stk)) : mf (opM (opB R stk.length g ls ex sk) stk.length sk e' th dp) ((th, 0, dp, 0, 0) :: (cc, nd, dp, g, e') :: stk) := by
  obtain ⟨⟨t13, t14, t15, t16, t17⟩, -, -⟩ := mf_top h
  dsimp only at t13 t14 t15 t16 t17
  unfold opM
  refine mf_push (stk := (cc, nd, dp, g, e') :: stk) ⟨mf_at_of ?_ ?_ ?_ ?_ ?_, ?_⟩ th dp
  · simp [opB, ai_up_eq, t13]
  · simp [opB, ai_up_eq, t14]
  · simp [opB, ai_up_eq, t15]
  · simp [opB, ai_up_eq]
  · simp [opB, ai_up_eq]
  · exact mf_l_o (mf_l_o (fa_opB_l h) 0 2 _ (by omega)) 17 _ _ (by omega)
theorem fa_opC_l (h : mf R ((cc, nd, dp, ls, ex) :: stk)) : mf_l (opC R stk.length q g ex sk T) stk := by
  unfold opC
  exact mf_l_o (mf_l_o (mf_l_o (mf_l_o (mf_l_o (mf_l_fresh (mf_l_o h.2.2 0 2 _ (by omega)) q T) 14 _ _ (by omega)) 0 31 _ (by omega)) 8 g _ (by omega)) 3 q _ (by omega)) 16 _ _ (by omega)
theorem fa_C (h : mf R ((cc, nd, dp, ls, ex) :: stk)) : mf (opM (opC R stk.length q g ex sk T) stk.length sk e' th dp) ((th, 0, dp, 0, 0) :: (cc, q, dp, g, e') :: stk) := by
  obtain ⟨⟨t13, t14, t15, t16, t17⟩, -, -⟩ := mf_top h
  dsimp only at t13 t14 t15 t16 t17
  unfold opM
  refine mf_push (stk := (cc, q, dp, g, e') :: stk) ⟨mf_at_of ?_ ?_ ?_ ?_ ?_, ?_⟩ th dp
  · simp [opC, mfresh, ai_up_eq, t13]
  · simp [opC, mfresh, ai_up_eq]
  · simp [opC, mfresh, ai_up_eq, t15]
  · simp [opC, mfresh, ai_up_eq]
  · simp [opC, mfresh, ai_up_eq]
  · exact mf_l_o (mf_l_o (fa_opC_l h) 0 2 _ (by omega)) 17 _ _ (by omega)
theorem fa_CL (h : mf R ((cc, nd, dp, ls, ex) :: stk)) : mf (opL (opC R stk.length q g ex sk T) stk.length sk e' th dp) ((th, 0, dp, 0, 0) :: (32, q, dp, g, e') :: stk) := by
  obtain ⟨⟨t13, t14, t15, t16, t17⟩, -, -⟩ := mf_top h
  dsimp only at t13 t14 t15 t16 t17
  unfold opL
  refine mf_push (stk := (32, q, dp, g, e') :: stk) ⟨mf_at_of ?_ ?_ ?_ ?_ ?_, ?_⟩ th dp
  · simp [opC, mfresh, ai_up_eq]; rfl
  · simp [opC, mfresh, ai_up_eq]
  · simp [opC, mfresh, ai_up_eq, t15]
  · simp [opC, mfresh, ai_up_eq]
  · simp [opC, mfresh, ai_up_eq]
  · exact mf_l_o (mf_l_o (mf_l_o (fa_opC_l h) 0 2 _ (by omega)) 17 _ _ (by omega)) 13 _ _ (by omega)
/-- frames -/
theorem fr_A (f : Nat) : mE R (ai_up (ai_up (ai_up R 0 2 (nI sk)) 0 31 (nI g)) 0 30 (nI f)) b t := ((mE.rf.u0 2 _ (by omega)).u0 31 _ (by omega)).u0 30 _ (by omega)
theorem fr_opB (f : Nat) (hg : b < g) (hg2 : g < t) (hl : b < ls) (hl2 : ls < t) : mE R (opB R f g ls ex sk) b t :=
  ((((mE.rf.u0 2 _ (by omega)).u0 31 _ (by omega)).uN 8 g _ (by omega) (by omega) hg hg2).uN 4 ls _ (by omega) (by omega) hl hl2).uF 16 f _ (by omega) (by omega)
theorem fr_opC (f : Nat) (hg : b < g) (hg2 : g < t) (hl : b < q) (hl2 : q < t) : mE R (opC R f q g ex sk T) b t :=
  ((((((mE.rf.u0 2 _ (by omega)).fresh q T hl hl2).uF 14 f _ (by omega) (by omega)).u0 31 _ (by omega)).uN 8 g _ (by omega) (by omega) hg hg2).uN 3 q _ (by omega) (by omega) hl hl2).uF 16 f _ (by omega) (by omega)
theorem fr_M {B : ai_S} (f : Nat) (h : mE R B b t) : mE R (opM B f sk e' th dp) b t := ((h.u0 2 _ (by omega)).uF 17 f _ (by omega) (by omega)).push _ _ _
theorem fr_L {B : ai_S} (f : Nat) (h : mE R B b t) : mE R (opL B f sk e' th dp) b t := (((h.u0 2 _ (by omega)).uF 17 f _ (by omega) (by omega)).uF 13 f _ (by omega) (by omega)).push _ _ _
/-- nodes: cell j of node i -/
theorem opM_n {B : ai_S} {f j i : Nat} (h1 : 2 ≤ j) (h2 : j ≤ 8) : opM B f sk e' th dp j i = B j i := by
  unfold opM mpush
  rw [ai_up_n (by omega), ai_up_n (by omega), ai_up_n (by omega), ai_up_n (by omega), ai_up_n (by omega), ai_up_n (by omega), ai_up_n (by omega), ai_up_n (by omega)]
theorem opL_n {B : ai_S} {f j i : Nat} (h1 : 2 ≤ j) (h2 : j ≤ 8) : opL B f sk e' th dp j i = B j i := by
  unfold opL mpush
  rw [ai_up_n (by omega), ai_up_n (by omega), ai_up_n (by omega), ai_up_n (by omega), ai_up_n (by omega), ai_up_n (by omega), ai_up_n (by omega), ai_up_n (by omega), ai_up_n (by omega)]
theorem opB_n {f j i : Nat} (h1 : 2 ≤ j) (h2 : j ≤ 8) (h3 : ¬ (j = 8 ∧ i = g)) (h4 : ¬ (j = 4 ∧ i = ls)) : opB R f g ls ex sk j i = R j i := by
  unfold opB
  rw [ai_up_n (by omega), ai_up_n (by omega), ai_up_n (by omega), ai_up_n (by omega), ai_up_n (by omega)]
theorem opB_8 {f : Nat} : opB R f g ls ex sk 8 g = nI ex := by simp [opB, ai_up_eq]
theorem opB_4 {f : Nat} : opB R f g ls ex sk 4 ls = nI g := by simp [opB, ai_up_eq]
theorem opC_n {f j i : Nat} (h1 : 2 ≤ j) (h2 : j ≤ 8) (h3 : ¬ (j = 8 ∧ i = g)) (h4 : i ≠ q) : opC R f q g ex sk T j i = R j i := by
  unfold opC mfresh
  rw [ai_up_n (by omega), ai_up_n (by omega), ai_up_n (by omega), ai_up_n (by omega), ai_up_n (by omega), ai_up_n (by omega), ai_up_n (by omega), ai_up_n (by omega), ai_up_n (by omega), ai_up_n (by omega), ai_up_n (by omega), ai_up_n (by omega)]
theorem opC_8 {f : Nat} : opC R f q g ex sk T 8 g = nI ex := by simp [opC, ai_up_eq]
theorem opC_2 {f : Nat} : opC R f q g ex sk T 2 q = T := by simp [opC, mfresh, ai_up_eq]
theorem opC_3 {f : Nat} : opC R f q g ex sk T 3 q = nI g := by simp [opC, mfresh, ai_up_eq]
theorem opC_4 {f : Nat} : opC R f q g ex sk T 4 q = nI 0 := by simp [opC, mfresh, ai_up_eq]; rfl
end OPF
