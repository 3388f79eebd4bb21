/-! ===== the reference's operand, whole ===== -/
section OPZ
variable {l : Launch} {D : va_G} {ρ : Nat → Nat} {τ : Nat → ClassId} {d : Nat} {V : ai_V} {tx : Nat → Int32} {n : Nat} {R : ai_S} {G : ai_S → Prop} {f g nd ls ex dp p q : Nat}
set_option maxHeartbeats 4000000 in
theorem opz_prod (hT : mt_T R tx n) (h2 : R 0 2 = nI p) (hpn : p ≤ n) (h14 : R 14 f = nI nd) (h15 : R 15 f = nI dp) (h16 : R 16 f = nI ls) (h17 : R 17 f = nI ex) (h30 : R 0 30 = nI (f + 1)) (hf : f < 70) (hg : R 0 31 = nI g) (hgl : g < 700) (hq : R 0 15 = nI q) (hql : q + 1 < 700) (hndl : nd < 700) (hz : nd = 0 → ls = 0) (hnz : nd ≠ 0 → 0 < ls) (hlsl : ls < 700) (h13 : R 13 f = nI 37) (hend0 : ¬ px_c tx n (-1) (px_s tx n p) = 42 → nd = 0 → G (ai_up (ai_up (ai_up R 0 2 (nI (px_s tx n p))) 0 31 (nI g)) 0 30 (nI f)))
    (hend : ¬ px_c tx n (-1) (px_s tx n p) = 42 → nd ≠ 0 → G (ai_up (ai_up (opB R f g ls ex (px_s tx n p)) 0 31 (nI nd)) 0 30 (nI f)))
    (hnew0 : px_c tx n (-1) (px_s tx n p) = 42 → nd = 0 → G (opM (opC R f (q + 1) g ex (px_s tx n p) 12) f (px_s tx n p) 2 39 dp))
    (hmore0 : px_c tx n (-1) (px_s tx n p) = 42 → nd ≠ 0 → G (opM (opB R f g ls ex (px_s tx n p)) f (px_s tx n p) 2 39 dp)) :
    ai_met (uM l D ρ τ) (d + 1) mX6_operand [.ref 0, .int (nI f), .int 42, .int 42, .int 12, .int 39] R V (ai_qv V G) := by
  have e0 : (nI nd = 0) = (nd = 0) := by rw [← nI_0, i_eq (by omega) (by omega)]
  have u13 : ai_up R 0 2 (nI (px_s tx n p)) 13 f = nI 37 := by rw [ai_up_n (by omega)]; exact h13
  have u14 : ai_up R 0 2 (nI (px_s tx n p)) 14 f = nI nd := by rw [ai_up_n (by omega)]; exact h14
  have u15 : ai_up R 0 2 (nI (px_s tx n p)) 15 f = nI dp := by rw [ai_up_n (by omega)]; exact h15
  have u16 : ai_up R 0 2 (nI (px_s tx n p)) 16 f = nI ls := by rw [ai_up_n (by omega)]; exact h16
  have u17 : ai_up R 0 2 (nI (px_s tx n p)) 17 f = nI ex := by rw [ai_up_n (by omega)]; exact h17
  have u30 : ai_up R 0 2 (nI (px_s tx n p)) 0 30 = nI (f + 1) := by rw [ai_up_n (by omega)]; exact h30
  have u31 : ai_up R 0 2 (nI (px_s tx n p)) 0 31 = nI g := by rw [ai_up_n (by omega)]; exact hg
  have uq : ai_up R 0 2 (nI (px_s tx n p)) 0 15 = nI q := by rw [ai_up_n (by omega)]; exact hq
  refine vX6_operand_prod (sp_peek hT h2 hpn ?_)
  rw [nI_clamp (show f < 2 ^ 31 by omega), u13, u14, u31, e0]
  refine ⟨fun hy => ?_, fun hn => ?_⟩
  · exact ⟨i_in (by omega) (by omega), fun h => absurd h (by decide), fun _ => ⟨fun h0 => op_prod_84_1 (aq := 4) (ai := ls) (by omega) u30 u15 ai_up_s u17 hgl (by omega) (fun G' hG' => sp_madd (by omega) (by rw [ai_up_n (by omega), ai_up_n (by omega)]; exact u16) (hnz h0) hlsl (by rw [ai_up_n (by omega), ai_up_s]) hG') (fun _ => hmore0 hy h0), fun h0 => sp_fresh uq hql (op_prod_84_1 (aq := 3) (ai := q + 1) (by omega) (by simp [mfresh, ai_up_eq, h30]) (by simp [mfresh, ai_up_eq, h15]) (by simp [mfresh, ai_up_eq]) (by simp [mfresh, ai_up_eq, h17]) hgl (by omega) (fun G' hG' => sp_madd0 (by omega) (by simp [mfresh, ai_up_eq, h16, hz h0]) (by simp [mfresh, ai_up_eq]) (by omega) (by simp [ai_up_eq]) hG') (fun _ => hnew0 hy h0))⟩⟩
  · exact ⟨i_in (by omega) (by omega), fun h0 => op_prod_84_0 (by omega) u30 u14 u16 u17 (hnz h0) hlsl hgl (hend hn h0), fun h0 => sp_done u30 (hend0 hn h0)⟩
set_option maxHeartbeats 4000000 in
theorem opz_sum (hT : mt_T R tx n) (h2 : R 0 2 = nI p) (hpn : p ≤ n) (h14 : R 14 f = nI nd) (h15 : R 15 f = nI dp) (h16 : R 16 f = nI ls) (h17 : R 17 f = nI ex) (h30 : R 0 30 = nI (f + 1)) (hf : f < 70) (hg : R 0 31 = nI g) (hgl : g < 700) (hq : R 0 15 = nI q) (hql : q + 1 < 700) (hndl : nd < 700) (hz : nd = 0 → ls = 0) (hnz : nd ≠ 0 → 0 < ls) (hlsl : ls < 700) (h13 : R 13 f = nI 34) (hend0 : ¬ px_c tx n (-1) (px_s tx n p) = 43 → ¬ px_c tx n (-1) (px_s tx n p) = 45 → nd = 0 → G (ai_up (ai_up (ai_up R 0 2 (nI (px_s tx n p))) 0 31 (nI g)) 0 30 (nI f)))
    (hend : ¬ px_c tx n (-1) (px_s tx n p) = 43 → ¬ px_c tx n (-1) (px_s tx n p) = 45 → nd ≠ 0 → G (ai_up (ai_up (opB R f g ls ex (px_s tx n p)) 0 31 (nI nd)) 0 30 (nI f)))
    (hnew0 : px_c tx n (-1) (px_s tx n p) = 43 → nd = 0 → G (opM (opC R f (q + 1) g ex (px_s tx n p) 11) f (px_s tx n p) 0 36 dp))
    (hmore0 : px_c tx n (-1) (px_s tx n p) = 43 → nd ≠ 0 → G (opM (opB R f g ls ex (px_s tx n p)) f (px_s tx n p) 0 36 dp))
    (hnew1 : px_c tx n (-1) (px_s tx n p) = 45 → nd = 0 → G (opM (opC R f (q + 1) g ex (px_s tx n p) 11) f (px_s tx n p) 1 36 dp))
    (hmore1 : px_c tx n (-1) (px_s tx n p) = 45 → nd ≠ 0 → G (opM (opB R f g ls ex (px_s tx n p)) f (px_s tx n p) 1 36 dp)) :
    ai_met (uM l D ρ τ) (d + 1) mX6_operand [.ref 0, .int (nI f), .int 43, .int 45, .int 11, .int 36] R V (ai_qv V G) := by
  have e0 : (nI nd = 0) = (nd = 0) := by rw [← nI_0, i_eq (by omega) (by omega)]
  have u13 : ai_up R 0 2 (nI (px_s tx n p)) 13 f = nI 34 := by rw [ai_up_n (by omega)]; exact h13
  have u14 : ai_up R 0 2 (nI (px_s tx n p)) 14 f = nI nd := by rw [ai_up_n (by omega)]; exact h14
  have u15 : ai_up R 0 2 (nI (px_s tx n p)) 15 f = nI dp := by rw [ai_up_n (by omega)]; exact h15
  have u16 : ai_up R 0 2 (nI (px_s tx n p)) 16 f = nI ls := by rw [ai_up_n (by omega)]; exact h16
  have u17 : ai_up R 0 2 (nI (px_s tx n p)) 17 f = nI ex := by rw [ai_up_n (by omega)]; exact h17
  have u30 : ai_up R 0 2 (nI (px_s tx n p)) 0 30 = nI (f + 1) := by rw [ai_up_n (by omega)]; exact h30
  have u31 : ai_up R 0 2 (nI (px_s tx n p)) 0 31 = nI g := by rw [ai_up_n (by omega)]; exact hg
  have uq : ai_up R 0 2 (nI (px_s tx n p)) 0 15 = nI q := by rw [ai_up_n (by omega)]; exact hq
  refine vX6_operand_sum (sp_peek hT h2 hpn ?_)
  rw [nI_clamp (show f < 2 ^ 31 by omega), u13, u14, u31, e0]
  refine ⟨fun hy => ?_, fun hn => ⟨fun hn2 => ?_, fun hy => ?_⟩⟩
  · exact ⟨i_in (by omega) (by omega), fun h => absurd h (by decide), fun _ => ⟨fun h0 => op_sum_84_1 (aq := 4) (ai := ls) (by omega) u30 u15 ai_up_s u17 hgl (by omega) (fun G' hG' => sp_madd (by omega) (by rw [ai_up_n (by omega), ai_up_n (by omega)]; exact u16) (hnz h0) hlsl (by rw [ai_up_n (by omega), ai_up_s]) hG') (fun _ => hmore0 hy h0) (fun h45 => absurd (hy.symm.trans h45) (by decide)), fun h0 => sp_fresh uq hql (op_sum_84_1 (aq := 3) (ai := q + 1) (by omega) (by simp [mfresh, ai_up_eq, h30]) (by simp [mfresh, ai_up_eq, h15]) (by simp [mfresh, ai_up_eq]) (by simp [mfresh, ai_up_eq, h17]) hgl (by omega) (fun G' hG' => sp_madd0 (by omega) (by simp [mfresh, ai_up_eq, h16, hz h0]) (by simp [mfresh, ai_up_eq]) (by omega) (by simp [ai_up_eq]) hG') (fun _ => hnew0 hy h0) (fun h45 => absurd (hy.symm.trans h45) (by decide)))⟩⟩
  · exact ⟨i_in (by omega) (by omega), fun h0 => op_sum_84_0 (by omega) u30 u14 u16 u17 (hnz h0) hlsl hgl (hend hn hn2 h0), fun h0 => sp_done u30 (hend0 hn hn2 h0)⟩
  · exact ⟨i_in (by omega) (by omega), fun h => absurd h (by decide), fun _ => ⟨fun h0 => op_sum_84_1 (aq := 4) (ai := ls) (by omega) u30 u15 ai_up_s u17 hgl (by omega) (fun G' hG' => sp_madd (by omega) (by rw [ai_up_n (by omega), ai_up_n (by omega)]; exact u16) (hnz h0) hlsl (by rw [ai_up_n (by omega), ai_up_s]) hG') (fun h45 => absurd hy h45) (fun _ => hmore1 hy h0), fun h0 => sp_fresh uq hql (op_sum_84_1 (aq := 3) (ai := q + 1) (by omega) (by simp [mfresh, ai_up_eq, h30]) (by simp [mfresh, ai_up_eq, h15]) (by simp [mfresh, ai_up_eq]) (by simp [mfresh, ai_up_eq, h17]) hgl (by omega) (fun G' hG' => sp_madd0 (by omega) (by simp [mfresh, ai_up_eq, h16, hz h0]) (by simp [mfresh, ai_up_eq]) (by omega) (by simp [ai_up_eq]) hG') (fun h45 => absurd hy h45) (fun _ => hnew1 hy h0))⟩⟩
set_option maxHeartbeats 4000000 in
theorem opz_less (hT : mt_T R tx n) (h2 : R 0 2 = nI p) (hpn : p ≤ n) (h14 : R 14 f = nI nd) (h15 : R 15 f = nI dp) (h16 : R 16 f = nI ls) (h17 : R 17 f = nI ex) (h30 : R 0 30 = nI (f + 1)) (hf : f < 70) (hg : R 0 31 = nI g) (hgl : g < 700) (hq : R 0 15 = nI q) (hql : q + 1 < 700) (hndl : nd < 700) (hz : nd = 0 → ls = 0) (hnz : nd ≠ 0 → 0 < ls) (hlsl : ls < 700) (h13 : R 13 f = nI 31) (hend0 : ¬ px_c tx n (-1) (px_s tx n p) = 60 → nd = 0 → G (ai_up (ai_up (ai_up R 0 2 (nI (px_s tx n p))) 0 31 (nI g)) 0 30 (nI f)))
    (hend : ¬ px_c tx n (-1) (px_s tx n p) = 60 → nd ≠ 0 → G (ai_up (ai_up (opB R f g ls ex (px_s tx n p)) 0 31 (nI nd)) 0 30 (nI f)))
    (hnew0 : px_c tx n (-1) (px_s tx n p) = 60 → nd = 0 → G (opL (opC R f (q + 1) g ex (px_s tx n p) 10) f (px_s tx n p) 3 33 dp))
    (hmore0 : px_c tx n (-1) (px_s tx n p) = 60 → nd ≠ 0 → G (opL (opB R f g ls ex (px_s tx n p)) f (px_s tx n p) 3 33 dp)) :
    ai_met (uM l D ρ τ) (d + 1) mX6_operand [.ref 0, .int (nI f), .int 60, .int 60, .int 10, .int 33] R V (ai_qv V G) := by
  have e0 : (nI nd = 0) = (nd = 0) := by rw [← nI_0, i_eq (by omega) (by omega)]
  have u13 : ai_up R 0 2 (nI (px_s tx n p)) 13 f = nI 31 := by rw [ai_up_n (by omega)]; exact h13
  have u14 : ai_up R 0 2 (nI (px_s tx n p)) 14 f = nI nd := by rw [ai_up_n (by omega)]; exact h14
  have u15 : ai_up R 0 2 (nI (px_s tx n p)) 15 f = nI dp := by rw [ai_up_n (by omega)]; exact h15
  have u16 : ai_up R 0 2 (nI (px_s tx n p)) 16 f = nI ls := by rw [ai_up_n (by omega)]; exact h16
  have u17 : ai_up R 0 2 (nI (px_s tx n p)) 17 f = nI ex := by rw [ai_up_n (by omega)]; exact h17
  have u30 : ai_up R 0 2 (nI (px_s tx n p)) 0 30 = nI (f + 1) := by rw [ai_up_n (by omega)]; exact h30
  have u31 : ai_up R 0 2 (nI (px_s tx n p)) 0 31 = nI g := by rw [ai_up_n (by omega)]; exact hg
  have uq : ai_up R 0 2 (nI (px_s tx n p)) 0 15 = nI q := by rw [ai_up_n (by omega)]; exact hq
  refine vX6_operand_less (sp_peek hT h2 hpn ?_)
  rw [nI_clamp (show f < 2 ^ 31 by omega), u13, u14, u31, e0]
  refine ⟨fun hy => ?_, fun hn => ?_⟩
  · exact ⟨i_in (by omega) (by omega), fun h => absurd h (by decide), fun _ => ⟨fun h0 => op_less_84_1 (aq := 4) (ai := ls) (by omega) u30 u15 ai_up_s u17 hgl (by omega) (fun G' hG' => sp_madd (by omega) (by rw [ai_up_n (by omega), ai_up_n (by omega)]; exact u16) (hnz h0) hlsl (by rw [ai_up_n (by omega), ai_up_s]) hG') (fun _ => hmore0 hy h0), fun h0 => sp_fresh uq hql (op_less_84_1 (aq := 3) (ai := q + 1) (by omega) (by simp [mfresh, ai_up_eq, h30]) (by simp [mfresh, ai_up_eq, h15]) (by simp [mfresh, ai_up_eq]) (by simp [mfresh, ai_up_eq, h17]) hgl (by omega) (fun G' hG' => sp_madd0 (by omega) (by simp [mfresh, ai_up_eq, h16, hz h0]) (by simp [mfresh, ai_up_eq]) (by omega) (by simp [ai_up_eq]) hG') (fun _ => hnew0 hy h0))⟩⟩
  · exact ⟨i_in (by omega) (by omega), fun h0 => op_less_84_0 (by omega) u30 u14 u16 u17 (hnz h0) hlsl hgl (hend hn h0), fun h0 => sp_done u30 (hend0 hn h0)⟩
set_option maxHeartbeats 4000000 in
theorem opz_less2 (hT : mt_T R tx n) (h2 : R 0 2 = nI p) (hpn : p ≤ n) (h14 : R 14 f = nI nd) (h16 : R 16 f = nI ls) (h17 : R 17 f = nI ex) (h30 : R 0 30 = nI (f + 1)) (hf : f < 70) (hg : R 0 31 = nI g) (hgl : g < 700) (hndl : nd < 700) (hn0 : nd ≠ 0) (hnz : 0 < ls) (hlsl : ls < 700) (h13 : R 13 f = nI 32) (hend : G (ai_up (ai_up (opB R f g ls ex (px_s tx n p)) 0 31 (nI nd)) 0 30 (nI f))) :
    ai_met (uM l D ρ τ) (d + 1) mX6_operand [.ref 0, .int (nI f), .int 60, .int 60, .int 10, .int 33] R V (ai_qv V G) := by
  have e0 : (nI nd = 0) = (nd = 0) := by rw [← nI_0, i_eq (by omega) (by omega)]
  have u13 : ai_up R 0 2 (nI (px_s tx n p)) 13 f = nI 32 := by rw [ai_up_n (by omega)]; exact h13
  have u14 : ai_up R 0 2 (nI (px_s tx n p)) 14 f = nI nd := by rw [ai_up_n (by omega)]; exact h14
  have u16 : ai_up R 0 2 (nI (px_s tx n p)) 16 f = nI ls := by rw [ai_up_n (by omega)]; exact h16
  have u17 : ai_up R 0 2 (nI (px_s tx n p)) 17 f = nI ex := by rw [ai_up_n (by omega)]; exact h17
  have u30 : ai_up R 0 2 (nI (px_s tx n p)) 0 30 = nI (f + 1) := by rw [ai_up_n (by omega)]; exact h30
  have u31 : ai_up R 0 2 (nI (px_s tx n p)) 0 31 = nI g := by rw [ai_up_n (by omega)]; exact hg
  refine vX6_operand_less (sp_peek hT h2 hpn ?_)
  rw [nI_clamp (show f < 2 ^ 31 by omega), u13, u14, u31, e0]
  refine ⟨fun _ => ⟨i_in (by omega) (by omega), fun _ => ⟨fun h0 => op_less_84_0 (by omega) u30 u14 u16 u17 hnz hlsl hgl hend, fun h0 => absurd h0 hn0⟩, fun h => absurd (by decide) h⟩, fun _ => ⟨i_in (by omega) (by omega), fun h0 => op_less_84_0 (by omega) u30 u14 u16 u17 hnz hlsl hgl hend, fun h0 => absurd h0 hn0⟩⟩
end OPZ
