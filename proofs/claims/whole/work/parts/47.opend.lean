/-! ===== too deep ===== -/
section OSD
variable {l : Launch} {D : va_G} {ρ : Nat → Nat} {τ : Nat → ClassId} {d : Nat} {V : ai_V} {tx : Nat → Int32} {n p f dp q0 m : Nat} {R : ai_S} {G : ai_S → Prop}
theorem use_w {R : ai_S} {c t : Int32} {hh : Nat} {G : Int32 → ai_S → Prop} (g : gh tx hh R) (hqh : 350 * hh ≤ q0 ∧ q0 + 1 < 350 * hh + 350) (hq : R 0 15 = nI q0) (hql : q0 + 1 < 700) (hm : R 0 36 = nI m) (hml : m ≤ 160) (hG : ∀ R' : ai_S, (∀ j, j ≠ 15 → j ≠ 20 → R' 0 j = R 0 j) → (∀ q, 9 ≤ q ∨ q = 1 → R' q = R q) → gh tx hh R' → G (nI (q0 + 1)) R') : ai_met (uM l D ρ τ) (d + 1) mX6_use [.ref 0, .int t, .int c] R V (ai_qi V G) := by
  refine sp_use hq hql hm hml (fun i _ => hG _ (fun j h1 h2 => ?_) (fun q h => ?_) (by unfold mfresh; (repeat with_reducible refine gh.u ?_ (by omega)); exact g)) (fun _ => hG _ (fun j h1 h2 => ?_) (fun q h => ?_) (by unfold mfresh; (repeat with_reducible refine gh.u ?_ (by omega)); exact g))
  · simp [mfresh, ai_up_eq, h1]
  · funext i; unfold mfresh; rw [ai_up_n (by omega), ai_up_n (by omega), ai_up_n (by omega), ai_up_n (by omega), ai_up_n (by omega), ai_up_n (by omega), ai_up_n (by omega), ai_up_n (by omega), ai_up_n (by omega)]
  · simp [mfresh, ai_up_eq, h1, h2]
  · funext i; unfold mfresh; rw [ai_up_n (by omega), ai_up_n (by omega), ai_up_n (by omega), ai_up_n (by omega), ai_up_n (by omega), ai_up_n (by omega), ai_up_n (by omega)]
set_option maxHeartbeats 2000000 in
theorem os_deep {hh : Nat} (hgh : hh ≤ 1 ∧ gh tx hh R) (hqh : 350 * hh ≤ q0 ∧ q0 + 1 < 350 * hh + 350) (hf : f < 78) (hT : mt_T R tx n) (h2 : R 0 2 = nI p) (hpn : p ≤ n) (h15 : R 15 f = nI dp) (hdp : ¬ dp ≤ 10) (hdl : dp < 100) (hq : R 0 15 = nI q0) (hql : q0 + 1 < 700) (h30 : R 0 30 = nI (f + 1)) (h36 : R 0 36 = nI m) (hm : m ≤ 160) (hG : ∀ R' : ai_S, bd tx R' → G R') : ai_met (uM l D ρ τ) (d + 4) mX6_openStatement [.ref 0, .int (nI f)] R V (ai_qv V G) := by
  refine vX6_openStatement (sp_peek hT h2 hpn ⟨i_in (by omega) (by omega), ?_⟩)
  rw [nI_clamp (show f < 2 ^ 31 by omega), show ai_up R 0 2 (nI (px_s tx n p)) 15 f = nI dp by rw [ai_up_n (by omega)]; exact h15, nI_1 dp]
  refine sp_goDeepW (by omega) (by rw [ai_up_n (by omega)]; exact h15) hdl hdp (fun S5 w1 w2 => ?_)
  obtain ⟨T, hT0⟩ : ∃ T, T = ai_up (ai_up S5 0 23 (S5 0 23 + 1)) 0 2 (S5 0 2 + 1) := ⟨_, rfl⟩
  rw [← hT0]
  have t2 : T 0 2 = nI (px_s tx n p + 1) := by rw [hT0, ai_up_s, w2 0 2 (by omega), ai_up_s, nI_1]
  have t19 : T 0 19 = 1 := by rw [hT0, ai_up_n (by omega), ai_up_n (by omega)]; exact w1
  have to : ∀ a i, ¬ (a = 0 ∧ (i = 2 ∨ i = 19 ∨ i = 23 ∨ i = 24)) → T a i = R a i := fun a i h => by rw [hT0, ai_up_n (by omega), ai_up_n (by omega), w2 a i (by omega), ai_up_n (by omega)]
  have tT : mt_T T tx n := ⟨by rw [to _ _ (by omega)]; exact hT.1, hT.2.1, fun i hi => by rw [to _ _ (by omega)]; exact hT.2.2 i hi⟩
  have tT2 : ∀ v : Int32, mt_T (ai_up T 0 2 v) tx n := fun v => ⟨by rw [ai_up_n (by omega)]; exact tT.1, tT.2.1, fun i hi => by rw [ai_up_n (by omega)]; exact tT.2.2 i hi⟩
  have t15 : T 0 15 = nI q0 := by rw [to _ _ (by omega)]; exact hq
  have t36 : T 0 36 = nI m := by rw [to _ _ (by omega)]; exact h36
  have t30 : T 0 30 = nI (f + 1) := by rw [to _ _ (by omega)]; exact h30
  have tg : gh tx hh T := hgh.2.fr (fun q i a _ _ _ => to q i (by omega))
  have bad : ∀ R' : ai_S, R' 0 19 = 1 → gh tx hh R' → G R' := fun R' h g => hG R' (bd_of hgh (fun _ => g) (by rw [h]; decide))
  have lt : ∀ x : Int32, px_c tx n (-1) (px_s tx n p) = x → ¬ x = -1 → px_s tx n p < n := fun x h h0 => px_lt h h0
  have hfr : ∀ (t : Int32) (X : ai_S), X 0 19 = 1 → X 0 15 = nI q0 → X 0 30 = nI (f + 1) → gh tx hh X → ∀ w : Int32, ai_met (uM l D ρ τ) (d + 3) mX6_fresh [.ref 0, .int t] X V (ai_qi V (fun x24 S25 => ai_met (uM l D ρ τ) (d + 3) mX6_push [.ref 0, .int 30, .int (nI (dp + 1))] (ai_up (ai_up S25 14 f x24) 13 f w) V (ai_qv V (fun S27 => G S27)))) := fun t X x19 x15 x30 gX w => by
    refine sp_fresh x15 hql (sp_push (f := f + 1) (by rw [ai_up_n (by omega), ai_up_n (by omega)]; simp [mfresh, ai_up_eq]; exact x30) (by omega) (bad _ ?_ (by unfold mpush mfresh; (repeat with_reducible refine gh.u ?_ (by omega)); exact gX)))
    simp [mpush, mfresh, ai_up_eq]; exact x19
  have hcn : ∀ t : Int32, px_s tx n p < n → ai_met (uM l D ρ τ) (d + 3) mX6_eat [.ref 0, .int 40] T V (ai_qz V (fun b22 S23 => (b22 = true → ai_met (uM l D ρ τ) (d + 3) mX6_fresh [.ref 0, .int t] S23 V (ai_qi V (fun x24 S25 => ai_met (uM l D ρ τ) (d + 3) mX6_push [.ref 0, .int 30, .int (nI (dp + 1))] (ai_up (ai_up S25 14 f x24) 13 f 14) V (ai_qv V (fun S27 => G S27))))) ∧ (b22 = false → ai_met (uM l D ρ τ) (d + 3) mX6_fresh [.ref 0, .int t] (ai_up S23 0 19 1) V (ai_qi V (fun x28 S29 => ai_met (uM l D ρ τ) (d + 3) mX6_push [.ref 0, .int 30, .int (nI (dp + 1))] (ai_up (ai_up S29 14 f x28) 13 f 14) V (ai_qv V (fun S31 => G S31))))))) := fun t hlt => by
    refine sp_eat tT t2 hlt (fun h => ai_zt (hfr t _ ?_ ?_ ?_ (tg.u (by omega)) _)) (fun h => ai_zf (hfr t _ ?_ ?_ ?_ ((tg.u (by omega)).u (by omega)) _))
    · rw [ai_up_n (by omega)]; exact t19
    · rw [ai_up_n (by omega)]; exact t15
    · rw [ai_up_n (by omega)]; exact t30
    · exact ai_up_s
    · rw [ai_up_n (by omega), ai_up_n (by omega)]; exact t15
    · rw [ai_up_n (by omega), ai_up_n (by omega)]; exact t30
  refine sp_isLetter (fun h97 h122 => ai_zt ?_) (fun hnl => ai_zf ⟨fun h33 => ⟨fun h63 => hcn 4 (lt _ h63 (by decide)), fun h63 => ⟨fun h42 => ⟨fun _ => bad _ ai_up_s (tg.u (by omega)), fun h123 => sp_fresh t15 hql (bad _ ?_ (by unfold mfresh; (repeat with_reducible refine gh.u ?_ (by omega)); exact tg))⟩, fun h42 => hcn 5 (lt _ h42 (by decide))⟩⟩, fun h33 => hfr 3 T t19 t15 t30 tg 11⟩)
  · have hlt : px_s tx n p < n := lt _ rfl (fun h => by rw [h] at h97; exact absurd h97 (by decide))
    have hsn : px_s tx n (px_s tx n p + 1) ≤ n := px_s_le tx hlt
    refine sp_eat tT t2 hlt (fun h => ai_zt ?_) (fun h => ai_zf ?_)
    · refine use_w (q0 := q0) (m := m) (hh := hh) (tg.u (by omega)) hqh (by rw [ai_up_n (by omega)]; exact t15) hql (by rw [ai_up_n (by omega)]; exact t36) hm (fun R' u1 u2 gR => sp_push (f := f + 1) (by rw [ai_up_n (by omega), ai_up_n (by omega), u1 30 (by omega) (by omega), ai_up_n (by omega)]; exact t30) (by omega) (bad _ ?_ (by unfold mpush; (repeat with_reducible refine gh.u ?_ (by omega)); exact gR)))
      unfold mpush
      rw [ai_up_n (by omega), ai_up_n (by omega), ai_up_n (by omega), ai_up_n (by omega), ai_up_n (by omega), ai_up_n (by omega), ai_up_n (by omega), ai_up_n (by omega), u1 19 (by omega) (by omega), ai_up_n (by omega)]; exact t19
    · refine sp_eat (tT2 _) ai_up_s hsn (fun h3 => ai_zt ?_) (fun h3 => ai_zf (bad _ ai_up_s ((tg.u (by omega)).u (by omega) |>.u (by omega))))
      have hlt3 : px_s tx n (px_s tx n (px_s tx n p + 1)) < n := px_lt h3 (by decide)
      rw [ai_up_up]
      refine use_w (q0 := q0) (m := m) (hh := hh) (tg.u (by omega)) hqh (by rw [ai_up_n (by omega)]; exact t15) hql (by rw [ai_up_n (by omega)]; exact t36) hm (fun R' u1 u2 gR => vX6_openList ⟨i_in (by omega) (by omega), ?_⟩)
      rw [nI_clamp (show f < 2 ^ 31 by omega)]
      have r2 : R' 0 2 = nI (px_s tx n (px_s tx n (px_s tx n p + 1)) + 1) := by rw [u1 2 (by omega) (by omega), ai_up_s]
      have r19 : R' 0 19 = 1 := by rw [u1 19 (by omega) (by omega), ai_up_n (by omega)]; exact t19
      have r30 : R' 0 30 = nI (f + 1) := by rw [u1 30 (by omega) (by omega), ai_up_n (by omega)]; exact t30
      have rT : mt_T R' tx n := ⟨by rw [u1 1 (by omega) (by omega), ai_up_n (by omega)]; exact tT.1, tT.2.1, fun i hi => by rw [u2 1 (by omega), ai_up_n (by omega)]; exact tT.2.2 i hi⟩
      obtain ⟨U, hU⟩ : ∃ U, U = ai_up (ai_up R' 14 f (nI (q0 + 1))) 13 f 12 := ⟨_, rfl⟩
      rw [← hU]
      have gU : gh tx hh U := by rw [hU]; exact (gR.u (by omega)).u (by omega)
      have u0 : ∀ j, U 0 j = R' 0 j := fun j => by rw [hU, ai_up_n (by omega), ai_up_n (by omega)]
      have uT : mt_T U tx n := ⟨by rw [u0]; exact rT.1, rT.2.1, fun i hi => by rw [hU, ai_up_n (by omega), ai_up_n (by omega)]; exact rT.2.2 i hi⟩
      refine sp_eat uT (by rw [u0]; exact r2) hlt3 (fun h => ai_zt ?_) (fun h => ai_zf (sp_push (f := f + 1) (by rw [ai_up_n (by omega), u0]; exact r30) (by omega) (bad _ ?_ (by unfold mpush; (repeat with_reducible refine gh.u ?_ (by omega)); exact gU))))
      · have hlt4 : px_s tx n (px_s tx n (px_s tx n (px_s tx n p + 1)) + 1) < n := px_lt h (by decide)
        refine sp_closeW (tx := tx) (n := n) (d := d) (cL := 12) ⟨hgh.1, gU.u (by omega)⟩ (Or.inr rfl) (by omega) (by rw [ai_up_n (by omega), hU, ai_up_s]; rfl) (by rw [ai_up_n (by omega), u0]; exact r30) (by rw [ai_up_n (by omega), u0]; exact r19) ⟨by rw [ai_up_n (by omega)]; exact uT.1, uT.2.1, fun i hi => by rw [ai_up_n (by omega)]; exact uT.2.2 i hi⟩ ai_up_s hlt4 hG
      · unfold mpush
        rw [ai_up_n (by omega), ai_up_n (by omega), ai_up_n (by omega), ai_up_n (by omega), ai_up_n (by omega), ai_up_n (by omega), ai_up_n (by omega), u0]; exact r19
  · rw [ai_up_n (by omega), ai_up_n (by omega), ai_up_n (by omega)]; simp [mfresh, ai_up_eq]; exact t19
end OSD
