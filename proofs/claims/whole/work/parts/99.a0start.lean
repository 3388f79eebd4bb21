/-! ===== a run, from its start ===== -/
section RST
variable {xz9 : xs_T} {hf x0z9 ez9 np fu : Nat}
/-- the frame of the program itself -/
def g00 : gg_T := fun _ => ([], 0, 0, 0, 0, 0, fun _ => true, fun _ => (0, 0))
/-- the reference, at the head of its loop -/
def rn0 (Rz9 : ai_S) (x0z9 fu : Nat) : ai_S := ai_up (ai_up (fnR (ai_up (ai_up (ai_up (ai_up (ai_up (ai_up (ai_up (ai_up (ai_up (ai_up (ai_up Rz9 0 52 (nI fu)) 0 53 0) 0 54 0) 0 55 0) 0 56 0) 0 57 0) 0 39 0) 0 46 0) 0 47 0) 0 49 0) 0 51 0) 0 0 0 0 (-1) 0) 22 0 (nI (0 + 16 * x0z9 + 16384 * 0))) 0 39 (nI (0 + 1))
theorem lr_start {zz9 : lm_T} {Rz9 : ai_S} (h18 : ¬ Rz9 0 18 = 0) (h16z9 : Rz9 0 16 = nI x0z9) (hfu : fu ≤ 1000) (hz9 : lr zz9 (rn0 Rz9 x0z9 fu) 0) : ai_met (lm_u zz9) (zz9.2.2.2.2.1 + 8) mX6_run [.ref 0, .int (nI fu)] Rz9 (lm_V zz9) (ai_qi (lm_V zz9) zz9.2.2.2.2.2.2.2) := by
  refine vX6_run ⟨fun _ => vX6_within ⟨fun hh => absurd hh (nI_pos (by omega)), fun _ => ⟨fun hh => absurd hh ?_, fun _ => ai_zt ?_⟩⟩, fun hh => absurd hh h18⟩
  · rw [show (1000 : Int32) = nI 1000 from rfl, i_lt (by omega) (by omega)]; omega
  · obtain ⟨Rmz9, hRm⟩ : ∃ Rmz9, Rmz9 = ai_up (ai_up (ai_up (ai_up (ai_up (ai_up (ai_up (ai_up (ai_up (ai_up (ai_up Rz9 0 52 (nI fu)) 0 53 0) 0 54 0) 0 55 0) 0 56 0) 0 57 0) 0 39 0) 0 46 0) 0 47 0) 0 49 0) 0 51 0 := ⟨_, rfl⟩
    have h47 : Rmz9 0 47 = nI 0 := by rw [hRm]; (repeat rw [ai_up_n (by omega)]); rw [ai_up_s]; rfl
    have h46 : Rmz9 0 46 = nI 0 := by rw [hRm]; (repeat rw [ai_up_n (by omega)]); rw [ai_up_s]; rfl
    have h39 : Rmz9 0 39 = nI 0 := by rw [hRm]; (repeat rw [ai_up_n (by omega)]); rw [ai_up_s]; rfl
    have h16' : Rmz9 0 16 = nI x0z9 := by rw [hRm]; (repeat rw [ai_up_n (by omega)]); exact h16z9
    unfold rn0 at hz9
    rw [← hRm] at hz9 ⊢
    refine sp_frame 0 0 0 (by omega) (by omega) (by omega) h47 h46 ?_
    rw [fnR_o (by omega) (by omega) (by omega), h16']
    exact sp_later (c := 0) (by rw [fnR_o (by omega) (by omega) (by omega)]; exact h39) (by omega) hz9
theorem run_sim (hM0 : True) (hh : hf ≤ 1) (hPG : PG (fun jz9 => xC xz9 (21 + jz9)) (xR xz9) hf x0z9 ez9 np) (h3 : xC xz9 20 3 = nI ez9) (h6 : xC xz9 20 6 = nI np) (h18 : ¬ xR xz9 0 18 = 0) (h16z9 : xR xz9 0 16 = nI x0z9) (hfu : fu ≤ 1000) {V : ai_V} (hV : xV xz9 = ai_uv V 9 0 (.ref 20)) :
    ai_met (xu xz9) (xd xz9 + 9) mX1_runProgram [.ref 9, .ref 20, .int (nI fu)] (xC xz9) V (ai_pi (fun az9 C'z9 V' => V' = xV xz9 ∧ ∃ R', rnF (xC xz9) (xR xz9) C'z9 R' ∧ ((xz xz9).2.2.2.2.2.2.2 az9 R' → ai_met (lm_u (xz xz9)) ((xz xz9).2.2.2.2.1 + 8) mX6_run [.ref 0, .int (nI fu)] (xR xz9) (lm_V (xz xz9)) (ai_qi (lm_V (xz xz9)) (xz xz9).2.2.2.2.2.2.2)))) := by
  obtain ⟨SCz9, hy⟩ := yG_of hh hPG
  obtain ⟨yz9, hyy⟩ : ∃ yz9 : ys_T, yz9 = ((fun jz9 => xC xz9 (21 + jz9)), xR xz9, 16 * hf, ez9, np, SCz9) := ⟨_, rfl⟩
  rw [← hyy] at hy
  have k1z9 : yK yz9 = fun jz9 => xC xz9 (21 + jz9) := by rw [hyy]
  have k2z9 : yR yz9 = xR xz9 := by rw [hyy]
  have k3z9 : ye yz9 = ez9 := by rw [hyy]
  have k4z9 : yn yz9 = np := by rw [hyy]
  have hV9 : xV xz9 9 0 = .ref 20 := by rw [hV]; simp [ai_uv, updV]
  have hx : xk yz9 xz9 := ⟨hV9, fun qz9 => by rw [k1z9], fun qz9 _ _ => by rw [k2z9], by rw [k3z9]; exact h3, by rw [k4z9]; exact h6⟩
  refine vX1_runProgram ?_
  rw [← hV]
  obtain ⟨Cs, hCs⟩ : ∃ Cs, Cs = ai_up (ai_up (ai_up (ai_up (ai_up (ai_up (ai_up (ai_up (ai_up (ai_up (ai_up (ai_up (xC xz9) 9 1 (nI fu)) 9 2 0) 9 3 (-1)) 9 4 0) 9 5 0) 9 6 0) 10 5 0) 10 6 0) 10 7 0) 9 10 0) 9 12 0) 9 14 0 := ⟨_, rfl⟩
  rw [← hCs]
  obtain ⟨Rsz9, hRs⟩ : ∃ Rsz9, Rsz9 = rn0 (xR xz9) x0z9 fu := ⟨_, rfl⟩
  obtain ⟨⟨e0z9, q1z9, q2z9, q3z9⟩, q4z9, q5z9, q6z9, q7z9⟩ := id hy
  have x7 := (yS_nd q1z9).2
  have co : ∀ qz9 iz9, ¬ (qz9 = 9 ∧ iz9 ≤ 14) → ¬ (qz9 = 10 ∧ 5 ≤ iz9 ∧ iz9 ≤ 7) → Cs qz9 iz9 = xC xz9 qz9 iz9 := fun qz9 iz9 pz9 p' => by rw [hCs]; (repeat rw [ai_up_n (by omega)])
  have ro : ∀ qz9 iz9, ¬ (qz9 = 0 ∧ 39 ≤ iz9) → ¬ (22 ≤ qz9) → Rsz9 qz9 iz9 = xR xz9 qz9 iz9 := fun qz9 iz9 pz9 p' => by
    rw [hRs]
    unfold rn0
    rw [ai_up_n (by omega), ai_up_n (by omega), fnR_o (by omega) (by omega) (by omega)]; (repeat rw [ai_up_n (by omega)])
  have rvz9 : Rsz9 0 52 = nI fu ∧ Rsz9 0 51 = 0 ∧ Rsz9 0 53 = nI 0 ∧ Rsz9 0 54 = nI 0 ∧ Rsz9 0 55 = 0 ∧ Rsz9 0 56 = 0 ∧ Rsz9 0 57 = nI 0 ∧ Rsz9 0 49 = nI 0 ∧ Rsz9 0 39 = nI 1 ∧ Rsz9 0 46 = nI 1 ∧ Rsz9 0 47 = nI 0 ∧ Rsz9 25 0 = nI 0 ∧ Rsz9 22 0 = nI (0 + 16 * x0z9 + 16384 * 0) := by
    rw [hRs]
    unfold rn0 fnR
    simp [ai_up_eq]
    rfl
  obtain ⟨v52, v51, v53, v54, v55, v56, v57, v49, v39, v46, v47, v25, v22⟩ := rvz9
  have cv : Cs 9 1 = nI fu ∧ Cs 9 2 = nI 0 ∧ Cs 9 3 = -1 ∧ Cs 9 4 = nI 0 ∧ Cs 9 5 = nI 0 ∧ Cs 10 5 = nI 0 ∧ Cs 10 6 = 0 ∧ Cs 10 7 = 0 ∧ Cs 9 10 = nI 0 ∧ Cs 9 12 = nI 0 ∧ Cs 9 14 = nI 0 := by
    rw [hCs]
    simp [ai_up_eq]
    rfl
  obtain ⟨u1z9, u2z9, u3, u4z9, u5, u6, u7, u8, u9, u10, u11⟩ := cv
  have keyz9 : rs xz9 Cs 0 Rsz9 0 := by
    refine go_all hy hx Cs Rsz9 0 0 (Nat.zero_le _) (Or.inr (Or.inl ⟨g00, fun _ => 6, 0, 1, 0, 0, 0, 0, [], 0, 10, x0z9, 0, e0z9, ⟨⟨fun qz9 hq => ?_, fun qz9 p1z9 p2z9 => ?_, fun qz9 hq => ?_⟩, ⟨u1z9, v52, hfu, u3, v51⟩, ⟨u2z9, v53, Nat.zero_le _⟩, ⟨u6, v54, by omega, by rw [u7, v55], by rw [u8, v56]⟩, ⟨0, u11, v57, by omega, fun iz9 hiz9 => by omega⟩, ⟨u10, v49, by omega, fun iz9 hiz9 => by omega⟩, u9, v39, v46, ⟨by omega, fun fz9 hf => ?_⟩, v47, rfl⟩, v22, q1z9, ⟨q3z9, by omega, ⟨rfl, by decide⟩, ⟨rfl, rfl⟩, rfl, rfl, rfl, rfl, rfl, q2z9⟩, rfl, rfl, u4z9, u5, by omega, by omega, by decide⟩))
    · funext iz9; exact co _ _ (by omega) (by omega)
    · funext iz9; exact ro _ _ (by omega) (by omega)
    · exact ro _ _ (by omega) (by omega)
    · have ef : fz9 = 0 := by omega
      subst ef
      exact ⟨v25, by decide, by decide, fun vz9 hv => absurd hv (by simp [gn, g00]), Or.inl ⟨rfl, rfl, rfl, rfl, rfl, rfl, rfl, rfl⟩⟩
  have kz9 := keyz9.mono (Q' := ai_pi (fun az9 C'z9 V' => V' = xV xz9 ∧ ∃ R', rnF (xC xz9) (xR xz9) C'z9 R' ∧ ((xz xz9).2.2.2.2.2.2.2 az9 R' → ai_met (lm_u (xz xz9)) ((xz xz9).2.2.2.2.1 + 8) mX6_run [.ref 0, .int (nI fu)] (xR xz9) (lm_V (xz xz9)) (ai_qi (lm_V (xz xz9)) (xz xz9).2.2.2.2.2.2.2)))) (fun _ _ _ ⟨az9, p1z9, p2z9, R', p3z9, p4z9⟩ => ⟨az9, p1z9, p2z9, R', p3z9, fun hp => lr_start h18 h16z9 hfu (by rw [← hRs]; exact p4z9 hp)⟩)
  exact kz9
end RST
