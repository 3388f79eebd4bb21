/-! ===== a call's frame: its actuals are worked out ===== -/
section ARG
variable {yz9 : ys_T} {Cz9 Rz9 C'z9 R' : ai_S} {Gz9 : gg_T} {pd : Nat → Nat} {nfz9 ez9 : Nat}
theorem fo_gr (hz9 : FR yz9 Cz9 Rz9 Gz9 pd nfz9) : ∀ fz9, fz9 < nfz9 → gr Gz9 fz9 ≤ gi Gz9 fz9 := by
  intro fz9
  induction fz9 using Nat.strongRecOn with
  | ind fz9 ihz9 =>
    intro hf
    obtain ⟨_, _, _, _, h2⟩ := hz9.2 fz9 hf
    rcases h2 with ⟨_, h2, h3, h4, h5, h6, _⟩ | ⟨ndz9, h0, h2, h3, h4, h5, h6, h7, _⟩ | ⟨pr, o, ca, cntz9, wz9, h0, h1, h2, h3, h4, h5, h6, h7, h8, h9, h10, h11, h12, _⟩
    · omega
    · have := ihz9 (fz9 - 1) (by omega) (by omega)
      omega
    · have g1 := ihz9 ca h8 (by omega)
      have g2 : gi Gz9 ca ≤ gi Gz9 (fz9 - 1) := by
        by_cases ez9 : ca = fz9 - 1
        · subst ez9; exact Nat.le_refl _
        · exact (fo_lt hz9 (show ca < fz9 - 1 by omega) (by omega)).2.2
      omega
/-- a call's frame, taken apart -/
theorem fo_call (hz9 : FR yz9 Cz9 Rz9 Gz9 pd nfz9) {fz9 pr : Nat} (hf : fz9 < nfz9) (hs : gs Gz9 fz9 = (pr + 1, 0, 0) :: yC yz9 pr) : ∃ o ca cntz9 wz9, 0 < fz9 ∧ pr < yn yz9 ∧ gs Gz9 o = yC yz9 pr ∧ Rz9 23 fz9 = nI o ∧ o < fz9 ∧ Rz9 24 fz9 = nI (yb yz9 + pr) ∧ Rz9 26 fz9 = nI ca ∧ ca < fz9 ∧ gi Gz9 fz9 = gi Gz9 (fz9 - 1) + 1 ∧ Cz9 12 (gi Gz9 fz9) = nI (gi Gz9 o) ∧ Cz9 13 (gi Gz9 fz9) = nI (gi Gz9 ca) ∧ gr Gz9 fz9 = gr Gz9 ca + 1 ∧ gr Gz9 o ≤ gr Gz9 ca ∧ gc Gz9 fz9 = 0 ∧ gn Gz9 fz9 = cntz9 + 1 ∧ yR yz9 10 (yb yz9 + pr) = nI cntz9 ∧ cntz9 ≤ 6 ∧ yR yz9 11 (yb yz9 + pr) = nI wz9 ∧ wz9 < 64 ∧ pd o = 6 ∧ pd ca = 6 ∧ gb Gz9 (fz9 - 1) + gn Gz9 (fz9 - 1) = gb Gz9 fz9 ∧ (∀ vz9, gk Gz9 fz9 vz9 = (decide (vz9 = 0) || wz9.testBit (vz9 - 1))) ∧ pd fz9 ≤ 6 ∧ ∀ iz9, iz9 < cntz9 → ar yz9 Cz9 Rz9 Gz9 pd fz9 ca cntz9 wz9 iz9 := by
  obtain ⟨_, _, _, _, h2⟩ := hz9.2 fz9 hf
  rcases h2 with ⟨_, h2, _⟩ | ⟨ndz9, h0, h2, _⟩ | ⟨pr', o, ca, cntz9, wz9, h0, h1, h2, hh⟩
  · rw [h2] at hs; cases hs
  · rw [h2] at hs
    have := congrArg Prod.fst (List.cons.inj hs).1
    simp at this
  · have ez9 : pr' = pr := by
      have := congrArg Prod.fst (List.cons.inj (h2.symm.trans hs)).1
      simp at this
      exact this
    subst ez9
    exact ⟨o, ca, cntz9, wz9, h0, h1, hh⟩
theorem FR.pdx (hz9 : FR yz9 Cz9 Rz9 Gz9 pd (ez9 + 1)) {i1z9 pr : Nat} (hs : gs Gz9 ez9 = (pr + 1, 0, 0) :: yC yz9 pr) (h6 : i1z9 ≤ 6) (hle : pd ez9 ≤ i1z9) (hbz9 : ∀ vz9, vz9 < gn Gz9 ez9 → gk Gz9 ez9 vz9 = true → (i1z9 = 6 ∨ vz9 ≤ i1z9) → (pd ez9 = 6 ∨ vz9 ≤ pd ez9)) : FR yz9 Cz9 Rz9 Gz9 (fun qz9 => if qz9 = ez9 then i1z9 else pd qz9) (ez9 + 1) := by
  obtain ⟨a1z9, a2, a3, a4, _⟩ := hz9.2 ez9 (by omega)
  obtain ⟨o, ca, cntz9, wz9, b1, b2, b4, b5, b6, b7, b8, b9, b10, b11, b12, b13, b14, b15, b16z9, b17, b18, b19, b20, b21, b22, b23, b24z9, b25, b26⟩ := fo_call hz9 (by omega) hs
  have h0 : FR yz9 Cz9 Rz9 Gz9 pd ez9 := ⟨b1, fun fz9 hf => hz9.2 fz9 (by omega)⟩
  have hp : ∀ iz9, iz9 ≠ ez9 → (if iz9 = ez9 then i1z9 else pd iz9) = pd iz9 := fun iz9 hiz9 => if_neg hiz9
  refine (h0.ext (fun _ _ => rfl) (fun _ _ => ⟨rfl, rfl⟩) (fun _ _ _ _ _ => rfl) (fun _ _ => ⟨rfl, rfl⟩) (fun iz9 hiz9 => ⟨rfl, hp iz9 (by omega)⟩)).push ⟨a1z9, a2, a3, fun vz9 hv hk hpd => a4 vz9 hv hk (hbz9 vz9 hv hk (by simpa using hpd)), Or.inr (Or.inr ⟨pr, o, ca, cntz9, wz9, b1, b2, hs, b4, b5, b6, b7, b8, b9, b10, b11, b12, b13, b14, b15, b16z9, b17, b18, b19, b20, (hp o (by omega)).trans b21, (hp ca (by omega)).trans b22, b23, b24z9, by simpa using h6, fun iz9 hiz9 => ?_⟩)⟩
  obtain ⟨d1z9, d2z9, d3z9, d4z9, d5z9, d6z9, d7z9, d8z9⟩ := b26 iz9 hiz9
  exact ⟨d1z9, d2z9, d3z9, d4z9, d5z9, d6z9, d7z9, fun hw hpi => d8z9 hw (by simp at hpi; omega)⟩
theorem FR.arg (hz9 : FR yz9 Cz9 Rz9 Gz9 pd (ez9 + 1)) {pr iz9 cntz9 wz9 : Nat} {vz9 : Int32} (hs : gs Gz9 ez9 = (pr + 1, 0, 0) :: yC yz9 pr) (hiz9 : pd ez9 = iz9) (hic : iz9 < cntz9) (hcn : yR yz9 10 (yb yz9 + pr) = nI cntz9) (hc6 : cntz9 ≤ 6) (hww : yR yz9 11 (yb yz9 + pr) = nI wz9) (hw64 : wz9 < 64) (hbit : wz9.testBit iz9 = true)
    (h11 : C'z9 11 = upd (Cz9 11) (31 * gi Gz9 ez9 + 1 + iz9) vz9) (h12 : C'z9 12 = Cz9 12) (h13 : C'z9 13 = Cz9 13) (h27 : R' 27 = upd (Rz9 27) (gb Gz9 ez9 + 1 + iz9) vz9) (h23 : ∀ qz9, 23 ≤ qz9 → qz9 ≤ 28 → qz9 ≠ 27 → R' qz9 = Rz9 qz9) : FR yz9 C'z9 R' Gz9 (fun qz9 => if qz9 = ez9 then iz9 + 1 else pd qz9) (ez9 + 1) := by
  obtain ⟨a1z9, a2, a3, a4, _⟩ := hz9.2 ez9 (by omega)
  obtain ⟨o, ca', cnt', w', b1, b2, b4, b5, b6, b7, b8, b9, b10, b11, b12, b13, b14, b15, b16z9, b17, b18, b19, b20, b21, b22, b23, b24z9, b25, b26⟩ := fo_call hz9 (by omega) hs
  have e1z9 : cnt' = cntz9 := by
    have := b17.symm.trans hcn
    rw [i_eq (by omega) (by omega)] at this
    exact this
  have e2z9 : w' = wz9 := by
    have := b19.symm.trans hww
    rw [i_eq (by omega) (by omega)] at this
    exact this
  subst e1z9 e2z9
  have h0 : FR yz9 Cz9 Rz9 Gz9 pd ez9 := ⟨b1, fun fz9 hf => hz9.2 fz9 (by omega)⟩
  have hp : ∀ qz9, qz9 ≠ ez9 → (if qz9 = ez9 then iz9 + 1 else pd qz9) = pd qz9 := fun qz9 hq => if_neg hq
  have uz9 : ∀ qz9, C'z9 11 qz9 = if qz9 = 31 * gi Gz9 ez9 + 1 + iz9 then vz9 else Cz9 11 qz9 := fun qz9 => by rw [h11]; rfl
  have u' : ∀ qz9, R' 27 qz9 = if qz9 = gb Gz9 ez9 + 1 + iz9 then vz9 else Rz9 27 qz9 := fun qz9 => by rw [h27]; rfl
  have stz9 := fo_step hz9 (f := ez9 - 1) (by omega)
  rw [Nat.sub_add_cancel b1] at stz9
  refine (h0.ext (fun qz9 hq => by rw [uz9, if_neg (by omega)]) (fun qz9 _ => ⟨by rw [h12], by rw [h13]⟩) (fun qz9 p1z9 p2z9 q' _ => by rw [h23 qz9 p1z9 (by omega) (by omega)]) (fun qz9 hq => ⟨by rw [u', if_neg (by omega)], by rw [h23 28 (by omega) (by omega) (by omega)]⟩) (fun qz9 hq => ⟨rfl, hp qz9 (by omega)⟩)).push ⟨by rw [h23 25 (by omega) (by omega) (by omega)]; exact a1z9, a2, a3, fun v' hv hk hpd => ?_, Or.inr (Or.inr ⟨pr, o, ca', cnt', w', b1, b2, hs, b4, by rw [h23 23 (by omega) (by omega) (by omega)]; exact b5, b6, by rw [h23 24 (by omega) (by omega) (by omega)]; exact b7, by rw [h23 26 (by omega) (by omega) (by omega)]; exact b8, b9, b10, by rw [h12]; exact b11, by rw [h13]; exact b12, b13, b14, b15, b16z9, b17, b18, b19, b20, (hp o (by omega)).trans b21, (hp ca' (by omega)).trans b22, b23, b24z9, by simp; omega, fun i' hi' => ?_⟩)⟩
  · rw [uz9, u', b15]
    by_cases evz9 : v' = iz9 + 1
    · rw [if_pos (by omega), if_pos (by omega)]
    · rw [if_neg (by omega), if_neg (by omega)]
      have := a4 v' hv hk (Or.inr (by simp at hpd; omega))
      rw [b15] at this
      exact this
  · obtain ⟨d1z9, d2z9, d3z9, d4z9, d5z9, d6z9, d7z9, d8z9⟩ := b26 i' hi'
    refine ⟨d1z9, d2z9, d3z9, d4z9, d5z9, d6z9, fun hw => ?_, fun hw hpi => ?_⟩
    · have hne : i' ≠ iz9 := by intro ez9; subst ez9; rw [hbit] at hw; cases hw
      rw [u', uz9, if_neg (by omega), if_neg (by omega), h23 28 (by omega) (by omega) (by omega)]
      exact d7z9 hw
    · have hne : iz9 + 1 ≤ i' := by simpa using hpi
      rw [uz9, if_neg (by omega)]
      exact d8z9 hw (by omega)
end ARG
section GOA
variable {yz9 : ys_T} {xz9 : xs_T} {x0z9 fu Nz9 : Nat} {Cz9 Rz9 Rk : ai_S} {jz9 kk : Nat} {Gz9 : gg_T} {pd : Nat → Nat} {cs na tz9 en wt : Nat} {l : List Nat} {ez9 pr ca cntz9 wz9 iz9 az9 cz9 nb b2 b' : Nat}
theorem go_args (hy : yG yz9 x0z9) (hx : xk yz9 xz9) (ihz9 : go yz9 xz9 fu (Nz9 + 1)) (hNz9 : Nz9 ≤ 10 * jz9 + kk) (h1 : iv yz9 (xC xz9) (xR xz9) Cz9 Rz9 Gz9 pd fu cs (ez9 + 1) (na + 1) tz9 en wt) (hs : gs Gz9 ez9 = (pr + 1, 0, 0) :: yC yz9 pr) (hcn : yR yz9 10 (yb yz9 + pr) = nI cntz9) (hc6 : cntz9 ≤ 6) (hww : yR yz9 11 (yb yz9 + pr) = nI wz9) (hw64 : wz9 < 64) (hca : Rz9 26 ez9 = nI ca) (hcae : ca < ez9) (hgca : gr Gz9 ca + en ≤ na) (hkc : kc yz9 Cz9 Rz9 Gz9 pd l ca b' ez9 na tz9 en wt) (h14 : Cz9 14 (na + 1) = nI b') (hpi : pd ez9 = iz9) (hic : iz9 ≤ cntz9) (hpl : cx_pl (yK yz9) wz9 (cntz9 - iz9) iz9 az9 cz9) (hnb : yR yz9 9 (yb yz9 + pr) = nI nb) (hbody : yS yz9 (gs Gz9 ez9) 10 nb cz9 b2) (hb2 : yK yz9 0 b2 = 17) (hb2e : b2 < ye yz9) (h94 : Cz9 9 4 = nI az9) (h95 : Cz9 9 5 = nI (na + 1)) (hef : ez9 + 11 ≤ 11 * (na + 2)) (htb : tz9 + 76 ≤ 90 * (na + en + 2)) (hms : 10 * jz9 + kk + 121 + 121 * gr Gz9 ca + po l ≤ 4100 * cs)
    (uz9 : Nat) (hR : ai_met (lm_u (xz xz9)) (uz9 + 1) mX6_arguments [.ref 0, .int (nI (if iz9 < cntz9 then (ga Gz9 ez9 iz9).1 else 0)), .int (nI ez9)] Rz9 (lm_V (xz xz9)) (ai_qv (lm_V (xz xz9)) (fun R5 => lr (xz xz9) R5 (kk + 1))) → lr (xz xz9) Rk kk) : rs xz9 Cz9 jz9 Rk kk := by
  obtain ⟨y1, y2, y3, y4⟩ := h1.ly hx
  obtain ⟨_, ⟨b1, b2', bfu, b4, b5⟩, ⟨c1z9, c2z9, c3z9⟩, ⟨d1z9, d2z9, d3z9, _, _⟩, _, ⟨w1z9, w2z9, w3z9, w4z9⟩, hen', h39, hfr1, hfr, hfr2, hfr3⟩ := id h1
  have hye := hy.2.1
  have hyb := hy.2.2.2.1
  have hyn := hy.2.2.1
  have hMz9 := hx.1
  rw [Nat.add_sub_cancel] at hfr2 hfr3
  obtain ⟨o, ca', cnt', w', f1z9, f2z9, f4z9, f5z9, f6z9, f7z9, f8z9, f9z9, f10, f11z9, f12z9, f13, f14z9, f15, f16, f17z9, f18, f19, f20z9, f21, f22, f23, f24, f25, f26⟩ := fo_call hfr (by omega) hs
  have e1z9 : cnt' = cntz9 := by
    have := f17z9.symm.trans hcn
    rw [i_eq (by omega) (by omega)] at this
    exact this
  have e2z9 : w' = wz9 := by
    have := f19.symm.trans hww
    rw [i_eq (by omega) (by omega)] at this
    exact this
  have e3z9 : ca' = ca := by
    have := f8z9.symm.trans hca
    rw [i_eq (by omega) (by omega)] at this
    exact this
  subst e1z9 e2z9 e3z9
  have hgic := (fo_top hfr (show ca' < ez9 + 1 by omega)).2
  rw [Nat.add_sub_cancel] at hgic
  have hgra := fo_gr hfr ca' (by omega)
  have hplc := cx_pl_le _ _ _ _ hpl
  have hbl := yS_lt hbody
  have nb7 := (yS_nd hbody).2
  have hlv := kc_lv hkc
  -- the actuals as the loop sees them
  obtain ⟨hx', hxa, hxb⟩ : ∃ hx' : Nat → Nat × Nat, (∀ qz9, qz9 < cnt' → hx' qz9 = ga Gz9 ez9 qz9) ∧ (hx' cnt').1 = 0 := ⟨fun qz9 => if qz9 < cnt' then ga Gz9 ez9 qz9 else (0, 0), fun qz9 hq => if_pos hq, by simp⟩
  have hla : ∀ qz9, qz9 < cnt' → nd7 (hx' qz9).1 ∧ yR yz9 8 (hx' qz9).1 = nI qz9 ∧ yR yz9 4 (hx' qz9).1 = nI (hx' (qz9 + 1)).1 := by
    intro qz9 hq
    obtain ⟨d1z9, d2z9, d3z9, _⟩ := f26 qz9 hq
    rw [hxa qz9 hq]
    refine ⟨d1z9, d2z9, ?_⟩
    rw [d3z9]
    by_cases hq1 : qz9 + 1 < cnt'
    · rw [if_pos hq1, hxa _ hq1]
    · rw [if_neg hq1, show qz9 + 1 = cnt' by omega, hxb]
  have hk0 : nI (if iz9 < cnt' then (ga Gz9 ez9 iz9).1 else 0) = nI (hx' iz9).1 := by
    by_cases hq : iz9 < cnt'
    · rw [if_pos hq, hxa _ hq]
    · rw [if_neg hq, show iz9 = cnt' by omega, hxb]
  rw [hk0] at hR
  have r24 : Rz9 24 ez9 = nI (yb yz9 + pr) := f7z9
  have agl := ag_loop hc6 hw64 (show yb yz9 + pr < 32 by omega) (show ez9 < 400 by omega) hxb hla (by rw [y4 11 (by omega) (by omega)]; exact hww) (fun qz9 p1z9 p2z9 => y4 qz9 p1z9 (by omega)) hca (by rw [y4 9 (by omega) (by omega)]; exact hnb) h39 (by omega) (cnt' - iz9) iz9 (by omega)
  have sta : ∀ (Gp : ai_S → Prop), ai_W (lm_u (xz xz9)) (uz9 + 1) mX6_arguments 10 [(0, .ref 0), (2, .int (nI ez9)), (3, .int (nI (yb yz9 + pr))), (4, .int (nI (hx' iz9).1))] [] Rz9 (lm_V (xz xz9)) (ai_qv (lm_V (xz xz9)) Gp) → ai_met (lm_u (xz xz9)) (uz9 + 1) mX6_arguments [.ref 0, .int (nI (hx' iz9).1), .int (nI ez9)] Rz9 (lm_V (xz xz9)) (ai_qv (lm_V (xz xz9)) Gp) := by
    intro Gp hG
    refine vX6_arguments ⟨i_in (by omega) (by omega), ?_⟩
    rw [nI_clamp (by omega), r24]
    exact hG
  have pdo : ∀ (i1z9 : Nat), (∀ qz9, qz9 < ez9 → (if qz9 = ez9 then i1z9 else pd qz9) = pd qz9) := fun i1z9 qz9 hq => if_neg (by omega)
  rcases agl with ⟨i1z9, g1, g2, g3z9, g4, g5z9⟩ | ⟨g1, g2⟩
  · -- an actual forz9 az9 formal by value
    have hpl2 := pl_skip (i1z9 - iz9) iz9 az9 (by omega) (fun i' p1z9 p2z9 => g4 i' p1z9 (by omega)) hpl
    rw [show iz9 + (i1z9 - iz9) = i1z9 by omega, show cnt' - i1z9 = (cnt' - (i1z9 + 1)) + 1 by omega] at hpl2
    have hpl3 : yK yz9 0 az9 = 12 ∧ yK yz9 1 az9 = nI (i1z9 + 1) ∧ yK yz9 2 az9 = 0 ∧ yK yz9 0 (az9 + 1) = 16 ∧ yK yz9 1 (az9 + 1) = nI (i1z9 + 1) ∧ cx_pl (yK yz9) w' (cnt' - (i1z9 + 1)) (i1z9 + 1) (az9 + 2) cz9 := by
      rcases hpl2 with ⟨_, q1z9, q2z9, q3z9, q4z9, q5z9, q6z9⟩ | ⟨q1z9, _⟩
      · exact ⟨q1z9, q2z9, q3z9, q4z9, q5z9, q6z9⟩
      · rw [g3z9] at q1z9; cases q1z9
    obtain ⟨q1z9, q2z9, q3z9, q4z9, q5z9, q6z9⟩ := hpl3
    have hplc2 := cx_pl_le _ _ _ _ q6z9
    obtain ⟨k1z9, k2z9, k3z9, k4z9, k5z9, ⟨mz9, k6z9, k6', k6''⟩, k7z9, k8z9⟩ := f26 i1z9 g2
    have hvhd := k8z9 g3z9 (by omega)
    obtain ⟨xn, hxn⟩ : ∃ xn, xn = (ga Gz9 ez9 i1z9).1 := ⟨_, rfl⟩
    obtain ⟨hh, hhh⟩ : ∃ hh, hh = (ga Gz9 ez9 i1z9).2 := ⟨_, rfl⟩
    rw [← hxn] at k1z9 k2z9 k6z9
    rw [← hhh] at k4z9 k6z9 hvhd
    rw [hxa i1z9 g2, ← hxn] at g5z9
    have xn7 := k1z9.2
    obtain ⟨pd', hpd'⟩ : ∃ pd' : Nat → Nat, pd' = fun qz9 => if qz9 = ez9 then i1z9 else pd qz9 := ⟨_, rfl⟩
    have pde : pd' ez9 = i1z9 := by rw [hpd']; simp
    have pdl : ∀ qz9, qz9 < ez9 → pd' qz9 = pd qz9 := fun qz9 hq => by rw [hpd']; exact pdo i1z9 qz9 hq
    have hfr' : FR yz9 Cz9 Rz9 Gz9 pd' (ez9 + 1) := by
      rw [hpd']
      refine hfr.pdx hs (by omega) (by omega) (fun vz9 hv hk hp => ?_)
      rw [hpi]
      refine Or.inr ?_
      rw [f24] at hk
      by_cases hv0 : vz9 = 0
      · omega
      · rw [decide_eq_false hv0, Bool.false_or] at hk
        refine Classical.byContradiction fun hcz9 => ?_
        rw [g4 (vz9 - 1) (by omega) (by omega)] at hk
        cases hk
    refine rs_step hMz9 (by omega) b4 (st_wo hMz9 h94 (by omega : az9 < ye yz9) hye y1 (c := 12) (by rw [y3 0]; exact q1z9) (by decide) ?_)
    rw [show Cz9 23 az9 = 0 by rw [y3 2]; exact q3z9, show Cz9 22 az9 = nI (i1z9 + 1) by rw [y3 1]; exact q2z9]
    refine vX1_workOut hMz9 (vX0_outwards (vX0_outwards_5 ⟨fun _ => ⟨fun hh => absurd rfl hh, fun _ => ?_⟩, fun hh => absurd (Int32.le_refl _) hh⟩))
    rw [show (ai_up Cz9 9 4 (nI (az9 + 1))) 9 10 = nI en by (repeat rw [ai_up_n (by omega)]); exact hen', show (ai_up Cz9 9 4 (nI (az9 + 1))) 9 5 = nI (na + 1) by (repeat rw [ai_up_n (by omega)]); exact h95, ai_up_s, show (31 : Int32) = nI 31 from rfl, pk_mul, nI_add, show (na + 1) * 31 + (i1z9 + 1) = 31 * (na + 1) + 1 + i1z9 by omega]
    refine ⟨nI_pos (by omega), by rw [show (30 : Int32) = nI 30 from rfl, i_lt (by omega) (by omega)]; omega, i_in (by omega) (by omega), nI_pos (by omega), by rw [show (961 : Int32) = nI 961 from rfl, i_le (by omega) (by omega)]; omega, i_in (by omega) (by omega), nI_pos (by omega), by rw [i_le (by omega) (by omega)]; omega, i_in (by omega) (by omega), ?_⟩
    rw [hfr3] at hvhd
    rw [nI_clamp (show en < 2 ^ 31 by omega), nI_clamp (show 31 * (na + 1) + 1 + i1z9 < 2 ^ 31 by omega), nI_clamp (show na + 1 < 2 ^ 31 by omega), nI_1, show (ai_up Cz9 9 4 (nI (az9 + 1))) 11 (31 * (na + 1) + 1 + i1z9) = nI hh by (repeat rw [ai_up_n (by omega)]); exact hvhd, nI_1, show (ai_up Cz9 9 4 (nI (az9 + 1))) 13 (na + 1) = nI (gi Gz9 ca') by (repeat rw [ai_up_n (by omega)]); rw [← hfr3]; exact f12z9]
    obtain ⟨C2z9, hC2⟩ : ∃ C2z9, C2z9 = ai_up (ai_up (ai_up (ai_up (ai_up (ai_up Cz9 9 4 (nI (az9 + 1))) 16 en (nI (az9 + 1))) 17 en (nI (na + 1))) 9 10 (nI (en + 1))) 9 4 (nI (hh + 1))) 9 5 (nI (gi Gz9 ca')) := ⟨_, rfl⟩
    rw [← hC2]
    have co : ∀ qz9 i', ¬ (qz9 = 9 ∧ (i' = 4 ∨ i' = 5 ∨ i' = 10)) → ¬ ((qz9 = 16 ∨ qz9 = 17) ∧ i' = en) → C2z9 qz9 i' = Cz9 qz9 i' := fun qz9 i' pz9 p' => by rw [hC2]; (repeat rw [ai_up_n (by omega)])
    obtain ⟨R2, hR2⟩ : ∃ R2, R2 = ai_up (ai_up (ai_up (ai_up Rz9 22 tz9 (nI (12 + 16 * xn + 16384 * ez9))) 0 39 (nI (tz9 + 1))) 22 (tz9 + 1) (nI (8 + 16 * xn + 16384 * ca'))) 0 39 (nI (tz9 + 1 + 1)) := ⟨_, rfl⟩
    have ro : ∀ qz9 i', ¬ (qz9 = 0 ∧ i' = 39) → ¬ (qz9 = 22 ∧ tz9 ≤ i') → R2 qz9 i' = Rz9 qz9 i' := fun qz9 i' pz9 p' => by rw [hR2]; (repeat rw [ai_up_n (by omega)])
    rw [← hR2] at g5z9
    have hkc' : kc yz9 C2z9 R2 Gz9 pd' l ca' b' ez9 na tz9 en wt := kc_keep l ca' b' ez9 na tz9 en wt (fun iz9 hiz9 => ro _ _ (by omega) (by omega)) (fun iz9 hiz9 => ro _ _ (by omega) (by omega)) (fun iz9 hiz9 => ⟨co _ _ (by omega) (by omega), co _ _ (by omega) (by omega)⟩) (fun iz9 hiz9 => ⟨co _ _ (by omega) (by omega), co _ _ (by omega) (by omega)⟩) (fun iz9 hiz9 => co _ _ (by omega) (by omega)) (fun iz9 hiz9 => ⟨rfl, pdl iz9 hiz9⟩) hkc
    refine rs_ref (R1 := R2) (k1 := kk + 1) (fun hl => hR (sta _ (g5z9 (xz xz9) _ _ _ hl))) (ihz9 C2z9 R2 (jz9 + 1) (kk + 1) (by omega) (Or.inl ⟨Gz9, pd', cs, ez9 + 1, na + 1, tz9 + 1, en + 1, wt, 2 :: 7 :: l, ca', 50, xn, hh + 1, mz9, h1.gen (fun qz9 iz9 pz9 p' => co qz9 iz9 (by omega) (by omega)) (fun qz9 iz9 pz9 p' => ro qz9 iz9 (by omega) (by omega)) ⟨?_, ?_, c3z9⟩ ⟨?_, ?_, w3z9, fun iz9 hiz9 => ?_⟩ ?_ ?_ ⟨?_, hfr'.keep ?_ ?_ ?_ (fun qz9 q1z9 q2z9 => ?_), ?_, ?_⟩, ?_, k6z9, ⟨k6', by omega, by omega, by omega, Or.inr ⟨?_, by omega⟩, Or.inl (by omega), Or.inr (Or.inr (Or.inl ⟨rfl, k6'', en, ez9, az9 + 1, rfl, ?_, ?_, rfl, ⟨by omega, by omega, by omega, by omega, Or.inl rfl, Or.inr ⟨rfl, hfr3⟩, Or.inr (Or.inr (Or.inr (Or.inr (Or.inr (Or.inr (Or.inr (Or.inl ⟨rfl, tz9, na, ca', pr, cnt', w', i1z9, cz9, nb, b2, b', rfl, rfl, q4z9, q5z9, pde, g3z9, g2, hc6, hw64, ?_, f2z9, hs, hcn, hww, q6z9, hnb, hbody, hb2, hb2e, ?_, ?_, ?_, hgca, hkc'⟩)))))))⟩⟩))⟩, rfl, by omega, ?_, by omega, ?_, ?_, by omega, Nat.le_refl _, ?_⟩))
    · rw [co _ _ (by omega) (by omega)]; exact c1z9
    · rw [ro _ _ (by omega) (by omega)]; exact c2z9
    · rw [co _ _ (by omega) (by omega)]; exact w1z9
    · rw [ro _ _ (by omega) (by omega)]; exact w2z9
    · rw [co _ _ (by omega) (by omega), ro _ _ (by omega) (by omega)]; exact w4z9 iz9 hiz9
    · rw [hC2]; (repeat rw [ai_up_n (by omega)]); rw [ai_up_s]
    · rw [hR2, ai_up_s]
    · rw [ro _ _ (by omega) (by omega)]; exact hfr1
    · funext iz9; exact co _ _ (by omega) (by omega)
    · funext iz9; exact co _ _ (by omega) (by omega)
    · funext iz9; exact co _ _ (by omega) (by omega)
    · funext iz9; exact ro _ _ (by omega) (by omega)
    · rw [ro _ _ (by omega) (by omega), Nat.add_sub_cancel]; exact hfr2
    · rw [Nat.add_sub_cancel]; exact hfr3
    · rw [hR2]; (repeat rw [ai_up_n (by omega)]); rw [ai_up_s]
    · rw [pdl _ (by omega)]; exact f22
    · rw [hC2]; (repeat rw [ai_up_n (by omega)]); rw [ai_up_s]
    · rw [hC2, hfr3]; (repeat rw [ai_up_n (by omega)]); rw [ai_up_s]
    · rw [hR2, ← hxn]; (repeat rw [ai_up_n (by omega)]); rw [ai_up_s]
    · rw [ro _ _ (by omega) (by omega)]; exact hca
    · rw [co _ _ (by omega) (by omega), ← hfr3]; exact f12z9
    · rw [co _ _ (by omega) (by omega)]; exact h14
    · rw [pdl _ (by omega)]; exact f22
    · rw [hC2]; (repeat rw [ai_up_n (by omega)]); rw [ai_up_s]
    · rw [hC2, ai_up_s]
    · simp only [po]; omega
  · -- all is there: the bodyz9
    have hpl2 := pl_skip (cnt' - iz9) iz9 az9 (by omega) (fun i' p1z9 p2z9 => g1 i' p1z9 (by omega)) hpl
    rw [show iz9 + (cnt' - iz9) = cnt' by omega, Nat.sub_self] at hpl2
    have eac : az9 = cz9 := hpl2
    subst eac
    obtain ⟨pd', hpd'⟩ : ∃ pd' : Nat → Nat, pd' = fun qz9 => if qz9 = ez9 then 6 else pd qz9 := ⟨_, rfl⟩
    have pde : pd' ez9 = 6 := by rw [hpd']; simp
    have pdl : ∀ qz9, qz9 < ez9 → pd' qz9 = pd qz9 := fun qz9 hq => by rw [hpd']; exact pdo 6 qz9 hq
    have hfr' : FR yz9 Cz9 Rz9 Gz9 pd' (ez9 + 1) := by
      rw [hpd']
      refine hfr.pdx hs (by omega) (by omega) (fun vz9 hv hk hp => ?_)
      rw [hpi]
      refine Or.inr ?_
      rw [f24] at hk
      by_cases hv0 : vz9 = 0
      · omega
      · rw [decide_eq_false hv0, Bool.false_or] at hk
        refine Classical.byContradiction fun hcz9 => ?_
        rw [g1 (vz9 - 1) (by omega) (by omega)] at hk
        cases hk
    obtain ⟨R2, hR2⟩ : ∃ R2, R2 = ai_up (ai_up (ai_up (ai_up Rz9 22 tz9 (nI (13 + 16 * 0 + 16384 * ez9))) 0 39 (nI (tz9 + 1))) 22 (tz9 + 1) (nI (0 + 16 * nb + 16384 * ez9))) 0 39 (nI (tz9 + 1 + 1)) := ⟨_, rfl⟩
    have ro : ∀ qz9 i', ¬ (qz9 = 0 ∧ i' = 39) → ¬ (qz9 = 22 ∧ tz9 ≤ i') → R2 qz9 i' = Rz9 qz9 i' := fun qz9 i' pz9 p' => by rw [hR2]; (repeat rw [ai_up_n (by omega)])
    rw [← hR2] at g2
    have hkc' : kc yz9 Cz9 R2 Gz9 pd' l ca' b' ez9 na tz9 en wt := kc_keep l ca' b' ez9 na tz9 en wt (fun iz9 hiz9 => ro _ _ (by omega) (by omega)) (fun iz9 hiz9 => ro _ _ (by omega) (by omega)) (fun iz9 hiz9 => ⟨rfl, rfl⟩) (fun iz9 hiz9 => ⟨rfl, rfl⟩) (fun iz9 hiz9 => rfl) (fun iz9 hiz9 => ⟨rfl, pdl iz9 hiz9⟩) hkc
    refine rs_ref (R1 := R2) (k1 := kk + 1) (fun hl => hR (sta _ (g2 (xz xz9) _ _ _ hl))) (ihz9 Cz9 R2 jz9 (kk + 1) (by omega) (Or.inr (Or.inl ⟨Gz9, pd', cs, ez9 + 1, na + 1, tz9 + 1, en, wt, 10 :: l, ez9, 10, nb, az9, b2, h1.gen (fun qz9 iz9 pz9 p' => rfl) (fun qz9 iz9 pz9 p' => ro qz9 iz9 (by omega) (by omega)) ⟨c1z9, ?_, c3z9⟩ ⟨w1z9, ?_, w3z9, fun iz9 hiz9 => ?_⟩ hen' ?_ ⟨?_, hfr'.keep rfl rfl rfl (fun qz9 q1z9 q2z9 => ?_), ?_, ?_⟩, ?_, hbody, ⟨hb2e, by omega, by omega, by omega, Or.inr ⟨pde, by omega⟩, Or.inr ⟨rfl, hfr3⟩, Or.inr (Or.inr (Or.inr (Or.inr (Or.inr (Or.inr (Or.inr (Or.inr (Or.inl ⟨rfl, ⟨pr, hs⟩, tz9, na, ca', b', rfl, rfl, hb2, ?_, ?_, h14, hkc'⟩))))))))⟩, rfl, rfl, h94, ?_, by omega, by omega, ?_⟩)))
    · rw [ro _ _ (by omega) (by omega)]; exact c2z9
    · rw [ro _ _ (by omega) (by omega)]; exact w2z9
    · rw [ro _ _ (by omega) (by omega)]; exact w4z9 iz9 hiz9
    · rw [hR2, ai_up_s]
    · rw [ro _ _ (by omega) (by omega)]; exact hfr1
    · funext iz9; exact ro _ _ (by omega) (by omega)
    · rw [ro _ _ (by omega) (by omega), Nat.add_sub_cancel]; exact hfr2
    · rw [Nat.add_sub_cancel]; exact hfr3
    · rw [hR2]; (repeat rw [ai_up_n (by omega)]); rw [ai_up_s]
    · rw [hR2]; (repeat rw [ai_up_n (by omega)]); rw [ai_up_s, Nat.mul_zero, Nat.add_zero]
    · rw [← hfr3]; exact f12z9
    · rw [hfr3]; exact h95
    · simp only [po]; omega
end GOA
