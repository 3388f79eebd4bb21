/-! ===== a call ===== -/
section CAL
variable {yz9 : ys_T} {xz9 : xs_T} {x0z9 fu Nz9 : Nat} {Cz9 Rz9 : ai_S} {jz9 kk : Nat} {Gz9 : gg_T} {pd : Nat → Nat} {cs nfz9 na tz9 en wt : Nat} {l : List Nat} {fz9 kz9 nz9 az9 bz9 : Nat}
/-- a call's frame -/
def gD (yz9 : ys_T) (Gz9 : gg_T) (nfz9 na fz9 pr Bz9 cntz9 wz9 : Nat) (hx : Nat → Nat × Nat) : gg_T := fun iz9 => if iz9 = nfz9 then ((pr + 1, 0, 0) :: yC yz9 pr, na + 1, Bz9, 0, cntz9 + 1, gr Gz9 fz9 + 1, fun vz9 => (decide (vz9 = 0) || wz9.testBit (vz9 - 1)), hx) else Gz9 iz9
theorem gD_n (yz9 : ys_T) (Gz9 : gg_T) (nfz9 na fz9 pr Bz9 cntz9 wz9 : Nat) (hx : Nat → Nat × Nat) : gs (gD yz9 Gz9 nfz9 na fz9 pr Bz9 cntz9 wz9 hx) nfz9 = (pr + 1, 0, 0) :: yC yz9 pr ∧ gi (gD yz9 Gz9 nfz9 na fz9 pr Bz9 cntz9 wz9 hx) nfz9 = na + 1 ∧ gb (gD yz9 Gz9 nfz9 na fz9 pr Bz9 cntz9 wz9 hx) nfz9 = Bz9 ∧ gc (gD yz9 Gz9 nfz9 na fz9 pr Bz9 cntz9 wz9 hx) nfz9 = 0 ∧ gn (gD yz9 Gz9 nfz9 na fz9 pr Bz9 cntz9 wz9 hx) nfz9 = cntz9 + 1 ∧ gr (gD yz9 Gz9 nfz9 na fz9 pr Bz9 cntz9 wz9 hx) nfz9 = gr Gz9 fz9 + 1 ∧ (∀ vz9, gk (gD yz9 Gz9 nfz9 na fz9 pr Bz9 cntz9 wz9 hx) nfz9 vz9 = (decide (vz9 = 0) || wz9.testBit (vz9 - 1))) ∧ ga (gD yz9 Gz9 nfz9 na fz9 pr Bz9 cntz9 wz9 hx) nfz9 = hx := by
  simp [gs, gi, gb, gc, gn, gr, gk, ga, gD]
theorem go_call (hy : yG yz9 x0z9) (hx : xk yz9 xz9) (ihz9 : go yz9 xz9 fu (Nz9 + 1)) (hNz9 : Nz9 ≤ 10 * jz9 + kk) (h1 : iv yz9 (xC xz9) (xR xz9) Cz9 Rz9 Gz9 pd fu cs nfz9 na (tz9 + 1) en wt) (hkc : kc yz9 Cz9 Rz9 Gz9 pd l fz9 bz9 nfz9 na tz9 en wt) (hf : fz9 < nfz9) (hpd : pd fz9 = 6) (hgr : gr Gz9 fz9 + en ≤ na) (h94 : Cz9 9 4 = nI az9) (h95 : Cz9 9 5 = nI (gi Gz9 fz9)) (hab : az9 < bz9) (hj : jz9 < 500000) (hop : yK yz9 0 az9 = 13 ∨ yK yz9 0 az9 = 14 ∨ yK yz9 0 az9 = 15)
    (hcl : ∀ Cb Rbz9, FR yz9 Cb Rbz9 Gz9 pd nfz9 → Cb 20 3 = nI (ye yz9) → (∀ qz9, Cb (21 + qz9) = yK yz9 qz9) → (∀ qz9, 2 ≤ qz9 → qz9 ≤ 11 → Rbz9 qz9 = yR yz9 qz9) → clo yz9 xz9 Cb Rbz9 Gz9 pd nfz9 fz9 nz9 az9) {cntz9 : Nat} {hv : Nat → Nat × Nat} (hc6 : cntz9 ≤ 6) (hvc : hv cntz9 = (0, bz9)) (hv0 : (hv 0).2 = az9 + 1) (hla : ∀ iz9, iz9 < cntz9 → la yz9 (gs Gz9 fz9) kz9 hv bz9 iz9) (hk50 : kz9 ≤ 50) (hty : yR yz9 2 nz9 = 8 ∧ cntz9 = 0 ∨ ¬ yR yz9 2 nz9 = 8 ∧ yR yz9 3 nz9 = nI (hv 0).1) (n7 : nz9 < 700) (hms : 10 * jz9 + kk + po l ≤ 4100 * cs)
    (hrf : cs < fu → ai_met (lm_u (xz xz9)) ((xz xz9).2.2.2.2.1 + 3 + 2) mX6_call [.ref 0, .int (nI nz9), .int (nI fz9)] (ai_up (ai_up Rz9 0 39 (nI tz9)) 0 53 (nI (cs + 1))) (lm_V (xz xz9)) (ai_qv (lm_V (xz xz9)) (fun R1 => lr (xz xz9) R1 (kk + 1))) → lr (xz xz9) Rz9 kk)
    (hrl : cs = fu → lr (xz xz9) (ai_up (ai_up Rz9 0 39 (nI tz9)) 0 51 1) (kk + 1) → lr (xz xz9) Rz9 kk) : rs xz9 Cz9 jz9 Rz9 kk := by
  obtain ⟨y1, y2, y3, y4⟩ := h1.ly hx
  obtain ⟨⟨s1z9, s2z9, s3z9⟩, ⟨b1, b2, b3, b4, b5⟩, ⟨c1z9, c2z9, c3z9⟩, ⟨d1z9, d2z9, d3z9, d4z9, d5z9⟩, ⟨pc, p1z9, p2z9, p3z9, p4z9⟩, ⟨w1z9, w2z9, w3z9, w4z9⟩, hen', h39, hfr1, hfr, hfr2, hfr3⟩ := id h1
  have hye := hy.2.1
  have hyb := hy.2.2.2.1
  have hyn := hy.2.2.1
  have hMz9 := hx.1
  obtain ⟨lv1, lv2, lv3, lv4, lv5⟩ := kc_lv hkc
  have hna := kc_na l fz9 bz9 nfz9 na tz9 en wt hkc
  have hgt : gi Gz9 (nfz9 - 1) ≤ 30 := by omega
  have hgf := (fo_top hfr hf).2
  have hvc1 : (hv cntz9).1 = 0 := by rw [hvc]
  have hop3 : yK yz9 0 az9 = 13 ∨ yK yz9 0 az9 = 14 ∨ yK yz9 0 az9 = 15 := hop
  refine rs_step hMz9 (by omega) b4 (st_call hMz9 h94 (by omega : az9 < ye yz9) hye y1 (c := yK yz9 0 az9) (by rw [y3 0]) hop3 (vX1_call hMz9 ⟨fun hp => ?_, fun hp => ?_⟩))
  · rw [ai_up_n (by omega), ai_up_n (by omega), c1z9, b1, i_lt (by omega) (by omega)] at hp
    rw [show (ai_up Cz9 9 4 (nI (az9 + 1))) 9 2 + 1 = nI (cs + 1) by (repeat rw [ai_up_n (by omega)]); rw [c1z9, nI_1], show (ai_up Cz9 9 4 (nI (az9 + 1))) 9 5 = nI (gi Gz9 fz9) by (repeat rw [ai_up_n (by omega)]); exact h95, show Cz9 22 az9 = yK yz9 1 az9 by rw [y3 1], show Cz9 23 az9 = yK yz9 2 az9 by rw [y3 2]]
    obtain ⟨Cb, hCb⟩ : ∃ Cb, Cb = ai_up (ai_up Cz9 9 4 (nI (az9 + 1))) 9 2 (nI (cs + 1)) := ⟨_, rfl⟩
    obtain ⟨Rbz9, hRb⟩ : ∃ Rbz9, Rbz9 = ai_up (ai_up Rz9 0 39 (nI tz9)) 0 53 (nI (cs + 1)) := ⟨_, rfl⟩
    rw [← hCb]
    rw [← hRb] at hrf
    have cb : ∀ qz9 iz9, ¬ (qz9 = 9 ∧ (iz9 = 2 ∨ iz9 = 4)) → Cb qz9 iz9 = Cz9 qz9 iz9 := fun qz9 iz9 pz9 => by rw [hCb]; (repeat rw [ai_up_n (by omega)])
    have rb' : ∀ qz9 iz9, ¬ (qz9 = 0 ∧ (iz9 = 39 ∨ iz9 = 53)) → Rbz9 qz9 iz9 = Rz9 qz9 iz9 := fun qz9 iz9 pz9 => by rw [hRb]; (repeat rw [ai_up_n (by omega)])
    have cb2 : Cb 9 2 = nI (cs + 1) := by rw [hCb, ai_up_s]
    have cb4 : Cb 9 4 = nI (az9 + 1) := by rw [hCb]; (repeat rw [ai_up_n (by omega)]); rw [ai_up_s]
    have rb53 : Rbz9 0 53 = nI (cs + 1) := by rw [hRb, ai_up_s]
    have rb39 : Rbz9 0 39 = nI tz9 := by rw [hRb]; (repeat rw [ai_up_n (by omega)]); rw [ai_up_s]
    have hfb : FR yz9 Cb Rbz9 Gz9 pd nfz9 := hfr.keep (by funext iz9; exact cb _ _ (by omega)) (by funext iz9; exact cb _ _ (by omega)) (by funext iz9; exact cb _ _ (by omega)) (fun qz9 _ _ => by funext iz9; exact rb' _ _ (by omega))
    have hRr : ∀ qz9, 2 ≤ qz9 → qz9 ≤ 11 → Rbz9 qz9 = yR yz9 qz9 := fun qz9 q1z9 q2z9 => by rw [← y4 qz9 q1z9 q2z9]; funext iz9; exact rb' _ _ (by omega)
    have hKc : ∀ qz9, Cb (21 + qz9) = yK yz9 qz9 := fun qz9 => by rw [← y3 qz9]; funext iz9; exact cb _ _ (by omega)
    have hcb20 : Cb 20 3 = nI (ye yz9) := by rw [cb _ _ (by omega)]; exact y1
    rcases hcl Cb Rbz9 hfb hcb20 hKc hRr with ⟨wz9, pz9, gz9, t1z9, t2z9, t3z9⟩ | ⟨pr, o, t1z9, t2z9, t3z9, t4z9, t5z9, t6, t7⟩
    · -- noz9 procedure
      refine t3z9 (fun C1z9 => rs xz9 C1z9 (jz9 + 1) Rz9 kk) (fun C1z9 hC1 => ?_)
      have c1o : ∀ qz9 iz9, ¬ (qz9 = 9 ∧ (iz9 = 2 ∨ iz9 = 4 ∨ iz9 = 15)) → C1z9 qz9 iz9 = Cz9 qz9 iz9 := fun qz9 iz9 pz9 => by rw [hC1 qz9 iz9 (by omega), cb qz9 iz9 (by omega)]
      refine rs_stop (R' := ai_up (scr Rbz9 wz9 pz9 gz9) 0 51 3) (k1 := kk + 1) hx h1 (v := 3) ⟨by decide, by decide⟩ ai_up_s ai_up_s (fun qz9 iz9 pz9 p' => ?_) (fun qz9 iz9 pz9 p' => ?_) ?_ (fun hl => hrf hp (rc_3 hc6 hvc1 hla hRr n7 hty t2z9 (by omega) t1z9 hl))
      · rw [ai_up_n (by omega)]; exact c1o qz9 iz9 (by omega)
      · rw [ai_up_n (by omega), scr_o (by omega)]; exact rb' qz9 iz9 (by omega)
      · rw [ai_up_n (by omega), ai_up_n (by omega), scr_o (by omega), hC1 _ _ (by omega), cb2, rb53]
    · -- az9 procedure
      obtain ⟨ap, cc, bb, nb, cpz9, wz9, m1z9, m2z9, m3z9, m4z9, m5z9, m6z9, m7z9, m8z9, m9z9, m10z9, m11z9⟩ := hy.2.2.2.2.1 pr t1z9
      obtain ⟨Bz9, hBz9⟩ : ∃ Bz9, Bz9 = gb Gz9 (nfz9 - 1) + gn Gz9 (nfz9 - 1) := ⟨_, rfl⟩
      obtain ⟨_, ff2z9, ff3, _⟩ := hfr.2 (nfz9 - 1) (by omega)
      have h46 : Rbz9 0 46 = nI nfz9 := by rw [rb' _ _ (by omega)]; exact hfr1
      have h47 : Rbz9 0 47 = nI Bz9 := by rw [rb' _ _ (by omega), hBz9]; exact hfr2
      have h54 : Rbz9 0 54 = nI na := by rw [rb' _ _ (by omega)]; exact d2z9
      obtain ⟨Sf, hSf⟩ : ∃ Sf, Sf = scr Rbz9 2 (nI (yb yz9 + pr)) (nI o) := ⟨_, rfl⟩
      have sf : ∀ qz9 iz9, ¬ (qz9 = 0 ∧ 59 ≤ iz9 ∧ iz9 ≤ 61) → Sf qz9 iz9 = Rbz9 qz9 iz9 := fun qz9 iz9 pz9 => by rw [hSf]; exact scr_o pz9
      refine t7 (fun C1z9 => rs xz9 C1z9 (jz9 + 1) Rz9 kk) (fun C1z9 hC1 => ?_)
      have c1o : ∀ qz9 iz9, ¬ (qz9 = 9 ∧ (iz9 = 2 ∨ iz9 = 4 ∨ iz9 = 15)) → C1z9 qz9 iz9 = Cz9 qz9 iz9 := fun qz9 iz9 pz9 => by rw [hC1 qz9 iz9 (by omega), cb qz9 iz9 (by omega)]
      have c1K : ∀ qz9, C1z9 (21 + qz9) = yK yz9 qz9 := fun qz9 => by rw [← y3 qz9]; funext iz9; exact c1o _ _ (by omega)
      have c120 : C1z9 20 3 = nI (ye yz9) := by rw [c1o _ _ (by omega)]; exact y1
      have c1206 : C1z9 20 6 = nI (yn yz9) := by rw [c1o _ _ (by omega)]; exact y2
      have c105 : C1z9 10 5 = nI na := by rw [c1o _ _ (by omega)]; exact d1z9
      have c194 : C1z9 9 4 = nI (az9 + 1) := by rw [hC1 _ _ (by omega)]; exact cb4
      have c195 : C1z9 9 5 = nI (gi Gz9 fz9) := by rw [c1o _ _ (by omega)]; exact h95
      have stopz9 : ∀ (vz9 : Int32), (¬ vz9 = -1 ∧ ¬ vz9 = 0) → (lr (xz xz9) (ai_up Sf 0 51 vz9) (kk + 1) → lr (xz xz9) Rz9 kk) → rs xz9 (ai_up C1z9 9 3 vz9) (jz9 + 1) Rz9 kk := by
        intro vz9 hv' hl
        refine rs_stop (R' := ai_up Sf 0 51 vz9) (k1 := kk + 1) hx h1 hv' ai_up_s ai_up_s (fun qz9 iz9 pz9 p' => ?_) (fun qz9 iz9 pz9 p' => ?_) ?_ hl
        · rw [ai_up_n (by omega)]; exact c1o qz9 iz9 (by omega)
        · rw [ai_up_n (by omega), sf _ _ (by omega)]; exact rb' qz9 iz9 (by omega)
        · rw [ai_up_n (by omega), ai_up_n (by omega), sf _ _ (by omega), hC1 _ _ (by omega), cb2, rb53]
      refine vX1_enterCall hMz9 ?_
      rw [c194, ← hv0]
      refine ec_cnt hMz9 hye lv1 c120 c1K hc6 hvc hla hna ?_ cntz9 0 (by omega)
      unfold ecF
      rw [c1206, c105, nI_clamp (show pr < 2 ^ 31 by omega), c1K 4, m2z9, nI_1, show (31 : Int32) = nI 31 from rfl, show (0 : Int32) = nI 0 from rfl, pk_mul, nI_add, show (na + 1) * 31 + 0 = 31 * (na + 1) by omega, nI_clamp (show na + 1 < 2 ^ 31 by omega), nI_clamp (show 31 * (na + 1) < 2 ^ 31 by omega)]
      refine ⟨nI_pos (by omega), by rw [i_le (by omega) (by omega)]; omega, by rw [show (16 : Int32) = nI 16 from rfl, i_le (by omega) (by omega)]; omega, i_in (by omega) (by omega), fun hcz9 => ⟨fun h30 => ?_, fun h30 => ?_⟩, fun hcz9 => ?_⟩
      · -- it is opened
        have hcc : cntz9 = cpz9 := by rw [i_eq (by omega) (by omega)] at hcz9; exact hcz9
        subst hcc
        have h30' : na < 30 := by rw [show (30 : Int32) = nI 30 from rfl, i_lt (by omega) (by omega)] at h30; exact h30
        refine ⟨nI_pos (by omega), i_in (by omega) (by omega), nI_pos (by omega), by rw [show (961 : Int32) = nI 961 from rfl, i_le (by omega) (by omega)]; omega, i_in (by omega) (by omega), ?_⟩
        obtain ⟨So, hSo⟩ : ∃ So, So = ai_up (ai_up (ai_up (ai_up (ai_up (ai_up (ai_up C1z9 10 5 (nI (na + 1))) 10 7 (C1z9 10 7 + 1)) 10 6 (if C1z9 10 6 < nI (na + 1) then nI (na + 1) else C1z9 10 6)) 12 (na + 1) (nI (gi Gz9 o))) 13 (na + 1) (C1z9 9 5)) 14 (na + 1) (nI bz9)) 11 (31 * (na + 1)) (nI 0) := ⟨_, rfl⟩
        rw [← hSo, c194, ← hv0]
        have so : ∀ qz9 iz9, ¬ (qz9 = 10 ∧ (iz9 = 5 ∨ iz9 = 6 ∨ iz9 = 7)) → ¬ ((qz9 = 12 ∨ qz9 = 13 ∨ qz9 = 14) ∧ iz9 = na + 1) → ¬ (qz9 = 11 ∧ iz9 = 31 * (na + 1)) → So qz9 iz9 = C1z9 qz9 iz9 := fun qz9 iz9 pz9 p' p'' => by rw [hSo]; (repeat rw [ai_up_n (by omega)])
        refine ec_put hMz9 hye lv1 hc6 hla (show na + 1 ≤ 30 by omega) t1z9 hyn cntz9 0 So (by omega) (by rw [hSo]; (repeat rw [ai_up_n (by omega)]); rw [ai_up_s]) (by rw [so _ _ (by omega) (by omega) (by omega)]; exact c120) (by rw [so _ _ (by omega) (by omega) (by omega)]; exact c1206) (fun qz9 => by rw [← c1K qz9]; funext iz9; exact so _ _ (by omega) (by omega) (by omega)) (fun C3z9 z1 z2 z3 z4 => ?_)
        have co : ∀ qz9 iz9, ¬ (qz9 = 9 ∧ (iz9 = 2 ∨ iz9 = 4 ∨ iz9 = 5 ∨ iz9 = 15)) → ¬ (qz9 = 10 ∧ (iz9 = 5 ∨ iz9 = 6 ∨ iz9 = 7)) → ¬ ((qz9 = 12 ∨ qz9 = 13 ∨ qz9 = 14) ∧ iz9 = na + 1) → ¬ (qz9 = 11 ∧ 31 * (na + 1) ≤ iz9 ∧ iz9 < 31 * (na + 1) + 1 + cntz9) → C3z9 qz9 iz9 = Cz9 qz9 iz9 := fun qz9 iz9 q1z9 q2z9 q3z9 q4z9 => by rw [z1 qz9 iz9 (by omega) (by omega), so qz9 iz9 q2z9 q3z9 (by omega)]; exact c1o qz9 iz9 (by omega)
        have v105 : C3z9 10 5 = nI (na + 1) := by rw [z1 _ _ (by omega) (by omega), hSo]; (repeat rw [ai_up_n (by omega)]); rw [ai_up_s]
        have v107 : C3z9 10 7 = Cz9 10 7 + 1 := by rw [z1 _ _ (by omega) (by omega), hSo]; (repeat rw [ai_up_n (by omega)]); rw [ai_up_s, c1o _ _ (by omega)]
        have v106 : C3z9 10 6 = (if Cz9 10 6 < nI (na + 1) then nI (na + 1) else Cz9 10 6) := by rw [z1 _ _ (by omega) (by omega), hSo]; (repeat rw [ai_up_n (by omega)]); rw [ai_up_s, c1o _ _ (by omega)]
        have v12 : C3z9 12 (na + 1) = nI (gi Gz9 o) := by rw [z1 _ _ (by omega) (by omega), hSo]; (repeat rw [ai_up_n (by omega)]); rw [ai_up_s]
        have v13 : C3z9 13 (na + 1) = nI (gi Gz9 fz9) := by rw [z1 _ _ (by omega) (by omega), hSo]; (repeat rw [ai_up_n (by omega)]); rw [ai_up_s]; exact c195
        have v14 : C3z9 14 (na + 1) = nI bz9 := by rw [z1 _ _ (by omega) (by omega), hSo]; (repeat rw [ai_up_n (by omega)]); rw [ai_up_s]
        have v11 : C3z9 11 (31 * (na + 1)) = 0 := by rw [z1 _ _ (by omega) (by omega), hSo, ai_up_s]; rfl
        have v92 : C3z9 9 2 = nI (cs + 1) := by rw [z1 _ _ (by omega) (by omega), so _ _ (by omega) (by omega) (by omega), hC1 _ _ (by omega)]; exact cb2
        -- the reference
        obtain ⟨Sm, hSm⟩ : ∃ Sm, Sm = fnR (rcS Sf na) nfz9 Bz9 (1 + cntz9) (nI o) (nI (yb yz9 + pr)) (nI fz9) := ⟨_, rfl⟩
        obtain ⟨u23, u24, u25, u26, u27, u46, u47⟩ := fnR_v (rcS Sf na) nfz9 Bz9 (1 + cntz9) (nI o) (nI (yb yz9 + pr)) (nI fz9)
        rw [← hSm] at u23 u24 u25 u26 u27 u46 u47
        have smz9 : ∀ qz9 iz9, ¬ (23 ≤ qz9 ∧ qz9 ≤ 26 ∧ iz9 = nfz9) → ¬ (qz9 = 27 ∧ Bz9 ≤ iz9 ∧ iz9 < Bz9 + (1 + cntz9)) → ¬ (qz9 = 0 ∧ (iz9 = 46 ∨ iz9 = 47)) → Sm qz9 iz9 = rcS Sf na qz9 iz9 := fun qz9 iz9 q1z9 q2z9 q3z9 => by rw [hSm]; exact fnR_o q1z9 q2z9 q3z9
        have smy : ∀ qz9, 2 ≤ qz9 → qz9 ≤ 11 → Sm qz9 = yR yz9 qz9 := fun qz9 q1z9 q2z9 => by
          rw [← hRr qz9 q1z9 q2z9]; funext iz9
          rw [smz9 _ _ (by omega) (by omega) (by omega), rcS_o (by omega), sf _ _ (by omega)]
        obtain ⟨R4, r1z9, r2, r3⟩ : ∃ R4 : ai_S, (∀ qz9 i', ¬ ((qz9 = 27 ∨ qz9 = 28) ∧ Bz9 + 1 ≤ i' ∧ i' < Bz9 + 1 + cntz9) → R4 qz9 i' = Sm qz9 i') ∧ (∀ i', i' < cntz9 → wz9.testBit i' = false → R4 27 (Bz9 + 1 + i') = nI (hv i').1 ∧ R4 28 (Bz9 + 1 + i') = nI fz9) ∧ ∀ (Gp : ai_S → Prop), ai_met (lm_u (xz xz9)) ((xz xz9).2.2.2.2.1 + 3 + 1) mX6_arguments [.ref 0, .int (nI (hv 0).1), .int (nI nfz9)] R4 (lm_V (xz xz9)) (ai_qv (lm_V (xz xz9)) Gp) → (cntz9 = 0 → ai_met (lm_u (xz xz9)) ((xz xz9).2.2.2.2.1 + 3 + 1) mX6_arguments [.ref 0, .int 0, .int (nI nfz9)] Sm (lm_V (xz xz9)) (ai_qv (lm_V (xz xz9)) Gp)) ∧ (0 < cntz9 → ai_W (lm_u (xz xz9)) ((xz xz9).2.2.2.2.1 + 3 + 2) mX6_call 173 [(0, .ref 0), (1, .int (nI nz9)), (2, .int (nI fz9)), (3, .int (nI cntz9)), (4, .int (nI (yb yz9 + pr))), (5, .int (nI nfz9)), (6, .int (nI (hv 0).1))] [] Sm (lm_V (xz xz9)) (ai_qv (lm_V (xz xz9)) Gp)) := by
          by_cases hc0 : cntz9 = 0
          · refine ⟨Sm, fun _ _ _ => rfl, fun i' hi' => by omega, fun Gp hG => ⟨fun _ => ?_, fun hz9 => by omega⟩⟩
            have e0z9 : (hv 0).1 = 0 := by have hq := hvc1; rw [hc0] at hq; exact hq
            rw [e0z9] at hG
            exact hG
          · rcases hty with ⟨_, ht0⟩ | ⟨_, ht3⟩
            · exact absurd ht0 hc0
            · obtain ⟨R4, q1z9, q2z9, q3z9, q4z9⟩ := nm_loop hc6 (by omega) m6z9 (show yb yz9 + pr < 32 by omega) n7 (show nfz9 < 400 by omega) (show Bz9 + 1 + cntz9 ≤ 1300 by omega) hvc1 hla cntz9 0 Sm (by omega) u25 (by rw [smy 11 (by omega) (by omega)]; exact m5z9) (fun qz9 q1z9 q2z9 => smy qz9 q1z9 (by omega)) (by rw [smy 3 (by omega) (by omega)]; exact ht3)
              exact ⟨R4, fun qz9 i' hz9 => q1z9 qz9 i' (by omega), fun i' hi' hbz9 => q2z9 i' (by omega) hi' hbz9, fun Gp hG => ⟨fun hz9 => absurd hz9 hc0, fun _ => q4z9 _ _ _ _ _ _ Gp hG⟩⟩
        have ro : ∀ qz9 iz9, ¬ (qz9 = 0 ∧ (iz9 = 39 ∨ iz9 = 46 ∨ iz9 = 47 ∨ iz9 = 51 ∨ (53 ≤ iz9 ∧ iz9 ≤ 56) ∨ (59 ≤ iz9 ∧ iz9 ≤ 61))) → ¬ (23 ≤ qz9 ∧ qz9 ≤ 26 ∧ iz9 = nfz9) → ¬ ((qz9 = 27 ∨ qz9 = 28) ∧ Bz9 ≤ iz9 ∧ iz9 < Bz9 + 1 + cntz9) → R4 qz9 iz9 = Rz9 qz9 iz9 := fun qz9 iz9 q1z9 q2z9 q3z9 => by rw [r1z9 qz9 iz9 (by omega), smz9 qz9 iz9 q2z9 (by omega) (by omega), rcS_o (by omega), sf _ _ (by omega), rb' _ _ (by omega)]
        obtain ⟨a51, a54, a55, a56⟩ := rcS_v Sf na
        have x0o : ∀ iz9, ¬ (iz9 = 46 ∨ iz9 = 47) → R4 0 iz9 = rcS Sf na 0 iz9 := fun iz9 hiz9 => by rw [r1z9 _ _ (by omega), smz9 _ _ (by omega) (by omega) (by omega)]
        obtain ⟨G', hG'⟩ : ∃ G', G' = gD yz9 Gz9 nfz9 na fz9 pr Bz9 cntz9 wz9 hv := ⟨_, rfl⟩
        obtain ⟨g1, g2, g3z9, g4, g5z9, g6, g7, g8⟩ := gD_n yz9 Gz9 nfz9 na fz9 pr Bz9 cntz9 wz9 hv
        rw [← hG'] at g1 g2 g3z9 g4 g5z9 g6 g7 g8
        obtain ⟨pd', hpd'⟩ : ∃ pd' : Nat → Nat, pd' = fun iz9 => if iz9 = nfz9 then 0 else pd iz9 := ⟨_, rfl⟩
        have hGo : ∀ iz9, iz9 < nfz9 → G' iz9 = Gz9 iz9 ∧ pd' iz9 = pd iz9 := fun iz9 hiz9 => ⟨by rw [hG']; exact if_neg (by omega), by rw [hpd']; exact if_neg (by omega)⟩
        have pdn : pd' nfz9 = 0 := by rw [hpd']; simp
        obtain ⟨o1, o2, o3z9, o4z9, o5z9, o6, o7, o8z9⟩ := g_eq (hGo fz9 hf).1
        obtain ⟨oo1, oo2, oo3, oo4, oo5, oo6, oo7, oo8⟩ := g_eq (hGo o t2z9).1
        obtain ⟨n1z9, n2z9, n3z9, n4z9, n5z9, n6z9, _, _⟩ := g_eq (hGo (nfz9 - 1) (by omega)).1
        have hnv : ∀ i', i' < cntz9 → C3z9 11 (31 * (na + 1) + 1 + i') = nI (hv i').2 := fun i' hi' => z2 i' (by omega) hi'
        have hfr' : FR yz9 C3z9 R4 G' pd' (nfz9 + 1) := by
          have hext : FR yz9 C3z9 R4 G' pd' nfz9 := hfr.ext (fun iz9 hiz9 => co _ _ (by omega) (by omega) (by omega) (by omega)) (fun iz9 hiz9 => ⟨co _ _ (by omega) (by omega) (by omega) (by omega), co _ _ (by omega) (by omega) (by omega) (by omega)⟩) (fun qz9 q1z9 q2z9 iz9 hiz9 => ro _ _ (by omega) (by omega) (by omega)) (fun iz9 hiz9 => ⟨ro _ _ (by omega) (by omega) (by omega), ro _ _ (by omega) (by omega) (by omega)⟩) hGo
          refine hext.push ⟨by rw [g3z9, r1z9 _ _ (by omega)]; exact u25, by rw [g2, g3z9, g4]; omega, by rw [g4, g5z9]; omega, fun vz9 hv' hk' hp' => ?_, Or.inr (Or.inr ⟨pr, o, fz9, cntz9, wz9, by omega, t1z9, g1, by rw [oo1]; exact t3z9, by rw [r1z9 _ _ (by omega)]; exact u23, t2z9, by rw [r1z9 _ _ (by omega)]; exact u24, by rw [r1z9 _ _ (by omega)]; exact u26, hf, by rw [g2, n2z9, hfr3], by rw [g2, oo2]; exact v12, by rw [g2, o2]; exact v13, by rw [g6, o6], by rw [oo6, o6]; exact t5z9, g4, g5z9, m3z9, hc6, m5z9, m6z9, by rw [(hGo o t2z9).2]; exact t4z9, by rw [(hGo fz9 hf).2]; exact hpd, by rw [n3z9, n5z9, g3z9, hBz9], g7, by rw [pdn]; omega, fun iz9 hiz9 => ?_⟩)⟩
          · have hv0' : vz9 = 0 := by rw [pdn] at hp'; omega
            subst hv0'
            rw [g2, g3z9, g4, Nat.add_zero, Nat.add_zero, Nat.add_zero, v11, r1z9 _ _ (by omega), u27 _ (by omega) (by omega)]
          · obtain ⟨l1, l2, l3, l4, ⟨mm, l5, l5', l5''⟩, l6, l7, l8⟩ := hla iz9 hiz9
            unfold ar
            rw [g8, g2, g3z9, pdn, o1]
            refine ⟨l1, l2, ?_, by omega, l4, ⟨mm, yE_up l5 hk50, by omega, l5'⟩, fun hbz9 => ⟨(r2 iz9 hiz9 hbz9).1, (r2 iz9 hiz9 hbz9).2, hnv iz9 hiz9⟩, fun _ _ => hnv iz9 hiz9⟩
            rw [l3]
            by_cases hi1 : iz9 + 1 < cntz9
            · rw [if_pos hi1]
            · rw [if_neg hi1, show iz9 + 1 = cntz9 by omega, hvc1]
        have hiv : iv yz9 (xC xz9) (xR xz9) C3z9 R4 G' pd' fu (cs + 1) (nfz9 + 1) (na + 1) tz9 en wt := by
          refine ⟨⟨fun qz9 hq => ?_, fun qz9 q1z9 q2z9 => ?_, fun qz9 hq => ?_⟩, ⟨?_, ?_, b3, ?_, ?_⟩, ⟨v92, ?_, by omega⟩, ⟨v105, ?_, by omega, ?_, ?_⟩, ⟨pc, ?_, ?_, p3z9, fun iz9 hiz9 => ?_⟩, ⟨?_, ?_, w3z9, fun iz9 hiz9 => ?_⟩, ?_, ?_, ?_, hfr', ?_, ?_⟩
          · rw [← s1z9 qz9 hq]; funext iz9; exact co _ _ (by omega) (by omega) (by omega) (by omega)
          · rw [← s2z9 qz9 q1z9 q2z9]; funext iz9; exact ro _ _ (by omega) (by omega) (by omega)
          · rw [← s3z9 qz9 hq]; exact ro _ _ (by omega) (by omega) (by omega)
          · rw [co _ _ (by omega) (by omega) (by omega) (by omega)]; exact b1
          · rw [ro _ _ (by omega) (by omega) (by omega)]; exact b2
          · rw [co _ _ (by omega) (by omega) (by omega) (by omega)]; exact b4
          · rw [x0o _ (by omega)]; exact a51
          · rw [x0o _ (by omega), rcS_o (by omega), sf _ _ (by omega)]; exact rb53
          · rw [x0o _ (by omega)]; exact a54
          · rw [v106, x0o _ (by omega), a55, sf _ _ (by omega), rb' _ _ (by omega), ← d4z9]
            by_cases hmz9 : nI (na + 1) ≤ Cz9 10 6
            · rw [if_pos hmz9, if_neg (Int32.not_lt.mpr hmz9)]
            · rw [if_neg hmz9, if_pos (Int32.not_le.mp hmz9)]
          · rw [v107, x0o _ (by omega), a56, sf _ _ (by omega), rb' _ _ (by omega), ← d5z9]
          · rw [co _ _ (by omega) (by omega) (by omega) (by omega)]; exact p1z9
          · rw [ro _ _ (by omega) (by omega) (by omega)]; exact p2z9
          · rw [co _ _ (by omega) (by omega) (by omega) (by omega), ro _ _ (by omega) (by omega) (by omega)]; exact p4z9 iz9 hiz9
          · rw [co _ _ (by omega) (by omega) (by omega) (by omega)]; exact w1z9
          · rw [ro _ _ (by omega) (by omega) (by omega)]; exact w2z9
          · rw [co _ _ (by omega) (by omega) (by omega) (by omega), ro _ _ (by omega) (by omega) (by omega)]; exact w4z9 iz9 hiz9
          · rw [co _ _ (by omega) (by omega) (by omega) (by omega)]; exact hen'
          · rw [x0o _ (by omega), rcS_o (by omega), sf _ _ (by omega)]; exact rb39
          · rw [r1z9 _ _ (by omega)]; exact u46
          · rw [Nat.add_sub_cancel, g3z9, g5z9, r1z9 _ _ (by omega), u47, Nat.add_comm 1 cntz9]
          · rw [Nat.add_sub_cancel]; exact g2
        refine go_args hy hx ihz9 (by omega) hiv g1 m3z9 hc6 m5z9 m6z9 (by rw [r1z9 _ _ (by omega)]; exact u26) hf (by rw [o6]; exact hgr) (kc_keep l fz9 bz9 nfz9 na tz9 en wt (fun iz9 hiz9 => ro _ _ (by omega) (by omega) (by omega)) (fun iz9 hiz9 => ro _ _ (by omega) (by omega) (by omega)) (fun iz9 hiz9 => ⟨co _ _ (by omega) (by omega) (by omega) (by omega), co _ _ (by omega) (by omega) (by omega) (by omega)⟩) (fun iz9 hiz9 => ⟨co _ _ (by omega) (by omega) (by omega) (by omega), co _ _ (by omega) (by omega) (by omega) (by omega)⟩) (fun iz9 hiz9 => co _ _ (by omega) (by omega) (by omega) (by omega)) hGo hkc) v14 pdn (Nat.zero_le _) (by rw [Nat.sub_zero]; exact m7z9) m8z9 (by rw [g1]; exact m9z9) m10z9 m11z9 (by rw [z4]; exact m1z9) z3 (by omega) (by omega) (by rw [o6]; omega) ((xz xz9).2.2.2.2.1 + 3) (fun hl => hrf hp (rc_go hc6 hvc1 hla hRr n7 (show fz9 < 400 by omega) hty t6 (show gr Gz9 fz9 ≤ 100 by omega) (show yb yz9 + pr < 32 by omega) m3z9 m4z9 h54 (by omega) h46 h47 (show Bz9 + 7 ≤ 1300 by omega) (show nfz9 < 400 by omega) (fun hz9 => absurd rfl hz9) (fun _ hz9 => by omega) (fun _ _ => ?_)))
        rw [← hSf, ← hSm]
        refine r3 _ ?_
        have e0z9 : nI (if 0 < cntz9 then (ga G' nfz9 0).1 else 0) = nI (hv 0).1 := by
          by_cases hc0 : 0 < cntz9
          · rw [if_pos hc0, g8]
          · rw [if_neg hc0]
            have hcz : cntz9 = 0 := by omega
            have hq := hvc1
            rw [hcz] at hq
            rw [hq]
        rw [← e0z9]
        exact hl
      · -- too manyz9
        have hcc : cntz9 = cpz9 := by rw [i_eq (by omega) (by omega)] at hcz9; exact hcz9
        have h30' : na = 30 := by rw [show (30 : Int32) = nI 30 from rfl, i_lt (by omega) (by omega)] at h30; omega
        refine stopz9 5 ⟨by decide, by decide⟩ (fun hl => hrf hp (rc_go hc6 hvc1 hla hRr n7 (show fz9 < 400 by omega) hty t6 (show gr Gz9 fz9 ≤ 100 by omega) (show yb yz9 + pr < 32 by omega) m3z9 m4z9 h54 (by omega) h46 h47 (show Bz9 + 7 ≤ 1300 by omega) (show nfz9 < 400 by omega) (fun hz9 => absurd hcc hz9) (fun _ _ => by rw [← hSf]; exact hl) (fun _ hz9 => by omega)))
      · -- az9 wrong number of actuals
        have hcc : ¬ cntz9 = cpz9 := fun ez9 => hcz9 (by rw [ez9])
        refine stopz9 4 ⟨by decide, by decide⟩ (fun hl => hrf hp (rc_go hc6 hvc1 hla hRr n7 (show fz9 < 400 by omega) hty t6 (show gr Gz9 fz9 ≤ 100 by omega) (show yb yz9 + pr < 32 by omega) m3z9 m4z9 h54 (by omega) h46 h47 (show Bz9 + 7 ≤ 1300 by omega) (show nfz9 < 400 by omega) (fun _ => by rw [← hSf]; exact hl) (fun hz9 => absurd hz9 hcc) (fun hz9 => absurd hz9 hcc)))
  · rw [ai_up_n (by omega), ai_up_n (by omega), c1z9, b1, i_lt (by omega) (by omega)] at hp
    exact ev_fuel hx h1 (hrl (by omega))
end CAL
