/-! ===== a frame more ===== -/
section BLK
variable {yz9 : ys_T} {Cz9 Rz9 C'z9 R' : ai_S} {Gz9 G' : gg_T} {pd pd' : Nat → Nat} {nfz9 : Nat}
theorem fo_ct (hz9 : FR yz9 Cz9 Rz9 Gz9 pd nfz9) {fz9 : Nat} (hf : fz9 < nfz9) : 31 * gi Gz9 fz9 + gc Gz9 fz9 + gn Gz9 fz9 ≤ 31 * gi Gz9 (nfz9 - 1) + gc Gz9 (nfz9 - 1) + gn Gz9 (nfz9 - 1) := by
  by_cases ez9 : fz9 = nfz9 - 1
  · subst ez9; exact Nat.le_refl _
  · have := fo_lt hz9 (show fz9 < nfz9 - 1 by omega) (by omega)
    omega
/-- memory beyond the frames changed, and what is known of frames beyond -/
theorem FR.ext (hz9 : FR yz9 Cz9 Rz9 Gz9 pd nfz9) (hC : ∀ iz9, iz9 < 31 * gi Gz9 (nfz9 - 1) + gc Gz9 (nfz9 - 1) + gn Gz9 (nfz9 - 1) → C'z9 11 iz9 = Cz9 11 iz9) (h12 : ∀ iz9, iz9 ≤ gi Gz9 (nfz9 - 1) → C'z9 12 iz9 = Cz9 12 iz9 ∧ C'z9 13 iz9 = Cz9 13 iz9) (hR : ∀ qz9, 23 ≤ qz9 → qz9 ≤ 26 → ∀ iz9, iz9 < nfz9 → R' qz9 iz9 = Rz9 qz9 iz9) (hR2 : ∀ iz9, iz9 < gb Gz9 (nfz9 - 1) + gn Gz9 (nfz9 - 1) → R' 27 iz9 = Rz9 27 iz9 ∧ R' 28 iz9 = Rz9 28 iz9) (hG : ∀ iz9, iz9 < nfz9 → G' iz9 = Gz9 iz9 ∧ pd' iz9 = pd iz9) : FR yz9 C'z9 R' G' pd' nfz9 := by
  refine ⟨hz9.1, fun fz9 hf => ?_⟩
  obtain ⟨tp1, tp2⟩ := fo_top hz9 hf
  have tp3 := fo_ct hz9 hf
  obtain ⟨a1z9, a2, a3, a4, a5⟩ := hz9.2 fz9 hf
  obtain ⟨g1, g2⟩ := hG fz9 hf
  obtain ⟨s1z9, s2z9, s3z9, s4z9, s5, s6z9, s7, s8⟩ := g_eq g1
  obtain ⟨p1z9, p2z9⟩ := hG (fz9 - 1) (by omega)
  obtain ⟨r1z9, r2, r3, r4, r5z9, r6, r7, r8⟩ := g_eq p1z9
  refine ⟨by rw [hR 25 (by omega) (by omega) fz9 hf, s3z9]; exact a1z9, by rw [s2z9, s3z9, s4z9]; exact a2, by rw [s4z9, s5]; exact a3, fun vz9 hv hk hp => ?_, ?_⟩
  · rw [s5] at hv
    rw [s7] at hk
    rw [g2] at hp
    rw [s2z9, s3z9, s4z9, hC _ (by omega), (hR2 _ (by omega)).1]
    exact a4 vz9 hv hk hp
  · rcases a5 with ⟨b1, b2, b3, b4, b5, b6, b7, b8⟩ | ⟨ndz9, b1, b2, b3, b4, b5, b6, b7, b8, b9, b10, b11, b12⟩ | ⟨pr, o, ca, cntz9, wz9, b1, b2, b3, b4, b5, b6, b7, b8, b9, b10, b11, b12, b13, b14, b15, b16z9, b17, b18, b19, b20, b21, b22, b23, b24z9, b25, b26⟩
    · exact Or.inl ⟨b1, s1z9.trans b2, s2z9.trans b3, s3z9.trans b4, s5.trans b5, s6z9.trans b6, g2.trans b7, s4z9.trans b8⟩
    · exact Or.inr (Or.inl ⟨ndz9, b1, by rw [s1z9, s4z9, r1z9]; exact b2, by rw [hR 23 (by omega) (by omega) fz9 hf]; exact b3, by rw [hR 24 (by omega) (by omega) fz9 hf]; exact b4, by rw [s2z9, r2]; exact b5, by rw [s5]; exact b6, by rw [s6z9, r6]; exact b7, by rw [r4, r5z9, s4z9]; exact b8, by rw [r3, r5z9, s3z9]; exact b9, p2z9.trans b10, g2.trans b11, by rw [s7]; exact b12⟩)
    · obtain ⟨o1, o2⟩ := hG o (by omega)
      obtain ⟨u1z9, u2z9, u3, u4z9, u5, u6, u7, u8⟩ := g_eq o1
      obtain ⟨c1z9, c2z9⟩ := hG ca (by omega)
      obtain ⟨v1z9, v2, v3, v4z9, v5, v6, v7, v8⟩ := g_eq c1z9
      refine Or.inr (Or.inr ⟨pr, o, ca, cntz9, wz9, b1, b2, s1z9.trans b3, u1z9.trans b4, by rw [hR 23 (by omega) (by omega) fz9 hf]; exact b5, b6, by rw [hR 24 (by omega) (by omega) fz9 hf]; exact b7, by rw [hR 26 (by omega) (by omega) fz9 hf]; exact b8, b9, by rw [s2z9, r2]; exact b10, by rw [s2z9, u2z9, (h12 _ (by omega)).1]; exact b11, by rw [s2z9, v2, (h12 _ (by omega)).2]; exact b12, by rw [s6z9, v6]; exact b13, by rw [u6, v6]; exact b14, s4z9.trans b15, s5.trans b16z9, b17, b18, b19, b20, o2.trans b21, c2z9.trans b22, by rw [r3, r5z9, s3z9]; exact b23, by rw [s7]; exact b24z9, by rw [g2]; exact b25, fun iz9 hiz9 => ?_⟩)
      obtain ⟨d1z9, d2z9, d3z9, d4z9, d5z9, d6z9, d7z9, d8z9⟩ := b26 iz9 hiz9
      unfold ar
      rw [s8, v1z9, s3z9, s2z9, g2, hC _ (by omega), (hR2 _ (by omega)).1, (hR2 _ (by omega)).2]
      exact ⟨d1z9, d2z9, d3z9, d4z9, d5z9, d6z9, d7z9, d8z9⟩
theorem FR.push (hz9 : FR yz9 Cz9 Rz9 Gz9 pd nfz9) (hn : fr yz9 Cz9 Rz9 Gz9 pd nfz9) : FR yz9 Cz9 Rz9 Gz9 pd (nfz9 + 1) := ⟨by omega, fun fz9 hf => by
  by_cases ez9 : fz9 = nfz9
  · subst ez9; exact hn
  · exact hz9.2 fz9 (by omega)⟩
/-- a block's variables, all 0: the class -/
theorem bz_C {l : Launch} {Dz9 : va_G} {ρ : Nat → Nat} {τ : Nat → ClassId} {uz9 : Nat} {V : ai_V} {Gp : ai_S → Prop} {na bs cntz9 : Nat} (hMz9 : V 9 0 = .ref 20) (hcz9 : cntz9 ≤ 24) (hA : 31 * na + bs + cntz9 ≤ 961) (hna : na ≤ 30) : ∀ (rz9 jj : Nat) (C1z9 : ai_S), cntz9 = jj + rz9 → C1z9 9 5 = nI na →
    (∀ C2z9 : ai_S, (∀ qz9 iz9, ¬ (qz9 = 11 ∧ 31 * na + bs + jj ≤ iz9 ∧ iz9 < 31 * na + bs + cntz9) → C2z9 qz9 iz9 = C1z9 qz9 iz9) → (∀ iz9, 31 * na + bs + jj ≤ iz9 → iz9 < 31 * na + bs + cntz9 → C2z9 11 iz9 = 0) → Gp C2z9) →
    ai_W (uN l Dz9 ρ τ) (uz9 + 1) mX1_beginBlock 10 [(0, .ref 9), (1, .int (nI bs)), (2, .int (nI cntz9)), (3, .int (nI jj))] [] C1z9 V (ai_qv V Gp) := by
  intro rz9
  induction rz9 with
  | zero =>
    intro jj C1z9 hr h95 hG
    refine vX1_beginBlock_10 hMz9 ⟨fun _ => hG C1z9 (fun _ _ _ => rfl) (fun iz9 h1 h2 => by omega), fun hh => absurd ?_ hh⟩
    rw [i_le (by omega) (by omega)]; omega
  | succ rz9 ihz9 =>
    intro jj C1z9 hr h95 hG
    refine vX1_beginBlock_10 hMz9 ⟨fun hh => absurd hh ?_, fun _ => ⟨?_, ?_⟩⟩
    · rw [i_le (by omega) (by omega)]; omega
    · rw [show (24 : Int32) = nI 24 from rfl, i_le (by omega) (by omega)]; omega
    · rw [h95, show (31 : Int32) = nI 31 from rfl, pk_mul, nI_add, nI_add, show na * 31 + (bs + jj) = 31 * na + bs + jj by omega, nI_1]
      refine ⟨nI_pos (by omega), by rw [show (961 : Int32) = nI 961 from rfl, i_le (by omega) (by omega)]; omega, i_in (by omega) (by omega), ?_⟩
      rw [nI_clamp (by omega)]
      refine ihz9 (jj + 1) _ (by omega) (by (repeat rw [ai_up_n (by omega)]); exact h95) (fun C2z9 g1 g2 => hG C2z9 (fun qz9 iz9 pz9 => ?_) (fun iz9 p1z9 p2z9 => ?_))
      · rw [g1 qz9 iz9 (by omega), ai_up_n (by omega)]
      · by_cases ez9 : iz9 = 31 * na + bs + jj
        · subst ez9; rw [g1 _ _ (by omega), ai_up_s]
        · exact g2 iz9 (by omega) p2z9
/-- the reference's -/
theorem bz_M {l : Launch} {Dz9 : va_G} {ρ : Nat → Nat} {τ : Nat → ClassId} {uz9 : Nat} {V : ai_V} {Gp : Int32 → ai_S → Prop} {Bz9 cntz9 n0z9 : Nat} (hBz9 : Bz9 + cntz9 ≤ 1300) (hcz9 : cntz9 ≤ 100) (hn : n0z9 < 400) : ∀ (rz9 jj : Nat) (R1 : ai_S), cntz9 = jj + rz9 → R1 0 47 = nI Bz9 → R1 0 46 = nI n0z9 →
    (∀ R2 : ai_S, (∀ qz9 iz9, ¬ (qz9 = 27 ∧ Bz9 + jj ≤ iz9 ∧ iz9 < Bz9 + cntz9) → ¬ (qz9 = 0 ∧ (iz9 = 46 ∨ iz9 = 47)) → R2 qz9 iz9 = R1 qz9 iz9) → (∀ iz9, Bz9 + jj ≤ iz9 → iz9 < Bz9 + cntz9 → R2 27 iz9 = 0) → R2 0 46 = nI (n0z9 + 1) → R2 0 47 = nI (Bz9 + cntz9) → Gp (nI n0z9) R2) →
    ai_W (uM l Dz9 ρ τ) uz9 mX6_frame 47 [(0, .ref 0), (3, .int (nI cntz9)), (5, .int (nI jj))] [] R1 V (ai_qi V Gp) := by
  intro rz9
  induction rz9 with
  | zero =>
    intro jj R1 hr h47 h46 hG
    refine vX6_frame_47 ⟨fun _ => ?_, fun hh => absurd ?_ hh⟩
    · rw [h46, h47, nI_1, nI_pred, nI_add]
      exact hG _ (fun qz9 iz9 pz9 p' => by (repeat rw [ai_up_n (by omega)])) (fun iz9 h1 h2 => by omega) ai_up_s (by (repeat rw [ai_up_n (by omega)]); exact ai_up_s)
    · rw [i_le (by omega) (by omega)]; omega
  | succ rz9 ihz9 =>
    intro jj R1 hr h47 h46 hG
    refine vX6_frame_47 ⟨fun hh => absurd hh ?_, fun _ => ?_⟩
    · rw [i_le (by omega) (by omega)]; omega
    · rw [h47, nI_add, nI_1, nI_clamp (by omega)]
      refine ⟨i_in (by omega) (by omega), ihz9 (jj + 1) _ (by omega) (by (repeat rw [ai_up_n (by omega)]); exact h47) (by (repeat rw [ai_up_n (by omega)]); exact h46) (fun R2 g1 g2 g3z9 g4 => hG R2 (fun qz9 iz9 pz9 p' => ?_) (fun iz9 p1z9 p2z9 => ?_) g3z9 g4)⟩
      · rw [g1 qz9 iz9 (by omega) (by omega), ai_up_n (by omega)]
      · by_cases ez9 : iz9 = Bz9 + jj
        · subst ez9; rw [g1 _ _ (by omega) (by omega), ai_up_s]
        · exact g2 iz9 (by omega) p2z9
/-- a frame more, as the reference lays it -/
def fnR (Rz9 : ai_S) (n0z9 Bz9 cntz9 : Nat) (ou ow fr0 : Int32) : ai_S := fun qz9 iz9 => if qz9 = 0 ∧ iz9 = 46 then nI (n0z9 + 1) else if qz9 = 0 ∧ iz9 = 47 then nI (Bz9 + cntz9) else if qz9 = 23 ∧ iz9 = n0z9 then ou else if qz9 = 24 ∧ iz9 = n0z9 then ow else if qz9 = 25 ∧ iz9 = n0z9 then nI Bz9 else if qz9 = 26 ∧ iz9 = n0z9 then fr0 else if qz9 = 27 ∧ Bz9 ≤ iz9 ∧ iz9 < Bz9 + cntz9 then 0 else Rz9 qz9 iz9
theorem fnR_o {n0z9 Bz9 cntz9 qz9 iz9 : Nat} {ou ow fr0 : Int32} (h1 : ¬ (23 ≤ qz9 ∧ qz9 ≤ 26 ∧ iz9 = n0z9)) (h2 : ¬ (qz9 = 27 ∧ Bz9 ≤ iz9 ∧ iz9 < Bz9 + cntz9)) (h3 : ¬ (qz9 = 0 ∧ (iz9 = 46 ∨ iz9 = 47))) : fnR Rz9 n0z9 Bz9 cntz9 ou ow fr0 qz9 iz9 = Rz9 qz9 iz9 := by
  unfold fnR
  rw [if_neg (by omega), if_neg (by omega), if_neg (by omega), if_neg (by omega), if_neg (by omega), if_neg (by omega), if_neg h2]
theorem fnR_v (Rz9 : ai_S) (n0z9 Bz9 cntz9 : Nat) (ou ow fr0 : Int32) : fnR Rz9 n0z9 Bz9 cntz9 ou ow fr0 23 n0z9 = ou ∧ fnR Rz9 n0z9 Bz9 cntz9 ou ow fr0 24 n0z9 = ow ∧ fnR Rz9 n0z9 Bz9 cntz9 ou ow fr0 25 n0z9 = nI Bz9 ∧ fnR Rz9 n0z9 Bz9 cntz9 ou ow fr0 26 n0z9 = fr0 ∧ (∀ iz9, Bz9 ≤ iz9 → iz9 < Bz9 + cntz9 → fnR Rz9 n0z9 Bz9 cntz9 ou ow fr0 27 iz9 = 0) ∧ fnR Rz9 n0z9 Bz9 cntz9 ou ow fr0 0 46 = nI (n0z9 + 1) ∧ fnR Rz9 n0z9 Bz9 cntz9 ou ow fr0 0 47 = nI (Bz9 + cntz9) := by
  unfold fnR
  refine ⟨by simp, by simp, by simp, by simp, fun iz9 h1 h2 => ?_, by simp, by simp⟩
  rw [if_neg (by omega), if_neg (by omega), if_neg (by omega), if_neg (by omega), if_neg (by omega), if_neg (by omega), if_pos ⟨rfl, h1, h2⟩]
theorem sp_frame {l : Launch} {Dz9 : va_G} {ρ : Nat → Nat} {τ : Nat → ClassId} {uz9 : Nat} {V : ai_V} {Gp : Int32 → ai_S → Prop} (Bz9 cntz9 n0z9 : Nat) {ou ow fr0 : Int32} (hBz9 : Bz9 + cntz9 ≤ 1300) (hcz9 : cntz9 ≤ 100) (hn : n0z9 < 400) (h47 : Rz9 0 47 = nI Bz9) (h46 : Rz9 0 46 = nI n0z9) (hG : Gp (nI n0z9) (fnR Rz9 n0z9 Bz9 cntz9 ou ow fr0)) :
    ai_met (uM l Dz9 ρ τ) uz9 mX6_frame [.ref 0, .int ou, .int ow, .int (nI cntz9), .int fr0] Rz9 V (ai_qi V Gp) := by
  refine vX6_frame ?_
  rw [h46, h47, nI_clamp (by omega)]
  refine ⟨i_in hn (by omega), bz_M hBz9 hcz9 hn cntz9 0 _ (by omega) (by (repeat rw [ai_up_n (by omega)]); exact h47) (by (repeat rw [ai_up_n (by omega)]); exact h46) (fun R2 g1 g2 g3z9 g4 => ?_)⟩
  have ez9 : R2 = fnR Rz9 n0z9 Bz9 cntz9 ou ow fr0 := by
    funext qz9 iz9
    obtain ⟨v1z9, v2, v3, v4z9, v5, v6, v7⟩ := fnR_v Rz9 n0z9 Bz9 cntz9 ou ow fr0
    by_cases e0z9 : qz9 = 0 ∧ (iz9 = 46 ∨ iz9 = 47)
    · rcases e0z9 with ⟨rfl, rfl | rfl⟩
      · rw [g3z9, v6]
      · rw [g4, v7]
    · by_cases e1z9 : qz9 = 27 ∧ Bz9 ≤ iz9 ∧ iz9 < Bz9 + cntz9
      · rw [e1z9.1, g2 iz9 (by omega) e1z9.2.2, v5 iz9 e1z9.2.1 e1z9.2.2]
      · rw [g1 qz9 iz9 (by omega) e0z9]
        by_cases e2z9 : 23 ≤ qz9 ∧ qz9 ≤ 26 ∧ iz9 = n0z9
        · obtain ⟨e3z9, e4z9, rfl⟩ := e2z9
          have e5z9 : qz9 = 23 ∨ qz9 = 24 ∨ qz9 = 25 ∨ qz9 = 26 := by omega
          rcases e5z9 with rfl | rfl | rfl | rfl
          · rw [v1z9]; (repeat rw [ai_up_n (by omega)]); rw [ai_up_s]
          · rw [v2]; (repeat rw [ai_up_n (by omega)]); rw [ai_up_s]
          · rw [v3]; (repeat rw [ai_up_n (by omega)]); rw [ai_up_s]
          · rw [v4z9, ai_up_s]
        · rw [fnR_o e2z9 e1z9 e0z9]; (repeat rw [ai_up_n (by omega)])
  rw [ez9]
  exact hG
/-- over the procedures -/
theorem go_dj {xz9 : xs_T} {kk : Nat} (hx : xk yz9 xz9) (he : ye yz9 ≤ 488) {cz9 : Nat} (hce : cz9 < ye yz9) : ∀ (jj az9 jz9 : Nat) (Cz9 : ai_S), jz9 + jj < 1000000 → cx_dj (yK yz9) jj az9 cz9 → Cz9 9 3 = -1 → Cz9 9 4 = nI az9 → Cz9 20 3 = nI (ye yz9) → (∀ qz9, Cz9 (21 + qz9) = yK yz9 qz9) → (∀ sz9, sz9 ≤ jj → rs xz9 (ai_up Cz9 9 4 (nI cz9)) (jz9 + sz9) Rz9 kk) → rs xz9 Cz9 jz9 Rz9 kk := by
  intro jj
  induction jj with
  | zero =>
    intro az9 jz9 Cz9 hj hd h3 h4 h20 hKz9 hG
    have ez9 : az9 = cz9 := hd
    subst ez9
    have := hG 0 (Nat.le_refl _)
    rw [ai_up_self h4] at this
    exact this
  | succ jj ihz9 =>
    intro az9 jz9 Cz9 hj hd h3 h4 h20 hKz9 hG
    rcases hd with ez9 | ⟨d1z9, a', d2z9, d3z9, d4z9, d5z9⟩
    · subst ez9
      have := hG 0 (Nat.zero_le _)
      rw [ai_up_self h4] at this
      exact this
    · refine rs_step hx.1 (by omega) h3 (st_ctl hx.1 h4 (by omega : az9 < ye yz9) he h20 (c := 3) (by rw [hKz9 0]; exact d1z9) (by decide) (ct_3 hx.1 ?_))
      rw [show Cz9 22 az9 = nI a' by rw [hKz9 1]; exact d2z9, ai_up_up]
      refine ihz9 a' (jz9 + 1) _ (by omega) d5z9 (by (repeat rw [ai_up_n (by omega)]); exact h3) ai_up_s (by (repeat rw [ai_up_n (by omega)]); exact h20) (fun qz9 => by rw [ai_up_o (by omega)]; exact hKz9 qz9) (fun sz9 hs => ?_)
      rw [ai_up_up, show jz9 + 1 + sz9 = jz9 + (sz9 + 1) by omega]
      exact hG (sz9 + 1) (by omega)
end BLK
