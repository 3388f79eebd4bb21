/-! ===== a formal by name, followed ===== -/
def agR (Rz9 R' : ai_S) : Prop := ∀ qz9 iz9, ¬ (qz9 = 0 ∧ 59 ≤ iz9 ∧ iz9 ≤ 61) → R' qz9 iz9 = Rz9 qz9 iz9
def agC (Cz9 C'z9 : ai_S) : Prop := ∀ qz9 iz9, ¬ (qz9 = 9 ∧ iz9 = 15) → C'z9 qz9 iz9 = Cz9 qz9 iz9
def fM (Rz9 : ai_S) (mz9 ez9 rz9 : Nat) (Qz9 : ai_S → Prop) : Prop := ∀ (R1 : ai_S) (l : Launch) (Dz9 : va_G) (ρ : Nat → Nat) (τ : Nat → ClassId) (uz9 : Nat) (V : ai_V) (Gp : ai_S → Prop) (jj : Nat), agR Rz9 R1 → R1 0 59 = 4 → jj + rz9 ≤ 100 → (∀ R', agR Rz9 R' → Qz9 R' → Gp R') →
  ai_W (uM l Dz9 ρ τ) (uz9 + 1) mX6_follow 13 [(0, .ref 0), (3, .int (nI mz9)), (4, .int (nI ez9)), (5, .int (nI jj))] [] R1 V (ai_qv V Gp)
def fC (Cz9 : ai_S) (gz9 : Nat) (slz9 : Int32) (rz9 : Nat) (Qz9 : Int32 → ai_S → Prop) : Prop := ∀ (C1z9 : ai_S) (l : Launch) (Dz9 : va_G) (ρ : Nat → Nat) (τ : Nat → ClassId) (uz9 : Nat) (V : ai_V) (Gp : Int32 → ai_S → Prop) (jj : Nat), V 9 0 = .ref 20 → agC Cz9 C1z9 → jj + rz9 ≤ 30 → (∀ vz9 C'z9, agC Cz9 C'z9 → Qz9 vz9 C'z9 → Gp vz9 C'z9) →
  ai_W (uN l Dz9 ρ τ) (uz9 + 2) mX1_resolve 8 [(0, .ref 9), (3, .int (nI gz9)), (4, .int slz9), (5, .int (nI jj))] [] C1z9 V (ai_qi V Gp)
section FLW
variable {yz9 : ys_T} {x0z9 : Nat} {Cz9 Rz9 : ai_S} {Gz9 : gg_T} {pd : Nat → Nat} {nfz9 : Nat}
/-- a node that is no formal by name ends it -/
theorem fol_end {mz9 ez9 f2z9 : Nat} {wz9 pl ou hp : Int32} (hmz9 : mz9 < 700) (h5 : Rz9 5 mz9 = wz9) (h6 : Rz9 6 mz9 = pl) (h7 : Rz9 7 mz9 = ou) (hw : ¬ wz9 = 4) (hn : nmw Cz9 Rz9 Gz9 ez9 f2z9 ou hp) : fM Rz9 mz9 ez9 0 (fun R' => R' 0 59 = wz9 ∧ R' 0 60 = pl ∧ R' 0 61 = nI f2z9) := by
  intro R1 l Dz9 ρ τ uz9 V Gp jj haz9 h59 hj hG
  refine vX6_follow_13 ⟨fun hh => absurd hh ?_, fun _ => ⟨fun hh => absurd h59 hh, fun _ => ⟨i_in hmz9 (by omega), ?_⟩⟩⟩
  · rw [show (500 : Int32) = nI 500 from rfl, i_le (by omega) (by omega)]; omega
  · rw [nI_clamp (by omega), haz9 5 mz9 (by omega), haz9 6 mz9 (by omega), haz9 7 mz9 (by omega), h5, h6, h7]
    refine hn.1 _ _ _ _ _ _ _ _ (by funext iz9; (repeat rw [ai_up_n (by omega)]); exact haz9 23 iz9 (by omega)) ⟨fun _ => ?_, fun hh => absurd hh (by rw [ai_up_n (by omega), ai_up_s]; exact hw)⟩
    refine vX6_follow_13 ⟨fun hh => absurd hh ?_, fun _ => ⟨fun _ => hG _ (fun qz9 iz9 pz9 => ?_) ⟨?_, ?_, ai_up_s⟩, fun hh => absurd hh ?_⟩⟩
    · rw [nI_1, show (500 : Int32) = nI 500 from rfl, i_le (by omega) (by omega)]; omega
    · (repeat rw [ai_up_n (by omega)]); exact haz9 qz9 iz9 pz9
    · (repeat rw [ai_up_n (by omega)]); rw [ai_up_s]
    · (repeat rw [ai_up_n (by omega)]); rw [ai_up_s]
    · (repeat rw [ai_up_n (by omega)]); rw [ai_up_s]; exact hw
theorem fM.up {mz9 ez9 rz9 r' : Nat} {Qz9 : ai_S → Prop} (hz9 : fM Rz9 mz9 ez9 rz9 Qz9) (hr : rz9 ≤ r') : fM Rz9 mz9 ez9 r' Qz9 := fun R1 l Dz9 ρ τ uz9 V Gp jj az9 bz9 cz9 dz9 => hz9 R1 l Dz9 ρ τ uz9 V Gp jj az9 bz9 (by omega) dz9
/-- what following comes to -/
def flw (yz9 : ys_T) (Cz9 Rz9 : ai_S) (Gz9 : gg_T) (pd : Nat → Nat) (nfz9 mz9 ez9 hz9 : Nat) (slz9 : Int32) : Prop :=
  (∃ p0z9 f0z9 : Int32, fM Rz9 mz9 ez9 (gr Gz9 ez9) (fun R' => R' 0 59 = 0 ∧ R' 0 60 = p0z9 ∧ R' 0 61 = f0z9) ∧ fC Cz9 (gi Gz9 hz9) slz9 (gr Gz9 ez9) (fun vz9 _ => vz9 = -1)) ∨
  ∃ (x2z9 q2z9 e2z9 f2z9 : Nat) (kd : Int32), e2z9 < nfz9 ∧ pd e2z9 = 6 ∧ gr Gz9 e2z9 < gr Gz9 ez9 ∧ q2z9 < ye yz9 ∧ (kd = 0 ∧ yK yz9 0 q2z9 = 11 ∨ kd = 2 ∧ yK yz9 0 q2z9 = 13) ∧ f2z9 ≤ e2z9 ∧ pd f2z9 = 6 ∧ gr Gz9 f2z9 ≤ gr Gz9 e2z9 ∧ nmw Cz9 Rz9 Gz9 e2z9 f2z9 (yR yz9 7 x2z9) (yK yz9 2 q2z9) ∧ nmk yz9 Cz9 Rz9 Gz9 pd f2z9 (yR yz9 5 x2z9) (yR yz9 6 x2z9) kd (yK yz9 1 q2z9) ∧
    fM Rz9 mz9 ez9 (gr Gz9 ez9) (fun R' => R' 0 59 = yR yz9 5 x2z9 ∧ R' 0 60 = yR yz9 6 x2z9 ∧ R' 0 61 = nI f2z9) ∧ fC Cz9 (gi Gz9 hz9) slz9 (gr Gz9 ez9) (fun vz9 C'z9 => vz9 = nI q2z9 ∧ C'z9 9 15 = nI (gi Gz9 e2z9))
theorem fol_nm (hy : yG yz9 x0z9) (hz9 : FR yz9 Cz9 Rz9 Gz9 pd nfz9) (hnf : nfz9 ≤ 400) (hg : gi Gz9 (nfz9 - 1) ≤ 30) (h20 : Cz9 20 3 = nI (ye yz9)) (hKz9 : ∀ qz9, Cz9 (21 + qz9) = yK yz9 qz9) (hR : ∀ qz9, 2 ≤ qz9 → qz9 ≤ 11 → Rz9 qz9 = yR yz9 qz9) : ∀ (nz9 ez9 mz9 : Nat) (slz9 hp : Int32), gr Gz9 ez9 ≤ nz9 → ez9 < nfz9 → pd ez9 = 6 → mz9 < 700 → cx_rs (yR yz9) (yb yz9) (yC yz9) (gs Gz9 ez9) (yR yz9 5 mz9) (yR yz9 6 mz9) (yR yz9 7 mz9) 1 slz9 hp →
    ∃ hd, hd ≤ ez9 ∧ nmw Cz9 Rz9 Gz9 ez9 hd (yR yz9 7 mz9) hp ∧ flw yz9 Cz9 Rz9 Gz9 pd nfz9 mz9 ez9 hd slz9 := by
  intro nz9
  induction nz9 with
  | zero =>
    intro ez9 mz9 slz9 hp hn he h6 hmz9 hr
    obtain ⟨f', a1z9, a2, a3, a4, a6⟩ := fo_nm hy hz9 hnf hg he h6 hr
    rcases a6 with ⟨a6, _⟩ | ⟨_, _, i1z9, ca, cntz9, ww, _, _, _, _, d1z9, d2z9, d3z9, d4z9, d5z9, d6z9, d7z9, _⟩ | ⟨a6, _⟩
    · exact absurd a6 (by decide)
    · omega
    · exact absurd a6 (by decide)
  | succ nz9 ihz9 =>
    intro ez9 mz9 slz9 hp hn he h6 hmz9 hr
    have hye := hy.2.1
    obtain ⟨f', a1z9, a2, a3, a4, a6⟩ := fo_nm hy hz9 hnf hg he h6 hr
    have hnk : yR yz9 5 mz9 = 4 ∧ ∃ iz9 ca cntz9 ww, yR yz9 6 mz9 = nI (iz9 + 1) ∧ slz9 = nI (iz9 + 1) ∧ iz9 < cntz9 ∧ ww.testBit iz9 = false ∧ cf yz9 Cz9 Rz9 Gz9 pd f' ca cntz9 ww := by
      rcases a6 with ⟨a6, _⟩ | ⟨_, a6⟩ | ⟨a6, _⟩
      · exact absurd a6 (by decide)
      · exact a6
      · exact absurd a6 (by decide)
    obtain ⟨k5z9, i1z9, ca, cntz9, ww, k6z9, k7z9, k8z9, k9, d1z9, d2z9, d3z9, d4z9, d5z9, d6z9, d7z9, d8z9, d9z9, d10z9⟩ := hnk
    have hf' : f' < nfz9 := by omega
    obtain ⟨r25, _⟩ := hz9.2 f' hf'
    obtain ⟨e1z9, e2z9, e3z9, e4z9, e5z9, ⟨mm, e6z9, e6', e6''⟩, e7z9, e8⟩ := d10z9 i1z9 k8z9
    obtain ⟨e7a, e7b, e7c⟩ := e7z9 k9
    obtain ⟨xn, hxn⟩ : ∃ xn, xn = (ga Gz9 f' i1z9).1 := ⟨_, rfl⟩
    obtain ⟨hh, hhh⟩ : ∃ hh, hh = (ga Gz9 f' i1z9).2 := ⟨_, rfl⟩
    rw [← hxn] at e1z9 e2z9 e3z9 e5z9 e6z9 e7a
    rw [← hhh] at e4z9 e5z9 e6z9 e7c
    have x7 := e1z9.2
    have hbd := fo_bd hz9 hf' hg (v := i1z9 + 1) (by omega)
    have hgf' := (fo_top hz9 hf').2
    have hgca := (fo_top hz9 (show ca < nfz9 by omega)).2
    have hhm := yE_lt e6z9
    subst k7z9
    -- the reference's round
    have rndz9 : ∀ (Qz9 : ai_S → Prop), (¬ yR yz9 2 xn = 8 → ∀ R', agR Rz9 R' → R' 0 59 = 0 ∧ R' 0 60 = nI (i1z9 + 1) ∧ R' 0 61 = nI f' → Qz9 R') → (yR yz9 2 xn = 8 → fM Rz9 xn ca (gr Gz9 ca) Qz9) → fM Rz9 mz9 ez9 (gr Gz9 ez9) Qz9 := by
      intro Qz9 q1z9 q2z9 R1 l Dz9 ρ τ uz9 V Gp jj haz9 h59 hj hG
      refine vX6_follow_13 ⟨fun hh => absurd hh ?_, fun _ => ⟨fun hh => absurd h59 hh, fun _ => ⟨i_in hmz9 (by omega), ?_⟩⟩⟩
      · rw [show (500 : Int32) = nI 500 from rfl, i_le (by omega) (by omega)]; omega
      · rw [nI_clamp (by omega), haz9 5 mz9 (by omega), haz9 6 mz9 (by omega), haz9 7 mz9 (by omega), hR 5 (by omega) (by omega), hR 6 (by omega) (by omega), hR 7 (by omega) (by omega), k5z9, k6z9]
        obtain ⟨S2, hS2⟩ : ∃ S2, S2 = ai_up (ai_up R1 0 59 4) 0 60 (nI (i1z9 + 1)) := ⟨_, rfl⟩
        have s2z9 : agR Rz9 S2 := fun qz9 iz9 pz9 => by rw [hS2]; (repeat rw [ai_up_n (by omega)]); exact haz9 qz9 iz9 pz9
        have s59 : S2 0 59 = 4 := by rw [hS2]; (repeat rw [ai_up_n (by omega)]); rw [ai_up_s]
        have s60 : S2 0 60 = nI (i1z9 + 1) := by rw [hS2]; rw [ai_up_s]
        rw [← hS2]
        refine a4.1 _ _ _ _ _ _ _ _ (by funext iz9; exact s2z9 23 iz9 (by omega)) ⟨fun hh => absurd s59 hh, fun _ => ?_⟩
        rw [nI_clamp (show f' < 2 ^ 31 by omega), s2z9 25 f' (by omega), r25, s60, nI_add, nI_clamp (by omega), show gb Gz9 f' + (i1z9 + 1) = gb Gz9 f' + 1 + i1z9 by omega, s2z9 27 _ (by omega), e7a, s2z9 28 _ (by omega), e7b, nI_clamp (show xn < 2 ^ 31 by omega), s2z9 2 _ (by omega), hR 2 (by omega) (by omega), nI_1]
        refine ⟨i_in (by omega) (by omega), i_in (by omega) (by omega), i_in (by omega) (by omega), fun h8 => ?_, fun h8 => ?_⟩
        · exact q2z9 h8 _ l Dz9 ρ τ uz9 V Gp (jj + 1) (fun qz9 iz9 pz9 => by (repeat rw [ai_up_n (by omega)]); exact s2z9 qz9 iz9 pz9) (by (repeat rw [ai_up_n (by omega)]); exact s59) (by omega) hG
        · refine vX6_follow_13 ⟨fun hh => absurd hh ?_, fun _ => ⟨fun _ => hG _ (fun qz9 iz9 pz9 => ?_) (q1z9 h8 _ (fun qz9 iz9 pz9 => ?_) ⟨ai_up_s, by (repeat rw [ai_up_n (by omega)]); exact s60, by (repeat rw [ai_up_n (by omega)]); exact ai_up_s⟩), fun hh => absurd hh ?_⟩⟩
          · rw [show (500 : Int32) = nI 500 from rfl, i_le (by omega) (by omega)]; omega
          · (repeat rw [ai_up_n (by omega)]); exact s2z9 qz9 iz9 pz9
          · (repeat rw [ai_up_n (by omega)]); exact s2z9 qz9 iz9 pz9
          · rw [ai_up_s]; decide
    -- the class's
    have cln : ∀ (Qz9 : Int32 → ai_S → Prop), (¬ yK yz9 0 hh = 24 → ∀ C'z9, agC Cz9 C'z9 → Qz9 (-1) C'z9) → (yK yz9 0 hh = 24 → ¬ yK yz9 0 (hh + 1) = 12 → ∀ C'z9, agC Cz9 C'z9 → C'z9 9 15 = nI (gi Gz9 ca) → Qz9 (nI (hh + 1)) C'z9) → (yK yz9 0 hh = 24 → yK yz9 0 (hh + 1) = 12 → ∃ h2, nmw Cz9 Rz9 Gz9 ca h2 (yR yz9 7 xn) (yK yz9 2 (hh + 1)) ∧ fC Cz9 (gi Gz9 h2) (yK yz9 1 (hh + 1)) (gr Gz9 ca) Qz9) → fC Cz9 (gi Gz9 f') (nI (i1z9 + 1)) (gr Gz9 ez9) Qz9 := by
      intro Qz9 q1z9 q2z9 q3z9 C1z9 l Dz9 ρ τ uz9 V Gp jj hV haz9 hj hG
      refine vX1_resolve_8 hV ⟨fun hh => absurd hh ?_, fun _ => ?_⟩
      · rw [show (31 : Int32) = nI 31 from rfl, i_le (by omega) (by omega)]; omega
      · rw [show (31 : Int32) = nI 31 from rfl, pk_mul, nI_add, show gi Gz9 f' * 31 + (i1z9 + 1) = 31 * gi Gz9 f' + 1 + i1z9 by omega, nI_clamp (show 31 * gi Gz9 f' + 1 + i1z9 < 2 ^ 31 by omega), haz9 11 _ (by omega), e7c, nI_clamp (show hh < 2 ^ 31 by omega), nI_1, nI_clamp (show hh + 1 < 2 ^ 31 by omega), nI_clamp (show gi Gz9 f' < 2 ^ 31 by omega), haz9 13 _ (by omega), d6z9, haz9 20 _ (by omega), h20, haz9 21 _ (by omega), haz9 21 _ (by omega), haz9 23 _ (by omega), hKz9 0, hKz9 2]
        refine ⟨nI_pos (by omega), by rw [show (961 : Int32) = nI 961 from rfl, i_le (by omega) (by omega)]; omega, i_in (by omega) (by omega), fun hh => absurd hh (nI_pos (by omega)), fun _ => ⟨by rw [i_le (by omega) (by omega)]; omega, by rw [show (488 : Int32) = nI 488 from rfl, i_le (by omega) (by omega)]; omega, i_in (by omega) (by omega), fun h24 => ⟨nI_pos (by omega), by rw [i_le (by omega) (by omega)]; omega, i_in (by omega) (by omega), fun hh => absurd hh (nI_pos (by omega)), fun _ => ⟨by rw [i_le (by omega) (by omega)]; omega, by rw [show (488 : Int32) = nI 488 from rfl, i_le (by omega) (by omega)]; omega, i_in (by omega) (by omega), fun h12 => ?_, fun h12 => ?_⟩⟩, fun h24 => ?_⟩⟩
        · obtain ⟨h2, n1z9, n2z9⟩ := q3z9 h24 h12
          refine n1z9.2 _ _ _ _ _ _ _ _ (by funext iz9; (repeat rw [ai_up_n (by omega)]); exact haz9 12 iz9 (by omega)) ⟨?_, ?_⟩
          · (repeat rw [ai_up_n (by omega)]); rw [haz9 20 _ (by omega), h20, i_le (by omega) (by omega)]; omega
          · rw [show (ai_up C1z9 9 15 (nI (gi Gz9 ca))) 22 (hh + 1) = yK yz9 1 (hh + 1) by (repeat rw [ai_up_n (by omega)]); rw [haz9 22 _ (by omega), hKz9 1], nI_1]
            exact n2z9 _ l Dz9 ρ τ uz9 V Gp (jj + 1) hV (fun qz9 iz9 pz9 => by (repeat rw [ai_up_n (by omega)]); exact haz9 qz9 iz9 pz9) (by omega) hG
        · have ag : agC Cz9 (ai_up C1z9 9 15 (nI (gi Gz9 ca))) := fun qz9 iz9 pz9 => by (repeat rw [ai_up_n (by omega)]); exact haz9 qz9 iz9 pz9
          exact hG _ _ ag (q2z9 h24 h12 _ ag ai_up_s)
        · exact hG _ _ haz9 (q1z9 h24 _ haz9)
    refine ⟨f', a1z9, a4, ?_⟩
    rcases e5z9 with ⟨t8, o24⟩ | ⟨t8, o23⟩
    · obtain ⟨k', _, hE⟩ := yE_inv e6z9
      have hU : yU yz9 (gs Gz9 ca) xn (hh + 1) 11 12 13 := by
        rcases hE with ⟨tz9, _⟩ | ⟨_, tz9, _⟩ | ⟨tz9, _⟩ | ⟨tz9, _⟩ | ⟨tz9, _⟩
        · rw [t8] at tz9; exact absurd tz9 (by decide)
        · exact tz9
        · rw [t8] at tz9; exact absurd tz9 (by decide)
        · rw [t8] at tz9; exact absurd tz9 (by decide)
        · rw [t8] at tz9; exact absurd tz9 (by decide)
      obtain ⟨kd, hrs, hkd⟩ := hU
      by_cases hk1 : kd = 1
      · subst hk1
        have o12 : yK yz9 0 (hh + 1) = 12 := by
          rcases hkd with ⟨tz9, _⟩ | ⟨_, tz9⟩ | ⟨tz9, _⟩
          · exact absurd tz9 (by decide)
          · exact tz9
          · exact absurd tz9 (by decide)
        obtain ⟨h2, b1, b2, b3⟩ := ihz9 ca xn (yK yz9 1 (hh + 1)) (yK yz9 2 (hh + 1)) (by omega) (by omega) d8z9 x7 hrs
        rcases b3 with ⟨p0z9, f0z9, b3, b4⟩ | ⟨x2z9, q2z9, e2', f2z9, kd2, b3, b4, b5, b6, b7, b8, b9, b10, b11, b12, b13, b14⟩
        · exact Or.inl ⟨p0z9, f0z9, rndz9 _ (fun hz9 => absurd t8 hz9) (fun _ => b3), cln _ (fun hz9 => absurd o24 hz9) (fun _ hz9 => absurd o12 hz9) (fun _ _ => ⟨h2, b2, b4⟩)⟩
        · exact Or.inr ⟨x2z9, q2z9, e2', f2z9, kd2, b3, b4, by omega, b6, b7, b8, b9, b10, b11, b12, rndz9 _ (fun hz9 => absurd t8 hz9) (fun _ => b13), cln _ (fun hz9 => absurd o24 hz9) (fun _ hz9 => absurd o12 hz9) (fun _ _ => ⟨h2, b2, b14⟩)⟩
      · have hkd' : kd = 0 ∧ yK yz9 0 (hh + 1) = 11 ∨ kd = 2 ∧ yK yz9 0 (hh + 1) = 13 := by
          rcases hkd with tz9 | ⟨tz9, _⟩ | tz9
          · exact Or.inl tz9
          · exact absurd tz9 hk1
          · exact Or.inr tz9
        have o12 : ¬ yK yz9 0 (hh + 1) = 12 := by rcases hkd' with ⟨_, tz9⟩ | ⟨_, tz9⟩ <;> rw [tz9] <;> decide
        obtain ⟨f2z9, b1, b2, b3, b4, b5⟩ := fo_nm hy hz9 hnf hg (show ca < nfz9 by omega) d8z9 hrs
        have hw4 : ¬ yR yz9 5 xn = 4 := by
          rcases b5 with ⟨_, tz9, _⟩ | ⟨tz9, _⟩ | ⟨_, tz9, _⟩
          · rcases tz9 with tz9 | tz9 <;> rw [tz9] <;> decide
          · exact absurd tz9 hk1
          · rw [tz9]; decide
        exact Or.inr ⟨xn, hh + 1, ca, f2z9, kd, by omega, d8z9, by omega, by omega, hkd', b1, b3, b2, b4, b5, rndz9 _ (fun hz9 => absurd t8 hz9) (fun _ => (fol_end x7 (by rw [hR 5 (by omega) (by omega)]) (by rw [hR 6 (by omega) (by omega)]) (by rw [hR 7 (by omega) (by omega)]) hw4 b4).up (Nat.zero_le _)), cln _ (fun hz9 => absurd o24 hz9) (fun _ _ C'z9 _ hz9 => ⟨rfl, hz9⟩) (fun _ hz9 => absurd hz9 o12)⟩
    · have o24 : ¬ yK yz9 0 hh = 24 := by rw [o23]; decide
      exact Or.inl ⟨nI (i1z9 + 1), nI f', rndz9 _ (fun _ R' _ hz9 => hz9) (fun hz9 => absurd hz9 t8), cln _ (fun _ C'z9 _ => rfl) (fun hz9 => absurd hz9 o24) (fun hz9 => absurd hz9 o24)⟩
/-- the reference's memory behind it -/
def scr (Rz9 : ai_S) (wz9 pz9 gz9 : Int32) : ai_S := ai_up (ai_up (ai_up Rz9 0 59 wz9) 0 60 pz9) 0 61 gz9
theorem scr_eq {Rz9 R' : ai_S} {wz9 pz9 gz9 : Int32} (hz9 : agR Rz9 R') (h1 : R' 0 59 = wz9) (h2 : R' 0 60 = pz9) (h3 : R' 0 61 = gz9) : R' = scr Rz9 wz9 pz9 gz9 := by
  funext qz9 iz9
  unfold scr
  simp only [ai_up_eq]
  by_cases e3z9 : qz9 = 0 ∧ iz9 = 61
  · rw [if_pos e3z9, e3z9.1, e3z9.2, h3]
  · rw [if_neg e3z9]
    by_cases e2z9 : qz9 = 0 ∧ iz9 = 60
    · rw [if_pos e2z9, e2z9.1, e2z9.2, h2]
    · rw [if_neg e2z9]
      by_cases e1z9 : qz9 = 0 ∧ iz9 = 59
      · rw [if_pos e1z9, e1z9.1, e1z9.2, h1]
      · rw [if_neg e1z9]
        exact hz9 qz9 iz9 (by omega)
theorem scr_o {Rz9 : ai_S} {wz9 pz9 gz9 : Int32} {qz9 iz9 : Nat} (hz9 : ¬ (qz9 = 0 ∧ 59 ≤ iz9 ∧ iz9 ≤ 61)) : scr Rz9 wz9 pz9 gz9 qz9 iz9 = Rz9 qz9 iz9 := by
  unfold scr
  (repeat rw [ai_up_n (by omega)])
theorem scr_r {Rz9 : ai_S} {wz9 pz9 gz9 : Int32} {qz9 : Nat} (hz9 : qz9 ≠ 0) : scr Rz9 wz9 pz9 gz9 qz9 = Rz9 qz9 := by
  unfold scr
  rw [ai_up_o hz9, ai_up_o hz9, ai_up_o hz9]
theorem scr_v (Rz9 : ai_S) (wz9 pz9 gz9 : Int32) : scr Rz9 wz9 pz9 gz9 0 59 = wz9 ∧ scr Rz9 wz9 pz9 gz9 0 60 = pz9 ∧ scr Rz9 wz9 pz9 gz9 0 61 = gz9 := by
  unfold scr
  refine ⟨?_, ?_, ai_up_s⟩
  · (repeat rw [ai_up_n (by omega)]); rw [ai_up_s]
  · (repeat rw [ai_up_n (by omega)]); rw [ai_up_s]
/-- following, as a call -/
theorem sp_fol {Rz9 Sz9 : ai_S} {mz9 ez9 rz9 : Nat} {wz9 pz9 gz9 : Int32} (hz9 : fM Rz9 mz9 ez9 rz9 (fun R' => R' 0 59 = wz9 ∧ R' 0 60 = pz9 ∧ R' 0 61 = gz9)) (hr : rz9 ≤ 100) {l : Launch} {Dz9 : va_G} {ρ : Nat → Nat} {τ : Nat → ClassId} {uz9 : Nat} {V : ai_V} {Gp : ai_S → Prop} (hSz9 : Sz9 = Rz9) (hG : Gp (scr Rz9 wz9 pz9 gz9)) : ai_met (uM l Dz9 ρ τ) (uz9 + 1) mX6_follow [.ref 0, .int (nI mz9), .int (nI ez9)] Sz9 V (ai_qv V Gp) := by
  subst hSz9
  exact vX6_follow (hz9 _ l Dz9 ρ τ uz9 V Gp 0 (fun qz9 iz9 pz9 => ai_up_n (by omega)) ai_up_s (by omega) (fun R' haz9 hq => by rw [scr_eq haz9 hq.1 hq.2.1 hq.2.2]; exact hG))
end FLW
