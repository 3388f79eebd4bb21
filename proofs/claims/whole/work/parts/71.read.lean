/-! ===== reading a text ===== -/
/-- a program: the class's code and the reference's tree -/
def PG (K R : ai_S) (hf x e np : Nat) : Prop :=
  ∃ (SC : Nat → sc_T) (e0 nn : Nat), cx_S K R (16 * hf) SC 10 (nr hf 0 nn) [] x 0 e0 ∧ K 0 e0 = 0 ∧ e = e0 + 1 ∧ e ≤ 488 ∧ nn ≤ 330 ∧ np ≤ 16 ∧ (∀ q, q < np → cx_P K R (16 * hf) SC (nr hf 0 nn) e q) ∧ (∀ q, q < np → (∀ y ∈ SC q, (y.1 ≠ 0 → y.1 ≤ np) ∧ (y.1 = 0 → 350 * hf < y.2.2 ∧ y.2.2 ≤ 350 * hf + nn)) ∧ sc_cl (SC q) ≤ 9 ∧ SC q ≠ []) ∧ ∀ q, np ≤ q → SC q = []
theorem cx_S_lift2 {K R : ai_S} {hf k nn nn1 y a b x : Nat} {SC : Nat → sc_T} {sc : sc_T} {P' : Nat → Prop} (hS : cx_S K R (16 * hf) SC k (fun i => nr hf nn nn1 i ∧ i ≠ x) sc y a b) (hP : ∀ i, nr hf nn nn1 i ∧ i ≠ x → P' i) : cx_S K R (16 * hf) SC k P' sc y a b :=
  cx_S_mono (e0 := a) (e1 := b) (fun _ _ _ _ _ => rfl) k k _ P' sc y a b sc_ag.rf (sc_hd_of (fun _ => rfl) _) (Nat.le_refl _) hP (fun _ _ => ⟨rfl, rfl, rfl, rfl, rfl⟩) (fun _ _ _ => ⟨rfl, rfl⟩) (Nat.le_refl _) (Nat.le_refl _) hS
def rdF (ans : Int32) (C C' R R' : ai_S) : Prop :=
  (∀ j, j ≠ 2 → j ≠ 14 → j ≠ 15 → j ≠ 16 → j ≠ 18 → j < 19 ∨ 37 < j → R' 0 j = R 0 j) ∧ R' 1 = R 1 ∧ (∀ q, 21 < q → q < 100 → R' q = R q) ∧
  ((ans = 0 ∧ R' 0 18 = 1 ∧ ∃ hf x e np : Nat, hf ≤ 1 ∧ R' 0 14 = nI hf ∧ R' 0 16 = nI x ∧ C' 26 3 = nI e ∧ C' 26 6 = nI np ∧ R' 12 0 = nI np ∧ C' 26 7 = R' 12 1 ∧ C' 26 8 = R' 12 2 ∧ C' 26 9 = R' 12 3 ∧ PG (cd C') R' hf x e np) ∨
   ((ans = -1 ∨ ans = -2) ∧ R' 0 14 = R 0 14 ∧ R' 0 18 = R 0 18 ∧ R' 0 16 = R 0 16 ∧ R' 12 = R 12 ∧ ∀ h0 : Nat, h0 ≤ 1 → R 0 14 = nI h0 → ¬ R 0 18 = 0 → (∀ q, 2 ≤ q → q ≤ 8 → ∀ i, 350 * h0 < i → i < 350 * h0 + 350 → R' q i = R q i) ∧ ∀ q, 9 ≤ q → q ≤ 11 → ∀ i, 16 * h0 ≤ i → i < 16 * h0 + 16 → R' q i = R q i))
/-- the reference at its start -/
def rd0 (R : ai_S) (hf : Nat) : ai_S := ai_up (ai_up (ai_up (ai_up (ai_up (ai_up (ai_up (ai_up (ai_up (ai_up (ai_up (ai_up R 0 14 (nI hf)) 0 15 (nI (350 * hf))) 0 2 0) 0 30 0) 0 36 0) 0 37 0) 0 19 0) 0 20 0) 0 21 0) 0 22 0) 0 23 0) 0 24 0
def st0 (R : ai_S) (hf : Nat) : ai_S := mpush (rd0 R hf) 0 10 1
/-- the text, and beyond it what was -/
def txg (R : ai_S) (hf : Nat) : Nat → Int32 := fun m => if m < 1000 then R 1 m else st0 R hf ((m - 1000) % 100) ((m - 1000) / 100)
theorem txg_lo {R : ai_S} {hf m : Nat} (h : m < 1000) : txg R hf m = R 1 m := by unfold txg; rw [if_pos h]
theorem txg_hi {R : ai_S} {hf q i : Nat} (h : q < 100) : txg R hf (1000 + (q + 100 * i)) = st0 R hf q i := by
  have e1 : (1000 + (q + 100 * i) - 1000) % 100 = q := by omega
  have e2 : (1000 + (q + 100 * i) - 1000) / 100 = i := by omega
  unfold txg
  rw [if_neg (by omega), e1, e2]
section RDS
variable {z : lm_T} {R : ai_S} {hf h0 : Nat}
theorem st0_o {q i : Nat} (h0 : ¬ (q = 0 ∧ (i = 2 ∨ i = 14 ∨ i = 15 ∨ (19 ≤ i ∧ i ≤ 24) ∨ i = 30 ∨ i = 36 ∨ i = 37))) (h1 : ¬ (13 ≤ q ∧ q ≤ 17)) : st0 R hf q i = R q i := by
  unfold st0
  rw [push_o (by omega) (by omega)]
  unfold rd0
  rw [ai_up_n (by omega), ai_up_n (by omega), ai_up_n (by omega), ai_up_n (by omega), ai_up_n (by omega), ai_up_n (by omega), ai_up_n (by omega), ai_up_n (by omega), ai_up_n (by omega), ai_up_n (by omega), ai_up_n (by omega), ai_up_n (by omega)]
theorem st0_v : st0 R hf 0 2 = 0 ∧ st0 R hf 0 14 = nI hf ∧ st0 R hf 0 15 = nI (350 * hf) ∧ st0 R hf 0 19 = 0 ∧ st0 R hf 0 20 = 0 ∧ st0 R hf 0 21 = 0 ∧ st0 R hf 0 22 = 0 ∧ st0 R hf 0 23 = 0 ∧ st0 R hf 0 24 = 0 ∧ st0 R hf 0 30 = nI 1 ∧ st0 R hf 0 36 = 0 ∧ st0 R hf 0 37 = 0 ∧ st0 R hf 13 0 = 10 ∧ st0 R hf 14 0 = 0 ∧ st0 R hf 15 0 = 1 ∧ st0 R hf 16 0 = 0 ∧ st0 R hf 17 0 = 0 := by
  unfold st0
  unfold mpush rd0
  simp [ai_up_eq]
theorem st0_gh : gh (txg R hf) hf (st0 R hf) := by
  refine ⟨?_, fun q i hq _ _ _ _ => (txg_hi hq).symm⟩
  rw [show (2400 : Nat) = 1000 + (0 + 100 * 14) from rfl, txg_hi (by omega)]
  exact st0_v.2.1
/-- the loop's beginning -/
theorem rd_start (h14 : R 0 14 = nI h0) (hh0 : h0 ≤ 1) (hhf : R 0 18 = 0 ∧ hf = h0 ∨ ¬ R 0 18 = 0 ∧ hf = 1 - h0) (hz : z.2.2.2.2.2.2.1 = R 0 14) (h : lm z (st0 R hf) 0) : ai_met (lm_u z) (z.2.2.2.2.1 + 8) mX6_read [.ref 0] R (lm_V z) (ai_qi (lm_V z) z.2.2.2.2.2.2.2) := by
  have hW : ai_W (lm_u z) (z.2.2.2.2.1 + 8) mX6_read 100 [(0, .ref 0), (1, .int (R 0 14)), (2, .int 0)] [] (mpush (rd0 R hf) 0 10 1) (lm_V z) (ai_qi (lm_V z) z.2.2.2.2.2.2.2) := by
    unfold lm st0 at h
    rw [hz] at h
    exact h
  have e30 : rd0 R hf 0 30 = nI 0 := by unfold rd0; simp [ai_up_eq]; rfl
  refine vX6_read ⟨fun hh => ?_, fun hh => ?_⟩
  · have ehf : hf = h0 := by rcases hhf with ⟨_, h2⟩ | ⟨h1, _⟩; exact h2; exact absurd hh h1
    have e : ai_up (ai_up (ai_up (ai_up (ai_up (ai_up (ai_up (ai_up (ai_up (ai_up (ai_up (ai_up R 0 14 (R 0 14)) 0 15 (350 * R 0 14)) 0 2 0) 0 30 0) 0 36 0) 0 37 0) 0 19 0) 0 20 0) 0 21 0) 0 22 0) 0 23 0) 0 24 0 = rd0 R hf := by
      unfold rd0
      rw [h14, ehf, show (350 : Int32) = nI 350 from rfl, pk_mul]
    rw [e]
    exact sp_push (f := 0) e30 (by omega) hW
  · have ehf : hf = 1 - h0 := by rcases hhf with ⟨h1, _⟩ | ⟨_, h2⟩; exact absurd h1 hh; exact h2
    have e : ai_up (ai_up (ai_up (ai_up (ai_up (ai_up (ai_up (ai_up (ai_up (ai_up (ai_up (ai_up R 0 14 (1 - R 0 14)) 0 15 (350 * (1 - R 0 14))) 0 2 0) 0 30 0) 0 36 0) 0 37 0) 0 19 0) 0 20 0) 0 21 0) 0 22 0) 0 23 0) 0 24 0 = rd0 R hf := by
      unfold rd0
      rw [h14, ehf, show (1 : Int32) = nI 1 from rfl, pk_sub hh0, show (350 : Int32) = nI 350 from rfl, pk_mul]
    rw [e]
    exact sp_push (f := 0) e30 (by omega) hW
end RDS
/-- the class's reader at its start -/
def cs0 (C : ai_S) (n : Nat) : ai_S := ai_up (ai_up (ai_up (ai_up (ai_up (ai_up (ai_up (ai_up (ai_up (ai_up (ai_up C 26 3 0) 26 6 0) 26 7 0) 26 8 0) 26 9 0) 3 4 0) 3 5 0) 3 7 7) 2 1 (nI n)) 2 2 0) 2 5 1
section RDC
variable {l : Launch} {D : va_G} {ρ : Nat → Nat} {τ : Nat → ClassId} {z : lm_T} {V : ai_V} {n h0 hf d : Nat} {C R : ai_S}
set_option maxHeartbeats 4000000 in
theorem rd_pv (hn : n ≤ 320) (hC : ∀ i, i < n → C 1 i = R 1 i) (hR1 : R 0 1 = nI n) (hhf : hf ≤ 1) : pv (cs0 C n) (st0 R hf) (txg R hf) n hf [] (fun _ => []) 0 7 0 0 0 0 0 0 [(10, 0, 1, 0, 0)] := by
  obtain ⟨v1, v2, v3, v4, v5, v6, v7, v8, v9, v10, v11, v12, v13, v14, v15, v16, v17⟩ := st0_v (R := R) (hf := hf)
  refine ⟨⟨by unfold cs0; simp [ai_up_eq], hn, fun i hi => ?_⟩, by unfold cs0; simp [ai_up_eq]; rfl, by omega, by unfold cs0; simp [ai_up_eq]; rfl, ⟨⟨by rw [st0_o (by omega) (by omega)]; exact hR1, hn, fun i hi => by rw [st0_o (by omega) (by omega), txg_lo (by omega)]⟩, by rw [v1]; rfl, by omega, v2, ⟨hhf, st0_gh⟩, v3, ⟨v10, ⟨by rw [show ([] : List mf_T).length = 0 from rfl, v13]; rfl, by rw [show ([] : List mf_T).length = 0 from rfl, v14]; rfl, by rw [show ([] : List mf_T).length = 0 from rfl, v15]; rfl, by rw [show ([] : List mf_T).length = 0 from rfl, v16]; rfl, by rw [show ([] : List mf_T).length = 0 from rfl, v17]; rfl⟩, trivial⟩, v4⟩, rfl, ?_, ?_, Or.inl ⟨by unfold cs0; simp [ai_up_eq], v5⟩, ?_, fun x hx => absurd hx (by simp), by omega⟩
  · rw [txg_lo (by omega), ← hC i hi]; unfold cs0; simp [ai_up_eq]
  · rw [v8]; unfold cs0; simp [ai_up_eq]
  · rw [v9]; unfold cs0; simp [ai_up_eq]
  · refine ⟨by unfold cs0; simp [ai_up_eq]; rfl, by rw [v11]; rfl, by unfold cs0; simp [ai_up_eq]; rfl, by rw [v12]; rfl, by unfold cs0; simp [ai_up_eq]; rfl, by unfold cs0; simp [ai_up_eq]; rfl, by rw [v6]; rfl, by unfold cs0; simp [ai_up_eq]; rfl, by rw [v7]; rfl, by omega, by omega, by omega, by omega, by omega, ?_, by simp, by simp [sc_cl], fun i hi => by omega, fun o x hx => ?_, fun _ _ => rfl⟩
    · simp [sc_tp]
    · simp at hx
/-- the reference's ends -/
theorem lm_end {tx : Nat → Int32} {p k : Nat} (hk : k < 100000) (h19 : R 0 19 = 0) (h30 : R 0 30 = nI 0) (hT : mt_T R tx n) (hp : R 0 2 = nI p) (hpn : p ≤ n)
    (g0 : px_c tx n (-1) (px_s tx n p) = -1 → R 0 20 = 0 → z.2.2.2.2.2.2.2 0 (ai_up (ai_up (ai_up (ai_up (ai_up (ai_up (ai_up R 0 2 (nI (px_s tx n p))) 0 18 1) 0 16 (R 0 31)) 12 0 (R 0 21)) 12 1 (R 0 22)) 12 2 (R 0 23)) 12 3 (R 0 24)))
    (g2 : px_c tx n (-1) (px_s tx n p) = -1 → ¬ R 0 20 = 0 → z.2.2.2.2.2.2.2 (-2) (ai_up (ai_up (ai_up R 0 2 (nI (px_s tx n p))) 0 14 z.2.2.2.2.2.2.1) 0 2 (nI (px_s tx n p))))
    (g1 : ¬ px_c tx n (-1) (px_s tx n p) = -1 → z.2.2.2.2.2.2.2 (-1) (ai_up (ai_up (ai_up R 0 2 (nI (px_s tx n p))) 0 14 z.2.2.2.2.2.2.1) 0 2 (nI (px_s tx n p)))) : lm z R k := by
  have hsn : px_s tx n p ≤ n := px_s_le tx hpn
  have hss := px_s_s tx n p
  have u : ∀ j, j ≠ 2 → ai_up R 0 2 (nI (px_s tx n p)) 0 j = R 0 j := fun j h => ai_up_n (by omega)
  have T2 : mt_T (ai_up (ai_up R 0 2 (nI (px_s tx n p))) 0 14 z.2.2.2.2.2.2.1) tx n := ⟨by rw [ai_up_n (by omega), ai_up_n (by omega)]; exact hT.1, hT.2.1, fun i hi => by rw [ai_up_n (by omega), ai_up_n (by omega)]; exact hT.2.2 i hi⟩
  have again : ∀ {G : Int32 → ai_S → Prop}, G (px_c tx n (-1) (px_s tx n p)) (ai_up (ai_up (ai_up R 0 2 (nI (px_s tx n p))) 0 14 z.2.2.2.2.2.2.1) 0 2 (nI (px_s tx n p))) → ai_met (lm_u z) (z.2.2.2.2.1 + 7) mX6_peek [.ref 0] (ai_up (ai_up R 0 2 (nI (px_s tx n p))) 0 14 z.2.2.2.2.2.2.1) (lm_V z) (ai_qi (lm_V z) G) := fun {G} hG => sp_peek (p := px_s tx n p) T2 (by rw [ai_up_n (by omega), ai_up_s]) hsn (by rw [hss]; exact hG)
  unfold lm
  refine vX6_read_100 ⟨fun h => absurd h ?_, fun _ => ⟨fun _ => ⟨fun h => absurd h19 h, fun _ => sp_peek hT hp hpn ?_⟩, fun h => absurd ?_ h⟩⟩
  · rw [show (100000 : Int32) = nI 100000 from rfl, i_le (by omega) (by omega)]; omega
  · rw [u 19 (by omega), u 20 (by omega), u 31 (by omega), u 21 (by omega), u 22 (by omega), u 23 (by omega), u 24 (by omega)]
    exact ⟨fun h => ⟨fun h' => absurd h19 h', fun _ => again ⟨fun h' => absurd h' h, fun _ => g1 h⟩⟩, fun h => ⟨fun h' => g0 h h', fun h' => ⟨fun h'' => absurd h19 h'', fun _ => again ⟨fun _ => g2 h h', fun h'' => absurd h h''⟩⟩⟩⟩
  · rw [h30]; decide
set_option maxHeartbeats 4000000 in
theorem sim_readInto (hn : n ≤ 320) (hC : ∀ i, i < n → C 1 i = R 1 i) (hR1 : R 0 1 = nI n) (htx : ∀ i, i < n → ¬ R 1 i = 0 ∧ ¬ R 1 i = -1) (h14 : R 0 14 = nI h0) (hh0 : h0 ≤ 1) (hz : z.2.2.2.2.2.2.1 = R 0 14) (hZ : ∀ i, i < n → ai_zS ρ 1 i = R 1 i) :
    ai_met (uC l D ρ τ) (d + 53) mX3_readInto [.ref 2, .ref 26, .ref 1, .int (nI n)] C V (ai_pi (fun x C' V' => V' = ai_uv (ai_uv V 2 3 (.ref 26)) 2 0 (.ref 1) ∧ ∃ R', rdF x C C' R R' ∧ (z.2.2.2.2.2.2.2 x R' → ai_met (lm_u z) (z.2.2.2.2.1 + 8) mX6_read [.ref 0] R (lm_V z) (ai_qi (lm_V z) z.2.2.2.2.2.2.2)))) := by
  obtain ⟨hf, hhf⟩ : ∃ hf, R 0 18 = 0 ∧ hf = h0 ∨ ¬ R 0 18 = 0 ∧ hf = 1 - h0 := by
    by_cases h : R 0 18 = 0
    · exact ⟨h0, Or.inl ⟨h, rfl⟩⟩
    · exact ⟨1 - h0, Or.inr ⟨h, rfl⟩⟩
  have hf1 : hf ≤ 1 := by omega
  obtain ⟨V1, hV1⟩ : ∃ V1, V1 = ai_uv (ai_uv V 2 3 (.ref 26)) 2 0 (.ref 1) := ⟨_, rfl⟩
  have hV0 : hV ρ V1 (txg R hf) n := ⟨by rw [hV1]; simp [ai_uv, updV], fun i hi => by rw [txg_lo (by omega)]; exact hZ i hi⟩
  have hV3 : V1 2 3 = .ref 26 := by rw [hV1]; simp [ai_uv, updV]
  have hst : ∀ {x : Prop}, (lm z (st0 R hf) 0) → ai_met (lm_u z) (z.2.2.2.2.1 + 8) mX6_read [.ref 0] R (lm_V z) (ai_qi (lm_V z) z.2.2.2.2.2.2.2) := fun h => rd_start h14 hh0 hhf hz h
  -- what stays
  have fr : ∀ (R2 R' : ai_S), mS (st0 R hf) R2 hf 0 0 0 → (∀ q i, ¬ (q = 0 ∧ (i = 2 ∨ i = 14 ∨ i = 16 ∨ i = 18)) → ¬ q = 12 → R' q i = R2 q i) → (∀ j, j ≠ 2 → j ≠ 14 → j ≠ 15 → j ≠ 16 → j ≠ 18 → j < 19 ∨ 37 < j → R' 0 j = R 0 j) ∧ R' 1 = R 1 ∧ (∀ q, 21 < q → q < 100 → R' q = R q) := by
    intro R2 R' hm hs
    refine ⟨fun j a1 a2 a3 a4 a5 a6 => ?_, ?_, fun q a1 a2 => ?_⟩
    · rw [hs 0 j (by omega) (by omega), hm.2.2.1 j (by omega), st0_o (by omega) (by omega)]
    · funext i; rw [hs 1 i (by omega) (by omega), hm.1, st0_o (by omega) (by omega)]
    · funext i; rw [hs q i (by omega) (by omega), hm.2.1 q (by omega), st0_o (by omega) (by omega)]
  refine vX3_readInto ?_
  rw [← hV1, show (if 320 < nI n then 320 else nI n) = nI n from if_neg (by rw [show (320 : Int32) = nI 320 from rfl, i_lt (by omega) (by omega)]; omega)]
  have hS : sS l D ρ τ z V1 (txg R hf) n hf (d + 52) 1 10 := sim_S (z := z) hV0 hV3 10 d (by omega)
  refine (hS [] (fun _ => []) 0 7 0 0 (cs0 C n) (st0 R hf) 0 0 0 0 [] 0 (rd_pv hn hC hR1 hf1) (fun q hq => by omega) (by simp) ⟨by simp [sc_cl], fun x hx => absurd hx (by simp)⟩ (by simp) (by omega) (by omega) (by omega)).mb (fun b C2 hS2 => ?_)
  obtain ⟨R2, j, hlm, hS2⟩ := hS2
  rcases hS2 with ⟨rfl, x, p1, p1', e1, nn1, ns1, pr1, vr1, SC1, hpv, c2, c3, c4, c5, c6, c7, c8, c9, c10, c11, c12, c13, c14, c15, c16, c17, c18⟩ | ⟨hbd, rfl⟩
  · refine ai_zt ?_
    obtain ⟨gT, gp, gpn, gC3, gmq, gsk, g8, g9, gnh, gsp, gsc, gnn⟩ := id hpv
    obtain ⟨gmT, gm2, gmpn, gm14, gmhf, gm15, gmf, gm19⟩ := id gmq
    obtain ⟨s1, s2, s3, s4, s5, s6, s7, s8, s9, s10, s11, s12, -⟩ := id gsp
    have h30 : R2 0 30 = nI 0 := gmf.1
    have hj : 0 + j < 100000 := by omega
    have bad : ∀ (ans : Int32) (C' R' : ai_S), (ans = -1 ∨ ans = -2) → (∀ q i, ¬ (q = 0 ∧ (i = 2 ∨ i = 14)) → R' q i = R2 q i) → R' 0 14 = R 0 14 → rdF ans C C' R R' := by
      intro ans C' R' ha hs h14'
      obtain ⟨f1, f2, f3⟩ := fr R2 R' c11 (fun q i a b => hs q i (by omega))
      refine ⟨f1, f2, f3, Or.inr ⟨ha, h14', ?_, ?_, ?_, fun h0' a1 a2 a3 => ⟨fun q b1 b2 i b3 b4 => ?_, fun q b1 b2 i b3 b4 => ?_⟩⟩⟩
      · rw [hs 0 18 (by omega), c11.2.2.1 18 (by omega), st0_o (by omega) (by omega)]
      · rw [hs 0 16 (by omega), c11.2.2.1 16 (by omega), st0_o (by omega) (by omega)]
      · funext i; rw [hs 12 i (by omega), c11.2.1 12 (by omega), st0_o (by omega) (by omega)]
      · have e : h0' = h0 := by rw [h14, i_eq (by omega) (by omega)] at a2; exact a2.symm
        rcases hhf with ⟨b5, _⟩ | ⟨_, b5⟩
        · exact absurd b5 a3
        · rw [hs q i (by omega), c11.2.2.2.1 q b1 b2 i (by omega), st0_o (by omega) (by omega)]
      · have e : h0' = h0 := by rw [h14, i_eq (by omega) (by omega)] at a2; exact a2.symm
        rcases hhf with ⟨b5, _⟩ | ⟨_, b5⟩
        · exact absurd b5 a3
        · rw [hs q i (by omega), c11.2.2.2.2.1 q b1 b2 i (by omega), st0_o (by omega) (by omega)]
    refine sp_look hV0 gT gp gpn ⟨fun hx3 => ?_, fun hx3 => ?_⟩
    · -- the end
      have hend : px_c (txg R hf) n (-1) (px_s (txg R hf) n p1') = -1 := by
        rw [← gsk]
        unfold px_c at hx3 ⊢
        by_cases hlt : px_s (txg R hf) n p1 < n
        · rw [if_pos hlt, txg_lo (by omega)] at hx3
          exact absurd hx3 (htx _ hlt).1
        · rw [if_neg hlt]
      refine sp_cadd (e := e1) (by rw [ai_up_n (by omega)]; exact gC3) (by omega) ?_
      obtain ⟨C3, hC3⟩ : ∃ C3, C3 = cadd (ai_up C2 2 2 (nI (px_s (txg R hf) n p1))) e1 0 0 0 := ⟨_, rfl⟩
      rw [← hC3]
      have c3o : ∀ {q i : Nat}, ¬ (q = 2 ∧ i = 2) → ¬ (27 ≤ q ∧ q ≤ 29 ∧ i = e1) → ¬ (q = 26 ∧ i = 3) → C3 q i = C2 q i := fun a b c => by rw [hC3]; unfold cadd; rw [ai_up_n (by omega), ai_up_n (by omega), ai_up_n (by omega), ai_up_n (by omega), ai_up_n (by omega)]
      rw [c3o (by omega) (by omega) (by omega)]
      refine ⟨fun h25 => ⟨rfl, _, bad (-2) _ _ (Or.inr rfl) (fun q i a => ?_) ?_, fun hG => hst (x := True) (hlm (lm_end hj gm19 h30 gmT gm2 gmpn (fun _ h20 => ?_) (fun _ _ => hG) (fun h => absurd hend h)))⟩, fun h25 => ?_⟩
      · rw [ai_up_n (by omega), ai_up_n (by omega), ai_up_n (by omega)]
      · rw [ai_up_n (by omega), ai_up_s]; exact hz
      · rcases gnh with ⟨a1, _⟩ | ⟨_, a2⟩
        · rw [a1] at h25; exact absurd h25 (by decide)
        · rw [a2] at h20; exact absurd h20 (by decide)
      · have n1 : C2 2 5 = 1 := by rcases gnh with ⟨a1, _⟩ | ⟨a1, _⟩; exact a1; exact absurd a1 h25
        have n20 : R2 0 20 = 0 := by rcases gnh with ⟨_, a1⟩ | ⟨a1, _⟩; exact a1; exact absurd a1 h25
        obtain ⟨-, kS, kP⟩ := c18 n1
        obtain ⟨gw1, gw2⟩ := sp_w gsp
        obtain ⟨R', hR'⟩ : ∃ R', R' = ai_up (ai_up (ai_up (ai_up (ai_up (ai_up (ai_up R2 0 2 (nI (px_s (txg R hf) n p1'))) 0 18 1) 0 16 (R2 0 31)) 12 0 (R2 0 21)) 12 1 (R2 0 22)) 12 2 (R2 0 23)) 12 3 (R2 0 24) := ⟨_, rfl⟩
        have r' : ∀ q i, ¬ (q = 0 ∧ (i = 2 ∨ i = 16 ∨ i = 18)) → ¬ q = 12 → R' q i = R2 q i := fun q i a b => by rw [hR', ai_up_n (by omega), ai_up_n (by omega), ai_up_n (by omega), ai_up_n (by omega), ai_up_n (by omega), ai_up_n (by omega), ai_up_n (by omega)]
        obtain ⟨f1, f2, f3⟩ := fr R2 R' c11 (fun q i a b => r' q i (by omega) b)
        have hK : ∀ j, j < 3 → ∀ i, i < e1 → cd C3 j i = cd C2 j i := fun j hj i hi => c3o (by omega) (by omega) (by omega)
        have ag : ∀ sc0 : sc_T, sc_ag R2 R' (16 * hf) SC1 SC1 sc0 := fun sc0 => ⟨fun y hy => ⟨fun h0 ct hc h => ⟨ct, (r' _ _ (by omega) (by omega)).trans h, Nat.le_refl _, hc⟩, fun _ => ⟨r' _ _ (by omega) (by omega), r' _ _ (by omega) (by omega)⟩⟩, fun _ _ => rfl⟩
        refine ⟨rfl, R', ⟨f1, f2, f3, Or.inl ⟨rfl, ?_, hf, x, e1 + 1, pr1, hf1, ?_, ?_, ?_, ?_, ?_, ?_, ?_, ?_, SC1, e1, nn1, ?_, ?_, rfl, by omega, gnn, s10, fun q hq => ?_, fun q hq => ⟨fun y hy => ⟨((c16 q hq).1 y hy).2, fun h0 => ⟨(c16 q hq).2.2.2 y hy h0, ((c16 q hq).1 y hy).1 h0⟩⟩, (c16 q hq).2.1, (c16 q hq).2.2.1⟩, gw2⟩⟩, fun hG => hst (x := True) (hlm (lm_end hj gm19 h30 gmT gm2 gmpn (fun _ _ => by rw [← hR']; exact hG) (fun _ h => absurd n20 h) (fun h => absurd hend h)))⟩
        · rw [hR']; simp [ai_up_eq]
        · rw [r' _ _ (by omega) (by omega)]; exact gm14
        · rw [hR']; simp [ai_up_eq]; exact c2
        · rw [hC3]; unfold cadd; rw [ai_up_s]
        · rw [c3o (by omega) (by omega) (by omega)]; exact s6
        · rw [hR']; simp [ai_up_eq]; exact s7
        · rw [c3o (by omega) (by omega) (by omega), hR']; simp [ai_up_eq]; rw [s8, s9]
        · rw [c3o (by omega) (by omega) (by omega), hR']; simp [ai_up_eq]; exact g8
        · rw [c3o (by omega) (by omega) (by omega), hR']; simp [ai_up_eq]; exact g9
        · exact cx_S_lift kS (fun j hj i _ hi => hK j hj i hi) (ag _) (sc_hd_of (fun i => r' _ _ (by omega) (by omega)) _) (fun q a b i _ _ _ => r' _ _ (by omega) (by omega)) (Nat.le_refl _) (fun i hi => hi)
        · show C3 27 e1 = 0
          rw [hC3]; unfold cadd
          rw [ai_up_n (by omega), ai_up_n (by omega), ai_up_n (by omega), ai_up_s]
        · have hp := pf_lift (C' := C3) (R' := R') (SC' := SC1) (nn' := 0) (nn1' := nn1) (x' := 0) (e' := 0) (e1' := e1 + 1) kP (by omega) (fun j hj i _ hi => hK j hj i hi) (fun j a b q _ _ => c3o (by omega) (by omega) (by omega)) (fun j a b q _ _ => r' _ _ (by omega) (by omega)) (fun q _ _ => ag _) (fun _ _ _ => rfl) (fun q a b i _ _ => r' _ _ (by omega) (by omega)) (fun i hi _ => ⟨hi, by have := hi.1; omega⟩) (Nat.le_refl _) (by omega) q (Nat.zero_le _) hq
          obtain ⟨-, a, c, b, y, cnt, w, g1, g2, g3, g4, g5, g6, g7, g8', g9', g10, g11⟩ := hp
          exact ⟨a, c, b, y, cnt, w, g1, g2, g3, g4, g5, g6, g7, g8', cx_S_lift2 g9' (fun i hi => hi.1), g10, g11⟩
    · -- something behind it
      refine ⟨rfl, _, bad (-1) _ _ (Or.inl rfl) (fun q i a => ?_) ?_, fun hG => hst (x := True) (hlm (lm_end hj gm19 h30 gmT gm2 gmpn (fun h => absurd h ?_) (fun h => absurd h ?_) (fun _ => hG)))⟩
      · rw [ai_up_n (by omega), ai_up_n (by omega), ai_up_n (by omega)]
      · rw [ai_up_n (by omega), ai_up_s]; exact hz
      all_goals
        rw [← gsk]
        unfold px_c at hx3 ⊢
        by_cases hlt : px_s (txg R hf) n p1 < n
        · rw [if_pos hlt, txg_lo (by omega)]
          exact (htx _ hlt).2
        · rw [if_neg hlt] at hx3
          exact absurd rfl hx3
  · refine ai_zf ⟨rfl, ai_up R2 0 14 z.2.2.2.2.2.2.1, ?_, fun hG => hst (x := True) (hlm (lm_wrong hbd.1 hG))⟩
    have hg := hbd.2 hf hf1 (st0_gh (R := R)).1
    have r2 : ∀ q i, q < 100 → ¬ (q = 0 ∧ (i = 2 ∨ i = 15 ∨ (19 ≤ i ∧ i ≤ 24) ∨ i = 30 ∨ i = 31 ∨ i = 36 ∨ i = 37)) → ¬ (2 ≤ q ∧ q ≤ 8 ∧ 350 * hf < i ∧ i < 350 * hf + 350) → ¬ (9 ≤ q ∧ q ≤ 11 ∧ 16 * hf ≤ i ∧ i < 16 * hf + 16) → ¬ (13 ≤ q ∧ q ≤ 21) → R2 q i = st0 R hf q i := fun q i a b c d e => by rw [hg.2 q i a b c d e, txg_hi a]
    refine ⟨fun j a1 a2 a3 a4 a5 a6 => ?_, ?_, fun q a1 a2 => ?_, Or.inr ⟨Or.inl rfl, by rw [ai_up_s]; exact hz, ?_, ?_, ?_, fun h0' a1 a2 a3 => ⟨fun q b1 b2 i b3 b4 => ?_, fun q b1 b2 i b3 b4 => ?_⟩⟩⟩
    · rw [ai_up_n (by omega), r2 0 j (by omega) (by omega) (by omega) (by omega) (by omega), st0_o (by omega) (by omega)]
    · funext i; rw [ai_up_n (by omega), r2 1 i (by omega) (by omega) (by omega) (by omega) (by omega), st0_o (by omega) (by omega)]
    · funext i; rw [ai_up_n (by omega), r2 q i (by omega) (by omega) (by omega) (by omega) (by omega), st0_o (by omega) (by omega)]
    · rw [ai_up_n (by omega), r2 0 18 (by omega) (by omega) (by omega) (by omega) (by omega), st0_o (by omega) (by omega)]
    · rw [ai_up_n (by omega), r2 0 16 (by omega) (by omega) (by omega) (by omega) (by omega), st0_o (by omega) (by omega)]
    · funext i; rw [ai_up_n (by omega), r2 12 i (by omega) (by omega) (by omega) (by omega) (by omega), st0_o (by omega) (by omega)]
    · have e : h0' = h0 := by rw [h14, i_eq (by omega) (by omega)] at a2; exact a2.symm
      rcases hhf with ⟨b5, _⟩ | ⟨_, b5⟩
      · exact absurd b5 a3
      · rw [ai_up_n (by omega), r2 q i (by omega) (by omega) (by omega) (by omega) (by omega), st0_o (by omega) (by omega)]
    · have e : h0' = h0 := by rw [h14, i_eq (by omega) (by omega)] at a2; exact a2.symm
      rcases hhf with ⟨b5, _⟩ | ⟨_, b5⟩
      · exact absurd b5 a3
      · rw [ai_up_n (by omega), r2 q i (by omega) (by omega) (by omega) (by omega) (by omega), st0_o (by omega) (by omega)]
end RDC
