/-! ===== the statements of a block, simulated ===== -/
/-- a block's statements are read, on both sides -/
def pB (C R C' R' : ai_S) (tx : Nat → Int32) (n hf : Nat) (sc : sc_T) (SC : Nat → sc_T) (mk bs pr vr p e nn nn0 : Nat) (stk : List mf_T) (K i ls j : Nat) : Prop :=
  ∃ (x p1 p1' e1 nn1 ns1 pr1 vr1 : Nat) (SC1 : Nat → sc_T), pv C' R' tx n hf sc SC1 mk ns1 pr1 vr1 p1 p1' e1 nn1 stk ∧ R' 0 31 = nI (350 * hf + nn0 + 1) ∧ p < p1 ∧ 2 * e1 + 3 * p ≤ 3 * p1 + 2 * e ∧ nn1 + p ≤ nn + p1 ∧ nn ≤ nn1 ∧ e ≤ e1 ∧ j + 12 * p ≤ 12 * p1 ∧ mS R R' hf nn0 mk pr ∧ cS C C' e pr ∧ pr ≤ pr1 ∧ vr ≤ vr1 ∧ bs ≤ ns1 ∧ scw SC1 pr1 hf nn1 ∧ (∀ q, q < pr → SC1 q = SC q) ∧
    (∀ q, 2 ≤ q → q ≤ 8 → ∀ i', i' ≤ 350 * hf + nn → ¬ (q = 3 ∧ i' = 350 * hf + nn0 + 1 ∧ ls = 0) → ¬ (q = 4 ∧ i' = ls ∧ ls ≠ 0) → R' q i' = R q i') ∧ (ls = 0 → R' 3 (350 * hf + nn0 + 1) = nI x) ∧ (ls ≠ 0 → R' 4 ls = nI x) ∧
    (C' 2 5 = 1 → C 2 5 = 1 ∧ cx_sl (cx_S (cd C') R' (16 * hf) SC1 K (nr hf nn nn1) ((0, bs, 350 * hf + nn0 + 1) :: sc)) R' (320 - i) x e e1 ∧ pf C' R' hf SC1 nn nn1 (350 * hf + nn0 + 1) e e1 pr pr1)
def pBs (z : lm_T) (C R : ai_S) (tx : Nat → Int32) (n hf : Nat) (sc : sc_T) (SC : Nat → sc_T) (mk bs pr vr p e nn nn0 : Nat) (stk : List mf_T) (K i ls k dd : Nat) : Bool → ai_S → Prop := fun b C' =>
  ∃ (R' : ai_S) (j : Nat), (lm z R' (k + j) → bk z R k stk.length dd) ∧ ((b = true ∧ pB C R C' R' tx n hf sc SC mk bs pr vr p e nn nn0 stk K i ls j) ∨ (bd tx R' ∧ b = false))
theorem pv_hook {C R : ai_S} {tx : Nat → Int32} {n hf : Nat} {sc : sc_T} {SC : Nat → sc_T} {m ns pr vr p p' e nn cc nd dp ls ex y : Nat} {stk : List mf_T} (hr : 350 * hf < nd ∧ nd < 350 * hf + 350) (hrl : ls ≠ 0 → 350 * hf < ls ∧ ls < 350 * hf + 350) (h : pv C R tx n hf sc SC m ns pr vr p p' e nn ((cc, nd, dp, ls, ex) :: stk)) : pv C (hook R stk.length nd ls y) tx n hf sc SC m ns pr vr p p' e nn ((cc, nd, dp, y, ex) :: stk) := by
  obtain ⟨hT, hp, hpn, hC3, ⟨hmT, m2, mpn, m14, mhf, m15, hmf, m19⟩, hsk, h8, h9, hnh, hsp, hsc, hnn3⟩ := h
  obtain ⟨⟨t13, t14, t15, t16, t17⟩, hml, h30⟩ := mf_top hmf
  dsimp only at t13 t14 t15 t16 t17
  have H0 : ∀ j, hook R stk.length nd ls y 0 j = R 0 j := fun j => hook_o (by omega) (by omega) (by omega)
  have Hq : ∀ q i, ¬ q = 16 → ¬ q = 3 → ¬ q = 4 → hook R stk.length nd ls y q i = R q i := fun q i h1 h2 h3 => hook_o (by omega) (by omega) (by omega)
  refine ⟨hT, hp, hpn, hC3, ⟨⟨by rw [H0]; exact hmT.1, hmT.2.1, fun i hi => by rw [Hq _ _ (by omega) (by omega) (by omega)]; exact hmT.2.2 i hi⟩, by rw [H0]; exact m2, mpn, by rw [H0]; exact m14, ⟨mhf.1, mhf.2.hk hr hrl⟩, by rw [H0]; exact m15, ⟨by rw [H0]; simpa using h30, mf_at_of ?_ ?_ ?_ hook_16 ?_, ?_⟩, by rw [H0]; exact m19⟩, hsk, by rw [H0]; exact h8, by rw [H0]; exact h9, by rw [H0]; exact hnh, ?_, hsc, hnn3⟩
  · rw [Hq _ _ (by omega) (by omega) (by omega)]; exact t13
  · rw [Hq _ _ (by omega) (by omega) (by omega)]; exact t14
  · rw [Hq _ _ (by omega) (by omega) (by omega)]; exact t15
  · rw [Hq _ _ (by omega) (by omega) (by omega)]; exact t17
  · exact mf_l_keep stk (fun q h1 h2 i hi => hook_o (by omega) (by omega) (by omega)) hml
  · exact sp_cong hsp (fun q _ _ => rfl) rfl rfl (fun j _ => H0 j) (fun x _ _ => Hq _ _ (by omega) (by omega) (by omega)) (fun q hq => by funext i; exact Hq _ _ (by omega) (by omega) (by omega))
section BST
variable {l : Launch} {D : va_G} {ρ : Nat → Nat} {τ : Nat → ClassId} {z : lm_T} {V : ai_V} {tx : Nat → Int32} {n hf : Nat} {sc : sc_T} {d dp K : Nat}
set_option maxHeartbeats 8000000 in
theorem simB (hV0 : hV ρ V tx n) (hV3 : V 2 3 = .ref 26) (hdp : dp ≤ 10) (hS : sS l D ρ τ z V tx n hf (d + 1) (dp + 1) K) (stk : List mf_T) (mk bs nn0 : Nat) (hst : stk.length + 1 ≤ dp) (hsl : sc.length + 2 ≤ 2 * dp) (hcl : sc_cl sc + 1 ≤ dp ∧ slo hf sc) (hn320 : n ≤ 320) (hsb : ∀ x ∈ sc, x.1 = 0 → x.2.2 ≤ 350 * hf + nn0) :
    ∀ (w : Nat) (C R : ai_S) (SC : Nat → sc_T) (m ns pr vr p p' e nn k i ls cc ex : Nat), i + w = 320 → i ≤ p → pv C R tx n hf ((0, bs, 350 * hf + nn0 + 1) :: sc) SC m ns pr vr p p' e nn ((cc, 350 * hf + nn0 + 1, dp, ls, ex) :: stk) → (cc = 22 ∨ cc = 19 ∧ ¬ px_c tx n 0 (px_s tx n p) = 36 ∧ ¬ px_c tx n 0 (px_s tx n p) = 64) → scw SC pr hf nn → mk ≤ m → (∀ i, mk ≤ i → i < m → R 21 i = nI (sc.length + 1)) → (∀ i, i < mk → ¬ R 21 i = nI (sc.length + 1)) → sc_tp R sc bs → (ls = 0 → R 3 (350 * hf + nn0 + 1) = nI 0) → (ls ≠ 0 → 350 * hf + nn0 + 1 < ls ∧ ls ≤ 350 * hf + nn ∧ R 4 ls = nI 0) → nn0 + 1 ≤ nn → 2 * e ≤ 3 * p → nn ≤ p → k + 12 * (n - p) + 51 ≤ 100000 →
      ai_W (uC l D ρ τ) (d + 2) mX3_block 60 [(0, .ref 2), (1, .int (nI dp)), (2, .int (nI mk)), (5, .int (nI i))] [] C V (ai_qz V (pBs z C R tx n hf sc SC mk bs pr vr p e nn nn0 stk K i ls k (dp + 1))) := by
  intro w
  induction w using Nat.strongRecOn with
  | ind w ih =>
    intro C R SC m ns pr vr p p' e nn k i ls cc ex hiw hip hpv hcc hscw hmk hl1 hl2 htp hl3 hls hnn0 he hnn hk
    obtain ⟨hT, hp, hpn, hC3, hmq, hsk, h8, h9, hnh, hsp, hsc, hnn3⟩ := id hpv
    obtain ⟨hmT, m2, mpn, m14, mhf, m15, hmf, m19⟩ := id hmq
    obtain ⟨⟨t13, t14, t15, t16, t17⟩, hml, h30⟩ := mf_top hmf
    dsimp only at t13 t14 t15 t16 t17
    obtain ⟨hw1, hw2⟩ := sp_w hsp
    obtain ⟨s1, s2, s3, s4, s5, s6, s7, s8, s9, s10, s11, s12, s13, s14, s15, s15a, s15b, s16, s17, s18⟩ := id hsp
    have s4' : R 0 37 = nI (sc.length + 1) := by simpa using s4
    have hbs : bs ≤ ns := by
      simp only [sc_tp] at s15
      obtain ⟨cnt, -, h⟩ := s15
      omega
    have hskp := px_s_ge tx n p
    have hskn : px_s tx n p ≤ n := px_s_le tx hpn
    have hcl' : sc_cl ((0, bs, 350 * hf + nn0 + 1) :: sc) = sc_cl sc := by simp [sc_cl]
    refine vX3_block_60 hV3 ⟨fun h => absurd h ?_, fun _ => ?_⟩
    · rw [show (320 : Int32) = nI 320 from rfl, i_lt (by omega) (by omega)]; omega
    refine sp_take hV0 hT hp hpn (fun h125 => ai_zt ?_) (fun h125 => ai_zf ?_)
    · -- the end
      have hlt : px_s tx n p < n := px_lt h125 (by decide)
      have h125' : px_c tx n (-1) (px_s tx n p') = 125 := by rw [← hsk]; exact (px_cc (by decide) (by decide)).mp h125
      obtain ⟨R', hR'⟩ : ∃ R', R' = ai_up (ai_up (ai_up (ai_up (ai_up R 0 2 (nI (px_s tx n p' + 1))) 0 36 (nI mk)) 0 37 (R 0 37 - 1)) 0 31 (nI (350 * hf + nn0 + 1))) 0 30 (nI stk.length) := ⟨_, rfl⟩
      have hlm : lm z R' (k + 1) → bk z R k stk.length (dp + 1) := fun h => bk_end (m := m) (mk := mk) (c := cc) (by omega) hmT m2 mpn t13 (by omega) t14 h30 s2 (by omega) hmk (fun i a b => by rw [s4']; exact hl1 i a b) (fun i a => by rw [s4']; exact hl2 i a) h125' (by rw [← hR']; exact h)
      have rq : ∀ q i, ¬ q = 0 → R' q i = R q i := fun q i h => by rw [hR', ai_up_n (by omega), ai_up_n (by omega), ai_up_n (by omega), ai_up_n (by omega), ai_up_n (by omega)]
      have r0 : ∀ j, j ≠ 2 → j ≠ 30 → j ≠ 31 → j ≠ 36 → j ≠ 37 → R' 0 j = R 0 j := fun j a b c d' e' => by rw [hR', ai_up_n (by omega), ai_up_n (by omega), ai_up_n (by omega), ai_up_n (by omega), ai_up_n (by omega)]
      have r37 : R' 0 37 = nI sc.length := by rw [hR', ai_up_n (by omega), ai_up_n (by omega), ai_up_s, s4', nI_pred]
      have mR' : mS R R' hf nn0 mk pr := by rw [hR']; exact ((((mS.rf.u 0 2 _ (by omega)).u 0 36 _ (by omega)).u 0 37 _ (by omega)).u 0 31 _ (by omega)).u 0 30 _ (by omega)
      obtain ⟨C', hC'⟩ : ∃ C', C' = ai_up (ai_up C 2 2 (nI (px_s tx n p + 1))) 3 4 (nI mk) := ⟨_, rfl⟩
      rw [← hC']
      have cq : ∀ q i, ¬ (q = 2 ∧ i = 2) → ¬ (q = 3 ∧ i = 4) → C' q i = C q i := fun q i a b => by rw [hC', ai_up_n (by omega), ai_up_n (by omega)]
      refine ⟨R', 1, hlm, Or.inl ⟨rfl, 0, px_s tx n p + 1, px_s tx n p + 1, e, nn, ns, pr, vr, SC, ?_, by rw [hR', ai_up_n (by omega), ai_up_s], by omega, by omega, by omega, by omega, by omega, by omega, mR', by rw [hC']; exact (cS.rf.u 2 2 _ (by omega)).u 3 4 _ (by omega), Nat.le_refl _, Nat.le_refl _, hbs, hscw, fun _ _ => rfl, fun q a b i' _ _ _ => rq q i' (by omega), fun h => by rw [rq _ _ (by omega)]; exact hl3 h, fun h => by rw [rq _ _ (by omega)]; exact (hls h).2.2, fun hN => ⟨by rw [cq _ _ (by omega) (by omega)] at hN; exact hN, ?_, fun q h1 h2 => absurd h2 (by omega)⟩⟩⟩
      · refine ⟨⟨by rw [cq _ _ (by omega) (by omega)]; exact hT.1, hT.2.1, fun i hi => by rw [cq _ _ (by omega) (by omega)]; exact hT.2.2 i hi⟩, by rw [hC', ai_up_n (by omega), ai_up_s], hlt, by rw [cq _ _ (by omega) (by omega)]; exact hC3, ⟨⟨by rw [r0 1 (by omega) (by omega) (by omega) (by omega) (by omega)]; exact hmT.1, hmT.2.1, fun i hi => by rw [rq _ _ (by omega)]; exact hmT.2.2 i hi⟩, by rw [hR', hsk]; simp [ai_up_eq], hlt, by rw [r0 14 (by omega) (by omega) (by omega) (by omega) (by omega)]; exact m14, ⟨mhf.1, mhf.2.ms mR'⟩, by rw [r0 15 (by omega) (by omega) (by omega) (by omega) (by omega)]; exact m15, ⟨by rw [hR', ai_up_s], mf_l_keep stk (fun q h1 h2 i hi => rq q i (by omega)) hml⟩, by rw [r0 19 (by omega) (by omega) (by omega) (by omega) (by omega)]; exact m19⟩, rfl, by rw [cq _ _ (by omega) (by omega), r0 23 (by omega) (by omega) (by omega) (by omega) (by omega)]; exact h8, by rw [cq _ _ (by omega) (by omega), r0 24 (by omega) (by omega) (by omega) (by omega) (by omega)]; exact h9, by rw [cq _ _ (by omega) (by omega), r0 20 (by omega) (by omega) (by omega) (by omega) (by omega)]; exact hnh, ?_, fun x hx h0 => by have := hsb x hx h0; omega, hnn3⟩
        refine sp_pop hsp hmk hl2 (by rw [hC', ai_up_s]) (by rw [cq _ _ (by omega) (by omega), s3, hcl']) (by rw [cq _ _ (by omega) (by omega)]; exact s5) (cq _ _ (by omega) (by omega)) (cq _ _ (by omega) (by omega)) (by rw [hR', ai_up_n (by omega), ai_up_n (by omega), ai_up_n (by omega), ai_up_s]) r37 (r0 21 (by omega) (by omega) (by omega) (by omega) (by omega)) (r0 22 (by omega) (by omega) (by omega) (by omega) (by omega)) (fun q a b => by funext i; exact cq _ _ (by omega) (by omega)) (fun x _ _ => rq _ _ (by omega)) (fun q hq => by funext i; exact rq _ _ (by omega)) s13 s14 ?_
        exact sc_tp_le (sc_tp_mono (sc_hd_of (fun i => rq 5 i (by omega)) _) htp) hbs
      · cases h320 : 320 - i with
        | zero => exact ⟨rfl, rfl⟩
        | succ j' => exact Or.inl ⟨rfl, rfl⟩
    · -- one more statement
      have h125' : ¬ px_c tx n (-1) (px_s tx n p') = 125 := by rw [← hsk]; exact fun h => h125 ((px_cc (by decide) (by decide)).mpr h)
      have hcc' : cc = 22 ∨ cc = 19 ∧ ¬ px_c tx n (-1) (px_s tx n p') = 36 ∧ ¬ px_c tx n (-1) (px_s tx n p') = 64 := by
        rcases hcc with h | ⟨h1, h2, h3⟩
        · exact Or.inl h
        · exact Or.inr ⟨h1, by rw [← hsk]; exact fun h => h2 ((px_cc (by decide) (by decide)).mpr h), by rw [← hsk]; exact fun h => h3 ((px_cc (by decide) (by decide)).mpr h)⟩
      obtain ⟨R1, hR1⟩ : ∃ R1, R1 = mpush (ai_up (ai_up R 0 2 (nI (px_s tx n p'))) 13 stk.length 22) (stk.length + 1) 10 (nI (dp + 1)) := ⟨_, rfl⟩
      have hlm1 : lm z R1 (k + 1) → bk z R k stk.length (dp + 1) := fun h => bk_stm (by omega) hmT m2 mpn t13 hcc' h30 h125' (by rw [← hR1]; exact h)
      have mR1 : mE R R1 (350 * hf + nn) (350 * hf + 350) := by rw [hR1]; exact ((mE.rf.u0 2 _ (by omega)).uF 13 _ _ (by omega) (by omega)).push _ _ _
      have r1q : ∀ q i, ¬ q = 0 → q < 13 ∨ 17 < q → R1 q i = R q i := fun q i h1 h2 => by rw [hR1, push_o (by omega) (by omega), ai_up_n (by omega), ai_up_n (by omega)]
      have r10 : ∀ j, j ≠ 2 → j ≠ 30 → R1 0 j = R 0 j := fun j h1 h2 => by rw [hR1, push_o (by omega) (by omega), ai_up_n (by omega), ai_up_n (by omega)]
      have cE1 : cE C (ai_up C 2 2 (nI (px_s tx n p))) e := cE.rf.u2 2 _ (by omega)
      have hpv1 : pv (ai_up C 2 2 (nI (px_s tx n p))) R1 tx n hf ((0, bs, 350 * hf + nn0 + 1) :: sc) SC m ns pr vr (px_s tx n p) (px_s tx n p) e nn ((10, 0, dp + 1, 0, 0) :: (22, 350 * hf + nn0 + 1, dp, ls, ex) :: stk) := by
        refine pv_of hpv cE1 mR1 ai_up_s hskn (by rw [ai_up_n (by omega)]; exact hC3) (by rw [hR1, hsk]; simp [mpush, ai_up_eq]) hskn (by rw [r10 15 (by omega) (by omega)]; exact m15) ?_ (by rw [r10 19 (by omega) (by omega)]; exact m19) rfl (by rw [r10 24 (by omega) (by omega), ai_up_n (by omega)]; exact h9) (by rw [r10 20 (by omega) (by omega), ai_up_n (by omega)]; exact hnh) (Nat.le_refl _) hnn3
        rw [hR1]
        refine mf_push (stk := (22, 350 * hf + nn0 + 1, dp, ls, ex) :: stk) ⟨mf_at_of ?_ ?_ ?_ ?_ ?_, ?_⟩ 10 (dp + 1)
        · rw [ai_up_s]; rfl
        · rw [ai_up_n (by omega), ai_up_n (by omega)]; exact t14
        · rw [ai_up_n (by omega), ai_up_n (by omega)]; exact t15
        · rw [ai_up_n (by omega), ai_up_n (by omega)]; exact t16
        · rw [ai_up_n (by omega), ai_up_n (by omega)]; exact t17
        · exact mf_l_o (mf_l_o hml 0 2 _ (by omega)) 13 _ _ (by omega)
      rw [nI_1 dp]
      refine (hS _ SC m ns pr vr _ R1 _ _ e nn _ (k + 1) hpv1 hscw (by simp; omega) ⟨by rw [hcl']; omega, hcl.2.c (fun _ => by show 350 * hf < 350 * hf + nn0 + 1; omega)⟩ (by simp; omega) (by omega) (by omega) (by omega)).mb (fun b C6 hS6 => ?_)
      obtain ⟨R6, j6, hlm6, hS6⟩ := hS6
      have hlmA : lm z R6 (k + (1 + j6)) → bk z R k stk.length (dp + 1) := fun h => hlm1 (hlm6 (by rw [Nat.add_assoc]; exact h))
      rcases hS6 with ⟨rfl, y, p6, p6', e6, nn6, ns6, pr6, vr6, SC6, hpv6, b31, by0, b4, b5, b6, b7, b8, b9, b10, b11, b12, b13, b14, b15, b16, b17, b18⟩ | ⟨hwr, rfl⟩
      · refine ai_zt ?_
        have hy1 := by0.1
        have hy2 := by0.2
        obtain ⟨gT, gp, gpn, gC3, gmq, gsk, g8, g9, gnh, gsp, gsc, gnn⟩ := id hpv6
        obtain ⟨gmT, gm2, gmpn, gm14, gmhf, gm15, gmf, gm19⟩ := id gmq
        obtain ⟨⟨v13, v14, v15, v16, v17⟩, gml, g30⟩ := mf_top gmf
        dsimp only at v13 v14 v15 v16 v17
        obtain ⟨gw1, gw2⟩ := sp_w gsp
        have hlsl : ls < 700 := by
          by_cases h : ls = 0
          · omega
          · have := (hls h).2.1; omega
        have hpv7 := pv_hook (y := y) (by omega) (fun h => by have := hls h; omega) hpv6
        obtain ⟨R7, hR7⟩ : ∃ R7, R7 = hook R6 stk.length (350 * hf + nn0 + 1) ls y := ⟨_, rfl⟩
        rw [← hR7] at hpv7
        have hlm7 : bk z R7 (k + (1 + j6)) stk.length (dp + 1) → bk z R k stk.length (dp + 1) := fun h => hlmA (bk_22 (by omega) gm19 g30 (by omega) v13 v15 v14 (by omega) v16 hlsl b31 (by rw [← hR7]; exact h))
        have r76 : ∀ q i, ¬ (q = 16 ∧ i = stk.length) → ¬ (q = 3 ∧ i = 350 * hf + nn0 + 1 ∧ ls = 0) → ¬ (q = 4 ∧ i = ls ∧ ls ≠ 0) → R7 q i = R6 q i := fun q i a b c => by rw [hR7]; exact hook_o a b c
        have r61 : ∀ q, 2 ≤ q → q ≤ 8 → ∀ i, i ≤ 350 * hf + nn → R6 q i = R q i := fun q a b i hi => by rw [b11.2.2.2.1 q a b i (Or.inl hi), r1q q i (by omega) (by omega)]
        have r21 : ∀ i, i < m → R7 21 i = R 21 i := fun i hi => by rw [r76 21 i (by omega) (by omega) (by omega), b11.2.2.2.2.2 i hi, r1q 21 i (by omega) (by omega)]
        have r75 : ∀ i, i ≤ 350 * hf + nn → R7 5 i = R 5 i := fun i hi => by rw [r76 5 i (by omega) (by omega) (by omega), r61 5 (by omega) (by omega) i hi]
        have mR7 : mS R R7 hf nn0 mk pr := by
          have a1 : mS R R1 hf nn0 mk pr := mR1.ms (by omega) (Nat.le_refl _)
          have a2 := a1.tr b11 (by omega) (by omega) (Nat.le_refl _)
          rw [hR7]
          unfold hook
          refine mS.u ?_ 16 _ _ (by omega)
          split
          · exact a2.u 3 _ _ (by omega)
          · exact a2.u 4 _ _ (by have := hls (by assumption); omega)
        rw [nI_1 i]
        refine (ih (w - 1) (by omega) C6 R7 SC6 m ns6 pr6 vr6 p6 p6' e6 nn6 (k + (1 + j6)) (i + 1) y 22 ex (by omega) (by omega) hpv7 (Or.inl rfl) b16 hmk (fun i a b => by rw [r21 i b]; exact hl1 i a b) (fun i a => by rw [r21 i (by omega)]; exact hl2 i a) ?_ (fun h => by omega) (fun _ => ⟨by omega, by omega, by rw [r76 4 y (by omega) (by omega) (fun h => by have := hls h.2.2; omega)]; exact b4⟩) (by omega) (by omega) (by omega) (by omega)).mono ?_
        · refine sc_tp_mono ?_ htp
          cases sc with
          | nil => trivial
          | cons x0 tl => exact fun h0 => r75 _ (by have := hsb x0 List.mem_cons_self h0; omega)
        rintro r C' V' ⟨h1, b, h2, R', j', h3, h4⟩
        refine ⟨h1, b, h2, R', 1 + j6 + j', fun h => hlm7 (h3 (by rw [Nat.add_assoc]; exact h)), ?_⟩
        rcases h4 with ⟨hb, x', p1, p1', e1, nn1, ns1, pr1, vr1, SC1, c1, c2, c3, c4, c5, c6, c7, c8, c9, c10, c11, c12, c13, c14, c15, c16, c17, c18, c19⟩ | h4
        · have R'6 : ∀ q, 2 ≤ q → q ≤ 8 → ∀ i', i' ≤ 350 * hf + nn6 → ¬ (q = 3 ∧ i' = 350 * hf + nn0 + 1 ∧ ls = 0) → ¬ (q = 4 ∧ i' = ls ∧ ls ≠ 0) → ¬ (q = 4 ∧ i' = y) → R' q i' = R6 q i' := fun q a b i' h1 h2 h3 h4 => by rw [c16 q a b i' h1 (by omega) (by omega), r76 q i' (by omega) h2 h3]
          have SC16 : ∀ q, q < pr → SC1 q = SC q := fun q hq => (c15 q (by omega)).trans (b17 q hq)
          have A16 : ∀ q, 9 ≤ q → q ≤ 11 → ∀ i, i < 16 * hf + pr6 → R' q i = R6 q i := fun q a b i hi => by rw [c9.2.2.2.2.1 q a b i (Or.inl hi), r76 q i (by omega) (by omega) (by omega)]
          have hK16 : ∀ j, j < 3 → ∀ i, i < e6 → cd C' j i = cd C6 j i := fun j hj i hi => c10.2.2.1 (27 + j) (by omega) (by omega) i hi
          refine Or.inl ⟨hb, y, p1, p1', e1, nn1, ns1, pr1, vr1, SC1, c1, c2, by omega, by omega, by omega, by omega, by omega, by omega, mR7.tr c9 (Nat.le_refl _) (Nat.le_refl _) b13, ((cE1.cs (pr := pr)).tr b12 (Nat.le_refl _) (Nat.le_refl _)).tr c10 (by omega) b13, by omega, by omega, c13, c14, SC16, fun q a b i' hi' h1 h2 => ?_, fun h => ?_, fun h => ?_, fun hN => ?_⟩
          · rw [R'6 q a b i' (by omega) h1 h2 (by omega), r61 q a b i' hi']
          · rw [c16 3 (by omega) (by omega) _ (by omega) (by omega) (by omega), hR7, h, hook_3]
          · rw [c16 4 (by omega) (by omega) ls (by have := hls h; omega) (by omega) (by have := hls h; omega), hR7, hook_4 h]
          · obtain ⟨n6, kL, kP1⟩ := c19 hN
            obtain ⟨n5, kS, kP6⟩ := b18 n6
            rw [ai_up_n (by omega)] at n5
            refine ⟨n5, ?_, ?_⟩
            · rw [show 320 - i = (320 - (i + 1)) + 1 by omega]
              refine Or.inr ⟨by omega, e6, x', ?_, c18 (by omega), ?_⟩
              · refine cx_S_lift kS (fun j hj i h1 h2 => hK16 j hj i h2) (ag_of (nn := nn6) (pr := pr6) (fun x hx => ⟨gsc x hx, gw1 x hx⟩) (fun i hi => R'6 5 (by omega) (by omega) i hi (by omega) (by omega) (by omega)) (fun q hq i hi => A16 q (by omega) (by omega) i hi) c15 gw2) (fun _ => show R' 5 (350 * hf + nn0 + 1) = R6 5 (350 * hf + nn0 + 1) from R'6 5 (by omega) (by omega) _ (by omega) (by omega) (by omega) (by omega)) (fun q h1 h2 i h3 h4 h5 => R'6 q h1 h2 i h4 (by omega) (fun h => by have := hls h.2.2; omega) (by omega)) (Nat.le_refl _) (fun i hi => ⟨hi.1, by have := hi.2; omega⟩)
              · refine cx_sl_mono (e0 := e6) (e1 := e1) (fun _ _ _ hx => cx_S_lt hx) (fun x a b _ _ hx => ⟨?_, rfl⟩) _ _ _ _ _ (Nat.le_refl _) (Nat.le_refl _) (Nat.le_refl _) kL
                exact cx_S_lift hx (fun _ _ _ _ _ => rfl) sc_ag.rf (sc_hd_of (fun _ => rfl) _) (fun _ _ _ _ _ _ _ => rfl) (Nat.le_refl _) (fun i hi => ⟨by have := hi.1; omega, hi.2⟩)
            · intro q h1 h2
              by_cases hq6 : q < pr6
              · refine pf_lift (pr := pr) (pr1 := pr6) kP6 (by omega) (fun j hj i h1 h2 => hK16 j hj i h2) (fun j h1 h2 q _ h3 => c10.2.2.2 j h1 h2 q h3) (fun j h1 h2 q _ h3 => A16 j h1 h2 _ (by omega)) (fun q h1 h2 => ag_of (nn := nn6) (pr := pr6) ?_ (fun i hi => R'6 5 (by omega) (by omega) i hi (by omega) (by omega) (by omega)) (fun q hq i hi => A16 q (by omega) (by omega) i hi) c15 gw2) (fun q _ h2 => c15 q h2) (fun q h1 h2 i h3 h4 => R'6 q h1 h2 i h3.2 (by have := h3.1; omega) (fun h => by have := hls h.2.2; have := h3.1; omega) (by omega)) (fun i hi _ => ⟨⟨hi.1, by have := hi.2; omega⟩, by have := hi.1; omega⟩) (by omega) (by omega) q h1 hq6
                intro x' hx'
                rcases List.mem_cons.mp hx' with rfl | hx'
                · exact ⟨fun h => absurd h (by simp), fun _ => by simp; omega⟩
                · exact (b16 q h2).1 x' hx'
              · refine pf_lift (pr := pr6) (pr1 := pr1) kP1 (by have := c1.2.2.1; omega) (fun _ _ _ _ _ => rfl) (fun _ _ _ _ _ _ => rfl) (fun _ _ _ _ _ _ => rfl) (fun _ _ _ => sc_ag.rf) (fun _ _ _ => rfl) (fun _ _ _ _ _ _ => rfl) (fun i hi hne => ⟨⟨by have := hi.1; omega, hi.2⟩, hne⟩) (by omega) (Nat.le_refl _) q (by omega) h2
        · exact Or.inr h4
      · exact ai_zf ⟨R6, 1 + j6, hlmA, Or.inr ⟨hwr, rfl⟩⟩
end BST
