/-! ===== declarations of variables, simulated ===== -/
theorem sp_tpB {R : ai_S} {bs nd ns : Nat} {sc : sc_T} : sc_tp R ((0, bs, nd) :: sc) ns ↔ ∃ cnt : Nat, R 5 nd = nI cnt ∧ bs + cnt ≤ ns := by
  simp [sc_tp]
section BVA
variable {l : Launch} {D : va_G} {ρ : Nat → Nat} {τ : Nat → ClassId} {z : lm_T} {V : ai_V} {tx : Nat → Int32} {n hf : Nat} {sc : sc_T} {SC : Nat → sc_T} {m ns pr vr d dp mk bs nn0 ex : Nat} {C R : ai_S} {p p' e nn k : Nat} {stk : List mf_T}
/-- behind a declaration -/
def pVa (z : lm_T) (C R C' : ai_S) (tx : Nat → Int32) (n hf : Nat) (sc : sc_T) (SC : Nat → sc_T) (mk bs m ns pr vr dp p e nn nn0 ex : Nat) (stk : List mf_T) (k : Nat) : Prop :=
  ∃ (R' : ai_S) (p1 : Nat), (bk z R' (k + 1) stk.length (dp + 1) → bk z R k stk.length (dp + 1)) ∧ pv C' R' tx n hf ((0, bs, 350 * hf + nn0 + 1) :: sc) SC (m + 1) (ns + 1) pr (vr + 1) p1 p1 e nn ((19, 350 * hf + nn0 + 1, dp, 0, ex) :: stk) ∧ p + 3 ≤ p1 ∧ R' 5 (350 * hf + nn0 + 1) = nI (ns + 1 - bs) ∧ (∀ i, mk ≤ i → i < m + 1 → R' 21 i = nI (sc.length + 1)) ∧ (∀ i, i < mk → ¬ R' 21 i = nI (sc.length + 1)) ∧ (∀ q, 2 ≤ q → q ≤ 12 → ∀ i, ¬ (q = 5 ∧ i = 350 * hf + nn0 + 1) → R' q i = R q i) ∧ mS R R' hf nn0 mk pr ∧ cS C C' e pr ∧ (C' 2 5 = 1 → C 2 5 = 1) ∧ ∀ q, 27 ≤ q → q ≤ 31 → C' q = C q
set_option maxHeartbeats 8000000 in
theorem sim_var (hV0 : hV ρ V tx n) (hV3 : V 2 3 = .ref 26) (hst : stk.length < 60) (hsb : ∀ x ∈ sc, x.1 = 0 → x.2.2 ≤ 350 * hf + nn0) (hpv : pv C R tx n hf ((0, bs, 350 * hf + nn0 + 1) :: sc) SC m ns pr vr p p' e nn ((19, 350 * hf + nn0 + 1, dp, 0, ex) :: stk)) (hmk : mk ≤ m) (hl1 : ∀ i, mk ≤ i → i < m → R 21 i = nI (sc.length + 1)) (hl2 : ∀ i, i < mk → ¬ R 21 i = nI (sc.length + 1)) (hbs : 7 ≤ bs) (hbn : bs ≤ ns) (h5 : R 5 (350 * hf + nn0 + 1) = nI (ns - bs)) (hnn0 : nn0 + 1 ≤ nn) (hk : k + 1 < 100000) (h36 : px_c tx n 0 (px_s tx n p) = 36) :
    ai_met (uC l D ρ τ) (d + 3) mX3_variable [.ref 2, .int (nI mk)] (ai_up C 2 2 (nI (px_s tx n p + 1))) V (ai_qz V (fun b C' => (b = true ∧ pVa z C R C' tx n hf sc SC mk bs m ns pr vr dp p e nn nn0 ex stk k) ∨ (b = false ∧ ∃ R' : ai_S, bd tx R' ∧ (lm z R' (k + 1) → bk z R k stk.length (dp + 1))))) := by
  obtain ⟨hT, hp, hpn, hC3, hmq, hsk, h8, h9, hnh, hsp, hsc, hnn3⟩ := id hpv
  have hn320 : n ≤ 320 := hT.2.1
  obtain ⟨hmT, m2, mpn, m14, mhf, m15, hmf, m19⟩ := id hmq
  obtain ⟨⟨t13, t14, t15, t16, t17⟩, hml, h30⟩ := mf_top hmf
  dsimp only at t13 t14 t15 t16 t17
  obtain ⟨s1, s2, s3, s4, s5, s6, s7, s8, s9, s10, s11, s12, s13, s14, s15, s15a, s15b, s16, s17, s18⟩ := id hsp
  have s4' : R 0 37 = nI (sc.length + 1) := by simpa using s4
  have hlt : px_s tx n p < n := px_lt h36 (by decide)
  have hskp := px_s_ge tx n p
  have h36' : px_c tx n (-1) (px_s tx n p') = 36 := by rw [← hsk]; exact (px_cc (by decide) (by decide)).mp h36
  have hsk3 := px_s_ge tx n (px_s tx n p + 1)
  have hsk4 := px_s_ge tx n (px_s tx n (px_s tx n p + 1) + 1)
  have T2 : ∀ v : Int32, ct_T (ai_up C 2 2 v) tx n := fun v => ⟨by rw [ai_up_n (by omega)]; exact hT.1, hT.2.1, fun i hi => by rw [ai_up_n (by omega)]; exact hT.2.2 i hi⟩
  have hl1' : ∀ i, mk ≤ i → i < m → R 21 i = R 0 37 := fun i a b => by rw [s4']; exact hl1 i a b
  have hl2' : ∀ i, i < mk → ¬ R 21 i = R 0 37 := fun i a => by rw [s4']; exact hl2 i a
  -- the reference
  have ref : ∀ (c c2 : Int32), px_c tx n (-1) (px_s tx n (px_s tx n p' + 1)) = c → (97 ≤ c ∧ c ≤ 122 → px_c tx n (-1) (px_s tx n (px_s tx n (px_s tx n p' + 1) + 1)) = c2) → (¬ (97 ≤ c ∧ c ≤ 122) ∨ ¬ c2 = 59 ∨ ¬ vr < 24) → ∃ R' : ai_S, bd tx R' ∧ (lm z R' (k + 1) → bk z R k stk.length (dp + 1)) := by
    intro c c2 hc hc2 hbad
    refine Classical.byContradiction fun hcon => ?_
    have hall : (∀ R' : ai_S, bd tx R' → lm z R' (k + 1)) := fun R' hR' => Classical.byContradiction fun h => hcon ⟨R', hR', fun h' => absurd h' h⟩
    have hb : bk z R k stk.length (dp + 1) := bk_var (m := m) (mk := mk) (cnt := ns - bs) (vr := vr) mhf (by omega) hmT m2 mpn t13 t14 (by omega) m19 s2 (by omega) hl1' hl2' h5 s9 (by omega) h36' hc hc2 (fun _ => hall) (fun a1 a2 a3 a4 => absurd hbad (by
      rintro (h | h | h)
      · exact h ⟨a1, a2⟩
      · exact h a3
      · exact h a4))
    exact hcon ⟨_, bd_1, fun _ => hb⟩
  refine vX3_variable hV3 (sp_takeName hV0 (T2 _) ai_up_s hlt (fun c hc h97 h122 => ⟨fun h => ?_, fun _ => ?_⟩) (fun c hc hnl => ⟨fun _ => Or.inr ⟨rfl, ?_⟩, fun h => absurd rfl h⟩))
  · rw [h] at h97; exact absurd h97 (by decide)
  · have c0 : c ≠ 0 := fun h => by rw [h] at h97; exact absurd h97 (by decide)
    have c1 : c ≠ -1 := fun h => by rw [h] at h97; exact absurd h97 (by decide)
    have hlt2 : px_s tx n (px_s tx n p + 1) < n := px_lt hc c0
    have hc' : px_c tx n (-1) (px_s tx n (px_s tx n p' + 1)) = c := by rw [← hsk]; exact (px_cc c0 c1).mp hc
    rw [ai_up_up]
    refine sp_take hV0 (T2 _) ai_up_s hlt2 (fun h59 => ai_zt ?_) (fun h59 => ai_zf (Or.inr ⟨rfl, ref c _ hc' (fun _ => rfl) (Or.inr (Or.inl ?_))⟩))
    · have hlt3 : px_s tx n (px_s tx n (px_s tx n p + 1) + 1) < n := px_lt h59 (by decide)
      have h59' : px_c tx n (-1) (px_s tx n (px_s tx n (px_s tx n p' + 1) + 1)) = 59 := by rw [← hsk]; exact (px_cc (by decide) (by decide)).mp h59
      obtain ⟨p3, hp3⟩ : ∃ p3, p3 = px_s tx n (px_s tx n (px_s tx n p + 1) + 1) + 1 := ⟨_, rfl⟩
      have hp3' : px_s tx n (px_s tx n (px_s tx n p' + 1) + 1) + 1 = p3 := by rw [hp3, hsk]
      rw [ai_up_up, ← hp3, ai_up_n (by omega : ¬ (26 = 2 ∧ 7 = 2)), s8, ai_up_n (by omega : ¬ (3 = 2 ∧ 7 = 2)), s5, show (24 : Int32) = nI 24 from rfl, i_lt (by omega) (by omega), nI_1 vr]
      refine ⟨fun h24 => ?_, fun h24 => Or.inr ⟨rfl, ref c 59 hc' (fun _ => h59') (Or.inr (Or.inr h24))⟩⟩
      obtain ⟨C2, hC2⟩ : ∃ C2, C2 = ai_up (ai_up C 2 2 (nI p3)) 26 7 (nI (vr + 1)) := ⟨_, rfl⟩
      rw [← hC2]
      have c2o : ∀ q i, ¬ (q = 2 ∧ i = 2) → ¬ (q = 26 ∧ i = 7) → C2 q i = C q i := fun q i a b => by rw [hC2, ai_up_n (by omega), ai_up_n (by omega)]
      have hm136 : m < 136 := by omega
      -- both outcomes
      have fin : ∀ (bad : Prop) (X CX : ai_S), (bad ∧ X = ai_up (ai_up R 0 2 (nI p3)) 0 20 1 ∧ CX = ai_up (decC C2 m c 0 (nI ns)) 2 5 0 ∨ ¬ bad ∧ X = ai_up R 0 2 (nI p3) ∧ CX = decC C2 m c 0 (nI ns)) → (bad ↔ ∃ i', mk ≤ i' ∧ i' < m ∧ R 18 i' = c) → pVa z C R (ai_up CX 3 7 (nI (ns + 1))) tx n hf sc SC mk bs m ns pr vr dp p e nn nn0 ex stk k := by
        intro bad X CX hX hbad
        have xo : ∀ q i, ¬ (q = 0 ∧ (i = 2 ∨ i = 20)) → X q i = R q i := fun q i h => by
          rcases hX with ⟨_, rfl, _⟩ | ⟨_, rfl, _⟩
          · rw [ai_up_n (by omega), ai_up_n (by omega)]
          · rw [ai_up_n (by omega)]
        have x2 : X 0 2 = nI p3 := by
          rcases hX with ⟨_, rfl, _⟩ | ⟨_, rfl, _⟩
          · rw [ai_up_n (by omega), ai_up_s]
          · exact ai_up_s
        have cxo : ∀ q i, ¬ (q = 2 ∧ i = 5) → CX q i = decC C2 m c 0 (nI ns) q i := fun q i h => by
          rcases hX with ⟨_, _, rfl⟩ | ⟨_, _, rfl⟩
          · rw [ai_up_n (by omega)]
          · rfl
        have dco : ∀ q i, ¬ (4 ≤ q ∧ q ≤ 7 ∧ i = m) → ¬ (q = 3 ∧ i = 4) → decC C2 m c 0 (nI ns) q i = C2 q i := fun q i a b => by
          unfold decC
          rw [ai_up_n (by omega), ai_up_n (by omega), ai_up_n (by omega), ai_up_n (by omega), ai_up_n (by omega)]
        have co : ∀ q i, ¬ (q = 2 ∧ (i = 5 ∨ i = 2)) → ¬ (4 ≤ q ∧ q ≤ 7 ∧ i = m) → ¬ (q = 3 ∧ (i = 4 ∨ i = 7)) → ¬ (q = 26 ∧ i = 7) → ai_up CX 3 7 (nI (ns + 1)) q i = C q i := fun q i a b c d' => by rw [ai_up_n (by omega), cxo q i (by omega), dco q i b (by omega), c2o q i (by omega) (by omega)]
        obtain ⟨R', hR'⟩ : ∃ R', R' = ai_up (ai_up (decR X m c 1 (nI (ns - bs))) 5 (350 * hf + nn0 + 1) (nI (ns - bs + 1))) 0 22 (nI (vr + 1)) := ⟨_, rfl⟩
        have ro : ∀ q i, ¬ (q = 0 ∧ (i = 2 ∨ i = 20 ∨ i = 22 ∨ i = 36)) → ¬ (q = 5 ∧ i = 350 * hf + nn0 + 1) → ¬ (18 ≤ q ∧ q ≤ 21 ∧ i = m) → R' q i = R q i := fun q i a b c => by
          rw [hR']
          unfold decR
          rw [ai_up_n (by omega), ai_up_n (by omega), ai_up_n (by omega), ai_up_n (by omega), ai_up_n (by omega), ai_up_n (by omega), ai_up_n (by omega), xo q i (by omega)]
        have hbk : bk z R' (k + 1) stk.length (dp + 1) → bk z R k stk.length (dp + 1) := by
          intro h
          refine bk_var (m := m) (mk := mk) (cnt := ns - bs) (vr := vr) mhf (by omega) hmT m2 mpn t13 t14 (by omega) m19 s2 (by omega) hl1' hl2' h5 s9 (by omega) h36' hc' (fun _ => h59') (fun hb => absurd hb (by
            rintro (h | h | h)
            · exact h ⟨h97, h122⟩
            · exact h rfl
            · exact h h24)) (fun _ _ _ _ Y hY => ?_)
          have hYX : Y = X := by
            rw [hp3'] at hY
            rcases hY with ⟨y1, y2⟩ | ⟨y1, y2⟩ <;> rcases hX with ⟨x1, x2, _⟩ | ⟨x1, x2, _⟩
            · rw [y2, x2]
            · exact absurd (hbad.mpr y1) x1
            · exact absurd (hbad.mp x1) y1
            · rw [y2, x2]
          rw [hYX, ← hR']
          refine bk_19 (dp := dp) (by omega) ?_ ?_ (by omega) ?_ ?_ h
          · rw [ro _ _ (by omega) (by omega) (by omega)]; exact m19
          · rw [ro _ _ (by omega) (by omega) (by omega)]; exact h30
          · rw [ro _ _ (by omega) (by omega) (by omega)]; exact t13
          · rw [ro _ _ (by omega) (by omega) (by omega)]; exact t15
        have d21 : R' 21 m = R 0 37 := by
          rw [hR', ai_up_n (by omega), ai_up_n (by omega)]
          unfold decR
          rw [ai_up_n (by omega), ai_up_s, xo _ _ (by omega)]
        have d18 : R' 18 m = c := by
          rw [hR', ai_up_n (by omega), ai_up_n (by omega)]
          unfold decR
          rw [ai_up_n (by omega), ai_up_n (by omega), ai_up_n (by omega), ai_up_n (by omega), ai_up_s]
        have d19 : R' 19 m = 1 := by
          rw [hR', ai_up_n (by omega), ai_up_n (by omega)]
          unfold decR
          rw [ai_up_n (by omega), ai_up_n (by omega), ai_up_n (by omega), ai_up_s]
        have d20 : R' 20 m = nI (ns - bs) := by
          rw [hR', ai_up_n (by omega), ai_up_n (by omega)]
          unfold decR
          rw [ai_up_n (by omega), ai_up_n (by omega), ai_up_s]
        have d36 : R' 0 36 = nI (m + 1) := by
          rw [hR', ai_up_n (by omega), ai_up_n (by omega)]
          unfold decR
          rw [ai_up_s]
        have d2 : R' 0 2 = nI p3 := by
          rw [hR', ai_up_n (by omega), ai_up_n (by omega)]
          unfold decR
          rw [ai_up_n (by omega), ai_up_n (by omega), ai_up_n (by omega), ai_up_n (by omega), ai_up_n (by omega)]
          exact x2
        have d20' : R' 0 20 = X 0 20 := by
          rw [hR', ai_up_n (by omega), ai_up_n (by omega)]
          unfold decR
          rw [ai_up_n (by omega), ai_up_n (by omega), ai_up_n (by omega), ai_up_n (by omega), ai_up_n (by omega)]
        have d5 : R' 5 (350 * hf + nn0 + 1) = nI (ns - bs + 1) := by rw [hR', ai_up_n (by omega), ai_up_s]
        have k4 : ∀ q x, 4 ≤ q → q ≤ 7 → decC C2 m c 0 (nI ns) q m = x → ai_up CX 3 7 (nI (ns + 1)) q m = x := fun q x a b h => by rw [ai_up_n (by omega), cxo q m (by omega)]; exact h
        refine ⟨R', p3, hbk, ?_, by omega, by rw [d5, show ns - bs + 1 = ns + 1 - bs by omega], fun i a b => ?_, fun i a => ?_, fun q a b i h => ro q i (by omega) h (by omega), ?_, ?_, fun h => ?_, fun q a b => ?_⟩
        · refine ⟨⟨by rw [co _ _ (by omega) (by omega) (by omega) (by omega)]; exact hT.1, hT.2.1, fun i hi => by rw [co _ _ (by omega) (by omega) (by omega) (by omega)]; exact hT.2.2 i hi⟩, ?_, by omega, by rw [co _ _ (by omega) (by omega) (by omega) (by omega)]; exact hC3, ⟨⟨by rw [ro _ _ (by omega) (by omega) (by omega)]; exact hmT.1, hmT.2.1, fun i hi => by rw [ro _ _ (by omega) (by omega) (by omega)]; exact hmT.2.2 i hi⟩, d2, by omega, by rw [ro _ _ (by omega) (by omega) (by omega)]; exact m14, ⟨mhf.1, mhf.2.fr (fun q i a b c d' => ro q i (by omega) (by omega) (by omega))⟩, by rw [ro _ _ (by omega) (by omega) (by omega)]; exact m15, ⟨by rw [ro _ _ (by omega) (by omega) (by omega)]; simpa using h30, mf_l_keep _ (fun q h1 h2 i hi => ro q i (by omega) (by omega) (by omega)) hmf.2⟩, by rw [ro _ _ (by omega) (by omega) (by omega)]; exact m19⟩, rfl, by rw [co _ _ (by omega) (by omega) (by omega) (by omega), ro _ _ (by omega) (by omega) (by omega)]; exact h8, by rw [co _ _ (by omega) (by omega) (by omega) (by omega), ro _ _ (by omega) (by omega) (by omega)]; exact h9, ?_, ?_, hsc, hnn3⟩
          · rw [ai_up_n (by omega), cxo _ _ (by omega), dco _ _ (by omega) (by omega), hC2, ai_up_n (by omega), ai_up_s]
          · rw [d20', ai_up_n (by omega)]
            rcases hX with ⟨_, rfl, rfl⟩ | ⟨_, rfl, rfl⟩
            · exact Or.inr ⟨ai_up_s, ai_up_s⟩
            · rw [ai_up_n (by omega), dco _ _ (by omega) (by omega), c2o _ _ (by omega) (by omega)]; exact hnh
          · refine sp_decl (x0 := (0, bs, 350 * hf + nn0 + 1)) hsp (fun o x kd sl sw pl hx h => ?_) rfl ?_ ?_ ?_ d21 (fun q a b i hi => co q i (by omega) (by omega) (by omega) (by omega)) (fun i => co _ _ (by omega) (by omega) (by omega) (by omega)) (fun q a b i hi => ro q i (by omega) (by omega) (by omega)) ?_ (co _ _ (by omega) (by omega) (by omega) (by omega)) ai_up_s (by rw [co _ _ (by omega) (by omega) (by omega) (by omega)]; exact s6) ?_ d36 (ro _ _ (by omega) (by omega) (by omega)) (by rw [ro _ _ (by omega) (by omega) (by omega)]; exact s7) (by rw [hR', ai_up_s]) s10 (by omega) (by omega) (by omega) (by omega) (sp_tpB.mpr ⟨ns - bs + 1, d5, by omega⟩) (fun o x hx h0 hle => ⟨hle, rfl⟩) s18
            · refine sy_k_mono ?_ hx h
              refine ⟨fun x hx => ⟨fun h0 cnt hcl hcn => ?_, fun h0 => ⟨ro _ _ (by omega) (by omega) (by omega), ro _ _ (by omega) (by omega) (by omega)⟩⟩, fun _ _ => rfl⟩
              rcases List.mem_cons.mp hx with rfl | hx
              · have hcn : R 5 (350 * hf + nn0 + 1) = nI cnt := hcn
                rw [h5, i_eq (by omega) (by omega)] at hcn
                exact ⟨ns - bs + 1, d5, by omega, by omega⟩
              · have := hsb x hx h0
                exact ⟨cnt, by rw [ro _ _ (by omega) (by omega) (by omega)]; exact hcn, Nat.le_refl _, hcl⟩
            · refine Or.inl ⟨rfl, k4 5 _ (by omega) (by omega) (by unfold decC; rw [ai_up_n (by omega), ai_up_n (by omega), ai_up_n (by omega), ai_up_s]), d19, ns - bs, ns - bs + 1, d5, by omega, by omega, by dsimp only; omega, d20, ?_⟩
              rw [k4 7 (nI ns) (by omega) (by omega) (by unfold decC; rw [ai_up_n (by omega), ai_up_s]), show bs + (ns - bs) = ns by omega]
            · rw [d18]
              exact k4 4 _ (by omega) (by omega) (by unfold decC; rw [ai_up_n (by omega), ai_up_n (by omega), ai_up_n (by omega), ai_up_n (by omega), ai_up_s])
            · rw [k4 6 (C2 3 5) (by omega) (by omega) (by unfold decC; rw [ai_up_n (by omega), ai_up_n (by omega), ai_up_s]), c2o _ _ (by omega) (by omega)]
            · rw [ai_up_n (by omega), cxo _ _ (by omega)]; unfold decC; exact ai_up_s
            · rw [ai_up_n (by omega), cxo _ _ (by omega), dco _ _ (by omega) (by omega), hC2, ai_up_s]
        · by_cases him : i = m
          · rw [him, d21]; exact s4'
          · rw [ro _ _ (by omega) (by omega) (by omega)]; exact hl1 i a (by omega)
        · rw [ro _ _ (by omega) (by omega) (by omega)]; exact hl2 i a
        · refine ⟨by funext i; exact ro _ _ (by omega) (by omega) (by omega), fun q a => by funext i; exact ro _ _ (by omega) (by omega) (by omega), fun j a => ro _ _ (by omega) (by omega) (by omega), fun q a b i hi => ro _ _ (by omega) (by omega) (by omega), fun q a b i hi => ro _ _ (by omega) (by omega) (by omega), fun i hi => ro _ _ (by omega) (by omega) (by omega)⟩
        · exact ⟨fun q a => by funext i; exact co _ _ (by omega) (by omega) (by omega) (by omega), co _ _ (by omega) (by omega) (by omega) (by omega), fun q a b i hi => co _ _ (by omega) (by omega) (by omega) (by omega), fun q a b i hi => co _ _ (by omega) (by omega) (by omega) (by omega)⟩
        · rw [ai_up_n (by omega)] at h
          rcases hX with ⟨_, _, rfl⟩ | ⟨_, _, rfl⟩
          · rw [ai_up_s] at h; exact absurd h (by decide)
          · rw [dco _ _ (by omega) (by omega), c2o _ _ (by omega) (by omega)] at h; exact h
        · funext i; exact co _ _ (by omega) (by omega) (by omega) (by omega)
      have hbb : (∃ i', mk ≤ i' ∧ i' < m ∧ C2 4 i' = c) ↔ ∃ i', mk ≤ i' ∧ i' < m ∧ R 18 i' = c := by
        constructor
        · rintro ⟨i', a, b, h⟩
          rw [c2o _ _ (by omega) (by omega), (s16 i' b).1] at h
          exact ⟨i', a, b, h⟩
        · rintro ⟨i', a, b, h⟩
          exact ⟨i', a, b, by rw [c2o _ _ (by omega) (by omega), (s16 i' b).1]; exact h⟩
      have e37 : ∀ CX : ai_S, CX 3 7 = nI ns → CX 3 7 + 1 = nI (ns + 1) := fun CX h => by rw [h, nI_1]
      refine sp_declare (m := m) (mk := mk) (by rw [c2o _ _ (by omega) (by omega)]; exact s1) hm136 hmk (fun hd => Or.inl ⟨rfl, ?_⟩) (fun hd => Or.inl ⟨rfl, ?_⟩)
      · rw [e37 _ (by rw [ai_up_n (by omega)]; unfold decC; rw [ai_up_n (by omega), ai_up_n (by omega), ai_up_n (by omega), ai_up_n (by omega), ai_up_n (by omega), c2o _ _ (by omega) (by omega)]; exact s5)]
        exact fin _ _ _ (Or.inl ⟨hbb.mp hd, rfl, rfl⟩) Iff.rfl
      · rw [e37 _ (by unfold decC; rw [ai_up_n (by omega), ai_up_n (by omega), ai_up_n (by omega), ai_up_n (by omega), ai_up_n (by omega), c2o _ _ (by omega) (by omega)]; exact s5)]
        exact fin _ _ _ (Or.inr ⟨fun h => hd (hbb.mpr h), rfl, rfl⟩) Iff.rfl
    · rw [← hsk]
      exact fun h => h59 ((px_cc (by decide) (by decide)).mpr h)
  · have hnl' : ¬ (97 ≤ px_c tx n (-1) (px_s tx n (px_s tx n p' + 1)) ∧ px_c tx n (-1) (px_s tx n (px_s tx n p' + 1)) ≤ 122) := fun h => by
      rw [← hsk] at h
      by_cases hlt2 : px_s tx n (px_s tx n p + 1) < n
      · unfold px_c at h hc
        rw [if_pos hlt2] at h hc
        rw [hc] at h
        exact hnl h
      · unfold px_c at h
        rw [if_neg hlt2] at h
        exact absurd h.1 (by decide)
    exact ref _ 0 rfl (fun h => absurd h hnl') (Or.inl hnl')
end BVA
