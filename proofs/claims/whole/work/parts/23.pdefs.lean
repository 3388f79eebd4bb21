/-! ===== the reference's reading: its stack of frames, its loop ===== -/
abbrev mf_T : Type := Nat × Nat × Nat × Nat × Nat
def mf_at (R : ai_S) (i : Nat) (x : mf_T) : Prop := R 13 i = nI x.1 ∧ R 14 i = nI x.2.1 ∧ R 15 i = nI x.2.2.1 ∧ R 16 i = nI x.2.2.2.1 ∧ R 17 i = nI x.2.2.2.2
def mf_l (R : ai_S) : List mf_T → Prop
  | [] => True
  | x :: t => mf_at R t.length x ∧ mf_l R t
/-- the stack: code, node, deep, last, extra of each frame, the top first -/
def mf (R : ai_S) (stk : List mf_T) : Prop := R 0 30 = nI stk.length ∧ mf_l R stk
theorem mf_l_keep {R R' : ai_S} : ∀ (stk : List mf_T), (∀ q, 13 ≤ q → q ≤ 17 → ∀ i, i < stk.length → R' q i = R q i) → mf_l R stk → mf_l R' stk
  | [], _, _ => trivial
  | x :: t, h, hl => by
    have hlen : t.length < (x :: t).length := by simp
    refine ⟨?_, mf_l_keep t (fun q h1 h2 i hi => h q h1 h2 i (by simp; omega)) hl.2⟩
    obtain ⟨a, b, c, d, e⟩ := hl.1
    exact ⟨by rw [h 13 (by omega) (by omega) _ hlen]; exact a, by rw [h 14 (by omega) (by omega) _ hlen]; exact b, by rw [h 15 (by omega) (by omega) _ hlen]; exact c, by rw [h 16 (by omega) (by omega) _ hlen]; exact d, by rw [h 17 (by omega) (by omega) _ hlen]; exact e⟩
/-- launch .., depth, references, the half that was, the end -/
abbrev lm_T : Type := Launch × va_G × (Nat → Nat) × (Nat → ClassId) × Nat × ai_V × Int32 × (Int32 → ai_S → Prop)
abbrev lm_u (z : lm_T) : ai_U := uM z.1 z.2.1 z.2.2.1 z.2.2.2.1
abbrev lm_V (z : lm_T) : ai_V := z.2.2.2.2.2.1
/-- the reference's read, at the head of its loop in round k -/
def lm (z : lm_T) (R : ai_S) (k : Nat) : Prop := ai_W (lm_u z) (z.2.2.2.2.1 + 8) mX6_read 100 [(0, .ref 0), (1, .int z.2.2.2.2.2.2.1), (2, .int (nI k))] [] R (lm_V z) (ai_qi (lm_V z) z.2.2.2.2.2.2.2)
/-- what a reading leaves alone, as tx tells it beyond the text; this half's nodes and procedures may change -/
def gh (tx : Nat → Int32) (hf : Nat) (R : ai_S) : Prop := tx 2400 = nI hf ∧ ∀ q i, q < 100 → ¬ (q = 0 ∧ (i = 2 ∨ i = 15 ∨ (19 ≤ i ∧ i ≤ 24) ∨ i = 30 ∨ i = 31 ∨ i = 36 ∨ i = 37)) → ¬ (2 ≤ q ∧ q ≤ 8 ∧ 350 * hf < i ∧ i < 350 * hf + 350) → ¬ (9 ≤ q ∧ q ≤ 11 ∧ 16 * hf ≤ i ∧ i < 16 * hf + 16) → ¬ (13 ≤ q ∧ q ≤ 21) → R q i = tx (1000 + (q + 100 * i))
/-- the text was found wrong -/
def bd (tx : Nat → Int32) (R : ai_S) : Prop := ¬ R 0 19 = 0 ∧ ∀ hf, hf ≤ 1 → tx 2400 = nI hf → gh tx hf R
section GHS
variable {tx : Nat → Int32} {hf q i : Nat} {R R' : ai_S}
theorem gh.fr (h : gh tx hf R) (hs : ∀ q i, ¬ (q = 0 ∧ (i = 2 ∨ i = 15 ∨ (19 ≤ i ∧ i ≤ 24) ∨ i = 30 ∨ i = 31 ∨ i = 36 ∨ i = 37)) → ¬ (2 ≤ q ∧ q ≤ 8 ∧ 350 * hf < i ∧ i < 350 * hf + 350) → ¬ (9 ≤ q ∧ q ≤ 11 ∧ 16 * hf ≤ i ∧ i < 16 * hf + 16) → ¬ (13 ≤ q ∧ q ≤ 21) → R' q i = R q i) : gh tx hf R' :=
  ⟨h.1, fun q i hq a b c d => by rw [hs q i a b c d]; exact h.2 q i hq a b c d⟩
theorem gh.u {x : Int32} (h : gh tx hf R) (hq : (q = 0 ∧ (i = 2 ∨ i = 15 ∨ (19 ≤ i ∧ i ≤ 24) ∨ i = 30 ∨ i = 31 ∨ i = 36 ∨ i = 37)) ∨ (2 ≤ q ∧ q ≤ 8 ∧ 350 * hf < i ∧ i < 350 * hf + 350) ∨ (9 ≤ q ∧ q ≤ 11 ∧ 16 * hf ≤ i ∧ i < 16 * hf + 16) ∨ (13 ≤ q ∧ q ≤ 21)) : gh tx hf (ai_up R q i x) :=
  h.fr (fun q' i' a b c d => ai_up_n (by omega))
end GHS
theorem bd_of {tx : Nat → Int32} {hf : Nat} {R R' : ai_S} (hg : hf ≤ 1 ∧ gh tx hf R) (h : gh tx hf R → gh tx hf R') (h19 : ¬ R' 0 19 = 0) : bd tx R' := ⟨h19, fun h2 hl he => by
  have e : h2 = hf := by
    have := he.symm.trans hg.2.1
    rw [i_eq (by omega) (by omega)] at this
    exact this
  subst e
  exact h hg.2⟩
theorem bd_1 {tx : Nat → Int32} : bd tx (fun q i => if q = 0 ∧ i = 19 then 1 else tx (1000 + (q + 100 * i))) := ⟨by simp, fun hf _ he => ⟨he, fun q i _ h _ _ _ => if_neg (by omega)⟩⟩
/-- the reference's reading state -/
def mq (R : ai_S) (tx : Nat → Int32) (n hf p nn : Nat) (stk : List mf_T) : Prop := mt_T R tx n ∧ R 0 2 = nI p ∧ p ≤ n ∧ R 0 14 = nI hf ∧ (hf ≤ 1 ∧ gh tx hf R) ∧ R 0 15 = nI (350 * hf + nn) ∧ mf R stk ∧ R 0 19 = 0
/-- what an expression's reading leaves: ids up to b and from t on, all but some fields -/
def mE (R R' : ai_S) (b t : Nat) : Prop := R' 1 = R 1 ∧ (∀ q, 9 ≤ q → q < 13 ∨ 17 < q → R' q = R q) ∧ (∀ j, j ≠ 2 → j ≠ 15 → j ≠ 19 → j ≠ 20 → j ≠ 24 → j ≠ 30 → j ≠ 31 → R' 0 j = R 0 j) ∧ ∀ q, 2 ≤ q → q ≤ 8 → ∀ i, i ≤ b ∨ t ≤ i → R' q i = R q i
theorem gh.me {tx : Nat → Int32} {hf b t : Nat} {R R' : ai_S} (h : gh tx hf R) (hm : mE R R' b t) (hb : 350 * hf ≤ b) (ht : t ≤ 350 * hf + 350) : gh tx hf R' := by
  refine h.fr (fun q i a1 a2 a3 a4 => ?_)
  by_cases h0 : q = 0
  · subst h0
    exact hm.2.2.1 i (by omega) (by omega) (by omega) (by omega) (by omega) (by omega) (by omega)
  · by_cases h1 : q = 1
    · subst h1; rw [hm.1]
    · by_cases h8 : q ≤ 8
      · exact hm.2.2.2 q (by omega) h8 i (by omega)
      · rw [hm.2.1 q (by omega) (by omega)]
def cE (C C' : ai_S) (e : Nat) : Prop := (∀ q, q ≠ 2 → q < 26 ∨ 29 < q → C' q = C q) ∧ C' 2 1 = C 2 1 ∧ (∀ j, j ≠ 3 → j ≠ 9 → C' 26 j = C 26 j) ∧ ∀ q, 27 ≤ q → q ≤ 29 → ∀ i, i < e → C' q i = C q i
theorem mE.rf {R : ai_S} {b t : Nat} : mE R R b t := ⟨rfl, fun _ _ _ => rfl, fun _ _ _ _ _ _ _ _ => rfl, fun _ _ _ _ _ => rfl⟩
theorem cE.rf {C : ai_S} {e : Nat} : cE C C e := ⟨fun _ _ _ => rfl, rfl, fun _ _ _ => rfl, fun _ _ _ _ _ => rfl⟩
theorem mE.tr {R R1 R2 : ai_S} {b b1 t : Nat} (h1 : mE R R1 b t) (h2 : mE R1 R2 b1 t) (hb : b ≤ b1) : mE R R2 b t :=
  ⟨h2.1.trans h1.1, fun q a c => (h2.2.1 q a c).trans (h1.2.1 q a c), fun j a1 a2 a3 a4 a5 a6 a7 => (h2.2.2.1 j a1 a2 a3 a4 a5 a6 a7).trans (h1.2.2.1 j a1 a2 a3 a4 a5 a6 a7), fun q a c i hi => (h2.2.2.2 q a c i (by omega)).trans (h1.2.2.2 q a c i hi)⟩
theorem cE.tr {C C1 C2 : ai_S} {e e1 : Nat} (h1 : cE C C1 e) (h2 : cE C1 C2 e1) (he : e ≤ e1) : cE C C2 e :=
  ⟨fun q a c => (h2.1 q a c).trans (h1.1 q a c), h2.2.1.trans h1.2.1, fun j a c => (h2.2.2.1 j a c).trans (h1.2.2.1 j a c), fun q a c i hi => (h2.2.2.2 q a c i (by omega)).trans (h1.2.2.2 q a c i hi)⟩
/-- a symbol -/
def sy_1 (C R : ai_S) (pb : Nat) (sc : sc_T) (SC : Nat → sc_T) (i : Nat) : Prop :=
  C 4 i = R 18 i ∧ ∃ (o : Nat) (x : Nat × Nat × Nat), sc[o]? = some x ∧ R 21 i = nI (sc.length - o) ∧ C 6 i = nI (sc_cl (sc.drop o)) ∧ sy_k R pb SC x (sc.drop o) (C 5 i) (C 7 i) (R 19 i) (R 20 i)
/-- the names that hold: m of them, first free slot ns, pr procedures, vr variables -/
def sp (C R : ai_S) (hf : Nat) (sc : sc_T) (SC : Nat → sc_T) (m ns pr vr : Nat) : Prop :=
  C 3 4 = nI m ∧ R 0 36 = nI m ∧ C 3 5 = nI (sc_cl sc) ∧ R 0 37 = nI sc.length ∧ C 3 7 = nI ns ∧ C 26 6 = nI pr ∧ R 0 21 = nI pr ∧ C 26 7 = nI vr ∧ R 0 22 = nI vr ∧ pr ≤ 16 ∧ vr ≤ 24 ∧ m ≤ vr + 7 * pr ∧ 7 ≤ ns ∧ ns ≤ 7 + vr ∧ sc_tp R sc ns ∧ sc.length ≤ 20 ∧ sc_cl sc ≤ 10 ∧
  (∀ i, i < m → sy_1 C R (16 * hf) sc SC i) ∧ (∀ (o : Nat) (x : Nat × Nat × Nat), sc[o]? = some x → x.1 ≠ 0 → C 8 (sc_cl (sc.drop o)) = nI (x.1 - 1) ∧ x.1 ≤ pr ∧ x.2 = (0, 0) ∧ SC (x.1 - 1) = sc.drop (o + 1)) ∧ ∀ q, pr ≤ q → SC q = []
/-- both, in the midst of reading -/
def pv (C R : ai_S) (tx : Nat → Int32) (n hf : Nat) (sc : sc_T) (SC : Nat → sc_T) (m ns pr vr p p' e nn : Nat) (stk : List mf_T) : Prop :=
  ct_T C tx n ∧ C 2 2 = nI p ∧ p ≤ n ∧ C 26 3 = nI e ∧ mq R tx n hf p' nn stk ∧ px_s tx n p = px_s tx n p' ∧ C 26 8 = R 0 23 ∧ C 26 9 = R 0 24 ∧ (C 2 5 = 1 ∧ R 0 20 = 0 ∨ C 2 5 = 0 ∧ R 0 20 = 1) ∧ sp C R hf sc SC m ns pr vr ∧ (∀ x ∈ sc, x.1 = 0 → x.2.2 ≤ 350 * hf + nn) ∧ nn ≤ 330
/-- the spare program's rows -/
def cd (C : ai_S) : ai_S := fun j => C (27 + j)
/-- the range of an expression's nodes -/
def nr (hf nn nn1 : Nat) : Nat → Prop := fun i => 350 * hf + nn < i ∧ i ≤ 350 * hf + nn1
/-- it is a name alone, or not -/
def tn (R' : ai_S) (tx : Nat → Int32) (n p p1 x : Nat) : Prop :=
  (R' 2 x = 8 → 97 ≤ px_c tx n 0 (px_s tx n p) ∧ px_c tx n 0 (px_s tx n p) ≤ 122 ∧ px_s tx n p1 = px_s tx n (px_s tx n p + 1)) ∧
  (97 ≤ px_c tx n 0 (px_s tx n p) → px_c tx n 0 (px_s tx n p) ≤ 122 → (px_c tx n 0 (px_s tx n (px_s tx n p + 1)) = 41 ∨ px_c tx n 0 (px_s tx n (px_s tx n p + 1)) = 44) → R' 2 x = 8)
/-- an expression is read, on both sides -/
def pe (C R C' R' : ai_S) (tx : Nat → Int32) (n hf : Nat) (sc : sc_T) (SC : Nat → sc_T) (m ns pr vr p e nn : Nat) (stk : List mf_T) (fuel s j : Nat) : Prop :=
  ∃ x p1 p1' e1 nn1 : Nat, pv C' R' tx n hf sc SC m ns pr vr p1 p1' e1 nn1 stk ∧ R' 0 31 = nI x ∧ nr hf nn nn1 x ∧ tn R' tx n p p1 x ∧ R' 4 x = nI 0 ∧ p < p1 ∧ 2 * e1 + 1 + 3 * p ≤ 3 * p1 + 2 * e ∧ nn1 + p ≤ nn + p1 ∧ nn ≤ nn1 ∧ e < e1 ∧ j + s + 12 * p ≤ 12 * p1 ∧ mE R R' (350 * hf + nn) (350 * hf + 350) ∧ cE C C' e ∧
    (C' 2 5 = 1 → C 2 5 = 1 ∧ cx_E (cd C') R' (16 * hf) SC sc fuel (nr hf nn nn1) x e e1)
/-- the class stands at a digit where none may stand -/
def pg (C' : ai_S) (tx : Nat → Int32) (n q el : Nat) : Prop := ct_T C' tx n ∧ ∃ p1 e1 : Nat, p1 < n ∧ C' 2 2 = nI p1 ∧ 48 ≤ tx p1 ∧ tx p1 ≤ 57 ∧ C' 26 3 = nI e1 ∧ e1 + q ≤ 488 ∧ el ≤ e1
/-- what an expression's reader promises -/
def pE (z : lm_T) (C R : ai_S) (tx : Nat → Int32) (n hf : Nat) (sc : sc_T) (SC : Nat → sc_T) (m ns pr vr p e nn : Nat) (stk : List mf_T) (fuel s k : Nat) : Bool → ai_S → Prop := fun b C' =>
  ∃ (R' : ai_S) (j : Nat), (lm z R' (k + j) → lm z R k) ∧ ((b = true ∧ pe C R C' R' tx n hf sc SC m ns pr vr p e nn stk fuel s j) ∨ (bd tx R' ∧ (b = false ∨ pg C' tx n (s + 1) e)))
/-- the simulation that a reader of expressions promises: M with the reference's frame cc -/
def sF (l : Launch) (D : va_G) (ρ : Nat → Nat) (τ : Nat → ClassId) (z : lm_T) (V : ai_V) (tx : Nat → Int32) (n hf : Nat) (sc : sc_T) (SC : Nat → sc_T) (m ns pr vr d dp F s o : Nat) (M : ai_M) (cc : Nat) : Prop :=
  ∀ (C R : ai_S) (p p' e nn : Nat) (stk : List mf_T) (k : Nat), pv C R tx n hf sc SC m ns pr vr p p' e nn ((cc, 0, dp, 0, 0) :: stk) → stk.length + 4 * (11 - dp) ≤ 56 + o → 2 * e ≤ 3 * p + 2 → nn ≤ p → k + 12 * (n - p) + 50 ≤ 100000 + o →
    ai_met (uC l D ρ τ) d M [.ref 2, .int (nI dp)] C V (ai_qz V (pE z C R tx n hf sc SC m ns pr vr p e nn stk F s k))
