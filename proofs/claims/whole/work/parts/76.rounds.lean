/-! ===== one round of the reference, by its task ===== -/
section PFD
variable {l : Launch} {D : va_G} {ρ : Nat → Nat} {τ : Nat → ClassId} {d : Nat} {S : ai_S} {V : ai_V} {G : ai_S → Prop} {p2 p3 : Int32}
theorem pf_0 (h : ai_met (uM l D ρ τ) d mX6_statement [.ref 0, .int p2, .int p3] S V (ai_qv V G)) : ai_met (uM l D ρ τ) (d + 1) mX6_perform [.ref 0, .int (nI 0), .int p2, .int p3] S V (ai_qv V G) := vX6_perform ⟨fun _ => h, fun hh => absurd hh (by decide), fun hh => absurd hh (by decide), fun hh => absurd hh (by decide), fun hh => absurd hh (by decide), fun hh => absurd hh (by decide), fun hh => absurd hh (by decide), fun hh => absurd hh (by decide), fun hh => absurd hh (by decide), fun hh => absurd hh (by decide), fun hh => absurd hh (by decide), fun hh => absurd hh (by decide), fun hh => absurd rfl hh.1⟩
theorem pf_1 (h : vp_in (p2 + (1024 * p3)) 1300 ∧ G (ai_up S 27 ((p2 + (1024 * p3))).toNatClampNeg (S 0 50))) : ai_met (uM l D ρ τ) (d + 1) mX6_perform [.ref 0, .int (nI 1), .int p2, .int p3] S V (ai_qv V G) := vX6_perform ⟨fun hh => absurd hh (by decide), fun _ => h, fun hh => absurd hh (by decide), fun hh => absurd hh (by decide), fun hh => absurd hh (by decide), fun hh => absurd hh (by decide), fun hh => absurd hh (by decide), fun hh => absurd hh (by decide), fun hh => absurd hh (by decide), fun hh => absurd hh (by decide), fun hh => absurd hh (by decide), fun hh => absurd hh (by decide), fun hh => absurd rfl hh.2.1⟩
theorem pf_2 (h : (¬ (S 0 57) = 32 → (vp_in (S 0 57) 32 ∧ G (ai_up (ai_up S 30 ((S 0 57)).toNatClampNeg (S 0 50)) 0 57 ((S 0 57) + 1)))) ∧ ((S 0 57) = 32 → G (ai_up S 0 51 6))) : ai_met (uM l D ρ τ) (d + 1) mX6_perform [.ref 0, .int (nI 2), .int p2, .int p3] S V (ai_qv V G) := vX6_perform ⟨fun hh => absurd hh (by decide), fun hh => absurd hh (by decide), fun _ => h, fun hh => absurd hh (by decide), fun hh => absurd hh (by decide), fun hh => absurd hh (by decide), fun hh => absurd hh (by decide), fun hh => absurd hh (by decide), fun hh => absurd hh (by decide), fun hh => absurd hh (by decide), fun hh => absurd hh (by decide), fun hh => absurd hh (by decide), fun hh => absurd rfl hh.2.2.1⟩
theorem pf_3 (h : vp_in p2 700 ∧ (vp_in (S 3 (p2).toNatClampNeg) 700 ∧ (((S 0 50) = 0 → (vp_in (S 4 ((S 3 (p2).toNatClampNeg)).toNatClampNeg) 700 ∧ ai_met (uM l D ρ τ) d mX6_later [.ref 0, .int 0, .int (S 4 ((S 4 ((S 3 (p2).toNatClampNeg)).toNatClampNeg)).toNatClampNeg), .int p3] S V (ai_qv V (fun S15 => G S15)))) ∧ (¬ (S 0 50) = 0 → ai_met (uM l D ρ τ) d mX6_later [.ref 0, .int 0, .int (S 4 ((S 3 (p2).toNatClampNeg)).toNatClampNeg), .int p3] S V (ai_qv V (fun S17 => G S17)))))) : ai_met (uM l D ρ τ) (d + 1) mX6_perform [.ref 0, .int (nI 3), .int p2, .int p3] S V (ai_qv V G) := vX6_perform ⟨fun hh => absurd hh (by decide), fun hh => absurd hh (by decide), fun hh => absurd hh (by decide), fun _ => h, fun hh => absurd hh (by decide), fun hh => absurd hh (by decide), fun hh => absurd hh (by decide), fun hh => absurd hh (by decide), fun hh => absurd hh (by decide), fun hh => absurd hh (by decide), fun hh => absurd hh (by decide), fun hh => absurd hh (by decide), fun hh => absurd rfl hh.2.2.2.1⟩
theorem pf_4 (h : ((S 0 50) = 0 → G S) ∧ (¬ (S 0 50) = 0 → ai_met (uM l D ρ τ) d mX6_later [.ref 0, .int 5, .int p2, .int p3] S V (ai_qv V (fun S21 => (vp_in p2 700 ∧ (vp_in (S21 3 (p2).toNatClampNeg) 700 ∧ ai_met (uM l D ρ τ) d mX6_later [.ref 0, .int 0, .int (S21 4 ((S21 3 (p2).toNatClampNeg)).toNatClampNeg), .int p3] S21 V (ai_qv V (fun S25 => G S25)))))))) : ai_met (uM l D ρ τ) (d + 1) mX6_perform [.ref 0, .int (nI 4), .int p2, .int p3] S V (ai_qv V G) := vX6_perform ⟨fun hh => absurd hh (by decide), fun hh => absurd hh (by decide), fun hh => absurd hh (by decide), fun hh => absurd hh (by decide), fun _ => h, fun hh => absurd hh (by decide), fun hh => absurd hh (by decide), fun hh => absurd hh (by decide), fun hh => absurd hh (by decide), fun hh => absurd hh (by decide), fun hh => absurd hh (by decide), fun hh => absurd hh (by decide), fun hh => absurd rfl hh.2.2.2.2.1⟩
theorem pf_5 (h : ai_met (uM l D ρ τ) d mX6_later [.ref 0, .int 4, .int p2, .int p3] S V (ai_qv V (fun S28 => (vp_in p2 700 ∧ ai_met (uM l D ρ τ) d mX6_later [.ref 0, .int 8, .int (S28 3 (p2).toNatClampNeg), .int p3] S28 V (ai_qv V (fun S31 => G S31)))))) : ai_met (uM l D ρ τ) (d + 1) mX6_perform [.ref 0, .int (nI 5), .int p2, .int p3] S V (ai_qv V G) := vX6_perform ⟨fun hh => absurd hh (by decide), fun hh => absurd hh (by decide), fun hh => absurd hh (by decide), fun hh => absurd hh (by decide), fun hh => absurd hh (by decide), fun _ => h, fun hh => absurd hh (by decide), fun hh => absurd hh (by decide), fun hh => absurd hh (by decide), fun hh => absurd hh (by decide), fun hh => absurd hh (by decide), fun hh => absurd hh (by decide), fun hh => absurd rfl hh.2.2.2.2.2.1⟩
theorem pf_6 (h : vp_in p3 400 ∧ G (ai_up (ai_up S 0 46 p3) 0 47 (S 25 (p3).toNatClampNeg))) : ai_met (uM l D ρ τ) (d + 1) mX6_perform [.ref 0, .int (nI 6), .int p2, .int p3] S V (ai_qv V G) := vX6_perform ⟨fun hh => absurd hh (by decide), fun hh => absurd hh (by decide), fun hh => absurd hh (by decide), fun hh => absurd hh (by decide), fun hh => absurd hh (by decide), fun hh => absurd hh (by decide), fun _ => h, fun hh => absurd hh (by decide), fun hh => absurd hh (by decide), fun hh => absurd hh (by decide), fun hh => absurd hh (by decide), fun hh => absurd hh (by decide), fun hh => absurd rfl hh.2.2.2.2.2.2.1⟩
theorem pf_7 (h : vp_in p2 700 ∧ (((S 4 (p2).toNatClampNeg) ≤ 0 → ai_met (uM l D ρ τ) d mX6_later [.ref 0, .int 0, .int p2, .int p3] S V (ai_qv V (fun S38 => G S38))) ∧ (¬ (S 4 (p2).toNatClampNeg) ≤ 0 → ai_met (uM l D ρ τ) d mX6_later [.ref 0, .int 7, .int (S 4 (p2).toNatClampNeg), .int p3] S V (ai_qv V (fun S40 => ai_met (uM l D ρ τ) d mX6_later [.ref 0, .int 0, .int p2, .int p3] S40 V (ai_qv V (fun S42 => G S42))))))) : ai_met (uM l D ρ τ) (d + 1) mX6_perform [.ref 0, .int (nI 7), .int p2, .int p3] S V (ai_qv V G) := vX6_perform ⟨fun hh => absurd hh (by decide), fun hh => absurd hh (by decide), fun hh => absurd hh (by decide), fun hh => absurd hh (by decide), fun hh => absurd hh (by decide), fun hh => absurd hh (by decide), fun hh => absurd hh (by decide), fun _ => h, fun hh => absurd hh (by decide), fun hh => absurd hh (by decide), fun hh => absurd hh (by decide), fun hh => absurd hh (by decide), fun hh => absurd rfl hh.2.2.2.2.2.2.2.1⟩
theorem pf_8 (h : ai_met (uM l D ρ τ) d mX6_evaluate [.ref 0, .int p2, .int p3] S V (ai_qv V G)) : ai_met (uM l D ρ τ) (d + 1) mX6_perform [.ref 0, .int (nI 8), .int p2, .int p3] S V (ai_qv V G) := vX6_perform ⟨fun hh => absurd hh (by decide), fun hh => absurd hh (by decide), fun hh => absurd hh (by decide), fun hh => absurd hh (by decide), fun hh => absurd hh (by decide), fun hh => absurd hh (by decide), fun hh => absurd hh (by decide), fun hh => absurd hh (by decide), fun _ => h, fun hh => absurd hh (by decide), fun hh => absurd hh (by decide), fun hh => absurd hh (by decide), fun hh => absurd rfl hh.2.2.2.2.2.2.2.2.1⟩
theorem pf_9 (h : ai_met (uM l D ρ τ) d mX6_operandDone [.ref 0, .int p2, .int p3, .int 0] S V (ai_qv V G)) : ai_met (uM l D ρ τ) (d + 1) mX6_perform [.ref 0, .int (nI 9), .int p2, .int p3] S V (ai_qv V G) := vX6_perform ⟨fun hh => absurd hh (by decide), fun hh => absurd hh (by decide), fun hh => absurd hh (by decide), fun hh => absurd hh (by decide), fun hh => absurd hh (by decide), fun hh => absurd hh (by decide), fun hh => absurd hh (by decide), fun hh => absurd hh (by decide), fun hh => absurd hh (by decide), fun _ => h, fun hh => absurd hh (by decide), fun hh => absurd hh (by decide), fun hh => absurd rfl hh.2.2.2.2.2.2.2.2.2.1⟩
theorem pf_10 (h : ai_met (uM l D ρ τ) d mX6_operandDone [.ref 0, .int p2, .int p3, .int 1] S V (ai_qv V G)) : ai_met (uM l D ρ τ) (d + 1) mX6_perform [.ref 0, .int (nI 10), .int p2, .int p3] S V (ai_qv V G) := vX6_perform ⟨fun hh => absurd hh (by decide), fun hh => absurd hh (by decide), fun hh => absurd hh (by decide), fun hh => absurd hh (by decide), fun hh => absurd hh (by decide), fun hh => absurd hh (by decide), fun hh => absurd hh (by decide), fun hh => absurd hh (by decide), fun hh => absurd hh (by decide), fun hh => absurd hh (by decide), fun _ => h, fun hh => absurd hh (by decide), fun hh => absurd rfl hh.2.2.2.2.2.2.2.2.2.2.1⟩
theorem pf_12 (h : vp_in p3 400 ∧ (vp_in p2 700 ∧ (vp_in (((S 25 (p3).toNatClampNeg) + 1) + (S 8 (p2).toNatClampNeg)) 1300 ∧ ai_met (uM l D ρ τ) d mX6_arguments [.ref 0, .int (S 4 (p2).toNatClampNeg), .int p3] (ai_up S 27 ((((S 25 (p3).toNatClampNeg) + 1) + (S 8 (p2).toNatClampNeg))).toNatClampNeg (S 0 50)) V (ai_qv V (fun S57 => G S57))))) : ai_met (uM l D ρ τ) (d + 1) mX6_perform [.ref 0, .int (nI 12), .int p2, .int p3] S V (ai_qv V G) := vX6_perform ⟨fun hh => absurd hh (by decide), fun hh => absurd hh (by decide), fun hh => absurd hh (by decide), fun hh => absurd hh (by decide), fun hh => absurd hh (by decide), fun hh => absurd hh (by decide), fun hh => absurd hh (by decide), fun hh => absurd hh (by decide), fun hh => absurd hh (by decide), fun hh => absurd hh (by decide), fun hh => absurd hh (by decide), fun _ => h, fun hh => absurd rfl hh.2.2.2.2.2.2.2.2.2.2.2⟩
theorem pf_13 (h : vp_in p3 400 ∧ (vp_in (S 25 (p3).toNatClampNeg) 1300 ∧ G (ai_up (ai_up (ai_up (ai_up S 0 50 (S 27 ((S 25 (p3).toNatClampNeg)).toNatClampNeg)) 0 54 ((S 0 54) - 1)) 0 46 p3) 0 47 (S 25 (p3).toNatClampNeg)))) : ai_met (uM l D ρ τ) (d + 1) mX6_perform [.ref 0, .int (nI 13), .int p2, .int p3] S V (ai_qv V G) := vX6_perform ⟨fun hh => absurd hh (by decide), fun hh => absurd hh (by decide), fun hh => absurd hh (by decide), fun hh => absurd hh (by decide), fun hh => absurd hh (by decide), fun hh => absurd hh (by decide), fun hh => absurd hh (by decide), fun hh => absurd hh (by decide), fun hh => absurd hh (by decide), fun hh => absurd hh (by decide), fun hh => absurd hh (by decide), fun hh => absurd hh (by decide), fun _ => h⟩
end PFD
/-! ===== what holds at each turn, step by step ===== -/
/-- the program is the one that lies there -/
def xk (y : ys_T) (x : xs_T) : Prop := xV x 9 0 = .ref 20 ∧ (∀ q, yK y q = xC x (21 + q)) ∧ (∀ q, 2 ≤ q → q ≤ 11 → yR y q = xR x q) ∧ xC x 20 3 = nI (ye y) ∧ xC x 20 6 = nI (yn y)
section IVS
variable {y : ys_T} {x : xs_T} {C0 R0 C R C' R' : ai_S} {G G' : gg_T} {pd pd' : Nat → Nat} {fu cs cs' nf nf' na t t' en en' wt wt' : Nat}
theorem iv.gen (h : iv y C0 R0 C R G pd fu cs nf na t en wt)
    (hc : ∀ q i, ¬ (q = 9 ∧ (i = 2 ∨ i = 4 ∨ i = 5 ∨ i = 6 ∨ i = 10 ∨ i = 12 ∨ i = 15)) → ¬ (11 ≤ q ∧ q ≤ 18) → C' q i = C q i)
    (hr : ∀ q i, ¬ (q = 0 ∧ (i = 39 ∨ i = 46 ∨ i = 47 ∨ i = 49 ∨ i = 50 ∨ i = 53 ∨ (59 ≤ i ∧ i ≤ 61))) → ¬ (22 ≤ q ∧ q ≤ 29) → R' q i = R q i)
    (h2 : C' 9 2 = nI cs' ∧ R' 0 53 = nI cs' ∧ cs' ≤ fu) (h12 : C' 9 12 = nI wt' ∧ R' 0 49 = nI wt' ∧ wt' ≤ 100 ∧ ∀ i, i < wt' → C' 18 i = R' 29 i) (h10 : C' 9 10 = nI en') (h39 : R' 0 39 = nI t')
    (hF : R' 0 46 = nI nf' ∧ FR y C' R' G' pd' nf' ∧ R' 0 47 = nI (gb G' (nf' - 1) + gn G' (nf' - 1)) ∧ gi G' (nf' - 1) = na) : iv y C0 R0 C' R' G' pd' fu cs' nf' na t' en' wt' := by
  obtain ⟨⟨a1, a2, a3⟩, ⟨b1, b2, b3, b4, b5⟩, _, ⟨d1, d2, d3, d4, d5⟩, ⟨pc, e1, e2, e3, e4⟩, _, _, _, _⟩ := h
  refine ⟨⟨fun q hq => ?_, fun q h1 h2 => ?_, fun j hj => ?_⟩, ⟨?_, ?_, b3, ?_, ?_⟩, h2, ⟨?_, ?_, d3, ?_, ?_⟩, ⟨pc, ?_, ?_, e3, fun i hi => ?_⟩, h12, h10, h39, hF⟩
  · rw [← a1 q hq]; funext i; exact hc q i (by omega) (by omega)
  · rw [← a2 q h1 h2]; funext i; exact hr q i (by omega) (by omega)
  · rw [← a3 j hj]; exact hr 0 j (by omega) (by omega)
  · rw [hc 9 1 (by omega) (by omega)]; exact b1
  · rw [hr 0 52 (by omega) (by omega)]; exact b2
  · rw [hc 9 3 (by omega) (by omega)]; exact b4
  · rw [hr 0 51 (by omega) (by omega)]; exact b5
  · rw [hc 10 5 (by omega) (by omega)]; exact d1
  · rw [hr 0 54 (by omega) (by omega)]; exact d2
  · rw [hc 10 6 (by omega) (by omega), hr 0 55 (by omega) (by omega)]; exact d4
  · rw [hc 10 7 (by omega) (by omega), hr 0 56 (by omega) (by omega)]; exact d5
  · rw [hc 9 14 (by omega) (by omega)]; exact e1
  · rw [hr 0 57 (by omega) (by omega)]; exact e2
  · rw [hc 19 i (by omega) (by omega), hr 30 i (by omega) (by omega)]; exact e4 i hi
/-- the frames stay -/
theorem iv.up (h : iv y C0 R0 C R G pd fu cs nf na t en wt)
    (hc : ∀ q i, ¬ (q = 9 ∧ (i = 2 ∨ i = 4 ∨ i = 5 ∨ i = 6 ∨ i = 10 ∨ i = 12 ∨ i = 15)) → ¬ (15 ≤ q ∧ q ≤ 18) → C' q i = C q i)
    (hr : ∀ q i, ¬ (q = 0 ∧ (i = 39 ∨ i = 49 ∨ i = 50 ∨ i = 53 ∨ (59 ≤ i ∧ i ≤ 61))) → ¬ q = 22 → ¬ q = 29 → R' q i = R q i)
    (h2 : C' 9 2 = nI cs' ∧ R' 0 53 = nI cs' ∧ cs' ≤ fu) (h12 : C' 9 12 = nI wt' ∧ R' 0 49 = nI wt' ∧ wt' ≤ 100 ∧ ∀ i, i < wt' → C' 18 i = R' 29 i) (h10 : C' 9 10 = nI en') (h39 : R' 0 39 = nI t') : iv y C0 R0 C' R' G pd fu cs' nf na t' en' wt' := by
  obtain ⟨f1, f2, f3, f4⟩ := h.2.2.2.2.2.2.2.2
  refine h.gen (fun q i a b => hc q i a (by omega)) (fun q i a b => hr q i (by omega) (by omega) (by omega)) h2 h12 h10 h39 ⟨?_, f2.keep ?_ ?_ ?_ (fun q h1 h2 => ?_), ?_, f4⟩
  · rw [hr 0 46 (by omega) (by omega) (by omega)]; exact f1
  · funext i; exact hc 11 i (by omega) (by omega)
  · funext i; exact hc 12 i (by omega) (by omega)
  · funext i; exact hc 13 i (by omega) (by omega)
  · funext i; exact hr q i (by omega) (by omega) (by omega)
  · rw [hr 0 47 (by omega) (by omega) (by omega)]; exact f3
theorem iv.fin (h : iv y (xC x) (xR x) C R G pd fu cs nf na t en wt)
    (hc : ∀ q i, ¬ (q = 9 ∧ (i = 2 ∨ i = 3 ∨ i = 4 ∨ i = 5 ∨ i = 6 ∨ i = 10 ∨ i = 12 ∨ i = 15)) → ¬ (11 ≤ q ∧ q ≤ 18) → C' q i = C q i)
    (hr : ∀ q i, ¬ (q = 0 ∧ (i = 39 ∨ i = 46 ∨ i = 47 ∨ i = 49 ∨ i = 50 ∨ i = 51 ∨ i = 53 ∨ (59 ≤ i ∧ i ≤ 61))) → ¬ (22 ≤ q ∧ q ≤ 29) → R' q i = R q i)
    (h2 : C' 9 2 = R' 0 53) : rnF (xC x) (xR x) C' R' := by
  obtain ⟨⟨a1, a2, a3⟩, ⟨b1, b2, b3, b4, b5⟩, _, ⟨d1, d2, d3, d4, d5⟩, ⟨pc, e1, e2, e3, e4⟩, _, _, _, _⟩ := h
  refine ⟨⟨fun q hq => ?_, fun q h1 h2 => ?_, fun j hj => ?_⟩, h2, ?_, ?_, pc, ?_, ?_, e3, fun i hi => ?_⟩
  · rw [← a1 q hq]; funext i; exact hc q i (by omega) (by omega)
  · rw [← a2 q h1 h2]; funext i; exact hr q i (by omega) (by omega)
  · rw [← a3 j hj]; exact hr 0 j (by omega) (by omega)
  · rw [hc 10 6 (by omega) (by omega), hr 0 55 (by omega) (by omega)]; exact d4
  · rw [hc 10 7 (by omega) (by omega), hr 0 56 (by omega) (by omega)]; exact d5
  · rw [hc 9 14 (by omega) (by omega)]; exact e1
  · rw [hr 0 57 (by omega) (by omega)]; exact e2
  · rw [hc 19 i (by omega) (by omega), hr 30 i (by omega) (by omega)]; exact e4 i hi
/-- an ending -/
theorem rs_stop {v : Int32} {j k k1 : Nat} (hx : xk y x) (h : iv y (xC x) (xR x) C R G pd fu cs nf na t en wt) (hv : ¬ v = -1 ∧ ¬ v = 0) (h3 : C' 9 3 = v) (h51 : R' 0 51 = v)
    (hc : ∀ q i, ¬ (q = 9 ∧ (i = 2 ∨ i = 3 ∨ i = 4 ∨ i = 5 ∨ i = 6 ∨ i = 10 ∨ i = 12 ∨ i = 15)) → ¬ (11 ≤ q ∧ q ≤ 18) → C' q i = C q i)
    (hr : ∀ q i, ¬ (q = 0 ∧ (i = 39 ∨ i = 46 ∨ i = 47 ∨ i = 49 ∨ i = 50 ∨ i = 51 ∨ i = 53 ∨ (59 ≤ i ∧ i ≤ 61))) → ¬ (22 ≤ q ∧ q ≤ 29) → R' q i = R q i)
    (h2 : C' 9 2 = R' 0 53) (hl : lr (xz x) R' k1 → lr (xz x) R k) : rs x C' j R k :=
  rs_end hx.1 h3 hv.1 (h.fin hc hr h2) (fun hG => hl (lr_end h51 (Or.inl hv.2) hG))
/-- what lies there -/
theorem iv.ly (h : iv y (xC x) (xR x) C R G pd fu cs nf na t en wt) (hx : xk y x) : C 20 3 = nI (ye y) ∧ C 20 6 = nI (yn y) ∧ (∀ q, C (21 + q) = yK y q) ∧ ∀ q, 2 ≤ q → q ≤ 11 → R q = yR y q := by
  obtain ⟨⟨a1, a2, a3⟩, _⟩ := h
  obtain ⟨_, k1, k2, k3, k4⟩ := hx
  refine ⟨by rw [a1 20 (by omega)]; exact k3, by rw [a1 20 (by omega)]; exact k4, fun q => by rw [a1 (21 + q) (by omega), k1], fun q h1 h2 => by rw [a2 q (by omega) (by omega), k2 q h1 h2]⟩
end IVS
