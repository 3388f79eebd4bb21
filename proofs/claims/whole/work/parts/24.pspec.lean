/-! ===== small contracts for the reading ===== -/
section PSP
variable {l : Launch} {D : va_G} {ρ : Nat → Nat} {τ : Nat → ClassId} {d : Nat} {V : ai_V} {tx : Nat → Int32} {n : Nat}
/-- one more instruction -/
def cadd (C : ai_S) (e : Nat) (o a b : Int32) : ai_S := ai_up (ai_up (ai_up (ai_up C 27 e o) 28 e a) 29 e b) 26 3 (nI (e + 1))
theorem sp_cadd {G : Int32 → ai_S → Prop} {C : ai_S} {e : Nat} {o a b : Int32} (he : C 26 3 = nI e) (hl : e < 488) (hG : G (nI e) (cadd C e o a b)) : ai_met (uC l D ρ τ) d mX2_add [.ref 26, .int o, .int a, .int b] C V (ai_qi V G) := by
  refine vX2_add_r ⟨?_, ?_, ?_⟩
  · rw [he, show (488 : Int32) = nI 488 from rfl, i_le (by omega) (by omega)]; omega
  · rw [he]; exact i_in hl (by omega)
  · rw [he, nI_clamp (by omega), nI_1]; exact hG
theorem sp_setF {G : ai_S → Prop} {C : ai_S} {e a : Nat} {x : Int32} (he : C 26 3 = nI e) (hl : a < e) (hl2 : e ≤ 488) (hG : G (ai_up C 28 a x)) : ai_met (uC l D ρ τ) (d + 1) mX2_setFirst [.ref 26, .int (nI a), .int x] C V (ai_qv V G) := by
  refine vX2_setFirst_r ⟨nI_pos (by omega), ?_, ?_, i_in (by omega) (by omega), ?_⟩
  · rw [he, i_le (by omega) (by omega)]; omega
  · rw [show (488 : Int32) = nI 488 from rfl, i_le (by omega) (by omega)]; omega
  · rw [nI_clamp (by omega)]; exact hG
theorem sp_takeName {G : Int32 → ai_S → Prop} (hV0 : hV ρ V tx n) {p : Nat} {C : ai_S} (hT : ct_T C tx n) (hp : C 2 2 = nI p) (hpn : p ≤ n)
    (ht : ∀ c, px_c tx n 0 (px_s tx n p) = c → 97 ≤ c → c ≤ 122 → G c (ai_up C 2 2 (nI (px_s tx n p + 1)))) (hf : ∀ c, px_c tx n 0 (px_s tx n p) = c → ¬ (97 ≤ c ∧ c ≤ 122) → G 0 (ai_up C 2 2 (nI (px_s tx n p)))) :
    ai_met (uC l D ρ τ) (d + 1) mX3_takeName [.ref 2] C V (ai_qi V G) := by
  refine vX3_takeName (sp_look hV0 hT hp hpn ⟨fun h => hf _ rfl (fun h2 => ?_), fun h => ⟨fun h2 => ?_, fun h2 => hf _ rfl (fun h3 => h2 h3.2)⟩⟩)
  · exact absurd h (Int32.not_lt.mpr h2.1)
  · rw [ai_up_s, ai_up_up, nI_1]
    exact ht _ rfl (Int32.not_lt.mp h) h2
theorem sp_reach {G : Bool → ai_S → Prop} (hV3 : V 2 3 = .ref 26) {C : ai_S} {x : Int32} (ht : x ≤ 10 → G true (ai_up C 26 9 (if C 26 9 < x then x else C 26 9))) (hf : ¬ x ≤ 10 → G false (ai_up C 26 9 (if C 26 9 < x then x else C 26 9))) :
    ai_met (uC l D ρ τ) (d + 1) mX3_reach [.ref 2, .int x] C V (ai_qz V G) :=
  vX3_reach hV3 ⟨fun h => hf (fun h2 => absurd h (Int32.not_lt.mpr h2)), fun h => ht (Int32.not_lt.mp h)⟩
/-- the reference's -/
def mpush (R : ai_S) (f : Nat) (c dp : Int32) : ai_S := ai_up (ai_up (ai_up (ai_up (ai_up (ai_up R 13 f c) 14 f 0) 15 f dp) 16 f 0) 17 f 0) 0 30 (nI (f + 1))
theorem sp_push {G : ai_S → Prop} {R : ai_S} {f : Nat} {c dp : Int32} (hf : R 0 30 = nI f) (hl : f < 80) (hG : G (mpush R f c dp)) : ai_met (uM l D ρ τ) d mX6_push [.ref 0, .int c, .int dp] R V (ai_qv V G) := by
  refine vX6_push ⟨?_, ?_⟩
  · rw [hf]; exact i_in hl (by omega)
  · rw [hf, nI_clamp (by omega), nI_1]; exact hG
def mfresh (R : ai_S) (q : Nat) (t : Int32) : ai_S := ai_up (ai_up (ai_up (ai_up (ai_up (ai_up R 0 15 (nI q)) 2 q t) 3 q 0) 4 q 0) 5 q 0) 8 q 0
theorem sp_fresh {G : Int32 → ai_S → Prop} {R : ai_S} {q : Nat} {t : Int32} (hq : R 0 15 = nI q) (hl : q + 1 < 700) (hG : G (nI (q + 1)) (mfresh R (q + 1) t)) : ai_met (uM l D ρ τ) d mX6_fresh [.ref 0, .int t] R V (ai_qi V G) := by
  refine vX6_fresh ⟨?_, ?_⟩
  · rw [hq, nI_1]; exact i_in hl (by omega)
  · rw [hq, nI_1, nI_clamp (by omega)]; exact hG
theorem sp_done {G : ai_S → Prop} {R : ai_S} {f : Nat} {x : Int32} (hf : R 0 30 = nI (f + 1)) (hG : G (ai_up (ai_up R 0 31 x) 0 30 (nI f))) : ai_met (uM l D ρ τ) d mX6_done [.ref 0, .int x] R V (ai_qv V G) := by
  refine vX6_done ?_
  rw [hf, nI_pred]; exact hG
theorem sp_within {G : Bool → ai_S → Prop} {R : ai_S} {x a b : Int32} (ht : a ≤ x → x ≤ b → G true R) (hf : ¬ (a ≤ x ∧ x ≤ b) → G false R) : ai_met (uM l D ρ τ) d mX6_within [.int x, .int a, .int b] R V (ai_qz V G) :=
  vX6_within ⟨fun h => hf (fun h2 => absurd h (Int32.not_lt.mpr h2.1)), fun h => ⟨fun h2 => hf (fun h3 => absurd h2 (Int32.not_lt.mpr h3.2)), fun h2 => ht (Int32.not_lt.mp h) (Int32.not_lt.mp h2)⟩⟩
theorem sp_isLetter {G : Bool → ai_S → Prop} {R : ai_S} {x : Int32} (ht : 97 ≤ x → x ≤ 122 → G true R) (hf : ¬ (97 ≤ x ∧ x ≤ 122) → G false R) : ai_met (uM l D ρ τ) (d + 1) mX6_isLetter [.ref 0, .int x] R V (ai_qz V G) := by
  refine vX6_isLetter (sp_within (fun h1 h2 => ?_) (fun h => ?_))
  · exact ai_zt (ht h1 h2)
  · exact ai_zf (hf h)
theorem sp_goDeeper {G : ai_S → Prop} {R : ai_S} {f dp : Nat} (hf : f < 80) (hd : R 15 f = nI dp) (hdl : dp < 100) (ht : dp ≤ 10 → G (ai_up R 0 24 (if R 0 24 < nI dp then nI dp else R 0 24))) (hw : ¬ dp ≤ 10 → ∀ R' : ai_S, R' 0 19 = 1 → (∀ q, q ≠ 0 → R' q = R q) → (∀ q i, ¬ (q = 0 ∧ (i = 19 ∨ i = 24)) → R' q i = R q i) → G R') : ai_met (uM l D ρ τ) (d + 1) mX6_goDeeper [.ref 0, .int (nI f)] R V (ai_qv V G) := by
  have h10 : (10 < nI dp) = (10 < dp) := by rw [show (10 : Int32) = nI 10 from rfl, i_lt (by omega) (by omega)]
  refine vX6_goDeeper ⟨i_in hf (by omega), ?_⟩
  rw [nI_clamp (show f < 2 ^ 31 by omega), hd, h10]
  refine ⟨fun h => ⟨fun h2 => hw (by omega) _ ai_up_s (fun q hq => ai_up_o hq) (fun q i hq => ai_up_n (by omega)), fun h2 => hw (by omega) _ (by rw [ai_up_n (by omega), ai_up_s]) (fun q hq => by rw [ai_up_o hq, ai_up_o hq]) (fun q i hq => by rw [ai_up_n (by omega), ai_up_n (by omega)])⟩, fun h => ⟨fun h2 => ?_, fun h2 => ?_⟩⟩
  · have := ht (by omega)
    rw [if_neg (Int32.not_lt.mpr h2), ai_up_self rfl] at this
    exact this
  · have := ht (by omega)
    rw [if_pos (Int32.not_le.mp h2)] at this
    exact this
end PSP
/-! ===== rounds of the reference's loop ===== -/
section LMR
variable {z : lm_T} {R : ai_S} {k f c : Nat}
theorem lm_head (hk : k < 100000) (hw : R 0 19 = 0) (ho : R 0 30 = nI (f + 1)) (hf : f < 80) (hc : R 13 f = nI c) (hcl : c < 100)
    (h10 : c = 10 → ai_met (lm_u z) (z.2.2.2.2.1 + 7) mX6_openStatement [.ref 0, .int (nI f)] R (lm_V z) (ai_qv (lm_V z) (fun R' => lm z R' (k + 1))))
    (hex : c ≠ 10 → 30 ≤ c → c ≠ 40 → ai_met (lm_u z) (z.2.2.2.2.1 + 7) mX6_expression [.ref 0, .int (nI f)] R (lm_V z) (ai_qv (lm_V z) (fun R' => lm z R' (k + 1))))
    (hon : c ≠ 10 → (c < 30 ∨ c = 40) → ai_met (lm_u z) (z.2.2.2.2.1 + 7) mX6_onward [.ref 0, .int (nI f)] R (lm_V z) (ai_qv (lm_V z) (fun R' => lm z R' (k + 1)))) : lm z R k := by
  have e1 : R 0 30 - 1 = nI f := by rw [ho, nI_pred]
  have n30 : (nI c < 30) = (c < 30) := by rw [show (30 : Int32) = nI 30 from rfl, i_lt (by omega) (by omega)]
  have n40 : (nI c = 40) = (c = 40) := by rw [show (40 : Int32) = nI 40 from rfl, i_eq (by omega) (by omega)]
  have n10 : (nI c = 10) = (c = 10) := by rw [show (10 : Int32) = nI 10 from rfl, i_eq (by omega) (by omega)]
  have hkk : nI k + 1 = nI (k + 1) := nI_1 k
  refine vX6_read_100 ⟨fun h => absurd h ?_, fun _ => ⟨fun h => absurd h ?_, fun _ => ⟨fun h => absurd hw h, fun _ => ?_⟩⟩⟩
  · rw [show (100000 : Int32) = nI 100000 from rfl, i_le (by omega) (by omega)]; omega
  · rw [ho, show (0 : Int32) = nI 0 from rfl, i_le (by omega) (by omega)]; omega
  · rw [e1, nI_clamp (show f < 2 ^ 31 by omega), hc, n30, n40, n10, hkk]
    refine ⟨i_in hf (by omega), fun h1 => ⟨fun h2 => hon h1 (Or.inl h2), fun h2 => ⟨fun h3 => hon h1 (Or.inr h3), fun h3 => hex h1 (by omega) h3⟩⟩, fun h1 => h10 h1⟩
/-- the text isn't a program -/
theorem lm_wrong (hw : ¬ R 0 19 = 0) (hG : z.2.2.2.2.2.2.2 (-1) (ai_up R 0 14 z.2.2.2.2.2.2.1)) : lm z R k :=
  vX6_read_100 ⟨fun _ => ⟨fun _ => hG, fun h => absurd h hw⟩, fun _ => ⟨fun _ => ⟨fun _ => hG, fun h => absurd h hw⟩, fun _ => ⟨fun _ => hG, fun h => absurd h hw⟩⟩⟩
end LMR
