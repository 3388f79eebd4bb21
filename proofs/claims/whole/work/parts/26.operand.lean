/-! ===== the reference's operand: four ends ===== -/
section OPR
variable {l : Launch} {D : va_G} {ρ : Nat → Nat} {τ : Nat → ClassId} {d : Nat} {V : ai_V} {tx : Nat → Int32} {n : Nat}
theorem sp_madd {G : ai_S → Prop} {R : ai_S} {f ls g : Nat} (hf : f < 80) (h16 : R 16 f = nI ls) (h0 : 0 < ls) (hl : ls < 700) (hg : R 0 31 = nI g) (hG : G (ai_up (ai_up R 4 ls (nI g)) 16 f (nI g))) : ai_met (uM l D ρ τ) d mX6_add [.ref 0, .int (nI f)] R V (ai_qv V G) := by
  have hne : ¬ nI ls = 0 := by rw [← nI_0, i_eq (by omega) (by omega)]; omega
  refine vX6_add ⟨i_in hf (by omega), ?_⟩
  rw [nI_clamp (show f < 2 ^ 31 by omega), h16, hg, nI_clamp (show ls < 2 ^ 31 by omega)]
  exact ⟨fun _ => ⟨i_in hl (by omega), hG⟩, fun h => absurd h hne⟩
theorem sp_madd0 {G : ai_S → Prop} {R : ai_S} {f q g : Nat} (hf : f < 80) (h16 : R 16 f = nI 0) (h14 : R 14 f = nI q) (hl : q < 700) (hg : R 0 31 = nI g) (hG : G (ai_up (ai_up R 3 q (nI g)) 16 f (nI g))) : ai_met (uM l D ρ τ) d mX6_add [.ref 0, .int (nI f)] R V (ai_qv V G) := by
  refine vX6_add ⟨i_in hf (by omega), ?_⟩
  rw [nI_clamp (show f < 2 ^ 31 by omega), h16, h14, hg, nI_clamp (show q < 2 ^ 31 by omega)]
  exact ⟨fun h => absurd rfl h, fun _ => ⟨i_in hl (by omega), hG⟩⟩
/-- the operand is hung behind the last one -/
def opB (R : ai_S) (f g ls ex sk : Nat) : ai_S := ai_up (ai_up (ai_up (ai_up (ai_up R 0 2 (nI sk)) 0 31 (nI g)) 8 g (nI ex)) 4 ls (nI g)) 16 f (nI g)
/-- a new node, the operand its first child -/
def opC (R : ai_S) (f q g ex sk : Nat) (t : Int32) : ai_S := ai_up (ai_up (ai_up (ai_up (ai_up (mfresh (ai_up R 0 2 (nI sk)) q t) 14 f (nI q)) 0 31 (nI g)) 8 g (nI ex)) 3 q (nI g)) 16 f (nI g)
/-- and one more is begun -/
def opM (B : ai_S) (f sk ex : Nat) (th dp : Nat) : ai_S := mpush (ai_up (ai_up B 0 2 (nI (sk + 1))) 17 f (nI ex)) (f + 1) (nI th) (nI dp)
def opL (B : ai_S) (f sk ex : Nat) (th dp : Nat) : ai_S := mpush (ai_up (ai_up (ai_up B 0 2 (nI (sk + 1))) 17 f (nI ex)) 13 f 32) (f + 1) (nI th) (nI dp)
variable {R : ai_S} {G : ai_S → Prop} {f g nd ls ex dp p q : Nat}
theorem op_prod_84_0 (hf : f < 78) (h30 : R 0 30 = nI (f + 1)) (h14 : R 14 f = nI nd) (h16 : R 16 f = nI ls) (h17 : R 17 f = nI ex) (h0 : 0 < ls) (hls : ls < 700) (hg : g < 700) {c : Int32} (hG : G (ai_up (ai_up (ai_up (ai_up (ai_up (ai_up R 0 31 (nI g)) 8 g (nI ex)) 4 ls (nI g)) 16 f (nI g)) 0 31 (nI nd)) 0 30 (nI f))) :
    ai_W (uM l D ρ τ) (d + 1) mX6_operand 84 [(0, .ref 0), (1, .int (nI f)), (3, .int 42), (4, .int 12), (5, .int 39), (6, .int c), (7, .int 0), (8, .int (nI g))] [] R V (ai_qv V G) := by
  refine vX6_operand_prod0_84 ⟨i_in (by omega) (by omega), i_in hg (by omega), ?_⟩
  rw [nI_clamp (show f < 2 ^ 31 by omega), nI_clamp (show g < 2 ^ 31 by omega), h17]
  refine sp_madd (ls := ls) (g := g) (by omega) (by simp [ai_up_eq, h16]) h0 hls (by simp [ai_up_eq]) ?_
  refine sp_done (f := f) (by simp [ai_up_eq, h30]) ?_
  have e14 : ai_up (ai_up (ai_up (ai_up R 0 31 (nI g)) 8 g (nI ex)) 4 ls (nI g)) 16 f (nI g) 14 f = nI nd := by simp [ai_up_eq, h14]
  rw [e14]
  exact hG
theorem op_prod_84_1 (hf : f < 78) (h30 : R 0 30 = nI (f + 1)) (h15 : R 15 f = nI dp) (h2 : R 0 2 = nI p) (h17 : R 17 f = nI ex) (hg : g < 700) {c : Int32} {aq ai : Nat} (haq : aq = 3 ∨ aq = 4) (hadd : ∀ G' : ai_S → Prop, G' (ai_up (ai_up (ai_up (ai_up R 0 31 (nI g)) 8 g (nI ex)) aq ai (nI g)) 16 f (nI g)) → ai_met (uM l D ρ τ) d mX6_add [.ref 0, .int (nI f)] (ai_up (ai_up R 0 31 (nI g)) 8 g (nI ex)) V (ai_qv V G'))
    (hG0 : True → G (opM (ai_up (ai_up (ai_up (ai_up R 0 31 (nI g)) 8 g (nI ex)) aq ai (nI g)) 16 f (nI g)) f p 2 39 dp)) :
    ai_W (uM l D ρ τ) (d + 1) mX6_operand 84 [(0, .ref 0), (1, .int (nI f)), (3, .int 42), (4, .int 12), (5, .int 39), (6, .int c), (7, .int 1), (8, .int (nI g))] [] R V (ai_qv V G) := by
  refine vX6_operand_prod1_84 ⟨i_in (by omega) (by omega), i_in hg (by omega), ?_⟩
  rw [nI_clamp (show f < 2 ^ 31 by omega), nI_clamp (show g < 2 ^ 31 by omega), h17]
  refine hadd _ ?_
  have e15 : ai_up (ai_up (ai_up (ai_up R 0 31 (nI g)) 8 g (nI ex)) aq ai (nI g)) 16 f (nI g) 15 f = nI dp := by
    rcases haq with rfl | rfl <;> simp [ai_up_eq, h15]
  have e2 : ai_up (ai_up (ai_up (ai_up R 0 31 (nI g)) 8 g (nI ex)) aq ai (nI g)) 16 f (nI g) 0 2 = nI p := by
    rcases haq with rfl | rfl <;> simp [ai_up_eq, h2]
  have e30 : ai_up (ai_up (ai_up (ai_up R 0 31 (nI g)) 8 g (nI ex)) aq ai (nI g)) 16 f (nI g) 0 30 = nI (f + 1) := by
    rcases haq with rfl | rfl <;> simp [ai_up_eq, h30]
  rw [e15, e2, nI_1]
  have H : True := trivial
  exact sp_push (f := f + 1) (by rw [ai_up_n (by omega), ai_up_n (by omega)]; exact e30) (by omega) (hG0 H)
theorem op_sum_84_0 (hf : f < 78) (h30 : R 0 30 = nI (f + 1)) (h14 : R 14 f = nI nd) (h16 : R 16 f = nI ls) (h17 : R 17 f = nI ex) (h0 : 0 < ls) (hls : ls < 700) (hg : g < 700) {c : Int32} (hG : G (ai_up (ai_up (ai_up (ai_up (ai_up (ai_up R 0 31 (nI g)) 8 g (nI ex)) 4 ls (nI g)) 16 f (nI g)) 0 31 (nI nd)) 0 30 (nI f))) :
    ai_W (uM l D ρ τ) (d + 1) mX6_operand 84 [(0, .ref 0), (1, .int (nI f)), (3, .int 45), (4, .int 11), (5, .int 36), (6, .int c), (7, .int 0), (8, .int (nI g))] [] R V (ai_qv V G) := by
  refine vX6_operand_sum0_84 ⟨i_in (by omega) (by omega), i_in hg (by omega), ?_⟩
  rw [nI_clamp (show f < 2 ^ 31 by omega), nI_clamp (show g < 2 ^ 31 by omega), h17]
  refine sp_madd (ls := ls) (g := g) (by omega) (by simp [ai_up_eq, h16]) h0 hls (by simp [ai_up_eq]) ?_
  refine sp_done (f := f) (by simp [ai_up_eq, h30]) ?_
  have e14 : ai_up (ai_up (ai_up (ai_up R 0 31 (nI g)) 8 g (nI ex)) 4 ls (nI g)) 16 f (nI g) 14 f = nI nd := by simp [ai_up_eq, h14]
  rw [e14]
  exact hG
theorem op_sum_84_1 (hf : f < 78) (h30 : R 0 30 = nI (f + 1)) (h15 : R 15 f = nI dp) (h2 : R 0 2 = nI p) (h17 : R 17 f = nI ex) (hg : g < 700) {c : Int32} {aq ai : Nat} (haq : aq = 3 ∨ aq = 4) (hadd : ∀ G' : ai_S → Prop, G' (ai_up (ai_up (ai_up (ai_up R 0 31 (nI g)) 8 g (nI ex)) aq ai (nI g)) 16 f (nI g)) → ai_met (uM l D ρ τ) d mX6_add [.ref 0, .int (nI f)] (ai_up (ai_up R 0 31 (nI g)) 8 g (nI ex)) V (ai_qv V G'))
    (hG0 : ¬ c = 45 → G (opM (ai_up (ai_up (ai_up (ai_up R 0 31 (nI g)) 8 g (nI ex)) aq ai (nI g)) 16 f (nI g)) f p 0 36 dp)) (hG1 : c = 45 → G (opM (ai_up (ai_up (ai_up (ai_up R 0 31 (nI g)) 8 g (nI ex)) aq ai (nI g)) 16 f (nI g)) f p 1 36 dp)) :
    ai_W (uM l D ρ τ) (d + 1) mX6_operand 84 [(0, .ref 0), (1, .int (nI f)), (3, .int 45), (4, .int 11), (5, .int 36), (6, .int c), (7, .int 1), (8, .int (nI g))] [] R V (ai_qv V G) := by
  refine vX6_operand_sum1_84 ⟨i_in (by omega) (by omega), i_in hg (by omega), ?_⟩
  rw [nI_clamp (show f < 2 ^ 31 by omega), nI_clamp (show g < 2 ^ 31 by omega), h17]
  refine hadd _ ?_
  have e15 : ai_up (ai_up (ai_up (ai_up R 0 31 (nI g)) 8 g (nI ex)) aq ai (nI g)) 16 f (nI g) 15 f = nI dp := by
    rcases haq with rfl | rfl <;> simp [ai_up_eq, h15]
  have e2 : ai_up (ai_up (ai_up (ai_up R 0 31 (nI g)) 8 g (nI ex)) aq ai (nI g)) 16 f (nI g) 0 2 = nI p := by
    rcases haq with rfl | rfl <;> simp [ai_up_eq, h2]
  have e30 : ai_up (ai_up (ai_up (ai_up R 0 31 (nI g)) 8 g (nI ex)) aq ai (nI g)) 16 f (nI g) 0 30 = nI (f + 1) := by
    rcases haq with rfl | rfl <;> simp [ai_up_eq, h30]
  rw [e15, e2, nI_1]
  exact ⟨fun H => sp_push (f := f + 1) (by rw [ai_up_n (by omega), ai_up_n (by omega)]; exact e30) (by omega) (hG0 H), fun H => sp_push (f := f + 1) (by rw [ai_up_n (by omega), ai_up_n (by omega)]; exact e30) (by omega) (hG1 H)⟩
theorem op_less_84_0 (hf : f < 78) (h30 : R 0 30 = nI (f + 1)) (h14 : R 14 f = nI nd) (h16 : R 16 f = nI ls) (h17 : R 17 f = nI ex) (h0 : 0 < ls) (hls : ls < 700) (hg : g < 700) {c : Int32} (hG : G (ai_up (ai_up (ai_up (ai_up (ai_up (ai_up R 0 31 (nI g)) 8 g (nI ex)) 4 ls (nI g)) 16 f (nI g)) 0 31 (nI nd)) 0 30 (nI f))) :
    ai_W (uM l D ρ τ) (d + 1) mX6_operand 84 [(0, .ref 0), (1, .int (nI f)), (3, .int 60), (4, .int 10), (5, .int 33), (6, .int c), (7, .int 0), (8, .int (nI g))] [] R V (ai_qv V G) := by
  refine vX6_operand_less0_84 ⟨i_in (by omega) (by omega), i_in hg (by omega), ?_⟩
  rw [nI_clamp (show f < 2 ^ 31 by omega), nI_clamp (show g < 2 ^ 31 by omega), h17]
  refine sp_madd (ls := ls) (g := g) (by omega) (by simp [ai_up_eq, h16]) h0 hls (by simp [ai_up_eq]) ?_
  refine sp_done (f := f) (by simp [ai_up_eq, h30]) ?_
  have e14 : ai_up (ai_up (ai_up (ai_up R 0 31 (nI g)) 8 g (nI ex)) 4 ls (nI g)) 16 f (nI g) 14 f = nI nd := by simp [ai_up_eq, h14]
  rw [e14]
  exact hG
theorem op_less_84_1 (hf : f < 78) (h30 : R 0 30 = nI (f + 1)) (h15 : R 15 f = nI dp) (h2 : R 0 2 = nI p) (h17 : R 17 f = nI ex) (hg : g < 700) {c : Int32} {aq ai : Nat} (haq : aq = 3 ∨ aq = 4) (hadd : ∀ G' : ai_S → Prop, G' (ai_up (ai_up (ai_up (ai_up R 0 31 (nI g)) 8 g (nI ex)) aq ai (nI g)) 16 f (nI g)) → ai_met (uM l D ρ τ) d mX6_add [.ref 0, .int (nI f)] (ai_up (ai_up R 0 31 (nI g)) 8 g (nI ex)) V (ai_qv V G'))
    (hG0 : True → G (opL (ai_up (ai_up (ai_up (ai_up R 0 31 (nI g)) 8 g (nI ex)) aq ai (nI g)) 16 f (nI g)) f p 3 33 dp)) :
    ai_W (uM l D ρ τ) (d + 1) mX6_operand 84 [(0, .ref 0), (1, .int (nI f)), (3, .int 60), (4, .int 10), (5, .int 33), (6, .int c), (7, .int 1), (8, .int (nI g))] [] R V (ai_qv V G) := by
  refine vX6_operand_less1_84 ⟨i_in (by omega) (by omega), i_in hg (by omega), ?_⟩
  rw [nI_clamp (show f < 2 ^ 31 by omega), nI_clamp (show g < 2 ^ 31 by omega), h17]
  refine hadd _ ?_
  have e15 : ai_up (ai_up (ai_up (ai_up R 0 31 (nI g)) 8 g (nI ex)) aq ai (nI g)) 16 f (nI g) 15 f = nI dp := by
    rcases haq with rfl | rfl <;> simp [ai_up_eq, h15]
  have e2 : ai_up (ai_up (ai_up (ai_up R 0 31 (nI g)) 8 g (nI ex)) aq ai (nI g)) 16 f (nI g) 0 2 = nI p := by
    rcases haq with rfl | rfl <;> simp [ai_up_eq, h2]
  have e30 : ai_up (ai_up (ai_up (ai_up R 0 31 (nI g)) 8 g (nI ex)) aq ai (nI g)) 16 f (nI g) 0 30 = nI (f + 1) := by
    rcases haq with rfl | rfl <;> simp [ai_up_eq, h30]
  rw [e15, e2, nI_1]
  have H : True := trivial
  exact sp_push (f := f + 1) (by rw [ai_up_n (by omega), ai_up_n (by omega), ai_up_n (by omega)]; exact e30) (by omega) (hG0 H)
end OPR
