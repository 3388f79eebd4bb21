/-! ===== scopes, and how a node of the reference's tree and a stretch of the class's code belong together ===== -/
/-- innermost level first: (0, first slot, node) a block, (p + 1, 0, 0) the formals of procedure p -/
abbrev sc_T : Type := List (Nat × Nat × Nat)
def sc_cl : sc_T → Nat
  | [] => 0
  | x :: t => (if x.1 = 0 then 0 else 1) + sc_cl t
theorem sc_cl_app : ∀ (a b : sc_T), sc_cl (a ++ b) = sc_cl a + sc_cl b
  | [], b => by simp [sc_cl]
  | x :: t, b => by simp only [List.cons_append, sc_cl, sc_cl_app t b]; omega
theorem sc_cl_td (sc : sc_T) (o : Nat) : sc_cl (sc.take o) + sc_cl (sc.drop o) = sc_cl sc := by
  rw [← sc_cl_app, List.take_append_drop]
/-- what a name is: kind, slot (class), what, place (reference); x its level, scd the scope from that level on -/
def sy_k (R : ai_S) (pb : Nat) (SC : Nat → sc_T) (x : Nat × Nat × Nat) (scd : sc_T) (kd sl sw sp : Int32) : Prop :=
  (x.1 = 0 ∧ kd = 0 ∧ sw = 1 ∧ ∃ v cnt : Nat, R 5 x.2.2 = nI cnt ∧ cnt ≤ 24 ∧ v < cnt ∧ x.2.1 + v < 31 ∧ sp = nI v ∧ sl = nI (x.2.1 + v)) ∨
  (x.1 ≠ 0 ∧ ∃ v cnt w : Nat, R 10 (pb + (x.1 - 1)) = nI cnt ∧ R 11 (pb + (x.1 - 1)) = nI w ∧ w < 64 ∧ cnt ≤ 6 ∧ 1 ≤ v ∧ v ≤ cnt ∧ sp = nI v ∧ sl = nI v ∧ (kd = 0 ∧ sw = 3 ∧ w.testBit (v - 1) = true ∨ kd = 1 ∧ sw = 4 ∧ w.testBit (v - 1) = false)) ∨
  (x.1 = 0 ∧ kd = 2 ∧ sw = 2 ∧ ∃ pr : Nat, pr < 16 ∧ sp = nI (pb + pr) ∧ sl = nI pr ∧ SC pr = scd)
/-- a name's use: what, place, out of the node; kind, slot, hops of the instruction -/
def cx_rs (R : ai_S) (pb : Nat) (SC : Nat → sc_T) (sc : sc_T) (w pl ou kd sl hp : Int32) : Prop :=
  ∃ (o : Nat) (x : Nat × Nat × Nat), sc[o]? = some x ∧ ou = nI o ∧ hp = nI (sc_cl (sc.take o)) ∧ sy_k R pb SC x (sc.drop o) kd sl w pl
def cx_us (K R : ai_S) (pb : Nat) (SC : Nat → sc_T) (sc : sc_T) (n a : Nat) (ov of op : Int32) : Prop :=
  ∃ kd : Int32, cx_rs R pb SC sc (R 5 n) (R 6 n) (R 7 n) kd (K 1 a) (K 2 a) ∧ (kd = 0 ∧ K 0 a = ov ∨ kd = 1 ∧ K 0 a = of ∨ kd = 2 ∧ K 0 a = op)
/-- the operands behind the first -/
def cx_op (E : Nat → Nat → Nat → Prop) (K R : ai_S) : Nat → Nat → Nat → Nat → Prop
  | 0, x, a, b => x = 0 ∧ a = b
  | j + 1, x, a, b => (x = 0 ∧ a = b) ∨ (0 < x ∧ K 0 a = 18 ∧ ∃ m y sg : Nat, E x (a + 1) m ∧ R 4 x = nI y ∧ R 8 x = nI sg ∧ sg < 4 ∧ K 0 m = nI (sg + 19) ∧ cx_op E K R j y (m + 1) b)
/-- the actuals -/
def cx_li (E : Nat → Nat → Nat → Prop) (K R : ai_S) : Nat → Nat → Nat → Nat → Nat → Prop
  | 0, x, a, b, _ => x = 0 ∧ a = b
  | j + 1, x, a, b, i => (x = 0 ∧ a = b) ∨ (0 < x ∧ (R 2 x = 8 ∧ K 0 a = 24 ∨ ¬ R 2 x = 8 ∧ K 0 a = 23) ∧ ∃ m y : Nat, E x (a + 1) m ∧ K 0 m = 25 ∧ K 1 a = nI (m + 1) ∧ R 8 x = nI i ∧ R 4 x = nI y ∧ cx_li E K R j y (m + 1) b (i + 1))
/-- an expression: node n, code from a up to b; P: where its nodes lie -/
def cx_E (K R : ai_S) (pb : Nat) (SC : Nat → sc_T) (sc : sc_T) : Nat → (Nat → Prop) → Nat → Nat → Nat → Prop
  | 0, _, _, _, _ => False
  | k + 1, P, n, a, b => P n ∧ a < b ∧
    ((R 2 n = 7 ∧ K 0 a = 10 ∧ K 1 a = R 5 n ∧ K 2 a = 0 ∧ b = a + 1) ∨
     (R 2 n = 8 ∧ cx_us K R pb SC sc n a 11 12 13 ∧ b = a + 1) ∨
     (R 2 n = 9 ∧ cx_us K R pb SC sc n a 15 14 13 ∧ ∃ y : Nat, R 3 n = nI y ∧ cx_li (cx_E K R pb SC sc k (fun i => P i ∧ i ≠ n)) K R 6 y (a + 1) b 0) ∨
     ((R 2 n = 10 ∨ R 2 n = 11 ∨ R 2 n = 12) ∧ ∃ y z m : Nat, R 3 n = nI y ∧ cx_E K R pb SC sc k (fun i => P i ∧ i ≠ n) y a m ∧ R 4 y = nI z ∧ cx_op (cx_E K R pb SC sc k (fun i => P i ∧ i ≠ n)) K R 320 z m b) ∨
     (R 2 n = 13 ∧ ∃ y : Nat, R 3 n = nI y ∧ cx_E K R pb SC sc k (fun i => P i ∧ i ≠ n) y a b))
/-- an assignment's target -/
def cx_tg (K R : ai_S) (pb : Nat) (SC : Nat → sc_T) (sc : sc_T) (n a : Nat) : Prop :=
  ∃ kd sl hp : Int32, cx_rs R pb SC sc (R 5 n) (R 6 n) (R 7 n) kd sl hp ∧
    ((kd = 0 ∧ K 0 a = 6 ∧ K 1 a = sl ∧ K 2 a = hp) ∨ (kd = 1 ∧ K 0 a = 7 ∧ K 1 a = sl ∧ K 2 a = hp) ∨
     (kd = 2 ∧ ∃ pr : Nat, pr < 16 ∧ sl = nI pr ∧ ((∃ o : Nat, sc[o]? = some (pr + 1, 0, 0) ∧ K 0 a = 6 ∧ K 1 a = 0 ∧ K 2 a = nI (sc_cl (sc.take o))) ∨ (K 0 a = 8 ∧ K 2 a = hp ∧ ∀ o : Nat, sc[o]? ≠ some (pr + 1, 0, 0)))))
/-- jumps over procedures -/
def cx_dj (K : ai_S) : Nat → Nat → Nat → Prop
  | 0, a, c => a = c
  | j + 1, a, c => a = c ∨ (K 0 a = 3 ∧ ∃ a' : Nat, K 1 a = nI a' ∧ a < a' ∧ a' ≤ c ∧ cx_dj K j a' c)
/-- statements one behind another -/
def cx_sl (P : Nat → Nat → Nat → Prop) (R : ai_S) : Nat → Nat → Nat → Nat → Prop
  | 0, x, a, b => x = 0 ∧ a = b
  | j + 1, x, a, b => (x = 0 ∧ a = b) ∨ (0 < x ∧ ∃ m y : Nat, P x a m ∧ R 4 x = nI y ∧ cx_sl P R j y m b)
/-- the first slot that is free in this body -/
def sc_tp (R : ai_S) (sc : sc_T) (bs : Nat) : Prop := match sc with
  | [] => 7 ≤ bs
  | x :: _ => if x.1 = 0 then ∃ cnt : Nat, R 5 x.2.2 = nI cnt ∧ x.2.1 + cnt ≤ bs else 7 ≤ bs
/-- a statement -/
def cx_S (K R : ai_S) (pb : Nat) (SC : Nat → sc_T) : Nat → (Nat → Prop) → sc_T → Nat → Nat → Nat → Prop
  | 0, _, _, _, _, _ => False
  | k + 1, P, sc, n, a, b => P n ∧ a < b ∧
    ((R 2 n = 1 ∧ cx_tg K R pb SC sc n a ∧ ∃ y m : Nat, R 3 n = nI y ∧ cx_E K R pb SC sc 50 (fun i => P i ∧ i ≠ n) y (a + 1) m ∧ K 0 m = 9 ∧ b = m + 1) ∨
     (R 2 n = 2 ∧ cx_us K R pb SC sc n a 15 14 13 ∧ ∃ y : Nat, R 3 n = nI y ∧ cx_li (cx_E K R pb SC sc 50 (fun i => P i ∧ i ≠ n)) K R 6 y (a + 1) b 0) ∨
     (R 2 n = 3 ∧ K 0 a = 1 ∧ ∃ y m : Nat, R 3 n = nI y ∧ cx_E K R pb SC sc 50 (fun i => P i ∧ i ≠ n) y (a + 1) m ∧ K 0 m = 5 ∧ b = m + 1) ∨
     (R 2 n = 4 ∧ K 0 a = 1 ∧ ∃ y z w m j : Nat, R 3 n = nI y ∧ cx_E K R pb SC sc 50 (fun i => P i ∧ i ≠ n) y (a + 1) m ∧ K 0 m = 4 ∧ K 1 m = nI (j + 1) ∧ R 4 y = nI z ∧ cx_S K R pb SC k (fun i => P i ∧ i ≠ n) sc z (m + 1) j ∧ K 0 j = 3 ∧ K 1 j = nI b ∧ R 4 z = nI w ∧ cx_S K R pb SC k (fun i => P i ∧ i ≠ n) sc w (j + 1) b) ∨
     (R 2 n = 5 ∧ K 0 a = 1 ∧ ∃ y z m j : Nat, R 3 n = nI y ∧ cx_E K R pb SC sc 50 (fun i => P i ∧ i ≠ n) y (a + 1) m ∧ K 0 m = 4 ∧ K 1 m = nI b ∧ R 4 y = nI z ∧ cx_S K R pb SC k (fun i => P i ∧ i ≠ n) sc z (m + 1) j ∧ K 0 j = 3 ∧ K 1 j = nI (a + 1) ∧ b = j + 1) ∨
     (R 2 n = 6 ∧ K 0 a = 2 ∧ ∃ bs cnt c y : Nat, K 1 a = nI bs ∧ R 5 n = nI cnt ∧ K 2 a = nI cnt ∧ cnt ≤ 24 ∧ bs + cnt ≤ 31 ∧ sc_tp R sc bs ∧ a < c ∧ cx_dj K 16 (a + 1) c ∧ R 3 n = nI y ∧ cx_sl (cx_S K R pb SC k (fun i => P i ∧ i ≠ n) ((0, bs, n) :: sc)) R 320 y c b))
/-- the beginning of a procedure: formals by value, from the i-th on -/
def cx_pl (K : ai_S) (w : Nat) : Nat → Nat → Nat → Nat → Prop
  | 0, _, a, c => a = c
  | j + 1, i, a, c => (w.testBit i = true ∧ K 0 a = 12 ∧ K 1 a = nI (i + 1) ∧ K 2 a = 0 ∧ K 0 (a + 1) = 16 ∧ K 1 (a + 1) = nI (i + 1) ∧ cx_pl K w j (i + 1) (a + 2) c) ∨ (w.testBit i = false ∧ cx_pl K w j (i + 1) a c)
/-- a procedure -/
def cx_P (K R : ai_S) (pb : Nat) (SC : Nat → sc_T) (P : Nat → Prop) (e pr : Nat) : Prop :=
  ∃ a c b y cnt w : Nat, K 3 pr = nI a ∧ K 4 pr = nI cnt ∧ R 10 (pb + pr) = nI cnt ∧ cnt ≤ 6 ∧ R 11 (pb + pr) = nI w ∧ w < 64 ∧ cx_pl K w cnt 0 a c ∧ R 9 (pb + pr) = nI y ∧ cx_S K R pb SC 10 P ((pr + 1, 0, 0) :: SC pr) y c b ∧ K 0 b = 17 ∧ b < e
