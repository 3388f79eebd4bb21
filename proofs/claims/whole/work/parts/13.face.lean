section GC3
variable {l : Launch} {D : va_G} {ρ : Nat → Nat} {τ : Nat → ClassId} {d : Nat}
set_option maxHeartbeats 4000000 in
set_option maxRecDepth 100000 in
theorem vX5_codeAt {p1 : Int64} {p2 : Int32} {S : ai_S} {V : ai_V} {G : Int32 → ai_S → Prop}
    (h : G ((Int64.toInt32 ((p1.toUInt64 >>> ((Int32.toInt64 (8 * p2)).toUInt64 &&& Int64.toUInt64 63)).toInt64)) &&& (255 : Int32)) S) :
    ai_met (uN l D ρ τ) d mX5_codeAt [.long p1, .int p2] S V (ai_qi V G) := by
  refine ai_mof plX5 (Nat.le_of_ble_eq_true rfl) (lv := [(0, .long p1), (2, .int p2)]) rfl ?_
  refine ai_lload_n dX5_codeAt_0 rfl (j := 0) rfl ?_
  refine ai_bipush (v := 8) dX5_codeAt_1 (by decide) ?_
  refine ai_iload_n dX5_codeAt_3 rfl (j := 1) rfl ?_
  refine ai_imul dX5_codeAt_4 ?_
  refine ai_lushr dX5_codeAt_5 ?_
  refine ai_l2i dX5_codeAt_6 ?_
  refine ai_sipush (v := 255) dX5_codeAt_7 (by decide) ?_
  refine ai_iand dX5_codeAt_10 ?_
  exact ai_reti dX5_codeAt_11 rfl h
set_option maxHeartbeats 4000000 in
set_option maxRecDepth 100000 in
theorem vX5_write {p1 : Int64} {S : ai_S} {V : ai_V} {G : Int32 → ai_S → Prop}
    (h : ai_W (uN l D ρ τ) d mX5_write 5 [(0, .ref 0), (1, .long p1), (3, .int 0), (4, .int 0)] [] S V (ai_qi V G)) :
    ai_met (uN l D ρ τ) d mX5_write [.ref 0, .long p1] S V (ai_qi V G) := by
  refine ai_mof plX5 (Nat.le_of_ble_eq_true rfl) (lv := [(0, .ref 0), (1, .long p1)]) rfl ?_
  refine ai_iconst (v := 0) dX5_write_0 (by decide) ?_
  refine ai_istore_n (lv' := [(3, .int 0), (0, .ref 0), (1, .long p1)]) dX5_write_1 rfl (by decide) rfl ?_
  refine ai_iconst (v := 0) dX5_write_2 (by decide) ?_
  refine ai_istore (lv' := [(4, .int 0), (3, .int 0), (0, .ref 0), (1, .long p1)]) dX5_write_3 (by decide) rfl ?_
  refine ai_locj (lv' := [(0, .ref 0), (1, .long p1), (3, .int 0), (4, .int 0)]) [2, 3, 1, 0] rfl ?_
  exact h
set_option maxHeartbeats 4000000 in
set_option maxRecDepth 100000 in
theorem vX5_write_5 {p1 : Int64} {n : Int32} {j : Int32} {S : ai_S} {V : ai_V} {G : Int32 → ai_S → Prop}
    (h : ((8 ≤ j → ((((S 0 1) + n) ≤ 320 → ai_W (uN l D ρ τ) (d + 1) mX5_write 63 [(0, .ref 0), (1, .long p1), (3, .int n), (4, .int 0)] [] S V (ai_qi V G)) ∧ (¬ ((S 0 1) + n) ≤ 320 → G (-1) S))) ∧ (¬ 8 ≤ j → ((¬ ((Int64.toInt32 ((p1.toUInt64 >>> ((Int32.toInt64 (8 * j)).toUInt64 &&& Int64.toUInt64 63)).toInt64)) &&& (255 : Int32)) = 0 → ((((Int64.toInt32 ((p1.toUInt64 >>> ((Int32.toInt64 (8 * j)).toUInt64 &&& Int64.toUInt64 63)).toInt64)) &&& (255 : Int32)) ≤ 127 → ai_W (uN l D ρ τ) (d + 1) mX5_write 5 [(0, .ref 0), (1, .long p1), (3, .int (n + 1)), (4, .int (j + 1))] [] S V (ai_qi V G)) ∧ (¬ ((Int64.toInt32 ((p1.toUInt64 >>> ((Int32.toInt64 (8 * j)).toUInt64 &&& Int64.toUInt64 63)).toInt64)) &&& (255 : Int32)) ≤ 127 → G (-1) S))) ∧ (((Int64.toInt32 ((p1.toUInt64 >>> ((Int32.toInt64 (8 * j)).toUInt64 &&& Int64.toUInt64 63)).toInt64)) &&& (255 : Int32)) = 0 → ((((S 0 1) + n) ≤ 320 → ai_W (uN l D ρ τ) (d + 1) mX5_write 63 [(0, .ref 0), (1, .long p1), (3, .int n), (4, .int 0)] [] S V (ai_qi V G)) ∧ (¬ ((S 0 1) + n) ≤ 320 → G (-1) S))))))) :
    ai_W (uN l D ρ τ) (d + 1) mX5_write 5 [(0, .ref 0), (1, .long p1), (3, .int n), (4, .int j)] [] S V (ai_qi V G) := by
  refine ai_iload dX5_write_5 (j := 3) rfl ?_
  refine ai_bipush (v := 8) dX5_write_7 (by decide) ?_
  refine ai_icmp_ge (tgt := 46) dX5_write_9 (by decide) ⟨fun (hc1 : 8 ≤ j) => ?_, fun (hc1 : ¬ 8 ≤ j) => ?_⟩
  · have h := h.1 hc1
    refine ai_aload_n dX5_write_46 rfl (j := 0) rfl ?_
    refine ai_getI dX5_write_47 fdX5_13 rfl rfl ?_
    refine ai_iload_n dX5_write_50 rfl (j := 2) rfl ?_
    refine ai_iadd dX5_write_51 ?_
    refine ai_sipush (v := 320) dX5_write_52 (by decide) ?_
    refine ai_icmp_le (tgt := 60) dX5_write_55 (by decide) ⟨fun (hc2 : ((S 0 1) + n) ≤ 320) => ?_, fun (hc2 : ¬ ((S 0 1) + n) ≤ 320) => ?_⟩
    · have h := h.1 hc2
      refine ai_iconst (v := 0) dX5_write_60 (by decide) ?_
      refine ai_istore (lv' := [(4, .int 0), (0, .ref 0), (1, .long p1), (3, .int n)]) dX5_write_61 (by decide) rfl ?_
      refine ai_locj (lv' := [(0, .ref 0), (1, .long p1), (3, .int n), (4, .int 0)]) [1, 2, 3, 0] rfl ?_
      exact h
    · have h := h.2 hc2
      refine ai_iconst (v := (-1)) dX5_write_58 (by decide) ?_
      exact ai_reti dX5_write_59 rfl h
  · have h := h.2 hc1
    refine ai_lload_n dX5_write_12 rfl (j := 1) rfl ?_
    refine ai_iload dX5_write_13 (j := 3) rfl ?_
    refine ai_callSi (As := [.long p1, .int j]) (rest := []) dX5_write_15 csX5_45 rfl rfl (Nat.le_of_ble_eq_true rfl) (vX5_codeAt ?_)
    show ai_W _ _ _ _ _ (.int ((Int64.toInt32 ((p1.toUInt64 >>> ((Int32.toInt64 (8 * j)).toUInt64 &&& Int64.toUInt64 63)).toInt64)) &&& (255 : Int32)) :: _) S _ _
    refine ai_istore (lv' := [(5, .int ((Int64.toInt32 ((p1.toUInt64 >>> ((Int32.toInt64 (8 * j)).toUInt64 &&& Int64.toUInt64 63)).toInt64)) &&& (255 : Int32))), (0, .ref 0), (1, .long p1), (3, .int n), (4, .int j)]) dX5_write_18 (by decide) rfl ?_
    refine ai_iload dX5_write_20 (j := 0) rfl ?_
    refine ai_if_ne (tgt := 28) dX5_write_22 (by decide) ⟨fun (hc3 : ¬ ((Int64.toInt32 ((p1.toUInt64 >>> ((Int32.toInt64 (8 * j)).toUInt64 &&& Int64.toUInt64 63)).toInt64)) &&& (255 : Int32)) = 0) => ?_, fun (hc3 : ((Int64.toInt32 ((p1.toUInt64 >>> ((Int32.toInt64 (8 * j)).toUInt64 &&& Int64.toUInt64 63)).toInt64)) &&& (255 : Int32)) = 0) => ?_⟩
    · have h := h.1 hc3
      refine ai_iload dX5_write_28 (j := 0) rfl ?_
      refine ai_bipush (v := 127) dX5_write_30 (by decide) ?_
      refine ai_icmp_le (tgt := 37) dX5_write_32 (by decide) ⟨fun (hc4 : ((Int64.toInt32 ((p1.toUInt64 >>> ((Int32.toInt64 (8 * j)).toUInt64 &&& Int64.toUInt64 63)).toInt64)) &&& (255 : Int32)) ≤ 127) => ?_, fun (hc4 : ¬ ((Int64.toInt32 ((p1.toUInt64 >>> ((Int32.toInt64 (8 * j)).toUInt64 &&& Int64.toUInt64 63)).toInt64)) &&& (255 : Int32)) ≤ 127) => ?_⟩
      · have h := h.1 hc4
        refine ai_iinc (j := 3) (v := (n + 1)) (lv' := [(3, .int (n + 1)), (5, .int ((Int64.toInt32 ((p1.toUInt64 >>> ((Int32.toInt64 (8 * j)).toUInt64 &&& Int64.toUInt64 63)).toInt64)) &&& (255 : Int32))), (0, .ref 0), (1, .long p1), (4, .int j)]) dX5_write_37 rfl (by first | rfl | decide) (by decide) rfl ?_
        refine ai_iinc (j := 4) (v := (j + 1)) (lv' := [(4, .int (j + 1)), (3, .int (n + 1)), (5, .int ((Int64.toInt32 ((p1.toUInt64 >>> ((Int32.toInt64 (8 * j)).toUInt64 &&& Int64.toUInt64 63)).toInt64)) &&& (255 : Int32))), (0, .ref 0), (1, .long p1)]) dX5_write_40 rfl (by first | rfl | decide) (by decide) rfl ?_
        refine ai_goto (tgt := 5) dX5_write_43 (by decide) ?_
        refine ai_locj (lv' := [(0, .ref 0), (1, .long p1), (3, .int (n + 1)), (4, .int (j + 1))]) [3, 4, 1, 0] rfl ?_
        exact h
      · have h := h.2 hc4
        refine ai_iconst (v := (-1)) dX5_write_35 (by decide) ?_
        exact ai_reti dX5_write_36 rfl h
    · have h := h.2 hc3
      refine ai_goto (tgt := 46) dX5_write_25 (by decide) ?_
      refine ai_aload_n dX5_write_46 rfl (j := 1) rfl ?_
      refine ai_getI dX5_write_47 fdX5_13 rfl rfl ?_
      refine ai_iload_n dX5_write_50 rfl (j := 3) rfl ?_
      refine ai_iadd dX5_write_51 ?_
      refine ai_sipush (v := 320) dX5_write_52 (by decide) ?_
      refine ai_icmp_le (tgt := 60) dX5_write_55 (by decide) ⟨fun (hc5 : ((S 0 1) + n) ≤ 320) => ?_, fun (hc5 : ¬ ((S 0 1) + n) ≤ 320) => ?_⟩
      · have h := h.1 hc5
        refine ai_iconst (v := 0) dX5_write_60 (by decide) ?_
        refine ai_istore (lv' := [(4, .int 0), (5, .int ((Int64.toInt32 ((p1.toUInt64 >>> ((Int32.toInt64 (8 * j)).toUInt64 &&& Int64.toUInt64 63)).toInt64)) &&& (255 : Int32))), (0, .ref 0), (1, .long p1), (3, .int n)]) dX5_write_61 (by decide) rfl ?_
        refine ai_locj (lv' := [(0, .ref 0), (1, .long p1), (3, .int n), (4, .int 0)]) [2, 3, 4, 0] rfl ?_
        exact h
      · have h := h.2 hc5
        refine ai_iconst (v := (-1)) dX5_write_58 (by decide) ?_
        exact ai_reti dX5_write_59 rfl h
set_option maxHeartbeats 4000000 in
set_option maxRecDepth 100000 in
theorem vX5_write_63 {p1 : Int64} {n : Int32} {j : Int32} {S : ai_S} {V : ai_V} {G : Int32 → ai_S → Prop}
    (h : ((n ≤ j → G n (ai_up S 0 1 ((S 0 1) + n))) ∧ (¬ n ≤ j → (vp_in ((S 0 1) + j) 320 ∧ ai_W (uN l D ρ τ) (d + 1) mX5_write 63 [(0, .ref 0), (1, .long p1), (3, .int n), (4, .int (j + 1))] [] (ai_up S 1 (((S 0 1) + j)).toNatClampNeg (vp_nar .char ((Int32.toUInt32 ((Int64.toInt32 ((p1.toUInt64 >>> ((Int32.toInt64 (8 * j)).toUInt64 &&& Int64.toUInt64 63)).toInt64)) &&& (255 : Int32)) % 65536).toInt32))) V (ai_qi V G))))) :
    ai_W (uN l D ρ τ) (d + 1) mX5_write 63 [(0, .ref 0), (1, .long p1), (3, .int n), (4, .int j)] [] S V (ai_qi V G) := by
  refine ai_iload dX5_write_63 (j := 3) rfl ?_
  refine ai_iload_n dX5_write_65 rfl (j := 2) rfl ?_
  refine ai_icmp_ge (tgt := 94) dX5_write_66 (by decide) ⟨fun (hc1 : n ≤ j) => ?_, fun (hc1 : ¬ n ≤ j) => ?_⟩
  · have h := h.1 hc1
    refine ai_aload_n dX5_write_94 rfl (j := 0) rfl ?_
    refine ai_dup dX5_write_95 rfl ?_
    refine ai_getI dX5_write_96 fdX5_13 rfl rfl ?_
    refine ai_iload_n dX5_write_99 rfl (j := 2) rfl ?_
    refine ai_iadd dX5_write_100 ?_
    refine ai_putI dX5_write_101 fdX5_13 pdX5_1 rfl rfl rfl rfl ?_
    refine ai_iload_n dX5_write_104 rfl (j := 2) rfl ?_
    exact ai_reti dX5_write_105 rfl h
  · have h := h.2 hc1
    refine ai_aload_n dX5_write_69 rfl (j := 0) rfl ?_
    refine ai_getR dX5_write_70 fdX5_9 rfl rfl ?_
    refine ai_aload_n dX5_write_73 rfl (j := 0) rfl ?_
    refine ai_getI dX5_write_74 fdX5_13 rfl rfl ?_
    refine ai_iload dX5_write_77 (j := 3) rfl ?_
    refine ai_iadd dX5_write_79 ?_
    refine ai_lload_n dX5_write_80 rfl (j := 1) rfl ?_
    refine ai_iload dX5_write_81 (j := 3) rfl ?_
    refine ai_callSi (As := [.long p1, .int j]) (rest := [.int ((S 0 1) + j), .ref 1]) dX5_write_83 csX5_45 rfl rfl (Nat.le_of_ble_eq_true rfl) (vX5_codeAt ?_)
    show ai_W _ _ _ _ _ (.int ((Int64.toInt32 ((p1.toUInt64 >>> ((Int32.toInt64 (8 * j)).toUInt64 &&& Int64.toUInt64 63)).toInt64)) &&& (255 : Int32)) :: _) S _ _
    refine ai_i2c dX5_write_86 ?_
    refine ai_cast dX5_write_87 rfl ⟨h.1, ?_⟩
    have hi2 := h.1
    have h := h.2
    refine ai_iinc (j := 3) (v := (j + 1)) (lv' := [(4, .int (j + 1)), (0, .ref 0), (1, .long p1), (3, .int n)]) dX5_write_88 rfl (by first | rfl | decide) (by decide) rfl ?_
    refine ai_goto (tgt := 63) dX5_write_91 (by decide) ?_
    refine ai_locj (lv' := [(0, .ref 0), (1, .long p1), (3, .int n), (4, .int (j + 1))]) [1, 2, 3, 0] rfl ?_
    exact h
set_option maxHeartbeats 4000000 in
set_option maxRecDepth 100000 in
theorem vX5_erase {S : ai_S} {V : ai_V} {G : Int32 → ai_S → Prop}
    (h : G (S 0 1) (ai_up S 0 1 0)) :
    ai_met (uN l D ρ τ) d mX5_erase [.ref 0] S V (ai_qi V G) := by
  refine ai_mof plX5 (Nat.le_of_ble_eq_true rfl) (lv := [(0, .ref 0)]) rfl ?_
  refine ai_aload_n dX5_erase_0 rfl (j := 0) rfl ?_
  refine ai_getI dX5_erase_1 fdX5_13 rfl rfl ?_
  refine ai_istore_n (lv' := [(1, .int (S 0 1)), (0, .ref 0)]) dX5_erase_4 rfl (by decide) rfl ?_
  refine ai_aload_n dX5_erase_5 rfl (j := 1) rfl ?_
  refine ai_iconst (v := 0) dX5_erase_6 (by decide) ?_
  refine ai_putI dX5_erase_7 fdX5_13 pdX5_1 rfl rfl rfl rfl ?_
  refine ai_iload_n dX5_erase_10 rfl (j := 0) rfl ?_
  exact ai_reti dX5_erase_11 rfl h
set_option maxHeartbeats 4000000 in
set_option maxRecDepth 100000 in
theorem vX5_length {S : ai_S} {V : ai_V} {G : Int32 → ai_S → Prop}
    (h : G (S 0 1) S) :
    ai_met (uN l D ρ τ) d mX5_length [.ref 0] S V (ai_qi V G) := by
  refine ai_mof plX5 (Nat.le_of_ble_eq_true rfl) (lv := [(0, .ref 0)]) rfl ?_
  refine ai_aload_n dX5_length_0 rfl (j := 0) rfl ?_
  refine ai_getI dX5_length_1 fdX5_13 rfl rfl ?_
  exact ai_reti dX5_length_4 rfl h
set_option maxHeartbeats 4000000 in
set_option maxRecDepth 100000 in
theorem vX5_prints {S : ai_S} {V : ai_V} {G : Int32 → ai_S → Prop}
    (h : G (S 9 14) S) :
    ai_met (uN l D ρ τ) d mX5_prints [.ref 0] S V (ai_qi V G) := by
  refine ai_mof plX5 (Nat.le_of_ble_eq_true rfl) (lv := [(0, .ref 0)]) rfl ?_
  refine ai_aload_n dX5_prints_0 rfl (j := 0) rfl ?_
  refine ai_getR dX5_prints_1 fdX5_27 rfl rfl ?_
  refine ai_getI dX5_prints_4 fdX5_57 rfl rfl ?_
  exact ai_reti dX5_prints_7 rfl h
set_option maxHeartbeats 4000000 in
set_option maxRecDepth 100000 in
theorem vX5_printed {p1 : Int32} {S : ai_S} {V : ai_V} {G : Int64 → ai_S → Prop}
    (h : ((p1 < 0 → G 4294967296 S) ∧ (¬ p1 < 0 → (((S 9 14) ≤ p1 → G 4294967296 S) ∧ (¬ (S 9 14) ≤ p1 → (¬ 32 ≤ p1 ∧ (vp_in p1 32 ∧ G (Int32.toInt64 (S 19 (p1).toNatClampNeg)) S))))))) :
    ai_met (uN l D ρ τ) (d + 1) mX5_printed [.ref 0, .int p1] S V (ai_ql V G) := by
  refine ai_mof plX5 (Nat.le_of_ble_eq_true rfl) (lv := [(0, .ref 0), (1, .int p1)]) rfl ?_
  refine ai_aload_n dX5_printed_0 rfl (j := 0) rfl ?_
  refine ai_getR dX5_printed_1 fdX5_27 rfl rfl ?_
  refine ai_iload_n dX5_printed_4 rfl (j := 1) rfl ?_
  refine ai_callVl (As := [.int p1]) (rest := []) dX5_printed_5 cvX5_60 rfl rfl rfl (Nat.le_of_ble_eq_true rfl) (vX1_printAt ?_)
  refine ⟨fun (hc1 : p1 < 0) => ?_, fun (hc1 : ¬ p1 < 0) => ?_⟩
  · have h := h.1 hc1
    show ai_W _ _ _ _ _ (.long 4294967296 :: _) S _ _
    exact ai_retl dX5_printed_8 rfl h
  · have h := h.2 hc1
    refine ⟨fun (hc2 : (S 9 14) ≤ p1) => ?_, fun (hc2 : ¬ (S 9 14) ≤ p1) => ?_⟩
    · have h := h.1 hc2
      show ai_W _ _ _ _ _ (.long 4294967296 :: _) S _ _
      exact ai_retl dX5_printed_8 rfl h
    · have h := h.2 hc2
      have hr3 : ¬ 32 ≤ p1 := h.1
      have h := h.2
      refine ⟨hr3, ?_⟩
      refine ⟨h.1, ?_⟩
      have hi4 := h.1
      have h := h.2
      show ai_W _ _ _ _ _ (.long (Int32.toInt64 (S 19 (p1).toNatClampNeg)) :: _) S _ _
      exact ai_retl dX5_printed_8 rfl h
set_option maxHeartbeats 4000000 in
set_option maxRecDepth 100000 in
theorem vX5_cost {S : ai_S} {V : ai_V} {G : Int32 → ai_S → Prop}
    (h : G (S 9 2) S) :
    ai_met (uN l D ρ τ) d mX5_cost [.ref 0] S V (ai_qi V G) := by
  refine ai_mof plX5 (Nat.le_of_ble_eq_true rfl) (lv := [(0, .ref 0)]) rfl ?_
  refine ai_aload_n dX5_cost_0 rfl (j := 0) rfl ?_
  refine ai_getR dX5_cost_1 fdX5_27 rfl rfl ?_
  refine ai_getI dX5_cost_4 fdX5_64 rfl rfl ?_
  exact ai_reti dX5_cost_7 rfl h
set_option maxHeartbeats 4000000 in
set_option maxRecDepth 100000 in
theorem vX5_deepest {S : ai_S} {V : ai_V} {G : Int32 → ai_S → Prop}
    (h : G (S 10 6) S) :
    ai_met (uN l D ρ τ) d mX5_deepest [.ref 0] S V (ai_qi V G) := by
  refine ai_mof plX5 (Nat.le_of_ble_eq_true rfl) (lv := [(0, .ref 0)]) rfl ?_
  refine ai_aload_n dX5_deepest_0 rfl (j := 0) rfl ?_
  refine ai_getR dX5_deepest_1 fdX5_27 rfl rfl ?_
  refine ai_getR dX5_deepest_4 fdX5_67 rfl rfl ?_
  refine ai_getI dX5_deepest_7 fdX5_71 rfl rfl ?_
  exact ai_reti dX5_deepest_10 rfl h
set_option maxHeartbeats 4000000 in
set_option maxRecDepth 100000 in
theorem vX5_calls {S : ai_S} {V : ai_V} {G : Int32 → ai_S → Prop}
    (h : G (S 10 7) S) :
    ai_met (uN l D ρ τ) d mX5_calls [.ref 0] S V (ai_qi V G) := by
  refine ai_mof plX5 (Nat.le_of_ble_eq_true rfl) (lv := [(0, .ref 0)]) rfl ?_
  refine ai_aload_n dX5_calls_0 rfl (j := 0) rfl ?_
  refine ai_getR dX5_calls_1 fdX5_27 rfl rfl ?_
  refine ai_getR dX5_calls_4 fdX5_67 rfl rfl ?_
  refine ai_getI dX5_calls_7 fdX5_76 rfl rfl ?_
  exact ai_reti dX5_calls_10 rfl h
set_option maxHeartbeats 4000000 in
set_option maxRecDepth 100000 in
theorem vX5_about {p1 : Int32} {S : ai_S} {V : ai_V} {G : Int32 → ai_S → Prop} (hN : V 0 4 = .ref 20)
    (h : ((¬ (S 0 6) = 0 → ((p1 = 0 → G (S 20 6) S) ∧ (p1 = 1 → G (S 20 7) S) ∧ (p1 = 2 → G (S 20 8) S) ∧ (p1 = 3 → G (S 20 9) S) ∧ (¬ p1 = 0 ∧ ¬ p1 = 1 ∧ ¬ p1 = 2 ∧ ¬ p1 = 3 → G (-1) S))) ∧ ((S 0 6) = 0 → G (-1) S))) :
    ai_met (uN l D ρ τ) d mX5_about [.ref 0, .int p1] S V (ai_qi V G) := by
  refine ai_mof plX5 (Nat.le_of_ble_eq_true rfl) (lv := [(0, .ref 0), (1, .int p1)]) rfl ?_
  refine ai_aload_n dX5_about_0 rfl (j := 0) rfl ?_
  refine ai_getI dX5_about_1 fdX5_41 rfl rfl ?_
  refine ai_if_ne (tgt := 9) dX5_about_4 (by decide) ⟨fun (hc1 : ¬ (S 0 6) = 0) => ?_, fun (hc1 : (S 0 6) = 0) => ?_⟩
  · have h := h.1 hc1
    refine ai_iload_n dX5_about_9 rfl (j := 1) rfl ?_
    by_cases hs2 : p1 = 0
    · have h := h.1 hs2
      refine ai_tab (tgt := 40) 0 dX5_about_10 hs2 (by decide) (by decide) rfl (by decide) ?_
      refine ai_aload_n dX5_about_40 rfl (j := 0) rfl ?_
      refine ai_getV dX5_about_41 fdX5_34 rfl rfl ⟨hN, ?_⟩
      refine ai_getI dX5_about_44 fdX5_79 rfl rfl ?_
      exact ai_reti dX5_about_47 rfl h
    by_cases hs3 : p1 = 1
    · have h := h.2.1 hs3
      refine ai_tab (tgt := 48) 1 dX5_about_10 hs3 (by decide) (by decide) rfl (by decide) ?_
      refine ai_aload_n dX5_about_48 rfl (j := 0) rfl ?_
      refine ai_getV dX5_about_49 fdX5_34 rfl rfl ⟨hN, ?_⟩
      refine ai_getI dX5_about_52 fdX5_82 rfl rfl ?_
      exact ai_reti dX5_about_55 rfl h
    by_cases hs4 : p1 = 2
    · have h := h.2.2.1 hs4
      refine ai_tab (tgt := 56) 2 dX5_about_10 hs4 (by decide) (by decide) rfl (by decide) ?_
      refine ai_aload_n dX5_about_56 rfl (j := 0) rfl ?_
      refine ai_getV dX5_about_57 fdX5_34 rfl rfl ⟨hN, ?_⟩
      refine ai_getI dX5_about_60 fdX5_85 rfl rfl ?_
      exact ai_reti dX5_about_63 rfl h
    by_cases hs5 : p1 = 3
    · have h := h.2.2.2.1 hs5
      refine ai_tab (tgt := 64) 3 dX5_about_10 hs5 (by decide) (by decide) rfl (by decide) ?_
      refine ai_aload_n dX5_about_64 rfl (j := 0) rfl ?_
      refine ai_getV dX5_about_65 fdX5_34 rfl rfl ⟨hN, ?_⟩
      refine ai_getI dX5_about_68 fdX5_88 rfl rfl ?_
      exact ai_reti dX5_about_71 rfl h
    have h := h.2.2.2.2 ⟨hs2, hs3, hs4, hs5⟩
    refine ai_tabD (tgt := 72) [0, 1, 2, 3] dX5_about_10 (List.forall_mem_cons.mpr ⟨ai_swx 0 (by decide) hs2, List.forall_mem_cons.mpr ⟨ai_swx 1 (by decide) hs3, List.forall_mem_cons.mpr ⟨ai_swx 2 (by decide) hs4, List.forall_mem_cons.mpr ⟨ai_swx 3 (by decide) hs5, fun _ h => absurd h List.not_mem_nil⟩⟩⟩⟩) (by decide) (by decide) (by decide) ?_
    refine ai_iconst (v := (-1)) dX5_about_72 (by decide) ?_
    exact ai_reti dX5_about_73 rfl h
  · have h := h.2 hc1
    refine ai_iconst (v := (-1)) dX5_about_7 (by decide) ?_
    exact ai_reti dX5_about_8 rfl h
set_option maxHeartbeats 4000000 in
set_option maxRecDepth 100000 in
theorem vX5_run {p1 : Int32} {S : ai_S} {V : ai_V} {G : Int32 → ai_S → ai_V → Prop} (hN : V 0 4 = .ref 20)
    (h : ((¬ (S 0 6) = 0 → ((p1 < 0 → G (-2) S V) ∧ (¬ p1 < 0 → ((p1 ≤ 1000 → ai_met (uN l D ρ τ) d mX1_runProgram [.ref 9, .ref 20, .int p1] S V (ai_pi (fun x4 S5 V6 => V6 = (ai_uv V 9 0 (.ref 20)) ∧ G x4 S5 (ai_uv V 9 0 (.ref 20))))) ∧ (¬ p1 ≤ 1000 → G (-2) S V))))) ∧ ((S 0 6) = 0 → G (-1) S V))) :
    ai_met (uN l D ρ τ) (d + 1) mX5_run [.ref 0, .int p1] S V (ai_pi G) := by
  refine ai_mof plX5 (Nat.le_of_ble_eq_true rfl) (lv := [(0, .ref 0), (1, .int p1)]) rfl ?_
  refine ai_aload_n dX5_run_0 rfl (j := 0) rfl ?_
  refine ai_getI dX5_run_1 fdX5_41 rfl rfl ?_
  refine ai_if_ne (tgt := 9) dX5_run_4 (by decide) ⟨fun (hc1 : ¬ (S 0 6) = 0) => ?_, fun (hc1 : (S 0 6) = 0) => ?_⟩
  · have h := h.1 hc1
    refine ai_iload_n dX5_run_9 rfl (j := 1) rfl ?_
    refine ai_if_lt (tgt := 20) dX5_run_10 (by decide) ⟨fun (hc2 : p1 < 0) => ?_, fun (hc2 : ¬ p1 < 0) => ?_⟩
    · have h := h.1 hc2
      refine ai_bipush (v := (-2)) dX5_run_20 (by decide) ?_
      exact ai_retp dX5_run_22 rfl h
    · have h := h.2 hc2
      refine ai_iload_n dX5_run_13 rfl (j := 1) rfl ?_
      refine ai_sipush (v := 1000) dX5_run_14 (by decide) ?_
      refine ai_icmp_le (tgt := 23) dX5_run_17 (by decide) ⟨fun (hc3 : p1 ≤ 1000) => ?_, fun (hc3 : ¬ p1 ≤ 1000) => ?_⟩
      · have h := h.1 hc3
        refine ai_aload_n dX5_run_23 rfl (j := 0) rfl ?_
        refine ai_getR dX5_run_24 fdX5_27 rfl rfl ?_
        refine ai_aload_n dX5_run_27 rfl (j := 0) rfl ?_
        refine ai_getV dX5_run_28 fdX5_34 rfl rfl ⟨hN, ?_⟩
        refine ai_iload_n dX5_run_31 rfl (j := 1) rfl ?_
        refine ai_callVp (As := [.ref 20, .int p1]) (rest := []) dX5_run_32 cvX5_53 rfl rfl rfl (Nat.le_of_ble_eq_true rfl) (ai_met.mp h (fun x4 S5 V6 h => ?_))
        obtain ⟨hv, h⟩ := h
        subst hv
        exact ai_retp dX5_run_35 rfl h
      · have h := h.2 hc3
        refine ai_bipush (v := (-2)) dX5_run_20 (by decide) ?_
        exact ai_retp dX5_run_22 rfl h
  · have h := h.2 hc1
    refine ai_iconst (v := (-1)) dX5_run_7 (by decide) ?_
    exact ai_retp dX5_run_8 rfl h
set_option maxHeartbeats 4000000 in
set_option maxRecDepth 100000 in
theorem vX5_read {S : ai_S} {V : ai_V} {G : Int32 → ai_S → ai_V → Prop} (hN : V 0 4 = .ref 20) (hS : V 0 5 = .ref 26)
    (h : ai_met (uN l D ρ τ) d mX3_readInto [.ref 2, .ref 26, .ref 1, .int (S 0 1)] S V (ai_pi (fun x1 S2 V3 => V3 = (ai_uv (ai_uv V 2 3 (.ref 26)) 2 0 (.ref 1)) ∧ ((¬ x1 = 0 → G x1 S2 (ai_uv (ai_uv V 2 3 (.ref 26)) 2 0 (.ref 1))) ∧ (x1 = 0 → G x1 (ai_up S2 0 6 1) (ai_uv (ai_uv (ai_uv (ai_uv V 2 3 (.ref 26)) 2 0 (.ref 1)) 0 4 (.ref 26)) 0 5 (.ref 20))))))) :
    ai_met (uN l D ρ τ) (d + 1) mX5_read [.ref 0] S V (ai_pi G) := by
  refine ai_mof plX5 (Nat.le_of_ble_eq_true rfl) (lv := [(0, .ref 0)]) rfl ?_
  refine ai_aload_n dX5_read_0 rfl (j := 0) rfl ?_
  refine ai_getR dX5_read_1 fdX5_20 rfl rfl ?_
  refine ai_aload_n dX5_read_4 rfl (j := 0) rfl ?_
  refine ai_getV dX5_read_5 fdX5_38 rfl rfl ⟨hS, ?_⟩
  refine ai_aload_n dX5_read_8 rfl (j := 0) rfl ?_
  refine ai_getR dX5_read_9 fdX5_9 rfl rfl ?_
  refine ai_aload_n dX5_read_12 rfl (j := 0) rfl ?_
  refine ai_getI dX5_read_13 fdX5_13 rfl rfl ?_
  refine ai_callVp (As := [.ref 26, .ref 1, .int (S 0 1)]) (rest := []) dX5_read_16 cvX5_49 rfl rfl rfl (Nat.le_of_ble_eq_true rfl) (ai_met.mp h (fun x1 S2 V3 h => ?_))
  obtain ⟨hv, h⟩ := h
  subst hv
  refine ai_istore_n (lv' := [(1, .int x1), (0, .ref 0)]) dX5_read_19 rfl (by decide) rfl ?_
  refine ai_iload_n dX5_read_20 rfl (j := 0) rfl ?_
  refine ai_if_ne (tgt := 47) dX5_read_21 (by decide) ⟨fun (hc4 : ¬ x1 = 0) => ?_, fun (hc4 : x1 = 0) => ?_⟩
  · have h := h.1 hc4
    refine ai_iload_n dX5_read_47 rfl (j := 0) rfl ?_
    exact ai_retp dX5_read_48 rfl h
  · have h := h.2 hc4
    refine ai_aload_n dX5_read_24 rfl (j := 1) rfl ?_
    refine ai_getV dX5_read_25 fdX5_34 rfl rfl ⟨hN, ?_⟩
    refine ai_astore_n (lv' := [(2, .ref 20), (1, .int x1), (0, .ref 0)]) dX5_read_28 rfl (by decide) rfl ?_
    refine ai_aload_n dX5_read_29 rfl (j := 2) rfl ?_
    refine ai_aload_n dX5_read_30 rfl (j := 2) rfl ?_
    refine ai_getV dX5_read_31 fdX5_38 rfl rfl ⟨hS, ?_⟩
    refine ai_putV (v := .ref 26) dX5_read_34 fdX5_34 pdX5_4 rfl rfl rfl rfl ?_
    refine ai_aload_n dX5_read_37 rfl (j := 2) rfl ?_
    refine ai_aload_n dX5_read_38 rfl (j := 0) rfl ?_
    refine ai_putV (v := .ref 20) dX5_read_39 fdX5_38 pdX5_5 rfl rfl rfl rfl ?_
    refine ai_aload_n dX5_read_42 rfl (j := 2) rfl ?_
    refine ai_iconst (v := 1) dX5_read_43 (by decide) ?_
    refine ai_putI dX5_read_44 fdX5_41 pdX5_6 rfl rfl rfl rfl ?_
    refine ai_iload_n dX5_read_47 rfl (j := 1) rfl ?_
    exact ai_retp dX5_read_48 rfl h
end GC3
