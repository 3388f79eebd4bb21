section GC2
variable {l : Launch} {D : va_G} {ρ : Nat → Nat} {τ : Nat → ClassId} {d : Nat}
set_option maxHeartbeats 4000000 in
set_option maxRecDepth 100000 in
theorem vX1_pay {S : ai_S} {V : ai_V} {G : Bool → ai_S → Prop} (hM : V 9 0 = .ref 20)
    (h : (((S 9 2) < (S 9 1) → G true (ai_up S 9 2 ((S 9 2) + 1))) ∧ (¬ (S 9 2) < (S 9 1) → G false (ai_up S 9 3 1)))) :
    ai_met (uN l D ρ τ) d mX1_pay [.ref 9] S V (ai_qz V G) := by
  refine ai_mof plX1 (Nat.le_of_ble_eq_true rfl) (lv := [(0, .ref 9)]) rfl ?_
  refine ai_aload_n dX1_pay_0 rfl (j := 0) rfl ?_
  refine ai_getI dX1_pay_1 fdX1_39 rfl rfl ?_
  refine ai_aload_n dX1_pay_4 rfl (j := 0) rfl ?_
  refine ai_getI dX1_pay_5 fdX1_35 rfl rfl ?_
  refine ai_icmp_lt (tgt := 18) dX1_pay_8 (by decide) ⟨fun (hc1 : (S 9 2) < (S 9 1)) => ?_, fun (hc1 : ¬ (S 9 2) < (S 9 1)) => ?_⟩
  · have h := h.1 hc1
    refine ai_aload_n dX1_pay_18 rfl (j := 0) rfl ?_
    refine ai_dup dX1_pay_19 rfl ?_
    refine ai_getI dX1_pay_20 fdX1_39 rfl rfl ?_
    refine ai_iconst (v := 1) dX1_pay_23 (by decide) ?_
    refine ai_iadd dX1_pay_24 ?_
    refine ai_putI dX1_pay_25 fdX1_39 pdX1_2 rfl rfl rfl rfl ?_
    refine ai_iconst (v := 1) dX1_pay_28 (by decide) ?_
    exact ai_rett dX1_pay_29 rfl h
  · have h := h.2 hc1
    refine ai_aload_n dX1_pay_11 rfl (j := 0) rfl ?_
    refine ai_iconst (v := 1) dX1_pay_12 (by decide) ?_
    refine ai_putI dX1_pay_13 fdX1_42 pdX1_3 rfl rfl rfl rfl ?_
    refine ai_iconst (v := 0) dX1_pay_16 (by decide) ?_
    exact ai_retf dX1_pay_17 rfl h
set_option maxHeartbeats 4000000 in
set_option maxRecDepth 100000 in
theorem vX1_printValue {S : ai_S} {V : ai_V} {G : ai_S → Prop} (hM : V 9 0 = .ref 20)
    (h : (((S 9 14) < 32 → (vp_in (S 9 14) 32 ∧ G (ai_up (ai_up S 19 ((S 9 14)).toNatClampNeg (S 9 6)) 9 14 ((S 9 14) + 1)))) ∧ (¬ (S 9 14) < 32 → G (ai_up S 9 3 6)))) :
    ai_met (uN l D ρ τ) d mX1_printValue [.ref 9] S V (ai_qv V G) := by
  refine ai_mof plX1 (Nat.le_of_ble_eq_true rfl) (lv := [(0, .ref 9)]) rfl ?_
  refine ai_aload_n dX1_printValue_0 rfl (j := 0) rfl ?_
  refine ai_getI dX1_printValue_1 fdX1_63 rfl rfl ?_
  refine ai_bipush (v := 32) dX1_printValue_4 (by decide) ?_
  refine ai_icmp_lt (tgt := 16) dX1_printValue_6 (by decide) ⟨fun (hc1 : (S 9 14) < 32) => ?_, fun (hc1 : ¬ (S 9 14) < 32) => ?_⟩
  · have h := h.1 hc1
    refine ai_aload_n dX1_printValue_16 rfl (j := 0) rfl ?_
    refine ai_getR dX1_printValue_17 fdX1_28 rfl rfl ?_
    refine ai_aload_n dX1_printValue_20 rfl (j := 0) rfl ?_
    refine ai_getI dX1_printValue_21 fdX1_63 rfl rfl ?_
    refine ai_aload_n dX1_printValue_24 rfl (j := 0) rfl ?_
    refine ai_getI dX1_printValue_25 fdX1_51 rfl rfl ?_
    refine ai_iast dX1_printValue_28 rfl ⟨h.1, ?_⟩
    have hi2 := h.1
    have h := h.2
    refine ai_aload_n dX1_printValue_29 rfl (j := 0) rfl ?_
    refine ai_dup dX1_printValue_30 rfl ?_
    refine ai_getIx (S 9 14) dX1_printValue_31 fdX1_63 rfl rfl rfl ?_
    refine ai_iconst (v := 1) dX1_printValue_34 (by decide) ?_
    refine ai_iadd dX1_printValue_35 ?_
    refine ai_putI dX1_printValue_36 fdX1_63 pdX1_14 rfl rfl rfl rfl ?_
    exact ai_retv dX1_printValue_39 rfl h
  · have h := h.2 hc1
    refine ai_aload_n dX1_printValue_9 rfl (j := 0) rfl ?_
    refine ai_bipush (v := 6) dX1_printValue_10 (by decide) ?_
    refine ai_putI dX1_printValue_12 fdX1_42 pdX1_3 rfl rfl rfl rfl ?_
    exact ai_retv dX1_printValue_15 rfl h
set_option maxHeartbeats 4000000 in
set_option maxRecDepth 100000 in
theorem vX1_enterActual {p1 : Int32} {p2 : Int32} {S : ai_S} {V : ai_V} {G : ai_S → Prop} (hM : V 9 0 = .ref 20)
    (h : (¬ (S 9 10) < 0 ∧ ((S 9 10) < 30 ∧ (vp_in (S 9 10) 30 ∧ (¬ ((p1 * 31) + p2) < 0 ∧ (¬ 961 ≤ ((p1 * 31) + p2) ∧ (vp_in ((p1 * 31) + p2) 961 ∧ (¬ p1 < 0 ∧ (¬ 31 ≤ p1 ∧ (vp_in p1 31 ∧ G (ai_up (ai_up (ai_up (ai_up (ai_up S 16 ((S 9 10)).toNatClampNeg (S 9 4)) 17 ((S 9 10)).toNatClampNeg (S 9 5)) 9 10 ((S 9 10) + 1)) 9 4 ((S 11 (((p1 * 31) + p2)).toNatClampNeg) + 1)) 9 5 (S 13 (p1).toNatClampNeg)))))))))))) :
    ai_met (uN l D ρ τ) (d + 2) mX1_enterActual [.ref 9, .int p1, .int p2] S V (ai_qv V G) := by
  refine ai_mof plX1 (Nat.le_of_ble_eq_true rfl) (lv := [(0, .ref 9), (1, .int p1), (2, .int p2)]) rfl ?_
  refine ai_aload_n dX1_enterActual_0 rfl (j := 0) rfl ?_
  refine ai_getI dX1_enterActual_1 fdX1_57 rfl rfl ?_
  have hr1 : ¬ (S 9 10) < 0 := h.1
  have h := h.2
  refine ai_if_lt (tgt := 16) dX1_enterActual_4 (by decide) ⟨fun hc => absurd hc hr1, fun _ => ?_⟩
  refine ai_aload_n dX1_enterActual_7 rfl (j := 0) rfl ?_
  refine ai_getI dX1_enterActual_8 fdX1_57 rfl rfl ?_
  refine ai_bipush (v := 30) dX1_enterActual_11 (by decide) ?_
  have hr2 : (S 9 10) < 30 := h.1
  have h := h.2
  refine ai_icmp_lt (tgt := 22) dX1_enterActual_13 (by decide) ⟨fun _ => ?_, fun hc => absurd hr2 hc⟩
  refine ai_aload_n dX1_enterActual_22 rfl (j := 0) rfl ?_
  refine ai_getR dX1_enterActual_23 fdX1_18 rfl rfl ?_
  refine ai_aload_n dX1_enterActual_26 rfl (j := 0) rfl ?_
  refine ai_getI dX1_enterActual_27 fdX1_57 rfl rfl ?_
  refine ai_aload_n dX1_enterActual_30 rfl (j := 0) rfl ?_
  refine ai_getI dX1_enterActual_31 fdX1_45 rfl rfl ?_
  refine ai_iast dX1_enterActual_34 rfl ⟨h.1, ?_⟩
  have hi3 := h.1
  have h := h.2
  refine ai_aload_n dX1_enterActual_35 rfl (j := 0) rfl ?_
  refine ai_getR dX1_enterActual_36 fdX1_22 rfl rfl ?_
  refine ai_aload_n dX1_enterActual_39 rfl (j := 0) rfl ?_
  refine ai_getIx (S 9 10) dX1_enterActual_40 fdX1_57 rfl rfl rfl ?_
  refine ai_aload_n dX1_enterActual_43 rfl (j := 0) rfl ?_
  refine ai_getIx (S 9 5) dX1_enterActual_44 fdX1_48 rfl rfl rfl ?_
  refine ai_iast dX1_enterActual_47 rfl ⟨hi3, ?_⟩
  refine ai_aload_n dX1_enterActual_48 rfl (j := 0) rfl ?_
  refine ai_dup dX1_enterActual_49 rfl ?_
  refine ai_getIx (S 9 10) dX1_enterActual_50 fdX1_57 rfl rfl rfl ?_
  refine ai_iconst (v := 1) dX1_enterActual_53 (by decide) ?_
  refine ai_iadd dX1_enterActual_54 ?_
  refine ai_putI dX1_enterActual_55 fdX1_57 pdX1_10 rfl rfl rfl rfl ?_
  refine ai_aload_n dX1_enterActual_58 rfl (j := 0) rfl ?_
  refine ai_aload_n dX1_enterActual_59 rfl (j := 0) rfl ?_
  refine ai_getR dX1_enterActual_60 fdX1_12 rfl rfl ?_
  refine ai_aload_n dX1_enterActual_63 rfl (j := 0) rfl ?_
  refine ai_getR dX1_enterActual_64 fdX1_12 rfl rfl ?_
  refine ai_iload_n dX1_enterActual_67 rfl (j := 1) rfl ?_
  refine ai_iload_n dX1_enterActual_68 rfl (j := 2) rfl ?_
  refine ai_callVi (As := [.int p1, .int p2]) (rest := [.ref 10, .ref 9]) dX1_enterActual_69 cvX1_112 rfl rfl rfl (Nat.le_of_ble_eq_true rfl) (vX0_addressOf ?_)
  show ai_W _ _ _ _ _ (.int ((p1 * 31) + p2) :: _) (ai_up (ai_up (ai_up S 16 ((S 9 10)).toNatClampNeg (S 9 4)) 17 ((S 9 10)).toNatClampNeg (S 9 5)) 9 10 ((S 9 10) + 1)) _ _
  refine ai_callVi (As := [.int ((p1 * 31) + p2)]) (rest := [.ref 9]) dX1_enterActual_72 cvX1_140 rfl rfl rfl (Nat.le_of_ble_eq_true rfl) (vX0_valueAt ?_)
  have hr4 : ¬ ((p1 * 31) + p2) < 0 := h.1
  have h := h.2
  refine ⟨hr4, ?_⟩
  have hr5 : ¬ 961 ≤ ((p1 * 31) + p2) := h.1
  have h := h.2
  refine ⟨hr5, ?_⟩
  refine ⟨h.1, ?_⟩
  have hi6 := h.1
  have h := h.2
  show ai_W _ _ _ _ _ (.int (S 11 (((p1 * 31) + p2)).toNatClampNeg) :: _) (ai_up (ai_up (ai_up S 16 ((S 9 10)).toNatClampNeg (S 9 4)) 17 ((S 9 10)).toNatClampNeg (S 9 5)) 9 10 ((S 9 10) + 1)) _ _
  refine ai_iconst (v := 1) dX1_enterActual_75 (by decide) ?_
  refine ai_iadd dX1_enterActual_76 ?_
  refine ai_putI dX1_enterActual_77 fdX1_45 pdX1_4 rfl rfl rfl rfl ?_
  refine ai_aload_n dX1_enterActual_80 rfl (j := 0) rfl ?_
  refine ai_aload_n dX1_enterActual_81 rfl (j := 0) rfl ?_
  refine ai_getR dX1_enterActual_82 fdX1_12 rfl rfl ?_
  refine ai_iload_n dX1_enterActual_85 rfl (j := 1) rfl ?_
  refine ai_callVi (As := [.int p1]) (rest := [.ref 9]) dX1_enterActual_86 cvX1_143 rfl rfl rfl (Nat.le_of_ble_eq_true rfl) (vX0_callerOf ?_)
  have hr7 : ¬ p1 < 0 := h.1
  have h := h.2
  refine ⟨hr7, ?_⟩
  have hr8 : ¬ 31 ≤ p1 := h.1
  have h := h.2
  refine ⟨hr8, ?_⟩
  refine ⟨h.1, ?_⟩
  have hi9 := h.1
  have h := h.2
  show ai_W _ _ _ _ _ (.int (S 13 (p1).toNatClampNeg) :: _) (ai_up (ai_up (ai_up (ai_up S 16 ((S 9 10)).toNatClampNeg (S 9 4)) 17 ((S 9 10)).toNatClampNeg (S 9 5)) 9 10 ((S 9 10) + 1)) 9 4 ((S 11 (((p1 * 31) + p2)).toNatClampNeg) + 1)) _ _
  refine ai_putI dX1_enterActual_89 fdX1_48 pdX1_5 rfl rfl rfl rfl ?_
  exact ai_retv dX1_enterActual_92 rfl h
set_option maxHeartbeats 4000000 in
set_option maxRecDepth 100000 in
theorem vX1_leaveActual {S : ai_S} {V : ai_V} {G : ai_S → Prop} (hM : V 9 0 = .ref 20)
    (h : (¬ (S 9 10) ≤ 0 ∧ (¬ 30 < (S 9 10) ∧ (vp_in ((S 9 10) - 1) 30 ∧ G (ai_up (ai_up (ai_up S 9 10 ((S 9 10) - 1)) 9 4 (S 16 (((S 9 10) - 1)).toNatClampNeg)) 9 5 (S 17 (((S 9 10) - 1)).toNatClampNeg)))))) :
    ai_met (uN l D ρ τ) d mX1_leaveActual [.ref 9] S V (ai_qv V G) := by
  refine ai_mof plX1 (Nat.le_of_ble_eq_true rfl) (lv := [(0, .ref 9)]) rfl ?_
  refine ai_aload_n dX1_leaveActual_0 rfl (j := 0) rfl ?_
  refine ai_getI dX1_leaveActual_1 fdX1_57 rfl rfl ?_
  have hr1 : ¬ (S 9 10) ≤ 0 := h.1
  have h := h.2
  refine ai_if_le (tgt := 52) dX1_leaveActual_4 (by decide) ⟨fun hc => absurd hc hr1, fun _ => ?_⟩
  refine ai_aload_n dX1_leaveActual_7 rfl (j := 0) rfl ?_
  refine ai_getI dX1_leaveActual_8 fdX1_57 rfl rfl ?_
  refine ai_bipush (v := 30) dX1_leaveActual_11 (by decide) ?_
  have hr2 : ¬ 30 < (S 9 10) := h.1
  have h := h.2
  refine ai_icmp_gt (tgt := 52) dX1_leaveActual_13 (by decide) ⟨fun hc => absurd hc hr2, fun _ => ?_⟩
  refine ai_aload_n dX1_leaveActual_16 rfl (j := 0) rfl ?_
  refine ai_dup dX1_leaveActual_17 rfl ?_
  refine ai_getI dX1_leaveActual_18 fdX1_57 rfl rfl ?_
  refine ai_iconst (v := 1) dX1_leaveActual_21 (by decide) ?_
  refine ai_isub dX1_leaveActual_22 ?_
  refine ai_putI dX1_leaveActual_23 fdX1_57 pdX1_10 rfl rfl rfl rfl ?_
  refine ai_aload_n dX1_leaveActual_26 rfl (j := 0) rfl ?_
  refine ai_aload_n dX1_leaveActual_27 rfl (j := 0) rfl ?_
  refine ai_getR dX1_leaveActual_28 fdX1_18 rfl rfl ?_
  refine ai_aload_n dX1_leaveActual_31 rfl (j := 0) rfl ?_
  refine ai_getIx ((S 9 10) - 1) dX1_leaveActual_32 fdX1_57 rfl rfl rfl ?_
  refine ai_ialdx (S 16 (((S 9 10) - 1)).toNatClampNeg) dX1_leaveActual_35 rfl rfl ⟨h.1, ?_⟩
  have hi3 := h.1
  have h := h.2
  refine ai_putI dX1_leaveActual_36 fdX1_45 pdX1_4 rfl rfl rfl rfl ?_
  refine ai_aload_n dX1_leaveActual_39 rfl (j := 0) rfl ?_
  refine ai_aload_n dX1_leaveActual_40 rfl (j := 0) rfl ?_
  refine ai_getR dX1_leaveActual_41 fdX1_22 rfl rfl ?_
  refine ai_aload_n dX1_leaveActual_44 rfl (j := 0) rfl ?_
  refine ai_getIx ((S 9 10) - 1) dX1_leaveActual_45 fdX1_57 rfl rfl rfl ?_
  refine ai_ialdx (S 17 (((S 9 10) - 1)).toNatClampNeg) dX1_leaveActual_48 rfl rfl ⟨hi3, ?_⟩
  refine ai_putI dX1_leaveActual_49 fdX1_48 pdX1_5 rfl rfl rfl rfl ?_
  exact ai_retv dX1_leaveActual_52 rfl h
set_option maxHeartbeats 4000000 in
set_option maxRecDepth 100000 in
theorem vX1_leaveCall {S : ai_S} {V : ai_V} {G : ai_S → Prop} (hM : V 9 0 = .ref 20)
    (h : (¬ (((S 10 5) * 31) + 0) < 0 ∧ (¬ 961 ≤ (((S 10 5) * 31) + 0) ∧ (vp_in (((S 10 5) * 31) + 0) 961 ∧ (¬ (S 10 5) < 0 ∧ (¬ 31 ≤ (S 10 5) ∧ (vp_in (S 10 5) 31 ∧ (¬ (S 10 5) ≤ 0 ∧ G (ai_up (ai_up (ai_up (ai_up S 9 6 (S 11 ((((S 10 5) * 31) + 0)).toNatClampNeg)) 9 4 (S 14 ((S 10 5)).toNatClampNeg)) 9 5 (S 13 ((S 10 5)).toNatClampNeg)) 10 5 ((S 10 5) - 1)))))))))) :
    ai_met (uN l D ρ τ) (d + 2) mX1_leaveCall [.ref 9] S V (ai_qv V G) := by
  refine ai_mof plX1 (Nat.le_of_ble_eq_true rfl) (lv := [(0, .ref 9)]) rfl ?_
  refine ai_aload_n dX1_leaveCall_0 rfl (j := 0) rfl ?_
  refine ai_getR dX1_leaveCall_1 fdX1_12 rfl rfl ?_
  refine ai_getI dX1_leaveCall_4 fdX1_159 rfl rfl ?_
  refine ai_istore_n (lv' := [(1, .int (S 10 5)), (0, .ref 9)]) dX1_leaveCall_7 rfl (by decide) rfl ?_
  refine ai_aload_n dX1_leaveCall_8 rfl (j := 1) rfl ?_
  refine ai_aload_n dX1_leaveCall_9 rfl (j := 1) rfl ?_
  refine ai_getR dX1_leaveCall_10 fdX1_12 rfl rfl ?_
  refine ai_aload_n dX1_leaveCall_13 rfl (j := 1) rfl ?_
  refine ai_getR dX1_leaveCall_14 fdX1_12 rfl rfl ?_
  refine ai_iload_n dX1_leaveCall_17 rfl (j := 0) rfl ?_
  refine ai_iconst (v := 0) dX1_leaveCall_18 (by decide) ?_
  refine ai_callVi (As := [.int (S 10 5), .int 0]) (rest := [.ref 10, .ref 9]) dX1_leaveCall_19 cvX1_112 rfl rfl rfl (Nat.le_of_ble_eq_true rfl) (vX0_addressOf ?_)
  show ai_W _ _ _ _ _ (.int (((S 10 5) * 31) + 0) :: _) S _ _
  refine ai_callVi (As := [.int (((S 10 5) * 31) + 0)]) (rest := [.ref 9]) dX1_leaveCall_22 cvX1_140 rfl rfl rfl (Nat.le_of_ble_eq_true rfl) (vX0_valueAt ?_)
  have hr1 : ¬ (((S 10 5) * 31) + 0) < 0 := h.1
  have h := h.2
  refine ⟨hr1, ?_⟩
  have hr2 : ¬ 961 ≤ (((S 10 5) * 31) + 0) := h.1
  have h := h.2
  refine ⟨hr2, ?_⟩
  refine ⟨h.1, ?_⟩
  have hi3 := h.1
  have h := h.2
  show ai_W _ _ _ _ _ (.int (S 11 ((((S 10 5) * 31) + 0)).toNatClampNeg) :: _) S _ _
  refine ai_putI dX1_leaveCall_25 fdX1_51 pdX1_6 rfl rfl rfl rfl ?_
  refine ai_aload_n dX1_leaveCall_28 rfl (j := 1) rfl ?_
  refine ai_aload_n dX1_leaveCall_29 rfl (j := 1) rfl ?_
  refine ai_getR dX1_leaveCall_30 fdX1_12 rfl rfl ?_
  refine ai_iload_n dX1_leaveCall_33 rfl (j := 0) rfl ?_
  refine ai_callVi (As := [.int (S 10 5)]) (rest := [.ref 9]) dX1_leaveCall_34 cvX1_168 rfl rfl rfl (Nat.le_of_ble_eq_true rfl) (vX0_returnOf ?_)
  have hr4 : ¬ (S 10 5) < 0 := h.1
  have h := h.2
  refine ⟨hr4, ?_⟩
  have hr5 : ¬ 31 ≤ (S 10 5) := h.1
  have h := h.2
  refine ⟨hr5, ?_⟩
  refine ⟨h.1, ?_⟩
  have hi6 := h.1
  have h := h.2
  show ai_W _ _ _ _ _ (.int (S 14 ((S 10 5)).toNatClampNeg) :: _) (ai_up S 9 6 (S 11 ((((S 10 5) * 31) + 0)).toNatClampNeg)) _ _
  refine ai_putI dX1_leaveCall_37 fdX1_45 pdX1_4 rfl rfl rfl rfl ?_
  refine ai_aload_n dX1_leaveCall_40 rfl (j := 1) rfl ?_
  refine ai_aload_n dX1_leaveCall_41 rfl (j := 1) rfl ?_
  refine ai_getR dX1_leaveCall_42 fdX1_12 rfl rfl ?_
  refine ai_iload_n dX1_leaveCall_45 rfl (j := 0) rfl ?_
  refine ai_callVi (As := [.int (S 10 5)]) (rest := [.ref 9]) dX1_leaveCall_46 cvX1_143 rfl rfl rfl (Nat.le_of_ble_eq_true rfl) (vX0_callerOf ?_)
  refine ⟨hr4, ?_⟩
  refine ⟨hr5, ?_⟩
  refine ⟨hi6, ?_⟩
  show ai_W _ _ _ _ _ (.int (S 13 ((S 10 5)).toNatClampNeg) :: _) (ai_up (ai_up S 9 6 (S 11 ((((S 10 5) * 31) + 0)).toNatClampNeg)) 9 4 (S 14 ((S 10 5)).toNatClampNeg)) _ _
  refine ai_putI dX1_leaveCall_49 fdX1_48 pdX1_5 rfl rfl rfl rfl ?_
  refine ai_aload_n dX1_leaveCall_52 rfl (j := 1) rfl ?_
  refine ai_getR dX1_leaveCall_53 fdX1_12 rfl rfl ?_
  refine ai_callVv (As := []) (rest := []) dX1_leaveCall_56 cvX1_171 rfl rfl rfl (Nat.le_of_ble_eq_true rfl) (vX0_close ?_)
  have hr7 : ¬ (S 10 5) ≤ 0 := h.1
  have h := h.2
  refine ⟨hr7, ?_⟩
  show ai_W _ _ _ _ _ _ (ai_up (ai_up (ai_up (ai_up S 9 6 (S 11 ((((S 10 5) * 31) + 0)).toNatClampNeg)) 9 4 (S 14 ((S 10 5)).toNatClampNeg)) 9 5 (S 13 ((S 10 5)).toNatClampNeg)) 10 5 ((S 10 5) - 1)) _ _
  exact ai_retv dX1_leaveCall_59 rfl h
set_option maxHeartbeats 4000000 in
set_option maxRecDepth 100000 in
theorem vX1_beginToWait {S : ai_S} {V : ai_V} {G : ai_S → Prop} (hM : V 9 0 = .ref 20)
    (h : (¬ (S 9 12) < 0 ∧ (((S 9 12) < 100 → (vp_in (S 9 12) 100 ∧ G (ai_up (ai_up S 18 ((S 9 12)).toNatClampNeg (S 9 6)) 9 12 ((S 9 12) + 1)))) ∧ (¬ (S 9 12) < 100 → G (ai_up S 9 3 7))))) :
    ai_met (uN l D ρ τ) d mX1_beginToWait [.ref 9] S V (ai_qv V G) := by
  refine ai_mof plX1 (Nat.le_of_ble_eq_true rfl) (lv := [(0, .ref 9)]) rfl ?_
  refine ai_aload_n dX1_beginToWait_0 rfl (j := 0) rfl ?_
  refine ai_getI dX1_beginToWait_1 fdX1_60 rfl rfl ?_
  have hr1 : ¬ (S 9 12) < 0 := h.1
  have h := h.2
  refine ai_if_lt (tgt := 16) dX1_beginToWait_4 (by decide) ⟨fun hc => absurd hc hr1, fun _ => ?_⟩
  refine ai_aload_n dX1_beginToWait_7 rfl (j := 0) rfl ?_
  refine ai_getI dX1_beginToWait_8 fdX1_60 rfl rfl ?_
  refine ai_bipush (v := 100) dX1_beginToWait_11 (by decide) ?_
  refine ai_icmp_lt (tgt := 23) dX1_beginToWait_13 (by decide) ⟨fun (hc2 : (S 9 12) < 100) => ?_, fun (hc2 : ¬ (S 9 12) < 100) => ?_⟩
  · have h := h.1 hc2
    refine ai_aload_n dX1_beginToWait_23 rfl (j := 0) rfl ?_
    refine ai_getR dX1_beginToWait_24 fdX1_25 rfl rfl ?_
    refine ai_aload_n dX1_beginToWait_27 rfl (j := 0) rfl ?_
    refine ai_getI dX1_beginToWait_28 fdX1_60 rfl rfl ?_
    refine ai_aload_n dX1_beginToWait_31 rfl (j := 0) rfl ?_
    refine ai_getI dX1_beginToWait_32 fdX1_51 rfl rfl ?_
    refine ai_iast dX1_beginToWait_35 rfl ⟨h.1, ?_⟩
    have hi3 := h.1
    have h := h.2
    refine ai_aload_n dX1_beginToWait_36 rfl (j := 0) rfl ?_
    refine ai_dup dX1_beginToWait_37 rfl ?_
    refine ai_getIx (S 9 12) dX1_beginToWait_38 fdX1_60 rfl rfl rfl ?_
    refine ai_iconst (v := 1) dX1_beginToWait_41 (by decide) ?_
    refine ai_iadd dX1_beginToWait_42 ?_
    refine ai_putI dX1_beginToWait_43 fdX1_60 pdX1_12 rfl rfl rfl rfl ?_
    exact ai_retv dX1_beginToWait_46 rfl h
  · have h := h.2 hc2
    refine ai_aload_n dX1_beginToWait_16 rfl (j := 0) rfl ?_
    refine ai_bipush (v := 7) dX1_beginToWait_17 (by decide) ?_
    refine ai_putI dX1_beginToWait_19 fdX1_42 pdX1_3 rfl rfl rfl rfl ?_
    exact ai_retv dX1_beginToWait_22 rfl h
set_option maxHeartbeats 4000000 in
set_option maxRecDepth 100000 in
theorem vX1_operate {p1 : Int32} {S : ai_S} {V : ai_V} {G : ai_S → Prop} (hM : V 9 0 = .ref 20)
    (h : ((¬ p1 = 18 → (¬ (S 9 12) ≤ 0 ∧ ((S 9 12) ≤ 100 ∧ (vp_in ((S 9 12) - 1) 100 ∧ ((¬ p1 = 19 → ((¬ p1 = 20 → ((¬ p1 = 21 → (((S 9 6) ≤ (S 18 (((S 9 12) - 1)).toNatClampNeg) → G (ai_up (ai_up S 9 12 ((S 9 12) - 1)) 9 6 0)) ∧ (¬ (S 9 6) ≤ (S 18 (((S 9 12) - 1)).toNatClampNeg) → G (ai_up (ai_up S 9 12 ((S 9 12) - 1)) 9 6 1)))) ∧ (p1 = 21 → G (ai_up (ai_up S 9 12 ((S 9 12) - 1)) 9 6 ((S 18 (((S 9 12) - 1)).toNatClampNeg) * (S 9 6)))))) ∧ (p1 = 20 → G (ai_up (ai_up S 9 12 ((S 9 12) - 1)) 9 6 ((S 18 (((S 9 12) - 1)).toNatClampNeg) - (S 9 6)))))) ∧ (p1 = 19 → G (ai_up (ai_up S 9 12 ((S 9 12) - 1)) 9 6 ((S 18 (((S 9 12) - 1)).toNatClampNeg) + (S 9 6))))))))) ∧ (p1 = 18 → (¬ (S 9 12) < 0 ∧ (((S 9 12) < 100 → (vp_in (S 9 12) 100 ∧ G (ai_up (ai_up S 18 ((S 9 12)).toNatClampNeg (S 9 6)) 9 12 ((S 9 12) + 1)))) ∧ (¬ (S 9 12) < 100 → G (ai_up S 9 3 7))))))) :
    ai_met (uN l D ρ τ) (d + 1) mX1_operate [.ref 9, .int p1] S V (ai_qv V G) := by
  refine ai_mof plX1 (Nat.le_of_ble_eq_true rfl) (lv := [(0, .ref 9), (1, .int p1)]) rfl ?_
  refine ai_iload_n dX1_operate_0 rfl (j := 1) rfl ?_
  refine ai_bipush (v := 18) dX1_operate_1 (by decide) ?_
  refine ai_icmp_ne (tgt := 11) dX1_operate_3 (by decide) ⟨fun (hc1 : ¬ p1 = 18) => ?_, fun (hc1 : p1 = 18) => ?_⟩
  · have h := h.1 hc1
    refine ai_aload_n dX1_operate_11 rfl (j := 0) rfl ?_
    refine ai_getI dX1_operate_12 fdX1_60 rfl rfl ?_
    have hr2 : ¬ (S 9 12) ≤ 0 := h.1
    have h := h.2
    refine ai_if_le (tgt := 27) dX1_operate_15 (by decide) ⟨fun hc => absurd hc hr2, fun _ => ?_⟩
    refine ai_aload_n dX1_operate_18 rfl (j := 0) rfl ?_
    refine ai_getI dX1_operate_19 fdX1_60 rfl rfl ?_
    refine ai_bipush (v := 100) dX1_operate_22 (by decide) ?_
    have hr3 : (S 9 12) ≤ 100 := h.1
    have h := h.2
    refine ai_icmp_le (tgt := 28) dX1_operate_24 (by decide) ⟨fun _ => ?_, fun hc => absurd hr3 hc⟩
    refine ai_aload_n dX1_operate_28 rfl (j := 0) rfl ?_
    refine ai_dup dX1_operate_29 rfl ?_
    refine ai_getI dX1_operate_30 fdX1_60 rfl rfl ?_
    refine ai_iconst (v := 1) dX1_operate_33 (by decide) ?_
    refine ai_isub dX1_operate_34 ?_
    refine ai_putI dX1_operate_35 fdX1_60 pdX1_12 rfl rfl rfl rfl ?_
    refine ai_aload_n dX1_operate_38 rfl (j := 0) rfl ?_
    refine ai_getR dX1_operate_39 fdX1_25 rfl rfl ?_
    refine ai_aload_n dX1_operate_42 rfl (j := 0) rfl ?_
    refine ai_getIx ((S 9 12) - 1) dX1_operate_43 fdX1_60 rfl rfl rfl ?_
    refine ai_ialdx (S 18 (((S 9 12) - 1)).toNatClampNeg) dX1_operate_46 rfl rfl ⟨h.1, ?_⟩
    have hi4 := h.1
    have h := h.2
    refine ai_istore_n (lv' := [(2, .int (S 18 (((S 9 12) - 1)).toNatClampNeg)), (0, .ref 9), (1, .int p1)]) dX1_operate_47 rfl (by decide) rfl ?_
    refine ai_iload_n dX1_operate_48 rfl (j := 2) rfl ?_
    refine ai_bipush (v := 19) dX1_operate_49 (by decide) ?_
    refine ai_icmp_ne (tgt := 67) dX1_operate_51 (by decide) ⟨fun (hc5 : ¬ p1 = 19) => ?_, fun (hc5 : p1 = 19) => ?_⟩
    · have h := h.1 hc5
      refine ai_iload_n dX1_operate_67 rfl (j := 2) rfl ?_
      refine ai_bipush (v := 20) dX1_operate_68 (by decide) ?_
      refine ai_icmp_ne (tgt := 86) dX1_operate_70 (by decide) ⟨fun (hc6 : ¬ p1 = 20) => ?_, fun (hc6 : p1 = 20) => ?_⟩
      · have h := h.1 hc6
        refine ai_iload_n dX1_operate_86 rfl (j := 2) rfl ?_
        refine ai_bipush (v := 21) dX1_operate_87 (by decide) ?_
        refine ai_icmp_ne (tgt := 105) dX1_operate_89 (by decide) ⟨fun (hc7 : ¬ p1 = 21) => ?_, fun (hc7 : p1 = 21) => ?_⟩
        · have h := h.1 hc7
          refine ai_aload_n dX1_operate_105 rfl (j := 1) rfl ?_
          refine ai_iload_n dX1_operate_106 rfl (j := 0) rfl ?_
          refine ai_aload_n dX1_operate_107 rfl (j := 1) rfl ?_
          refine ai_getIx (S 9 6) dX1_operate_108 fdX1_51 rfl rfl rfl ?_
          refine ai_icmp_ge (tgt := 118) dX1_operate_111 (by decide) ⟨fun (hc8 : (S 9 6) ≤ (S 18 (((S 9 12) - 1)).toNatClampNeg)) => ?_, fun (hc8 : ¬ (S 9 6) ≤ (S 18 (((S 9 12) - 1)).toNatClampNeg)) => ?_⟩
          · have h := h.1 hc8
            refine ai_iconst (v := 0) dX1_operate_118 (by decide) ?_
            refine ai_putI dX1_operate_119 fdX1_51 pdX1_6 rfl rfl rfl rfl ?_
            exact ai_retv dX1_operate_122 rfl h
          · have h := h.2 hc8
            refine ai_iconst (v := 1) dX1_operate_114 (by decide) ?_
            refine ai_goto (tgt := 119) dX1_operate_115 (by decide) ?_
            refine ai_putI dX1_operate_119 fdX1_51 pdX1_6 rfl rfl rfl rfl ?_
            exact ai_retv dX1_operate_122 rfl h
        · have h := h.2 hc7
          refine ai_aload_n dX1_operate_92 rfl (j := 1) rfl ?_
          refine ai_iload_n dX1_operate_93 rfl (j := 0) rfl ?_
          refine ai_aload_n dX1_operate_94 rfl (j := 1) rfl ?_
          refine ai_getIx (S 9 6) dX1_operate_95 fdX1_51 rfl rfl rfl ?_
          refine ai_imul dX1_operate_98 ?_
          refine ai_putI dX1_operate_99 fdX1_51 pdX1_6 rfl rfl rfl rfl ?_
          refine ai_goto (tgt := 122) dX1_operate_102 (by decide) ?_
          exact ai_retv dX1_operate_122 rfl h
      · have h := h.2 hc6
        refine ai_aload_n dX1_operate_73 rfl (j := 1) rfl ?_
        refine ai_iload_n dX1_operate_74 rfl (j := 0) rfl ?_
        refine ai_aload_n dX1_operate_75 rfl (j := 1) rfl ?_
        refine ai_getIx (S 9 6) dX1_operate_76 fdX1_51 rfl rfl rfl ?_
        refine ai_isub dX1_operate_79 ?_
        refine ai_putI dX1_operate_80 fdX1_51 pdX1_6 rfl rfl rfl rfl ?_
        refine ai_goto (tgt := 122) dX1_operate_83 (by decide) ?_
        exact ai_retv dX1_operate_122 rfl h
    · have h := h.2 hc5
      refine ai_aload_n dX1_operate_54 rfl (j := 1) rfl ?_
      refine ai_iload_n dX1_operate_55 rfl (j := 0) rfl ?_
      refine ai_aload_n dX1_operate_56 rfl (j := 1) rfl ?_
      refine ai_getIx (S 9 6) dX1_operate_57 fdX1_51 rfl rfl rfl ?_
      refine ai_iadd dX1_operate_60 ?_
      refine ai_putI dX1_operate_61 fdX1_51 pdX1_6 rfl rfl rfl rfl ?_
      refine ai_goto (tgt := 122) dX1_operate_64 (by decide) ?_
      exact ai_retv dX1_operate_122 rfl h
  · have h := h.2 hc1
    refine ai_aload_n dX1_operate_6 rfl (j := 0) rfl ?_
    refine ai_callVv (As := []) (rest := []) dX1_operate_7 cvX1_174 rfl rfl rfl (Nat.le_of_ble_eq_true rfl) (vX1_beginToWait hM ?_)
    have hr9 : ¬ (S 9 12) < 0 := h.1
    have h := h.2
    refine ⟨hr9, ?_⟩
    refine ⟨fun (hc10 : (S 9 12) < 100) => ?_, fun (hc10 : ¬ (S 9 12) < 100) => ?_⟩
    · have h := h.1 hc10
      refine ⟨h.1, ?_⟩
      have hi11 := h.1
      have h := h.2
      show ai_W _ _ _ _ _ _ (ai_up (ai_up S 18 ((S 9 12)).toNatClampNeg (S 9 6)) 9 12 ((S 9 12) + 1)) _ _
      exact ai_retv dX1_operate_10 rfl h
    · have h := h.2 hc10
      show ai_W _ _ _ _ _ _ (ai_up S 9 3 7) _ _
      exact ai_retv dX1_operate_10 rfl h
set_option maxHeartbeats 4000000 in
set_option maxRecDepth 100000 in
theorem vX1_beginBlock {p1 : Int32} {p2 : Int32} {S : ai_S} {V : ai_V} {G : ai_S → Prop} (hM : V 9 0 = .ref 20)
    (h : (((S 9 2) < (S 9 1) → ai_W (uN l D ρ τ) (d + 1) mX1_beginBlock 10 [(0, .ref 9), (1, .int p1), (2, .int p2), (3, .int 0)] [] (ai_up S 9 2 ((S 9 2) + 1)) V (ai_qv V G)) ∧ (¬ (S 9 2) < (S 9 1) → G (ai_up S 9 3 1)))) :
    ai_met (uN l D ρ τ) (d + 1) mX1_beginBlock [.ref 9, .int p1, .int p2] S V (ai_qv V G) := by
  refine ai_mof plX1 (Nat.le_of_ble_eq_true rfl) (lv := [(0, .ref 9), (1, .int p1), (2, .int p2)]) rfl ?_
  refine ai_aload_n dX1_beginBlock_0 rfl (j := 0) rfl ?_
  refine ai_callVz (As := []) (rest := []) dX1_beginBlock_1 cvX1_101 rfl rfl rfl (Nat.le_of_ble_eq_true rfl) (vX1_pay hM ?_)
  refine ⟨fun (hc1 : (S 9 2) < (S 9 1)) => ?_, fun (hc1 : ¬ (S 9 2) < (S 9 1)) => ?_⟩
  · have h := h.1 hc1
    refine ai_zt ?_
    refine ai_if_ne (tgt := 8) dX1_beginBlock_4 (by decide) ⟨fun _ => ?_, fun hc => absurd hc (by decide)⟩
    refine ai_iconst (v := 0) dX1_beginBlock_8 (by decide) ?_
    refine ai_istore_n (lv' := [(3, .int 0), (0, .ref 9), (1, .int p1), (2, .int p2)]) dX1_beginBlock_9 rfl (by decide) rfl ?_
    refine ai_locj (lv' := [(0, .ref 9), (1, .int p1), (2, .int p2), (3, .int 0)]) [1, 2, 3, 0] rfl ?_
    exact h
  · have h := h.2 hc1
    refine ai_zf ?_
    refine ai_if_ne (tgt := 8) dX1_beginBlock_4 (by decide) ⟨fun hc => absurd hc (by decide), fun _ => ?_⟩
    exact ai_retv dX1_beginBlock_7 rfl h
set_option maxHeartbeats 4000000 in
set_option maxRecDepth 100000 in
theorem vX1_beginBlock_10 {p1 : Int32} {p2 : Int32} {j : Int32} {S : ai_S} {V : ai_V} {G : ai_S → Prop} (hM : V 9 0 = .ref 20)
    (h : ((p2 ≤ j → G S) ∧ (¬ p2 ≤ j → (¬ 24 ≤ j ∧ (¬ (((S 9 5) * 31) + (p1 + j)) < 0 ∧ (¬ 961 ≤ (((S 9 5) * 31) + (p1 + j)) ∧ (vp_in (((S 9 5) * 31) + (p1 + j)) 961 ∧ ai_W (uN l D ρ τ) (d + 1) mX1_beginBlock 10 [(0, .ref 9), (1, .int p1), (2, .int p2), (3, .int (j + 1))] [] (ai_up S 11 ((((S 9 5) * 31) + (p1 + j))).toNatClampNeg 0) V (ai_qv V G)))))))) :
    ai_W (uN l D ρ τ) (d + 1) mX1_beginBlock 10 [(0, .ref 9), (1, .int p1), (2, .int p2), (3, .int j)] [] S V (ai_qv V G) := by
  refine ai_iload_n dX1_beginBlock_10 rfl (j := 3) rfl ?_
  refine ai_iload_n dX1_beginBlock_11 rfl (j := 2) rfl ?_
  refine ai_icmp_ge (tgt := 49) dX1_beginBlock_12 (by decide) ⟨fun (hc1 : p2 ≤ j) => ?_, fun (hc1 : ¬ p2 ≤ j) => ?_⟩
  · have h := h.1 hc1
    exact ai_retv dX1_beginBlock_49 rfl h
  · have h := h.2 hc1
    refine ai_iload_n dX1_beginBlock_15 rfl (j := 3) rfl ?_
    refine ai_bipush (v := 24) dX1_beginBlock_16 (by decide) ?_
    have hr2 : ¬ 24 ≤ j := h.1
    have h := h.2
    refine ai_icmp_ge (tgt := 49) dX1_beginBlock_18 (by decide) ⟨fun hc => absurd hc hr2, fun _ => ?_⟩
    refine ai_aload_n dX1_beginBlock_21 rfl (j := 0) rfl ?_
    refine ai_getR dX1_beginBlock_22 fdX1_12 rfl rfl ?_
    refine ai_aload_n dX1_beginBlock_25 rfl (j := 0) rfl ?_
    refine ai_getR dX1_beginBlock_26 fdX1_12 rfl rfl ?_
    refine ai_aload_n dX1_beginBlock_29 rfl (j := 0) rfl ?_
    refine ai_getI dX1_beginBlock_30 fdX1_48 rfl rfl ?_
    refine ai_iload_n dX1_beginBlock_33 rfl (j := 1) rfl ?_
    refine ai_iload_n dX1_beginBlock_34 rfl (j := 3) rfl ?_
    refine ai_iadd dX1_beginBlock_35 ?_
    refine ai_callVi (As := [.int (S 9 5), .int (p1 + j)]) (rest := [.ref 10]) dX1_beginBlock_36 cvX1_112 rfl rfl rfl (Nat.le_of_ble_eq_true rfl) (vX0_addressOf ?_)
    show ai_W _ _ _ _ _ (.int (((S 9 5) * 31) + (p1 + j)) :: _) S _ _
    refine ai_iconst (v := 0) dX1_beginBlock_39 (by decide) ?_
    refine ai_callVv (As := [.int (((S 9 5) * 31) + (p1 + j)), .int 0]) (rest := []) dX1_beginBlock_40 cvX1_116 rfl rfl rfl (Nat.le_of_ble_eq_true rfl) (vX0_setValue ?_)
    have hr3 : ¬ (((S 9 5) * 31) + (p1 + j)) < 0 := h.1
    have h := h.2
    refine ⟨hr3, ?_⟩
    have hr4 : ¬ 961 ≤ (((S 9 5) * 31) + (p1 + j)) := h.1
    have h := h.2
    refine ⟨hr4, ?_⟩
    refine ⟨h.1, ?_⟩
    have hi5 := h.1
    have h := h.2
    show ai_W _ _ _ _ _ _ (ai_up S 11 ((((S 9 5) * 31) + (p1 + j))).toNatClampNeg 0) _ _
    refine ai_iinc (j := 3) (v := (j + 1)) (lv' := [(3, .int (j + 1)), (0, .ref 9), (1, .int p1), (2, .int p2)]) dX1_beginBlock_43 rfl (by first | rfl | decide) (by decide) rfl ?_
    refine ai_goto (tgt := 10) dX1_beginBlock_46 (by decide) ?_
    refine ai_locj (lv' := [(0, .ref 9), (1, .int p1), (2, .int p2), (3, .int (j + 1))]) [1, 2, 3, 0] rfl ?_
    exact h
set_option maxHeartbeats 4000000 in
set_option maxRecDepth 100000 in
theorem vX1_resolve {p1 : Int32} {p2 : Int32} {S : ai_S} {V : ai_V} {G : Int32 → ai_S → Prop} (hM : V 9 0 = .ref 20)
    (h : ai_W (uN l D ρ τ) d mX1_resolve 8 [(0, .ref 9), (3, .int p1), (4, .int p2), (5, .int 0)] [] S V (ai_qi V G)) :
    ai_met (uN l D ρ τ) d mX1_resolve [.ref 9, .int p1, .int p2] S V (ai_qi V G) := by
  refine ai_mof plX1 (Nat.le_of_ble_eq_true rfl) (lv := [(0, .ref 9), (1, .int p1), (2, .int p2)]) rfl ?_
  refine ai_iload_n dX1_resolve_0 rfl (j := 1) rfl ?_
  refine ai_istore_n (lv' := [(3, .int p1), (0, .ref 9), (1, .int p1), (2, .int p2)]) dX1_resolve_1 rfl (by decide) rfl ?_
  refine ai_iload_n dX1_resolve_2 rfl (j := 3) rfl ?_
  refine ai_istore (lv' := [(4, .int p2), (3, .int p1), (0, .ref 9), (1, .int p1), (2, .int p2)]) dX1_resolve_3 (by decide) rfl ?_
  refine ai_iconst (v := 0) dX1_resolve_5 (by decide) ?_
  refine ai_istore (lv' := [(5, .int 0), (4, .int p2), (3, .int p1), (0, .ref 9), (1, .int p1), (2, .int p2)]) dX1_resolve_6 (by decide) rfl ?_
  refine ai_locj (lv' := [(0, .ref 9), (3, .int p1), (4, .int p2), (5, .int 0)]) [3, 2, 1, 0] rfl ?_
  exact h
set_option maxHeartbeats 4000000 in
set_option maxRecDepth 100000 in
theorem vX1_resolve_8 {ff : Int32} {fs : Int32} {j : Int32} {S : ai_S} {V : ai_V} {G : Int32 → ai_S → Prop} (hM : V 9 0 = .ref 20)
    (h : ((31 ≤ j → G (-1) S) ∧ (¬ 31 ≤ j → (¬ ((ff * 31) + fs) < 0 ∧ (¬ 961 ≤ ((ff * 31) + fs) ∧ (vp_in ((ff * 31) + fs) 961 ∧ (((S 11 (((ff * 31) + fs)).toNatClampNeg) < 0 → G (-1) S) ∧ (¬ (S 11 (((ff * 31) + fs)).toNatClampNeg) < 0 → (¬ (S 20 3) ≤ (S 11 (((ff * 31) + fs)).toNatClampNeg) ∧ (¬ 488 ≤ (S 11 (((ff * 31) + fs)).toNatClampNeg) ∧ (vp_in (S 11 (((ff * 31) + fs)).toNatClampNeg) 488 ∧ (((S 21 ((S 11 (((ff * 31) + fs)).toNatClampNeg)).toNatClampNeg) = 24 → (¬ ff < 0 ∧ (¬ 31 ≤ ff ∧ (vp_in ff 31 ∧ ((((S 11 (((ff * 31) + fs)).toNatClampNeg) + 1) < 0 → G ((S 11 (((ff * 31) + fs)).toNatClampNeg) + 1) (ai_up S 9 15 (S 13 (ff).toNatClampNeg))) ∧ (¬ ((S 11 (((ff * 31) + fs)).toNatClampNeg) + 1) < 0 → (¬ (S 20 3) ≤ ((S 11 (((ff * 31) + fs)).toNatClampNeg) + 1) ∧ (¬ 488 ≤ ((S 11 (((ff * 31) + fs)).toNatClampNeg) + 1) ∧ (vp_in ((S 11 (((ff * 31) + fs)).toNatClampNeg) + 1) 488 ∧ (((S 21 (((S 11 (((ff * 31) + fs)).toNatClampNeg) + 1)).toNatClampNeg) = 12 → ai_met (uN l D ρ τ) (d + 1) mX0_outwards [.ref 10, .int (S 13 (ff).toNatClampNeg), .int (S 23 (((S 11 (((ff * 31) + fs)).toNatClampNeg) + 1)).toNatClampNeg)] (ai_up S 9 15 (S 13 (ff).toNatClampNeg)) V (ai_qi V (fun x18 S19 => (¬ (S19 20 3) ≤ ((S 11 (((ff * 31) + fs)).toNatClampNeg) + 1) ∧ ai_W (uN l D ρ τ) (d + 2) mX1_resolve 8 [(0, .ref 9), (3, .int x18), (4, .int (S19 22 (((S 11 (((ff * 31) + fs)).toNatClampNeg) + 1)).toNatClampNeg)), (5, .int (j + 1))] [] S19 V (ai_qi V G))))) ∧ (¬ (S 21 (((S 11 (((ff * 31) + fs)).toNatClampNeg) + 1)).toNatClampNeg) = 12 → G ((S 11 (((ff * 31) + fs)).toNatClampNeg) + 1) (ai_up S 9 15 (S 13 (ff).toNatClampNeg))))))))))))) ∧ (¬ (S 21 ((S 11 (((ff * 31) + fs)).toNatClampNeg)).toNatClampNeg) = 24 → G (-1) S))))))))))))) :
    ai_W (uN l D ρ τ) (d + 2) mX1_resolve 8 [(0, .ref 9), (3, .int ff), (4, .int fs), (5, .int j)] [] S V (ai_qi V G) := by
  refine ai_iload dX1_resolve_8 (j := 3) rfl ?_
  refine ai_bipush (v := 31) dX1_resolve_10 (by decide) ?_
  refine ai_icmp_ge (tgt := 123) dX1_resolve_12 (by decide) ⟨fun (hc1 : 31 ≤ j) => ?_, fun (hc1 : ¬ 31 ≤ j) => ?_⟩
  · have h := h.1 hc1
    refine ai_iconst (v := (-1)) dX1_resolve_123 (by decide) ?_
    exact ai_reti dX1_resolve_124 rfl h
  · have h := h.2 hc1
    refine ai_aload_n dX1_resolve_15 rfl (j := 0) rfl ?_
    refine ai_getR dX1_resolve_16 fdX1_12 rfl rfl ?_
    refine ai_aload_n dX1_resolve_19 rfl (j := 0) rfl ?_
    refine ai_getR dX1_resolve_20 fdX1_12 rfl rfl ?_
    refine ai_iload_n dX1_resolve_23 rfl (j := 1) rfl ?_
    refine ai_iload dX1_resolve_24 (j := 2) rfl ?_
    refine ai_callVi (As := [.int ff, .int fs]) (rest := [.ref 10]) dX1_resolve_26 cvX1_112 rfl rfl rfl (Nat.le_of_ble_eq_true rfl) (vX0_addressOf ?_)
    show ai_W _ _ _ _ _ (.int ((ff * 31) + fs) :: _) S _ _
    refine ai_callVi (As := [.int ((ff * 31) + fs)]) (rest := []) dX1_resolve_29 cvX1_140 rfl rfl rfl (Nat.le_of_ble_eq_true rfl) (vX0_valueAt ?_)
    have hr2 : ¬ ((ff * 31) + fs) < 0 := h.1
    have h := h.2
    refine ⟨hr2, ?_⟩
    have hr3 : ¬ 961 ≤ ((ff * 31) + fs) := h.1
    have h := h.2
    refine ⟨hr3, ?_⟩
    refine ⟨h.1, ?_⟩
    have hi4 := h.1
    have h := h.2
    show ai_W _ _ _ _ _ (.int (S 11 (((ff * 31) + fs)).toNatClampNeg) :: _) S _ _
    refine ai_istore (lv' := [(6, .int (S 11 (((ff * 31) + fs)).toNatClampNeg)), (0, .ref 9), (3, .int ff), (4, .int fs), (5, .int j)]) dX1_resolve_32 (by decide) rfl ?_
    refine ai_aload_n dX1_resolve_34 rfl (j := 1) rfl ?_
    refine ai_getV dX1_resolve_35 fdX1_31 rfl rfl ⟨hM, ?_⟩
    refine ai_iload dX1_resolve_38 (j := 0) rfl ?_
    refine ai_callVi (As := [.int (S 11 (((ff * 31) + fs)).toNatClampNeg)]) (rest := []) dX1_resolve_40 cvX1_72 rfl rfl rfl (Nat.le_of_ble_eq_true rfl) (vX2_opAt ?_)
    refine ⟨fun (hc5 : (S 11 (((ff * 31) + fs)).toNatClampNeg) < 0) => ?_, fun (hc5 : ¬ (S 11 (((ff * 31) + fs)).toNatClampNeg) < 0) => ?_⟩
    · have h := h.1 hc5
      show ai_W _ _ _ _ _ (.int 0 :: _) S _ _
      refine ai_bipush (v := 24) dX1_resolve_43 (by decide) ?_
      refine ai_icmp_eq (tgt := 50) dX1_resolve_45 (by decide) ⟨fun hc => absurd hc (by decide), fun _ => ?_⟩
      refine ai_iconst (v := (-1)) dX1_resolve_48 (by decide) ?_
      exact ai_reti dX1_resolve_49 rfl h
    · have h := h.2 hc5
      have hr6 : ¬ (S 20 3) ≤ (S 11 (((ff * 31) + fs)).toNatClampNeg) := h.1
      have h := h.2
      refine ⟨hr6, ?_⟩
      have hr7 : ¬ 488 ≤ (S 11 (((ff * 31) + fs)).toNatClampNeg) := h.1
      have h := h.2
      refine ⟨hr7, ?_⟩
      refine ⟨h.1, ?_⟩
      have hi8 := h.1
      have h := h.2
      show ai_W _ _ _ _ _ (.int (S 21 ((S 11 (((ff * 31) + fs)).toNatClampNeg)).toNatClampNeg) :: _) S _ _
      refine ai_bipush (v := 24) dX1_resolve_43 (by decide) ?_
      refine ai_icmp_eq (tgt := 50) dX1_resolve_45 (by decide) ⟨fun (hc9 : (S 21 ((S 11 (((ff * 31) + fs)).toNatClampNeg)).toNatClampNeg) = 24) => ?_, fun (hc9 : ¬ (S 21 ((S 11 (((ff * 31) + fs)).toNatClampNeg)).toNatClampNeg) = 24) => ?_⟩
      · have h := h.1 hc9
        refine ai_iload dX1_resolve_50 (j := 0) rfl ?_
        refine ai_iconst (v := 1) dX1_resolve_52 (by decide) ?_
        refine ai_iadd dX1_resolve_53 ?_
        refine ai_istore (lv' := [(7, .int ((S 11 (((ff * 31) + fs)).toNatClampNeg) + 1)), (6, .int (S 11 (((ff * 31) + fs)).toNatClampNeg)), (0, .ref 9), (3, .int ff), (4, .int fs), (5, .int j)]) dX1_resolve_54 (by decide) rfl ?_
        refine ai_aload_n dX1_resolve_56 rfl (j := 2) rfl ?_
        refine ai_aload_n dX1_resolve_57 rfl (j := 2) rfl ?_
        refine ai_getR dX1_resolve_58 fdX1_12 rfl rfl ?_
        refine ai_iload_n dX1_resolve_61 rfl (j := 3) rfl ?_
        refine ai_callVi (As := [.int ff]) (rest := [.ref 9]) dX1_resolve_62 cvX1_143 rfl rfl rfl (Nat.le_of_ble_eq_true rfl) (vX0_callerOf ?_)
        have hr10 : ¬ ff < 0 := h.1
        have h := h.2
        refine ⟨hr10, ?_⟩
        have hr11 : ¬ 31 ≤ ff := h.1
        have h := h.2
        refine ⟨hr11, ?_⟩
        refine ⟨h.1, ?_⟩
        have hi12 := h.1
        have h := h.2
        show ai_W _ _ _ _ _ (.int (S 13 (ff).toNatClampNeg) :: _) S _ _
        refine ai_putI dX1_resolve_65 fdX1_137 pdX1_15 rfl rfl rfl rfl ?_
        refine ai_aload_n dX1_resolve_68 rfl (j := 2) rfl ?_
        refine ai_getV dX1_resolve_69 fdX1_31 rfl rfl ⟨hM, ?_⟩
        refine ai_iload dX1_resolve_72 (j := 0) rfl ?_
        refine ai_callVi (As := [.int ((S 11 (((ff * 31) + fs)).toNatClampNeg) + 1)]) (rest := []) dX1_resolve_74 cvX1_72 rfl rfl rfl (Nat.le_of_ble_eq_true rfl) (vX2_opAt ?_)
        refine ⟨fun (hc13 : ((S 11 (((ff * 31) + fs)).toNatClampNeg) + 1) < 0) => ?_, fun (hc13 : ¬ ((S 11 (((ff * 31) + fs)).toNatClampNeg) + 1) < 0) => ?_⟩
        · have h := h.1 hc13
          show ai_W _ _ _ _ _ (.int 0 :: _) (ai_up S 9 15 (S 13 (ff).toNatClampNeg)) _ _
          refine ai_bipush (v := 12) dX1_resolve_77 (by decide) ?_
          refine ai_icmp_eq (tgt := 85) dX1_resolve_79 (by decide) ⟨fun hc => absurd hc (by decide), fun _ => ?_⟩
          refine ai_iload dX1_resolve_82 (j := 0) rfl ?_
          exact ai_reti dX1_resolve_84 rfl h
        · have h := h.2 hc13
          have hr14 : ¬ (S 20 3) ≤ ((S 11 (((ff * 31) + fs)).toNatClampNeg) + 1) := h.1
          have h := h.2
          refine ⟨hr14, ?_⟩
          have hr15 : ¬ 488 ≤ ((S 11 (((ff * 31) + fs)).toNatClampNeg) + 1) := h.1
          have h := h.2
          refine ⟨hr15, ?_⟩
          refine ⟨h.1, ?_⟩
          have hi16 := h.1
          have h := h.2
          show ai_W _ _ _ _ _ (.int (S 21 (((S 11 (((ff * 31) + fs)).toNatClampNeg) + 1)).toNatClampNeg) :: _) (ai_up S 9 15 (S 13 (ff).toNatClampNeg)) _ _
          refine ai_bipush (v := 12) dX1_resolve_77 (by decide) ?_
          refine ai_icmp_eq (tgt := 85) dX1_resolve_79 (by decide) ⟨fun (hc17 : (S 21 (((S 11 (((ff * 31) + fs)).toNatClampNeg) + 1)).toNatClampNeg) = 12) => ?_, fun (hc17 : ¬ (S 21 (((S 11 (((ff * 31) + fs)).toNatClampNeg) + 1)).toNatClampNeg) = 12) => ?_⟩
          · have h := h.1 hc17
            refine ai_aload_n dX1_resolve_85 rfl (j := 2) rfl ?_
            refine ai_getR dX1_resolve_86 fdX1_12 rfl rfl ?_
            refine ai_aload_n dX1_resolve_89 rfl (j := 2) rfl ?_
            refine ai_getIx (S 13 (ff).toNatClampNeg) dX1_resolve_90 fdX1_137 rfl rfl rfl ?_
            refine ai_aload_n dX1_resolve_93 rfl (j := 2) rfl ?_
            refine ai_getV dX1_resolve_94 fdX1_31 rfl rfl ⟨hM, ?_⟩
            refine ai_iload dX1_resolve_97 (j := 0) rfl ?_
            refine ai_callVi (As := [.int ((S 11 (((ff * 31) + fs)).toNatClampNeg) + 1)]) (rest := [.int (S 13 (ff).toNatClampNeg), .ref 10]) dX1_resolve_99 cvX1_81 rfl rfl rfl (Nat.le_of_ble_eq_true rfl) (vX2_secondAt ?_)
            refine ⟨fun hc => absurd hc hc13, fun _ => ?_⟩
            refine ⟨hr14, ?_⟩
            refine ⟨hr15, ?_⟩
            refine ⟨hi16, ?_⟩
            show ai_W _ _ _ _ _ (.int (S 23 (((S 11 (((ff * 31) + fs)).toNatClampNeg) + 1)).toNatClampNeg) :: _) (ai_up S 9 15 (S 13 (ff).toNatClampNeg)) _ _
            refine ai_callVi (As := [.int (S 13 (ff).toNatClampNeg), .int (S 23 (((S 11 (((ff * 31) + fs)).toNatClampNeg) + 1)).toNatClampNeg)]) (rest := []) dX1_resolve_102 cvX1_128 rfl rfl rfl (Nat.le_of_ble_eq_true rfl) (ai_met.mi h (fun x18 S19 h => ?_))
            refine ai_istore_n (lv' := [(3, .int x18), (7, .int ((S 11 (((ff * 31) + fs)).toNatClampNeg) + 1)), (6, .int (S 11 (((ff * 31) + fs)).toNatClampNeg)), (0, .ref 9), (4, .int fs), (5, .int j)]) dX1_resolve_105 rfl (by decide) rfl ?_
            refine ai_aload_n dX1_resolve_106 rfl (j := 3) rfl ?_
            refine ai_getV dX1_resolve_107 fdX1_31 rfl rfl ⟨hM, ?_⟩
            refine ai_iload dX1_resolve_110 (j := 1) rfl ?_
            refine ai_callVi (As := [.int ((S 11 (((ff * 31) + fs)).toNatClampNeg) + 1)]) (rest := []) dX1_resolve_112 cvX1_78 rfl rfl rfl (Nat.le_of_ble_eq_true rfl) (vX2_firstAt ?_)
            refine ⟨fun hc => absurd hc hc13, fun _ => ?_⟩
            have hr20 : ¬ (S19 20 3) ≤ ((S 11 (((ff * 31) + fs)).toNatClampNeg) + 1) := h.1
            have h := h.2
            refine ⟨hr20, ?_⟩
            refine ⟨hr15, ?_⟩
            refine ⟨hi16, ?_⟩
            show ai_W _ _ _ _ _ (.int (S19 22 (((S 11 (((ff * 31) + fs)).toNatClampNeg) + 1)).toNatClampNeg) :: _) S19 _ _
            refine ai_istore (lv' := [(4, .int (S19 22 (((S 11 (((ff * 31) + fs)).toNatClampNeg) + 1)).toNatClampNeg)), (3, .int x18), (7, .int ((S 11 (((ff * 31) + fs)).toNatClampNeg) + 1)), (6, .int (S 11 (((ff * 31) + fs)).toNatClampNeg)), (0, .ref 9), (5, .int j)]) dX1_resolve_115 (by decide) rfl ?_
            refine ai_iinc (j := 5) (v := (j + 1)) (lv' := [(5, .int (j + 1)), (4, .int (S19 22 (((S 11 (((ff * 31) + fs)).toNatClampNeg) + 1)).toNatClampNeg)), (3, .int x18), (7, .int ((S 11 (((ff * 31) + fs)).toNatClampNeg) + 1)), (6, .int (S 11 (((ff * 31) + fs)).toNatClampNeg)), (0, .ref 9)]) dX1_resolve_117 rfl (by first | rfl | decide) (by decide) rfl ?_
            refine ai_goto (tgt := 8) dX1_resolve_120 (by decide) ?_
            refine ai_locj (lv' := [(0, .ref 9), (3, .int x18), (4, .int (S19 22 (((S 11 (((ff * 31) + fs)).toNatClampNeg) + 1)).toNatClampNeg)), (5, .int (j + 1))]) [5, 2, 1, 0] rfl ?_
            exact h
          · have h := h.2 hc17
            refine ai_iload dX1_resolve_82 (j := 0) rfl ?_
            exact ai_reti dX1_resolve_84 rfl h
      · have h := h.2 hc9
        refine ai_iconst (v := (-1)) dX1_resolve_48 (by decide) ?_
        exact ai_reti dX1_resolve_49 rfl h
set_option maxHeartbeats 4000000 in
set_option maxRecDepth 100000 in
theorem vX1_enterCall {p1 : Int32} {p2 : Int32} {S : ai_S} {V : ai_V} {G : ai_S → Prop} (hM : V 9 0 = .ref 20)
    (h : ai_W (uN l D ρ τ) d mX1_enterCall 8 [(0, .ref 9), (1, .int p1), (2, .int p2), (3, .int 0), (4, .int (S 9 4))] [] S V (ai_qv V G)) :
    ai_met (uN l D ρ τ) d mX1_enterCall [.ref 9, .int p1, .int p2] S V (ai_qv V G) := by
  refine ai_mof plX1 (Nat.le_of_ble_eq_true rfl) (lv := [(0, .ref 9), (1, .int p1), (2, .int p2)]) rfl ?_
  refine ai_iconst (v := 0) dX1_enterCall_0 (by decide) ?_
  refine ai_istore_n (lv' := [(3, .int 0), (0, .ref 9), (1, .int p1), (2, .int p2)]) dX1_enterCall_1 rfl (by decide) rfl ?_
  refine ai_aload_n dX1_enterCall_2 rfl (j := 1) rfl ?_
  refine ai_getI dX1_enterCall_3 fdX1_45 rfl rfl ?_
  refine ai_istore (lv' := [(4, .int (S 9 4)), (3, .int 0), (0, .ref 9), (1, .int p1), (2, .int p2)]) dX1_enterCall_6 (by decide) rfl ?_
  refine ai_locj (lv' := [(0, .ref 9), (1, .int p1), (2, .int p2), (3, .int 0), (4, .int (S 9 4))]) [2, 3, 4, 1, 0] rfl ?_
  exact h
set_option maxHeartbeats 4000000 in
set_option maxRecDepth 100000 in
theorem vX1_enterCall_8 {p1 : Int32} {p2 : Int32} {ct : Int32} {bh : Int32} {S : ai_S} {V : ai_V} {G : ai_S → Prop} (hM : V 9 0 = .ref 20)
    (h : ((6 ≤ ct → (¬ p1 < 0 ∧ (¬ (S 20 6) ≤ p1 ∧ (¬ 16 ≤ p1 ∧ (vp_in p1 16 ∧ ((ct = (S 25 (p1).toNatClampNeg) → (((S 10 5) < 30 → (¬ (S 10 5) < 0 ∧ (vp_in ((S 10 5) + 1) 31 ∧ (¬ ((((S 10 5) + 1) * 31) + 0) < 0 ∧ (¬ 961 ≤ ((((S 10 5) + 1) * 31) + 0) ∧ (vp_in ((((S 10 5) + 1) * 31) + 0) 961 ∧ ai_W (uN l D ρ τ) (d + 2) mX1_enterCall 102 [(0, .ref 9), (1, .int p1), (3, .int ct), (5, .int (S 9 4)), (6, .int 0)] [] (ai_up (ai_up (ai_up (ai_up (ai_up (ai_up (ai_up S 10 5 ((S 10 5) + 1)) 10 7 ((S 10 7) + 1)) 10 6 (if (S 10 6) < ((S 10 5) + 1) then ((S 10 5) + 1) else (S 10 6))) 12 (((S 10 5) + 1)).toNatClampNeg p2) 13 (((S 10 5) + 1)).toNatClampNeg (S 9 5)) 14 (((S 10 5) + 1)).toNatClampNeg bh) 11 (((((S 10 5) + 1) * 31) + 0)).toNatClampNeg 0) V (ai_qv V G))))))) ∧ (¬ (S 10 5) < 30 → G (ai_up S 9 3 5)))) ∧ (¬ ct = (S 25 (p1).toNatClampNeg) → G (ai_up S 9 3 4)))))))) ∧ (¬ 6 ≤ ct → ((bh < 0 → (¬ p1 < 0 ∧ (¬ (S 20 6) ≤ p1 ∧ (¬ 16 ≤ p1 ∧ (vp_in p1 16 ∧ ((ct = (S 25 (p1).toNatClampNeg) → (((S 10 5) < 30 → (¬ (S 10 5) < 0 ∧ (vp_in ((S 10 5) + 1) 31 ∧ (¬ ((((S 10 5) + 1) * 31) + 0) < 0 ∧ (¬ 961 ≤ ((((S 10 5) + 1) * 31) + 0) ∧ (vp_in ((((S 10 5) + 1) * 31) + 0) 961 ∧ ai_W (uN l D ρ τ) (d + 2) mX1_enterCall 102 [(0, .ref 9), (1, .int p1), (3, .int ct), (5, .int (S 9 4)), (6, .int 0)] [] (ai_up (ai_up (ai_up (ai_up (ai_up (ai_up (ai_up S 10 5 ((S 10 5) + 1)) 10 7 ((S 10 7) + 1)) 10 6 (if (S 10 6) < ((S 10 5) + 1) then ((S 10 5) + 1) else (S 10 6))) 12 (((S 10 5) + 1)).toNatClampNeg p2) 13 (((S 10 5) + 1)).toNatClampNeg (S 9 5)) 14 (((S 10 5) + 1)).toNatClampNeg bh) 11 (((((S 10 5) + 1) * 31) + 0)).toNatClampNeg 0) V (ai_qv V G))))))) ∧ (¬ (S 10 5) < 30 → G (ai_up S 9 3 5)))) ∧ (¬ ct = (S 25 (p1).toNatClampNeg) → G (ai_up S 9 3 4)))))))) ∧ (¬ bh < 0 → (¬ (S 20 3) ≤ bh ∧ (¬ 488 ≤ bh ∧ (vp_in bh 488 ∧ (((S 21 (bh).toNatClampNeg) = 23 → ai_W (uN l D ρ τ) (d + 2) mX1_enterCall 8 [(0, .ref 9), (1, .int p1), (2, .int p2), (3, .int (ct + 1)), (4, .int (S 22 (bh).toNatClampNeg))] [] S V (ai_qv V G)) ∧ (¬ (S 21 (bh).toNatClampNeg) = 23 → ((¬ (S 21 (bh).toNatClampNeg) = 24 → (¬ p1 < 0 ∧ (¬ (S 20 6) ≤ p1 ∧ (¬ 16 ≤ p1 ∧ (vp_in p1 16 ∧ ((ct = (S 25 (p1).toNatClampNeg) → (((S 10 5) < 30 → (¬ (S 10 5) < 0 ∧ (vp_in ((S 10 5) + 1) 31 ∧ (¬ ((((S 10 5) + 1) * 31) + 0) < 0 ∧ (¬ 961 ≤ ((((S 10 5) + 1) * 31) + 0) ∧ (vp_in ((((S 10 5) + 1) * 31) + 0) 961 ∧ ai_W (uN l D ρ τ) (d + 2) mX1_enterCall 102 [(0, .ref 9), (1, .int p1), (3, .int ct), (5, .int (S 9 4)), (6, .int 0)] [] (ai_up (ai_up (ai_up (ai_up (ai_up (ai_up (ai_up S 10 5 ((S 10 5) + 1)) 10 7 ((S 10 7) + 1)) 10 6 (if (S 10 6) < ((S 10 5) + 1) then ((S 10 5) + 1) else (S 10 6))) 12 (((S 10 5) + 1)).toNatClampNeg p2) 13 (((S 10 5) + 1)).toNatClampNeg (S 9 5)) 14 (((S 10 5) + 1)).toNatClampNeg bh) 11 (((((S 10 5) + 1) * 31) + 0)).toNatClampNeg 0) V (ai_qv V G))))))) ∧ (¬ (S 10 5) < 30 → G (ai_up S 9 3 5)))) ∧ (¬ ct = (S 25 (p1).toNatClampNeg) → G (ai_up S 9 3 4)))))))) ∧ ((S 21 (bh).toNatClampNeg) = 24 → ai_W (uN l D ρ τ) (d + 2) mX1_enterCall 8 [(0, .ref 9), (1, .int p1), (2, .int p2), (3, .int (ct + 1)), (4, .int (S 22 (bh).toNatClampNeg))] [] S V (ai_qv V G))))))))))))) :
    ai_W (uN l D ρ τ) (d + 2) mX1_enterCall 8 [(0, .ref 9), (1, .int p1), (2, .int p2), (3, .int ct), (4, .int bh)] [] S V (ai_qv V G) := by
  refine ai_iload_n dX1_enterCall_8 rfl (j := 3) rfl ?_
  refine ai_bipush (v := 6) dX1_enterCall_9 (by decide) ?_
  refine ai_icmp_ge (tgt := 43) dX1_enterCall_11 (by decide) ⟨fun (hc1 : 6 ≤ ct) => ?_, fun (hc1 : ¬ 6 ≤ ct) => ?_⟩
  · have h := h.1 hc1
    refine ai_iload_n dX1_enterCall_43 rfl (j := 3) rfl ?_
    refine ai_aload_n dX1_enterCall_44 rfl (j := 0) rfl ?_
    refine ai_getV dX1_enterCall_45 fdX1_31 rfl rfl ⟨hM, ?_⟩
    refine ai_iload_n dX1_enterCall_48 rfl (j := 1) rfl ?_
    refine ai_callVi (As := [.int p1]) (rest := [.int ct]) dX1_enterCall_49 cvX1_156 rfl rfl rfl (Nat.le_of_ble_eq_true rfl) (vX2_formalCountOf ?_)
    have hr2 : ¬ p1 < 0 := h.1
    have h := h.2
    refine ⟨hr2, ?_⟩
    have hr3 : ¬ (S 20 6) ≤ p1 := h.1
    have h := h.2
    refine ⟨hr3, ?_⟩
    have hr4 : ¬ 16 ≤ p1 := h.1
    have h := h.2
    refine ⟨hr4, ?_⟩
    refine ⟨h.1, ?_⟩
    have hi5 := h.1
    have h := h.2
    show ai_W _ _ _ _ _ (.int (S 25 (p1).toNatClampNeg) :: _) S _ _
    refine ai_icmp_eq (tgt := 61) dX1_enterCall_52 (by decide) ⟨fun (hc6 : ct = (S 25 (p1).toNatClampNeg)) => ?_, fun (hc6 : ¬ ct = (S 25 (p1).toNatClampNeg)) => ?_⟩
    · have h := h.1 hc6
      refine ai_aload_n dX1_enterCall_61 rfl (j := 0) rfl ?_
      refine ai_getR dX1_enterCall_62 fdX1_12 rfl rfl ?_
      refine ai_getI dX1_enterCall_65 fdX1_159 rfl rfl ?_
      refine ai_bipush (v := 30) dX1_enterCall_68 (by decide) ?_
      refine ai_icmp_lt (tgt := 79) dX1_enterCall_70 (by decide) ⟨fun (hc7 : (S 10 5) < 30) => ?_, fun (hc7 : ¬ (S 10 5) < 30) => ?_⟩
      · have h := h.1 hc7
        refine ai_aload_n dX1_enterCall_79 rfl (j := 0) rfl ?_
        refine ai_getR dX1_enterCall_80 fdX1_12 rfl rfl ?_
        refine ai_iload_n dX1_enterCall_83 rfl (j := 2) rfl ?_
        refine ai_aload_n dX1_enterCall_84 rfl (j := 0) rfl ?_
        refine ai_getI dX1_enterCall_85 fdX1_48 rfl rfl ?_
        refine ai_iload dX1_enterCall_88 (j := 4) rfl ?_
        refine ai_callVv (As := [.int p2, .int (S 9 5), .int bh]) (rest := []) dX1_enterCall_90 cvX1_162 rfl rfl rfl (Nat.le_of_ble_eq_true rfl) (vX0_open ?_)
        have hr8 : ¬ (S 10 5) < 0 := h.1
        have h := h.2
        refine ⟨hr8, ?_⟩
        refine ⟨hc7, ?_⟩
        refine ⟨h.1, ?_⟩
        have hi9 := h.1
        have h := h.2
        have hr10 : ¬ ((((S 10 5) + 1) * 31) + 0) < 0 := h.1
        have h := h.2
        refine ⟨hr10, ?_⟩
        have hr11 : ¬ 961 ≤ ((((S 10 5) + 1) * 31) + 0) := h.1
        have h := h.2
        refine ⟨hr11, ?_⟩
        refine ⟨h.1, ?_⟩
        have hi12 := h.1
        have h := h.2
        show ai_W _ _ _ _ _ _ (ai_up (ai_up (ai_up (ai_up (ai_up (ai_up (ai_up S 10 5 ((S 10 5) + 1)) 10 7 ((S 10 7) + 1)) 10 6 (if (S 10 6) < ((S 10 5) + 1) then ((S 10 5) + 1) else (S 10 6))) 12 (((S 10 5) + 1)).toNatClampNeg p2) 13 (((S 10 5) + 1)).toNatClampNeg (S 9 5)) 14 (((S 10 5) + 1)).toNatClampNeg bh) 11 (((((S 10 5) + 1) * 31) + 0)).toNatClampNeg 0) _ _
        refine ai_aload_n dX1_enterCall_93 rfl (j := 0) rfl ?_
        refine ai_getIx (S 9 4) dX1_enterCall_94 fdX1_45 rfl rfl rfl ?_
        refine ai_istore (lv' := [(5, .int (S 9 4)), (0, .ref 9), (1, .int p1), (2, .int p2), (3, .int ct), (4, .int bh)]) dX1_enterCall_97 (by decide) rfl ?_
        refine ai_iconst (v := 0) dX1_enterCall_99 (by decide) ?_
        refine ai_istore (lv' := [(6, .int 0), (5, .int (S 9 4)), (0, .ref 9), (1, .int p1), (2, .int p2), (3, .int ct), (4, .int bh)]) dX1_enterCall_100 (by decide) rfl ?_
        refine ai_locj (lv' := [(0, .ref 9), (1, .int p1), (3, .int ct), (5, .int (S 9 4)), (6, .int 0)]) [2, 3, 5, 1, 0] rfl ?_
        exact h
      · have h := h.2 hc7
        refine ai_aload_n dX1_enterCall_73 rfl (j := 0) rfl ?_
        refine ai_iconst (v := 5) dX1_enterCall_74 (by decide) ?_
        refine ai_putI dX1_enterCall_75 fdX1_42 pdX1_3 rfl rfl rfl rfl ?_
        exact ai_retv dX1_enterCall_78 rfl h
    · have h := h.2 hc6
      refine ai_aload_n dX1_enterCall_55 rfl (j := 0) rfl ?_
      refine ai_iconst (v := 4) dX1_enterCall_56 (by decide) ?_
      refine ai_putI dX1_enterCall_57 fdX1_42 pdX1_3 rfl rfl rfl rfl ?_
      exact ai_retv dX1_enterCall_60 rfl h
  · have h := h.2 hc1
    refine ai_aload_n dX1_enterCall_14 rfl (j := 0) rfl ?_
    refine ai_getV dX1_enterCall_15 fdX1_31 rfl rfl ⟨hM, ?_⟩
    refine ai_iload dX1_enterCall_18 (j := 4) rfl ?_
    refine ai_callVz (As := [.int bh]) (rest := []) dX1_enterCall_20 cvX1_152 rfl rfl rfl (Nat.le_of_ble_eq_true rfl) (vX2_isActual ?_)
    refine ⟨fun (hc13 : bh < 0) => ?_, fun (hc13 : ¬ bh < 0) => ?_⟩
    · have h := h.1 hc13
      refine ai_zf ?_
      refine ai_if_eq (tgt := 43) dX1_enterCall_23 (by decide) ⟨fun _ => ?_, fun hc => absurd hc (by decide)⟩
      refine ai_iload_n dX1_enterCall_43 rfl (j := 3) rfl ?_
      refine ai_aload_n dX1_enterCall_44 rfl (j := 0) rfl ?_
      refine ai_getV dX1_enterCall_45 fdX1_31 rfl rfl ⟨hM, ?_⟩
      refine ai_iload_n dX1_enterCall_48 rfl (j := 1) rfl ?_
      refine ai_callVi (As := [.int p1]) (rest := [.int ct]) dX1_enterCall_49 cvX1_156 rfl rfl rfl (Nat.le_of_ble_eq_true rfl) (vX2_formalCountOf ?_)
      have hr14 : ¬ p1 < 0 := h.1
      have h := h.2
      refine ⟨hr14, ?_⟩
      have hr15 : ¬ (S 20 6) ≤ p1 := h.1
      have h := h.2
      refine ⟨hr15, ?_⟩
      have hr16 : ¬ 16 ≤ p1 := h.1
      have h := h.2
      refine ⟨hr16, ?_⟩
      refine ⟨h.1, ?_⟩
      have hi17 := h.1
      have h := h.2
      show ai_W _ _ _ _ _ (.int (S 25 (p1).toNatClampNeg) :: _) S _ _
      refine ai_icmp_eq (tgt := 61) dX1_enterCall_52 (by decide) ⟨fun (hc18 : ct = (S 25 (p1).toNatClampNeg)) => ?_, fun (hc18 : ¬ ct = (S 25 (p1).toNatClampNeg)) => ?_⟩
      · have h := h.1 hc18
        refine ai_aload_n dX1_enterCall_61 rfl (j := 0) rfl ?_
        refine ai_getR dX1_enterCall_62 fdX1_12 rfl rfl ?_
        refine ai_getI dX1_enterCall_65 fdX1_159 rfl rfl ?_
        refine ai_bipush (v := 30) dX1_enterCall_68 (by decide) ?_
        refine ai_icmp_lt (tgt := 79) dX1_enterCall_70 (by decide) ⟨fun (hc19 : (S 10 5) < 30) => ?_, fun (hc19 : ¬ (S 10 5) < 30) => ?_⟩
        · have h := h.1 hc19
          refine ai_aload_n dX1_enterCall_79 rfl (j := 0) rfl ?_
          refine ai_getR dX1_enterCall_80 fdX1_12 rfl rfl ?_
          refine ai_iload_n dX1_enterCall_83 rfl (j := 2) rfl ?_
          refine ai_aload_n dX1_enterCall_84 rfl (j := 0) rfl ?_
          refine ai_getI dX1_enterCall_85 fdX1_48 rfl rfl ?_
          refine ai_iload dX1_enterCall_88 (j := 4) rfl ?_
          refine ai_callVv (As := [.int p2, .int (S 9 5), .int bh]) (rest := []) dX1_enterCall_90 cvX1_162 rfl rfl rfl (Nat.le_of_ble_eq_true rfl) (vX0_open ?_)
          have hr20 : ¬ (S 10 5) < 0 := h.1
          have h := h.2
          refine ⟨hr20, ?_⟩
          refine ⟨hc19, ?_⟩
          refine ⟨h.1, ?_⟩
          have hi21 := h.1
          have h := h.2
          have hr22 : ¬ ((((S 10 5) + 1) * 31) + 0) < 0 := h.1
          have h := h.2
          refine ⟨hr22, ?_⟩
          have hr23 : ¬ 961 ≤ ((((S 10 5) + 1) * 31) + 0) := h.1
          have h := h.2
          refine ⟨hr23, ?_⟩
          refine ⟨h.1, ?_⟩
          have hi24 := h.1
          have h := h.2
          show ai_W _ _ _ _ _ _ (ai_up (ai_up (ai_up (ai_up (ai_up (ai_up (ai_up S 10 5 ((S 10 5) + 1)) 10 7 ((S 10 7) + 1)) 10 6 (if (S 10 6) < ((S 10 5) + 1) then ((S 10 5) + 1) else (S 10 6))) 12 (((S 10 5) + 1)).toNatClampNeg p2) 13 (((S 10 5) + 1)).toNatClampNeg (S 9 5)) 14 (((S 10 5) + 1)).toNatClampNeg bh) 11 (((((S 10 5) + 1) * 31) + 0)).toNatClampNeg 0) _ _
          refine ai_aload_n dX1_enterCall_93 rfl (j := 0) rfl ?_
          refine ai_getIx (S 9 4) dX1_enterCall_94 fdX1_45 rfl rfl rfl ?_
          refine ai_istore (lv' := [(5, .int (S 9 4)), (0, .ref 9), (1, .int p1), (2, .int p2), (3, .int ct), (4, .int bh)]) dX1_enterCall_97 (by decide) rfl ?_
          refine ai_iconst (v := 0) dX1_enterCall_99 (by decide) ?_
          refine ai_istore (lv' := [(6, .int 0), (5, .int (S 9 4)), (0, .ref 9), (1, .int p1), (2, .int p2), (3, .int ct), (4, .int bh)]) dX1_enterCall_100 (by decide) rfl ?_
          refine ai_locj (lv' := [(0, .ref 9), (1, .int p1), (3, .int ct), (5, .int (S 9 4)), (6, .int 0)]) [2, 3, 5, 1, 0] rfl ?_
          exact h
        · have h := h.2 hc19
          refine ai_aload_n dX1_enterCall_73 rfl (j := 0) rfl ?_
          refine ai_iconst (v := 5) dX1_enterCall_74 (by decide) ?_
          refine ai_putI dX1_enterCall_75 fdX1_42 pdX1_3 rfl rfl rfl rfl ?_
          exact ai_retv dX1_enterCall_78 rfl h
      · have h := h.2 hc18
        refine ai_aload_n dX1_enterCall_55 rfl (j := 0) rfl ?_
        refine ai_iconst (v := 4) dX1_enterCall_56 (by decide) ?_
        refine ai_putI dX1_enterCall_57 fdX1_42 pdX1_3 rfl rfl rfl rfl ?_
        exact ai_retv dX1_enterCall_60 rfl h
    · have h := h.2 hc13
      have hr25 : ¬ (S 20 3) ≤ bh := h.1
      have h := h.2
      refine ⟨hr25, ?_⟩
      have hr26 : ¬ 488 ≤ bh := h.1
      have h := h.2
      refine ⟨hr26, ?_⟩
      refine ⟨h.1, ?_⟩
      have hi27 := h.1
      have h := h.2
      refine ⟨fun (hc28 : (S 21 (bh).toNatClampNeg) = 23) => ?_, fun (hc28 : ¬ (S 21 (bh).toNatClampNeg) = 23) => ?_⟩
      · have h := h.1 hc28
        refine ai_zt ?_
        refine ai_if_eq (tgt := 43) dX1_enterCall_23 (by decide) ⟨fun hc => absurd hc (by decide), fun _ => ?_⟩
        refine ai_iinc (j := 3) (v := (ct + 1)) (lv' := [(3, .int (ct + 1)), (0, .ref 9), (1, .int p1), (2, .int p2), (4, .int bh)]) dX1_enterCall_26 rfl (by first | rfl | decide) (by decide) rfl ?_
        refine ai_aload_n dX1_enterCall_29 rfl (j := 1) rfl ?_
        refine ai_getV dX1_enterCall_30 fdX1_31 rfl rfl ⟨hM, ?_⟩
        refine ai_iload dX1_enterCall_33 (j := 4) rfl ?_
        refine ai_callVi (As := [.int bh]) (rest := []) dX1_enterCall_35 cvX1_78 rfl rfl rfl (Nat.le_of_ble_eq_true rfl) (vX2_firstAt ?_)
        refine ⟨fun hc => absurd hc hc13, fun _ => ?_⟩
        refine ⟨hr25, ?_⟩
        refine ⟨hr26, ?_⟩
        refine ⟨hi27, ?_⟩
        show ai_W _ _ _ _ _ (.int (S 22 (bh).toNatClampNeg) :: _) S _ _
        refine ai_istore (lv' := [(4, .int (S 22 (bh).toNatClampNeg)), (3, .int (ct + 1)), (0, .ref 9), (1, .int p1), (2, .int p2)]) dX1_enterCall_38 (by decide) rfl ?_
        refine ai_goto (tgt := 8) dX1_enterCall_40 (by decide) ?_
        refine ai_locj (lv' := [(0, .ref 9), (1, .int p1), (2, .int p2), (3, .int (ct + 1)), (4, .int (S 22 (bh).toNatClampNeg))]) [2, 3, 4, 1, 0] rfl ?_
        exact h
      · have h := h.2 hc28
        refine ⟨fun (hc29 : ¬ (S 21 (bh).toNatClampNeg) = 24) => ?_, fun (hc29 : (S 21 (bh).toNatClampNeg) = 24) => ?_⟩
        · have h := h.1 hc29
          refine ai_zf ?_
          refine ai_if_eq (tgt := 43) dX1_enterCall_23 (by decide) ⟨fun _ => ?_, fun hc => absurd hc (by decide)⟩
          refine ai_iload_n dX1_enterCall_43 rfl (j := 3) rfl ?_
          refine ai_aload_n dX1_enterCall_44 rfl (j := 0) rfl ?_
          refine ai_getV dX1_enterCall_45 fdX1_31 rfl rfl ⟨hM, ?_⟩
          refine ai_iload_n dX1_enterCall_48 rfl (j := 1) rfl ?_
          refine ai_callVi (As := [.int p1]) (rest := [.int ct]) dX1_enterCall_49 cvX1_156 rfl rfl rfl (Nat.le_of_ble_eq_true rfl) (vX2_formalCountOf ?_)
          have hr30 : ¬ p1 < 0 := h.1
          have h := h.2
          refine ⟨hr30, ?_⟩
          have hr31 : ¬ (S 20 6) ≤ p1 := h.1
          have h := h.2
          refine ⟨hr31, ?_⟩
          have hr32 : ¬ 16 ≤ p1 := h.1
          have h := h.2
          refine ⟨hr32, ?_⟩
          refine ⟨h.1, ?_⟩
          have hi33 := h.1
          have h := h.2
          show ai_W _ _ _ _ _ (.int (S 25 (p1).toNatClampNeg) :: _) S _ _
          refine ai_icmp_eq (tgt := 61) dX1_enterCall_52 (by decide) ⟨fun (hc34 : ct = (S 25 (p1).toNatClampNeg)) => ?_, fun (hc34 : ¬ ct = (S 25 (p1).toNatClampNeg)) => ?_⟩
          · have h := h.1 hc34
            refine ai_aload_n dX1_enterCall_61 rfl (j := 0) rfl ?_
            refine ai_getR dX1_enterCall_62 fdX1_12 rfl rfl ?_
            refine ai_getI dX1_enterCall_65 fdX1_159 rfl rfl ?_
            refine ai_bipush (v := 30) dX1_enterCall_68 (by decide) ?_
            refine ai_icmp_lt (tgt := 79) dX1_enterCall_70 (by decide) ⟨fun (hc35 : (S 10 5) < 30) => ?_, fun (hc35 : ¬ (S 10 5) < 30) => ?_⟩
            · have h := h.1 hc35
              refine ai_aload_n dX1_enterCall_79 rfl (j := 0) rfl ?_
              refine ai_getR dX1_enterCall_80 fdX1_12 rfl rfl ?_
              refine ai_iload_n dX1_enterCall_83 rfl (j := 2) rfl ?_
              refine ai_aload_n dX1_enterCall_84 rfl (j := 0) rfl ?_
              refine ai_getI dX1_enterCall_85 fdX1_48 rfl rfl ?_
              refine ai_iload dX1_enterCall_88 (j := 4) rfl ?_
              refine ai_callVv (As := [.int p2, .int (S 9 5), .int bh]) (rest := []) dX1_enterCall_90 cvX1_162 rfl rfl rfl (Nat.le_of_ble_eq_true rfl) (vX0_open ?_)
              have hr36 : ¬ (S 10 5) < 0 := h.1
              have h := h.2
              refine ⟨hr36, ?_⟩
              refine ⟨hc35, ?_⟩
              refine ⟨h.1, ?_⟩
              have hi37 := h.1
              have h := h.2
              have hr38 : ¬ ((((S 10 5) + 1) * 31) + 0) < 0 := h.1
              have h := h.2
              refine ⟨hr38, ?_⟩
              have hr39 : ¬ 961 ≤ ((((S 10 5) + 1) * 31) + 0) := h.1
              have h := h.2
              refine ⟨hr39, ?_⟩
              refine ⟨h.1, ?_⟩
              have hi40 := h.1
              have h := h.2
              show ai_W _ _ _ _ _ _ (ai_up (ai_up (ai_up (ai_up (ai_up (ai_up (ai_up S 10 5 ((S 10 5) + 1)) 10 7 ((S 10 7) + 1)) 10 6 (if (S 10 6) < ((S 10 5) + 1) then ((S 10 5) + 1) else (S 10 6))) 12 (((S 10 5) + 1)).toNatClampNeg p2) 13 (((S 10 5) + 1)).toNatClampNeg (S 9 5)) 14 (((S 10 5) + 1)).toNatClampNeg bh) 11 (((((S 10 5) + 1) * 31) + 0)).toNatClampNeg 0) _ _
              refine ai_aload_n dX1_enterCall_93 rfl (j := 0) rfl ?_
              refine ai_getIx (S 9 4) dX1_enterCall_94 fdX1_45 rfl rfl rfl ?_
              refine ai_istore (lv' := [(5, .int (S 9 4)), (0, .ref 9), (1, .int p1), (2, .int p2), (3, .int ct), (4, .int bh)]) dX1_enterCall_97 (by decide) rfl ?_
              refine ai_iconst (v := 0) dX1_enterCall_99 (by decide) ?_
              refine ai_istore (lv' := [(6, .int 0), (5, .int (S 9 4)), (0, .ref 9), (1, .int p1), (2, .int p2), (3, .int ct), (4, .int bh)]) dX1_enterCall_100 (by decide) rfl ?_
              refine ai_locj (lv' := [(0, .ref 9), (1, .int p1), (3, .int ct), (5, .int (S 9 4)), (6, .int 0)]) [2, 3, 5, 1, 0] rfl ?_
              exact h
            · have h := h.2 hc35
              refine ai_aload_n dX1_enterCall_73 rfl (j := 0) rfl ?_
              refine ai_iconst (v := 5) dX1_enterCall_74 (by decide) ?_
              refine ai_putI dX1_enterCall_75 fdX1_42 pdX1_3 rfl rfl rfl rfl ?_
              exact ai_retv dX1_enterCall_78 rfl h
          · have h := h.2 hc34
            refine ai_aload_n dX1_enterCall_55 rfl (j := 0) rfl ?_
            refine ai_iconst (v := 4) dX1_enterCall_56 (by decide) ?_
            refine ai_putI dX1_enterCall_57 fdX1_42 pdX1_3 rfl rfl rfl rfl ?_
            exact ai_retv dX1_enterCall_60 rfl h
        · have h := h.2 hc29
          refine ai_zt ?_
          refine ai_if_eq (tgt := 43) dX1_enterCall_23 (by decide) ⟨fun hc => absurd hc (by decide), fun _ => ?_⟩
          refine ai_iinc (j := 3) (v := (ct + 1)) (lv' := [(3, .int (ct + 1)), (0, .ref 9), (1, .int p1), (2, .int p2), (4, .int bh)]) dX1_enterCall_26 rfl (by first | rfl | decide) (by decide) rfl ?_
          refine ai_aload_n dX1_enterCall_29 rfl (j := 1) rfl ?_
          refine ai_getV dX1_enterCall_30 fdX1_31 rfl rfl ⟨hM, ?_⟩
          refine ai_iload dX1_enterCall_33 (j := 4) rfl ?_
          refine ai_callVi (As := [.int bh]) (rest := []) dX1_enterCall_35 cvX1_78 rfl rfl rfl (Nat.le_of_ble_eq_true rfl) (vX2_firstAt ?_)
          refine ⟨fun hc => absurd hc hc13, fun _ => ?_⟩
          refine ⟨hr25, ?_⟩
          refine ⟨hr26, ?_⟩
          refine ⟨hi27, ?_⟩
          show ai_W _ _ _ _ _ (.int (S 22 (bh).toNatClampNeg) :: _) S _ _
          refine ai_istore (lv' := [(4, .int (S 22 (bh).toNatClampNeg)), (3, .int (ct + 1)), (0, .ref 9), (1, .int p1), (2, .int p2)]) dX1_enterCall_38 (by decide) rfl ?_
          refine ai_goto (tgt := 8) dX1_enterCall_40 (by decide) ?_
          refine ai_locj (lv' := [(0, .ref 9), (1, .int p1), (2, .int p2), (3, .int (ct + 1)), (4, .int (S 22 (bh).toNatClampNeg))]) [2, 3, 4, 1, 0] rfl ?_
          exact h
set_option maxHeartbeats 4000000 in
set_option maxRecDepth 100000 in
theorem vX1_enterCall_102 {p1 : Int32} {ct : Int32} {hd : Int32} {j : Int32} {S : ai_S} {V : ai_V} {G : ai_S → Prop} (hM : V 9 0 = .ref 20)
    (h : ((ct ≤ j → (¬ p1 < 0 ∧ (¬ (S 20 6) ≤ p1 ∧ (¬ 16 ≤ p1 ∧ (vp_in p1 16 ∧ G (ai_up (ai_up S 9 5 (S 10 5)) 9 4 (S 24 (p1).toNatClampNeg))))))) ∧ (¬ ct ≤ j → (¬ (((S 10 5) * 31) + (1 + j)) < 0 ∧ (¬ 961 ≤ (((S 10 5) * 31) + (1 + j)) ∧ (vp_in (((S 10 5) * 31) + (1 + j)) 961 ∧ ((hd < 0 → ai_W (uN l D ρ τ) (d + 2) mX1_enterCall 102 [(0, .ref 9), (1, .int p1), (3, .int ct), (5, .int 0), (6, .int (j + 1))] [] (ai_up S 11 ((((S 10 5) * 31) + (1 + j))).toNatClampNeg hd) V (ai_qv V G)) ∧ (¬ hd < 0 → (¬ (S 20 3) ≤ hd ∧ (¬ 488 ≤ hd ∧ (vp_in hd 488 ∧ ai_W (uN l D ρ τ) (d + 2) mX1_enterCall 102 [(0, .ref 9), (1, .int p1), (3, .int ct), (5, .int (S 22 (hd).toNatClampNeg)), (6, .int (j + 1))] [] (ai_up S 11 ((((S 10 5) * 31) + (1 + j))).toNatClampNeg hd) V (ai_qv V G)))))))))))) :
    ai_W (uN l D ρ τ) (d + 2) mX1_enterCall 102 [(0, .ref 9), (1, .int p1), (3, .int ct), (5, .int hd), (6, .int j)] [] S V (ai_qv V G) := by
  refine ai_iload dX1_enterCall_102 (j := 4) rfl ?_
  refine ai_iload_n dX1_enterCall_104 rfl (j := 2) rfl ?_
  refine ai_icmp_ge (tgt := 152) dX1_enterCall_105 (by decide) ⟨fun (hc1 : ct ≤ j) => ?_, fun (hc1 : ¬ ct ≤ j) => ?_⟩
  · have h := h.1 hc1
    refine ai_aload_n dX1_enterCall_152 rfl (j := 0) rfl ?_
    refine ai_aload_n dX1_enterCall_153 rfl (j := 0) rfl ?_
    refine ai_getR dX1_enterCall_154 fdX1_12 rfl rfl ?_
    refine ai_getI dX1_enterCall_157 fdX1_159 rfl rfl ?_
    refine ai_putI dX1_enterCall_160 fdX1_48 pdX1_5 rfl rfl rfl rfl ?_
    refine ai_aload_n dX1_enterCall_163 rfl (j := 0) rfl ?_
    refine ai_aload_n dX1_enterCall_164 rfl (j := 0) rfl ?_
    refine ai_getV dX1_enterCall_165 fdX1_31 rfl rfl ⟨hM, ?_⟩
    refine ai_iload_n dX1_enterCall_168 rfl (j := 1) rfl ?_
    refine ai_callVi (As := [.int p1]) (rest := [.ref 9]) dX1_enterCall_169 cvX1_165 rfl rfl rfl (Nat.le_of_ble_eq_true rfl) (vX2_startOf ?_)
    have hr2 : ¬ p1 < 0 := h.1
    have h := h.2
    refine ⟨hr2, ?_⟩
    have hr3 : ¬ (S 20 6) ≤ p1 := h.1
    have h := h.2
    refine ⟨hr3, ?_⟩
    have hr4 : ¬ 16 ≤ p1 := h.1
    have h := h.2
    refine ⟨hr4, ?_⟩
    refine ⟨h.1, ?_⟩
    have hi5 := h.1
    have h := h.2
    show ai_W _ _ _ _ _ (.int (S 24 (p1).toNatClampNeg) :: _) (ai_up S 9 5 (S 10 5)) _ _
    refine ai_putI dX1_enterCall_172 fdX1_45 pdX1_4 rfl rfl rfl rfl ?_
    exact ai_retv dX1_enterCall_175 rfl h
  · have h := h.2 hc1
    refine ai_aload_n dX1_enterCall_108 rfl (j := 0) rfl ?_
    refine ai_getR dX1_enterCall_109 fdX1_12 rfl rfl ?_
    refine ai_aload_n dX1_enterCall_112 rfl (j := 0) rfl ?_
    refine ai_getR dX1_enterCall_113 fdX1_12 rfl rfl ?_
    refine ai_aload_n dX1_enterCall_116 rfl (j := 0) rfl ?_
    refine ai_getR dX1_enterCall_117 fdX1_12 rfl rfl ?_
    refine ai_getI dX1_enterCall_120 fdX1_159 rfl rfl ?_
    refine ai_iconst (v := 1) dX1_enterCall_123 (by decide) ?_
    refine ai_iload dX1_enterCall_124 (j := 4) rfl ?_
    refine ai_iadd dX1_enterCall_126 ?_
    refine ai_callVi (As := [.int (S 10 5), .int (1 + j)]) (rest := [.ref 10]) dX1_enterCall_127 cvX1_112 rfl rfl rfl (Nat.le_of_ble_eq_true rfl) (vX0_addressOf ?_)
    show ai_W _ _ _ _ _ (.int (((S 10 5) * 31) + (1 + j)) :: _) S _ _
    refine ai_iload dX1_enterCall_130 (j := 3) rfl ?_
    refine ai_callVv (As := [.int (((S 10 5) * 31) + (1 + j)), .int hd]) (rest := []) dX1_enterCall_132 cvX1_116 rfl rfl rfl (Nat.le_of_ble_eq_true rfl) (vX0_setValue ?_)
    have hr6 : ¬ (((S 10 5) * 31) + (1 + j)) < 0 := h.1
    have h := h.2
    refine ⟨hr6, ?_⟩
    have hr7 : ¬ 961 ≤ (((S 10 5) * 31) + (1 + j)) := h.1
    have h := h.2
    refine ⟨hr7, ?_⟩
    refine ⟨h.1, ?_⟩
    have hi8 := h.1
    have h := h.2
    show ai_W _ _ _ _ _ _ (ai_up S 11 ((((S 10 5) * 31) + (1 + j))).toNatClampNeg hd) _ _
    refine ai_aload_n dX1_enterCall_135 rfl (j := 0) rfl ?_
    refine ai_getV dX1_enterCall_136 fdX1_31 rfl rfl ⟨hM, ?_⟩
    refine ai_iload dX1_enterCall_139 (j := 3) rfl ?_
    refine ai_callVi (As := [.int hd]) (rest := []) dX1_enterCall_141 cvX1_78 rfl rfl rfl (Nat.le_of_ble_eq_true rfl) (vX2_firstAt ?_)
    refine ⟨fun (hc9 : hd < 0) => ?_, fun (hc9 : ¬ hd < 0) => ?_⟩
    · have h := h.1 hc9
      show ai_W _ _ _ _ _ (.int 0 :: _) (ai_up S 11 ((((S 10 5) * 31) + (1 + j))).toNatClampNeg hd) _ _
      refine ai_istore (lv' := [(5, .int 0), (0, .ref 9), (1, .int p1), (3, .int ct), (6, .int j)]) dX1_enterCall_144 (by decide) rfl ?_
      refine ai_iinc (j := 4) (v := (j + 1)) (lv' := [(6, .int (j + 1)), (5, .int 0), (0, .ref 9), (1, .int p1), (3, .int ct)]) dX1_enterCall_146 rfl (by first | rfl | decide) (by decide) rfl ?_
      refine ai_goto (tgt := 102) dX1_enterCall_149 (by decide) ?_
      refine ai_locj (lv' := [(0, .ref 9), (1, .int p1), (3, .int ct), (5, .int 0), (6, .int (j + 1))]) [2, 3, 4, 1, 0] rfl ?_
      exact h
    · have h := h.2 hc9
      have hr10 : ¬ (S 20 3) ≤ hd := h.1
      have h := h.2
      refine ⟨hr10, ?_⟩
      have hr11 : ¬ 488 ≤ hd := h.1
      have h := h.2
      refine ⟨hr11, ?_⟩
      refine ⟨h.1, ?_⟩
      have hi12 := h.1
      have h := h.2
      show ai_W _ _ _ _ _ (.int (S 22 (hd).toNatClampNeg) :: _) (ai_up S 11 ((((S 10 5) * 31) + (1 + j))).toNatClampNeg hd) _ _
      refine ai_istore (lv' := [(5, .int (S 22 (hd).toNatClampNeg)), (0, .ref 9), (1, .int p1), (3, .int ct), (6, .int j)]) dX1_enterCall_144 (by decide) rfl ?_
      refine ai_iinc (j := 4) (v := (j + 1)) (lv' := [(6, .int (j + 1)), (5, .int (S 22 (hd).toNatClampNeg)), (0, .ref 9), (1, .int p1), (3, .int ct)]) dX1_enterCall_146 rfl (by first | rfl | decide) (by decide) rfl ?_
      refine ai_goto (tgt := 102) dX1_enterCall_149 (by decide) ?_
      refine ai_locj (lv' := [(0, .ref 9), (1, .int p1), (3, .int ct), (5, .int (S 22 (hd).toNatClampNeg)), (6, .int (j + 1))]) [2, 3, 4, 1, 0] rfl ?_
      exact h
set_option maxHeartbeats 4000000 in
set_option maxRecDepth 100000 in
theorem vX1_workOut {p1 : Int32} {p2 : Int32} {p3 : Int32} {S : ai_S} {V : ai_V} {G : ai_S → Prop} (hM : V 9 0 = .ref 20)
    (h : ai_met (uN l D ρ τ) (d + 2) mX0_outwards [.ref 10, .int (S 9 5), .int p3] S V (ai_qi V (fun x1 S2 => ((¬ p1 = 12 → (((S2 9 2) < (S2 9 1) → ((¬ p1 = 11 → G (ai_up (ai_up S2 9 2 ((S2 9 2) + 1)) 9 6 p2)) ∧ (p1 = 11 → (¬ ((x1 * 31) + p2) < 0 ∧ (¬ 961 ≤ ((x1 * 31) + p2) ∧ (vp_in ((x1 * 31) + p2) 961 ∧ G (ai_up (ai_up S2 9 2 ((S2 9 2) + 1)) 9 6 (S2 11 (((x1 * 31) + p2)).toNatClampNeg)))))))) ∧ (¬ (S2 9 2) < (S2 9 1) → G (ai_up S2 9 3 1)))) ∧ (p1 = 12 → (¬ (S2 9 10) < 0 ∧ ((S2 9 10) < 30 ∧ (vp_in (S2 9 10) 30 ∧ (¬ ((x1 * 31) + p2) < 0 ∧ (¬ 961 ≤ ((x1 * 31) + p2) ∧ (vp_in ((x1 * 31) + p2) 961 ∧ (¬ x1 < 0 ∧ (¬ 31 ≤ x1 ∧ (vp_in x1 31 ∧ G (ai_up (ai_up (ai_up (ai_up (ai_up S2 16 ((S2 9 10)).toNatClampNeg (S2 9 4)) 17 ((S2 9 10)).toNatClampNeg (S2 9 5)) 9 10 ((S2 9 10) + 1)) 9 4 ((S2 11 (((x1 * 31) + p2)).toNatClampNeg) + 1)) 9 5 (S2 13 (x1).toNatClampNeg)))))))))))))))) :
    ai_met (uN l D ρ τ) (d + 3) mX1_workOut [.ref 9, .int p1, .int p2, .int p3] S V (ai_qv V G) := by
  refine ai_mof plX1 (Nat.le_of_ble_eq_true rfl) (lv := [(0, .ref 9), (1, .int p1), (2, .int p2), (3, .int p3)]) rfl ?_
  refine ai_aload_n dX1_workOut_0 rfl (j := 0) rfl ?_
  refine ai_getR dX1_workOut_1 fdX1_12 rfl rfl ?_
  refine ai_aload_n dX1_workOut_4 rfl (j := 0) rfl ?_
  refine ai_getI dX1_workOut_5 fdX1_48 rfl rfl ?_
  refine ai_iload_n dX1_workOut_8 rfl (j := 3) rfl ?_
  refine ai_callVi (As := [.int (S 9 5), .int p3]) (rest := []) dX1_workOut_9 cvX1_128 rfl rfl rfl (Nat.le_of_ble_eq_true rfl) (ai_met.mi h (fun x1 S2 h => ?_))
  refine ai_istore (lv' := [(4, .int x1), (0, .ref 9), (1, .int p1), (2, .int p2), (3, .int p3)]) dX1_workOut_12 (by decide) rfl ?_
  refine ai_iload_n dX1_workOut_14 rfl (j := 2) rfl ?_
  refine ai_bipush (v := 12) dX1_workOut_15 (by decide) ?_
  refine ai_icmp_ne (tgt := 30) dX1_workOut_17 (by decide) ⟨fun (hc3 : ¬ p1 = 12) => ?_, fun (hc3 : p1 = 12) => ?_⟩
  · have h := h.1 hc3
    refine ai_aload_n dX1_workOut_30 rfl (j := 1) rfl ?_
    refine ai_callVz (As := []) (rest := []) dX1_workOut_31 cvX1_101 rfl rfl rfl (Nat.le_of_ble_eq_true rfl) (vX1_pay hM ?_)
    refine ⟨fun (hc4 : (S2 9 2) < (S2 9 1)) => ?_, fun (hc4 : ¬ (S2 9 2) < (S2 9 1)) => ?_⟩
    · have h := h.1 hc4
      refine ai_zt ?_
      refine ai_if_eq (tgt := 68) dX1_workOut_34 (by decide) ⟨fun hc => absurd hc (by decide), fun _ => ?_⟩
      refine ai_aload_n dX1_workOut_37 rfl (j := 1) rfl ?_
      refine ai_iload_n dX1_workOut_38 rfl (j := 2) rfl ?_
      refine ai_bipush (v := 11) dX1_workOut_39 (by decide) ?_
      refine ai_icmp_ne (tgt := 64) dX1_workOut_41 (by decide) ⟨fun (hc5 : ¬ p1 = 11) => ?_, fun (hc5 : p1 = 11) => ?_⟩
      · have h := h.1 hc5
        refine ai_iload_n dX1_workOut_64 rfl (j := 3) rfl ?_
        refine ai_putI dX1_workOut_65 fdX1_51 pdX1_6 rfl rfl rfl rfl ?_
        exact ai_retv dX1_workOut_68 rfl h
      · have h := h.2 hc5
        refine ai_aload_n dX1_workOut_44 rfl (j := 1) rfl ?_
        refine ai_getR dX1_workOut_45 fdX1_12 rfl rfl ?_
        refine ai_aload_n dX1_workOut_48 rfl (j := 1) rfl ?_
        refine ai_getR dX1_workOut_49 fdX1_12 rfl rfl ?_
        refine ai_iload dX1_workOut_52 (j := 0) rfl ?_
        refine ai_iload_n dX1_workOut_54 rfl (j := 3) rfl ?_
        refine ai_callVi (As := [.int x1, .int p2]) (rest := [.ref 10, .ref 9]) dX1_workOut_55 cvX1_112 rfl rfl rfl (Nat.le_of_ble_eq_true rfl) (vX0_addressOf ?_)
        show ai_W _ _ _ _ _ (.int ((x1 * 31) + p2) :: _) (ai_up S2 9 2 ((S2 9 2) + 1)) _ _
        refine ai_callVi (As := [.int ((x1 * 31) + p2)]) (rest := [.ref 9]) dX1_workOut_58 cvX1_140 rfl rfl rfl (Nat.le_of_ble_eq_true rfl) (vX0_valueAt ?_)
        have hr6 : ¬ ((x1 * 31) + p2) < 0 := h.1
        have h := h.2
        refine ⟨hr6, ?_⟩
        have hr7 : ¬ 961 ≤ ((x1 * 31) + p2) := h.1
        have h := h.2
        refine ⟨hr7, ?_⟩
        refine ⟨h.1, ?_⟩
        have hi8 := h.1
        have h := h.2
        show ai_W _ _ _ _ _ (.int (S2 11 (((x1 * 31) + p2)).toNatClampNeg) :: _) (ai_up S2 9 2 ((S2 9 2) + 1)) _ _
        refine ai_goto (tgt := 65) dX1_workOut_61 (by decide) ?_
        refine ai_putI dX1_workOut_65 fdX1_51 pdX1_6 rfl rfl rfl rfl ?_
        exact ai_retv dX1_workOut_68 rfl h
    · have h := h.2 hc4
      refine ai_zf ?_
      refine ai_if_eq (tgt := 68) dX1_workOut_34 (by decide) ⟨fun _ => ?_, fun hc => absurd hc (by decide)⟩
      exact ai_retv dX1_workOut_68 rfl h
  · have h := h.2 hc3
    refine ai_aload_n dX1_workOut_20 rfl (j := 1) rfl ?_
    refine ai_iload dX1_workOut_21 (j := 0) rfl ?_
    refine ai_iload_n dX1_workOut_23 rfl (j := 3) rfl ?_
    refine ai_callVv (As := [.int x1, .int p2]) (rest := []) dX1_workOut_24 cvX1_146 rfl rfl rfl (Nat.le_of_ble_eq_true rfl) (vX1_enterActual hM ?_)
    have hr9 : ¬ (S2 9 10) < 0 := h.1
    have h := h.2
    refine ⟨hr9, ?_⟩
    have hr10 : (S2 9 10) < 30 := h.1
    have h := h.2
    refine ⟨hr10, ?_⟩
    refine ⟨h.1, ?_⟩
    have hi11 := h.1
    have h := h.2
    have hr12 : ¬ ((x1 * 31) + p2) < 0 := h.1
    have h := h.2
    refine ⟨hr12, ?_⟩
    have hr13 : ¬ 961 ≤ ((x1 * 31) + p2) := h.1
    have h := h.2
    refine ⟨hr13, ?_⟩
    refine ⟨h.1, ?_⟩
    have hi14 := h.1
    have h := h.2
    have hr15 : ¬ x1 < 0 := h.1
    have h := h.2
    refine ⟨hr15, ?_⟩
    have hr16 : ¬ 31 ≤ x1 := h.1
    have h := h.2
    refine ⟨hr16, ?_⟩
    refine ⟨h.1, ?_⟩
    have hi17 := h.1
    have h := h.2
    show ai_W _ _ _ _ _ _ (ai_up (ai_up (ai_up (ai_up (ai_up S2 16 ((S2 9 10)).toNatClampNeg (S2 9 4)) 17 ((S2 9 10)).toNatClampNeg (S2 9 5)) 9 10 ((S2 9 10) + 1)) 9 4 ((S2 11 (((x1 * 31) + p2)).toNatClampNeg) + 1)) 9 5 (S2 13 (x1).toNatClampNeg)) _ _
    refine ai_goto (tgt := 68) dX1_workOut_27 (by decide) ?_
    exact ai_retv dX1_workOut_68 rfl h
set_option maxHeartbeats 4000000 in
set_option maxRecDepth 100000 in
theorem vX1_call {p1 : Int32} {p2 : Int32} {p3 : Int32} {S : ai_S} {V : ai_V} {G : ai_S → Prop} (hM : V 9 0 = .ref 20)
    (h : (((S 9 2) < (S 9 1) → ai_met (uN l D ρ τ) (d + 1) mX0_outwards [.ref 10, .int (S 9 5), .int p3] (ai_up S 9 2 ((S 9 2) + 1)) V (ai_qi V (fun x2 S3 => ((¬ p1 = 13 → ((¬ p1 = 14 → G (ai_up S3 9 3 3)) ∧ (p1 = 14 → ai_met (uN l D ρ τ) (d + 1) mX1_resolve [.ref 9, .int x2, .int p2] S3 V (ai_qi V (fun x6 S7 => ((x6 < 0 → G (ai_up S7 9 3 3)) ∧ (¬ x6 < 0 → (¬ (S7 20 3) ≤ x6 ∧ (¬ 488 ≤ x6 ∧ (vp_in x6 488 ∧ (((S7 21 (x6).toNatClampNeg) = 13 → ai_met (uN l D ρ τ) (d + 1) mX0_outwards [.ref 10, .int (S7 9 15), .int (S7 23 (x6).toNatClampNeg)] S7 V (ai_qi V (fun x13 S14 => ai_met (uN l D ρ τ) (d + 1) mX1_enterCall [.ref 9, .int (S7 22 (x6).toNatClampNeg), .int x13] S14 V (ai_qv V (fun S16 => G S16))))) ∧ (¬ (S7 21 (x6).toNatClampNeg) = 13 → G (ai_up S7 9 3 3))))))))))))) ∧ (p1 = 13 → ai_met (uN l D ρ τ) (d + 1) mX1_enterCall [.ref 9, .int p2, .int x2] S3 V (ai_qv V (fun S18 => G S18))))))) ∧ (¬ (S 9 2) < (S 9 1) → G (ai_up S 9 3 1)))) :
    ai_met (uN l D ρ τ) (d + 2) mX1_call [.ref 9, .int p1, .int p2, .int p3] S V (ai_qv V G) := by
  refine ai_mof plX1 (Nat.le_of_ble_eq_true rfl) (lv := [(0, .ref 9), (1, .int p1), (2, .int p2), (3, .int p3)]) rfl ?_
  refine ai_aload_n dX1_call_0 rfl (j := 0) rfl ?_
  refine ai_callVz (As := []) (rest := []) dX1_call_1 cvX1_101 rfl rfl rfl (Nat.le_of_ble_eq_true rfl) (vX1_pay hM ?_)
  refine ⟨fun (hc1 : (S 9 2) < (S 9 1)) => ?_, fun (hc1 : ¬ (S 9 2) < (S 9 1)) => ?_⟩
  · have h := h.1 hc1
    refine ai_zt ?_
    refine ai_if_ne (tgt := 8) dX1_call_4 (by decide) ⟨fun _ => ?_, fun hc => absurd hc (by decide)⟩
    refine ai_aload_n dX1_call_8 rfl (j := 0) rfl ?_
    refine ai_getR dX1_call_9 fdX1_12 rfl rfl ?_
    refine ai_aload_n dX1_call_12 rfl (j := 0) rfl ?_
    refine ai_getIx (S 9 5) dX1_call_13 fdX1_48 rfl rfl rfl ?_
    refine ai_iload_n dX1_call_16 rfl (j := 3) rfl ?_
    refine ai_callVi (As := [.int (S 9 5), .int p3]) (rest := []) dX1_call_17 cvX1_128 rfl rfl rfl (Nat.le_of_ble_eq_true rfl) (ai_met.mi h (fun x2 S3 h => ?_))
    refine ai_istore (lv' := [(4, .int x2), (0, .ref 9), (1, .int p1), (2, .int p2), (3, .int p3)]) dX1_call_20 (by decide) rfl ?_
    refine ai_iload_n dX1_call_22 rfl (j := 2) rfl ?_
    refine ai_bipush (v := 13) dX1_call_23 (by decide) ?_
    refine ai_icmp_ne (tgt := 36) dX1_call_25 (by decide) ⟨fun (hc4 : ¬ p1 = 13) => ?_, fun (hc4 : p1 = 13) => ?_⟩
    · have h := h.1 hc4
      refine ai_iload_n dX1_call_36 rfl (j := 2) rfl ?_
      refine ai_bipush (v := 14) dX1_call_37 (by decide) ?_
      refine ai_icmp_ne (tgt := 52) dX1_call_39 (by decide) ⟨fun (hc5 : ¬ p1 = 14) => ?_, fun (hc5 : p1 = 14) => ?_⟩
      · have h := h.1 hc5
        refine ai_iconst (v := (-1)) dX1_call_52 (by decide) ?_
        refine ai_istore (lv' := [(5, .int (-1)), (4, .int x2), (0, .ref 9), (1, .int p1), (2, .int p2), (3, .int p3)]) dX1_call_53 (by decide) rfl ?_
        refine ai_aload_n dX1_call_55 rfl (j := 2) rfl ?_
        refine ai_getV dX1_call_56 fdX1_31 rfl rfl ⟨hM, ?_⟩
        refine ai_iload dX1_call_59 (j := 0) rfl ?_
        refine ai_callVi (As := [.int (-1)]) (rest := []) dX1_call_61 cvX1_72 rfl rfl rfl (Nat.le_of_ble_eq_true rfl) (vX2_opAt ?_)
        refine ⟨fun _ => ?_, fun hc => absurd hc (by decide)⟩
        show ai_W _ _ _ _ _ (.int 0 :: _) S3 _ _
        refine ai_bipush (v := 13) dX1_call_64 (by decide) ?_
        refine ai_icmp_eq (tgt := 75) dX1_call_66 (by decide) ⟨fun hc => absurd hc (by decide), fun _ => ?_⟩
        refine ai_aload_n dX1_call_69 rfl (j := 2) rfl ?_
        refine ai_iconst (v := 3) dX1_call_70 (by decide) ?_
        refine ai_putI dX1_call_71 fdX1_42 pdX1_3 rfl rfl rfl rfl ?_
        exact ai_retv dX1_call_74 rfl h
      · have h := h.2 hc5
        refine ai_aload_n dX1_call_42 rfl (j := 1) rfl ?_
        refine ai_iload dX1_call_43 (j := 0) rfl ?_
        refine ai_iload_n dX1_call_45 rfl (j := 3) rfl ?_
        refine ai_callVi (As := [.int x2, .int p2]) (rest := []) dX1_call_46 cvX1_134 rfl rfl rfl (Nat.le_of_ble_eq_true rfl) (ai_met.mi h (fun x6 S7 h => ?_))
        refine ai_goto (tgt := 53) dX1_call_49 (by decide) ?_
        refine ai_istore (lv' := [(5, .int x6), (4, .int x2), (0, .ref 9), (1, .int p1), (2, .int p2), (3, .int p3)]) dX1_call_53 (by decide) rfl ?_
        refine ai_aload_n dX1_call_55 rfl (j := 2) rfl ?_
        refine ai_getV dX1_call_56 fdX1_31 rfl rfl ⟨hM, ?_⟩
        refine ai_iload dX1_call_59 (j := 0) rfl ?_
        refine ai_callVi (As := [.int x6]) (rest := []) dX1_call_61 cvX1_72 rfl rfl rfl (Nat.le_of_ble_eq_true rfl) (vX2_opAt ?_)
        refine ⟨fun (hc8 : x6 < 0) => ?_, fun (hc8 : ¬ x6 < 0) => ?_⟩
        · have h := h.1 hc8
          show ai_W _ _ _ _ _ (.int 0 :: _) S7 _ _
          refine ai_bipush (v := 13) dX1_call_64 (by decide) ?_
          refine ai_icmp_eq (tgt := 75) dX1_call_66 (by decide) ⟨fun hc => absurd hc (by decide), fun _ => ?_⟩
          refine ai_aload_n dX1_call_69 rfl (j := 2) rfl ?_
          refine ai_iconst (v := 3) dX1_call_70 (by decide) ?_
          refine ai_putI dX1_call_71 fdX1_42 pdX1_3 rfl rfl rfl rfl ?_
          exact ai_retv dX1_call_74 rfl h
        · have h := h.2 hc8
          have hr9 : ¬ (S7 20 3) ≤ x6 := h.1
          have h := h.2
          refine ⟨hr9, ?_⟩
          have hr10 : ¬ 488 ≤ x6 := h.1
          have h := h.2
          refine ⟨hr10, ?_⟩
          refine ⟨h.1, ?_⟩
          have hi11 := h.1
          have h := h.2
          show ai_W _ _ _ _ _ (.int (S7 21 (x6).toNatClampNeg) :: _) S7 _ _
          refine ai_bipush (v := 13) dX1_call_64 (by decide) ?_
          refine ai_icmp_eq (tgt := 75) dX1_call_66 (by decide) ⟨fun (hc12 : (S7 21 (x6).toNatClampNeg) = 13) => ?_, fun (hc12 : ¬ (S7 21 (x6).toNatClampNeg) = 13) => ?_⟩
          · have h := h.1 hc12
            refine ai_aload_n dX1_call_75 rfl (j := 2) rfl ?_
            refine ai_aload_n dX1_call_76 rfl (j := 2) rfl ?_
            refine ai_getV dX1_call_77 fdX1_31 rfl rfl ⟨hM, ?_⟩
            refine ai_iload dX1_call_80 (j := 0) rfl ?_
            refine ai_callVi (As := [.int x6]) (rest := [.ref 9]) dX1_call_82 cvX1_78 rfl rfl rfl (Nat.le_of_ble_eq_true rfl) (vX2_firstAt ?_)
            refine ⟨fun hc => absurd hc hc8, fun _ => ?_⟩
            refine ⟨hr9, ?_⟩
            refine ⟨hr10, ?_⟩
            refine ⟨hi11, ?_⟩
            show ai_W _ _ _ _ _ (.int (S7 22 (x6).toNatClampNeg) :: _) S7 _ _
            refine ai_aload_n dX1_call_85 rfl (j := 2) rfl ?_
            refine ai_getR dX1_call_86 fdX1_12 rfl rfl ?_
            refine ai_aload_n dX1_call_89 rfl (j := 2) rfl ?_
            refine ai_getI dX1_call_90 fdX1_137 rfl rfl ?_
            refine ai_aload_n dX1_call_93 rfl (j := 2) rfl ?_
            refine ai_getV dX1_call_94 fdX1_31 rfl rfl ⟨hM, ?_⟩
            refine ai_iload dX1_call_97 (j := 0) rfl ?_
            refine ai_callVi (As := [.int x6]) (rest := [.int (S7 9 15), .ref 10, .int (S7 22 (x6).toNatClampNeg), .ref 9]) dX1_call_99 cvX1_81 rfl rfl rfl (Nat.le_of_ble_eq_true rfl) (vX2_secondAt ?_)
            refine ⟨fun hc => absurd hc hc8, fun _ => ?_⟩
            refine ⟨hr9, ?_⟩
            refine ⟨hr10, ?_⟩
            refine ⟨hi11, ?_⟩
            show ai_W _ _ _ _ _ (.int (S7 23 (x6).toNatClampNeg) :: _) S7 _ _
            refine ai_callVi (As := [.int (S7 9 15), .int (S7 23 (x6).toNatClampNeg)]) (rest := [.int (S7 22 (x6).toNatClampNeg), .ref 9]) dX1_call_102 cvX1_128 rfl rfl rfl (Nat.le_of_ble_eq_true rfl) (ai_met.mi h (fun x13 S14 h => ?_))
            refine ai_callVv (As := [.int (S7 22 (x6).toNatClampNeg), .int x13]) (rest := []) dX1_call_105 cvX1_149 rfl rfl rfl (Nat.le_of_ble_eq_true rfl) (ai_met.mv h (fun S16 h => ?_))
            exact ai_retv dX1_call_108 rfl h
          · have h := h.2 hc12
            refine ai_aload_n dX1_call_69 rfl (j := 2) rfl ?_
            refine ai_iconst (v := 3) dX1_call_70 (by decide) ?_
            refine ai_putI dX1_call_71 fdX1_42 pdX1_3 rfl rfl rfl rfl ?_
            exact ai_retv dX1_call_74 rfl h
    · have h := h.2 hc4
      refine ai_aload_n dX1_call_28 rfl (j := 1) rfl ?_
      refine ai_iload_n dX1_call_29 rfl (j := 3) rfl ?_
      refine ai_iload dX1_call_30 (j := 0) rfl ?_
      refine ai_callVv (As := [.int p2, .int x2]) (rest := []) dX1_call_32 cvX1_149 rfl rfl rfl (Nat.le_of_ble_eq_true rfl) (ai_met.mv h (fun S18 h => ?_))
      exact ai_retv dX1_call_35 rfl h
  · have h := h.2 hc1
    refine ai_zf ?_
    refine ai_if_ne (tgt := 8) dX1_call_4 (by decide) ⟨fun hc => absurd hc (by decide), fun _ => ?_⟩
    exact ai_retv dX1_call_7 rfl h
set_option maxHeartbeats 4000000 in
set_option maxRecDepth 100000 in
theorem vX1_assign {p1 : Int32} {p2 : Int32} {p3 : Int32} {S : ai_S} {V : ai_V} {G : ai_S → Prop} (hM : V 9 0 = .ref 20)
    (h : ((¬ p1 = 9 → (((S 9 2) < (S 9 1) → ai_met (uN l D ρ τ) (d + 1) mX0_outwards [.ref 10, .int (S 9 5), .int p3] (ai_up S 9 2 ((S 9 2) + 1)) V (ai_qi V (fun x3 S4 => ((¬ p1 = 6 → ((¬ p1 = 7 → G (ai_up S4 9 3 2)) ∧ (p1 = 7 → ai_met (uN l D ρ τ) (d + 1) mX1_resolve [.ref 9, .int x3, .int p2] S4 V (ai_qi V (fun x7 S8 => ((x7 < 0 → G (ai_up S8 9 3 2)) ∧ (¬ x7 < 0 → (¬ (S8 20 3) ≤ x7 ∧ (¬ 488 ≤ x7 ∧ (vp_in x7 488 ∧ (((S8 21 (x7).toNatClampNeg) = 11 → ai_met (uN l D ρ τ) (d + 1) mX0_outwards [.ref 10, .int (S8 9 15), .int (S8 23 (x7).toNatClampNeg)] S8 V (ai_qi V (fun x14 S15 => (¬ (S15 20 3) ≤ x7 ∧ (¬ (S15 9 5) < 0 ∧ (¬ 31 ≤ (S15 9 5) ∧ (vp_in (S15 9 5) 31 ∧ G (ai_up S15 15 ((S15 9 5)).toNatClampNeg ((x14 * 31) + (S15 22 (x7).toNatClampNeg)))))))))) ∧ (¬ (S8 21 (x7).toNatClampNeg) = 11 → G (ai_up S8 9 3 2))))))))))))) ∧ (p1 = 6 → (¬ (S4 9 5) < 0 ∧ (¬ 31 ≤ (S4 9 5) ∧ (vp_in (S4 9 5) 31 ∧ G (ai_up S4 15 ((S4 9 5)).toNatClampNeg ((x3 * 31) + p2)))))))))) ∧ (¬ (S 9 2) < (S 9 1) → G (ai_up S 9 3 1)))) ∧ (p1 = 9 → (¬ (S 9 5) < 0 ∧ (¬ 31 ≤ (S 9 5) ∧ (vp_in (S 9 5) 31 ∧ (¬ (S 15 ((S 9 5)).toNatClampNeg) < 0 ∧ (¬ 961 ≤ (S 15 ((S 9 5)).toNatClampNeg) ∧ (vp_in (S 15 ((S 9 5)).toNatClampNeg) 961 ∧ G (ai_up S 11 ((S 15 ((S 9 5)).toNatClampNeg)).toNatClampNeg (S 9 6))))))))))) :
    ai_met (uN l D ρ τ) (d + 2) mX1_assign [.ref 9, .int p1, .int p2, .int p3] S V (ai_qv V G) := by
  refine ai_mof plX1 (Nat.le_of_ble_eq_true rfl) (lv := [(0, .ref 9), (1, .int p1), (2, .int p2), (3, .int p3)]) rfl ?_
  refine ai_iload_n dX1_assign_0 rfl (j := 1) rfl ?_
  refine ai_bipush (v := 9) dX1_assign_1 (by decide) ?_
  refine ai_icmp_ne (tgt := 29) dX1_assign_3 (by decide) ⟨fun (hc1 : ¬ p1 = 9) => ?_, fun (hc1 : p1 = 9) => ?_⟩
  · have h := h.1 hc1
    refine ai_aload_n dX1_assign_29 rfl (j := 0) rfl ?_
    refine ai_callVz (As := []) (rest := []) dX1_assign_30 cvX1_101 rfl rfl rfl (Nat.le_of_ble_eq_true rfl) (vX1_pay hM ?_)
    refine ⟨fun (hc2 : (S 9 2) < (S 9 1)) => ?_, fun (hc2 : ¬ (S 9 2) < (S 9 1)) => ?_⟩
    · have h := h.1 hc2
      refine ai_zt ?_
      refine ai_if_ne (tgt := 37) dX1_assign_33 (by decide) ⟨fun _ => ?_, fun hc => absurd hc (by decide)⟩
      refine ai_aload_n dX1_assign_37 rfl (j := 0) rfl ?_
      refine ai_getR dX1_assign_38 fdX1_12 rfl rfl ?_
      refine ai_aload_n dX1_assign_41 rfl (j := 0) rfl ?_
      refine ai_getIx (S 9 5) dX1_assign_42 fdX1_48 rfl rfl rfl ?_
      refine ai_iload_n dX1_assign_45 rfl (j := 3) rfl ?_
      refine ai_callVi (As := [.int (S 9 5), .int p3]) (rest := []) dX1_assign_46 cvX1_128 rfl rfl rfl (Nat.le_of_ble_eq_true rfl) (ai_met.mi h (fun x3 S4 h => ?_))
      refine ai_istore (lv' := [(4, .int x3), (0, .ref 9), (1, .int p1), (2, .int p2), (3, .int p3)]) dX1_assign_49 (by decide) rfl ?_
      refine ai_iload_n dX1_assign_51 rfl (j := 2) rfl ?_
      refine ai_bipush (v := 6) dX1_assign_52 (by decide) ?_
      refine ai_icmp_ne (tgt := 79) dX1_assign_54 (by decide) ⟨fun (hc5 : ¬ p1 = 6) => ?_, fun (hc5 : p1 = 6) => ?_⟩
      · have h := h.1 hc5
        refine ai_iload_n dX1_assign_79 rfl (j := 2) rfl ?_
        refine ai_bipush (v := 7) dX1_assign_80 (by decide) ?_
        refine ai_icmp_ne (tgt := 95) dX1_assign_82 (by decide) ⟨fun (hc6 : ¬ p1 = 7) => ?_, fun (hc6 : p1 = 7) => ?_⟩
        · have h := h.1 hc6
          refine ai_iconst (v := (-1)) dX1_assign_95 (by decide) ?_
          refine ai_istore (lv' := [(5, .int (-1)), (4, .int x3), (0, .ref 9), (1, .int p1), (2, .int p2), (3, .int p3)]) dX1_assign_96 (by decide) rfl ?_
          refine ai_aload_n dX1_assign_98 rfl (j := 2) rfl ?_
          refine ai_getV dX1_assign_99 fdX1_31 rfl rfl ⟨hM, ?_⟩
          refine ai_iload dX1_assign_102 (j := 0) rfl ?_
          refine ai_callVi (As := [.int (-1)]) (rest := []) dX1_assign_104 cvX1_72 rfl rfl rfl (Nat.le_of_ble_eq_true rfl) (vX2_opAt ?_)
          refine ⟨fun _ => ?_, fun hc => absurd hc (by decide)⟩
          show ai_W _ _ _ _ _ (.int 0 :: _) S4 _ _
          refine ai_bipush (v := 11) dX1_assign_107 (by decide) ?_
          refine ai_icmp_eq (tgt := 118) dX1_assign_109 (by decide) ⟨fun hc => absurd hc (by decide), fun _ => ?_⟩
          refine ai_aload_n dX1_assign_112 rfl (j := 2) rfl ?_
          refine ai_iconst (v := 2) dX1_assign_113 (by decide) ?_
          refine ai_putI dX1_assign_114 fdX1_42 pdX1_3 rfl rfl rfl rfl ?_
          exact ai_retv dX1_assign_117 rfl h
        · have h := h.2 hc6
          refine ai_aload_n dX1_assign_85 rfl (j := 1) rfl ?_
          refine ai_iload dX1_assign_86 (j := 0) rfl ?_
          refine ai_iload_n dX1_assign_88 rfl (j := 3) rfl ?_
          refine ai_callVi (As := [.int x3, .int p2]) (rest := []) dX1_assign_89 cvX1_134 rfl rfl rfl (Nat.le_of_ble_eq_true rfl) (ai_met.mi h (fun x7 S8 h => ?_))
          refine ai_goto (tgt := 96) dX1_assign_92 (by decide) ?_
          refine ai_istore (lv' := [(5, .int x7), (4, .int x3), (0, .ref 9), (1, .int p1), (2, .int p2), (3, .int p3)]) dX1_assign_96 (by decide) rfl ?_
          refine ai_aload_n dX1_assign_98 rfl (j := 2) rfl ?_
          refine ai_getV dX1_assign_99 fdX1_31 rfl rfl ⟨hM, ?_⟩
          refine ai_iload dX1_assign_102 (j := 0) rfl ?_
          refine ai_callVi (As := [.int x7]) (rest := []) dX1_assign_104 cvX1_72 rfl rfl rfl (Nat.le_of_ble_eq_true rfl) (vX2_opAt ?_)
          refine ⟨fun (hc9 : x7 < 0) => ?_, fun (hc9 : ¬ x7 < 0) => ?_⟩
          · have h := h.1 hc9
            show ai_W _ _ _ _ _ (.int 0 :: _) S8 _ _
            refine ai_bipush (v := 11) dX1_assign_107 (by decide) ?_
            refine ai_icmp_eq (tgt := 118) dX1_assign_109 (by decide) ⟨fun hc => absurd hc (by decide), fun _ => ?_⟩
            refine ai_aload_n dX1_assign_112 rfl (j := 2) rfl ?_
            refine ai_iconst (v := 2) dX1_assign_113 (by decide) ?_
            refine ai_putI dX1_assign_114 fdX1_42 pdX1_3 rfl rfl rfl rfl ?_
            exact ai_retv dX1_assign_117 rfl h
          · have h := h.2 hc9
            have hr10 : ¬ (S8 20 3) ≤ x7 := h.1
            have h := h.2
            refine ⟨hr10, ?_⟩
            have hr11 : ¬ 488 ≤ x7 := h.1
            have h := h.2
            refine ⟨hr11, ?_⟩
            refine ⟨h.1, ?_⟩
            have hi12 := h.1
            have h := h.2
            show ai_W _ _ _ _ _ (.int (S8 21 (x7).toNatClampNeg) :: _) S8 _ _
            refine ai_bipush (v := 11) dX1_assign_107 (by decide) ?_
            refine ai_icmp_eq (tgt := 118) dX1_assign_109 (by decide) ⟨fun (hc13 : (S8 21 (x7).toNatClampNeg) = 11) => ?_, fun (hc13 : ¬ (S8 21 (x7).toNatClampNeg) = 11) => ?_⟩
            · have h := h.1 hc13
              refine ai_aload_n dX1_assign_118 rfl (j := 2) rfl ?_
              refine ai_getR dX1_assign_119 fdX1_12 rfl rfl ?_
              refine ai_aload_n dX1_assign_122 rfl (j := 2) rfl ?_
              refine ai_getI dX1_assign_123 fdX1_137 rfl rfl ?_
              refine ai_aload_n dX1_assign_126 rfl (j := 2) rfl ?_
              refine ai_getV dX1_assign_127 fdX1_31 rfl rfl ⟨hM, ?_⟩
              refine ai_iload dX1_assign_130 (j := 0) rfl ?_
              refine ai_callVi (As := [.int x7]) (rest := [.int (S8 9 15), .ref 10]) dX1_assign_132 cvX1_81 rfl rfl rfl (Nat.le_of_ble_eq_true rfl) (vX2_secondAt ?_)
              refine ⟨fun hc => absurd hc hc9, fun _ => ?_⟩
              refine ⟨hr10, ?_⟩
              refine ⟨hr11, ?_⟩
              refine ⟨hi12, ?_⟩
              show ai_W _ _ _ _ _ (.int (S8 23 (x7).toNatClampNeg) :: _) S8 _ _
              refine ai_callVi (As := [.int (S8 9 15), .int (S8 23 (x7).toNatClampNeg)]) (rest := []) dX1_assign_135 cvX1_128 rfl rfl rfl (Nat.le_of_ble_eq_true rfl) (ai_met.mi h (fun x14 S15 h => ?_))
              refine ai_istore (lv' := [(6, .int x14), (5, .int x7), (4, .int x3), (0, .ref 9), (1, .int p1), (2, .int p2), (3, .int p3)]) dX1_assign_138 (by decide) rfl ?_
              refine ai_aload_n dX1_assign_140 rfl (j := 3) rfl ?_
              refine ai_getR dX1_assign_141 fdX1_12 rfl rfl ?_
              refine ai_aload_n dX1_assign_144 rfl (j := 3) rfl ?_
              refine ai_getI dX1_assign_145 fdX1_48 rfl rfl ?_
              refine ai_aload_n dX1_assign_148 rfl (j := 3) rfl ?_
              refine ai_getR dX1_assign_149 fdX1_12 rfl rfl ?_
              refine ai_iload dX1_assign_152 (j := 0) rfl ?_
              refine ai_aload_n dX1_assign_154 rfl (j := 3) rfl ?_
              refine ai_getV dX1_assign_155 fdX1_31 rfl rfl ⟨hM, ?_⟩
              refine ai_iload dX1_assign_158 (j := 1) rfl ?_
              refine ai_callVi (As := [.int x7]) (rest := [.int x14, .ref 10, .int (S15 9 5), .ref 10]) dX1_assign_160 cvX1_78 rfl rfl rfl (Nat.le_of_ble_eq_true rfl) (vX2_firstAt ?_)
              refine ⟨fun hc => absurd hc hc9, fun _ => ?_⟩
              have hr16 : ¬ (S15 20 3) ≤ x7 := h.1
              have h := h.2
              refine ⟨hr16, ?_⟩
              refine ⟨hr11, ?_⟩
              refine ⟨hi12, ?_⟩
              show ai_W _ _ _ _ _ (.int (S15 22 (x7).toNatClampNeg) :: _) S15 _ _
              refine ai_callVi (As := [.int x14, .int (S15 22 (x7).toNatClampNeg)]) (rest := [.int (S15 9 5), .ref 10]) dX1_assign_163 cvX1_112 rfl rfl rfl (Nat.le_of_ble_eq_true rfl) (vX0_addressOf ?_)
              show ai_W _ _ _ _ _ (.int ((x14 * 31) + (S15 22 (x7).toNatClampNeg)) :: _) S15 _ _
              refine ai_callVv (As := [.int (S15 9 5), .int ((x14 * 31) + (S15 22 (x7).toNatClampNeg))]) (rest := []) dX1_assign_166 cvX1_131 rfl rfl rfl (Nat.le_of_ble_eq_true rfl) (vX0_setTarget ?_)
              have hr17 : ¬ (S15 9 5) < 0 := h.1
              have h := h.2
              refine ⟨hr17, ?_⟩
              have hr18 : ¬ 31 ≤ (S15 9 5) := h.1
              have h := h.2
              refine ⟨hr18, ?_⟩
              refine ⟨h.1, ?_⟩
              have hi19 := h.1
              have h := h.2
              show ai_W _ _ _ _ _ _ (ai_up S15 15 ((S15 9 5)).toNatClampNeg ((x14 * 31) + (S15 22 (x7).toNatClampNeg))) _ _
              exact ai_retv dX1_assign_169 rfl h
            · have h := h.2 hc13
              refine ai_aload_n dX1_assign_112 rfl (j := 2) rfl ?_
              refine ai_iconst (v := 2) dX1_assign_113 (by decide) ?_
              refine ai_putI dX1_assign_114 fdX1_42 pdX1_3 rfl rfl rfl rfl ?_
              exact ai_retv dX1_assign_117 rfl h
      · have h := h.2 hc5
        refine ai_aload_n dX1_assign_57 rfl (j := 1) rfl ?_
        refine ai_getR dX1_assign_58 fdX1_12 rfl rfl ?_
        refine ai_aload_n dX1_assign_61 rfl (j := 1) rfl ?_
        refine ai_getI dX1_assign_62 fdX1_48 rfl rfl ?_
        refine ai_aload_n dX1_assign_65 rfl (j := 1) rfl ?_
        refine ai_getR dX1_assign_66 fdX1_12 rfl rfl ?_
        refine ai_iload dX1_assign_69 (j := 0) rfl ?_
        refine ai_iload_n dX1_assign_71 rfl (j := 3) rfl ?_
        refine ai_callVi (As := [.int x3, .int p2]) (rest := [.int (S4 9 5), .ref 10]) dX1_assign_72 cvX1_112 rfl rfl rfl (Nat.le_of_ble_eq_true rfl) (vX0_addressOf ?_)
        show ai_W _ _ _ _ _ (.int ((x3 * 31) + p2) :: _) S4 _ _
        refine ai_callVv (As := [.int (S4 9 5), .int ((x3 * 31) + p2)]) (rest := []) dX1_assign_75 cvX1_131 rfl rfl rfl (Nat.le_of_ble_eq_true rfl) (vX0_setTarget ?_)
        have hr20 : ¬ (S4 9 5) < 0 := h.1
        have h := h.2
        refine ⟨hr20, ?_⟩
        have hr21 : ¬ 31 ≤ (S4 9 5) := h.1
        have h := h.2
        refine ⟨hr21, ?_⟩
        refine ⟨h.1, ?_⟩
        have hi22 := h.1
        have h := h.2
        show ai_W _ _ _ _ _ _ (ai_up S4 15 ((S4 9 5)).toNatClampNeg ((x3 * 31) + p2)) _ _
        exact ai_retv dX1_assign_78 rfl h
    · have h := h.2 hc2
      refine ai_zf ?_
      refine ai_if_ne (tgt := 37) dX1_assign_33 (by decide) ⟨fun hc => absurd hc (by decide), fun _ => ?_⟩
      exact ai_retv dX1_assign_36 rfl h
  · have h := h.2 hc1
    refine ai_aload_n dX1_assign_6 rfl (j := 0) rfl ?_
    refine ai_getR dX1_assign_7 fdX1_12 rfl rfl ?_
    refine ai_aload_n dX1_assign_10 rfl (j := 0) rfl ?_
    refine ai_getR dX1_assign_11 fdX1_12 rfl rfl ?_
    refine ai_aload_n dX1_assign_14 rfl (j := 0) rfl ?_
    refine ai_getI dX1_assign_15 fdX1_48 rfl rfl ?_
    refine ai_callVi (As := [.int (S 9 5)]) (rest := [.ref 10]) dX1_assign_18 cvX1_125 rfl rfl rfl (Nat.le_of_ble_eq_true rfl) (vX0_targetOf ?_)
    have hr23 : ¬ (S 9 5) < 0 := h.1
    have h := h.2
    refine ⟨hr23, ?_⟩
    have hr24 : ¬ 31 ≤ (S 9 5) := h.1
    have h := h.2
    refine ⟨hr24, ?_⟩
    refine ⟨h.1, ?_⟩
    have hi25 := h.1
    have h := h.2
    show ai_W _ _ _ _ _ (.int (S 15 ((S 9 5)).toNatClampNeg) :: _) S _ _
    refine ai_aload_n dX1_assign_21 rfl (j := 0) rfl ?_
    refine ai_getI dX1_assign_22 fdX1_51 rfl rfl ?_
    refine ai_callVv (As := [.int (S 15 ((S 9 5)).toNatClampNeg), .int (S 9 6)]) (rest := []) dX1_assign_25 cvX1_116 rfl rfl rfl (Nat.le_of_ble_eq_true rfl) (vX0_setValue ?_)
    have hr26 : ¬ (S 15 ((S 9 5)).toNatClampNeg) < 0 := h.1
    have h := h.2
    refine ⟨hr26, ?_⟩
    have hr27 : ¬ 961 ≤ (S 15 ((S 9 5)).toNatClampNeg) := h.1
    have h := h.2
    refine ⟨hr27, ?_⟩
    refine ⟨h.1, ?_⟩
    have hi28 := h.1
    have h := h.2
    show ai_W _ _ _ _ _ _ (ai_up S 11 ((S 15 ((S 9 5)).toNatClampNeg)).toNatClampNeg (S 9 6)) _ _
    exact ai_retv dX1_assign_28 rfl h
set_option maxHeartbeats 4000000 in
set_option maxRecDepth 100000 in
theorem vX1_control {p1 : Int32} {p2 : Int32} {p3 : Int32} {S : ai_S} {V : ai_V} {G : ai_S → Prop} (hM : V 9 0 = .ref 20)
    (h : ((p1 = 1 → (((S 9 2) < (S 9 1) → G (ai_up S 9 2 ((S 9 2) + 1))) ∧ (¬ (S 9 2) < (S 9 1) → G (ai_up S 9 3 1)))) ∧ (p1 = 2 → ai_met (uN l D ρ τ) (d + 2) mX1_beginBlock [.ref 9, .int p2, .int p3] S V (ai_qv V (fun S5 => G S5))) ∧ (p1 = 3 → G (ai_up S 9 4 p2)) ∧ (p1 = 4 → ((¬ (S 9 6) = 0 → G S) ∧ ((S 9 6) = 0 → G (ai_up S 9 4 p2)))) ∧ (p1 = 5 → (((S 9 14) < 32 → (vp_in (S 9 14) 32 ∧ G (ai_up (ai_up S 19 ((S 9 14)).toNatClampNeg (S 9 6)) 9 14 ((S 9 14) + 1)))) ∧ (¬ (S 9 14) < 32 → G (ai_up S 9 3 6)))) ∧ (p1 = 16 → (¬ (((S 9 5) * 31) + p2) < 0 ∧ (¬ 961 ≤ (((S 9 5) * 31) + p2) ∧ (vp_in (((S 9 5) * 31) + p2) 961 ∧ G (ai_up S 11 ((((S 9 5) * 31) + p2)).toNatClampNeg (S 9 6)))))) ∧ (p1 = 17 → (¬ (((S 10 5) * 31) + 0) < 0 ∧ (¬ 961 ≤ (((S 10 5) * 31) + 0) ∧ (vp_in (((S 10 5) * 31) + 0) 961 ∧ (¬ (S 10 5) < 0 ∧ (¬ 31 ≤ (S 10 5) ∧ (vp_in (S 10 5) 31 ∧ (¬ (S 10 5) ≤ 0 ∧ G (ai_up (ai_up (ai_up (ai_up S 9 6 (S 11 ((((S 10 5) * 31) + 0)).toNatClampNeg)) 9 4 (S 14 ((S 10 5)).toNatClampNeg)) 9 5 (S 13 ((S 10 5)).toNatClampNeg)) 10 5 ((S 10 5) - 1)))))))))) ∧ (p1 = 25 → (¬ (S 9 10) ≤ 0 ∧ (¬ 30 < (S 9 10) ∧ (vp_in ((S 9 10) - 1) 30 ∧ G (ai_up (ai_up (ai_up S 9 10 ((S 9 10) - 1)) 9 4 (S 16 (((S 9 10) - 1)).toNatClampNeg)) 9 5 (S 17 (((S 9 10) - 1)).toNatClampNeg)))))) ∧ (¬ p1 = 1 ∧ ¬ p1 = 2 ∧ ¬ p1 = 3 ∧ ¬ p1 = 4 ∧ ¬ p1 = 5 ∧ ¬ p1 = 16 ∧ ¬ p1 = 17 ∧ ¬ p1 = 25 → G (ai_up S 9 3 0)))) :
    ai_met (uN l D ρ τ) (d + 3) mX1_control [.ref 9, .int p1, .int p2, .int p3] S V (ai_qv V G) := by
  refine ai_mof plX1 (Nat.le_of_ble_eq_true rfl) (lv := [(0, .ref 9), (1, .int p1), (2, .int p2), (3, .int p3)]) rfl ?_
  refine ai_iload_n dX1_control_0 rfl (j := 1) rfl ?_
  by_cases hs1 : p1 = 1
  · have h := h.1 hs1
    refine ai_tab (tgt := 116) 1 dX1_control_1 hs1 (by decide) (by decide) rfl (by decide) ?_
    refine ai_aload_n dX1_control_116 rfl (j := 0) rfl ?_
    refine ai_callVz (As := []) (rest := []) dX1_control_117 cvX1_101 rfl rfl rfl (Nat.le_of_ble_eq_true rfl) (vX1_pay hM ?_)
    refine ⟨fun (hc2 : (S 9 2) < (S 9 1)) => ?_, fun (hc2 : ¬ (S 9 2) < (S 9 1)) => ?_⟩
    · have h := h.1 hc2
      refine ai_zt ?_
      refine ai_pop dX1_control_120 rfl ?_
      refine ai_goto (tgt := 208) dX1_control_121 (by decide) ?_
      exact ai_retv dX1_control_208 rfl h
    · have h := h.2 hc2
      refine ai_zf ?_
      refine ai_pop dX1_control_120 rfl ?_
      refine ai_goto (tgt := 208) dX1_control_121 (by decide) ?_
      exact ai_retv dX1_control_208 rfl h
  by_cases hs3 : p1 = 2
  · have h := h.2.1 hs3
    refine ai_tab (tgt := 124) 2 dX1_control_1 hs3 (by decide) (by decide) rfl (by decide) ?_
    refine ai_aload_n dX1_control_124 rfl (j := 0) rfl ?_
    refine ai_iload_n dX1_control_125 rfl (j := 2) rfl ?_
    refine ai_iload_n dX1_control_126 rfl (j := 3) rfl ?_
    refine ai_callVv (As := [.int p2, .int p3]) (rest := []) dX1_control_127 cvX1_105 rfl rfl rfl (Nat.le_of_ble_eq_true rfl) (ai_met.mv h (fun S5 h => ?_))
    refine ai_goto (tgt := 208) dX1_control_130 (by decide) ?_
    exact ai_retv dX1_control_208 rfl h
  by_cases hs6 : p1 = 3
  · have h := h.2.2.1 hs6
    refine ai_tab (tgt := 133) 3 dX1_control_1 hs6 (by decide) (by decide) rfl (by decide) ?_
    refine ai_aload_n dX1_control_133 rfl (j := 0) rfl ?_
    refine ai_iload_n dX1_control_134 rfl (j := 2) rfl ?_
    refine ai_putI dX1_control_135 fdX1_45 pdX1_4 rfl rfl rfl rfl ?_
    refine ai_goto (tgt := 208) dX1_control_138 (by decide) ?_
    exact ai_retv dX1_control_208 rfl h
  by_cases hs7 : p1 = 4
  · have h := h.2.2.2.1 hs7
    refine ai_tab (tgt := 141) 4 dX1_control_1 hs7 (by decide) (by decide) rfl (by decide) ?_
    refine ai_aload_n dX1_control_141 rfl (j := 0) rfl ?_
    refine ai_getI dX1_control_142 fdX1_51 rfl rfl ?_
    refine ai_if_ne (tgt := 208) dX1_control_145 (by decide) ⟨fun (hc8 : ¬ (S 9 6) = 0) => ?_, fun (hc8 : (S 9 6) = 0) => ?_⟩
    · have h := h.1 hc8
      exact ai_retv dX1_control_208 rfl h
    · have h := h.2 hc8
      refine ai_aload_n dX1_control_148 rfl (j := 0) rfl ?_
      refine ai_iload_n dX1_control_149 rfl (j := 2) rfl ?_
      refine ai_putI dX1_control_150 fdX1_45 pdX1_4 rfl rfl rfl rfl ?_
      refine ai_goto (tgt := 208) dX1_control_153 (by decide) ?_
      exact ai_retv dX1_control_208 rfl h
  by_cases hs9 : p1 = 5
  · have h := h.2.2.2.2.1 hs9
    refine ai_tab (tgt := 156) 5 dX1_control_1 hs9 (by decide) (by decide) rfl (by decide) ?_
    refine ai_aload_n dX1_control_156 rfl (j := 0) rfl ?_
    refine ai_callVv (As := []) (rest := []) dX1_control_157 cvX1_109 rfl rfl rfl (Nat.le_of_ble_eq_true rfl) (vX1_printValue hM ?_)
    refine ⟨fun (hc10 : (S 9 14) < 32) => ?_, fun (hc10 : ¬ (S 9 14) < 32) => ?_⟩
    · have h := h.1 hc10
      refine ⟨h.1, ?_⟩
      have hi11 := h.1
      have h := h.2
      show ai_W _ _ _ _ _ _ (ai_up (ai_up S 19 ((S 9 14)).toNatClampNeg (S 9 6)) 9 14 ((S 9 14) + 1)) _ _
      refine ai_goto (tgt := 208) dX1_control_160 (by decide) ?_
      exact ai_retv dX1_control_208 rfl h
    · have h := h.2 hc10
      show ai_W _ _ _ _ _ _ (ai_up S 9 3 6) _ _
      refine ai_goto (tgt := 208) dX1_control_160 (by decide) ?_
      exact ai_retv dX1_control_208 rfl h
  by_cases hs12 : p1 = 16
  · have h := h.2.2.2.2.2.1 hs12
    refine ai_tab (tgt := 163) 16 dX1_control_1 hs12 (by decide) (by decide) rfl (by decide) ?_
    refine ai_aload_n dX1_control_163 rfl (j := 0) rfl ?_
    refine ai_getR dX1_control_164 fdX1_12 rfl rfl ?_
    refine ai_aload_n dX1_control_167 rfl (j := 0) rfl ?_
    refine ai_getR dX1_control_168 fdX1_12 rfl rfl ?_
    refine ai_aload_n dX1_control_171 rfl (j := 0) rfl ?_
    refine ai_getI dX1_control_172 fdX1_48 rfl rfl ?_
    refine ai_iload_n dX1_control_175 rfl (j := 2) rfl ?_
    refine ai_callVi (As := [.int (S 9 5), .int p2]) (rest := [.ref 10]) dX1_control_176 cvX1_112 rfl rfl rfl (Nat.le_of_ble_eq_true rfl) (vX0_addressOf ?_)
    show ai_W _ _ _ _ _ (.int (((S 9 5) * 31) + p2) :: _) S _ _
    refine ai_aload_n dX1_control_179 rfl (j := 0) rfl ?_
    refine ai_getI dX1_control_180 fdX1_51 rfl rfl ?_
    refine ai_callVv (As := [.int (((S 9 5) * 31) + p2), .int (S 9 6)]) (rest := []) dX1_control_183 cvX1_116 rfl rfl rfl (Nat.le_of_ble_eq_true rfl) (vX0_setValue ?_)
    have hr13 : ¬ (((S 9 5) * 31) + p2) < 0 := h.1
    have h := h.2
    refine ⟨hr13, ?_⟩
    have hr14 : ¬ 961 ≤ (((S 9 5) * 31) + p2) := h.1
    have h := h.2
    refine ⟨hr14, ?_⟩
    refine ⟨h.1, ?_⟩
    have hi15 := h.1
    have h := h.2
    show ai_W _ _ _ _ _ _ (ai_up S 11 ((((S 9 5) * 31) + p2)).toNatClampNeg (S 9 6)) _ _
    refine ai_goto (tgt := 208) dX1_control_186 (by decide) ?_
    exact ai_retv dX1_control_208 rfl h
  by_cases hs16 : p1 = 17
  · have h := h.2.2.2.2.2.2.1 hs16
    refine ai_tab (tgt := 189) 17 dX1_control_1 hs16 (by decide) (by decide) rfl (by decide) ?_
    refine ai_aload_n dX1_control_189 rfl (j := 0) rfl ?_
    refine ai_callVv (As := []) (rest := []) dX1_control_190 cvX1_119 rfl rfl rfl (Nat.le_of_ble_eq_true rfl) (vX1_leaveCall hM ?_)
    have hr17 : ¬ (((S 10 5) * 31) + 0) < 0 := h.1
    have h := h.2
    refine ⟨hr17, ?_⟩
    have hr18 : ¬ 961 ≤ (((S 10 5) * 31) + 0) := h.1
    have h := h.2
    refine ⟨hr18, ?_⟩
    refine ⟨h.1, ?_⟩
    have hi19 := h.1
    have h := h.2
    have hr20 : ¬ (S 10 5) < 0 := h.1
    have h := h.2
    refine ⟨hr20, ?_⟩
    have hr21 : ¬ 31 ≤ (S 10 5) := h.1
    have h := h.2
    refine ⟨hr21, ?_⟩
    refine ⟨h.1, ?_⟩
    have hi22 := h.1
    have h := h.2
    have hr23 : ¬ (S 10 5) ≤ 0 := h.1
    have h := h.2
    refine ⟨hr23, ?_⟩
    show ai_W _ _ _ _ _ _ (ai_up (ai_up (ai_up (ai_up S 9 6 (S 11 ((((S 10 5) * 31) + 0)).toNatClampNeg)) 9 4 (S 14 ((S 10 5)).toNatClampNeg)) 9 5 (S 13 ((S 10 5)).toNatClampNeg)) 10 5 ((S 10 5) - 1)) _ _
    refine ai_goto (tgt := 208) dX1_control_193 (by decide) ?_
    exact ai_retv dX1_control_208 rfl h
  by_cases hs24 : p1 = 25
  · have h := h.2.2.2.2.2.2.2.1 hs24
    refine ai_tab (tgt := 196) 25 dX1_control_1 hs24 (by decide) (by decide) rfl (by decide) ?_
    refine ai_aload_n dX1_control_196 rfl (j := 0) rfl ?_
    refine ai_callVv (As := []) (rest := []) dX1_control_197 cvX1_122 rfl rfl rfl (Nat.le_of_ble_eq_true rfl) (vX1_leaveActual hM ?_)
    have hr25 : ¬ (S 9 10) ≤ 0 := h.1
    have h := h.2
    refine ⟨hr25, ?_⟩
    have hr26 : ¬ 30 < (S 9 10) := h.1
    have h := h.2
    refine ⟨hr26, ?_⟩
    refine ⟨h.1, ?_⟩
    have hi27 := h.1
    have h := h.2
    show ai_W _ _ _ _ _ _ (ai_up (ai_up (ai_up S 9 10 ((S 9 10) - 1)) 9 4 (S 16 (((S 9 10) - 1)).toNatClampNeg)) 9 5 (S 17 (((S 9 10) - 1)).toNatClampNeg)) _ _
    refine ai_goto (tgt := 208) dX1_control_200 (by decide) ?_
    exact ai_retv dX1_control_208 rfl h
  have h := h.2.2.2.2.2.2.2.2 ⟨hs1, hs3, hs6, hs7, hs9, hs12, hs16, hs24⟩
  refine ai_tabD (tgt := 203) [1, 2, 3, 4, 5, 16, 17, 25] dX1_control_1 (List.forall_mem_cons.mpr ⟨ai_swx 1 (by decide) hs1, List.forall_mem_cons.mpr ⟨ai_swx 2 (by decide) hs3, List.forall_mem_cons.mpr ⟨ai_swx 3 (by decide) hs6, List.forall_mem_cons.mpr ⟨ai_swx 4 (by decide) hs7, List.forall_mem_cons.mpr ⟨ai_swx 5 (by decide) hs9, List.forall_mem_cons.mpr ⟨ai_swx 16 (by decide) hs12, List.forall_mem_cons.mpr ⟨ai_swx 17 (by decide) hs16, List.forall_mem_cons.mpr ⟨ai_swx 25 (by decide) hs24, fun _ h => absurd h List.not_mem_nil⟩⟩⟩⟩⟩⟩⟩⟩) (by decide) (by decide) (by decide) ?_
  refine ai_aload_n dX1_control_203 rfl (j := 0) rfl ?_
  refine ai_iconst (v := 0) dX1_control_204 (by decide) ?_
  refine ai_putI dX1_control_205 fdX1_42 pdX1_3 rfl rfl rfl rfl ?_
  exact ai_retv dX1_control_208 rfl h
set_option maxHeartbeats 4000000 in
set_option maxRecDepth 100000 in
theorem vX1_step {S : ai_S} {V : ai_V} {G : ai_S → Prop} (hM : V 9 0 = .ref 20)
    (h : (((S 9 4) < 0 → ai_met (uN l D ρ τ) (d + 1) mX1_control [.ref 9, .int 0, .int 0, .int 0] (ai_up S 9 4 ((S 9 4) + 1)) V (ai_qv V (fun S3 => G S3))) ∧ (¬ (S 9 4) < 0 → (¬ (S 20 3) ≤ (S 9 4) ∧ (¬ 488 ≤ (S 9 4) ∧ (vp_in (S 9 4) 488 ∧ (((S 21 ((S 9 4)).toNatClampNeg) < 18 → (((S 21 ((S 9 4)).toNatClampNeg) < 6 → (((S 21 ((S 9 4)).toNatClampNeg) < 10 → (((S 21 ((S 9 4)).toNatClampNeg) < 13 → ai_met (uN l D ρ τ) (d + 1) mX1_control [.ref 9, .int (S 21 ((S 9 4)).toNatClampNeg), .int (S 22 ((S 9 4)).toNatClampNeg), .int (S 23 ((S 9 4)).toNatClampNeg)] (ai_up S 9 4 ((S 9 4) + 1)) V (ai_qv V (fun S12 => G S12))) ∧ (¬ (S 21 ((S 9 4)).toNatClampNeg) < 13 → ((15 < (S 21 ((S 9 4)).toNatClampNeg) → ai_met (uN l D ρ τ) (d + 1) mX1_control [.ref 9, .int (S 21 ((S 9 4)).toNatClampNeg), .int (S 22 ((S 9 4)).toNatClampNeg), .int (S 23 ((S 9 4)).toNatClampNeg)] (ai_up S 9 4 ((S 9 4) + 1)) V (ai_qv V (fun S15 => G S15))) ∧ (¬ 15 < (S 21 ((S 9 4)).toNatClampNeg) → ai_met (uN l D ρ τ) (d + 1) mX1_call [.ref 9, .int (S 21 ((S 9 4)).toNatClampNeg), .int (S 22 ((S 9 4)).toNatClampNeg), .int (S 23 ((S 9 4)).toNatClampNeg)] (ai_up S 9 4 ((S 9 4) + 1)) V (ai_qv V (fun S17 => G S17))))))) ∧ (¬ (S 21 ((S 9 4)).toNatClampNeg) < 10 → ((12 < (S 21 ((S 9 4)).toNatClampNeg) → (((S 21 ((S 9 4)).toNatClampNeg) < 13 → ai_met (uN l D ρ τ) (d + 1) mX1_control [.ref 9, .int (S 21 ((S 9 4)).toNatClampNeg), .int (S 22 ((S 9 4)).toNatClampNeg), .int (S 23 ((S 9 4)).toNatClampNeg)] (ai_up S 9 4 ((S 9 4) + 1)) V (ai_qv V (fun S21 => G S21))) ∧ (¬ (S 21 ((S 9 4)).toNatClampNeg) < 13 → ((15 < (S 21 ((S 9 4)).toNatClampNeg) → ai_met (uN l D ρ τ) (d + 1) mX1_control [.ref 9, .int (S 21 ((S 9 4)).toNatClampNeg), .int (S 22 ((S 9 4)).toNatClampNeg), .int (S 23 ((S 9 4)).toNatClampNeg)] (ai_up S 9 4 ((S 9 4) + 1)) V (ai_qv V (fun S24 => G S24))) ∧ (¬ 15 < (S 21 ((S 9 4)).toNatClampNeg) → ai_met (uN l D ρ τ) (d + 1) mX1_call [.ref 9, .int (S 21 ((S 9 4)).toNatClampNeg), .int (S 22 ((S 9 4)).toNatClampNeg), .int (S 23 ((S 9 4)).toNatClampNeg)] (ai_up S 9 4 ((S 9 4) + 1)) V (ai_qv V (fun S26 => G S26))))))) ∧ (¬ 12 < (S 21 ((S 9 4)).toNatClampNeg) → ai_met (uN l D ρ τ) (d + 1) mX1_workOut [.ref 9, .int (S 21 ((S 9 4)).toNatClampNeg), .int (S 22 ((S 9 4)).toNatClampNeg), .int (S 23 ((S 9 4)).toNatClampNeg)] (ai_up S 9 4 ((S 9 4) + 1)) V (ai_qv V (fun S28 => G S28))))))) ∧ (¬ (S 21 ((S 9 4)).toNatClampNeg) < 6 → ((9 < (S 21 ((S 9 4)).toNatClampNeg) → (((S 21 ((S 9 4)).toNatClampNeg) < 10 → (((S 21 ((S 9 4)).toNatClampNeg) < 13 → ai_met (uN l D ρ τ) (d + 1) mX1_control [.ref 9, .int (S 21 ((S 9 4)).toNatClampNeg), .int (S 22 ((S 9 4)).toNatClampNeg), .int (S 23 ((S 9 4)).toNatClampNeg)] (ai_up S 9 4 ((S 9 4) + 1)) V (ai_qv V (fun S33 => G S33))) ∧ (¬ (S 21 ((S 9 4)).toNatClampNeg) < 13 → ((15 < (S 21 ((S 9 4)).toNatClampNeg) → ai_met (uN l D ρ τ) (d + 1) mX1_control [.ref 9, .int (S 21 ((S 9 4)).toNatClampNeg), .int (S 22 ((S 9 4)).toNatClampNeg), .int (S 23 ((S 9 4)).toNatClampNeg)] (ai_up S 9 4 ((S 9 4) + 1)) V (ai_qv V (fun S36 => G S36))) ∧ (¬ 15 < (S 21 ((S 9 4)).toNatClampNeg) → ai_met (uN l D ρ τ) (d + 1) mX1_call [.ref 9, .int (S 21 ((S 9 4)).toNatClampNeg), .int (S 22 ((S 9 4)).toNatClampNeg), .int (S 23 ((S 9 4)).toNatClampNeg)] (ai_up S 9 4 ((S 9 4) + 1)) V (ai_qv V (fun S38 => G S38))))))) ∧ (¬ (S 21 ((S 9 4)).toNatClampNeg) < 10 → ((12 < (S 21 ((S 9 4)).toNatClampNeg) → (((S 21 ((S 9 4)).toNatClampNeg) < 13 → ai_met (uN l D ρ τ) (d + 1) mX1_control [.ref 9, .int (S 21 ((S 9 4)).toNatClampNeg), .int (S 22 ((S 9 4)).toNatClampNeg), .int (S 23 ((S 9 4)).toNatClampNeg)] (ai_up S 9 4 ((S 9 4) + 1)) V (ai_qv V (fun S42 => G S42))) ∧ (¬ (S 21 ((S 9 4)).toNatClampNeg) < 13 → ((15 < (S 21 ((S 9 4)).toNatClampNeg) → ai_met (uN l D ρ τ) (d + 1) mX1_control [.ref 9, .int (S 21 ((S 9 4)).toNatClampNeg), .int (S 22 ((S 9 4)).toNatClampNeg), .int (S 23 ((S 9 4)).toNatClampNeg)] (ai_up S 9 4 ((S 9 4) + 1)) V (ai_qv V (fun S45 => G S45))) ∧ (¬ 15 < (S 21 ((S 9 4)).toNatClampNeg) → ai_met (uN l D ρ τ) (d + 1) mX1_call [.ref 9, .int (S 21 ((S 9 4)).toNatClampNeg), .int (S 22 ((S 9 4)).toNatClampNeg), .int (S 23 ((S 9 4)).toNatClampNeg)] (ai_up S 9 4 ((S 9 4) + 1)) V (ai_qv V (fun S47 => G S47))))))) ∧ (¬ 12 < (S 21 ((S 9 4)).toNatClampNeg) → ai_met (uN l D ρ τ) (d + 1) mX1_workOut [.ref 9, .int (S 21 ((S 9 4)).toNatClampNeg), .int (S 22 ((S 9 4)).toNatClampNeg), .int (S 23 ((S 9 4)).toNatClampNeg)] (ai_up S 9 4 ((S 9 4) + 1)) V (ai_qv V (fun S49 => G S49))))))) ∧ (¬ 9 < (S 21 ((S 9 4)).toNatClampNeg) → ai_met (uN l D ρ τ) (d + 1) mX1_assign [.ref 9, .int (S 21 ((S 9 4)).toNatClampNeg), .int (S 22 ((S 9 4)).toNatClampNeg), .int (S 23 ((S 9 4)).toNatClampNeg)] (ai_up S 9 4 ((S 9 4) + 1)) V (ai_qv V (fun S51 => G S51))))))) ∧ (¬ (S 21 ((S 9 4)).toNatClampNeg) < 18 → ((22 < (S 21 ((S 9 4)).toNatClampNeg) → (((S 21 ((S 9 4)).toNatClampNeg) < 6 → (((S 21 ((S 9 4)).toNatClampNeg) < 10 → (((S 21 ((S 9 4)).toNatClampNeg) < 13 → ai_met (uN l D ρ τ) (d + 1) mX1_control [.ref 9, .int (S 21 ((S 9 4)).toNatClampNeg), .int (S 22 ((S 9 4)).toNatClampNeg), .int (S 23 ((S 9 4)).toNatClampNeg)] (ai_up S 9 4 ((S 9 4) + 1)) V (ai_qv V (fun S57 => G S57))) ∧ (¬ (S 21 ((S 9 4)).toNatClampNeg) < 13 → ((15 < (S 21 ((S 9 4)).toNatClampNeg) → ai_met (uN l D ρ τ) (d + 1) mX1_control [.ref 9, .int (S 21 ((S 9 4)).toNatClampNeg), .int (S 22 ((S 9 4)).toNatClampNeg), .int (S 23 ((S 9 4)).toNatClampNeg)] (ai_up S 9 4 ((S 9 4) + 1)) V (ai_qv V (fun S60 => G S60))) ∧ (¬ 15 < (S 21 ((S 9 4)).toNatClampNeg) → ai_met (uN l D ρ τ) (d + 1) mX1_call [.ref 9, .int (S 21 ((S 9 4)).toNatClampNeg), .int (S 22 ((S 9 4)).toNatClampNeg), .int (S 23 ((S 9 4)).toNatClampNeg)] (ai_up S 9 4 ((S 9 4) + 1)) V (ai_qv V (fun S62 => G S62))))))) ∧ (¬ (S 21 ((S 9 4)).toNatClampNeg) < 10 → ((12 < (S 21 ((S 9 4)).toNatClampNeg) → (((S 21 ((S 9 4)).toNatClampNeg) < 13 → ai_met (uN l D ρ τ) (d + 1) mX1_control [.ref 9, .int (S 21 ((S 9 4)).toNatClampNeg), .int (S 22 ((S 9 4)).toNatClampNeg), .int (S 23 ((S 9 4)).toNatClampNeg)] (ai_up S 9 4 ((S 9 4) + 1)) V (ai_qv V (fun S66 => G S66))) ∧ (¬ (S 21 ((S 9 4)).toNatClampNeg) < 13 → ((15 < (S 21 ((S 9 4)).toNatClampNeg) → ai_met (uN l D ρ τ) (d + 1) mX1_control [.ref 9, .int (S 21 ((S 9 4)).toNatClampNeg), .int (S 22 ((S 9 4)).toNatClampNeg), .int (S 23 ((S 9 4)).toNatClampNeg)] (ai_up S 9 4 ((S 9 4) + 1)) V (ai_qv V (fun S69 => G S69))) ∧ (¬ 15 < (S 21 ((S 9 4)).toNatClampNeg) → ai_met (uN l D ρ τ) (d + 1) mX1_call [.ref 9, .int (S 21 ((S 9 4)).toNatClampNeg), .int (S 22 ((S 9 4)).toNatClampNeg), .int (S 23 ((S 9 4)).toNatClampNeg)] (ai_up S 9 4 ((S 9 4) + 1)) V (ai_qv V (fun S71 => G S71))))))) ∧ (¬ 12 < (S 21 ((S 9 4)).toNatClampNeg) → ai_met (uN l D ρ τ) (d + 1) mX1_workOut [.ref 9, .int (S 21 ((S 9 4)).toNatClampNeg), .int (S 22 ((S 9 4)).toNatClampNeg), .int (S 23 ((S 9 4)).toNatClampNeg)] (ai_up S 9 4 ((S 9 4) + 1)) V (ai_qv V (fun S73 => G S73))))))) ∧ (¬ (S 21 ((S 9 4)).toNatClampNeg) < 6 → ((9 < (S 21 ((S 9 4)).toNatClampNeg) → (((S 21 ((S 9 4)).toNatClampNeg) < 10 → (((S 21 ((S 9 4)).toNatClampNeg) < 13 → ai_met (uN l D ρ τ) (d + 1) mX1_control [.ref 9, .int (S 21 ((S 9 4)).toNatClampNeg), .int (S 22 ((S 9 4)).toNatClampNeg), .int (S 23 ((S 9 4)).toNatClampNeg)] (ai_up S 9 4 ((S 9 4) + 1)) V (ai_qv V (fun S78 => G S78))) ∧ (¬ (S 21 ((S 9 4)).toNatClampNeg) < 13 → ((15 < (S 21 ((S 9 4)).toNatClampNeg) → ai_met (uN l D ρ τ) (d + 1) mX1_control [.ref 9, .int (S 21 ((S 9 4)).toNatClampNeg), .int (S 22 ((S 9 4)).toNatClampNeg), .int (S 23 ((S 9 4)).toNatClampNeg)] (ai_up S 9 4 ((S 9 4) + 1)) V (ai_qv V (fun S81 => G S81))) ∧ (¬ 15 < (S 21 ((S 9 4)).toNatClampNeg) → ai_met (uN l D ρ τ) (d + 1) mX1_call [.ref 9, .int (S 21 ((S 9 4)).toNatClampNeg), .int (S 22 ((S 9 4)).toNatClampNeg), .int (S 23 ((S 9 4)).toNatClampNeg)] (ai_up S 9 4 ((S 9 4) + 1)) V (ai_qv V (fun S83 => G S83))))))) ∧ (¬ (S 21 ((S 9 4)).toNatClampNeg) < 10 → ((12 < (S 21 ((S 9 4)).toNatClampNeg) → (((S 21 ((S 9 4)).toNatClampNeg) < 13 → ai_met (uN l D ρ τ) (d + 1) mX1_control [.ref 9, .int (S 21 ((S 9 4)).toNatClampNeg), .int (S 22 ((S 9 4)).toNatClampNeg), .int (S 23 ((S 9 4)).toNatClampNeg)] (ai_up S 9 4 ((S 9 4) + 1)) V (ai_qv V (fun S87 => G S87))) ∧ (¬ (S 21 ((S 9 4)).toNatClampNeg) < 13 → ((15 < (S 21 ((S 9 4)).toNatClampNeg) → ai_met (uN l D ρ τ) (d + 1) mX1_control [.ref 9, .int (S 21 ((S 9 4)).toNatClampNeg), .int (S 22 ((S 9 4)).toNatClampNeg), .int (S 23 ((S 9 4)).toNatClampNeg)] (ai_up S 9 4 ((S 9 4) + 1)) V (ai_qv V (fun S90 => G S90))) ∧ (¬ 15 < (S 21 ((S 9 4)).toNatClampNeg) → ai_met (uN l D ρ τ) (d + 1) mX1_call [.ref 9, .int (S 21 ((S 9 4)).toNatClampNeg), .int (S 22 ((S 9 4)).toNatClampNeg), .int (S 23 ((S 9 4)).toNatClampNeg)] (ai_up S 9 4 ((S 9 4) + 1)) V (ai_qv V (fun S92 => G S92))))))) ∧ (¬ 12 < (S 21 ((S 9 4)).toNatClampNeg) → ai_met (uN l D ρ τ) (d + 1) mX1_workOut [.ref 9, .int (S 21 ((S 9 4)).toNatClampNeg), .int (S 22 ((S 9 4)).toNatClampNeg), .int (S 23 ((S 9 4)).toNatClampNeg)] (ai_up S 9 4 ((S 9 4) + 1)) V (ai_qv V (fun S94 => G S94))))))) ∧ (¬ 9 < (S 21 ((S 9 4)).toNatClampNeg) → ai_met (uN l D ρ τ) (d + 1) mX1_assign [.ref 9, .int (S 21 ((S 9 4)).toNatClampNeg), .int (S 22 ((S 9 4)).toNatClampNeg), .int (S 23 ((S 9 4)).toNatClampNeg)] (ai_up S 9 4 ((S 9 4) + 1)) V (ai_qv V (fun S96 => G S96))))))) ∧ (¬ 22 < (S 21 ((S 9 4)).toNatClampNeg) → ((¬ (S 21 ((S 9 4)).toNatClampNeg) = 18 → (¬ (S 9 12) ≤ 0 ∧ ((S 9 12) ≤ 100 ∧ (vp_in ((S 9 12) - 1) 100 ∧ ((¬ (S 21 ((S 9 4)).toNatClampNeg) = 19 → ((¬ (S 21 ((S 9 4)).toNatClampNeg) = 20 → ((¬ (S 21 ((S 9 4)).toNatClampNeg) = 21 → (((S 9 6) ≤ (S 18 (((S 9 12) - 1)).toNatClampNeg) → G (ai_up (ai_up (ai_up S 9 4 ((S 9 4) + 1)) 9 12 ((S 9 12) - 1)) 9 6 0)) ∧ (¬ (S 9 6) ≤ (S 18 (((S 9 12) - 1)).toNatClampNeg) → G (ai_up (ai_up (ai_up S 9 4 ((S 9 4) + 1)) 9 12 ((S 9 12) - 1)) 9 6 1)))) ∧ ((S 21 ((S 9 4)).toNatClampNeg) = 21 → G (ai_up (ai_up (ai_up S 9 4 ((S 9 4) + 1)) 9 12 ((S 9 12) - 1)) 9 6 ((S 18 (((S 9 12) - 1)).toNatClampNeg) * (S 9 6)))))) ∧ ((S 21 ((S 9 4)).toNatClampNeg) = 20 → G (ai_up (ai_up (ai_up S 9 4 ((S 9 4) + 1)) 9 12 ((S 9 12) - 1)) 9 6 ((S 18 (((S 9 12) - 1)).toNatClampNeg) - (S 9 6)))))) ∧ ((S 21 ((S 9 4)).toNatClampNeg) = 19 → G (ai_up (ai_up (ai_up S 9 4 ((S 9 4) + 1)) 9 12 ((S 9 12) - 1)) 9 6 ((S 18 (((S 9 12) - 1)).toNatClampNeg) + (S 9 6))))))))) ∧ ((S 21 ((S 9 4)).toNatClampNeg) = 18 → (¬ (S 9 12) < 0 ∧ (((S 9 12) < 100 → (vp_in (S 9 12) 100 ∧ G (ai_up (ai_up (ai_up S 9 4 ((S 9 4) + 1)) 18 ((S 9 12)).toNatClampNeg (S 9 6)) 9 12 ((S 9 12) + 1)))) ∧ (¬ (S 9 12) < 100 → G (ai_up (ai_up S 9 4 ((S 9 4) + 1)) 9 3 7)))))))))))))))) :
    ai_met (uN l D ρ τ) (d + 2) mX1_step [.ref 9] S V (ai_qv V G) := by
  refine ai_mof plX1 (Nat.le_of_ble_eq_true rfl) (lv := [(0, .ref 9)]) rfl ?_
  refine ai_aload_n dX1_step_0 rfl (j := 0) rfl ?_
  refine ai_getV dX1_step_1 fdX1_31 rfl rfl ⟨hM, ?_⟩
  refine ai_aload_n dX1_step_4 rfl (j := 0) rfl ?_
  refine ai_getI dX1_step_5 fdX1_45 rfl rfl ?_
  refine ai_callVi (As := [.int (S 9 4)]) (rest := []) dX1_step_8 cvX1_72 rfl rfl rfl (Nat.le_of_ble_eq_true rfl) (vX2_opAt ?_)
  refine ⟨fun (hc1 : (S 9 4) < 0) => ?_, fun (hc1 : ¬ (S 9 4) < 0) => ?_⟩
  · have h := h.1 hc1
    show ai_W _ _ _ _ _ (.int 0 :: _) S _ _
    refine ai_istore_n (lv' := [(1, .int 0), (0, .ref 9)]) dX1_step_11 rfl (by decide) rfl ?_
    refine ai_aload_n dX1_step_12 rfl (j := 1) rfl ?_
    refine ai_getV dX1_step_13 fdX1_31 rfl rfl ⟨hM, ?_⟩
    refine ai_aload_n dX1_step_16 rfl (j := 1) rfl ?_
    refine ai_getI dX1_step_17 fdX1_45 rfl rfl ?_
    refine ai_callVi (As := [.int (S 9 4)]) (rest := []) dX1_step_20 cvX1_78 rfl rfl rfl (Nat.le_of_ble_eq_true rfl) (vX2_firstAt ?_)
    refine ⟨fun _ => ?_, fun hc => absurd hc1 hc⟩
    show ai_W _ _ _ _ _ (.int 0 :: _) S _ _
    refine ai_istore_n (lv' := [(2, .int 0), (1, .int 0), (0, .ref 9)]) dX1_step_23 rfl (by decide) rfl ?_
    refine ai_aload_n dX1_step_24 rfl (j := 2) rfl ?_
    refine ai_getV dX1_step_25 fdX1_31 rfl rfl ⟨hM, ?_⟩
    refine ai_aload_n dX1_step_28 rfl (j := 2) rfl ?_
    refine ai_getI dX1_step_29 fdX1_45 rfl rfl ?_
    refine ai_callVi (As := [.int (S 9 4)]) (rest := []) dX1_step_32 cvX1_81 rfl rfl rfl (Nat.le_of_ble_eq_true rfl) (vX2_secondAt ?_)
    refine ⟨fun _ => ?_, fun hc => absurd hc1 hc⟩
    show ai_W _ _ _ _ _ (.int 0 :: _) S _ _
    refine ai_istore_n (lv' := [(3, .int 0), (2, .int 0), (1, .int 0), (0, .ref 9)]) dX1_step_35 rfl (by decide) rfl ?_
    refine ai_aload_n dX1_step_36 rfl (j := 3) rfl ?_
    refine ai_dup dX1_step_37 rfl ?_
    refine ai_getI dX1_step_38 fdX1_45 rfl rfl ?_
    refine ai_iconst (v := 1) dX1_step_41 (by decide) ?_
    refine ai_iadd dX1_step_42 ?_
    refine ai_putI dX1_step_43 fdX1_45 pdX1_4 rfl rfl rfl rfl ?_
    refine ai_iload_n dX1_step_46 rfl (j := 2) rfl ?_
    refine ai_bipush (v := 18) dX1_step_47 (by decide) ?_
    refine ai_icmp_lt (tgt := 66) dX1_step_49 (by decide) ⟨fun _ => ?_, fun hc => absurd hc (by decide)⟩
    refine ai_iload_n dX1_step_66 rfl (j := 2) rfl ?_
    refine ai_bipush (v := 6) dX1_step_67 (by decide) ?_
    refine ai_icmp_lt (tgt := 88) dX1_step_69 (by decide) ⟨fun _ => ?_, fun hc => absurd hc (by decide)⟩
    refine ai_iload_n dX1_step_88 rfl (j := 2) rfl ?_
    refine ai_bipush (v := 10) dX1_step_89 (by decide) ?_
    refine ai_icmp_lt (tgt := 110) dX1_step_91 (by decide) ⟨fun _ => ?_, fun hc => absurd hc (by decide)⟩
    refine ai_iload_n dX1_step_110 rfl (j := 2) rfl ?_
    refine ai_bipush (v := 13) dX1_step_111 (by decide) ?_
    refine ai_icmp_lt (tgt := 132) dX1_step_113 (by decide) ⟨fun _ => ?_, fun hc => absurd hc (by decide)⟩
    refine ai_aload_n dX1_step_132 rfl (j := 3) rfl ?_
    refine ai_iload_n dX1_step_133 rfl (j := 2) rfl ?_
    refine ai_iload_n dX1_step_134 rfl (j := 1) rfl ?_
    refine ai_iload_n dX1_step_135 rfl (j := 0) rfl ?_
    refine ai_callVv (As := [.int 0, .int 0, .int 0]) (rest := []) dX1_step_136 cvX1_98 rfl rfl rfl (Nat.le_of_ble_eq_true rfl) (ai_met.mv h (fun S3 h => ?_))
    exact ai_retv dX1_step_139 rfl h
  · have h := h.2 hc1
    have hr4 : ¬ (S 20 3) ≤ (S 9 4) := h.1
    have h := h.2
    refine ⟨hr4, ?_⟩
    have hr5 : ¬ 488 ≤ (S 9 4) := h.1
    have h := h.2
    refine ⟨hr5, ?_⟩
    refine ⟨h.1, ?_⟩
    have hi6 := h.1
    have h := h.2
    show ai_W _ _ _ _ _ (.int (S 21 ((S 9 4)).toNatClampNeg) :: _) S _ _
    refine ai_istore_n (lv' := [(1, .int (S 21 ((S 9 4)).toNatClampNeg)), (0, .ref 9)]) dX1_step_11 rfl (by decide) rfl ?_
    refine ai_aload_n dX1_step_12 rfl (j := 1) rfl ?_
    refine ai_getV dX1_step_13 fdX1_31 rfl rfl ⟨hM, ?_⟩
    refine ai_aload_n dX1_step_16 rfl (j := 1) rfl ?_
    refine ai_getI dX1_step_17 fdX1_45 rfl rfl ?_
    refine ai_callVi (As := [.int (S 9 4)]) (rest := []) dX1_step_20 cvX1_78 rfl rfl rfl (Nat.le_of_ble_eq_true rfl) (vX2_firstAt ?_)
    refine ⟨fun hc => absurd hc hc1, fun _ => ?_⟩
    refine ⟨hr4, ?_⟩
    refine ⟨hr5, ?_⟩
    refine ⟨hi6, ?_⟩
    show ai_W _ _ _ _ _ (.int (S 22 ((S 9 4)).toNatClampNeg) :: _) S _ _
    refine ai_istore_n (lv' := [(2, .int (S 22 ((S 9 4)).toNatClampNeg)), (1, .int (S 21 ((S 9 4)).toNatClampNeg)), (0, .ref 9)]) dX1_step_23 rfl (by decide) rfl ?_
    refine ai_aload_n dX1_step_24 rfl (j := 2) rfl ?_
    refine ai_getV dX1_step_25 fdX1_31 rfl rfl ⟨hM, ?_⟩
    refine ai_aload_n dX1_step_28 rfl (j := 2) rfl ?_
    refine ai_getI dX1_step_29 fdX1_45 rfl rfl ?_
    refine ai_callVi (As := [.int (S 9 4)]) (rest := []) dX1_step_32 cvX1_81 rfl rfl rfl (Nat.le_of_ble_eq_true rfl) (vX2_secondAt ?_)
    refine ⟨fun hc => absurd hc hc1, fun _ => ?_⟩
    refine ⟨hr4, ?_⟩
    refine ⟨hr5, ?_⟩
    refine ⟨hi6, ?_⟩
    show ai_W _ _ _ _ _ (.int (S 23 ((S 9 4)).toNatClampNeg) :: _) S _ _
    refine ai_istore_n (lv' := [(3, .int (S 23 ((S 9 4)).toNatClampNeg)), (2, .int (S 22 ((S 9 4)).toNatClampNeg)), (1, .int (S 21 ((S 9 4)).toNatClampNeg)), (0, .ref 9)]) dX1_step_35 rfl (by decide) rfl ?_
    refine ai_aload_n dX1_step_36 rfl (j := 3) rfl ?_
    refine ai_dup dX1_step_37 rfl ?_
    refine ai_getI dX1_step_38 fdX1_45 rfl rfl ?_
    refine ai_iconst (v := 1) dX1_step_41 (by decide) ?_
    refine ai_iadd dX1_step_42 ?_
    refine ai_putI dX1_step_43 fdX1_45 pdX1_4 rfl rfl rfl rfl ?_
    refine ai_iload_n dX1_step_46 rfl (j := 2) rfl ?_
    refine ai_bipush (v := 18) dX1_step_47 (by decide) ?_
    refine ai_icmp_lt (tgt := 66) dX1_step_49 (by decide) ⟨fun (hc7 : (S 21 ((S 9 4)).toNatClampNeg) < 18) => ?_, fun (hc7 : ¬ (S 21 ((S 9 4)).toNatClampNeg) < 18) => ?_⟩
    · have h := h.1 hc7
      refine ai_iload_n dX1_step_66 rfl (j := 2) rfl ?_
      refine ai_bipush (v := 6) dX1_step_67 (by decide) ?_
      refine ai_icmp_lt (tgt := 88) dX1_step_69 (by decide) ⟨fun (hc8 : (S 21 ((S 9 4)).toNatClampNeg) < 6) => ?_, fun (hc8 : ¬ (S 21 ((S 9 4)).toNatClampNeg) < 6) => ?_⟩
      · have h := h.1 hc8
        refine ai_iload_n dX1_step_88 rfl (j := 2) rfl ?_
        refine ai_bipush (v := 10) dX1_step_89 (by decide) ?_
        refine ai_icmp_lt (tgt := 110) dX1_step_91 (by decide) ⟨fun (hc9 : (S 21 ((S 9 4)).toNatClampNeg) < 10) => ?_, fun (hc9 : ¬ (S 21 ((S 9 4)).toNatClampNeg) < 10) => ?_⟩
        · have h := h.1 hc9
          refine ai_iload_n dX1_step_110 rfl (j := 2) rfl ?_
          refine ai_bipush (v := 13) dX1_step_111 (by decide) ?_
          refine ai_icmp_lt (tgt := 132) dX1_step_113 (by decide) ⟨fun (hc10 : (S 21 ((S 9 4)).toNatClampNeg) < 13) => ?_, fun (hc10 : ¬ (S 21 ((S 9 4)).toNatClampNeg) < 13) => ?_⟩
          · have h := h.1 hc10
            refine ai_aload_n dX1_step_132 rfl (j := 3) rfl ?_
            refine ai_iload_n dX1_step_133 rfl (j := 2) rfl ?_
            refine ai_iload_n dX1_step_134 rfl (j := 1) rfl ?_
            refine ai_iload_n dX1_step_135 rfl (j := 0) rfl ?_
            refine ai_callVv (As := [.int (S 21 ((S 9 4)).toNatClampNeg), .int (S 22 ((S 9 4)).toNatClampNeg), .int (S 23 ((S 9 4)).toNatClampNeg)]) (rest := []) dX1_step_136 cvX1_98 rfl rfl rfl (Nat.le_of_ble_eq_true rfl) (ai_met.mv h (fun S12 h => ?_))
            exact ai_retv dX1_step_139 rfl h
          · have h := h.2 hc10
            refine ai_iload_n dX1_step_116 rfl (j := 2) rfl ?_
            refine ai_bipush (v := 15) dX1_step_117 (by decide) ?_
            refine ai_icmp_gt (tgt := 132) dX1_step_119 (by decide) ⟨fun (hc13 : 15 < (S 21 ((S 9 4)).toNatClampNeg)) => ?_, fun (hc13 : ¬ 15 < (S 21 ((S 9 4)).toNatClampNeg)) => ?_⟩
            · have h := h.1 hc13
              refine ai_aload_n dX1_step_132 rfl (j := 3) rfl ?_
              refine ai_iload_n dX1_step_133 rfl (j := 2) rfl ?_
              refine ai_iload_n dX1_step_134 rfl (j := 1) rfl ?_
              refine ai_iload_n dX1_step_135 rfl (j := 0) rfl ?_
              refine ai_callVv (As := [.int (S 21 ((S 9 4)).toNatClampNeg), .int (S 22 ((S 9 4)).toNatClampNeg), .int (S 23 ((S 9 4)).toNatClampNeg)]) (rest := []) dX1_step_136 cvX1_98 rfl rfl rfl (Nat.le_of_ble_eq_true rfl) (ai_met.mv h (fun S15 h => ?_))
              exact ai_retv dX1_step_139 rfl h
            · have h := h.2 hc13
              refine ai_aload_n dX1_step_122 rfl (j := 3) rfl ?_
              refine ai_iload_n dX1_step_123 rfl (j := 2) rfl ?_
              refine ai_iload_n dX1_step_124 rfl (j := 1) rfl ?_
              refine ai_iload_n dX1_step_125 rfl (j := 0) rfl ?_
              refine ai_callVv (As := [.int (S 21 ((S 9 4)).toNatClampNeg), .int (S 22 ((S 9 4)).toNatClampNeg), .int (S 23 ((S 9 4)).toNatClampNeg)]) (rest := []) dX1_step_126 cvX1_95 rfl rfl rfl (Nat.le_of_ble_eq_true rfl) (ai_met.mv h (fun S17 h => ?_))
              refine ai_goto (tgt := 139) dX1_step_129 (by decide) ?_
              exact ai_retv dX1_step_139 rfl h
        · have h := h.2 hc9
          refine ai_iload_n dX1_step_94 rfl (j := 2) rfl ?_
          refine ai_bipush (v := 12) dX1_step_95 (by decide) ?_
          refine ai_icmp_gt (tgt := 110) dX1_step_97 (by decide) ⟨fun (hc18 : 12 < (S 21 ((S 9 4)).toNatClampNeg)) => ?_, fun (hc18 : ¬ 12 < (S 21 ((S 9 4)).toNatClampNeg)) => ?_⟩
          · have h := h.1 hc18
            refine ai_iload_n dX1_step_110 rfl (j := 2) rfl ?_
            refine ai_bipush (v := 13) dX1_step_111 (by decide) ?_
            refine ai_icmp_lt (tgt := 132) dX1_step_113 (by decide) ⟨fun (hc19 : (S 21 ((S 9 4)).toNatClampNeg) < 13) => ?_, fun (hc19 : ¬ (S 21 ((S 9 4)).toNatClampNeg) < 13) => ?_⟩
            · have h := h.1 hc19
              refine ai_aload_n dX1_step_132 rfl (j := 3) rfl ?_
              refine ai_iload_n dX1_step_133 rfl (j := 2) rfl ?_
              refine ai_iload_n dX1_step_134 rfl (j := 1) rfl ?_
              refine ai_iload_n dX1_step_135 rfl (j := 0) rfl ?_
              refine ai_callVv (As := [.int (S 21 ((S 9 4)).toNatClampNeg), .int (S 22 ((S 9 4)).toNatClampNeg), .int (S 23 ((S 9 4)).toNatClampNeg)]) (rest := []) dX1_step_136 cvX1_98 rfl rfl rfl (Nat.le_of_ble_eq_true rfl) (ai_met.mv h (fun S21 h => ?_))
              exact ai_retv dX1_step_139 rfl h
            · have h := h.2 hc19
              refine ai_iload_n dX1_step_116 rfl (j := 2) rfl ?_
              refine ai_bipush (v := 15) dX1_step_117 (by decide) ?_
              refine ai_icmp_gt (tgt := 132) dX1_step_119 (by decide) ⟨fun (hc22 : 15 < (S 21 ((S 9 4)).toNatClampNeg)) => ?_, fun (hc22 : ¬ 15 < (S 21 ((S 9 4)).toNatClampNeg)) => ?_⟩
              · have h := h.1 hc22
                refine ai_aload_n dX1_step_132 rfl (j := 3) rfl ?_
                refine ai_iload_n dX1_step_133 rfl (j := 2) rfl ?_
                refine ai_iload_n dX1_step_134 rfl (j := 1) rfl ?_
                refine ai_iload_n dX1_step_135 rfl (j := 0) rfl ?_
                refine ai_callVv (As := [.int (S 21 ((S 9 4)).toNatClampNeg), .int (S 22 ((S 9 4)).toNatClampNeg), .int (S 23 ((S 9 4)).toNatClampNeg)]) (rest := []) dX1_step_136 cvX1_98 rfl rfl rfl (Nat.le_of_ble_eq_true rfl) (ai_met.mv h (fun S24 h => ?_))
                exact ai_retv dX1_step_139 rfl h
              · have h := h.2 hc22
                refine ai_aload_n dX1_step_122 rfl (j := 3) rfl ?_
                refine ai_iload_n dX1_step_123 rfl (j := 2) rfl ?_
                refine ai_iload_n dX1_step_124 rfl (j := 1) rfl ?_
                refine ai_iload_n dX1_step_125 rfl (j := 0) rfl ?_
                refine ai_callVv (As := [.int (S 21 ((S 9 4)).toNatClampNeg), .int (S 22 ((S 9 4)).toNatClampNeg), .int (S 23 ((S 9 4)).toNatClampNeg)]) (rest := []) dX1_step_126 cvX1_95 rfl rfl rfl (Nat.le_of_ble_eq_true rfl) (ai_met.mv h (fun S26 h => ?_))
                refine ai_goto (tgt := 139) dX1_step_129 (by decide) ?_
                exact ai_retv dX1_step_139 rfl h
          · have h := h.2 hc18
            refine ai_aload_n dX1_step_100 rfl (j := 3) rfl ?_
            refine ai_iload_n dX1_step_101 rfl (j := 2) rfl ?_
            refine ai_iload_n dX1_step_102 rfl (j := 1) rfl ?_
            refine ai_iload_n dX1_step_103 rfl (j := 0) rfl ?_
            refine ai_callVv (As := [.int (S 21 ((S 9 4)).toNatClampNeg), .int (S 22 ((S 9 4)).toNatClampNeg), .int (S 23 ((S 9 4)).toNatClampNeg)]) (rest := []) dX1_step_104 cvX1_92 rfl rfl rfl (Nat.le_of_ble_eq_true rfl) (ai_met.mv h (fun S28 h => ?_))
            refine ai_goto (tgt := 139) dX1_step_107 (by decide) ?_
            exact ai_retv dX1_step_139 rfl h
      · have h := h.2 hc8
        refine ai_iload_n dX1_step_72 rfl (j := 2) rfl ?_
        refine ai_bipush (v := 9) dX1_step_73 (by decide) ?_
        refine ai_icmp_gt (tgt := 88) dX1_step_75 (by decide) ⟨fun (hc29 : 9 < (S 21 ((S 9 4)).toNatClampNeg)) => ?_, fun (hc29 : ¬ 9 < (S 21 ((S 9 4)).toNatClampNeg)) => ?_⟩
        · have h := h.1 hc29
          refine ai_iload_n dX1_step_88 rfl (j := 2) rfl ?_
          refine ai_bipush (v := 10) dX1_step_89 (by decide) ?_
          refine ai_icmp_lt (tgt := 110) dX1_step_91 (by decide) ⟨fun (hc30 : (S 21 ((S 9 4)).toNatClampNeg) < 10) => ?_, fun (hc30 : ¬ (S 21 ((S 9 4)).toNatClampNeg) < 10) => ?_⟩
          · have h := h.1 hc30
            refine ai_iload_n dX1_step_110 rfl (j := 2) rfl ?_
            refine ai_bipush (v := 13) dX1_step_111 (by decide) ?_
            refine ai_icmp_lt (tgt := 132) dX1_step_113 (by decide) ⟨fun (hc31 : (S 21 ((S 9 4)).toNatClampNeg) < 13) => ?_, fun (hc31 : ¬ (S 21 ((S 9 4)).toNatClampNeg) < 13) => ?_⟩
            · have h := h.1 hc31
              refine ai_aload_n dX1_step_132 rfl (j := 3) rfl ?_
              refine ai_iload_n dX1_step_133 rfl (j := 2) rfl ?_
              refine ai_iload_n dX1_step_134 rfl (j := 1) rfl ?_
              refine ai_iload_n dX1_step_135 rfl (j := 0) rfl ?_
              refine ai_callVv (As := [.int (S 21 ((S 9 4)).toNatClampNeg), .int (S 22 ((S 9 4)).toNatClampNeg), .int (S 23 ((S 9 4)).toNatClampNeg)]) (rest := []) dX1_step_136 cvX1_98 rfl rfl rfl (Nat.le_of_ble_eq_true rfl) (ai_met.mv h (fun S33 h => ?_))
              exact ai_retv dX1_step_139 rfl h
            · have h := h.2 hc31
              refine ai_iload_n dX1_step_116 rfl (j := 2) rfl ?_
              refine ai_bipush (v := 15) dX1_step_117 (by decide) ?_
              refine ai_icmp_gt (tgt := 132) dX1_step_119 (by decide) ⟨fun (hc34 : 15 < (S 21 ((S 9 4)).toNatClampNeg)) => ?_, fun (hc34 : ¬ 15 < (S 21 ((S 9 4)).toNatClampNeg)) => ?_⟩
              · have h := h.1 hc34
                refine ai_aload_n dX1_step_132 rfl (j := 3) rfl ?_
                refine ai_iload_n dX1_step_133 rfl (j := 2) rfl ?_
                refine ai_iload_n dX1_step_134 rfl (j := 1) rfl ?_
                refine ai_iload_n dX1_step_135 rfl (j := 0) rfl ?_
                refine ai_callVv (As := [.int (S 21 ((S 9 4)).toNatClampNeg), .int (S 22 ((S 9 4)).toNatClampNeg), .int (S 23 ((S 9 4)).toNatClampNeg)]) (rest := []) dX1_step_136 cvX1_98 rfl rfl rfl (Nat.le_of_ble_eq_true rfl) (ai_met.mv h (fun S36 h => ?_))
                exact ai_retv dX1_step_139 rfl h
              · have h := h.2 hc34
                refine ai_aload_n dX1_step_122 rfl (j := 3) rfl ?_
                refine ai_iload_n dX1_step_123 rfl (j := 2) rfl ?_
                refine ai_iload_n dX1_step_124 rfl (j := 1) rfl ?_
                refine ai_iload_n dX1_step_125 rfl (j := 0) rfl ?_
                refine ai_callVv (As := [.int (S 21 ((S 9 4)).toNatClampNeg), .int (S 22 ((S 9 4)).toNatClampNeg), .int (S 23 ((S 9 4)).toNatClampNeg)]) (rest := []) dX1_step_126 cvX1_95 rfl rfl rfl (Nat.le_of_ble_eq_true rfl) (ai_met.mv h (fun S38 h => ?_))
                refine ai_goto (tgt := 139) dX1_step_129 (by decide) ?_
                exact ai_retv dX1_step_139 rfl h
          · have h := h.2 hc30
            refine ai_iload_n dX1_step_94 rfl (j := 2) rfl ?_
            refine ai_bipush (v := 12) dX1_step_95 (by decide) ?_
            refine ai_icmp_gt (tgt := 110) dX1_step_97 (by decide) ⟨fun (hc39 : 12 < (S 21 ((S 9 4)).toNatClampNeg)) => ?_, fun (hc39 : ¬ 12 < (S 21 ((S 9 4)).toNatClampNeg)) => ?_⟩
            · have h := h.1 hc39
              refine ai_iload_n dX1_step_110 rfl (j := 2) rfl ?_
              refine ai_bipush (v := 13) dX1_step_111 (by decide) ?_
              refine ai_icmp_lt (tgt := 132) dX1_step_113 (by decide) ⟨fun (hc40 : (S 21 ((S 9 4)).toNatClampNeg) < 13) => ?_, fun (hc40 : ¬ (S 21 ((S 9 4)).toNatClampNeg) < 13) => ?_⟩
              · have h := h.1 hc40
                refine ai_aload_n dX1_step_132 rfl (j := 3) rfl ?_
                refine ai_iload_n dX1_step_133 rfl (j := 2) rfl ?_
                refine ai_iload_n dX1_step_134 rfl (j := 1) rfl ?_
                refine ai_iload_n dX1_step_135 rfl (j := 0) rfl ?_
                refine ai_callVv (As := [.int (S 21 ((S 9 4)).toNatClampNeg), .int (S 22 ((S 9 4)).toNatClampNeg), .int (S 23 ((S 9 4)).toNatClampNeg)]) (rest := []) dX1_step_136 cvX1_98 rfl rfl rfl (Nat.le_of_ble_eq_true rfl) (ai_met.mv h (fun S42 h => ?_))
                exact ai_retv dX1_step_139 rfl h
              · have h := h.2 hc40
                refine ai_iload_n dX1_step_116 rfl (j := 2) rfl ?_
                refine ai_bipush (v := 15) dX1_step_117 (by decide) ?_
                refine ai_icmp_gt (tgt := 132) dX1_step_119 (by decide) ⟨fun (hc43 : 15 < (S 21 ((S 9 4)).toNatClampNeg)) => ?_, fun (hc43 : ¬ 15 < (S 21 ((S 9 4)).toNatClampNeg)) => ?_⟩
                · have h := h.1 hc43
                  refine ai_aload_n dX1_step_132 rfl (j := 3) rfl ?_
                  refine ai_iload_n dX1_step_133 rfl (j := 2) rfl ?_
                  refine ai_iload_n dX1_step_134 rfl (j := 1) rfl ?_
                  refine ai_iload_n dX1_step_135 rfl (j := 0) rfl ?_
                  refine ai_callVv (As := [.int (S 21 ((S 9 4)).toNatClampNeg), .int (S 22 ((S 9 4)).toNatClampNeg), .int (S 23 ((S 9 4)).toNatClampNeg)]) (rest := []) dX1_step_136 cvX1_98 rfl rfl rfl (Nat.le_of_ble_eq_true rfl) (ai_met.mv h (fun S45 h => ?_))
                  exact ai_retv dX1_step_139 rfl h
                · have h := h.2 hc43
                  refine ai_aload_n dX1_step_122 rfl (j := 3) rfl ?_
                  refine ai_iload_n dX1_step_123 rfl (j := 2) rfl ?_
                  refine ai_iload_n dX1_step_124 rfl (j := 1) rfl ?_
                  refine ai_iload_n dX1_step_125 rfl (j := 0) rfl ?_
                  refine ai_callVv (As := [.int (S 21 ((S 9 4)).toNatClampNeg), .int (S 22 ((S 9 4)).toNatClampNeg), .int (S 23 ((S 9 4)).toNatClampNeg)]) (rest := []) dX1_step_126 cvX1_95 rfl rfl rfl (Nat.le_of_ble_eq_true rfl) (ai_met.mv h (fun S47 h => ?_))
                  refine ai_goto (tgt := 139) dX1_step_129 (by decide) ?_
                  exact ai_retv dX1_step_139 rfl h
            · have h := h.2 hc39
              refine ai_aload_n dX1_step_100 rfl (j := 3) rfl ?_
              refine ai_iload_n dX1_step_101 rfl (j := 2) rfl ?_
              refine ai_iload_n dX1_step_102 rfl (j := 1) rfl ?_
              refine ai_iload_n dX1_step_103 rfl (j := 0) rfl ?_
              refine ai_callVv (As := [.int (S 21 ((S 9 4)).toNatClampNeg), .int (S 22 ((S 9 4)).toNatClampNeg), .int (S 23 ((S 9 4)).toNatClampNeg)]) (rest := []) dX1_step_104 cvX1_92 rfl rfl rfl (Nat.le_of_ble_eq_true rfl) (ai_met.mv h (fun S49 h => ?_))
              refine ai_goto (tgt := 139) dX1_step_107 (by decide) ?_
              exact ai_retv dX1_step_139 rfl h
        · have h := h.2 hc29
          refine ai_aload_n dX1_step_78 rfl (j := 3) rfl ?_
          refine ai_iload_n dX1_step_79 rfl (j := 2) rfl ?_
          refine ai_iload_n dX1_step_80 rfl (j := 1) rfl ?_
          refine ai_iload_n dX1_step_81 rfl (j := 0) rfl ?_
          refine ai_callVv (As := [.int (S 21 ((S 9 4)).toNatClampNeg), .int (S 22 ((S 9 4)).toNatClampNeg), .int (S 23 ((S 9 4)).toNatClampNeg)]) (rest := []) dX1_step_82 cvX1_88 rfl rfl rfl (Nat.le_of_ble_eq_true rfl) (ai_met.mv h (fun S51 h => ?_))
          refine ai_goto (tgt := 139) dX1_step_85 (by decide) ?_
          exact ai_retv dX1_step_139 rfl h
    · have h := h.2 hc7
      refine ai_iload_n dX1_step_52 rfl (j := 2) rfl ?_
      refine ai_bipush (v := 22) dX1_step_53 (by decide) ?_
      refine ai_icmp_gt (tgt := 66) dX1_step_55 (by decide) ⟨fun (hc52 : 22 < (S 21 ((S 9 4)).toNatClampNeg)) => ?_, fun (hc52 : ¬ 22 < (S 21 ((S 9 4)).toNatClampNeg)) => ?_⟩
      · have h := h.1 hc52
        refine ai_iload_n dX1_step_66 rfl (j := 2) rfl ?_
        refine ai_bipush (v := 6) dX1_step_67 (by decide) ?_
        refine ai_icmp_lt (tgt := 88) dX1_step_69 (by decide) ⟨fun (hc53 : (S 21 ((S 9 4)).toNatClampNeg) < 6) => ?_, fun (hc53 : ¬ (S 21 ((S 9 4)).toNatClampNeg) < 6) => ?_⟩
        · have h := h.1 hc53
          refine ai_iload_n dX1_step_88 rfl (j := 2) rfl ?_
          refine ai_bipush (v := 10) dX1_step_89 (by decide) ?_
          refine ai_icmp_lt (tgt := 110) dX1_step_91 (by decide) ⟨fun (hc54 : (S 21 ((S 9 4)).toNatClampNeg) < 10) => ?_, fun (hc54 : ¬ (S 21 ((S 9 4)).toNatClampNeg) < 10) => ?_⟩
          · have h := h.1 hc54
            refine ai_iload_n dX1_step_110 rfl (j := 2) rfl ?_
            refine ai_bipush (v := 13) dX1_step_111 (by decide) ?_
            refine ai_icmp_lt (tgt := 132) dX1_step_113 (by decide) ⟨fun (hc55 : (S 21 ((S 9 4)).toNatClampNeg) < 13) => ?_, fun (hc55 : ¬ (S 21 ((S 9 4)).toNatClampNeg) < 13) => ?_⟩
            · have h := h.1 hc55
              refine ai_aload_n dX1_step_132 rfl (j := 3) rfl ?_
              refine ai_iload_n dX1_step_133 rfl (j := 2) rfl ?_
              refine ai_iload_n dX1_step_134 rfl (j := 1) rfl ?_
              refine ai_iload_n dX1_step_135 rfl (j := 0) rfl ?_
              refine ai_callVv (As := [.int (S 21 ((S 9 4)).toNatClampNeg), .int (S 22 ((S 9 4)).toNatClampNeg), .int (S 23 ((S 9 4)).toNatClampNeg)]) (rest := []) dX1_step_136 cvX1_98 rfl rfl rfl (Nat.le_of_ble_eq_true rfl) (ai_met.mv h (fun S57 h => ?_))
              exact ai_retv dX1_step_139 rfl h
            · have h := h.2 hc55
              refine ai_iload_n dX1_step_116 rfl (j := 2) rfl ?_
              refine ai_bipush (v := 15) dX1_step_117 (by decide) ?_
              refine ai_icmp_gt (tgt := 132) dX1_step_119 (by decide) ⟨fun (hc58 : 15 < (S 21 ((S 9 4)).toNatClampNeg)) => ?_, fun (hc58 : ¬ 15 < (S 21 ((S 9 4)).toNatClampNeg)) => ?_⟩
              · have h := h.1 hc58
                refine ai_aload_n dX1_step_132 rfl (j := 3) rfl ?_
                refine ai_iload_n dX1_step_133 rfl (j := 2) rfl ?_
                refine ai_iload_n dX1_step_134 rfl (j := 1) rfl ?_
                refine ai_iload_n dX1_step_135 rfl (j := 0) rfl ?_
                refine ai_callVv (As := [.int (S 21 ((S 9 4)).toNatClampNeg), .int (S 22 ((S 9 4)).toNatClampNeg), .int (S 23 ((S 9 4)).toNatClampNeg)]) (rest := []) dX1_step_136 cvX1_98 rfl rfl rfl (Nat.le_of_ble_eq_true rfl) (ai_met.mv h (fun S60 h => ?_))
                exact ai_retv dX1_step_139 rfl h
              · have h := h.2 hc58
                refine ai_aload_n dX1_step_122 rfl (j := 3) rfl ?_
                refine ai_iload_n dX1_step_123 rfl (j := 2) rfl ?_
                refine ai_iload_n dX1_step_124 rfl (j := 1) rfl ?_
                refine ai_iload_n dX1_step_125 rfl (j := 0) rfl ?_
                refine ai_callVv (As := [.int (S 21 ((S 9 4)).toNatClampNeg), .int (S 22 ((S 9 4)).toNatClampNeg), .int (S 23 ((S 9 4)).toNatClampNeg)]) (rest := []) dX1_step_126 cvX1_95 rfl rfl rfl (Nat.le_of_ble_eq_true rfl) (ai_met.mv h (fun S62 h => ?_))
                refine ai_goto (tgt := 139) dX1_step_129 (by decide) ?_
                exact ai_retv dX1_step_139 rfl h
          · have h := h.2 hc54
            refine ai_iload_n dX1_step_94 rfl (j := 2) rfl ?_
            refine ai_bipush (v := 12) dX1_step_95 (by decide) ?_
            refine ai_icmp_gt (tgt := 110) dX1_step_97 (by decide) ⟨fun (hc63 : 12 < (S 21 ((S 9 4)).toNatClampNeg)) => ?_, fun (hc63 : ¬ 12 < (S 21 ((S 9 4)).toNatClampNeg)) => ?_⟩
            · have h := h.1 hc63
              refine ai_iload_n dX1_step_110 rfl (j := 2) rfl ?_
              refine ai_bipush (v := 13) dX1_step_111 (by decide) ?_
              refine ai_icmp_lt (tgt := 132) dX1_step_113 (by decide) ⟨fun (hc64 : (S 21 ((S 9 4)).toNatClampNeg) < 13) => ?_, fun (hc64 : ¬ (S 21 ((S 9 4)).toNatClampNeg) < 13) => ?_⟩
              · have h := h.1 hc64
                refine ai_aload_n dX1_step_132 rfl (j := 3) rfl ?_
                refine ai_iload_n dX1_step_133 rfl (j := 2) rfl ?_
                refine ai_iload_n dX1_step_134 rfl (j := 1) rfl ?_
                refine ai_iload_n dX1_step_135 rfl (j := 0) rfl ?_
                refine ai_callVv (As := [.int (S 21 ((S 9 4)).toNatClampNeg), .int (S 22 ((S 9 4)).toNatClampNeg), .int (S 23 ((S 9 4)).toNatClampNeg)]) (rest := []) dX1_step_136 cvX1_98 rfl rfl rfl (Nat.le_of_ble_eq_true rfl) (ai_met.mv h (fun S66 h => ?_))
                exact ai_retv dX1_step_139 rfl h
              · have h := h.2 hc64
                refine ai_iload_n dX1_step_116 rfl (j := 2) rfl ?_
                refine ai_bipush (v := 15) dX1_step_117 (by decide) ?_
                refine ai_icmp_gt (tgt := 132) dX1_step_119 (by decide) ⟨fun (hc67 : 15 < (S 21 ((S 9 4)).toNatClampNeg)) => ?_, fun (hc67 : ¬ 15 < (S 21 ((S 9 4)).toNatClampNeg)) => ?_⟩
                · have h := h.1 hc67
                  refine ai_aload_n dX1_step_132 rfl (j := 3) rfl ?_
                  refine ai_iload_n dX1_step_133 rfl (j := 2) rfl ?_
                  refine ai_iload_n dX1_step_134 rfl (j := 1) rfl ?_
                  refine ai_iload_n dX1_step_135 rfl (j := 0) rfl ?_
                  refine ai_callVv (As := [.int (S 21 ((S 9 4)).toNatClampNeg), .int (S 22 ((S 9 4)).toNatClampNeg), .int (S 23 ((S 9 4)).toNatClampNeg)]) (rest := []) dX1_step_136 cvX1_98 rfl rfl rfl (Nat.le_of_ble_eq_true rfl) (ai_met.mv h (fun S69 h => ?_))
                  exact ai_retv dX1_step_139 rfl h
                · have h := h.2 hc67
                  refine ai_aload_n dX1_step_122 rfl (j := 3) rfl ?_
                  refine ai_iload_n dX1_step_123 rfl (j := 2) rfl ?_
                  refine ai_iload_n dX1_step_124 rfl (j := 1) rfl ?_
                  refine ai_iload_n dX1_step_125 rfl (j := 0) rfl ?_
                  refine ai_callVv (As := [.int (S 21 ((S 9 4)).toNatClampNeg), .int (S 22 ((S 9 4)).toNatClampNeg), .int (S 23 ((S 9 4)).toNatClampNeg)]) (rest := []) dX1_step_126 cvX1_95 rfl rfl rfl (Nat.le_of_ble_eq_true rfl) (ai_met.mv h (fun S71 h => ?_))
                  refine ai_goto (tgt := 139) dX1_step_129 (by decide) ?_
                  exact ai_retv dX1_step_139 rfl h
            · have h := h.2 hc63
              refine ai_aload_n dX1_step_100 rfl (j := 3) rfl ?_
              refine ai_iload_n dX1_step_101 rfl (j := 2) rfl ?_
              refine ai_iload_n dX1_step_102 rfl (j := 1) rfl ?_
              refine ai_iload_n dX1_step_103 rfl (j := 0) rfl ?_
              refine ai_callVv (As := [.int (S 21 ((S 9 4)).toNatClampNeg), .int (S 22 ((S 9 4)).toNatClampNeg), .int (S 23 ((S 9 4)).toNatClampNeg)]) (rest := []) dX1_step_104 cvX1_92 rfl rfl rfl (Nat.le_of_ble_eq_true rfl) (ai_met.mv h (fun S73 h => ?_))
              refine ai_goto (tgt := 139) dX1_step_107 (by decide) ?_
              exact ai_retv dX1_step_139 rfl h
        · have h := h.2 hc53
          refine ai_iload_n dX1_step_72 rfl (j := 2) rfl ?_
          refine ai_bipush (v := 9) dX1_step_73 (by decide) ?_
          refine ai_icmp_gt (tgt := 88) dX1_step_75 (by decide) ⟨fun (hc74 : 9 < (S 21 ((S 9 4)).toNatClampNeg)) => ?_, fun (hc74 : ¬ 9 < (S 21 ((S 9 4)).toNatClampNeg)) => ?_⟩
          · have h := h.1 hc74
            refine ai_iload_n dX1_step_88 rfl (j := 2) rfl ?_
            refine ai_bipush (v := 10) dX1_step_89 (by decide) ?_
            refine ai_icmp_lt (tgt := 110) dX1_step_91 (by decide) ⟨fun (hc75 : (S 21 ((S 9 4)).toNatClampNeg) < 10) => ?_, fun (hc75 : ¬ (S 21 ((S 9 4)).toNatClampNeg) < 10) => ?_⟩
            · have h := h.1 hc75
              refine ai_iload_n dX1_step_110 rfl (j := 2) rfl ?_
              refine ai_bipush (v := 13) dX1_step_111 (by decide) ?_
              refine ai_icmp_lt (tgt := 132) dX1_step_113 (by decide) ⟨fun (hc76 : (S 21 ((S 9 4)).toNatClampNeg) < 13) => ?_, fun (hc76 : ¬ (S 21 ((S 9 4)).toNatClampNeg) < 13) => ?_⟩
              · have h := h.1 hc76
                refine ai_aload_n dX1_step_132 rfl (j := 3) rfl ?_
                refine ai_iload_n dX1_step_133 rfl (j := 2) rfl ?_
                refine ai_iload_n dX1_step_134 rfl (j := 1) rfl ?_
                refine ai_iload_n dX1_step_135 rfl (j := 0) rfl ?_
                refine ai_callVv (As := [.int (S 21 ((S 9 4)).toNatClampNeg), .int (S 22 ((S 9 4)).toNatClampNeg), .int (S 23 ((S 9 4)).toNatClampNeg)]) (rest := []) dX1_step_136 cvX1_98 rfl rfl rfl (Nat.le_of_ble_eq_true rfl) (ai_met.mv h (fun S78 h => ?_))
                exact ai_retv dX1_step_139 rfl h
              · have h := h.2 hc76
                refine ai_iload_n dX1_step_116 rfl (j := 2) rfl ?_
                refine ai_bipush (v := 15) dX1_step_117 (by decide) ?_
                refine ai_icmp_gt (tgt := 132) dX1_step_119 (by decide) ⟨fun (hc79 : 15 < (S 21 ((S 9 4)).toNatClampNeg)) => ?_, fun (hc79 : ¬ 15 < (S 21 ((S 9 4)).toNatClampNeg)) => ?_⟩
                · have h := h.1 hc79
                  refine ai_aload_n dX1_step_132 rfl (j := 3) rfl ?_
                  refine ai_iload_n dX1_step_133 rfl (j := 2) rfl ?_
                  refine ai_iload_n dX1_step_134 rfl (j := 1) rfl ?_
                  refine ai_iload_n dX1_step_135 rfl (j := 0) rfl ?_
                  refine ai_callVv (As := [.int (S 21 ((S 9 4)).toNatClampNeg), .int (S 22 ((S 9 4)).toNatClampNeg), .int (S 23 ((S 9 4)).toNatClampNeg)]) (rest := []) dX1_step_136 cvX1_98 rfl rfl rfl (Nat.le_of_ble_eq_true rfl) (ai_met.mv h (fun S81 h => ?_))
                  exact ai_retv dX1_step_139 rfl h
                · have h := h.2 hc79
                  refine ai_aload_n dX1_step_122 rfl (j := 3) rfl ?_
                  refine ai_iload_n dX1_step_123 rfl (j := 2) rfl ?_
                  refine ai_iload_n dX1_step_124 rfl (j := 1) rfl ?_
                  refine ai_iload_n dX1_step_125 rfl (j := 0) rfl ?_
                  refine ai_callVv (As := [.int (S 21 ((S 9 4)).toNatClampNeg), .int (S 22 ((S 9 4)).toNatClampNeg), .int (S 23 ((S 9 4)).toNatClampNeg)]) (rest := []) dX1_step_126 cvX1_95 rfl rfl rfl (Nat.le_of_ble_eq_true rfl) (ai_met.mv h (fun S83 h => ?_))
                  refine ai_goto (tgt := 139) dX1_step_129 (by decide) ?_
                  exact ai_retv dX1_step_139 rfl h
            · have h := h.2 hc75
              refine ai_iload_n dX1_step_94 rfl (j := 2) rfl ?_
              refine ai_bipush (v := 12) dX1_step_95 (by decide) ?_
              refine ai_icmp_gt (tgt := 110) dX1_step_97 (by decide) ⟨fun (hc84 : 12 < (S 21 ((S 9 4)).toNatClampNeg)) => ?_, fun (hc84 : ¬ 12 < (S 21 ((S 9 4)).toNatClampNeg)) => ?_⟩
              · have h := h.1 hc84
                refine ai_iload_n dX1_step_110 rfl (j := 2) rfl ?_
                refine ai_bipush (v := 13) dX1_step_111 (by decide) ?_
                refine ai_icmp_lt (tgt := 132) dX1_step_113 (by decide) ⟨fun (hc85 : (S 21 ((S 9 4)).toNatClampNeg) < 13) => ?_, fun (hc85 : ¬ (S 21 ((S 9 4)).toNatClampNeg) < 13) => ?_⟩
                · have h := h.1 hc85
                  refine ai_aload_n dX1_step_132 rfl (j := 3) rfl ?_
                  refine ai_iload_n dX1_step_133 rfl (j := 2) rfl ?_
                  refine ai_iload_n dX1_step_134 rfl (j := 1) rfl ?_
                  refine ai_iload_n dX1_step_135 rfl (j := 0) rfl ?_
                  refine ai_callVv (As := [.int (S 21 ((S 9 4)).toNatClampNeg), .int (S 22 ((S 9 4)).toNatClampNeg), .int (S 23 ((S 9 4)).toNatClampNeg)]) (rest := []) dX1_step_136 cvX1_98 rfl rfl rfl (Nat.le_of_ble_eq_true rfl) (ai_met.mv h (fun S87 h => ?_))
                  exact ai_retv dX1_step_139 rfl h
                · have h := h.2 hc85
                  refine ai_iload_n dX1_step_116 rfl (j := 2) rfl ?_
                  refine ai_bipush (v := 15) dX1_step_117 (by decide) ?_
                  refine ai_icmp_gt (tgt := 132) dX1_step_119 (by decide) ⟨fun (hc88 : 15 < (S 21 ((S 9 4)).toNatClampNeg)) => ?_, fun (hc88 : ¬ 15 < (S 21 ((S 9 4)).toNatClampNeg)) => ?_⟩
                  · have h := h.1 hc88
                    refine ai_aload_n dX1_step_132 rfl (j := 3) rfl ?_
                    refine ai_iload_n dX1_step_133 rfl (j := 2) rfl ?_
                    refine ai_iload_n dX1_step_134 rfl (j := 1) rfl ?_
                    refine ai_iload_n dX1_step_135 rfl (j := 0) rfl ?_
                    refine ai_callVv (As := [.int (S 21 ((S 9 4)).toNatClampNeg), .int (S 22 ((S 9 4)).toNatClampNeg), .int (S 23 ((S 9 4)).toNatClampNeg)]) (rest := []) dX1_step_136 cvX1_98 rfl rfl rfl (Nat.le_of_ble_eq_true rfl) (ai_met.mv h (fun S90 h => ?_))
                    exact ai_retv dX1_step_139 rfl h
                  · have h := h.2 hc88
                    refine ai_aload_n dX1_step_122 rfl (j := 3) rfl ?_
                    refine ai_iload_n dX1_step_123 rfl (j := 2) rfl ?_
                    refine ai_iload_n dX1_step_124 rfl (j := 1) rfl ?_
                    refine ai_iload_n dX1_step_125 rfl (j := 0) rfl ?_
                    refine ai_callVv (As := [.int (S 21 ((S 9 4)).toNatClampNeg), .int (S 22 ((S 9 4)).toNatClampNeg), .int (S 23 ((S 9 4)).toNatClampNeg)]) (rest := []) dX1_step_126 cvX1_95 rfl rfl rfl (Nat.le_of_ble_eq_true rfl) (ai_met.mv h (fun S92 h => ?_))
                    refine ai_goto (tgt := 139) dX1_step_129 (by decide) ?_
                    exact ai_retv dX1_step_139 rfl h
              · have h := h.2 hc84
                refine ai_aload_n dX1_step_100 rfl (j := 3) rfl ?_
                refine ai_iload_n dX1_step_101 rfl (j := 2) rfl ?_
                refine ai_iload_n dX1_step_102 rfl (j := 1) rfl ?_
                refine ai_iload_n dX1_step_103 rfl (j := 0) rfl ?_
                refine ai_callVv (As := [.int (S 21 ((S 9 4)).toNatClampNeg), .int (S 22 ((S 9 4)).toNatClampNeg), .int (S 23 ((S 9 4)).toNatClampNeg)]) (rest := []) dX1_step_104 cvX1_92 rfl rfl rfl (Nat.le_of_ble_eq_true rfl) (ai_met.mv h (fun S94 h => ?_))
                refine ai_goto (tgt := 139) dX1_step_107 (by decide) ?_
                exact ai_retv dX1_step_139 rfl h
          · have h := h.2 hc74
            refine ai_aload_n dX1_step_78 rfl (j := 3) rfl ?_
            refine ai_iload_n dX1_step_79 rfl (j := 2) rfl ?_
            refine ai_iload_n dX1_step_80 rfl (j := 1) rfl ?_
            refine ai_iload_n dX1_step_81 rfl (j := 0) rfl ?_
            refine ai_callVv (As := [.int (S 21 ((S 9 4)).toNatClampNeg), .int (S 22 ((S 9 4)).toNatClampNeg), .int (S 23 ((S 9 4)).toNatClampNeg)]) (rest := []) dX1_step_82 cvX1_88 rfl rfl rfl (Nat.le_of_ble_eq_true rfl) (ai_met.mv h (fun S96 h => ?_))
            refine ai_goto (tgt := 139) dX1_step_85 (by decide) ?_
            exact ai_retv dX1_step_139 rfl h
      · have h := h.2 hc52
        refine ai_aload_n dX1_step_58 rfl (j := 3) rfl ?_
        refine ai_iload_n dX1_step_59 rfl (j := 2) rfl ?_
        refine ai_callVv (As := [.int (S 21 ((S 9 4)).toNatClampNeg)]) (rest := []) dX1_step_60 cvX1_84 rfl rfl rfl (Nat.le_of_ble_eq_true rfl) (vX1_operate hM ?_)
        refine ⟨fun (hc97 : ¬ (S 21 ((S 9 4)).toNatClampNeg) = 18) => ?_, fun (hc97 : (S 21 ((S 9 4)).toNatClampNeg) = 18) => ?_⟩
        · have h := h.1 hc97
          have hr98 : ¬ (S 9 12) ≤ 0 := h.1
          have h := h.2
          refine ⟨hr98, ?_⟩
          have hr99 : (S 9 12) ≤ 100 := h.1
          have h := h.2
          refine ⟨hr99, ?_⟩
          refine ⟨h.1, ?_⟩
          have hi100 := h.1
          have h := h.2
          refine ⟨fun (hc101 : ¬ (S 21 ((S 9 4)).toNatClampNeg) = 19) => ?_, fun (hc101 : (S 21 ((S 9 4)).toNatClampNeg) = 19) => ?_⟩
          · have h := h.1 hc101
            refine ⟨fun (hc102 : ¬ (S 21 ((S 9 4)).toNatClampNeg) = 20) => ?_, fun (hc102 : (S 21 ((S 9 4)).toNatClampNeg) = 20) => ?_⟩
            · have h := h.1 hc102
              refine ⟨fun (hc103 : ¬ (S 21 ((S 9 4)).toNatClampNeg) = 21) => ?_, fun (hc103 : (S 21 ((S 9 4)).toNatClampNeg) = 21) => ?_⟩
              · have h := h.1 hc103
                refine ⟨fun (hc104 : (S 9 6) ≤ (S 18 (((S 9 12) - 1)).toNatClampNeg)) => ?_, fun (hc104 : ¬ (S 9 6) ≤ (S 18 (((S 9 12) - 1)).toNatClampNeg)) => ?_⟩
                · have h := h.1 hc104
                  show ai_W _ _ _ _ _ _ (ai_up (ai_up (ai_up S 9 4 ((S 9 4) + 1)) 9 12 ((S 9 12) - 1)) 9 6 0) _ _
                  refine ai_goto (tgt := 139) dX1_step_63 (by decide) ?_
                  exact ai_retv dX1_step_139 rfl h
                · have h := h.2 hc104
                  show ai_W _ _ _ _ _ _ (ai_up (ai_up (ai_up S 9 4 ((S 9 4) + 1)) 9 12 ((S 9 12) - 1)) 9 6 1) _ _
                  refine ai_goto (tgt := 139) dX1_step_63 (by decide) ?_
                  exact ai_retv dX1_step_139 rfl h
              · have h := h.2 hc103
                show ai_W _ _ _ _ _ _ (ai_up (ai_up (ai_up S 9 4 ((S 9 4) + 1)) 9 12 ((S 9 12) - 1)) 9 6 ((S 18 (((S 9 12) - 1)).toNatClampNeg) * (S 9 6))) _ _
                refine ai_goto (tgt := 139) dX1_step_63 (by decide) ?_
                exact ai_retv dX1_step_139 rfl h
            · have h := h.2 hc102
              show ai_W _ _ _ _ _ _ (ai_up (ai_up (ai_up S 9 4 ((S 9 4) + 1)) 9 12 ((S 9 12) - 1)) 9 6 ((S 18 (((S 9 12) - 1)).toNatClampNeg) - (S 9 6))) _ _
              refine ai_goto (tgt := 139) dX1_step_63 (by decide) ?_
              exact ai_retv dX1_step_139 rfl h
          · have h := h.2 hc101
            show ai_W _ _ _ _ _ _ (ai_up (ai_up (ai_up S 9 4 ((S 9 4) + 1)) 9 12 ((S 9 12) - 1)) 9 6 ((S 18 (((S 9 12) - 1)).toNatClampNeg) + (S 9 6))) _ _
            refine ai_goto (tgt := 139) dX1_step_63 (by decide) ?_
            exact ai_retv dX1_step_139 rfl h
        · have h := h.2 hc97
          have hr105 : ¬ (S 9 12) < 0 := h.1
          have h := h.2
          refine ⟨hr105, ?_⟩
          refine ⟨fun (hc106 : (S 9 12) < 100) => ?_, fun (hc106 : ¬ (S 9 12) < 100) => ?_⟩
          · have h := h.1 hc106
            refine ⟨h.1, ?_⟩
            have hi107 := h.1
            have h := h.2
            show ai_W _ _ _ _ _ _ (ai_up (ai_up (ai_up S 9 4 ((S 9 4) + 1)) 18 ((S 9 12)).toNatClampNeg (S 9 6)) 9 12 ((S 9 12) + 1)) _ _
            refine ai_goto (tgt := 139) dX1_step_63 (by decide) ?_
            exact ai_retv dX1_step_139 rfl h
          · have h := h.2 hc106
            show ai_W _ _ _ _ _ _ (ai_up (ai_up S 9 4 ((S 9 4) + 1)) 9 3 7) _ _
            refine ai_goto (tgt := 139) dX1_step_63 (by decide) ?_
            exact ai_retv dX1_step_139 rfl h
set_option maxHeartbeats 4000000 in
set_option maxRecDepth 100000 in
theorem vX1_runProgram {p2 : Int32} {S : ai_S} {V : ai_V} {G : Int32 → ai_S → ai_V → Prop}
    (h : ai_W (uN l D ρ τ) (d + 1) mX1_runProgram 59 [(0, .ref 9), (3, .int 0)] [] (ai_up (ai_up (ai_up (ai_up (ai_up (ai_up (ai_up (ai_up (ai_up (ai_up (ai_up (ai_up S 9 1 p2) 9 2 0) 9 3 (-1)) 9 4 0) 9 5 0) 9 6 0) 10 5 0) 10 6 0) 10 7 0) 9 10 0) 9 12 0) 9 14 0) (ai_uv V 9 0 (.ref 20)) (ai_pi G)) :
    ai_met (uN l D ρ τ) (d + 1) mX1_runProgram [.ref 9, .ref 20, .int p2] S V (ai_pi G) := by
  refine ai_mof plX1 (Nat.le_of_ble_eq_true rfl) (lv := [(0, .ref 9), (1, .ref 20), (2, .int p2)]) rfl ?_
  refine ai_aload_n dX1_runProgram_0 rfl (j := 0) rfl ?_
  refine ai_aload_n dX1_runProgram_1 rfl (j := 1) rfl ?_
  refine ai_putV (v := .ref 20) dX1_runProgram_2 fdX1_31 pdX1_0 rfl rfl rfl rfl ?_
  refine ai_aload_n dX1_runProgram_5 rfl (j := 0) rfl ?_
  refine ai_iload_n dX1_runProgram_6 rfl (j := 2) rfl ?_
  refine ai_putI dX1_runProgram_7 fdX1_35 pdX1_1 rfl rfl rfl rfl ?_
  refine ai_aload_n dX1_runProgram_10 rfl (j := 0) rfl ?_
  refine ai_iconst (v := 0) dX1_runProgram_11 (by decide) ?_
  refine ai_putI dX1_runProgram_12 fdX1_39 pdX1_2 rfl rfl rfl rfl ?_
  refine ai_aload_n dX1_runProgram_15 rfl (j := 0) rfl ?_
  refine ai_iconst (v := (-1)) dX1_runProgram_16 (by decide) ?_
  refine ai_putI dX1_runProgram_17 fdX1_42 pdX1_3 rfl rfl rfl rfl ?_
  refine ai_aload_n dX1_runProgram_20 rfl (j := 0) rfl ?_
  refine ai_iconst (v := 0) dX1_runProgram_21 (by decide) ?_
  refine ai_putI dX1_runProgram_22 fdX1_45 pdX1_4 rfl rfl rfl rfl ?_
  refine ai_aload_n dX1_runProgram_25 rfl (j := 0) rfl ?_
  refine ai_iconst (v := 0) dX1_runProgram_26 (by decide) ?_
  refine ai_putI dX1_runProgram_27 fdX1_48 pdX1_5 rfl rfl rfl rfl ?_
  refine ai_aload_n dX1_runProgram_30 rfl (j := 0) rfl ?_
  refine ai_iconst (v := 0) dX1_runProgram_31 (by decide) ?_
  refine ai_putI dX1_runProgram_32 fdX1_51 pdX1_6 rfl rfl rfl rfl ?_
  refine ai_aload_n dX1_runProgram_35 rfl (j := 0) rfl ?_
  refine ai_getR dX1_runProgram_36 fdX1_12 rfl rfl ?_
  refine ai_callVv (As := []) (rest := []) dX1_runProgram_39 cvX1_54 rfl rfl rfl (Nat.le_of_ble_eq_true rfl) (vX0_clear ?_)
  show ai_W _ _ _ _ _ _ (ai_up (ai_up (ai_up (ai_up (ai_up (ai_up (ai_up (ai_up (ai_up S 9 1 p2) 9 2 0) 9 3 (-1)) 9 4 0) 9 5 0) 9 6 0) 10 5 0) 10 6 0) 10 7 0) _ _
  refine ai_aload_n dX1_runProgram_42 rfl (j := 0) rfl ?_
  refine ai_iconst (v := 0) dX1_runProgram_43 (by decide) ?_
  refine ai_putI dX1_runProgram_44 fdX1_57 pdX1_10 rfl rfl rfl rfl ?_
  refine ai_aload_n dX1_runProgram_47 rfl (j := 0) rfl ?_
  refine ai_iconst (v := 0) dX1_runProgram_48 (by decide) ?_
  refine ai_putI dX1_runProgram_49 fdX1_60 pdX1_12 rfl rfl rfl rfl ?_
  refine ai_aload_n dX1_runProgram_52 rfl (j := 0) rfl ?_
  refine ai_iconst (v := 0) dX1_runProgram_53 (by decide) ?_
  refine ai_putI dX1_runProgram_54 fdX1_63 pdX1_14 rfl rfl rfl rfl ?_
  refine ai_iconst (v := 0) dX1_runProgram_57 (by decide) ?_
  refine ai_istore_n (lv' := [(3, .int 0), (0, .ref 9), (1, .ref 20), (2, .int p2)]) dX1_runProgram_58 rfl (by decide) rfl ?_
  refine ai_locj (lv' := [(0, .ref 9), (3, .int 0)]) [1, 0] rfl ?_
  exact h
set_option maxHeartbeats 4000000 in
set_option maxRecDepth 100000 in
theorem vX1_runProgram_59 {j : Int32} {S : ai_S} {V : ai_V} {G : Int32 → ai_S → ai_V → Prop} (hM : V 9 0 = .ref 20)
    (h : ((1000000 ≤ j → ((¬ (S 9 3) = (-1) → G (S 9 3) S V) ∧ ((S 9 3) = (-1) → G 1 (ai_up S 9 3 1) V))) ∧ (¬ 1000000 ≤ j → ((¬ (S 9 3) = (-1) → G (S 9 3) S V) ∧ ((S 9 3) = (-1) → ai_met (uN l D ρ τ) d mX1_step [.ref 9] S V (ai_qv V (fun S5 => ai_W (uN l D ρ τ) (d + 1) mX1_runProgram 59 [(0, .ref 9), (3, .int (j + 1))] [] S5 V (ai_pi G)))))))) :
    ai_W (uN l D ρ τ) (d + 1) mX1_runProgram 59 [(0, .ref 9), (3, .int j)] [] S V (ai_pi G) := by
  refine ai_iload_n dX1_runProgram_59 rfl (j := 1) rfl ?_
  refine ai_ldc dX1_runProgram_60 ctX1_66 ?_
  refine ai_icmp_ge (tgt := 83) dX1_runProgram_62 (by decide) ⟨fun (hc1 : 1000000 ≤ j) => ?_, fun (hc1 : ¬ 1000000 ≤ j) => ?_⟩
  · have h := h.1 hc1
    refine ai_aload_n dX1_runProgram_83 rfl (j := 0) rfl ?_
    refine ai_getI dX1_runProgram_84 fdX1_42 rfl rfl ?_
    refine ai_iconst (v := (-1)) dX1_runProgram_87 (by decide) ?_
    refine ai_icmp_ne (tgt := 96) dX1_runProgram_88 (by decide) ⟨fun (hc2 : ¬ (S 9 3) = (-1)) => ?_, fun (hc2 : (S 9 3) = (-1)) => ?_⟩
    · have h := h.1 hc2
      refine ai_aload_n dX1_runProgram_96 rfl (j := 0) rfl ?_
      refine ai_getI dX1_runProgram_97 fdX1_42 rfl rfl ?_
      exact ai_retp dX1_runProgram_100 rfl h
    · have h := h.2 hc2
      refine ai_aload_n dX1_runProgram_91 rfl (j := 0) rfl ?_
      refine ai_iconst (v := 1) dX1_runProgram_92 (by decide) ?_
      refine ai_putI dX1_runProgram_93 fdX1_42 pdX1_3 rfl rfl rfl rfl ?_
      refine ai_aload_n dX1_runProgram_96 rfl (j := 0) rfl ?_
      refine ai_getIx 1 dX1_runProgram_97 fdX1_42 rfl rfl rfl ?_
      exact ai_retp dX1_runProgram_100 rfl h
  · have h := h.2 hc1
    refine ai_aload_n dX1_runProgram_65 rfl (j := 0) rfl ?_
    refine ai_getI dX1_runProgram_66 fdX1_42 rfl rfl ?_
    refine ai_iconst (v := (-1)) dX1_runProgram_69 (by decide) ?_
    refine ai_icmp_ne (tgt := 83) dX1_runProgram_70 (by decide) ⟨fun (hc3 : ¬ (S 9 3) = (-1)) => ?_, fun (hc3 : (S 9 3) = (-1)) => ?_⟩
    · have h := h.1 hc3
      refine ai_aload_n dX1_runProgram_83 rfl (j := 0) rfl ?_
      refine ai_getI dX1_runProgram_84 fdX1_42 rfl rfl ?_
      refine ai_iconst (v := (-1)) dX1_runProgram_87 (by decide) ?_
      refine ai_icmp_ne (tgt := 96) dX1_runProgram_88 (by decide) ⟨fun _ => ?_, fun hc => absurd hc hc3⟩
      refine ai_aload_n dX1_runProgram_96 rfl (j := 0) rfl ?_
      refine ai_getI dX1_runProgram_97 fdX1_42 rfl rfl ?_
      exact ai_retp dX1_runProgram_100 rfl h
    · have h := h.2 hc3
      refine ai_aload_n dX1_runProgram_73 rfl (j := 0) rfl ?_
      refine ai_callVv (As := []) (rest := []) dX1_runProgram_74 cvX1_67 rfl rfl rfl (Nat.le_of_ble_eq_true rfl) (ai_met.mv h (fun S5 h => ?_))
      refine ai_iinc (j := 1) (v := (j + 1)) (lv' := [(3, .int (j + 1)), (0, .ref 9)]) dX1_runProgram_77 rfl (by first | rfl | decide) (by decide) rfl ?_
      refine ai_goto (tgt := 59) dX1_runProgram_80 (by decide) ?_
      refine ai_locj (lv' := [(0, .ref 9), (3, .int (j + 1))]) [1, 0] rfl ?_
      exact h
set_option maxHeartbeats 4000000 in
set_option maxRecDepth 100000 in
theorem vX1_printAt {p1 : Int32} {S : ai_S} {V : ai_V} {G : Int64 → ai_S → Prop}
    (h : ((p1 < 0 → G 4294967296 S) ∧ (¬ p1 < 0 → (((S 9 14) ≤ p1 → G 4294967296 S) ∧ (¬ (S 9 14) ≤ p1 → (¬ 32 ≤ p1 ∧ (vp_in p1 32 ∧ G (Int32.toInt64 (S 19 (p1).toNatClampNeg)) S))))))) :
    ai_met (uN l D ρ τ) d mX1_printAt [.ref 9, .int p1] S V (ai_ql V G) := by
  refine ai_mof plX1 (Nat.le_of_ble_eq_true rfl) (lv := [(0, .ref 9), (1, .int p1)]) rfl ?_
  refine ai_iload_n dX1_printAt_0 rfl (j := 1) rfl ?_
  refine ai_if_lt (tgt := 28) dX1_printAt_1 (by decide) ⟨fun (hc1 : p1 < 0) => ?_, fun (hc1 : ¬ p1 < 0) => ?_⟩
  · have h := h.1 hc1
    refine ai_ldc2 dX1_printAt_28 ctX1_70 ?_
    exact ai_retl dX1_printAt_31 rfl h
  · have h := h.2 hc1
    refine ai_iload_n dX1_printAt_4 rfl (j := 1) rfl ?_
    refine ai_aload_n dX1_printAt_5 rfl (j := 0) rfl ?_
    refine ai_getI dX1_printAt_6 fdX1_63 rfl rfl ?_
    refine ai_icmp_ge (tgt := 28) dX1_printAt_9 (by decide) ⟨fun (hc2 : (S 9 14) ≤ p1) => ?_, fun (hc2 : ¬ (S 9 14) ≤ p1) => ?_⟩
    · have h := h.1 hc2
      refine ai_ldc2 dX1_printAt_28 ctX1_70 ?_
      exact ai_retl dX1_printAt_31 rfl h
    · have h := h.2 hc2
      refine ai_iload_n dX1_printAt_12 rfl (j := 1) rfl ?_
      refine ai_bipush (v := 32) dX1_printAt_13 (by decide) ?_
      have hr3 : ¬ 32 ≤ p1 := h.1
      have h := h.2
      refine ai_icmp_ge (tgt := 28) dX1_printAt_15 (by decide) ⟨fun hc => absurd hc hr3, fun _ => ?_⟩
      refine ai_aload_n dX1_printAt_18 rfl (j := 0) rfl ?_
      refine ai_getR dX1_printAt_19 fdX1_28 rfl rfl ?_
      refine ai_iload_n dX1_printAt_22 rfl (j := 1) rfl ?_
      refine ai_iald dX1_printAt_23 rfl ⟨h.1, ?_⟩
      have hi4 := h.1
      have h := h.2
      refine ai_i2l dX1_printAt_24 ?_
      refine ai_goto (tgt := 31) dX1_printAt_25 (by decide) ?_
      exact ai_retl dX1_printAt_31 rfl h
end GC2
