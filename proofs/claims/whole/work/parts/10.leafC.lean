section GC0
variable {l : Launch} {D : va_G} {ρ : Nat → Nat} {τ : Nat → ClassId} {d : Nat}
set_option maxHeartbeats 4000000 in
set_option maxRecDepth 100000 in
theorem vX0_clear {S : ai_S} {V : ai_V} {G : ai_S → Prop}
    (h : G (ai_up (ai_up (ai_up S 10 5 0) 10 6 0) 10 7 0)) :
    ai_met (uN l D ρ τ) d mX0_clear [.ref 10] S V (ai_qv V G) := by
  refine ai_mof plX0 (Nat.le_of_ble_eq_true rfl) (lv := [(0, .ref 10)]) rfl ?_
  refine ai_aload_n dX0_clear_0 rfl (j := 0) rfl ?_
  refine ai_iconst (v := 0) dX0_clear_1 (by decide) ?_
  refine ai_putI dX0_clear_2 fdX0_27 pdX0_5 rfl rfl rfl rfl ?_
  refine ai_aload_n dX0_clear_5 rfl (j := 0) rfl ?_
  refine ai_iconst (v := 0) dX0_clear_6 (by decide) ?_
  refine ai_putI dX0_clear_7 fdX0_31 pdX0_6 rfl rfl rfl rfl ?_
  refine ai_aload_n dX0_clear_10 rfl (j := 0) rfl ?_
  refine ai_iconst (v := 0) dX0_clear_11 (by decide) ?_
  refine ai_putI dX0_clear_12 fdX0_34 pdX0_7 rfl rfl rfl rfl ?_
  exact ai_retv dX0_clear_15 rfl h
set_option maxHeartbeats 4000000 in
set_option maxRecDepth 100000 in
theorem vX0_isFrame {p1 : Int32} {S : ai_S} {V : ai_V} {G : Bool → ai_S → Prop}
    (h : (¬ p1 < 0 ∧ (¬ 31 ≤ p1 ∧ G true S))) :
    ai_met (uN l D ρ τ) d mX0_isFrame [.ref 10, .int p1] S V (ai_qz V G) := by
  refine ai_mof plX0 (Nat.le_of_ble_eq_true rfl) (lv := [(0, .ref 10), (1, .int p1)]) rfl ?_
  refine ai_iload_n dX0_isFrame_0 rfl (j := 1) rfl ?_
  have hr1 : ¬ p1 < 0 := h.1
  have h := h.2
  refine ai_if_lt (tgt := 14) dX0_isFrame_1 (by decide) ⟨fun hc => absurd hc hr1, fun _ => ?_⟩
  refine ai_iload_n dX0_isFrame_4 rfl (j := 1) rfl ?_
  refine ai_bipush (v := 31) dX0_isFrame_5 (by decide) ?_
  have hr2 : ¬ 31 ≤ p1 := h.1
  have h := h.2
  refine ai_icmp_ge (tgt := 14) dX0_isFrame_7 (by decide) ⟨fun hc => absurd hc hr2, fun _ => ?_⟩
  refine ai_iconst (v := 1) dX0_isFrame_10 (by decide) ?_
  refine ai_goto (tgt := 15) dX0_isFrame_11 (by decide) ?_
  exact ai_rett dX0_isFrame_15 rfl h
set_option maxHeartbeats 4000000 in
set_option maxRecDepth 100000 in
theorem vX0_addressOf {p1 : Int32} {p2 : Int32} {S : ai_S} {V : ai_V} {G : Int32 → ai_S → Prop}
    (h : G ((p1 * 31) + p2) S) :
    ai_met (uN l D ρ τ) d mX0_addressOf [.ref 10, .int p1, .int p2] S V (ai_qi V G) := by
  refine ai_mof plX0 (Nat.le_of_ble_eq_true rfl) (lv := [(0, .ref 10), (1, .int p1), (2, .int p2)]) rfl ?_
  refine ai_iload_n dX0_addressOf_0 rfl (j := 1) rfl ?_
  refine ai_bipush (v := 31) dX0_addressOf_1 (by decide) ?_
  refine ai_imul dX0_addressOf_3 ?_
  refine ai_iload_n dX0_addressOf_4 rfl (j := 2) rfl ?_
  refine ai_iadd dX0_addressOf_5 ?_
  exact ai_reti dX0_addressOf_6 rfl h
set_option maxHeartbeats 4000000 in
set_option maxRecDepth 100000 in
theorem vX0_valueAt {p1 : Int32} {S : ai_S} {V : ai_V} {G : Int32 → ai_S → Prop}
    (h : (¬ p1 < 0 ∧ (¬ 961 ≤ p1 ∧ (vp_in p1 961 ∧ G (S 11 (p1).toNatClampNeg) S)))) :
    ai_met (uN l D ρ τ) d mX0_valueAt [.ref 10, .int p1] S V (ai_qi V G) := by
  refine ai_mof plX0 (Nat.le_of_ble_eq_true rfl) (lv := [(0, .ref 10), (1, .int p1)]) rfl ?_
  refine ai_iload_n dX0_valueAt_0 rfl (j := 1) rfl ?_
  have hr1 : ¬ p1 < 0 := h.1
  have h := h.2
  refine ai_if_lt (tgt := 22) dX0_valueAt_1 (by decide) ⟨fun hc => absurd hc hr1, fun _ => ?_⟩
  refine ai_iload_n dX0_valueAt_4 rfl (j := 1) rfl ?_
  refine ai_aload_n dX0_valueAt_5 rfl (j := 0) rfl ?_
  refine ai_getR dX0_valueAt_6 fdX0_9 rfl rfl ?_
  refine ai_alen (v := 961) dX0_valueAt_9 rfl (by decide) (by decide) ?_
  have hr2 : ¬ 961 ≤ p1 := h.1
  have h := h.2
  refine ai_icmp_ge (tgt := 22) dX0_valueAt_10 (by decide) ⟨fun hc => absurd hc hr2, fun _ => ?_⟩
  refine ai_aload_n dX0_valueAt_13 rfl (j := 0) rfl ?_
  refine ai_getR dX0_valueAt_14 fdX0_9 rfl rfl ?_
  refine ai_iload_n dX0_valueAt_17 rfl (j := 1) rfl ?_
  refine ai_iald dX0_valueAt_18 rfl ⟨h.1, ?_⟩
  have hi3 := h.1
  have h := h.2
  refine ai_goto (tgt := 23) dX0_valueAt_19 (by decide) ?_
  exact ai_reti dX0_valueAt_23 rfl h
set_option maxHeartbeats 4000000 in
set_option maxRecDepth 100000 in
theorem vX0_setValue {p1 : Int32} {p2 : Int32} {S : ai_S} {V : ai_V} {G : ai_S → Prop}
    (h : (¬ p1 < 0 ∧ (¬ 961 ≤ p1 ∧ (vp_in p1 961 ∧ G (ai_up S 11 (p1).toNatClampNeg p2))))) :
    ai_met (uN l D ρ τ) d mX0_setValue [.ref 10, .int p1, .int p2] S V (ai_qv V G) := by
  refine ai_mof plX0 (Nat.le_of_ble_eq_true rfl) (lv := [(0, .ref 10), (1, .int p1), (2, .int p2)]) rfl ?_
  refine ai_iload_n dX0_setValue_0 rfl (j := 1) rfl ?_
  have hr1 : ¬ p1 < 0 := h.1
  have h := h.2
  refine ai_if_lt (tgt := 20) dX0_setValue_1 (by decide) ⟨fun hc => absurd hc hr1, fun _ => ?_⟩
  refine ai_iload_n dX0_setValue_4 rfl (j := 1) rfl ?_
  refine ai_aload_n dX0_setValue_5 rfl (j := 0) rfl ?_
  refine ai_getR dX0_setValue_6 fdX0_9 rfl rfl ?_
  refine ai_alen (v := 961) dX0_setValue_9 rfl (by decide) (by decide) ?_
  have hr2 : ¬ 961 ≤ p1 := h.1
  have h := h.2
  refine ai_icmp_ge (tgt := 20) dX0_setValue_10 (by decide) ⟨fun hc => absurd hc hr2, fun _ => ?_⟩
  refine ai_aload_n dX0_setValue_13 rfl (j := 0) rfl ?_
  refine ai_getR dX0_setValue_14 fdX0_9 rfl rfl ?_
  refine ai_iload_n dX0_setValue_17 rfl (j := 1) rfl ?_
  refine ai_iload_n dX0_setValue_18 rfl (j := 2) rfl ?_
  refine ai_iast dX0_setValue_19 rfl ⟨h.1, ?_⟩
  have hi3 := h.1
  have h := h.2
  exact ai_retv dX0_setValue_20 rfl h
set_option maxHeartbeats 4000000 in
set_option maxRecDepth 100000 in
theorem vX0_close {S : ai_S} {V : ai_V} {G : ai_S → Prop}
    (h : (¬ (S 10 5) ≤ 0 ∧ G (ai_up S 10 5 ((S 10 5) - 1)))) :
    ai_met (uN l D ρ τ) d mX0_close [.ref 10] S V (ai_qv V G) := by
  refine ai_mof plX0 (Nat.le_of_ble_eq_true rfl) (lv := [(0, .ref 10)]) rfl ?_
  refine ai_aload_n dX0_close_0 rfl (j := 0) rfl ?_
  refine ai_getI dX0_close_1 fdX0_27 rfl rfl ?_
  have hr1 : ¬ (S 10 5) ≤ 0 := h.1
  have h := h.2
  refine ai_if_le (tgt := 17) dX0_close_4 (by decide) ⟨fun hc => absurd hc hr1, fun _ => ?_⟩
  refine ai_aload_n dX0_close_7 rfl (j := 0) rfl ?_
  refine ai_dup dX0_close_8 rfl ?_
  refine ai_getI dX0_close_9 fdX0_27 rfl rfl ?_
  refine ai_iconst (v := 1) dX0_close_12 (by decide) ?_
  refine ai_isub dX0_close_13 ?_
  refine ai_putI dX0_close_14 fdX0_27 pdX0_5 rfl rfl rfl rfl ?_
  exact ai_retv dX0_close_17 rfl h
set_option maxHeartbeats 4000000 in
set_option maxRecDepth 100000 in
theorem vX0_callerOf {p1 : Int32} {S : ai_S} {V : ai_V} {G : Int32 → ai_S → Prop}
    (h : (¬ p1 < 0 ∧ (¬ 31 ≤ p1 ∧ (vp_in p1 31 ∧ G (S 13 (p1).toNatClampNeg) S)))) :
    ai_met (uN l D ρ τ) (d + 1) mX0_callerOf [.ref 10, .int p1] S V (ai_qi V G) := by
  refine ai_mof plX0 (Nat.le_of_ble_eq_true rfl) (lv := [(0, .ref 10), (1, .int p1)]) rfl ?_
  refine ai_aload_n dX0_callerOf_0 rfl (j := 0) rfl ?_
  refine ai_iload_n dX0_callerOf_1 rfl (j := 1) rfl ?_
  refine ai_callVz (As := [.int p1]) (rest := []) dX0_callerOf_2 cvX0_50 rfl rfl rfl (Nat.le_of_ble_eq_true rfl) (vX0_isFrame ?_)
  have hr1 : ¬ p1 < 0 := h.1
  have h := h.2
  refine ⟨hr1, ?_⟩
  have hr2 : ¬ 31 ≤ p1 := h.1
  have h := h.2
  refine ⟨hr2, ?_⟩
  refine ai_zt ?_
  refine ai_if_eq (tgt := 17) dX0_callerOf_5 (by decide) ⟨fun hc => absurd hc (by decide), fun _ => ?_⟩
  refine ai_aload_n dX0_callerOf_8 rfl (j := 0) rfl ?_
  refine ai_getR dX0_callerOf_9 fdX0_18 rfl rfl ?_
  refine ai_iload_n dX0_callerOf_12 rfl (j := 1) rfl ?_
  refine ai_iald dX0_callerOf_13 rfl ⟨h.1, ?_⟩
  have hi3 := h.1
  have h := h.2
  refine ai_goto (tgt := 18) dX0_callerOf_14 (by decide) ?_
  exact ai_reti dX0_callerOf_18 rfl h
set_option maxHeartbeats 4000000 in
set_option maxRecDepth 100000 in
theorem vX0_returnOf {p1 : Int32} {S : ai_S} {V : ai_V} {G : Int32 → ai_S → Prop}
    (h : (¬ p1 < 0 ∧ (¬ 31 ≤ p1 ∧ (vp_in p1 31 ∧ G (S 14 (p1).toNatClampNeg) S)))) :
    ai_met (uN l D ρ τ) (d + 1) mX0_returnOf [.ref 10, .int p1] S V (ai_qi V G) := by
  refine ai_mof plX0 (Nat.le_of_ble_eq_true rfl) (lv := [(0, .ref 10), (1, .int p1)]) rfl ?_
  refine ai_aload_n dX0_returnOf_0 rfl (j := 0) rfl ?_
  refine ai_iload_n dX0_returnOf_1 rfl (j := 1) rfl ?_
  refine ai_callVz (As := [.int p1]) (rest := []) dX0_returnOf_2 cvX0_50 rfl rfl rfl (Nat.le_of_ble_eq_true rfl) (vX0_isFrame ?_)
  have hr1 : ¬ p1 < 0 := h.1
  have h := h.2
  refine ⟨hr1, ?_⟩
  have hr2 : ¬ 31 ≤ p1 := h.1
  have h := h.2
  refine ⟨hr2, ?_⟩
  refine ai_zt ?_
  refine ai_if_eq (tgt := 17) dX0_returnOf_5 (by decide) ⟨fun hc => absurd hc (by decide), fun _ => ?_⟩
  refine ai_aload_n dX0_returnOf_8 rfl (j := 0) rfl ?_
  refine ai_getR dX0_returnOf_9 fdX0_21 rfl rfl ?_
  refine ai_iload_n dX0_returnOf_12 rfl (j := 1) rfl ?_
  refine ai_iald dX0_returnOf_13 rfl ⟨h.1, ?_⟩
  have hi3 := h.1
  have h := h.2
  refine ai_goto (tgt := 18) dX0_returnOf_14 (by decide) ?_
  exact ai_reti dX0_returnOf_18 rfl h
set_option maxHeartbeats 4000000 in
set_option maxRecDepth 100000 in
theorem vX0_setTarget {p1 : Int32} {p2 : Int32} {S : ai_S} {V : ai_V} {G : ai_S → Prop}
    (h : (¬ p1 < 0 ∧ (¬ 31 ≤ p1 ∧ (vp_in p1 31 ∧ G (ai_up S 15 (p1).toNatClampNeg p2))))) :
    ai_met (uN l D ρ τ) (d + 1) mX0_setTarget [.ref 10, .int p1, .int p2] S V (ai_qv V G) := by
  refine ai_mof plX0 (Nat.le_of_ble_eq_true rfl) (lv := [(0, .ref 10), (1, .int p1), (2, .int p2)]) rfl ?_
  refine ai_aload_n dX0_setTarget_0 rfl (j := 0) rfl ?_
  refine ai_iload_n dX0_setTarget_1 rfl (j := 1) rfl ?_
  refine ai_callVz (As := [.int p1]) (rest := []) dX0_setTarget_2 cvX0_50 rfl rfl rfl (Nat.le_of_ble_eq_true rfl) (vX0_isFrame ?_)
  have hr1 : ¬ p1 < 0 := h.1
  have h := h.2
  refine ⟨hr1, ?_⟩
  have hr2 : ¬ 31 ≤ p1 := h.1
  have h := h.2
  refine ⟨hr2, ?_⟩
  refine ai_zt ?_
  refine ai_if_eq (tgt := 15) dX0_setTarget_5 (by decide) ⟨fun hc => absurd hc (by decide), fun _ => ?_⟩
  refine ai_aload_n dX0_setTarget_8 rfl (j := 0) rfl ?_
  refine ai_getR dX0_setTarget_9 fdX0_24 rfl rfl ?_
  refine ai_iload_n dX0_setTarget_12 rfl (j := 1) rfl ?_
  refine ai_iload_n dX0_setTarget_13 rfl (j := 2) rfl ?_
  refine ai_iast dX0_setTarget_14 rfl ⟨h.1, ?_⟩
  have hi3 := h.1
  have h := h.2
  exact ai_retv dX0_setTarget_15 rfl h
set_option maxHeartbeats 4000000 in
set_option maxRecDepth 100000 in
theorem vX0_targetOf {p1 : Int32} {S : ai_S} {V : ai_V} {G : Int32 → ai_S → Prop}
    (h : (¬ p1 < 0 ∧ (¬ 31 ≤ p1 ∧ (vp_in p1 31 ∧ G (S 15 (p1).toNatClampNeg) S)))) :
    ai_met (uN l D ρ τ) (d + 1) mX0_targetOf [.ref 10, .int p1] S V (ai_qi V G) := by
  refine ai_mof plX0 (Nat.le_of_ble_eq_true rfl) (lv := [(0, .ref 10), (1, .int p1)]) rfl ?_
  refine ai_aload_n dX0_targetOf_0 rfl (j := 0) rfl ?_
  refine ai_iload_n dX0_targetOf_1 rfl (j := 1) rfl ?_
  refine ai_callVz (As := [.int p1]) (rest := []) dX0_targetOf_2 cvX0_50 rfl rfl rfl (Nat.le_of_ble_eq_true rfl) (vX0_isFrame ?_)
  have hr1 : ¬ p1 < 0 := h.1
  have h := h.2
  refine ⟨hr1, ?_⟩
  have hr2 : ¬ 31 ≤ p1 := h.1
  have h := h.2
  refine ⟨hr2, ?_⟩
  refine ai_zt ?_
  refine ai_if_eq (tgt := 17) dX0_targetOf_5 (by decide) ⟨fun hc => absurd hc (by decide), fun _ => ?_⟩
  refine ai_aload_n dX0_targetOf_8 rfl (j := 0) rfl ?_
  refine ai_getR dX0_targetOf_9 fdX0_24 rfl rfl ?_
  refine ai_iload_n dX0_targetOf_12 rfl (j := 1) rfl ?_
  refine ai_iald dX0_targetOf_13 rfl ⟨h.1, ?_⟩
  have hi3 := h.1
  have h := h.2
  refine ai_goto (tgt := 18) dX0_targetOf_14 (by decide) ?_
  exact ai_reti dX0_targetOf_18 rfl h
set_option maxHeartbeats 4000000 in
set_option maxRecDepth 100000 in
theorem vX0_open {p1 : Int32} {p2 : Int32} {p3 : Int32} {S : ai_S} {V : ai_V} {G : ai_S → Prop}
    (h : (¬ (S 10 5) < 0 ∧ ((S 10 5) < 30 ∧ (vp_in ((S 10 5) + 1) 31 ∧ (¬ ((((S 10 5) + 1) * 31) + 0) < 0 ∧ (¬ 961 ≤ ((((S 10 5) + 1) * 31) + 0) ∧ (vp_in ((((S 10 5) + 1) * 31) + 0) 961 ∧ G (ai_up (ai_up (ai_up (ai_up (ai_up (ai_up (ai_up S 10 5 ((S 10 5) + 1)) 10 7 ((S 10 7) + 1)) 10 6 (if (S 10 6) < ((S 10 5) + 1) then ((S 10 5) + 1) else (S 10 6))) 12 (((S 10 5) + 1)).toNatClampNeg p1) 13 (((S 10 5) + 1)).toNatClampNeg p2) 14 (((S 10 5) + 1)).toNatClampNeg p3) 11 (((((S 10 5) + 1) * 31) + 0)).toNatClampNeg 0)))))))) :
    ai_met (uN l D ρ τ) (d + 1) mX0_open [.ref 10, .int p1, .int p2, .int p3] S V (ai_qv V G) := by
  refine ai_mof plX0 (Nat.le_of_ble_eq_true rfl) (lv := [(0, .ref 10), (1, .int p1), (2, .int p2), (3, .int p3)]) rfl ?_
  refine ai_aload_n dX0_open_0 rfl (j := 0) rfl ?_
  refine ai_getI dX0_open_1 fdX0_27 rfl rfl ?_
  have hr1 : ¬ (S 10 5) < 0 := h.1
  have h := h.2
  refine ai_if_lt (tgt := 16) dX0_open_4 (by decide) ⟨fun hc => absurd hc hr1, fun _ => ?_⟩
  refine ai_aload_n dX0_open_7 rfl (j := 0) rfl ?_
  refine ai_getI dX0_open_8 fdX0_27 rfl rfl ?_
  refine ai_bipush (v := 30) dX0_open_11 (by decide) ?_
  have hr2 : (S 10 5) < 30 := h.1
  have h := h.2
  refine ai_icmp_lt (tgt := 17) dX0_open_13 (by decide) ⟨fun _ => ?_, fun hc => absurd hr2 hc⟩
  refine ai_aload_n dX0_open_17 rfl (j := 0) rfl ?_
  refine ai_dup dX0_open_18 rfl ?_
  refine ai_getI dX0_open_19 fdX0_27 rfl rfl ?_
  refine ai_iconst (v := 1) dX0_open_22 (by decide) ?_
  refine ai_iadd dX0_open_23 ?_
  refine ai_putI dX0_open_24 fdX0_27 pdX0_5 rfl rfl rfl rfl ?_
  refine ai_aload_n dX0_open_27 rfl (j := 0) rfl ?_
  refine ai_dup dX0_open_28 rfl ?_
  refine ai_getIx (S 10 7) dX0_open_29 fdX0_34 rfl rfl rfl ?_
  refine ai_iconst (v := 1) dX0_open_32 (by decide) ?_
  refine ai_iadd dX0_open_33 ?_
  refine ai_putI dX0_open_34 fdX0_34 pdX0_7 rfl rfl rfl rfl ?_
  refine ai_aload_n dX0_open_37 rfl (j := 0) rfl ?_
  refine ai_aload_n dX0_open_38 rfl (j := 0) rfl ?_
  refine ai_getIx (S 10 6) dX0_open_39 fdX0_31 rfl rfl rfl ?_
  refine ai_aload_n dX0_open_42 rfl (j := 0) rfl ?_
  refine ai_getIx ((S 10 5) + 1) dX0_open_43 fdX0_27 rfl rfl rfl ?_
  refine ai_mmax dX0_open_46 cxX0_37 (Nat.le_of_ble_eq_true rfl) ?_
  refine ai_putI dX0_open_49 fdX0_31 pdX0_6 rfl rfl rfl rfl ?_
  refine ai_aload_n dX0_open_52 rfl (j := 0) rfl ?_
  refine ai_getR dX0_open_53 fdX0_15 rfl rfl ?_
  refine ai_aload_n dX0_open_56 rfl (j := 0) rfl ?_
  refine ai_getIx ((S 10 5) + 1) dX0_open_57 fdX0_27 rfl rfl rfl ?_
  refine ai_iload_n dX0_open_60 rfl (j := 1) rfl ?_
  refine ai_iast dX0_open_61 rfl ⟨h.1, ?_⟩
  have hi3 := h.1
  have h := h.2
  refine ai_aload_n dX0_open_62 rfl (j := 0) rfl ?_
  refine ai_getR dX0_open_63 fdX0_18 rfl rfl ?_
  refine ai_aload_n dX0_open_66 rfl (j := 0) rfl ?_
  refine ai_getIx ((S 10 5) + 1) dX0_open_67 fdX0_27 rfl rfl rfl ?_
  refine ai_iload_n dX0_open_70 rfl (j := 2) rfl ?_
  refine ai_iast dX0_open_71 rfl ⟨hi3, ?_⟩
  refine ai_aload_n dX0_open_72 rfl (j := 0) rfl ?_
  refine ai_getR dX0_open_73 fdX0_21 rfl rfl ?_
  refine ai_aload_n dX0_open_76 rfl (j := 0) rfl ?_
  refine ai_getIx ((S 10 5) + 1) dX0_open_77 fdX0_27 rfl rfl rfl ?_
  refine ai_iload_n dX0_open_80 rfl (j := 3) rfl ?_
  refine ai_iast dX0_open_81 rfl ⟨hi3, ?_⟩
  refine ai_aload_n dX0_open_82 rfl (j := 0) rfl ?_
  refine ai_aload_n dX0_open_83 rfl (j := 0) rfl ?_
  refine ai_aload_n dX0_open_84 rfl (j := 0) rfl ?_
  refine ai_getIx ((S 10 5) + 1) dX0_open_85 fdX0_27 rfl rfl rfl ?_
  refine ai_iconst (v := 0) dX0_open_88 (by decide) ?_
  refine ai_callVi (As := [.int ((S 10 5) + 1), .int 0]) (rest := [.ref 10]) dX0_open_89 cvX0_43 rfl rfl rfl (Nat.le_of_ble_eq_true rfl) (vX0_addressOf ?_)
  show ai_W _ _ _ _ _ (.int ((((S 10 5) + 1) * 31) + 0) :: _) (ai_up (ai_up (ai_up (ai_up (ai_up (ai_up S 10 5 ((S 10 5) + 1)) 10 7 ((S 10 7) + 1)) 10 6 (if (S 10 6) < ((S 10 5) + 1) then ((S 10 5) + 1) else (S 10 6))) 12 (((S 10 5) + 1)).toNatClampNeg p1) 13 (((S 10 5) + 1)).toNatClampNeg p2) 14 (((S 10 5) + 1)).toNatClampNeg p3) _ _
  refine ai_iconst (v := 0) dX0_open_92 (by decide) ?_
  refine ai_callVv (As := [.int ((((S 10 5) + 1) * 31) + 0), .int 0]) (rest := []) dX0_open_93 cvX0_46 rfl rfl rfl (Nat.le_of_ble_eq_true rfl) (vX0_setValue ?_)
  have hr4 : ¬ ((((S 10 5) + 1) * 31) + 0) < 0 := h.1
  have h := h.2
  refine ⟨hr4, ?_⟩
  have hr5 : ¬ 961 ≤ ((((S 10 5) + 1) * 31) + 0) := h.1
  have h := h.2
  refine ⟨hr5, ?_⟩
  refine ⟨h.1, ?_⟩
  have hi6 := h.1
  have h := h.2
  show ai_W _ _ _ _ _ _ (ai_up (ai_up (ai_up (ai_up (ai_up (ai_up (ai_up S 10 5 ((S 10 5) + 1)) 10 7 ((S 10 7) + 1)) 10 6 (if (S 10 6) < ((S 10 5) + 1) then ((S 10 5) + 1) else (S 10 6))) 12 (((S 10 5) + 1)).toNatClampNeg p1) 13 (((S 10 5) + 1)).toNatClampNeg p2) 14 (((S 10 5) + 1)).toNatClampNeg p3) 11 (((((S 10 5) + 1) * 31) + 0)).toNatClampNeg 0) _ _
  exact ai_retv dX0_open_96 rfl h
set_option maxHeartbeats 4000000 in
set_option maxRecDepth 100000 in
theorem vX2_isPlace {p1 : Int32} {S : ai_S} {V : ai_V} {G : Bool → ai_S → Prop}
    (h : ((p1 < 0 → G false S) ∧ (¬ p1 < 0 → (¬ (S 20 3) ≤ p1 ∧ (¬ 488 ≤ p1 ∧ G true S))))) :
    ai_met (uN l D ρ τ) d mX2_isPlace [.ref 20, .int p1] S V (ai_qz V G) := by
  refine ai_mof plX2 (Nat.le_of_ble_eq_true rfl) (lv := [(0, .ref 20), (1, .int p1)]) rfl ?_
  refine ai_iload_n dX2_isPlace_0 rfl (j := 1) rfl ?_
  refine ai_if_lt (tgt := 23) dX2_isPlace_1 (by decide) ⟨fun (hc1 : p1 < 0) => ?_, fun (hc1 : ¬ p1 < 0) => ?_⟩
  · have h := h.1 hc1
    refine ai_iconst (v := 0) dX2_isPlace_23 (by decide) ?_
    exact ai_retf dX2_isPlace_24 rfl h
  · have h := h.2 hc1
    refine ai_iload_n dX2_isPlace_4 rfl (j := 1) rfl ?_
    refine ai_aload_n dX2_isPlace_5 rfl (j := 0) rfl ?_
    refine ai_getI dX2_isPlace_6 fdX2_27 rfl rfl ?_
    have hr2 : ¬ (S 20 3) ≤ p1 := h.1
    have h := h.2
    refine ai_icmp_ge (tgt := 23) dX2_isPlace_9 (by decide) ⟨fun hc => absurd hc hr2, fun _ => ?_⟩
    refine ai_iload_n dX2_isPlace_12 rfl (j := 1) rfl ?_
    refine ai_sipush (v := 488) dX2_isPlace_13 (by decide) ?_
    have hr3 : ¬ 488 ≤ p1 := h.1
    have h := h.2
    refine ai_icmp_ge (tgt := 23) dX2_isPlace_16 (by decide) ⟨fun hc => absurd hc hr3, fun _ => ?_⟩
    refine ai_iconst (v := 1) dX2_isPlace_19 (by decide) ?_
    refine ai_goto (tgt := 24) dX2_isPlace_20 (by decide) ?_
    exact ai_rett dX2_isPlace_24 rfl h
set_option maxHeartbeats 4000000 in
set_option maxRecDepth 100000 in
theorem vX2_isProcedure {p1 : Int32} {S : ai_S} {V : ai_V} {G : Bool → ai_S → Prop}
    (h : (¬ p1 < 0 ∧ (¬ (S 20 6) ≤ p1 ∧ (¬ 16 ≤ p1 ∧ G true S)))) :
    ai_met (uN l D ρ τ) d mX2_isProcedure [.ref 20, .int p1] S V (ai_qz V G) := by
  refine ai_mof plX2 (Nat.le_of_ble_eq_true rfl) (lv := [(0, .ref 20), (1, .int p1)]) rfl ?_
  refine ai_iload_n dX2_isProcedure_0 rfl (j := 1) rfl ?_
  have hr1 : ¬ p1 < 0 := h.1
  have h := h.2
  refine ai_if_lt (tgt := 22) dX2_isProcedure_1 (by decide) ⟨fun hc => absurd hc hr1, fun _ => ?_⟩
  refine ai_iload_n dX2_isProcedure_4 rfl (j := 1) rfl ?_
  refine ai_aload_n dX2_isProcedure_5 rfl (j := 0) rfl ?_
  refine ai_getI dX2_isProcedure_6 fdX2_31 rfl rfl ?_
  have hr2 : ¬ (S 20 6) ≤ p1 := h.1
  have h := h.2
  refine ai_icmp_ge (tgt := 22) dX2_isProcedure_9 (by decide) ⟨fun hc => absurd hc hr2, fun _ => ?_⟩
  refine ai_iload_n dX2_isProcedure_12 rfl (j := 1) rfl ?_
  refine ai_bipush (v := 16) dX2_isProcedure_13 (by decide) ?_
  have hr3 : ¬ 16 ≤ p1 := h.1
  have h := h.2
  refine ai_icmp_ge (tgt := 22) dX2_isProcedure_15 (by decide) ⟨fun hc => absurd hc hr3, fun _ => ?_⟩
  refine ai_iconst (v := 1) dX2_isProcedure_18 (by decide) ?_
  refine ai_goto (tgt := 23) dX2_isProcedure_19 (by decide) ?_
  exact ai_rett dX2_isProcedure_23 rfl h
set_option maxHeartbeats 4000000 in
set_option maxRecDepth 100000 in
theorem vX2_opAt {p1 : Int32} {S : ai_S} {V : ai_V} {G : Int32 → ai_S → Prop}
    (h : ((p1 < 0 → G 0 S) ∧ (¬ p1 < 0 → (¬ (S 20 3) ≤ p1 ∧ (¬ 488 ≤ p1 ∧ (vp_in p1 488 ∧ G (S 21 (p1).toNatClampNeg) S)))))) :
    ai_met (uN l D ρ τ) (d + 1) mX2_opAt [.ref 20, .int p1] S V (ai_qi V G) := by
  refine ai_mof plX2 (Nat.le_of_ble_eq_true rfl) (lv := [(0, .ref 20), (1, .int p1)]) rfl ?_
  refine ai_aload_n dX2_opAt_0 rfl (j := 0) rfl ?_
  refine ai_iload_n dX2_opAt_1 rfl (j := 1) rfl ?_
  refine ai_callVz (As := [.int p1]) (rest := []) dX2_opAt_2 cvX2_43 rfl rfl rfl (Nat.le_of_ble_eq_true rfl) (vX2_isPlace ?_)
  refine ⟨fun (hc1 : p1 < 0) => ?_, fun (hc1 : ¬ p1 < 0) => ?_⟩
  · have h := h.1 hc1
    refine ai_zf ?_
    refine ai_if_eq (tgt := 17) dX2_opAt_5 (by decide) ⟨fun _ => ?_, fun hc => absurd hc (by decide)⟩
    refine ai_iconst (v := 0) dX2_opAt_17 (by decide) ?_
    exact ai_reti dX2_opAt_18 rfl h
  · have h := h.2 hc1
    have hr2 : ¬ (S 20 3) ≤ p1 := h.1
    have h := h.2
    refine ⟨hr2, ?_⟩
    have hr3 : ¬ 488 ≤ p1 := h.1
    have h := h.2
    refine ⟨hr3, ?_⟩
    refine ai_zt ?_
    refine ai_if_eq (tgt := 17) dX2_opAt_5 (by decide) ⟨fun hc => absurd hc (by decide), fun _ => ?_⟩
    refine ai_aload_n dX2_opAt_8 rfl (j := 0) rfl ?_
    refine ai_getR dX2_opAt_9 fdX2_9 rfl rfl ?_
    refine ai_iload_n dX2_opAt_12 rfl (j := 1) rfl ?_
    refine ai_iald dX2_opAt_13 rfl ⟨h.1, ?_⟩
    have hi4 := h.1
    have h := h.2
    refine ai_goto (tgt := 18) dX2_opAt_14 (by decide) ?_
    exact ai_reti dX2_opAt_18 rfl h
set_option maxHeartbeats 4000000 in
set_option maxRecDepth 100000 in
theorem vX2_firstAt {p1 : Int32} {S : ai_S} {V : ai_V} {G : Int32 → ai_S → Prop}
    (h : ((p1 < 0 → G 0 S) ∧ (¬ p1 < 0 → (¬ (S 20 3) ≤ p1 ∧ (¬ 488 ≤ p1 ∧ (vp_in p1 488 ∧ G (S 22 (p1).toNatClampNeg) S)))))) :
    ai_met (uN l D ρ τ) (d + 1) mX2_firstAt [.ref 20, .int p1] S V (ai_qi V G) := by
  refine ai_mof plX2 (Nat.le_of_ble_eq_true rfl) (lv := [(0, .ref 20), (1, .int p1)]) rfl ?_
  refine ai_aload_n dX2_firstAt_0 rfl (j := 0) rfl ?_
  refine ai_iload_n dX2_firstAt_1 rfl (j := 1) rfl ?_
  refine ai_callVz (As := [.int p1]) (rest := []) dX2_firstAt_2 cvX2_43 rfl rfl rfl (Nat.le_of_ble_eq_true rfl) (vX2_isPlace ?_)
  refine ⟨fun (hc1 : p1 < 0) => ?_, fun (hc1 : ¬ p1 < 0) => ?_⟩
  · have h := h.1 hc1
    refine ai_zf ?_
    refine ai_if_eq (tgt := 17) dX2_firstAt_5 (by decide) ⟨fun _ => ?_, fun hc => absurd hc (by decide)⟩
    refine ai_iconst (v := 0) dX2_firstAt_17 (by decide) ?_
    exact ai_reti dX2_firstAt_18 rfl h
  · have h := h.2 hc1
    have hr2 : ¬ (S 20 3) ≤ p1 := h.1
    have h := h.2
    refine ⟨hr2, ?_⟩
    have hr3 : ¬ 488 ≤ p1 := h.1
    have h := h.2
    refine ⟨hr3, ?_⟩
    refine ai_zt ?_
    refine ai_if_eq (tgt := 17) dX2_firstAt_5 (by decide) ⟨fun hc => absurd hc (by decide), fun _ => ?_⟩
    refine ai_aload_n dX2_firstAt_8 rfl (j := 0) rfl ?_
    refine ai_getR dX2_firstAt_9 fdX2_15 rfl rfl ?_
    refine ai_iload_n dX2_firstAt_12 rfl (j := 1) rfl ?_
    refine ai_iald dX2_firstAt_13 rfl ⟨h.1, ?_⟩
    have hi4 := h.1
    have h := h.2
    refine ai_goto (tgt := 18) dX2_firstAt_14 (by decide) ?_
    exact ai_reti dX2_firstAt_18 rfl h
set_option maxHeartbeats 4000000 in
set_option maxRecDepth 100000 in
theorem vX2_secondAt {p1 : Int32} {S : ai_S} {V : ai_V} {G : Int32 → ai_S → Prop}
    (h : ((p1 < 0 → G 0 S) ∧ (¬ p1 < 0 → (¬ (S 20 3) ≤ p1 ∧ (¬ 488 ≤ p1 ∧ (vp_in p1 488 ∧ G (S 23 (p1).toNatClampNeg) S)))))) :
    ai_met (uN l D ρ τ) (d + 1) mX2_secondAt [.ref 20, .int p1] S V (ai_qi V G) := by
  refine ai_mof plX2 (Nat.le_of_ble_eq_true rfl) (lv := [(0, .ref 20), (1, .int p1)]) rfl ?_
  refine ai_aload_n dX2_secondAt_0 rfl (j := 0) rfl ?_
  refine ai_iload_n dX2_secondAt_1 rfl (j := 1) rfl ?_
  refine ai_callVz (As := [.int p1]) (rest := []) dX2_secondAt_2 cvX2_43 rfl rfl rfl (Nat.le_of_ble_eq_true rfl) (vX2_isPlace ?_)
  refine ⟨fun (hc1 : p1 < 0) => ?_, fun (hc1 : ¬ p1 < 0) => ?_⟩
  · have h := h.1 hc1
    refine ai_zf ?_
    refine ai_if_eq (tgt := 17) dX2_secondAt_5 (by decide) ⟨fun _ => ?_, fun hc => absurd hc (by decide)⟩
    refine ai_iconst (v := 0) dX2_secondAt_17 (by decide) ?_
    exact ai_reti dX2_secondAt_18 rfl h
  · have h := h.2 hc1
    have hr2 : ¬ (S 20 3) ≤ p1 := h.1
    have h := h.2
    refine ⟨hr2, ?_⟩
    have hr3 : ¬ 488 ≤ p1 := h.1
    have h := h.2
    refine ⟨hr3, ?_⟩
    refine ai_zt ?_
    refine ai_if_eq (tgt := 17) dX2_secondAt_5 (by decide) ⟨fun hc => absurd hc (by decide), fun _ => ?_⟩
    refine ai_aload_n dX2_secondAt_8 rfl (j := 0) rfl ?_
    refine ai_getR dX2_secondAt_9 fdX2_18 rfl rfl ?_
    refine ai_iload_n dX2_secondAt_12 rfl (j := 1) rfl ?_
    refine ai_iald dX2_secondAt_13 rfl ⟨h.1, ?_⟩
    have hi4 := h.1
    have h := h.2
    refine ai_goto (tgt := 18) dX2_secondAt_14 (by decide) ?_
    exact ai_reti dX2_secondAt_18 rfl h
set_option maxHeartbeats 4000000 in
set_option maxRecDepth 100000 in
theorem vX2_isActual {p1 : Int32} {S : ai_S} {V : ai_V} {G : Bool → ai_S → Prop}
    (h : ((p1 < 0 → G false S) ∧ (¬ p1 < 0 → (¬ (S 20 3) ≤ p1 ∧ (¬ 488 ≤ p1 ∧ (vp_in p1 488 ∧ (((S 21 (p1).toNatClampNeg) = 23 → G true S) ∧ (¬ (S 21 (p1).toNatClampNeg) = 23 → ((¬ (S 21 (p1).toNatClampNeg) = 24 → G false S) ∧ ((S 21 (p1).toNatClampNeg) = 24 → G true S)))))))))) :
    ai_met (uN l D ρ τ) (d + 1) mX2_isActual [.ref 20, .int p1] S V (ai_qz V G) := by
  refine ai_mof plX2 (Nat.le_of_ble_eq_true rfl) (lv := [(0, .ref 20), (1, .int p1)]) rfl ?_
  refine ai_aload_n dX2_isActual_0 rfl (j := 0) rfl ?_
  refine ai_iload_n dX2_isActual_1 rfl (j := 1) rfl ?_
  refine ai_callVz (As := [.int p1]) (rest := []) dX2_isActual_2 cvX2_43 rfl rfl rfl (Nat.le_of_ble_eq_true rfl) (vX2_isPlace ?_)
  refine ⟨fun (hc1 : p1 < 0) => ?_, fun (hc1 : ¬ p1 < 0) => ?_⟩
  · have h := h.1 hc1
    refine ai_zf ?_
    refine ai_if_eq (tgt := 34) dX2_isActual_5 (by decide) ⟨fun _ => ?_, fun hc => absurd hc (by decide)⟩
    refine ai_iconst (v := 0) dX2_isActual_34 (by decide) ?_
    exact ai_retf dX2_isActual_35 rfl h
  · have h := h.2 hc1
    have hr2 : ¬ (S 20 3) ≤ p1 := h.1
    have h := h.2
    refine ⟨hr2, ?_⟩
    have hr3 : ¬ 488 ≤ p1 := h.1
    have h := h.2
    refine ⟨hr3, ?_⟩
    refine ai_zt ?_
    refine ai_if_eq (tgt := 34) dX2_isActual_5 (by decide) ⟨fun hc => absurd hc (by decide), fun _ => ?_⟩
    refine ai_aload_n dX2_isActual_8 rfl (j := 0) rfl ?_
    refine ai_getR dX2_isActual_9 fdX2_9 rfl rfl ?_
    refine ai_iload_n dX2_isActual_12 rfl (j := 1) rfl ?_
    refine ai_iald dX2_isActual_13 rfl ⟨h.1, ?_⟩
    have hi4 := h.1
    have h := h.2
    refine ai_bipush (v := 23) dX2_isActual_14 (by decide) ?_
    refine ai_icmp_eq (tgt := 30) dX2_isActual_16 (by decide) ⟨fun (hc5 : (S 21 (p1).toNatClampNeg) = 23) => ?_, fun (hc5 : ¬ (S 21 (p1).toNatClampNeg) = 23) => ?_⟩
    · have h := h.1 hc5
      refine ai_iconst (v := 1) dX2_isActual_30 (by decide) ?_
      refine ai_goto (tgt := 35) dX2_isActual_31 (by decide) ?_
      exact ai_rett dX2_isActual_35 rfl h
    · have h := h.2 hc5
      refine ai_aload_n dX2_isActual_19 rfl (j := 0) rfl ?_
      refine ai_getR dX2_isActual_20 fdX2_9 rfl rfl ?_
      refine ai_iload_n dX2_isActual_23 rfl (j := 1) rfl ?_
      refine ai_iald dX2_isActual_24 rfl ⟨hi4, ?_⟩
      refine ai_bipush (v := 24) dX2_isActual_25 (by decide) ?_
      refine ai_icmp_ne (tgt := 34) dX2_isActual_27 (by decide) ⟨fun (hc6 : ¬ (S 21 (p1).toNatClampNeg) = 24) => ?_, fun (hc6 : (S 21 (p1).toNatClampNeg) = 24) => ?_⟩
      · have h := h.1 hc6
        refine ai_iconst (v := 0) dX2_isActual_34 (by decide) ?_
        exact ai_retf dX2_isActual_35 rfl h
      · have h := h.2 hc6
        refine ai_iconst (v := 1) dX2_isActual_30 (by decide) ?_
        refine ai_goto (tgt := 35) dX2_isActual_31 (by decide) ?_
        exact ai_rett dX2_isActual_35 rfl h
set_option maxHeartbeats 4000000 in
set_option maxRecDepth 100000 in
theorem vX2_formalCountOf {p1 : Int32} {S : ai_S} {V : ai_V} {G : Int32 → ai_S → Prop}
    (h : (¬ p1 < 0 ∧ (¬ (S 20 6) ≤ p1 ∧ (¬ 16 ≤ p1 ∧ (vp_in p1 16 ∧ G (S 25 (p1).toNatClampNeg) S))))) :
    ai_met (uN l D ρ τ) (d + 1) mX2_formalCountOf [.ref 20, .int p1] S V (ai_qi V G) := by
  refine ai_mof plX2 (Nat.le_of_ble_eq_true rfl) (lv := [(0, .ref 20), (1, .int p1)]) rfl ?_
  refine ai_aload_n dX2_formalCountOf_0 rfl (j := 0) rfl ?_
  refine ai_iload_n dX2_formalCountOf_1 rfl (j := 1) rfl ?_
  refine ai_callVz (As := [.int p1]) (rest := []) dX2_formalCountOf_2 cvX2_47 rfl rfl rfl (Nat.le_of_ble_eq_true rfl) (vX2_isProcedure ?_)
  have hr1 : ¬ p1 < 0 := h.1
  have h := h.2
  refine ⟨hr1, ?_⟩
  have hr2 : ¬ (S 20 6) ≤ p1 := h.1
  have h := h.2
  refine ⟨hr2, ?_⟩
  have hr3 : ¬ 16 ≤ p1 := h.1
  have h := h.2
  refine ⟨hr3, ?_⟩
  refine ai_zt ?_
  refine ai_if_eq (tgt := 17) dX2_formalCountOf_5 (by decide) ⟨fun hc => absurd hc (by decide), fun _ => ?_⟩
  refine ai_aload_n dX2_formalCountOf_8 rfl (j := 0) rfl ?_
  refine ai_getR dX2_formalCountOf_9 fdX2_24 rfl rfl ?_
  refine ai_iload_n dX2_formalCountOf_12 rfl (j := 1) rfl ?_
  refine ai_iald dX2_formalCountOf_13 rfl ⟨h.1, ?_⟩
  have hi4 := h.1
  have h := h.2
  refine ai_goto (tgt := 18) dX2_formalCountOf_14 (by decide) ?_
  exact ai_reti dX2_formalCountOf_18 rfl h
set_option maxHeartbeats 4000000 in
set_option maxRecDepth 100000 in
theorem vX2_startOf {p1 : Int32} {S : ai_S} {V : ai_V} {G : Int32 → ai_S → Prop}
    (h : (¬ p1 < 0 ∧ (¬ (S 20 6) ≤ p1 ∧ (¬ 16 ≤ p1 ∧ (vp_in p1 16 ∧ G (S 24 (p1).toNatClampNeg) S))))) :
    ai_met (uN l D ρ τ) (d + 1) mX2_startOf [.ref 20, .int p1] S V (ai_qi V G) := by
  refine ai_mof plX2 (Nat.le_of_ble_eq_true rfl) (lv := [(0, .ref 20), (1, .int p1)]) rfl ?_
  refine ai_aload_n dX2_startOf_0 rfl (j := 0) rfl ?_
  refine ai_iload_n dX2_startOf_1 rfl (j := 1) rfl ?_
  refine ai_callVz (As := [.int p1]) (rest := []) dX2_startOf_2 cvX2_47 rfl rfl rfl (Nat.le_of_ble_eq_true rfl) (vX2_isProcedure ?_)
  have hr1 : ¬ p1 < 0 := h.1
  have h := h.2
  refine ⟨hr1, ?_⟩
  have hr2 : ¬ (S 20 6) ≤ p1 := h.1
  have h := h.2
  refine ⟨hr2, ?_⟩
  have hr3 : ¬ 16 ≤ p1 := h.1
  have h := h.2
  refine ⟨hr3, ?_⟩
  refine ai_zt ?_
  refine ai_if_eq (tgt := 17) dX2_startOf_5 (by decide) ⟨fun hc => absurd hc (by decide), fun _ => ?_⟩
  refine ai_aload_n dX2_startOf_8 rfl (j := 0) rfl ?_
  refine ai_getR dX2_startOf_9 fdX2_21 rfl rfl ?_
  refine ai_iload_n dX2_startOf_12 rfl (j := 1) rfl ?_
  refine ai_iald dX2_startOf_13 rfl ⟨h.1, ?_⟩
  have hi4 := h.1
  have h := h.2
  refine ai_goto (tgt := 21) dX2_startOf_14 (by decide) ?_
  exact ai_reti dX2_startOf_21 rfl h
set_option maxHeartbeats 4000000 in
set_option maxRecDepth 100000 in
theorem vX2_clear_r {S : ai_S} {V : ai_V} {G : ai_S → Prop}
    (h : G (ai_up (ai_up (ai_up (ai_up (ai_up S 26 3 0) 26 6 0) 26 7 0) 26 8 0) 26 9 0)) :
    ai_met (uC l D ρ τ) d mX2_clear [.ref 26] S V (ai_qv V G) := by
  refine ai_mof plX2 (Nat.le_of_ble_eq_true rfl) (lv := [(0, .ref 26)]) rfl ?_
  refine ai_aload_n dX2_clear_0 rfl (j := 0) rfl ?_
  refine ai_iconst (v := 0) dX2_clear_1 (by decide) ?_
  refine ai_putI dX2_clear_2 fdX2_27 pdX2_3 rfl rfl rfl rfl ?_
  refine ai_aload_n dX2_clear_5 rfl (j := 0) rfl ?_
  refine ai_iconst (v := 0) dX2_clear_6 (by decide) ?_
  refine ai_putI dX2_clear_7 fdX2_31 pdX2_6 rfl rfl rfl rfl ?_
  refine ai_aload_n dX2_clear_10 rfl (j := 0) rfl ?_
  refine ai_iconst (v := 0) dX2_clear_11 (by decide) ?_
  refine ai_putI dX2_clear_12 fdX2_34 pdX2_7 rfl rfl rfl rfl ?_
  refine ai_aload_n dX2_clear_15 rfl (j := 0) rfl ?_
  refine ai_iconst (v := 0) dX2_clear_16 (by decide) ?_
  refine ai_putI dX2_clear_17 fdX2_37 pdX2_8 rfl rfl rfl rfl ?_
  refine ai_aload_n dX2_clear_20 rfl (j := 0) rfl ?_
  refine ai_iconst (v := 0) dX2_clear_21 (by decide) ?_
  refine ai_putI dX2_clear_22 fdX2_40 pdX2_9 rfl rfl rfl rfl ?_
  exact ai_retv dX2_clear_25 rfl h
set_option maxHeartbeats 4000000 in
set_option maxRecDepth 100000 in
theorem vX2_add_r {p1 : Int32} {p2 : Int32} {p3 : Int32} {S : ai_S} {V : ai_V} {G : Int32 → ai_S → Prop}
    (h : (¬ 488 ≤ (S 26 3) ∧ (vp_in (S 26 3) 488 ∧ G (S 26 3) (ai_up (ai_up (ai_up (ai_up S 27 ((S 26 3)).toNatClampNeg p1) 28 ((S 26 3)).toNatClampNeg p2) 29 ((S 26 3)).toNatClampNeg p3) 26 3 ((S 26 3) + 1))))) :
    ai_met (uC l D ρ τ) d mX2_add [.ref 26, .int p1, .int p2, .int p3] S V (ai_qi V G) := by
  refine ai_mof plX2 (Nat.le_of_ble_eq_true rfl) (lv := [(0, .ref 26), (1, .int p1), (2, .int p2), (3, .int p3)]) rfl ?_
  refine ai_aload_n dX2_add_0 rfl (j := 0) rfl ?_
  refine ai_getI dX2_add_1 fdX2_27 rfl rfl ?_
  refine ai_istore (lv' := [(4, .int (S 26 3)), (0, .ref 26), (1, .int p1), (2, .int p2), (3, .int p3)]) dX2_add_4 (by decide) rfl ?_
  refine ai_iload dX2_add_6 (j := 0) rfl ?_
  refine ai_sipush (v := 488) dX2_add_8 (by decide) ?_
  have hr1 : ¬ 488 ≤ (S 26 3) := h.1
  have h := h.2
  refine ai_icmp_ge (tgt := 48) dX2_add_11 (by decide) ⟨fun hc => absurd hc hr1, fun _ => ?_⟩
  refine ai_aload_n dX2_add_14 rfl (j := 1) rfl ?_
  refine ai_getR dX2_add_15 fdX2_9 rfl rfl ?_
  refine ai_iload dX2_add_18 (j := 0) rfl ?_
  refine ai_iload_n dX2_add_20 rfl (j := 2) rfl ?_
  refine ai_iast dX2_add_21 rfl ⟨h.1, ?_⟩
  have hi2 := h.1
  have h := h.2
  refine ai_aload_n dX2_add_22 rfl (j := 1) rfl ?_
  refine ai_getR dX2_add_23 fdX2_15 rfl rfl ?_
  refine ai_iload dX2_add_26 (j := 0) rfl ?_
  refine ai_iload_n dX2_add_28 rfl (j := 3) rfl ?_
  refine ai_iast dX2_add_29 rfl ⟨hi2, ?_⟩
  refine ai_aload_n dX2_add_30 rfl (j := 1) rfl ?_
  refine ai_getR dX2_add_31 fdX2_18 rfl rfl ?_
  refine ai_iload dX2_add_34 (j := 0) rfl ?_
  refine ai_iload_n dX2_add_36 rfl (j := 4) rfl ?_
  refine ai_iast dX2_add_37 rfl ⟨hi2, ?_⟩
  refine ai_aload_n dX2_add_38 rfl (j := 1) rfl ?_
  refine ai_dup dX2_add_39 rfl ?_
  refine ai_getIx (S 26 3) dX2_add_40 fdX2_27 rfl rfl rfl ?_
  refine ai_iconst (v := 1) dX2_add_43 (by decide) ?_
  refine ai_iadd dX2_add_44 ?_
  refine ai_putI dX2_add_45 fdX2_27 pdX2_3 rfl rfl rfl rfl ?_
  refine ai_iload dX2_add_48 (j := 0) rfl ?_
  exact ai_reti dX2_add_50 rfl h
set_option maxHeartbeats 4000000 in
set_option maxRecDepth 100000 in
theorem vX2_isPlace_r {p1 : Int32} {S : ai_S} {V : ai_V} {G : Bool → ai_S → Prop}
    (h : (¬ p1 < 0 ∧ (¬ (S 26 3) ≤ p1 ∧ (¬ 488 ≤ p1 ∧ G true S)))) :
    ai_met (uC l D ρ τ) d mX2_isPlace [.ref 26, .int p1] S V (ai_qz V G) := by
  refine ai_mof plX2 (Nat.le_of_ble_eq_true rfl) (lv := [(0, .ref 26), (1, .int p1)]) rfl ?_
  refine ai_iload_n dX2_isPlace_0 rfl (j := 1) rfl ?_
  have hr1 : ¬ p1 < 0 := h.1
  have h := h.2
  refine ai_if_lt (tgt := 23) dX2_isPlace_1 (by decide) ⟨fun hc => absurd hc hr1, fun _ => ?_⟩
  refine ai_iload_n dX2_isPlace_4 rfl (j := 1) rfl ?_
  refine ai_aload_n dX2_isPlace_5 rfl (j := 0) rfl ?_
  refine ai_getI dX2_isPlace_6 fdX2_27 rfl rfl ?_
  have hr2 : ¬ (S 26 3) ≤ p1 := h.1
  have h := h.2
  refine ai_icmp_ge (tgt := 23) dX2_isPlace_9 (by decide) ⟨fun hc => absurd hc hr2, fun _ => ?_⟩
  refine ai_iload_n dX2_isPlace_12 rfl (j := 1) rfl ?_
  refine ai_sipush (v := 488) dX2_isPlace_13 (by decide) ?_
  have hr3 : ¬ 488 ≤ p1 := h.1
  have h := h.2
  refine ai_icmp_ge (tgt := 23) dX2_isPlace_16 (by decide) ⟨fun hc => absurd hc hr3, fun _ => ?_⟩
  refine ai_iconst (v := 1) dX2_isPlace_19 (by decide) ?_
  refine ai_goto (tgt := 24) dX2_isPlace_20 (by decide) ?_
  exact ai_rett dX2_isPlace_24 rfl h
set_option maxHeartbeats 4000000 in
set_option maxRecDepth 100000 in
theorem vX2_setFirst_r {p1 : Int32} {p2 : Int32} {S : ai_S} {V : ai_V} {G : ai_S → Prop}
    (h : (¬ p1 < 0 ∧ (¬ (S 26 3) ≤ p1 ∧ (¬ 488 ≤ p1 ∧ (vp_in p1 488 ∧ G (ai_up S 28 (p1).toNatClampNeg p2)))))) :
    ai_met (uC l D ρ τ) (d + 1) mX2_setFirst [.ref 26, .int p1, .int p2] S V (ai_qv V G) := by
  refine ai_mof plX2 (Nat.le_of_ble_eq_true rfl) (lv := [(0, .ref 26), (1, .int p1), (2, .int p2)]) rfl ?_
  refine ai_aload_n dX2_setFirst_0 rfl (j := 0) rfl ?_
  refine ai_iload_n dX2_setFirst_1 rfl (j := 1) rfl ?_
  refine ai_callVz (As := [.int p1]) (rest := []) dX2_setFirst_2 cvX2_43 rfl rfl rfl (Nat.le_of_ble_eq_true rfl) (vX2_isPlace_r ?_)
  have hr1 : ¬ p1 < 0 := h.1
  have h := h.2
  refine ⟨hr1, ?_⟩
  have hr2 : ¬ (S 26 3) ≤ p1 := h.1
  have h := h.2
  refine ⟨hr2, ?_⟩
  have hr3 : ¬ 488 ≤ p1 := h.1
  have h := h.2
  refine ⟨hr3, ?_⟩
  refine ai_zt ?_
  refine ai_if_eq (tgt := 15) dX2_setFirst_5 (by decide) ⟨fun hc => absurd hc (by decide), fun _ => ?_⟩
  refine ai_aload_n dX2_setFirst_8 rfl (j := 0) rfl ?_
  refine ai_getR dX2_setFirst_9 fdX2_15 rfl rfl ?_
  refine ai_iload_n dX2_setFirst_12 rfl (j := 1) rfl ?_
  refine ai_iload_n dX2_setFirst_13 rfl (j := 2) rfl ?_
  refine ai_iast dX2_setFirst_14 rfl ⟨h.1, ?_⟩
  have hi4 := h.1
  have h := h.2
  exact ai_retv dX2_setFirst_15 rfl h
set_option maxHeartbeats 4000000 in
set_option maxRecDepth 100000 in
theorem vX2_setSecond_r {p1 : Int32} {p2 : Int32} {S : ai_S} {V : ai_V} {G : ai_S → Prop}
    (h : (¬ p1 < 0 ∧ (¬ (S 26 3) ≤ p1 ∧ (¬ 488 ≤ p1 ∧ (vp_in p1 488 ∧ G (ai_up S 29 (p1).toNatClampNeg p2)))))) :
    ai_met (uC l D ρ τ) (d + 1) mX2_setSecond [.ref 26, .int p1, .int p2] S V (ai_qv V G) := by
  refine ai_mof plX2 (Nat.le_of_ble_eq_true rfl) (lv := [(0, .ref 26), (1, .int p1), (2, .int p2)]) rfl ?_
  refine ai_aload_n dX2_setSecond_0 rfl (j := 0) rfl ?_
  refine ai_iload_n dX2_setSecond_1 rfl (j := 1) rfl ?_
  refine ai_callVz (As := [.int p1]) (rest := []) dX2_setSecond_2 cvX2_43 rfl rfl rfl (Nat.le_of_ble_eq_true rfl) (vX2_isPlace_r ?_)
  have hr1 : ¬ p1 < 0 := h.1
  have h := h.2
  refine ⟨hr1, ?_⟩
  have hr2 : ¬ (S 26 3) ≤ p1 := h.1
  have h := h.2
  refine ⟨hr2, ?_⟩
  have hr3 : ¬ 488 ≤ p1 := h.1
  have h := h.2
  refine ⟨hr3, ?_⟩
  refine ai_zt ?_
  refine ai_if_eq (tgt := 15) dX2_setSecond_5 (by decide) ⟨fun hc => absurd hc (by decide), fun _ => ?_⟩
  refine ai_aload_n dX2_setSecond_8 rfl (j := 0) rfl ?_
  refine ai_getR dX2_setSecond_9 fdX2_18 rfl rfl ?_
  refine ai_iload_n dX2_setSecond_12 rfl (j := 1) rfl ?_
  refine ai_iload_n dX2_setSecond_13 rfl (j := 2) rfl ?_
  refine ai_iast dX2_setSecond_14 rfl ⟨h.1, ?_⟩
  have hi4 := h.1
  have h := h.2
  exact ai_retv dX2_setSecond_15 rfl h
set_option maxHeartbeats 4000000 in
set_option maxRecDepth 100000 in
theorem vX2_addProcedure_r {S : ai_S} {V : ai_V} {G : Int32 → ai_S → Prop}
    (h : (¬ 16 ≤ (S 26 6) ∧ (vp_in (S 26 6) 16 ∧ G (S 26 6) (ai_up (ai_up (ai_up S 30 ((S 26 6)).toNatClampNeg (S 26 3)) 31 ((S 26 6)).toNatClampNeg 0) 26 6 ((S 26 6) + 1))))) :
    ai_met (uC l D ρ τ) d mX2_addProcedure [.ref 26] S V (ai_qi V G) := by
  refine ai_mof plX2 (Nat.le_of_ble_eq_true rfl) (lv := [(0, .ref 26)]) rfl ?_
  refine ai_aload_n dX2_addProcedure_0 rfl (j := 0) rfl ?_
  refine ai_getI dX2_addProcedure_1 fdX2_31 rfl rfl ?_
  refine ai_istore_n (lv' := [(1, .int (S 26 6)), (0, .ref 26)]) dX2_addProcedure_4 rfl (by decide) rfl ?_
  refine ai_iload_n dX2_addProcedure_5 rfl (j := 0) rfl ?_
  refine ai_bipush (v := 16) dX2_addProcedure_6 (by decide) ?_
  have hr1 : ¬ 16 ≤ (S 26 6) := h.1
  have h := h.2
  refine ai_icmp_ge (tgt := 38) dX2_addProcedure_8 (by decide) ⟨fun hc => absurd hc hr1, fun _ => ?_⟩
  refine ai_aload_n dX2_addProcedure_11 rfl (j := 1) rfl ?_
  refine ai_getR dX2_addProcedure_12 fdX2_21 rfl rfl ?_
  refine ai_iload_n dX2_addProcedure_15 rfl (j := 0) rfl ?_
  refine ai_aload_n dX2_addProcedure_16 rfl (j := 1) rfl ?_
  refine ai_getI dX2_addProcedure_17 fdX2_27 rfl rfl ?_
  refine ai_iast dX2_addProcedure_20 rfl ⟨h.1, ?_⟩
  have hi2 := h.1
  have h := h.2
  refine ai_aload_n dX2_addProcedure_21 rfl (j := 1) rfl ?_
  refine ai_getR dX2_addProcedure_22 fdX2_24 rfl rfl ?_
  refine ai_iload_n dX2_addProcedure_25 rfl (j := 0) rfl ?_
  refine ai_iconst (v := 0) dX2_addProcedure_26 (by decide) ?_
  refine ai_iast dX2_addProcedure_27 rfl ⟨hi2, ?_⟩
  refine ai_aload_n dX2_addProcedure_28 rfl (j := 1) rfl ?_
  refine ai_dup dX2_addProcedure_29 rfl ?_
  refine ai_getIx (S 26 6) dX2_addProcedure_30 fdX2_31 rfl rfl rfl ?_
  refine ai_iconst (v := 1) dX2_addProcedure_33 (by decide) ?_
  refine ai_iadd dX2_addProcedure_34 ?_
  refine ai_putI dX2_addProcedure_35 fdX2_31 pdX2_6 rfl rfl rfl rfl ?_
  refine ai_iload_n dX2_addProcedure_38 rfl (j := 0) rfl ?_
  exact ai_reti dX2_addProcedure_39 rfl h
set_option maxHeartbeats 4000000 in
set_option maxRecDepth 100000 in
theorem vX2_isProcedure_r {p1 : Int32} {S : ai_S} {V : ai_V} {G : Bool → ai_S → Prop}
    (h : (¬ p1 < 0 ∧ (¬ (S 26 6) ≤ p1 ∧ (¬ 16 ≤ p1 ∧ G true S)))) :
    ai_met (uC l D ρ τ) d mX2_isProcedure [.ref 26, .int p1] S V (ai_qz V G) := by
  refine ai_mof plX2 (Nat.le_of_ble_eq_true rfl) (lv := [(0, .ref 26), (1, .int p1)]) rfl ?_
  refine ai_iload_n dX2_isProcedure_0 rfl (j := 1) rfl ?_
  have hr1 : ¬ p1 < 0 := h.1
  have h := h.2
  refine ai_if_lt (tgt := 22) dX2_isProcedure_1 (by decide) ⟨fun hc => absurd hc hr1, fun _ => ?_⟩
  refine ai_iload_n dX2_isProcedure_4 rfl (j := 1) rfl ?_
  refine ai_aload_n dX2_isProcedure_5 rfl (j := 0) rfl ?_
  refine ai_getI dX2_isProcedure_6 fdX2_31 rfl rfl ?_
  have hr2 : ¬ (S 26 6) ≤ p1 := h.1
  have h := h.2
  refine ai_icmp_ge (tgt := 22) dX2_isProcedure_9 (by decide) ⟨fun hc => absurd hc hr2, fun _ => ?_⟩
  refine ai_iload_n dX2_isProcedure_12 rfl (j := 1) rfl ?_
  refine ai_bipush (v := 16) dX2_isProcedure_13 (by decide) ?_
  have hr3 : ¬ 16 ≤ p1 := h.1
  have h := h.2
  refine ai_icmp_ge (tgt := 22) dX2_isProcedure_15 (by decide) ⟨fun hc => absurd hc hr3, fun _ => ?_⟩
  refine ai_iconst (v := 1) dX2_isProcedure_18 (by decide) ?_
  refine ai_goto (tgt := 23) dX2_isProcedure_19 (by decide) ?_
  exact ai_rett dX2_isProcedure_23 rfl h
set_option maxHeartbeats 4000000 in
set_option maxRecDepth 100000 in
theorem vX2_setFormalCount_r {p1 : Int32} {p2 : Int32} {S : ai_S} {V : ai_V} {G : ai_S → Prop}
    (h : (¬ p1 < 0 ∧ (¬ (S 26 6) ≤ p1 ∧ (¬ 16 ≤ p1 ∧ (vp_in p1 16 ∧ G (ai_up S 31 (p1).toNatClampNeg p2)))))) :
    ai_met (uC l D ρ τ) (d + 1) mX2_setFormalCount [.ref 26, .int p1, .int p2] S V (ai_qv V G) := by
  refine ai_mof plX2 (Nat.le_of_ble_eq_true rfl) (lv := [(0, .ref 26), (1, .int p1), (2, .int p2)]) rfl ?_
  refine ai_aload_n dX2_setFormalCount_0 rfl (j := 0) rfl ?_
  refine ai_iload_n dX2_setFormalCount_1 rfl (j := 1) rfl ?_
  refine ai_callVz (As := [.int p1]) (rest := []) dX2_setFormalCount_2 cvX2_47 rfl rfl rfl (Nat.le_of_ble_eq_true rfl) (vX2_isProcedure_r ?_)
  have hr1 : ¬ p1 < 0 := h.1
  have h := h.2
  refine ⟨hr1, ?_⟩
  have hr2 : ¬ (S 26 6) ≤ p1 := h.1
  have h := h.2
  refine ⟨hr2, ?_⟩
  have hr3 : ¬ 16 ≤ p1 := h.1
  have h := h.2
  refine ⟨hr3, ?_⟩
  refine ai_zt ?_
  refine ai_if_eq (tgt := 15) dX2_setFormalCount_5 (by decide) ⟨fun hc => absurd hc (by decide), fun _ => ?_⟩
  refine ai_aload_n dX2_setFormalCount_8 rfl (j := 0) rfl ?_
  refine ai_getR dX2_setFormalCount_9 fdX2_24 rfl rfl ?_
  refine ai_iload_n dX2_setFormalCount_12 rfl (j := 1) rfl ?_
  refine ai_iload_n dX2_setFormalCount_13 rfl (j := 2) rfl ?_
  refine ai_iast dX2_setFormalCount_14 rfl ⟨h.1, ?_⟩
  have hi4 := h.1
  have h := h.2
  exact ai_retv dX2_setFormalCount_15 rfl h
set_option maxHeartbeats 4000000 in
set_option maxRecDepth 100000 in
theorem vX4_clear {S : ai_S} {V : ai_V} {G : ai_S → Prop}
    (h : G (ai_up (ai_up (ai_up S 3 4 0) 3 5 0) 3 7 7)) :
    ai_met (uC l D ρ τ) d mX4_clear [.ref 3] S V (ai_qv V G) := by
  refine ai_mof plX4 (Nat.le_of_ble_eq_true rfl) (lv := [(0, .ref 3)]) rfl ?_
  refine ai_aload_n dX4_clear_0 rfl (j := 0) rfl ?_
  refine ai_iconst (v := 0) dX4_clear_1 (by decide) ?_
  refine ai_putI dX4_clear_2 fdX4_27 pdX4_4 rfl rfl rfl rfl ?_
  refine ai_aload_n dX4_clear_5 rfl (j := 0) rfl ?_
  refine ai_iconst (v := 0) dX4_clear_6 (by decide) ?_
  refine ai_putI dX4_clear_7 fdX4_31 pdX4_5 rfl rfl rfl rfl ?_
  refine ai_aload_n dX4_clear_10 rfl (j := 0) rfl ?_
  refine ai_bipush (v := 7) dX4_clear_11 (by decide) ?_
  refine ai_putI dX4_clear_13 fdX4_34 pdX4_7 rfl rfl rfl rfl ?_
  exact ai_retv dX4_clear_16 rfl h
set_option maxHeartbeats 4000000 in
set_option maxRecDepth 100000 in
theorem vX4_isEntry {p1 : Int32} {S : ai_S} {V : ai_V} {G : Bool → ai_S → Prop}
    (h : ((p1 < 0 → G false S) ∧ (¬ p1 < 0 → (¬ (S 3 4) ≤ p1 ∧ (¬ 136 ≤ p1 ∧ G true S))))) :
    ai_met (uC l D ρ τ) d mX4_isEntry [.ref 3, .int p1] S V (ai_qz V G) := by
  refine ai_mof plX4 (Nat.le_of_ble_eq_true rfl) (lv := [(0, .ref 3), (1, .int p1)]) rfl ?_
  refine ai_iload_n dX4_isEntry_0 rfl (j := 1) rfl ?_
  refine ai_if_lt (tgt := 23) dX4_isEntry_1 (by decide) ⟨fun (hc1 : p1 < 0) => ?_, fun (hc1 : ¬ p1 < 0) => ?_⟩
  · have h := h.1 hc1
    refine ai_iconst (v := 0) dX4_isEntry_23 (by decide) ?_
    exact ai_retf dX4_isEntry_24 rfl h
  · have h := h.2 hc1
    refine ai_iload_n dX4_isEntry_4 rfl (j := 1) rfl ?_
    refine ai_aload_n dX4_isEntry_5 rfl (j := 0) rfl ?_
    refine ai_getI dX4_isEntry_6 fdX4_27 rfl rfl ?_
    have hr2 : ¬ (S 3 4) ≤ p1 := h.1
    have h := h.2
    refine ai_icmp_ge (tgt := 23) dX4_isEntry_9 (by decide) ⟨fun hc => absurd hc hr2, fun _ => ?_⟩
    refine ai_iload_n dX4_isEntry_12 rfl (j := 1) rfl ?_
    refine ai_sipush (v := 136) dX4_isEntry_13 (by decide) ?_
    have hr3 : ¬ 136 ≤ p1 := h.1
    have h := h.2
    refine ai_icmp_ge (tgt := 23) dX4_isEntry_16 (by decide) ⟨fun hc => absurd hc hr3, fun _ => ?_⟩
    refine ai_iconst (v := 1) dX4_isEntry_19 (by decide) ?_
    refine ai_goto (tgt := 24) dX4_isEntry_20 (by decide) ?_
    exact ai_rett dX4_isEntry_24 rfl h
set_option maxHeartbeats 4000000 in
set_option maxRecDepth 100000 in
theorem vX4_kindOf {p1 : Int32} {S : ai_S} {V : ai_V} {G : Int32 → ai_S → Prop}
    (h : ((p1 < 0 → G 0 S) ∧ (¬ p1 < 0 → (¬ (S 3 4) ≤ p1 ∧ (¬ 136 ≤ p1 ∧ (vp_in p1 136 ∧ G (S 5 (p1).toNatClampNeg) S)))))) :
    ai_met (uC l D ρ τ) (d + 1) mX4_kindOf [.ref 3, .int p1] S V (ai_qi V G) := by
  refine ai_mof plX4 (Nat.le_of_ble_eq_true rfl) (lv := [(0, .ref 3), (1, .int p1)]) rfl ?_
  refine ai_aload_n dX4_kindOf_0 rfl (j := 0) rfl ?_
  refine ai_iload_n dX4_kindOf_1 rfl (j := 1) rfl ?_
  refine ai_callVz (As := [.int p1]) (rest := []) dX4_kindOf_2 cvX4_46 rfl rfl rfl (Nat.le_of_ble_eq_true rfl) (vX4_isEntry ?_)
  refine ⟨fun (hc1 : p1 < 0) => ?_, fun (hc1 : ¬ p1 < 0) => ?_⟩
  · have h := h.1 hc1
    refine ai_zf ?_
    refine ai_if_eq (tgt := 17) dX4_kindOf_5 (by decide) ⟨fun _ => ?_, fun hc => absurd hc (by decide)⟩
    refine ai_iconst (v := 0) dX4_kindOf_17 (by decide) ?_
    exact ai_reti dX4_kindOf_18 rfl h
  · have h := h.2 hc1
    have hr2 : ¬ (S 3 4) ≤ p1 := h.1
    have h := h.2
    refine ⟨hr2, ?_⟩
    have hr3 : ¬ 136 ≤ p1 := h.1
    have h := h.2
    refine ⟨hr3, ?_⟩
    refine ai_zt ?_
    refine ai_if_eq (tgt := 17) dX4_kindOf_5 (by decide) ⟨fun hc => absurd hc (by decide), fun _ => ?_⟩
    refine ai_aload_n dX4_kindOf_8 rfl (j := 0) rfl ?_
    refine ai_getR dX4_kindOf_9 fdX4_15 rfl rfl ?_
    refine ai_iload_n dX4_kindOf_12 rfl (j := 1) rfl ?_
    refine ai_iald dX4_kindOf_13 rfl ⟨h.1, ?_⟩
    have hi4 := h.1
    have h := h.2
    refine ai_goto (tgt := 18) dX4_kindOf_14 (by decide) ?_
    exact ai_reti dX4_kindOf_18 rfl h
set_option maxHeartbeats 4000000 in
set_option maxRecDepth 100000 in
theorem vX4_slotOf {p1 : Int32} {S : ai_S} {V : ai_V} {G : Int32 → ai_S → Prop}
    (h : ((p1 < 0 → G 0 S) ∧ (¬ p1 < 0 → (¬ (S 3 4) ≤ p1 ∧ (¬ 136 ≤ p1 ∧ (vp_in p1 136 ∧ G (S 7 (p1).toNatClampNeg) S)))))) :
    ai_met (uC l D ρ τ) (d + 1) mX4_slotOf [.ref 3, .int p1] S V (ai_qi V G) := by
  refine ai_mof plX4 (Nat.le_of_ble_eq_true rfl) (lv := [(0, .ref 3), (1, .int p1)]) rfl ?_
  refine ai_aload_n dX4_slotOf_0 rfl (j := 0) rfl ?_
  refine ai_iload_n dX4_slotOf_1 rfl (j := 1) rfl ?_
  refine ai_callVz (As := [.int p1]) (rest := []) dX4_slotOf_2 cvX4_46 rfl rfl rfl (Nat.le_of_ble_eq_true rfl) (vX4_isEntry ?_)
  refine ⟨fun (hc1 : p1 < 0) => ?_, fun (hc1 : ¬ p1 < 0) => ?_⟩
  · have h := h.1 hc1
    refine ai_zf ?_
    refine ai_if_eq (tgt := 17) dX4_slotOf_5 (by decide) ⟨fun _ => ?_, fun hc => absurd hc (by decide)⟩
    refine ai_iconst (v := 0) dX4_slotOf_17 (by decide) ?_
    exact ai_reti dX4_slotOf_18 rfl h
  · have h := h.2 hc1
    have hr2 : ¬ (S 3 4) ≤ p1 := h.1
    have h := h.2
    refine ⟨hr2, ?_⟩
    have hr3 : ¬ 136 ≤ p1 := h.1
    have h := h.2
    refine ⟨hr3, ?_⟩
    refine ai_zt ?_
    refine ai_if_eq (tgt := 17) dX4_slotOf_5 (by decide) ⟨fun hc => absurd hc (by decide), fun _ => ?_⟩
    refine ai_aload_n dX4_slotOf_8 rfl (j := 0) rfl ?_
    refine ai_getR dX4_slotOf_9 fdX4_21 rfl rfl ?_
    refine ai_iload_n dX4_slotOf_12 rfl (j := 1) rfl ?_
    refine ai_iald dX4_slotOf_13 rfl ⟨h.1, ?_⟩
    have hi4 := h.1
    have h := h.2
    refine ai_goto (tgt := 18) dX4_slotOf_14 (by decide) ?_
    exact ai_reti dX4_slotOf_18 rfl h
set_option maxHeartbeats 4000000 in
set_option maxRecDepth 100000 in
theorem vX4_hopsTo {p1 : Int32} {S : ai_S} {V : ai_V} {G : Int32 → ai_S → Prop}
    (h : ((p1 < 0 → G 0 S) ∧ (¬ p1 < 0 → (¬ (S 3 4) ≤ p1 ∧ (¬ 136 ≤ p1 ∧ (vp_in p1 136 ∧ G ((S 3 5) - (S 6 (p1).toNatClampNeg)) S)))))) :
    ai_met (uC l D ρ τ) (d + 1) mX4_hopsTo [.ref 3, .int p1] S V (ai_qi V G) := by
  refine ai_mof plX4 (Nat.le_of_ble_eq_true rfl) (lv := [(0, .ref 3), (1, .int p1)]) rfl ?_
  refine ai_aload_n dX4_hopsTo_0 rfl (j := 0) rfl ?_
  refine ai_iload_n dX4_hopsTo_1 rfl (j := 1) rfl ?_
  refine ai_callVz (As := [.int p1]) (rest := []) dX4_hopsTo_2 cvX4_46 rfl rfl rfl (Nat.le_of_ble_eq_true rfl) (vX4_isEntry ?_)
  refine ⟨fun (hc1 : p1 < 0) => ?_, fun (hc1 : ¬ p1 < 0) => ?_⟩
  · have h := h.1 hc1
    refine ai_zf ?_
    refine ai_if_eq (tgt := 22) dX4_hopsTo_5 (by decide) ⟨fun _ => ?_, fun hc => absurd hc (by decide)⟩
    refine ai_iconst (v := 0) dX4_hopsTo_22 (by decide) ?_
    exact ai_reti dX4_hopsTo_23 rfl h
  · have h := h.2 hc1
    have hr2 : ¬ (S 3 4) ≤ p1 := h.1
    have h := h.2
    refine ⟨hr2, ?_⟩
    have hr3 : ¬ 136 ≤ p1 := h.1
    have h := h.2
    refine ⟨hr3, ?_⟩
    refine ai_zt ?_
    refine ai_if_eq (tgt := 22) dX4_hopsTo_5 (by decide) ⟨fun hc => absurd hc (by decide), fun _ => ?_⟩
    refine ai_aload_n dX4_hopsTo_8 rfl (j := 0) rfl ?_
    refine ai_getI dX4_hopsTo_9 fdX4_31 rfl rfl ?_
    refine ai_aload_n dX4_hopsTo_12 rfl (j := 0) rfl ?_
    refine ai_getR dX4_hopsTo_13 fdX4_18 rfl rfl ?_
    refine ai_iload_n dX4_hopsTo_16 rfl (j := 1) rfl ?_
    refine ai_iald dX4_hopsTo_17 rfl ⟨h.1, ?_⟩
    have hi4 := h.1
    have h := h.2
    refine ai_isub dX4_hopsTo_18 ?_
    refine ai_goto (tgt := 23) dX4_hopsTo_19 (by decide) ?_
    exact ai_reti dX4_hopsTo_23 rfl h
set_option maxHeartbeats 4000000 in
set_option maxRecDepth 100000 in
theorem vX4_enterBody {p1 : Int32} {S : ai_S} {V : ai_V} {G : ai_S → Prop}
    (h : (¬ ((S 3 5) + 1) < 0 ∧ (¬ 10 < ((S 3 5) + 1) ∧ (vp_in ((S 3 5) + 1) 11 ∧ G (ai_up (ai_up (ai_up S 3 5 ((S 3 5) + 1)) 8 (((S 3 5) + 1)).toNatClampNeg p1) 3 7 7))))) :
    ai_met (uC l D ρ τ) d mX4_enterBody [.ref 3, .int p1] S V (ai_qv V G) := by
  refine ai_mof plX4 (Nat.le_of_ble_eq_true rfl) (lv := [(0, .ref 3), (1, .int p1)]) rfl ?_
  refine ai_aload_n dX4_enterBody_0 rfl (j := 0) rfl ?_
  refine ai_dup dX4_enterBody_1 rfl ?_
  refine ai_getI dX4_enterBody_2 fdX4_31 rfl rfl ?_
  refine ai_iconst (v := 1) dX4_enterBody_5 (by decide) ?_
  refine ai_iadd dX4_enterBody_6 ?_
  refine ai_putI dX4_enterBody_7 fdX4_31 pdX4_5 rfl rfl rfl rfl ?_
  refine ai_aload_n dX4_enterBody_10 rfl (j := 0) rfl ?_
  refine ai_getIx ((S 3 5) + 1) dX4_enterBody_11 fdX4_31 rfl rfl rfl ?_
  have hr1 : ¬ ((S 3 5) + 1) < 0 := h.1
  have h := h.2
  refine ai_if_lt (tgt := 36) dX4_enterBody_14 (by decide) ⟨fun hc => absurd hc hr1, fun _ => ?_⟩
  refine ai_aload_n dX4_enterBody_17 rfl (j := 0) rfl ?_
  refine ai_getIx ((S 3 5) + 1) dX4_enterBody_18 fdX4_31 rfl rfl rfl ?_
  refine ai_bipush (v := 10) dX4_enterBody_21 (by decide) ?_
  have hr2 : ¬ 10 < ((S 3 5) + 1) := h.1
  have h := h.2
  refine ai_icmp_gt (tgt := 36) dX4_enterBody_23 (by decide) ⟨fun hc => absurd hc hr2, fun _ => ?_⟩
  refine ai_aload_n dX4_enterBody_26 rfl (j := 0) rfl ?_
  refine ai_getR dX4_enterBody_27 fdX4_24 rfl rfl ?_
  refine ai_aload_n dX4_enterBody_30 rfl (j := 0) rfl ?_
  refine ai_getIx ((S 3 5) + 1) dX4_enterBody_31 fdX4_31 rfl rfl rfl ?_
  refine ai_iload_n dX4_enterBody_34 rfl (j := 1) rfl ?_
  refine ai_iast dX4_enterBody_35 rfl ⟨h.1, ?_⟩
  have hi3 := h.1
  have h := h.2
  refine ai_aload_n dX4_enterBody_36 rfl (j := 0) rfl ?_
  refine ai_bipush (v := 7) dX4_enterBody_37 (by decide) ?_
  refine ai_putI dX4_enterBody_39 fdX4_34 pdX4_7 rfl rfl rfl rfl ?_
  exact ai_retv dX4_enterBody_42 rfl h
set_option maxHeartbeats 4000000 in
set_option maxRecDepth 100000 in
theorem vX4_isAroundHere {p1 : Int32} {S : ai_S} {V : ai_V} {G : Bool → ai_S → Prop}
    (h : ((p1 < 0 → G false S) ∧ (¬ p1 < 0 → (¬ (S 3 4) ≤ p1 ∧ (¬ 136 ≤ p1 ∧ (vp_in p1 136 ∧ (((S 5 (p1).toNatClampNeg) = 2 → (¬ ((S 6 (p1).toNatClampNeg) + 1) < 1 ∧ (((S 3 5) < ((S 6 (p1).toNatClampNeg) + 1) → G false S) ∧ (¬ (S 3 5) < ((S 6 (p1).toNatClampNeg) + 1) → (¬ 10 < ((S 6 (p1).toNatClampNeg) + 1) ∧ (vp_in ((S 6 (p1).toNatClampNeg) + 1) 11 ∧ ((¬ (S 8 (((S 6 (p1).toNatClampNeg) + 1)).toNatClampNeg) = (S 7 (p1).toNatClampNeg) → G false S) ∧ ((S 8 (((S 6 (p1).toNatClampNeg) + 1)).toNatClampNeg) = (S 7 (p1).toNatClampNeg) → G true S)))))))) ∧ (¬ (S 5 (p1).toNatClampNeg) = 2 → G false S)))))))) :
    ai_met (uC l D ρ τ) (d + 1) mX4_isAroundHere [.ref 3, .int p1] S V (ai_qz V G) := by
  refine ai_mof plX4 (Nat.le_of_ble_eq_true rfl) (lv := [(0, .ref 3), (1, .int p1)]) rfl ?_
  refine ai_aload_n dX4_isAroundHere_0 rfl (j := 0) rfl ?_
  refine ai_iload_n dX4_isAroundHere_1 rfl (j := 1) rfl ?_
  refine ai_callVz (As := [.int p1]) (rest := []) dX4_isAroundHere_2 cvX4_46 rfl rfl rfl (Nat.le_of_ble_eq_true rfl) (vX4_isEntry ?_)
  refine ⟨fun (hc1 : p1 < 0) => ?_, fun (hc1 : ¬ p1 < 0) => ?_⟩
  · have h := h.1 hc1
    refine ai_zf ?_
    refine ai_if_eq (tgt := 18) dX4_isAroundHere_5 (by decide) ⟨fun _ => ?_, fun hc => absurd hc (by decide)⟩
    refine ai_iconst (v := 0) dX4_isAroundHere_18 (by decide) ?_
    exact ai_retf dX4_isAroundHere_19 rfl h
  · have h := h.2 hc1
    have hr2 : ¬ (S 3 4) ≤ p1 := h.1
    have h := h.2
    refine ⟨hr2, ?_⟩
    have hr3 : ¬ 136 ≤ p1 := h.1
    have h := h.2
    refine ⟨hr3, ?_⟩
    refine ai_zt ?_
    refine ai_if_eq (tgt := 18) dX4_isAroundHere_5 (by decide) ⟨fun hc => absurd hc (by decide), fun _ => ?_⟩
    refine ai_aload_n dX4_isAroundHere_8 rfl (j := 0) rfl ?_
    refine ai_getR dX4_isAroundHere_9 fdX4_15 rfl rfl ?_
    refine ai_iload_n dX4_isAroundHere_12 rfl (j := 1) rfl ?_
    refine ai_iald dX4_isAroundHere_13 rfl ⟨h.1, ?_⟩
    have hi4 := h.1
    have h := h.2
    refine ai_iconst (v := 2) dX4_isAroundHere_14 (by decide) ?_
    refine ai_icmp_eq (tgt := 20) dX4_isAroundHere_15 (by decide) ⟨fun (hc5 : (S 5 (p1).toNatClampNeg) = 2) => ?_, fun (hc5 : ¬ (S 5 (p1).toNatClampNeg) = 2) => ?_⟩
    · have h := h.1 hc5
      refine ai_aload_n dX4_isAroundHere_20 rfl (j := 0) rfl ?_
      refine ai_getR dX4_isAroundHere_21 fdX4_18 rfl rfl ?_
      refine ai_iload_n dX4_isAroundHere_24 rfl (j := 1) rfl ?_
      refine ai_iald dX4_isAroundHere_25 rfl ⟨hi4, ?_⟩
      refine ai_iconst (v := 1) dX4_isAroundHere_26 (by decide) ?_
      refine ai_iadd dX4_isAroundHere_27 ?_
      refine ai_istore_n (lv' := [(2, .int ((S 6 (p1).toNatClampNeg) + 1)), (0, .ref 3), (1, .int p1)]) dX4_isAroundHere_28 rfl (by decide) rfl ?_
      refine ai_iload_n dX4_isAroundHere_29 rfl (j := 0) rfl ?_
      refine ai_iconst (v := 1) dX4_isAroundHere_30 (by decide) ?_
      have hr6 : ¬ ((S 6 (p1).toNatClampNeg) + 1) < 1 := h.1
      have h := h.2
      refine ai_icmp_lt (tgt := 67) dX4_isAroundHere_31 (by decide) ⟨fun hc => absurd hc hr6, fun _ => ?_⟩
      refine ai_iload_n dX4_isAroundHere_34 rfl (j := 0) rfl ?_
      refine ai_aload_n dX4_isAroundHere_35 rfl (j := 1) rfl ?_
      refine ai_getI dX4_isAroundHere_36 fdX4_31 rfl rfl ?_
      refine ai_icmp_gt (tgt := 67) dX4_isAroundHere_39 (by decide) ⟨fun (hc7 : (S 3 5) < ((S 6 (p1).toNatClampNeg) + 1)) => ?_, fun (hc7 : ¬ (S 3 5) < ((S 6 (p1).toNatClampNeg) + 1)) => ?_⟩
      · have h := h.1 hc7
        refine ai_iconst (v := 0) dX4_isAroundHere_67 (by decide) ?_
        exact ai_retf dX4_isAroundHere_68 rfl h
      · have h := h.2 hc7
        refine ai_iload_n dX4_isAroundHere_42 rfl (j := 0) rfl ?_
        refine ai_bipush (v := 10) dX4_isAroundHere_43 (by decide) ?_
        have hr8 : ¬ 10 < ((S 6 (p1).toNatClampNeg) + 1) := h.1
        have h := h.2
        refine ai_icmp_gt (tgt := 67) dX4_isAroundHere_45 (by decide) ⟨fun hc => absurd hc hr8, fun _ => ?_⟩
        refine ai_aload_n dX4_isAroundHere_48 rfl (j := 1) rfl ?_
        refine ai_getR dX4_isAroundHere_49 fdX4_24 rfl rfl ?_
        refine ai_iload_n dX4_isAroundHere_52 rfl (j := 0) rfl ?_
        refine ai_iald dX4_isAroundHere_53 rfl ⟨h.1, ?_⟩
        have hi9 := h.1
        have h := h.2
        refine ai_aload_n dX4_isAroundHere_54 rfl (j := 1) rfl ?_
        refine ai_getR dX4_isAroundHere_55 fdX4_21 rfl rfl ?_
        refine ai_iload_n dX4_isAroundHere_58 rfl (j := 2) rfl ?_
        refine ai_iald dX4_isAroundHere_59 rfl ⟨hi4, ?_⟩
        refine ai_icmp_ne (tgt := 67) dX4_isAroundHere_60 (by decide) ⟨fun (hc10 : ¬ (S 8 (((S 6 (p1).toNatClampNeg) + 1)).toNatClampNeg) = (S 7 (p1).toNatClampNeg)) => ?_, fun (hc10 : (S 8 (((S 6 (p1).toNatClampNeg) + 1)).toNatClampNeg) = (S 7 (p1).toNatClampNeg)) => ?_⟩
        · have h := h.1 hc10
          refine ai_iconst (v := 0) dX4_isAroundHere_67 (by decide) ?_
          exact ai_retf dX4_isAroundHere_68 rfl h
        · have h := h.2 hc10
          refine ai_iconst (v := 1) dX4_isAroundHere_63 (by decide) ?_
          refine ai_goto (tgt := 68) dX4_isAroundHere_64 (by decide) ?_
          exact ai_rett dX4_isAroundHere_68 rfl h
    · have h := h.2 hc5
      refine ai_iconst (v := 0) dX4_isAroundHere_18 (by decide) ?_
      exact ai_retf dX4_isAroundHere_19 rfl h
set_option maxHeartbeats 4000000 in
set_option maxRecDepth 100000 in
theorem vX4_declare {p1 : Int32} {p2 : Int32} {p3 : Int32} {p4 : Int32} {S : ai_S} {V : ai_V} {G : Bool → ai_S → Prop}
    (h : ai_W (uC l D ρ τ) (d + 1) mX4_declare 11 [(0, .ref 3), (1, .int p1), (2, .int p2), (3, .int p3), (5, .int 1), (6, .int (if p4 < 0 then 0 else p4))] [] S V (ai_qz V G)) :
    ai_met (uC l D ρ τ) (d + 1) mX4_declare [.ref 3, .int p1, .int p2, .int p3, .int p4] S V (ai_qz V G) := by
  refine ai_mof plX4 (Nat.le_of_ble_eq_true rfl) (lv := [(0, .ref 3), (1, .int p1), (2, .int p2), (3, .int p3), (4, .int p4)]) rfl ?_
  refine ai_iconst (v := 1) dX4_declare_0 (by decide) ?_
  refine ai_istore (lv' := [(5, .int 1), (0, .ref 3), (1, .int p1), (2, .int p2), (3, .int p3), (4, .int p4)]) dX4_declare_1 (by decide) rfl ?_
  refine ai_iload dX4_declare_3 (j := 5) rfl ?_
  refine ai_iconst (v := 0) dX4_declare_5 (by decide) ?_
  refine ai_mmax dX4_declare_6 cxX4_37 (Nat.le_of_ble_eq_true rfl) ?_
  refine ai_istore (lv' := [(6, .int (if p4 < 0 then 0 else p4)), (5, .int 1), (0, .ref 3), (1, .int p1), (2, .int p2), (3, .int p3), (4, .int p4)]) dX4_declare_9 (by decide) rfl ?_
  refine ai_locj (lv' := [(0, .ref 3), (1, .int p1), (2, .int p2), (3, .int p3), (5, .int 1), (6, .int (if p4 < 0 then 0 else p4))]) [2, 3, 4, 5, 1, 0] rfl ?_
  exact h
set_option maxHeartbeats 4000000 in
set_option maxRecDepth 100000 in
theorem vX4_declare_1_11 {p1 : Int32} {p2 : Int32} {p3 : Int32} {j : Int32} {S : ai_S} {V : ai_V} {G : Bool → ai_S → Prop}
    (h : (((S 3 4) ≤ j → (¬ 136 ≤ (S 3 4) ∧ (vp_in (S 3 4) 136 ∧ G true (ai_up (ai_up (ai_up (ai_up (ai_up S 4 ((S 3 4)).toNatClampNeg p1) 5 ((S 3 4)).toNatClampNeg p2) 6 ((S 3 4)).toNatClampNeg (S 3 5)) 7 ((S 3 4)).toNatClampNeg p3) 3 4 ((S 3 4) + 1))))) ∧ (¬ (S 3 4) ≤ j → (¬ 136 ≤ j ∧ (vp_in j 136 ∧ ((¬ (S 4 (j).toNatClampNeg) = p1 → ai_W (uC l D ρ τ) d mX4_declare 11 [(0, .ref 3), (1, .int p1), (2, .int p2), (3, .int p3), (5, .int 1), (6, .int (j + 1))] [] S V (ai_qz V G)) ∧ ((S 4 (j).toNatClampNeg) = p1 → ai_W (uC l D ρ τ) d mX4_declare 11 [(0, .ref 3), (1, .int p1), (2, .int p2), (3, .int p3), (5, .int 0), (6, .int (j + 1))] [] S V (ai_qz V G)))))))) :
    ai_W (uC l D ρ τ) d mX4_declare 11 [(0, .ref 3), (1, .int p1), (2, .int p2), (3, .int p3), (5, .int 1), (6, .int j)] [] S V (ai_qz V G) := by
  refine ai_iload dX4_declare_11 (j := 5) rfl ?_
  refine ai_aload_n dX4_declare_13 rfl (j := 0) rfl ?_
  refine ai_getI dX4_declare_14 fdX4_27 rfl rfl ?_
  refine ai_icmp_ge (tgt := 48) dX4_declare_17 (by decide) ⟨fun (hc1 : (S 3 4) ≤ j) => ?_, fun (hc1 : ¬ (S 3 4) ≤ j) => ?_⟩
  · have h := h.1 hc1
    refine ai_aload_n dX4_declare_48 rfl (j := 0) rfl ?_
    refine ai_getI dX4_declare_49 fdX4_27 rfl rfl ?_
    refine ai_sipush (v := 136) dX4_declare_52 (by decide) ?_
    have hr2 : ¬ 136 ≤ (S 3 4) := h.1
    have h := h.2
    refine ai_icmp_ge (tgt := 111) dX4_declare_55 (by decide) ⟨fun hc => absurd hc hr2, fun _ => ?_⟩
    refine ai_aload_n dX4_declare_58 rfl (j := 0) rfl ?_
    refine ai_getR dX4_declare_59 fdX4_9 rfl rfl ?_
    refine ai_aload_n dX4_declare_62 rfl (j := 0) rfl ?_
    refine ai_getI dX4_declare_63 fdX4_27 rfl rfl ?_
    refine ai_iload_n dX4_declare_66 rfl (j := 1) rfl ?_
    refine ai_iast dX4_declare_67 rfl ⟨h.1, ?_⟩
    have hi3 := h.1
    have h := h.2
    refine ai_aload_n dX4_declare_68 rfl (j := 0) rfl ?_
    refine ai_getR dX4_declare_69 fdX4_15 rfl rfl ?_
    refine ai_aload_n dX4_declare_72 rfl (j := 0) rfl ?_
    refine ai_getIx (S 3 4) dX4_declare_73 fdX4_27 rfl rfl rfl ?_
    refine ai_iload_n dX4_declare_76 rfl (j := 2) rfl ?_
    refine ai_iast dX4_declare_77 rfl ⟨hi3, ?_⟩
    refine ai_aload_n dX4_declare_78 rfl (j := 0) rfl ?_
    refine ai_getR dX4_declare_79 fdX4_18 rfl rfl ?_
    refine ai_aload_n dX4_declare_82 rfl (j := 0) rfl ?_
    refine ai_getIx (S 3 4) dX4_declare_83 fdX4_27 rfl rfl rfl ?_
    refine ai_aload_n dX4_declare_86 rfl (j := 0) rfl ?_
    refine ai_getIx (S 3 5) dX4_declare_87 fdX4_31 rfl rfl rfl ?_
    refine ai_iast dX4_declare_90 rfl ⟨hi3, ?_⟩
    refine ai_aload_n dX4_declare_91 rfl (j := 0) rfl ?_
    refine ai_getR dX4_declare_92 fdX4_21 rfl rfl ?_
    refine ai_aload_n dX4_declare_95 rfl (j := 0) rfl ?_
    refine ai_getIx (S 3 4) dX4_declare_96 fdX4_27 rfl rfl rfl ?_
    refine ai_iload_n dX4_declare_99 rfl (j := 3) rfl ?_
    refine ai_iast dX4_declare_100 rfl ⟨hi3, ?_⟩
    refine ai_aload_n dX4_declare_101 rfl (j := 0) rfl ?_
    refine ai_dup dX4_declare_102 rfl ?_
    refine ai_getIx (S 3 4) dX4_declare_103 fdX4_27 rfl rfl rfl ?_
    refine ai_iconst (v := 1) dX4_declare_106 (by decide) ?_
    refine ai_iadd dX4_declare_107 ?_
    refine ai_putI dX4_declare_108 fdX4_27 pdX4_4 rfl rfl rfl rfl ?_
    refine ai_iload dX4_declare_111 (j := 4) rfl ?_
    exact ai_rett dX4_declare_113 rfl h
  · have h := h.2 hc1
    refine ai_iload dX4_declare_20 (j := 5) rfl ?_
    refine ai_sipush (v := 136) dX4_declare_22 (by decide) ?_
    have hr4 : ¬ 136 ≤ j := h.1
    have h := h.2
    refine ai_icmp_ge (tgt := 48) dX4_declare_25 (by decide) ⟨fun hc => absurd hc hr4, fun _ => ?_⟩
    refine ai_aload_n dX4_declare_28 rfl (j := 0) rfl ?_
    refine ai_getR dX4_declare_29 fdX4_9 rfl rfl ?_
    refine ai_iload dX4_declare_32 (j := 5) rfl ?_
    refine ai_iald dX4_declare_34 rfl ⟨h.1, ?_⟩
    have hi5 := h.1
    have h := h.2
    refine ai_iload_n dX4_declare_35 rfl (j := 1) rfl ?_
    refine ai_icmp_ne (tgt := 42) dX4_declare_36 (by decide) ⟨fun (hc6 : ¬ (S 4 (j).toNatClampNeg) = p1) => ?_, fun (hc6 : (S 4 (j).toNatClampNeg) = p1) => ?_⟩
    · have h := h.1 hc6
      refine ai_iinc (j := 5) (v := (j + 1)) (lv' := [(6, .int (j + 1)), (0, .ref 3), (1, .int p1), (2, .int p2), (3, .int p3), (5, .int 1)]) dX4_declare_42 rfl (by first | rfl | decide) (by decide) rfl ?_
      refine ai_goto (tgt := 11) dX4_declare_45 (by decide) ?_
      refine ai_locj (lv' := [(0, .ref 3), (1, .int p1), (2, .int p2), (3, .int p3), (5, .int 1), (6, .int (j + 1))]) [1, 2, 3, 4, 5, 0] rfl ?_
      exact h
    · have h := h.2 hc6
      refine ai_iconst (v := 0) dX4_declare_39 (by decide) ?_
      refine ai_istore (lv' := [(5, .int 0), (0, .ref 3), (1, .int p1), (2, .int p2), (3, .int p3), (6, .int j)]) dX4_declare_40 (by decide) rfl ?_
      refine ai_iinc (j := 5) (v := (j + 1)) (lv' := [(6, .int (j + 1)), (5, .int 0), (0, .ref 3), (1, .int p1), (2, .int p2), (3, .int p3)]) dX4_declare_42 rfl (by first | rfl | decide) (by decide) rfl ?_
      refine ai_goto (tgt := 11) dX4_declare_45 (by decide) ?_
      refine ai_locj (lv' := [(0, .ref 3), (1, .int p1), (2, .int p2), (3, .int p3), (5, .int 0), (6, .int (j + 1))]) [2, 3, 4, 5, 1, 0] rfl ?_
      exact h
set_option maxHeartbeats 4000000 in
set_option maxRecDepth 100000 in
theorem vX4_declare_0_11 {p1 : Int32} {p2 : Int32} {p3 : Int32} {j : Int32} {S : ai_S} {V : ai_V} {G : Bool → ai_S → Prop}
    (h : (((S 3 4) ≤ j → (¬ 136 ≤ (S 3 4) ∧ (vp_in (S 3 4) 136 ∧ G false (ai_up (ai_up (ai_up (ai_up (ai_up S 4 ((S 3 4)).toNatClampNeg p1) 5 ((S 3 4)).toNatClampNeg p2) 6 ((S 3 4)).toNatClampNeg (S 3 5)) 7 ((S 3 4)).toNatClampNeg p3) 3 4 ((S 3 4) + 1))))) ∧ (¬ (S 3 4) ≤ j → (¬ 136 ≤ j ∧ (vp_in j 136 ∧ ((¬ (S 4 (j).toNatClampNeg) = p1 → ai_W (uC l D ρ τ) d mX4_declare 11 [(0, .ref 3), (1, .int p1), (2, .int p2), (3, .int p3), (5, .int 0), (6, .int (j + 1))] [] S V (ai_qz V G)) ∧ ((S 4 (j).toNatClampNeg) = p1 → ai_W (uC l D ρ τ) d mX4_declare 11 [(0, .ref 3), (1, .int p1), (2, .int p2), (3, .int p3), (5, .int 0), (6, .int (j + 1))] [] S V (ai_qz V G)))))))) :
    ai_W (uC l D ρ τ) d mX4_declare 11 [(0, .ref 3), (1, .int p1), (2, .int p2), (3, .int p3), (5, .int 0), (6, .int j)] [] S V (ai_qz V G) := by
  refine ai_iload dX4_declare_11 (j := 5) rfl ?_
  refine ai_aload_n dX4_declare_13 rfl (j := 0) rfl ?_
  refine ai_getI dX4_declare_14 fdX4_27 rfl rfl ?_
  refine ai_icmp_ge (tgt := 48) dX4_declare_17 (by decide) ⟨fun (hc1 : (S 3 4) ≤ j) => ?_, fun (hc1 : ¬ (S 3 4) ≤ j) => ?_⟩
  · have h := h.1 hc1
    refine ai_aload_n dX4_declare_48 rfl (j := 0) rfl ?_
    refine ai_getI dX4_declare_49 fdX4_27 rfl rfl ?_
    refine ai_sipush (v := 136) dX4_declare_52 (by decide) ?_
    have hr2 : ¬ 136 ≤ (S 3 4) := h.1
    have h := h.2
    refine ai_icmp_ge (tgt := 111) dX4_declare_55 (by decide) ⟨fun hc => absurd hc hr2, fun _ => ?_⟩
    refine ai_aload_n dX4_declare_58 rfl (j := 0) rfl ?_
    refine ai_getR dX4_declare_59 fdX4_9 rfl rfl ?_
    refine ai_aload_n dX4_declare_62 rfl (j := 0) rfl ?_
    refine ai_getI dX4_declare_63 fdX4_27 rfl rfl ?_
    refine ai_iload_n dX4_declare_66 rfl (j := 1) rfl ?_
    refine ai_iast dX4_declare_67 rfl ⟨h.1, ?_⟩
    have hi3 := h.1
    have h := h.2
    refine ai_aload_n dX4_declare_68 rfl (j := 0) rfl ?_
    refine ai_getR dX4_declare_69 fdX4_15 rfl rfl ?_
    refine ai_aload_n dX4_declare_72 rfl (j := 0) rfl ?_
    refine ai_getIx (S 3 4) dX4_declare_73 fdX4_27 rfl rfl rfl ?_
    refine ai_iload_n dX4_declare_76 rfl (j := 2) rfl ?_
    refine ai_iast dX4_declare_77 rfl ⟨hi3, ?_⟩
    refine ai_aload_n dX4_declare_78 rfl (j := 0) rfl ?_
    refine ai_getR dX4_declare_79 fdX4_18 rfl rfl ?_
    refine ai_aload_n dX4_declare_82 rfl (j := 0) rfl ?_
    refine ai_getIx (S 3 4) dX4_declare_83 fdX4_27 rfl rfl rfl ?_
    refine ai_aload_n dX4_declare_86 rfl (j := 0) rfl ?_
    refine ai_getIx (S 3 5) dX4_declare_87 fdX4_31 rfl rfl rfl ?_
    refine ai_iast dX4_declare_90 rfl ⟨hi3, ?_⟩
    refine ai_aload_n dX4_declare_91 rfl (j := 0) rfl ?_
    refine ai_getR dX4_declare_92 fdX4_21 rfl rfl ?_
    refine ai_aload_n dX4_declare_95 rfl (j := 0) rfl ?_
    refine ai_getIx (S 3 4) dX4_declare_96 fdX4_27 rfl rfl rfl ?_
    refine ai_iload_n dX4_declare_99 rfl (j := 3) rfl ?_
    refine ai_iast dX4_declare_100 rfl ⟨hi3, ?_⟩
    refine ai_aload_n dX4_declare_101 rfl (j := 0) rfl ?_
    refine ai_dup dX4_declare_102 rfl ?_
    refine ai_getIx (S 3 4) dX4_declare_103 fdX4_27 rfl rfl rfl ?_
    refine ai_iconst (v := 1) dX4_declare_106 (by decide) ?_
    refine ai_iadd dX4_declare_107 ?_
    refine ai_putI dX4_declare_108 fdX4_27 pdX4_4 rfl rfl rfl rfl ?_
    refine ai_iload dX4_declare_111 (j := 4) rfl ?_
    exact ai_retf dX4_declare_113 rfl h
  · have h := h.2 hc1
    refine ai_iload dX4_declare_20 (j := 5) rfl ?_
    refine ai_sipush (v := 136) dX4_declare_22 (by decide) ?_
    have hr4 : ¬ 136 ≤ j := h.1
    have h := h.2
    refine ai_icmp_ge (tgt := 48) dX4_declare_25 (by decide) ⟨fun hc => absurd hc hr4, fun _ => ?_⟩
    refine ai_aload_n dX4_declare_28 rfl (j := 0) rfl ?_
    refine ai_getR dX4_declare_29 fdX4_9 rfl rfl ?_
    refine ai_iload dX4_declare_32 (j := 5) rfl ?_
    refine ai_iald dX4_declare_34 rfl ⟨h.1, ?_⟩
    have hi5 := h.1
    have h := h.2
    refine ai_iload_n dX4_declare_35 rfl (j := 1) rfl ?_
    refine ai_icmp_ne (tgt := 42) dX4_declare_36 (by decide) ⟨fun (hc6 : ¬ (S 4 (j).toNatClampNeg) = p1) => ?_, fun (hc6 : (S 4 (j).toNatClampNeg) = p1) => ?_⟩
    · have h := h.1 hc6
      refine ai_iinc (j := 5) (v := (j + 1)) (lv' := [(6, .int (j + 1)), (0, .ref 3), (1, .int p1), (2, .int p2), (3, .int p3), (5, .int 0)]) dX4_declare_42 rfl (by first | rfl | decide) (by decide) rfl ?_
      refine ai_goto (tgt := 11) dX4_declare_45 (by decide) ?_
      refine ai_locj (lv' := [(0, .ref 3), (1, .int p1), (2, .int p2), (3, .int p3), (5, .int 0), (6, .int (j + 1))]) [1, 2, 3, 4, 5, 0] rfl ?_
      exact h
    · have h := h.2 hc6
      refine ai_iconst (v := 0) dX4_declare_39 (by decide) ?_
      refine ai_istore (lv' := [(5, .int 0), (0, .ref 3), (1, .int p1), (2, .int p2), (3, .int p3), (6, .int j)]) dX4_declare_40 (by decide) rfl ?_
      refine ai_iinc (j := 5) (v := (j + 1)) (lv' := [(6, .int (j + 1)), (5, .int 0), (0, .ref 3), (1, .int p1), (2, .int p2), (3, .int p3)]) dX4_declare_42 rfl (by first | rfl | decide) (by decide) rfl ?_
      refine ai_goto (tgt := 11) dX4_declare_45 (by decide) ?_
      refine ai_locj (lv' := [(0, .ref 3), (1, .int p1), (2, .int p2), (3, .int p3), (5, .int 0), (6, .int (j + 1))]) [2, 3, 4, 5, 1, 0] rfl ?_
      exact h
set_option maxHeartbeats 4000000 in
set_option maxRecDepth 100000 in
theorem vX4_find {p1 : Int32} {S : ai_S} {V : ai_V} {G : Int32 → ai_S → Prop}
    (h : ai_W (uC l D ρ τ) (d + 1) mX4_find 13 [(0, .ref 3), (1, .int p1), (2, .int ((if 136 < (S 3 4) then 136 else (S 3 4)) - 1))] [] S V (ai_qi V G)) :
    ai_met (uC l D ρ τ) (d + 1) mX4_find [.ref 3, .int p1] S V (ai_qi V G) := by
  refine ai_mof plX4 (Nat.le_of_ble_eq_true rfl) (lv := [(0, .ref 3), (1, .int p1)]) rfl ?_
  refine ai_aload_n dX4_find_0 rfl (j := 0) rfl ?_
  refine ai_getI dX4_find_1 fdX4_27 rfl rfl ?_
  refine ai_sipush (v := 136) dX4_find_4 (by decide) ?_
  refine ai_mmin dX4_find_7 cxX4_43 (Nat.le_of_ble_eq_true rfl) ?_
  refine ai_iconst (v := 1) dX4_find_10 (by decide) ?_
  refine ai_isub dX4_find_11 ?_
  refine ai_istore_n (lv' := [(2, .int ((if 136 < (S 3 4) then 136 else (S 3 4)) - 1)), (0, .ref 3), (1, .int p1)]) dX4_find_12 rfl (by decide) rfl ?_
  refine ai_locj (lv' := [(0, .ref 3), (1, .int p1), (2, .int ((if 136 < (S 3 4) then 136 else (S 3 4)) - 1))]) [1, 2, 0] rfl ?_
  exact h
set_option maxHeartbeats 4000000 in
set_option maxRecDepth 100000 in
theorem vX4_find_13 {p1 : Int32} {j : Int32} {S : ai_S} {V : ai_V} {G : Int32 → ai_S → Prop}
    (h : ((j < 0 → G (-1) S) ∧ (¬ j < 0 → (vp_in j 136 ∧ ((¬ (S 4 (j).toNatClampNeg) = p1 → ai_W (uC l D ρ τ) d mX4_find 13 [(0, .ref 3), (1, .int p1), (2, .int (j + (-1)))] [] S V (ai_qi V G)) ∧ ((S 4 (j).toNatClampNeg) = p1 → G j S)))))) :
    ai_W (uC l D ρ τ) d mX4_find 13 [(0, .ref 3), (1, .int p1), (2, .int j)] [] S V (ai_qi V G) := by
  refine ai_iload_n dX4_find_13 rfl (j := 2) rfl ?_
  refine ai_if_lt (tgt := 35) dX4_find_14 (by decide) ⟨fun (hc1 : j < 0) => ?_, fun (hc1 : ¬ j < 0) => ?_⟩
  · have h := h.1 hc1
    refine ai_iconst (v := (-1)) dX4_find_35 (by decide) ?_
    exact ai_reti dX4_find_36 rfl h
  · have h := h.2 hc1
    refine ai_aload_n dX4_find_17 rfl (j := 0) rfl ?_
    refine ai_getR dX4_find_18 fdX4_9 rfl rfl ?_
    refine ai_iload_n dX4_find_21 rfl (j := 2) rfl ?_
    refine ai_iald dX4_find_22 rfl ⟨h.1, ?_⟩
    have hi2 := h.1
    have h := h.2
    refine ai_iload_n dX4_find_23 rfl (j := 1) rfl ?_
    refine ai_icmp_ne (tgt := 29) dX4_find_24 (by decide) ⟨fun (hc3 : ¬ (S 4 (j).toNatClampNeg) = p1) => ?_, fun (hc3 : (S 4 (j).toNatClampNeg) = p1) => ?_⟩
    · have h := h.1 hc3
      refine ai_iinc (j := 2) (v := (j + (-1))) (lv' := [(2, .int (j + (-1))), (0, .ref 3), (1, .int p1)]) dX4_find_29 rfl (by first | rfl | decide) (by decide) rfl ?_
      refine ai_goto (tgt := 13) dX4_find_32 (by decide) ?_
      refine ai_locj (lv' := [(0, .ref 3), (1, .int p1), (2, .int (j + (-1)))]) [1, 2, 0] rfl ?_
      exact h
    · have h := h.2 hc3
      refine ai_iload_n dX4_find_27 rfl (j := 2) rfl ?_
      exact ai_reti dX4_find_28 rfl h
set_option maxHeartbeats 4000000 in
set_option maxRecDepth 100000 in
theorem vX0_outwards {p1 : Int32} {p2 : Int32} {S : ai_S} {V : ai_V} {G : Int32 → ai_S → Prop}
    (h : ai_W (uN l D ρ τ) d mX0_outwards 5 [(0, .ref 10), (2, .int p2), (3, .int p1), (4, .int 0)] [] S V (ai_qi V G)) :
    ai_met (uN l D ρ τ) d mX0_outwards [.ref 10, .int p1, .int p2] S V (ai_qi V G) := by
  refine ai_mof plX0 (Nat.le_of_ble_eq_true rfl) (lv := [(0, .ref 10), (1, .int p1), (2, .int p2)]) rfl ?_
  refine ai_iload_n dX0_outwards_0 rfl (j := 1) rfl ?_
  refine ai_istore_n (lv' := [(3, .int p1), (0, .ref 10), (1, .int p1), (2, .int p2)]) dX0_outwards_1 rfl (by decide) rfl ?_
  refine ai_iconst (v := 0) dX0_outwards_2 (by decide) ?_
  refine ai_istore (lv' := [(4, .int 0), (3, .int p1), (0, .ref 10), (1, .int p1), (2, .int p2)]) dX0_outwards_3 (by decide) rfl ?_
  refine ai_locj (lv' := [(0, .ref 10), (2, .int p2), (3, .int p1), (4, .int 0)]) [2, 4, 1, 0] rfl ?_
  exact h
set_option maxHeartbeats 4000000 in
set_option maxRecDepth 100000 in
theorem vX0_outwards_5 {p2 : Int32} {r : Int32} {j : Int32} {S : ai_S} {V : ai_V} {G : Int32 → ai_S → Prop}
    (h : ((p2 ≤ j → G r S) ∧ (¬ p2 ≤ j → (¬ 10 ≤ j ∧ (¬ r < 0 ∧ (¬ 31 ≤ r ∧ (vp_in r 31 ∧ ai_W (uN l D ρ τ) (d + 1) mX0_outwards 5 [(0, .ref 10), (2, .int p2), (3, .int (S 12 (r).toNatClampNeg)), (4, .int (j + 1))] [] S V (ai_qi V G)))))))) :
    ai_W (uN l D ρ τ) (d + 1) mX0_outwards 5 [(0, .ref 10), (2, .int p2), (3, .int r), (4, .int j)] [] S V (ai_qi V G) := by
  refine ai_iload dX0_outwards_5 (j := 3) rfl ?_
  refine ai_iload_n dX0_outwards_7 rfl (j := 1) rfl ?_
  refine ai_icmp_ge (tgt := 43) dX0_outwards_8 (by decide) ⟨fun (hc1 : p2 ≤ j) => ?_, fun (hc1 : ¬ p2 ≤ j) => ?_⟩
  · have h := h.1 hc1
    refine ai_iload_n dX0_outwards_43 rfl (j := 2) rfl ?_
    exact ai_reti dX0_outwards_44 rfl h
  · have h := h.2 hc1
    refine ai_iload dX0_outwards_11 (j := 3) rfl ?_
    refine ai_bipush (v := 10) dX0_outwards_13 (by decide) ?_
    have hr2 : ¬ 10 ≤ j := h.1
    have h := h.2
    refine ai_icmp_ge (tgt := 43) dX0_outwards_15 (by decide) ⟨fun hc => absurd hc hr2, fun _ => ?_⟩
    refine ai_aload_n dX0_outwards_18 rfl (j := 0) rfl ?_
    refine ai_iload_n dX0_outwards_19 rfl (j := 2) rfl ?_
    refine ai_callVz (As := [.int r]) (rest := []) dX0_outwards_20 cvX0_50 rfl rfl rfl (Nat.le_of_ble_eq_true rfl) (vX0_isFrame ?_)
    have hr3 : ¬ r < 0 := h.1
    have h := h.2
    refine ⟨hr3, ?_⟩
    have hr4 : ¬ 31 ≤ r := h.1
    have h := h.2
    refine ⟨hr4, ?_⟩
    refine ai_zt ?_
    refine ai_if_eq (tgt := 35) dX0_outwards_23 (by decide) ⟨fun hc => absurd hc (by decide), fun _ => ?_⟩
    refine ai_aload_n dX0_outwards_26 rfl (j := 0) rfl ?_
    refine ai_getR dX0_outwards_27 fdX0_15 rfl rfl ?_
    refine ai_iload_n dX0_outwards_30 rfl (j := 2) rfl ?_
    refine ai_iald dX0_outwards_31 rfl ⟨h.1, ?_⟩
    have hi5 := h.1
    have h := h.2
    refine ai_goto (tgt := 36) dX0_outwards_32 (by decide) ?_
    refine ai_istore_n (lv' := [(3, .int (S 12 (r).toNatClampNeg)), (0, .ref 10), (2, .int p2), (4, .int j)]) dX0_outwards_36 rfl (by decide) rfl ?_
    refine ai_iinc (j := 3) (v := (j + 1)) (lv' := [(4, .int (j + 1)), (3, .int (S 12 (r).toNatClampNeg)), (0, .ref 10), (2, .int p2)]) dX0_outwards_37 rfl (by first | rfl | decide) (by decide) rfl ?_
    refine ai_goto (tgt := 5) dX0_outwards_40 (by decide) ?_
    refine ai_locj (lv' := [(0, .ref 10), (2, .int p2), (3, .int (S 12 (r).toNatClampNeg)), (4, .int (j + 1))]) [2, 3, 1, 0] rfl ?_
    exact h
end GC0
