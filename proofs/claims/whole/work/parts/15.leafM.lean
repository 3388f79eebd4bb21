section GM0
variable {l : Launch} {D : va_G} {ρ : Nat → Nat} {τ : Nat → ClassId} {d : Nat}
set_option maxHeartbeats 4000000 in
set_option maxRecDepth 100000 in
theorem vX6_within {p1 : Int32} {p2 : Int32} {p3 : Int32} {S : ai_S} {V : ai_V} {G : Bool → ai_S → Prop}
    (h : ((p1 < p2 → G false S) ∧ (¬ p1 < p2 → ((p3 < p1 → G false S) ∧ (¬ p3 < p1 → G true S))))) :
    ai_met (uM l D ρ τ) d mX6_within [.int p1, .int p2, .int p3] S V (ai_qz V G) := by
  refine ai_mof plX6 (Nat.le_of_ble_eq_true rfl) (lv := [(0, .int p1), (1, .int p2), (2, .int p3)]) rfl ?_
  refine ai_iload_n dX6_within_0 rfl (j := 0) rfl ?_
  refine ai_iload_n dX6_within_1 rfl (j := 1) rfl ?_
  refine ai_icmp_lt (tgt := 14) dX6_within_2 (by decide) ⟨fun (hc1 : p1 < p2) => ?_, fun (hc1 : ¬ p1 < p2) => ?_⟩
  · have h := h.1 hc1
    refine ai_iconst (v := 0) dX6_within_14 (by decide) ?_
    exact ai_retf dX6_within_15 rfl h
  · have h := h.2 hc1
    refine ai_iload_n dX6_within_5 rfl (j := 0) rfl ?_
    refine ai_iload_n dX6_within_6 rfl (j := 2) rfl ?_
    refine ai_icmp_gt (tgt := 14) dX6_within_7 (by decide) ⟨fun (hc2 : p3 < p1) => ?_, fun (hc2 : ¬ p3 < p1) => ?_⟩
    · have h := h.1 hc2
      refine ai_iconst (v := 0) dX6_within_14 (by decide) ?_
      exact ai_retf dX6_within_15 rfl h
    · have h := h.2 hc2
      refine ai_iconst (v := 1) dX6_within_10 (by decide) ?_
      refine ai_goto (tgt := 15) dX6_within_11 (by decide) ?_
      exact ai_rett dX6_within_15 rfl h
set_option maxHeartbeats 4000000 in
set_option maxRecDepth 100000 in
theorem vX6_need {p1 : Int32} {S : ai_S} {V : ai_V} {G : ai_S → Prop}
    (h : ((¬ p1 = 0 → G S) ∧ (p1 = 0 → G (ai_up S 0 19 1)))) :
    ai_met (uM l D ρ τ) d mX6_need [.ref 0, .int p1] S V (ai_qv V G) := by
  refine ai_mof plX6 (Nat.le_of_ble_eq_true rfl) (lv := [(0, .ref 0), (1, .int p1)]) rfl ?_
  refine ai_iload_n dX6_need_0 rfl (j := 1) rfl ?_
  refine ai_if_ne (tgt := 9) dX6_need_1 (by decide) ⟨fun (hc1 : ¬ p1 = 0) => ?_, fun (hc1 : p1 = 0) => ?_⟩
  · have h := h.1 hc1
    exact ai_retv dX6_need_9 rfl h
  · have h := h.2 hc1
    refine ai_aload_n dX6_need_4 rfl (j := 0) rfl ?_
    refine ai_iconst (v := 1) dX6_need_5 (by decide) ?_
    refine ai_putI dX6_need_6 fdX6_124 pdX6_19 rfl rfl rfl rfl ?_
    exact ai_retv dX6_need_9 rfl h
set_option maxHeartbeats 4000000 in
set_option maxRecDepth 100000 in
theorem vX6_isLetter {p1 : Int32} {S : ai_S} {V : ai_V} {G : Bool → ai_S → Prop}
    (h : ai_met (uM l D ρ τ) d mX6_within [.int p1, .int 97, .int 122] S V (ai_qz V (fun b1 S2 => (b1 = true → G true S2) ∧ (b1 = false → G false S2)))) :
    ai_met (uM l D ρ τ) (d + 1) mX6_isLetter [.ref 0, .int p1] S V (ai_qz V G) := by
  refine ai_mof plX6 (Nat.le_of_ble_eq_true rfl) (lv := [(0, .ref 0), (1, .int p1)]) rfl ?_
  refine ai_iload_n dX6_isLetter_0 rfl (j := 1) rfl ?_
  refine ai_bipush (v := 97) dX6_isLetter_1 (by decide) ?_
  refine ai_bipush (v := 122) dX6_isLetter_3 (by decide) ?_
  refine ai_callSz (As := [.int p1, .int 97, .int 122]) (rest := []) dX6_isLetter_5 csX6_111 rfl rfl (Nat.le_of_ble_eq_true rfl) (ai_met.mz h (fun S2 h => ?_) (fun S2 h => ?_))
  · show ai_W _ _ _ _ _ _ _ _ _
    exact ai_rett dX6_isLetter_8 rfl h
  · show ai_W _ _ _ _ _ _ _ _ _
    exact ai_retf dX6_isLetter_8 rfl h
set_option maxHeartbeats 4000000 in
set_option maxRecDepth 100000 in
theorem vX6_push {p1 : Int32} {p2 : Int32} {S : ai_S} {V : ai_V} {G : ai_S → Prop}
    (h : (vp_in (S 0 30) 80 ∧ G (ai_up (ai_up (ai_up (ai_up (ai_up (ai_up S 13 ((S 0 30)).toNatClampNeg p1) 14 ((S 0 30)).toNatClampNeg 0) 15 ((S 0 30)).toNatClampNeg p2) 16 ((S 0 30)).toNatClampNeg 0) 17 ((S 0 30)).toNatClampNeg 0) 0 30 ((S 0 30) + 1)))) :
    ai_met (uM l D ρ τ) d mX6_push [.ref 0, .int p1, .int p2] S V (ai_qv V G) := by
  refine ai_mof plX6 (Nat.le_of_ble_eq_true rfl) (lv := [(0, .ref 0), (1, .int p1), (2, .int p2)]) rfl ?_
  refine ai_aload_n dX6_push_0 rfl (j := 0) rfl ?_
  refine ai_getR dX6_push_1 fdX6_46 rfl rfl ?_
  refine ai_aload_n dX6_push_4 rfl (j := 0) rfl ?_
  refine ai_getI dX6_push_5 fdX6_115 rfl rfl ?_
  refine ai_iload_n dX6_push_8 rfl (j := 1) rfl ?_
  refine ai_iast dX6_push_9 rfl ⟨h.1, ?_⟩
  have hi1 := h.1
  have h := h.2
  refine ai_aload_n dX6_push_10 rfl (j := 0) rfl ?_
  refine ai_getR dX6_push_11 fdX6_49 rfl rfl ?_
  refine ai_aload_n dX6_push_14 rfl (j := 0) rfl ?_
  refine ai_getIx (S 0 30) dX6_push_15 fdX6_115 rfl rfl rfl ?_
  refine ai_iconst (v := 0) dX6_push_18 (by decide) ?_
  refine ai_iast dX6_push_19 rfl ⟨hi1, ?_⟩
  refine ai_aload_n dX6_push_20 rfl (j := 0) rfl ?_
  refine ai_getR dX6_push_21 fdX6_52 rfl rfl ?_
  refine ai_aload_n dX6_push_24 rfl (j := 0) rfl ?_
  refine ai_getIx (S 0 30) dX6_push_25 fdX6_115 rfl rfl rfl ?_
  refine ai_iload_n dX6_push_28 rfl (j := 2) rfl ?_
  refine ai_iast dX6_push_29 rfl ⟨hi1, ?_⟩
  refine ai_aload_n dX6_push_30 rfl (j := 0) rfl ?_
  refine ai_getR dX6_push_31 fdX6_55 rfl rfl ?_
  refine ai_aload_n dX6_push_34 rfl (j := 0) rfl ?_
  refine ai_getIx (S 0 30) dX6_push_35 fdX6_115 rfl rfl rfl ?_
  refine ai_iconst (v := 0) dX6_push_38 (by decide) ?_
  refine ai_iast dX6_push_39 rfl ⟨hi1, ?_⟩
  refine ai_aload_n dX6_push_40 rfl (j := 0) rfl ?_
  refine ai_getR dX6_push_41 fdX6_58 rfl rfl ?_
  refine ai_aload_n dX6_push_44 rfl (j := 0) rfl ?_
  refine ai_getIx (S 0 30) dX6_push_45 fdX6_115 rfl rfl rfl ?_
  refine ai_iconst (v := 0) dX6_push_48 (by decide) ?_
  refine ai_iast dX6_push_49 rfl ⟨hi1, ?_⟩
  refine ai_aload_n dX6_push_50 rfl (j := 0) rfl ?_
  refine ai_dup dX6_push_51 rfl ?_
  refine ai_getIx (S 0 30) dX6_push_52 fdX6_115 rfl rfl rfl ?_
  refine ai_iconst (v := 1) dX6_push_55 (by decide) ?_
  refine ai_iadd dX6_push_56 ?_
  refine ai_putI dX6_push_57 fdX6_115 pdX6_30 rfl rfl rfl rfl ?_
  exact ai_retv dX6_push_60 rfl h
set_option maxHeartbeats 4000000 in
set_option maxRecDepth 100000 in
theorem vX6_fresh {p1 : Int32} {S : ai_S} {V : ai_V} {G : Int32 → ai_S → Prop}
    (h : (vp_in ((S 0 15) + 1) 700 ∧ G ((S 0 15) + 1) (ai_up (ai_up (ai_up (ai_up (ai_up (ai_up S 0 15 ((S 0 15) + 1)) 2 (((S 0 15) + 1)).toNatClampNeg p1) 3 (((S 0 15) + 1)).toNatClampNeg 0) 4 (((S 0 15) + 1)).toNatClampNeg 0) 5 (((S 0 15) + 1)).toNatClampNeg 0) 8 (((S 0 15) + 1)).toNatClampNeg 0))) :
    ai_met (uM l D ρ τ) d mX6_fresh [.ref 0, .int p1] S V (ai_qi V G) := by
  refine ai_mof plX6 (Nat.le_of_ble_eq_true rfl) (lv := [(0, .ref 0), (1, .int p1)]) rfl ?_
  refine ai_aload_n dX6_fresh_0 rfl (j := 0) rfl ?_
  refine ai_dup dX6_fresh_1 rfl ?_
  refine ai_getI dX6_fresh_2 fdX6_118 rfl rfl ?_
  refine ai_iconst (v := 1) dX6_fresh_5 (by decide) ?_
  refine ai_iadd dX6_fresh_6 ?_
  refine ai_putI dX6_fresh_7 fdX6_118 pdX6_15 rfl rfl rfl rfl ?_
  refine ai_aload_n dX6_fresh_10 rfl (j := 0) rfl ?_
  refine ai_getR dX6_fresh_11 fdX6_13 rfl rfl ?_
  refine ai_aload_n dX6_fresh_14 rfl (j := 0) rfl ?_
  refine ai_getIx ((S 0 15) + 1) dX6_fresh_15 fdX6_118 rfl rfl rfl ?_
  refine ai_iload_n dX6_fresh_18 rfl (j := 1) rfl ?_
  refine ai_iast dX6_fresh_19 rfl ⟨h.1, ?_⟩
  have hi1 := h.1
  have h := h.2
  refine ai_aload_n dX6_fresh_20 rfl (j := 0) rfl ?_
  refine ai_getR dX6_fresh_21 fdX6_16 rfl rfl ?_
  refine ai_aload_n dX6_fresh_24 rfl (j := 0) rfl ?_
  refine ai_getIx ((S 0 15) + 1) dX6_fresh_25 fdX6_118 rfl rfl rfl ?_
  refine ai_iconst (v := 0) dX6_fresh_28 (by decide) ?_
  refine ai_iast dX6_fresh_29 rfl ⟨hi1, ?_⟩
  refine ai_aload_n dX6_fresh_30 rfl (j := 0) rfl ?_
  refine ai_getR dX6_fresh_31 fdX6_19 rfl rfl ?_
  refine ai_aload_n dX6_fresh_34 rfl (j := 0) rfl ?_
  refine ai_getIx ((S 0 15) + 1) dX6_fresh_35 fdX6_118 rfl rfl rfl ?_
  refine ai_iconst (v := 0) dX6_fresh_38 (by decide) ?_
  refine ai_iast dX6_fresh_39 rfl ⟨hi1, ?_⟩
  refine ai_aload_n dX6_fresh_40 rfl (j := 0) rfl ?_
  refine ai_getR dX6_fresh_41 fdX6_22 rfl rfl ?_
  refine ai_aload_n dX6_fresh_44 rfl (j := 0) rfl ?_
  refine ai_getIx ((S 0 15) + 1) dX6_fresh_45 fdX6_118 rfl rfl rfl ?_
  refine ai_iconst (v := 0) dX6_fresh_48 (by decide) ?_
  refine ai_iast dX6_fresh_49 rfl ⟨hi1, ?_⟩
  refine ai_aload_n dX6_fresh_50 rfl (j := 0) rfl ?_
  refine ai_getR dX6_fresh_51 fdX6_31 rfl rfl ?_
  refine ai_aload_n dX6_fresh_54 rfl (j := 0) rfl ?_
  refine ai_getIx ((S 0 15) + 1) dX6_fresh_55 fdX6_118 rfl rfl rfl ?_
  refine ai_iconst (v := 0) dX6_fresh_58 (by decide) ?_
  refine ai_iast dX6_fresh_59 rfl ⟨hi1, ?_⟩
  refine ai_aload_n dX6_fresh_60 rfl (j := 0) rfl ?_
  refine ai_getIx ((S 0 15) + 1) dX6_fresh_61 fdX6_118 rfl rfl rfl ?_
  exact ai_reti dX6_fresh_64 rfl h
set_option maxHeartbeats 4000000 in
set_option maxRecDepth 100000 in
theorem vX6_done {p1 : Int32} {S : ai_S} {V : ai_V} {G : ai_S → Prop}
    (h : G (ai_up (ai_up S 0 31 p1) 0 30 ((S 0 30) - 1))) :
    ai_met (uM l D ρ τ) d mX6_done [.ref 0, .int p1] S V (ai_qv V G) := by
  refine ai_mof plX6 (Nat.le_of_ble_eq_true rfl) (lv := [(0, .ref 0), (1, .int p1)]) rfl ?_
  refine ai_aload_n dX6_done_0 rfl (j := 0) rfl ?_
  refine ai_iload_n dX6_done_1 rfl (j := 1) rfl ?_
  refine ai_putI dX6_done_2 fdX6_121 pdX6_31 rfl rfl rfl rfl ?_
  refine ai_aload_n dX6_done_5 rfl (j := 0) rfl ?_
  refine ai_dup dX6_done_6 rfl ?_
  refine ai_getIx (S 0 30) dX6_done_7 fdX6_115 rfl rfl rfl ?_
  refine ai_iconst (v := 1) dX6_done_10 (by decide) ?_
  refine ai_isub dX6_done_11 ?_
  refine ai_putI dX6_done_12 fdX6_115 pdX6_30 rfl rfl rfl rfl ?_
  exact ai_retv dX6_done_15 rfl h
set_option maxHeartbeats 4000000 in
set_option maxRecDepth 100000 in
theorem vX6_later {p1 : Int32} {p2 : Int32} {p3 : Int32} {S : ai_S} {V : ai_V} {G : ai_S → Prop}
    (h : (vp_in (S 0 39) 7000 ∧ G (ai_up (ai_up S 22 ((S 0 39)).toNatClampNeg ((p1 + (16 * p2)) + (16384 * p3))) 0 39 ((S 0 39) + 1)))) :
    ai_met (uM l D ρ τ) d mX6_later [.ref 0, .int p1, .int p2, .int p3] S V (ai_qv V G) := by
  refine ai_mof plX6 (Nat.le_of_ble_eq_true rfl) (lv := [(0, .ref 0), (1, .int p1), (2, .int p2), (3, .int p3)]) rfl ?_
  refine ai_aload_n dX6_later_0 rfl (j := 0) rfl ?_
  refine ai_getR dX6_later_1 fdX6_73 rfl rfl ?_
  refine ai_aload_n dX6_later_4 rfl (j := 0) rfl ?_
  refine ai_getI dX6_later_5 fdX6_227 rfl rfl ?_
  refine ai_iload_n dX6_later_8 rfl (j := 1) rfl ?_
  refine ai_bipush (v := 16) dX6_later_9 (by decide) ?_
  refine ai_iload_n dX6_later_11 rfl (j := 2) rfl ?_
  refine ai_imul dX6_later_12 ?_
  refine ai_iadd dX6_later_13 ?_
  refine ai_sipush (v := 16384) dX6_later_14 (by decide) ?_
  refine ai_iload_n dX6_later_17 rfl (j := 3) rfl ?_
  refine ai_imul dX6_later_18 ?_
  refine ai_iadd dX6_later_19 ?_
  refine ai_iast dX6_later_20 rfl ⟨h.1, ?_⟩
  have hi1 := h.1
  have h := h.2
  refine ai_aload_n dX6_later_21 rfl (j := 0) rfl ?_
  refine ai_dup dX6_later_22 rfl ?_
  refine ai_getIx (S 0 39) dX6_later_23 fdX6_227 rfl rfl rfl ?_
  refine ai_iconst (v := 1) dX6_later_26 (by decide) ?_
  refine ai_iadd dX6_later_27 ?_
  refine ai_putI dX6_later_28 fdX6_227 pdX6_39 rfl rfl rfl rfl ?_
  exact ai_retv dX6_later_31 rfl h
set_option maxHeartbeats 4000000 in
set_option maxRecDepth 100000 in
theorem vX6_pay {S : ai_S} {V : ai_V} {G : Bool → ai_S → Prop}
    (h : ((¬ (S 0 53) = (S 0 52) → G true (ai_up S 0 53 ((S 0 53) + 1))) ∧ ((S 0 53) = (S 0 52) → G false (ai_up S 0 51 1)))) :
    ai_met (uM l D ρ τ) d mX6_pay [.ref 0] S V (ai_qz V G) := by
  refine ai_mof plX6 (Nat.le_of_ble_eq_true rfl) (lv := [(0, .ref 0)]) rfl ?_
  refine ai_aload_n dX6_pay_0 rfl (j := 0) rfl ?_
  refine ai_getI dX6_pay_1 fdX6_230 rfl rfl ?_
  refine ai_aload_n dX6_pay_4 rfl (j := 0) rfl ?_
  refine ai_getI dX6_pay_5 fdX6_233 rfl rfl ?_
  refine ai_icmp_ne (tgt := 18) dX6_pay_8 (by decide) ⟨fun (hc1 : ¬ (S 0 53) = (S 0 52)) => ?_, fun (hc1 : (S 0 53) = (S 0 52)) => ?_⟩
  · have h := h.1 hc1
    refine ai_aload_n dX6_pay_18 rfl (j := 0) rfl ?_
    refine ai_dup dX6_pay_19 rfl ?_
    refine ai_getI dX6_pay_20 fdX6_230 rfl rfl ?_
    refine ai_iconst (v := 1) dX6_pay_23 (by decide) ?_
    refine ai_iadd dX6_pay_24 ?_
    refine ai_putI dX6_pay_25 fdX6_230 pdX6_53 rfl rfl rfl rfl ?_
    refine ai_iconst (v := 1) dX6_pay_28 (by decide) ?_
    exact ai_rett dX6_pay_29 rfl h
  · have h := h.2 hc1
    refine ai_aload_n dX6_pay_11 rfl (j := 0) rfl ?_
    refine ai_iconst (v := 1) dX6_pay_12 (by decide) ?_
    refine ai_putI dX6_pay_13 fdX6_236 pdX6_51 rfl rfl rfl rfl ?_
    refine ai_iconst (v := 0) dX6_pay_16 (by decide) ?_
    exact ai_retf dX6_pay_17 rfl h
set_option maxHeartbeats 4000000 in
set_option maxRecDepth 100000 in
theorem vX6_add {p1 : Int32} {S : ai_S} {V : ai_V} {G : ai_S → Prop}
    (h : (vp_in p1 80 ∧ ((¬ (S 16 (p1).toNatClampNeg) = 0 → (vp_in (S 16 (p1).toNatClampNeg) 700 ∧ G (ai_up (ai_up S 4 ((S 16 (p1).toNatClampNeg)).toNatClampNeg (S 0 31)) 16 (p1).toNatClampNeg (S 0 31)))) ∧ ((S 16 (p1).toNatClampNeg) = 0 → (vp_in (S 14 (p1).toNatClampNeg) 700 ∧ G (ai_up (ai_up S 3 ((S 14 (p1).toNatClampNeg)).toNatClampNeg (S 0 31)) 16 (p1).toNatClampNeg (S 0 31))))))) :
    ai_met (uM l D ρ τ) d mX6_add [.ref 0, .int p1] S V (ai_qv V G) := by
  refine ai_mof plX6 (Nat.le_of_ble_eq_true rfl) (lv := [(0, .ref 0), (1, .int p1)]) rfl ?_
  refine ai_aload_n dX6_add_0 rfl (j := 0) rfl ?_
  refine ai_getR dX6_add_1 fdX6_55 rfl rfl ?_
  refine ai_iload_n dX6_add_4 rfl (j := 1) rfl ?_
  refine ai_iald dX6_add_5 rfl ⟨h.1, ?_⟩
  have hi1 := h.1
  have h := h.2
  refine ai_if_ne (tgt := 27) dX6_add_6 (by decide) ⟨fun (hc2 : ¬ (S 16 (p1).toNatClampNeg) = 0) => ?_, fun (hc2 : (S 16 (p1).toNatClampNeg) = 0) => ?_⟩
  · have h := h.1 hc2
    refine ai_aload_n dX6_add_27 rfl (j := 0) rfl ?_
    refine ai_getR dX6_add_28 fdX6_19 rfl rfl ?_
    refine ai_aload_n dX6_add_31 rfl (j := 0) rfl ?_
    refine ai_getR dX6_add_32 fdX6_55 rfl rfl ?_
    refine ai_iload_n dX6_add_35 rfl (j := 1) rfl ?_
    refine ai_iald dX6_add_36 rfl ⟨hi1, ?_⟩
    refine ai_aload_n dX6_add_37 rfl (j := 0) rfl ?_
    refine ai_getI dX6_add_38 fdX6_121 rfl rfl ?_
    refine ai_iast dX6_add_41 rfl ⟨h.1, ?_⟩
    have hi3 := h.1
    have h := h.2
    refine ai_aload_n dX6_add_42 rfl (j := 0) rfl ?_
    refine ai_getR dX6_add_43 fdX6_55 rfl rfl ?_
    refine ai_iload_n dX6_add_46 rfl (j := 1) rfl ?_
    refine ai_aload_n dX6_add_47 rfl (j := 0) rfl ?_
    refine ai_getIx (S 0 31) dX6_add_48 fdX6_121 rfl rfl rfl ?_
    refine ai_iast dX6_add_51 rfl ⟨hi1, ?_⟩
    exact ai_retv dX6_add_52 rfl h
  · have h := h.2 hc2
    refine ai_aload_n dX6_add_9 rfl (j := 0) rfl ?_
    refine ai_getR dX6_add_10 fdX6_16 rfl rfl ?_
    refine ai_aload_n dX6_add_13 rfl (j := 0) rfl ?_
    refine ai_getR dX6_add_14 fdX6_49 rfl rfl ?_
    refine ai_iload_n dX6_add_17 rfl (j := 1) rfl ?_
    refine ai_iald dX6_add_18 rfl ⟨hi1, ?_⟩
    refine ai_aload_n dX6_add_19 rfl (j := 0) rfl ?_
    refine ai_getI dX6_add_20 fdX6_121 rfl rfl ?_
    refine ai_iast dX6_add_23 rfl ⟨h.1, ?_⟩
    have hi4 := h.1
    have h := h.2
    refine ai_goto (tgt := 42) dX6_add_24 (by decide) ?_
    refine ai_aload_n dX6_add_42 rfl (j := 0) rfl ?_
    refine ai_getR dX6_add_43 fdX6_55 rfl rfl ?_
    refine ai_iload_n dX6_add_46 rfl (j := 1) rfl ?_
    refine ai_aload_n dX6_add_47 rfl (j := 0) rfl ?_
    refine ai_getIx (S 0 31) dX6_add_48 fdX6_121 rfl rfl rfl ?_
    refine ai_iast dX6_add_51 rfl ⟨hi1, ?_⟩
    exact ai_retv dX6_add_52 rfl h
set_option maxHeartbeats 4000000 in
set_option maxRecDepth 100000 in
theorem vX6_goDeeper {p1 : Int32} {S : ai_S} {V : ai_V} {G : ai_S → Prop}
    (h : (vp_in p1 80 ∧ ((10 < (S 15 (p1).toNatClampNeg) → (((S 15 (p1).toNatClampNeg) ≤ (S 0 24) → G (ai_up S 0 19 1)) ∧ (¬ (S 15 (p1).toNatClampNeg) ≤ (S 0 24) → G (ai_up (ai_up S 0 19 1) 0 24 (S 15 (p1).toNatClampNeg))))) ∧ (¬ 10 < (S 15 (p1).toNatClampNeg) → (((S 15 (p1).toNatClampNeg) ≤ (S 0 24) → G S) ∧ (¬ (S 15 (p1).toNatClampNeg) ≤ (S 0 24) → G (ai_up S 0 24 (S 15 (p1).toNatClampNeg)))))))) :
    ai_met (uM l D ρ τ) (d + 1) mX6_goDeeper [.ref 0, .int p1] S V (ai_qv V G) := by
  refine ai_mof plX6 (Nat.le_of_ble_eq_true rfl) (lv := [(0, .ref 0), (1, .int p1)]) rfl ?_
  refine ai_aload_n dX6_goDeeper_0 rfl (j := 0) rfl ?_
  refine ai_aload_n dX6_goDeeper_1 rfl (j := 0) rfl ?_
  refine ai_getR dX6_goDeeper_2 fdX6_52 rfl rfl ?_
  refine ai_iload_n dX6_goDeeper_5 rfl (j := 1) rfl ?_
  refine ai_iald dX6_goDeeper_6 rfl ⟨h.1, ?_⟩
  have hi1 := h.1
  have h := h.2
  refine ai_bipush (v := 10) dX6_goDeeper_7 (by decide) ?_
  refine ai_icmp_gt (tgt := 16) dX6_goDeeper_9 (by decide) ⟨fun (hc2 : 10 < (S 15 (p1).toNatClampNeg)) => ?_, fun (hc2 : ¬ 10 < (S 15 (p1).toNatClampNeg)) => ?_⟩
  · have h := h.1 hc2
    refine ai_iconst (v := 0) dX6_goDeeper_16 (by decide) ?_
    refine ai_callVv (As := [.int 0]) (rest := []) dX6_goDeeper_17 cvX6_141 rfl rfl rfl (Nat.le_of_ble_eq_true rfl) (vX6_need ?_)
    refine ⟨fun hc => absurd hc (by decide), fun _ => ?_⟩
    show ai_W _ _ _ _ _ _ (ai_up S 0 19 1) _ _
    refine ai_aload_n dX6_goDeeper_20 rfl (j := 0) rfl ?_
    refine ai_getR dX6_goDeeper_21 fdX6_52 rfl rfl ?_
    refine ai_iload_n dX6_goDeeper_24 rfl (j := 1) rfl ?_
    refine ai_ialdx (S 15 (p1).toNatClampNeg) dX6_goDeeper_25 rfl rfl ⟨hi1, ?_⟩
    refine ai_aload_n dX6_goDeeper_26 rfl (j := 0) rfl ?_
    refine ai_getIx (S 0 24) dX6_goDeeper_27 fdX6_145 rfl rfl rfl ?_
    refine ai_icmp_le (tgt := 43) dX6_goDeeper_30 (by decide) ⟨fun (hc3 : (S 15 (p1).toNatClampNeg) ≤ (S 0 24)) => ?_, fun (hc3 : ¬ (S 15 (p1).toNatClampNeg) ≤ (S 0 24)) => ?_⟩
    · have h := h.1 hc3
      exact ai_retv dX6_goDeeper_43 rfl h
    · have h := h.2 hc3
      refine ai_aload_n dX6_goDeeper_33 rfl (j := 0) rfl ?_
      refine ai_aload_n dX6_goDeeper_34 rfl (j := 0) rfl ?_
      refine ai_getR dX6_goDeeper_35 fdX6_52 rfl rfl ?_
      refine ai_iload_n dX6_goDeeper_38 rfl (j := 1) rfl ?_
      refine ai_ialdx (S 15 (p1).toNatClampNeg) dX6_goDeeper_39 rfl rfl ⟨hi1, ?_⟩
      refine ai_putI dX6_goDeeper_40 fdX6_145 pdX6_24 rfl rfl rfl rfl ?_
      exact ai_retv dX6_goDeeper_43 rfl h
  · have h := h.2 hc2
    refine ai_iconst (v := 1) dX6_goDeeper_12 (by decide) ?_
    refine ai_goto (tgt := 17) dX6_goDeeper_13 (by decide) ?_
    refine ai_callVv (As := [.int 1]) (rest := []) dX6_goDeeper_17 cvX6_141 rfl rfl rfl (Nat.le_of_ble_eq_true rfl) (vX6_need ?_)
    refine ⟨fun _ => ?_, fun hc => absurd hc (by decide)⟩
    show ai_W _ _ _ _ _ _ S _ _
    refine ai_aload_n dX6_goDeeper_20 rfl (j := 0) rfl ?_
    refine ai_getR dX6_goDeeper_21 fdX6_52 rfl rfl ?_
    refine ai_iload_n dX6_goDeeper_24 rfl (j := 1) rfl ?_
    refine ai_iald dX6_goDeeper_25 rfl ⟨hi1, ?_⟩
    refine ai_aload_n dX6_goDeeper_26 rfl (j := 0) rfl ?_
    refine ai_getI dX6_goDeeper_27 fdX6_145 rfl rfl ?_
    refine ai_icmp_le (tgt := 43) dX6_goDeeper_30 (by decide) ⟨fun (hc4 : (S 15 (p1).toNatClampNeg) ≤ (S 0 24)) => ?_, fun (hc4 : ¬ (S 15 (p1).toNatClampNeg) ≤ (S 0 24)) => ?_⟩
    · have h := h.1 hc4
      exact ai_retv dX6_goDeeper_43 rfl h
    · have h := h.2 hc4
      refine ai_aload_n dX6_goDeeper_33 rfl (j := 0) rfl ?_
      refine ai_aload_n dX6_goDeeper_34 rfl (j := 0) rfl ?_
      refine ai_getR dX6_goDeeper_35 fdX6_52 rfl rfl ?_
      refine ai_iload_n dX6_goDeeper_38 rfl (j := 1) rfl ?_
      refine ai_iald dX6_goDeeper_39 rfl ⟨hi1, ?_⟩
      refine ai_putI dX6_goDeeper_40 fdX6_145 pdX6_24 rfl rfl rfl rfl ?_
      exact ai_retv dX6_goDeeper_43 rfl h
set_option maxHeartbeats 4000000 in
set_option maxRecDepth 100000 in
theorem vX6_write {p1 : Int64} {S : ai_S} {V : ai_V} {G : Int32 → ai_S → Prop}
    (h : ai_W (uM l D ρ τ) d mX6_write 5 [(0, .ref 0), (1, .long p1), (3, .int 0), (4, .int 0)] [] S V (ai_qi V G)) :
    ai_met (uM l D ρ τ) d mX6_write [.ref 0, .long p1] S V (ai_qi V G) := by
  refine ai_mof plX6 (Nat.le_of_ble_eq_true rfl) (lv := [(0, .ref 0), (1, .long p1)]) rfl ?_
  refine ai_iconst (v := 0) dX6_write_0 (by decide) ?_
  refine ai_istore_n (lv' := [(3, .int 0), (0, .ref 0), (1, .long p1)]) dX6_write_1 rfl (by decide) rfl ?_
  refine ai_iconst (v := 0) dX6_write_2 (by decide) ?_
  refine ai_istore (lv' := [(4, .int 0), (3, .int 0), (0, .ref 0), (1, .long p1)]) dX6_write_3 (by decide) rfl ?_
  refine ai_locj (lv' := [(0, .ref 0), (1, .long p1), (3, .int 0), (4, .int 0)]) [2, 3, 1, 0] rfl ?_
  exact h
set_option maxHeartbeats 4000000 in
set_option maxRecDepth 100000 in
theorem vX6_write_5 {p1 : Int64} {n : Int32} {j : Int32} {S : ai_S} {V : ai_V} {G : Int32 → ai_S → Prop}
    (h : ((8 ≤ j → ((((S 0 1) + n) ≤ 320 → ai_W (uM l D ρ τ) d mX6_write 69 [(0, .ref 0), (1, .long p1), (3, .int n), (4, .int 0)] [] S V (ai_qi V G)) ∧ (¬ ((S 0 1) + n) ≤ 320 → G (-1) S))) ∧ (¬ 8 ≤ j → ((¬ ((Int64.toInt32 (p1 >>> (Int32.toInt64 (8 * j) &&& 63))) &&& (255 : Int32)) = 0 → ((((Int64.toInt32 (p1 >>> (Int32.toInt64 (8 * j) &&& 63))) &&& (255 : Int32)) ≤ 127 → ai_W (uM l D ρ τ) d mX6_write 5 [(0, .ref 0), (1, .long p1), (3, .int (n + 1)), (4, .int (j + 1))] [] S V (ai_qi V G)) ∧ (¬ ((Int64.toInt32 (p1 >>> (Int32.toInt64 (8 * j) &&& 63))) &&& (255 : Int32)) ≤ 127 → G (-1) S))) ∧ (((Int64.toInt32 (p1 >>> (Int32.toInt64 (8 * j) &&& 63))) &&& (255 : Int32)) = 0 → ((((S 0 1) + n) ≤ 320 → ai_W (uM l D ρ τ) d mX6_write 69 [(0, .ref 0), (1, .long p1), (3, .int n), (4, .int 0)] [] S V (ai_qi V G)) ∧ (¬ ((S 0 1) + n) ≤ 320 → G (-1) S))))))) :
    ai_W (uM l D ρ τ) d mX6_write 5 [(0, .ref 0), (1, .long p1), (3, .int n), (4, .int j)] [] S V (ai_qi V G) := by
  refine ai_iload dX6_write_5 (j := 3) rfl ?_
  refine ai_bipush (v := 8) dX6_write_7 (by decide) ?_
  refine ai_icmp_ge (tgt := 52) dX6_write_9 (by decide) ⟨fun (hc1 : 8 ≤ j) => ?_, fun (hc1 : ¬ 8 ≤ j) => ?_⟩
  · have h := h.1 hc1
    refine ai_aload_n dX6_write_52 rfl (j := 0) rfl ?_
    refine ai_getI dX6_write_53 fdX6_100 rfl rfl ?_
    refine ai_iload_n dX6_write_56 rfl (j := 2) rfl ?_
    refine ai_iadd dX6_write_57 ?_
    refine ai_sipush (v := 320) dX6_write_58 (by decide) ?_
    refine ai_icmp_le (tgt := 66) dX6_write_61 (by decide) ⟨fun (hc2 : ((S 0 1) + n) ≤ 320) => ?_, fun (hc2 : ¬ ((S 0 1) + n) ≤ 320) => ?_⟩
    · have h := h.1 hc2
      refine ai_iconst (v := 0) dX6_write_66 (by decide) ?_
      refine ai_istore (lv' := [(4, .int 0), (0, .ref 0), (1, .long p1), (3, .int n)]) dX6_write_67 (by decide) rfl ?_
      refine ai_locj (lv' := [(0, .ref 0), (1, .long p1), (3, .int n), (4, .int 0)]) [1, 2, 3, 0] rfl ?_
      exact h
    · have h := h.2 hc2
      refine ai_iconst (v := (-1)) dX6_write_64 (by decide) ?_
      exact ai_reti dX6_write_65 rfl h
  · have h := h.2 hc1
    refine ai_lload_n dX6_write_12 rfl (j := 1) rfl ?_
    refine ai_bipush (v := 8) dX6_write_13 (by decide) ?_
    refine ai_iload dX6_write_15 (j := 3) rfl ?_
    refine ai_imul dX6_write_17 ?_
    refine ai_lshr dX6_write_18 ?_
    refine ai_l2i dX6_write_19 ?_
    refine ai_sipush (v := 255) dX6_write_20 (by decide) ?_
    refine ai_iand dX6_write_23 ?_
    refine ai_istore (lv' := [(5, .int ((Int64.toInt32 (p1 >>> (Int32.toInt64 (8 * j) &&& 63))) &&& (255 : Int32))), (0, .ref 0), (1, .long p1), (3, .int n), (4, .int j)]) dX6_write_24 (by decide) rfl ?_
    refine ai_iload dX6_write_26 (j := 0) rfl ?_
    refine ai_if_ne (tgt := 34) dX6_write_28 (by decide) ⟨fun (hc3 : ¬ ((Int64.toInt32 (p1 >>> (Int32.toInt64 (8 * j) &&& 63))) &&& (255 : Int32)) = 0) => ?_, fun (hc3 : ((Int64.toInt32 (p1 >>> (Int32.toInt64 (8 * j) &&& 63))) &&& (255 : Int32)) = 0) => ?_⟩
    · have h := h.1 hc3
      refine ai_iload dX6_write_34 (j := 0) rfl ?_
      refine ai_bipush (v := 127) dX6_write_36 (by decide) ?_
      refine ai_icmp_le (tgt := 43) dX6_write_38 (by decide) ⟨fun (hc4 : ((Int64.toInt32 (p1 >>> (Int32.toInt64 (8 * j) &&& 63))) &&& (255 : Int32)) ≤ 127) => ?_, fun (hc4 : ¬ ((Int64.toInt32 (p1 >>> (Int32.toInt64 (8 * j) &&& 63))) &&& (255 : Int32)) ≤ 127) => ?_⟩
      · have h := h.1 hc4
        refine ai_iinc (j := 3) (v := (n + 1)) (lv' := [(3, .int (n + 1)), (5, .int ((Int64.toInt32 (p1 >>> (Int32.toInt64 (8 * j) &&& 63))) &&& (255 : Int32))), (0, .ref 0), (1, .long p1), (4, .int j)]) dX6_write_43 rfl (by first | rfl | decide) (by decide) rfl ?_
        refine ai_iinc (j := 4) (v := (j + 1)) (lv' := [(4, .int (j + 1)), (3, .int (n + 1)), (5, .int ((Int64.toInt32 (p1 >>> (Int32.toInt64 (8 * j) &&& 63))) &&& (255 : Int32))), (0, .ref 0), (1, .long p1)]) dX6_write_46 rfl (by first | rfl | decide) (by decide) rfl ?_
        refine ai_goto (tgt := 5) dX6_write_49 (by decide) ?_
        refine ai_locj (lv' := [(0, .ref 0), (1, .long p1), (3, .int (n + 1)), (4, .int (j + 1))]) [3, 4, 1, 0] rfl ?_
        exact h
      · have h := h.2 hc4
        refine ai_iconst (v := (-1)) dX6_write_41 (by decide) ?_
        exact ai_reti dX6_write_42 rfl h
    · have h := h.2 hc3
      refine ai_goto (tgt := 52) dX6_write_31 (by decide) ?_
      refine ai_aload_n dX6_write_52 rfl (j := 1) rfl ?_
      refine ai_getI dX6_write_53 fdX6_100 rfl rfl ?_
      refine ai_iload_n dX6_write_56 rfl (j := 3) rfl ?_
      refine ai_iadd dX6_write_57 ?_
      refine ai_sipush (v := 320) dX6_write_58 (by decide) ?_
      refine ai_icmp_le (tgt := 66) dX6_write_61 (by decide) ⟨fun (hc5 : ((S 0 1) + n) ≤ 320) => ?_, fun (hc5 : ¬ ((S 0 1) + n) ≤ 320) => ?_⟩
      · have h := h.1 hc5
        refine ai_iconst (v := 0) dX6_write_66 (by decide) ?_
        refine ai_istore (lv' := [(4, .int 0), (5, .int ((Int64.toInt32 (p1 >>> (Int32.toInt64 (8 * j) &&& 63))) &&& (255 : Int32))), (0, .ref 0), (1, .long p1), (3, .int n)]) dX6_write_67 (by decide) rfl ?_
        refine ai_locj (lv' := [(0, .ref 0), (1, .long p1), (3, .int n), (4, .int 0)]) [2, 3, 4, 0] rfl ?_
        exact h
      · have h := h.2 hc5
        refine ai_iconst (v := (-1)) dX6_write_64 (by decide) ?_
        exact ai_reti dX6_write_65 rfl h
set_option maxHeartbeats 4000000 in
set_option maxRecDepth 100000 in
theorem vX6_write_69 {p1 : Int64} {n : Int32} {j : Int32} {S : ai_S} {V : ai_V} {G : Int32 → ai_S → Prop}
    (h : ((n ≤ j → G n (ai_up S 0 1 ((S 0 1) + n))) ∧ (¬ n ≤ j → (vp_in ((S 0 1) + j) 320 ∧ ai_W (uM l D ρ τ) d mX6_write 69 [(0, .ref 0), (1, .long p1), (3, .int n), (4, .int (j + 1))] [] (ai_up S 1 (((S 0 1) + j)).toNatClampNeg ((Int64.toInt32 (p1 >>> (Int32.toInt64 (8 * j) &&& 63))) &&& (127 : Int32))) V (ai_qi V G))))) :
    ai_W (uM l D ρ τ) d mX6_write 69 [(0, .ref 0), (1, .long p1), (3, .int n), (4, .int j)] [] S V (ai_qi V G) := by
  refine ai_iload dX6_write_69 (j := 3) rfl ?_
  refine ai_iload_n dX6_write_71 rfl (j := 2) rfl ?_
  refine ai_icmp_ge (tgt := 104) dX6_write_72 (by decide) ⟨fun (hc1 : n ≤ j) => ?_, fun (hc1 : ¬ n ≤ j) => ?_⟩
  · have h := h.1 hc1
    refine ai_aload_n dX6_write_104 rfl (j := 0) rfl ?_
    refine ai_dup dX6_write_105 rfl ?_
    refine ai_getI dX6_write_106 fdX6_100 rfl rfl ?_
    refine ai_iload_n dX6_write_109 rfl (j := 2) rfl ?_
    refine ai_iadd dX6_write_110 ?_
    refine ai_putI dX6_write_111 fdX6_100 pdX6_1 rfl rfl rfl rfl ?_
    refine ai_iload_n dX6_write_114 rfl (j := 2) rfl ?_
    exact ai_reti dX6_write_115 rfl h
  · have h := h.2 hc1
    refine ai_aload_n dX6_write_75 rfl (j := 0) rfl ?_
    refine ai_getR dX6_write_76 fdX6_7 rfl rfl ?_
    refine ai_aload_n dX6_write_79 rfl (j := 0) rfl ?_
    refine ai_getI dX6_write_80 fdX6_100 rfl rfl ?_
    refine ai_iload dX6_write_83 (j := 3) rfl ?_
    refine ai_iadd dX6_write_85 ?_
    refine ai_lload_n dX6_write_86 rfl (j := 1) rfl ?_
    refine ai_bipush (v := 8) dX6_write_87 (by decide) ?_
    refine ai_iload dX6_write_89 (j := 3) rfl ?_
    refine ai_imul dX6_write_91 ?_
    refine ai_lshr dX6_write_92 ?_
    refine ai_l2i dX6_write_93 ?_
    refine ai_bipush (v := 127) dX6_write_94 (by decide) ?_
    refine ai_iand dX6_write_96 ?_
    refine ai_iast dX6_write_97 rfl ⟨h.1, ?_⟩
    have hi2 := h.1
    have h := h.2
    refine ai_iinc (j := 3) (v := (j + 1)) (lv' := [(4, .int (j + 1)), (0, .ref 0), (1, .long p1), (3, .int n)]) dX6_write_98 rfl (by first | rfl | decide) (by decide) rfl ?_
    refine ai_goto (tgt := 69) dX6_write_101 (by decide) ?_
    refine ai_locj (lv' := [(0, .ref 0), (1, .long p1), (3, .int n), (4, .int (j + 1))]) [1, 2, 3, 0] rfl ?_
    exact h
set_option maxHeartbeats 4000000 in
set_option maxRecDepth 100000 in
theorem vX6_erase {S : ai_S} {V : ai_V} {G : Int32 → ai_S → Prop}
    (h : G (S 0 1) (ai_up S 0 1 0)) :
    ai_met (uM l D ρ τ) d mX6_erase [.ref 0] S V (ai_qi V G) := by
  refine ai_mof plX6 (Nat.le_of_ble_eq_true rfl) (lv := [(0, .ref 0)]) rfl ?_
  refine ai_aload_n dX6_erase_0 rfl (j := 0) rfl ?_
  refine ai_getI dX6_erase_1 fdX6_100 rfl rfl ?_
  refine ai_istore_n (lv' := [(1, .int (S 0 1)), (0, .ref 0)]) dX6_erase_4 rfl (by decide) rfl ?_
  refine ai_aload_n dX6_erase_5 rfl (j := 1) rfl ?_
  refine ai_iconst (v := 0) dX6_erase_6 (by decide) ?_
  refine ai_putI dX6_erase_7 fdX6_100 pdX6_1 rfl rfl rfl rfl ?_
  refine ai_iload_n dX6_erase_10 rfl (j := 0) rfl ?_
  exact ai_reti dX6_erase_11 rfl h
set_option maxHeartbeats 4000000 in
set_option maxRecDepth 100000 in
theorem vX6_length {S : ai_S} {V : ai_V} {G : Int32 → ai_S → Prop}
    (h : G (S 0 1) S) :
    ai_met (uM l D ρ τ) d mX6_length [.ref 0] S V (ai_qi V G) := by
  refine ai_mof plX6 (Nat.le_of_ble_eq_true rfl) (lv := [(0, .ref 0)]) rfl ?_
  refine ai_aload_n dX6_length_0 rfl (j := 0) rfl ?_
  refine ai_getI dX6_length_1 fdX6_100 rfl rfl ?_
  exact ai_reti dX6_length_4 rfl h
set_option maxHeartbeats 4000000 in
set_option maxRecDepth 100000 in
theorem vX6_peek_0 {S : ai_S} {V : ai_V} {G : Int32 → ai_S → Prop}
    (h : (((S 0 1) ≤ (S 0 2) → G (-1) S) ∧ (¬ (S 0 1) ≤ (S 0 2) → (vp_in (S 0 2) 320 ∧ (((S 1 ((S 0 2)).toNatClampNeg) = 32 → ai_W (uM l D ρ τ) d mX6_peek 0 [(0, .ref 0)] [] (ai_up S 0 2 ((S 0 2) + 1)) V (ai_qi V G)) ∧ (¬ (S 1 ((S 0 2)).toNatClampNeg) = 32 → ((¬ (S 1 ((S 0 2)).toNatClampNeg) = 10 → G (S 1 ((S 0 2)).toNatClampNeg) S) ∧ ((S 1 ((S 0 2)).toNatClampNeg) = 10 → ai_W (uM l D ρ τ) d mX6_peek 0 [(0, .ref 0)] [] (ai_up S 0 2 ((S 0 2) + 1)) V (ai_qi V G))))))))) :
    ai_W (uM l D ρ τ) d mX6_peek 0 [(0, .ref 0)] [] S V (ai_qi V G) := by
  refine ai_aload_n dX6_peek_0 rfl (j := 0) rfl ?_
  refine ai_getI dX6_peek_1 fdX6_104 rfl rfl ?_
  refine ai_aload_n dX6_peek_4 rfl (j := 0) rfl ?_
  refine ai_getI dX6_peek_5 fdX6_100 rfl rfl ?_
  refine ai_icmp_ge (tgt := 52) dX6_peek_8 (by decide) ⟨fun (hc1 : (S 0 1) ≤ (S 0 2)) => ?_, fun (hc1 : ¬ (S 0 1) ≤ (S 0 2)) => ?_⟩
  · have h := h.1 hc1
    refine ai_aload_n dX6_peek_52 rfl (j := 0) rfl ?_
    refine ai_getI dX6_peek_53 fdX6_104 rfl rfl ?_
    refine ai_aload_n dX6_peek_56 rfl (j := 0) rfl ?_
    refine ai_getI dX6_peek_57 fdX6_100 rfl rfl ?_
    refine ai_icmp_ge (tgt := 75) dX6_peek_60 (by decide) ⟨fun _ => ?_, fun hc => absurd hc1 hc⟩
    refine ai_iconst (v := (-1)) dX6_peek_75 (by decide) ?_
    exact ai_reti dX6_peek_76 rfl h
  · have h := h.2 hc1
    refine ai_aload_n dX6_peek_11 rfl (j := 0) rfl ?_
    refine ai_getR dX6_peek_12 fdX6_7 rfl rfl ?_
    refine ai_aload_n dX6_peek_15 rfl (j := 0) rfl ?_
    refine ai_getI dX6_peek_16 fdX6_104 rfl rfl ?_
    refine ai_iald dX6_peek_19 rfl ⟨h.1, ?_⟩
    have hi2 := h.1
    have h := h.2
    refine ai_bipush (v := 32) dX6_peek_20 (by decide) ?_
    refine ai_icmp_eq (tgt := 39) dX6_peek_22 (by decide) ⟨fun (hc3 : (S 1 ((S 0 2)).toNatClampNeg) = 32) => ?_, fun (hc3 : ¬ (S 1 ((S 0 2)).toNatClampNeg) = 32) => ?_⟩
    · have h := h.1 hc3
      refine ai_aload_n dX6_peek_39 rfl (j := 0) rfl ?_
      refine ai_dup dX6_peek_40 rfl ?_
      refine ai_getI dX6_peek_41 fdX6_104 rfl rfl ?_
      refine ai_iconst (v := 1) dX6_peek_44 (by decide) ?_
      refine ai_iadd dX6_peek_45 ?_
      refine ai_putI dX6_peek_46 fdX6_104 pdX6_2 rfl rfl rfl rfl ?_
      refine ai_goto (tgt := 0) dX6_peek_49 (by decide) ?_
      refine ai_locj (lv' := [(0, .ref 0)]) [0] rfl ?_
      exact h
    · have h := h.2 hc3
      refine ai_aload_n dX6_peek_25 rfl (j := 0) rfl ?_
      refine ai_getR dX6_peek_26 fdX6_7 rfl rfl ?_
      refine ai_aload_n dX6_peek_29 rfl (j := 0) rfl ?_
      refine ai_getI dX6_peek_30 fdX6_104 rfl rfl ?_
      refine ai_iald dX6_peek_33 rfl ⟨hi2, ?_⟩
      refine ai_bipush (v := 10) dX6_peek_34 (by decide) ?_
      refine ai_icmp_ne (tgt := 52) dX6_peek_36 (by decide) ⟨fun (hc4 : ¬ (S 1 ((S 0 2)).toNatClampNeg) = 10) => ?_, fun (hc4 : (S 1 ((S 0 2)).toNatClampNeg) = 10) => ?_⟩
      · have h := h.1 hc4
        refine ai_aload_n dX6_peek_52 rfl (j := 0) rfl ?_
        refine ai_getI dX6_peek_53 fdX6_104 rfl rfl ?_
        refine ai_aload_n dX6_peek_56 rfl (j := 0) rfl ?_
        refine ai_getI dX6_peek_57 fdX6_100 rfl rfl ?_
        refine ai_icmp_ge (tgt := 75) dX6_peek_60 (by decide) ⟨fun hc => absurd hc hc1, fun _ => ?_⟩
        refine ai_aload_n dX6_peek_63 rfl (j := 0) rfl ?_
        refine ai_getR dX6_peek_64 fdX6_7 rfl rfl ?_
        refine ai_aload_n dX6_peek_67 rfl (j := 0) rfl ?_
        refine ai_getI dX6_peek_68 fdX6_104 rfl rfl ?_
        refine ai_iald dX6_peek_71 rfl ⟨hi2, ?_⟩
        refine ai_goto (tgt := 76) dX6_peek_72 (by decide) ?_
        exact ai_reti dX6_peek_76 rfl h
      · have h := h.2 hc4
        refine ai_aload_n dX6_peek_39 rfl (j := 0) rfl ?_
        refine ai_dup dX6_peek_40 rfl ?_
        refine ai_getI dX6_peek_41 fdX6_104 rfl rfl ?_
        refine ai_iconst (v := 1) dX6_peek_44 (by decide) ?_
        refine ai_iadd dX6_peek_45 ?_
        refine ai_putI dX6_peek_46 fdX6_104 pdX6_2 rfl rfl rfl rfl ?_
        refine ai_goto (tgt := 0) dX6_peek_49 (by decide) ?_
        refine ai_locj (lv' := [(0, .ref 0)]) [0] rfl ?_
        exact h
set_option maxHeartbeats 4000000 in
set_option maxRecDepth 100000 in
theorem vX6_eat {p1 : Int32} {S : ai_S} {V : ai_V} {G : Bool → ai_S → Prop}
    (h : ai_met (uM l D ρ τ) d mX6_peek [.ref 0] S V (ai_qi V (fun x1 S2 => ((x1 = p1 → G true (ai_up S2 0 2 ((S2 0 2) + 1))) ∧ (¬ x1 = p1 → G false S2))))) :
    ai_met (uM l D ρ τ) (d + 1) mX6_eat [.ref 0, .int p1] S V (ai_qz V G) := by
  refine ai_mof plX6 (Nat.le_of_ble_eq_true rfl) (lv := [(0, .ref 0), (1, .int p1)]) rfl ?_
  refine ai_aload_n dX6_eat_0 rfl (j := 0) rfl ?_
  refine ai_callVi (As := []) (rest := []) dX6_eat_1 cvX6_107 rfl rfl rfl (Nat.le_of_ble_eq_true rfl) (ai_met.mi h (fun x1 S2 h => ?_))
  refine ai_iload_n dX6_eat_4 rfl (j := 1) rfl ?_
  refine ai_icmp_eq (tgt := 10) dX6_eat_5 (by decide) ⟨fun (hc3 : x1 = p1) => ?_, fun (hc3 : ¬ x1 = p1) => ?_⟩
  · have h := h.1 hc3
    refine ai_aload_n dX6_eat_10 rfl (j := 0) rfl ?_
    refine ai_dup dX6_eat_11 rfl ?_
    refine ai_getI dX6_eat_12 fdX6_104 rfl rfl ?_
    refine ai_iconst (v := 1) dX6_eat_15 (by decide) ?_
    refine ai_iadd dX6_eat_16 ?_
    refine ai_putI dX6_eat_17 fdX6_104 pdX6_2 rfl rfl rfl rfl ?_
    refine ai_iconst (v := 1) dX6_eat_20 (by decide) ?_
    exact ai_rett dX6_eat_21 rfl h
  · have h := h.2 hc3
    refine ai_iconst (v := 0) dX6_eat_8 (by decide) ?_
    exact ai_retf dX6_eat_9 rfl h
set_option maxHeartbeats 4000000 in
set_option maxRecDepth 100000 in
theorem vX6_declare {p1 : Int32} {p2 : Int32} {p3 : Int32} {S : ai_S} {V : ai_V} {G : ai_S → Prop}
    (h : ai_W (uM l D ρ τ) d mX6_declare 8 [(0, .ref 0), (1, .int p1), (2, .int p2), (3, .int p3), (4, .int ((S 0 36) - 1))] [] S V (ai_qv V G)) :
    ai_met (uM l D ρ τ) d mX6_declare [.ref 0, .int p1, .int p2, .int p3] S V (ai_qv V G) := by
  refine ai_mof plX6 (Nat.le_of_ble_eq_true rfl) (lv := [(0, .ref 0), (1, .int p1), (2, .int p2), (3, .int p3)]) rfl ?_
  refine ai_aload_n dX6_declare_0 rfl (j := 0) rfl ?_
  refine ai_getI dX6_declare_1 fdX6_128 rfl rfl ?_
  refine ai_iconst (v := 1) dX6_declare_4 (by decide) ?_
  refine ai_isub dX6_declare_5 ?_
  refine ai_istore (lv' := [(4, .int ((S 0 36) - 1)), (0, .ref 0), (1, .int p1), (2, .int p2), (3, .int p3)]) dX6_declare_6 (by decide) rfl ?_
  refine ai_locj (lv' := [(0, .ref 0), (1, .int p1), (2, .int p2), (3, .int p3), (4, .int ((S 0 36) - 1))]) [1, 2, 3, 4, 0] rfl ?_
  exact h
set_option maxHeartbeats 4000000 in
set_option maxRecDepth 100000 in
theorem vX6_declare_8 {p1 : Int32} {p2 : Int32} {p3 : Int32} {j : Int32} {S : ai_S} {V : ai_V} {G : ai_S → Prop}
    (h : ((j < 0 → (vp_in (S 0 36) 160 ∧ G (ai_up (ai_up (ai_up (ai_up (ai_up S 18 ((S 0 36)).toNatClampNeg p1) 19 ((S 0 36)).toNatClampNeg p2) 20 ((S 0 36)).toNatClampNeg p3) 21 ((S 0 36)).toNatClampNeg (S 0 37)) 0 36 ((S 0 36) + 1)))) ∧ (¬ j < 0 → (vp_in j 160 ∧ ((¬ (S 21 (j).toNatClampNeg) = (S 0 37) → (vp_in (S 0 36) 160 ∧ G (ai_up (ai_up (ai_up (ai_up (ai_up S 18 ((S 0 36)).toNatClampNeg p1) 19 ((S 0 36)).toNatClampNeg p2) 20 ((S 0 36)).toNatClampNeg p3) 21 ((S 0 36)).toNatClampNeg (S 0 37)) 0 36 ((S 0 36) + 1)))) ∧ ((S 21 (j).toNatClampNeg) = (S 0 37) → ((¬ (S 18 (j).toNatClampNeg) = p1 → ai_W (uM l D ρ τ) d mX6_declare 8 [(0, .ref 0), (1, .int p1), (2, .int p2), (3, .int p3), (4, .int (j + (-1)))] [] S V (ai_qv V G)) ∧ ((S 18 (j).toNatClampNeg) = p1 → ai_W (uM l D ρ τ) d mX6_declare 8 [(0, .ref 0), (1, .int p1), (2, .int p2), (3, .int p3), (4, .int (j + (-1)))] [] (ai_up S 0 20 1) V (ai_qv V G))))))))) :
    ai_W (uM l D ρ τ) d mX6_declare 8 [(0, .ref 0), (1, .int p1), (2, .int p2), (3, .int p3), (4, .int j)] [] S V (ai_qv V G) := by
  refine ai_iload dX6_declare_8 (j := 4) rfl ?_
  refine ai_if_lt (tgt := 49) dX6_declare_10 (by decide) ⟨fun (hc1 : j < 0) => ?_, fun (hc1 : ¬ j < 0) => ?_⟩
  · have h := h.1 hc1
    refine ai_aload_n dX6_declare_49 rfl (j := 0) rfl ?_
    refine ai_getR dX6_declare_50 fdX6_61 rfl rfl ?_
    refine ai_aload_n dX6_declare_53 rfl (j := 0) rfl ?_
    refine ai_getI dX6_declare_54 fdX6_128 rfl rfl ?_
    refine ai_iload_n dX6_declare_57 rfl (j := 1) rfl ?_
    refine ai_iast dX6_declare_58 rfl ⟨h.1, ?_⟩
    have hi2 := h.1
    have h := h.2
    refine ai_aload_n dX6_declare_59 rfl (j := 0) rfl ?_
    refine ai_getR dX6_declare_60 fdX6_64 rfl rfl ?_
    refine ai_aload_n dX6_declare_63 rfl (j := 0) rfl ?_
    refine ai_getIx (S 0 36) dX6_declare_64 fdX6_128 rfl rfl rfl ?_
    refine ai_iload_n dX6_declare_67 rfl (j := 2) rfl ?_
    refine ai_iast dX6_declare_68 rfl ⟨hi2, ?_⟩
    refine ai_aload_n dX6_declare_69 rfl (j := 0) rfl ?_
    refine ai_getR dX6_declare_70 fdX6_67 rfl rfl ?_
    refine ai_aload_n dX6_declare_73 rfl (j := 0) rfl ?_
    refine ai_getIx (S 0 36) dX6_declare_74 fdX6_128 rfl rfl rfl ?_
    refine ai_iload_n dX6_declare_77 rfl (j := 3) rfl ?_
    refine ai_iast dX6_declare_78 rfl ⟨hi2, ?_⟩
    refine ai_aload_n dX6_declare_79 rfl (j := 0) rfl ?_
    refine ai_getR dX6_declare_80 fdX6_70 rfl rfl ?_
    refine ai_aload_n dX6_declare_83 rfl (j := 0) rfl ?_
    refine ai_getIx (S 0 36) dX6_declare_84 fdX6_128 rfl rfl rfl ?_
    refine ai_aload_n dX6_declare_87 rfl (j := 0) rfl ?_
    refine ai_getIx (S 0 37) dX6_declare_88 fdX6_131 rfl rfl rfl ?_
    refine ai_iast dX6_declare_91 rfl ⟨hi2, ?_⟩
    refine ai_aload_n dX6_declare_92 rfl (j := 0) rfl ?_
    refine ai_dup dX6_declare_93 rfl ?_
    refine ai_getIx (S 0 36) dX6_declare_94 fdX6_128 rfl rfl rfl ?_
    refine ai_iconst (v := 1) dX6_declare_97 (by decide) ?_
    refine ai_iadd dX6_declare_98 ?_
    refine ai_putI dX6_declare_99 fdX6_128 pdX6_36 rfl rfl rfl rfl ?_
    exact ai_retv dX6_declare_102 rfl h
  · have h := h.2 hc1
    refine ai_aload_n dX6_declare_13 rfl (j := 0) rfl ?_
    refine ai_getR dX6_declare_14 fdX6_70 rfl rfl ?_
    refine ai_iload dX6_declare_17 (j := 4) rfl ?_
    refine ai_iald dX6_declare_19 rfl ⟨h.1, ?_⟩
    have hi3 := h.1
    have h := h.2
    refine ai_aload_n dX6_declare_20 rfl (j := 0) rfl ?_
    refine ai_getI dX6_declare_21 fdX6_131 rfl rfl ?_
    refine ai_icmp_ne (tgt := 49) dX6_declare_24 (by decide) ⟨fun (hc4 : ¬ (S 21 (j).toNatClampNeg) = (S 0 37)) => ?_, fun (hc4 : (S 21 (j).toNatClampNeg) = (S 0 37)) => ?_⟩
    · have h := h.1 hc4
      refine ai_aload_n dX6_declare_49 rfl (j := 0) rfl ?_
      refine ai_getR dX6_declare_50 fdX6_61 rfl rfl ?_
      refine ai_aload_n dX6_declare_53 rfl (j := 0) rfl ?_
      refine ai_getI dX6_declare_54 fdX6_128 rfl rfl ?_
      refine ai_iload_n dX6_declare_57 rfl (j := 1) rfl ?_
      refine ai_iast dX6_declare_58 rfl ⟨h.1, ?_⟩
      have hi5 := h.1
      have h := h.2
      refine ai_aload_n dX6_declare_59 rfl (j := 0) rfl ?_
      refine ai_getR dX6_declare_60 fdX6_64 rfl rfl ?_
      refine ai_aload_n dX6_declare_63 rfl (j := 0) rfl ?_
      refine ai_getIx (S 0 36) dX6_declare_64 fdX6_128 rfl rfl rfl ?_
      refine ai_iload_n dX6_declare_67 rfl (j := 2) rfl ?_
      refine ai_iast dX6_declare_68 rfl ⟨hi5, ?_⟩
      refine ai_aload_n dX6_declare_69 rfl (j := 0) rfl ?_
      refine ai_getR dX6_declare_70 fdX6_67 rfl rfl ?_
      refine ai_aload_n dX6_declare_73 rfl (j := 0) rfl ?_
      refine ai_getIx (S 0 36) dX6_declare_74 fdX6_128 rfl rfl rfl ?_
      refine ai_iload_n dX6_declare_77 rfl (j := 3) rfl ?_
      refine ai_iast dX6_declare_78 rfl ⟨hi5, ?_⟩
      refine ai_aload_n dX6_declare_79 rfl (j := 0) rfl ?_
      refine ai_getR dX6_declare_80 fdX6_70 rfl rfl ?_
      refine ai_aload_n dX6_declare_83 rfl (j := 0) rfl ?_
      refine ai_getIx (S 0 36) dX6_declare_84 fdX6_128 rfl rfl rfl ?_
      refine ai_aload_n dX6_declare_87 rfl (j := 0) rfl ?_
      refine ai_getIx (S 0 37) dX6_declare_88 fdX6_131 rfl rfl rfl ?_
      refine ai_iast dX6_declare_91 rfl ⟨hi5, ?_⟩
      refine ai_aload_n dX6_declare_92 rfl (j := 0) rfl ?_
      refine ai_dup dX6_declare_93 rfl ?_
      refine ai_getIx (S 0 36) dX6_declare_94 fdX6_128 rfl rfl rfl ?_
      refine ai_iconst (v := 1) dX6_declare_97 (by decide) ?_
      refine ai_iadd dX6_declare_98 ?_
      refine ai_putI dX6_declare_99 fdX6_128 pdX6_36 rfl rfl rfl rfl ?_
      exact ai_retv dX6_declare_102 rfl h
    · have h := h.2 hc4
      refine ai_aload_n dX6_declare_27 rfl (j := 0) rfl ?_
      refine ai_getR dX6_declare_28 fdX6_61 rfl rfl ?_
      refine ai_iload dX6_declare_31 (j := 4) rfl ?_
      refine ai_iald dX6_declare_33 rfl ⟨hi3, ?_⟩
      refine ai_iload_n dX6_declare_34 rfl (j := 1) rfl ?_
      refine ai_icmp_ne (tgt := 43) dX6_declare_35 (by decide) ⟨fun (hc6 : ¬ (S 18 (j).toNatClampNeg) = p1) => ?_, fun (hc6 : (S 18 (j).toNatClampNeg) = p1) => ?_⟩
      · have h := h.1 hc6
        refine ai_iinc (j := 4) (v := (j + (-1))) (lv' := [(4, .int (j + (-1))), (0, .ref 0), (1, .int p1), (2, .int p2), (3, .int p3)]) dX6_declare_43 rfl (by first | rfl | decide) (by decide) rfl ?_
        refine ai_goto (tgt := 8) dX6_declare_46 (by decide) ?_
        refine ai_locj (lv' := [(0, .ref 0), (1, .int p1), (2, .int p2), (3, .int p3), (4, .int (j + (-1)))]) [1, 2, 3, 4, 0] rfl ?_
        exact h
      · have h := h.2 hc6
        refine ai_aload_n dX6_declare_38 rfl (j := 0) rfl ?_
        refine ai_iconst (v := 1) dX6_declare_39 (by decide) ?_
        refine ai_putI dX6_declare_40 fdX6_134 pdX6_20 rfl rfl rfl rfl ?_
        refine ai_iinc (j := 4) (v := (j + (-1))) (lv' := [(4, .int (j + (-1))), (0, .ref 0), (1, .int p1), (2, .int p2), (3, .int p3)]) dX6_declare_43 rfl (by first | rfl | decide) (by decide) rfl ?_
        refine ai_goto (tgt := 8) dX6_declare_46 (by decide) ?_
        refine ai_locj (lv' := [(0, .ref 0), (1, .int p1), (2, .int p2), (3, .int p3), (4, .int (j + (-1)))]) [1, 2, 3, 4, 0] rfl ?_
        exact h
set_option maxHeartbeats 4000000 in
set_option maxRecDepth 100000 in
theorem vX6_leave_0 {S : ai_S} {V : ai_V} {G : ai_S → Prop}
    (h : (((S 0 36) ≤ 0 → G (ai_up S 0 37 ((S 0 37) - 1))) ∧ (¬ (S 0 36) ≤ 0 → (vp_in ((S 0 36) - 1) 160 ∧ ((¬ (S 21 (((S 0 36) - 1)).toNatClampNeg) = (S 0 37) → G (ai_up S 0 37 ((S 0 37) - 1))) ∧ ((S 21 (((S 0 36) - 1)).toNatClampNeg) = (S 0 37) → ai_W (uM l D ρ τ) d mX6_leave 0 [(0, .ref 0)] [] (ai_up S 0 36 ((S 0 36) - 1)) V (ai_qv V G))))))) :
    ai_W (uM l D ρ τ) d mX6_leave 0 [(0, .ref 0)] [] S V (ai_qv V G) := by
  refine ai_aload_n dX6_leave_0 rfl (j := 0) rfl ?_
  refine ai_getI dX6_leave_1 fdX6_128 rfl rfl ?_
  refine ai_if_le (tgt := 38) dX6_leave_4 (by decide) ⟨fun (hc1 : (S 0 36) ≤ 0) => ?_, fun (hc1 : ¬ (S 0 36) ≤ 0) => ?_⟩
  · have h := h.1 hc1
    refine ai_aload_n dX6_leave_38 rfl (j := 0) rfl ?_
    refine ai_dup dX6_leave_39 rfl ?_
    refine ai_getI dX6_leave_40 fdX6_131 rfl rfl ?_
    refine ai_iconst (v := 1) dX6_leave_43 (by decide) ?_
    refine ai_isub dX6_leave_44 ?_
    refine ai_putI dX6_leave_45 fdX6_131 pdX6_37 rfl rfl rfl rfl ?_
    exact ai_retv dX6_leave_48 rfl h
  · have h := h.2 hc1
    refine ai_aload_n dX6_leave_7 rfl (j := 0) rfl ?_
    refine ai_getR dX6_leave_8 fdX6_70 rfl rfl ?_
    refine ai_aload_n dX6_leave_11 rfl (j := 0) rfl ?_
    refine ai_getI dX6_leave_12 fdX6_128 rfl rfl ?_
    refine ai_iconst (v := 1) dX6_leave_15 (by decide) ?_
    refine ai_isub dX6_leave_16 ?_
    refine ai_iald dX6_leave_17 rfl ⟨h.1, ?_⟩
    have hi2 := h.1
    have h := h.2
    refine ai_aload_n dX6_leave_18 rfl (j := 0) rfl ?_
    refine ai_getI dX6_leave_19 fdX6_131 rfl rfl ?_
    refine ai_icmp_ne (tgt := 38) dX6_leave_22 (by decide) ⟨fun (hc3 : ¬ (S 21 (((S 0 36) - 1)).toNatClampNeg) = (S 0 37)) => ?_, fun (hc3 : (S 21 (((S 0 36) - 1)).toNatClampNeg) = (S 0 37)) => ?_⟩
    · have h := h.1 hc3
      refine ai_aload_n dX6_leave_38 rfl (j := 0) rfl ?_
      refine ai_dup dX6_leave_39 rfl ?_
      refine ai_getI dX6_leave_40 fdX6_131 rfl rfl ?_
      refine ai_iconst (v := 1) dX6_leave_43 (by decide) ?_
      refine ai_isub dX6_leave_44 ?_
      refine ai_putI dX6_leave_45 fdX6_131 pdX6_37 rfl rfl rfl rfl ?_
      exact ai_retv dX6_leave_48 rfl h
    · have h := h.2 hc3
      refine ai_aload_n dX6_leave_25 rfl (j := 0) rfl ?_
      refine ai_dup dX6_leave_26 rfl ?_
      refine ai_getI dX6_leave_27 fdX6_128 rfl rfl ?_
      refine ai_iconst (v := 1) dX6_leave_30 (by decide) ?_
      refine ai_isub dX6_leave_31 ?_
      refine ai_putI dX6_leave_32 fdX6_128 pdX6_36 rfl rfl rfl rfl ?_
      refine ai_goto (tgt := 0) dX6_leave_35 (by decide) ?_
      refine ai_locj (lv' := [(0, .ref 0)]) [0] rfl ?_
      exact h
set_option maxHeartbeats 4000000 in
set_option maxRecDepth 100000 in
theorem vX6_use {p1 : Int32} {p2 : Int32} {S : ai_S} {V : ai_V} {G : Int32 → ai_S → Prop}
    (h : ai_met (uM l D ρ τ) d mX6_fresh [.ref 0, .int p1] S V (ai_qi V (fun x1 S2 => ai_W (uM l D ρ τ) (d + 1) mX6_use 14 [(0, .ref 0), (2, .int p2), (3, .int x1), (4, .int ((S2 0 36) - 1))] [] S2 V (ai_qi V G)))) :
    ai_met (uM l D ρ τ) (d + 1) mX6_use [.ref 0, .int p1, .int p2] S V (ai_qi V G) := by
  refine ai_mof plX6 (Nat.le_of_ble_eq_true rfl) (lv := [(0, .ref 0), (1, .int p1), (2, .int p2)]) rfl ?_
  refine ai_aload_n dX6_use_0 rfl (j := 0) rfl ?_
  refine ai_iload_n dX6_use_1 rfl (j := 1) rfl ?_
  refine ai_callVi (As := [.int p1]) (rest := []) dX6_use_2 cvX6_137 rfl rfl rfl (Nat.le_of_ble_eq_true rfl) (ai_met.mi h (fun x1 S2 h => ?_))
  refine ai_istore_n (lv' := [(3, .int x1), (0, .ref 0), (1, .int p1), (2, .int p2)]) dX6_use_5 rfl (by decide) rfl ?_
  refine ai_aload_n dX6_use_6 rfl (j := 1) rfl ?_
  refine ai_getI dX6_use_7 fdX6_128 rfl rfl ?_
  refine ai_iconst (v := 1) dX6_use_10 (by decide) ?_
  refine ai_isub dX6_use_11 ?_
  refine ai_istore (lv' := [(4, .int ((S2 0 36) - 1)), (3, .int x1), (0, .ref 0), (1, .int p1), (2, .int p2)]) dX6_use_12 (by decide) rfl ?_
  refine ai_locj (lv' := [(0, .ref 0), (2, .int p2), (3, .int x1), (4, .int ((S2 0 36) - 1))]) [2, 4, 1, 0] rfl ?_
  exact h
set_option maxHeartbeats 4000000 in
set_option maxRecDepth 100000 in
theorem vX6_use_14 {p2 : Int32} {n : Int32} {j : Int32} {S : ai_S} {V : ai_V} {G : Int32 → ai_S → Prop}
    (h : ((j < 0 → ((0 ≤ j → (vp_in j 160 ∧ (vp_in n 700 ∧ G n (ai_up (ai_up (ai_up S 5 (n).toNatClampNeg (S 19 (j).toNatClampNeg)) 6 (n).toNatClampNeg (S 20 (j).toNatClampNeg)) 7 (n).toNatClampNeg ((S 0 37) - (S 21 (j).toNatClampNeg)))))) ∧ (¬ 0 ≤ j → G n (ai_up S 0 20 1)))) ∧ (¬ j < 0 → (vp_in j 160 ∧ (((S 18 (j).toNatClampNeg) = p2 → ((0 ≤ j → (vp_in n 700 ∧ G n (ai_up (ai_up (ai_up S 5 (n).toNatClampNeg (S 19 (j).toNatClampNeg)) 6 (n).toNatClampNeg (S 20 (j).toNatClampNeg)) 7 (n).toNatClampNeg ((S 0 37) - (S 21 (j).toNatClampNeg))))) ∧ (¬ 0 ≤ j → G n (ai_up S 0 20 1)))) ∧ (¬ (S 18 (j).toNatClampNeg) = p2 → ai_W (uM l D ρ τ) d mX6_use 14 [(0, .ref 0), (2, .int p2), (3, .int n), (4, .int (j + (-1)))] [] S V (ai_qi V G))))))) :
    ai_W (uM l D ρ τ) d mX6_use 14 [(0, .ref 0), (2, .int p2), (3, .int n), (4, .int j)] [] S V (ai_qi V G) := by
  refine ai_iload dX6_use_14 (j := 3) rfl ?_
  refine ai_if_lt (tgt := 36) dX6_use_16 (by decide) ⟨fun (hc1 : j < 0) => ?_, fun (hc1 : ¬ j < 0) => ?_⟩
  · have h := h.1 hc1
    refine ai_iload dX6_use_36 (j := 3) rfl ?_
    refine ai_if_ge (tgt := 49) dX6_use_38 (by decide) ⟨fun (hc2 : 0 ≤ j) => ?_, fun (hc2 : ¬ 0 ≤ j) => ?_⟩
    · have h := h.1 hc2
      refine ai_aload_n dX6_use_49 rfl (j := 0) rfl ?_
      refine ai_getR dX6_use_50 fdX6_22 rfl rfl ?_
      refine ai_iload_n dX6_use_53 rfl (j := 2) rfl ?_
      refine ai_aload_n dX6_use_54 rfl (j := 0) rfl ?_
      refine ai_getR dX6_use_55 fdX6_64 rfl rfl ?_
      refine ai_iload dX6_use_58 (j := 3) rfl ?_
      refine ai_iald dX6_use_60 rfl ⟨h.1, ?_⟩
      have hi3 := h.1
      have h := h.2
      refine ai_iast dX6_use_61 rfl ⟨h.1, ?_⟩
      have hi4 := h.1
      have h := h.2
      refine ai_aload_n dX6_use_62 rfl (j := 0) rfl ?_
      refine ai_getR dX6_use_63 fdX6_25 rfl rfl ?_
      refine ai_iload_n dX6_use_66 rfl (j := 2) rfl ?_
      refine ai_aload_n dX6_use_67 rfl (j := 0) rfl ?_
      refine ai_getR dX6_use_68 fdX6_67 rfl rfl ?_
      refine ai_iload dX6_use_71 (j := 3) rfl ?_
      refine ai_ialdx (S 20 (j).toNatClampNeg) dX6_use_73 rfl rfl ⟨hi3, ?_⟩
      refine ai_iast dX6_use_74 rfl ⟨hi4, ?_⟩
      refine ai_aload_n dX6_use_75 rfl (j := 0) rfl ?_
      refine ai_getR dX6_use_76 fdX6_28 rfl rfl ?_
      refine ai_iload_n dX6_use_79 rfl (j := 2) rfl ?_
      refine ai_aload_n dX6_use_80 rfl (j := 0) rfl ?_
      refine ai_getIx (S 0 37) dX6_use_81 fdX6_131 rfl rfl rfl ?_
      refine ai_aload_n dX6_use_84 rfl (j := 0) rfl ?_
      refine ai_getR dX6_use_85 fdX6_70 rfl rfl ?_
      refine ai_iload dX6_use_88 (j := 3) rfl ?_
      refine ai_ialdx (S 21 (j).toNatClampNeg) dX6_use_90 rfl rfl ⟨hi3, ?_⟩
      refine ai_isub dX6_use_91 ?_
      refine ai_iast dX6_use_92 rfl ⟨hi4, ?_⟩
      refine ai_iload_n dX6_use_93 rfl (j := 2) rfl ?_
      exact ai_reti dX6_use_94 rfl h
    · have h := h.2 hc2
      refine ai_aload_n dX6_use_41 rfl (j := 0) rfl ?_
      refine ai_iconst (v := 1) dX6_use_42 (by decide) ?_
      refine ai_putI dX6_use_43 fdX6_134 pdX6_20 rfl rfl rfl rfl ?_
      refine ai_goto (tgt := 93) dX6_use_46 (by decide) ?_
      refine ai_iload_n dX6_use_93 rfl (j := 2) rfl ?_
      exact ai_reti dX6_use_94 rfl h
  · have h := h.2 hc1
    refine ai_aload_n dX6_use_19 rfl (j := 0) rfl ?_
    refine ai_getR dX6_use_20 fdX6_61 rfl rfl ?_
    refine ai_iload dX6_use_23 (j := 3) rfl ?_
    refine ai_iald dX6_use_25 rfl ⟨h.1, ?_⟩
    have hi5 := h.1
    have h := h.2
    refine ai_iload_n dX6_use_26 rfl (j := 1) rfl ?_
    refine ai_icmp_eq (tgt := 36) dX6_use_27 (by decide) ⟨fun (hc6 : (S 18 (j).toNatClampNeg) = p2) => ?_, fun (hc6 : ¬ (S 18 (j).toNatClampNeg) = p2) => ?_⟩
    · have h := h.1 hc6
      refine ai_iload dX6_use_36 (j := 3) rfl ?_
      refine ai_if_ge (tgt := 49) dX6_use_38 (by decide) ⟨fun (hc7 : 0 ≤ j) => ?_, fun (hc7 : ¬ 0 ≤ j) => ?_⟩
      · have h := h.1 hc7
        refine ai_aload_n dX6_use_49 rfl (j := 0) rfl ?_
        refine ai_getR dX6_use_50 fdX6_22 rfl rfl ?_
        refine ai_iload_n dX6_use_53 rfl (j := 2) rfl ?_
        refine ai_aload_n dX6_use_54 rfl (j := 0) rfl ?_
        refine ai_getR dX6_use_55 fdX6_64 rfl rfl ?_
        refine ai_iload dX6_use_58 (j := 3) rfl ?_
        refine ai_iald dX6_use_60 rfl ⟨hi5, ?_⟩
        refine ai_iast dX6_use_61 rfl ⟨h.1, ?_⟩
        have hi8 := h.1
        have h := h.2
        refine ai_aload_n dX6_use_62 rfl (j := 0) rfl ?_
        refine ai_getR dX6_use_63 fdX6_25 rfl rfl ?_
        refine ai_iload_n dX6_use_66 rfl (j := 2) rfl ?_
        refine ai_aload_n dX6_use_67 rfl (j := 0) rfl ?_
        refine ai_getR dX6_use_68 fdX6_67 rfl rfl ?_
        refine ai_iload dX6_use_71 (j := 3) rfl ?_
        refine ai_ialdx (S 20 (j).toNatClampNeg) dX6_use_73 rfl rfl ⟨hi5, ?_⟩
        refine ai_iast dX6_use_74 rfl ⟨hi8, ?_⟩
        refine ai_aload_n dX6_use_75 rfl (j := 0) rfl ?_
        refine ai_getR dX6_use_76 fdX6_28 rfl rfl ?_
        refine ai_iload_n dX6_use_79 rfl (j := 2) rfl ?_
        refine ai_aload_n dX6_use_80 rfl (j := 0) rfl ?_
        refine ai_getIx (S 0 37) dX6_use_81 fdX6_131 rfl rfl rfl ?_
        refine ai_aload_n dX6_use_84 rfl (j := 0) rfl ?_
        refine ai_getR dX6_use_85 fdX6_70 rfl rfl ?_
        refine ai_iload dX6_use_88 (j := 3) rfl ?_
        refine ai_ialdx (S 21 (j).toNatClampNeg) dX6_use_90 rfl rfl ⟨hi5, ?_⟩
        refine ai_isub dX6_use_91 ?_
        refine ai_iast dX6_use_92 rfl ⟨hi8, ?_⟩
        refine ai_iload_n dX6_use_93 rfl (j := 2) rfl ?_
        exact ai_reti dX6_use_94 rfl h
      · have h := h.2 hc7
        refine ai_aload_n dX6_use_41 rfl (j := 0) rfl ?_
        refine ai_iconst (v := 1) dX6_use_42 (by decide) ?_
        refine ai_putI dX6_use_43 fdX6_134 pdX6_20 rfl rfl rfl rfl ?_
        refine ai_goto (tgt := 93) dX6_use_46 (by decide) ?_
        refine ai_iload_n dX6_use_93 rfl (j := 2) rfl ?_
        exact ai_reti dX6_use_94 rfl h
    · have h := h.2 hc6
      refine ai_iinc (j := 3) (v := (j + (-1))) (lv' := [(4, .int (j + (-1))), (0, .ref 0), (2, .int p2), (3, .int n)]) dX6_use_30 rfl (by first | rfl | decide) (by decide) rfl ?_
      refine ai_goto (tgt := 14) dX6_use_33 (by decide) ?_
      refine ai_locj (lv' := [(0, .ref 0), (2, .int p2), (3, .int n), (4, .int (j + (-1)))]) [1, 2, 3, 0] rfl ?_
      exact h
end GM0
