section GM2
variable {l : Launch} {D : va_G} {ρ : Nat → Nat} {τ : Nat → ClassId} {d : Nat}
set_option maxHeartbeats 4000000 in
set_option maxRecDepth 100000 in
theorem vX6_frame {p1 : Int32} {p2 : Int32} {p3 : Int32} {p4 : Int32} {S : ai_S} {V : ai_V} {G : Int32 → ai_S → Prop}
    (h : (vp_in (S 0 46) 400 ∧ ai_W (uM l D ρ τ) d mX6_frame 47 [(0, .ref 0), (3, .int p3), (5, .int 0)] [] (ai_up (ai_up (ai_up (ai_up S 23 ((S 0 46)).toNatClampNeg p1) 24 ((S 0 46)).toNatClampNeg p2) 25 ((S 0 46)).toNatClampNeg (S 0 47)) 26 ((S 0 46)).toNatClampNeg p4) V (ai_qi V G))) :
    ai_met (uM l D ρ τ) d mX6_frame [.ref 0, .int p1, .int p2, .int p3, .int p4] S V (ai_qi V G) := by
  refine ai_mof plX6 (Nat.le_of_ble_eq_true rfl) (lv := [(0, .ref 0), (1, .int p1), (2, .int p2), (3, .int p3), (4, .int p4)]) rfl ?_
  refine ai_aload_n dX6_frame_0 rfl (j := 0) rfl ?_
  refine ai_getR dX6_frame_1 fdX6_76 rfl rfl ?_
  refine ai_aload_n dX6_frame_4 rfl (j := 0) rfl ?_
  refine ai_getI dX6_frame_5 fdX6_239 rfl rfl ?_
  refine ai_iload_n dX6_frame_8 rfl (j := 1) rfl ?_
  refine ai_iast dX6_frame_9 rfl ⟨h.1, ?_⟩
  have hi1 := h.1
  have h := h.2
  refine ai_aload_n dX6_frame_10 rfl (j := 0) rfl ?_
  refine ai_getR dX6_frame_11 fdX6_79 rfl rfl ?_
  refine ai_aload_n dX6_frame_14 rfl (j := 0) rfl ?_
  refine ai_getIx (S 0 46) dX6_frame_15 fdX6_239 rfl rfl rfl ?_
  refine ai_iload_n dX6_frame_18 rfl (j := 2) rfl ?_
  refine ai_iast dX6_frame_19 rfl ⟨hi1, ?_⟩
  refine ai_aload_n dX6_frame_20 rfl (j := 0) rfl ?_
  refine ai_getR dX6_frame_21 fdX6_82 rfl rfl ?_
  refine ai_aload_n dX6_frame_24 rfl (j := 0) rfl ?_
  refine ai_getIx (S 0 46) dX6_frame_25 fdX6_239 rfl rfl rfl ?_
  refine ai_aload_n dX6_frame_28 rfl (j := 0) rfl ?_
  refine ai_getIx (S 0 47) dX6_frame_29 fdX6_242 rfl rfl rfl ?_
  refine ai_iast dX6_frame_32 rfl ⟨hi1, ?_⟩
  refine ai_aload_n dX6_frame_33 rfl (j := 0) rfl ?_
  refine ai_getR dX6_frame_34 fdX6_85 rfl rfl ?_
  refine ai_aload_n dX6_frame_37 rfl (j := 0) rfl ?_
  refine ai_getIx (S 0 46) dX6_frame_38 fdX6_239 rfl rfl rfl ?_
  refine ai_iload dX6_frame_41 (j := 4) rfl ?_
  refine ai_iast dX6_frame_43 rfl ⟨hi1, ?_⟩
  refine ai_iconst (v := 0) dX6_frame_44 (by decide) ?_
  refine ai_istore (lv' := [(5, .int 0), (0, .ref 0), (1, .int p1), (2, .int p2), (3, .int p3), (4, .int p4)]) dX6_frame_45 (by decide) rfl ?_
  refine ai_locj (lv' := [(0, .ref 0), (3, .int p3), (5, .int 0)]) [1, 4, 0] rfl ?_
  exact h
set_option maxHeartbeats 4000000 in
set_option maxRecDepth 100000 in
theorem vX6_frame_47 {p3 : Int32} {j : Int32} {S : ai_S} {V : ai_V} {G : Int32 → ai_S → Prop}
    (h : ((p3 ≤ j → G (((S 0 46) + 1) - 1) (ai_up (ai_up S 0 47 ((S 0 47) + p3)) 0 46 ((S 0 46) + 1))) ∧ (¬ p3 ≤ j → (vp_in ((S 0 47) + j) 1300 ∧ ai_W (uM l D ρ τ) d mX6_frame 47 [(0, .ref 0), (3, .int p3), (5, .int (j + 1))] [] (ai_up S 27 (((S 0 47) + j)).toNatClampNeg 0) V (ai_qi V G))))) :
    ai_W (uM l D ρ τ) d mX6_frame 47 [(0, .ref 0), (3, .int p3), (5, .int j)] [] S V (ai_qi V G) := by
  refine ai_iload dX6_frame_47 (j := 2) rfl ?_
  refine ai_iload_n dX6_frame_49 rfl (j := 1) rfl ?_
  refine ai_icmp_ge (tgt := 72) dX6_frame_50 (by decide) ⟨fun (hc1 : p3 ≤ j) => ?_, fun (hc1 : ¬ p3 ≤ j) => ?_⟩
  · have h := h.1 hc1
    refine ai_aload_n dX6_frame_72 rfl (j := 0) rfl ?_
    refine ai_dup dX6_frame_73 rfl ?_
    refine ai_getI dX6_frame_74 fdX6_242 rfl rfl ?_
    refine ai_iload_n dX6_frame_77 rfl (j := 1) rfl ?_
    refine ai_iadd dX6_frame_78 ?_
    refine ai_putI dX6_frame_79 fdX6_242 pdX6_47 rfl rfl rfl rfl ?_
    refine ai_aload_n dX6_frame_82 rfl (j := 0) rfl ?_
    refine ai_dup dX6_frame_83 rfl ?_
    refine ai_getIx (S 0 46) dX6_frame_84 fdX6_239 rfl rfl rfl ?_
    refine ai_iconst (v := 1) dX6_frame_87 (by decide) ?_
    refine ai_iadd dX6_frame_88 ?_
    refine ai_putI dX6_frame_89 fdX6_239 pdX6_46 rfl rfl rfl rfl ?_
    refine ai_aload_n dX6_frame_92 rfl (j := 0) rfl ?_
    refine ai_getIx ((S 0 46) + 1) dX6_frame_93 fdX6_239 rfl rfl rfl ?_
    refine ai_iconst (v := 1) dX6_frame_96 (by decide) ?_
    refine ai_isub dX6_frame_97 ?_
    exact ai_reti dX6_frame_98 rfl h
  · have h := h.2 hc1
    refine ai_aload_n dX6_frame_53 rfl (j := 0) rfl ?_
    refine ai_getR dX6_frame_54 fdX6_88 rfl rfl ?_
    refine ai_aload_n dX6_frame_57 rfl (j := 0) rfl ?_
    refine ai_getI dX6_frame_58 fdX6_242 rfl rfl ?_
    refine ai_iload dX6_frame_61 (j := 2) rfl ?_
    refine ai_iadd dX6_frame_63 ?_
    refine ai_iconst (v := 0) dX6_frame_64 (by decide) ?_
    refine ai_iast dX6_frame_65 rfl ⟨h.1, ?_⟩
    have hi2 := h.1
    have h := h.2
    refine ai_iinc (j := 2) (v := (j + 1)) (lv' := [(5, .int (j + 1)), (0, .ref 0), (3, .int p3)]) dX6_frame_66 rfl (by first | rfl | decide) (by decide) rfl ?_
    refine ai_goto (tgt := 47) dX6_frame_69 (by decide) ?_
    refine ai_locj (lv' := [(0, .ref 0), (3, .int p3), (5, .int (j + 1))]) [1, 2, 0] rfl ?_
    exact h
set_option maxHeartbeats 4000000 in
set_option maxRecDepth 100000 in
theorem vX6_outward {p1 : Int32} {p2 : Int32} {S : ai_S} {V : ai_V} {G : Int32 → ai_S → Prop}
    (h : ai_W (uM l D ρ τ) d mX6_outward 5 [(0, .ref 0), (2, .int p2), (3, .int p1), (4, .int 0)] [] S V (ai_qi V G)) :
    ai_met (uM l D ρ τ) d mX6_outward [.ref 0, .int p1, .int p2] S V (ai_qi V G) := by
  refine ai_mof plX6 (Nat.le_of_ble_eq_true rfl) (lv := [(0, .ref 0), (1, .int p1), (2, .int p2)]) rfl ?_
  refine ai_iload_n dX6_outward_0 rfl (j := 1) rfl ?_
  refine ai_istore_n (lv' := [(3, .int p1), (0, .ref 0), (1, .int p1), (2, .int p2)]) dX6_outward_1 rfl (by decide) rfl ?_
  refine ai_iconst (v := 0) dX6_outward_2 (by decide) ?_
  refine ai_istore (lv' := [(4, .int 0), (3, .int p1), (0, .ref 0), (1, .int p1), (2, .int p2)]) dX6_outward_3 (by decide) rfl ?_
  refine ai_locj (lv' := [(0, .ref 0), (2, .int p2), (3, .int p1), (4, .int 0)]) [2, 4, 1, 0] rfl ?_
  exact h
set_option maxHeartbeats 4000000 in
set_option maxRecDepth 100000 in
theorem vX6_outward_5 {p2 : Int32} {e : Int32} {j : Int32} {S : ai_S} {V : ai_V} {G : Int32 → ai_S → Prop}
    (h : ((p2 ≤ j → G e S) ∧ (¬ p2 ≤ j → (vp_in e 400 ∧ ai_W (uM l D ρ τ) d mX6_outward 5 [(0, .ref 0), (2, .int p2), (3, .int (S 23 (e).toNatClampNeg)), (4, .int (j + 1))] [] S V (ai_qi V G))))) :
    ai_W (uM l D ρ τ) d mX6_outward 5 [(0, .ref 0), (2, .int p2), (3, .int e), (4, .int j)] [] S V (ai_qi V G) := by
  refine ai_iload dX6_outward_5 (j := 3) rfl ?_
  refine ai_iload_n dX6_outward_7 rfl (j := 1) rfl ?_
  refine ai_icmp_ge (tgt := 24) dX6_outward_8 (by decide) ⟨fun (hc1 : p2 ≤ j) => ?_, fun (hc1 : ¬ p2 ≤ j) => ?_⟩
  · have h := h.1 hc1
    refine ai_iload_n dX6_outward_24 rfl (j := 2) rfl ?_
    exact ai_reti dX6_outward_25 rfl h
  · have h := h.2 hc1
    refine ai_aload_n dX6_outward_11 rfl (j := 0) rfl ?_
    refine ai_getR dX6_outward_12 fdX6_76 rfl rfl ?_
    refine ai_iload_n dX6_outward_15 rfl (j := 2) rfl ?_
    refine ai_iald dX6_outward_16 rfl ⟨h.1, ?_⟩
    have hi2 := h.1
    have h := h.2
    refine ai_istore_n (lv' := [(3, .int (S 23 (e).toNatClampNeg)), (0, .ref 0), (2, .int p2), (4, .int j)]) dX6_outward_17 rfl (by decide) rfl ?_
    refine ai_iinc (j := 3) (v := (j + 1)) (lv' := [(4, .int (j + 1)), (3, .int (S 23 (e).toNatClampNeg)), (0, .ref 0), (2, .int p2)]) dX6_outward_18 rfl (by first | rfl | decide) (by decide) rfl ?_
    refine ai_goto (tgt := 5) dX6_outward_21 (by decide) ?_
    refine ai_locj (lv' := [(0, .ref 0), (2, .int p2), (3, .int (S 23 (e).toNatClampNeg)), (4, .int (j + 1))]) [2, 3, 1, 0] rfl ?_
    exact h
set_option maxHeartbeats 4000000 in
set_option maxRecDepth 100000 in
theorem vX6_follow {p1 : Int32} {p2 : Int32} {S : ai_S} {V : ai_V} {G : ai_S → Prop}
    (h : ai_W (uM l D ρ τ) d mX6_follow 13 [(0, .ref 0), (3, .int p1), (4, .int p2), (5, .int 0)] [] (ai_up S 0 59 4) V (ai_qv V G)) :
    ai_met (uM l D ρ τ) d mX6_follow [.ref 0, .int p1, .int p2] S V (ai_qv V G) := by
  refine ai_mof plX6 (Nat.le_of_ble_eq_true rfl) (lv := [(0, .ref 0), (1, .int p1), (2, .int p2)]) rfl ?_
  refine ai_iload_n dX6_follow_0 rfl (j := 1) rfl ?_
  refine ai_istore_n (lv' := [(3, .int p1), (0, .ref 0), (1, .int p1), (2, .int p2)]) dX6_follow_1 rfl (by decide) rfl ?_
  refine ai_iload_n dX6_follow_2 rfl (j := 3) rfl ?_
  refine ai_istore (lv' := [(4, .int p2), (3, .int p1), (0, .ref 0), (1, .int p1), (2, .int p2)]) dX6_follow_3 (by decide) rfl ?_
  refine ai_aload_n dX6_follow_5 rfl (j := 2) rfl ?_
  refine ai_iconst (v := 4) dX6_follow_6 (by decide) ?_
  refine ai_putI dX6_follow_7 fdX6_245 pdX6_59 rfl rfl rfl rfl ?_
  refine ai_iconst (v := 0) dX6_follow_10 (by decide) ?_
  refine ai_istore (lv' := [(5, .int 0), (4, .int p2), (3, .int p1), (0, .ref 0), (1, .int p1), (2, .int p2)]) dX6_follow_11 (by decide) rfl ?_
  refine ai_locj (lv' := [(0, .ref 0), (3, .int p1), (4, .int p2), (5, .int 0)]) [3, 2, 1, 0] rfl ?_
  exact h
set_option maxHeartbeats 4000000 in
set_option maxRecDepth 100000 in
theorem vX6_follow_13 {m : Int32} {e : Int32} {j : Int32} {S : ai_S} {V : ai_V} {G : ai_S → Prop}
    (h : ((500 ≤ j → G S) ∧ (¬ 500 ≤ j → ((¬ (S 0 59) = 4 → G S) ∧ ((S 0 59) = 4 → (vp_in m 700 ∧ ai_met (uM l D ρ τ) d mX6_outward [.ref 0, .int e, .int (S 7 (m).toNatClampNeg)] (ai_up (ai_up S 0 59 (S 5 (m).toNatClampNeg)) 0 60 (S 6 (m).toNatClampNeg)) V (ai_qi V (fun x4 S5 => ((¬ (S5 0 59) = 4 → ai_W (uM l D ρ τ) (d + 1) mX6_follow 13 [(0, .ref 0), (3, .int m), (4, .int e), (5, .int (j + 1))] [] (ai_up S5 0 61 x4) V (ai_qv V G)) ∧ ((S5 0 59) = 4 → (vp_in x4 400 ∧ (vp_in ((S5 25 (x4).toNatClampNeg) + (S5 0 60)) 1300 ∧ (vp_in (S5 27 (((S5 25 (x4).toNatClampNeg) + (S5 0 60))).toNatClampNeg) 700 ∧ (((S5 2 ((S5 27 (((S5 25 (x4).toNatClampNeg) + (S5 0 60))).toNatClampNeg)).toNatClampNeg) = 8 → ai_W (uM l D ρ τ) (d + 1) mX6_follow 13 [(0, .ref 0), (3, .int (S5 27 (((S5 25 (x4).toNatClampNeg) + (S5 0 60))).toNatClampNeg)), (4, .int (S5 28 (((S5 25 (x4).toNatClampNeg) + (S5 0 60))).toNatClampNeg)), (5, .int (j + 1))] [] (ai_up S5 0 61 x4) V (ai_qv V G)) ∧ (¬ (S5 2 ((S5 27 (((S5 25 (x4).toNatClampNeg) + (S5 0 60))).toNatClampNeg)).toNatClampNeg) = 8 → ai_W (uM l D ρ τ) (d + 1) mX6_follow 13 [(0, .ref 0), (3, .int (S5 27 (((S5 25 (x4).toNatClampNeg) + (S5 0 60))).toNatClampNeg)), (4, .int (S5 28 (((S5 25 (x4).toNatClampNeg) + (S5 0 60))).toNatClampNeg)), (5, .int (j + 1))] [] (ai_up (ai_up S5 0 61 x4) 0 59 0) V (ai_qv V G)))))))))))))))) :
    ai_W (uM l D ρ τ) (d + 1) mX6_follow 13 [(0, .ref 0), (3, .int m), (4, .int e), (5, .int j)] [] S V (ai_qv V G) := by
  refine ai_iload dX6_follow_13 (j := 3) rfl ?_
  refine ai_sipush (v := 500) dX6_follow_15 (by decide) ?_
  refine ai_icmp_ge (tgt := 128) dX6_follow_18 (by decide) ⟨fun (hc1 : 500 ≤ j) => ?_, fun (hc1 : ¬ 500 ≤ j) => ?_⟩
  · have h := h.1 hc1
    exact ai_retv dX6_follow_128 rfl h
  · have h := h.2 hc1
    refine ai_aload_n dX6_follow_21 rfl (j := 0) rfl ?_
    refine ai_getI dX6_follow_22 fdX6_245 rfl rfl ?_
    refine ai_iconst (v := 4) dX6_follow_25 (by decide) ?_
    refine ai_icmp_ne (tgt := 128) dX6_follow_26 (by decide) ⟨fun (hc2 : ¬ (S 0 59) = 4) => ?_, fun (hc2 : (S 0 59) = 4) => ?_⟩
    · have h := h.1 hc2
      exact ai_retv dX6_follow_128 rfl h
    · have h := h.2 hc2
      refine ai_aload_n dX6_follow_29 rfl (j := 0) rfl ?_
      refine ai_aload_n dX6_follow_30 rfl (j := 0) rfl ?_
      refine ai_getR dX6_follow_31 fdX6_22 rfl rfl ?_
      refine ai_iload_n dX6_follow_34 rfl (j := 1) rfl ?_
      refine ai_iald dX6_follow_35 rfl ⟨h.1, ?_⟩
      have hi3 := h.1
      have h := h.2
      refine ai_putI dX6_follow_36 fdX6_245 pdX6_59 rfl rfl rfl rfl ?_
      refine ai_aload_n dX6_follow_39 rfl (j := 0) rfl ?_
      refine ai_aload_n dX6_follow_40 rfl (j := 0) rfl ?_
      refine ai_getR dX6_follow_41 fdX6_25 rfl rfl ?_
      refine ai_iload_n dX6_follow_44 rfl (j := 1) rfl ?_
      refine ai_ialdx (S 6 (m).toNatClampNeg) dX6_follow_45 rfl rfl ⟨hi3, ?_⟩
      refine ai_putI dX6_follow_46 fdX6_248 pdX6_60 rfl rfl rfl rfl ?_
      refine ai_aload_n dX6_follow_49 rfl (j := 0) rfl ?_
      refine ai_aload_n dX6_follow_50 rfl (j := 0) rfl ?_
      refine ai_iload dX6_follow_51 (j := 2) rfl ?_
      refine ai_aload_n dX6_follow_53 rfl (j := 0) rfl ?_
      refine ai_getR dX6_follow_54 fdX6_28 rfl rfl ?_
      refine ai_iload_n dX6_follow_57 rfl (j := 1) rfl ?_
      refine ai_ialdx (S 7 (m).toNatClampNeg) dX6_follow_58 rfl rfl ⟨hi3, ?_⟩
      refine ai_callVi (As := [.int e, .int (S 7 (m).toNatClampNeg)]) (rest := [.ref 0]) dX6_follow_59 cvX6_251 rfl rfl rfl (Nat.le_of_ble_eq_true rfl) (ai_met.mi h (fun x4 S5 h => ?_))
      refine ai_putI dX6_follow_62 fdX6_254 pdX6_61 rfl rfl rfl rfl ?_
      refine ai_aload_n dX6_follow_65 rfl (j := 0) rfl ?_
      refine ai_getIx (S5 0 59) dX6_follow_66 fdX6_245 rfl rfl rfl ?_
      refine ai_iconst (v := 4) dX6_follow_69 (by decide) ?_
      refine ai_icmp_ne (tgt := 122) dX6_follow_70 (by decide) ⟨fun (hc6 : ¬ (S5 0 59) = 4) => ?_, fun (hc6 : (S5 0 59) = 4) => ?_⟩
      · have h := h.1 hc6
        refine ai_iinc (j := 3) (v := (j + 1)) (lv' := [(5, .int (j + 1)), (0, .ref 0), (3, .int m), (4, .int e)]) dX6_follow_122 rfl (by first | rfl | decide) (by decide) rfl ?_
        refine ai_goto (tgt := 13) dX6_follow_125 (by decide) ?_
        refine ai_locj (lv' := [(0, .ref 0), (3, .int m), (4, .int e), (5, .int (j + 1))]) [1, 2, 3, 0] rfl ?_
        exact h
      · have h := h.2 hc6
        refine ai_aload_n dX6_follow_73 rfl (j := 0) rfl ?_
        refine ai_getR dX6_follow_74 fdX6_82 rfl rfl ?_
        refine ai_aload_n dX6_follow_77 rfl (j := 0) rfl ?_
        refine ai_getIx x4 dX6_follow_78 fdX6_254 rfl rfl rfl ?_
        refine ai_ialdx (S5 25 (x4).toNatClampNeg) dX6_follow_81 rfl rfl ⟨h.1, ?_⟩
        have hi7 := h.1
        have h := h.2
        refine ai_aload_n dX6_follow_82 rfl (j := 0) rfl ?_
        refine ai_getIx (S5 0 60) dX6_follow_83 fdX6_248 rfl rfl rfl ?_
        refine ai_iadd dX6_follow_86 ?_
        refine ai_istore (lv' := [(6, .int ((S5 25 (x4).toNatClampNeg) + (S5 0 60))), (0, .ref 0), (3, .int m), (4, .int e), (5, .int j)]) dX6_follow_87 (by decide) rfl ?_
        refine ai_aload_n dX6_follow_89 rfl (j := 1) rfl ?_
        refine ai_getR dX6_follow_90 fdX6_88 rfl rfl ?_
        refine ai_iload dX6_follow_93 (j := 0) rfl ?_
        refine ai_ialdx (S5 27 (((S5 25 (x4).toNatClampNeg) + (S5 0 60))).toNatClampNeg) dX6_follow_95 rfl rfl ⟨h.1, ?_⟩
        have hi8 := h.1
        have h := h.2
        refine ai_istore_n (lv' := [(3, .int (S5 27 (((S5 25 (x4).toNatClampNeg) + (S5 0 60))).toNatClampNeg)), (6, .int ((S5 25 (x4).toNatClampNeg) + (S5 0 60))), (0, .ref 0), (4, .int e), (5, .int j)]) dX6_follow_96 rfl (by decide) rfl ?_
        refine ai_aload_n dX6_follow_97 rfl (j := 2) rfl ?_
        refine ai_getR dX6_follow_98 fdX6_91 rfl rfl ?_
        refine ai_iload dX6_follow_101 (j := 1) rfl ?_
        refine ai_ialdx (S5 28 (((S5 25 (x4).toNatClampNeg) + (S5 0 60))).toNatClampNeg) dX6_follow_103 rfl rfl ⟨hi8, ?_⟩
        refine ai_istore (lv' := [(4, .int (S5 28 (((S5 25 (x4).toNatClampNeg) + (S5 0 60))).toNatClampNeg)), (3, .int (S5 27 (((S5 25 (x4).toNatClampNeg) + (S5 0 60))).toNatClampNeg)), (6, .int ((S5 25 (x4).toNatClampNeg) + (S5 0 60))), (0, .ref 0), (5, .int j)]) dX6_follow_104 (by decide) rfl ?_
        refine ai_aload_n dX6_follow_106 rfl (j := 3) rfl ?_
        refine ai_getR dX6_follow_107 fdX6_13 rfl rfl ?_
        refine ai_iload_n dX6_follow_110 rfl (j := 1) rfl ?_
        refine ai_ialdx (S5 2 ((S5 27 (((S5 25 (x4).toNatClampNeg) + (S5 0 60))).toNatClampNeg)).toNatClampNeg) dX6_follow_111 rfl rfl ⟨h.1, ?_⟩
        have hi9 := h.1
        have h := h.2
        refine ai_bipush (v := 8) dX6_follow_112 (by decide) ?_
        refine ai_icmp_eq (tgt := 122) dX6_follow_114 (by decide) ⟨fun (hc10 : (S5 2 ((S5 27 (((S5 25 (x4).toNatClampNeg) + (S5 0 60))).toNatClampNeg)).toNatClampNeg) = 8) => ?_, fun (hc10 : ¬ (S5 2 ((S5 27 (((S5 25 (x4).toNatClampNeg) + (S5 0 60))).toNatClampNeg)).toNatClampNeg) = 8) => ?_⟩
        · have h := h.1 hc10
          refine ai_iinc (j := 4) (v := (j + 1)) (lv' := [(5, .int (j + 1)), (4, .int (S5 28 (((S5 25 (x4).toNatClampNeg) + (S5 0 60))).toNatClampNeg)), (3, .int (S5 27 (((S5 25 (x4).toNatClampNeg) + (S5 0 60))).toNatClampNeg)), (6, .int ((S5 25 (x4).toNatClampNeg) + (S5 0 60))), (0, .ref 0)]) dX6_follow_122 rfl (by first | rfl | decide) (by decide) rfl ?_
          refine ai_goto (tgt := 13) dX6_follow_125 (by decide) ?_
          refine ai_locj (lv' := [(0, .ref 0), (3, .int (S5 27 (((S5 25 (x4).toNatClampNeg) + (S5 0 60))).toNatClampNeg)), (4, .int (S5 28 (((S5 25 (x4).toNatClampNeg) + (S5 0 60))).toNatClampNeg)), (5, .int (j + 1))]) [4, 2, 1, 0] rfl ?_
          exact h
        · have h := h.2 hc10
          refine ai_aload_n dX6_follow_117 rfl (j := 3) rfl ?_
          refine ai_iconst (v := 0) dX6_follow_118 (by decide) ?_
          refine ai_putI dX6_follow_119 fdX6_245 pdX6_59 rfl rfl rfl rfl ?_
          refine ai_iinc (j := 4) (v := (j + 1)) (lv' := [(5, .int (j + 1)), (4, .int (S5 28 (((S5 25 (x4).toNatClampNeg) + (S5 0 60))).toNatClampNeg)), (3, .int (S5 27 (((S5 25 (x4).toNatClampNeg) + (S5 0 60))).toNatClampNeg)), (6, .int ((S5 25 (x4).toNatClampNeg) + (S5 0 60))), (0, .ref 0)]) dX6_follow_122 rfl (by first | rfl | decide) (by decide) rfl ?_
          refine ai_goto (tgt := 13) dX6_follow_125 (by decide) ?_
          refine ai_locj (lv' := [(0, .ref 0), (3, .int (S5 27 (((S5 25 (x4).toNatClampNeg) + (S5 0 60))).toNatClampNeg)), (4, .int (S5 28 (((S5 25 (x4).toNatClampNeg) + (S5 0 60))).toNatClampNeg)), (5, .int (j + 1))]) [4, 2, 1, 0] rfl ?_
          exact h
set_option maxHeartbeats 4000000 in
set_option maxRecDepth 100000 in
theorem vX6_target {p1 : Int32} {p2 : Int32} {S : ai_S} {V : ai_V} {G : Int32 → ai_S → Prop}
    (h : ai_met (uM l D ρ τ) d mX6_follow [.ref 0, .int p1, .int p2] S V (ai_qv V (fun S2 => (((S2 0 59) = 1 → (vp_in (S2 0 61) 400 ∧ G ((S2 25 ((S2 0 61)).toNatClampNeg) + (S2 0 60)) S2)) ∧ (¬ (S2 0 59) = 1 → ((¬ (S2 0 59) = 3 → ((¬ (S2 0 59) = 2 → G (-1) S2) ∧ ((S2 0 59) = 2 → (vp_in p1 700 ∧ (((S2 5 (p1).toNatClampNeg) = 2 → ai_W (uM l D ρ τ) (d + 1) mX6_target 59 [(0, .ref 0), (3, .int p2)] [] S2 V (ai_qi V G)) ∧ (¬ (S2 5 (p1).toNatClampNeg) = 2 → G (-1) S2)))))) ∧ ((S2 0 59) = 3 → (vp_in (S2 0 61) 400 ∧ G ((S2 25 ((S2 0 61)).toNatClampNeg) + (S2 0 60)) S2)))))))) :
    ai_met (uM l D ρ τ) (d + 1) mX6_target [.ref 0, .int p1, .int p2] S V (ai_qi V G) := by
  refine ai_mof plX6 (Nat.le_of_ble_eq_true rfl) (lv := [(0, .ref 0), (1, .int p1), (2, .int p2)]) rfl ?_
  refine ai_aload_n dX6_target_0 rfl (j := 0) rfl ?_
  refine ai_iload_n dX6_target_1 rfl (j := 1) rfl ?_
  refine ai_iload_n dX6_target_2 rfl (j := 2) rfl ?_
  refine ai_callVv (As := [.int p1, .int p2]) (rest := []) dX6_target_3 cvX6_257 rfl rfl rfl (Nat.le_of_ble_eq_true rfl) (ai_met.mv h (fun S2 h => ?_))
  refine ai_aload_n dX6_target_6 rfl (j := 0) rfl ?_
  refine ai_getI dX6_target_7 fdX6_245 rfl rfl ?_
  refine ai_iconst (v := 1) dX6_target_10 (by decide) ?_
  refine ai_icmp_eq (tgt := 22) dX6_target_11 (by decide) ⟨fun (hc3 : (S2 0 59) = 1) => ?_, fun (hc3 : ¬ (S2 0 59) = 1) => ?_⟩
  · have h := h.1 hc3
    refine ai_aload_n dX6_target_22 rfl (j := 0) rfl ?_
    refine ai_getR dX6_target_23 fdX6_82 rfl rfl ?_
    refine ai_aload_n dX6_target_26 rfl (j := 0) rfl ?_
    refine ai_getI dX6_target_27 fdX6_254 rfl rfl ?_
    refine ai_iald dX6_target_30 rfl ⟨h.1, ?_⟩
    have hi4 := h.1
    have h := h.2
    refine ai_aload_n dX6_target_31 rfl (j := 0) rfl ?_
    refine ai_getI dX6_target_32 fdX6_248 rfl rfl ?_
    refine ai_iadd dX6_target_35 ?_
    exact ai_reti dX6_target_36 rfl h
  · have h := h.2 hc3
    refine ai_aload_n dX6_target_14 rfl (j := 0) rfl ?_
    refine ai_getI dX6_target_15 fdX6_245 rfl rfl ?_
    refine ai_iconst (v := 3) dX6_target_18 (by decide) ?_
    refine ai_icmp_ne (tgt := 37) dX6_target_19 (by decide) ⟨fun (hc5 : ¬ (S2 0 59) = 3) => ?_, fun (hc5 : (S2 0 59) = 3) => ?_⟩
    · have h := h.1 hc5
      refine ai_aload_n dX6_target_37 rfl (j := 0) rfl ?_
      refine ai_getI dX6_target_38 fdX6_245 rfl rfl ?_
      refine ai_iconst (v := 2) dX6_target_41 (by decide) ?_
      refine ai_icmp_ne (tgt := 55) dX6_target_42 (by decide) ⟨fun (hc6 : ¬ (S2 0 59) = 2) => ?_, fun (hc6 : (S2 0 59) = 2) => ?_⟩
      · have h := h.1 hc6
        refine ai_iconst (v := (-1)) dX6_target_55 (by decide) ?_
        exact ai_reti dX6_target_56 rfl h
      · have h := h.2 hc6
        refine ai_aload_n dX6_target_45 rfl (j := 0) rfl ?_
        refine ai_getR dX6_target_46 fdX6_22 rfl rfl ?_
        refine ai_iload_n dX6_target_49 rfl (j := 1) rfl ?_
        refine ai_iald dX6_target_50 rfl ⟨h.1, ?_⟩
        have hi7 := h.1
        have h := h.2
        refine ai_iconst (v := 2) dX6_target_51 (by decide) ?_
        refine ai_icmp_eq (tgt := 57) dX6_target_52 (by decide) ⟨fun (hc8 : (S2 5 (p1).toNatClampNeg) = 2) => ?_, fun (hc8 : ¬ (S2 5 (p1).toNatClampNeg) = 2) => ?_⟩
        · have h := h.1 hc8
          refine ai_iload_n dX6_target_57 rfl (j := 2) rfl ?_
          refine ai_istore_n (lv' := [(3, .int p2), (0, .ref 0), (1, .int p1), (2, .int p2)]) dX6_target_58 rfl (by decide) rfl ?_
          refine ai_locj (lv' := [(0, .ref 0), (3, .int p2)]) [1, 0] rfl ?_
          exact h
        · have h := h.2 hc8
          refine ai_iconst (v := (-1)) dX6_target_55 (by decide) ?_
          exact ai_reti dX6_target_56 rfl h
    · have h := h.2 hc5
      refine ai_aload_n dX6_target_22 rfl (j := 0) rfl ?_
      refine ai_getR dX6_target_23 fdX6_82 rfl rfl ?_
      refine ai_aload_n dX6_target_26 rfl (j := 0) rfl ?_
      refine ai_getI dX6_target_27 fdX6_254 rfl rfl ?_
      refine ai_iald dX6_target_30 rfl ⟨h.1, ?_⟩
      have hi9 := h.1
      have h := h.2
      refine ai_aload_n dX6_target_31 rfl (j := 0) rfl ?_
      refine ai_getI dX6_target_32 fdX6_248 rfl rfl ?_
      refine ai_iadd dX6_target_35 ?_
      exact ai_reti dX6_target_36 rfl h
set_option maxHeartbeats 4000000 in
set_option maxRecDepth 100000 in
theorem vX6_target_59 {e : Int32} {S : ai_S} {V : ai_V} {G : Int32 → ai_S → Prop}
    (h : ((e ≤ 0 → G (-1) S) ∧ (¬ e ≤ 0 → (vp_in e 400 ∧ (((S 24 (e).toNatClampNeg) = (S 0 60) → G (S 25 (e).toNatClampNeg) S) ∧ (¬ (S 24 (e).toNatClampNeg) = (S 0 60) → ai_W (uM l D ρ τ) d mX6_target 59 [(0, .ref 0), (3, .int (S 23 (e).toNatClampNeg))] [] S V (ai_qi V G))))))) :
    ai_W (uM l D ρ τ) d mX6_target 59 [(0, .ref 0), (3, .int e)] [] S V (ai_qi V G) := by
  refine ai_iload_n dX6_target_59 rfl (j := 1) rfl ?_
  refine ai_if_le (tgt := 86) dX6_target_60 (by decide) ⟨fun (hc1 : e ≤ 0) => ?_, fun (hc1 : ¬ e ≤ 0) => ?_⟩
  · have h := h.1 hc1
    refine ai_iload_n dX6_target_86 rfl (j := 1) rfl ?_
    refine ai_if_le (tgt := 99) dX6_target_87 (by decide) ⟨fun _ => ?_, fun hc => absurd hc1 hc⟩
    refine ai_iconst (v := (-1)) dX6_target_99 (by decide) ?_
    exact ai_reti dX6_target_100 rfl h
  · have h := h.2 hc1
    refine ai_aload_n dX6_target_63 rfl (j := 0) rfl ?_
    refine ai_getR dX6_target_64 fdX6_79 rfl rfl ?_
    refine ai_iload_n dX6_target_67 rfl (j := 1) rfl ?_
    refine ai_iald dX6_target_68 rfl ⟨h.1, ?_⟩
    have hi2 := h.1
    have h := h.2
    refine ai_aload_n dX6_target_69 rfl (j := 0) rfl ?_
    refine ai_getI dX6_target_70 fdX6_248 rfl rfl ?_
    refine ai_icmp_eq (tgt := 86) dX6_target_73 (by decide) ⟨fun (hc3 : (S 24 (e).toNatClampNeg) = (S 0 60)) => ?_, fun (hc3 : ¬ (S 24 (e).toNatClampNeg) = (S 0 60)) => ?_⟩
    · have h := h.1 hc3
      refine ai_iload_n dX6_target_86 rfl (j := 1) rfl ?_
      refine ai_if_le (tgt := 99) dX6_target_87 (by decide) ⟨fun hc => absurd hc hc1, fun _ => ?_⟩
      refine ai_aload_n dX6_target_90 rfl (j := 0) rfl ?_
      refine ai_getR dX6_target_91 fdX6_82 rfl rfl ?_
      refine ai_iload_n dX6_target_94 rfl (j := 1) rfl ?_
      refine ai_iald dX6_target_95 rfl ⟨hi2, ?_⟩
      refine ai_goto (tgt := 100) dX6_target_96 (by decide) ?_
      exact ai_reti dX6_target_100 rfl h
    · have h := h.2 hc3
      refine ai_aload_n dX6_target_76 rfl (j := 0) rfl ?_
      refine ai_getR dX6_target_77 fdX6_76 rfl rfl ?_
      refine ai_iload_n dX6_target_80 rfl (j := 1) rfl ?_
      refine ai_iald dX6_target_81 rfl ⟨hi2, ?_⟩
      refine ai_istore_n (lv' := [(3, .int (S 23 (e).toNatClampNeg)), (0, .ref 0)]) dX6_target_82 rfl (by decide) rfl ?_
      refine ai_goto (tgt := 59) dX6_target_83 (by decide) ?_
      refine ai_locj (lv' := [(0, .ref 0), (3, .int (S 23 (e).toNatClampNeg))]) [1, 0] rfl ?_
      exact h
set_option maxHeartbeats 4000000 in
set_option maxRecDepth 100000 in
theorem vX6_call {p1 : Int32} {p2 : Int32} {S : ai_S} {V : ai_V} {G : ai_S → Prop}
    (h : (vp_in p1 700 ∧ (((S 2 (p1).toNatClampNeg) = 8 → ai_met (uM l D ρ τ) d mX6_follow [.ref 0, .int p1, .int p2] S V (ai_qv V (fun S4 => (((S4 0 59) = 2 → (vp_in (S4 0 60) 32 ∧ ((0 = (S4 10 ((S4 0 60)).toNatClampNeg) → ((¬ (S4 0 54) = 30 → ((((S4 0 54) + 1) ≤ (S4 0 55) → ai_met (uM l D ρ τ) d mX6_frame [.ref 0, .int (S4 0 61), .int (S4 0 60), .int 1, .int p2] (ai_up (ai_up (ai_up S4 0 51 0) 0 54 ((S4 0 54) + 1)) 0 56 ((S4 0 56) + 1)) V (ai_qi V (fun x10 S11 => ai_met (uM l D ρ τ) d mX6_arguments [.ref 0, .int 0, .int x10] S11 V (ai_qv V (fun S13 => G S13))))) ∧ (¬ ((S4 0 54) + 1) ≤ (S4 0 55) → ai_met (uM l D ρ τ) d mX6_frame [.ref 0, .int (S4 0 61), .int (S4 0 60), .int 1, .int p2] (ai_up (ai_up (ai_up (ai_up S4 0 51 0) 0 54 ((S4 0 54) + 1)) 0 56 ((S4 0 56) + 1)) 0 55 ((S4 0 54) + 1)) V (ai_qi V (fun x14 S15 => ai_met (uM l D ρ τ) d mX6_arguments [.ref 0, .int 0, .int x14] S15 V (ai_qv V (fun S17 => G S17))))))) ∧ ((S4 0 54) = 30 → G (ai_up S4 0 51 5)))) ∧ (¬ 0 = (S4 10 ((S4 0 60)).toNatClampNeg) → G (ai_up S4 0 51 4))))) ∧ (¬ (S4 0 59) = 2 → G (ai_up S4 0 51 3)))))) ∧ (¬ (S 2 (p1).toNatClampNeg) = 8 → ai_W (uM l D ρ τ) (d + 1) mX6_call 21 [(0, .ref 0), (1, .int p1), (2, .int p2), (3, .int 0), (4, .int (S 3 (p1).toNatClampNeg))] [] S V (ai_qv V G))))) :
    ai_met (uM l D ρ τ) (d + 1) mX6_call [.ref 0, .int p1, .int p2] S V (ai_qv V G) := by
  refine ai_mof plX6 (Nat.le_of_ble_eq_true rfl) (lv := [(0, .ref 0), (1, .int p1), (2, .int p2)]) rfl ?_
  refine ai_iconst (v := 0) dX6_call_0 (by decide) ?_
  refine ai_istore_n (lv' := [(3, .int 0), (0, .ref 0), (1, .int p1), (2, .int p2)]) dX6_call_1 rfl (by decide) rfl ?_
  refine ai_aload_n dX6_call_2 rfl (j := 1) rfl ?_
  refine ai_getR dX6_call_3 fdX6_13 rfl rfl ?_
  refine ai_iload_n dX6_call_6 rfl (j := 2) rfl ?_
  refine ai_iald dX6_call_7 rfl ⟨h.1, ?_⟩
  have hi1 := h.1
  have h := h.2
  refine ai_bipush (v := 8) dX6_call_8 (by decide) ?_
  refine ai_icmp_eq (tgt := 41) dX6_call_10 (by decide) ⟨fun (hc2 : (S 2 (p1).toNatClampNeg) = 8) => ?_, fun (hc2 : ¬ (S 2 (p1).toNatClampNeg) = 8) => ?_⟩
  · have h := h.1 hc2
    refine ai_aload_n dX6_call_41 rfl (j := 1) rfl ?_
    refine ai_iload_n dX6_call_42 rfl (j := 2) rfl ?_
    refine ai_iload_n dX6_call_43 rfl (j := 3) rfl ?_
    refine ai_callVv (As := [.int p1, .int p2]) (rest := []) dX6_call_44 cvX6_257 rfl rfl rfl (Nat.le_of_ble_eq_true rfl) (ai_met.mv h (fun S4 h => ?_))
    refine ai_aload_n dX6_call_47 rfl (j := 1) rfl ?_
    refine ai_getI dX6_call_48 fdX6_248 rfl rfl ?_
    refine ai_istore (lv' := [(4, .int (S4 0 60)), (3, .int 0), (0, .ref 0), (1, .int p1), (2, .int p2)]) dX6_call_51 (by decide) rfl ?_
    refine ai_aload_n dX6_call_53 rfl (j := 2) rfl ?_
    refine ai_aload_n dX6_call_54 rfl (j := 2) rfl ?_
    refine ai_getI dX6_call_55 fdX6_245 rfl rfl ?_
    refine ai_iconst (v := 2) dX6_call_58 (by decide) ?_
    refine ai_icmp_eq (tgt := 66) dX6_call_59 (by decide) ⟨fun (hc5 : (S4 0 59) = 2) => ?_, fun (hc5 : ¬ (S4 0 59) = 2) => ?_⟩
    · have h := h.1 hc5
      refine ai_iload_n dX6_call_66 rfl (j := 1) rfl ?_
      refine ai_aload_n dX6_call_67 rfl (j := 2) rfl ?_
      refine ai_getR dX6_call_68 fdX6_37 rfl rfl ?_
      refine ai_iload dX6_call_71 (j := 0) rfl ?_
      refine ai_iald dX6_call_73 rfl ⟨h.1, ?_⟩
      have hi6 := h.1
      have h := h.2
      refine ai_icmp_eq (tgt := 81) dX6_call_74 (by decide) ⟨fun (hc7 : 0 = (S4 10 ((S4 0 60)).toNatClampNeg)) => ?_, fun (hc7 : ¬ 0 = (S4 10 ((S4 0 60)).toNatClampNeg)) => ?_⟩
      · have h := h.1 hc7
        refine ai_aload_n dX6_call_81 rfl (j := 2) rfl ?_
        refine ai_getI dX6_call_82 fdX6_260 rfl rfl ?_
        refine ai_bipush (v := 30) dX6_call_85 (by decide) ?_
        refine ai_icmp_ne (tgt := 94) dX6_call_87 (by decide) ⟨fun (hc8 : ¬ (S4 0 54) = 30) => ?_, fun (hc8 : (S4 0 54) = 30) => ?_⟩
        · have h := h.1 hc8
          refine ai_iconst (v := 0) dX6_call_94 (by decide) ?_
          refine ai_putI dX6_call_95 fdX6_236 pdX6_51 rfl rfl rfl rfl ?_
          refine ai_aload_n dX6_call_98 rfl (j := 2) rfl ?_
          refine ai_getIx 0 dX6_call_99 fdX6_236 rfl rfl rfl ?_
          refine ai_if_le (tgt := 106) dX6_call_102 (by decide) ⟨fun _ => ?_, fun hc => absurd hc (by decide)⟩
          refine ai_aload_n dX6_call_106 rfl (j := 2) rfl ?_
          refine ai_dup dX6_call_107 rfl ?_
          refine ai_getIx (S4 0 54) dX6_call_108 fdX6_260 rfl rfl rfl ?_
          refine ai_iconst (v := 1) dX6_call_111 (by decide) ?_
          refine ai_iadd dX6_call_112 ?_
          refine ai_putI dX6_call_113 fdX6_260 pdX6_54 rfl rfl rfl rfl ?_
          refine ai_aload_n dX6_call_116 rfl (j := 2) rfl ?_
          refine ai_dup dX6_call_117 rfl ?_
          refine ai_getIx (S4 0 56) dX6_call_118 fdX6_263 rfl rfl rfl ?_
          refine ai_iconst (v := 1) dX6_call_121 (by decide) ?_
          refine ai_iadd dX6_call_122 ?_
          refine ai_putI dX6_call_123 fdX6_263 pdX6_56 rfl rfl rfl rfl ?_
          refine ai_aload_n dX6_call_126 rfl (j := 2) rfl ?_
          refine ai_getIx ((S4 0 54) + 1) dX6_call_127 fdX6_260 rfl rfl rfl ?_
          refine ai_aload_n dX6_call_130 rfl (j := 2) rfl ?_
          refine ai_getIx (S4 0 55) dX6_call_131 fdX6_266 rfl rfl rfl ?_
          refine ai_icmp_le (tgt := 145) dX6_call_134 (by decide) ⟨fun (hc9 : ((S4 0 54) + 1) ≤ (S4 0 55)) => ?_, fun (hc9 : ¬ ((S4 0 54) + 1) ≤ (S4 0 55)) => ?_⟩
          · have h := h.1 hc9
            refine ai_aload_n dX6_call_145 rfl (j := 2) rfl ?_
            refine ai_aload_n dX6_call_146 rfl (j := 2) rfl ?_
            refine ai_getIx (S4 0 61) dX6_call_147 fdX6_254 rfl rfl rfl ?_
            refine ai_iload dX6_call_150 (j := 0) rfl ?_
            refine ai_iconst (v := 1) dX6_call_152 (by decide) ?_
            refine ai_iload_n dX6_call_153 rfl (j := 1) rfl ?_
            refine ai_iadd dX6_call_154 ?_
            refine ai_top 1 (by decide) ?_
            refine ai_iload_n dX6_call_155 rfl (j := 4) rfl ?_
            refine ai_callVi (As := [.int (S4 0 61), .int (S4 0 60), .int 1, .int p2]) (rest := []) dX6_call_156 cvX6_269 rfl rfl rfl (Nat.le_of_ble_eq_true rfl) (ai_met.mi h (fun x10 S11 h => ?_))
            refine ai_istore (lv' := [(5, .int x10), (4, .int (S4 0 60)), (3, .int 0), (0, .ref 0), (1, .int p1), (2, .int p2)]) dX6_call_159 (by decide) rfl ?_
            refine ai_iload_n dX6_call_161 rfl (j := 2) rfl ?_
            refine ai_if_le (tgt := 246) dX6_call_162 (by decide) ⟨fun _ => ?_, fun hc => absurd hc (by decide)⟩
            refine ai_aload_n dX6_call_246 rfl (j := 3) rfl ?_
            refine ai_iload_n dX6_call_247 rfl (j := 2) rfl ?_
            refine ai_if_le (tgt := 260) dX6_call_248 (by decide) ⟨fun _ => ?_, fun hc => absurd hc (by decide)⟩
            refine ai_iconst (v := 0) dX6_call_260 (by decide) ?_
            refine ai_iload dX6_call_261 (j := 0) rfl ?_
            refine ai_callVv (As := [.int 0, .int x10]) (rest := []) dX6_call_263 cvX6_273 rfl rfl rfl (Nat.le_of_ble_eq_true rfl) (ai_met.mv h (fun S13 h => ?_))
            exact ai_retv dX6_call_266 rfl h
          · have h := h.2 hc9
            refine ai_aload_n dX6_call_137 rfl (j := 2) rfl ?_
            refine ai_aload_n dX6_call_138 rfl (j := 2) rfl ?_
            refine ai_getIx ((S4 0 54) + 1) dX6_call_139 fdX6_260 rfl rfl rfl ?_
            refine ai_putI dX6_call_142 fdX6_266 pdX6_55 rfl rfl rfl rfl ?_
            refine ai_aload_n dX6_call_145 rfl (j := 2) rfl ?_
            refine ai_aload_n dX6_call_146 rfl (j := 2) rfl ?_
            refine ai_getIx (S4 0 61) dX6_call_147 fdX6_254 rfl rfl rfl ?_
            refine ai_iload dX6_call_150 (j := 0) rfl ?_
            refine ai_iconst (v := 1) dX6_call_152 (by decide) ?_
            refine ai_iload_n dX6_call_153 rfl (j := 1) rfl ?_
            refine ai_iadd dX6_call_154 ?_
            refine ai_top 1 (by decide) ?_
            refine ai_iload_n dX6_call_155 rfl (j := 4) rfl ?_
            refine ai_callVi (As := [.int (S4 0 61), .int (S4 0 60), .int 1, .int p2]) (rest := []) dX6_call_156 cvX6_269 rfl rfl rfl (Nat.le_of_ble_eq_true rfl) (ai_met.mi h (fun x14 S15 h => ?_))
            refine ai_istore (lv' := [(5, .int x14), (4, .int (S4 0 60)), (3, .int 0), (0, .ref 0), (1, .int p1), (2, .int p2)]) dX6_call_159 (by decide) rfl ?_
            refine ai_iload_n dX6_call_161 rfl (j := 2) rfl ?_
            refine ai_if_le (tgt := 246) dX6_call_162 (by decide) ⟨fun _ => ?_, fun hc => absurd hc (by decide)⟩
            refine ai_aload_n dX6_call_246 rfl (j := 3) rfl ?_
            refine ai_iload_n dX6_call_247 rfl (j := 2) rfl ?_
            refine ai_if_le (tgt := 260) dX6_call_248 (by decide) ⟨fun _ => ?_, fun hc => absurd hc (by decide)⟩
            refine ai_iconst (v := 0) dX6_call_260 (by decide) ?_
            refine ai_iload dX6_call_261 (j := 0) rfl ?_
            refine ai_callVv (As := [.int 0, .int x14]) (rest := []) dX6_call_263 cvX6_273 rfl rfl rfl (Nat.le_of_ble_eq_true rfl) (ai_met.mv h (fun S17 h => ?_))
            exact ai_retv dX6_call_266 rfl h
        · have h := h.2 hc8
          refine ai_iconst (v := 5) dX6_call_90 (by decide) ?_
          refine ai_goto (tgt := 95) dX6_call_91 (by decide) ?_
          refine ai_putI dX6_call_95 fdX6_236 pdX6_51 rfl rfl rfl rfl ?_
          refine ai_aload_n dX6_call_98 rfl (j := 2) rfl ?_
          refine ai_getIx 5 dX6_call_99 fdX6_236 rfl rfl rfl ?_
          refine ai_if_le (tgt := 106) dX6_call_102 (by decide) ⟨fun hc => absurd hc (by decide), fun _ => ?_⟩
          exact ai_retv dX6_call_105 rfl h
      · have h := h.2 hc7
        refine ai_iconst (v := 4) dX6_call_77 (by decide) ?_
        refine ai_goto (tgt := 95) dX6_call_78 (by decide) ?_
        refine ai_putI dX6_call_95 fdX6_236 pdX6_51 rfl rfl rfl rfl ?_
        refine ai_aload_n dX6_call_98 rfl (j := 2) rfl ?_
        refine ai_getIx 4 dX6_call_99 fdX6_236 rfl rfl rfl ?_
        refine ai_if_le (tgt := 106) dX6_call_102 (by decide) ⟨fun hc => absurd hc (by decide), fun _ => ?_⟩
        exact ai_retv dX6_call_105 rfl h
    · have h := h.2 hc5
      refine ai_iconst (v := 3) dX6_call_62 (by decide) ?_
      refine ai_goto (tgt := 95) dX6_call_63 (by decide) ?_
      refine ai_putI dX6_call_95 fdX6_236 pdX6_51 rfl rfl rfl rfl ?_
      refine ai_aload_n dX6_call_98 rfl (j := 2) rfl ?_
      refine ai_getIx 3 dX6_call_99 fdX6_236 rfl rfl rfl ?_
      refine ai_if_le (tgt := 106) dX6_call_102 (by decide) ⟨fun hc => absurd hc (by decide), fun _ => ?_⟩
      exact ai_retv dX6_call_105 rfl h
  · have h := h.2 hc2
    refine ai_aload_n dX6_call_13 rfl (j := 1) rfl ?_
    refine ai_getR dX6_call_14 fdX6_16 rfl rfl ?_
    refine ai_iload_n dX6_call_17 rfl (j := 2) rfl ?_
    refine ai_iald dX6_call_18 rfl ⟨hi1, ?_⟩
    refine ai_istore (lv' := [(4, .int (S 3 (p1).toNatClampNeg)), (3, .int 0), (0, .ref 0), (1, .int p1), (2, .int p2)]) dX6_call_19 (by decide) rfl ?_
    refine ai_locj (lv' := [(0, .ref 0), (1, .int p1), (2, .int p2), (3, .int 0), (4, .int (S 3 (p1).toNatClampNeg))]) [2, 3, 4, 1, 0] rfl ?_
    exact h
set_option maxHeartbeats 4000000 in
set_option maxRecDepth 100000 in
theorem vX6_call_21 {p1 : Int32} {p2 : Int32} {ct : Int32} {a : Int32} {S : ai_S} {V : ai_V} {G : ai_S → Prop}
    (h : ((a ≤ 0 → ai_met (uM l D ρ τ) d mX6_follow [.ref 0, .int p1, .int p2] S V (ai_qv V (fun S3 => (((S3 0 59) = 2 → (vp_in (S3 0 60) 32 ∧ ((ct = (S3 10 ((S3 0 60)).toNatClampNeg) → ((¬ (S3 0 54) = 30 → ((((S3 0 54) + 1) ≤ (S3 0 55) → ai_met (uM l D ρ τ) d mX6_frame [.ref 0, .int (S3 0 61), .int (S3 0 60), .int (1 + ct), .int p2] (ai_up (ai_up (ai_up S3 0 51 0) 0 54 ((S3 0 54) + 1)) 0 56 ((S3 0 56) + 1)) V (ai_qi V (fun x9 S10 => ((ct ≤ 0 → ai_met (uM l D ρ τ) d mX6_arguments [.ref 0, .int 0, .int x9] S10 V (ai_qv V (fun S13 => G S13))) ∧ (¬ ct ≤ 0 → (vp_in p1 700 ∧ ai_W (uM l D ρ τ) (d + 1) mX6_call 173 [(0, .ref 0), (1, .int p1), (2, .int p2), (3, .int ct), (4, .int (S3 0 60)), (5, .int x9), (6, .int (S10 3 (p1).toNatClampNeg))] [] S10 V (ai_qv V G))))))) ∧ (¬ ((S3 0 54) + 1) ≤ (S3 0 55) → ai_met (uM l D ρ τ) d mX6_frame [.ref 0, .int (S3 0 61), .int (S3 0 60), .int (1 + ct), .int p2] (ai_up (ai_up (ai_up (ai_up S3 0 51 0) 0 54 ((S3 0 54) + 1)) 0 56 ((S3 0 56) + 1)) 0 55 ((S3 0 54) + 1)) V (ai_qi V (fun x15 S16 => ((ct ≤ 0 → ai_met (uM l D ρ τ) d mX6_arguments [.ref 0, .int 0, .int x15] S16 V (ai_qv V (fun S19 => G S19))) ∧ (¬ ct ≤ 0 → (vp_in p1 700 ∧ ai_W (uM l D ρ τ) (d + 1) mX6_call 173 [(0, .ref 0), (1, .int p1), (2, .int p2), (3, .int ct), (4, .int (S3 0 60)), (5, .int x15), (6, .int (S16 3 (p1).toNatClampNeg))] [] S16 V (ai_qv V G))))))))) ∧ ((S3 0 54) = 30 → G (ai_up S3 0 51 5)))) ∧ (¬ ct = (S3 10 ((S3 0 60)).toNatClampNeg) → G (ai_up S3 0 51 4))))) ∧ (¬ (S3 0 59) = 2 → G (ai_up S3 0 51 3)))))) ∧ (¬ a ≤ 0 → (vp_in a 700 ∧ ai_W (uM l D ρ τ) (d + 1) mX6_call 21 [(0, .ref 0), (1, .int p1), (2, .int p2), (3, .int (ct + 1)), (4, .int (S 4 (a).toNatClampNeg))] [] S V (ai_qv V G))))) :
    ai_W (uM l D ρ τ) (d + 1) mX6_call 21 [(0, .ref 0), (1, .int p1), (2, .int p2), (3, .int ct), (4, .int a)] [] S V (ai_qv V G) := by
  refine ai_iload dX6_call_21 (j := 4) rfl ?_
  refine ai_if_le (tgt := 41) dX6_call_23 (by decide) ⟨fun (hc1 : a ≤ 0) => ?_, fun (hc1 : ¬ a ≤ 0) => ?_⟩
  · have h := h.1 hc1
    refine ai_aload_n dX6_call_41 rfl (j := 0) rfl ?_
    refine ai_iload_n dX6_call_42 rfl (j := 1) rfl ?_
    refine ai_iload_n dX6_call_43 rfl (j := 2) rfl ?_
    refine ai_callVv (As := [.int p1, .int p2]) (rest := []) dX6_call_44 cvX6_257 rfl rfl rfl (Nat.le_of_ble_eq_true rfl) (ai_met.mv h (fun S3 h => ?_))
    refine ai_aload_n dX6_call_47 rfl (j := 0) rfl ?_
    refine ai_getI dX6_call_48 fdX6_248 rfl rfl ?_
    refine ai_istore (lv' := [(4, .int (S3 0 60)), (0, .ref 0), (1, .int p1), (2, .int p2), (3, .int ct)]) dX6_call_51 (by decide) rfl ?_
    refine ai_aload_n dX6_call_53 rfl (j := 1) rfl ?_
    refine ai_aload_n dX6_call_54 rfl (j := 1) rfl ?_
    refine ai_getI dX6_call_55 fdX6_245 rfl rfl ?_
    refine ai_iconst (v := 2) dX6_call_58 (by decide) ?_
    refine ai_icmp_eq (tgt := 66) dX6_call_59 (by decide) ⟨fun (hc4 : (S3 0 59) = 2) => ?_, fun (hc4 : ¬ (S3 0 59) = 2) => ?_⟩
    · have h := h.1 hc4
      refine ai_iload_n dX6_call_66 rfl (j := 4) rfl ?_
      refine ai_aload_n dX6_call_67 rfl (j := 1) rfl ?_
      refine ai_getR dX6_call_68 fdX6_37 rfl rfl ?_
      refine ai_iload dX6_call_71 (j := 0) rfl ?_
      refine ai_iald dX6_call_73 rfl ⟨h.1, ?_⟩
      have hi5 := h.1
      have h := h.2
      refine ai_icmp_eq (tgt := 81) dX6_call_74 (by decide) ⟨fun (hc6 : ct = (S3 10 ((S3 0 60)).toNatClampNeg)) => ?_, fun (hc6 : ¬ ct = (S3 10 ((S3 0 60)).toNatClampNeg)) => ?_⟩
      · have h := h.1 hc6
        refine ai_aload_n dX6_call_81 rfl (j := 1) rfl ?_
        refine ai_getI dX6_call_82 fdX6_260 rfl rfl ?_
        refine ai_bipush (v := 30) dX6_call_85 (by decide) ?_
        refine ai_icmp_ne (tgt := 94) dX6_call_87 (by decide) ⟨fun (hc7 : ¬ (S3 0 54) = 30) => ?_, fun (hc7 : (S3 0 54) = 30) => ?_⟩
        · have h := h.1 hc7
          refine ai_iconst (v := 0) dX6_call_94 (by decide) ?_
          refine ai_putI dX6_call_95 fdX6_236 pdX6_51 rfl rfl rfl rfl ?_
          refine ai_aload_n dX6_call_98 rfl (j := 1) rfl ?_
          refine ai_getIx 0 dX6_call_99 fdX6_236 rfl rfl rfl ?_
          refine ai_if_le (tgt := 106) dX6_call_102 (by decide) ⟨fun _ => ?_, fun hc => absurd hc (by decide)⟩
          refine ai_aload_n dX6_call_106 rfl (j := 1) rfl ?_
          refine ai_dup dX6_call_107 rfl ?_
          refine ai_getIx (S3 0 54) dX6_call_108 fdX6_260 rfl rfl rfl ?_
          refine ai_iconst (v := 1) dX6_call_111 (by decide) ?_
          refine ai_iadd dX6_call_112 ?_
          refine ai_putI dX6_call_113 fdX6_260 pdX6_54 rfl rfl rfl rfl ?_
          refine ai_aload_n dX6_call_116 rfl (j := 1) rfl ?_
          refine ai_dup dX6_call_117 rfl ?_
          refine ai_getIx (S3 0 56) dX6_call_118 fdX6_263 rfl rfl rfl ?_
          refine ai_iconst (v := 1) dX6_call_121 (by decide) ?_
          refine ai_iadd dX6_call_122 ?_
          refine ai_putI dX6_call_123 fdX6_263 pdX6_56 rfl rfl rfl rfl ?_
          refine ai_aload_n dX6_call_126 rfl (j := 1) rfl ?_
          refine ai_getIx ((S3 0 54) + 1) dX6_call_127 fdX6_260 rfl rfl rfl ?_
          refine ai_aload_n dX6_call_130 rfl (j := 1) rfl ?_
          refine ai_getIx (S3 0 55) dX6_call_131 fdX6_266 rfl rfl rfl ?_
          refine ai_icmp_le (tgt := 145) dX6_call_134 (by decide) ⟨fun (hc8 : ((S3 0 54) + 1) ≤ (S3 0 55)) => ?_, fun (hc8 : ¬ ((S3 0 54) + 1) ≤ (S3 0 55)) => ?_⟩
          · have h := h.1 hc8
            refine ai_aload_n dX6_call_145 rfl (j := 1) rfl ?_
            refine ai_aload_n dX6_call_146 rfl (j := 1) rfl ?_
            refine ai_getIx (S3 0 61) dX6_call_147 fdX6_254 rfl rfl rfl ?_
            refine ai_iload dX6_call_150 (j := 0) rfl ?_
            refine ai_iconst (v := 1) dX6_call_152 (by decide) ?_
            refine ai_iload_n dX6_call_153 rfl (j := 4) rfl ?_
            refine ai_iadd dX6_call_154 ?_
            refine ai_iload_n dX6_call_155 rfl (j := 3) rfl ?_
            refine ai_callVi (As := [.int (S3 0 61), .int (S3 0 60), .int (1 + ct), .int p2]) (rest := []) dX6_call_156 cvX6_269 rfl rfl rfl (Nat.le_of_ble_eq_true rfl) (ai_met.mi h (fun x9 S10 h => ?_))
            refine ai_istore (lv' := [(5, .int x9), (4, .int (S3 0 60)), (0, .ref 0), (1, .int p1), (2, .int p2), (3, .int ct)]) dX6_call_159 (by decide) rfl ?_
            refine ai_iload_n dX6_call_161 rfl (j := 5) rfl ?_
            refine ai_if_le (tgt := 246) dX6_call_162 (by decide) ⟨fun (hc11 : ct ≤ 0) => ?_, fun (hc11 : ¬ ct ≤ 0) => ?_⟩
            · have h := h.1 hc11
              refine ai_aload_n dX6_call_246 rfl (j := 2) rfl ?_
              refine ai_iload_n dX6_call_247 rfl (j := 5) rfl ?_
              refine ai_if_le (tgt := 260) dX6_call_248 (by decide) ⟨fun _ => ?_, fun hc => absurd hc11 hc⟩
              refine ai_iconst (v := 0) dX6_call_260 (by decide) ?_
              refine ai_iload dX6_call_261 (j := 0) rfl ?_
              refine ai_callVv (As := [.int 0, .int x9]) (rest := []) dX6_call_263 cvX6_273 rfl rfl rfl (Nat.le_of_ble_eq_true rfl) (ai_met.mv h (fun S13 h => ?_))
              exact ai_retv dX6_call_266 rfl h
            · have h := h.2 hc11
              refine ai_aload_n dX6_call_165 rfl (j := 2) rfl ?_
              refine ai_getR dX6_call_166 fdX6_16 rfl rfl ?_
              refine ai_iload_n dX6_call_169 rfl (j := 3) rfl ?_
              refine ai_iald dX6_call_170 rfl ⟨h.1, ?_⟩
              have hi14 := h.1
              have h := h.2
              refine ai_istore (lv' := [(6, .int (S10 3 (p1).toNatClampNeg)), (5, .int x9), (4, .int (S3 0 60)), (0, .ref 0), (1, .int p1), (2, .int p2), (3, .int ct)]) dX6_call_171 (by decide) rfl ?_
              refine ai_locj (lv' := [(0, .ref 0), (1, .int p1), (2, .int p2), (3, .int ct), (4, .int (S3 0 60)), (5, .int x9), (6, .int (S10 3 (p1).toNatClampNeg))]) [3, 4, 5, 6, 2, 1, 0] rfl ?_
              exact h
          · have h := h.2 hc8
            refine ai_aload_n dX6_call_137 rfl (j := 1) rfl ?_
            refine ai_aload_n dX6_call_138 rfl (j := 1) rfl ?_
            refine ai_getIx ((S3 0 54) + 1) dX6_call_139 fdX6_260 rfl rfl rfl ?_
            refine ai_putI dX6_call_142 fdX6_266 pdX6_55 rfl rfl rfl rfl ?_
            refine ai_aload_n dX6_call_145 rfl (j := 1) rfl ?_
            refine ai_aload_n dX6_call_146 rfl (j := 1) rfl ?_
            refine ai_getIx (S3 0 61) dX6_call_147 fdX6_254 rfl rfl rfl ?_
            refine ai_iload dX6_call_150 (j := 0) rfl ?_
            refine ai_iconst (v := 1) dX6_call_152 (by decide) ?_
            refine ai_iload_n dX6_call_153 rfl (j := 4) rfl ?_
            refine ai_iadd dX6_call_154 ?_
            refine ai_iload_n dX6_call_155 rfl (j := 3) rfl ?_
            refine ai_callVi (As := [.int (S3 0 61), .int (S3 0 60), .int (1 + ct), .int p2]) (rest := []) dX6_call_156 cvX6_269 rfl rfl rfl (Nat.le_of_ble_eq_true rfl) (ai_met.mi h (fun x15 S16 h => ?_))
            refine ai_istore (lv' := [(5, .int x15), (4, .int (S3 0 60)), (0, .ref 0), (1, .int p1), (2, .int p2), (3, .int ct)]) dX6_call_159 (by decide) rfl ?_
            refine ai_iload_n dX6_call_161 rfl (j := 5) rfl ?_
            refine ai_if_le (tgt := 246) dX6_call_162 (by decide) ⟨fun (hc17 : ct ≤ 0) => ?_, fun (hc17 : ¬ ct ≤ 0) => ?_⟩
            · have h := h.1 hc17
              refine ai_aload_n dX6_call_246 rfl (j := 2) rfl ?_
              refine ai_iload_n dX6_call_247 rfl (j := 5) rfl ?_
              refine ai_if_le (tgt := 260) dX6_call_248 (by decide) ⟨fun _ => ?_, fun hc => absurd hc17 hc⟩
              refine ai_iconst (v := 0) dX6_call_260 (by decide) ?_
              refine ai_iload dX6_call_261 (j := 0) rfl ?_
              refine ai_callVv (As := [.int 0, .int x15]) (rest := []) dX6_call_263 cvX6_273 rfl rfl rfl (Nat.le_of_ble_eq_true rfl) (ai_met.mv h (fun S19 h => ?_))
              exact ai_retv dX6_call_266 rfl h
            · have h := h.2 hc17
              refine ai_aload_n dX6_call_165 rfl (j := 2) rfl ?_
              refine ai_getR dX6_call_166 fdX6_16 rfl rfl ?_
              refine ai_iload_n dX6_call_169 rfl (j := 3) rfl ?_
              refine ai_iald dX6_call_170 rfl ⟨h.1, ?_⟩
              have hi20 := h.1
              have h := h.2
              refine ai_istore (lv' := [(6, .int (S16 3 (p1).toNatClampNeg)), (5, .int x15), (4, .int (S3 0 60)), (0, .ref 0), (1, .int p1), (2, .int p2), (3, .int ct)]) dX6_call_171 (by decide) rfl ?_
              refine ai_locj (lv' := [(0, .ref 0), (1, .int p1), (2, .int p2), (3, .int ct), (4, .int (S3 0 60)), (5, .int x15), (6, .int (S16 3 (p1).toNatClampNeg))]) [3, 4, 5, 6, 2, 1, 0] rfl ?_
              exact h
        · have h := h.2 hc7
          refine ai_iconst (v := 5) dX6_call_90 (by decide) ?_
          refine ai_goto (tgt := 95) dX6_call_91 (by decide) ?_
          refine ai_putI dX6_call_95 fdX6_236 pdX6_51 rfl rfl rfl rfl ?_
          refine ai_aload_n dX6_call_98 rfl (j := 1) rfl ?_
          refine ai_getIx 5 dX6_call_99 fdX6_236 rfl rfl rfl ?_
          refine ai_if_le (tgt := 106) dX6_call_102 (by decide) ⟨fun hc => absurd hc (by decide), fun _ => ?_⟩
          exact ai_retv dX6_call_105 rfl h
      · have h := h.2 hc6
        refine ai_iconst (v := 4) dX6_call_77 (by decide) ?_
        refine ai_goto (tgt := 95) dX6_call_78 (by decide) ?_
        refine ai_putI dX6_call_95 fdX6_236 pdX6_51 rfl rfl rfl rfl ?_
        refine ai_aload_n dX6_call_98 rfl (j := 1) rfl ?_
        refine ai_getIx 4 dX6_call_99 fdX6_236 rfl rfl rfl ?_
        refine ai_if_le (tgt := 106) dX6_call_102 (by decide) ⟨fun hc => absurd hc (by decide), fun _ => ?_⟩
        exact ai_retv dX6_call_105 rfl h
    · have h := h.2 hc4
      refine ai_iconst (v := 3) dX6_call_62 (by decide) ?_
      refine ai_goto (tgt := 95) dX6_call_63 (by decide) ?_
      refine ai_putI dX6_call_95 fdX6_236 pdX6_51 rfl rfl rfl rfl ?_
      refine ai_aload_n dX6_call_98 rfl (j := 1) rfl ?_
      refine ai_getIx 3 dX6_call_99 fdX6_236 rfl rfl rfl ?_
      refine ai_if_le (tgt := 106) dX6_call_102 (by decide) ⟨fun hc => absurd hc (by decide), fun _ => ?_⟩
      exact ai_retv dX6_call_105 rfl h
  · have h := h.2 hc1
    refine ai_iinc (j := 3) (v := (ct + 1)) (lv' := [(3, .int (ct + 1)), (0, .ref 0), (1, .int p1), (2, .int p2), (4, .int a)]) dX6_call_26 rfl (by first | rfl | decide) (by decide) rfl ?_
    refine ai_aload_n dX6_call_29 rfl (j := 1) rfl ?_
    refine ai_getR dX6_call_30 fdX6_19 rfl rfl ?_
    refine ai_iload dX6_call_33 (j := 4) rfl ?_
    refine ai_iald dX6_call_35 rfl ⟨h.1, ?_⟩
    have hi21 := h.1
    have h := h.2
    refine ai_istore (lv' := [(4, .int (S 4 (a).toNatClampNeg)), (3, .int (ct + 1)), (0, .ref 0), (1, .int p1), (2, .int p2)]) dX6_call_36 (by decide) rfl ?_
    refine ai_goto (tgt := 21) dX6_call_38 (by decide) ?_
    refine ai_locj (lv' := [(0, .ref 0), (1, .int p1), (2, .int p2), (3, .int (ct + 1)), (4, .int (S 4 (a).toNatClampNeg))]) [2, 3, 4, 1, 0] rfl ?_
    exact h
set_option maxHeartbeats 4000000 in
set_option maxRecDepth 100000 in
theorem vX6_call_173 {p1 : Int32} {p2 : Int32} {ct : Int32} {pr : Int32} {e : Int32} {a : Int32} {S : ai_S} {V : ai_V} {G : ai_S → Prop}
    (h : ((a ≤ 0 → ((ct ≤ 0 → ai_met (uM l D ρ τ) d mX6_arguments [.ref 0, .int 0, .int e] S V (ai_qv V (fun S4 => G S4))) ∧ (¬ ct ≤ 0 → (vp_in p1 700 ∧ ai_met (uM l D ρ τ) d mX6_arguments [.ref 0, .int (S 3 (p1).toNatClampNeg), .int e] S V (ai_qv V (fun S7 => G S7)))))) ∧ (¬ a ≤ 0 → (vp_in e 400 ∧ (vp_in a 700 ∧ (vp_in pr 32 ∧ ((¬ (((S 11 (pr).toNatClampNeg) >>> ((S 8 (a).toNatClampNeg) &&& 31)) &&& (1 : Int32)) = 0 → ai_W (uM l D ρ τ) (d + 1) mX6_call 173 [(0, .ref 0), (1, .int p1), (2, .int p2), (3, .int ct), (4, .int pr), (5, .int e), (6, .int (S 4 (a).toNatClampNeg))] [] S V (ai_qv V G)) ∧ ((((S 11 (pr).toNatClampNeg) >>> ((S 8 (a).toNatClampNeg) &&& 31)) &&& (1 : Int32)) = 0 → (vp_in (((S 25 (e).toNatClampNeg) + 1) + (S 8 (a).toNatClampNeg)) 1300 ∧ ai_W (uM l D ρ τ) (d + 1) mX6_call 173 [(0, .ref 0), (1, .int p1), (2, .int p2), (3, .int ct), (4, .int pr), (5, .int e), (6, .int (S 4 (a).toNatClampNeg))] [] (ai_up (ai_up S 27 ((((S 25 (e).toNatClampNeg) + 1) + (S 8 (a).toNatClampNeg))).toNatClampNeg a) 28 ((((S 25 (e).toNatClampNeg) + 1) + (S 8 (a).toNatClampNeg))).toNatClampNeg p2) V (ai_qv V G)))))))))) :
    ai_W (uM l D ρ τ) (d + 1) mX6_call 173 [(0, .ref 0), (1, .int p1), (2, .int p2), (3, .int ct), (4, .int pr), (5, .int e), (6, .int a)] [] S V (ai_qv V G) := by
  refine ai_iload dX6_call_173 (j := 6) rfl ?_
  refine ai_if_le (tgt := 246) dX6_call_175 (by decide) ⟨fun (hc1 : a ≤ 0) => ?_, fun (hc1 : ¬ a ≤ 0) => ?_⟩
  · have h := h.1 hc1
    refine ai_aload_n dX6_call_246 rfl (j := 0) rfl ?_
    refine ai_iload_n dX6_call_247 rfl (j := 3) rfl ?_
    refine ai_if_le (tgt := 260) dX6_call_248 (by decide) ⟨fun (hc2 : ct ≤ 0) => ?_, fun (hc2 : ¬ ct ≤ 0) => ?_⟩
    · have h := h.1 hc2
      refine ai_iconst (v := 0) dX6_call_260 (by decide) ?_
      refine ai_iload dX6_call_261 (j := 5) rfl ?_
      refine ai_callVv (As := [.int 0, .int e]) (rest := []) dX6_call_263 cvX6_273 rfl rfl rfl (Nat.le_of_ble_eq_true rfl) (ai_met.mv h (fun S4 h => ?_))
      exact ai_retv dX6_call_266 rfl h
    · have h := h.2 hc2
      refine ai_aload_n dX6_call_251 rfl (j := 0) rfl ?_
      refine ai_getR dX6_call_252 fdX6_16 rfl rfl ?_
      refine ai_iload_n dX6_call_255 rfl (j := 1) rfl ?_
      refine ai_iald dX6_call_256 rfl ⟨h.1, ?_⟩
      have hi5 := h.1
      have h := h.2
      refine ai_goto (tgt := 261) dX6_call_257 (by decide) ?_
      refine ai_iload dX6_call_261 (j := 5) rfl ?_
      refine ai_callVv (As := [.int (S 3 (p1).toNatClampNeg), .int e]) (rest := []) dX6_call_263 cvX6_273 rfl rfl rfl (Nat.le_of_ble_eq_true rfl) (ai_met.mv h (fun S7 h => ?_))
      exact ai_retv dX6_call_266 rfl h
  · have h := h.2 hc1
    refine ai_aload_n dX6_call_178 rfl (j := 0) rfl ?_
    refine ai_getR dX6_call_179 fdX6_82 rfl rfl ?_
    refine ai_iload dX6_call_182 (j := 5) rfl ?_
    refine ai_iald dX6_call_184 rfl ⟨h.1, ?_⟩
    have hi8 := h.1
    have h := h.2
    refine ai_iconst (v := 1) dX6_call_185 (by decide) ?_
    refine ai_iadd dX6_call_186 ?_
    refine ai_aload_n dX6_call_187 rfl (j := 0) rfl ?_
    refine ai_getR dX6_call_188 fdX6_31 rfl rfl ?_
    refine ai_iload dX6_call_191 (j := 6) rfl ?_
    refine ai_iald dX6_call_193 rfl ⟨h.1, ?_⟩
    have hi9 := h.1
    have h := h.2
    refine ai_iadd dX6_call_194 ?_
    refine ai_istore (lv' := [(7, .int (((S 25 (e).toNatClampNeg) + 1) + (S 8 (a).toNatClampNeg))), (0, .ref 0), (1, .int p1), (2, .int p2), (3, .int ct), (4, .int pr), (5, .int e), (6, .int a)]) dX6_call_195 (by decide) rfl ?_
    refine ai_aload_n dX6_call_197 rfl (j := 1) rfl ?_
    refine ai_getR dX6_call_198 fdX6_40 rfl rfl ?_
    refine ai_iload dX6_call_201 (j := 5) rfl ?_
    refine ai_iald dX6_call_203 rfl ⟨h.1, ?_⟩
    have hi10 := h.1
    have h := h.2
    refine ai_aload_n dX6_call_204 rfl (j := 1) rfl ?_
    refine ai_getR dX6_call_205 fdX6_31 rfl rfl ?_
    refine ai_iload dX6_call_208 (j := 7) rfl ?_
    refine ai_iald dX6_call_210 rfl ⟨hi9, ?_⟩
    refine ai_ishr dX6_call_211 ?_
    refine ai_iconst (v := 1) dX6_call_212 (by decide) ?_
    refine ai_iand dX6_call_213 ?_
    refine ai_if_ne (tgt := 234) dX6_call_214 (by decide) ⟨fun (hc11 : ¬ (((S 11 (pr).toNatClampNeg) >>> ((S 8 (a).toNatClampNeg) &&& 31)) &&& (1 : Int32)) = 0) => ?_, fun (hc11 : (((S 11 (pr).toNatClampNeg) >>> ((S 8 (a).toNatClampNeg) &&& 31)) &&& (1 : Int32)) = 0) => ?_⟩
    · have h := h.1 hc11
      refine ai_aload_n dX6_call_234 rfl (j := 1) rfl ?_
      refine ai_getR dX6_call_235 fdX6_19 rfl rfl ?_
      refine ai_iload dX6_call_238 (j := 7) rfl ?_
      refine ai_iald dX6_call_240 rfl ⟨hi9, ?_⟩
      refine ai_istore (lv' := [(6, .int (S 4 (a).toNatClampNeg)), (7, .int (((S 25 (e).toNatClampNeg) + 1) + (S 8 (a).toNatClampNeg))), (0, .ref 0), (1, .int p1), (2, .int p2), (3, .int ct), (4, .int pr), (5, .int e)]) dX6_call_241 (by decide) rfl ?_
      refine ai_goto (tgt := 173) dX6_call_243 (by decide) ?_
      refine ai_locj (lv' := [(0, .ref 0), (1, .int p1), (2, .int p2), (3, .int ct), (4, .int pr), (5, .int e), (6, .int (S 4 (a).toNatClampNeg))]) [2, 3, 4, 5, 6, 7, 0] rfl ?_
      exact h
    · have h := h.2 hc11
      refine ai_aload_n dX6_call_217 rfl (j := 1) rfl ?_
      refine ai_getR dX6_call_218 fdX6_88 rfl rfl ?_
      refine ai_iload dX6_call_221 (j := 0) rfl ?_
      refine ai_iload dX6_call_223 (j := 7) rfl ?_
      refine ai_iast dX6_call_225 rfl ⟨h.1, ?_⟩
      have hi12 := h.1
      have h := h.2
      refine ai_aload_n dX6_call_226 rfl (j := 1) rfl ?_
      refine ai_getR dX6_call_227 fdX6_91 rfl rfl ?_
      refine ai_iload dX6_call_230 (j := 0) rfl ?_
      refine ai_iload_n dX6_call_232 rfl (j := 3) rfl ?_
      refine ai_iast dX6_call_233 rfl ⟨hi12, ?_⟩
      refine ai_aload_n dX6_call_234 rfl (j := 1) rfl ?_
      refine ai_getR dX6_call_235 fdX6_19 rfl rfl ?_
      refine ai_iload dX6_call_238 (j := 7) rfl ?_
      refine ai_ialdx (S 4 (a).toNatClampNeg) dX6_call_240 rfl rfl ⟨hi9, ?_⟩
      refine ai_istore (lv' := [(6, .int (S 4 (a).toNatClampNeg)), (7, .int (((S 25 (e).toNatClampNeg) + 1) + (S 8 (a).toNatClampNeg))), (0, .ref 0), (1, .int p1), (2, .int p2), (3, .int ct), (4, .int pr), (5, .int e)]) dX6_call_241 (by decide) rfl ?_
      refine ai_goto (tgt := 173) dX6_call_243 (by decide) ?_
      refine ai_locj (lv' := [(0, .ref 0), (1, .int p1), (2, .int p2), (3, .int ct), (4, .int pr), (5, .int e), (6, .int (S 4 (a).toNatClampNeg))]) [2, 3, 4, 5, 6, 7, 0] rfl ?_
      exact h
set_option maxHeartbeats 4000000 in
set_option maxRecDepth 100000 in
theorem vX6_arguments {p1 : Int32} {p2 : Int32} {S : ai_S} {V : ai_V} {G : ai_S → Prop}
    (h : (vp_in p2 400 ∧ ai_W (uM l D ρ τ) d mX6_arguments 10 [(0, .ref 0), (2, .int p2), (3, .int (S 24 (p2).toNatClampNeg)), (4, .int p1)] [] S V (ai_qv V G))) :
    ai_met (uM l D ρ τ) d mX6_arguments [.ref 0, .int p1, .int p2] S V (ai_qv V G) := by
  refine ai_mof plX6 (Nat.le_of_ble_eq_true rfl) (lv := [(0, .ref 0), (1, .int p1), (2, .int p2)]) rfl ?_
  refine ai_aload_n dX6_arguments_0 rfl (j := 0) rfl ?_
  refine ai_getR dX6_arguments_1 fdX6_79 rfl rfl ?_
  refine ai_iload_n dX6_arguments_4 rfl (j := 2) rfl ?_
  refine ai_iald dX6_arguments_5 rfl ⟨h.1, ?_⟩
  have hi1 := h.1
  have h := h.2
  refine ai_istore_n (lv' := [(3, .int (S 24 (p2).toNatClampNeg)), (0, .ref 0), (1, .int p1), (2, .int p2)]) dX6_arguments_6 rfl (by decide) rfl ?_
  refine ai_iload_n dX6_arguments_7 rfl (j := 2) rfl ?_
  refine ai_istore (lv' := [(4, .int p1), (3, .int (S 24 (p2).toNatClampNeg)), (0, .ref 0), (1, .int p1), (2, .int p2)]) dX6_arguments_8 (by decide) rfl ?_
  refine ai_locj (lv' := [(0, .ref 0), (2, .int p2), (3, .int (S 24 (p2).toNatClampNeg)), (4, .int p1)]) [2, 4, 1, 0] rfl ?_
  exact h
set_option maxHeartbeats 4000000 in
set_option maxRecDepth 100000 in
theorem vX6_arguments_10 {p2 : Int32} {pr : Int32} {k : Int32} {S : ai_S} {V : ai_V} {G : ai_S → Prop}
    (h : ((k ≤ 0 → ai_met (uM l D ρ τ) d mX6_later [.ref 0, .int 13, .int 0, .int p2] S V (ai_qv V (fun S3 => (vp_in pr 32 ∧ ai_met (uM l D ρ τ) d mX6_later [.ref 0, .int 0, .int (S3 9 (pr).toNatClampNeg), .int p2] S3 V (ai_qv V (fun S6 => G S6)))))) ∧ (¬ k ≤ 0 → (vp_in pr 32 ∧ (vp_in k 700 ∧ ((¬ (((S 11 (pr).toNatClampNeg) >>> ((S 8 (k).toNatClampNeg) &&& 31)) &&& (1 : Int32)) = 0 → ai_met (uM l D ρ τ) d mX6_later [.ref 0, .int 12, .int k, .int p2] S V (ai_qv V (fun S11 => (vp_in p2 400 ∧ ai_met (uM l D ρ τ) d mX6_later [.ref 0, .int 8, .int k, .int (S11 26 (p2).toNatClampNeg)] S11 V (ai_qv V (fun S14 => G S14)))))) ∧ ((((S 11 (pr).toNatClampNeg) >>> ((S 8 (k).toNatClampNeg) &&& 31)) &&& (1 : Int32)) = 0 → ai_W (uM l D ρ τ) (d + 1) mX6_arguments 10 [(0, .ref 0), (2, .int p2), (3, .int pr), (4, .int (S 4 (k).toNatClampNeg))] [] S V (ai_qv V G)))))))) :
    ai_W (uM l D ρ τ) (d + 1) mX6_arguments 10 [(0, .ref 0), (2, .int p2), (3, .int pr), (4, .int k)] [] S V (ai_qv V G) := by
  refine ai_iload dX6_arguments_10 (j := 3) rfl ?_
  refine ai_if_le (tgt := 46) dX6_arguments_12 (by decide) ⟨fun (hc1 : k ≤ 0) => ?_, fun (hc1 : ¬ k ≤ 0) => ?_⟩
  · have h := h.1 hc1
    refine ai_iload dX6_arguments_46 (j := 3) rfl ?_
    refine ai_if_le (tgt := 77) dX6_arguments_48 (by decide) ⟨fun _ => ?_, fun hc => absurd hc1 hc⟩
    refine ai_aload_n dX6_arguments_77 rfl (j := 0) rfl ?_
    refine ai_bipush (v := 13) dX6_arguments_78 (by decide) ?_
    refine ai_iconst (v := 0) dX6_arguments_80 (by decide) ?_
    refine ai_iload_n dX6_arguments_81 rfl (j := 1) rfl ?_
    refine ai_callVv (As := [.int 13, .int 0, .int p2]) (rest := []) dX6_arguments_82 cvX6_276 rfl rfl rfl (Nat.le_of_ble_eq_true rfl) (ai_met.mv h (fun S3 h => ?_))
    refine ai_aload_n dX6_arguments_85 rfl (j := 0) rfl ?_
    refine ai_iconst (v := 0) dX6_arguments_86 (by decide) ?_
    refine ai_aload_n dX6_arguments_87 rfl (j := 0) rfl ?_
    refine ai_getR dX6_arguments_88 fdX6_34 rfl rfl ?_
    refine ai_iload_n dX6_arguments_91 rfl (j := 2) rfl ?_
    refine ai_iald dX6_arguments_92 rfl ⟨h.1, ?_⟩
    have hi4 := h.1
    have h := h.2
    refine ai_iload_n dX6_arguments_93 rfl (j := 1) rfl ?_
    refine ai_callVv (As := [.int 0, .int (S3 9 (pr).toNatClampNeg), .int p2]) (rest := []) dX6_arguments_94 cvX6_276 rfl rfl rfl (Nat.le_of_ble_eq_true rfl) (ai_met.mv h (fun S6 h => ?_))
    exact ai_retv dX6_arguments_97 rfl h
  · have h := h.2 hc1
    refine ai_aload_n dX6_arguments_15 rfl (j := 0) rfl ?_
    refine ai_getR dX6_arguments_16 fdX6_40 rfl rfl ?_
    refine ai_iload_n dX6_arguments_19 rfl (j := 2) rfl ?_
    refine ai_iald dX6_arguments_20 rfl ⟨h.1, ?_⟩
    have hi7 := h.1
    have h := h.2
    refine ai_aload_n dX6_arguments_21 rfl (j := 0) rfl ?_
    refine ai_getR dX6_arguments_22 fdX6_31 rfl rfl ?_
    refine ai_iload dX6_arguments_25 (j := 3) rfl ?_
    refine ai_iald dX6_arguments_27 rfl ⟨h.1, ?_⟩
    have hi8 := h.1
    have h := h.2
    refine ai_ishr dX6_arguments_28 ?_
    refine ai_iconst (v := 1) dX6_arguments_29 (by decide) ?_
    refine ai_iand dX6_arguments_30 ?_
    refine ai_if_ne (tgt := 46) dX6_arguments_31 (by decide) ⟨fun (hc9 : ¬ (((S 11 (pr).toNatClampNeg) >>> ((S 8 (k).toNatClampNeg) &&& 31)) &&& (1 : Int32)) = 0) => ?_, fun (hc9 : (((S 11 (pr).toNatClampNeg) >>> ((S 8 (k).toNatClampNeg) &&& 31)) &&& (1 : Int32)) = 0) => ?_⟩
    · have h := h.1 hc9
      refine ai_iload dX6_arguments_46 (j := 3) rfl ?_
      refine ai_if_le (tgt := 77) dX6_arguments_48 (by decide) ⟨fun hc => absurd hc hc1, fun _ => ?_⟩
      refine ai_aload_n dX6_arguments_51 rfl (j := 0) rfl ?_
      refine ai_bipush (v := 12) dX6_arguments_52 (by decide) ?_
      refine ai_iload dX6_arguments_54 (j := 3) rfl ?_
      refine ai_iload_n dX6_arguments_56 rfl (j := 1) rfl ?_
      refine ai_callVv (As := [.int 12, .int k, .int p2]) (rest := []) dX6_arguments_57 cvX6_276 rfl rfl rfl (Nat.le_of_ble_eq_true rfl) (ai_met.mv h (fun S11 h => ?_))
      refine ai_aload_n dX6_arguments_60 rfl (j := 0) rfl ?_
      refine ai_bipush (v := 8) dX6_arguments_61 (by decide) ?_
      refine ai_iload dX6_arguments_63 (j := 3) rfl ?_
      refine ai_aload_n dX6_arguments_65 rfl (j := 0) rfl ?_
      refine ai_getR dX6_arguments_66 fdX6_85 rfl rfl ?_
      refine ai_iload_n dX6_arguments_69 rfl (j := 1) rfl ?_
      refine ai_iald dX6_arguments_70 rfl ⟨h.1, ?_⟩
      have hi12 := h.1
      have h := h.2
      refine ai_callVv (As := [.int 8, .int k, .int (S11 26 (p2).toNatClampNeg)]) (rest := []) dX6_arguments_71 cvX6_276 rfl rfl rfl (Nat.le_of_ble_eq_true rfl) (ai_met.mv h (fun S14 h => ?_))
      refine ai_goto (tgt := 97) dX6_arguments_74 (by decide) ?_
      exact ai_retv dX6_arguments_97 rfl h
    · have h := h.2 hc9
      refine ai_aload_n dX6_arguments_34 rfl (j := 0) rfl ?_
      refine ai_getR dX6_arguments_35 fdX6_19 rfl rfl ?_
      refine ai_iload dX6_arguments_38 (j := 3) rfl ?_
      refine ai_iald dX6_arguments_40 rfl ⟨hi8, ?_⟩
      refine ai_istore (lv' := [(4, .int (S 4 (k).toNatClampNeg)), (0, .ref 0), (2, .int p2), (3, .int pr)]) dX6_arguments_41 (by decide) rfl ?_
      refine ai_goto (tgt := 10) dX6_arguments_43 (by decide) ?_
      refine ai_locj (lv' := [(0, .ref 0), (2, .int p2), (3, .int pr), (4, .int (S 4 (k).toNatClampNeg))]) [1, 2, 3, 0] rfl ?_
      exact h
set_option maxHeartbeats 4000000 in
set_option maxRecDepth 100000 in
theorem vX6_statement {p1 : Int32} {p2 : Int32} {S : ai_S} {V : ai_V} {G : ai_S → Prop}
    (h : ai_met (uM l D ρ τ) d mX6_pay [.ref 0] S V (ai_qz V (fun b1 S2 => (b1 = true → (vp_in p1 700 ∧ (((S2 2 (p1).toNatClampNeg) = 1 → ai_met (uM l D ρ τ) d mX6_target [.ref 0, .int p1, .int p2] S2 V (ai_qi V (fun x5 S6 => ((0 ≤ x5 → ai_met (uM l D ρ τ) d mX6_later [.ref 0, .int 1, .int (x5 &&& (1023 : Int32)), .int (x5 >>> ((10 : Int32) &&& 31))] S6 V (ai_qv V (fun S9 => ai_met (uM l D ρ τ) d mX6_later [.ref 0, .int 8, .int (S2 3 (p1).toNatClampNeg), .int p2] S9 V (ai_qv V (fun S11 => G S11))))) ∧ (¬ 0 ≤ x5 → G (ai_up S6 0 51 2)))))) ∧ ((S2 2 (p1).toNatClampNeg) = 2 → ai_met (uM l D ρ τ) d mX6_call [.ref 0, .int p1, .int p2] S2 V (ai_qv V (fun S14 => G S14))) ∧ ((S2 2 (p1).toNatClampNeg) = 3 → ai_met (uM l D ρ τ) d mX6_later [.ref 0, .int 2, .int 0, .int 0] S2 V (ai_qv V (fun S17 => ai_met (uM l D ρ τ) d mX6_later [.ref 0, .int 8, .int (S2 3 (p1).toNatClampNeg), .int p2] S17 V (ai_qv V (fun S19 => G S19))))) ∧ ((S2 2 (p1).toNatClampNeg) = 4 → ai_met (uM l D ρ τ) d mX6_later [.ref 0, .int 3, .int p1, .int p2] S2 V (ai_qv V (fun S22 => ai_met (uM l D ρ τ) d mX6_later [.ref 0, .int 8, .int (S2 3 (p1).toNatClampNeg), .int p2] S22 V (ai_qv V (fun S24 => G S24))))) ∧ ((S2 2 (p1).toNatClampNeg) = 5 → ai_met (uM l D ρ τ) d mX6_later [.ref 0, .int 4, .int p1, .int p2] S2 V (ai_qv V (fun S27 => ai_met (uM l D ρ τ) d mX6_later [.ref 0, .int 8, .int (S2 3 (p1).toNatClampNeg), .int p2] S27 V (ai_qv V (fun S29 => G S29))))) ∧ (¬ (S2 2 (p1).toNatClampNeg) = 1 ∧ ¬ (S2 2 (p1).toNatClampNeg) = 2 ∧ ¬ (S2 2 (p1).toNatClampNeg) = 3 ∧ ¬ (S2 2 (p1).toNatClampNeg) = 4 ∧ ¬ (S2 2 (p1).toNatClampNeg) = 5 → ai_met (uM l D ρ τ) d mX6_frame [.ref 0, .int p2, .int (-1), .int (S2 5 (p1).toNatClampNeg), .int 0] S2 V (ai_qi V (fun x30 S31 => ai_met (uM l D ρ τ) d mX6_later [.ref 0, .int 6, .int 0, .int x30] S31 V (ai_qv V (fun S33 => (((S2 3 (p1).toNatClampNeg) ≤ 0 → G S33) ∧ (¬ (S2 3 (p1).toNatClampNeg) ≤ 0 → ai_met (uM l D ρ τ) d mX6_later [.ref 0, .int 7, .int (S2 3 (p1).toNatClampNeg), .int x30] S33 V (ai_qv V (fun S36 => G S36)))))))))))) ∧ (b1 = false → G S2)))) :
    ai_met (uM l D ρ τ) (d + 1) mX6_statement [.ref 0, .int p1, .int p2] S V (ai_qv V G) := by
  refine ai_mof plX6 (Nat.le_of_ble_eq_true rfl) (lv := [(0, .ref 0), (1, .int p1), (2, .int p2)]) rfl ?_
  refine ai_aload_n dX6_statement_0 rfl (j := 0) rfl ?_
  refine ai_callVz (As := []) (rest := []) dX6_statement_1 cvX6_279 rfl rfl rfl (Nat.le_of_ble_eq_true rfl) (ai_met.mz h (fun S2 h => ?_) (fun S2 h => ?_))
  · show ai_W _ _ _ _ _ _ _ _ _
    refine ai_if_ne (tgt := 8) dX6_statement_4 (by decide) ⟨fun _ => ?_, fun hc => absurd hc (by decide)⟩
    refine ai_aload_n dX6_statement_8 rfl (j := 0) rfl ?_
    refine ai_getR dX6_statement_9 fdX6_16 rfl rfl ?_
    refine ai_iload_n dX6_statement_12 rfl (j := 1) rfl ?_
    refine ai_iald dX6_statement_13 rfl ⟨h.1, ?_⟩
    have hi3 := h.1
    have h := h.2
    refine ai_istore_n (lv' := [(3, .int (S2 3 (p1).toNatClampNeg)), (0, .ref 0), (1, .int p1), (2, .int p2)]) dX6_statement_14 rfl (by decide) rfl ?_
    refine ai_aload_n dX6_statement_15 rfl (j := 1) rfl ?_
    refine ai_getR dX6_statement_16 fdX6_13 rfl rfl ?_
    refine ai_iload_n dX6_statement_19 rfl (j := 2) rfl ?_
    refine ai_iald dX6_statement_20 rfl ⟨hi3, ?_⟩
    by_cases hs4 : (S2 2 (p1).toNatClampNeg) = 1
    · have h := h.1 hs4
      refine ai_tab (tgt := 56) 1 dX6_statement_21 hs4 (by decide) (by decide) rfl (by decide) ?_
      refine ai_aload_n dX6_statement_56 rfl (j := 1) rfl ?_
      refine ai_iload_n dX6_statement_57 rfl (j := 2) rfl ?_
      refine ai_iload_n dX6_statement_58 rfl (j := 3) rfl ?_
      refine ai_callVi (As := [.int p1, .int p2]) (rest := []) dX6_statement_59 cvX6_283 rfl rfl rfl (Nat.le_of_ble_eq_true rfl) (ai_met.mi h (fun x5 S6 h => ?_))
      refine ai_istore (lv' := [(4, .int x5), (3, .int (S2 3 (p1).toNatClampNeg)), (0, .ref 0), (1, .int p1), (2, .int p2)]) dX6_statement_62 (by decide) rfl ?_
      refine ai_iload dX6_statement_64 (j := 0) rfl ?_
      refine ai_if_ge (tgt := 75) dX6_statement_66 (by decide) ⟨fun (hc7 : 0 ≤ x5) => ?_, fun (hc7 : ¬ 0 ≤ x5) => ?_⟩
      · have h := h.1 hc7
        refine ai_aload_n dX6_statement_75 rfl (j := 2) rfl ?_
        refine ai_iconst (v := 1) dX6_statement_76 (by decide) ?_
        refine ai_iload dX6_statement_77 (j := 0) rfl ?_
        refine ai_sipush (v := 1023) dX6_statement_79 (by decide) ?_
        refine ai_iand dX6_statement_82 ?_
        refine ai_iload dX6_statement_83 (j := 0) rfl ?_
        refine ai_bipush (v := 10) dX6_statement_85 (by decide) ?_
        refine ai_ishr dX6_statement_87 ?_
        refine ai_callVv (As := [.int 1, .int (x5 &&& (1023 : Int32)), .int (x5 >>> ((10 : Int32) &&& 31))]) (rest := []) dX6_statement_88 cvX6_276 rfl rfl rfl (Nat.le_of_ble_eq_true rfl) (ai_met.mv h (fun S9 h => ?_))
        refine ai_aload_n dX6_statement_91 rfl (j := 2) rfl ?_
        refine ai_bipush (v := 8) dX6_statement_92 (by decide) ?_
        refine ai_iload_n dX6_statement_94 rfl (j := 1) rfl ?_
        refine ai_iload_n dX6_statement_95 rfl (j := 4) rfl ?_
        refine ai_callVv (As := [.int 8, .int (S2 3 (p1).toNatClampNeg), .int p2]) (rest := []) dX6_statement_96 cvX6_276 rfl rfl rfl (Nat.le_of_ble_eq_true rfl) (ai_met.mv h (fun S11 h => ?_))
        refine ai_goto (tgt := 202) dX6_statement_99 (by decide) ?_
        exact ai_retv dX6_statement_202 rfl h
      · have h := h.2 hc7
        refine ai_aload_n dX6_statement_69 rfl (j := 2) rfl ?_
        refine ai_iconst (v := 2) dX6_statement_70 (by decide) ?_
        refine ai_putI dX6_statement_71 fdX6_236 pdX6_51 rfl rfl rfl rfl ?_
        exact ai_retv dX6_statement_74 rfl h
    by_cases hs12 : (S2 2 (p1).toNatClampNeg) = 2
    · have h := h.2.1 hs12
      refine ai_tab (tgt := 102) 2 dX6_statement_21 hs12 (by decide) (by decide) rfl (by decide) ?_
      refine ai_aload_n dX6_statement_102 rfl (j := 1) rfl ?_
      refine ai_iload_n dX6_statement_103 rfl (j := 2) rfl ?_
      refine ai_iload_n dX6_statement_104 rfl (j := 3) rfl ?_
      refine ai_callVv (As := [.int p1, .int p2]) (rest := []) dX6_statement_105 cvX6_286 rfl rfl rfl (Nat.le_of_ble_eq_true rfl) (ai_met.mv h (fun S14 h => ?_))
      refine ai_goto (tgt := 202) dX6_statement_108 (by decide) ?_
      exact ai_retv dX6_statement_202 rfl h
    by_cases hs15 : (S2 2 (p1).toNatClampNeg) = 3
    · have h := h.2.2.1 hs15
      refine ai_tab (tgt := 111) 3 dX6_statement_21 hs15 (by decide) (by decide) rfl (by decide) ?_
      refine ai_aload_n dX6_statement_111 rfl (j := 1) rfl ?_
      refine ai_iconst (v := 2) dX6_statement_112 (by decide) ?_
      refine ai_iconst (v := 0) dX6_statement_113 (by decide) ?_
      refine ai_iconst (v := 0) dX6_statement_114 (by decide) ?_
      refine ai_callVv (As := [.int 2, .int 0, .int 0]) (rest := []) dX6_statement_115 cvX6_276 rfl rfl rfl (Nat.le_of_ble_eq_true rfl) (ai_met.mv h (fun S17 h => ?_))
      refine ai_aload_n dX6_statement_118 rfl (j := 1) rfl ?_
      refine ai_bipush (v := 8) dX6_statement_119 (by decide) ?_
      refine ai_iload_n dX6_statement_121 rfl (j := 0) rfl ?_
      refine ai_iload_n dX6_statement_122 rfl (j := 3) rfl ?_
      refine ai_callVv (As := [.int 8, .int (S2 3 (p1).toNatClampNeg), .int p2]) (rest := []) dX6_statement_123 cvX6_276 rfl rfl rfl (Nat.le_of_ble_eq_true rfl) (ai_met.mv h (fun S19 h => ?_))
      refine ai_goto (tgt := 202) dX6_statement_126 (by decide) ?_
      exact ai_retv dX6_statement_202 rfl h
    by_cases hs20 : (S2 2 (p1).toNatClampNeg) = 4
    · have h := h.2.2.2.1 hs20
      refine ai_tab (tgt := 129) 4 dX6_statement_21 hs20 (by decide) (by decide) rfl (by decide) ?_
      refine ai_aload_n dX6_statement_129 rfl (j := 1) rfl ?_
      refine ai_iconst (v := 3) dX6_statement_130 (by decide) ?_
      refine ai_iload_n dX6_statement_131 rfl (j := 2) rfl ?_
      refine ai_iload_n dX6_statement_132 rfl (j := 3) rfl ?_
      refine ai_callVv (As := [.int 3, .int p1, .int p2]) (rest := []) dX6_statement_133 cvX6_276 rfl rfl rfl (Nat.le_of_ble_eq_true rfl) (ai_met.mv h (fun S22 h => ?_))
      refine ai_aload_n dX6_statement_136 rfl (j := 1) rfl ?_
      refine ai_bipush (v := 8) dX6_statement_137 (by decide) ?_
      refine ai_iload_n dX6_statement_139 rfl (j := 0) rfl ?_
      refine ai_iload_n dX6_statement_140 rfl (j := 3) rfl ?_
      refine ai_callVv (As := [.int 8, .int (S2 3 (p1).toNatClampNeg), .int p2]) (rest := []) dX6_statement_141 cvX6_276 rfl rfl rfl (Nat.le_of_ble_eq_true rfl) (ai_met.mv h (fun S24 h => ?_))
      refine ai_goto (tgt := 202) dX6_statement_144 (by decide) ?_
      exact ai_retv dX6_statement_202 rfl h
    by_cases hs25 : (S2 2 (p1).toNatClampNeg) = 5
    · have h := h.2.2.2.2.1 hs25
      refine ai_tab (tgt := 147) 5 dX6_statement_21 hs25 (by decide) (by decide) rfl (by decide) ?_
      refine ai_aload_n dX6_statement_147 rfl (j := 1) rfl ?_
      refine ai_iconst (v := 4) dX6_statement_148 (by decide) ?_
      refine ai_iload_n dX6_statement_149 rfl (j := 2) rfl ?_
      refine ai_iload_n dX6_statement_150 rfl (j := 3) rfl ?_
      refine ai_callVv (As := [.int 4, .int p1, .int p2]) (rest := []) dX6_statement_151 cvX6_276 rfl rfl rfl (Nat.le_of_ble_eq_true rfl) (ai_met.mv h (fun S27 h => ?_))
      refine ai_aload_n dX6_statement_154 rfl (j := 1) rfl ?_
      refine ai_bipush (v := 8) dX6_statement_155 (by decide) ?_
      refine ai_iload_n dX6_statement_157 rfl (j := 0) rfl ?_
      refine ai_iload_n dX6_statement_158 rfl (j := 3) rfl ?_
      refine ai_callVv (As := [.int 8, .int (S2 3 (p1).toNatClampNeg), .int p2]) (rest := []) dX6_statement_159 cvX6_276 rfl rfl rfl (Nat.le_of_ble_eq_true rfl) (ai_met.mv h (fun S29 h => ?_))
      refine ai_goto (tgt := 202) dX6_statement_162 (by decide) ?_
      exact ai_retv dX6_statement_202 rfl h
    have h := h.2.2.2.2.2 ⟨hs4, hs12, hs15, hs20, hs25⟩
    refine ai_tabD (tgt := 165) [1, 2, 3, 4, 5] dX6_statement_21 (List.forall_mem_cons.mpr ⟨ai_swx 1 (by decide) hs4, List.forall_mem_cons.mpr ⟨ai_swx 2 (by decide) hs12, List.forall_mem_cons.mpr ⟨ai_swx 3 (by decide) hs15, List.forall_mem_cons.mpr ⟨ai_swx 4 (by decide) hs20, List.forall_mem_cons.mpr ⟨ai_swx 5 (by decide) hs25, fun _ h => absurd h List.not_mem_nil⟩⟩⟩⟩⟩) (by decide) (by decide) (by decide) ?_
    refine ai_aload_n dX6_statement_165 rfl (j := 1) rfl ?_
    refine ai_iload_n dX6_statement_166 rfl (j := 3) rfl ?_
    refine ai_iconst (v := (-1)) dX6_statement_167 (by decide) ?_
    refine ai_aload_n dX6_statement_168 rfl (j := 1) rfl ?_
    refine ai_getR dX6_statement_169 fdX6_22 rfl rfl ?_
    refine ai_iload_n dX6_statement_172 rfl (j := 2) rfl ?_
    refine ai_iald dX6_statement_173 rfl ⟨hi3, ?_⟩
    refine ai_iconst (v := 0) dX6_statement_174 (by decide) ?_
    refine ai_callVi (As := [.int p2, .int (-1), .int (S2 5 (p1).toNatClampNeg), .int 0]) (rest := []) dX6_statement_175 cvX6_269 rfl rfl rfl (Nat.le_of_ble_eq_true rfl) (ai_met.mi h (fun x30 S31 h => ?_))
    refine ai_istore (lv' := [(5, .int x30), (3, .int (S2 3 (p1).toNatClampNeg)), (0, .ref 0), (1, .int p1), (2, .int p2)]) dX6_statement_178 (by decide) rfl ?_
    refine ai_aload_n dX6_statement_180 rfl (j := 2) rfl ?_
    refine ai_bipush (v := 6) dX6_statement_181 (by decide) ?_
    refine ai_iconst (v := 0) dX6_statement_183 (by decide) ?_
    refine ai_iload dX6_statement_184 (j := 0) rfl ?_
    refine ai_callVv (As := [.int 6, .int 0, .int x30]) (rest := []) dX6_statement_186 cvX6_276 rfl rfl rfl (Nat.le_of_ble_eq_true rfl) (ai_met.mv h (fun S33 h => ?_))
    refine ai_iload_n dX6_statement_189 rfl (j := 1) rfl ?_
    refine ai_if_le (tgt := 202) dX6_statement_190 (by decide) ⟨fun (hc34 : (S2 3 (p1).toNatClampNeg) ≤ 0) => ?_, fun (hc34 : ¬ (S2 3 (p1).toNatClampNeg) ≤ 0) => ?_⟩
    · have h := h.1 hc34
      exact ai_retv dX6_statement_202 rfl h
    · have h := h.2 hc34
      refine ai_aload_n dX6_statement_193 rfl (j := 2) rfl ?_
      refine ai_bipush (v := 7) dX6_statement_194 (by decide) ?_
      refine ai_iload_n dX6_statement_196 rfl (j := 1) rfl ?_
      refine ai_iload dX6_statement_197 (j := 0) rfl ?_
      refine ai_callVv (As := [.int 7, .int (S2 3 (p1).toNatClampNeg), .int x30]) (rest := []) dX6_statement_199 cvX6_276 rfl rfl rfl (Nat.le_of_ble_eq_true rfl) (ai_met.mv h (fun S36 h => ?_))
      exact ai_retv dX6_statement_202 rfl h
  · show ai_W _ _ _ _ _ _ _ _ _
    refine ai_if_ne (tgt := 8) dX6_statement_4 (by decide) ⟨fun hc => absurd hc (by decide), fun _ => ?_⟩
    exact ai_retv dX6_statement_7 rfl h
set_option maxHeartbeats 4000000 in
set_option maxRecDepth 100000 in
theorem vX6_evaluate {p1 : Int32} {p2 : Int32} {S : ai_S} {V : ai_V} {G : ai_S → Prop}
    (h : (vp_in p1 700 ∧ ((¬ (S 2 (p1).toNatClampNeg) = 7 → ((¬ (S 2 (p1).toNatClampNeg) = 8 → ((¬ (S 2 (p1).toNatClampNeg) = 9 → (((S 2 (p1).toNatClampNeg) = 13 → ai_met (uM l D ρ τ) d mX6_later [.ref 0, .int 8, .int (S 3 (p1).toNatClampNeg), .int p2] S V (ai_qv V (fun S7 => G S7))) ∧ (¬ (S 2 (p1).toNatClampNeg) = 13 → ai_met (uM l D ρ τ) d mX6_later [.ref 0, .int 9, .int (S 3 (p1).toNatClampNeg), .int p2] S V (ai_qv V (fun S9 => ai_met (uM l D ρ τ) d mX6_later [.ref 0, .int 8, .int (S9 3 (p1).toNatClampNeg), .int p2] S9 V (ai_qv V (fun S11 => G S11))))))) ∧ ((S 2 (p1).toNatClampNeg) = 9 → ai_met (uM l D ρ τ) d mX6_pay [.ref 0] S V (ai_qz V (fun b12 S13 => (b12 = true → ai_met (uM l D ρ τ) d mX6_call [.ref 0, .int p1, .int p2] S13 V (ai_qv V (fun S15 => G S15))) ∧ (b12 = false → G S13)))))) ∧ ((S 2 (p1).toNatClampNeg) = 8 → ((¬ (S 5 (p1).toNatClampNeg) = 4 → (((S 5 (p1).toNatClampNeg) = 2 → ai_met (uM l D ρ τ) d mX6_pay [.ref 0] S V (ai_qz V (fun b18 S19 => (b18 = true → ai_met (uM l D ρ τ) d mX6_call [.ref 0, .int p1, .int p2] S19 V (ai_qv V (fun S21 => G S21))) ∧ (b18 = false → G S19)))) ∧ (¬ (S 5 (p1).toNatClampNeg) = 2 → ai_met (uM l D ρ τ) d mX6_pay [.ref 0] S V (ai_qz V (fun b22 S23 => (b22 = true → ai_met (uM l D ρ τ) d mX6_outward [.ref 0, .int p2, .int (S23 7 (p1).toNatClampNeg)] S23 V (ai_qi V (fun x24 S25 => (vp_in x24 400 ∧ (vp_in ((S25 25 (x24).toNatClampNeg) + (S25 6 (p1).toNatClampNeg)) 1300 ∧ G (ai_up S25 0 50 (S25 27 (((S25 25 (x24).toNatClampNeg) + (S25 6 (p1).toNatClampNeg))).toNatClampNeg))))))) ∧ (b22 = false → G S23)))))) ∧ ((S 5 (p1).toNatClampNeg) = 4 → ai_met (uM l D ρ τ) d mX6_outward [.ref 0, .int p2, .int (S 7 (p1).toNatClampNeg)] S V (ai_qi V (fun x28 S29 => (vp_in x28 400 ∧ (vp_in ((S29 25 (x28).toNatClampNeg) + (S29 6 (p1).toNatClampNeg)) 1300 ∧ ai_met (uM l D ρ τ) d mX6_later [.ref 0, .int 8, .int (S29 27 (((S29 25 (x28).toNatClampNeg) + (S29 6 (p1).toNatClampNeg))).toNatClampNeg), .int (S29 28 (((S29 25 (x28).toNatClampNeg) + (S29 6 (p1).toNatClampNeg))).toNatClampNeg)] S29 V (ai_qv V (fun S33 => G S33))))))))))) ∧ ((S 2 (p1).toNatClampNeg) = 7 → ai_met (uM l D ρ τ) d mX6_pay [.ref 0] S V (ai_qz V (fun b34 S35 => (b34 = true → G (ai_up S35 0 50 (S35 5 (p1).toNatClampNeg))) ∧ (b34 = false → G S35))))))) :
    ai_met (uM l D ρ τ) (d + 1) mX6_evaluate [.ref 0, .int p1, .int p2] S V (ai_qv V G) := by
  refine ai_mof plX6 (Nat.le_of_ble_eq_true rfl) (lv := [(0, .ref 0), (1, .int p1), (2, .int p2)]) rfl ?_
  refine ai_aload_n dX6_evaluate_0 rfl (j := 0) rfl ?_
  refine ai_getR dX6_evaluate_1 fdX6_13 rfl rfl ?_
  refine ai_iload_n dX6_evaluate_4 rfl (j := 1) rfl ?_
  refine ai_iald dX6_evaluate_5 rfl ⟨h.1, ?_⟩
  have hi1 := h.1
  have h := h.2
  refine ai_istore_n (lv' := [(3, .int (S 2 (p1).toNatClampNeg)), (0, .ref 0), (1, .int p1), (2, .int p2)]) dX6_evaluate_6 rfl (by decide) rfl ?_
  refine ai_iload_n dX6_evaluate_7 rfl (j := 0) rfl ?_
  refine ai_bipush (v := 7) dX6_evaluate_8 (by decide) ?_
  refine ai_icmp_ne (tgt := 33) dX6_evaluate_10 (by decide) ⟨fun (hc2 : ¬ (S 2 (p1).toNatClampNeg) = 7) => ?_, fun (hc2 : (S 2 (p1).toNatClampNeg) = 7) => ?_⟩
  · have h := h.1 hc2
    refine ai_iload_n dX6_evaluate_33 rfl (j := 0) rfl ?_
    refine ai_bipush (v := 8) dX6_evaluate_34 (by decide) ?_
    refine ai_icmp_ne (tgt := 97) dX6_evaluate_36 (by decide) ⟨fun (hc3 : ¬ (S 2 (p1).toNatClampNeg) = 8) => ?_, fun (hc3 : (S 2 (p1).toNatClampNeg) = 8) => ?_⟩
    · have h := h.1 hc3
      refine ai_iload_n dX6_evaluate_97 rfl (j := 0) rfl ?_
      refine ai_bipush (v := 8) dX6_evaluate_98 (by decide) ?_
      refine ai_icmp_ne (tgt := 155) dX6_evaluate_100 (by decide) ⟨fun _ => ?_, fun hc => absurd hc hc3⟩
      refine ai_iload_n dX6_evaluate_155 rfl (j := 0) rfl ?_
      refine ai_bipush (v := 8) dX6_evaluate_156 (by decide) ?_
      refine ai_icmp_eq (tgt := 167) dX6_evaluate_158 (by decide) ⟨fun hc => absurd hc hc3, fun _ => ?_⟩
      refine ai_iload_n dX6_evaluate_161 rfl (j := 0) rfl ?_
      refine ai_bipush (v := 9) dX6_evaluate_162 (by decide) ?_
      refine ai_icmp_ne (tgt := 183) dX6_evaluate_164 (by decide) ⟨fun (hc4 : ¬ (S 2 (p1).toNatClampNeg) = 9) => ?_, fun (hc4 : (S 2 (p1).toNatClampNeg) = 9) => ?_⟩
      · have h := h.1 hc4
        refine ai_iload_n dX6_evaluate_183 rfl (j := 0) rfl ?_
        refine ai_bipush (v := 13) dX6_evaluate_184 (by decide) ?_
        refine ai_icmp_eq (tgt := 202) dX6_evaluate_186 (by decide) ⟨fun (hc5 : (S 2 (p1).toNatClampNeg) = 13) => ?_, fun (hc5 : ¬ (S 2 (p1).toNatClampNeg) = 13) => ?_⟩
        · have h := h.1 hc5
          refine ai_aload_n dX6_evaluate_202 rfl (j := 1) rfl ?_
          refine ai_bipush (v := 8) dX6_evaluate_203 (by decide) ?_
          refine ai_aload_n dX6_evaluate_205 rfl (j := 1) rfl ?_
          refine ai_getR dX6_evaluate_206 fdX6_16 rfl rfl ?_
          refine ai_iload_n dX6_evaluate_209 rfl (j := 2) rfl ?_
          refine ai_iald dX6_evaluate_210 rfl ⟨hi1, ?_⟩
          refine ai_iload_n dX6_evaluate_211 rfl (j := 3) rfl ?_
          refine ai_callVv (As := [.int 8, .int (S 3 (p1).toNatClampNeg), .int p2]) (rest := []) dX6_evaluate_212 cvX6_276 rfl rfl rfl (Nat.le_of_ble_eq_true rfl) (ai_met.mv h (fun S7 h => ?_))
          exact ai_retv dX6_evaluate_215 rfl h
        · have h := h.2 hc5
          refine ai_aload_n dX6_evaluate_189 rfl (j := 1) rfl ?_
          refine ai_bipush (v := 9) dX6_evaluate_190 (by decide) ?_
          refine ai_aload_n dX6_evaluate_192 rfl (j := 1) rfl ?_
          refine ai_getR dX6_evaluate_193 fdX6_16 rfl rfl ?_
          refine ai_iload_n dX6_evaluate_196 rfl (j := 2) rfl ?_
          refine ai_iald dX6_evaluate_197 rfl ⟨hi1, ?_⟩
          refine ai_iload_n dX6_evaluate_198 rfl (j := 3) rfl ?_
          refine ai_callVv (As := [.int 9, .int (S 3 (p1).toNatClampNeg), .int p2]) (rest := []) dX6_evaluate_199 cvX6_276 rfl rfl rfl (Nat.le_of_ble_eq_true rfl) (ai_met.mv h (fun S9 h => ?_))
          refine ai_aload_n dX6_evaluate_202 rfl (j := 1) rfl ?_
          refine ai_bipush (v := 8) dX6_evaluate_203 (by decide) ?_
          refine ai_aload_n dX6_evaluate_205 rfl (j := 1) rfl ?_
          refine ai_getR dX6_evaluate_206 fdX6_16 rfl rfl ?_
          refine ai_iload_n dX6_evaluate_209 rfl (j := 2) rfl ?_
          refine ai_iald dX6_evaluate_210 rfl ⟨hi1, ?_⟩
          refine ai_iload_n dX6_evaluate_211 rfl (j := 3) rfl ?_
          refine ai_callVv (As := [.int 8, .int (S9 3 (p1).toNatClampNeg), .int p2]) (rest := []) dX6_evaluate_212 cvX6_276 rfl rfl rfl (Nat.le_of_ble_eq_true rfl) (ai_met.mv h (fun S11 h => ?_))
          exact ai_retv dX6_evaluate_215 rfl h
      · have h := h.2 hc4
        refine ai_aload_n dX6_evaluate_167 rfl (j := 1) rfl ?_
        refine ai_callVz (As := []) (rest := []) dX6_evaluate_168 cvX6_279 rfl rfl rfl (Nat.le_of_ble_eq_true rfl) (ai_met.mz h (fun S13 h => ?_) (fun S13 h => ?_))
        · show ai_W _ _ _ _ _ _ _ _ _
          refine ai_if_eq (tgt := 215) dX6_evaluate_171 (by decide) ⟨fun hc => absurd hc (by decide), fun _ => ?_⟩
          refine ai_aload_n dX6_evaluate_174 rfl (j := 1) rfl ?_
          refine ai_iload_n dX6_evaluate_175 rfl (j := 2) rfl ?_
          refine ai_iload_n dX6_evaluate_176 rfl (j := 3) rfl ?_
          refine ai_callVv (As := [.int p1, .int p2]) (rest := []) dX6_evaluate_177 cvX6_286 rfl rfl rfl (Nat.le_of_ble_eq_true rfl) (ai_met.mv h (fun S15 h => ?_))
          refine ai_goto (tgt := 215) dX6_evaluate_180 (by decide) ?_
          exact ai_retv dX6_evaluate_215 rfl h
        · show ai_W _ _ _ _ _ _ _ _ _
          refine ai_if_eq (tgt := 215) dX6_evaluate_171 (by decide) ⟨fun _ => ?_, fun hc => absurd hc (by decide)⟩
          exact ai_retv dX6_evaluate_215 rfl h
    · have h := h.2 hc3
      refine ai_aload_n dX6_evaluate_39 rfl (j := 1) rfl ?_
      refine ai_getR dX6_evaluate_40 fdX6_22 rfl rfl ?_
      refine ai_iload_n dX6_evaluate_43 rfl (j := 2) rfl ?_
      refine ai_iald dX6_evaluate_44 rfl ⟨hi1, ?_⟩
      refine ai_iconst (v := 4) dX6_evaluate_45 (by decide) ?_
      refine ai_icmp_ne (tgt := 97) dX6_evaluate_46 (by decide) ⟨fun (hc16 : ¬ (S 5 (p1).toNatClampNeg) = 4) => ?_, fun (hc16 : (S 5 (p1).toNatClampNeg) = 4) => ?_⟩
      · have h := h.1 hc16
        refine ai_iload_n dX6_evaluate_97 rfl (j := 0) rfl ?_
        refine ai_bipush (v := 8) dX6_evaluate_98 (by decide) ?_
        refine ai_icmp_ne (tgt := 155) dX6_evaluate_100 (by decide) ⟨fun hc => absurd hc3 hc, fun _ => ?_⟩
        refine ai_aload_n dX6_evaluate_103 rfl (j := 1) rfl ?_
        refine ai_getR dX6_evaluate_104 fdX6_22 rfl rfl ?_
        refine ai_iload_n dX6_evaluate_107 rfl (j := 2) rfl ?_
        refine ai_iald dX6_evaluate_108 rfl ⟨hi1, ?_⟩
        refine ai_iconst (v := 2) dX6_evaluate_109 (by decide) ?_
        refine ai_icmp_eq (tgt := 155) dX6_evaluate_110 (by decide) ⟨fun (hc17 : (S 5 (p1).toNatClampNeg) = 2) => ?_, fun (hc17 : ¬ (S 5 (p1).toNatClampNeg) = 2) => ?_⟩
        · have h := h.1 hc17
          refine ai_iload_n dX6_evaluate_155 rfl (j := 0) rfl ?_
          refine ai_bipush (v := 8) dX6_evaluate_156 (by decide) ?_
          refine ai_icmp_eq (tgt := 167) dX6_evaluate_158 (by decide) ⟨fun _ => ?_, fun hc => absurd hc3 hc⟩
          refine ai_aload_n dX6_evaluate_167 rfl (j := 1) rfl ?_
          refine ai_callVz (As := []) (rest := []) dX6_evaluate_168 cvX6_279 rfl rfl rfl (Nat.le_of_ble_eq_true rfl) (ai_met.mz h (fun S19 h => ?_) (fun S19 h => ?_))
          · show ai_W _ _ _ _ _ _ _ _ _
            refine ai_if_eq (tgt := 215) dX6_evaluate_171 (by decide) ⟨fun hc => absurd hc (by decide), fun _ => ?_⟩
            refine ai_aload_n dX6_evaluate_174 rfl (j := 1) rfl ?_
            refine ai_iload_n dX6_evaluate_175 rfl (j := 2) rfl ?_
            refine ai_iload_n dX6_evaluate_176 rfl (j := 3) rfl ?_
            refine ai_callVv (As := [.int p1, .int p2]) (rest := []) dX6_evaluate_177 cvX6_286 rfl rfl rfl (Nat.le_of_ble_eq_true rfl) (ai_met.mv h (fun S21 h => ?_))
            refine ai_goto (tgt := 215) dX6_evaluate_180 (by decide) ?_
            exact ai_retv dX6_evaluate_215 rfl h
          · show ai_W _ _ _ _ _ _ _ _ _
            refine ai_if_eq (tgt := 215) dX6_evaluate_171 (by decide) ⟨fun _ => ?_, fun hc => absurd hc (by decide)⟩
            exact ai_retv dX6_evaluate_215 rfl h
        · have h := h.2 hc17
          refine ai_aload_n dX6_evaluate_113 rfl (j := 1) rfl ?_
          refine ai_callVz (As := []) (rest := []) dX6_evaluate_114 cvX6_279 rfl rfl rfl (Nat.le_of_ble_eq_true rfl) (ai_met.mz h (fun S23 h => ?_) (fun S23 h => ?_))
          · show ai_W _ _ _ _ _ _ _ _ _
            refine ai_if_eq (tgt := 215) dX6_evaluate_117 (by decide) ⟨fun hc => absurd hc (by decide), fun _ => ?_⟩
            refine ai_aload_n dX6_evaluate_120 rfl (j := 1) rfl ?_
            refine ai_aload_n dX6_evaluate_121 rfl (j := 1) rfl ?_
            refine ai_getR dX6_evaluate_122 fdX6_88 rfl rfl ?_
            refine ai_aload_n dX6_evaluate_125 rfl (j := 1) rfl ?_
            refine ai_getR dX6_evaluate_126 fdX6_82 rfl rfl ?_
            refine ai_aload_n dX6_evaluate_129 rfl (j := 1) rfl ?_
            refine ai_iload_n dX6_evaluate_130 rfl (j := 3) rfl ?_
            refine ai_aload_n dX6_evaluate_131 rfl (j := 1) rfl ?_
            refine ai_getR dX6_evaluate_132 fdX6_28 rfl rfl ?_
            refine ai_iload_n dX6_evaluate_135 rfl (j := 2) rfl ?_
            refine ai_iald dX6_evaluate_136 rfl ⟨hi1, ?_⟩
            refine ai_callVi (As := [.int p2, .int (S23 7 (p1).toNatClampNeg)]) (rest := [.ref 25, .ref 27, .ref 0]) dX6_evaluate_137 cvX6_251 rfl rfl rfl (Nat.le_of_ble_eq_true rfl) (ai_met.mi h (fun x24 S25 h => ?_))
            refine ai_iald dX6_evaluate_140 rfl ⟨h.1, ?_⟩
            have hi26 := h.1
            have h := h.2
            refine ai_aload_n dX6_evaluate_141 rfl (j := 1) rfl ?_
            refine ai_getR dX6_evaluate_142 fdX6_25 rfl rfl ?_
            refine ai_iload_n dX6_evaluate_145 rfl (j := 2) rfl ?_
            refine ai_iald dX6_evaluate_146 rfl ⟨hi1, ?_⟩
            refine ai_iadd dX6_evaluate_147 ?_
            refine ai_iald dX6_evaluate_148 rfl ⟨h.1, ?_⟩
            have hi27 := h.1
            have h := h.2
            refine ai_putI dX6_evaluate_149 fdX6_289 pdX6_50 rfl rfl rfl rfl ?_
            refine ai_goto (tgt := 215) dX6_evaluate_152 (by decide) ?_
            exact ai_retv dX6_evaluate_215 rfl h
          · show ai_W _ _ _ _ _ _ _ _ _
            refine ai_if_eq (tgt := 215) dX6_evaluate_117 (by decide) ⟨fun _ => ?_, fun hc => absurd hc (by decide)⟩
            exact ai_retv dX6_evaluate_215 rfl h
      · have h := h.2 hc16
        refine ai_aload_n dX6_evaluate_49 rfl (j := 1) rfl ?_
        refine ai_getR dX6_evaluate_50 fdX6_82 rfl rfl ?_
        refine ai_aload_n dX6_evaluate_53 rfl (j := 1) rfl ?_
        refine ai_iload_n dX6_evaluate_54 rfl (j := 3) rfl ?_
        refine ai_aload_n dX6_evaluate_55 rfl (j := 1) rfl ?_
        refine ai_getR dX6_evaluate_56 fdX6_28 rfl rfl ?_
        refine ai_iload_n dX6_evaluate_59 rfl (j := 2) rfl ?_
        refine ai_iald dX6_evaluate_60 rfl ⟨hi1, ?_⟩
        refine ai_callVi (As := [.int p2, .int (S 7 (p1).toNatClampNeg)]) (rest := [.ref 25]) dX6_evaluate_61 cvX6_251 rfl rfl rfl (Nat.le_of_ble_eq_true rfl) (ai_met.mi h (fun x28 S29 h => ?_))
        refine ai_iald dX6_evaluate_64 rfl ⟨h.1, ?_⟩
        have hi30 := h.1
        have h := h.2
        refine ai_aload_n dX6_evaluate_65 rfl (j := 1) rfl ?_
        refine ai_getR dX6_evaluate_66 fdX6_25 rfl rfl ?_
        refine ai_iload_n dX6_evaluate_69 rfl (j := 2) rfl ?_
        refine ai_iald dX6_evaluate_70 rfl ⟨hi1, ?_⟩
        refine ai_iadd dX6_evaluate_71 ?_
        refine ai_istore (lv' := [(4, .int ((S29 25 (x28).toNatClampNeg) + (S29 6 (p1).toNatClampNeg))), (3, .int (S 2 (p1).toNatClampNeg)), (0, .ref 0), (1, .int p1), (2, .int p2)]) dX6_evaluate_72 (by decide) rfl ?_
        refine ai_aload_n dX6_evaluate_74 rfl (j := 2) rfl ?_
        refine ai_bipush (v := 8) dX6_evaluate_75 (by decide) ?_
        refine ai_aload_n dX6_evaluate_77 rfl (j := 2) rfl ?_
        refine ai_getR dX6_evaluate_78 fdX6_88 rfl rfl ?_
        refine ai_iload dX6_evaluate_81 (j := 0) rfl ?_
        refine ai_iald dX6_evaluate_83 rfl ⟨h.1, ?_⟩
        have hi31 := h.1
        have h := h.2
        refine ai_aload_n dX6_evaluate_84 rfl (j := 2) rfl ?_
        refine ai_getR dX6_evaluate_85 fdX6_91 rfl rfl ?_
        refine ai_iload dX6_evaluate_88 (j := 0) rfl ?_
        refine ai_iald dX6_evaluate_90 rfl ⟨hi31, ?_⟩
        refine ai_callVv (As := [.int 8, .int (S29 27 (((S29 25 (x28).toNatClampNeg) + (S29 6 (p1).toNatClampNeg))).toNatClampNeg), .int (S29 28 (((S29 25 (x28).toNatClampNeg) + (S29 6 (p1).toNatClampNeg))).toNatClampNeg)]) (rest := []) dX6_evaluate_91 cvX6_276 rfl rfl rfl (Nat.le_of_ble_eq_true rfl) (ai_met.mv h (fun S33 h => ?_))
        refine ai_goto (tgt := 215) dX6_evaluate_94 (by decide) ?_
        exact ai_retv dX6_evaluate_215 rfl h
  · have h := h.2 hc2
    refine ai_aload_n dX6_evaluate_13 rfl (j := 1) rfl ?_
    refine ai_callVz (As := []) (rest := []) dX6_evaluate_14 cvX6_279 rfl rfl rfl (Nat.le_of_ble_eq_true rfl) (ai_met.mz h (fun S35 h => ?_) (fun S35 h => ?_))
    · show ai_W _ _ _ _ _ _ _ _ _
      refine ai_if_eq (tgt := 215) dX6_evaluate_17 (by decide) ⟨fun hc => absurd hc (by decide), fun _ => ?_⟩
      refine ai_aload_n dX6_evaluate_20 rfl (j := 1) rfl ?_
      refine ai_aload_n dX6_evaluate_21 rfl (j := 1) rfl ?_
      refine ai_getR dX6_evaluate_22 fdX6_22 rfl rfl ?_
      refine ai_iload_n dX6_evaluate_25 rfl (j := 2) rfl ?_
      refine ai_iald dX6_evaluate_26 rfl ⟨hi1, ?_⟩
      refine ai_putI dX6_evaluate_27 fdX6_289 pdX6_50 rfl rfl rfl rfl ?_
      refine ai_goto (tgt := 215) dX6_evaluate_30 (by decide) ?_
      exact ai_retv dX6_evaluate_215 rfl h
    · show ai_W _ _ _ _ _ _ _ _ _
      refine ai_if_eq (tgt := 215) dX6_evaluate_17 (by decide) ⟨fun _ => ?_, fun hc => absurd hc (by decide)⟩
      exact ai_retv dX6_evaluate_215 rfl h
set_option maxHeartbeats 4000000 in
set_option maxRecDepth 100000 in
theorem vX6_operandDone {p1 : Int32} {p2 : Int32} {p3 : Int32} {S : ai_S} {V : ai_V} {G : ai_S → Prop}
    (h : ((p3 = 0 → (vp_in p1 700 ∧ ((¬ (S 4 (p1).toNatClampNeg) = 0 → ((¬ (S 0 49) = 100 → (vp_in (S 0 49) 100 ∧ ai_met (uM l D ρ τ) d mX6_later [.ref 0, .int 10, .int (S 4 (p1).toNatClampNeg), .int p2] (ai_up (ai_up S 29 ((S 0 49)).toNatClampNeg (S 0 50)) 0 49 ((S 0 49) + 1)) V (ai_qv V (fun S7 => ai_met (uM l D ρ τ) d mX6_later [.ref 0, .int 8, .int (S7 4 (p1).toNatClampNeg), .int p2] S7 V (ai_qv V (fun S9 => G S9)))))) ∧ ((S 0 49) = 100 → G (ai_up S 0 51 7)))) ∧ ((S 4 (p1).toNatClampNeg) = 0 → G S)))) ∧ (¬ p3 = 0 → (vp_in ((S 0 49) - 1) 100 ∧ (vp_in p1 700 ∧ ((¬ (S 8 (p1).toNatClampNeg) = 0 → ((¬ (S 8 (p1).toNatClampNeg) = 1 → ((¬ (S 8 (p1).toNatClampNeg) = 2 → (((S 0 50) ≤ (S 29 (((S 0 49) - 1)).toNatClampNeg) → ((¬ (S 4 (p1).toNatClampNeg) = 0 → ((¬ ((S 0 49) - 1) = 100 → ai_met (uM l D ρ τ) d mX6_later [.ref 0, .int 10, .int (S 4 (p1).toNatClampNeg), .int p2] (ai_up (ai_up (ai_up (ai_up S 0 49 ((S 0 49) - 1)) 0 50 0) 29 (((S 0 49) - 1)).toNatClampNeg 0) 0 49 (((S 0 49) - 1) + 1)) V (ai_qv V (fun S19 => ai_met (uM l D ρ τ) d mX6_later [.ref 0, .int 8, .int (S19 4 (p1).toNatClampNeg), .int p2] S19 V (ai_qv V (fun S21 => G S21))))) ∧ (((S 0 49) - 1) = 100 → G (ai_up (ai_up (ai_up S 0 49 ((S 0 49) - 1)) 0 50 0) 0 51 7)))) ∧ ((S 4 (p1).toNatClampNeg) = 0 → G (ai_up (ai_up S 0 49 ((S 0 49) - 1)) 0 50 0)))) ∧ (¬ (S 0 50) ≤ (S 29 (((S 0 49) - 1)).toNatClampNeg) → ((¬ (S 4 (p1).toNatClampNeg) = 0 → ((¬ ((S 0 49) - 1) = 100 → ai_met (uM l D ρ τ) d mX6_later [.ref 0, .int 10, .int (S 4 (p1).toNatClampNeg), .int p2] (ai_up (ai_up (ai_up (ai_up S 0 49 ((S 0 49) - 1)) 0 50 1) 29 (((S 0 49) - 1)).toNatClampNeg 1) 0 49 (((S 0 49) - 1) + 1)) V (ai_qv V (fun S25 => ai_met (uM l D ρ τ) d mX6_later [.ref 0, .int 8, .int (S25 4 (p1).toNatClampNeg), .int p2] S25 V (ai_qv V (fun S27 => G S27))))) ∧ (((S 0 49) - 1) = 100 → G (ai_up (ai_up (ai_up S 0 49 ((S 0 49) - 1)) 0 50 1) 0 51 7)))) ∧ ((S 4 (p1).toNatClampNeg) = 0 → G (ai_up (ai_up S 0 49 ((S 0 49) - 1)) 0 50 1)))))) ∧ ((S 8 (p1).toNatClampNeg) = 2 → ((¬ (S 4 (p1).toNatClampNeg) = 0 → ((¬ ((S 0 49) - 1) = 100 → ai_met (uM l D ρ τ) d mX6_later [.ref 0, .int 10, .int (S 4 (p1).toNatClampNeg), .int p2] (ai_up (ai_up (ai_up (ai_up S 0 49 ((S 0 49) - 1)) 0 50 ((S 29 (((S 0 49) - 1)).toNatClampNeg) * (S 0 50))) 29 (((S 0 49) - 1)).toNatClampNeg ((S 29 (((S 0 49) - 1)).toNatClampNeg) * (S 0 50))) 0 49 (((S 0 49) - 1) + 1)) V (ai_qv V (fun S31 => ai_met (uM l D ρ τ) d mX6_later [.ref 0, .int 8, .int (S31 4 (p1).toNatClampNeg), .int p2] S31 V (ai_qv V (fun S33 => G S33))))) ∧ (((S 0 49) - 1) = 100 → G (ai_up (ai_up (ai_up S 0 49 ((S 0 49) - 1)) 0 50 ((S 29 (((S 0 49) - 1)).toNatClampNeg) * (S 0 50))) 0 51 7)))) ∧ ((S 4 (p1).toNatClampNeg) = 0 → G (ai_up (ai_up S 0 49 ((S 0 49) - 1)) 0 50 ((S 29 (((S 0 49) - 1)).toNatClampNeg) * (S 0 50)))))))) ∧ ((S 8 (p1).toNatClampNeg) = 1 → ((¬ (S 4 (p1).toNatClampNeg) = 0 → ((¬ ((S 0 49) - 1) = 100 → ai_met (uM l D ρ τ) d mX6_later [.ref 0, .int 10, .int (S 4 (p1).toNatClampNeg), .int p2] (ai_up (ai_up (ai_up (ai_up S 0 49 ((S 0 49) - 1)) 0 50 ((S 29 (((S 0 49) - 1)).toNatClampNeg) - (S 0 50))) 29 (((S 0 49) - 1)).toNatClampNeg ((S 29 (((S 0 49) - 1)).toNatClampNeg) - (S 0 50))) 0 49 (((S 0 49) - 1) + 1)) V (ai_qv V (fun S37 => ai_met (uM l D ρ τ) d mX6_later [.ref 0, .int 8, .int (S37 4 (p1).toNatClampNeg), .int p2] S37 V (ai_qv V (fun S39 => G S39))))) ∧ (((S 0 49) - 1) = 100 → G (ai_up (ai_up (ai_up S 0 49 ((S 0 49) - 1)) 0 50 ((S 29 (((S 0 49) - 1)).toNatClampNeg) - (S 0 50))) 0 51 7)))) ∧ ((S 4 (p1).toNatClampNeg) = 0 → G (ai_up (ai_up S 0 49 ((S 0 49) - 1)) 0 50 ((S 29 (((S 0 49) - 1)).toNatClampNeg) - (S 0 50)))))))) ∧ ((S 8 (p1).toNatClampNeg) = 0 → ((¬ (S 4 (p1).toNatClampNeg) = 0 → ((¬ ((S 0 49) - 1) = 100 → ai_met (uM l D ρ τ) d mX6_later [.ref 0, .int 10, .int (S 4 (p1).toNatClampNeg), .int p2] (ai_up (ai_up (ai_up (ai_up S 0 49 ((S 0 49) - 1)) 0 50 ((S 29 (((S 0 49) - 1)).toNatClampNeg) + (S 0 50))) 29 (((S 0 49) - 1)).toNatClampNeg ((S 29 (((S 0 49) - 1)).toNatClampNeg) + (S 0 50))) 0 49 (((S 0 49) - 1) + 1)) V (ai_qv V (fun S43 => ai_met (uM l D ρ τ) d mX6_later [.ref 0, .int 8, .int (S43 4 (p1).toNatClampNeg), .int p2] S43 V (ai_qv V (fun S45 => G S45))))) ∧ (((S 0 49) - 1) = 100 → G (ai_up (ai_up (ai_up S 0 49 ((S 0 49) - 1)) 0 50 ((S 29 (((S 0 49) - 1)).toNatClampNeg) + (S 0 50))) 0 51 7)))) ∧ ((S 4 (p1).toNatClampNeg) = 0 → G (ai_up (ai_up S 0 49 ((S 0 49) - 1)) 0 50 ((S 29 (((S 0 49) - 1)).toNatClampNeg) + (S 0 50)))))))))))) :
    ai_met (uM l D ρ τ) (d + 1) mX6_operandDone [.ref 0, .int p1, .int p2, .int p3] S V (ai_qv V G) := by
  refine ai_mof plX6 (Nat.le_of_ble_eq_true rfl) (lv := [(0, .ref 0), (1, .int p1), (2, .int p2), (3, .int p3)]) rfl ?_
  refine ai_iload_n dX6_operandDone_0 rfl (j := 3) rfl ?_
  refine ai_if_eq (tgt := 98) dX6_operandDone_1 (by decide) ⟨fun (hc1 : p3 = 0) => ?_, fun (hc1 : ¬ p3 = 0) => ?_⟩
  · have h := h.1 hc1
    refine ai_aload_n dX6_operandDone_98 rfl (j := 0) rfl ?_
    refine ai_getR dX6_operandDone_99 fdX6_19 rfl rfl ?_
    refine ai_iload_n dX6_operandDone_102 rfl (j := 1) rfl ?_
    refine ai_iald dX6_operandDone_103 rfl ⟨h.1, ?_⟩
    have hi2 := h.1
    have h := h.2
    refine ai_if_ne (tgt := 108) dX6_operandDone_104 (by decide) ⟨fun (hc3 : ¬ (S 4 (p1).toNatClampNeg) = 0) => ?_, fun (hc3 : (S 4 (p1).toNatClampNeg) = 0) => ?_⟩
    · have h := h.1 hc3
      refine ai_aload_n dX6_operandDone_108 rfl (j := 0) rfl ?_
      refine ai_getI dX6_operandDone_109 fdX6_292 rfl rfl ?_
      refine ai_bipush (v := 100) dX6_operandDone_112 (by decide) ?_
      refine ai_icmp_ne (tgt := 124) dX6_operandDone_114 (by decide) ⟨fun (hc4 : ¬ (S 0 49) = 100) => ?_, fun (hc4 : (S 0 49) = 100) => ?_⟩
      · have h := h.1 hc4
        refine ai_aload_n dX6_operandDone_124 rfl (j := 0) rfl ?_
        refine ai_getR dX6_operandDone_125 fdX6_94 rfl rfl ?_
        refine ai_aload_n dX6_operandDone_128 rfl (j := 0) rfl ?_
        refine ai_getI dX6_operandDone_129 fdX6_292 rfl rfl ?_
        refine ai_aload_n dX6_operandDone_132 rfl (j := 0) rfl ?_
        refine ai_getI dX6_operandDone_133 fdX6_289 rfl rfl ?_
        refine ai_iast dX6_operandDone_136 rfl ⟨h.1, ?_⟩
        have hi5 := h.1
        have h := h.2
        refine ai_aload_n dX6_operandDone_137 rfl (j := 0) rfl ?_
        refine ai_dup dX6_operandDone_138 rfl ?_
        refine ai_getIx (S 0 49) dX6_operandDone_139 fdX6_292 rfl rfl rfl ?_
        refine ai_iconst (v := 1) dX6_operandDone_142 (by decide) ?_
        refine ai_iadd dX6_operandDone_143 ?_
        refine ai_putI dX6_operandDone_144 fdX6_292 pdX6_49 rfl rfl rfl rfl ?_
        refine ai_aload_n dX6_operandDone_147 rfl (j := 0) rfl ?_
        refine ai_bipush (v := 10) dX6_operandDone_148 (by decide) ?_
        refine ai_aload_n dX6_operandDone_150 rfl (j := 0) rfl ?_
        refine ai_getR dX6_operandDone_151 fdX6_19 rfl rfl ?_
        refine ai_iload_n dX6_operandDone_154 rfl (j := 1) rfl ?_
        refine ai_ialdx (S 4 (p1).toNatClampNeg) dX6_operandDone_155 rfl rfl ⟨hi2, ?_⟩
        refine ai_iload_n dX6_operandDone_156 rfl (j := 2) rfl ?_
        refine ai_callVv (As := [.int 10, .int (S 4 (p1).toNatClampNeg), .int p2]) (rest := []) dX6_operandDone_157 cvX6_276 rfl rfl rfl (Nat.le_of_ble_eq_true rfl) (ai_met.mv h (fun S7 h => ?_))
        refine ai_aload_n dX6_operandDone_160 rfl (j := 0) rfl ?_
        refine ai_bipush (v := 8) dX6_operandDone_161 (by decide) ?_
        refine ai_aload_n dX6_operandDone_163 rfl (j := 0) rfl ?_
        refine ai_getR dX6_operandDone_164 fdX6_19 rfl rfl ?_
        refine ai_iload_n dX6_operandDone_167 rfl (j := 1) rfl ?_
        refine ai_iald dX6_operandDone_168 rfl ⟨hi2, ?_⟩
        refine ai_iload_n dX6_operandDone_169 rfl (j := 2) rfl ?_
        refine ai_callVv (As := [.int 8, .int (S7 4 (p1).toNatClampNeg), .int p2]) (rest := []) dX6_operandDone_170 cvX6_276 rfl rfl rfl (Nat.le_of_ble_eq_true rfl) (ai_met.mv h (fun S9 h => ?_))
        exact ai_retv dX6_operandDone_173 rfl h
      · have h := h.2 hc4
        refine ai_aload_n dX6_operandDone_117 rfl (j := 0) rfl ?_
        refine ai_bipush (v := 7) dX6_operandDone_118 (by decide) ?_
        refine ai_putI dX6_operandDone_120 fdX6_236 pdX6_51 rfl rfl rfl rfl ?_
        exact ai_retv dX6_operandDone_123 rfl h
    · have h := h.2 hc3
      exact ai_retv dX6_operandDone_107 rfl h
  · have h := h.2 hc1
    refine ai_aload_n dX6_operandDone_4 rfl (j := 0) rfl ?_
    refine ai_dup dX6_operandDone_5 rfl ?_
    refine ai_getI dX6_operandDone_6 fdX6_292 rfl rfl ?_
    refine ai_iconst (v := 1) dX6_operandDone_9 (by decide) ?_
    refine ai_isub dX6_operandDone_10 ?_
    refine ai_putI dX6_operandDone_11 fdX6_292 pdX6_49 rfl rfl rfl rfl ?_
    refine ai_aload_n dX6_operandDone_14 rfl (j := 0) rfl ?_
    refine ai_getR dX6_operandDone_15 fdX6_94 rfl rfl ?_
    refine ai_aload_n dX6_operandDone_18 rfl (j := 0) rfl ?_
    refine ai_getIx ((S 0 49) - 1) dX6_operandDone_19 fdX6_292 rfl rfl rfl ?_
    refine ai_ialdx (S 29 (((S 0 49) - 1)).toNatClampNeg) dX6_operandDone_22 rfl rfl ⟨h.1, ?_⟩
    have hi10 := h.1
    have h := h.2
    refine ai_istore (lv' := [(4, .int (S 29 (((S 0 49) - 1)).toNatClampNeg)), (0, .ref 0), (1, .int p1), (2, .int p2), (3, .int p3)]) dX6_operandDone_23 (by decide) rfl ?_
    refine ai_aload_n dX6_operandDone_25 rfl (j := 1) rfl ?_
    refine ai_getR dX6_operandDone_26 fdX6_31 rfl rfl ?_
    refine ai_iload_n dX6_operandDone_29 rfl (j := 2) rfl ?_
    refine ai_ialdx (S 8 (p1).toNatClampNeg) dX6_operandDone_30 rfl rfl ⟨h.1, ?_⟩
    have hi11 := h.1
    have h := h.2
    refine ai_istore (lv' := [(5, .int (S 8 (p1).toNatClampNeg)), (4, .int (S 29 (((S 0 49) - 1)).toNatClampNeg)), (0, .ref 0), (1, .int p1), (2, .int p2), (3, .int p3)]) dX6_operandDone_31 (by decide) rfl ?_
    refine ai_aload_n dX6_operandDone_33 rfl (j := 2) rfl ?_
    refine ai_iload dX6_operandDone_34 (j := 0) rfl ?_
    refine ai_if_ne (tgt := 49) dX6_operandDone_36 (by decide) ⟨fun (hc12 : ¬ (S 8 (p1).toNatClampNeg) = 0) => ?_, fun (hc12 : (S 8 (p1).toNatClampNeg) = 0) => ?_⟩
    · have h := h.1 hc12
      refine ai_iload dX6_operandDone_49 (j := 0) rfl ?_
      refine ai_iconst (v := 1) dX6_operandDone_51 (by decide) ?_
      refine ai_icmp_ne (tgt := 65) dX6_operandDone_52 (by decide) ⟨fun (hc13 : ¬ (S 8 (p1).toNatClampNeg) = 1) => ?_, fun (hc13 : (S 8 (p1).toNatClampNeg) = 1) => ?_⟩
      · have h := h.1 hc13
        refine ai_iload dX6_operandDone_65 (j := 0) rfl ?_
        refine ai_iconst (v := 2) dX6_operandDone_67 (by decide) ?_
        refine ai_icmp_ne (tgt := 81) dX6_operandDone_68 (by decide) ⟨fun (hc14 : ¬ (S 8 (p1).toNatClampNeg) = 2) => ?_, fun (hc14 : (S 8 (p1).toNatClampNeg) = 2) => ?_⟩
        · have h := h.1 hc14
          refine ai_iload dX6_operandDone_81 (j := 1) rfl ?_
          refine ai_aload_n dX6_operandDone_83 rfl (j := 2) rfl ?_
          refine ai_getIx (S 0 50) dX6_operandDone_84 fdX6_289 rfl rfl rfl ?_
          refine ai_icmp_ge (tgt := 94) dX6_operandDone_87 (by decide) ⟨fun (hc15 : (S 0 50) ≤ (S 29 (((S 0 49) - 1)).toNatClampNeg)) => ?_, fun (hc15 : ¬ (S 0 50) ≤ (S 29 (((S 0 49) - 1)).toNatClampNeg)) => ?_⟩
          · have h := h.1 hc15
            refine ai_iconst (v := 0) dX6_operandDone_94 (by decide) ?_
            refine ai_putI dX6_operandDone_95 fdX6_289 pdX6_50 rfl rfl rfl rfl ?_
            refine ai_aload_n dX6_operandDone_98 rfl (j := 2) rfl ?_
            refine ai_getR dX6_operandDone_99 fdX6_19 rfl rfl ?_
            refine ai_iload_n dX6_operandDone_102 rfl (j := 3) rfl ?_
            refine ai_ialdx (S 4 (p1).toNatClampNeg) dX6_operandDone_103 rfl rfl ⟨hi11, ?_⟩
            refine ai_if_ne (tgt := 108) dX6_operandDone_104 (by decide) ⟨fun (hc16 : ¬ (S 4 (p1).toNatClampNeg) = 0) => ?_, fun (hc16 : (S 4 (p1).toNatClampNeg) = 0) => ?_⟩
            · have h := h.1 hc16
              refine ai_aload_n dX6_operandDone_108 rfl (j := 2) rfl ?_
              refine ai_getIx ((S 0 49) - 1) dX6_operandDone_109 fdX6_292 rfl rfl rfl ?_
              refine ai_bipush (v := 100) dX6_operandDone_112 (by decide) ?_
              refine ai_icmp_ne (tgt := 124) dX6_operandDone_114 (by decide) ⟨fun (hc17 : ¬ ((S 0 49) - 1) = 100) => ?_, fun (hc17 : ((S 0 49) - 1) = 100) => ?_⟩
              · have h := h.1 hc17
                refine ai_aload_n dX6_operandDone_124 rfl (j := 2) rfl ?_
                refine ai_getR dX6_operandDone_125 fdX6_94 rfl rfl ?_
                refine ai_aload_n dX6_operandDone_128 rfl (j := 2) rfl ?_
                refine ai_getIx ((S 0 49) - 1) dX6_operandDone_129 fdX6_292 rfl rfl rfl ?_
                refine ai_aload_n dX6_operandDone_132 rfl (j := 2) rfl ?_
                refine ai_getIx 0 dX6_operandDone_133 fdX6_289 rfl rfl rfl ?_
                refine ai_iast dX6_operandDone_136 rfl ⟨hi10, ?_⟩
                refine ai_aload_n dX6_operandDone_137 rfl (j := 2) rfl ?_
                refine ai_dup dX6_operandDone_138 rfl ?_
                refine ai_getIx ((S 0 49) - 1) dX6_operandDone_139 fdX6_292 rfl rfl rfl ?_
                refine ai_iconst (v := 1) dX6_operandDone_142 (by decide) ?_
                refine ai_iadd dX6_operandDone_143 ?_
                refine ai_putI dX6_operandDone_144 fdX6_292 pdX6_49 rfl rfl rfl rfl ?_
                refine ai_aload_n dX6_operandDone_147 rfl (j := 2) rfl ?_
                refine ai_bipush (v := 10) dX6_operandDone_148 (by decide) ?_
                refine ai_aload_n dX6_operandDone_150 rfl (j := 2) rfl ?_
                refine ai_getR dX6_operandDone_151 fdX6_19 rfl rfl ?_
                refine ai_iload_n dX6_operandDone_154 rfl (j := 3) rfl ?_
                refine ai_ialdx (S 4 (p1).toNatClampNeg) dX6_operandDone_155 rfl rfl ⟨hi11, ?_⟩
                refine ai_iload_n dX6_operandDone_156 rfl (j := 4) rfl ?_
                refine ai_callVv (As := [.int 10, .int (S 4 (p1).toNatClampNeg), .int p2]) (rest := []) dX6_operandDone_157 cvX6_276 rfl rfl rfl (Nat.le_of_ble_eq_true rfl) (ai_met.mv h (fun S19 h => ?_))
                refine ai_aload_n dX6_operandDone_160 rfl (j := 2) rfl ?_
                refine ai_bipush (v := 8) dX6_operandDone_161 (by decide) ?_
                refine ai_aload_n dX6_operandDone_163 rfl (j := 2) rfl ?_
                refine ai_getR dX6_operandDone_164 fdX6_19 rfl rfl ?_
                refine ai_iload_n dX6_operandDone_167 rfl (j := 3) rfl ?_
                refine ai_iald dX6_operandDone_168 rfl ⟨hi11, ?_⟩
                refine ai_iload_n dX6_operandDone_169 rfl (j := 4) rfl ?_
                refine ai_callVv (As := [.int 8, .int (S19 4 (p1).toNatClampNeg), .int p2]) (rest := []) dX6_operandDone_170 cvX6_276 rfl rfl rfl (Nat.le_of_ble_eq_true rfl) (ai_met.mv h (fun S21 h => ?_))
                exact ai_retv dX6_operandDone_173 rfl h
              · have h := h.2 hc17
                refine ai_aload_n dX6_operandDone_117 rfl (j := 2) rfl ?_
                refine ai_bipush (v := 7) dX6_operandDone_118 (by decide) ?_
                refine ai_putI dX6_operandDone_120 fdX6_236 pdX6_51 rfl rfl rfl rfl ?_
                exact ai_retv dX6_operandDone_123 rfl h
            · have h := h.2 hc16
              exact ai_retv dX6_operandDone_107 rfl h
          · have h := h.2 hc15
            refine ai_iconst (v := 1) dX6_operandDone_90 (by decide) ?_
            refine ai_goto (tgt := 95) dX6_operandDone_91 (by decide) ?_
            refine ai_putI dX6_operandDone_95 fdX6_289 pdX6_50 rfl rfl rfl rfl ?_
            refine ai_aload_n dX6_operandDone_98 rfl (j := 2) rfl ?_
            refine ai_getR dX6_operandDone_99 fdX6_19 rfl rfl ?_
            refine ai_iload_n dX6_operandDone_102 rfl (j := 3) rfl ?_
            refine ai_ialdx (S 4 (p1).toNatClampNeg) dX6_operandDone_103 rfl rfl ⟨hi11, ?_⟩
            refine ai_if_ne (tgt := 108) dX6_operandDone_104 (by decide) ⟨fun (hc22 : ¬ (S 4 (p1).toNatClampNeg) = 0) => ?_, fun (hc22 : (S 4 (p1).toNatClampNeg) = 0) => ?_⟩
            · have h := h.1 hc22
              refine ai_aload_n dX6_operandDone_108 rfl (j := 2) rfl ?_
              refine ai_getIx ((S 0 49) - 1) dX6_operandDone_109 fdX6_292 rfl rfl rfl ?_
              refine ai_bipush (v := 100) dX6_operandDone_112 (by decide) ?_
              refine ai_icmp_ne (tgt := 124) dX6_operandDone_114 (by decide) ⟨fun (hc23 : ¬ ((S 0 49) - 1) = 100) => ?_, fun (hc23 : ((S 0 49) - 1) = 100) => ?_⟩
              · have h := h.1 hc23
                refine ai_aload_n dX6_operandDone_124 rfl (j := 2) rfl ?_
                refine ai_getR dX6_operandDone_125 fdX6_94 rfl rfl ?_
                refine ai_aload_n dX6_operandDone_128 rfl (j := 2) rfl ?_
                refine ai_getIx ((S 0 49) - 1) dX6_operandDone_129 fdX6_292 rfl rfl rfl ?_
                refine ai_aload_n dX6_operandDone_132 rfl (j := 2) rfl ?_
                refine ai_getIx 1 dX6_operandDone_133 fdX6_289 rfl rfl rfl ?_
                refine ai_iast dX6_operandDone_136 rfl ⟨hi10, ?_⟩
                refine ai_aload_n dX6_operandDone_137 rfl (j := 2) rfl ?_
                refine ai_dup dX6_operandDone_138 rfl ?_
                refine ai_getIx ((S 0 49) - 1) dX6_operandDone_139 fdX6_292 rfl rfl rfl ?_
                refine ai_iconst (v := 1) dX6_operandDone_142 (by decide) ?_
                refine ai_iadd dX6_operandDone_143 ?_
                refine ai_putI dX6_operandDone_144 fdX6_292 pdX6_49 rfl rfl rfl rfl ?_
                refine ai_aload_n dX6_operandDone_147 rfl (j := 2) rfl ?_
                refine ai_bipush (v := 10) dX6_operandDone_148 (by decide) ?_
                refine ai_aload_n dX6_operandDone_150 rfl (j := 2) rfl ?_
                refine ai_getR dX6_operandDone_151 fdX6_19 rfl rfl ?_
                refine ai_iload_n dX6_operandDone_154 rfl (j := 3) rfl ?_
                refine ai_ialdx (S 4 (p1).toNatClampNeg) dX6_operandDone_155 rfl rfl ⟨hi11, ?_⟩
                refine ai_iload_n dX6_operandDone_156 rfl (j := 4) rfl ?_
                refine ai_callVv (As := [.int 10, .int (S 4 (p1).toNatClampNeg), .int p2]) (rest := []) dX6_operandDone_157 cvX6_276 rfl rfl rfl (Nat.le_of_ble_eq_true rfl) (ai_met.mv h (fun S25 h => ?_))
                refine ai_aload_n dX6_operandDone_160 rfl (j := 2) rfl ?_
                refine ai_bipush (v := 8) dX6_operandDone_161 (by decide) ?_
                refine ai_aload_n dX6_operandDone_163 rfl (j := 2) rfl ?_
                refine ai_getR dX6_operandDone_164 fdX6_19 rfl rfl ?_
                refine ai_iload_n dX6_operandDone_167 rfl (j := 3) rfl ?_
                refine ai_iald dX6_operandDone_168 rfl ⟨hi11, ?_⟩
                refine ai_iload_n dX6_operandDone_169 rfl (j := 4) rfl ?_
                refine ai_callVv (As := [.int 8, .int (S25 4 (p1).toNatClampNeg), .int p2]) (rest := []) dX6_operandDone_170 cvX6_276 rfl rfl rfl (Nat.le_of_ble_eq_true rfl) (ai_met.mv h (fun S27 h => ?_))
                exact ai_retv dX6_operandDone_173 rfl h
              · have h := h.2 hc23
                refine ai_aload_n dX6_operandDone_117 rfl (j := 2) rfl ?_
                refine ai_bipush (v := 7) dX6_operandDone_118 (by decide) ?_
                refine ai_putI dX6_operandDone_120 fdX6_236 pdX6_51 rfl rfl rfl rfl ?_
                exact ai_retv dX6_operandDone_123 rfl h
            · have h := h.2 hc22
              exact ai_retv dX6_operandDone_107 rfl h
        · have h := h.2 hc14
          refine ai_iload dX6_operandDone_71 (j := 1) rfl ?_
          refine ai_aload_n dX6_operandDone_73 rfl (j := 2) rfl ?_
          refine ai_getIx (S 0 50) dX6_operandDone_74 fdX6_289 rfl rfl rfl ?_
          refine ai_imul dX6_operandDone_77 ?_
          refine ai_goto (tgt := 95) dX6_operandDone_78 (by decide) ?_
          refine ai_putI dX6_operandDone_95 fdX6_289 pdX6_50 rfl rfl rfl rfl ?_
          refine ai_aload_n dX6_operandDone_98 rfl (j := 2) rfl ?_
          refine ai_getR dX6_operandDone_99 fdX6_19 rfl rfl ?_
          refine ai_iload_n dX6_operandDone_102 rfl (j := 3) rfl ?_
          refine ai_ialdx (S 4 (p1).toNatClampNeg) dX6_operandDone_103 rfl rfl ⟨hi11, ?_⟩
          refine ai_if_ne (tgt := 108) dX6_operandDone_104 (by decide) ⟨fun (hc28 : ¬ (S 4 (p1).toNatClampNeg) = 0) => ?_, fun (hc28 : (S 4 (p1).toNatClampNeg) = 0) => ?_⟩
          · have h := h.1 hc28
            refine ai_aload_n dX6_operandDone_108 rfl (j := 2) rfl ?_
            refine ai_getIx ((S 0 49) - 1) dX6_operandDone_109 fdX6_292 rfl rfl rfl ?_
            refine ai_bipush (v := 100) dX6_operandDone_112 (by decide) ?_
            refine ai_icmp_ne (tgt := 124) dX6_operandDone_114 (by decide) ⟨fun (hc29 : ¬ ((S 0 49) - 1) = 100) => ?_, fun (hc29 : ((S 0 49) - 1) = 100) => ?_⟩
            · have h := h.1 hc29
              refine ai_aload_n dX6_operandDone_124 rfl (j := 2) rfl ?_
              refine ai_getR dX6_operandDone_125 fdX6_94 rfl rfl ?_
              refine ai_aload_n dX6_operandDone_128 rfl (j := 2) rfl ?_
              refine ai_getIx ((S 0 49) - 1) dX6_operandDone_129 fdX6_292 rfl rfl rfl ?_
              refine ai_aload_n dX6_operandDone_132 rfl (j := 2) rfl ?_
              refine ai_getIx ((S 29 (((S 0 49) - 1)).toNatClampNeg) * (S 0 50)) dX6_operandDone_133 fdX6_289 rfl rfl rfl ?_
              refine ai_iast dX6_operandDone_136 rfl ⟨hi10, ?_⟩
              refine ai_aload_n dX6_operandDone_137 rfl (j := 2) rfl ?_
              refine ai_dup dX6_operandDone_138 rfl ?_
              refine ai_getIx ((S 0 49) - 1) dX6_operandDone_139 fdX6_292 rfl rfl rfl ?_
              refine ai_iconst (v := 1) dX6_operandDone_142 (by decide) ?_
              refine ai_iadd dX6_operandDone_143 ?_
              refine ai_putI dX6_operandDone_144 fdX6_292 pdX6_49 rfl rfl rfl rfl ?_
              refine ai_aload_n dX6_operandDone_147 rfl (j := 2) rfl ?_
              refine ai_bipush (v := 10) dX6_operandDone_148 (by decide) ?_
              refine ai_aload_n dX6_operandDone_150 rfl (j := 2) rfl ?_
              refine ai_getR dX6_operandDone_151 fdX6_19 rfl rfl ?_
              refine ai_iload_n dX6_operandDone_154 rfl (j := 3) rfl ?_
              refine ai_ialdx (S 4 (p1).toNatClampNeg) dX6_operandDone_155 rfl rfl ⟨hi11, ?_⟩
              refine ai_iload_n dX6_operandDone_156 rfl (j := 4) rfl ?_
              refine ai_callVv (As := [.int 10, .int (S 4 (p1).toNatClampNeg), .int p2]) (rest := []) dX6_operandDone_157 cvX6_276 rfl rfl rfl (Nat.le_of_ble_eq_true rfl) (ai_met.mv h (fun S31 h => ?_))
              refine ai_aload_n dX6_operandDone_160 rfl (j := 2) rfl ?_
              refine ai_bipush (v := 8) dX6_operandDone_161 (by decide) ?_
              refine ai_aload_n dX6_operandDone_163 rfl (j := 2) rfl ?_
              refine ai_getR dX6_operandDone_164 fdX6_19 rfl rfl ?_
              refine ai_iload_n dX6_operandDone_167 rfl (j := 3) rfl ?_
              refine ai_iald dX6_operandDone_168 rfl ⟨hi11, ?_⟩
              refine ai_iload_n dX6_operandDone_169 rfl (j := 4) rfl ?_
              refine ai_callVv (As := [.int 8, .int (S31 4 (p1).toNatClampNeg), .int p2]) (rest := []) dX6_operandDone_170 cvX6_276 rfl rfl rfl (Nat.le_of_ble_eq_true rfl) (ai_met.mv h (fun S33 h => ?_))
              exact ai_retv dX6_operandDone_173 rfl h
            · have h := h.2 hc29
              refine ai_aload_n dX6_operandDone_117 rfl (j := 2) rfl ?_
              refine ai_bipush (v := 7) dX6_operandDone_118 (by decide) ?_
              refine ai_putI dX6_operandDone_120 fdX6_236 pdX6_51 rfl rfl rfl rfl ?_
              exact ai_retv dX6_operandDone_123 rfl h
          · have h := h.2 hc28
            exact ai_retv dX6_operandDone_107 rfl h
      · have h := h.2 hc13
        refine ai_iload dX6_operandDone_55 (j := 1) rfl ?_
        refine ai_aload_n dX6_operandDone_57 rfl (j := 2) rfl ?_
        refine ai_getIx (S 0 50) dX6_operandDone_58 fdX6_289 rfl rfl rfl ?_
        refine ai_isub dX6_operandDone_61 ?_
        refine ai_goto (tgt := 95) dX6_operandDone_62 (by decide) ?_
        refine ai_putI dX6_operandDone_95 fdX6_289 pdX6_50 rfl rfl rfl rfl ?_
        refine ai_aload_n dX6_operandDone_98 rfl (j := 2) rfl ?_
        refine ai_getR dX6_operandDone_99 fdX6_19 rfl rfl ?_
        refine ai_iload_n dX6_operandDone_102 rfl (j := 3) rfl ?_
        refine ai_ialdx (S 4 (p1).toNatClampNeg) dX6_operandDone_103 rfl rfl ⟨hi11, ?_⟩
        refine ai_if_ne (tgt := 108) dX6_operandDone_104 (by decide) ⟨fun (hc34 : ¬ (S 4 (p1).toNatClampNeg) = 0) => ?_, fun (hc34 : (S 4 (p1).toNatClampNeg) = 0) => ?_⟩
        · have h := h.1 hc34
          refine ai_aload_n dX6_operandDone_108 rfl (j := 2) rfl ?_
          refine ai_getIx ((S 0 49) - 1) dX6_operandDone_109 fdX6_292 rfl rfl rfl ?_
          refine ai_bipush (v := 100) dX6_operandDone_112 (by decide) ?_
          refine ai_icmp_ne (tgt := 124) dX6_operandDone_114 (by decide) ⟨fun (hc35 : ¬ ((S 0 49) - 1) = 100) => ?_, fun (hc35 : ((S 0 49) - 1) = 100) => ?_⟩
          · have h := h.1 hc35
            refine ai_aload_n dX6_operandDone_124 rfl (j := 2) rfl ?_
            refine ai_getR dX6_operandDone_125 fdX6_94 rfl rfl ?_
            refine ai_aload_n dX6_operandDone_128 rfl (j := 2) rfl ?_
            refine ai_getIx ((S 0 49) - 1) dX6_operandDone_129 fdX6_292 rfl rfl rfl ?_
            refine ai_aload_n dX6_operandDone_132 rfl (j := 2) rfl ?_
            refine ai_getIx ((S 29 (((S 0 49) - 1)).toNatClampNeg) - (S 0 50)) dX6_operandDone_133 fdX6_289 rfl rfl rfl ?_
            refine ai_iast dX6_operandDone_136 rfl ⟨hi10, ?_⟩
            refine ai_aload_n dX6_operandDone_137 rfl (j := 2) rfl ?_
            refine ai_dup dX6_operandDone_138 rfl ?_
            refine ai_getIx ((S 0 49) - 1) dX6_operandDone_139 fdX6_292 rfl rfl rfl ?_
            refine ai_iconst (v := 1) dX6_operandDone_142 (by decide) ?_
            refine ai_iadd dX6_operandDone_143 ?_
            refine ai_putI dX6_operandDone_144 fdX6_292 pdX6_49 rfl rfl rfl rfl ?_
            refine ai_aload_n dX6_operandDone_147 rfl (j := 2) rfl ?_
            refine ai_bipush (v := 10) dX6_operandDone_148 (by decide) ?_
            refine ai_aload_n dX6_operandDone_150 rfl (j := 2) rfl ?_
            refine ai_getR dX6_operandDone_151 fdX6_19 rfl rfl ?_
            refine ai_iload_n dX6_operandDone_154 rfl (j := 3) rfl ?_
            refine ai_ialdx (S 4 (p1).toNatClampNeg) dX6_operandDone_155 rfl rfl ⟨hi11, ?_⟩
            refine ai_iload_n dX6_operandDone_156 rfl (j := 4) rfl ?_
            refine ai_callVv (As := [.int 10, .int (S 4 (p1).toNatClampNeg), .int p2]) (rest := []) dX6_operandDone_157 cvX6_276 rfl rfl rfl (Nat.le_of_ble_eq_true rfl) (ai_met.mv h (fun S37 h => ?_))
            refine ai_aload_n dX6_operandDone_160 rfl (j := 2) rfl ?_
            refine ai_bipush (v := 8) dX6_operandDone_161 (by decide) ?_
            refine ai_aload_n dX6_operandDone_163 rfl (j := 2) rfl ?_
            refine ai_getR dX6_operandDone_164 fdX6_19 rfl rfl ?_
            refine ai_iload_n dX6_operandDone_167 rfl (j := 3) rfl ?_
            refine ai_iald dX6_operandDone_168 rfl ⟨hi11, ?_⟩
            refine ai_iload_n dX6_operandDone_169 rfl (j := 4) rfl ?_
            refine ai_callVv (As := [.int 8, .int (S37 4 (p1).toNatClampNeg), .int p2]) (rest := []) dX6_operandDone_170 cvX6_276 rfl rfl rfl (Nat.le_of_ble_eq_true rfl) (ai_met.mv h (fun S39 h => ?_))
            exact ai_retv dX6_operandDone_173 rfl h
          · have h := h.2 hc35
            refine ai_aload_n dX6_operandDone_117 rfl (j := 2) rfl ?_
            refine ai_bipush (v := 7) dX6_operandDone_118 (by decide) ?_
            refine ai_putI dX6_operandDone_120 fdX6_236 pdX6_51 rfl rfl rfl rfl ?_
            exact ai_retv dX6_operandDone_123 rfl h
        · have h := h.2 hc34
          exact ai_retv dX6_operandDone_107 rfl h
    · have h := h.2 hc12
      refine ai_iload dX6_operandDone_39 (j := 1) rfl ?_
      refine ai_aload_n dX6_operandDone_41 rfl (j := 2) rfl ?_
      refine ai_getIx (S 0 50) dX6_operandDone_42 fdX6_289 rfl rfl rfl ?_
      refine ai_iadd dX6_operandDone_45 ?_
      refine ai_goto (tgt := 95) dX6_operandDone_46 (by decide) ?_
      refine ai_putI dX6_operandDone_95 fdX6_289 pdX6_50 rfl rfl rfl rfl ?_
      refine ai_aload_n dX6_operandDone_98 rfl (j := 2) rfl ?_
      refine ai_getR dX6_operandDone_99 fdX6_19 rfl rfl ?_
      refine ai_iload_n dX6_operandDone_102 rfl (j := 3) rfl ?_
      refine ai_ialdx (S 4 (p1).toNatClampNeg) dX6_operandDone_103 rfl rfl ⟨hi11, ?_⟩
      refine ai_if_ne (tgt := 108) dX6_operandDone_104 (by decide) ⟨fun (hc40 : ¬ (S 4 (p1).toNatClampNeg) = 0) => ?_, fun (hc40 : (S 4 (p1).toNatClampNeg) = 0) => ?_⟩
      · have h := h.1 hc40
        refine ai_aload_n dX6_operandDone_108 rfl (j := 2) rfl ?_
        refine ai_getIx ((S 0 49) - 1) dX6_operandDone_109 fdX6_292 rfl rfl rfl ?_
        refine ai_bipush (v := 100) dX6_operandDone_112 (by decide) ?_
        refine ai_icmp_ne (tgt := 124) dX6_operandDone_114 (by decide) ⟨fun (hc41 : ¬ ((S 0 49) - 1) = 100) => ?_, fun (hc41 : ((S 0 49) - 1) = 100) => ?_⟩
        · have h := h.1 hc41
          refine ai_aload_n dX6_operandDone_124 rfl (j := 2) rfl ?_
          refine ai_getR dX6_operandDone_125 fdX6_94 rfl rfl ?_
          refine ai_aload_n dX6_operandDone_128 rfl (j := 2) rfl ?_
          refine ai_getIx ((S 0 49) - 1) dX6_operandDone_129 fdX6_292 rfl rfl rfl ?_
          refine ai_aload_n dX6_operandDone_132 rfl (j := 2) rfl ?_
          refine ai_getIx ((S 29 (((S 0 49) - 1)).toNatClampNeg) + (S 0 50)) dX6_operandDone_133 fdX6_289 rfl rfl rfl ?_
          refine ai_iast dX6_operandDone_136 rfl ⟨hi10, ?_⟩
          refine ai_aload_n dX6_operandDone_137 rfl (j := 2) rfl ?_
          refine ai_dup dX6_operandDone_138 rfl ?_
          refine ai_getIx ((S 0 49) - 1) dX6_operandDone_139 fdX6_292 rfl rfl rfl ?_
          refine ai_iconst (v := 1) dX6_operandDone_142 (by decide) ?_
          refine ai_iadd dX6_operandDone_143 ?_
          refine ai_putI dX6_operandDone_144 fdX6_292 pdX6_49 rfl rfl rfl rfl ?_
          refine ai_aload_n dX6_operandDone_147 rfl (j := 2) rfl ?_
          refine ai_bipush (v := 10) dX6_operandDone_148 (by decide) ?_
          refine ai_aload_n dX6_operandDone_150 rfl (j := 2) rfl ?_
          refine ai_getR dX6_operandDone_151 fdX6_19 rfl rfl ?_
          refine ai_iload_n dX6_operandDone_154 rfl (j := 3) rfl ?_
          refine ai_ialdx (S 4 (p1).toNatClampNeg) dX6_operandDone_155 rfl rfl ⟨hi11, ?_⟩
          refine ai_iload_n dX6_operandDone_156 rfl (j := 4) rfl ?_
          refine ai_callVv (As := [.int 10, .int (S 4 (p1).toNatClampNeg), .int p2]) (rest := []) dX6_operandDone_157 cvX6_276 rfl rfl rfl (Nat.le_of_ble_eq_true rfl) (ai_met.mv h (fun S43 h => ?_))
          refine ai_aload_n dX6_operandDone_160 rfl (j := 2) rfl ?_
          refine ai_bipush (v := 8) dX6_operandDone_161 (by decide) ?_
          refine ai_aload_n dX6_operandDone_163 rfl (j := 2) rfl ?_
          refine ai_getR dX6_operandDone_164 fdX6_19 rfl rfl ?_
          refine ai_iload_n dX6_operandDone_167 rfl (j := 3) rfl ?_
          refine ai_iald dX6_operandDone_168 rfl ⟨hi11, ?_⟩
          refine ai_iload_n dX6_operandDone_169 rfl (j := 4) rfl ?_
          refine ai_callVv (As := [.int 8, .int (S43 4 (p1).toNatClampNeg), .int p2]) (rest := []) dX6_operandDone_170 cvX6_276 rfl rfl rfl (Nat.le_of_ble_eq_true rfl) (ai_met.mv h (fun S45 h => ?_))
          exact ai_retv dX6_operandDone_173 rfl h
        · have h := h.2 hc41
          refine ai_aload_n dX6_operandDone_117 rfl (j := 2) rfl ?_
          refine ai_bipush (v := 7) dX6_operandDone_118 (by decide) ?_
          refine ai_putI dX6_operandDone_120 fdX6_236 pdX6_51 rfl rfl rfl rfl ?_
          exact ai_retv dX6_operandDone_123 rfl h
      · have h := h.2 hc40
        exact ai_retv dX6_operandDone_107 rfl h
set_option maxHeartbeats 4000000 in
set_option maxRecDepth 100000 in
theorem vX6_perform {p1 : Int32} {p2 : Int32} {p3 : Int32} {S : ai_S} {V : ai_V} {G : ai_S → Prop}
    (h : ((p1 = 0 → ai_met (uM l D ρ τ) d mX6_statement [.ref 0, .int p2, .int p3] S V (ai_qv V (fun S3 => G S3))) ∧ (p1 = 1 → (vp_in (p2 + (1024 * p3)) 1300 ∧ G (ai_up S 27 ((p2 + (1024 * p3))).toNatClampNeg (S 0 50)))) ∧ (p1 = 2 → ((¬ (S 0 57) = 32 → (vp_in (S 0 57) 32 ∧ G (ai_up (ai_up S 30 ((S 0 57)).toNatClampNeg (S 0 50)) 0 57 ((S 0 57) + 1)))) ∧ ((S 0 57) = 32 → G (ai_up S 0 51 6)))) ∧ (p1 = 3 → (vp_in p2 700 ∧ (vp_in (S 3 (p2).toNatClampNeg) 700 ∧ (((S 0 50) = 0 → (vp_in (S 4 ((S 3 (p2).toNatClampNeg)).toNatClampNeg) 700 ∧ ai_met (uM l D ρ τ) d mX6_later [.ref 0, .int 0, .int (S 4 ((S 4 ((S 3 (p2).toNatClampNeg)).toNatClampNeg)).toNatClampNeg), .int p3] S V (ai_qv V (fun S15 => G S15)))) ∧ (¬ (S 0 50) = 0 → ai_met (uM l D ρ τ) d mX6_later [.ref 0, .int 0, .int (S 4 ((S 3 (p2).toNatClampNeg)).toNatClampNeg), .int p3] S V (ai_qv V (fun S17 => G S17))))))) ∧ (p1 = 4 → (((S 0 50) = 0 → G S) ∧ (¬ (S 0 50) = 0 → ai_met (uM l D ρ τ) d mX6_later [.ref 0, .int 5, .int p2, .int p3] S V (ai_qv V (fun S21 => (vp_in p2 700 ∧ (vp_in (S21 3 (p2).toNatClampNeg) 700 ∧ ai_met (uM l D ρ τ) d mX6_later [.ref 0, .int 0, .int (S21 4 ((S21 3 (p2).toNatClampNeg)).toNatClampNeg), .int p3] S21 V (ai_qv V (fun S25 => G S25))))))))) ∧ (p1 = 5 → ai_met (uM l D ρ τ) d mX6_later [.ref 0, .int 4, .int p2, .int p3] S V (ai_qv V (fun S28 => (vp_in p2 700 ∧ ai_met (uM l D ρ τ) d mX6_later [.ref 0, .int 8, .int (S28 3 (p2).toNatClampNeg), .int p3] S28 V (ai_qv V (fun S31 => G S31)))))) ∧ (p1 = 6 → (vp_in p3 400 ∧ G (ai_up (ai_up S 0 46 p3) 0 47 (S 25 (p3).toNatClampNeg)))) ∧ (p1 = 7 → (vp_in p2 700 ∧ (((S 4 (p2).toNatClampNeg) ≤ 0 → ai_met (uM l D ρ τ) d mX6_later [.ref 0, .int 0, .int p2, .int p3] S V (ai_qv V (fun S38 => G S38))) ∧ (¬ (S 4 (p2).toNatClampNeg) ≤ 0 → ai_met (uM l D ρ τ) d mX6_later [.ref 0, .int 7, .int (S 4 (p2).toNatClampNeg), .int p3] S V (ai_qv V (fun S40 => ai_met (uM l D ρ τ) d mX6_later [.ref 0, .int 0, .int p2, .int p3] S40 V (ai_qv V (fun S42 => G S42)))))))) ∧ (p1 = 8 → ai_met (uM l D ρ τ) d mX6_evaluate [.ref 0, .int p2, .int p3] S V (ai_qv V (fun S45 => G S45))) ∧ (p1 = 9 → ai_met (uM l D ρ τ) d mX6_operandDone [.ref 0, .int p2, .int p3, .int 0] S V (ai_qv V (fun S48 => G S48))) ∧ (p1 = 10 → ai_met (uM l D ρ τ) d mX6_operandDone [.ref 0, .int p2, .int p3, .int 1] S V (ai_qv V (fun S51 => G S51))) ∧ (p1 = 12 → (vp_in p3 400 ∧ (vp_in p2 700 ∧ (vp_in (((S 25 (p3).toNatClampNeg) + 1) + (S 8 (p2).toNatClampNeg)) 1300 ∧ ai_met (uM l D ρ τ) d mX6_arguments [.ref 0, .int (S 4 (p2).toNatClampNeg), .int p3] (ai_up S 27 ((((S 25 (p3).toNatClampNeg) + 1) + (S 8 (p2).toNatClampNeg))).toNatClampNeg (S 0 50)) V (ai_qv V (fun S57 => G S57)))))) ∧ (¬ p1 = 0 ∧ ¬ p1 = 1 ∧ ¬ p1 = 2 ∧ ¬ p1 = 3 ∧ ¬ p1 = 4 ∧ ¬ p1 = 5 ∧ ¬ p1 = 6 ∧ ¬ p1 = 7 ∧ ¬ p1 = 8 ∧ ¬ p1 = 9 ∧ ¬ p1 = 10 ∧ ¬ p1 = 12 → (vp_in p3 400 ∧ (vp_in (S 25 (p3).toNatClampNeg) 1300 ∧ G (ai_up (ai_up (ai_up (ai_up S 0 50 (S 27 ((S 25 (p3).toNatClampNeg)).toNatClampNeg)) 0 54 ((S 0 54) - 1)) 0 46 p3) 0 47 (S 25 (p3).toNatClampNeg))))))) :
    ai_met (uM l D ρ τ) (d + 1) mX6_perform [.ref 0, .int p1, .int p2, .int p3] S V (ai_qv V G) := by
  refine ai_mof plX6 (Nat.le_of_ble_eq_true rfl) (lv := [(0, .ref 0), (1, .int p1), (2, .int p2), (3, .int p3)]) rfl ?_
  refine ai_iload_n dX6_perform_0 rfl (j := 1) rfl ?_
  by_cases hs1 : p1 = 0
  · have h := h.1 hs1
    refine ai_tab (tgt := 68) 0 dX6_perform_1 hs1 (by decide) (by decide) rfl (by decide) ?_
    refine ai_aload_n dX6_perform_68 rfl (j := 0) rfl ?_
    refine ai_iload_n dX6_perform_69 rfl (j := 2) rfl ?_
    refine ai_iload_n dX6_perform_70 rfl (j := 3) rfl ?_
    refine ai_callVv (As := [.int p2, .int p3]) (rest := []) dX6_perform_71 cvX6_295 rfl rfl rfl (Nat.le_of_ble_eq_true rfl) (ai_met.mv h (fun S3 h => ?_))
    refine ai_goto (tgt := 395) dX6_perform_74 (by decide) ?_
    exact ai_retv dX6_perform_395 rfl h
  by_cases hs4 : p1 = 1
  · have h := h.2.1 hs4
    refine ai_tab (tgt := 77) 1 dX6_perform_1 hs4 (by decide) (by decide) rfl (by decide) ?_
    refine ai_aload_n dX6_perform_77 rfl (j := 0) rfl ?_
    refine ai_getR dX6_perform_78 fdX6_88 rfl rfl ?_
    refine ai_iload_n dX6_perform_81 rfl (j := 2) rfl ?_
    refine ai_sipush (v := 1024) dX6_perform_82 (by decide) ?_
    refine ai_iload_n dX6_perform_85 rfl (j := 3) rfl ?_
    refine ai_imul dX6_perform_86 ?_
    refine ai_iadd dX6_perform_87 ?_
    refine ai_aload_n dX6_perform_88 rfl (j := 0) rfl ?_
    refine ai_getI dX6_perform_89 fdX6_289 rfl rfl ?_
    refine ai_iast dX6_perform_92 rfl ⟨h.1, ?_⟩
    have hi5 := h.1
    have h := h.2
    refine ai_goto (tgt := 395) dX6_perform_93 (by decide) ?_
    exact ai_retv dX6_perform_395 rfl h
  by_cases hs6 : p1 = 2
  · have h := h.2.2.1 hs6
    refine ai_tab (tgt := 96) 2 dX6_perform_1 hs6 (by decide) (by decide) rfl (by decide) ?_
    refine ai_aload_n dX6_perform_96 rfl (j := 0) rfl ?_
    refine ai_getI dX6_perform_97 fdX6_298 rfl rfl ?_
    refine ai_bipush (v := 32) dX6_perform_100 (by decide) ?_
    refine ai_icmp_ne (tgt := 114) dX6_perform_102 (by decide) ⟨fun (hc7 : ¬ (S 0 57) = 32) => ?_, fun (hc7 : (S 0 57) = 32) => ?_⟩
    · have h := h.1 hc7
      refine ai_aload_n dX6_perform_114 rfl (j := 0) rfl ?_
      refine ai_getR dX6_perform_115 fdX6_97 rfl rfl ?_
      refine ai_aload_n dX6_perform_118 rfl (j := 0) rfl ?_
      refine ai_getI dX6_perform_119 fdX6_298 rfl rfl ?_
      refine ai_aload_n dX6_perform_122 rfl (j := 0) rfl ?_
      refine ai_getI dX6_perform_123 fdX6_289 rfl rfl ?_
      refine ai_iast dX6_perform_126 rfl ⟨h.1, ?_⟩
      have hi8 := h.1
      have h := h.2
      refine ai_aload_n dX6_perform_127 rfl (j := 0) rfl ?_
      refine ai_dup dX6_perform_128 rfl ?_
      refine ai_getIx (S 0 57) dX6_perform_129 fdX6_298 rfl rfl rfl ?_
      refine ai_iconst (v := 1) dX6_perform_132 (by decide) ?_
      refine ai_iadd dX6_perform_133 ?_
      refine ai_putI dX6_perform_134 fdX6_298 pdX6_57 rfl rfl rfl rfl ?_
      refine ai_goto (tgt := 395) dX6_perform_137 (by decide) ?_
      exact ai_retv dX6_perform_395 rfl h
    · have h := h.2 hc7
      refine ai_aload_n dX6_perform_105 rfl (j := 0) rfl ?_
      refine ai_bipush (v := 6) dX6_perform_106 (by decide) ?_
      refine ai_putI dX6_perform_108 fdX6_236 pdX6_51 rfl rfl rfl rfl ?_
      refine ai_goto (tgt := 395) dX6_perform_111 (by decide) ?_
      exact ai_retv dX6_perform_395 rfl h
  by_cases hs9 : p1 = 3
  · have h := h.2.2.2.1 hs9
    refine ai_tab (tgt := 140) 3 dX6_perform_1 hs9 (by decide) (by decide) rfl (by decide) ?_
    refine ai_aload_n dX6_perform_140 rfl (j := 0) rfl ?_
    refine ai_getR dX6_perform_141 fdX6_19 rfl rfl ?_
    refine ai_aload_n dX6_perform_144 rfl (j := 0) rfl ?_
    refine ai_getR dX6_perform_145 fdX6_16 rfl rfl ?_
    refine ai_iload_n dX6_perform_148 rfl (j := 2) rfl ?_
    refine ai_iald dX6_perform_149 rfl ⟨h.1, ?_⟩
    have hi10 := h.1
    have h := h.2
    refine ai_iald dX6_perform_150 rfl ⟨h.1, ?_⟩
    have hi11 := h.1
    have h := h.2
    refine ai_istore (lv' := [(4, .int (S 4 ((S 3 (p2).toNatClampNeg)).toNatClampNeg)), (0, .ref 0), (1, .int p1), (2, .int p2), (3, .int p3)]) dX6_perform_151 (by decide) rfl ?_
    refine ai_aload_n dX6_perform_153 rfl (j := 1) rfl ?_
    refine ai_iconst (v := 0) dX6_perform_154 (by decide) ?_
    refine ai_aload_n dX6_perform_155 rfl (j := 1) rfl ?_
    refine ai_getI dX6_perform_156 fdX6_289 rfl rfl ?_
    refine ai_if_eq (tgt := 167) dX6_perform_159 (by decide) ⟨fun (hc12 : (S 0 50) = 0) => ?_, fun (hc12 : ¬ (S 0 50) = 0) => ?_⟩
    · have h := h.1 hc12
      refine ai_aload_n dX6_perform_167 rfl (j := 1) rfl ?_
      refine ai_getR dX6_perform_168 fdX6_19 rfl rfl ?_
      refine ai_iload dX6_perform_171 (j := 0) rfl ?_
      refine ai_iald dX6_perform_173 rfl ⟨h.1, ?_⟩
      have hi13 := h.1
      have h := h.2
      refine ai_iload_n dX6_perform_174 rfl (j := 4) rfl ?_
      refine ai_callVv (As := [.int 0, .int (S 4 ((S 4 ((S 3 (p2).toNatClampNeg)).toNatClampNeg)).toNatClampNeg), .int p3]) (rest := []) dX6_perform_175 cvX6_276 rfl rfl rfl (Nat.le_of_ble_eq_true rfl) (ai_met.mv h (fun S15 h => ?_))
      refine ai_goto (tgt := 395) dX6_perform_178 (by decide) ?_
      exact ai_retv dX6_perform_395 rfl h
    · have h := h.2 hc12
      refine ai_iload dX6_perform_162 (j := 0) rfl ?_
      refine ai_goto (tgt := 174) dX6_perform_164 (by decide) ?_
      refine ai_iload_n dX6_perform_174 rfl (j := 4) rfl ?_
      refine ai_callVv (As := [.int 0, .int (S 4 ((S 3 (p2).toNatClampNeg)).toNatClampNeg), .int p3]) (rest := []) dX6_perform_175 cvX6_276 rfl rfl rfl (Nat.le_of_ble_eq_true rfl) (ai_met.mv h (fun S17 h => ?_))
      refine ai_goto (tgt := 395) dX6_perform_178 (by decide) ?_
      exact ai_retv dX6_perform_395 rfl h
  by_cases hs18 : p1 = 4
  · have h := h.2.2.2.2.1 hs18
    refine ai_tab (tgt := 181) 4 dX6_perform_1 hs18 (by decide) (by decide) rfl (by decide) ?_
    refine ai_aload_n dX6_perform_181 rfl (j := 0) rfl ?_
    refine ai_getI dX6_perform_182 fdX6_289 rfl rfl ?_
    refine ai_if_eq (tgt := 395) dX6_perform_185 (by decide) ⟨fun (hc19 : (S 0 50) = 0) => ?_, fun (hc19 : ¬ (S 0 50) = 0) => ?_⟩
    · have h := h.1 hc19
      exact ai_retv dX6_perform_395 rfl h
    · have h := h.2 hc19
      refine ai_aload_n dX6_perform_188 rfl (j := 0) rfl ?_
      refine ai_iconst (v := 5) dX6_perform_189 (by decide) ?_
      refine ai_iload_n dX6_perform_190 rfl (j := 2) rfl ?_
      refine ai_iload_n dX6_perform_191 rfl (j := 3) rfl ?_
      refine ai_callVv (As := [.int 5, .int p2, .int p3]) (rest := []) dX6_perform_192 cvX6_276 rfl rfl rfl (Nat.le_of_ble_eq_true rfl) (ai_met.mv h (fun S21 h => ?_))
      refine ai_aload_n dX6_perform_195 rfl (j := 0) rfl ?_
      refine ai_iconst (v := 0) dX6_perform_196 (by decide) ?_
      refine ai_aload_n dX6_perform_197 rfl (j := 0) rfl ?_
      refine ai_getR dX6_perform_198 fdX6_19 rfl rfl ?_
      refine ai_aload_n dX6_perform_201 rfl (j := 0) rfl ?_
      refine ai_getR dX6_perform_202 fdX6_16 rfl rfl ?_
      refine ai_iload_n dX6_perform_205 rfl (j := 2) rfl ?_
      refine ai_iald dX6_perform_206 rfl ⟨h.1, ?_⟩
      have hi22 := h.1
      have h := h.2
      refine ai_iald dX6_perform_207 rfl ⟨h.1, ?_⟩
      have hi23 := h.1
      have h := h.2
      refine ai_iload_n dX6_perform_208 rfl (j := 3) rfl ?_
      refine ai_callVv (As := [.int 0, .int (S21 4 ((S21 3 (p2).toNatClampNeg)).toNatClampNeg), .int p3]) (rest := []) dX6_perform_209 cvX6_276 rfl rfl rfl (Nat.le_of_ble_eq_true rfl) (ai_met.mv h (fun S25 h => ?_))
      refine ai_goto (tgt := 395) dX6_perform_212 (by decide) ?_
      exact ai_retv dX6_perform_395 rfl h
  by_cases hs26 : p1 = 5
  · have h := h.2.2.2.2.2.1 hs26
    refine ai_tab (tgt := 215) 5 dX6_perform_1 hs26 (by decide) (by decide) rfl (by decide) ?_
    refine ai_aload_n dX6_perform_215 rfl (j := 0) rfl ?_
    refine ai_iconst (v := 4) dX6_perform_216 (by decide) ?_
    refine ai_iload_n dX6_perform_217 rfl (j := 2) rfl ?_
    refine ai_iload_n dX6_perform_218 rfl (j := 3) rfl ?_
    refine ai_callVv (As := [.int 4, .int p2, .int p3]) (rest := []) dX6_perform_219 cvX6_276 rfl rfl rfl (Nat.le_of_ble_eq_true rfl) (ai_met.mv h (fun S28 h => ?_))
    refine ai_aload_n dX6_perform_222 rfl (j := 0) rfl ?_
    refine ai_bipush (v := 8) dX6_perform_223 (by decide) ?_
    refine ai_aload_n dX6_perform_225 rfl (j := 0) rfl ?_
    refine ai_getR dX6_perform_226 fdX6_16 rfl rfl ?_
    refine ai_iload_n dX6_perform_229 rfl (j := 2) rfl ?_
    refine ai_iald dX6_perform_230 rfl ⟨h.1, ?_⟩
    have hi29 := h.1
    have h := h.2
    refine ai_iload_n dX6_perform_231 rfl (j := 3) rfl ?_
    refine ai_callVv (As := [.int 8, .int (S28 3 (p2).toNatClampNeg), .int p3]) (rest := []) dX6_perform_232 cvX6_276 rfl rfl rfl (Nat.le_of_ble_eq_true rfl) (ai_met.mv h (fun S31 h => ?_))
    refine ai_goto (tgt := 395) dX6_perform_235 (by decide) ?_
    exact ai_retv dX6_perform_395 rfl h
  by_cases hs32 : p1 = 6
  · have h := h.2.2.2.2.2.2.1 hs32
    refine ai_tab (tgt := 238) 6 dX6_perform_1 hs32 (by decide) (by decide) rfl (by decide) ?_
    refine ai_aload_n dX6_perform_238 rfl (j := 0) rfl ?_
    refine ai_iload_n dX6_perform_239 rfl (j := 3) rfl ?_
    refine ai_putI dX6_perform_240 fdX6_239 pdX6_46 rfl rfl rfl rfl ?_
    refine ai_aload_n dX6_perform_243 rfl (j := 0) rfl ?_
    refine ai_aload_n dX6_perform_244 rfl (j := 0) rfl ?_
    refine ai_getR dX6_perform_245 fdX6_82 rfl rfl ?_
    refine ai_iload_n dX6_perform_248 rfl (j := 3) rfl ?_
    refine ai_ialdx (S 25 (p3).toNatClampNeg) dX6_perform_249 rfl rfl ⟨h.1, ?_⟩
    have hi33 := h.1
    have h := h.2
    refine ai_putI dX6_perform_250 fdX6_242 pdX6_47 rfl rfl rfl rfl ?_
    refine ai_goto (tgt := 395) dX6_perform_253 (by decide) ?_
    exact ai_retv dX6_perform_395 rfl h
  by_cases hs34 : p1 = 7
  · have h := h.2.2.2.2.2.2.2.1 hs34
    refine ai_tab (tgt := 256) 7 dX6_perform_1 hs34 (by decide) (by decide) rfl (by decide) ?_
    refine ai_aload_n dX6_perform_256 rfl (j := 0) rfl ?_
    refine ai_getR dX6_perform_257 fdX6_19 rfl rfl ?_
    refine ai_iload_n dX6_perform_260 rfl (j := 2) rfl ?_
    refine ai_iald dX6_perform_261 rfl ⟨h.1, ?_⟩
    have hi35 := h.1
    have h := h.2
    refine ai_if_le (tgt := 278) dX6_perform_262 (by decide) ⟨fun (hc36 : (S 4 (p2).toNatClampNeg) ≤ 0) => ?_, fun (hc36 : ¬ (S 4 (p2).toNatClampNeg) ≤ 0) => ?_⟩
    · have h := h.1 hc36
      refine ai_aload_n dX6_perform_278 rfl (j := 0) rfl ?_
      refine ai_iconst (v := 0) dX6_perform_279 (by decide) ?_
      refine ai_iload_n dX6_perform_280 rfl (j := 2) rfl ?_
      refine ai_iload_n dX6_perform_281 rfl (j := 3) rfl ?_
      refine ai_callVv (As := [.int 0, .int p2, .int p3]) (rest := []) dX6_perform_282 cvX6_276 rfl rfl rfl (Nat.le_of_ble_eq_true rfl) (ai_met.mv h (fun S38 h => ?_))
      refine ai_goto (tgt := 395) dX6_perform_285 (by decide) ?_
      exact ai_retv dX6_perform_395 rfl h
    · have h := h.2 hc36
      refine ai_aload_n dX6_perform_265 rfl (j := 0) rfl ?_
      refine ai_bipush (v := 7) dX6_perform_266 (by decide) ?_
      refine ai_aload_n dX6_perform_268 rfl (j := 0) rfl ?_
      refine ai_getR dX6_perform_269 fdX6_19 rfl rfl ?_
      refine ai_iload_n dX6_perform_272 rfl (j := 2) rfl ?_
      refine ai_iald dX6_perform_273 rfl ⟨hi35, ?_⟩
      refine ai_iload_n dX6_perform_274 rfl (j := 3) rfl ?_
      refine ai_callVv (As := [.int 7, .int (S 4 (p2).toNatClampNeg), .int p3]) (rest := []) dX6_perform_275 cvX6_276 rfl rfl rfl (Nat.le_of_ble_eq_true rfl) (ai_met.mv h (fun S40 h => ?_))
      refine ai_aload_n dX6_perform_278 rfl (j := 0) rfl ?_
      refine ai_iconst (v := 0) dX6_perform_279 (by decide) ?_
      refine ai_iload_n dX6_perform_280 rfl (j := 2) rfl ?_
      refine ai_iload_n dX6_perform_281 rfl (j := 3) rfl ?_
      refine ai_callVv (As := [.int 0, .int p2, .int p3]) (rest := []) dX6_perform_282 cvX6_276 rfl rfl rfl (Nat.le_of_ble_eq_true rfl) (ai_met.mv h (fun S42 h => ?_))
      refine ai_goto (tgt := 395) dX6_perform_285 (by decide) ?_
      exact ai_retv dX6_perform_395 rfl h
  by_cases hs43 : p1 = 8
  · have h := h.2.2.2.2.2.2.2.2.1 hs43
    refine ai_tab (tgt := 288) 8 dX6_perform_1 hs43 (by decide) (by decide) rfl (by decide) ?_
    refine ai_aload_n dX6_perform_288 rfl (j := 0) rfl ?_
    refine ai_iload_n dX6_perform_289 rfl (j := 2) rfl ?_
    refine ai_iload_n dX6_perform_290 rfl (j := 3) rfl ?_
    refine ai_callVv (As := [.int p2, .int p3]) (rest := []) dX6_perform_291 cvX6_301 rfl rfl rfl (Nat.le_of_ble_eq_true rfl) (ai_met.mv h (fun S45 h => ?_))
    refine ai_goto (tgt := 395) dX6_perform_294 (by decide) ?_
    exact ai_retv dX6_perform_395 rfl h
  by_cases hs46 : p1 = 9
  · have h := h.2.2.2.2.2.2.2.2.2.1 hs46
    refine ai_tab (tgt := 297) 9 dX6_perform_1 hs46 (by decide) (by decide) rfl (by decide) ?_
    refine ai_aload_n dX6_perform_297 rfl (j := 0) rfl ?_
    refine ai_iload_n dX6_perform_298 rfl (j := 2) rfl ?_
    refine ai_iload_n dX6_perform_299 rfl (j := 3) rfl ?_
    refine ai_iconst (v := 0) dX6_perform_300 (by decide) ?_
    refine ai_callVv (As := [.int p2, .int p3, .int 0]) (rest := []) dX6_perform_301 cvX6_304 rfl rfl rfl (Nat.le_of_ble_eq_true rfl) (ai_met.mv h (fun S48 h => ?_))
    refine ai_goto (tgt := 395) dX6_perform_304 (by decide) ?_
    exact ai_retv dX6_perform_395 rfl h
  by_cases hs49 : p1 = 10
  · have h := h.2.2.2.2.2.2.2.2.2.2.1 hs49
    refine ai_tab (tgt := 307) 10 dX6_perform_1 hs49 (by decide) (by decide) rfl (by decide) ?_
    refine ai_aload_n dX6_perform_307 rfl (j := 0) rfl ?_
    refine ai_iload_n dX6_perform_308 rfl (j := 2) rfl ?_
    refine ai_iload_n dX6_perform_309 rfl (j := 3) rfl ?_
    refine ai_iconst (v := 1) dX6_perform_310 (by decide) ?_
    refine ai_callVv (As := [.int p2, .int p3, .int 1]) (rest := []) dX6_perform_311 cvX6_304 rfl rfl rfl (Nat.le_of_ble_eq_true rfl) (ai_met.mv h (fun S51 h => ?_))
    refine ai_goto (tgt := 395) dX6_perform_314 (by decide) ?_
    exact ai_retv dX6_perform_395 rfl h
  by_cases hs52 : p1 = 12
  · have h := h.2.2.2.2.2.2.2.2.2.2.2.1 hs52
    refine ai_tab (tgt := 317) 12 dX6_perform_1 hs52 (by decide) (by decide) rfl (by decide) ?_
    refine ai_aload_n dX6_perform_317 rfl (j := 0) rfl ?_
    refine ai_getR dX6_perform_318 fdX6_88 rfl rfl ?_
    refine ai_aload_n dX6_perform_321 rfl (j := 0) rfl ?_
    refine ai_getR dX6_perform_322 fdX6_82 rfl rfl ?_
    refine ai_iload_n dX6_perform_325 rfl (j := 3) rfl ?_
    refine ai_iald dX6_perform_326 rfl ⟨h.1, ?_⟩
    have hi53 := h.1
    have h := h.2
    refine ai_iconst (v := 1) dX6_perform_327 (by decide) ?_
    refine ai_iadd dX6_perform_328 ?_
    refine ai_aload_n dX6_perform_329 rfl (j := 0) rfl ?_
    refine ai_getR dX6_perform_330 fdX6_31 rfl rfl ?_
    refine ai_iload_n dX6_perform_333 rfl (j := 2) rfl ?_
    refine ai_iald dX6_perform_334 rfl ⟨h.1, ?_⟩
    have hi54 := h.1
    have h := h.2
    refine ai_iadd dX6_perform_335 ?_
    refine ai_aload_n dX6_perform_336 rfl (j := 0) rfl ?_
    refine ai_getI dX6_perform_337 fdX6_289 rfl rfl ?_
    refine ai_iast dX6_perform_340 rfl ⟨h.1, ?_⟩
    have hi55 := h.1
    have h := h.2
    refine ai_aload_n dX6_perform_341 rfl (j := 0) rfl ?_
    refine ai_aload_n dX6_perform_342 rfl (j := 0) rfl ?_
    refine ai_getR dX6_perform_343 fdX6_19 rfl rfl ?_
    refine ai_iload_n dX6_perform_346 rfl (j := 2) rfl ?_
    refine ai_ialdx (S 4 (p2).toNatClampNeg) dX6_perform_347 rfl rfl ⟨hi54, ?_⟩
    refine ai_iload_n dX6_perform_348 rfl (j := 3) rfl ?_
    refine ai_callVv (As := [.int (S 4 (p2).toNatClampNeg), .int p3]) (rest := []) dX6_perform_349 cvX6_273 rfl rfl rfl (Nat.le_of_ble_eq_true rfl) (ai_met.mv h (fun S57 h => ?_))
    refine ai_goto (tgt := 395) dX6_perform_352 (by decide) ?_
    exact ai_retv dX6_perform_395 rfl h
  have h := h.2.2.2.2.2.2.2.2.2.2.2.2 ⟨hs1, hs4, hs6, hs9, hs18, hs26, hs32, hs34, hs43, hs46, hs49, hs52⟩
  refine ai_tabD (tgt := 355) [0, 1, 2, 3, 4, 5, 6, 7, 8, 9, 10, 12] dX6_perform_1 (List.forall_mem_cons.mpr ⟨ai_swx 0 (by decide) hs1, List.forall_mem_cons.mpr ⟨ai_swx 1 (by decide) hs4, List.forall_mem_cons.mpr ⟨ai_swx 2 (by decide) hs6, List.forall_mem_cons.mpr ⟨ai_swx 3 (by decide) hs9, List.forall_mem_cons.mpr ⟨ai_swx 4 (by decide) hs18, List.forall_mem_cons.mpr ⟨ai_swx 5 (by decide) hs26, List.forall_mem_cons.mpr ⟨ai_swx 6 (by decide) hs32, List.forall_mem_cons.mpr ⟨ai_swx 7 (by decide) hs34, List.forall_mem_cons.mpr ⟨ai_swx 8 (by decide) hs43, List.forall_mem_cons.mpr ⟨ai_swx 9 (by decide) hs46, List.forall_mem_cons.mpr ⟨ai_swx 10 (by decide) hs49, List.forall_mem_cons.mpr ⟨ai_swx 12 (by decide) hs52, fun _ h => absurd h List.not_mem_nil⟩⟩⟩⟩⟩⟩⟩⟩⟩⟩⟩⟩) (by decide) (by decide) (by decide) ?_
  refine ai_aload_n dX6_perform_355 rfl (j := 0) rfl ?_
  refine ai_aload_n dX6_perform_356 rfl (j := 0) rfl ?_
  refine ai_getR dX6_perform_357 fdX6_88 rfl rfl ?_
  refine ai_aload_n dX6_perform_360 rfl (j := 0) rfl ?_
  refine ai_getR dX6_perform_361 fdX6_82 rfl rfl ?_
  refine ai_iload_n dX6_perform_364 rfl (j := 3) rfl ?_
  refine ai_iald dX6_perform_365 rfl ⟨h.1, ?_⟩
  have hi58 := h.1
  have h := h.2
  refine ai_iald dX6_perform_366 rfl ⟨h.1, ?_⟩
  have hi59 := h.1
  have h := h.2
  refine ai_putI dX6_perform_367 fdX6_289 pdX6_50 rfl rfl rfl rfl ?_
  refine ai_aload_n dX6_perform_370 rfl (j := 0) rfl ?_
  refine ai_dup dX6_perform_371 rfl ?_
  refine ai_getIx (S 0 54) dX6_perform_372 fdX6_260 rfl rfl rfl ?_
  refine ai_iconst (v := 1) dX6_perform_375 (by decide) ?_
  refine ai_isub dX6_perform_376 ?_
  refine ai_putI dX6_perform_377 fdX6_260 pdX6_54 rfl rfl rfl rfl ?_
  refine ai_aload_n dX6_perform_380 rfl (j := 0) rfl ?_
  refine ai_iload_n dX6_perform_381 rfl (j := 3) rfl ?_
  refine ai_putI dX6_perform_382 fdX6_239 pdX6_46 rfl rfl rfl rfl ?_
  refine ai_aload_n dX6_perform_385 rfl (j := 0) rfl ?_
  refine ai_aload_n dX6_perform_386 rfl (j := 0) rfl ?_
  refine ai_getR dX6_perform_387 fdX6_82 rfl rfl ?_
  refine ai_iload_n dX6_perform_390 rfl (j := 3) rfl ?_
  refine ai_ialdx (S 25 (p3).toNatClampNeg) dX6_perform_391 rfl rfl ⟨hi58, ?_⟩
  refine ai_putI dX6_perform_392 fdX6_242 pdX6_47 rfl rfl rfl rfl ?_
  exact ai_retv dX6_perform_395 rfl h
set_option maxHeartbeats 4000000 in
set_option maxRecDepth 100000 in
theorem vX6_run {p1 : Int32} {S : ai_S} {V : ai_V} {G : Int32 → ai_S → Prop}
    (h : ((¬ (S 0 18) = 0 → ai_met (uM l D ρ τ) d mX6_within [.int p1, .int 0, .int 1000] S V (ai_qz V (fun b2 S3 => (b2 = true → ai_met (uM l D ρ τ) d mX6_frame [.ref 0, .int 0, .int (-1), .int 0, .int 0] (ai_up (ai_up (ai_up (ai_up (ai_up (ai_up (ai_up (ai_up (ai_up (ai_up (ai_up S3 0 52 p1) 0 53 0) 0 54 0) 0 55 0) 0 56 0) 0 57 0) 0 39 0) 0 46 0) 0 47 0) 0 49 0) 0 51 0) V (ai_qi V (fun x4 S5 => ai_met (uM l D ρ τ) d mX6_later [.ref 0, .int 0, .int (S5 0 16), .int x4] S5 V (ai_qv V (fun S7 => ai_W (uM l D ρ τ) (d + 1) mX6_run 99 [(0, .ref 0), (3, .int 0)] [] S7 V (ai_qi V G)))))) ∧ (b2 = false → G (-2) S3)))) ∧ ((S 0 18) = 0 → G (-1) S))) :
    ai_met (uM l D ρ τ) (d + 1) mX6_run [.ref 0, .int p1] S V (ai_qi V G) := by
  refine ai_mof plX6 (Nat.le_of_ble_eq_true rfl) (lv := [(0, .ref 0), (1, .int p1)]) rfl ?_
  refine ai_aload_n dX6_run_0 rfl (j := 0) rfl ?_
  refine ai_getI dX6_run_1 fdX6_211 rfl rfl ?_
  refine ai_if_ne (tgt := 9) dX6_run_4 (by decide) ⟨fun (hc1 : ¬ (S 0 18) = 0) => ?_, fun (hc1 : (S 0 18) = 0) => ?_⟩
  · have h := h.1 hc1
    refine ai_iload_n dX6_run_9 rfl (j := 1) rfl ?_
    refine ai_iconst (v := 0) dX6_run_10 (by decide) ?_
    refine ai_sipush (v := 1000) dX6_run_11 (by decide) ?_
    refine ai_callSz (As := [.int p1, .int 0, .int 1000]) (rest := []) dX6_run_14 csX6_111 rfl rfl (Nat.le_of_ble_eq_true rfl) (ai_met.mz h (fun S3 h => ?_) (fun S3 h => ?_))
    · show ai_W _ _ _ _ _ _ _ _ _
      refine ai_if_ne (tgt := 23) dX6_run_17 (by decide) ⟨fun _ => ?_, fun hc => absurd hc (by decide)⟩
      refine ai_aload_n dX6_run_23 rfl (j := 0) rfl ?_
      refine ai_iload_n dX6_run_24 rfl (j := 1) rfl ?_
      refine ai_putI dX6_run_25 fdX6_233 pdX6_52 rfl rfl rfl rfl ?_
      refine ai_aload_n dX6_run_28 rfl (j := 0) rfl ?_
      refine ai_iconst (v := 0) dX6_run_29 (by decide) ?_
      refine ai_putI dX6_run_30 fdX6_230 pdX6_53 rfl rfl rfl rfl ?_
      refine ai_aload_n dX6_run_33 rfl (j := 0) rfl ?_
      refine ai_iconst (v := 0) dX6_run_34 (by decide) ?_
      refine ai_putI dX6_run_35 fdX6_260 pdX6_54 rfl rfl rfl rfl ?_
      refine ai_aload_n dX6_run_38 rfl (j := 0) rfl ?_
      refine ai_iconst (v := 0) dX6_run_39 (by decide) ?_
      refine ai_putI dX6_run_40 fdX6_266 pdX6_55 rfl rfl rfl rfl ?_
      refine ai_aload_n dX6_run_43 rfl (j := 0) rfl ?_
      refine ai_iconst (v := 0) dX6_run_44 (by decide) ?_
      refine ai_putI dX6_run_45 fdX6_263 pdX6_56 rfl rfl rfl rfl ?_
      refine ai_aload_n dX6_run_48 rfl (j := 0) rfl ?_
      refine ai_iconst (v := 0) dX6_run_49 (by decide) ?_
      refine ai_putI dX6_run_50 fdX6_298 pdX6_57 rfl rfl rfl rfl ?_
      refine ai_aload_n dX6_run_53 rfl (j := 0) rfl ?_
      refine ai_iconst (v := 0) dX6_run_54 (by decide) ?_
      refine ai_putI dX6_run_55 fdX6_227 pdX6_39 rfl rfl rfl rfl ?_
      refine ai_aload_n dX6_run_58 rfl (j := 0) rfl ?_
      refine ai_iconst (v := 0) dX6_run_59 (by decide) ?_
      refine ai_putI dX6_run_60 fdX6_239 pdX6_46 rfl rfl rfl rfl ?_
      refine ai_aload_n dX6_run_63 rfl (j := 0) rfl ?_
      refine ai_iconst (v := 0) dX6_run_64 (by decide) ?_
      refine ai_putI dX6_run_65 fdX6_242 pdX6_47 rfl rfl rfl rfl ?_
      refine ai_aload_n dX6_run_68 rfl (j := 0) rfl ?_
      refine ai_iconst (v := 0) dX6_run_69 (by decide) ?_
      refine ai_putI dX6_run_70 fdX6_292 pdX6_49 rfl rfl rfl rfl ?_
      refine ai_aload_n dX6_run_73 rfl (j := 0) rfl ?_
      refine ai_iconst (v := 0) dX6_run_74 (by decide) ?_
      refine ai_putI dX6_run_75 fdX6_236 pdX6_51 rfl rfl rfl rfl ?_
      refine ai_aload_n dX6_run_78 rfl (j := 0) rfl ?_
      refine ai_iconst (v := 0) dX6_run_79 (by decide) ?_
      refine ai_iconst (v := (-1)) dX6_run_80 (by decide) ?_
      refine ai_iconst (v := 0) dX6_run_81 (by decide) ?_
      refine ai_iconst (v := 0) dX6_run_82 (by decide) ?_
      refine ai_callVi (As := [.int 0, .int (-1), .int 0, .int 0]) (rest := []) dX6_run_83 cvX6_269 rfl rfl rfl (Nat.le_of_ble_eq_true rfl) (ai_met.mi h (fun x4 S5 h => ?_))
      refine ai_istore_n (lv' := [(2, .int x4), (0, .ref 0), (1, .int p1)]) dX6_run_86 rfl (by decide) rfl ?_
      refine ai_aload_n dX6_run_87 rfl (j := 1) rfl ?_
      refine ai_iconst (v := 0) dX6_run_88 (by decide) ?_
      refine ai_aload_n dX6_run_89 rfl (j := 1) rfl ?_
      refine ai_getI dX6_run_90 fdX6_224 rfl rfl ?_
      refine ai_iload_n dX6_run_93 rfl (j := 0) rfl ?_
      refine ai_callVv (As := [.int 0, .int (S5 0 16), .int x4]) (rest := []) dX6_run_94 cvX6_276 rfl rfl rfl (Nat.le_of_ble_eq_true rfl) (ai_met.mv h (fun S7 h => ?_))
      refine ai_iconst (v := 0) dX6_run_97 (by decide) ?_
      refine ai_istore_n (lv' := [(3, .int 0), (2, .int x4), (0, .ref 0), (1, .int p1)]) dX6_run_98 rfl (by decide) rfl ?_
      refine ai_locj (lv' := [(0, .ref 0), (3, .int 0)]) [2, 0] rfl ?_
      exact h
    · show ai_W _ _ _ _ _ _ _ _ _
      refine ai_if_ne (tgt := 23) dX6_run_17 (by decide) ⟨fun hc => absurd hc (by decide), fun _ => ?_⟩
      refine ai_bipush (v := (-2)) dX6_run_20 (by decide) ?_
      exact ai_reti dX6_run_22 rfl h
  · have h := h.2 hc1
    refine ai_iconst (v := (-1)) dX6_run_7 (by decide) ?_
    exact ai_reti dX6_run_8 rfl h
set_option maxHeartbeats 4000000 in
set_option maxRecDepth 100000 in
theorem vX6_run_99 {j : Int32} {S : ai_S} {V : ai_V} {G : Int32 → ai_S → Prop}
    (h : ((10000000 ≤ j → G (S 0 51) S) ∧ (¬ 10000000 ≤ j → (((S 0 39) ≤ 0 → G (S 0 51) S) ∧ (¬ (S 0 39) ≤ 0 → ((¬ (S 0 51) = 0 → G (S 0 51) S) ∧ ((S 0 51) = 0 → (vp_in ((S 0 39) - 1) 7000 ∧ ai_met (uM l D ρ τ) d mX6_perform [.ref 0, .int ((S 22 (((S 0 39) - 1)).toNatClampNeg) &&& (15 : Int32)), .int (((S 22 (((S 0 39) - 1)).toNatClampNeg) >>> ((4 : Int32) &&& 31)) &&& (1023 : Int32)), .int ((S 22 (((S 0 39) - 1)).toNatClampNeg) >>> ((14 : Int32) &&& 31))] (ai_up S 0 39 ((S 0 39) - 1)) V (ai_qv V (fun S6 => ai_W (uM l D ρ τ) (d + 1) mX6_run 99 [(0, .ref 0), (3, .int (j + 1))] [] S6 V (ai_qi V G))))))))))) :
    ai_W (uM l D ρ τ) (d + 1) mX6_run 99 [(0, .ref 0), (3, .int j)] [] S V (ai_qi V G) := by
  refine ai_iload_n dX6_run_99 rfl (j := 1) rfl ?_
  refine ai_ldcw dX6_run_100 ctX6_308 ?_
  refine ai_icmp_ge (tgt := 169) dX6_run_103 (by decide) ⟨fun (hc1 : 10000000 ≤ j) => ?_, fun (hc1 : ¬ 10000000 ≤ j) => ?_⟩
  · have h := h.1 hc1
    refine ai_aload_n dX6_run_169 rfl (j := 0) rfl ?_
    refine ai_getI dX6_run_170 fdX6_236 rfl rfl ?_
    exact ai_reti dX6_run_173 rfl h
  · have h := h.2 hc1
    refine ai_aload_n dX6_run_106 rfl (j := 0) rfl ?_
    refine ai_getI dX6_run_107 fdX6_227 rfl rfl ?_
    refine ai_if_le (tgt := 169) dX6_run_110 (by decide) ⟨fun (hc2 : (S 0 39) ≤ 0) => ?_, fun (hc2 : ¬ (S 0 39) ≤ 0) => ?_⟩
    · have h := h.1 hc2
      refine ai_aload_n dX6_run_169 rfl (j := 0) rfl ?_
      refine ai_getI dX6_run_170 fdX6_236 rfl rfl ?_
      exact ai_reti dX6_run_173 rfl h
    · have h := h.2 hc2
      refine ai_aload_n dX6_run_113 rfl (j := 0) rfl ?_
      refine ai_getI dX6_run_114 fdX6_236 rfl rfl ?_
      refine ai_if_ne (tgt := 169) dX6_run_117 (by decide) ⟨fun (hc3 : ¬ (S 0 51) = 0) => ?_, fun (hc3 : (S 0 51) = 0) => ?_⟩
      · have h := h.1 hc3
        refine ai_aload_n dX6_run_169 rfl (j := 0) rfl ?_
        refine ai_getI dX6_run_170 fdX6_236 rfl rfl ?_
        exact ai_reti dX6_run_173 rfl h
      · have h := h.2 hc3
        refine ai_aload_n dX6_run_120 rfl (j := 0) rfl ?_
        refine ai_dup dX6_run_121 rfl ?_
        refine ai_getI dX6_run_122 fdX6_227 rfl rfl ?_
        refine ai_iconst (v := 1) dX6_run_125 (by decide) ?_
        refine ai_isub dX6_run_126 ?_
        refine ai_putI dX6_run_127 fdX6_227 pdX6_39 rfl rfl rfl rfl ?_
        refine ai_aload_n dX6_run_130 rfl (j := 0) rfl ?_
        refine ai_getR dX6_run_131 fdX6_73 rfl rfl ?_
        refine ai_aload_n dX6_run_134 rfl (j := 0) rfl ?_
        refine ai_getIx ((S 0 39) - 1) dX6_run_135 fdX6_227 rfl rfl rfl ?_
        refine ai_ialdx (S 22 (((S 0 39) - 1)).toNatClampNeg) dX6_run_138 rfl rfl ⟨h.1, ?_⟩
        have hi4 := h.1
        have h := h.2
        refine ai_istore (lv' := [(4, .int (S 22 (((S 0 39) - 1)).toNatClampNeg)), (0, .ref 0), (3, .int j)]) dX6_run_139 (by decide) rfl ?_
        refine ai_aload_n dX6_run_141 rfl (j := 1) rfl ?_
        refine ai_iload dX6_run_142 (j := 0) rfl ?_
        refine ai_bipush (v := 15) dX6_run_144 (by decide) ?_
        refine ai_iand dX6_run_146 ?_
        refine ai_iload dX6_run_147 (j := 0) rfl ?_
        refine ai_iconst (v := 4) dX6_run_149 (by decide) ?_
        refine ai_ishr dX6_run_150 ?_
        refine ai_sipush (v := 1023) dX6_run_151 (by decide) ?_
        refine ai_iand dX6_run_154 ?_
        refine ai_iload dX6_run_155 (j := 0) rfl ?_
        refine ai_bipush (v := 14) dX6_run_157 (by decide) ?_
        refine ai_ishr dX6_run_159 ?_
        refine ai_callVv (As := [.int ((S 22 (((S 0 39) - 1)).toNatClampNeg) &&& (15 : Int32)), .int (((S 22 (((S 0 39) - 1)).toNatClampNeg) >>> ((4 : Int32) &&& 31)) &&& (1023 : Int32)), .int ((S 22 (((S 0 39) - 1)).toNatClampNeg) >>> ((14 : Int32) &&& 31))]) (rest := []) dX6_run_160 cvX6_309 rfl rfl rfl (Nat.le_of_ble_eq_true rfl) (ai_met.mv h (fun S6 h => ?_))
        refine ai_iinc (j := 2) (v := (j + 1)) (lv' := [(3, .int (j + 1)), (4, .int (S 22 (((S 0 39) - 1)).toNatClampNeg)), (0, .ref 0)]) dX6_run_163 rfl (by first | rfl | decide) (by decide) rfl ?_
        refine ai_goto (tgt := 99) dX6_run_166 (by decide) ?_
        refine ai_locj (lv' := [(0, .ref 0), (3, .int (j + 1))]) [2, 0] rfl ?_
        exact h
set_option maxHeartbeats 4000000 in
set_option maxRecDepth 100000 in
theorem vX6_prints {S : ai_S} {V : ai_V} {G : Int32 → ai_S → Prop}
    (h : G (S 0 57) S) :
    ai_met (uM l D ρ τ) d mX6_prints [.ref 0] S V (ai_qi V G) := by
  refine ai_mof plX6 (Nat.le_of_ble_eq_true rfl) (lv := [(0, .ref 0)]) rfl ?_
  refine ai_aload_n dX6_prints_0 rfl (j := 0) rfl ?_
  refine ai_getI dX6_prints_1 fdX6_298 rfl rfl ?_
  exact ai_reti dX6_prints_4 rfl h
set_option maxHeartbeats 4000000 in
set_option maxRecDepth 100000 in
theorem vX6_printed {p1 : Int32} {S : ai_S} {V : ai_V} {G : Int64 → ai_S → Prop}
    (h : ai_met (uM l D ρ τ) d mX6_within [.int p1, .int 0, .int ((S 0 57) - 1)] S V (ai_qz V (fun b1 S2 => (b1 = true → (vp_in p1 32 ∧ G (Int32.toInt64 (S2 30 (p1).toNatClampNeg)) S2)) ∧ (b1 = false → G 4294967296 S2)))) :
    ai_met (uM l D ρ τ) (d + 1) mX6_printed [.ref 0, .int p1] S V (ai_ql V G) := by
  refine ai_mof plX6 (Nat.le_of_ble_eq_true rfl) (lv := [(0, .ref 0), (1, .int p1)]) rfl ?_
  refine ai_iload_n dX6_printed_0 rfl (j := 1) rfl ?_
  refine ai_iconst (v := 0) dX6_printed_1 (by decide) ?_
  refine ai_aload_n dX6_printed_2 rfl (j := 0) rfl ?_
  refine ai_getI dX6_printed_3 fdX6_298 rfl rfl ?_
  refine ai_iconst (v := 1) dX6_printed_6 (by decide) ?_
  refine ai_isub dX6_printed_7 ?_
  refine ai_callSz (As := [.int p1, .int 0, .int ((S 0 57) - 1)]) (rest := []) dX6_printed_8 csX6_111 rfl rfl (Nat.le_of_ble_eq_true rfl) (ai_met.mz h (fun S2 h => ?_) (fun S2 h => ?_))
  · show ai_W _ _ _ _ _ _ _ _ _
    refine ai_if_eq (tgt := 24) dX6_printed_11 (by decide) ⟨fun hc => absurd hc (by decide), fun _ => ?_⟩
    refine ai_aload_n dX6_printed_14 rfl (j := 0) rfl ?_
    refine ai_getR dX6_printed_15 fdX6_97 rfl rfl ?_
    refine ai_iload_n dX6_printed_18 rfl (j := 1) rfl ?_
    refine ai_iald dX6_printed_19 rfl ⟨h.1, ?_⟩
    have hi3 := h.1
    have h := h.2
    refine ai_i2l dX6_printed_20 ?_
    refine ai_goto (tgt := 27) dX6_printed_21 (by decide) ?_
    exact ai_retl dX6_printed_27 rfl h
  · show ai_W _ _ _ _ _ _ _ _ _
    refine ai_if_eq (tgt := 24) dX6_printed_11 (by decide) ⟨fun _ => ?_, fun hc => absurd hc (by decide)⟩
    refine ai_ldc2 dX6_printed_24 ctX6_312 ?_
    exact ai_retl dX6_printed_27 rfl h
set_option maxHeartbeats 4000000 in
set_option maxRecDepth 100000 in
theorem vX6_cost {S : ai_S} {V : ai_V} {G : Int32 → ai_S → Prop}
    (h : G (S 0 53) S) :
    ai_met (uM l D ρ τ) d mX6_cost [.ref 0] S V (ai_qi V G) := by
  refine ai_mof plX6 (Nat.le_of_ble_eq_true rfl) (lv := [(0, .ref 0)]) rfl ?_
  refine ai_aload_n dX6_cost_0 rfl (j := 0) rfl ?_
  refine ai_getI dX6_cost_1 fdX6_230 rfl rfl ?_
  exact ai_reti dX6_cost_4 rfl h
set_option maxHeartbeats 4000000 in
set_option maxRecDepth 100000 in
theorem vX6_deepest {S : ai_S} {V : ai_V} {G : Int32 → ai_S → Prop}
    (h : G (S 0 55) S) :
    ai_met (uM l D ρ τ) d mX6_deepest [.ref 0] S V (ai_qi V G) := by
  refine ai_mof plX6 (Nat.le_of_ble_eq_true rfl) (lv := [(0, .ref 0)]) rfl ?_
  refine ai_aload_n dX6_deepest_0 rfl (j := 0) rfl ?_
  refine ai_getI dX6_deepest_1 fdX6_266 rfl rfl ?_
  exact ai_reti dX6_deepest_4 rfl h
set_option maxHeartbeats 4000000 in
set_option maxRecDepth 100000 in
theorem vX6_calls {S : ai_S} {V : ai_V} {G : Int32 → ai_S → Prop}
    (h : G (S 0 56) S) :
    ai_met (uM l D ρ τ) d mX6_calls [.ref 0] S V (ai_qi V G) := by
  refine ai_mof plX6 (Nat.le_of_ble_eq_true rfl) (lv := [(0, .ref 0)]) rfl ?_
  refine ai_aload_n dX6_calls_0 rfl (j := 0) rfl ?_
  refine ai_getI dX6_calls_1 fdX6_263 rfl rfl ?_
  exact ai_reti dX6_calls_4 rfl h
set_option maxHeartbeats 4000000 in
set_option maxRecDepth 100000 in
theorem vX6_about {p1 : Int32} {S : ai_S} {V : ai_V} {G : Int32 → ai_S → Prop}
    (h : (((S 0 18) = 0 → G (-1) S) ∧ (¬ (S 0 18) = 0 → ai_met (uM l D ρ τ) d mX6_within [.int p1, .int 0, .int 3] S V (ai_qz V (fun b2 S3 => (b2 = true → (vp_in p1 8 ∧ G (S3 12 (p1).toNatClampNeg) S3)) ∧ (b2 = false → G (-1) S3)))))) :
    ai_met (uM l D ρ τ) (d + 1) mX6_about [.ref 0, .int p1] S V (ai_qi V G) := by
  refine ai_mof plX6 (Nat.le_of_ble_eq_true rfl) (lv := [(0, .ref 0), (1, .int p1)]) rfl ?_
  refine ai_aload_n dX6_about_0 rfl (j := 0) rfl ?_
  refine ai_getI dX6_about_1 fdX6_211 rfl rfl ?_
  refine ai_if_eq (tgt := 25) dX6_about_4 (by decide) ⟨fun (hc1 : (S 0 18) = 0) => ?_, fun (hc1 : ¬ (S 0 18) = 0) => ?_⟩
  · have h := h.1 hc1
    refine ai_iconst (v := (-1)) dX6_about_25 (by decide) ?_
    exact ai_reti dX6_about_26 rfl h
  · have h := h.2 hc1
    refine ai_iload_n dX6_about_7 rfl (j := 1) rfl ?_
    refine ai_iconst (v := 0) dX6_about_8 (by decide) ?_
    refine ai_iconst (v := 3) dX6_about_9 (by decide) ?_
    refine ai_callSz (As := [.int p1, .int 0, .int 3]) (rest := []) dX6_about_10 csX6_111 rfl rfl (Nat.le_of_ble_eq_true rfl) (ai_met.mz h (fun S3 h => ?_) (fun S3 h => ?_))
    · show ai_W _ _ _ _ _ _ _ _ _
      refine ai_if_eq (tgt := 25) dX6_about_13 (by decide) ⟨fun hc => absurd hc (by decide), fun _ => ?_⟩
      refine ai_aload_n dX6_about_16 rfl (j := 0) rfl ?_
      refine ai_getR dX6_about_17 fdX6_43 rfl rfl ?_
      refine ai_iload_n dX6_about_20 rfl (j := 1) rfl ?_
      refine ai_iald dX6_about_21 rfl ⟨h.1, ?_⟩
      have hi4 := h.1
      have h := h.2
      refine ai_goto (tgt := 26) dX6_about_22 (by decide) ?_
      exact ai_reti dX6_about_26 rfl h
    · show ai_W _ _ _ _ _ _ _ _ _
      refine ai_if_eq (tgt := 25) dX6_about_13 (by decide) ⟨fun _ => ?_, fun hc => absurd hc (by decide)⟩
      refine ai_iconst (v := (-1)) dX6_about_25 (by decide) ?_
      exact ai_reti dX6_about_26 rfl h
end GM2
