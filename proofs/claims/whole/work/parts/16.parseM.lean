section GM1
variable {l : Launch} {D : va_G} {ρ : Nat → Nat} {τ : Nat → ClassId} {d : Nat}
set_option maxHeartbeats 4000000 in
set_option maxRecDepth 100000 in
theorem vX6_closeList {p1 : Int32} {S : ai_S} {V : ai_V} {G : ai_S → Prop}
    (h : (vp_in p1 80 ∧ ((¬ (S 13 (p1).toNatClampNeg) = 12 → ai_met (uM l D ρ τ) d mX6_done [.ref 0, .int (S 14 (p1).toNatClampNeg)] S V (ai_qv V (fun S4 => G S4))) ∧ ((S 13 (p1).toNatClampNeg) = 12 → ai_met (uM l D ρ τ) d mX6_eat [.ref 0, .int 59] S V (ai_qz V (fun b5 S6 => (b5 = true → ai_met (uM l D ρ τ) d mX6_done [.ref 0, .int (S6 14 (p1).toNatClampNeg)] S6 V (ai_qv V (fun S8 => G S8))) ∧ (b5 = false → ai_met (uM l D ρ τ) d mX6_done [.ref 0, .int (S6 14 (p1).toNatClampNeg)] (ai_up S6 0 19 1) V (ai_qv V (fun S10 => G S10))))))))) :
    ai_met (uM l D ρ τ) (d + 1) mX6_closeList [.ref 0, .int p1] S V (ai_qv V G) := by
  refine ai_mof plX6 (Nat.le_of_ble_eq_true rfl) (lv := [(0, .ref 0), (1, .int p1)]) rfl ?_
  refine ai_aload_n dX6_closeList_0 rfl (j := 0) rfl ?_
  refine ai_getR dX6_closeList_1 fdX6_46 rfl rfl ?_
  refine ai_iload_n dX6_closeList_4 rfl (j := 1) rfl ?_
  refine ai_iald dX6_closeList_5 rfl ⟨h.1, ?_⟩
  have hi1 := h.1
  have h := h.2
  refine ai_bipush (v := 12) dX6_closeList_6 (by decide) ?_
  refine ai_icmp_ne (tgt := 21) dX6_closeList_8 (by decide) ⟨fun (hc2 : ¬ (S 13 (p1).toNatClampNeg) = 12) => ?_, fun (hc2 : (S 13 (p1).toNatClampNeg) = 12) => ?_⟩
  · have h := h.1 hc2
    refine ai_aload_n dX6_closeList_21 rfl (j := 0) rfl ?_
    refine ai_aload_n dX6_closeList_22 rfl (j := 0) rfl ?_
    refine ai_getR dX6_closeList_23 fdX6_49 rfl rfl ?_
    refine ai_iload_n dX6_closeList_26 rfl (j := 1) rfl ?_
    refine ai_iald dX6_closeList_27 rfl ⟨hi1, ?_⟩
    refine ai_callVv (As := [.int (S 14 (p1).toNatClampNeg)]) (rest := []) dX6_closeList_28 cvX6_177 rfl rfl rfl (Nat.le_of_ble_eq_true rfl) (ai_met.mv h (fun S4 h => ?_))
    exact ai_retv dX6_closeList_31 rfl h
  · have h := h.2 hc2
    refine ai_aload_n dX6_closeList_11 rfl (j := 0) rfl ?_
    refine ai_aload_n dX6_closeList_12 rfl (j := 0) rfl ?_
    refine ai_bipush (v := 59) dX6_closeList_13 (by decide) ?_
    refine ai_callVz (As := [.int 59]) (rest := [.ref 0]) dX6_closeList_15 cvX6_159 rfl rfl rfl (Nat.le_of_ble_eq_true rfl) (ai_met.mz h (fun S6 h => ?_) (fun S6 h => ?_))
    · show ai_W _ _ _ _ _ _ _ _ _
      refine ai_callVv (As := [.int 1]) (rest := []) dX6_closeList_18 cvX6_141 rfl rfl rfl (Nat.le_of_ble_eq_true rfl) (vX6_need ?_)
      refine ⟨fun _ => ?_, fun hc => absurd hc (by decide)⟩
      show ai_W _ _ _ _ _ _ S6 _ _
      refine ai_aload_n dX6_closeList_21 rfl (j := 0) rfl ?_
      refine ai_aload_n dX6_closeList_22 rfl (j := 0) rfl ?_
      refine ai_getR dX6_closeList_23 fdX6_49 rfl rfl ?_
      refine ai_iload_n dX6_closeList_26 rfl (j := 1) rfl ?_
      refine ai_iald dX6_closeList_27 rfl ⟨hi1, ?_⟩
      refine ai_callVv (As := [.int (S6 14 (p1).toNatClampNeg)]) (rest := []) dX6_closeList_28 cvX6_177 rfl rfl rfl (Nat.le_of_ble_eq_true rfl) (ai_met.mv h (fun S8 h => ?_))
      exact ai_retv dX6_closeList_31 rfl h
    · show ai_W _ _ _ _ _ _ _ _ _
      refine ai_callVv (As := [.int 0]) (rest := []) dX6_closeList_18 cvX6_141 rfl rfl rfl (Nat.le_of_ble_eq_true rfl) (vX6_need ?_)
      refine ⟨fun hc => absurd hc (by decide), fun _ => ?_⟩
      show ai_W _ _ _ _ _ _ (ai_up S6 0 19 1) _ _
      refine ai_aload_n dX6_closeList_21 rfl (j := 0) rfl ?_
      refine ai_aload_n dX6_closeList_22 rfl (j := 0) rfl ?_
      refine ai_getR dX6_closeList_23 fdX6_49 rfl rfl ?_
      refine ai_iload_n dX6_closeList_26 rfl (j := 1) rfl ?_
      refine ai_ialdx (S6 14 (p1).toNatClampNeg) dX6_closeList_27 rfl rfl ⟨hi1, ?_⟩
      refine ai_callVv (As := [.int (S6 14 (p1).toNatClampNeg)]) (rest := []) dX6_closeList_28 cvX6_177 rfl rfl rfl (Nat.le_of_ble_eq_true rfl) (ai_met.mv h (fun S10 h => ?_))
      exact ai_retv dX6_closeList_31 rfl h
set_option maxHeartbeats 4000000 in
set_option maxRecDepth 100000 in
theorem vX6_openList {p1 : Int32} {p2 : Int32} {p3 : Int32} {S : ai_S} {V : ai_V} {G : ai_S → Prop}
    (h : (vp_in p1 80 ∧ ai_met (uM l D ρ τ) d mX6_eat [.ref 0, .int 41] (ai_up S 13 (p1).toNatClampNeg p2) V (ai_qz V (fun b2 S3 => (b2 = true → ai_met (uM l D ρ τ) d mX6_closeList [.ref 0, .int p1] S3 V (ai_qv V (fun S5 => G S5))) ∧ (b2 = false → ai_met (uM l D ρ τ) d mX6_push [.ref 0, .int 30, .int p3] S3 V (ai_qv V (fun S7 => G S7))))))) :
    ai_met (uM l D ρ τ) (d + 1) mX6_openList [.ref 0, .int p1, .int p2, .int p3] S V (ai_qv V G) := by
  refine ai_mof plX6 (Nat.le_of_ble_eq_true rfl) (lv := [(0, .ref 0), (1, .int p1), (2, .int p2), (3, .int p3)]) rfl ?_
  refine ai_aload_n dX6_openList_0 rfl (j := 0) rfl ?_
  refine ai_getR dX6_openList_1 fdX6_46 rfl rfl ?_
  refine ai_iload_n dX6_openList_4 rfl (j := 1) rfl ?_
  refine ai_iload_n dX6_openList_5 rfl (j := 2) rfl ?_
  refine ai_iast dX6_openList_6 rfl ⟨h.1, ?_⟩
  have hi1 := h.1
  have h := h.2
  refine ai_aload_n dX6_openList_7 rfl (j := 0) rfl ?_
  refine ai_bipush (v := 41) dX6_openList_8 (by decide) ?_
  refine ai_callVz (As := [.int 41]) (rest := []) dX6_openList_10 cvX6_159 rfl rfl rfl (Nat.le_of_ble_eq_true rfl) (ai_met.mz h (fun S3 h => ?_) (fun S3 h => ?_))
  · show ai_W _ _ _ _ _ _ _ _ _
    refine ai_if_eq (tgt := 24) dX6_openList_13 (by decide) ⟨fun hc => absurd hc (by decide), fun _ => ?_⟩
    refine ai_aload_n dX6_openList_16 rfl (j := 0) rfl ?_
    refine ai_iload_n dX6_openList_17 rfl (j := 1) rfl ?_
    refine ai_callVv (As := [.int p1]) (rest := []) dX6_openList_18 cvX6_174 rfl rfl rfl (Nat.le_of_ble_eq_true rfl) (ai_met.mv h (fun S5 h => ?_))
    refine ai_goto (tgt := 31) dX6_openList_21 (by decide) ?_
    exact ai_retv dX6_openList_31 rfl h
  · show ai_W _ _ _ _ _ _ _ _ _
    refine ai_if_eq (tgt := 24) dX6_openList_13 (by decide) ⟨fun _ => ?_, fun hc => absurd hc (by decide)⟩
    refine ai_aload_n dX6_openList_24 rfl (j := 0) rfl ?_
    refine ai_bipush (v := 30) dX6_openList_25 (by decide) ?_
    refine ai_iload_n dX6_openList_27 rfl (j := 3) rfl ?_
    refine ai_callVv (As := [.int 30, .int p3]) (rest := []) dX6_openList_28 cvX6_166 rfl rfl rfl (Nat.le_of_ble_eq_true rfl) (ai_met.mv h (fun S7 h => ?_))
    exact ai_retv dX6_openList_31 rfl h
set_option maxHeartbeats 4000000 in
set_option maxRecDepth 100000 in
theorem vX6_openStatement {p1 : Int32} {S : ai_S} {V : ai_V} {G : ai_S → Prop}
    (h : ai_met (uM l D ρ τ) d mX6_peek [.ref 0] S V (ai_qi V (fun x1 S2 => (vp_in p1 80 ∧ ai_met (uM l D ρ τ) d mX6_goDeeper [.ref 0, .int p1] S2 V (ai_qv V (fun S5 => ai_met (uM l D ρ τ) d mX6_isLetter [.ref 0, .int x1] (ai_up (ai_up S5 0 23 ((S5 0 23) + 1)) 0 2 ((S5 0 2) + 1)) V (ai_qz V (fun b6 S7 => (b6 = true → ai_met (uM l D ρ τ) d mX6_eat [.ref 0, .int 61] S7 V (ai_qz V (fun b8 S9 => (b8 = true → ai_met (uM l D ρ τ) d mX6_use [.ref 0, .int 1, .int x1] S9 V (ai_qi V (fun x10 S11 => ai_met (uM l D ρ τ) d mX6_push [.ref 0, .int 30, .int ((S2 15 (p1).toNatClampNeg) + 1)] (ai_up (ai_up S11 14 (p1).toNatClampNeg x10) 13 (p1).toNatClampNeg 11) V (ai_qv V (fun S13 => G S13))))) ∧ (b8 = false → ai_met (uM l D ρ τ) d mX6_eat [.ref 0, .int 40] S9 V (ai_qz V (fun b14 S15 => (b14 = true → ai_met (uM l D ρ τ) d mX6_use [.ref 0, .int 2, .int x1] S15 V (ai_qi V (fun x16 S17 => ai_met (uM l D ρ τ) d mX6_openList [.ref 0, .int p1, .int 12, .int ((S2 15 (p1).toNatClampNeg) + 1)] (ai_up S17 14 (p1).toNatClampNeg x16) V (ai_qv V (fun S19 => G S19))))) ∧ (b14 = false → G (ai_up S15 0 19 1)))))))) ∧ (b6 = false → ((¬ x1 = 33 → ((x1 = 63 → ai_met (uM l D ρ τ) d mX6_eat [.ref 0, .int 40] S7 V (ai_qz V (fun b22 S23 => (b22 = true → ai_met (uM l D ρ τ) d mX6_fresh [.ref 0, .int 4] S23 V (ai_qi V (fun x24 S25 => ai_met (uM l D ρ τ) d mX6_push [.ref 0, .int 30, .int ((S2 15 (p1).toNatClampNeg) + 1)] (ai_up (ai_up S25 14 (p1).toNatClampNeg x24) 13 (p1).toNatClampNeg 14) V (ai_qv V (fun S27 => G S27))))) ∧ (b22 = false → ai_met (uM l D ρ τ) d mX6_fresh [.ref 0, .int 4] (ai_up S23 0 19 1) V (ai_qi V (fun x28 S29 => ai_met (uM l D ρ τ) d mX6_push [.ref 0, .int 30, .int ((S2 15 (p1).toNatClampNeg) + 1)] (ai_up (ai_up S29 14 (p1).toNatClampNeg x28) 13 (p1).toNatClampNeg 14) V (ai_qv V (fun S31 => G S31)))))))) ∧ (¬ x1 = 63 → ((¬ x1 = 42 → ((¬ x1 = 123 → G (ai_up S7 0 19 1)) ∧ (x1 = 123 → ai_met (uM l D ρ τ) d mX6_fresh [.ref 0, .int 6] S7 V (ai_qi V (fun x34 S35 => G (ai_up (ai_up (ai_up S35 14 (p1).toNatClampNeg x34) 0 37 ((S35 0 37) + 1)) 13 (p1).toNatClampNeg 19)))))) ∧ (x1 = 42 → ai_met (uM l D ρ τ) d mX6_eat [.ref 0, .int 40] S7 V (ai_qz V (fun b36 S37 => (b36 = true → ai_met (uM l D ρ τ) d mX6_fresh [.ref 0, .int 5] S37 V (ai_qi V (fun x38 S39 => ai_met (uM l D ρ τ) d mX6_push [.ref 0, .int 30, .int ((S2 15 (p1).toNatClampNeg) + 1)] (ai_up (ai_up S39 14 (p1).toNatClampNeg x38) 13 (p1).toNatClampNeg 14) V (ai_qv V (fun S41 => G S41))))) ∧ (b36 = false → ai_met (uM l D ρ τ) d mX6_fresh [.ref 0, .int 5] (ai_up S37 0 19 1) V (ai_qi V (fun x42 S43 => ai_met (uM l D ρ τ) d mX6_push [.ref 0, .int 30, .int ((S2 15 (p1).toNatClampNeg) + 1)] (ai_up (ai_up S43 14 (p1).toNatClampNeg x42) 13 (p1).toNatClampNeg 14) V (ai_qv V (fun S45 => G S45)))))))))))) ∧ (x1 = 33 → ai_met (uM l D ρ τ) d mX6_fresh [.ref 0, .int 3] S7 V (ai_qi V (fun x46 S47 => ai_met (uM l D ρ τ) d mX6_push [.ref 0, .int 30, .int ((S2 15 (p1).toNatClampNeg) + 1)] (ai_up (ai_up S47 14 (p1).toNatClampNeg x46) 13 (p1).toNatClampNeg 11) V (ai_qv V (fun S49 => G S49))))))))))))))) :
    ai_met (uM l D ρ τ) (d + 1) mX6_openStatement [.ref 0, .int p1] S V (ai_qv V G) := by
  refine ai_mof plX6 (Nat.le_of_ble_eq_true rfl) (lv := [(0, .ref 0), (1, .int p1)]) rfl ?_
  refine ai_aload_n dX6_openStatement_0 rfl (j := 0) rfl ?_
  refine ai_callVi (As := []) (rest := []) dX6_openStatement_1 cvX6_107 rfl rfl rfl (Nat.le_of_ble_eq_true rfl) (ai_met.mi h (fun x1 S2 h => ?_))
  refine ai_istore_n (lv' := [(2, .int x1), (0, .ref 0), (1, .int p1)]) dX6_openStatement_4 rfl (by decide) rfl ?_
  refine ai_aload_n dX6_openStatement_5 rfl (j := 1) rfl ?_
  refine ai_getR dX6_openStatement_6 fdX6_52 rfl rfl ?_
  refine ai_iload_n dX6_openStatement_9 rfl (j := 2) rfl ?_
  refine ai_iald dX6_openStatement_10 rfl ⟨h.1, ?_⟩
  have hi3 := h.1
  have h := h.2
  refine ai_iconst (v := 1) dX6_openStatement_11 (by decide) ?_
  refine ai_iadd dX6_openStatement_12 ?_
  refine ai_istore_n (lv' := [(3, .int ((S2 15 (p1).toNatClampNeg) + 1)), (2, .int x1), (0, .ref 0), (1, .int p1)]) dX6_openStatement_13 rfl (by decide) rfl ?_
  refine ai_aload_n dX6_openStatement_14 rfl (j := 2) rfl ?_
  refine ai_iload_n dX6_openStatement_15 rfl (j := 3) rfl ?_
  refine ai_callVv (As := [.int p1]) (rest := []) dX6_openStatement_16 cvX6_148 rfl rfl rfl (Nat.le_of_ble_eq_true rfl) (ai_met.mv h (fun S5 h => ?_))
  refine ai_aload_n dX6_openStatement_19 rfl (j := 2) rfl ?_
  refine ai_dup dX6_openStatement_20 rfl ?_
  refine ai_getI dX6_openStatement_21 fdX6_152 rfl rfl ?_
  refine ai_iconst (v := 1) dX6_openStatement_24 (by decide) ?_
  refine ai_iadd dX6_openStatement_25 ?_
  refine ai_putI dX6_openStatement_26 fdX6_152 pdX6_23 rfl rfl rfl rfl ?_
  refine ai_aload_n dX6_openStatement_29 rfl (j := 2) rfl ?_
  refine ai_dup dX6_openStatement_30 rfl ?_
  refine ai_getIx (S5 0 2) dX6_openStatement_31 fdX6_104 rfl rfl rfl ?_
  refine ai_iconst (v := 1) dX6_openStatement_34 (by decide) ?_
  refine ai_iadd dX6_openStatement_35 ?_
  refine ai_putI dX6_openStatement_36 fdX6_104 pdX6_2 rfl rfl rfl rfl ?_
  refine ai_aload_n dX6_openStatement_39 rfl (j := 2) rfl ?_
  refine ai_iload_n dX6_openStatement_40 rfl (j := 1) rfl ?_
  refine ai_callVz (As := [.int x1]) (rest := []) dX6_openStatement_41 cvX6_155 rfl rfl rfl (Nat.le_of_ble_eq_true rfl) (ai_met.mz h (fun S7 h => ?_) (fun S7 h => ?_))
  · show ai_W _ _ _ _ _ _ _ _ _
    refine ai_if_eq (tgt := 126) dX6_openStatement_44 (by decide) ⟨fun hc => absurd hc (by decide), fun _ => ?_⟩
    refine ai_aload_n dX6_openStatement_47 rfl (j := 2) rfl ?_
    refine ai_bipush (v := 61) dX6_openStatement_48 (by decide) ?_
    refine ai_callVz (As := [.int 61]) (rest := []) dX6_openStatement_50 cvX6_159 rfl rfl rfl (Nat.le_of_ble_eq_true rfl) (ai_met.mz h (fun S9 h => ?_) (fun S9 h => ?_))
    · show ai_W _ _ _ _ _ _ _ _ _
      refine ai_if_eq (tgt := 86) dX6_openStatement_53 (by decide) ⟨fun hc => absurd hc (by decide), fun _ => ?_⟩
      refine ai_aload_n dX6_openStatement_56 rfl (j := 2) rfl ?_
      refine ai_getR dX6_openStatement_57 fdX6_49 rfl rfl ?_
      refine ai_iload_n dX6_openStatement_60 rfl (j := 3) rfl ?_
      refine ai_aload_n dX6_openStatement_61 rfl (j := 2) rfl ?_
      refine ai_iconst (v := 1) dX6_openStatement_62 (by decide) ?_
      refine ai_iload_n dX6_openStatement_63 rfl (j := 1) rfl ?_
      refine ai_callVi (As := [.int 1, .int x1]) (rest := [.int p1, .ref 14]) dX6_openStatement_64 cvX6_162 rfl rfl rfl (Nat.le_of_ble_eq_true rfl) (ai_met.mi h (fun x10 S11 h => ?_))
      refine ai_iast dX6_openStatement_67 rfl ⟨hi3, ?_⟩
      refine ai_aload_n dX6_openStatement_68 rfl (j := 2) rfl ?_
      refine ai_getR dX6_openStatement_69 fdX6_46 rfl rfl ?_
      refine ai_iload_n dX6_openStatement_72 rfl (j := 3) rfl ?_
      refine ai_bipush (v := 11) dX6_openStatement_73 (by decide) ?_
      refine ai_iast dX6_openStatement_75 rfl ⟨hi3, ?_⟩
      refine ai_aload_n dX6_openStatement_76 rfl (j := 2) rfl ?_
      refine ai_bipush (v := 30) dX6_openStatement_77 (by decide) ?_
      refine ai_iload_n dX6_openStatement_79 rfl (j := 0) rfl ?_
      refine ai_callVv (As := [.int 30, .int ((S2 15 (p1).toNatClampNeg) + 1)]) (rest := []) dX6_openStatement_80 cvX6_166 rfl rfl rfl (Nat.le_of_ble_eq_true rfl) (ai_met.mv h (fun S13 h => ?_))
      refine ai_goto (tgt := 266) dX6_openStatement_83 (by decide) ?_
      exact ai_retv dX6_openStatement_266 rfl h
    · show ai_W _ _ _ _ _ _ _ _ _
      refine ai_if_eq (tgt := 86) dX6_openStatement_53 (by decide) ⟨fun _ => ?_, fun hc => absurd hc (by decide)⟩
      refine ai_aload_n dX6_openStatement_86 rfl (j := 2) rfl ?_
      refine ai_bipush (v := 40) dX6_openStatement_87 (by decide) ?_
      refine ai_callVz (As := [.int 40]) (rest := []) dX6_openStatement_89 cvX6_159 rfl rfl rfl (Nat.le_of_ble_eq_true rfl) (ai_met.mz h (fun S15 h => ?_) (fun S15 h => ?_))
      · show ai_W _ _ _ _ _ _ _ _ _
        refine ai_if_eq (tgt := 118) dX6_openStatement_92 (by decide) ⟨fun hc => absurd hc (by decide), fun _ => ?_⟩
        refine ai_aload_n dX6_openStatement_95 rfl (j := 2) rfl ?_
        refine ai_getR dX6_openStatement_96 fdX6_49 rfl rfl ?_
        refine ai_iload_n dX6_openStatement_99 rfl (j := 3) rfl ?_
        refine ai_aload_n dX6_openStatement_100 rfl (j := 2) rfl ?_
        refine ai_iconst (v := 2) dX6_openStatement_101 (by decide) ?_
        refine ai_iload_n dX6_openStatement_102 rfl (j := 1) rfl ?_
        refine ai_callVi (As := [.int 2, .int x1]) (rest := [.int p1, .ref 14]) dX6_openStatement_103 cvX6_162 rfl rfl rfl (Nat.le_of_ble_eq_true rfl) (ai_met.mi h (fun x16 S17 h => ?_))
        refine ai_iast dX6_openStatement_106 rfl ⟨hi3, ?_⟩
        refine ai_aload_n dX6_openStatement_107 rfl (j := 2) rfl ?_
        refine ai_iload_n dX6_openStatement_108 rfl (j := 3) rfl ?_
        refine ai_bipush (v := 12) dX6_openStatement_109 (by decide) ?_
        refine ai_iload_n dX6_openStatement_111 rfl (j := 0) rfl ?_
        refine ai_callVv (As := [.int p1, .int 12, .int ((S2 15 (p1).toNatClampNeg) + 1)]) (rest := []) dX6_openStatement_112 cvX6_170 rfl rfl rfl (Nat.le_of_ble_eq_true rfl) (ai_met.mv h (fun S19 h => ?_))
        refine ai_goto (tgt := 266) dX6_openStatement_115 (by decide) ?_
        exact ai_retv dX6_openStatement_266 rfl h
      · show ai_W _ _ _ _ _ _ _ _ _
        refine ai_if_eq (tgt := 118) dX6_openStatement_92 (by decide) ⟨fun _ => ?_, fun hc => absurd hc (by decide)⟩
        refine ai_aload_n dX6_openStatement_118 rfl (j := 2) rfl ?_
        refine ai_iconst (v := 1) dX6_openStatement_119 (by decide) ?_
        refine ai_putI dX6_openStatement_120 fdX6_124 pdX6_19 rfl rfl rfl rfl ?_
        refine ai_goto (tgt := 266) dX6_openStatement_123 (by decide) ?_
        exact ai_retv dX6_openStatement_266 rfl h
  · show ai_W _ _ _ _ _ _ _ _ _
    refine ai_if_eq (tgt := 126) dX6_openStatement_44 (by decide) ⟨fun _ => ?_, fun hc => absurd hc (by decide)⟩
    refine ai_iload_n dX6_openStatement_126 rfl (j := 1) rfl ?_
    refine ai_bipush (v := 33) dX6_openStatement_127 (by decide) ?_
    refine ai_icmp_ne (tgt := 161) dX6_openStatement_129 (by decide) ⟨fun (hc20 : ¬ x1 = 33) => ?_, fun (hc20 : x1 = 33) => ?_⟩
    · have h := h.1 hc20
      refine ai_iload_n dX6_openStatement_161 rfl (j := 1) rfl ?_
      refine ai_bipush (v := 63) dX6_openStatement_162 (by decide) ?_
      refine ai_icmp_eq (tgt := 173) dX6_openStatement_164 (by decide) ⟨fun (hc21 : x1 = 63) => ?_, fun (hc21 : ¬ x1 = 63) => ?_⟩
      · have h := h.1 hc21
        refine ai_aload_n dX6_openStatement_173 rfl (j := 2) rfl ?_
        refine ai_aload_n dX6_openStatement_174 rfl (j := 2) rfl ?_
        refine ai_bipush (v := 40) dX6_openStatement_175 (by decide) ?_
        refine ai_callVz (As := [.int 40]) (rest := [.ref 0]) dX6_openStatement_177 cvX6_159 rfl rfl rfl (Nat.le_of_ble_eq_true rfl) (ai_met.mz h (fun S23 h => ?_) (fun S23 h => ?_))
        · show ai_W _ _ _ _ _ _ _ _ _
          refine ai_callVv (As := [.int 1]) (rest := []) dX6_openStatement_180 cvX6_141 rfl rfl rfl (Nat.le_of_ble_eq_true rfl) (vX6_need ?_)
          refine ⟨fun _ => ?_, fun hc => absurd hc (by decide)⟩
          show ai_W _ _ _ _ _ _ S23 _ _
          refine ai_aload_n dX6_openStatement_183 rfl (j := 2) rfl ?_
          refine ai_getR dX6_openStatement_184 fdX6_49 rfl rfl ?_
          refine ai_iload_n dX6_openStatement_187 rfl (j := 3) rfl ?_
          refine ai_aload_n dX6_openStatement_188 rfl (j := 2) rfl ?_
          refine ai_iload_n dX6_openStatement_189 rfl (j := 1) rfl ?_
          refine ai_bipush (v := 63) dX6_openStatement_190 (by decide) ?_
          refine ai_icmp_ne (tgt := 199) dX6_openStatement_192 (by decide) ⟨fun hc => absurd hc21 hc, fun _ => ?_⟩
          refine ai_iconst (v := 4) dX6_openStatement_195 (by decide) ?_
          refine ai_goto (tgt := 200) dX6_openStatement_196 (by decide) ?_
          refine ai_callVi (As := [.int 4]) (rest := [.int p1, .ref 14]) dX6_openStatement_200 cvX6_137 rfl rfl rfl (Nat.le_of_ble_eq_true rfl) (ai_met.mi h (fun x24 S25 h => ?_))
          refine ai_iast dX6_openStatement_203 rfl ⟨hi3, ?_⟩
          refine ai_aload_n dX6_openStatement_204 rfl (j := 2) rfl ?_
          refine ai_getR dX6_openStatement_205 fdX6_46 rfl rfl ?_
          refine ai_iload_n dX6_openStatement_208 rfl (j := 3) rfl ?_
          refine ai_bipush (v := 14) dX6_openStatement_209 (by decide) ?_
          refine ai_iast dX6_openStatement_211 rfl ⟨hi3, ?_⟩
          refine ai_aload_n dX6_openStatement_212 rfl (j := 2) rfl ?_
          refine ai_bipush (v := 30) dX6_openStatement_213 (by decide) ?_
          refine ai_iload_n dX6_openStatement_215 rfl (j := 0) rfl ?_
          refine ai_callVv (As := [.int 30, .int ((S2 15 (p1).toNatClampNeg) + 1)]) (rest := []) dX6_openStatement_216 cvX6_166 rfl rfl rfl (Nat.le_of_ble_eq_true rfl) (ai_met.mv h (fun S27 h => ?_))
          refine ai_goto (tgt := 266) dX6_openStatement_219 (by decide) ?_
          exact ai_retv dX6_openStatement_266 rfl h
        · show ai_W _ _ _ _ _ _ _ _ _
          refine ai_callVv (As := [.int 0]) (rest := []) dX6_openStatement_180 cvX6_141 rfl rfl rfl (Nat.le_of_ble_eq_true rfl) (vX6_need ?_)
          refine ⟨fun hc => absurd hc (by decide), fun _ => ?_⟩
          show ai_W _ _ _ _ _ _ (ai_up S23 0 19 1) _ _
          refine ai_aload_n dX6_openStatement_183 rfl (j := 2) rfl ?_
          refine ai_getR dX6_openStatement_184 fdX6_49 rfl rfl ?_
          refine ai_iload_n dX6_openStatement_187 rfl (j := 3) rfl ?_
          refine ai_aload_n dX6_openStatement_188 rfl (j := 2) rfl ?_
          refine ai_iload_n dX6_openStatement_189 rfl (j := 1) rfl ?_
          refine ai_bipush (v := 63) dX6_openStatement_190 (by decide) ?_
          refine ai_icmp_ne (tgt := 199) dX6_openStatement_192 (by decide) ⟨fun hc => absurd hc21 hc, fun _ => ?_⟩
          refine ai_iconst (v := 4) dX6_openStatement_195 (by decide) ?_
          refine ai_goto (tgt := 200) dX6_openStatement_196 (by decide) ?_
          refine ai_callVi (As := [.int 4]) (rest := [.int p1, .ref 14]) dX6_openStatement_200 cvX6_137 rfl rfl rfl (Nat.le_of_ble_eq_true rfl) (ai_met.mi h (fun x28 S29 h => ?_))
          refine ai_iast dX6_openStatement_203 rfl ⟨hi3, ?_⟩
          refine ai_aload_n dX6_openStatement_204 rfl (j := 2) rfl ?_
          refine ai_getR dX6_openStatement_205 fdX6_46 rfl rfl ?_
          refine ai_iload_n dX6_openStatement_208 rfl (j := 3) rfl ?_
          refine ai_bipush (v := 14) dX6_openStatement_209 (by decide) ?_
          refine ai_iast dX6_openStatement_211 rfl ⟨hi3, ?_⟩
          refine ai_aload_n dX6_openStatement_212 rfl (j := 2) rfl ?_
          refine ai_bipush (v := 30) dX6_openStatement_213 (by decide) ?_
          refine ai_iload_n dX6_openStatement_215 rfl (j := 0) rfl ?_
          refine ai_callVv (As := [.int 30, .int ((S2 15 (p1).toNatClampNeg) + 1)]) (rest := []) dX6_openStatement_216 cvX6_166 rfl rfl rfl (Nat.le_of_ble_eq_true rfl) (ai_met.mv h (fun S31 h => ?_))
          refine ai_goto (tgt := 266) dX6_openStatement_219 (by decide) ?_
          exact ai_retv dX6_openStatement_266 rfl h
      · have h := h.2 hc21
        refine ai_iload_n dX6_openStatement_167 rfl (j := 1) rfl ?_
        refine ai_bipush (v := 42) dX6_openStatement_168 (by decide) ?_
        refine ai_icmp_ne (tgt := 222) dX6_openStatement_170 (by decide) ⟨fun (hc32 : ¬ x1 = 42) => ?_, fun (hc32 : x1 = 42) => ?_⟩
        · have h := h.1 hc32
          refine ai_iload_n dX6_openStatement_222 rfl (j := 1) rfl ?_
          refine ai_bipush (v := 123) dX6_openStatement_223 (by decide) ?_
          refine ai_icmp_ne (tgt := 261) dX6_openStatement_225 (by decide) ⟨fun (hc33 : ¬ x1 = 123) => ?_, fun (hc33 : x1 = 123) => ?_⟩
          · have h := h.1 hc33
            refine ai_aload_n dX6_openStatement_261 rfl (j := 2) rfl ?_
            refine ai_iconst (v := 1) dX6_openStatement_262 (by decide) ?_
            refine ai_putI dX6_openStatement_263 fdX6_124 pdX6_19 rfl rfl rfl rfl ?_
            exact ai_retv dX6_openStatement_266 rfl h
          · have h := h.2 hc33
            refine ai_aload_n dX6_openStatement_228 rfl (j := 2) rfl ?_
            refine ai_getR dX6_openStatement_229 fdX6_49 rfl rfl ?_
            refine ai_iload_n dX6_openStatement_232 rfl (j := 3) rfl ?_
            refine ai_aload_n dX6_openStatement_233 rfl (j := 2) rfl ?_
            refine ai_bipush (v := 6) dX6_openStatement_234 (by decide) ?_
            refine ai_callVi (As := [.int 6]) (rest := [.int p1, .ref 14]) dX6_openStatement_236 cvX6_137 rfl rfl rfl (Nat.le_of_ble_eq_true rfl) (ai_met.mi h (fun x34 S35 h => ?_))
            refine ai_iast dX6_openStatement_239 rfl ⟨hi3, ?_⟩
            refine ai_aload_n dX6_openStatement_240 rfl (j := 2) rfl ?_
            refine ai_dup dX6_openStatement_241 rfl ?_
            refine ai_getIx (S35 0 37) dX6_openStatement_242 fdX6_131 rfl rfl rfl ?_
            refine ai_iconst (v := 1) dX6_openStatement_245 (by decide) ?_
            refine ai_iadd dX6_openStatement_246 ?_
            refine ai_putI dX6_openStatement_247 fdX6_131 pdX6_37 rfl rfl rfl rfl ?_
            refine ai_aload_n dX6_openStatement_250 rfl (j := 2) rfl ?_
            refine ai_getR dX6_openStatement_251 fdX6_46 rfl rfl ?_
            refine ai_iload_n dX6_openStatement_254 rfl (j := 3) rfl ?_
            refine ai_bipush (v := 19) dX6_openStatement_255 (by decide) ?_
            refine ai_iast dX6_openStatement_257 rfl ⟨hi3, ?_⟩
            refine ai_goto (tgt := 266) dX6_openStatement_258 (by decide) ?_
            exact ai_retv dX6_openStatement_266 rfl h
        · have h := h.2 hc32
          refine ai_aload_n dX6_openStatement_173 rfl (j := 2) rfl ?_
          refine ai_aload_n dX6_openStatement_174 rfl (j := 2) rfl ?_
          refine ai_bipush (v := 40) dX6_openStatement_175 (by decide) ?_
          refine ai_callVz (As := [.int 40]) (rest := [.ref 0]) dX6_openStatement_177 cvX6_159 rfl rfl rfl (Nat.le_of_ble_eq_true rfl) (ai_met.mz h (fun S37 h => ?_) (fun S37 h => ?_))
          · show ai_W _ _ _ _ _ _ _ _ _
            refine ai_callVv (As := [.int 1]) (rest := []) dX6_openStatement_180 cvX6_141 rfl rfl rfl (Nat.le_of_ble_eq_true rfl) (vX6_need ?_)
            refine ⟨fun _ => ?_, fun hc => absurd hc (by decide)⟩
            show ai_W _ _ _ _ _ _ S37 _ _
            refine ai_aload_n dX6_openStatement_183 rfl (j := 2) rfl ?_
            refine ai_getR dX6_openStatement_184 fdX6_49 rfl rfl ?_
            refine ai_iload_n dX6_openStatement_187 rfl (j := 3) rfl ?_
            refine ai_aload_n dX6_openStatement_188 rfl (j := 2) rfl ?_
            refine ai_iload_n dX6_openStatement_189 rfl (j := 1) rfl ?_
            refine ai_bipush (v := 63) dX6_openStatement_190 (by decide) ?_
            refine ai_icmp_ne (tgt := 199) dX6_openStatement_192 (by decide) ⟨fun _ => ?_, fun hc => absurd hc hc21⟩
            refine ai_iconst (v := 5) dX6_openStatement_199 (by decide) ?_
            refine ai_callVi (As := [.int 5]) (rest := [.int p1, .ref 14]) dX6_openStatement_200 cvX6_137 rfl rfl rfl (Nat.le_of_ble_eq_true rfl) (ai_met.mi h (fun x38 S39 h => ?_))
            refine ai_iast dX6_openStatement_203 rfl ⟨hi3, ?_⟩
            refine ai_aload_n dX6_openStatement_204 rfl (j := 2) rfl ?_
            refine ai_getR dX6_openStatement_205 fdX6_46 rfl rfl ?_
            refine ai_iload_n dX6_openStatement_208 rfl (j := 3) rfl ?_
            refine ai_bipush (v := 14) dX6_openStatement_209 (by decide) ?_
            refine ai_iast dX6_openStatement_211 rfl ⟨hi3, ?_⟩
            refine ai_aload_n dX6_openStatement_212 rfl (j := 2) rfl ?_
            refine ai_bipush (v := 30) dX6_openStatement_213 (by decide) ?_
            refine ai_iload_n dX6_openStatement_215 rfl (j := 0) rfl ?_
            refine ai_callVv (As := [.int 30, .int ((S2 15 (p1).toNatClampNeg) + 1)]) (rest := []) dX6_openStatement_216 cvX6_166 rfl rfl rfl (Nat.le_of_ble_eq_true rfl) (ai_met.mv h (fun S41 h => ?_))
            refine ai_goto (tgt := 266) dX6_openStatement_219 (by decide) ?_
            exact ai_retv dX6_openStatement_266 rfl h
          · show ai_W _ _ _ _ _ _ _ _ _
            refine ai_callVv (As := [.int 0]) (rest := []) dX6_openStatement_180 cvX6_141 rfl rfl rfl (Nat.le_of_ble_eq_true rfl) (vX6_need ?_)
            refine ⟨fun hc => absurd hc (by decide), fun _ => ?_⟩
            show ai_W _ _ _ _ _ _ (ai_up S37 0 19 1) _ _
            refine ai_aload_n dX6_openStatement_183 rfl (j := 2) rfl ?_
            refine ai_getR dX6_openStatement_184 fdX6_49 rfl rfl ?_
            refine ai_iload_n dX6_openStatement_187 rfl (j := 3) rfl ?_
            refine ai_aload_n dX6_openStatement_188 rfl (j := 2) rfl ?_
            refine ai_iload_n dX6_openStatement_189 rfl (j := 1) rfl ?_
            refine ai_bipush (v := 63) dX6_openStatement_190 (by decide) ?_
            refine ai_icmp_ne (tgt := 199) dX6_openStatement_192 (by decide) ⟨fun _ => ?_, fun hc => absurd hc hc21⟩
            refine ai_iconst (v := 5) dX6_openStatement_199 (by decide) ?_
            refine ai_callVi (As := [.int 5]) (rest := [.int p1, .ref 14]) dX6_openStatement_200 cvX6_137 rfl rfl rfl (Nat.le_of_ble_eq_true rfl) (ai_met.mi h (fun x42 S43 h => ?_))
            refine ai_iast dX6_openStatement_203 rfl ⟨hi3, ?_⟩
            refine ai_aload_n dX6_openStatement_204 rfl (j := 2) rfl ?_
            refine ai_getR dX6_openStatement_205 fdX6_46 rfl rfl ?_
            refine ai_iload_n dX6_openStatement_208 rfl (j := 3) rfl ?_
            refine ai_bipush (v := 14) dX6_openStatement_209 (by decide) ?_
            refine ai_iast dX6_openStatement_211 rfl ⟨hi3, ?_⟩
            refine ai_aload_n dX6_openStatement_212 rfl (j := 2) rfl ?_
            refine ai_bipush (v := 30) dX6_openStatement_213 (by decide) ?_
            refine ai_iload_n dX6_openStatement_215 rfl (j := 0) rfl ?_
            refine ai_callVv (As := [.int 30, .int ((S2 15 (p1).toNatClampNeg) + 1)]) (rest := []) dX6_openStatement_216 cvX6_166 rfl rfl rfl (Nat.le_of_ble_eq_true rfl) (ai_met.mv h (fun S45 h => ?_))
            refine ai_goto (tgt := 266) dX6_openStatement_219 (by decide) ?_
            exact ai_retv dX6_openStatement_266 rfl h
    · have h := h.2 hc20
      refine ai_aload_n dX6_openStatement_132 rfl (j := 2) rfl ?_
      refine ai_getR dX6_openStatement_133 fdX6_49 rfl rfl ?_
      refine ai_iload_n dX6_openStatement_136 rfl (j := 3) rfl ?_
      refine ai_aload_n dX6_openStatement_137 rfl (j := 2) rfl ?_
      refine ai_iconst (v := 3) dX6_openStatement_138 (by decide) ?_
      refine ai_callVi (As := [.int 3]) (rest := [.int p1, .ref 14]) dX6_openStatement_139 cvX6_137 rfl rfl rfl (Nat.le_of_ble_eq_true rfl) (ai_met.mi h (fun x46 S47 h => ?_))
      refine ai_iast dX6_openStatement_142 rfl ⟨hi3, ?_⟩
      refine ai_aload_n dX6_openStatement_143 rfl (j := 2) rfl ?_
      refine ai_getR dX6_openStatement_144 fdX6_46 rfl rfl ?_
      refine ai_iload_n dX6_openStatement_147 rfl (j := 3) rfl ?_
      refine ai_bipush (v := 11) dX6_openStatement_148 (by decide) ?_
      refine ai_iast dX6_openStatement_150 rfl ⟨hi3, ?_⟩
      refine ai_aload_n dX6_openStatement_151 rfl (j := 2) rfl ?_
      refine ai_bipush (v := 30) dX6_openStatement_152 (by decide) ?_
      refine ai_iload_n dX6_openStatement_154 rfl (j := 0) rfl ?_
      refine ai_callVv (As := [.int 30, .int ((S2 15 (p1).toNatClampNeg) + 1)]) (rest := []) dX6_openStatement_155 cvX6_166 rfl rfl rfl (Nat.le_of_ble_eq_true rfl) (ai_met.mv h (fun S49 h => ?_))
      refine ai_goto (tgt := 266) dX6_openStatement_158 (by decide) ?_
      exact ai_retv dX6_openStatement_266 rfl h
set_option maxHeartbeats 4000000 in
set_option maxRecDepth 100000 in
theorem vX6_onward {p1 : Int32} {S : ai_S} {V : ai_V} {G : ai_S → Prop}
    (h : (vp_in p1 80 ∧ (((S 13 (p1).toNatClampNeg) = 11 → ai_met (uM l D ρ τ) d mX6_add [.ref 0, .int p1] S V (ai_qv V (fun S4 => ai_met (uM l D ρ τ) d mX6_eat [.ref 0, .int 59] S4 V (ai_qz V (fun b5 S6 => (b5 = true → ai_met (uM l D ρ τ) d mX6_done [.ref 0, .int (S6 14 (p1).toNatClampNeg)] S6 V (ai_qv V (fun S8 => G S8))) ∧ (b5 = false → ai_met (uM l D ρ τ) d mX6_done [.ref 0, .int (S6 14 (p1).toNatClampNeg)] (ai_up S6 0 19 1) V (ai_qv V (fun S10 => G S10)))))))) ∧ ((S 13 (p1).toNatClampNeg) = 12 → ai_met (uM l D ρ τ) d mX6_add [.ref 0, .int p1] S V (ai_qv V (fun S13 => (vp_in (S13 0 31) 700 ∧ ai_met (uM l D ρ τ) d mX6_eat [.ref 0, .int 44] (ai_up (ai_up S13 8 ((S13 0 31)).toNatClampNeg (S13 17 (p1).toNatClampNeg)) 17 (p1).toNatClampNeg ((S13 17 (p1).toNatClampNeg) + 1)) V (ai_qz V (fun b15 S16 => (b15 = true → ((6 ≤ (S16 17 (p1).toNatClampNeg) → ai_met (uM l D ρ τ) d mX6_push [.ref 0, .int 30, .int ((S 15 (p1).toNatClampNeg) + 1)] (ai_up S16 0 19 1) V (ai_qv V (fun S19 => G S19))) ∧ (¬ 6 ≤ (S16 17 (p1).toNatClampNeg) → ai_met (uM l D ρ τ) d mX6_push [.ref 0, .int 30, .int ((S 15 (p1).toNatClampNeg) + 1)] S16 V (ai_qv V (fun S21 => G S21))))) ∧ (b15 = false → ai_met (uM l D ρ τ) d mX6_eat [.ref 0, .int 41] S16 V (ai_qz V (fun b22 S23 => (b22 = true → ai_met (uM l D ρ τ) d mX6_closeList [.ref 0, .int p1] S23 V (ai_qv V (fun S25 => G S25))) ∧ (b22 = false → ai_met (uM l D ρ τ) d mX6_closeList [.ref 0, .int p1] (ai_up S23 0 19 1) V (ai_qv V (fun S27 => G S27)))))))))))) ∧ ((S 13 (p1).toNatClampNeg) = 14 → ai_met (uM l D ρ τ) d mX6_add [.ref 0, .int p1] S V (ai_qv V (fun S30 => ai_met (uM l D ρ τ) d mX6_eat [.ref 0, .int 41] S30 V (ai_qz V (fun b31 S32 => (b31 = true → (vp_in (S32 14 (p1).toNatClampNeg) 700 ∧ ((¬ (S32 2 ((S32 14 (p1).toNatClampNeg)).toNatClampNeg) = 4 → ai_met (uM l D ρ τ) d mX6_push [.ref 0, .int 10, .int ((S 15 (p1).toNatClampNeg) + 1)] (ai_up S32 13 (p1).toNatClampNeg 16) V (ai_qv V (fun S36 => G S36))) ∧ ((S32 2 ((S32 14 (p1).toNatClampNeg)).toNatClampNeg) = 4 → ai_met (uM l D ρ τ) d mX6_push [.ref 0, .int 10, .int ((S 15 (p1).toNatClampNeg) + 1)] (ai_up S32 13 (p1).toNatClampNeg 15) V (ai_qv V (fun S38 => G S38)))))) ∧ (b31 = false → (vp_in (S32 14 (p1).toNatClampNeg) 700 ∧ ((¬ (S32 2 ((S32 14 (p1).toNatClampNeg)).toNatClampNeg) = 4 → ai_met (uM l D ρ τ) d mX6_push [.ref 0, .int 10, .int ((S 15 (p1).toNatClampNeg) + 1)] (ai_up (ai_up S32 0 19 1) 13 (p1).toNatClampNeg 16) V (ai_qv V (fun S42 => G S42))) ∧ ((S32 2 ((S32 14 (p1).toNatClampNeg)).toNatClampNeg) = 4 → ai_met (uM l D ρ τ) d mX6_push [.ref 0, .int 10, .int ((S 15 (p1).toNatClampNeg) + 1)] (ai_up (ai_up S32 0 19 1) 13 (p1).toNatClampNeg 15) V (ai_qv V (fun S44 => G S44))))))))))) ∧ ((S 13 (p1).toNatClampNeg) = 15 → ai_met (uM l D ρ τ) d mX6_add [.ref 0, .int p1] S V (ai_qv V (fun S47 => ai_met (uM l D ρ τ) d mX6_push [.ref 0, .int 10, .int ((S 15 (p1).toNatClampNeg) + 1)] (ai_up S47 13 (p1).toNatClampNeg 16) V (ai_qv V (fun S49 => G S49))))) ∧ ((S 13 (p1).toNatClampNeg) = 16 → ai_met (uM l D ρ τ) d mX6_add [.ref 0, .int p1] S V (ai_qv V (fun S52 => ai_met (uM l D ρ τ) d mX6_done [.ref 0, .int (S52 14 (p1).toNatClampNeg)] S52 V (ai_qv V (fun S54 => G S54))))) ∧ ((S 13 (p1).toNatClampNeg) = 40 → ai_met (uM l D ρ τ) d mX6_add [.ref 0, .int p1] S V (ai_qv V (fun S57 => (vp_in (S57 0 31) 700 ∧ ai_met (uM l D ρ τ) d mX6_eat [.ref 0, .int 44] (ai_up (ai_up S57 8 ((S57 0 31)).toNatClampNeg (S57 17 (p1).toNatClampNeg)) 17 (p1).toNatClampNeg ((S57 17 (p1).toNatClampNeg) + 1)) V (ai_qz V (fun b59 S60 => (b59 = true → ((6 ≤ (S60 17 (p1).toNatClampNeg) → ai_met (uM l D ρ τ) d mX6_push [.ref 0, .int 30, .int ((S 15 (p1).toNatClampNeg) + 1)] (ai_up S60 0 19 1) V (ai_qv V (fun S63 => G S63))) ∧ (¬ 6 ≤ (S60 17 (p1).toNatClampNeg) → ai_met (uM l D ρ τ) d mX6_push [.ref 0, .int 30, .int ((S 15 (p1).toNatClampNeg) + 1)] S60 V (ai_qv V (fun S65 => G S65))))) ∧ (b59 = false → ai_met (uM l D ρ τ) d mX6_eat [.ref 0, .int 41] S60 V (ai_qz V (fun b66 S67 => (b66 = true → ai_met (uM l D ρ τ) d mX6_closeList [.ref 0, .int p1] S67 V (ai_qv V (fun S69 => G S69))) ∧ (b66 = false → ai_met (uM l D ρ τ) d mX6_closeList [.ref 0, .int p1] (ai_up S67 0 19 1) V (ai_qv V (fun S71 => G S71)))))))))))) ∧ (¬ (S 13 (p1).toNatClampNeg) = 11 ∧ ¬ (S 13 (p1).toNatClampNeg) = 12 ∧ ¬ (S 13 (p1).toNatClampNeg) = 14 ∧ ¬ (S 13 (p1).toNatClampNeg) = 15 ∧ ¬ (S 13 (p1).toNatClampNeg) = 16 ∧ ¬ (S 13 (p1).toNatClampNeg) = 40 → ai_met (uM l D ρ τ) d mX6_block [.ref 0, .int p1, .int ((S 15 (p1).toNatClampNeg) + 1)] S V (ai_qv V (fun S73 => G S73)))))) :
    ai_met (uM l D ρ τ) (d + 1) mX6_onward [.ref 0, .int p1] S V (ai_qv V G) := by
  refine ai_mof plX6 (Nat.le_of_ble_eq_true rfl) (lv := [(0, .ref 0), (1, .int p1)]) rfl ?_
  refine ai_aload_n dX6_onward_0 rfl (j := 0) rfl ?_
  refine ai_getR dX6_onward_1 fdX6_52 rfl rfl ?_
  refine ai_iload_n dX6_onward_4 rfl (j := 1) rfl ?_
  refine ai_iald dX6_onward_5 rfl ⟨h.1, ?_⟩
  have hi1 := h.1
  have h := h.2
  refine ai_iconst (v := 1) dX6_onward_6 (by decide) ?_
  refine ai_iadd dX6_onward_7 ?_
  refine ai_istore_n (lv' := [(2, .int ((S 15 (p1).toNatClampNeg) + 1)), (0, .ref 0), (1, .int p1)]) dX6_onward_8 rfl (by decide) rfl ?_
  refine ai_aload_n dX6_onward_9 rfl (j := 1) rfl ?_
  refine ai_getR dX6_onward_10 fdX6_46 rfl rfl ?_
  refine ai_iload_n dX6_onward_13 rfl (j := 2) rfl ?_
  refine ai_iald dX6_onward_14 rfl ⟨hi1, ?_⟩
  by_cases hs2 : (S 13 (p1).toNatClampNeg) = 11
  · have h := h.1 hs2
    refine ai_look (off := 57) (tgt := 72) 11 dX6_onward_15 hs2 (by decide) (by decide) (by decide) ?_
    refine ai_aload_n dX6_onward_72 rfl (j := 1) rfl ?_
    refine ai_iload_n dX6_onward_73 rfl (j := 2) rfl ?_
    refine ai_callVv (As := [.int p1]) (rest := []) dX6_onward_74 cvX6_180 rfl rfl rfl (Nat.le_of_ble_eq_true rfl) (ai_met.mv h (fun S4 h => ?_))
    refine ai_aload_n dX6_onward_77 rfl (j := 1) rfl ?_
    refine ai_aload_n dX6_onward_78 rfl (j := 1) rfl ?_
    refine ai_bipush (v := 59) dX6_onward_79 (by decide) ?_
    refine ai_callVz (As := [.int 59]) (rest := [.ref 0]) dX6_onward_81 cvX6_159 rfl rfl rfl (Nat.le_of_ble_eq_true rfl) (ai_met.mz h (fun S6 h => ?_) (fun S6 h => ?_))
    · show ai_W _ _ _ _ _ _ _ _ _
      refine ai_callVv (As := [.int 1]) (rest := []) dX6_onward_84 cvX6_141 rfl rfl rfl (Nat.le_of_ble_eq_true rfl) (vX6_need ?_)
      refine ⟨fun _ => ?_, fun hc => absurd hc (by decide)⟩
      show ai_W _ _ _ _ _ _ S6 _ _
      refine ai_aload_n dX6_onward_87 rfl (j := 1) rfl ?_
      refine ai_aload_n dX6_onward_88 rfl (j := 1) rfl ?_
      refine ai_getR dX6_onward_89 fdX6_49 rfl rfl ?_
      refine ai_iload_n dX6_onward_92 rfl (j := 2) rfl ?_
      refine ai_iald dX6_onward_93 rfl ⟨hi1, ?_⟩
      refine ai_callVv (As := [.int (S6 14 (p1).toNatClampNeg)]) (rest := []) dX6_onward_94 cvX6_177 rfl rfl rfl (Nat.le_of_ble_eq_true rfl) (ai_met.mv h (fun S8 h => ?_))
      refine ai_goto (tgt := 287) dX6_onward_97 (by decide) ?_
      exact ai_retv dX6_onward_287 rfl h
    · show ai_W _ _ _ _ _ _ _ _ _
      refine ai_callVv (As := [.int 0]) (rest := []) dX6_onward_84 cvX6_141 rfl rfl rfl (Nat.le_of_ble_eq_true rfl) (vX6_need ?_)
      refine ⟨fun hc => absurd hc (by decide), fun _ => ?_⟩
      show ai_W _ _ _ _ _ _ (ai_up S6 0 19 1) _ _
      refine ai_aload_n dX6_onward_87 rfl (j := 1) rfl ?_
      refine ai_aload_n dX6_onward_88 rfl (j := 1) rfl ?_
      refine ai_getR dX6_onward_89 fdX6_49 rfl rfl ?_
      refine ai_iload_n dX6_onward_92 rfl (j := 2) rfl ?_
      refine ai_ialdx (S6 14 (p1).toNatClampNeg) dX6_onward_93 rfl rfl ⟨hi1, ?_⟩
      refine ai_callVv (As := [.int (S6 14 (p1).toNatClampNeg)]) (rest := []) dX6_onward_94 cvX6_177 rfl rfl rfl (Nat.le_of_ble_eq_true rfl) (ai_met.mv h (fun S10 h => ?_))
      refine ai_goto (tgt := 287) dX6_onward_97 (by decide) ?_
      exact ai_retv dX6_onward_287 rfl h
  by_cases hs11 : (S 13 (p1).toNatClampNeg) = 12
  · have h := h.2.1 hs11
    refine ai_look (off := 85) (tgt := 100) 12 dX6_onward_15 hs11 (by decide) (by decide) (by decide) ?_
    refine ai_aload_n dX6_onward_100 rfl (j := 1) rfl ?_
    refine ai_iload_n dX6_onward_101 rfl (j := 2) rfl ?_
    refine ai_callVv (As := [.int p1]) (rest := []) dX6_onward_102 cvX6_180 rfl rfl rfl (Nat.le_of_ble_eq_true rfl) (ai_met.mv h (fun S13 h => ?_))
    refine ai_aload_n dX6_onward_105 rfl (j := 1) rfl ?_
    refine ai_getR dX6_onward_106 fdX6_31 rfl rfl ?_
    refine ai_aload_n dX6_onward_109 rfl (j := 1) rfl ?_
    refine ai_getI dX6_onward_110 fdX6_121 rfl rfl ?_
    refine ai_aload_n dX6_onward_113 rfl (j := 1) rfl ?_
    refine ai_getR dX6_onward_114 fdX6_58 rfl rfl ?_
    refine ai_iload_n dX6_onward_117 rfl (j := 2) rfl ?_
    refine ai_iald dX6_onward_118 rfl ⟨hi1, ?_⟩
    refine ai_iast dX6_onward_119 rfl ⟨h.1, ?_⟩
    have hi14 := h.1
    have h := h.2
    refine ai_aload_n dX6_onward_120 rfl (j := 1) rfl ?_
    refine ai_getR dX6_onward_121 fdX6_58 rfl rfl ?_
    refine ai_iload_n dX6_onward_124 rfl (j := 2) rfl ?_
    refine ai_dup2 dX6_onward_125 rfl rfl ?_
    refine ai_ialdx (S13 17 (p1).toNatClampNeg) dX6_onward_126 rfl rfl ⟨hi1, ?_⟩
    refine ai_iconst (v := 1) dX6_onward_127 (by decide) ?_
    refine ai_iadd dX6_onward_128 ?_
    refine ai_iast dX6_onward_129 rfl ⟨hi1, ?_⟩
    refine ai_aload_n dX6_onward_130 rfl (j := 1) rfl ?_
    refine ai_bipush (v := 44) dX6_onward_131 (by decide) ?_
    refine ai_callVz (As := [.int 44]) (rest := []) dX6_onward_133 cvX6_159 rfl rfl rfl (Nat.le_of_ble_eq_true rfl) (ai_met.mz h (fun S16 h => ?_) (fun S16 h => ?_))
    · show ai_W _ _ _ _ _ _ _ _ _
      refine ai_if_eq (tgt := 169) dX6_onward_136 (by decide) ⟨fun hc => absurd hc (by decide), fun _ => ?_⟩
      refine ai_aload_n dX6_onward_139 rfl (j := 1) rfl ?_
      refine ai_aload_n dX6_onward_140 rfl (j := 1) rfl ?_
      refine ai_getR dX6_onward_141 fdX6_58 rfl rfl ?_
      refine ai_iload_n dX6_onward_144 rfl (j := 2) rfl ?_
      refine ai_iald dX6_onward_145 rfl ⟨hi1, ?_⟩
      refine ai_bipush (v := 6) dX6_onward_146 (by decide) ?_
      refine ai_icmp_ge (tgt := 155) dX6_onward_148 (by decide) ⟨fun (hc17 : 6 ≤ (S16 17 (p1).toNatClampNeg)) => ?_, fun (hc17 : ¬ 6 ≤ (S16 17 (p1).toNatClampNeg)) => ?_⟩
      · have h := h.1 hc17
        refine ai_iconst (v := 0) dX6_onward_155 (by decide) ?_
        refine ai_callVv (As := [.int 0]) (rest := []) dX6_onward_156 cvX6_141 rfl rfl rfl (Nat.le_of_ble_eq_true rfl) (vX6_need ?_)
        refine ⟨fun hc => absurd hc (by decide), fun _ => ?_⟩
        show ai_W _ _ _ _ _ _ (ai_up S16 0 19 1) _ _
        refine ai_aload_n dX6_onward_159 rfl (j := 1) rfl ?_
        refine ai_bipush (v := 30) dX6_onward_160 (by decide) ?_
        refine ai_iload_n dX6_onward_162 rfl (j := 0) rfl ?_
        refine ai_callVv (As := [.int 30, .int ((S 15 (p1).toNatClampNeg) + 1)]) (rest := []) dX6_onward_163 cvX6_166 rfl rfl rfl (Nat.le_of_ble_eq_true rfl) (ai_met.mv h (fun S19 h => ?_))
        refine ai_goto (tgt := 287) dX6_onward_166 (by decide) ?_
        exact ai_retv dX6_onward_287 rfl h
      · have h := h.2 hc17
        refine ai_iconst (v := 1) dX6_onward_151 (by decide) ?_
        refine ai_goto (tgt := 156) dX6_onward_152 (by decide) ?_
        refine ai_callVv (As := [.int 1]) (rest := []) dX6_onward_156 cvX6_141 rfl rfl rfl (Nat.le_of_ble_eq_true rfl) (vX6_need ?_)
        refine ⟨fun _ => ?_, fun hc => absurd hc (by decide)⟩
        show ai_W _ _ _ _ _ _ S16 _ _
        refine ai_aload_n dX6_onward_159 rfl (j := 1) rfl ?_
        refine ai_bipush (v := 30) dX6_onward_160 (by decide) ?_
        refine ai_iload_n dX6_onward_162 rfl (j := 0) rfl ?_
        refine ai_callVv (As := [.int 30, .int ((S 15 (p1).toNatClampNeg) + 1)]) (rest := []) dX6_onward_163 cvX6_166 rfl rfl rfl (Nat.le_of_ble_eq_true rfl) (ai_met.mv h (fun S21 h => ?_))
        refine ai_goto (tgt := 287) dX6_onward_166 (by decide) ?_
        exact ai_retv dX6_onward_287 rfl h
    · show ai_W _ _ _ _ _ _ _ _ _
      refine ai_if_eq (tgt := 169) dX6_onward_136 (by decide) ⟨fun _ => ?_, fun hc => absurd hc (by decide)⟩
      refine ai_aload_n dX6_onward_169 rfl (j := 1) rfl ?_
      refine ai_aload_n dX6_onward_170 rfl (j := 1) rfl ?_
      refine ai_bipush (v := 41) dX6_onward_171 (by decide) ?_
      refine ai_callVz (As := [.int 41]) (rest := [.ref 0]) dX6_onward_173 cvX6_159 rfl rfl rfl (Nat.le_of_ble_eq_true rfl) (ai_met.mz h (fun S23 h => ?_) (fun S23 h => ?_))
      · show ai_W _ _ _ _ _ _ _ _ _
        refine ai_callVv (As := [.int 1]) (rest := []) dX6_onward_176 cvX6_141 rfl rfl rfl (Nat.le_of_ble_eq_true rfl) (vX6_need ?_)
        refine ⟨fun _ => ?_, fun hc => absurd hc (by decide)⟩
        show ai_W _ _ _ _ _ _ S23 _ _
        refine ai_aload_n dX6_onward_179 rfl (j := 1) rfl ?_
        refine ai_iload_n dX6_onward_180 rfl (j := 2) rfl ?_
        refine ai_callVv (As := [.int p1]) (rest := []) dX6_onward_181 cvX6_174 rfl rfl rfl (Nat.le_of_ble_eq_true rfl) (ai_met.mv h (fun S25 h => ?_))
        refine ai_goto (tgt := 287) dX6_onward_184 (by decide) ?_
        exact ai_retv dX6_onward_287 rfl h
      · show ai_W _ _ _ _ _ _ _ _ _
        refine ai_callVv (As := [.int 0]) (rest := []) dX6_onward_176 cvX6_141 rfl rfl rfl (Nat.le_of_ble_eq_true rfl) (vX6_need ?_)
        refine ⟨fun hc => absurd hc (by decide), fun _ => ?_⟩
        show ai_W _ _ _ _ _ _ (ai_up S23 0 19 1) _ _
        refine ai_aload_n dX6_onward_179 rfl (j := 1) rfl ?_
        refine ai_iload_n dX6_onward_180 rfl (j := 2) rfl ?_
        refine ai_callVv (As := [.int p1]) (rest := []) dX6_onward_181 cvX6_174 rfl rfl rfl (Nat.le_of_ble_eq_true rfl) (ai_met.mv h (fun S27 h => ?_))
        refine ai_goto (tgt := 287) dX6_onward_184 (by decide) ?_
        exact ai_retv dX6_onward_287 rfl h
  by_cases hs28 : (S 13 (p1).toNatClampNeg) = 14
  · have h := h.2.2.1 hs28
    refine ai_look (off := 172) (tgt := 187) 14 dX6_onward_15 hs28 (by decide) (by decide) (by decide) ?_
    refine ai_aload_n dX6_onward_187 rfl (j := 1) rfl ?_
    refine ai_iload_n dX6_onward_188 rfl (j := 2) rfl ?_
    refine ai_callVv (As := [.int p1]) (rest := []) dX6_onward_189 cvX6_180 rfl rfl rfl (Nat.le_of_ble_eq_true rfl) (ai_met.mv h (fun S30 h => ?_))
    refine ai_aload_n dX6_onward_192 rfl (j := 1) rfl ?_
    refine ai_aload_n dX6_onward_193 rfl (j := 1) rfl ?_
    refine ai_bipush (v := 41) dX6_onward_194 (by decide) ?_
    refine ai_callVz (As := [.int 41]) (rest := [.ref 0]) dX6_onward_196 cvX6_159 rfl rfl rfl (Nat.le_of_ble_eq_true rfl) (ai_met.mz h (fun S32 h => ?_) (fun S32 h => ?_))
    · show ai_W _ _ _ _ _ _ _ _ _
      refine ai_callVv (As := [.int 1]) (rest := []) dX6_onward_199 cvX6_141 rfl rfl rfl (Nat.le_of_ble_eq_true rfl) (vX6_need ?_)
      refine ⟨fun _ => ?_, fun hc => absurd hc (by decide)⟩
      show ai_W _ _ _ _ _ _ S32 _ _
      refine ai_aload_n dX6_onward_202 rfl (j := 1) rfl ?_
      refine ai_getR dX6_onward_203 fdX6_46 rfl rfl ?_
      refine ai_iload_n dX6_onward_206 rfl (j := 2) rfl ?_
      refine ai_aload_n dX6_onward_207 rfl (j := 1) rfl ?_
      refine ai_getR dX6_onward_208 fdX6_13 rfl rfl ?_
      refine ai_aload_n dX6_onward_211 rfl (j := 1) rfl ?_
      refine ai_getR dX6_onward_212 fdX6_49 rfl rfl ?_
      refine ai_iload_n dX6_onward_215 rfl (j := 2) rfl ?_
      refine ai_iald dX6_onward_216 rfl ⟨hi1, ?_⟩
      refine ai_iald dX6_onward_217 rfl ⟨h.1, ?_⟩
      have hi33 := h.1
      have h := h.2
      refine ai_iconst (v := 4) dX6_onward_218 (by decide) ?_
      refine ai_icmp_ne (tgt := 227) dX6_onward_219 (by decide) ⟨fun (hc34 : ¬ (S32 2 ((S32 14 (p1).toNatClampNeg)).toNatClampNeg) = 4) => ?_, fun (hc34 : (S32 2 ((S32 14 (p1).toNatClampNeg)).toNatClampNeg) = 4) => ?_⟩
      · have h := h.1 hc34
        refine ai_bipush (v := 16) dX6_onward_227 (by decide) ?_
        refine ai_iast dX6_onward_229 rfl ⟨hi1, ?_⟩
        refine ai_aload_n dX6_onward_230 rfl (j := 1) rfl ?_
        refine ai_bipush (v := 10) dX6_onward_231 (by decide) ?_
        refine ai_iload_n dX6_onward_233 rfl (j := 0) rfl ?_
        refine ai_callVv (As := [.int 10, .int ((S 15 (p1).toNatClampNeg) + 1)]) (rest := []) dX6_onward_234 cvX6_166 rfl rfl rfl (Nat.le_of_ble_eq_true rfl) (ai_met.mv h (fun S36 h => ?_))
        refine ai_goto (tgt := 287) dX6_onward_237 (by decide) ?_
        exact ai_retv dX6_onward_287 rfl h
      · have h := h.2 hc34
        refine ai_bipush (v := 15) dX6_onward_222 (by decide) ?_
        refine ai_goto (tgt := 229) dX6_onward_224 (by decide) ?_
        refine ai_iast dX6_onward_229 rfl ⟨hi1, ?_⟩
        refine ai_aload_n dX6_onward_230 rfl (j := 1) rfl ?_
        refine ai_bipush (v := 10) dX6_onward_231 (by decide) ?_
        refine ai_iload_n dX6_onward_233 rfl (j := 0) rfl ?_
        refine ai_callVv (As := [.int 10, .int ((S 15 (p1).toNatClampNeg) + 1)]) (rest := []) dX6_onward_234 cvX6_166 rfl rfl rfl (Nat.le_of_ble_eq_true rfl) (ai_met.mv h (fun S38 h => ?_))
        refine ai_goto (tgt := 287) dX6_onward_237 (by decide) ?_
        exact ai_retv dX6_onward_287 rfl h
    · show ai_W _ _ _ _ _ _ _ _ _
      refine ai_callVv (As := [.int 0]) (rest := []) dX6_onward_199 cvX6_141 rfl rfl rfl (Nat.le_of_ble_eq_true rfl) (vX6_need ?_)
      refine ⟨fun hc => absurd hc (by decide), fun _ => ?_⟩
      show ai_W _ _ _ _ _ _ (ai_up S32 0 19 1) _ _
      refine ai_aload_n dX6_onward_202 rfl (j := 1) rfl ?_
      refine ai_getR dX6_onward_203 fdX6_46 rfl rfl ?_
      refine ai_iload_n dX6_onward_206 rfl (j := 2) rfl ?_
      refine ai_aload_n dX6_onward_207 rfl (j := 1) rfl ?_
      refine ai_getR dX6_onward_208 fdX6_13 rfl rfl ?_
      refine ai_aload_n dX6_onward_211 rfl (j := 1) rfl ?_
      refine ai_getR dX6_onward_212 fdX6_49 rfl rfl ?_
      refine ai_iload_n dX6_onward_215 rfl (j := 2) rfl ?_
      refine ai_ialdx (S32 14 (p1).toNatClampNeg) dX6_onward_216 rfl rfl ⟨hi1, ?_⟩
      refine ai_ialdx (S32 2 ((S32 14 (p1).toNatClampNeg)).toNatClampNeg) dX6_onward_217 rfl rfl ⟨h.1, ?_⟩
      have hi39 := h.1
      have h := h.2
      refine ai_iconst (v := 4) dX6_onward_218 (by decide) ?_
      refine ai_icmp_ne (tgt := 227) dX6_onward_219 (by decide) ⟨fun (hc40 : ¬ (S32 2 ((S32 14 (p1).toNatClampNeg)).toNatClampNeg) = 4) => ?_, fun (hc40 : (S32 2 ((S32 14 (p1).toNatClampNeg)).toNatClampNeg) = 4) => ?_⟩
      · have h := h.1 hc40
        refine ai_bipush (v := 16) dX6_onward_227 (by decide) ?_
        refine ai_iast dX6_onward_229 rfl ⟨hi1, ?_⟩
        refine ai_aload_n dX6_onward_230 rfl (j := 1) rfl ?_
        refine ai_bipush (v := 10) dX6_onward_231 (by decide) ?_
        refine ai_iload_n dX6_onward_233 rfl (j := 0) rfl ?_
        refine ai_callVv (As := [.int 10, .int ((S 15 (p1).toNatClampNeg) + 1)]) (rest := []) dX6_onward_234 cvX6_166 rfl rfl rfl (Nat.le_of_ble_eq_true rfl) (ai_met.mv h (fun S42 h => ?_))
        refine ai_goto (tgt := 287) dX6_onward_237 (by decide) ?_
        exact ai_retv dX6_onward_287 rfl h
      · have h := h.2 hc40
        refine ai_bipush (v := 15) dX6_onward_222 (by decide) ?_
        refine ai_goto (tgt := 229) dX6_onward_224 (by decide) ?_
        refine ai_iast dX6_onward_229 rfl ⟨hi1, ?_⟩
        refine ai_aload_n dX6_onward_230 rfl (j := 1) rfl ?_
        refine ai_bipush (v := 10) dX6_onward_231 (by decide) ?_
        refine ai_iload_n dX6_onward_233 rfl (j := 0) rfl ?_
        refine ai_callVv (As := [.int 10, .int ((S 15 (p1).toNatClampNeg) + 1)]) (rest := []) dX6_onward_234 cvX6_166 rfl rfl rfl (Nat.le_of_ble_eq_true rfl) (ai_met.mv h (fun S44 h => ?_))
        refine ai_goto (tgt := 287) dX6_onward_237 (by decide) ?_
        exact ai_retv dX6_onward_287 rfl h
  by_cases hs45 : (S 13 (p1).toNatClampNeg) = 15
  · have h := h.2.2.2.1 hs45
    refine ai_look (off := 225) (tgt := 240) 15 dX6_onward_15 hs45 (by decide) (by decide) (by decide) ?_
    refine ai_aload_n dX6_onward_240 rfl (j := 1) rfl ?_
    refine ai_iload_n dX6_onward_241 rfl (j := 2) rfl ?_
    refine ai_callVv (As := [.int p1]) (rest := []) dX6_onward_242 cvX6_180 rfl rfl rfl (Nat.le_of_ble_eq_true rfl) (ai_met.mv h (fun S47 h => ?_))
    refine ai_aload_n dX6_onward_245 rfl (j := 1) rfl ?_
    refine ai_getR dX6_onward_246 fdX6_46 rfl rfl ?_
    refine ai_iload_n dX6_onward_249 rfl (j := 2) rfl ?_
    refine ai_bipush (v := 16) dX6_onward_250 (by decide) ?_
    refine ai_iast dX6_onward_252 rfl ⟨hi1, ?_⟩
    refine ai_aload_n dX6_onward_253 rfl (j := 1) rfl ?_
    refine ai_bipush (v := 10) dX6_onward_254 (by decide) ?_
    refine ai_iload_n dX6_onward_256 rfl (j := 0) rfl ?_
    refine ai_callVv (As := [.int 10, .int ((S 15 (p1).toNatClampNeg) + 1)]) (rest := []) dX6_onward_257 cvX6_166 rfl rfl rfl (Nat.le_of_ble_eq_true rfl) (ai_met.mv h (fun S49 h => ?_))
    refine ai_goto (tgt := 287) dX6_onward_260 (by decide) ?_
    exact ai_retv dX6_onward_287 rfl h
  by_cases hs50 : (S 13 (p1).toNatClampNeg) = 16
  · have h := h.2.2.2.2.1 hs50
    refine ai_look (off := 248) (tgt := 263) 16 dX6_onward_15 hs50 (by decide) (by decide) (by decide) ?_
    refine ai_aload_n dX6_onward_263 rfl (j := 1) rfl ?_
    refine ai_iload_n dX6_onward_264 rfl (j := 2) rfl ?_
    refine ai_callVv (As := [.int p1]) (rest := []) dX6_onward_265 cvX6_180 rfl rfl rfl (Nat.le_of_ble_eq_true rfl) (ai_met.mv h (fun S52 h => ?_))
    refine ai_aload_n dX6_onward_268 rfl (j := 1) rfl ?_
    refine ai_aload_n dX6_onward_269 rfl (j := 1) rfl ?_
    refine ai_getR dX6_onward_270 fdX6_49 rfl rfl ?_
    refine ai_iload_n dX6_onward_273 rfl (j := 2) rfl ?_
    refine ai_iald dX6_onward_274 rfl ⟨hi1, ?_⟩
    refine ai_callVv (As := [.int (S52 14 (p1).toNatClampNeg)]) (rest := []) dX6_onward_275 cvX6_177 rfl rfl rfl (Nat.le_of_ble_eq_true rfl) (ai_met.mv h (fun S54 h => ?_))
    refine ai_goto (tgt := 287) dX6_onward_278 (by decide) ?_
    exact ai_retv dX6_onward_287 rfl h
  by_cases hs55 : (S 13 (p1).toNatClampNeg) = 40
  · have h := h.2.2.2.2.2.1 hs55
    refine ai_look (off := 85) (tgt := 100) 40 dX6_onward_15 hs55 (by decide) (by decide) (by decide) ?_
    refine ai_aload_n dX6_onward_100 rfl (j := 1) rfl ?_
    refine ai_iload_n dX6_onward_101 rfl (j := 2) rfl ?_
    refine ai_callVv (As := [.int p1]) (rest := []) dX6_onward_102 cvX6_180 rfl rfl rfl (Nat.le_of_ble_eq_true rfl) (ai_met.mv h (fun S57 h => ?_))
    refine ai_aload_n dX6_onward_105 rfl (j := 1) rfl ?_
    refine ai_getR dX6_onward_106 fdX6_31 rfl rfl ?_
    refine ai_aload_n dX6_onward_109 rfl (j := 1) rfl ?_
    refine ai_getI dX6_onward_110 fdX6_121 rfl rfl ?_
    refine ai_aload_n dX6_onward_113 rfl (j := 1) rfl ?_
    refine ai_getR dX6_onward_114 fdX6_58 rfl rfl ?_
    refine ai_iload_n dX6_onward_117 rfl (j := 2) rfl ?_
    refine ai_iald dX6_onward_118 rfl ⟨hi1, ?_⟩
    refine ai_iast dX6_onward_119 rfl ⟨h.1, ?_⟩
    have hi58 := h.1
    have h := h.2
    refine ai_aload_n dX6_onward_120 rfl (j := 1) rfl ?_
    refine ai_getR dX6_onward_121 fdX6_58 rfl rfl ?_
    refine ai_iload_n dX6_onward_124 rfl (j := 2) rfl ?_
    refine ai_dup2 dX6_onward_125 rfl rfl ?_
    refine ai_ialdx (S57 17 (p1).toNatClampNeg) dX6_onward_126 rfl rfl ⟨hi1, ?_⟩
    refine ai_iconst (v := 1) dX6_onward_127 (by decide) ?_
    refine ai_iadd dX6_onward_128 ?_
    refine ai_iast dX6_onward_129 rfl ⟨hi1, ?_⟩
    refine ai_aload_n dX6_onward_130 rfl (j := 1) rfl ?_
    refine ai_bipush (v := 44) dX6_onward_131 (by decide) ?_
    refine ai_callVz (As := [.int 44]) (rest := []) dX6_onward_133 cvX6_159 rfl rfl rfl (Nat.le_of_ble_eq_true rfl) (ai_met.mz h (fun S60 h => ?_) (fun S60 h => ?_))
    · show ai_W _ _ _ _ _ _ _ _ _
      refine ai_if_eq (tgt := 169) dX6_onward_136 (by decide) ⟨fun hc => absurd hc (by decide), fun _ => ?_⟩
      refine ai_aload_n dX6_onward_139 rfl (j := 1) rfl ?_
      refine ai_aload_n dX6_onward_140 rfl (j := 1) rfl ?_
      refine ai_getR dX6_onward_141 fdX6_58 rfl rfl ?_
      refine ai_iload_n dX6_onward_144 rfl (j := 2) rfl ?_
      refine ai_iald dX6_onward_145 rfl ⟨hi1, ?_⟩
      refine ai_bipush (v := 6) dX6_onward_146 (by decide) ?_
      refine ai_icmp_ge (tgt := 155) dX6_onward_148 (by decide) ⟨fun (hc61 : 6 ≤ (S60 17 (p1).toNatClampNeg)) => ?_, fun (hc61 : ¬ 6 ≤ (S60 17 (p1).toNatClampNeg)) => ?_⟩
      · have h := h.1 hc61
        refine ai_iconst (v := 0) dX6_onward_155 (by decide) ?_
        refine ai_callVv (As := [.int 0]) (rest := []) dX6_onward_156 cvX6_141 rfl rfl rfl (Nat.le_of_ble_eq_true rfl) (vX6_need ?_)
        refine ⟨fun hc => absurd hc (by decide), fun _ => ?_⟩
        show ai_W _ _ _ _ _ _ (ai_up S60 0 19 1) _ _
        refine ai_aload_n dX6_onward_159 rfl (j := 1) rfl ?_
        refine ai_bipush (v := 30) dX6_onward_160 (by decide) ?_
        refine ai_iload_n dX6_onward_162 rfl (j := 0) rfl ?_
        refine ai_callVv (As := [.int 30, .int ((S 15 (p1).toNatClampNeg) + 1)]) (rest := []) dX6_onward_163 cvX6_166 rfl rfl rfl (Nat.le_of_ble_eq_true rfl) (ai_met.mv h (fun S63 h => ?_))
        refine ai_goto (tgt := 287) dX6_onward_166 (by decide) ?_
        exact ai_retv dX6_onward_287 rfl h
      · have h := h.2 hc61
        refine ai_iconst (v := 1) dX6_onward_151 (by decide) ?_
        refine ai_goto (tgt := 156) dX6_onward_152 (by decide) ?_
        refine ai_callVv (As := [.int 1]) (rest := []) dX6_onward_156 cvX6_141 rfl rfl rfl (Nat.le_of_ble_eq_true rfl) (vX6_need ?_)
        refine ⟨fun _ => ?_, fun hc => absurd hc (by decide)⟩
        show ai_W _ _ _ _ _ _ S60 _ _
        refine ai_aload_n dX6_onward_159 rfl (j := 1) rfl ?_
        refine ai_bipush (v := 30) dX6_onward_160 (by decide) ?_
        refine ai_iload_n dX6_onward_162 rfl (j := 0) rfl ?_
        refine ai_callVv (As := [.int 30, .int ((S 15 (p1).toNatClampNeg) + 1)]) (rest := []) dX6_onward_163 cvX6_166 rfl rfl rfl (Nat.le_of_ble_eq_true rfl) (ai_met.mv h (fun S65 h => ?_))
        refine ai_goto (tgt := 287) dX6_onward_166 (by decide) ?_
        exact ai_retv dX6_onward_287 rfl h
    · show ai_W _ _ _ _ _ _ _ _ _
      refine ai_if_eq (tgt := 169) dX6_onward_136 (by decide) ⟨fun _ => ?_, fun hc => absurd hc (by decide)⟩
      refine ai_aload_n dX6_onward_169 rfl (j := 1) rfl ?_
      refine ai_aload_n dX6_onward_170 rfl (j := 1) rfl ?_
      refine ai_bipush (v := 41) dX6_onward_171 (by decide) ?_
      refine ai_callVz (As := [.int 41]) (rest := [.ref 0]) dX6_onward_173 cvX6_159 rfl rfl rfl (Nat.le_of_ble_eq_true rfl) (ai_met.mz h (fun S67 h => ?_) (fun S67 h => ?_))
      · show ai_W _ _ _ _ _ _ _ _ _
        refine ai_callVv (As := [.int 1]) (rest := []) dX6_onward_176 cvX6_141 rfl rfl rfl (Nat.le_of_ble_eq_true rfl) (vX6_need ?_)
        refine ⟨fun _ => ?_, fun hc => absurd hc (by decide)⟩
        show ai_W _ _ _ _ _ _ S67 _ _
        refine ai_aload_n dX6_onward_179 rfl (j := 1) rfl ?_
        refine ai_iload_n dX6_onward_180 rfl (j := 2) rfl ?_
        refine ai_callVv (As := [.int p1]) (rest := []) dX6_onward_181 cvX6_174 rfl rfl rfl (Nat.le_of_ble_eq_true rfl) (ai_met.mv h (fun S69 h => ?_))
        refine ai_goto (tgt := 287) dX6_onward_184 (by decide) ?_
        exact ai_retv dX6_onward_287 rfl h
      · show ai_W _ _ _ _ _ _ _ _ _
        refine ai_callVv (As := [.int 0]) (rest := []) dX6_onward_176 cvX6_141 rfl rfl rfl (Nat.le_of_ble_eq_true rfl) (vX6_need ?_)
        refine ⟨fun hc => absurd hc (by decide), fun _ => ?_⟩
        show ai_W _ _ _ _ _ _ (ai_up S67 0 19 1) _ _
        refine ai_aload_n dX6_onward_179 rfl (j := 1) rfl ?_
        refine ai_iload_n dX6_onward_180 rfl (j := 2) rfl ?_
        refine ai_callVv (As := [.int p1]) (rest := []) dX6_onward_181 cvX6_174 rfl rfl rfl (Nat.le_of_ble_eq_true rfl) (ai_met.mv h (fun S71 h => ?_))
        refine ai_goto (tgt := 287) dX6_onward_184 (by decide) ?_
        exact ai_retv dX6_onward_287 rfl h
  have h := h.2.2.2.2.2.2 ⟨hs2, hs11, hs28, hs45, hs50, hs55⟩
  refine ai_lookup (off := 266) (tgt := 281) dX6_onward_15 (by decide) (by show lookupswitch.offset _ _ _ = _; rw [lv_osw (k := 11) hs2 (by decide), lv_osw (k := 12) hs11 (by decide), lv_osw (k := 14) hs28 (by decide), lv_osw (k := 15) hs45 (by decide), lv_osw (k := 16) hs50 (by decide), lv_osw (k := 40) hs55 (by decide)]; rfl) (by decide) ?_
  refine ai_aload_n dX6_onward_281 rfl (j := 1) rfl ?_
  refine ai_iload_n dX6_onward_282 rfl (j := 2) rfl ?_
  refine ai_iload_n dX6_onward_283 rfl (j := 0) rfl ?_
  refine ai_callVv (As := [.int p1, .int ((S 15 (p1).toNatClampNeg) + 1)]) (rest := []) dX6_onward_284 cvX6_183 rfl rfl rfl (Nat.le_of_ble_eq_true rfl) (ai_met.mv h (fun S73 h => ?_))
  exact ai_retv dX6_onward_287 rfl h
set_option maxHeartbeats 4000000 in
set_option maxRecDepth 100000 in
theorem vX6_block {p1 : Int32} {p2 : Int32} {S : ai_S} {V : ai_V} {G : ai_S → Prop}
    (h : (vp_in p1 80 ∧ ((¬ (S 13 (p1).toNatClampNeg) = 20 → ai_W (uM l D ρ τ) (d + 1) mX6_block 38 [(0, .ref 0), (1, .int p1), (2, .int p2)] [] S V (ai_qv V G)) ∧ ((S 13 (p1).toNatClampNeg) = 20 → (vp_in (S 17 (p1).toNatClampNeg) 32 ∧ ai_met (uM l D ρ τ) d mX6_leave [.ref 0] (ai_up S 9 ((S 17 (p1).toNatClampNeg)).toNatClampNeg (S 0 31)) V (ai_qv V (fun S5 => ai_W (uM l D ρ τ) (d + 1) mX6_block 38 [(0, .ref 0), (1, .int p1), (2, .int p2)] [] (ai_up S5 13 (p1).toNatClampNeg 19) V (ai_qv V G)))))))) :
    ai_met (uM l D ρ τ) (d + 1) mX6_block [.ref 0, .int p1, .int p2] S V (ai_qv V G) := by
  refine ai_mof plX6 (Nat.le_of_ble_eq_true rfl) (lv := [(0, .ref 0), (1, .int p1), (2, .int p2)]) rfl ?_
  refine ai_aload_n dX6_block_0 rfl (j := 0) rfl ?_
  refine ai_getR dX6_block_1 fdX6_46 rfl rfl ?_
  refine ai_iload_n dX6_block_4 rfl (j := 1) rfl ?_
  refine ai_iald dX6_block_5 rfl ⟨h.1, ?_⟩
  have hi1 := h.1
  have h := h.2
  refine ai_bipush (v := 20) dX6_block_6 (by decide) ?_
  refine ai_icmp_ne (tgt := 38) dX6_block_8 (by decide) ⟨fun (hc2 : ¬ (S 13 (p1).toNatClampNeg) = 20) => ?_, fun (hc2 : (S 13 (p1).toNatClampNeg) = 20) => ?_⟩
  · have h := h.1 hc2
    refine ai_locj (lv' := [(0, .ref 0), (1, .int p1), (2, .int p2)]) [0, 1, 2] rfl ?_
    exact h
  · have h := h.2 hc2
    refine ai_aload_n dX6_block_11 rfl (j := 0) rfl ?_
    refine ai_getR dX6_block_12 fdX6_34 rfl rfl ?_
    refine ai_aload_n dX6_block_15 rfl (j := 0) rfl ?_
    refine ai_getR dX6_block_16 fdX6_58 rfl rfl ?_
    refine ai_iload_n dX6_block_19 rfl (j := 1) rfl ?_
    refine ai_iald dX6_block_20 rfl ⟨hi1, ?_⟩
    refine ai_aload_n dX6_block_21 rfl (j := 0) rfl ?_
    refine ai_getI dX6_block_22 fdX6_121 rfl rfl ?_
    refine ai_iast dX6_block_25 rfl ⟨h.1, ?_⟩
    have hi3 := h.1
    have h := h.2
    refine ai_aload_n dX6_block_26 rfl (j := 0) rfl ?_
    refine ai_callVv (As := []) (rest := []) dX6_block_27 cvX6_186 rfl rfl rfl (Nat.le_of_ble_eq_true rfl) (ai_met.mv h (fun S5 h => ?_))
    refine ai_aload_n dX6_block_30 rfl (j := 0) rfl ?_
    refine ai_getR dX6_block_31 fdX6_46 rfl rfl ?_
    refine ai_iload_n dX6_block_34 rfl (j := 1) rfl ?_
    refine ai_bipush (v := 19) dX6_block_35 (by decide) ?_
    refine ai_iast dX6_block_37 rfl ⟨hi1, ?_⟩
    refine ai_locj (lv' := [(0, .ref 0), (1, .int p1), (2, .int p2)]) [0, 1, 2] rfl ?_
    exact h
set_option maxHeartbeats 4000000 in
set_option maxRecDepth 100000 in
theorem vX6_block_38 {p1 : Int32} {p2 : Int32} {S : ai_S} {V : ai_V} {G : ai_S → Prop}
    (h : (vp_in p1 80 ∧ ((¬ (S 13 (p1).toNatClampNeg) = 22 → ai_W (uM l D ρ τ) (d + 1) mX6_block 54 [(0, .ref 0), (1, .int p1), (2, .int p2)] [] S V (ai_qv V G)) ∧ ((S 13 (p1).toNatClampNeg) = 22 → ai_met (uM l D ρ τ) d mX6_add [.ref 0, .int p1] S V (ai_qv V (fun S4 => ai_W (uM l D ρ τ) (d + 1) mX6_block 54 [(0, .ref 0), (1, .int p1), (2, .int p2)] [] S4 V (ai_qv V G))))))) :
    ai_W (uM l D ρ τ) (d + 1) mX6_block 38 [(0, .ref 0), (1, .int p1), (2, .int p2)] [] S V (ai_qv V G) := by
  refine ai_aload_n dX6_block_38 rfl (j := 0) rfl ?_
  refine ai_getR dX6_block_39 fdX6_46 rfl rfl ?_
  refine ai_iload_n dX6_block_42 rfl (j := 1) rfl ?_
  refine ai_iald dX6_block_43 rfl ⟨h.1, ?_⟩
  have hi1 := h.1
  have h := h.2
  refine ai_bipush (v := 22) dX6_block_44 (by decide) ?_
  refine ai_icmp_ne (tgt := 54) dX6_block_46 (by decide) ⟨fun (hc2 : ¬ (S 13 (p1).toNatClampNeg) = 22) => ?_, fun (hc2 : (S 13 (p1).toNatClampNeg) = 22) => ?_⟩
  · have h := h.1 hc2
    refine ai_locj (lv' := [(0, .ref 0), (1, .int p1), (2, .int p2)]) [0, 1, 2] rfl ?_
    exact h
  · have h := h.2 hc2
    refine ai_aload_n dX6_block_49 rfl (j := 0) rfl ?_
    refine ai_iload_n dX6_block_50 rfl (j := 1) rfl ?_
    refine ai_callVv (As := [.int p1]) (rest := []) dX6_block_51 cvX6_180 rfl rfl rfl (Nat.le_of_ble_eq_true rfl) (ai_met.mv h (fun S4 h => ?_))
    refine ai_locj (lv' := [(0, .ref 0), (1, .int p1), (2, .int p2)]) [0, 1, 2] rfl ?_
    exact h
set_option maxHeartbeats 4000000 in
set_option maxRecDepth 100000 in
theorem vX6_block_54 {p1 : Int32} {p2 : Int32} {S : ai_S} {V : ai_V} {G : ai_S → Prop}
    (h : ai_met (uM l D ρ τ) d mX6_peek [.ref 0] S V (ai_qi V (fun x1 S2 => (vp_in p1 80 ∧ ((¬ (S2 13 (p1).toNatClampNeg) = 19 → ((¬ x1 = 125 → ai_met (uM l D ρ τ) d mX6_push [.ref 0, .int 10, .int p2] (ai_up S2 13 (p1).toNatClampNeg 22) V (ai_qv V (fun S7 => G S7))) ∧ (x1 = 125 → ai_met (uM l D ρ τ) d mX6_leave [.ref 0] (ai_up S2 0 2 ((S2 0 2) + 1)) V (ai_qv V (fun S9 => ai_met (uM l D ρ τ) d mX6_done [.ref 0, .int (S9 14 (p1).toNatClampNeg)] S9 V (ai_qv V (fun S11 => G S11))))))) ∧ ((S2 13 (p1).toNatClampNeg) = 19 → ((¬ x1 = 36 → ((¬ x1 = 64 → ((¬ x1 = 125 → ai_met (uM l D ρ τ) d mX6_push [.ref 0, .int 10, .int p2] (ai_up S2 13 (p1).toNatClampNeg 22) V (ai_qv V (fun S16 => G S16))) ∧ (x1 = 125 → ai_met (uM l D ρ τ) d mX6_leave [.ref 0] (ai_up S2 0 2 ((S2 0 2) + 1)) V (ai_qv V (fun S18 => ai_met (uM l D ρ τ) d mX6_done [.ref 0, .int (S18 14 (p1).toNatClampNeg)] S18 V (ai_qv V (fun S20 => G S20))))))) ∧ (x1 = 64 → ai_met (uM l D ρ τ) d mX6_heading [.ref 0, .int p1, .int p2] (ai_up S2 0 2 ((S2 0 2) + 1)) V (ai_qv V (fun S22 => G S22))))) ∧ (x1 = 36 → ai_met (uM l D ρ τ) d mX6_peek [.ref 0] (ai_up S2 0 2 ((S2 0 2) + 1)) V (ai_qi V (fun x23 S24 => ai_met (uM l D ρ τ) d mX6_isLetter [.ref 0, .int x23] (ai_up S24 0 2 ((S24 0 2) + 1)) V (ai_qz V (fun b25 S26 => (b25 = true → ai_met (uM l D ρ τ) d mX6_eat [.ref 0, .int 59] S26 V (ai_qz V (fun b27 S28 => (b27 = true → ((24 ≤ (S28 0 22) → G (ai_up S28 0 19 1)) ∧ (¬ 24 ≤ (S28 0 22) → (((S28 0 19) = 0 → (vp_in (S28 14 (p1).toNatClampNeg) 700 ∧ ai_met (uM l D ρ τ) d mX6_declare [.ref 0, .int x23, .int 1, .int (S28 5 ((S28 14 (p1).toNatClampNeg)).toNatClampNeg)] S28 V (ai_qv V (fun S33 => (vp_in (S33 14 (p1).toNatClampNeg) 700 ∧ G (ai_up (ai_up S33 5 ((S33 14 (p1).toNatClampNeg)).toNatClampNeg ((S33 5 ((S33 14 (p1).toNatClampNeg)).toNatClampNeg) + 1)) 0 22 ((S33 0 22) + 1))))))) ∧ (¬ (S28 0 19) = 0 → G S28))))) ∧ (b27 = false → G (ai_up S28 0 19 1))))) ∧ (b25 = false → G (ai_up S26 0 19 1)))))))))))))) :
    ai_W (uM l D ρ τ) (d + 1) mX6_block 54 [(0, .ref 0), (1, .int p1), (2, .int p2)] [] S V (ai_qv V G) := by
  refine ai_aload_n dX6_block_54 rfl (j := 0) rfl ?_
  refine ai_callVi (As := []) (rest := []) dX6_block_55 cvX6_107 rfl rfl rfl (Nat.le_of_ble_eq_true rfl) (ai_met.mi h (fun x1 S2 h => ?_))
  refine ai_istore_n (lv' := [(3, .int x1), (0, .ref 0), (1, .int p1), (2, .int p2)]) dX6_block_58 rfl (by decide) rfl ?_
  refine ai_aload_n dX6_block_59 rfl (j := 1) rfl ?_
  refine ai_getR dX6_block_60 fdX6_46 rfl rfl ?_
  refine ai_iload_n dX6_block_63 rfl (j := 2) rfl ?_
  refine ai_iald dX6_block_64 rfl ⟨h.1, ?_⟩
  have hi3 := h.1
  have h := h.2
  refine ai_bipush (v := 19) dX6_block_65 (by decide) ?_
  refine ai_icmp_ne (tgt := 189) dX6_block_67 (by decide) ⟨fun (hc4 : ¬ (S2 13 (p1).toNatClampNeg) = 19) => ?_, fun (hc4 : (S2 13 (p1).toNatClampNeg) = 19) => ?_⟩
  · have h := h.1 hc4
    refine ai_aload_n dX6_block_189 rfl (j := 1) rfl ?_
    refine ai_getR dX6_block_190 fdX6_46 rfl rfl ?_
    refine ai_iload_n dX6_block_193 rfl (j := 2) rfl ?_
    refine ai_iald dX6_block_194 rfl ⟨hi3, ?_⟩
    refine ai_bipush (v := 19) dX6_block_195 (by decide) ?_
    refine ai_icmp_ne (tgt := 225) dX6_block_197 (by decide) ⟨fun _ => ?_, fun hc => absurd hc hc4⟩
    refine ai_iload_n dX6_block_225 rfl (j := 0) rfl ?_
    refine ai_bipush (v := 125) dX6_block_226 (by decide) ?_
    refine ai_icmp_ne (tgt := 258) dX6_block_228 (by decide) ⟨fun (hc5 : ¬ x1 = 125) => ?_, fun (hc5 : x1 = 125) => ?_⟩
    · have h := h.1 hc5
      refine ai_aload_n dX6_block_258 rfl (j := 1) rfl ?_
      refine ai_getR dX6_block_259 fdX6_46 rfl rfl ?_
      refine ai_iload_n dX6_block_262 rfl (j := 2) rfl ?_
      refine ai_bipush (v := 22) dX6_block_263 (by decide) ?_
      refine ai_iast dX6_block_265 rfl ⟨hi3, ?_⟩
      refine ai_aload_n dX6_block_266 rfl (j := 1) rfl ?_
      refine ai_bipush (v := 10) dX6_block_267 (by decide) ?_
      refine ai_iload_n dX6_block_269 rfl (j := 3) rfl ?_
      refine ai_callVv (As := [.int 10, .int p2]) (rest := []) dX6_block_270 cvX6_166 rfl rfl rfl (Nat.le_of_ble_eq_true rfl) (ai_met.mv h (fun S7 h => ?_))
      exact ai_retv dX6_block_273 rfl h
    · have h := h.2 hc5
      refine ai_aload_n dX6_block_231 rfl (j := 1) rfl ?_
      refine ai_dup dX6_block_232 rfl ?_
      refine ai_getI dX6_block_233 fdX6_104 rfl rfl ?_
      refine ai_iconst (v := 1) dX6_block_236 (by decide) ?_
      refine ai_iadd dX6_block_237 ?_
      refine ai_putI dX6_block_238 fdX6_104 pdX6_2 rfl rfl rfl rfl ?_
      refine ai_aload_n dX6_block_241 rfl (j := 1) rfl ?_
      refine ai_callVv (As := []) (rest := []) dX6_block_242 cvX6_186 rfl rfl rfl (Nat.le_of_ble_eq_true rfl) (ai_met.mv h (fun S9 h => ?_))
      refine ai_aload_n dX6_block_245 rfl (j := 1) rfl ?_
      refine ai_aload_n dX6_block_246 rfl (j := 1) rfl ?_
      refine ai_getR dX6_block_247 fdX6_49 rfl rfl ?_
      refine ai_iload_n dX6_block_250 rfl (j := 2) rfl ?_
      refine ai_iald dX6_block_251 rfl ⟨hi3, ?_⟩
      refine ai_callVv (As := [.int (S9 14 (p1).toNatClampNeg)]) (rest := []) dX6_block_252 cvX6_177 rfl rfl rfl (Nat.le_of_ble_eq_true rfl) (ai_met.mv h (fun S11 h => ?_))
      refine ai_goto (tgt := 273) dX6_block_255 (by decide) ?_
      exact ai_retv dX6_block_273 rfl h
  · have h := h.2 hc4
    refine ai_iload_n dX6_block_70 rfl (j := 0) rfl ?_
    refine ai_bipush (v := 36) dX6_block_71 (by decide) ?_
    refine ai_icmp_ne (tgt := 189) dX6_block_73 (by decide) ⟨fun (hc12 : ¬ x1 = 36) => ?_, fun (hc12 : x1 = 36) => ?_⟩
    · have h := h.1 hc12
      refine ai_aload_n dX6_block_189 rfl (j := 1) rfl ?_
      refine ai_getR dX6_block_190 fdX6_46 rfl rfl ?_
      refine ai_iload_n dX6_block_193 rfl (j := 2) rfl ?_
      refine ai_iald dX6_block_194 rfl ⟨hi3, ?_⟩
      refine ai_bipush (v := 19) dX6_block_195 (by decide) ?_
      refine ai_icmp_ne (tgt := 225) dX6_block_197 (by decide) ⟨fun hc => absurd hc4 hc, fun _ => ?_⟩
      refine ai_iload_n dX6_block_200 rfl (j := 0) rfl ?_
      refine ai_bipush (v := 64) dX6_block_201 (by decide) ?_
      refine ai_icmp_ne (tgt := 225) dX6_block_203 (by decide) ⟨fun (hc13 : ¬ x1 = 64) => ?_, fun (hc13 : x1 = 64) => ?_⟩
      · have h := h.1 hc13
        refine ai_iload_n dX6_block_225 rfl (j := 0) rfl ?_
        refine ai_bipush (v := 125) dX6_block_226 (by decide) ?_
        refine ai_icmp_ne (tgt := 258) dX6_block_228 (by decide) ⟨fun (hc14 : ¬ x1 = 125) => ?_, fun (hc14 : x1 = 125) => ?_⟩
        · have h := h.1 hc14
          refine ai_aload_n dX6_block_258 rfl (j := 1) rfl ?_
          refine ai_getR dX6_block_259 fdX6_46 rfl rfl ?_
          refine ai_iload_n dX6_block_262 rfl (j := 2) rfl ?_
          refine ai_bipush (v := 22) dX6_block_263 (by decide) ?_
          refine ai_iast dX6_block_265 rfl ⟨hi3, ?_⟩
          refine ai_aload_n dX6_block_266 rfl (j := 1) rfl ?_
          refine ai_bipush (v := 10) dX6_block_267 (by decide) ?_
          refine ai_iload_n dX6_block_269 rfl (j := 3) rfl ?_
          refine ai_callVv (As := [.int 10, .int p2]) (rest := []) dX6_block_270 cvX6_166 rfl rfl rfl (Nat.le_of_ble_eq_true rfl) (ai_met.mv h (fun S16 h => ?_))
          exact ai_retv dX6_block_273 rfl h
        · have h := h.2 hc14
          refine ai_aload_n dX6_block_231 rfl (j := 1) rfl ?_
          refine ai_dup dX6_block_232 rfl ?_
          refine ai_getI dX6_block_233 fdX6_104 rfl rfl ?_
          refine ai_iconst (v := 1) dX6_block_236 (by decide) ?_
          refine ai_iadd dX6_block_237 ?_
          refine ai_putI dX6_block_238 fdX6_104 pdX6_2 rfl rfl rfl rfl ?_
          refine ai_aload_n dX6_block_241 rfl (j := 1) rfl ?_
          refine ai_callVv (As := []) (rest := []) dX6_block_242 cvX6_186 rfl rfl rfl (Nat.le_of_ble_eq_true rfl) (ai_met.mv h (fun S18 h => ?_))
          refine ai_aload_n dX6_block_245 rfl (j := 1) rfl ?_
          refine ai_aload_n dX6_block_246 rfl (j := 1) rfl ?_
          refine ai_getR dX6_block_247 fdX6_49 rfl rfl ?_
          refine ai_iload_n dX6_block_250 rfl (j := 2) rfl ?_
          refine ai_iald dX6_block_251 rfl ⟨hi3, ?_⟩
          refine ai_callVv (As := [.int (S18 14 (p1).toNatClampNeg)]) (rest := []) dX6_block_252 cvX6_177 rfl rfl rfl (Nat.le_of_ble_eq_true rfl) (ai_met.mv h (fun S20 h => ?_))
          refine ai_goto (tgt := 273) dX6_block_255 (by decide) ?_
          exact ai_retv dX6_block_273 rfl h
      · have h := h.2 hc13
        refine ai_aload_n dX6_block_206 rfl (j := 1) rfl ?_
        refine ai_dup dX6_block_207 rfl ?_
        refine ai_getI dX6_block_208 fdX6_104 rfl rfl ?_
        refine ai_iconst (v := 1) dX6_block_211 (by decide) ?_
        refine ai_iadd dX6_block_212 ?_
        refine ai_putI dX6_block_213 fdX6_104 pdX6_2 rfl rfl rfl rfl ?_
        refine ai_aload_n dX6_block_216 rfl (j := 1) rfl ?_
        refine ai_iload_n dX6_block_217 rfl (j := 2) rfl ?_
        refine ai_iload_n dX6_block_218 rfl (j := 3) rfl ?_
        refine ai_callVv (As := [.int p1, .int p2]) (rest := []) dX6_block_219 cvX6_195 rfl rfl rfl (Nat.le_of_ble_eq_true rfl) (ai_met.mv h (fun S22 h => ?_))
        refine ai_goto (tgt := 273) dX6_block_222 (by decide) ?_
        exact ai_retv dX6_block_273 rfl h
    · have h := h.2 hc12
      refine ai_aload_n dX6_block_76 rfl (j := 1) rfl ?_
      refine ai_dup dX6_block_77 rfl ?_
      refine ai_getI dX6_block_78 fdX6_104 rfl rfl ?_
      refine ai_iconst (v := 1) dX6_block_81 (by decide) ?_
      refine ai_iadd dX6_block_82 ?_
      refine ai_putI dX6_block_83 fdX6_104 pdX6_2 rfl rfl rfl rfl ?_
      refine ai_aload_n dX6_block_86 rfl (j := 1) rfl ?_
      refine ai_callVi (As := []) (rest := []) dX6_block_87 cvX6_107 rfl rfl rfl (Nat.le_of_ble_eq_true rfl) (ai_met.mi h (fun x23 S24 h => ?_))
      refine ai_istore_n (lv' := [(3, .int x23), (0, .ref 0), (1, .int p1), (2, .int p2)]) dX6_block_90 rfl (by decide) rfl ?_
      refine ai_aload_n dX6_block_91 rfl (j := 1) rfl ?_
      refine ai_dup dX6_block_92 rfl ?_
      refine ai_getI dX6_block_93 fdX6_104 rfl rfl ?_
      refine ai_iconst (v := 1) dX6_block_96 (by decide) ?_
      refine ai_iadd dX6_block_97 ?_
      refine ai_putI dX6_block_98 fdX6_104 pdX6_2 rfl rfl rfl rfl ?_
      refine ai_aload_n dX6_block_101 rfl (j := 1) rfl ?_
      refine ai_aload_n dX6_block_102 rfl (j := 1) rfl ?_
      refine ai_iload_n dX6_block_103 rfl (j := 0) rfl ?_
      refine ai_callVz (As := [.int x23]) (rest := [.ref 0]) dX6_block_104 cvX6_155 rfl rfl rfl (Nat.le_of_ble_eq_true rfl) (ai_met.mz h (fun S26 h => ?_) (fun S26 h => ?_))
      · show ai_W _ _ _ _ _ _ _ _ _
        refine ai_if_eq (tgt := 132) dX6_block_107 (by decide) ⟨fun hc => absurd hc (by decide), fun _ => ?_⟩
        refine ai_aload_n dX6_block_110 rfl (j := 1) rfl ?_
        refine ai_bipush (v := 59) dX6_block_111 (by decide) ?_
        refine ai_callVz (As := [.int 59]) (rest := [.ref 0]) dX6_block_113 cvX6_159 rfl rfl rfl (Nat.le_of_ble_eq_true rfl) (ai_met.mz h (fun S28 h => ?_) (fun S28 h => ?_))
        · show ai_W _ _ _ _ _ _ _ _ _
          refine ai_if_eq (tgt := 132) dX6_block_116 (by decide) ⟨fun hc => absurd hc (by decide), fun _ => ?_⟩
          refine ai_aload_n dX6_block_119 rfl (j := 1) rfl ?_
          refine ai_getI dX6_block_120 fdX6_189 rfl rfl ?_
          refine ai_bipush (v := 24) dX6_block_123 (by decide) ?_
          refine ai_icmp_ge (tgt := 132) dX6_block_125 (by decide) ⟨fun (hc29 : 24 ≤ (S28 0 22)) => ?_, fun (hc29 : ¬ 24 ≤ (S28 0 22)) => ?_⟩
          · have h := h.1 hc29
            refine ai_iconst (v := 0) dX6_block_132 (by decide) ?_
            refine ai_callVv (As := [.int 0]) (rest := []) dX6_block_133 cvX6_141 rfl rfl rfl (Nat.le_of_ble_eq_true rfl) (vX6_need ?_)
            refine ⟨fun hc => absurd hc (by decide), fun _ => ?_⟩
            show ai_W _ _ _ _ _ _ (ai_up S28 0 19 1) _ _
            refine ai_aload_n dX6_block_136 rfl (j := 1) rfl ?_
            refine ai_getIx 1 dX6_block_137 fdX6_124 rfl rfl rfl ?_
            refine ai_if_eq (tgt := 144) dX6_block_140 (by decide) ⟨fun hc => absurd hc (by decide), fun _ => ?_⟩
            exact ai_retv dX6_block_143 rfl h
          · have h := h.2 hc29
            refine ai_iconst (v := 1) dX6_block_128 (by decide) ?_
            refine ai_goto (tgt := 133) dX6_block_129 (by decide) ?_
            refine ai_callVv (As := [.int 1]) (rest := []) dX6_block_133 cvX6_141 rfl rfl rfl (Nat.le_of_ble_eq_true rfl) (vX6_need ?_)
            refine ⟨fun _ => ?_, fun hc => absurd hc (by decide)⟩
            show ai_W _ _ _ _ _ _ S28 _ _
            refine ai_aload_n dX6_block_136 rfl (j := 1) rfl ?_
            refine ai_getI dX6_block_137 fdX6_124 rfl rfl ?_
            refine ai_if_eq (tgt := 144) dX6_block_140 (by decide) ⟨fun (hc30 : (S28 0 19) = 0) => ?_, fun (hc30 : ¬ (S28 0 19) = 0) => ?_⟩
            · have h := h.1 hc30
              refine ai_aload_n dX6_block_144 rfl (j := 1) rfl ?_
              refine ai_iload_n dX6_block_145 rfl (j := 0) rfl ?_
              refine ai_iconst (v := 1) dX6_block_146 (by decide) ?_
              refine ai_aload_n dX6_block_147 rfl (j := 1) rfl ?_
              refine ai_getR dX6_block_148 fdX6_22 rfl rfl ?_
              refine ai_aload_n dX6_block_151 rfl (j := 1) rfl ?_
              refine ai_getR dX6_block_152 fdX6_49 rfl rfl ?_
              refine ai_iload_n dX6_block_155 rfl (j := 2) rfl ?_
              refine ai_iald dX6_block_156 rfl ⟨hi3, ?_⟩
              refine ai_iald dX6_block_157 rfl ⟨h.1, ?_⟩
              have hi31 := h.1
              have h := h.2
              refine ai_callVv (As := [.int x23, .int 1, .int (S28 5 ((S28 14 (p1).toNatClampNeg)).toNatClampNeg)]) (rest := []) dX6_block_158 cvX6_192 rfl rfl rfl (Nat.le_of_ble_eq_true rfl) (ai_met.mv h (fun S33 h => ?_))
              refine ai_aload_n dX6_block_161 rfl (j := 1) rfl ?_
              refine ai_getR dX6_block_162 fdX6_22 rfl rfl ?_
              refine ai_aload_n dX6_block_165 rfl (j := 1) rfl ?_
              refine ai_getR dX6_block_166 fdX6_49 rfl rfl ?_
              refine ai_iload_n dX6_block_169 rfl (j := 2) rfl ?_
              refine ai_iald dX6_block_170 rfl ⟨hi3, ?_⟩
              refine ai_dup2 dX6_block_171 rfl rfl ?_
              refine ai_iald dX6_block_172 rfl ⟨h.1, ?_⟩
              have hi34 := h.1
              have h := h.2
              refine ai_iconst (v := 1) dX6_block_173 (by decide) ?_
              refine ai_iadd dX6_block_174 ?_
              refine ai_iast dX6_block_175 rfl ⟨hi34, ?_⟩
              refine ai_aload_n dX6_block_176 rfl (j := 1) rfl ?_
              refine ai_dup dX6_block_177 rfl ?_
              refine ai_getIx (S33 0 22) dX6_block_178 fdX6_189 rfl rfl rfl ?_
              refine ai_iconst (v := 1) dX6_block_181 (by decide) ?_
              refine ai_iadd dX6_block_182 ?_
              refine ai_putI dX6_block_183 fdX6_189 pdX6_22 rfl rfl rfl rfl ?_
              refine ai_goto (tgt := 273) dX6_block_186 (by decide) ?_
              exact ai_retv dX6_block_273 rfl h
            · have h := h.2 hc30
              exact ai_retv dX6_block_143 rfl h
        · show ai_W _ _ _ _ _ _ _ _ _
          refine ai_if_eq (tgt := 132) dX6_block_116 (by decide) ⟨fun _ => ?_, fun hc => absurd hc (by decide)⟩
          refine ai_iconst (v := 0) dX6_block_132 (by decide) ?_
          refine ai_callVv (As := [.int 0]) (rest := []) dX6_block_133 cvX6_141 rfl rfl rfl (Nat.le_of_ble_eq_true rfl) (vX6_need ?_)
          refine ⟨fun hc => absurd hc (by decide), fun _ => ?_⟩
          show ai_W _ _ _ _ _ _ (ai_up S28 0 19 1) _ _
          refine ai_aload_n dX6_block_136 rfl (j := 1) rfl ?_
          refine ai_getIx 1 dX6_block_137 fdX6_124 rfl rfl rfl ?_
          refine ai_if_eq (tgt := 144) dX6_block_140 (by decide) ⟨fun hc => absurd hc (by decide), fun _ => ?_⟩
          exact ai_retv dX6_block_143 rfl h
      · show ai_W _ _ _ _ _ _ _ _ _
        refine ai_if_eq (tgt := 132) dX6_block_107 (by decide) ⟨fun _ => ?_, fun hc => absurd hc (by decide)⟩
        refine ai_iconst (v := 0) dX6_block_132 (by decide) ?_
        refine ai_callVv (As := [.int 0]) (rest := []) dX6_block_133 cvX6_141 rfl rfl rfl (Nat.le_of_ble_eq_true rfl) (vX6_need ?_)
        refine ⟨fun hc => absurd hc (by decide), fun _ => ?_⟩
        show ai_W _ _ _ _ _ _ (ai_up S26 0 19 1) _ _
        refine ai_aload_n dX6_block_136 rfl (j := 1) rfl ?_
        refine ai_getIx 1 dX6_block_137 fdX6_124 rfl rfl rfl ?_
        refine ai_if_eq (tgt := 144) dX6_block_140 (by decide) ⟨fun hc => absurd hc (by decide), fun _ => ?_⟩
        exact ai_retv dX6_block_143 rfl h
set_option maxHeartbeats 4000000 in
set_option maxRecDepth 100000 in
theorem vX6_heading {p1 : Int32} {p2 : Int32} {S : ai_S} {V : ai_V} {G : ai_S → Prop}
    (h : ai_met (uM l D ρ τ) d mX6_peek [.ref 0] S V (ai_qi V (fun x1 S2 => ai_met (uM l D ρ τ) d mX6_isLetter [.ref 0, .int x1] (ai_up S2 0 2 ((S2 0 2) + 1)) V (ai_qz V (fun b3 S4 => (b3 = true → ai_met (uM l D ρ τ) d mX6_eat [.ref 0, .int 40] S4 V (ai_qz V (fun b5 S6 => (b5 = true → ((16 ≤ (S6 0 21) → G (ai_up S6 0 19 1)) ∧ (¬ 16 ≤ (S6 0 21) → (((S6 0 19) = 0 → ai_met (uM l D ρ τ) d mX6_declare [.ref 0, .int x1, .int 2, .int ((16 * (S6 0 14)) + (S6 0 21))] (ai_up S6 0 21 ((S6 0 21) + 1)) V (ai_qv V (fun S10 => (vp_in ((16 * (S6 0 14)) + (S6 0 21)) 32 ∧ ai_met (uM l D ρ τ) d mX6_eat [.ref 0, .int 41] (ai_up (ai_up (ai_up S10 10 (((16 * (S6 0 14)) + (S6 0 21))).toNatClampNeg 0) 11 (((16 * (S6 0 14)) + (S6 0 21))).toNatClampNeg 0) 0 37 ((S10 0 37) + 1)) V (ai_qz V (fun b12 S13 => (b12 = true → ai_W (uM l D ρ τ) (d + 1) mX6_heading 135 [(0, .ref 0), (1, .int p1), (2, .int p2), (4, .int ((16 * (S6 0 14)) + (S6 0 21))), (5, .int 0), (6, .int 0)] [] S13 V (ai_qv V G)) ∧ (b12 = false → ai_W (uM l D ρ τ) (d + 1) mX6_heading 135 [(0, .ref 0), (1, .int p1), (2, .int p2), (4, .int ((16 * (S6 0 14)) + (S6 0 21))), (5, .int 1), (6, .int 0)] [] S13 V (ai_qv V G)))))))) ∧ (¬ (S6 0 19) = 0 → G S6))))) ∧ (b5 = false → G (ai_up S6 0 19 1))))) ∧ (b3 = false → G (ai_up S4 0 19 1))))))) :
    ai_met (uM l D ρ τ) (d + 1) mX6_heading [.ref 0, .int p1, .int p2] S V (ai_qv V G) := by
  refine ai_mof plX6 (Nat.le_of_ble_eq_true rfl) (lv := [(0, .ref 0), (1, .int p1), (2, .int p2)]) rfl ?_
  refine ai_aload_n dX6_heading_0 rfl (j := 0) rfl ?_
  refine ai_callVi (As := []) (rest := []) dX6_heading_1 cvX6_107 rfl rfl rfl (Nat.le_of_ble_eq_true rfl) (ai_met.mi h (fun x1 S2 h => ?_))
  refine ai_istore_n (lv' := [(3, .int x1), (0, .ref 0), (1, .int p1), (2, .int p2)]) dX6_heading_4 rfl (by decide) rfl ?_
  refine ai_aload_n dX6_heading_5 rfl (j := 1) rfl ?_
  refine ai_dup dX6_heading_6 rfl ?_
  refine ai_getI dX6_heading_7 fdX6_104 rfl rfl ?_
  refine ai_iconst (v := 1) dX6_heading_10 (by decide) ?_
  refine ai_iadd dX6_heading_11 ?_
  refine ai_putI dX6_heading_12 fdX6_104 pdX6_2 rfl rfl rfl rfl ?_
  refine ai_aload_n dX6_heading_15 rfl (j := 1) rfl ?_
  refine ai_aload_n dX6_heading_16 rfl (j := 1) rfl ?_
  refine ai_iload_n dX6_heading_17 rfl (j := 0) rfl ?_
  refine ai_callVz (As := [.int x1]) (rest := [.ref 0]) dX6_heading_18 cvX6_155 rfl rfl rfl (Nat.le_of_ble_eq_true rfl) (ai_met.mz h (fun S4 h => ?_) (fun S4 h => ?_))
  · show ai_W _ _ _ _ _ _ _ _ _
    refine ai_if_eq (tgt := 46) dX6_heading_21 (by decide) ⟨fun hc => absurd hc (by decide), fun _ => ?_⟩
    refine ai_aload_n dX6_heading_24 rfl (j := 1) rfl ?_
    refine ai_bipush (v := 40) dX6_heading_25 (by decide) ?_
    refine ai_callVz (As := [.int 40]) (rest := [.ref 0]) dX6_heading_27 cvX6_159 rfl rfl rfl (Nat.le_of_ble_eq_true rfl) (ai_met.mz h (fun S6 h => ?_) (fun S6 h => ?_))
    · show ai_W _ _ _ _ _ _ _ _ _
      refine ai_if_eq (tgt := 46) dX6_heading_30 (by decide) ⟨fun hc => absurd hc (by decide), fun _ => ?_⟩
      refine ai_aload_n dX6_heading_33 rfl (j := 1) rfl ?_
      refine ai_getI dX6_heading_34 fdX6_198 rfl rfl ?_
      refine ai_bipush (v := 16) dX6_heading_37 (by decide) ?_
      refine ai_icmp_ge (tgt := 46) dX6_heading_39 (by decide) ⟨fun (hc7 : 16 ≤ (S6 0 21)) => ?_, fun (hc7 : ¬ 16 ≤ (S6 0 21)) => ?_⟩
      · have h := h.1 hc7
        refine ai_iconst (v := 0) dX6_heading_46 (by decide) ?_
        refine ai_callVv (As := [.int 0]) (rest := []) dX6_heading_47 cvX6_141 rfl rfl rfl (Nat.le_of_ble_eq_true rfl) (vX6_need ?_)
        refine ⟨fun hc => absurd hc (by decide), fun _ => ?_⟩
        show ai_W _ _ _ _ _ _ (ai_up S6 0 19 1) _ _
        refine ai_aload_n dX6_heading_50 rfl (j := 1) rfl ?_
        refine ai_getIx 1 dX6_heading_51 fdX6_124 rfl rfl rfl ?_
        refine ai_if_eq (tgt := 58) dX6_heading_54 (by decide) ⟨fun hc => absurd hc (by decide), fun _ => ?_⟩
        exact ai_retv dX6_heading_57 rfl h
      · have h := h.2 hc7
        refine ai_iconst (v := 1) dX6_heading_42 (by decide) ?_
        refine ai_goto (tgt := 47) dX6_heading_43 (by decide) ?_
        refine ai_callVv (As := [.int 1]) (rest := []) dX6_heading_47 cvX6_141 rfl rfl rfl (Nat.le_of_ble_eq_true rfl) (vX6_need ?_)
        refine ⟨fun _ => ?_, fun hc => absurd hc (by decide)⟩
        show ai_W _ _ _ _ _ _ S6 _ _
        refine ai_aload_n dX6_heading_50 rfl (j := 1) rfl ?_
        refine ai_getI dX6_heading_51 fdX6_124 rfl rfl ?_
        refine ai_if_eq (tgt := 58) dX6_heading_54 (by decide) ⟨fun (hc8 : (S6 0 19) = 0) => ?_, fun (hc8 : ¬ (S6 0 19) = 0) => ?_⟩
        · have h := h.1 hc8
          refine ai_bipush (v := 16) dX6_heading_58 (by decide) ?_
          refine ai_aload_n dX6_heading_60 rfl (j := 1) rfl ?_
          refine ai_getI dX6_heading_61 fdX6_201 rfl rfl ?_
          refine ai_imul dX6_heading_64 ?_
          refine ai_aload_n dX6_heading_65 rfl (j := 1) rfl ?_
          refine ai_getI dX6_heading_66 fdX6_198 rfl rfl ?_
          refine ai_iadd dX6_heading_69 ?_
          refine ai_istore (lv' := [(4, .int ((16 * (S6 0 14)) + (S6 0 21))), (3, .int x1), (0, .ref 0), (1, .int p1), (2, .int p2)]) dX6_heading_70 (by decide) rfl ?_
          refine ai_aload_n dX6_heading_72 rfl (j := 2) rfl ?_
          refine ai_dup dX6_heading_73 rfl ?_
          refine ai_getI dX6_heading_74 fdX6_198 rfl rfl ?_
          refine ai_iconst (v := 1) dX6_heading_77 (by decide) ?_
          refine ai_iadd dX6_heading_78 ?_
          refine ai_putI dX6_heading_79 fdX6_198 pdX6_21 rfl rfl rfl rfl ?_
          refine ai_aload_n dX6_heading_82 rfl (j := 2) rfl ?_
          refine ai_iload_n dX6_heading_83 rfl (j := 1) rfl ?_
          refine ai_iconst (v := 2) dX6_heading_84 (by decide) ?_
          refine ai_iload dX6_heading_85 (j := 0) rfl ?_
          refine ai_callVv (As := [.int x1, .int 2, .int ((16 * (S6 0 14)) + (S6 0 21))]) (rest := []) dX6_heading_87 cvX6_192 rfl rfl rfl (Nat.le_of_ble_eq_true rfl) (ai_met.mv h (fun S10 h => ?_))
          refine ai_aload_n dX6_heading_90 rfl (j := 2) rfl ?_
          refine ai_getR dX6_heading_91 fdX6_37 rfl rfl ?_
          refine ai_iload dX6_heading_94 (j := 0) rfl ?_
          refine ai_iconst (v := 0) dX6_heading_96 (by decide) ?_
          refine ai_iast dX6_heading_97 rfl ⟨h.1, ?_⟩
          have hi11 := h.1
          have h := h.2
          refine ai_aload_n dX6_heading_98 rfl (j := 2) rfl ?_
          refine ai_getR dX6_heading_99 fdX6_40 rfl rfl ?_
          refine ai_iload dX6_heading_102 (j := 0) rfl ?_
          refine ai_iconst (v := 0) dX6_heading_104 (by decide) ?_
          refine ai_iast dX6_heading_105 rfl ⟨hi11, ?_⟩
          refine ai_aload_n dX6_heading_106 rfl (j := 2) rfl ?_
          refine ai_dup dX6_heading_107 rfl ?_
          refine ai_getIx (S10 0 37) dX6_heading_108 fdX6_131 rfl rfl rfl ?_
          refine ai_iconst (v := 1) dX6_heading_111 (by decide) ?_
          refine ai_iadd dX6_heading_112 ?_
          refine ai_putI dX6_heading_113 fdX6_131 pdX6_37 rfl rfl rfl rfl ?_
          refine ai_aload_n dX6_heading_116 rfl (j := 2) rfl ?_
          refine ai_bipush (v := 41) dX6_heading_117 (by decide) ?_
          refine ai_callVz (As := [.int 41]) (rest := []) dX6_heading_119 cvX6_159 rfl rfl rfl (Nat.le_of_ble_eq_true rfl) (ai_met.mz h (fun S13 h => ?_) (fun S13 h => ?_))
          · show ai_W _ _ _ _ _ _ _ _ _
            refine ai_if_ne (tgt := 129) dX6_heading_122 (by decide) ⟨fun _ => ?_, fun hc => absurd hc (by decide)⟩
            refine ai_iconst (v := 0) dX6_heading_129 (by decide) ?_
            refine ai_istore (lv' := [(5, .int 0), (4, .int ((16 * (S6 0 14)) + (S6 0 21))), (3, .int x1), (0, .ref 0), (1, .int p1), (2, .int p2)]) dX6_heading_130 (by decide) rfl ?_
            refine ai_iconst (v := 0) dX6_heading_132 (by decide) ?_
            refine ai_istore (lv' := [(6, .int 0), (5, .int 0), (4, .int ((16 * (S6 0 14)) + (S6 0 21))), (3, .int x1), (0, .ref 0), (1, .int p1), (2, .int p2)]) dX6_heading_133 (by decide) rfl ?_
            refine ai_locj (lv' := [(0, .ref 0), (1, .int p1), (2, .int p2), (4, .int ((16 * (S6 0 14)) + (S6 0 21))), (5, .int 0), (6, .int 0)]) [4, 5, 6, 2, 1, 0] rfl ?_
            exact h
          · show ai_W _ _ _ _ _ _ _ _ _
            refine ai_if_ne (tgt := 129) dX6_heading_122 (by decide) ⟨fun hc => absurd hc (by decide), fun _ => ?_⟩
            refine ai_iconst (v := 1) dX6_heading_125 (by decide) ?_
            refine ai_goto (tgt := 130) dX6_heading_126 (by decide) ?_
            refine ai_istore (lv' := [(5, .int 1), (4, .int ((16 * (S6 0 14)) + (S6 0 21))), (3, .int x1), (0, .ref 0), (1, .int p1), (2, .int p2)]) dX6_heading_130 (by decide) rfl ?_
            refine ai_iconst (v := 0) dX6_heading_132 (by decide) ?_
            refine ai_istore (lv' := [(6, .int 0), (5, .int 1), (4, .int ((16 * (S6 0 14)) + (S6 0 21))), (3, .int x1), (0, .ref 0), (1, .int p1), (2, .int p2)]) dX6_heading_133 (by decide) rfl ?_
            refine ai_locj (lv' := [(0, .ref 0), (1, .int p1), (2, .int p2), (4, .int ((16 * (S6 0 14)) + (S6 0 21))), (5, .int 1), (6, .int 0)]) [4, 5, 6, 2, 1, 0] rfl ?_
            exact h
        · have h := h.2 hc8
          exact ai_retv dX6_heading_57 rfl h
    · show ai_W _ _ _ _ _ _ _ _ _
      refine ai_if_eq (tgt := 46) dX6_heading_30 (by decide) ⟨fun _ => ?_, fun hc => absurd hc (by decide)⟩
      refine ai_iconst (v := 0) dX6_heading_46 (by decide) ?_
      refine ai_callVv (As := [.int 0]) (rest := []) dX6_heading_47 cvX6_141 rfl rfl rfl (Nat.le_of_ble_eq_true rfl) (vX6_need ?_)
      refine ⟨fun hc => absurd hc (by decide), fun _ => ?_⟩
      show ai_W _ _ _ _ _ _ (ai_up S6 0 19 1) _ _
      refine ai_aload_n dX6_heading_50 rfl (j := 1) rfl ?_
      refine ai_getIx 1 dX6_heading_51 fdX6_124 rfl rfl rfl ?_
      refine ai_if_eq (tgt := 58) dX6_heading_54 (by decide) ⟨fun hc => absurd hc (by decide), fun _ => ?_⟩
      exact ai_retv dX6_heading_57 rfl h
  · show ai_W _ _ _ _ _ _ _ _ _
    refine ai_if_eq (tgt := 46) dX6_heading_21 (by decide) ⟨fun _ => ?_, fun hc => absurd hc (by decide)⟩
    refine ai_iconst (v := 0) dX6_heading_46 (by decide) ?_
    refine ai_callVv (As := [.int 0]) (rest := []) dX6_heading_47 cvX6_141 rfl rfl rfl (Nat.le_of_ble_eq_true rfl) (vX6_need ?_)
    refine ⟨fun hc => absurd hc (by decide), fun _ => ?_⟩
    show ai_W _ _ _ _ _ _ (ai_up S4 0 19 1) _ _
    refine ai_aload_n dX6_heading_50 rfl (j := 1) rfl ?_
    refine ai_getIx 1 dX6_heading_51 fdX6_124 rfl rfl rfl ?_
    refine ai_if_eq (tgt := 58) dX6_heading_54 (by decide) ⟨fun hc => absurd hc (by decide), fun _ => ?_⟩
    exact ai_retv dX6_heading_57 rfl h
set_option maxHeartbeats 4000000 in
set_option maxRecDepth 100000 in
theorem vX6_heading_0_135 {p1 : Int32} {p2 : Int32} {pr : Int32} {j : Int32} {S : ai_S} {V : ai_V} {G : ai_S → Prop}
    (h : ((7 ≤ j → (vp_in p1 80 ∧ ai_met (uM l D ρ τ) d mX6_push [.ref 0, .int 10, .int p2] (ai_up (ai_up S 17 (p1).toNatClampNeg pr) 13 (p1).toNatClampNeg 20) V (ai_qv V (fun S4 => G S4)))) ∧ (¬ 7 ≤ j → (vp_in p1 80 ∧ ai_met (uM l D ρ τ) d mX6_push [.ref 0, .int 10, .int p2] (ai_up (ai_up S 17 (p1).toNatClampNeg pr) 13 (p1).toNatClampNeg 20) V (ai_qv V (fun S7 => G S7)))))) :
    ai_W (uM l D ρ τ) (d + 1) mX6_heading 135 [(0, .ref 0), (1, .int p1), (2, .int p2), (4, .int pr), (5, .int 0), (6, .int j)] [] S V (ai_qv V G) := by
  refine ai_iload dX6_heading_135 (j := 5) rfl ?_
  refine ai_bipush (v := 7) dX6_heading_137 (by decide) ?_
  refine ai_icmp_ge (tgt := 291) dX6_heading_139 (by decide) ⟨fun (hc1 : 7 ≤ j) => ?_, fun (hc1 : ¬ 7 ≤ j) => ?_⟩
  · have h := h.1 hc1
    refine ai_aload_n dX6_heading_291 rfl (j := 0) rfl ?_
    refine ai_getR dX6_heading_292 fdX6_58 rfl rfl ?_
    refine ai_iload_n dX6_heading_295 rfl (j := 1) rfl ?_
    refine ai_iload dX6_heading_296 (j := 3) rfl ?_
    refine ai_iast dX6_heading_298 rfl ⟨h.1, ?_⟩
    have hi2 := h.1
    have h := h.2
    refine ai_aload_n dX6_heading_299 rfl (j := 0) rfl ?_
    refine ai_getR dX6_heading_300 fdX6_46 rfl rfl ?_
    refine ai_iload_n dX6_heading_303 rfl (j := 1) rfl ?_
    refine ai_bipush (v := 20) dX6_heading_304 (by decide) ?_
    refine ai_iast dX6_heading_306 rfl ⟨hi2, ?_⟩
    refine ai_aload_n dX6_heading_307 rfl (j := 0) rfl ?_
    refine ai_bipush (v := 10) dX6_heading_308 (by decide) ?_
    refine ai_iload_n dX6_heading_310 rfl (j := 2) rfl ?_
    refine ai_callVv (As := [.int 10, .int p2]) (rest := []) dX6_heading_311 cvX6_166 rfl rfl rfl (Nat.le_of_ble_eq_true rfl) (ai_met.mv h (fun S4 h => ?_))
    exact ai_retv dX6_heading_314 rfl h
  · have h := h.2 hc1
    refine ai_iload dX6_heading_142 (j := 4) rfl ?_
    refine ai_if_eq (tgt := 291) dX6_heading_144 (by decide) ⟨fun _ => ?_, fun hc => absurd hc (by decide)⟩
    refine ai_aload_n dX6_heading_291 rfl (j := 0) rfl ?_
    refine ai_getR dX6_heading_292 fdX6_58 rfl rfl ?_
    refine ai_iload_n dX6_heading_295 rfl (j := 1) rfl ?_
    refine ai_iload dX6_heading_296 (j := 3) rfl ?_
    refine ai_iast dX6_heading_298 rfl ⟨h.1, ?_⟩
    have hi5 := h.1
    have h := h.2
    refine ai_aload_n dX6_heading_299 rfl (j := 0) rfl ?_
    refine ai_getR dX6_heading_300 fdX6_46 rfl rfl ?_
    refine ai_iload_n dX6_heading_303 rfl (j := 1) rfl ?_
    refine ai_bipush (v := 20) dX6_heading_304 (by decide) ?_
    refine ai_iast dX6_heading_306 rfl ⟨hi5, ?_⟩
    refine ai_aload_n dX6_heading_307 rfl (j := 0) rfl ?_
    refine ai_bipush (v := 10) dX6_heading_308 (by decide) ?_
    refine ai_iload_n dX6_heading_310 rfl (j := 2) rfl ?_
    refine ai_callVv (As := [.int 10, .int p2]) (rest := []) dX6_heading_311 cvX6_166 rfl rfl rfl (Nat.le_of_ble_eq_true rfl) (ai_met.mv h (fun S7 h => ?_))
    exact ai_retv dX6_heading_314 rfl h
set_option maxHeartbeats 4000000 in
set_option maxRecDepth 100000 in
theorem vX6_heading_1_135 {p1 : Int32} {p2 : Int32} {pr : Int32} {j : Int32} {S : ai_S} {V : ai_V} {G : ai_S → Prop}
    (h : ((7 ≤ j → (vp_in p1 80 ∧ ai_met (uM l D ρ τ) d mX6_push [.ref 0, .int 10, .int p2] (ai_up (ai_up S 17 (p1).toNatClampNeg pr) 13 (p1).toNatClampNeg 20) V (ai_qv V (fun S4 => G S4)))) ∧ (¬ 7 ≤ j → ((¬ (S 0 19) = 0 → (vp_in p1 80 ∧ ai_met (uM l D ρ τ) d mX6_push [.ref 0, .int 10, .int p2] (ai_up (ai_up S 17 (p1).toNatClampNeg pr) 13 (p1).toNatClampNeg 20) V (ai_qv V (fun S8 => G S8)))) ∧ ((S 0 19) = 0 → ai_met (uM l D ρ τ) d mX6_eat [.ref 0, .int 35] S V (ai_qz V (fun b9 S10 => (b9 = true → ai_met (uM l D ρ τ) d mX6_peek [.ref 0] S10 V (ai_qi V (fun x11 S12 => ai_met (uM l D ρ τ) d mX6_isLetter [.ref 0, .int x11] (ai_up S12 0 2 ((S12 0 2) + 1)) V (ai_qz V (fun b13 S14 => (b13 = true → ((6 ≤ j → G (ai_up S14 0 19 1)) ∧ (¬ 6 ≤ j → (((S14 0 19) = 0 → (vp_in pr 32 ∧ ai_met (uM l D ρ τ) d mX6_declare [.ref 0, .int x11, .int 3, .int (j + 1)] (ai_up S14 11 (pr).toNatClampNeg ((S14 11 (pr).toNatClampNeg) ||| ((1 : Int32) <<< (j &&& 31)))) V (ai_qv V (fun S19 => ai_met (uM l D ρ τ) d mX6_eat [.ref 0, .int 44] (ai_up S19 10 (pr).toNatClampNeg ((S19 10 (pr).toNatClampNeg) + 1)) V (ai_qz V (fun b20 S21 => (b20 = true → ai_W (uM l D ρ τ) (d + 1) mX6_heading 135 [(0, .ref 0), (1, .int p1), (2, .int p2), (4, .int pr), (5, .int 1), (6, .int (j + 1))] [] S21 V (ai_qv V G)) ∧ (b20 = false → ai_met (uM l D ρ τ) d mX6_eat [.ref 0, .int 41] S21 V (ai_qz V (fun b22 S23 => (b22 = true → ai_W (uM l D ρ τ) (d + 1) mX6_heading 135 [(0, .ref 0), (1, .int p1), (2, .int p2), (4, .int pr), (5, .int 0), (6, .int (j + 1))] [] S23 V (ai_qv V G)) ∧ (b22 = false → ai_W (uM l D ρ τ) (d + 1) mX6_heading 135 [(0, .ref 0), (1, .int p1), (2, .int p2), (4, .int pr), (5, .int 0), (6, .int (j + 1))] [] (ai_up S23 0 19 1) V (ai_qv V G))))))))))) ∧ (¬ (S14 0 19) = 0 → G S14))))) ∧ (b13 = false → G (ai_up S14 0 19 1))))))) ∧ (b9 = false → ai_met (uM l D ρ τ) d mX6_peek [.ref 0] S10 V (ai_qi V (fun x24 S25 => ai_met (uM l D ρ τ) d mX6_isLetter [.ref 0, .int x24] (ai_up S25 0 2 ((S25 0 2) + 1)) V (ai_qz V (fun b26 S27 => (b26 = true → ((6 ≤ j → G (ai_up S27 0 19 1)) ∧ (¬ 6 ≤ j → (((S27 0 19) = 0 → ai_met (uM l D ρ τ) d mX6_declare [.ref 0, .int x24, .int 4, .int (j + 1)] S27 V (ai_qv V (fun S31 => (vp_in pr 32 ∧ ai_met (uM l D ρ τ) d mX6_eat [.ref 0, .int 44] (ai_up S31 10 (pr).toNatClampNeg ((S31 10 (pr).toNatClampNeg) + 1)) V (ai_qz V (fun b33 S34 => (b33 = true → ai_W (uM l D ρ τ) (d + 1) mX6_heading 135 [(0, .ref 0), (1, .int p1), (2, .int p2), (4, .int pr), (5, .int 1), (6, .int (j + 1))] [] S34 V (ai_qv V G)) ∧ (b33 = false → ai_met (uM l D ρ τ) d mX6_eat [.ref 0, .int 41] S34 V (ai_qz V (fun b35 S36 => (b35 = true → ai_W (uM l D ρ τ) (d + 1) mX6_heading 135 [(0, .ref 0), (1, .int p1), (2, .int p2), (4, .int pr), (5, .int 0), (6, .int (j + 1))] [] S36 V (ai_qv V G)) ∧ (b35 = false → ai_W (uM l D ρ τ) (d + 1) mX6_heading 135 [(0, .ref 0), (1, .int p1), (2, .int p2), (4, .int pr), (5, .int 0), (6, .int (j + 1))] [] (ai_up S36 0 19 1) V (ai_qv V G))))))))))) ∧ (¬ (S27 0 19) = 0 → G S27))))) ∧ (b26 = false → G (ai_up S27 0 19 1)))))))))))))) :
    ai_W (uM l D ρ τ) (d + 1) mX6_heading 135 [(0, .ref 0), (1, .int p1), (2, .int p2), (4, .int pr), (5, .int 1), (6, .int j)] [] S V (ai_qv V G) := by
  refine ai_iload dX6_heading_135 (j := 5) rfl ?_
  refine ai_bipush (v := 7) dX6_heading_137 (by decide) ?_
  refine ai_icmp_ge (tgt := 291) dX6_heading_139 (by decide) ⟨fun (hc1 : 7 ≤ j) => ?_, fun (hc1 : ¬ 7 ≤ j) => ?_⟩
  · have h := h.1 hc1
    refine ai_aload_n dX6_heading_291 rfl (j := 0) rfl ?_
    refine ai_getR dX6_heading_292 fdX6_58 rfl rfl ?_
    refine ai_iload_n dX6_heading_295 rfl (j := 1) rfl ?_
    refine ai_iload dX6_heading_296 (j := 3) rfl ?_
    refine ai_iast dX6_heading_298 rfl ⟨h.1, ?_⟩
    have hi2 := h.1
    have h := h.2
    refine ai_aload_n dX6_heading_299 rfl (j := 0) rfl ?_
    refine ai_getR dX6_heading_300 fdX6_46 rfl rfl ?_
    refine ai_iload_n dX6_heading_303 rfl (j := 1) rfl ?_
    refine ai_bipush (v := 20) dX6_heading_304 (by decide) ?_
    refine ai_iast dX6_heading_306 rfl ⟨hi2, ?_⟩
    refine ai_aload_n dX6_heading_307 rfl (j := 0) rfl ?_
    refine ai_bipush (v := 10) dX6_heading_308 (by decide) ?_
    refine ai_iload_n dX6_heading_310 rfl (j := 2) rfl ?_
    refine ai_callVv (As := [.int 10, .int p2]) (rest := []) dX6_heading_311 cvX6_166 rfl rfl rfl (Nat.le_of_ble_eq_true rfl) (ai_met.mv h (fun S4 h => ?_))
    exact ai_retv dX6_heading_314 rfl h
  · have h := h.2 hc1
    refine ai_iload dX6_heading_142 (j := 4) rfl ?_
    refine ai_if_eq (tgt := 291) dX6_heading_144 (by decide) ⟨fun hc => absurd hc (by decide), fun _ => ?_⟩
    refine ai_aload_n dX6_heading_147 rfl (j := 0) rfl ?_
    refine ai_getI dX6_heading_148 fdX6_124 rfl rfl ?_
    refine ai_if_ne (tgt := 291) dX6_heading_151 (by decide) ⟨fun (hc5 : ¬ (S 0 19) = 0) => ?_, fun (hc5 : (S 0 19) = 0) => ?_⟩
    · have h := h.1 hc5
      refine ai_aload_n dX6_heading_291 rfl (j := 0) rfl ?_
      refine ai_getR dX6_heading_292 fdX6_58 rfl rfl ?_
      refine ai_iload_n dX6_heading_295 rfl (j := 1) rfl ?_
      refine ai_iload dX6_heading_296 (j := 3) rfl ?_
      refine ai_iast dX6_heading_298 rfl ⟨h.1, ?_⟩
      have hi6 := h.1
      have h := h.2
      refine ai_aload_n dX6_heading_299 rfl (j := 0) rfl ?_
      refine ai_getR dX6_heading_300 fdX6_46 rfl rfl ?_
      refine ai_iload_n dX6_heading_303 rfl (j := 1) rfl ?_
      refine ai_bipush (v := 20) dX6_heading_304 (by decide) ?_
      refine ai_iast dX6_heading_306 rfl ⟨hi6, ?_⟩
      refine ai_aload_n dX6_heading_307 rfl (j := 0) rfl ?_
      refine ai_bipush (v := 10) dX6_heading_308 (by decide) ?_
      refine ai_iload_n dX6_heading_310 rfl (j := 2) rfl ?_
      refine ai_callVv (As := [.int 10, .int p2]) (rest := []) dX6_heading_311 cvX6_166 rfl rfl rfl (Nat.le_of_ble_eq_true rfl) (ai_met.mv h (fun S8 h => ?_))
      exact ai_retv dX6_heading_314 rfl h
    · have h := h.2 hc5
      refine ai_aload_n dX6_heading_154 rfl (j := 0) rfl ?_
      refine ai_bipush (v := 35) dX6_heading_155 (by decide) ?_
      refine ai_callVz (As := [.int 35]) (rest := []) dX6_heading_157 cvX6_159 rfl rfl rfl (Nat.le_of_ble_eq_true rfl) (ai_met.mz h (fun S10 h => ?_) (fun S10 h => ?_))
      · show ai_W _ _ _ _ _ _ _ _ _
        refine ai_istore (lv' := [(7, .int 1), (0, .ref 0), (1, .int p1), (2, .int p2), (4, .int pr), (5, .int 1), (6, .int j)]) dX6_heading_160 (by decide) rfl ?_
        refine ai_aload_n dX6_heading_162 rfl (j := 1) rfl ?_
        refine ai_callVi (As := []) (rest := []) dX6_heading_163 cvX6_107 rfl rfl rfl (Nat.le_of_ble_eq_true rfl) (ai_met.mi h (fun x11 S12 h => ?_))
        refine ai_istore_n (lv' := [(3, .int x11), (7, .int 1), (0, .ref 0), (1, .int p1), (2, .int p2), (4, .int pr), (5, .int 1), (6, .int j)]) dX6_heading_166 rfl (by decide) rfl ?_
        refine ai_aload_n dX6_heading_167 rfl (j := 2) rfl ?_
        refine ai_dup dX6_heading_168 rfl ?_
        refine ai_getI dX6_heading_169 fdX6_104 rfl rfl ?_
        refine ai_iconst (v := 1) dX6_heading_172 (by decide) ?_
        refine ai_iadd dX6_heading_173 ?_
        refine ai_putI dX6_heading_174 fdX6_104 pdX6_2 rfl rfl rfl rfl ?_
        refine ai_aload_n dX6_heading_177 rfl (j := 2) rfl ?_
        refine ai_aload_n dX6_heading_178 rfl (j := 2) rfl ?_
        refine ai_iload_n dX6_heading_179 rfl (j := 0) rfl ?_
        refine ai_callVz (As := [.int x11]) (rest := [.ref 0]) dX6_heading_180 cvX6_155 rfl rfl rfl (Nat.le_of_ble_eq_true rfl) (ai_met.mz h (fun S14 h => ?_) (fun S14 h => ?_))
        · show ai_W _ _ _ _ _ _ _ _ _
          refine ai_if_eq (tgt := 197) dX6_heading_183 (by decide) ⟨fun hc => absurd hc (by decide), fun _ => ?_⟩
          refine ai_iload dX6_heading_186 (j := 7) rfl ?_
          refine ai_bipush (v := 6) dX6_heading_188 (by decide) ?_
          refine ai_icmp_ge (tgt := 197) dX6_heading_190 (by decide) ⟨fun (hc15 : 6 ≤ j) => ?_, fun (hc15 : ¬ 6 ≤ j) => ?_⟩
          · have h := h.1 hc15
            refine ai_iconst (v := 0) dX6_heading_197 (by decide) ?_
            refine ai_callVv (As := [.int 0]) (rest := []) dX6_heading_198 cvX6_141 rfl rfl rfl (Nat.le_of_ble_eq_true rfl) (vX6_need ?_)
            refine ⟨fun hc => absurd hc (by decide), fun _ => ?_⟩
            show ai_W _ _ _ _ _ _ (ai_up S14 0 19 1) _ _
            refine ai_aload_n dX6_heading_201 rfl (j := 2) rfl ?_
            refine ai_getIx 1 dX6_heading_202 fdX6_124 rfl rfl rfl ?_
            refine ai_if_eq (tgt := 209) dX6_heading_205 (by decide) ⟨fun hc => absurd hc (by decide), fun _ => ?_⟩
            exact ai_retv dX6_heading_208 rfl h
          · have h := h.2 hc15
            refine ai_iconst (v := 1) dX6_heading_193 (by decide) ?_
            refine ai_goto (tgt := 198) dX6_heading_194 (by decide) ?_
            refine ai_callVv (As := [.int 1]) (rest := []) dX6_heading_198 cvX6_141 rfl rfl rfl (Nat.le_of_ble_eq_true rfl) (vX6_need ?_)
            refine ⟨fun _ => ?_, fun hc => absurd hc (by decide)⟩
            show ai_W _ _ _ _ _ _ S14 _ _
            refine ai_aload_n dX6_heading_201 rfl (j := 2) rfl ?_
            refine ai_getI dX6_heading_202 fdX6_124 rfl rfl ?_
            refine ai_if_eq (tgt := 209) dX6_heading_205 (by decide) ⟨fun (hc16 : (S14 0 19) = 0) => ?_, fun (hc16 : ¬ (S14 0 19) = 0) => ?_⟩
            · have h := h.1 hc16
              refine ai_iload dX6_heading_209 (j := 1) rfl ?_
              refine ai_if_eq (tgt := 233) dX6_heading_211 (by decide) ⟨fun hc => absurd hc (by decide), fun _ => ?_⟩
              refine ai_aload_n dX6_heading_214 rfl (j := 2) rfl ?_
              refine ai_getR dX6_heading_215 fdX6_40 rfl rfl ?_
              refine ai_iload dX6_heading_218 (j := 5) rfl ?_
              refine ai_aload_n dX6_heading_220 rfl (j := 2) rfl ?_
              refine ai_getR dX6_heading_221 fdX6_40 rfl rfl ?_
              refine ai_iload dX6_heading_224 (j := 5) rfl ?_
              refine ai_iald dX6_heading_226 rfl ⟨h.1, ?_⟩
              have hi17 := h.1
              have h := h.2
              refine ai_iconst (v := 1) dX6_heading_227 (by decide) ?_
              refine ai_iload dX6_heading_228 (j := 7) rfl ?_
              refine ai_ishl dX6_heading_230 ?_
              refine ai_ior dX6_heading_231 ?_
              refine ai_iast dX6_heading_232 rfl ⟨hi17, ?_⟩
              refine ai_aload_n dX6_heading_233 rfl (j := 2) rfl ?_
              refine ai_iload_n dX6_heading_234 rfl (j := 0) rfl ?_
              refine ai_iload dX6_heading_235 (j := 1) rfl ?_
              refine ai_if_eq (tgt := 244) dX6_heading_237 (by decide) ⟨fun hc => absurd hc (by decide), fun _ => ?_⟩
              refine ai_iconst (v := 3) dX6_heading_240 (by decide) ?_
              refine ai_goto (tgt := 245) dX6_heading_241 (by decide) ?_
              refine ai_iload dX6_heading_245 (j := 7) rfl ?_
              refine ai_iconst (v := 1) dX6_heading_247 (by decide) ?_
              refine ai_iadd dX6_heading_248 ?_
              refine ai_callVv (As := [.int x11, .int 3, .int (j + 1)]) (rest := []) dX6_heading_249 cvX6_192 rfl rfl rfl (Nat.le_of_ble_eq_true rfl) (ai_met.mv h (fun S19 h => ?_))
              refine ai_aload_n dX6_heading_252 rfl (j := 2) rfl ?_
              refine ai_getR dX6_heading_253 fdX6_37 rfl rfl ?_
              refine ai_iload dX6_heading_256 (j := 5) rfl ?_
              refine ai_dup2 dX6_heading_258 rfl rfl ?_
              refine ai_iald dX6_heading_259 rfl ⟨hi17, ?_⟩
              refine ai_iconst (v := 1) dX6_heading_260 (by decide) ?_
              refine ai_iadd dX6_heading_261 ?_
              refine ai_iast dX6_heading_262 rfl ⟨hi17, ?_⟩
              refine ai_aload_n dX6_heading_263 rfl (j := 2) rfl ?_
              refine ai_bipush (v := 44) dX6_heading_264 (by decide) ?_
              refine ai_callVz (As := [.int 44]) (rest := []) dX6_heading_266 cvX6_159 rfl rfl rfl (Nat.le_of_ble_eq_true rfl) (ai_met.mz h (fun S21 h => ?_) (fun S21 h => ?_))
              · show ai_W _ _ _ _ _ _ _ _ _
                refine ai_if_ne (tgt := 285) dX6_heading_269 (by decide) ⟨fun _ => ?_, fun hc => absurd hc (by decide)⟩
                refine ai_iinc (j := 7) (v := (j + 1)) (lv' := [(6, .int (j + 1)), (3, .int x11), (7, .int 1), (0, .ref 0), (1, .int p1), (2, .int p2), (4, .int pr), (5, .int 1)]) dX6_heading_285 rfl (by first | rfl | decide) (by decide) rfl ?_
                refine ai_goto (tgt := 135) dX6_heading_288 (by decide) ?_
                refine ai_locj (lv' := [(0, .ref 0), (1, .int p1), (2, .int p2), (4, .int pr), (5, .int 1), (6, .int (j + 1))]) [3, 4, 5, 6, 7, 0] rfl ?_
                exact h
              · show ai_W _ _ _ _ _ _ _ _ _
                refine ai_if_ne (tgt := 285) dX6_heading_269 (by decide) ⟨fun hc => absurd hc (by decide), fun _ => ?_⟩
                refine ai_aload_n dX6_heading_272 rfl (j := 2) rfl ?_
                refine ai_aload_n dX6_heading_273 rfl (j := 2) rfl ?_
                refine ai_bipush (v := 41) dX6_heading_274 (by decide) ?_
                refine ai_callVz (As := [.int 41]) (rest := [.ref 0]) dX6_heading_276 cvX6_159 rfl rfl rfl (Nat.le_of_ble_eq_true rfl) (ai_met.mz h (fun S23 h => ?_) (fun S23 h => ?_))
                · show ai_W _ _ _ _ _ _ _ _ _
                  refine ai_callVv (As := [.int 1]) (rest := []) dX6_heading_279 cvX6_141 rfl rfl rfl (Nat.le_of_ble_eq_true rfl) (vX6_need ?_)
                  refine ⟨fun _ => ?_, fun hc => absurd hc (by decide)⟩
                  show ai_W _ _ _ _ _ _ S23 _ _
                  refine ai_iconst (v := 0) dX6_heading_282 (by decide) ?_
                  refine ai_istore (lv' := [(5, .int 0), (3, .int x11), (7, .int 1), (0, .ref 0), (1, .int p1), (2, .int p2), (4, .int pr), (6, .int j)]) dX6_heading_283 (by decide) rfl ?_
                  refine ai_iinc (j := 7) (v := (j + 1)) (lv' := [(6, .int (j + 1)), (5, .int 0), (3, .int x11), (7, .int 1), (0, .ref 0), (1, .int p1), (2, .int p2), (4, .int pr)]) dX6_heading_285 rfl (by first | rfl | decide) (by decide) rfl ?_
                  refine ai_goto (tgt := 135) dX6_heading_288 (by decide) ?_
                  refine ai_locj (lv' := [(0, .ref 0), (1, .int p1), (2, .int p2), (4, .int pr), (5, .int 0), (6, .int (j + 1))]) [4, 5, 6, 7, 1, 0] rfl ?_
                  exact h
                · show ai_W _ _ _ _ _ _ _ _ _
                  refine ai_callVv (As := [.int 0]) (rest := []) dX6_heading_279 cvX6_141 rfl rfl rfl (Nat.le_of_ble_eq_true rfl) (vX6_need ?_)
                  refine ⟨fun hc => absurd hc (by decide), fun _ => ?_⟩
                  show ai_W _ _ _ _ _ _ (ai_up S23 0 19 1) _ _
                  refine ai_iconst (v := 0) dX6_heading_282 (by decide) ?_
                  refine ai_istore (lv' := [(5, .int 0), (3, .int x11), (7, .int 1), (0, .ref 0), (1, .int p1), (2, .int p2), (4, .int pr), (6, .int j)]) dX6_heading_283 (by decide) rfl ?_
                  refine ai_iinc (j := 7) (v := (j + 1)) (lv' := [(6, .int (j + 1)), (5, .int 0), (3, .int x11), (7, .int 1), (0, .ref 0), (1, .int p1), (2, .int p2), (4, .int pr)]) dX6_heading_285 rfl (by first | rfl | decide) (by decide) rfl ?_
                  refine ai_goto (tgt := 135) dX6_heading_288 (by decide) ?_
                  refine ai_locj (lv' := [(0, .ref 0), (1, .int p1), (2, .int p2), (4, .int pr), (5, .int 0), (6, .int (j + 1))]) [4, 5, 6, 7, 1, 0] rfl ?_
                  exact h
            · have h := h.2 hc16
              exact ai_retv dX6_heading_208 rfl h
        · show ai_W _ _ _ _ _ _ _ _ _
          refine ai_if_eq (tgt := 197) dX6_heading_183 (by decide) ⟨fun _ => ?_, fun hc => absurd hc (by decide)⟩
          refine ai_iconst (v := 0) dX6_heading_197 (by decide) ?_
          refine ai_callVv (As := [.int 0]) (rest := []) dX6_heading_198 cvX6_141 rfl rfl rfl (Nat.le_of_ble_eq_true rfl) (vX6_need ?_)
          refine ⟨fun hc => absurd hc (by decide), fun _ => ?_⟩
          show ai_W _ _ _ _ _ _ (ai_up S14 0 19 1) _ _
          refine ai_aload_n dX6_heading_201 rfl (j := 2) rfl ?_
          refine ai_getIx 1 dX6_heading_202 fdX6_124 rfl rfl rfl ?_
          refine ai_if_eq (tgt := 209) dX6_heading_205 (by decide) ⟨fun hc => absurd hc (by decide), fun _ => ?_⟩
          exact ai_retv dX6_heading_208 rfl h
      · show ai_W _ _ _ _ _ _ _ _ _
        refine ai_istore (lv' := [(7, .int 0), (0, .ref 0), (1, .int p1), (2, .int p2), (4, .int pr), (5, .int 1), (6, .int j)]) dX6_heading_160 (by decide) rfl ?_
        refine ai_aload_n dX6_heading_162 rfl (j := 1) rfl ?_
        refine ai_callVi (As := []) (rest := []) dX6_heading_163 cvX6_107 rfl rfl rfl (Nat.le_of_ble_eq_true rfl) (ai_met.mi h (fun x24 S25 h => ?_))
        refine ai_istore_n (lv' := [(3, .int x24), (7, .int 0), (0, .ref 0), (1, .int p1), (2, .int p2), (4, .int pr), (5, .int 1), (6, .int j)]) dX6_heading_166 rfl (by decide) rfl ?_
        refine ai_aload_n dX6_heading_167 rfl (j := 2) rfl ?_
        refine ai_dup dX6_heading_168 rfl ?_
        refine ai_getI dX6_heading_169 fdX6_104 rfl rfl ?_
        refine ai_iconst (v := 1) dX6_heading_172 (by decide) ?_
        refine ai_iadd dX6_heading_173 ?_
        refine ai_putI dX6_heading_174 fdX6_104 pdX6_2 rfl rfl rfl rfl ?_
        refine ai_aload_n dX6_heading_177 rfl (j := 2) rfl ?_
        refine ai_aload_n dX6_heading_178 rfl (j := 2) rfl ?_
        refine ai_iload_n dX6_heading_179 rfl (j := 0) rfl ?_
        refine ai_callVz (As := [.int x24]) (rest := [.ref 0]) dX6_heading_180 cvX6_155 rfl rfl rfl (Nat.le_of_ble_eq_true rfl) (ai_met.mz h (fun S27 h => ?_) (fun S27 h => ?_))
        · show ai_W _ _ _ _ _ _ _ _ _
          refine ai_if_eq (tgt := 197) dX6_heading_183 (by decide) ⟨fun hc => absurd hc (by decide), fun _ => ?_⟩
          refine ai_iload dX6_heading_186 (j := 7) rfl ?_
          refine ai_bipush (v := 6) dX6_heading_188 (by decide) ?_
          refine ai_icmp_ge (tgt := 197) dX6_heading_190 (by decide) ⟨fun (hc28 : 6 ≤ j) => ?_, fun (hc28 : ¬ 6 ≤ j) => ?_⟩
          · have h := h.1 hc28
            refine ai_iconst (v := 0) dX6_heading_197 (by decide) ?_
            refine ai_callVv (As := [.int 0]) (rest := []) dX6_heading_198 cvX6_141 rfl rfl rfl (Nat.le_of_ble_eq_true rfl) (vX6_need ?_)
            refine ⟨fun hc => absurd hc (by decide), fun _ => ?_⟩
            show ai_W _ _ _ _ _ _ (ai_up S27 0 19 1) _ _
            refine ai_aload_n dX6_heading_201 rfl (j := 2) rfl ?_
            refine ai_getIx 1 dX6_heading_202 fdX6_124 rfl rfl rfl ?_
            refine ai_if_eq (tgt := 209) dX6_heading_205 (by decide) ⟨fun hc => absurd hc (by decide), fun _ => ?_⟩
            exact ai_retv dX6_heading_208 rfl h
          · have h := h.2 hc28
            refine ai_iconst (v := 1) dX6_heading_193 (by decide) ?_
            refine ai_goto (tgt := 198) dX6_heading_194 (by decide) ?_
            refine ai_callVv (As := [.int 1]) (rest := []) dX6_heading_198 cvX6_141 rfl rfl rfl (Nat.le_of_ble_eq_true rfl) (vX6_need ?_)
            refine ⟨fun _ => ?_, fun hc => absurd hc (by decide)⟩
            show ai_W _ _ _ _ _ _ S27 _ _
            refine ai_aload_n dX6_heading_201 rfl (j := 2) rfl ?_
            refine ai_getI dX6_heading_202 fdX6_124 rfl rfl ?_
            refine ai_if_eq (tgt := 209) dX6_heading_205 (by decide) ⟨fun (hc29 : (S27 0 19) = 0) => ?_, fun (hc29 : ¬ (S27 0 19) = 0) => ?_⟩
            · have h := h.1 hc29
              refine ai_iload dX6_heading_209 (j := 1) rfl ?_
              refine ai_if_eq (tgt := 233) dX6_heading_211 (by decide) ⟨fun _ => ?_, fun hc => absurd hc (by decide)⟩
              refine ai_aload_n dX6_heading_233 rfl (j := 2) rfl ?_
              refine ai_iload_n dX6_heading_234 rfl (j := 0) rfl ?_
              refine ai_iload dX6_heading_235 (j := 1) rfl ?_
              refine ai_if_eq (tgt := 244) dX6_heading_237 (by decide) ⟨fun _ => ?_, fun hc => absurd hc (by decide)⟩
              refine ai_iconst (v := 4) dX6_heading_244 (by decide) ?_
              refine ai_iload dX6_heading_245 (j := 7) rfl ?_
              refine ai_iconst (v := 1) dX6_heading_247 (by decide) ?_
              refine ai_iadd dX6_heading_248 ?_
              refine ai_callVv (As := [.int x24, .int 4, .int (j + 1)]) (rest := []) dX6_heading_249 cvX6_192 rfl rfl rfl (Nat.le_of_ble_eq_true rfl) (ai_met.mv h (fun S31 h => ?_))
              refine ai_aload_n dX6_heading_252 rfl (j := 2) rfl ?_
              refine ai_getR dX6_heading_253 fdX6_37 rfl rfl ?_
              refine ai_iload dX6_heading_256 (j := 5) rfl ?_
              refine ai_dup2 dX6_heading_258 rfl rfl ?_
              refine ai_iald dX6_heading_259 rfl ⟨h.1, ?_⟩
              have hi32 := h.1
              have h := h.2
              refine ai_iconst (v := 1) dX6_heading_260 (by decide) ?_
              refine ai_iadd dX6_heading_261 ?_
              refine ai_iast dX6_heading_262 rfl ⟨hi32, ?_⟩
              refine ai_aload_n dX6_heading_263 rfl (j := 2) rfl ?_
              refine ai_bipush (v := 44) dX6_heading_264 (by decide) ?_
              refine ai_callVz (As := [.int 44]) (rest := []) dX6_heading_266 cvX6_159 rfl rfl rfl (Nat.le_of_ble_eq_true rfl) (ai_met.mz h (fun S34 h => ?_) (fun S34 h => ?_))
              · show ai_W _ _ _ _ _ _ _ _ _
                refine ai_if_ne (tgt := 285) dX6_heading_269 (by decide) ⟨fun _ => ?_, fun hc => absurd hc (by decide)⟩
                refine ai_iinc (j := 7) (v := (j + 1)) (lv' := [(6, .int (j + 1)), (3, .int x24), (7, .int 0), (0, .ref 0), (1, .int p1), (2, .int p2), (4, .int pr), (5, .int 1)]) dX6_heading_285 rfl (by first | rfl | decide) (by decide) rfl ?_
                refine ai_goto (tgt := 135) dX6_heading_288 (by decide) ?_
                refine ai_locj (lv' := [(0, .ref 0), (1, .int p1), (2, .int p2), (4, .int pr), (5, .int 1), (6, .int (j + 1))]) [3, 4, 5, 6, 7, 0] rfl ?_
                exact h
              · show ai_W _ _ _ _ _ _ _ _ _
                refine ai_if_ne (tgt := 285) dX6_heading_269 (by decide) ⟨fun hc => absurd hc (by decide), fun _ => ?_⟩
                refine ai_aload_n dX6_heading_272 rfl (j := 2) rfl ?_
                refine ai_aload_n dX6_heading_273 rfl (j := 2) rfl ?_
                refine ai_bipush (v := 41) dX6_heading_274 (by decide) ?_
                refine ai_callVz (As := [.int 41]) (rest := [.ref 0]) dX6_heading_276 cvX6_159 rfl rfl rfl (Nat.le_of_ble_eq_true rfl) (ai_met.mz h (fun S36 h => ?_) (fun S36 h => ?_))
                · show ai_W _ _ _ _ _ _ _ _ _
                  refine ai_callVv (As := [.int 1]) (rest := []) dX6_heading_279 cvX6_141 rfl rfl rfl (Nat.le_of_ble_eq_true rfl) (vX6_need ?_)
                  refine ⟨fun _ => ?_, fun hc => absurd hc (by decide)⟩
                  show ai_W _ _ _ _ _ _ S36 _ _
                  refine ai_iconst (v := 0) dX6_heading_282 (by decide) ?_
                  refine ai_istore (lv' := [(5, .int 0), (3, .int x24), (7, .int 0), (0, .ref 0), (1, .int p1), (2, .int p2), (4, .int pr), (6, .int j)]) dX6_heading_283 (by decide) rfl ?_
                  refine ai_iinc (j := 7) (v := (j + 1)) (lv' := [(6, .int (j + 1)), (5, .int 0), (3, .int x24), (7, .int 0), (0, .ref 0), (1, .int p1), (2, .int p2), (4, .int pr)]) dX6_heading_285 rfl (by first | rfl | decide) (by decide) rfl ?_
                  refine ai_goto (tgt := 135) dX6_heading_288 (by decide) ?_
                  refine ai_locj (lv' := [(0, .ref 0), (1, .int p1), (2, .int p2), (4, .int pr), (5, .int 0), (6, .int (j + 1))]) [4, 5, 6, 7, 1, 0] rfl ?_
                  exact h
                · show ai_W _ _ _ _ _ _ _ _ _
                  refine ai_callVv (As := [.int 0]) (rest := []) dX6_heading_279 cvX6_141 rfl rfl rfl (Nat.le_of_ble_eq_true rfl) (vX6_need ?_)
                  refine ⟨fun hc => absurd hc (by decide), fun _ => ?_⟩
                  show ai_W _ _ _ _ _ _ (ai_up S36 0 19 1) _ _
                  refine ai_iconst (v := 0) dX6_heading_282 (by decide) ?_
                  refine ai_istore (lv' := [(5, .int 0), (3, .int x24), (7, .int 0), (0, .ref 0), (1, .int p1), (2, .int p2), (4, .int pr), (6, .int j)]) dX6_heading_283 (by decide) rfl ?_
                  refine ai_iinc (j := 7) (v := (j + 1)) (lv' := [(6, .int (j + 1)), (5, .int 0), (3, .int x24), (7, .int 0), (0, .ref 0), (1, .int p1), (2, .int p2), (4, .int pr)]) dX6_heading_285 rfl (by first | rfl | decide) (by decide) rfl ?_
                  refine ai_goto (tgt := 135) dX6_heading_288 (by decide) ?_
                  refine ai_locj (lv' := [(0, .ref 0), (1, .int p1), (2, .int p2), (4, .int pr), (5, .int 0), (6, .int (j + 1))]) [4, 5, 6, 7, 1, 0] rfl ?_
                  exact h
            · have h := h.2 hc29
              exact ai_retv dX6_heading_208 rfl h
        · show ai_W _ _ _ _ _ _ _ _ _
          refine ai_if_eq (tgt := 197) dX6_heading_183 (by decide) ⟨fun _ => ?_, fun hc => absurd hc (by decide)⟩
          refine ai_iconst (v := 0) dX6_heading_197 (by decide) ?_
          refine ai_callVv (As := [.int 0]) (rest := []) dX6_heading_198 cvX6_141 rfl rfl rfl (Nat.le_of_ble_eq_true rfl) (vX6_need ?_)
          refine ⟨fun hc => absurd hc (by decide), fun _ => ?_⟩
          show ai_W _ _ _ _ _ _ (ai_up S27 0 19 1) _ _
          refine ai_aload_n dX6_heading_201 rfl (j := 2) rfl ?_
          refine ai_getIx 1 dX6_heading_202 fdX6_124 rfl rfl rfl ?_
          refine ai_if_eq (tgt := 209) dX6_heading_205 (by decide) ⟨fun hc => absurd hc (by decide), fun _ => ?_⟩
          exact ai_retv dX6_heading_208 rfl h
set_option maxHeartbeats 4000000 in
set_option maxRecDepth 100000 in
theorem vX6_operand_less {p1 : Int32} {S : ai_S} {V : ai_V} {G : ai_S → Prop}
    (h : ai_met (uM l D ρ τ) d mX6_peek [.ref 0] S V (ai_qi V (fun x1 S2 => ((x1 = 60 → (vp_in p1 80 ∧ (((S2 13 (p1).toNatClampNeg) = 32 → ((¬ (S2 14 (p1).toNatClampNeg) = 0 → ai_W (uM l D ρ τ) (d + 1) mX6_operand 84 [(0, .ref 0), (1, .int p1), (3, .int 60), (4, .int 10), (5, .int 33), (6, .int x1), (7, .int 0), (8, .int (S2 0 31))] [] S2 V (ai_qv V G)) ∧ ((S2 14 (p1).toNatClampNeg) = 0 → ai_met (uM l D ρ τ) d mX6_done [.ref 0, .int (S2 0 31)] S2 V (ai_qv V (fun S8 => G S8))))) ∧ (¬ (S2 13 (p1).toNatClampNeg) = 32 → ((¬ (S2 14 (p1).toNatClampNeg) = 0 → ai_W (uM l D ρ τ) (d + 1) mX6_operand 84 [(0, .ref 0), (1, .int p1), (3, .int 60), (4, .int 10), (5, .int 33), (6, .int x1), (7, .int 1), (8, .int (S2 0 31))] [] S2 V (ai_qv V G)) ∧ ((S2 14 (p1).toNatClampNeg) = 0 → ai_met (uM l D ρ τ) d mX6_fresh [.ref 0, .int 10] S2 V (ai_qi V (fun x10 S11 => ai_W (uM l D ρ τ) (d + 1) mX6_operand 84 [(0, .ref 0), (1, .int p1), (3, .int 60), (4, .int 10), (5, .int 33), (6, .int x1), (7, .int 1), (8, .int (S2 0 31))] [] (ai_up S11 14 (p1).toNatClampNeg x10) V (ai_qv V G))))))))) ∧ (¬ x1 = 60 → (vp_in p1 80 ∧ ((¬ (S2 14 (p1).toNatClampNeg) = 0 → ai_W (uM l D ρ τ) (d + 1) mX6_operand 84 [(0, .ref 0), (1, .int p1), (3, .int 60), (4, .int 10), (5, .int 33), (6, .int x1), (7, .int 0), (8, .int (S2 0 31))] [] S2 V (ai_qv V G)) ∧ ((S2 14 (p1).toNatClampNeg) = 0 → ai_met (uM l D ρ τ) d mX6_done [.ref 0, .int (S2 0 31)] S2 V (ai_qv V (fun S15 => G S15)))))))))) :
    ai_met (uM l D ρ τ) (d + 1) mX6_operand [.ref 0, .int p1, .int 60, .int 60, .int 10, .int 33] S V (ai_qv V G) := by
  refine ai_mof plX6 (Nat.le_of_ble_eq_true rfl) (lv := [(0, .ref 0), (1, .int p1), (2, .int 60), (3, .int 60), (4, .int 10), (5, .int 33)]) rfl ?_
  refine ai_aload_n dX6_operand_0 rfl (j := 0) rfl ?_
  refine ai_callVi (As := []) (rest := []) dX6_operand_1 cvX6_107 rfl rfl rfl (Nat.le_of_ble_eq_true rfl) (ai_met.mi h (fun x1 S2 h => ?_))
  refine ai_istore (lv' := [(6, .int x1), (0, .ref 0), (1, .int p1), (2, .int 60), (3, .int 60), (4, .int 10), (5, .int 33)]) dX6_operand_4 (by decide) rfl ?_
  refine ai_iload dX6_operand_6 (j := 0) rfl ?_
  refine ai_iload_n dX6_operand_8 rfl (j := 3) rfl ?_
  refine ai_icmp_eq (tgt := 18) dX6_operand_9 (by decide) ⟨fun (hc3 : x1 = 60) => ?_, fun (hc3 : ¬ x1 = 60) => ?_⟩
  · have h := h.1 hc3
    refine ai_aload_n dX6_operand_18 rfl (j := 1) rfl ?_
    refine ai_getR dX6_operand_19 fdX6_46 rfl rfl ?_
    refine ai_iload_n dX6_operand_22 rfl (j := 2) rfl ?_
    refine ai_iald dX6_operand_23 rfl ⟨h.1, ?_⟩
    have hi4 := h.1
    have h := h.2
    refine ai_bipush (v := 32) dX6_operand_24 (by decide) ?_
    refine ai_icmp_eq (tgt := 33) dX6_operand_26 (by decide) ⟨fun (hc5 : (S2 13 (p1).toNatClampNeg) = 32) => ?_, fun (hc5 : ¬ (S2 13 (p1).toNatClampNeg) = 32) => ?_⟩
    · have h := h.1 hc5
      refine ai_iconst (v := 0) dX6_operand_33 (by decide) ?_
      refine ai_istore (lv' := [(7, .int 0), (6, .int x1), (0, .ref 0), (1, .int p1), (2, .int 60), (3, .int 60), (4, .int 10), (5, .int 33)]) dX6_operand_34 (by decide) rfl ?_
      refine ai_aload_n dX6_operand_36 rfl (j := 2) rfl ?_
      refine ai_getI dX6_operand_37 fdX6_121 rfl rfl ?_
      refine ai_istore (lv' := [(8, .int (S2 0 31)), (7, .int 0), (6, .int x1), (0, .ref 0), (1, .int p1), (2, .int 60), (3, .int 60), (4, .int 10), (5, .int 33)]) dX6_operand_40 (by decide) rfl ?_
      refine ai_aload_n dX6_operand_42 rfl (j := 3) rfl ?_
      refine ai_getR dX6_operand_43 fdX6_49 rfl rfl ?_
      refine ai_iload_n dX6_operand_46 rfl (j := 4) rfl ?_
      refine ai_iald dX6_operand_47 rfl ⟨hi4, ?_⟩
      refine ai_if_ne (tgt := 63) dX6_operand_48 (by decide) ⟨fun (hc6 : ¬ (S2 14 (p1).toNatClampNeg) = 0) => ?_, fun (hc6 : (S2 14 (p1).toNatClampNeg) = 0) => ?_⟩
      · have h := h.1 hc6
        refine ai_aload_n dX6_operand_63 rfl (j := 3) rfl ?_
        refine ai_getR dX6_operand_64 fdX6_49 rfl rfl ?_
        refine ai_iload_n dX6_operand_67 rfl (j := 4) rfl ?_
        refine ai_iald dX6_operand_68 rfl ⟨hi4, ?_⟩
        refine ai_if_ne (tgt := 84) dX6_operand_69 (by decide) ⟨fun _ => ?_, fun hc => absurd hc hc6⟩
        refine ai_locj (lv' := [(0, .ref 0), (1, .int p1), (3, .int 60), (4, .int 10), (5, .int 33), (6, .int x1), (7, .int 0), (8, .int (S2 0 31))]) [3, 4, 6, 7, 8, 2, 1, 0] rfl ?_
        exact h
      · have h := h.2 hc6
        refine ai_iload dX6_operand_51 (j := 1) rfl ?_
        refine ai_if_ne (tgt := 63) dX6_operand_53 (by decide) ⟨fun hc => absurd hc (by decide), fun _ => ?_⟩
        refine ai_aload_n dX6_operand_56 rfl (j := 3) rfl ?_
        refine ai_iload dX6_operand_57 (j := 0) rfl ?_
        refine ai_callVv (As := [.int (S2 0 31)]) (rest := []) dX6_operand_59 cvX6_177 rfl rfl rfl (Nat.le_of_ble_eq_true rfl) (ai_met.mv h (fun S8 h => ?_))
        exact ai_retv dX6_operand_62 rfl h
    · have h := h.2 hc5
      refine ai_iconst (v := 1) dX6_operand_29 (by decide) ?_
      refine ai_goto (tgt := 34) dX6_operand_30 (by decide) ?_
      refine ai_istore (lv' := [(7, .int 1), (6, .int x1), (0, .ref 0), (1, .int p1), (2, .int 60), (3, .int 60), (4, .int 10), (5, .int 33)]) dX6_operand_34 (by decide) rfl ?_
      refine ai_aload_n dX6_operand_36 rfl (j := 2) rfl ?_
      refine ai_getI dX6_operand_37 fdX6_121 rfl rfl ?_
      refine ai_istore (lv' := [(8, .int (S2 0 31)), (7, .int 1), (6, .int x1), (0, .ref 0), (1, .int p1), (2, .int 60), (3, .int 60), (4, .int 10), (5, .int 33)]) dX6_operand_40 (by decide) rfl ?_
      refine ai_aload_n dX6_operand_42 rfl (j := 3) rfl ?_
      refine ai_getR dX6_operand_43 fdX6_49 rfl rfl ?_
      refine ai_iload_n dX6_operand_46 rfl (j := 4) rfl ?_
      refine ai_iald dX6_operand_47 rfl ⟨hi4, ?_⟩
      refine ai_if_ne (tgt := 63) dX6_operand_48 (by decide) ⟨fun (hc9 : ¬ (S2 14 (p1).toNatClampNeg) = 0) => ?_, fun (hc9 : (S2 14 (p1).toNatClampNeg) = 0) => ?_⟩
      · have h := h.1 hc9
        refine ai_aload_n dX6_operand_63 rfl (j := 3) rfl ?_
        refine ai_getR dX6_operand_64 fdX6_49 rfl rfl ?_
        refine ai_iload_n dX6_operand_67 rfl (j := 4) rfl ?_
        refine ai_iald dX6_operand_68 rfl ⟨hi4, ?_⟩
        refine ai_if_ne (tgt := 84) dX6_operand_69 (by decide) ⟨fun _ => ?_, fun hc => absurd hc hc9⟩
        refine ai_locj (lv' := [(0, .ref 0), (1, .int p1), (3, .int 60), (4, .int 10), (5, .int 33), (6, .int x1), (7, .int 1), (8, .int (S2 0 31))]) [3, 4, 6, 7, 8, 2, 1, 0] rfl ?_
        exact h
      · have h := h.2 hc9
        refine ai_iload dX6_operand_51 (j := 1) rfl ?_
        refine ai_if_ne (tgt := 63) dX6_operand_53 (by decide) ⟨fun _ => ?_, fun hc => absurd hc (by decide)⟩
        refine ai_aload_n dX6_operand_63 rfl (j := 3) rfl ?_
        refine ai_getR dX6_operand_64 fdX6_49 rfl rfl ?_
        refine ai_iload_n dX6_operand_67 rfl (j := 4) rfl ?_
        refine ai_iald dX6_operand_68 rfl ⟨hi4, ?_⟩
        refine ai_if_ne (tgt := 84) dX6_operand_69 (by decide) ⟨fun hc => absurd hc9 hc, fun _ => ?_⟩
        refine ai_aload_n dX6_operand_72 rfl (j := 3) rfl ?_
        refine ai_getR dX6_operand_73 fdX6_49 rfl rfl ?_
        refine ai_iload_n dX6_operand_76 rfl (j := 4) rfl ?_
        refine ai_aload_n dX6_operand_77 rfl (j := 3) rfl ?_
        refine ai_iload dX6_operand_78 (j := 7) rfl ?_
        refine ai_callVi (As := [.int 10]) (rest := [.int p1, .ref 14]) dX6_operand_80 cvX6_137 rfl rfl rfl (Nat.le_of_ble_eq_true rfl) (ai_met.mi h (fun x10 S11 h => ?_))
        refine ai_iast dX6_operand_83 rfl ⟨hi4, ?_⟩
        refine ai_locj (lv' := [(0, .ref 0), (1, .int p1), (3, .int 60), (4, .int 10), (5, .int 33), (6, .int x1), (7, .int 1), (8, .int (S2 0 31))]) [3, 4, 6, 7, 8, 2, 1, 0] rfl ?_
        exact h
  · have h := h.2 hc3
    refine ai_iload dX6_operand_12 (j := 0) rfl ?_
    refine ai_iload_n dX6_operand_14 rfl (j := 4) rfl ?_
    refine ai_icmp_ne (tgt := 33) dX6_operand_15 (by decide) ⟨fun _ => ?_, fun hc => absurd hc hc3⟩
    refine ai_iconst (v := 0) dX6_operand_33 (by decide) ?_
    refine ai_istore (lv' := [(7, .int 0), (6, .int x1), (0, .ref 0), (1, .int p1), (2, .int 60), (3, .int 60), (4, .int 10), (5, .int 33)]) dX6_operand_34 (by decide) rfl ?_
    refine ai_aload_n dX6_operand_36 rfl (j := 2) rfl ?_
    refine ai_getI dX6_operand_37 fdX6_121 rfl rfl ?_
    refine ai_istore (lv' := [(8, .int (S2 0 31)), (7, .int 0), (6, .int x1), (0, .ref 0), (1, .int p1), (2, .int 60), (3, .int 60), (4, .int 10), (5, .int 33)]) dX6_operand_40 (by decide) rfl ?_
    refine ai_aload_n dX6_operand_42 rfl (j := 3) rfl ?_
    refine ai_getR dX6_operand_43 fdX6_49 rfl rfl ?_
    refine ai_iload_n dX6_operand_46 rfl (j := 4) rfl ?_
    refine ai_iald dX6_operand_47 rfl ⟨h.1, ?_⟩
    have hi12 := h.1
    have h := h.2
    refine ai_if_ne (tgt := 63) dX6_operand_48 (by decide) ⟨fun (hc13 : ¬ (S2 14 (p1).toNatClampNeg) = 0) => ?_, fun (hc13 : (S2 14 (p1).toNatClampNeg) = 0) => ?_⟩
    · have h := h.1 hc13
      refine ai_aload_n dX6_operand_63 rfl (j := 3) rfl ?_
      refine ai_getR dX6_operand_64 fdX6_49 rfl rfl ?_
      refine ai_iload_n dX6_operand_67 rfl (j := 4) rfl ?_
      refine ai_iald dX6_operand_68 rfl ⟨hi12, ?_⟩
      refine ai_if_ne (tgt := 84) dX6_operand_69 (by decide) ⟨fun _ => ?_, fun hc => absurd hc hc13⟩
      refine ai_locj (lv' := [(0, .ref 0), (1, .int p1), (3, .int 60), (4, .int 10), (5, .int 33), (6, .int x1), (7, .int 0), (8, .int (S2 0 31))]) [3, 4, 6, 7, 8, 2, 1, 0] rfl ?_
      exact h
    · have h := h.2 hc13
      refine ai_iload dX6_operand_51 (j := 1) rfl ?_
      refine ai_if_ne (tgt := 63) dX6_operand_53 (by decide) ⟨fun hc => absurd hc (by decide), fun _ => ?_⟩
      refine ai_aload_n dX6_operand_56 rfl (j := 3) rfl ?_
      refine ai_iload dX6_operand_57 (j := 0) rfl ?_
      refine ai_callVv (As := [.int (S2 0 31)]) (rest := []) dX6_operand_59 cvX6_177 rfl rfl rfl (Nat.le_of_ble_eq_true rfl) (ai_met.mv h (fun S15 h => ?_))
      exact ai_retv dX6_operand_62 rfl h
set_option maxHeartbeats 4000000 in
set_option maxRecDepth 100000 in
theorem vX6_operand_less0_84 {p1 : Int32} {c : Int32} {n : Int32} {S : ai_S} {V : ai_V} {G : ai_S → Prop}
    (h : (vp_in p1 80 ∧ (vp_in n 700 ∧ ai_met (uM l D ρ τ) d mX6_add [.ref 0, .int p1] (ai_up (ai_up S 0 31 n) 8 (n).toNatClampNeg (S 17 (p1).toNatClampNeg)) V (ai_qv V (fun S4 => ai_met (uM l D ρ τ) d mX6_done [.ref 0, .int (S4 14 (p1).toNatClampNeg)] S4 V (ai_qv V (fun S6 => G S6))))))) :
    ai_W (uM l D ρ τ) (d + 1) mX6_operand 84 [(0, .ref 0), (1, .int p1), (3, .int 60), (4, .int 10), (5, .int 33), (6, .int c), (7, .int 0), (8, .int n)] [] S V (ai_qv V G) := by
  refine ai_aload_n dX6_operand_84 rfl (j := 0) rfl ?_
  refine ai_iload dX6_operand_85 (j := 7) rfl ?_
  refine ai_putI dX6_operand_87 fdX6_121 pdX6_31 rfl rfl rfl rfl ?_
  refine ai_aload_n dX6_operand_90 rfl (j := 0) rfl ?_
  refine ai_getR dX6_operand_91 fdX6_31 rfl rfl ?_
  refine ai_iload dX6_operand_94 (j := 7) rfl ?_
  refine ai_aload_n dX6_operand_96 rfl (j := 0) rfl ?_
  refine ai_getR dX6_operand_97 fdX6_58 rfl rfl ?_
  refine ai_iload_n dX6_operand_100 rfl (j := 1) rfl ?_
  refine ai_ialdx (S 17 (p1).toNatClampNeg) dX6_operand_101 rfl rfl ⟨h.1, ?_⟩
  have hi1 := h.1
  have h := h.2
  refine ai_iast dX6_operand_102 rfl ⟨h.1, ?_⟩
  have hi2 := h.1
  have h := h.2
  refine ai_aload_n dX6_operand_103 rfl (j := 0) rfl ?_
  refine ai_iload_n dX6_operand_104 rfl (j := 1) rfl ?_
  refine ai_callVv (As := [.int p1]) (rest := []) dX6_operand_105 cvX6_180 rfl rfl rfl (Nat.le_of_ble_eq_true rfl) (ai_met.mv h (fun S4 h => ?_))
  refine ai_iload dX6_operand_108 (j := 6) rfl ?_
  refine ai_if_ne (tgt := 124) dX6_operand_110 (by decide) ⟨fun hc => absurd hc (by decide), fun _ => ?_⟩
  refine ai_aload_n dX6_operand_113 rfl (j := 0) rfl ?_
  refine ai_aload_n dX6_operand_114 rfl (j := 0) rfl ?_
  refine ai_getR dX6_operand_115 fdX6_49 rfl rfl ?_
  refine ai_iload_n dX6_operand_118 rfl (j := 1) rfl ?_
  refine ai_iald dX6_operand_119 rfl ⟨hi1, ?_⟩
  refine ai_callVv (As := [.int (S4 14 (p1).toNatClampNeg)]) (rest := []) dX6_operand_120 cvX6_177 rfl rfl rfl (Nat.le_of_ble_eq_true rfl) (ai_met.mv h (fun S6 h => ?_))
  exact ai_retv dX6_operand_123 rfl h
set_option maxHeartbeats 4000000 in
set_option maxRecDepth 100000 in
theorem vX6_operand_less1_84 {p1 : Int32} {c : Int32} {n : Int32} {S : ai_S} {V : ai_V} {G : ai_S → Prop}
    (h : (vp_in p1 80 ∧ (vp_in n 700 ∧ ai_met (uM l D ρ τ) d mX6_add [.ref 0, .int p1] (ai_up (ai_up S 0 31 n) 8 (n).toNatClampNeg (S 17 (p1).toNatClampNeg)) V (ai_qv V (fun S4 => ai_met (uM l D ρ τ) d mX6_push [.ref 0, .int 33, .int (S4 15 (p1).toNatClampNeg)] (ai_up (ai_up (ai_up S4 0 2 ((S4 0 2) + 1)) 17 (p1).toNatClampNeg 3) 13 (p1).toNatClampNeg 32) V (ai_qv V (fun S6 => G S6))))))) :
    ai_W (uM l D ρ τ) (d + 1) mX6_operand 84 [(0, .ref 0), (1, .int p1), (3, .int 60), (4, .int 10), (5, .int 33), (6, .int c), (7, .int 1), (8, .int n)] [] S V (ai_qv V G) := by
  refine ai_aload_n dX6_operand_84 rfl (j := 0) rfl ?_
  refine ai_iload dX6_operand_85 (j := 7) rfl ?_
  refine ai_putI dX6_operand_87 fdX6_121 pdX6_31 rfl rfl rfl rfl ?_
  refine ai_aload_n dX6_operand_90 rfl (j := 0) rfl ?_
  refine ai_getR dX6_operand_91 fdX6_31 rfl rfl ?_
  refine ai_iload dX6_operand_94 (j := 7) rfl ?_
  refine ai_aload_n dX6_operand_96 rfl (j := 0) rfl ?_
  refine ai_getR dX6_operand_97 fdX6_58 rfl rfl ?_
  refine ai_iload_n dX6_operand_100 rfl (j := 1) rfl ?_
  refine ai_ialdx (S 17 (p1).toNatClampNeg) dX6_operand_101 rfl rfl ⟨h.1, ?_⟩
  have hi1 := h.1
  have h := h.2
  refine ai_iast dX6_operand_102 rfl ⟨h.1, ?_⟩
  have hi2 := h.1
  have h := h.2
  refine ai_aload_n dX6_operand_103 rfl (j := 0) rfl ?_
  refine ai_iload_n dX6_operand_104 rfl (j := 1) rfl ?_
  refine ai_callVv (As := [.int p1]) (rest := []) dX6_operand_105 cvX6_180 rfl rfl rfl (Nat.le_of_ble_eq_true rfl) (ai_met.mv h (fun S4 h => ?_))
  refine ai_iload dX6_operand_108 (j := 6) rfl ?_
  refine ai_if_ne (tgt := 124) dX6_operand_110 (by decide) ⟨fun _ => ?_, fun hc => absurd hc (by decide)⟩
  refine ai_aload_n dX6_operand_124 rfl (j := 0) rfl ?_
  refine ai_dup dX6_operand_125 rfl ?_
  refine ai_getI dX6_operand_126 fdX6_104 rfl rfl ?_
  refine ai_iconst (v := 1) dX6_operand_129 (by decide) ?_
  refine ai_iadd dX6_operand_130 ?_
  refine ai_putI dX6_operand_131 fdX6_104 pdX6_2 rfl rfl rfl rfl ?_
  refine ai_aload_n dX6_operand_134 rfl (j := 0) rfl ?_
  refine ai_getR dX6_operand_135 fdX6_58 rfl rfl ?_
  refine ai_iload_n dX6_operand_138 rfl (j := 1) rfl ?_
  refine ai_iload dX6_operand_139 (j := 3) rfl ?_
  refine ai_bipush (v := 12) dX6_operand_141 (by decide) ?_
  refine ai_icmp_ne (tgt := 150) dX6_operand_143 (by decide) ⟨fun _ => ?_, fun hc => absurd hc (by decide)⟩
  refine ai_iload dX6_operand_150 (j := 3) rfl ?_
  refine ai_bipush (v := 10) dX6_operand_152 (by decide) ?_
  refine ai_icmp_ne (tgt := 161) dX6_operand_154 (by decide) ⟨fun hc => absurd hc (by decide), fun _ => ?_⟩
  refine ai_iconst (v := 3) dX6_operand_157 (by decide) ?_
  refine ai_goto (tgt := 172) dX6_operand_158 (by decide) ?_
  refine ai_iast dX6_operand_172 rfl ⟨hi1, ?_⟩
  refine ai_iload dX6_operand_173 (j := 3) rfl ?_
  refine ai_bipush (v := 10) dX6_operand_175 (by decide) ?_
  refine ai_icmp_ne (tgt := 188) dX6_operand_177 (by decide) ⟨fun hc => absurd hc (by decide), fun _ => ?_⟩
  refine ai_aload_n dX6_operand_180 rfl (j := 0) rfl ?_
  refine ai_getR dX6_operand_181 fdX6_46 rfl rfl ?_
  refine ai_iload_n dX6_operand_184 rfl (j := 1) rfl ?_
  refine ai_bipush (v := 32) dX6_operand_185 (by decide) ?_
  refine ai_iast dX6_operand_187 rfl ⟨hi1, ?_⟩
  refine ai_aload_n dX6_operand_188 rfl (j := 0) rfl ?_
  refine ai_iload dX6_operand_189 (j := 4) rfl ?_
  refine ai_aload_n dX6_operand_191 rfl (j := 0) rfl ?_
  refine ai_getR dX6_operand_192 fdX6_52 rfl rfl ?_
  refine ai_iload_n dX6_operand_195 rfl (j := 1) rfl ?_
  refine ai_ialdx (S4 15 (p1).toNatClampNeg) dX6_operand_196 rfl rfl ⟨hi1, ?_⟩
  refine ai_callVv (As := [.int 33, .int (S4 15 (p1).toNatClampNeg)]) (rest := []) dX6_operand_197 cvX6_166 rfl rfl rfl (Nat.le_of_ble_eq_true rfl) (ai_met.mv h (fun S6 h => ?_))
  exact ai_retv dX6_operand_200 rfl h
set_option maxHeartbeats 4000000 in
set_option maxRecDepth 100000 in
theorem vX6_operand_sum {p1 : Int32} {S : ai_S} {V : ai_V} {G : ai_S → Prop}
    (h : ai_met (uM l D ρ τ) d mX6_peek [.ref 0] S V (ai_qi V (fun x1 S2 => ((x1 = 43 → (vp_in p1 80 ∧ (((S2 13 (p1).toNatClampNeg) = 32 → ((¬ (S2 14 (p1).toNatClampNeg) = 0 → ai_W (uM l D ρ τ) (d + 1) mX6_operand 84 [(0, .ref 0), (1, .int p1), (3, .int 45), (4, .int 11), (5, .int 36), (6, .int x1), (7, .int 0), (8, .int (S2 0 31))] [] S2 V (ai_qv V G)) ∧ ((S2 14 (p1).toNatClampNeg) = 0 → ai_met (uM l D ρ τ) d mX6_done [.ref 0, .int (S2 0 31)] S2 V (ai_qv V (fun S8 => G S8))))) ∧ (¬ (S2 13 (p1).toNatClampNeg) = 32 → ((¬ (S2 14 (p1).toNatClampNeg) = 0 → ai_W (uM l D ρ τ) (d + 1) mX6_operand 84 [(0, .ref 0), (1, .int p1), (3, .int 45), (4, .int 11), (5, .int 36), (6, .int x1), (7, .int 1), (8, .int (S2 0 31))] [] S2 V (ai_qv V G)) ∧ ((S2 14 (p1).toNatClampNeg) = 0 → ai_met (uM l D ρ τ) d mX6_fresh [.ref 0, .int 11] S2 V (ai_qi V (fun x10 S11 => ai_W (uM l D ρ τ) (d + 1) mX6_operand 84 [(0, .ref 0), (1, .int p1), (3, .int 45), (4, .int 11), (5, .int 36), (6, .int x1), (7, .int 1), (8, .int (S2 0 31))] [] (ai_up S11 14 (p1).toNatClampNeg x10) V (ai_qv V G))))))))) ∧ (¬ x1 = 43 → ((¬ x1 = 45 → (vp_in p1 80 ∧ ((¬ (S2 14 (p1).toNatClampNeg) = 0 → ai_W (uM l D ρ τ) (d + 1) mX6_operand 84 [(0, .ref 0), (1, .int p1), (3, .int 45), (4, .int 11), (5, .int 36), (6, .int x1), (7, .int 0), (8, .int (S2 0 31))] [] S2 V (ai_qv V G)) ∧ ((S2 14 (p1).toNatClampNeg) = 0 → ai_met (uM l D ρ τ) d mX6_done [.ref 0, .int (S2 0 31)] S2 V (ai_qv V (fun S16 => G S16)))))) ∧ (x1 = 45 → (vp_in p1 80 ∧ (((S2 13 (p1).toNatClampNeg) = 32 → ((¬ (S2 14 (p1).toNatClampNeg) = 0 → ai_W (uM l D ρ τ) (d + 1) mX6_operand 84 [(0, .ref 0), (1, .int p1), (3, .int 45), (4, .int 11), (5, .int 36), (6, .int x1), (7, .int 0), (8, .int (S2 0 31))] [] S2 V (ai_qv V G)) ∧ ((S2 14 (p1).toNatClampNeg) = 0 → ai_met (uM l D ρ τ) d mX6_done [.ref 0, .int (S2 0 31)] S2 V (ai_qv V (fun S21 => G S21))))) ∧ (¬ (S2 13 (p1).toNatClampNeg) = 32 → ((¬ (S2 14 (p1).toNatClampNeg) = 0 → ai_W (uM l D ρ τ) (d + 1) mX6_operand 84 [(0, .ref 0), (1, .int p1), (3, .int 45), (4, .int 11), (5, .int 36), (6, .int x1), (7, .int 1), (8, .int (S2 0 31))] [] S2 V (ai_qv V G)) ∧ ((S2 14 (p1).toNatClampNeg) = 0 → ai_met (uM l D ρ τ) d mX6_fresh [.ref 0, .int 11] S2 V (ai_qi V (fun x23 S24 => ai_W (uM l D ρ τ) (d + 1) mX6_operand 84 [(0, .ref 0), (1, .int p1), (3, .int 45), (4, .int 11), (5, .int 36), (6, .int x1), (7, .int 1), (8, .int (S2 0 31))] [] (ai_up S24 14 (p1).toNatClampNeg x23) V (ai_qv V G))))))))))))))) :
    ai_met (uM l D ρ τ) (d + 1) mX6_operand [.ref 0, .int p1, .int 43, .int 45, .int 11, .int 36] S V (ai_qv V G) := by
  refine ai_mof plX6 (Nat.le_of_ble_eq_true rfl) (lv := [(0, .ref 0), (1, .int p1), (2, .int 43), (3, .int 45), (4, .int 11), (5, .int 36)]) rfl ?_
  refine ai_aload_n dX6_operand_0 rfl (j := 0) rfl ?_
  refine ai_callVi (As := []) (rest := []) dX6_operand_1 cvX6_107 rfl rfl rfl (Nat.le_of_ble_eq_true rfl) (ai_met.mi h (fun x1 S2 h => ?_))
  refine ai_istore (lv' := [(6, .int x1), (0, .ref 0), (1, .int p1), (2, .int 43), (3, .int 45), (4, .int 11), (5, .int 36)]) dX6_operand_4 (by decide) rfl ?_
  refine ai_iload dX6_operand_6 (j := 0) rfl ?_
  refine ai_iload_n dX6_operand_8 rfl (j := 3) rfl ?_
  refine ai_icmp_eq (tgt := 18) dX6_operand_9 (by decide) ⟨fun (hc3 : x1 = 43) => ?_, fun (hc3 : ¬ x1 = 43) => ?_⟩
  · have h := h.1 hc3
    refine ai_aload_n dX6_operand_18 rfl (j := 1) rfl ?_
    refine ai_getR dX6_operand_19 fdX6_46 rfl rfl ?_
    refine ai_iload_n dX6_operand_22 rfl (j := 2) rfl ?_
    refine ai_iald dX6_operand_23 rfl ⟨h.1, ?_⟩
    have hi4 := h.1
    have h := h.2
    refine ai_bipush (v := 32) dX6_operand_24 (by decide) ?_
    refine ai_icmp_eq (tgt := 33) dX6_operand_26 (by decide) ⟨fun (hc5 : (S2 13 (p1).toNatClampNeg) = 32) => ?_, fun (hc5 : ¬ (S2 13 (p1).toNatClampNeg) = 32) => ?_⟩
    · have h := h.1 hc5
      refine ai_iconst (v := 0) dX6_operand_33 (by decide) ?_
      refine ai_istore (lv' := [(7, .int 0), (6, .int x1), (0, .ref 0), (1, .int p1), (2, .int 43), (3, .int 45), (4, .int 11), (5, .int 36)]) dX6_operand_34 (by decide) rfl ?_
      refine ai_aload_n dX6_operand_36 rfl (j := 2) rfl ?_
      refine ai_getI dX6_operand_37 fdX6_121 rfl rfl ?_
      refine ai_istore (lv' := [(8, .int (S2 0 31)), (7, .int 0), (6, .int x1), (0, .ref 0), (1, .int p1), (2, .int 43), (3, .int 45), (4, .int 11), (5, .int 36)]) dX6_operand_40 (by decide) rfl ?_
      refine ai_aload_n dX6_operand_42 rfl (j := 3) rfl ?_
      refine ai_getR dX6_operand_43 fdX6_49 rfl rfl ?_
      refine ai_iload_n dX6_operand_46 rfl (j := 4) rfl ?_
      refine ai_iald dX6_operand_47 rfl ⟨hi4, ?_⟩
      refine ai_if_ne (tgt := 63) dX6_operand_48 (by decide) ⟨fun (hc6 : ¬ (S2 14 (p1).toNatClampNeg) = 0) => ?_, fun (hc6 : (S2 14 (p1).toNatClampNeg) = 0) => ?_⟩
      · have h := h.1 hc6
        refine ai_aload_n dX6_operand_63 rfl (j := 3) rfl ?_
        refine ai_getR dX6_operand_64 fdX6_49 rfl rfl ?_
        refine ai_iload_n dX6_operand_67 rfl (j := 4) rfl ?_
        refine ai_iald dX6_operand_68 rfl ⟨hi4, ?_⟩
        refine ai_if_ne (tgt := 84) dX6_operand_69 (by decide) ⟨fun _ => ?_, fun hc => absurd hc hc6⟩
        refine ai_locj (lv' := [(0, .ref 0), (1, .int p1), (3, .int 45), (4, .int 11), (5, .int 36), (6, .int x1), (7, .int 0), (8, .int (S2 0 31))]) [3, 4, 6, 7, 8, 2, 1, 0] rfl ?_
        exact h
      · have h := h.2 hc6
        refine ai_iload dX6_operand_51 (j := 1) rfl ?_
        refine ai_if_ne (tgt := 63) dX6_operand_53 (by decide) ⟨fun hc => absurd hc (by decide), fun _ => ?_⟩
        refine ai_aload_n dX6_operand_56 rfl (j := 3) rfl ?_
        refine ai_iload dX6_operand_57 (j := 0) rfl ?_
        refine ai_callVv (As := [.int (S2 0 31)]) (rest := []) dX6_operand_59 cvX6_177 rfl rfl rfl (Nat.le_of_ble_eq_true rfl) (ai_met.mv h (fun S8 h => ?_))
        exact ai_retv dX6_operand_62 rfl h
    · have h := h.2 hc5
      refine ai_iconst (v := 1) dX6_operand_29 (by decide) ?_
      refine ai_goto (tgt := 34) dX6_operand_30 (by decide) ?_
      refine ai_istore (lv' := [(7, .int 1), (6, .int x1), (0, .ref 0), (1, .int p1), (2, .int 43), (3, .int 45), (4, .int 11), (5, .int 36)]) dX6_operand_34 (by decide) rfl ?_
      refine ai_aload_n dX6_operand_36 rfl (j := 2) rfl ?_
      refine ai_getI dX6_operand_37 fdX6_121 rfl rfl ?_
      refine ai_istore (lv' := [(8, .int (S2 0 31)), (7, .int 1), (6, .int x1), (0, .ref 0), (1, .int p1), (2, .int 43), (3, .int 45), (4, .int 11), (5, .int 36)]) dX6_operand_40 (by decide) rfl ?_
      refine ai_aload_n dX6_operand_42 rfl (j := 3) rfl ?_
      refine ai_getR dX6_operand_43 fdX6_49 rfl rfl ?_
      refine ai_iload_n dX6_operand_46 rfl (j := 4) rfl ?_
      refine ai_iald dX6_operand_47 rfl ⟨hi4, ?_⟩
      refine ai_if_ne (tgt := 63) dX6_operand_48 (by decide) ⟨fun (hc9 : ¬ (S2 14 (p1).toNatClampNeg) = 0) => ?_, fun (hc9 : (S2 14 (p1).toNatClampNeg) = 0) => ?_⟩
      · have h := h.1 hc9
        refine ai_aload_n dX6_operand_63 rfl (j := 3) rfl ?_
        refine ai_getR dX6_operand_64 fdX6_49 rfl rfl ?_
        refine ai_iload_n dX6_operand_67 rfl (j := 4) rfl ?_
        refine ai_iald dX6_operand_68 rfl ⟨hi4, ?_⟩
        refine ai_if_ne (tgt := 84) dX6_operand_69 (by decide) ⟨fun _ => ?_, fun hc => absurd hc hc9⟩
        refine ai_locj (lv' := [(0, .ref 0), (1, .int p1), (3, .int 45), (4, .int 11), (5, .int 36), (6, .int x1), (7, .int 1), (8, .int (S2 0 31))]) [3, 4, 6, 7, 8, 2, 1, 0] rfl ?_
        exact h
      · have h := h.2 hc9
        refine ai_iload dX6_operand_51 (j := 1) rfl ?_
        refine ai_if_ne (tgt := 63) dX6_operand_53 (by decide) ⟨fun _ => ?_, fun hc => absurd hc (by decide)⟩
        refine ai_aload_n dX6_operand_63 rfl (j := 3) rfl ?_
        refine ai_getR dX6_operand_64 fdX6_49 rfl rfl ?_
        refine ai_iload_n dX6_operand_67 rfl (j := 4) rfl ?_
        refine ai_iald dX6_operand_68 rfl ⟨hi4, ?_⟩
        refine ai_if_ne (tgt := 84) dX6_operand_69 (by decide) ⟨fun hc => absurd hc9 hc, fun _ => ?_⟩
        refine ai_aload_n dX6_operand_72 rfl (j := 3) rfl ?_
        refine ai_getR dX6_operand_73 fdX6_49 rfl rfl ?_
        refine ai_iload_n dX6_operand_76 rfl (j := 4) rfl ?_
        refine ai_aload_n dX6_operand_77 rfl (j := 3) rfl ?_
        refine ai_iload dX6_operand_78 (j := 7) rfl ?_
        refine ai_callVi (As := [.int 11]) (rest := [.int p1, .ref 14]) dX6_operand_80 cvX6_137 rfl rfl rfl (Nat.le_of_ble_eq_true rfl) (ai_met.mi h (fun x10 S11 h => ?_))
        refine ai_iast dX6_operand_83 rfl ⟨hi4, ?_⟩
        refine ai_locj (lv' := [(0, .ref 0), (1, .int p1), (3, .int 45), (4, .int 11), (5, .int 36), (6, .int x1), (7, .int 1), (8, .int (S2 0 31))]) [3, 4, 6, 7, 8, 2, 1, 0] rfl ?_
        exact h
  · have h := h.2 hc3
    refine ai_iload dX6_operand_12 (j := 0) rfl ?_
    refine ai_iload_n dX6_operand_14 rfl (j := 4) rfl ?_
    refine ai_icmp_ne (tgt := 33) dX6_operand_15 (by decide) ⟨fun (hc12 : ¬ x1 = 45) => ?_, fun (hc12 : x1 = 45) => ?_⟩
    · have h := h.1 hc12
      refine ai_iconst (v := 0) dX6_operand_33 (by decide) ?_
      refine ai_istore (lv' := [(7, .int 0), (6, .int x1), (0, .ref 0), (1, .int p1), (2, .int 43), (3, .int 45), (4, .int 11), (5, .int 36)]) dX6_operand_34 (by decide) rfl ?_
      refine ai_aload_n dX6_operand_36 rfl (j := 2) rfl ?_
      refine ai_getI dX6_operand_37 fdX6_121 rfl rfl ?_
      refine ai_istore (lv' := [(8, .int (S2 0 31)), (7, .int 0), (6, .int x1), (0, .ref 0), (1, .int p1), (2, .int 43), (3, .int 45), (4, .int 11), (5, .int 36)]) dX6_operand_40 (by decide) rfl ?_
      refine ai_aload_n dX6_operand_42 rfl (j := 3) rfl ?_
      refine ai_getR dX6_operand_43 fdX6_49 rfl rfl ?_
      refine ai_iload_n dX6_operand_46 rfl (j := 4) rfl ?_
      refine ai_iald dX6_operand_47 rfl ⟨h.1, ?_⟩
      have hi13 := h.1
      have h := h.2
      refine ai_if_ne (tgt := 63) dX6_operand_48 (by decide) ⟨fun (hc14 : ¬ (S2 14 (p1).toNatClampNeg) = 0) => ?_, fun (hc14 : (S2 14 (p1).toNatClampNeg) = 0) => ?_⟩
      · have h := h.1 hc14
        refine ai_aload_n dX6_operand_63 rfl (j := 3) rfl ?_
        refine ai_getR dX6_operand_64 fdX6_49 rfl rfl ?_
        refine ai_iload_n dX6_operand_67 rfl (j := 4) rfl ?_
        refine ai_iald dX6_operand_68 rfl ⟨hi13, ?_⟩
        refine ai_if_ne (tgt := 84) dX6_operand_69 (by decide) ⟨fun _ => ?_, fun hc => absurd hc hc14⟩
        refine ai_locj (lv' := [(0, .ref 0), (1, .int p1), (3, .int 45), (4, .int 11), (5, .int 36), (6, .int x1), (7, .int 0), (8, .int (S2 0 31))]) [3, 4, 6, 7, 8, 2, 1, 0] rfl ?_
        exact h
      · have h := h.2 hc14
        refine ai_iload dX6_operand_51 (j := 1) rfl ?_
        refine ai_if_ne (tgt := 63) dX6_operand_53 (by decide) ⟨fun hc => absurd hc (by decide), fun _ => ?_⟩
        refine ai_aload_n dX6_operand_56 rfl (j := 3) rfl ?_
        refine ai_iload dX6_operand_57 (j := 0) rfl ?_
        refine ai_callVv (As := [.int (S2 0 31)]) (rest := []) dX6_operand_59 cvX6_177 rfl rfl rfl (Nat.le_of_ble_eq_true rfl) (ai_met.mv h (fun S16 h => ?_))
        exact ai_retv dX6_operand_62 rfl h
    · have h := h.2 hc12
      refine ai_aload_n dX6_operand_18 rfl (j := 1) rfl ?_
      refine ai_getR dX6_operand_19 fdX6_46 rfl rfl ?_
      refine ai_iload_n dX6_operand_22 rfl (j := 2) rfl ?_
      refine ai_iald dX6_operand_23 rfl ⟨h.1, ?_⟩
      have hi17 := h.1
      have h := h.2
      refine ai_bipush (v := 32) dX6_operand_24 (by decide) ?_
      refine ai_icmp_eq (tgt := 33) dX6_operand_26 (by decide) ⟨fun (hc18 : (S2 13 (p1).toNatClampNeg) = 32) => ?_, fun (hc18 : ¬ (S2 13 (p1).toNatClampNeg) = 32) => ?_⟩
      · have h := h.1 hc18
        refine ai_iconst (v := 0) dX6_operand_33 (by decide) ?_
        refine ai_istore (lv' := [(7, .int 0), (6, .int x1), (0, .ref 0), (1, .int p1), (2, .int 43), (3, .int 45), (4, .int 11), (5, .int 36)]) dX6_operand_34 (by decide) rfl ?_
        refine ai_aload_n dX6_operand_36 rfl (j := 2) rfl ?_
        refine ai_getI dX6_operand_37 fdX6_121 rfl rfl ?_
        refine ai_istore (lv' := [(8, .int (S2 0 31)), (7, .int 0), (6, .int x1), (0, .ref 0), (1, .int p1), (2, .int 43), (3, .int 45), (4, .int 11), (5, .int 36)]) dX6_operand_40 (by decide) rfl ?_
        refine ai_aload_n dX6_operand_42 rfl (j := 3) rfl ?_
        refine ai_getR dX6_operand_43 fdX6_49 rfl rfl ?_
        refine ai_iload_n dX6_operand_46 rfl (j := 4) rfl ?_
        refine ai_iald dX6_operand_47 rfl ⟨hi17, ?_⟩
        refine ai_if_ne (tgt := 63) dX6_operand_48 (by decide) ⟨fun (hc19 : ¬ (S2 14 (p1).toNatClampNeg) = 0) => ?_, fun (hc19 : (S2 14 (p1).toNatClampNeg) = 0) => ?_⟩
        · have h := h.1 hc19
          refine ai_aload_n dX6_operand_63 rfl (j := 3) rfl ?_
          refine ai_getR dX6_operand_64 fdX6_49 rfl rfl ?_
          refine ai_iload_n dX6_operand_67 rfl (j := 4) rfl ?_
          refine ai_iald dX6_operand_68 rfl ⟨hi17, ?_⟩
          refine ai_if_ne (tgt := 84) dX6_operand_69 (by decide) ⟨fun _ => ?_, fun hc => absurd hc hc19⟩
          refine ai_locj (lv' := [(0, .ref 0), (1, .int p1), (3, .int 45), (4, .int 11), (5, .int 36), (6, .int x1), (7, .int 0), (8, .int (S2 0 31))]) [3, 4, 6, 7, 8, 2, 1, 0] rfl ?_
          exact h
        · have h := h.2 hc19
          refine ai_iload dX6_operand_51 (j := 1) rfl ?_
          refine ai_if_ne (tgt := 63) dX6_operand_53 (by decide) ⟨fun hc => absurd hc (by decide), fun _ => ?_⟩
          refine ai_aload_n dX6_operand_56 rfl (j := 3) rfl ?_
          refine ai_iload dX6_operand_57 (j := 0) rfl ?_
          refine ai_callVv (As := [.int (S2 0 31)]) (rest := []) dX6_operand_59 cvX6_177 rfl rfl rfl (Nat.le_of_ble_eq_true rfl) (ai_met.mv h (fun S21 h => ?_))
          exact ai_retv dX6_operand_62 rfl h
      · have h := h.2 hc18
        refine ai_iconst (v := 1) dX6_operand_29 (by decide) ?_
        refine ai_goto (tgt := 34) dX6_operand_30 (by decide) ?_
        refine ai_istore (lv' := [(7, .int 1), (6, .int x1), (0, .ref 0), (1, .int p1), (2, .int 43), (3, .int 45), (4, .int 11), (5, .int 36)]) dX6_operand_34 (by decide) rfl ?_
        refine ai_aload_n dX6_operand_36 rfl (j := 2) rfl ?_
        refine ai_getI dX6_operand_37 fdX6_121 rfl rfl ?_
        refine ai_istore (lv' := [(8, .int (S2 0 31)), (7, .int 1), (6, .int x1), (0, .ref 0), (1, .int p1), (2, .int 43), (3, .int 45), (4, .int 11), (5, .int 36)]) dX6_operand_40 (by decide) rfl ?_
        refine ai_aload_n dX6_operand_42 rfl (j := 3) rfl ?_
        refine ai_getR dX6_operand_43 fdX6_49 rfl rfl ?_
        refine ai_iload_n dX6_operand_46 rfl (j := 4) rfl ?_
        refine ai_iald dX6_operand_47 rfl ⟨hi17, ?_⟩
        refine ai_if_ne (tgt := 63) dX6_operand_48 (by decide) ⟨fun (hc22 : ¬ (S2 14 (p1).toNatClampNeg) = 0) => ?_, fun (hc22 : (S2 14 (p1).toNatClampNeg) = 0) => ?_⟩
        · have h := h.1 hc22
          refine ai_aload_n dX6_operand_63 rfl (j := 3) rfl ?_
          refine ai_getR dX6_operand_64 fdX6_49 rfl rfl ?_
          refine ai_iload_n dX6_operand_67 rfl (j := 4) rfl ?_
          refine ai_iald dX6_operand_68 rfl ⟨hi17, ?_⟩
          refine ai_if_ne (tgt := 84) dX6_operand_69 (by decide) ⟨fun _ => ?_, fun hc => absurd hc hc22⟩
          refine ai_locj (lv' := [(0, .ref 0), (1, .int p1), (3, .int 45), (4, .int 11), (5, .int 36), (6, .int x1), (7, .int 1), (8, .int (S2 0 31))]) [3, 4, 6, 7, 8, 2, 1, 0] rfl ?_
          exact h
        · have h := h.2 hc22
          refine ai_iload dX6_operand_51 (j := 1) rfl ?_
          refine ai_if_ne (tgt := 63) dX6_operand_53 (by decide) ⟨fun _ => ?_, fun hc => absurd hc (by decide)⟩
          refine ai_aload_n dX6_operand_63 rfl (j := 3) rfl ?_
          refine ai_getR dX6_operand_64 fdX6_49 rfl rfl ?_
          refine ai_iload_n dX6_operand_67 rfl (j := 4) rfl ?_
          refine ai_iald dX6_operand_68 rfl ⟨hi17, ?_⟩
          refine ai_if_ne (tgt := 84) dX6_operand_69 (by decide) ⟨fun hc => absurd hc22 hc, fun _ => ?_⟩
          refine ai_aload_n dX6_operand_72 rfl (j := 3) rfl ?_
          refine ai_getR dX6_operand_73 fdX6_49 rfl rfl ?_
          refine ai_iload_n dX6_operand_76 rfl (j := 4) rfl ?_
          refine ai_aload_n dX6_operand_77 rfl (j := 3) rfl ?_
          refine ai_iload dX6_operand_78 (j := 7) rfl ?_
          refine ai_callVi (As := [.int 11]) (rest := [.int p1, .ref 14]) dX6_operand_80 cvX6_137 rfl rfl rfl (Nat.le_of_ble_eq_true rfl) (ai_met.mi h (fun x23 S24 h => ?_))
          refine ai_iast dX6_operand_83 rfl ⟨hi17, ?_⟩
          refine ai_locj (lv' := [(0, .ref 0), (1, .int p1), (3, .int 45), (4, .int 11), (5, .int 36), (6, .int x1), (7, .int 1), (8, .int (S2 0 31))]) [3, 4, 6, 7, 8, 2, 1, 0] rfl ?_
          exact h
set_option maxHeartbeats 4000000 in
set_option maxRecDepth 100000 in
theorem vX6_operand_sum0_84 {p1 : Int32} {c : Int32} {n : Int32} {S : ai_S} {V : ai_V} {G : ai_S → Prop}
    (h : (vp_in p1 80 ∧ (vp_in n 700 ∧ ai_met (uM l D ρ τ) d mX6_add [.ref 0, .int p1] (ai_up (ai_up S 0 31 n) 8 (n).toNatClampNeg (S 17 (p1).toNatClampNeg)) V (ai_qv V (fun S4 => ai_met (uM l D ρ τ) d mX6_done [.ref 0, .int (S4 14 (p1).toNatClampNeg)] S4 V (ai_qv V (fun S6 => G S6))))))) :
    ai_W (uM l D ρ τ) (d + 1) mX6_operand 84 [(0, .ref 0), (1, .int p1), (3, .int 45), (4, .int 11), (5, .int 36), (6, .int c), (7, .int 0), (8, .int n)] [] S V (ai_qv V G) := by
  refine ai_aload_n dX6_operand_84 rfl (j := 0) rfl ?_
  refine ai_iload dX6_operand_85 (j := 7) rfl ?_
  refine ai_putI dX6_operand_87 fdX6_121 pdX6_31 rfl rfl rfl rfl ?_
  refine ai_aload_n dX6_operand_90 rfl (j := 0) rfl ?_
  refine ai_getR dX6_operand_91 fdX6_31 rfl rfl ?_
  refine ai_iload dX6_operand_94 (j := 7) rfl ?_
  refine ai_aload_n dX6_operand_96 rfl (j := 0) rfl ?_
  refine ai_getR dX6_operand_97 fdX6_58 rfl rfl ?_
  refine ai_iload_n dX6_operand_100 rfl (j := 1) rfl ?_
  refine ai_ialdx (S 17 (p1).toNatClampNeg) dX6_operand_101 rfl rfl ⟨h.1, ?_⟩
  have hi1 := h.1
  have h := h.2
  refine ai_iast dX6_operand_102 rfl ⟨h.1, ?_⟩
  have hi2 := h.1
  have h := h.2
  refine ai_aload_n dX6_operand_103 rfl (j := 0) rfl ?_
  refine ai_iload_n dX6_operand_104 rfl (j := 1) rfl ?_
  refine ai_callVv (As := [.int p1]) (rest := []) dX6_operand_105 cvX6_180 rfl rfl rfl (Nat.le_of_ble_eq_true rfl) (ai_met.mv h (fun S4 h => ?_))
  refine ai_iload dX6_operand_108 (j := 6) rfl ?_
  refine ai_if_ne (tgt := 124) dX6_operand_110 (by decide) ⟨fun hc => absurd hc (by decide), fun _ => ?_⟩
  refine ai_aload_n dX6_operand_113 rfl (j := 0) rfl ?_
  refine ai_aload_n dX6_operand_114 rfl (j := 0) rfl ?_
  refine ai_getR dX6_operand_115 fdX6_49 rfl rfl ?_
  refine ai_iload_n dX6_operand_118 rfl (j := 1) rfl ?_
  refine ai_iald dX6_operand_119 rfl ⟨hi1, ?_⟩
  refine ai_callVv (As := [.int (S4 14 (p1).toNatClampNeg)]) (rest := []) dX6_operand_120 cvX6_177 rfl rfl rfl (Nat.le_of_ble_eq_true rfl) (ai_met.mv h (fun S6 h => ?_))
  exact ai_retv dX6_operand_123 rfl h
set_option maxHeartbeats 4000000 in
set_option maxRecDepth 100000 in
theorem vX6_operand_sum1_84 {p1 : Int32} {c : Int32} {n : Int32} {S : ai_S} {V : ai_V} {G : ai_S → Prop}
    (h : (vp_in p1 80 ∧ (vp_in n 700 ∧ ai_met (uM l D ρ τ) d mX6_add [.ref 0, .int p1] (ai_up (ai_up S 0 31 n) 8 (n).toNatClampNeg (S 17 (p1).toNatClampNeg)) V (ai_qv V (fun S4 => ((¬ c = 45 → ai_met (uM l D ρ τ) d mX6_push [.ref 0, .int 36, .int (S4 15 (p1).toNatClampNeg)] (ai_up (ai_up S4 0 2 ((S4 0 2) + 1)) 17 (p1).toNatClampNeg 0) V (ai_qv V (fun S7 => G S7))) ∧ (c = 45 → ai_met (uM l D ρ τ) d mX6_push [.ref 0, .int 36, .int (S4 15 (p1).toNatClampNeg)] (ai_up (ai_up S4 0 2 ((S4 0 2) + 1)) 17 (p1).toNatClampNeg 1) V (ai_qv V (fun S9 => G S9))))))))) :
    ai_W (uM l D ρ τ) (d + 1) mX6_operand 84 [(0, .ref 0), (1, .int p1), (3, .int 45), (4, .int 11), (5, .int 36), (6, .int c), (7, .int 1), (8, .int n)] [] S V (ai_qv V G) := by
  refine ai_aload_n dX6_operand_84 rfl (j := 0) rfl ?_
  refine ai_iload dX6_operand_85 (j := 7) rfl ?_
  refine ai_putI dX6_operand_87 fdX6_121 pdX6_31 rfl rfl rfl rfl ?_
  refine ai_aload_n dX6_operand_90 rfl (j := 0) rfl ?_
  refine ai_getR dX6_operand_91 fdX6_31 rfl rfl ?_
  refine ai_iload dX6_operand_94 (j := 7) rfl ?_
  refine ai_aload_n dX6_operand_96 rfl (j := 0) rfl ?_
  refine ai_getR dX6_operand_97 fdX6_58 rfl rfl ?_
  refine ai_iload_n dX6_operand_100 rfl (j := 1) rfl ?_
  refine ai_ialdx (S 17 (p1).toNatClampNeg) dX6_operand_101 rfl rfl ⟨h.1, ?_⟩
  have hi1 := h.1
  have h := h.2
  refine ai_iast dX6_operand_102 rfl ⟨h.1, ?_⟩
  have hi2 := h.1
  have h := h.2
  refine ai_aload_n dX6_operand_103 rfl (j := 0) rfl ?_
  refine ai_iload_n dX6_operand_104 rfl (j := 1) rfl ?_
  refine ai_callVv (As := [.int p1]) (rest := []) dX6_operand_105 cvX6_180 rfl rfl rfl (Nat.le_of_ble_eq_true rfl) (ai_met.mv h (fun S4 h => ?_))
  refine ai_iload dX6_operand_108 (j := 6) rfl ?_
  refine ai_if_ne (tgt := 124) dX6_operand_110 (by decide) ⟨fun _ => ?_, fun hc => absurd hc (by decide)⟩
  refine ai_aload_n dX6_operand_124 rfl (j := 0) rfl ?_
  refine ai_dup dX6_operand_125 rfl ?_
  refine ai_getI dX6_operand_126 fdX6_104 rfl rfl ?_
  refine ai_iconst (v := 1) dX6_operand_129 (by decide) ?_
  refine ai_iadd dX6_operand_130 ?_
  refine ai_putI dX6_operand_131 fdX6_104 pdX6_2 rfl rfl rfl rfl ?_
  refine ai_aload_n dX6_operand_134 rfl (j := 0) rfl ?_
  refine ai_getR dX6_operand_135 fdX6_58 rfl rfl ?_
  refine ai_iload_n dX6_operand_138 rfl (j := 1) rfl ?_
  refine ai_iload dX6_operand_139 (j := 3) rfl ?_
  refine ai_bipush (v := 12) dX6_operand_141 (by decide) ?_
  refine ai_icmp_ne (tgt := 150) dX6_operand_143 (by decide) ⟨fun _ => ?_, fun hc => absurd hc (by decide)⟩
  refine ai_iload dX6_operand_150 (j := 3) rfl ?_
  refine ai_bipush (v := 10) dX6_operand_152 (by decide) ?_
  refine ai_icmp_ne (tgt := 161) dX6_operand_154 (by decide) ⟨fun _ => ?_, fun hc => absurd hc (by decide)⟩
  refine ai_iload dX6_operand_161 (j := 5) rfl ?_
  refine ai_iload_n dX6_operand_163 rfl (j := 2) rfl ?_
  refine ai_icmp_ne (tgt := 171) dX6_operand_164 (by decide) ⟨fun (hc5 : ¬ c = 45) => ?_, fun (hc5 : c = 45) => ?_⟩
  · have h := h.1 hc5
    refine ai_iconst (v := 0) dX6_operand_171 (by decide) ?_
    refine ai_iast dX6_operand_172 rfl ⟨hi1, ?_⟩
    refine ai_iload dX6_operand_173 (j := 3) rfl ?_
    refine ai_bipush (v := 10) dX6_operand_175 (by decide) ?_
    refine ai_icmp_ne (tgt := 188) dX6_operand_177 (by decide) ⟨fun _ => ?_, fun hc => absurd hc (by decide)⟩
    refine ai_aload_n dX6_operand_188 rfl (j := 0) rfl ?_
    refine ai_iload dX6_operand_189 (j := 4) rfl ?_
    refine ai_aload_n dX6_operand_191 rfl (j := 0) rfl ?_
    refine ai_getR dX6_operand_192 fdX6_52 rfl rfl ?_
    refine ai_iload_n dX6_operand_195 rfl (j := 1) rfl ?_
    refine ai_ialdx (S4 15 (p1).toNatClampNeg) dX6_operand_196 rfl rfl ⟨hi1, ?_⟩
    refine ai_callVv (As := [.int 36, .int (S4 15 (p1).toNatClampNeg)]) (rest := []) dX6_operand_197 cvX6_166 rfl rfl rfl (Nat.le_of_ble_eq_true rfl) (ai_met.mv h (fun S7 h => ?_))
    exact ai_retv dX6_operand_200 rfl h
  · have h := h.2 hc5
    refine ai_iconst (v := 1) dX6_operand_167 (by decide) ?_
    refine ai_goto (tgt := 172) dX6_operand_168 (by decide) ?_
    refine ai_iast dX6_operand_172 rfl ⟨hi1, ?_⟩
    refine ai_iload dX6_operand_173 (j := 3) rfl ?_
    refine ai_bipush (v := 10) dX6_operand_175 (by decide) ?_
    refine ai_icmp_ne (tgt := 188) dX6_operand_177 (by decide) ⟨fun _ => ?_, fun hc => absurd hc (by decide)⟩
    refine ai_aload_n dX6_operand_188 rfl (j := 0) rfl ?_
    refine ai_iload dX6_operand_189 (j := 4) rfl ?_
    refine ai_aload_n dX6_operand_191 rfl (j := 0) rfl ?_
    refine ai_getR dX6_operand_192 fdX6_52 rfl rfl ?_
    refine ai_iload_n dX6_operand_195 rfl (j := 1) rfl ?_
    refine ai_ialdx (S4 15 (p1).toNatClampNeg) dX6_operand_196 rfl rfl ⟨hi1, ?_⟩
    refine ai_callVv (As := [.int 36, .int (S4 15 (p1).toNatClampNeg)]) (rest := []) dX6_operand_197 cvX6_166 rfl rfl rfl (Nat.le_of_ble_eq_true rfl) (ai_met.mv h (fun S9 h => ?_))
    exact ai_retv dX6_operand_200 rfl h
set_option maxHeartbeats 4000000 in
set_option maxRecDepth 100000 in
theorem vX6_operand_prod {p1 : Int32} {S : ai_S} {V : ai_V} {G : ai_S → Prop}
    (h : ai_met (uM l D ρ τ) d mX6_peek [.ref 0] S V (ai_qi V (fun x1 S2 => ((x1 = 42 → (vp_in p1 80 ∧ (((S2 13 (p1).toNatClampNeg) = 32 → ((¬ (S2 14 (p1).toNatClampNeg) = 0 → ai_W (uM l D ρ τ) (d + 1) mX6_operand 84 [(0, .ref 0), (1, .int p1), (3, .int 42), (4, .int 12), (5, .int 39), (6, .int x1), (7, .int 0), (8, .int (S2 0 31))] [] S2 V (ai_qv V G)) ∧ ((S2 14 (p1).toNatClampNeg) = 0 → ai_met (uM l D ρ τ) d mX6_done [.ref 0, .int (S2 0 31)] S2 V (ai_qv V (fun S8 => G S8))))) ∧ (¬ (S2 13 (p1).toNatClampNeg) = 32 → ((¬ (S2 14 (p1).toNatClampNeg) = 0 → ai_W (uM l D ρ τ) (d + 1) mX6_operand 84 [(0, .ref 0), (1, .int p1), (3, .int 42), (4, .int 12), (5, .int 39), (6, .int x1), (7, .int 1), (8, .int (S2 0 31))] [] S2 V (ai_qv V G)) ∧ ((S2 14 (p1).toNatClampNeg) = 0 → ai_met (uM l D ρ τ) d mX6_fresh [.ref 0, .int 12] S2 V (ai_qi V (fun x10 S11 => ai_W (uM l D ρ τ) (d + 1) mX6_operand 84 [(0, .ref 0), (1, .int p1), (3, .int 42), (4, .int 12), (5, .int 39), (6, .int x1), (7, .int 1), (8, .int (S2 0 31))] [] (ai_up S11 14 (p1).toNatClampNeg x10) V (ai_qv V G))))))))) ∧ (¬ x1 = 42 → (vp_in p1 80 ∧ ((¬ (S2 14 (p1).toNatClampNeg) = 0 → ai_W (uM l D ρ τ) (d + 1) mX6_operand 84 [(0, .ref 0), (1, .int p1), (3, .int 42), (4, .int 12), (5, .int 39), (6, .int x1), (7, .int 0), (8, .int (S2 0 31))] [] S2 V (ai_qv V G)) ∧ ((S2 14 (p1).toNatClampNeg) = 0 → ai_met (uM l D ρ τ) d mX6_done [.ref 0, .int (S2 0 31)] S2 V (ai_qv V (fun S15 => G S15)))))))))) :
    ai_met (uM l D ρ τ) (d + 1) mX6_operand [.ref 0, .int p1, .int 42, .int 42, .int 12, .int 39] S V (ai_qv V G) := by
  refine ai_mof plX6 (Nat.le_of_ble_eq_true rfl) (lv := [(0, .ref 0), (1, .int p1), (2, .int 42), (3, .int 42), (4, .int 12), (5, .int 39)]) rfl ?_
  refine ai_aload_n dX6_operand_0 rfl (j := 0) rfl ?_
  refine ai_callVi (As := []) (rest := []) dX6_operand_1 cvX6_107 rfl rfl rfl (Nat.le_of_ble_eq_true rfl) (ai_met.mi h (fun x1 S2 h => ?_))
  refine ai_istore (lv' := [(6, .int x1), (0, .ref 0), (1, .int p1), (2, .int 42), (3, .int 42), (4, .int 12), (5, .int 39)]) dX6_operand_4 (by decide) rfl ?_
  refine ai_iload dX6_operand_6 (j := 0) rfl ?_
  refine ai_iload_n dX6_operand_8 rfl (j := 3) rfl ?_
  refine ai_icmp_eq (tgt := 18) dX6_operand_9 (by decide) ⟨fun (hc3 : x1 = 42) => ?_, fun (hc3 : ¬ x1 = 42) => ?_⟩
  · have h := h.1 hc3
    refine ai_aload_n dX6_operand_18 rfl (j := 1) rfl ?_
    refine ai_getR dX6_operand_19 fdX6_46 rfl rfl ?_
    refine ai_iload_n dX6_operand_22 rfl (j := 2) rfl ?_
    refine ai_iald dX6_operand_23 rfl ⟨h.1, ?_⟩
    have hi4 := h.1
    have h := h.2
    refine ai_bipush (v := 32) dX6_operand_24 (by decide) ?_
    refine ai_icmp_eq (tgt := 33) dX6_operand_26 (by decide) ⟨fun (hc5 : (S2 13 (p1).toNatClampNeg) = 32) => ?_, fun (hc5 : ¬ (S2 13 (p1).toNatClampNeg) = 32) => ?_⟩
    · have h := h.1 hc5
      refine ai_iconst (v := 0) dX6_operand_33 (by decide) ?_
      refine ai_istore (lv' := [(7, .int 0), (6, .int x1), (0, .ref 0), (1, .int p1), (2, .int 42), (3, .int 42), (4, .int 12), (5, .int 39)]) dX6_operand_34 (by decide) rfl ?_
      refine ai_aload_n dX6_operand_36 rfl (j := 2) rfl ?_
      refine ai_getI dX6_operand_37 fdX6_121 rfl rfl ?_
      refine ai_istore (lv' := [(8, .int (S2 0 31)), (7, .int 0), (6, .int x1), (0, .ref 0), (1, .int p1), (2, .int 42), (3, .int 42), (4, .int 12), (5, .int 39)]) dX6_operand_40 (by decide) rfl ?_
      refine ai_aload_n dX6_operand_42 rfl (j := 3) rfl ?_
      refine ai_getR dX6_operand_43 fdX6_49 rfl rfl ?_
      refine ai_iload_n dX6_operand_46 rfl (j := 4) rfl ?_
      refine ai_iald dX6_operand_47 rfl ⟨hi4, ?_⟩
      refine ai_if_ne (tgt := 63) dX6_operand_48 (by decide) ⟨fun (hc6 : ¬ (S2 14 (p1).toNatClampNeg) = 0) => ?_, fun (hc6 : (S2 14 (p1).toNatClampNeg) = 0) => ?_⟩
      · have h := h.1 hc6
        refine ai_aload_n dX6_operand_63 rfl (j := 3) rfl ?_
        refine ai_getR dX6_operand_64 fdX6_49 rfl rfl ?_
        refine ai_iload_n dX6_operand_67 rfl (j := 4) rfl ?_
        refine ai_iald dX6_operand_68 rfl ⟨hi4, ?_⟩
        refine ai_if_ne (tgt := 84) dX6_operand_69 (by decide) ⟨fun _ => ?_, fun hc => absurd hc hc6⟩
        refine ai_locj (lv' := [(0, .ref 0), (1, .int p1), (3, .int 42), (4, .int 12), (5, .int 39), (6, .int x1), (7, .int 0), (8, .int (S2 0 31))]) [3, 4, 6, 7, 8, 2, 1, 0] rfl ?_
        exact h
      · have h := h.2 hc6
        refine ai_iload dX6_operand_51 (j := 1) rfl ?_
        refine ai_if_ne (tgt := 63) dX6_operand_53 (by decide) ⟨fun hc => absurd hc (by decide), fun _ => ?_⟩
        refine ai_aload_n dX6_operand_56 rfl (j := 3) rfl ?_
        refine ai_iload dX6_operand_57 (j := 0) rfl ?_
        refine ai_callVv (As := [.int (S2 0 31)]) (rest := []) dX6_operand_59 cvX6_177 rfl rfl rfl (Nat.le_of_ble_eq_true rfl) (ai_met.mv h (fun S8 h => ?_))
        exact ai_retv dX6_operand_62 rfl h
    · have h := h.2 hc5
      refine ai_iconst (v := 1) dX6_operand_29 (by decide) ?_
      refine ai_goto (tgt := 34) dX6_operand_30 (by decide) ?_
      refine ai_istore (lv' := [(7, .int 1), (6, .int x1), (0, .ref 0), (1, .int p1), (2, .int 42), (3, .int 42), (4, .int 12), (5, .int 39)]) dX6_operand_34 (by decide) rfl ?_
      refine ai_aload_n dX6_operand_36 rfl (j := 2) rfl ?_
      refine ai_getI dX6_operand_37 fdX6_121 rfl rfl ?_
      refine ai_istore (lv' := [(8, .int (S2 0 31)), (7, .int 1), (6, .int x1), (0, .ref 0), (1, .int p1), (2, .int 42), (3, .int 42), (4, .int 12), (5, .int 39)]) dX6_operand_40 (by decide) rfl ?_
      refine ai_aload_n dX6_operand_42 rfl (j := 3) rfl ?_
      refine ai_getR dX6_operand_43 fdX6_49 rfl rfl ?_
      refine ai_iload_n dX6_operand_46 rfl (j := 4) rfl ?_
      refine ai_iald dX6_operand_47 rfl ⟨hi4, ?_⟩
      refine ai_if_ne (tgt := 63) dX6_operand_48 (by decide) ⟨fun (hc9 : ¬ (S2 14 (p1).toNatClampNeg) = 0) => ?_, fun (hc9 : (S2 14 (p1).toNatClampNeg) = 0) => ?_⟩
      · have h := h.1 hc9
        refine ai_aload_n dX6_operand_63 rfl (j := 3) rfl ?_
        refine ai_getR dX6_operand_64 fdX6_49 rfl rfl ?_
        refine ai_iload_n dX6_operand_67 rfl (j := 4) rfl ?_
        refine ai_iald dX6_operand_68 rfl ⟨hi4, ?_⟩
        refine ai_if_ne (tgt := 84) dX6_operand_69 (by decide) ⟨fun _ => ?_, fun hc => absurd hc hc9⟩
        refine ai_locj (lv' := [(0, .ref 0), (1, .int p1), (3, .int 42), (4, .int 12), (5, .int 39), (6, .int x1), (7, .int 1), (8, .int (S2 0 31))]) [3, 4, 6, 7, 8, 2, 1, 0] rfl ?_
        exact h
      · have h := h.2 hc9
        refine ai_iload dX6_operand_51 (j := 1) rfl ?_
        refine ai_if_ne (tgt := 63) dX6_operand_53 (by decide) ⟨fun _ => ?_, fun hc => absurd hc (by decide)⟩
        refine ai_aload_n dX6_operand_63 rfl (j := 3) rfl ?_
        refine ai_getR dX6_operand_64 fdX6_49 rfl rfl ?_
        refine ai_iload_n dX6_operand_67 rfl (j := 4) rfl ?_
        refine ai_iald dX6_operand_68 rfl ⟨hi4, ?_⟩
        refine ai_if_ne (tgt := 84) dX6_operand_69 (by decide) ⟨fun hc => absurd hc9 hc, fun _ => ?_⟩
        refine ai_aload_n dX6_operand_72 rfl (j := 3) rfl ?_
        refine ai_getR dX6_operand_73 fdX6_49 rfl rfl ?_
        refine ai_iload_n dX6_operand_76 rfl (j := 4) rfl ?_
        refine ai_aload_n dX6_operand_77 rfl (j := 3) rfl ?_
        refine ai_iload dX6_operand_78 (j := 7) rfl ?_
        refine ai_callVi (As := [.int 12]) (rest := [.int p1, .ref 14]) dX6_operand_80 cvX6_137 rfl rfl rfl (Nat.le_of_ble_eq_true rfl) (ai_met.mi h (fun x10 S11 h => ?_))
        refine ai_iast dX6_operand_83 rfl ⟨hi4, ?_⟩
        refine ai_locj (lv' := [(0, .ref 0), (1, .int p1), (3, .int 42), (4, .int 12), (5, .int 39), (6, .int x1), (7, .int 1), (8, .int (S2 0 31))]) [3, 4, 6, 7, 8, 2, 1, 0] rfl ?_
        exact h
  · have h := h.2 hc3
    refine ai_iload dX6_operand_12 (j := 0) rfl ?_
    refine ai_iload_n dX6_operand_14 rfl (j := 4) rfl ?_
    refine ai_icmp_ne (tgt := 33) dX6_operand_15 (by decide) ⟨fun _ => ?_, fun hc => absurd hc hc3⟩
    refine ai_iconst (v := 0) dX6_operand_33 (by decide) ?_
    refine ai_istore (lv' := [(7, .int 0), (6, .int x1), (0, .ref 0), (1, .int p1), (2, .int 42), (3, .int 42), (4, .int 12), (5, .int 39)]) dX6_operand_34 (by decide) rfl ?_
    refine ai_aload_n dX6_operand_36 rfl (j := 2) rfl ?_
    refine ai_getI dX6_operand_37 fdX6_121 rfl rfl ?_
    refine ai_istore (lv' := [(8, .int (S2 0 31)), (7, .int 0), (6, .int x1), (0, .ref 0), (1, .int p1), (2, .int 42), (3, .int 42), (4, .int 12), (5, .int 39)]) dX6_operand_40 (by decide) rfl ?_
    refine ai_aload_n dX6_operand_42 rfl (j := 3) rfl ?_
    refine ai_getR dX6_operand_43 fdX6_49 rfl rfl ?_
    refine ai_iload_n dX6_operand_46 rfl (j := 4) rfl ?_
    refine ai_iald dX6_operand_47 rfl ⟨h.1, ?_⟩
    have hi12 := h.1
    have h := h.2
    refine ai_if_ne (tgt := 63) dX6_operand_48 (by decide) ⟨fun (hc13 : ¬ (S2 14 (p1).toNatClampNeg) = 0) => ?_, fun (hc13 : (S2 14 (p1).toNatClampNeg) = 0) => ?_⟩
    · have h := h.1 hc13
      refine ai_aload_n dX6_operand_63 rfl (j := 3) rfl ?_
      refine ai_getR dX6_operand_64 fdX6_49 rfl rfl ?_
      refine ai_iload_n dX6_operand_67 rfl (j := 4) rfl ?_
      refine ai_iald dX6_operand_68 rfl ⟨hi12, ?_⟩
      refine ai_if_ne (tgt := 84) dX6_operand_69 (by decide) ⟨fun _ => ?_, fun hc => absurd hc hc13⟩
      refine ai_locj (lv' := [(0, .ref 0), (1, .int p1), (3, .int 42), (4, .int 12), (5, .int 39), (6, .int x1), (7, .int 0), (8, .int (S2 0 31))]) [3, 4, 6, 7, 8, 2, 1, 0] rfl ?_
      exact h
    · have h := h.2 hc13
      refine ai_iload dX6_operand_51 (j := 1) rfl ?_
      refine ai_if_ne (tgt := 63) dX6_operand_53 (by decide) ⟨fun hc => absurd hc (by decide), fun _ => ?_⟩
      refine ai_aload_n dX6_operand_56 rfl (j := 3) rfl ?_
      refine ai_iload dX6_operand_57 (j := 0) rfl ?_
      refine ai_callVv (As := [.int (S2 0 31)]) (rest := []) dX6_operand_59 cvX6_177 rfl rfl rfl (Nat.le_of_ble_eq_true rfl) (ai_met.mv h (fun S15 h => ?_))
      exact ai_retv dX6_operand_62 rfl h
set_option maxHeartbeats 4000000 in
set_option maxRecDepth 100000 in
theorem vX6_operand_prod0_84 {p1 : Int32} {c : Int32} {n : Int32} {S : ai_S} {V : ai_V} {G : ai_S → Prop}
    (h : (vp_in p1 80 ∧ (vp_in n 700 ∧ ai_met (uM l D ρ τ) d mX6_add [.ref 0, .int p1] (ai_up (ai_up S 0 31 n) 8 (n).toNatClampNeg (S 17 (p1).toNatClampNeg)) V (ai_qv V (fun S4 => ai_met (uM l D ρ τ) d mX6_done [.ref 0, .int (S4 14 (p1).toNatClampNeg)] S4 V (ai_qv V (fun S6 => G S6))))))) :
    ai_W (uM l D ρ τ) (d + 1) mX6_operand 84 [(0, .ref 0), (1, .int p1), (3, .int 42), (4, .int 12), (5, .int 39), (6, .int c), (7, .int 0), (8, .int n)] [] S V (ai_qv V G) := by
  refine ai_aload_n dX6_operand_84 rfl (j := 0) rfl ?_
  refine ai_iload dX6_operand_85 (j := 7) rfl ?_
  refine ai_putI dX6_operand_87 fdX6_121 pdX6_31 rfl rfl rfl rfl ?_
  refine ai_aload_n dX6_operand_90 rfl (j := 0) rfl ?_
  refine ai_getR dX6_operand_91 fdX6_31 rfl rfl ?_
  refine ai_iload dX6_operand_94 (j := 7) rfl ?_
  refine ai_aload_n dX6_operand_96 rfl (j := 0) rfl ?_
  refine ai_getR dX6_operand_97 fdX6_58 rfl rfl ?_
  refine ai_iload_n dX6_operand_100 rfl (j := 1) rfl ?_
  refine ai_ialdx (S 17 (p1).toNatClampNeg) dX6_operand_101 rfl rfl ⟨h.1, ?_⟩
  have hi1 := h.1
  have h := h.2
  refine ai_iast dX6_operand_102 rfl ⟨h.1, ?_⟩
  have hi2 := h.1
  have h := h.2
  refine ai_aload_n dX6_operand_103 rfl (j := 0) rfl ?_
  refine ai_iload_n dX6_operand_104 rfl (j := 1) rfl ?_
  refine ai_callVv (As := [.int p1]) (rest := []) dX6_operand_105 cvX6_180 rfl rfl rfl (Nat.le_of_ble_eq_true rfl) (ai_met.mv h (fun S4 h => ?_))
  refine ai_iload dX6_operand_108 (j := 6) rfl ?_
  refine ai_if_ne (tgt := 124) dX6_operand_110 (by decide) ⟨fun hc => absurd hc (by decide), fun _ => ?_⟩
  refine ai_aload_n dX6_operand_113 rfl (j := 0) rfl ?_
  refine ai_aload_n dX6_operand_114 rfl (j := 0) rfl ?_
  refine ai_getR dX6_operand_115 fdX6_49 rfl rfl ?_
  refine ai_iload_n dX6_operand_118 rfl (j := 1) rfl ?_
  refine ai_iald dX6_operand_119 rfl ⟨hi1, ?_⟩
  refine ai_callVv (As := [.int (S4 14 (p1).toNatClampNeg)]) (rest := []) dX6_operand_120 cvX6_177 rfl rfl rfl (Nat.le_of_ble_eq_true rfl) (ai_met.mv h (fun S6 h => ?_))
  exact ai_retv dX6_operand_123 rfl h
set_option maxHeartbeats 4000000 in
set_option maxRecDepth 100000 in
theorem vX6_operand_prod1_84 {p1 : Int32} {c : Int32} {n : Int32} {S : ai_S} {V : ai_V} {G : ai_S → Prop}
    (h : (vp_in p1 80 ∧ (vp_in n 700 ∧ ai_met (uM l D ρ τ) d mX6_add [.ref 0, .int p1] (ai_up (ai_up S 0 31 n) 8 (n).toNatClampNeg (S 17 (p1).toNatClampNeg)) V (ai_qv V (fun S4 => ai_met (uM l D ρ τ) d mX6_push [.ref 0, .int 39, .int (S4 15 (p1).toNatClampNeg)] (ai_up (ai_up S4 0 2 ((S4 0 2) + 1)) 17 (p1).toNatClampNeg 2) V (ai_qv V (fun S6 => G S6))))))) :
    ai_W (uM l D ρ τ) (d + 1) mX6_operand 84 [(0, .ref 0), (1, .int p1), (3, .int 42), (4, .int 12), (5, .int 39), (6, .int c), (7, .int 1), (8, .int n)] [] S V (ai_qv V G) := by
  refine ai_aload_n dX6_operand_84 rfl (j := 0) rfl ?_
  refine ai_iload dX6_operand_85 (j := 7) rfl ?_
  refine ai_putI dX6_operand_87 fdX6_121 pdX6_31 rfl rfl rfl rfl ?_
  refine ai_aload_n dX6_operand_90 rfl (j := 0) rfl ?_
  refine ai_getR dX6_operand_91 fdX6_31 rfl rfl ?_
  refine ai_iload dX6_operand_94 (j := 7) rfl ?_
  refine ai_aload_n dX6_operand_96 rfl (j := 0) rfl ?_
  refine ai_getR dX6_operand_97 fdX6_58 rfl rfl ?_
  refine ai_iload_n dX6_operand_100 rfl (j := 1) rfl ?_
  refine ai_ialdx (S 17 (p1).toNatClampNeg) dX6_operand_101 rfl rfl ⟨h.1, ?_⟩
  have hi1 := h.1
  have h := h.2
  refine ai_iast dX6_operand_102 rfl ⟨h.1, ?_⟩
  have hi2 := h.1
  have h := h.2
  refine ai_aload_n dX6_operand_103 rfl (j := 0) rfl ?_
  refine ai_iload_n dX6_operand_104 rfl (j := 1) rfl ?_
  refine ai_callVv (As := [.int p1]) (rest := []) dX6_operand_105 cvX6_180 rfl rfl rfl (Nat.le_of_ble_eq_true rfl) (ai_met.mv h (fun S4 h => ?_))
  refine ai_iload dX6_operand_108 (j := 6) rfl ?_
  refine ai_if_ne (tgt := 124) dX6_operand_110 (by decide) ⟨fun _ => ?_, fun hc => absurd hc (by decide)⟩
  refine ai_aload_n dX6_operand_124 rfl (j := 0) rfl ?_
  refine ai_dup dX6_operand_125 rfl ?_
  refine ai_getI dX6_operand_126 fdX6_104 rfl rfl ?_
  refine ai_iconst (v := 1) dX6_operand_129 (by decide) ?_
  refine ai_iadd dX6_operand_130 ?_
  refine ai_putI dX6_operand_131 fdX6_104 pdX6_2 rfl rfl rfl rfl ?_
  refine ai_aload_n dX6_operand_134 rfl (j := 0) rfl ?_
  refine ai_getR dX6_operand_135 fdX6_58 rfl rfl ?_
  refine ai_iload_n dX6_operand_138 rfl (j := 1) rfl ?_
  refine ai_iload dX6_operand_139 (j := 3) rfl ?_
  refine ai_bipush (v := 12) dX6_operand_141 (by decide) ?_
  refine ai_icmp_ne (tgt := 150) dX6_operand_143 (by decide) ⟨fun hc => absurd hc (by decide), fun _ => ?_⟩
  refine ai_iconst (v := 2) dX6_operand_146 (by decide) ?_
  refine ai_goto (tgt := 172) dX6_operand_147 (by decide) ?_
  refine ai_iast dX6_operand_172 rfl ⟨hi1, ?_⟩
  refine ai_iload dX6_operand_173 (j := 3) rfl ?_
  refine ai_bipush (v := 10) dX6_operand_175 (by decide) ?_
  refine ai_icmp_ne (tgt := 188) dX6_operand_177 (by decide) ⟨fun _ => ?_, fun hc => absurd hc (by decide)⟩
  refine ai_aload_n dX6_operand_188 rfl (j := 0) rfl ?_
  refine ai_iload dX6_operand_189 (j := 4) rfl ?_
  refine ai_aload_n dX6_operand_191 rfl (j := 0) rfl ?_
  refine ai_getR dX6_operand_192 fdX6_52 rfl rfl ?_
  refine ai_iload_n dX6_operand_195 rfl (j := 1) rfl ?_
  refine ai_ialdx (S4 15 (p1).toNatClampNeg) dX6_operand_196 rfl rfl ⟨hi1, ?_⟩
  refine ai_callVv (As := [.int 39, .int (S4 15 (p1).toNatClampNeg)]) (rest := []) dX6_operand_197 cvX6_166 rfl rfl rfl (Nat.le_of_ble_eq_true rfl) (ai_met.mv h (fun S6 h => ?_))
  exact ai_retv dX6_operand_200 rfl h
set_option maxHeartbeats 4000000 in
set_option maxRecDepth 100000 in
theorem vX6_expression {p1 : Int32} {S : ai_S} {V : ai_V} {G : ai_S → Prop}
    (h : (vp_in p1 80 ∧ ((¬ (S 13 (p1).toNatClampNeg) = 30 → (((S 13 (p1).toNatClampNeg) = 33 → ai_met (uM l D ρ τ) d mX6_push [.ref 0, .int ((S 13 (p1).toNatClampNeg) + 3), .int (S 15 (p1).toNatClampNeg)] (ai_up S 13 (p1).toNatClampNeg ((S 13 (p1).toNatClampNeg) + 1)) V (ai_qv V (fun S5 => G S5))) ∧ (¬ (S 13 (p1).toNatClampNeg) = 33 → ((¬ (S 13 (p1).toNatClampNeg) = 36 → (((S 13 (p1).toNatClampNeg) = 31 → ai_met (uM l D ρ τ) d mX6_operand [.ref 0, .int p1, .int 60, .int 60, .int 10, .int 33] S V (ai_qv V (fun S9 => G S9))) ∧ (¬ (S 13 (p1).toNatClampNeg) = 31 → ((¬ (S 13 (p1).toNatClampNeg) = 32 → ((¬ (S 13 (p1).toNatClampNeg) = 34 → ((¬ (S 13 (p1).toNatClampNeg) = 37 → ((¬ (S 13 (p1).toNatClampNeg) = 39 → ai_met (uM l D ρ τ) d mX6_add [.ref 0, .int p1] S V (ai_qv V (fun S15 => ai_met (uM l D ρ τ) d mX6_eat [.ref 0, .int 41] S15 V (ai_qz V (fun b16 S17 => (b16 = true → ai_met (uM l D ρ τ) d mX6_done [.ref 0, .int (S17 14 (p1).toNatClampNeg)] S17 V (ai_qv V (fun S19 => G S19))) ∧ (b16 = false → ai_met (uM l D ρ τ) d mX6_done [.ref 0, .int (S17 14 (p1).toNatClampNeg)] (ai_up S17 0 19 1) V (ai_qv V (fun S21 => G S21)))))))) ∧ ((S 13 (p1).toNatClampNeg) = 39 → ai_met (uM l D ρ τ) d mX6_factor [.ref 0, .int p1] S V (ai_qv V (fun S23 => G S23))))) ∧ ((S 13 (p1).toNatClampNeg) = 37 → ai_met (uM l D ρ τ) d mX6_operand [.ref 0, .int p1, .int 42, .int 42, .int 12, .int 39] S V (ai_qv V (fun S25 => G S25))))) ∧ ((S 13 (p1).toNatClampNeg) = 34 → ai_met (uM l D ρ τ) d mX6_operand [.ref 0, .int p1, .int 43, .int 45, .int 11, .int 36] S V (ai_qv V (fun S27 => G S27))))) ∧ ((S 13 (p1).toNatClampNeg) = 32 → ai_met (uM l D ρ τ) d mX6_operand [.ref 0, .int p1, .int 60, .int 60, .int 10, .int 33] S V (ai_qv V (fun S29 => G S29))))))) ∧ ((S 13 (p1).toNatClampNeg) = 36 → ai_met (uM l D ρ τ) d mX6_push [.ref 0, .int ((S 13 (p1).toNatClampNeg) + 3), .int (S 15 (p1).toNatClampNeg)] (ai_up S 13 (p1).toNatClampNeg ((S 13 (p1).toNatClampNeg) + 1)) V (ai_qv V (fun S31 => G S31))))))) ∧ ((S 13 (p1).toNatClampNeg) = 30 → ai_met (uM l D ρ τ) d mX6_goDeeper [.ref 0, .int p1] S V (ai_qv V (fun S33 => ai_met (uM l D ρ τ) d mX6_push [.ref 0, .int 33, .int (S 15 (p1).toNatClampNeg)] (ai_up S33 13 (p1).toNatClampNeg 31) V (ai_qv V (fun S35 => G S35)))))))) :
    ai_met (uM l D ρ τ) (d + 1) mX6_expression [.ref 0, .int p1] S V (ai_qv V G) := by
  refine ai_mof plX6 (Nat.le_of_ble_eq_true rfl) (lv := [(0, .ref 0), (1, .int p1)]) rfl ?_
  refine ai_aload_n dX6_expression_0 rfl (j := 0) rfl ?_
  refine ai_getR dX6_expression_1 fdX6_46 rfl rfl ?_
  refine ai_iload_n dX6_expression_4 rfl (j := 1) rfl ?_
  refine ai_iald dX6_expression_5 rfl ⟨h.1, ?_⟩
  have hi1 := h.1
  have h := h.2
  refine ai_istore_n (lv' := [(2, .int (S 13 (p1).toNatClampNeg)), (0, .ref 0), (1, .int p1)]) dX6_expression_6 rfl (by decide) rfl ?_
  refine ai_aload_n dX6_expression_7 rfl (j := 1) rfl ?_
  refine ai_getR dX6_expression_8 fdX6_52 rfl rfl ?_
  refine ai_iload_n dX6_expression_11 rfl (j := 2) rfl ?_
  refine ai_iald dX6_expression_12 rfl ⟨hi1, ?_⟩
  refine ai_istore_n (lv' := [(3, .int (S 15 (p1).toNatClampNeg)), (2, .int (S 13 (p1).toNatClampNeg)), (0, .ref 0), (1, .int p1)]) dX6_expression_13 rfl (by decide) rfl ?_
  refine ai_iload_n dX6_expression_14 rfl (j := 1) rfl ?_
  refine ai_bipush (v := 30) dX6_expression_15 (by decide) ?_
  refine ai_icmp_ne (tgt := 43) dX6_expression_17 (by decide) ⟨fun (hc2 : ¬ (S 13 (p1).toNatClampNeg) = 30) => ?_, fun (hc2 : (S 13 (p1).toNatClampNeg) = 30) => ?_⟩
  · have h := h.1 hc2
    refine ai_iload_n dX6_expression_43 rfl (j := 1) rfl ?_
    refine ai_bipush (v := 33) dX6_expression_44 (by decide) ?_
    refine ai_icmp_eq (tgt := 55) dX6_expression_46 (by decide) ⟨fun (hc3 : (S 13 (p1).toNatClampNeg) = 33) => ?_, fun (hc3 : ¬ (S 13 (p1).toNatClampNeg) = 33) => ?_⟩
    · have h := h.1 hc3
      refine ai_aload_n dX6_expression_55 rfl (j := 2) rfl ?_
      refine ai_getR dX6_expression_56 fdX6_46 rfl rfl ?_
      refine ai_iload_n dX6_expression_59 rfl (j := 3) rfl ?_
      refine ai_iload_n dX6_expression_60 rfl (j := 1) rfl ?_
      refine ai_iconst (v := 1) dX6_expression_61 (by decide) ?_
      refine ai_iadd dX6_expression_62 ?_
      refine ai_iast dX6_expression_63 rfl ⟨hi1, ?_⟩
      refine ai_aload_n dX6_expression_64 rfl (j := 2) rfl ?_
      refine ai_iload_n dX6_expression_65 rfl (j := 1) rfl ?_
      refine ai_iconst (v := 3) dX6_expression_66 (by decide) ?_
      refine ai_iadd dX6_expression_67 ?_
      refine ai_iload_n dX6_expression_68 rfl (j := 0) rfl ?_
      refine ai_callVv (As := [.int ((S 13 (p1).toNatClampNeg) + 3), .int (S 15 (p1).toNatClampNeg)]) (rest := []) dX6_expression_69 cvX6_166 rfl rfl rfl (Nat.le_of_ble_eq_true rfl) (ai_met.mv h (fun S5 h => ?_))
      refine ai_goto (tgt := 186) dX6_expression_72 (by decide) ?_
      exact ai_retv dX6_expression_186 rfl h
    · have h := h.2 hc3
      refine ai_iload_n dX6_expression_49 rfl (j := 1) rfl ?_
      refine ai_bipush (v := 36) dX6_expression_50 (by decide) ?_
      refine ai_icmp_ne (tgt := 75) dX6_expression_52 (by decide) ⟨fun (hc6 : ¬ (S 13 (p1).toNatClampNeg) = 36) => ?_, fun (hc6 : (S 13 (p1).toNatClampNeg) = 36) => ?_⟩
      · have h := h.1 hc6
        refine ai_iload_n dX6_expression_75 rfl (j := 1) rfl ?_
        refine ai_bipush (v := 31) dX6_expression_76 (by decide) ?_
        refine ai_icmp_eq (tgt := 87) dX6_expression_78 (by decide) ⟨fun (hc7 : (S 13 (p1).toNatClampNeg) = 31) => ?_, fun (hc7 : ¬ (S 13 (p1).toNatClampNeg) = 31) => ?_⟩
        · have h := h.1 hc7
          refine ai_aload_n dX6_expression_87 rfl (j := 2) rfl ?_
          refine ai_iload_n dX6_expression_88 rfl (j := 3) rfl ?_
          refine ai_bipush (v := 60) dX6_expression_89 (by decide) ?_
          refine ai_bipush (v := 60) dX6_expression_91 (by decide) ?_
          refine ai_bipush (v := 10) dX6_expression_93 (by decide) ?_
          refine ai_bipush (v := 33) dX6_expression_95 (by decide) ?_
          refine ai_callVv (As := [.int p1, .int 60, .int 60, .int 10, .int 33]) (rest := []) dX6_expression_97 cvX6_204 rfl rfl rfl (Nat.le_of_ble_eq_true rfl) (ai_met.mv h (fun S9 h => ?_))
          refine ai_goto (tgt := 186) dX6_expression_100 (by decide) ?_
          exact ai_retv dX6_expression_186 rfl h
        · have h := h.2 hc7
          refine ai_iload_n dX6_expression_81 rfl (j := 1) rfl ?_
          refine ai_bipush (v := 32) dX6_expression_82 (by decide) ?_
          refine ai_icmp_ne (tgt := 103) dX6_expression_84 (by decide) ⟨fun (hc10 : ¬ (S 13 (p1).toNatClampNeg) = 32) => ?_, fun (hc10 : (S 13 (p1).toNatClampNeg) = 32) => ?_⟩
          · have h := h.1 hc10
            refine ai_iload_n dX6_expression_103 rfl (j := 1) rfl ?_
            refine ai_bipush (v := 34) dX6_expression_104 (by decide) ?_
            refine ai_icmp_ne (tgt := 125) dX6_expression_106 (by decide) ⟨fun (hc11 : ¬ (S 13 (p1).toNatClampNeg) = 34) => ?_, fun (hc11 : (S 13 (p1).toNatClampNeg) = 34) => ?_⟩
            · have h := h.1 hc11
              refine ai_iload_n dX6_expression_125 rfl (j := 1) rfl ?_
              refine ai_bipush (v := 37) dX6_expression_126 (by decide) ?_
              refine ai_icmp_ne (tgt := 147) dX6_expression_128 (by decide) ⟨fun (hc12 : ¬ (S 13 (p1).toNatClampNeg) = 37) => ?_, fun (hc12 : (S 13 (p1).toNatClampNeg) = 37) => ?_⟩
              · have h := h.1 hc12
                refine ai_iload_n dX6_expression_147 rfl (j := 1) rfl ?_
                refine ai_bipush (v := 39) dX6_expression_148 (by decide) ?_
                refine ai_icmp_ne (tgt := 161) dX6_expression_150 (by decide) ⟨fun (hc13 : ¬ (S 13 (p1).toNatClampNeg) = 39) => ?_, fun (hc13 : (S 13 (p1).toNatClampNeg) = 39) => ?_⟩
                · have h := h.1 hc13
                  refine ai_aload_n dX6_expression_161 rfl (j := 2) rfl ?_
                  refine ai_iload_n dX6_expression_162 rfl (j := 3) rfl ?_
                  refine ai_callVv (As := [.int p1]) (rest := []) dX6_expression_163 cvX6_180 rfl rfl rfl (Nat.le_of_ble_eq_true rfl) (ai_met.mv h (fun S15 h => ?_))
                  refine ai_aload_n dX6_expression_166 rfl (j := 2) rfl ?_
                  refine ai_aload_n dX6_expression_167 rfl (j := 2) rfl ?_
                  refine ai_bipush (v := 41) dX6_expression_168 (by decide) ?_
                  refine ai_callVz (As := [.int 41]) (rest := [.ref 0]) dX6_expression_170 cvX6_159 rfl rfl rfl (Nat.le_of_ble_eq_true rfl) (ai_met.mz h (fun S17 h => ?_) (fun S17 h => ?_))
                  · show ai_W _ _ _ _ _ _ _ _ _
                    refine ai_callVv (As := [.int 1]) (rest := []) dX6_expression_173 cvX6_141 rfl rfl rfl (Nat.le_of_ble_eq_true rfl) (vX6_need ?_)
                    refine ⟨fun _ => ?_, fun hc => absurd hc (by decide)⟩
                    show ai_W _ _ _ _ _ _ S17 _ _
                    refine ai_aload_n dX6_expression_176 rfl (j := 2) rfl ?_
                    refine ai_aload_n dX6_expression_177 rfl (j := 2) rfl ?_
                    refine ai_getR dX6_expression_178 fdX6_49 rfl rfl ?_
                    refine ai_iload_n dX6_expression_181 rfl (j := 3) rfl ?_
                    refine ai_iald dX6_expression_182 rfl ⟨hi1, ?_⟩
                    refine ai_callVv (As := [.int (S17 14 (p1).toNatClampNeg)]) (rest := []) dX6_expression_183 cvX6_177 rfl rfl rfl (Nat.le_of_ble_eq_true rfl) (ai_met.mv h (fun S19 h => ?_))
                    exact ai_retv dX6_expression_186 rfl h
                  · show ai_W _ _ _ _ _ _ _ _ _
                    refine ai_callVv (As := [.int 0]) (rest := []) dX6_expression_173 cvX6_141 rfl rfl rfl (Nat.le_of_ble_eq_true rfl) (vX6_need ?_)
                    refine ⟨fun hc => absurd hc (by decide), fun _ => ?_⟩
                    show ai_W _ _ _ _ _ _ (ai_up S17 0 19 1) _ _
                    refine ai_aload_n dX6_expression_176 rfl (j := 2) rfl ?_
                    refine ai_aload_n dX6_expression_177 rfl (j := 2) rfl ?_
                    refine ai_getR dX6_expression_178 fdX6_49 rfl rfl ?_
                    refine ai_iload_n dX6_expression_181 rfl (j := 3) rfl ?_
                    refine ai_ialdx (S17 14 (p1).toNatClampNeg) dX6_expression_182 rfl rfl ⟨hi1, ?_⟩
                    refine ai_callVv (As := [.int (S17 14 (p1).toNatClampNeg)]) (rest := []) dX6_expression_183 cvX6_177 rfl rfl rfl (Nat.le_of_ble_eq_true rfl) (ai_met.mv h (fun S21 h => ?_))
                    exact ai_retv dX6_expression_186 rfl h
                · have h := h.2 hc13
                  refine ai_aload_n dX6_expression_153 rfl (j := 2) rfl ?_
                  refine ai_iload_n dX6_expression_154 rfl (j := 3) rfl ?_
                  refine ai_callVv (As := [.int p1]) (rest := []) dX6_expression_155 cvX6_208 rfl rfl rfl (Nat.le_of_ble_eq_true rfl) (ai_met.mv h (fun S23 h => ?_))
                  refine ai_goto (tgt := 186) dX6_expression_158 (by decide) ?_
                  exact ai_retv dX6_expression_186 rfl h
              · have h := h.2 hc12
                refine ai_aload_n dX6_expression_131 rfl (j := 2) rfl ?_
                refine ai_iload_n dX6_expression_132 rfl (j := 3) rfl ?_
                refine ai_bipush (v := 42) dX6_expression_133 (by decide) ?_
                refine ai_bipush (v := 42) dX6_expression_135 (by decide) ?_
                refine ai_bipush (v := 12) dX6_expression_137 (by decide) ?_
                refine ai_bipush (v := 39) dX6_expression_139 (by decide) ?_
                refine ai_callVv (As := [.int p1, .int 42, .int 42, .int 12, .int 39]) (rest := []) dX6_expression_141 cvX6_204 rfl rfl rfl (Nat.le_of_ble_eq_true rfl) (ai_met.mv h (fun S25 h => ?_))
                refine ai_goto (tgt := 186) dX6_expression_144 (by decide) ?_
                exact ai_retv dX6_expression_186 rfl h
            · have h := h.2 hc11
              refine ai_aload_n dX6_expression_109 rfl (j := 2) rfl ?_
              refine ai_iload_n dX6_expression_110 rfl (j := 3) rfl ?_
              refine ai_bipush (v := 43) dX6_expression_111 (by decide) ?_
              refine ai_bipush (v := 45) dX6_expression_113 (by decide) ?_
              refine ai_bipush (v := 11) dX6_expression_115 (by decide) ?_
              refine ai_bipush (v := 36) dX6_expression_117 (by decide) ?_
              refine ai_callVv (As := [.int p1, .int 43, .int 45, .int 11, .int 36]) (rest := []) dX6_expression_119 cvX6_204 rfl rfl rfl (Nat.le_of_ble_eq_true rfl) (ai_met.mv h (fun S27 h => ?_))
              refine ai_goto (tgt := 186) dX6_expression_122 (by decide) ?_
              exact ai_retv dX6_expression_186 rfl h
          · have h := h.2 hc10
            refine ai_aload_n dX6_expression_87 rfl (j := 2) rfl ?_
            refine ai_iload_n dX6_expression_88 rfl (j := 3) rfl ?_
            refine ai_bipush (v := 60) dX6_expression_89 (by decide) ?_
            refine ai_bipush (v := 60) dX6_expression_91 (by decide) ?_
            refine ai_bipush (v := 10) dX6_expression_93 (by decide) ?_
            refine ai_bipush (v := 33) dX6_expression_95 (by decide) ?_
            refine ai_callVv (As := [.int p1, .int 60, .int 60, .int 10, .int 33]) (rest := []) dX6_expression_97 cvX6_204 rfl rfl rfl (Nat.le_of_ble_eq_true rfl) (ai_met.mv h (fun S29 h => ?_))
            refine ai_goto (tgt := 186) dX6_expression_100 (by decide) ?_
            exact ai_retv dX6_expression_186 rfl h
      · have h := h.2 hc6
        refine ai_aload_n dX6_expression_55 rfl (j := 2) rfl ?_
        refine ai_getR dX6_expression_56 fdX6_46 rfl rfl ?_
        refine ai_iload_n dX6_expression_59 rfl (j := 3) rfl ?_
        refine ai_iload_n dX6_expression_60 rfl (j := 1) rfl ?_
        refine ai_iconst (v := 1) dX6_expression_61 (by decide) ?_
        refine ai_iadd dX6_expression_62 ?_
        refine ai_iast dX6_expression_63 rfl ⟨hi1, ?_⟩
        refine ai_aload_n dX6_expression_64 rfl (j := 2) rfl ?_
        refine ai_iload_n dX6_expression_65 rfl (j := 1) rfl ?_
        refine ai_iconst (v := 3) dX6_expression_66 (by decide) ?_
        refine ai_iadd dX6_expression_67 ?_
        refine ai_iload_n dX6_expression_68 rfl (j := 0) rfl ?_
        refine ai_callVv (As := [.int ((S 13 (p1).toNatClampNeg) + 3), .int (S 15 (p1).toNatClampNeg)]) (rest := []) dX6_expression_69 cvX6_166 rfl rfl rfl (Nat.le_of_ble_eq_true rfl) (ai_met.mv h (fun S31 h => ?_))
        refine ai_goto (tgt := 186) dX6_expression_72 (by decide) ?_
        exact ai_retv dX6_expression_186 rfl h
  · have h := h.2 hc2
    refine ai_aload_n dX6_expression_20 rfl (j := 2) rfl ?_
    refine ai_iload_n dX6_expression_21 rfl (j := 3) rfl ?_
    refine ai_callVv (As := [.int p1]) (rest := []) dX6_expression_22 cvX6_148 rfl rfl rfl (Nat.le_of_ble_eq_true rfl) (ai_met.mv h (fun S33 h => ?_))
    refine ai_aload_n dX6_expression_25 rfl (j := 2) rfl ?_
    refine ai_getR dX6_expression_26 fdX6_46 rfl rfl ?_
    refine ai_iload_n dX6_expression_29 rfl (j := 3) rfl ?_
    refine ai_bipush (v := 31) dX6_expression_30 (by decide) ?_
    refine ai_iast dX6_expression_32 rfl ⟨hi1, ?_⟩
    refine ai_aload_n dX6_expression_33 rfl (j := 2) rfl ?_
    refine ai_bipush (v := 33) dX6_expression_34 (by decide) ?_
    refine ai_iload_n dX6_expression_36 rfl (j := 0) rfl ?_
    refine ai_callVv (As := [.int 33, .int (S 15 (p1).toNatClampNeg)]) (rest := []) dX6_expression_37 cvX6_166 rfl rfl rfl (Nat.le_of_ble_eq_true rfl) (ai_met.mv h (fun S35 h => ?_))
    refine ai_goto (tgt := 186) dX6_expression_40 (by decide) ?_
    exact ai_retv dX6_expression_186 rfl h
set_option maxHeartbeats 4000000 in
set_option maxRecDepth 100000 in
theorem vX6_factor {p1 : Int32} {S : ai_S} {V : ai_V} {G : ai_S → Prop}
    (h : ai_met (uM l D ρ τ) d mX6_peek [.ref 0] S V (ai_qi V (fun x1 S2 => (vp_in p1 80 ∧ ai_met (uM l D ρ τ) d mX6_within [.int x1, .int 48, .int 57] (ai_up S2 0 2 ((S2 0 2) + 1)) V (ai_qz V (fun b4 S5 => (b4 = true → ai_W (uM l D ρ τ) (d + 1) mX6_factor 44 [(0, .ref 0), (4, .int (x1 - 48)), (5, .int 1)] [] S5 V (ai_qv V G)) ∧ (b4 = false → ai_met (uM l D ρ τ) d mX6_isLetter [.ref 0, .int x1] S5 V (ai_qz V (fun b6 S7 => (b6 = true → ai_met (uM l D ρ τ) d mX6_eat [.ref 0, .int 40] S7 V (ai_qz V (fun b8 S9 => (b8 = true → ai_met (uM l D ρ τ) d mX6_use [.ref 0, .int 9, .int x1] S9 V (ai_qi V (fun x10 S11 => ai_met (uM l D ρ τ) d mX6_openList [.ref 0, .int p1, .int 40, .int ((S2 15 (p1).toNatClampNeg) + 1)] (ai_up S11 14 (p1).toNatClampNeg x10) V (ai_qv V (fun S13 => G S13))))) ∧ (b8 = false → ai_met (uM l D ρ τ) d mX6_use [.ref 0, .int 8, .int x1] S9 V (ai_qi V (fun x14 S15 => ai_met (uM l D ρ τ) d mX6_done [.ref 0, .int x14] S15 V (ai_qv V (fun S17 => G S17)))))))) ∧ (b6 = false → ((¬ x1 = 40 → G (ai_up S7 0 19 1)) ∧ (x1 = 40 → ai_met (uM l D ρ τ) d mX6_fresh [.ref 0, .int 13] S7 V (ai_qi V (fun x19 S20 => ai_met (uM l D ρ τ) d mX6_push [.ref 0, .int 30, .int ((S2 15 (p1).toNatClampNeg) + 1)] (ai_up (ai_up S20 14 (p1).toNatClampNeg x19) 13 (p1).toNatClampNeg 41) V (ai_qv V (fun S22 => G S22)))))))))))))))) :
    ai_met (uM l D ρ τ) (d + 1) mX6_factor [.ref 0, .int p1] S V (ai_qv V G) := by
  refine ai_mof plX6 (Nat.le_of_ble_eq_true rfl) (lv := [(0, .ref 0), (1, .int p1)]) rfl ?_
  refine ai_aload_n dX6_factor_0 rfl (j := 0) rfl ?_
  refine ai_callVi (As := []) (rest := []) dX6_factor_1 cvX6_107 rfl rfl rfl (Nat.le_of_ble_eq_true rfl) (ai_met.mi h (fun x1 S2 h => ?_))
  refine ai_istore_n (lv' := [(2, .int x1), (0, .ref 0), (1, .int p1)]) dX6_factor_4 rfl (by decide) rfl ?_
  refine ai_aload_n dX6_factor_5 rfl (j := 1) rfl ?_
  refine ai_getR dX6_factor_6 fdX6_52 rfl rfl ?_
  refine ai_iload_n dX6_factor_9 rfl (j := 2) rfl ?_
  refine ai_iald dX6_factor_10 rfl ⟨h.1, ?_⟩
  have hi3 := h.1
  have h := h.2
  refine ai_iconst (v := 1) dX6_factor_11 (by decide) ?_
  refine ai_iadd dX6_factor_12 ?_
  refine ai_istore_n (lv' := [(3, .int ((S2 15 (p1).toNatClampNeg) + 1)), (2, .int x1), (0, .ref 0), (1, .int p1)]) dX6_factor_13 rfl (by decide) rfl ?_
  refine ai_aload_n dX6_factor_14 rfl (j := 2) rfl ?_
  refine ai_dup dX6_factor_15 rfl ?_
  refine ai_getI dX6_factor_16 fdX6_104 rfl rfl ?_
  refine ai_iconst (v := 1) dX6_factor_19 (by decide) ?_
  refine ai_iadd dX6_factor_20 ?_
  refine ai_putI dX6_factor_21 fdX6_104 pdX6_2 rfl rfl rfl rfl ?_
  refine ai_iload_n dX6_factor_24 rfl (j := 1) rfl ?_
  refine ai_bipush (v := 48) dX6_factor_25 (by decide) ?_
  refine ai_bipush (v := 57) dX6_factor_27 (by decide) ?_
  refine ai_callSz (As := [.int x1, .int 48, .int 57]) (rest := []) dX6_factor_29 csX6_111 rfl rfl (Nat.le_of_ble_eq_true rfl) (ai_met.mz h (fun S5 h => ?_) (fun S5 h => ?_))
  · show ai_W _ _ _ _ _ _ _ _ _
    refine ai_if_eq (tgt := 166) dX6_factor_32 (by decide) ⟨fun hc => absurd hc (by decide), fun _ => ?_⟩
    refine ai_iload_n dX6_factor_35 rfl (j := 1) rfl ?_
    refine ai_bipush (v := 48) dX6_factor_36 (by decide) ?_
    refine ai_isub dX6_factor_38 ?_
    refine ai_istore (lv' := [(4, .int (x1 - 48)), (3, .int ((S2 15 (p1).toNatClampNeg) + 1)), (2, .int x1), (0, .ref 0), (1, .int p1)]) dX6_factor_39 (by decide) rfl ?_
    refine ai_iconst (v := 1) dX6_factor_41 (by decide) ?_
    refine ai_istore (lv' := [(5, .int 1), (4, .int (x1 - 48)), (3, .int ((S2 15 (p1).toNatClampNeg) + 1)), (2, .int x1), (0, .ref 0), (1, .int p1)]) dX6_factor_42 (by decide) rfl ?_
    refine ai_locj (lv' := [(0, .ref 0), (4, .int (x1 - 48)), (5, .int 1)]) [4, 1, 0] rfl ?_
    exact h
  · show ai_W _ _ _ _ _ _ _ _ _
    refine ai_if_eq (tgt := 166) dX6_factor_32 (by decide) ⟨fun _ => ?_, fun hc => absurd hc (by decide)⟩
    refine ai_aload_n dX6_factor_166 rfl (j := 2) rfl ?_
    refine ai_iload_n dX6_factor_167 rfl (j := 1) rfl ?_
    refine ai_callVz (As := [.int x1]) (rest := []) dX6_factor_168 cvX6_155 rfl rfl rfl (Nat.le_of_ble_eq_true rfl) (ai_met.mz h (fun S7 h => ?_) (fun S7 h => ?_))
    · show ai_W _ _ _ _ _ _ _ _ _
      refine ai_if_eq (tgt := 225) dX6_factor_171 (by decide) ⟨fun hc => absurd hc (by decide), fun _ => ?_⟩
      refine ai_aload_n dX6_factor_174 rfl (j := 2) rfl ?_
      refine ai_bipush (v := 40) dX6_factor_175 (by decide) ?_
      refine ai_callVz (As := [.int 40]) (rest := []) dX6_factor_177 cvX6_159 rfl rfl rfl (Nat.le_of_ble_eq_true rfl) (ai_met.mz h (fun S9 h => ?_) (fun S9 h => ?_))
      · show ai_W _ _ _ _ _ _ _ _ _
        refine ai_if_eq (tgt := 207) dX6_factor_180 (by decide) ⟨fun hc => absurd hc (by decide), fun _ => ?_⟩
        refine ai_aload_n dX6_factor_183 rfl (j := 2) rfl ?_
        refine ai_getR dX6_factor_184 fdX6_49 rfl rfl ?_
        refine ai_iload_n dX6_factor_187 rfl (j := 3) rfl ?_
        refine ai_aload_n dX6_factor_188 rfl (j := 2) rfl ?_
        refine ai_bipush (v := 9) dX6_factor_189 (by decide) ?_
        refine ai_iload_n dX6_factor_191 rfl (j := 1) rfl ?_
        refine ai_callVi (As := [.int 9, .int x1]) (rest := [.int p1, .ref 14]) dX6_factor_192 cvX6_162 rfl rfl rfl (Nat.le_of_ble_eq_true rfl) (ai_met.mi h (fun x10 S11 h => ?_))
        refine ai_iast dX6_factor_195 rfl ⟨hi3, ?_⟩
        refine ai_aload_n dX6_factor_196 rfl (j := 2) rfl ?_
        refine ai_iload_n dX6_factor_197 rfl (j := 3) rfl ?_
        refine ai_bipush (v := 40) dX6_factor_198 (by decide) ?_
        refine ai_iload_n dX6_factor_200 rfl (j := 0) rfl ?_
        refine ai_callVv (As := [.int p1, .int 40, .int ((S2 15 (p1).toNatClampNeg) + 1)]) (rest := []) dX6_factor_201 cvX6_170 rfl rfl rfl (Nat.le_of_ble_eq_true rfl) (ai_met.mv h (fun S13 h => ?_))
        refine ai_goto (tgt := 266) dX6_factor_204 (by decide) ?_
        exact ai_retv dX6_factor_266 rfl h
      · show ai_W _ _ _ _ _ _ _ _ _
        refine ai_if_eq (tgt := 207) dX6_factor_180 (by decide) ⟨fun _ => ?_, fun hc => absurd hc (by decide)⟩
        refine ai_aload_n dX6_factor_207 rfl (j := 2) rfl ?_
        refine ai_bipush (v := 8) dX6_factor_208 (by decide) ?_
        refine ai_iload_n dX6_factor_210 rfl (j := 1) rfl ?_
        refine ai_callVi (As := [.int 8, .int x1]) (rest := []) dX6_factor_211 cvX6_162 rfl rfl rfl (Nat.le_of_ble_eq_true rfl) (ai_met.mi h (fun x14 S15 h => ?_))
        refine ai_istore (lv' := [(4, .int x14), (3, .int ((S2 15 (p1).toNatClampNeg) + 1)), (2, .int x1), (0, .ref 0), (1, .int p1)]) dX6_factor_214 (by decide) rfl ?_
        refine ai_aload_n dX6_factor_216 rfl (j := 3) rfl ?_
        refine ai_iload dX6_factor_217 (j := 0) rfl ?_
        refine ai_callVv (As := [.int x14]) (rest := []) dX6_factor_219 cvX6_177 rfl rfl rfl (Nat.le_of_ble_eq_true rfl) (ai_met.mv h (fun S17 h => ?_))
        refine ai_goto (tgt := 266) dX6_factor_222 (by decide) ?_
        exact ai_retv dX6_factor_266 rfl h
    · show ai_W _ _ _ _ _ _ _ _ _
      refine ai_if_eq (tgt := 225) dX6_factor_171 (by decide) ⟨fun _ => ?_, fun hc => absurd hc (by decide)⟩
      refine ai_iload_n dX6_factor_225 rfl (j := 1) rfl ?_
      refine ai_bipush (v := 40) dX6_factor_226 (by decide) ?_
      refine ai_icmp_ne (tgt := 261) dX6_factor_228 (by decide) ⟨fun (hc18 : ¬ x1 = 40) => ?_, fun (hc18 : x1 = 40) => ?_⟩
      · have h := h.1 hc18
        refine ai_aload_n dX6_factor_261 rfl (j := 2) rfl ?_
        refine ai_iconst (v := 1) dX6_factor_262 (by decide) ?_
        refine ai_putI dX6_factor_263 fdX6_124 pdX6_19 rfl rfl rfl rfl ?_
        exact ai_retv dX6_factor_266 rfl h
      · have h := h.2 hc18
        refine ai_aload_n dX6_factor_231 rfl (j := 2) rfl ?_
        refine ai_getR dX6_factor_232 fdX6_49 rfl rfl ?_
        refine ai_iload_n dX6_factor_235 rfl (j := 3) rfl ?_
        refine ai_aload_n dX6_factor_236 rfl (j := 2) rfl ?_
        refine ai_bipush (v := 13) dX6_factor_237 (by decide) ?_
        refine ai_callVi (As := [.int 13]) (rest := [.int p1, .ref 14]) dX6_factor_239 cvX6_137 rfl rfl rfl (Nat.le_of_ble_eq_true rfl) (ai_met.mi h (fun x19 S20 h => ?_))
        refine ai_iast dX6_factor_242 rfl ⟨hi3, ?_⟩
        refine ai_aload_n dX6_factor_243 rfl (j := 2) rfl ?_
        refine ai_getR dX6_factor_244 fdX6_46 rfl rfl ?_
        refine ai_iload_n dX6_factor_247 rfl (j := 3) rfl ?_
        refine ai_bipush (v := 41) dX6_factor_248 (by decide) ?_
        refine ai_iast dX6_factor_250 rfl ⟨hi3, ?_⟩
        refine ai_aload_n dX6_factor_251 rfl (j := 2) rfl ?_
        refine ai_bipush (v := 30) dX6_factor_252 (by decide) ?_
        refine ai_iload_n dX6_factor_254 rfl (j := 0) rfl ?_
        refine ai_callVv (As := [.int 30, .int ((S2 15 (p1).toNatClampNeg) + 1)]) (rest := []) dX6_factor_255 cvX6_166 rfl rfl rfl (Nat.le_of_ble_eq_true rfl) (ai_met.mv h (fun S22 h => ?_))
        refine ai_goto (tgt := 266) dX6_factor_258 (by decide) ?_
        exact ai_retv dX6_factor_266 rfl h
set_option maxHeartbeats 4000000 in
set_option maxRecDepth 100000 in
theorem vX6_factor_44 {vl : Int32} {dg : Int32} {S : ai_S} {V : ai_V} {G : ai_S → Prop}
    (h : (((S 0 1) ≤ (S 0 2) → ((10 ≤ dg → ai_met (uM l D ρ τ) d mX6_fresh [.ref 0, .int 7] (ai_up S 0 19 1) V (ai_qi V (fun x3 S4 => (vp_in x3 700 ∧ ai_met (uM l D ρ τ) d mX6_done [.ref 0, .int x3] (ai_up S4 5 (x3).toNatClampNeg vl) V (ai_qv V (fun S7 => G S7)))))) ∧ (¬ 10 ≤ dg → ai_met (uM l D ρ τ) d mX6_fresh [.ref 0, .int 7] S V (ai_qi V (fun x8 S9 => (vp_in x8 700 ∧ ai_met (uM l D ρ τ) d mX6_done [.ref 0, .int x8] (ai_up S9 5 (x8).toNatClampNeg vl) V (ai_qv V (fun S12 => G S12)))))))) ∧ (¬ (S 0 1) ≤ (S 0 2) → (vp_in (S 0 2) 320 ∧ ai_met (uM l D ρ τ) d mX6_within [.int (S 1 ((S 0 2)).toNatClampNeg), .int 48, .int 57] S V (ai_qz V (fun b14 S15 => (b14 = true → ((10 ≤ dg → ai_met (uM l D ρ τ) d mX6_fresh [.ref 0, .int 7] (ai_up S15 0 19 1) V (ai_qi V (fun x17 S18 => (vp_in x17 700 ∧ ai_met (uM l D ρ τ) d mX6_done [.ref 0, .int x17] (ai_up S18 5 (x17).toNatClampNeg vl) V (ai_qv V (fun S21 => G S21)))))) ∧ (¬ 10 ≤ dg → ((9 ≤ dg → ai_W (uM l D ρ τ) (d + 1) mX6_factor 44 [(0, .ref 0), (4, .int vl), (5, .int (dg + 1))] [] (ai_up S15 0 2 ((S15 0 2) + 1)) V (ai_qv V G)) ∧ (¬ 9 ≤ dg → (vp_in (S15 0 2) 320 ∧ ai_W (uM l D ρ τ) (d + 1) mX6_factor 44 [(0, .ref 0), (4, .int (((10 * vl) + (S15 1 ((S15 0 2)).toNatClampNeg)) - 48)), (5, .int (dg + 1))] [] (ai_up S15 0 2 ((S15 0 2) + 1)) V (ai_qv V G))))))) ∧ (b14 = false → ((10 ≤ dg → ai_met (uM l D ρ τ) d mX6_fresh [.ref 0, .int 7] (ai_up S15 0 19 1) V (ai_qi V (fun x25 S26 => (vp_in x25 700 ∧ ai_met (uM l D ρ τ) d mX6_done [.ref 0, .int x25] (ai_up S26 5 (x25).toNatClampNeg vl) V (ai_qv V (fun S29 => G S29)))))) ∧ (¬ 10 ≤ dg → ai_met (uM l D ρ τ) d mX6_fresh [.ref 0, .int 7] S15 V (ai_qi V (fun x30 S31 => (vp_in x30 700 ∧ ai_met (uM l D ρ τ) d mX6_done [.ref 0, .int x30] (ai_up S31 5 (x30).toNatClampNeg vl) V (ai_qv V (fun S34 => G S34)))))))))))))) :
    ai_W (uM l D ρ τ) (d + 1) mX6_factor 44 [(0, .ref 0), (4, .int vl), (5, .int dg)] [] S V (ai_qv V G) := by
  refine ai_aload_n dX6_factor_44 rfl (j := 0) rfl ?_
  refine ai_getI dX6_factor_45 fdX6_104 rfl rfl ?_
  refine ai_aload_n dX6_factor_48 rfl (j := 0) rfl ?_
  refine ai_getI dX6_factor_49 fdX6_100 rfl rfl ?_
  refine ai_icmp_ge (tgt := 124) dX6_factor_52 (by decide) ⟨fun (hc1 : (S 0 1) ≤ (S 0 2)) => ?_, fun (hc1 : ¬ (S 0 1) ≤ (S 0 2)) => ?_⟩
  · have h := h.1 hc1
    refine ai_aload_n dX6_factor_124 rfl (j := 0) rfl ?_
    refine ai_iload dX6_factor_125 (j := 2) rfl ?_
    refine ai_bipush (v := 10) dX6_factor_127 (by decide) ?_
    refine ai_icmp_ge (tgt := 136) dX6_factor_129 (by decide) ⟨fun (hc2 : 10 ≤ dg) => ?_, fun (hc2 : ¬ 10 ≤ dg) => ?_⟩
    · have h := h.1 hc2
      refine ai_iconst (v := 0) dX6_factor_136 (by decide) ?_
      refine ai_callVv (As := [.int 0]) (rest := []) dX6_factor_137 cvX6_141 rfl rfl rfl (Nat.le_of_ble_eq_true rfl) (vX6_need ?_)
      refine ⟨fun hc => absurd hc (by decide), fun _ => ?_⟩
      show ai_W _ _ _ _ _ _ (ai_up S 0 19 1) _ _
      refine ai_aload_n dX6_factor_140 rfl (j := 0) rfl ?_
      refine ai_bipush (v := 7) dX6_factor_141 (by decide) ?_
      refine ai_callVi (As := [.int 7]) (rest := []) dX6_factor_143 cvX6_137 rfl rfl rfl (Nat.le_of_ble_eq_true rfl) (ai_met.mi h (fun x3 S4 h => ?_))
      refine ai_istore (lv' := [(6, .int x3), (0, .ref 0), (4, .int vl), (5, .int dg)]) dX6_factor_146 (by decide) rfl ?_
      refine ai_aload_n dX6_factor_148 rfl (j := 1) rfl ?_
      refine ai_getR dX6_factor_149 fdX6_22 rfl rfl ?_
      refine ai_iload dX6_factor_152 (j := 0) rfl ?_
      refine ai_iload dX6_factor_154 (j := 2) rfl ?_
      refine ai_iast dX6_factor_156 rfl ⟨h.1, ?_⟩
      have hi5 := h.1
      have h := h.2
      refine ai_aload_n dX6_factor_157 rfl (j := 1) rfl ?_
      refine ai_iload dX6_factor_158 (j := 0) rfl ?_
      refine ai_callVv (As := [.int x3]) (rest := []) dX6_factor_160 cvX6_177 rfl rfl rfl (Nat.le_of_ble_eq_true rfl) (ai_met.mv h (fun S7 h => ?_))
      refine ai_goto (tgt := 266) dX6_factor_163 (by decide) ?_
      exact ai_retv dX6_factor_266 rfl h
    · have h := h.2 hc2
      refine ai_iconst (v := 1) dX6_factor_132 (by decide) ?_
      refine ai_goto (tgt := 137) dX6_factor_133 (by decide) ?_
      refine ai_callVv (As := [.int 1]) (rest := []) dX6_factor_137 cvX6_141 rfl rfl rfl (Nat.le_of_ble_eq_true rfl) (vX6_need ?_)
      refine ⟨fun _ => ?_, fun hc => absurd hc (by decide)⟩
      show ai_W _ _ _ _ _ _ S _ _
      refine ai_aload_n dX6_factor_140 rfl (j := 0) rfl ?_
      refine ai_bipush (v := 7) dX6_factor_141 (by decide) ?_
      refine ai_callVi (As := [.int 7]) (rest := []) dX6_factor_143 cvX6_137 rfl rfl rfl (Nat.le_of_ble_eq_true rfl) (ai_met.mi h (fun x8 S9 h => ?_))
      refine ai_istore (lv' := [(6, .int x8), (0, .ref 0), (4, .int vl), (5, .int dg)]) dX6_factor_146 (by decide) rfl ?_
      refine ai_aload_n dX6_factor_148 rfl (j := 1) rfl ?_
      refine ai_getR dX6_factor_149 fdX6_22 rfl rfl ?_
      refine ai_iload dX6_factor_152 (j := 0) rfl ?_
      refine ai_iload dX6_factor_154 (j := 2) rfl ?_
      refine ai_iast dX6_factor_156 rfl ⟨h.1, ?_⟩
      have hi10 := h.1
      have h := h.2
      refine ai_aload_n dX6_factor_157 rfl (j := 1) rfl ?_
      refine ai_iload dX6_factor_158 (j := 0) rfl ?_
      refine ai_callVv (As := [.int x8]) (rest := []) dX6_factor_160 cvX6_177 rfl rfl rfl (Nat.le_of_ble_eq_true rfl) (ai_met.mv h (fun S12 h => ?_))
      refine ai_goto (tgt := 266) dX6_factor_163 (by decide) ?_
      exact ai_retv dX6_factor_266 rfl h
  · have h := h.2 hc1
    refine ai_aload_n dX6_factor_55 rfl (j := 0) rfl ?_
    refine ai_getR dX6_factor_56 fdX6_7 rfl rfl ?_
    refine ai_aload_n dX6_factor_59 rfl (j := 0) rfl ?_
    refine ai_getI dX6_factor_60 fdX6_104 rfl rfl ?_
    refine ai_iald dX6_factor_63 rfl ⟨h.1, ?_⟩
    have hi13 := h.1
    have h := h.2
    refine ai_bipush (v := 48) dX6_factor_64 (by decide) ?_
    refine ai_bipush (v := 57) dX6_factor_66 (by decide) ?_
    refine ai_callSz (As := [.int (S 1 ((S 0 2)).toNatClampNeg), .int 48, .int 57]) (rest := []) dX6_factor_68 csX6_111 rfl rfl (Nat.le_of_ble_eq_true rfl) (ai_met.mz h (fun S15 h => ?_) (fun S15 h => ?_))
    · show ai_W _ _ _ _ _ _ _ _ _
      refine ai_if_eq (tgt := 124) dX6_factor_71 (by decide) ⟨fun hc => absurd hc (by decide), fun _ => ?_⟩
      refine ai_iload dX6_factor_74 (j := 2) rfl ?_
      refine ai_bipush (v := 10) dX6_factor_76 (by decide) ?_
      refine ai_icmp_ge (tgt := 124) dX6_factor_78 (by decide) ⟨fun (hc16 : 10 ≤ dg) => ?_, fun (hc16 : ¬ 10 ≤ dg) => ?_⟩
      · have h := h.1 hc16
        refine ai_aload_n dX6_factor_124 rfl (j := 0) rfl ?_
        refine ai_iload dX6_factor_125 (j := 2) rfl ?_
        refine ai_bipush (v := 10) dX6_factor_127 (by decide) ?_
        refine ai_icmp_ge (tgt := 136) dX6_factor_129 (by decide) ⟨fun _ => ?_, fun hc => absurd hc16 hc⟩
        refine ai_iconst (v := 0) dX6_factor_136 (by decide) ?_
        refine ai_callVv (As := [.int 0]) (rest := []) dX6_factor_137 cvX6_141 rfl rfl rfl (Nat.le_of_ble_eq_true rfl) (vX6_need ?_)
        refine ⟨fun hc => absurd hc (by decide), fun _ => ?_⟩
        show ai_W _ _ _ _ _ _ (ai_up S15 0 19 1) _ _
        refine ai_aload_n dX6_factor_140 rfl (j := 0) rfl ?_
        refine ai_bipush (v := 7) dX6_factor_141 (by decide) ?_
        refine ai_callVi (As := [.int 7]) (rest := []) dX6_factor_143 cvX6_137 rfl rfl rfl (Nat.le_of_ble_eq_true rfl) (ai_met.mi h (fun x17 S18 h => ?_))
        refine ai_istore (lv' := [(6, .int x17), (0, .ref 0), (4, .int vl), (5, .int dg)]) dX6_factor_146 (by decide) rfl ?_
        refine ai_aload_n dX6_factor_148 rfl (j := 1) rfl ?_
        refine ai_getR dX6_factor_149 fdX6_22 rfl rfl ?_
        refine ai_iload dX6_factor_152 (j := 0) rfl ?_
        refine ai_iload dX6_factor_154 (j := 2) rfl ?_
        refine ai_iast dX6_factor_156 rfl ⟨h.1, ?_⟩
        have hi19 := h.1
        have h := h.2
        refine ai_aload_n dX6_factor_157 rfl (j := 1) rfl ?_
        refine ai_iload dX6_factor_158 (j := 0) rfl ?_
        refine ai_callVv (As := [.int x17]) (rest := []) dX6_factor_160 cvX6_177 rfl rfl rfl (Nat.le_of_ble_eq_true rfl) (ai_met.mv h (fun S21 h => ?_))
        refine ai_goto (tgt := 266) dX6_factor_163 (by decide) ?_
        exact ai_retv dX6_factor_266 rfl h
      · have h := h.2 hc16
        refine ai_iload dX6_factor_81 (j := 2) rfl ?_
        refine ai_bipush (v := 9) dX6_factor_83 (by decide) ?_
        refine ai_icmp_ge (tgt := 108) dX6_factor_85 (by decide) ⟨fun (hc22 : 9 ≤ dg) => ?_, fun (hc22 : ¬ 9 ≤ dg) => ?_⟩
        · have h := h.1 hc22
          refine ai_iinc (j := 2) (v := (dg + 1)) (lv' := [(5, .int (dg + 1)), (0, .ref 0), (4, .int vl)]) dX6_factor_108 rfl (by first | rfl | decide) (by decide) rfl ?_
          refine ai_aload_n dX6_factor_111 rfl (j := 1) rfl ?_
          refine ai_dup dX6_factor_112 rfl ?_
          refine ai_getI dX6_factor_113 fdX6_104 rfl rfl ?_
          refine ai_iconst (v := 1) dX6_factor_116 (by decide) ?_
          refine ai_iadd dX6_factor_117 ?_
          refine ai_putI dX6_factor_118 fdX6_104 pdX6_2 rfl rfl rfl rfl ?_
          refine ai_goto (tgt := 44) dX6_factor_121 (by decide) ?_
          refine ai_locj (lv' := [(0, .ref 0), (4, .int vl), (5, .int (dg + 1))]) [1, 2, 0] rfl ?_
          exact h
        · have h := h.2 hc22
          refine ai_bipush (v := 10) dX6_factor_88 (by decide) ?_
          refine ai_iload dX6_factor_90 (j := 1) rfl ?_
          refine ai_imul dX6_factor_92 ?_
          refine ai_aload_n dX6_factor_93 rfl (j := 0) rfl ?_
          refine ai_getR dX6_factor_94 fdX6_7 rfl rfl ?_
          refine ai_aload_n dX6_factor_97 rfl (j := 0) rfl ?_
          refine ai_getI dX6_factor_98 fdX6_104 rfl rfl ?_
          refine ai_iald dX6_factor_101 rfl ⟨h.1, ?_⟩
          have hi23 := h.1
          have h := h.2
          refine ai_iadd dX6_factor_102 ?_
          refine ai_bipush (v := 48) dX6_factor_103 (by decide) ?_
          refine ai_isub dX6_factor_105 ?_
          refine ai_istore (lv' := [(4, .int (((10 * vl) + (S15 1 ((S15 0 2)).toNatClampNeg)) - 48)), (0, .ref 0), (5, .int dg)]) dX6_factor_106 (by decide) rfl ?_
          refine ai_iinc (j := 2) (v := (dg + 1)) (lv' := [(5, .int (dg + 1)), (4, .int (((10 * vl) + (S15 1 ((S15 0 2)).toNatClampNeg)) - 48)), (0, .ref 0)]) dX6_factor_108 rfl (by first | rfl | decide) (by decide) rfl ?_
          refine ai_aload_n dX6_factor_111 rfl (j := 2) rfl ?_
          refine ai_dup dX6_factor_112 rfl ?_
          refine ai_getI dX6_factor_113 fdX6_104 rfl rfl ?_
          refine ai_iconst (v := 1) dX6_factor_116 (by decide) ?_
          refine ai_iadd dX6_factor_117 ?_
          refine ai_putI dX6_factor_118 fdX6_104 pdX6_2 rfl rfl rfl rfl ?_
          refine ai_goto (tgt := 44) dX6_factor_121 (by decide) ?_
          refine ai_locj (lv' := [(0, .ref 0), (4, .int (((10 * vl) + (S15 1 ((S15 0 2)).toNatClampNeg)) - 48)), (5, .int (dg + 1))]) [2, 1, 0] rfl ?_
          exact h
    · show ai_W _ _ _ _ _ _ _ _ _
      refine ai_if_eq (tgt := 124) dX6_factor_71 (by decide) ⟨fun _ => ?_, fun hc => absurd hc (by decide)⟩
      refine ai_aload_n dX6_factor_124 rfl (j := 0) rfl ?_
      refine ai_iload dX6_factor_125 (j := 2) rfl ?_
      refine ai_bipush (v := 10) dX6_factor_127 (by decide) ?_
      refine ai_icmp_ge (tgt := 136) dX6_factor_129 (by decide) ⟨fun (hc24 : 10 ≤ dg) => ?_, fun (hc24 : ¬ 10 ≤ dg) => ?_⟩
      · have h := h.1 hc24
        refine ai_iconst (v := 0) dX6_factor_136 (by decide) ?_
        refine ai_callVv (As := [.int 0]) (rest := []) dX6_factor_137 cvX6_141 rfl rfl rfl (Nat.le_of_ble_eq_true rfl) (vX6_need ?_)
        refine ⟨fun hc => absurd hc (by decide), fun _ => ?_⟩
        show ai_W _ _ _ _ _ _ (ai_up S15 0 19 1) _ _
        refine ai_aload_n dX6_factor_140 rfl (j := 0) rfl ?_
        refine ai_bipush (v := 7) dX6_factor_141 (by decide) ?_
        refine ai_callVi (As := [.int 7]) (rest := []) dX6_factor_143 cvX6_137 rfl rfl rfl (Nat.le_of_ble_eq_true rfl) (ai_met.mi h (fun x25 S26 h => ?_))
        refine ai_istore (lv' := [(6, .int x25), (0, .ref 0), (4, .int vl), (5, .int dg)]) dX6_factor_146 (by decide) rfl ?_
        refine ai_aload_n dX6_factor_148 rfl (j := 1) rfl ?_
        refine ai_getR dX6_factor_149 fdX6_22 rfl rfl ?_
        refine ai_iload dX6_factor_152 (j := 0) rfl ?_
        refine ai_iload dX6_factor_154 (j := 2) rfl ?_
        refine ai_iast dX6_factor_156 rfl ⟨h.1, ?_⟩
        have hi27 := h.1
        have h := h.2
        refine ai_aload_n dX6_factor_157 rfl (j := 1) rfl ?_
        refine ai_iload dX6_factor_158 (j := 0) rfl ?_
        refine ai_callVv (As := [.int x25]) (rest := []) dX6_factor_160 cvX6_177 rfl rfl rfl (Nat.le_of_ble_eq_true rfl) (ai_met.mv h (fun S29 h => ?_))
        refine ai_goto (tgt := 266) dX6_factor_163 (by decide) ?_
        exact ai_retv dX6_factor_266 rfl h
      · have h := h.2 hc24
        refine ai_iconst (v := 1) dX6_factor_132 (by decide) ?_
        refine ai_goto (tgt := 137) dX6_factor_133 (by decide) ?_
        refine ai_callVv (As := [.int 1]) (rest := []) dX6_factor_137 cvX6_141 rfl rfl rfl (Nat.le_of_ble_eq_true rfl) (vX6_need ?_)
        refine ⟨fun _ => ?_, fun hc => absurd hc (by decide)⟩
        show ai_W _ _ _ _ _ _ S15 _ _
        refine ai_aload_n dX6_factor_140 rfl (j := 0) rfl ?_
        refine ai_bipush (v := 7) dX6_factor_141 (by decide) ?_
        refine ai_callVi (As := [.int 7]) (rest := []) dX6_factor_143 cvX6_137 rfl rfl rfl (Nat.le_of_ble_eq_true rfl) (ai_met.mi h (fun x30 S31 h => ?_))
        refine ai_istore (lv' := [(6, .int x30), (0, .ref 0), (4, .int vl), (5, .int dg)]) dX6_factor_146 (by decide) rfl ?_
        refine ai_aload_n dX6_factor_148 rfl (j := 1) rfl ?_
        refine ai_getR dX6_factor_149 fdX6_22 rfl rfl ?_
        refine ai_iload dX6_factor_152 (j := 0) rfl ?_
        refine ai_iload dX6_factor_154 (j := 2) rfl ?_
        refine ai_iast dX6_factor_156 rfl ⟨h.1, ?_⟩
        have hi32 := h.1
        have h := h.2
        refine ai_aload_n dX6_factor_157 rfl (j := 1) rfl ?_
        refine ai_iload dX6_factor_158 (j := 0) rfl ?_
        refine ai_callVv (As := [.int x30]) (rest := []) dX6_factor_160 cvX6_177 rfl rfl rfl (Nat.le_of_ble_eq_true rfl) (ai_met.mv h (fun S34 h => ?_))
        refine ai_goto (tgt := 266) dX6_factor_163 (by decide) ?_
        exact ai_retv dX6_factor_266 rfl h
set_option maxHeartbeats 4000000 in
set_option maxRecDepth 100000 in
theorem vX6_read {S : ai_S} {V : ai_V} {G : Int32 → ai_S → Prop}
    (h : (((S 0 18) = 0 → ai_met (uM l D ρ τ) d mX6_push [.ref 0, .int 10, .int 1] (ai_up (ai_up (ai_up (ai_up (ai_up (ai_up (ai_up (ai_up (ai_up (ai_up (ai_up (ai_up S 0 14 (S 0 14)) 0 15 (350 * (S 0 14))) 0 2 0) 0 30 0) 0 36 0) 0 37 0) 0 19 0) 0 20 0) 0 21 0) 0 22 0) 0 23 0) 0 24 0) V (ai_qv V (fun S3 => ai_W (uM l D ρ τ) (d + 1) mX6_read 100 [(0, .ref 0), (1, .int (S 0 14)), (2, .int 0)] [] S3 V (ai_qi V G)))) ∧ (¬ (S 0 18) = 0 → ai_met (uM l D ρ τ) d mX6_push [.ref 0, .int 10, .int 1] (ai_up (ai_up (ai_up (ai_up (ai_up (ai_up (ai_up (ai_up (ai_up (ai_up (ai_up (ai_up S 0 14 (1 - (S 0 14))) 0 15 (350 * (1 - (S 0 14)))) 0 2 0) 0 30 0) 0 36 0) 0 37 0) 0 19 0) 0 20 0) 0 21 0) 0 22 0) 0 23 0) 0 24 0) V (ai_qv V (fun S5 => ai_W (uM l D ρ τ) (d + 1) mX6_read 100 [(0, .ref 0), (1, .int (S 0 14)), (2, .int 0)] [] S5 V (ai_qi V G)))))) :
    ai_met (uM l D ρ τ) (d + 1) mX6_read [.ref 0] S V (ai_qi V G) := by
  refine ai_mof plX6 (Nat.le_of_ble_eq_true rfl) (lv := [(0, .ref 0)]) rfl ?_
  refine ai_aload_n dX6_read_0 rfl (j := 0) rfl ?_
  refine ai_getI dX6_read_1 fdX6_201 rfl rfl ?_
  refine ai_istore_n (lv' := [(1, .int (S 0 14)), (0, .ref 0)]) dX6_read_4 rfl (by decide) rfl ?_
  refine ai_aload_n dX6_read_5 rfl (j := 1) rfl ?_
  refine ai_aload_n dX6_read_6 rfl (j := 1) rfl ?_
  refine ai_getI dX6_read_7 fdX6_211 rfl rfl ?_
  refine ai_if_eq (tgt := 22) dX6_read_10 (by decide) ⟨fun (hc1 : (S 0 18) = 0) => ?_, fun (hc1 : ¬ (S 0 18) = 0) => ?_⟩
  · have h := h.1 hc1
    refine ai_aload_n dX6_read_22 rfl (j := 1) rfl ?_
    refine ai_getI dX6_read_23 fdX6_201 rfl rfl ?_
    refine ai_putI dX6_read_26 fdX6_201 pdX6_14 rfl rfl rfl rfl ?_
    refine ai_aload_n dX6_read_29 rfl (j := 1) rfl ?_
    refine ai_sipush (v := 350) dX6_read_30 (by decide) ?_
    refine ai_aload_n dX6_read_33 rfl (j := 1) rfl ?_
    refine ai_getIx (S 0 14) dX6_read_34 fdX6_201 rfl rfl rfl ?_
    refine ai_imul dX6_read_37 ?_
    refine ai_putI dX6_read_38 fdX6_118 pdX6_15 rfl rfl rfl rfl ?_
    refine ai_aload_n dX6_read_41 rfl (j := 1) rfl ?_
    refine ai_iconst (v := 0) dX6_read_42 (by decide) ?_
    refine ai_putI dX6_read_43 fdX6_104 pdX6_2 rfl rfl rfl rfl ?_
    refine ai_aload_n dX6_read_46 rfl (j := 1) rfl ?_
    refine ai_iconst (v := 0) dX6_read_47 (by decide) ?_
    refine ai_putI dX6_read_48 fdX6_115 pdX6_30 rfl rfl rfl rfl ?_
    refine ai_aload_n dX6_read_51 rfl (j := 1) rfl ?_
    refine ai_iconst (v := 0) dX6_read_52 (by decide) ?_
    refine ai_putI dX6_read_53 fdX6_128 pdX6_36 rfl rfl rfl rfl ?_
    refine ai_aload_n dX6_read_56 rfl (j := 1) rfl ?_
    refine ai_iconst (v := 0) dX6_read_57 (by decide) ?_
    refine ai_putI dX6_read_58 fdX6_131 pdX6_37 rfl rfl rfl rfl ?_
    refine ai_aload_n dX6_read_61 rfl (j := 1) rfl ?_
    refine ai_iconst (v := 0) dX6_read_62 (by decide) ?_
    refine ai_putI dX6_read_63 fdX6_124 pdX6_19 rfl rfl rfl rfl ?_
    refine ai_aload_n dX6_read_66 rfl (j := 1) rfl ?_
    refine ai_iconst (v := 0) dX6_read_67 (by decide) ?_
    refine ai_putI dX6_read_68 fdX6_134 pdX6_20 rfl rfl rfl rfl ?_
    refine ai_aload_n dX6_read_71 rfl (j := 1) rfl ?_
    refine ai_iconst (v := 0) dX6_read_72 (by decide) ?_
    refine ai_putI dX6_read_73 fdX6_198 pdX6_21 rfl rfl rfl rfl ?_
    refine ai_aload_n dX6_read_76 rfl (j := 1) rfl ?_
    refine ai_iconst (v := 0) dX6_read_77 (by decide) ?_
    refine ai_putI dX6_read_78 fdX6_189 pdX6_22 rfl rfl rfl rfl ?_
    refine ai_aload_n dX6_read_81 rfl (j := 1) rfl ?_
    refine ai_iconst (v := 0) dX6_read_82 (by decide) ?_
    refine ai_putI dX6_read_83 fdX6_152 pdX6_23 rfl rfl rfl rfl ?_
    refine ai_aload_n dX6_read_86 rfl (j := 1) rfl ?_
    refine ai_iconst (v := 0) dX6_read_87 (by decide) ?_
    refine ai_putI dX6_read_88 fdX6_145 pdX6_24 rfl rfl rfl rfl ?_
    refine ai_aload_n dX6_read_91 rfl (j := 1) rfl ?_
    refine ai_bipush (v := 10) dX6_read_92 (by decide) ?_
    refine ai_iconst (v := 1) dX6_read_94 (by decide) ?_
    refine ai_callVv (As := [.int 10, .int 1]) (rest := []) dX6_read_95 cvX6_166 rfl rfl rfl (Nat.le_of_ble_eq_true rfl) (ai_met.mv h (fun S3 h => ?_))
    refine ai_iconst (v := 0) dX6_read_98 (by decide) ?_
    refine ai_istore_n (lv' := [(2, .int 0), (1, .int (S 0 14)), (0, .ref 0)]) dX6_read_99 rfl (by decide) rfl ?_
    refine ai_locj (lv' := [(0, .ref 0), (1, .int (S 0 14)), (2, .int 0)]) [2, 1, 0] rfl ?_
    exact h
  · have h := h.2 hc1
    refine ai_iconst (v := 1) dX6_read_13 (by decide) ?_
    refine ai_aload_n dX6_read_14 rfl (j := 1) rfl ?_
    refine ai_getI dX6_read_15 fdX6_201 rfl rfl ?_
    refine ai_isub dX6_read_18 ?_
    refine ai_goto (tgt := 26) dX6_read_19 (by decide) ?_
    refine ai_putI dX6_read_26 fdX6_201 pdX6_14 rfl rfl rfl rfl ?_
    refine ai_aload_n dX6_read_29 rfl (j := 1) rfl ?_
    refine ai_sipush (v := 350) dX6_read_30 (by decide) ?_
    refine ai_aload_n dX6_read_33 rfl (j := 1) rfl ?_
    refine ai_getIx (1 - (S 0 14)) dX6_read_34 fdX6_201 rfl rfl rfl ?_
    refine ai_imul dX6_read_37 ?_
    refine ai_putI dX6_read_38 fdX6_118 pdX6_15 rfl rfl rfl rfl ?_
    refine ai_aload_n dX6_read_41 rfl (j := 1) rfl ?_
    refine ai_iconst (v := 0) dX6_read_42 (by decide) ?_
    refine ai_putI dX6_read_43 fdX6_104 pdX6_2 rfl rfl rfl rfl ?_
    refine ai_aload_n dX6_read_46 rfl (j := 1) rfl ?_
    refine ai_iconst (v := 0) dX6_read_47 (by decide) ?_
    refine ai_putI dX6_read_48 fdX6_115 pdX6_30 rfl rfl rfl rfl ?_
    refine ai_aload_n dX6_read_51 rfl (j := 1) rfl ?_
    refine ai_iconst (v := 0) dX6_read_52 (by decide) ?_
    refine ai_putI dX6_read_53 fdX6_128 pdX6_36 rfl rfl rfl rfl ?_
    refine ai_aload_n dX6_read_56 rfl (j := 1) rfl ?_
    refine ai_iconst (v := 0) dX6_read_57 (by decide) ?_
    refine ai_putI dX6_read_58 fdX6_131 pdX6_37 rfl rfl rfl rfl ?_
    refine ai_aload_n dX6_read_61 rfl (j := 1) rfl ?_
    refine ai_iconst (v := 0) dX6_read_62 (by decide) ?_
    refine ai_putI dX6_read_63 fdX6_124 pdX6_19 rfl rfl rfl rfl ?_
    refine ai_aload_n dX6_read_66 rfl (j := 1) rfl ?_
    refine ai_iconst (v := 0) dX6_read_67 (by decide) ?_
    refine ai_putI dX6_read_68 fdX6_134 pdX6_20 rfl rfl rfl rfl ?_
    refine ai_aload_n dX6_read_71 rfl (j := 1) rfl ?_
    refine ai_iconst (v := 0) dX6_read_72 (by decide) ?_
    refine ai_putI dX6_read_73 fdX6_198 pdX6_21 rfl rfl rfl rfl ?_
    refine ai_aload_n dX6_read_76 rfl (j := 1) rfl ?_
    refine ai_iconst (v := 0) dX6_read_77 (by decide) ?_
    refine ai_putI dX6_read_78 fdX6_189 pdX6_22 rfl rfl rfl rfl ?_
    refine ai_aload_n dX6_read_81 rfl (j := 1) rfl ?_
    refine ai_iconst (v := 0) dX6_read_82 (by decide) ?_
    refine ai_putI dX6_read_83 fdX6_152 pdX6_23 rfl rfl rfl rfl ?_
    refine ai_aload_n dX6_read_86 rfl (j := 1) rfl ?_
    refine ai_iconst (v := 0) dX6_read_87 (by decide) ?_
    refine ai_putI dX6_read_88 fdX6_145 pdX6_24 rfl rfl rfl rfl ?_
    refine ai_aload_n dX6_read_91 rfl (j := 1) rfl ?_
    refine ai_bipush (v := 10) dX6_read_92 (by decide) ?_
    refine ai_iconst (v := 1) dX6_read_94 (by decide) ?_
    refine ai_callVv (As := [.int 10, .int 1]) (rest := []) dX6_read_95 cvX6_166 rfl rfl rfl (Nat.le_of_ble_eq_true rfl) (ai_met.mv h (fun S5 h => ?_))
    refine ai_iconst (v := 0) dX6_read_98 (by decide) ?_
    refine ai_istore_n (lv' := [(2, .int 0), (1, .int (S 0 14)), (0, .ref 0)]) dX6_read_99 rfl (by decide) rfl ?_
    refine ai_locj (lv' := [(0, .ref 0), (1, .int (S 0 14)), (2, .int 0)]) [2, 1, 0] rfl ?_
    exact h
set_option maxHeartbeats 4000000 in
set_option maxRecDepth 100000 in
theorem vX6_read_100 {was : Int32} {rd : Int32} {S : ai_S} {V : ai_V} {G : Int32 → ai_S → Prop}
    (h : ((100000 ≤ rd → ((¬ (S 0 19) = 0 → G (-1) (ai_up S 0 14 was)) ∧ ((S 0 19) = 0 → ai_met (uM l D ρ τ) d mX6_peek [.ref 0] S V (ai_qi V (fun x3 S4 => ((¬ x3 = (-1) → ((¬ (S4 0 19) = 0 → G (-1) (ai_up S4 0 14 was)) ∧ ((S4 0 19) = 0 → ai_met (uM l D ρ τ) d mX6_peek [.ref 0] (ai_up S4 0 14 was) V (ai_qi V (fun x7 S8 => ((x7 = (-1) → G (-2) S8) ∧ (¬ x7 = (-1) → G (-1) S8))))))) ∧ (x3 = (-1) → (((S4 0 20) = 0 → G 0 (ai_up (ai_up (ai_up (ai_up (ai_up (ai_up S4 0 18 1) 0 16 (S4 0 31)) 12 0 (S4 0 21)) 12 1 (S4 0 22)) 12 2 (S4 0 23)) 12 3 (S4 0 24))) ∧ (¬ (S4 0 20) = 0 → ((¬ (S4 0 19) = 0 → G (-1) (ai_up S4 0 14 was)) ∧ ((S4 0 19) = 0 → ai_met (uM l D ρ τ) d mX6_peek [.ref 0] (ai_up S4 0 14 was) V (ai_qi V (fun x12 S13 => ((x12 = (-1) → G (-2) S13) ∧ (¬ x12 = (-1) → G (-1) S13))))))))))))))) ∧ (¬ 100000 ≤ rd → (((S 0 30) ≤ 0 → ((¬ (S 0 19) = 0 → G (-1) (ai_up S 0 14 was)) ∧ ((S 0 19) = 0 → ai_met (uM l D ρ τ) d mX6_peek [.ref 0] S V (ai_qi V (fun x17 S18 => ((¬ x17 = (-1) → ((¬ (S18 0 19) = 0 → G (-1) (ai_up S18 0 14 was)) ∧ ((S18 0 19) = 0 → ai_met (uM l D ρ τ) d mX6_peek [.ref 0] (ai_up S18 0 14 was) V (ai_qi V (fun x21 S22 => ((x21 = (-1) → G (-2) S22) ∧ (¬ x21 = (-1) → G (-1) S22))))))) ∧ (x17 = (-1) → (((S18 0 20) = 0 → G 0 (ai_up (ai_up (ai_up (ai_up (ai_up (ai_up S18 0 18 1) 0 16 (S18 0 31)) 12 0 (S18 0 21)) 12 1 (S18 0 22)) 12 2 (S18 0 23)) 12 3 (S18 0 24))) ∧ (¬ (S18 0 20) = 0 → ((¬ (S18 0 19) = 0 → G (-1) (ai_up S18 0 14 was)) ∧ ((S18 0 19) = 0 → ai_met (uM l D ρ τ) d mX6_peek [.ref 0] (ai_up S18 0 14 was) V (ai_qi V (fun x26 S27 => ((x26 = (-1) → G (-2) S27) ∧ (¬ x26 = (-1) → G (-1) S27))))))))))))))) ∧ (¬ (S 0 30) ≤ 0 → ((¬ (S 0 19) = 0 → G (-1) (ai_up S 0 14 was)) ∧ ((S 0 19) = 0 → (vp_in ((S 0 30) - 1) 80 ∧ ((¬ (S 13 (((S 0 30) - 1)).toNatClampNeg) = 10 → (((S 13 (((S 0 30) - 1)).toNatClampNeg) < 30 → ai_met (uM l D ρ τ) d mX6_onward [.ref 0, .int ((S 0 30) - 1)] S V (ai_qv V (fun S34 => ai_W (uM l D ρ τ) (d + 1) mX6_read 100 [(0, .ref 0), (1, .int was), (2, .int (rd + 1))] [] S34 V (ai_qi V G)))) ∧ (¬ (S 13 (((S 0 30) - 1)).toNatClampNeg) < 30 → (((S 13 (((S 0 30) - 1)).toNatClampNeg) = 40 → ai_met (uM l D ρ τ) d mX6_onward [.ref 0, .int ((S 0 30) - 1)] S V (ai_qv V (fun S37 => ai_W (uM l D ρ τ) (d + 1) mX6_read 100 [(0, .ref 0), (1, .int was), (2, .int (rd + 1))] [] S37 V (ai_qi V G)))) ∧ (¬ (S 13 (((S 0 30) - 1)).toNatClampNeg) = 40 → ai_met (uM l D ρ τ) d mX6_expression [.ref 0, .int ((S 0 30) - 1)] S V (ai_qv V (fun S39 => ai_W (uM l D ρ τ) (d + 1) mX6_read 100 [(0, .ref 0), (1, .int was), (2, .int (rd + 1))] [] S39 V (ai_qi V G)))))))) ∧ ((S 13 (((S 0 30) - 1)).toNatClampNeg) = 10 → ai_met (uM l D ρ τ) d mX6_openStatement [.ref 0, .int ((S 0 30) - 1)] S V (ai_qv V (fun S41 => ai_W (uM l D ρ τ) (d + 1) mX6_read 100 [(0, .ref 0), (1, .int was), (2, .int (rd + 1))] [] S41 V (ai_qi V G))))))))))))) :
    ai_W (uM l D ρ τ) (d + 1) mX6_read 100 [(0, .ref 0), (1, .int was), (2, .int rd)] [] S V (ai_qi V G) := by
  refine ai_iload_n dX6_read_100 rfl (j := 2) rfl ?_
  refine ai_ldc dX6_read_101 ctX6_214 ?_
  refine ai_icmp_ge (tgt := 183) dX6_read_103 (by decide) ⟨fun (hc1 : 100000 ≤ rd) => ?_, fun (hc1 : ¬ 100000 ≤ rd) => ?_⟩
  · have h := h.1 hc1
    refine ai_aload_n dX6_read_183 rfl (j := 0) rfl ?_
    refine ai_getI dX6_read_184 fdX6_124 rfl rfl ?_
    refine ai_if_ne (tgt := 205) dX6_read_187 (by decide) ⟨fun (hc2 : ¬ (S 0 19) = 0) => ?_, fun (hc2 : (S 0 19) = 0) => ?_⟩
    · have h := h.1 hc2
      refine ai_aload_n dX6_read_205 rfl (j := 0) rfl ?_
      refine ai_iload_n dX6_read_206 rfl (j := 1) rfl ?_
      refine ai_putI dX6_read_207 fdX6_201 pdX6_14 rfl rfl rfl rfl ?_
      refine ai_aload_n dX6_read_210 rfl (j := 0) rfl ?_
      refine ai_getIx (S 0 19) dX6_read_211 fdX6_124 rfl rfl rfl ?_
      refine ai_if_ne (tgt := 225) dX6_read_214 (by decide) ⟨fun _ => ?_, fun hc => absurd hc hc2⟩
      refine ai_iconst (v := (-1)) dX6_read_225 (by decide) ?_
      refine ai_goto (tgt := 231) dX6_read_226 (by decide) ?_
      exact ai_reti dX6_read_231 rfl h
    · have h := h.2 hc2
      refine ai_aload_n dX6_read_190 rfl (j := 0) rfl ?_
      refine ai_callVi (As := []) (rest := []) dX6_read_191 cvX6_107 rfl rfl rfl (Nat.le_of_ble_eq_true rfl) (ai_met.mi h (fun x3 S4 h => ?_))
      refine ai_iconst (v := (-1)) dX6_read_194 (by decide) ?_
      refine ai_icmp_ne (tgt := 205) dX6_read_195 (by decide) ⟨fun (hc5 : ¬ x3 = (-1)) => ?_, fun (hc5 : x3 = (-1)) => ?_⟩
      · have h := h.1 hc5
        refine ai_aload_n dX6_read_205 rfl (j := 0) rfl ?_
        refine ai_iload_n dX6_read_206 rfl (j := 1) rfl ?_
        refine ai_putI dX6_read_207 fdX6_201 pdX6_14 rfl rfl rfl rfl ?_
        refine ai_aload_n dX6_read_210 rfl (j := 0) rfl ?_
        refine ai_getIx (S4 0 19) dX6_read_211 fdX6_124 rfl rfl rfl ?_
        refine ai_if_ne (tgt := 225) dX6_read_214 (by decide) ⟨fun (hc6 : ¬ (S4 0 19) = 0) => ?_, fun (hc6 : (S4 0 19) = 0) => ?_⟩
        · have h := h.1 hc6
          refine ai_iconst (v := (-1)) dX6_read_225 (by decide) ?_
          refine ai_goto (tgt := 231) dX6_read_226 (by decide) ?_
          exact ai_reti dX6_read_231 rfl h
        · have h := h.2 hc6
          refine ai_aload_n dX6_read_217 rfl (j := 0) rfl ?_
          refine ai_callVi (As := []) (rest := []) dX6_read_218 cvX6_107 rfl rfl rfl (Nat.le_of_ble_eq_true rfl) (ai_met.mi h (fun x7 S8 h => ?_))
          refine ai_iconst (v := (-1)) dX6_read_221 (by decide) ?_
          refine ai_icmp_eq (tgt := 229) dX6_read_222 (by decide) ⟨fun (hc9 : x7 = (-1)) => ?_, fun (hc9 : ¬ x7 = (-1)) => ?_⟩
          · have h := h.1 hc9
            refine ai_bipush (v := (-2)) dX6_read_229 (by decide) ?_
            exact ai_reti dX6_read_231 rfl h
          · have h := h.2 hc9
            refine ai_iconst (v := (-1)) dX6_read_225 (by decide) ?_
            refine ai_goto (tgt := 231) dX6_read_226 (by decide) ?_
            exact ai_reti dX6_read_231 rfl h
      · have h := h.2 hc5
        refine ai_aload_n dX6_read_198 rfl (j := 0) rfl ?_
        refine ai_getI dX6_read_199 fdX6_134 rfl rfl ?_
        refine ai_if_eq (tgt := 232) dX6_read_202 (by decide) ⟨fun (hc10 : (S4 0 20) = 0) => ?_, fun (hc10 : ¬ (S4 0 20) = 0) => ?_⟩
        · have h := h.1 hc10
          refine ai_aload_n dX6_read_232 rfl (j := 0) rfl ?_
          refine ai_iconst (v := 1) dX6_read_233 (by decide) ?_
          refine ai_putI dX6_read_234 fdX6_211 pdX6_18 rfl rfl rfl rfl ?_
          refine ai_aload_n dX6_read_237 rfl (j := 0) rfl ?_
          refine ai_aload_n dX6_read_238 rfl (j := 0) rfl ?_
          refine ai_getIx (S4 0 31) dX6_read_239 fdX6_121 rfl rfl rfl ?_
          refine ai_putI dX6_read_242 fdX6_224 pdX6_16 rfl rfl rfl rfl ?_
          refine ai_aload_n dX6_read_245 rfl (j := 0) rfl ?_
          refine ai_getR dX6_read_246 fdX6_43 rfl rfl ?_
          refine ai_iconst (v := 0) dX6_read_249 (by decide) ?_
          refine ai_aload_n dX6_read_250 rfl (j := 0) rfl ?_
          refine ai_getIx (S4 0 21) dX6_read_251 fdX6_198 rfl rfl rfl ?_
          refine ai_iastx 0 dX6_read_254 rfl rfl ⟨(by show vp_in 0 8; unfold vp_in; decide), ?_⟩
          refine ai_aload_n dX6_read_255 rfl (j := 0) rfl ?_
          refine ai_getR dX6_read_256 fdX6_43 rfl rfl ?_
          refine ai_iconst (v := 1) dX6_read_259 (by decide) ?_
          refine ai_aload_n dX6_read_260 rfl (j := 0) rfl ?_
          refine ai_getIx (S4 0 22) dX6_read_261 fdX6_189 rfl rfl rfl ?_
          refine ai_iastx 1 dX6_read_264 rfl rfl ⟨(by show vp_in 1 8; unfold vp_in; decide), ?_⟩
          refine ai_aload_n dX6_read_265 rfl (j := 0) rfl ?_
          refine ai_getR dX6_read_266 fdX6_43 rfl rfl ?_
          refine ai_iconst (v := 2) dX6_read_269 (by decide) ?_
          refine ai_aload_n dX6_read_270 rfl (j := 0) rfl ?_
          refine ai_getIx (S4 0 23) dX6_read_271 fdX6_152 rfl rfl rfl ?_
          refine ai_iastx 2 dX6_read_274 rfl rfl ⟨(by show vp_in 2 8; unfold vp_in; decide), ?_⟩
          refine ai_aload_n dX6_read_275 rfl (j := 0) rfl ?_
          refine ai_getR dX6_read_276 fdX6_43 rfl rfl ?_
          refine ai_iconst (v := 3) dX6_read_279 (by decide) ?_
          refine ai_aload_n dX6_read_280 rfl (j := 0) rfl ?_
          refine ai_getIx (S4 0 24) dX6_read_281 fdX6_145 rfl rfl rfl ?_
          refine ai_iastx 3 dX6_read_284 rfl rfl ⟨(by show vp_in 3 8; unfold vp_in; decide), ?_⟩
          refine ai_iconst (v := 0) dX6_read_285 (by decide) ?_
          exact ai_reti dX6_read_286 rfl h
        · have h := h.2 hc10
          refine ai_aload_n dX6_read_205 rfl (j := 0) rfl ?_
          refine ai_iload_n dX6_read_206 rfl (j := 1) rfl ?_
          refine ai_putI dX6_read_207 fdX6_201 pdX6_14 rfl rfl rfl rfl ?_
          refine ai_aload_n dX6_read_210 rfl (j := 0) rfl ?_
          refine ai_getIx (S4 0 19) dX6_read_211 fdX6_124 rfl rfl rfl ?_
          refine ai_if_ne (tgt := 225) dX6_read_214 (by decide) ⟨fun (hc11 : ¬ (S4 0 19) = 0) => ?_, fun (hc11 : (S4 0 19) = 0) => ?_⟩
          · have h := h.1 hc11
            refine ai_iconst (v := (-1)) dX6_read_225 (by decide) ?_
            refine ai_goto (tgt := 231) dX6_read_226 (by decide) ?_
            exact ai_reti dX6_read_231 rfl h
          · have h := h.2 hc11
            refine ai_aload_n dX6_read_217 rfl (j := 0) rfl ?_
            refine ai_callVi (As := []) (rest := []) dX6_read_218 cvX6_107 rfl rfl rfl (Nat.le_of_ble_eq_true rfl) (ai_met.mi h (fun x12 S13 h => ?_))
            refine ai_iconst (v := (-1)) dX6_read_221 (by decide) ?_
            refine ai_icmp_eq (tgt := 229) dX6_read_222 (by decide) ⟨fun (hc14 : x12 = (-1)) => ?_, fun (hc14 : ¬ x12 = (-1)) => ?_⟩
            · have h := h.1 hc14
              refine ai_bipush (v := (-2)) dX6_read_229 (by decide) ?_
              exact ai_reti dX6_read_231 rfl h
            · have h := h.2 hc14
              refine ai_iconst (v := (-1)) dX6_read_225 (by decide) ?_
              refine ai_goto (tgt := 231) dX6_read_226 (by decide) ?_
              exact ai_reti dX6_read_231 rfl h
  · have h := h.2 hc1
    refine ai_aload_n dX6_read_106 rfl (j := 0) rfl ?_
    refine ai_getI dX6_read_107 fdX6_115 rfl rfl ?_
    refine ai_if_le (tgt := 183) dX6_read_110 (by decide) ⟨fun (hc15 : (S 0 30) ≤ 0) => ?_, fun (hc15 : ¬ (S 0 30) ≤ 0) => ?_⟩
    · have h := h.1 hc15
      refine ai_aload_n dX6_read_183 rfl (j := 0) rfl ?_
      refine ai_getI dX6_read_184 fdX6_124 rfl rfl ?_
      refine ai_if_ne (tgt := 205) dX6_read_187 (by decide) ⟨fun (hc16 : ¬ (S 0 19) = 0) => ?_, fun (hc16 : (S 0 19) = 0) => ?_⟩
      · have h := h.1 hc16
        refine ai_aload_n dX6_read_205 rfl (j := 0) rfl ?_
        refine ai_iload_n dX6_read_206 rfl (j := 1) rfl ?_
        refine ai_putI dX6_read_207 fdX6_201 pdX6_14 rfl rfl rfl rfl ?_
        refine ai_aload_n dX6_read_210 rfl (j := 0) rfl ?_
        refine ai_getIx (S 0 19) dX6_read_211 fdX6_124 rfl rfl rfl ?_
        refine ai_if_ne (tgt := 225) dX6_read_214 (by decide) ⟨fun _ => ?_, fun hc => absurd hc hc16⟩
        refine ai_iconst (v := (-1)) dX6_read_225 (by decide) ?_
        refine ai_goto (tgt := 231) dX6_read_226 (by decide) ?_
        exact ai_reti dX6_read_231 rfl h
      · have h := h.2 hc16
        refine ai_aload_n dX6_read_190 rfl (j := 0) rfl ?_
        refine ai_callVi (As := []) (rest := []) dX6_read_191 cvX6_107 rfl rfl rfl (Nat.le_of_ble_eq_true rfl) (ai_met.mi h (fun x17 S18 h => ?_))
        refine ai_iconst (v := (-1)) dX6_read_194 (by decide) ?_
        refine ai_icmp_ne (tgt := 205) dX6_read_195 (by decide) ⟨fun (hc19 : ¬ x17 = (-1)) => ?_, fun (hc19 : x17 = (-1)) => ?_⟩
        · have h := h.1 hc19
          refine ai_aload_n dX6_read_205 rfl (j := 0) rfl ?_
          refine ai_iload_n dX6_read_206 rfl (j := 1) rfl ?_
          refine ai_putI dX6_read_207 fdX6_201 pdX6_14 rfl rfl rfl rfl ?_
          refine ai_aload_n dX6_read_210 rfl (j := 0) rfl ?_
          refine ai_getIx (S18 0 19) dX6_read_211 fdX6_124 rfl rfl rfl ?_
          refine ai_if_ne (tgt := 225) dX6_read_214 (by decide) ⟨fun (hc20 : ¬ (S18 0 19) = 0) => ?_, fun (hc20 : (S18 0 19) = 0) => ?_⟩
          · have h := h.1 hc20
            refine ai_iconst (v := (-1)) dX6_read_225 (by decide) ?_
            refine ai_goto (tgt := 231) dX6_read_226 (by decide) ?_
            exact ai_reti dX6_read_231 rfl h
          · have h := h.2 hc20
            refine ai_aload_n dX6_read_217 rfl (j := 0) rfl ?_
            refine ai_callVi (As := []) (rest := []) dX6_read_218 cvX6_107 rfl rfl rfl (Nat.le_of_ble_eq_true rfl) (ai_met.mi h (fun x21 S22 h => ?_))
            refine ai_iconst (v := (-1)) dX6_read_221 (by decide) ?_
            refine ai_icmp_eq (tgt := 229) dX6_read_222 (by decide) ⟨fun (hc23 : x21 = (-1)) => ?_, fun (hc23 : ¬ x21 = (-1)) => ?_⟩
            · have h := h.1 hc23
              refine ai_bipush (v := (-2)) dX6_read_229 (by decide) ?_
              exact ai_reti dX6_read_231 rfl h
            · have h := h.2 hc23
              refine ai_iconst (v := (-1)) dX6_read_225 (by decide) ?_
              refine ai_goto (tgt := 231) dX6_read_226 (by decide) ?_
              exact ai_reti dX6_read_231 rfl h
        · have h := h.2 hc19
          refine ai_aload_n dX6_read_198 rfl (j := 0) rfl ?_
          refine ai_getI dX6_read_199 fdX6_134 rfl rfl ?_
          refine ai_if_eq (tgt := 232) dX6_read_202 (by decide) ⟨fun (hc24 : (S18 0 20) = 0) => ?_, fun (hc24 : ¬ (S18 0 20) = 0) => ?_⟩
          · have h := h.1 hc24
            refine ai_aload_n dX6_read_232 rfl (j := 0) rfl ?_
            refine ai_iconst (v := 1) dX6_read_233 (by decide) ?_
            refine ai_putI dX6_read_234 fdX6_211 pdX6_18 rfl rfl rfl rfl ?_
            refine ai_aload_n dX6_read_237 rfl (j := 0) rfl ?_
            refine ai_aload_n dX6_read_238 rfl (j := 0) rfl ?_
            refine ai_getIx (S18 0 31) dX6_read_239 fdX6_121 rfl rfl rfl ?_
            refine ai_putI dX6_read_242 fdX6_224 pdX6_16 rfl rfl rfl rfl ?_
            refine ai_aload_n dX6_read_245 rfl (j := 0) rfl ?_
            refine ai_getR dX6_read_246 fdX6_43 rfl rfl ?_
            refine ai_iconst (v := 0) dX6_read_249 (by decide) ?_
            refine ai_aload_n dX6_read_250 rfl (j := 0) rfl ?_
            refine ai_getIx (S18 0 21) dX6_read_251 fdX6_198 rfl rfl rfl ?_
            refine ai_iastx 0 dX6_read_254 rfl rfl ⟨(by show vp_in 0 8; unfold vp_in; decide), ?_⟩
            refine ai_aload_n dX6_read_255 rfl (j := 0) rfl ?_
            refine ai_getR dX6_read_256 fdX6_43 rfl rfl ?_
            refine ai_iconst (v := 1) dX6_read_259 (by decide) ?_
            refine ai_aload_n dX6_read_260 rfl (j := 0) rfl ?_
            refine ai_getIx (S18 0 22) dX6_read_261 fdX6_189 rfl rfl rfl ?_
            refine ai_iastx 1 dX6_read_264 rfl rfl ⟨(by show vp_in 1 8; unfold vp_in; decide), ?_⟩
            refine ai_aload_n dX6_read_265 rfl (j := 0) rfl ?_
            refine ai_getR dX6_read_266 fdX6_43 rfl rfl ?_
            refine ai_iconst (v := 2) dX6_read_269 (by decide) ?_
            refine ai_aload_n dX6_read_270 rfl (j := 0) rfl ?_
            refine ai_getIx (S18 0 23) dX6_read_271 fdX6_152 rfl rfl rfl ?_
            refine ai_iastx 2 dX6_read_274 rfl rfl ⟨(by show vp_in 2 8; unfold vp_in; decide), ?_⟩
            refine ai_aload_n dX6_read_275 rfl (j := 0) rfl ?_
            refine ai_getR dX6_read_276 fdX6_43 rfl rfl ?_
            refine ai_iconst (v := 3) dX6_read_279 (by decide) ?_
            refine ai_aload_n dX6_read_280 rfl (j := 0) rfl ?_
            refine ai_getIx (S18 0 24) dX6_read_281 fdX6_145 rfl rfl rfl ?_
            refine ai_iastx 3 dX6_read_284 rfl rfl ⟨(by show vp_in 3 8; unfold vp_in; decide), ?_⟩
            refine ai_iconst (v := 0) dX6_read_285 (by decide) ?_
            exact ai_reti dX6_read_286 rfl h
          · have h := h.2 hc24
            refine ai_aload_n dX6_read_205 rfl (j := 0) rfl ?_
            refine ai_iload_n dX6_read_206 rfl (j := 1) rfl ?_
            refine ai_putI dX6_read_207 fdX6_201 pdX6_14 rfl rfl rfl rfl ?_
            refine ai_aload_n dX6_read_210 rfl (j := 0) rfl ?_
            refine ai_getIx (S18 0 19) dX6_read_211 fdX6_124 rfl rfl rfl ?_
            refine ai_if_ne (tgt := 225) dX6_read_214 (by decide) ⟨fun (hc25 : ¬ (S18 0 19) = 0) => ?_, fun (hc25 : (S18 0 19) = 0) => ?_⟩
            · have h := h.1 hc25
              refine ai_iconst (v := (-1)) dX6_read_225 (by decide) ?_
              refine ai_goto (tgt := 231) dX6_read_226 (by decide) ?_
              exact ai_reti dX6_read_231 rfl h
            · have h := h.2 hc25
              refine ai_aload_n dX6_read_217 rfl (j := 0) rfl ?_
              refine ai_callVi (As := []) (rest := []) dX6_read_218 cvX6_107 rfl rfl rfl (Nat.le_of_ble_eq_true rfl) (ai_met.mi h (fun x26 S27 h => ?_))
              refine ai_iconst (v := (-1)) dX6_read_221 (by decide) ?_
              refine ai_icmp_eq (tgt := 229) dX6_read_222 (by decide) ⟨fun (hc28 : x26 = (-1)) => ?_, fun (hc28 : ¬ x26 = (-1)) => ?_⟩
              · have h := h.1 hc28
                refine ai_bipush (v := (-2)) dX6_read_229 (by decide) ?_
                exact ai_reti dX6_read_231 rfl h
              · have h := h.2 hc28
                refine ai_iconst (v := (-1)) dX6_read_225 (by decide) ?_
                refine ai_goto (tgt := 231) dX6_read_226 (by decide) ?_
                exact ai_reti dX6_read_231 rfl h
    · have h := h.2 hc15
      refine ai_aload_n dX6_read_113 rfl (j := 0) rfl ?_
      refine ai_getI dX6_read_114 fdX6_124 rfl rfl ?_
      refine ai_if_ne (tgt := 183) dX6_read_117 (by decide) ⟨fun (hc29 : ¬ (S 0 19) = 0) => ?_, fun (hc29 : (S 0 19) = 0) => ?_⟩
      · have h := h.1 hc29
        refine ai_aload_n dX6_read_183 rfl (j := 0) rfl ?_
        refine ai_getI dX6_read_184 fdX6_124 rfl rfl ?_
        refine ai_if_ne (tgt := 205) dX6_read_187 (by decide) ⟨fun _ => ?_, fun hc => absurd hc hc29⟩
        refine ai_aload_n dX6_read_205 rfl (j := 0) rfl ?_
        refine ai_iload_n dX6_read_206 rfl (j := 1) rfl ?_
        refine ai_putI dX6_read_207 fdX6_201 pdX6_14 rfl rfl rfl rfl ?_
        refine ai_aload_n dX6_read_210 rfl (j := 0) rfl ?_
        refine ai_getIx (S 0 19) dX6_read_211 fdX6_124 rfl rfl rfl ?_
        refine ai_if_ne (tgt := 225) dX6_read_214 (by decide) ⟨fun _ => ?_, fun hc => absurd hc hc29⟩
        refine ai_iconst (v := (-1)) dX6_read_225 (by decide) ?_
        refine ai_goto (tgt := 231) dX6_read_226 (by decide) ?_
        exact ai_reti dX6_read_231 rfl h
      · have h := h.2 hc29
        refine ai_aload_n dX6_read_120 rfl (j := 0) rfl ?_
        refine ai_getI dX6_read_121 fdX6_115 rfl rfl ?_
        refine ai_iconst (v := 1) dX6_read_124 (by decide) ?_
        refine ai_isub dX6_read_125 ?_
        refine ai_istore_n (lv' := [(3, .int ((S 0 30) - 1)), (0, .ref 0), (1, .int was), (2, .int rd)]) dX6_read_126 rfl (by decide) rfl ?_
        refine ai_aload_n dX6_read_127 rfl (j := 1) rfl ?_
        refine ai_getR dX6_read_128 fdX6_46 rfl rfl ?_
        refine ai_iload_n dX6_read_131 rfl (j := 0) rfl ?_
        refine ai_iald dX6_read_132 rfl ⟨h.1, ?_⟩
        have hi30 := h.1
        have h := h.2
        refine ai_istore (lv' := [(4, .int (S 13 (((S 0 30) - 1)).toNatClampNeg)), (3, .int ((S 0 30) - 1)), (0, .ref 0), (1, .int was), (2, .int rd)]) dX6_read_133 (by decide) rfl ?_
        refine ai_iload dX6_read_135 (j := 0) rfl ?_
        refine ai_bipush (v := 10) dX6_read_137 (by decide) ?_
        refine ai_icmp_ne (tgt := 150) dX6_read_139 (by decide) ⟨fun (hc31 : ¬ (S 13 (((S 0 30) - 1)).toNatClampNeg) = 10) => ?_, fun (hc31 : (S 13 (((S 0 30) - 1)).toNatClampNeg) = 10) => ?_⟩
        · have h := h.1 hc31
          refine ai_iload dX6_read_150 (j := 0) rfl ?_
          refine ai_bipush (v := 30) dX6_read_152 (by decide) ?_
          refine ai_icmp_lt (tgt := 172) dX6_read_154 (by decide) ⟨fun (hc32 : (S 13 (((S 0 30) - 1)).toNatClampNeg) < 30) => ?_, fun (hc32 : ¬ (S 13 (((S 0 30) - 1)).toNatClampNeg) < 30) => ?_⟩
          · have h := h.1 hc32
            refine ai_aload_n dX6_read_172 rfl (j := 2) rfl ?_
            refine ai_iload_n dX6_read_173 rfl (j := 1) rfl ?_
            refine ai_callVv (As := [.int ((S 0 30) - 1)]) (rest := []) dX6_read_174 cvX6_221 rfl rfl rfl (Nat.le_of_ble_eq_true rfl) (ai_met.mv h (fun S34 h => ?_))
            refine ai_iinc (j := 4) (v := (rd + 1)) (lv' := [(2, .int (rd + 1)), (4, .int (S 13 (((S 0 30) - 1)).toNatClampNeg)), (3, .int ((S 0 30) - 1)), (0, .ref 0), (1, .int was)]) dX6_read_177 rfl (by first | rfl | decide) (by decide) rfl ?_
            refine ai_goto (tgt := 100) dX6_read_180 (by decide) ?_
            refine ai_locj (lv' := [(0, .ref 0), (1, .int was), (2, .int (rd + 1))]) [3, 4, 0] rfl ?_
            exact h
          · have h := h.2 hc32
            refine ai_iload dX6_read_157 (j := 0) rfl ?_
            refine ai_bipush (v := 40) dX6_read_159 (by decide) ?_
            refine ai_icmp_eq (tgt := 172) dX6_read_161 (by decide) ⟨fun (hc35 : (S 13 (((S 0 30) - 1)).toNatClampNeg) = 40) => ?_, fun (hc35 : ¬ (S 13 (((S 0 30) - 1)).toNatClampNeg) = 40) => ?_⟩
            · have h := h.1 hc35
              refine ai_aload_n dX6_read_172 rfl (j := 2) rfl ?_
              refine ai_iload_n dX6_read_173 rfl (j := 1) rfl ?_
              refine ai_callVv (As := [.int ((S 0 30) - 1)]) (rest := []) dX6_read_174 cvX6_221 rfl rfl rfl (Nat.le_of_ble_eq_true rfl) (ai_met.mv h (fun S37 h => ?_))
              refine ai_iinc (j := 4) (v := (rd + 1)) (lv' := [(2, .int (rd + 1)), (4, .int (S 13 (((S 0 30) - 1)).toNatClampNeg)), (3, .int ((S 0 30) - 1)), (0, .ref 0), (1, .int was)]) dX6_read_177 rfl (by first | rfl | decide) (by decide) rfl ?_
              refine ai_goto (tgt := 100) dX6_read_180 (by decide) ?_
              refine ai_locj (lv' := [(0, .ref 0), (1, .int was), (2, .int (rd + 1))]) [3, 4, 0] rfl ?_
              exact h
            · have h := h.2 hc35
              refine ai_aload_n dX6_read_164 rfl (j := 2) rfl ?_
              refine ai_iload_n dX6_read_165 rfl (j := 1) rfl ?_
              refine ai_callVv (As := [.int ((S 0 30) - 1)]) (rest := []) dX6_read_166 cvX6_218 rfl rfl rfl (Nat.le_of_ble_eq_true rfl) (ai_met.mv h (fun S39 h => ?_))
              refine ai_goto (tgt := 177) dX6_read_169 (by decide) ?_
              refine ai_iinc (j := 4) (v := (rd + 1)) (lv' := [(2, .int (rd + 1)), (4, .int (S 13 (((S 0 30) - 1)).toNatClampNeg)), (3, .int ((S 0 30) - 1)), (0, .ref 0), (1, .int was)]) dX6_read_177 rfl (by first | rfl | decide) (by decide) rfl ?_
              refine ai_goto (tgt := 100) dX6_read_180 (by decide) ?_
              refine ai_locj (lv' := [(0, .ref 0), (1, .int was), (2, .int (rd + 1))]) [3, 4, 0] rfl ?_
              exact h
        · have h := h.2 hc31
          refine ai_aload_n dX6_read_142 rfl (j := 2) rfl ?_
          refine ai_iload_n dX6_read_143 rfl (j := 1) rfl ?_
          refine ai_callVv (As := [.int ((S 0 30) - 1)]) (rest := []) dX6_read_144 cvX6_215 rfl rfl rfl (Nat.le_of_ble_eq_true rfl) (ai_met.mv h (fun S41 h => ?_))
          refine ai_goto (tgt := 177) dX6_read_147 (by decide) ?_
          refine ai_iinc (j := 4) (v := (rd + 1)) (lv' := [(2, .int (rd + 1)), (4, .int (S 13 (((S 0 30) - 1)).toNatClampNeg)), (3, .int ((S 0 30) - 1)), (0, .ref 0), (1, .int was)]) dX6_read_177 rfl (by first | rfl | decide) (by decide) rfl ?_
          refine ai_goto (tgt := 100) dX6_read_180 (by decide) ?_
          refine ai_locj (lv' := [(0, .ref 0), (1, .int was), (2, .int (rd + 1))]) [3, 4, 0] rfl ?_
          exact h
end GM1
