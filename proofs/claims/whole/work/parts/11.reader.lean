section GC1
theorem ai_alen_z {u : ai_U} {d : Nat} {M : ai_M} {pc : Nat} {lv : List (Nat × Value)} {st : List Value} {S : ai_S} {V : ai_V} {Q : ai_P} {q n : Nat} {v : Int32} (h : decode M.2.1 pc = .ok (.arraylength, 1)) (hq : u.2.2.2.2[q]? = some (.inl (1 + 10, n))) (hv : Int32.ofNat n = v) (kk : ai_W u d M (pc + 1) lv (.int v :: st) S V Q) : ai_W u d M pc lv (.ref q :: st) S V Q := by
  intro p e s m args below meth c A H locs ls X hA hP hD hS hl
  exact va_alen X.1 X.2.1 X.2.2.2.2.2.2.2.1 hP q 1 (ai_w_atZ hq) (ty := .char) rfl hv h (kk p e s m args below meth c A H locs ls X hA hP hD hS hl)
variable {l : Launch} {D : va_G} {ρ : Nat → Nat} {τ : Nat → ClassId} {d : Nat}
set_option maxHeartbeats 4000000 in
set_option maxRecDepth 100000 in
theorem vX3_look_0 {S : ai_S} {V : ai_V} {G : Int32 → ai_S → Prop} (hV0 : V 2 0 = .ref 1) (hZ : ¬ (S 2 1) ≤ (S 2 2) → ai_zS ρ 1 ((S 2 2)).toNatClampNeg = S 1 ((S 2 2)).toNatClampNeg)
    (h : (((S 2 1) ≤ (S 2 2) → G 0 S) ∧ (¬ (S 2 1) ≤ (S 2 2) → (vp_in (S 2 2) 320 ∧ (((S 1 ((S 2 2)).toNatClampNeg) = 32 → ai_W (uC l D ρ τ) d mX3_look 0 [(0, .ref 2)] [] (ai_up S 2 2 ((S 2 2) + 1)) V (ai_qi V G)) ∧ (¬ (S 1 ((S 2 2)).toNatClampNeg) = 32 → ((¬ (S 1 ((S 2 2)).toNatClampNeg) = 10 → G (S 1 ((S 2 2)).toNatClampNeg) S) ∧ ((S 1 ((S 2 2)).toNatClampNeg) = 10 → ai_W (uC l D ρ τ) d mX3_look 0 [(0, .ref 2)] [] (ai_up S 2 2 ((S 2 2) + 1)) V (ai_qi V G))))))))) :
    ai_W (uC l D ρ τ) d mX3_look 0 [(0, .ref 2)] [] S V (ai_qi V G) := by
  refine ai_aload_n dX3_look_0 rfl (j := 0) rfl ?_
  refine ai_getI dX3_look_1 fdX3_42 rfl rfl ?_
  refine ai_aload_n dX3_look_4 rfl (j := 0) rfl ?_
  refine ai_getI dX3_look_5 fdX3_38 rfl rfl ?_
  refine ai_icmp_ge (tgt := 52) dX3_look_8 (by decide) ⟨fun (hc1 : (S 2 1) ≤ (S 2 2)) => ?_, fun (hc1 : ¬ (S 2 1) ≤ (S 2 2)) => ?_⟩
  · have h := h.1 hc1
    refine ai_aload_n dX3_look_52 rfl (j := 0) rfl ?_
    refine ai_getI dX3_look_53 fdX3_42 rfl rfl ?_
    refine ai_aload_n dX3_look_56 rfl (j := 0) rfl ?_
    refine ai_getI dX3_look_57 fdX3_38 rfl rfl ?_
    refine ai_icmp_ge (tgt := 75) dX3_look_60 (by decide) ⟨fun _ => ?_, fun hc => absurd hc1 hc⟩
    refine ai_iconst (v := 0) dX3_look_75 (by decide) ?_
    exact ai_reti dX3_look_76 rfl h
  · have h := h.2 hc1
    refine ai_aload_n dX3_look_11 rfl (j := 0) rfl ?_
    refine ai_getV dX3_look_12 fdX3_22 rfl rfl ⟨hV0, ?_⟩
    refine ai_aload_n dX3_look_15 rfl (j := 0) rfl ?_
    refine ai_getI dX3_look_16 fdX3_42 rfl rfl ?_
    refine ai_cald_z (x := S 1 ((S 2 2)).toNatClampNeg) dX3_look_19 rfl (hZ hc1) ⟨h.1, ?_⟩
    have hi2 := h.1
    have h := h.2
    refine ai_bipush (v := 32) dX3_look_20 (by decide) ?_
    refine ai_icmp_eq (tgt := 39) dX3_look_22 (by decide) ⟨fun (hc3 : (S 1 ((S 2 2)).toNatClampNeg) = 32) => ?_, fun (hc3 : ¬ (S 1 ((S 2 2)).toNatClampNeg) = 32) => ?_⟩
    · have h := h.1 hc3
      refine ai_aload_n dX3_look_39 rfl (j := 0) rfl ?_
      refine ai_dup dX3_look_40 rfl ?_
      refine ai_getI dX3_look_41 fdX3_42 rfl rfl ?_
      refine ai_iconst (v := 1) dX3_look_44 (by decide) ?_
      refine ai_iadd dX3_look_45 ?_
      refine ai_putI dX3_look_46 fdX3_42 pdX3_2 rfl rfl rfl rfl ?_
      refine ai_goto (tgt := 0) dX3_look_49 (by decide) ?_
      refine ai_locj (lv' := [(0, .ref 2)]) [0] rfl ?_
      exact h
    · have h := h.2 hc3
      refine ai_aload_n dX3_look_25 rfl (j := 0) rfl ?_
      refine ai_getV dX3_look_26 fdX3_22 rfl rfl ⟨hV0, ?_⟩
      refine ai_aload_n dX3_look_29 rfl (j := 0) rfl ?_
      refine ai_getI dX3_look_30 fdX3_42 rfl rfl ?_
      refine ai_cald_z (x := S 1 ((S 2 2)).toNatClampNeg) dX3_look_33 rfl (hZ hc1) ⟨hi2, ?_⟩
      refine ai_bipush (v := 10) dX3_look_34 (by decide) ?_
      refine ai_icmp_ne (tgt := 52) dX3_look_36 (by decide) ⟨fun (hc4 : ¬ (S 1 ((S 2 2)).toNatClampNeg) = 10) => ?_, fun (hc4 : (S 1 ((S 2 2)).toNatClampNeg) = 10) => ?_⟩
      · have h := h.1 hc4
        refine ai_aload_n dX3_look_52 rfl (j := 0) rfl ?_
        refine ai_getI dX3_look_53 fdX3_42 rfl rfl ?_
        refine ai_aload_n dX3_look_56 rfl (j := 0) rfl ?_
        refine ai_getI dX3_look_57 fdX3_38 rfl rfl ?_
        refine ai_icmp_ge (tgt := 75) dX3_look_60 (by decide) ⟨fun hc => absurd hc hc1, fun _ => ?_⟩
        refine ai_aload_n dX3_look_63 rfl (j := 0) rfl ?_
        refine ai_getV dX3_look_64 fdX3_22 rfl rfl ⟨hV0, ?_⟩
        refine ai_aload_n dX3_look_67 rfl (j := 0) rfl ?_
        refine ai_getI dX3_look_68 fdX3_42 rfl rfl ?_
        refine ai_cald_z (x := S 1 ((S 2 2)).toNatClampNeg) dX3_look_71 rfl (hZ hc1) ⟨hi2, ?_⟩
        refine ai_goto (tgt := 76) dX3_look_72 (by decide) ?_
        exact ai_reti dX3_look_76 rfl h
      · have h := h.2 hc4
        refine ai_aload_n dX3_look_39 rfl (j := 0) rfl ?_
        refine ai_dup dX3_look_40 rfl ?_
        refine ai_getI dX3_look_41 fdX3_42 rfl rfl ?_
        refine ai_iconst (v := 1) dX3_look_44 (by decide) ?_
        refine ai_iadd dX3_look_45 ?_
        refine ai_putI dX3_look_46 fdX3_42 pdX3_2 rfl rfl rfl rfl ?_
        refine ai_goto (tgt := 0) dX3_look_49 (by decide) ?_
        refine ai_locj (lv' := [(0, .ref 2)]) [0] rfl ?_
        exact h
set_option maxHeartbeats 4000000 in
set_option maxRecDepth 100000 in
theorem vX3_take {p1 : Int32} {S : ai_S} {V : ai_V} {G : Bool → ai_S → Prop}
    (h : ai_met (uC l D ρ τ) d mX3_look [.ref 2] S V (ai_qi V (fun x1 S2 => ((x1 = p1 → G true (ai_up S2 2 2 ((S2 2 2) + 1))) ∧ (¬ x1 = p1 → G false S2))))) :
    ai_met (uC l D ρ τ) (d + 1) mX3_take [.ref 2, .int p1] S V (ai_qz V G) := by
  refine ai_mof plX3 (Nat.le_of_ble_eq_true rfl) (lv := [(0, .ref 2), (1, .int p1)]) rfl ?_
  refine ai_aload_n dX3_take_0 rfl (j := 0) rfl ?_
  refine ai_callVi (As := []) (rest := []) dX3_take_1 cvX3_53 rfl rfl rfl (Nat.le_of_ble_eq_true rfl) (ai_met.mi h (fun x1 S2 h => ?_))
  refine ai_iload_n dX3_take_4 rfl (j := 1) rfl ?_
  refine ai_icmp_eq (tgt := 10) dX3_take_5 (by decide) ⟨fun (hc3 : x1 = p1) => ?_, fun (hc3 : ¬ x1 = p1) => ?_⟩
  · have h := h.1 hc3
    refine ai_aload_n dX3_take_10 rfl (j := 0) rfl ?_
    refine ai_dup dX3_take_11 rfl ?_
    refine ai_getI dX3_take_12 fdX3_42 rfl rfl ?_
    refine ai_iconst (v := 1) dX3_take_15 (by decide) ?_
    refine ai_iadd dX3_take_16 ?_
    refine ai_putI dX3_take_17 fdX3_42 pdX3_2 rfl rfl rfl rfl ?_
    refine ai_iconst (v := 1) dX3_take_20 (by decide) ?_
    exact ai_rett dX3_take_21 rfl h
  · have h := h.2 hc3
    refine ai_iconst (v := 0) dX3_take_8 (by decide) ?_
    exact ai_retf dX3_take_9 rfl h
set_option maxHeartbeats 4000000 in
set_option maxRecDepth 100000 in
theorem vX3_takeName {S : ai_S} {V : ai_V} {G : Int32 → ai_S → Prop}
    (h : ai_met (uC l D ρ τ) d mX3_look [.ref 2] S V (ai_qi V (fun x1 S2 => ((x1 < 97 → G 0 S2) ∧ (¬ x1 < 97 → ((x1 ≤ 122 → G x1 (ai_up S2 2 2 ((S2 2 2) + 1))) ∧ (¬ x1 ≤ 122 → G 0 S2))))))) :
    ai_met (uC l D ρ τ) (d + 1) mX3_takeName [.ref 2] S V (ai_qi V G) := by
  refine ai_mof plX3 (Nat.le_of_ble_eq_true rfl) (lv := [(0, .ref 2)]) rfl ?_
  refine ai_aload_n dX3_takeName_0 rfl (j := 0) rfl ?_
  refine ai_callVi (As := []) (rest := []) dX3_takeName_1 cvX3_53 rfl rfl rfl (Nat.le_of_ble_eq_true rfl) (ai_met.mi h (fun x1 S2 h => ?_))
  refine ai_istore_n (lv' := [(1, .int x1), (0, .ref 2)]) dX3_takeName_4 rfl (by decide) rfl ?_
  refine ai_iload_n dX3_takeName_5 rfl (j := 0) rfl ?_
  refine ai_bipush (v := 97) dX3_takeName_6 (by decide) ?_
  refine ai_icmp_lt (tgt := 17) dX3_takeName_8 (by decide) ⟨fun (hc3 : x1 < 97) => ?_, fun (hc3 : ¬ x1 < 97) => ?_⟩
  · have h := h.1 hc3
    refine ai_iconst (v := 0) dX3_takeName_17 (by decide) ?_
    exact ai_reti dX3_takeName_18 rfl h
  · have h := h.2 hc3
    refine ai_iload_n dX3_takeName_11 rfl (j := 0) rfl ?_
    refine ai_bipush (v := 122) dX3_takeName_12 (by decide) ?_
    refine ai_icmp_le (tgt := 19) dX3_takeName_14 (by decide) ⟨fun (hc4 : x1 ≤ 122) => ?_, fun (hc4 : ¬ x1 ≤ 122) => ?_⟩
    · have h := h.1 hc4
      refine ai_aload_n dX3_takeName_19 rfl (j := 1) rfl ?_
      refine ai_dup dX3_takeName_20 rfl ?_
      refine ai_getI dX3_takeName_21 fdX3_42 rfl rfl ?_
      refine ai_iconst (v := 1) dX3_takeName_24 (by decide) ?_
      refine ai_iadd dX3_takeName_25 ?_
      refine ai_putI dX3_takeName_26 fdX3_42 pdX3_2 rfl rfl rfl rfl ?_
      refine ai_iload_n dX3_takeName_29 rfl (j := 0) rfl ?_
      exact ai_reti dX3_takeName_30 rfl h
    · have h := h.2 hc4
      refine ai_iconst (v := 0) dX3_takeName_17 (by decide) ?_
      exact ai_reti dX3_takeName_18 rfl h
set_option maxHeartbeats 4000000 in
set_option maxRecDepth 100000 in
theorem vX3_reach {p1 : Int32} {S : ai_S} {V : ai_V} {G : Bool → ai_S → Prop} (hV3 : V 2 3 = .ref 26)
    (h : ((10 < p1 → G false (ai_up S 26 9 (if (S 26 9) < p1 then p1 else (S 26 9)))) ∧ (¬ 10 < p1 → G true (ai_up S 26 9 (if (S 26 9) < p1 then p1 else (S 26 9)))))) :
    ai_met (uC l D ρ τ) (d + 1) mX3_reach [.ref 2, .int p1] S V (ai_qz V G) := by
  refine ai_mof plX3 (Nat.le_of_ble_eq_true rfl) (lv := [(0, .ref 2), (1, .int p1)]) rfl ?_
  refine ai_aload_n dX3_reach_0 rfl (j := 0) rfl ?_
  refine ai_getV dX3_reach_1 fdX3_18 rfl rfl ⟨hV3, ?_⟩
  refine ai_aload_n dX3_reach_4 rfl (j := 0) rfl ?_
  refine ai_getV dX3_reach_5 fdX3_18 rfl rfl ⟨hV3, ?_⟩
  refine ai_getI dX3_reach_8 fdX3_61 rfl rfl ?_
  refine ai_iload_n dX3_reach_11 rfl (j := 1) rfl ?_
  refine ai_mmax dX3_reach_12 cxX3_64 (Nat.le_of_ble_eq_true rfl) ?_
  refine ai_putI dX3_reach_15 fdX3_61 pdX2_9 rfl rfl rfl rfl ?_
  refine ai_iload_n dX3_reach_18 rfl (j := 1) rfl ?_
  refine ai_bipush (v := 10) dX3_reach_19 (by decide) ?_
  refine ai_icmp_gt (tgt := 28) dX3_reach_21 (by decide) ⟨fun (hc1 : 10 < p1) => ?_, fun (hc1 : ¬ 10 < p1) => ?_⟩
  · have h := h.1 hc1
    refine ai_iconst (v := 0) dX3_reach_28 (by decide) ?_
    exact ai_retf dX3_reach_29 rfl h
  · have h := h.2 hc1
    refine ai_iconst (v := 1) dX3_reach_24 (by decide) ?_
    refine ai_goto (tgt := 29) dX3_reach_25 (by decide) ?_
    exact ai_rett dX3_reach_29 rfl h
set_option maxHeartbeats 4000000 in
set_option maxRecDepth 100000 in
theorem vX3_isNameAlone {S : ai_S} {V : ai_V} {G : Bool → ai_S → Prop}
    (h : ai_met (uC l D ρ τ) d mX3_takeName [.ref 2] S V (ai_qi V (fun x1 S2 => ((x1 = 0 → G false (ai_up S2 2 2 (S 2 2))) ∧ (¬ x1 = 0 → ai_met (uC l D ρ τ) d mX3_look [.ref 2] S2 V (ai_qi V (fun x4 S5 => ((x4 = 44 → G true (ai_up S5 2 2 (S 2 2))) ∧ (¬ x4 = 44 → ((¬ x4 = 41 → G false (ai_up S5 2 2 (S 2 2))) ∧ (x4 = 41 → G true (ai_up S5 2 2 (S 2 2))))))))))))) :
    ai_met (uC l D ρ τ) (d + 1) mX3_isNameAlone [.ref 2] S V (ai_qz V G) := by
  refine ai_mof plX3 (Nat.le_of_ble_eq_true rfl) (lv := [(0, .ref 2)]) rfl ?_
  refine ai_aload_n dX3_isNameAlone_0 rfl (j := 0) rfl ?_
  refine ai_getI dX3_isNameAlone_1 fdX3_42 rfl rfl ?_
  refine ai_istore_n (lv' := [(1, .int (S 2 2)), (0, .ref 2)]) dX3_isNameAlone_4 rfl (by decide) rfl ?_
  refine ai_iconst (v := 0) dX3_isNameAlone_5 (by decide) ?_
  refine ai_istore_n (lv' := [(2, .int 0), (1, .int (S 2 2)), (0, .ref 2)]) dX3_isNameAlone_6 rfl (by decide) rfl ?_
  refine ai_aload_n dX3_isNameAlone_7 rfl (j := 2) rfl ?_
  refine ai_callVi (As := []) (rest := []) dX3_isNameAlone_8 cvX3_88 rfl rfl rfl (Nat.le_of_ble_eq_true rfl) (ai_met.mi h (fun x1 S2 h => ?_))
  refine ai_if_eq (tgt := 37) dX3_isNameAlone_11 (by decide) ⟨fun (hc3 : x1 = 0) => ?_, fun (hc3 : ¬ x1 = 0) => ?_⟩
  · have h := h.1 hc3
    refine ai_aload_n dX3_isNameAlone_37 rfl (j := 2) rfl ?_
    refine ai_iload_n dX3_isNameAlone_38 rfl (j := 1) rfl ?_
    refine ai_putI dX3_isNameAlone_39 fdX3_42 pdX3_2 rfl rfl rfl rfl ?_
    refine ai_iload_n dX3_isNameAlone_42 rfl (j := 0) rfl ?_
    exact ai_retf dX3_isNameAlone_43 rfl h
  · have h := h.2 hc3
    refine ai_aload_n dX3_isNameAlone_14 rfl (j := 2) rfl ?_
    refine ai_callVi (As := []) (rest := []) dX3_isNameAlone_15 cvX3_53 rfl rfl rfl (Nat.le_of_ble_eq_true rfl) (ai_met.mi h (fun x4 S5 h => ?_))
    refine ai_istore_n (lv' := [(3, .int x4), (2, .int 0), (1, .int (S 2 2)), (0, .ref 2)]) dX3_isNameAlone_18 rfl (by decide) rfl ?_
    refine ai_iload_n dX3_isNameAlone_19 rfl (j := 0) rfl ?_
    refine ai_bipush (v := 44) dX3_isNameAlone_20 (by decide) ?_
    refine ai_icmp_eq (tgt := 31) dX3_isNameAlone_22 (by decide) ⟨fun (hc6 : x4 = 44) => ?_, fun (hc6 : ¬ x4 = 44) => ?_⟩
    · have h := h.1 hc6
      refine ai_iconst (v := 1) dX3_isNameAlone_31 (by decide) ?_
      refine ai_goto (tgt := 36) dX3_isNameAlone_32 (by decide) ?_
      refine ai_istore_n (lv' := [(2, .int 1), (3, .int x4), (1, .int (S 2 2)), (0, .ref 2)]) dX3_isNameAlone_36 rfl (by decide) rfl ?_
      refine ai_aload_n dX3_isNameAlone_37 rfl (j := 3) rfl ?_
      refine ai_iload_n dX3_isNameAlone_38 rfl (j := 2) rfl ?_
      refine ai_putI dX3_isNameAlone_39 fdX3_42 pdX3_2 rfl rfl rfl rfl ?_
      refine ai_iload_n dX3_isNameAlone_42 rfl (j := 0) rfl ?_
      exact ai_rett dX3_isNameAlone_43 rfl h
    · have h := h.2 hc6
      refine ai_iload_n dX3_isNameAlone_25 rfl (j := 0) rfl ?_
      refine ai_bipush (v := 41) dX3_isNameAlone_26 (by decide) ?_
      refine ai_icmp_ne (tgt := 35) dX3_isNameAlone_28 (by decide) ⟨fun (hc7 : ¬ x4 = 41) => ?_, fun (hc7 : x4 = 41) => ?_⟩
      · have h := h.1 hc7
        refine ai_iconst (v := 0) dX3_isNameAlone_35 (by decide) ?_
        refine ai_istore_n (lv' := [(2, .int 0), (3, .int x4), (1, .int (S 2 2)), (0, .ref 2)]) dX3_isNameAlone_36 rfl (by decide) rfl ?_
        refine ai_aload_n dX3_isNameAlone_37 rfl (j := 3) rfl ?_
        refine ai_iload_n dX3_isNameAlone_38 rfl (j := 2) rfl ?_
        refine ai_putI dX3_isNameAlone_39 fdX3_42 pdX3_2 rfl rfl rfl rfl ?_
        refine ai_iload_n dX3_isNameAlone_42 rfl (j := 0) rfl ?_
        exact ai_retf dX3_isNameAlone_43 rfl h
      · have h := h.2 hc7
        refine ai_iconst (v := 1) dX3_isNameAlone_31 (by decide) ?_
        refine ai_goto (tgt := 36) dX3_isNameAlone_32 (by decide) ?_
        refine ai_istore_n (lv' := [(2, .int 1), (3, .int x4), (1, .int (S 2 2)), (0, .ref 2)]) dX3_isNameAlone_36 rfl (by decide) rfl ?_
        refine ai_aload_n dX3_isNameAlone_37 rfl (j := 3) rfl ?_
        refine ai_iload_n dX3_isNameAlone_38 rfl (j := 2) rfl ?_
        refine ai_putI dX3_isNameAlone_39 fdX3_42 pdX3_2 rfl rfl rfl rfl ?_
        refine ai_iload_n dX3_isNameAlone_42 rfl (j := 0) rfl ?_
        exact ai_rett dX3_isNameAlone_43 rfl h
set_option maxHeartbeats 4000000 in
set_option maxRecDepth 100000 in
theorem vX3_declare {p1 : Int32} {p2 : Int32} {p3 : Int32} {p4 : Int32} {S : ai_S} {V : ai_V} {G : ai_S → Prop}
    (h : ai_met (uC l D ρ τ) d mX4_declare [.ref 3, .int p1, .int p2, .int p3, .int p4] S V (ai_qz V (fun b1 S2 => (b1 = true → G S2) ∧ (b1 = false → G (ai_up S2 2 5 0))))) :
    ai_met (uC l D ρ τ) (d + 1) mX3_declare [.ref 2, .int p1, .int p2, .int p3, .int p4] S V (ai_qv V G) := by
  refine ai_mof plX3 (Nat.le_of_ble_eq_true rfl) (lv := [(0, .ref 2), (1, .int p1), (2, .int p2), (3, .int p3), (4, .int p4)]) rfl ?_
  refine ai_aload_n dX3_declare_0 rfl (j := 0) rfl ?_
  refine ai_getR dX3_declare_1 fdX3_12 rfl rfl ?_
  refine ai_iload_n dX3_declare_4 rfl (j := 1) rfl ?_
  refine ai_iload_n dX3_declare_5 rfl (j := 2) rfl ?_
  refine ai_iload_n dX3_declare_6 rfl (j := 3) rfl ?_
  refine ai_iload dX3_declare_7 (j := 4) rfl ?_
  refine ai_callVz (As := [.int p1, .int p2, .int p3, .int p4]) (rest := []) dX3_declare_9 cvX3_174 rfl rfl rfl (Nat.le_of_ble_eq_true rfl) (ai_met.mz h (fun S2 h => ?_) (fun S2 h => ?_))
  · show ai_W _ _ _ _ _ _ _ _ _
    refine ai_if_ne (tgt := 20) dX3_declare_12 (by decide) ⟨fun _ => ?_, fun hc => absurd hc (by decide)⟩
    exact ai_retv dX3_declare_20 rfl h
  · show ai_W _ _ _ _ _ _ _ _ _
    refine ai_if_ne (tgt := 20) dX3_declare_12 (by decide) ⟨fun hc => absurd hc (by decide), fun _ => ?_⟩
    refine ai_aload_n dX3_declare_15 rfl (j := 0) rfl ?_
    refine ai_iconst (v := 0) dX3_declare_16 (by decide) ?_
    refine ai_putI dX3_declare_17 fdX3_45 pdX3_5 rfl rfl rfl rfl ?_
    exact ai_retv dX3_declare_20 rfl h
set_option maxHeartbeats 4000000 in
set_option maxRecDepth 100000 in
theorem vX3_addUse {p1 : Int32} {p2 : Int32} {p3 : Int32} {p4 : Int32} {S : ai_S} {V : ai_V} {G : ai_S → Prop} (hV3 : V 2 3 = .ref 26)
    (h : ai_met (uC l D ρ τ) (d + 1) mX4_find [.ref 3, .int p1] S V (ai_qi V (fun x1 S2 => ((0 ≤ x1 → ((x1 < 0 → ai_met (uC l D ρ τ) (d + 1) mX2_add [.ref 26, .int p2, .int 0, .int 0] S2 V (ai_qi V (fun x5 S6 => G S6))) ∧ (¬ x1 < 0 → (¬ (S2 3 4) ≤ x1 ∧ (¬ 136 ≤ x1 ∧ (vp_in x1 136 ∧ ((¬ (S2 5 (x1).toNatClampNeg) = 0 → ((¬ (S2 5 (x1).toNatClampNeg) = 1 → ai_met (uC l D ρ τ) (d + 1) mX2_add [.ref 26, .int p4, .int (S2 7 (x1).toNatClampNeg), .int ((S2 3 5) - (S2 6 (x1).toNatClampNeg))] S2 V (ai_qi V (fun x12 S13 => G S13))) ∧ ((S2 5 (x1).toNatClampNeg) = 1 → ai_met (uC l D ρ τ) (d + 1) mX2_add [.ref 26, .int p3, .int (S2 7 (x1).toNatClampNeg), .int ((S2 3 5) - (S2 6 (x1).toNatClampNeg))] S2 V (ai_qi V (fun x14 S15 => G S15))))) ∧ ((S2 5 (x1).toNatClampNeg) = 0 → ai_met (uC l D ρ τ) (d + 1) mX2_add [.ref 26, .int p2, .int (S2 7 (x1).toNatClampNeg), .int ((S2 3 5) - (S2 6 (x1).toNatClampNeg))] S2 V (ai_qi V (fun x16 S17 => G S17)))))))))) ∧ (¬ 0 ≤ x1 → ((x1 < 0 → ai_met (uC l D ρ τ) (d + 1) mX2_add [.ref 26, .int p2, .int 0, .int 0] (ai_up S2 2 5 0) V (ai_qi V (fun x19 S20 => G S20))) ∧ (¬ x1 < 0 → (¬ (S2 3 4) ≤ x1 ∧ (¬ 136 ≤ x1 ∧ (vp_in x1 136 ∧ ((¬ (S2 5 (x1).toNatClampNeg) = 0 → ((¬ (S2 5 (x1).toNatClampNeg) = 1 → ai_met (uC l D ρ τ) (d + 1) mX2_add [.ref 26, .int p4, .int (S2 7 (x1).toNatClampNeg), .int ((S2 3 5) - (S2 6 (x1).toNatClampNeg))] (ai_up S2 2 5 0) V (ai_qi V (fun x26 S27 => G S27))) ∧ ((S2 5 (x1).toNatClampNeg) = 1 → ai_met (uC l D ρ τ) (d + 1) mX2_add [.ref 26, .int p3, .int (S2 7 (x1).toNatClampNeg), .int ((S2 3 5) - (S2 6 (x1).toNatClampNeg))] (ai_up S2 2 5 0) V (ai_qi V (fun x28 S29 => G S29))))) ∧ ((S2 5 (x1).toNatClampNeg) = 0 → ai_met (uC l D ρ τ) (d + 1) mX2_add [.ref 26, .int p2, .int (S2 7 (x1).toNatClampNeg), .int ((S2 3 5) - (S2 6 (x1).toNatClampNeg))] (ai_up S2 2 5 0) V (ai_qi V (fun x30 S31 => G S31)))))))))))))) :
    ai_met (uC l D ρ τ) (d + 2) mX3_addUse [.ref 2, .int p1, .int p2, .int p3, .int p4] S V (ai_qv V G) := by
  refine ai_mof plX3 (Nat.le_of_ble_eq_true rfl) (lv := [(0, .ref 2), (1, .int p1), (2, .int p2), (3, .int p3), (4, .int p4)]) rfl ?_
  refine ai_aload_n dX3_addUse_0 rfl (j := 0) rfl ?_
  refine ai_getR dX3_addUse_1 fdX3_12 rfl rfl ?_
  refine ai_iload_n dX3_addUse_4 rfl (j := 1) rfl ?_
  refine ai_callVi (As := [.int p1]) (rest := []) dX3_addUse_5 cvX3_177 rfl rfl rfl (Nat.le_of_ble_eq_true rfl) (ai_met.mi h (fun x1 S2 h => ?_))
  refine ai_istore (lv' := [(5, .int x1), (0, .ref 2), (1, .int p1), (2, .int p2), (3, .int p3), (4, .int p4)]) dX3_addUse_8 (by decide) rfl ?_
  refine ai_iload dX3_addUse_10 (j := 0) rfl ?_
  refine ai_if_ge (tgt := 20) dX3_addUse_12 (by decide) ⟨fun (hc3 : 0 ≤ x1) => ?_, fun (hc3 : ¬ 0 ≤ x1) => ?_⟩
  · have h := h.1 hc3
    refine ai_aload_n dX3_addUse_20 rfl (j := 1) rfl ?_
    refine ai_getR dX3_addUse_21 fdX3_12 rfl rfl ?_
    refine ai_iload dX3_addUse_24 (j := 0) rfl ?_
    refine ai_callVi (As := [.int x1]) (rest := []) dX3_addUse_26 cvX3_181 rfl rfl rfl (Nat.le_of_ble_eq_true rfl) (vX4_kindOf ?_)
    refine ⟨fun (hc4 : x1 < 0) => ?_, fun (hc4 : ¬ x1 < 0) => ?_⟩
    · have h := h.1 hc4
      show ai_W _ _ _ _ _ (.int 0 :: _) S2 _ _
      refine ai_istore (lv' := [(6, .int 0), (5, .int x1), (0, .ref 2), (1, .int p1), (2, .int p2), (3, .int p3), (4, .int p4)]) dX3_addUse_29 (by decide) rfl ?_
      refine ai_iload dX3_addUse_31 (j := 0) rfl ?_
      refine ai_if_ne (tgt := 40) dX3_addUse_33 (by decide) ⟨fun hc => absurd hc (by decide), fun _ => ?_⟩
      refine ai_iload_n dX3_addUse_36 rfl (j := 4) rfl ?_
      refine ai_goto (tgt := 52) dX3_addUse_37 (by decide) ?_
      refine ai_istore (lv' := [(7, .int p2), (6, .int 0), (5, .int x1), (0, .ref 2), (1, .int p1), (2, .int p2), (3, .int p3), (4, .int p4)]) dX3_addUse_52 (by decide) rfl ?_
      refine ai_aload_n dX3_addUse_54 rfl (j := 3) rfl ?_
      refine ai_getV dX3_addUse_55 fdX3_18 rfl rfl ⟨hV3, ?_⟩
      refine ai_iload dX3_addUse_58 (j := 0) rfl ?_
      refine ai_aload_n dX3_addUse_60 rfl (j := 3) rfl ?_
      refine ai_getR dX3_addUse_61 fdX3_12 rfl rfl ?_
      refine ai_iload dX3_addUse_64 (j := 2) rfl ?_
      refine ai_callVi (As := [.int x1]) (rest := [.int p2, .ref 26]) dX3_addUse_66 cvX3_184 rfl rfl rfl (Nat.le_of_ble_eq_true rfl) (vX4_slotOf ?_)
      refine ⟨fun _ => ?_, fun hc => absurd hc4 hc⟩
      show ai_W _ _ _ _ _ (.int 0 :: _) S2 _ _
      refine ai_aload_n dX3_addUse_69 rfl (j := 3) rfl ?_
      refine ai_getR dX3_addUse_70 fdX3_12 rfl rfl ?_
      refine ai_iload dX3_addUse_73 (j := 2) rfl ?_
      refine ai_callVi (As := [.int x1]) (rest := [.int 0, .int p2, .ref 26]) dX3_addUse_75 cvX3_187 rfl rfl rfl (Nat.le_of_ble_eq_true rfl) (vX4_hopsTo ?_)
      refine ⟨fun _ => ?_, fun hc => absurd hc4 hc⟩
      show ai_W _ _ _ _ _ (.int 0 :: _) S2 _ _
      refine ai_callVi (As := [.int p2, .int 0, .int 0]) (rest := []) dX3_addUse_78 cvX3_57 rfl rfl rfl (Nat.le_of_ble_eq_true rfl) (ai_met.mi h (fun x5 S6 h => ?_))
      refine ai_pop dX3_addUse_81 rfl ?_
      exact ai_retv dX3_addUse_82 rfl h
    · have h := h.2 hc4
      have hr7 : ¬ (S2 3 4) ≤ x1 := h.1
      have h := h.2
      refine ⟨hr7, ?_⟩
      have hr8 : ¬ 136 ≤ x1 := h.1
      have h := h.2
      refine ⟨hr8, ?_⟩
      refine ⟨h.1, ?_⟩
      have hi9 := h.1
      have h := h.2
      show ai_W _ _ _ _ _ (.int (S2 5 (x1).toNatClampNeg) :: _) S2 _ _
      refine ai_istore (lv' := [(6, .int (S2 5 (x1).toNatClampNeg)), (5, .int x1), (0, .ref 2), (1, .int p1), (2, .int p2), (3, .int p3), (4, .int p4)]) dX3_addUse_29 (by decide) rfl ?_
      refine ai_iload dX3_addUse_31 (j := 0) rfl ?_
      refine ai_if_ne (tgt := 40) dX3_addUse_33 (by decide) ⟨fun (hc10 : ¬ (S2 5 (x1).toNatClampNeg) = 0) => ?_, fun (hc10 : (S2 5 (x1).toNatClampNeg) = 0) => ?_⟩
      · have h := h.1 hc10
        refine ai_iload dX3_addUse_40 (j := 0) rfl ?_
        refine ai_iconst (v := 1) dX3_addUse_42 (by decide) ?_
        refine ai_icmp_ne (tgt := 50) dX3_addUse_43 (by decide) ⟨fun (hc11 : ¬ (S2 5 (x1).toNatClampNeg) = 1) => ?_, fun (hc11 : (S2 5 (x1).toNatClampNeg) = 1) => ?_⟩
        · have h := h.1 hc11
          refine ai_iload dX3_addUse_50 (j := 6) rfl ?_
          refine ai_istore (lv' := [(7, .int p4), (6, .int (S2 5 (x1).toNatClampNeg)), (5, .int x1), (0, .ref 2), (1, .int p1), (2, .int p2), (3, .int p3), (4, .int p4)]) dX3_addUse_52 (by decide) rfl ?_
          refine ai_aload_n dX3_addUse_54 rfl (j := 3) rfl ?_
          refine ai_getV dX3_addUse_55 fdX3_18 rfl rfl ⟨hV3, ?_⟩
          refine ai_iload dX3_addUse_58 (j := 0) rfl ?_
          refine ai_aload_n dX3_addUse_60 rfl (j := 3) rfl ?_
          refine ai_getR dX3_addUse_61 fdX3_12 rfl rfl ?_
          refine ai_iload dX3_addUse_64 (j := 2) rfl ?_
          refine ai_callVi (As := [.int x1]) (rest := [.int p4, .ref 26]) dX3_addUse_66 cvX3_184 rfl rfl rfl (Nat.le_of_ble_eq_true rfl) (vX4_slotOf ?_)
          refine ⟨fun hc => absurd hc hc4, fun _ => ?_⟩
          refine ⟨hr7, ?_⟩
          refine ⟨hr8, ?_⟩
          refine ⟨hi9, ?_⟩
          show ai_W _ _ _ _ _ (.int (S2 7 (x1).toNatClampNeg) :: _) S2 _ _
          refine ai_aload_n dX3_addUse_69 rfl (j := 3) rfl ?_
          refine ai_getR dX3_addUse_70 fdX3_12 rfl rfl ?_
          refine ai_iload dX3_addUse_73 (j := 2) rfl ?_
          refine ai_callVi (As := [.int x1]) (rest := [.int (S2 7 (x1).toNatClampNeg), .int p4, .ref 26]) dX3_addUse_75 cvX3_187 rfl rfl rfl (Nat.le_of_ble_eq_true rfl) (vX4_hopsTo ?_)
          refine ⟨fun hc => absurd hc hc4, fun _ => ?_⟩
          refine ⟨hr7, ?_⟩
          refine ⟨hr8, ?_⟩
          refine ⟨hi9, ?_⟩
          show ai_W _ _ _ _ _ (.int ((S2 3 5) - (S2 6 (x1).toNatClampNeg)) :: _) S2 _ _
          refine ai_callVi (As := [.int p4, .int (S2 7 (x1).toNatClampNeg), .int ((S2 3 5) - (S2 6 (x1).toNatClampNeg))]) (rest := []) dX3_addUse_78 cvX3_57 rfl rfl rfl (Nat.le_of_ble_eq_true rfl) (ai_met.mi h (fun x12 S13 h => ?_))
          refine ai_pop dX3_addUse_81 rfl ?_
          exact ai_retv dX3_addUse_82 rfl h
        · have h := h.2 hc11
          refine ai_iload_n dX3_addUse_46 rfl (j := 5) rfl ?_
          refine ai_goto (tgt := 52) dX3_addUse_47 (by decide) ?_
          refine ai_istore (lv' := [(7, .int p3), (6, .int (S2 5 (x1).toNatClampNeg)), (5, .int x1), (0, .ref 2), (1, .int p1), (2, .int p2), (3, .int p3), (4, .int p4)]) dX3_addUse_52 (by decide) rfl ?_
          refine ai_aload_n dX3_addUse_54 rfl (j := 3) rfl ?_
          refine ai_getV dX3_addUse_55 fdX3_18 rfl rfl ⟨hV3, ?_⟩
          refine ai_iload dX3_addUse_58 (j := 0) rfl ?_
          refine ai_aload_n dX3_addUse_60 rfl (j := 3) rfl ?_
          refine ai_getR dX3_addUse_61 fdX3_12 rfl rfl ?_
          refine ai_iload dX3_addUse_64 (j := 2) rfl ?_
          refine ai_callVi (As := [.int x1]) (rest := [.int p3, .ref 26]) dX3_addUse_66 cvX3_184 rfl rfl rfl (Nat.le_of_ble_eq_true rfl) (vX4_slotOf ?_)
          refine ⟨fun hc => absurd hc hc4, fun _ => ?_⟩
          refine ⟨hr7, ?_⟩
          refine ⟨hr8, ?_⟩
          refine ⟨hi9, ?_⟩
          show ai_W _ _ _ _ _ (.int (S2 7 (x1).toNatClampNeg) :: _) S2 _ _
          refine ai_aload_n dX3_addUse_69 rfl (j := 3) rfl ?_
          refine ai_getR dX3_addUse_70 fdX3_12 rfl rfl ?_
          refine ai_iload dX3_addUse_73 (j := 2) rfl ?_
          refine ai_callVi (As := [.int x1]) (rest := [.int (S2 7 (x1).toNatClampNeg), .int p3, .ref 26]) dX3_addUse_75 cvX3_187 rfl rfl rfl (Nat.le_of_ble_eq_true rfl) (vX4_hopsTo ?_)
          refine ⟨fun hc => absurd hc hc4, fun _ => ?_⟩
          refine ⟨hr7, ?_⟩
          refine ⟨hr8, ?_⟩
          refine ⟨hi9, ?_⟩
          show ai_W _ _ _ _ _ (.int ((S2 3 5) - (S2 6 (x1).toNatClampNeg)) :: _) S2 _ _
          refine ai_callVi (As := [.int p3, .int (S2 7 (x1).toNatClampNeg), .int ((S2 3 5) - (S2 6 (x1).toNatClampNeg))]) (rest := []) dX3_addUse_78 cvX3_57 rfl rfl rfl (Nat.le_of_ble_eq_true rfl) (ai_met.mi h (fun x14 S15 h => ?_))
          refine ai_pop dX3_addUse_81 rfl ?_
          exact ai_retv dX3_addUse_82 rfl h
      · have h := h.2 hc10
        refine ai_iload_n dX3_addUse_36 rfl (j := 4) rfl ?_
        refine ai_goto (tgt := 52) dX3_addUse_37 (by decide) ?_
        refine ai_istore (lv' := [(7, .int p2), (6, .int (S2 5 (x1).toNatClampNeg)), (5, .int x1), (0, .ref 2), (1, .int p1), (2, .int p2), (3, .int p3), (4, .int p4)]) dX3_addUse_52 (by decide) rfl ?_
        refine ai_aload_n dX3_addUse_54 rfl (j := 3) rfl ?_
        refine ai_getV dX3_addUse_55 fdX3_18 rfl rfl ⟨hV3, ?_⟩
        refine ai_iload dX3_addUse_58 (j := 0) rfl ?_
        refine ai_aload_n dX3_addUse_60 rfl (j := 3) rfl ?_
        refine ai_getR dX3_addUse_61 fdX3_12 rfl rfl ?_
        refine ai_iload dX3_addUse_64 (j := 2) rfl ?_
        refine ai_callVi (As := [.int x1]) (rest := [.int p2, .ref 26]) dX3_addUse_66 cvX3_184 rfl rfl rfl (Nat.le_of_ble_eq_true rfl) (vX4_slotOf ?_)
        refine ⟨fun hc => absurd hc hc4, fun _ => ?_⟩
        refine ⟨hr7, ?_⟩
        refine ⟨hr8, ?_⟩
        refine ⟨hi9, ?_⟩
        show ai_W _ _ _ _ _ (.int (S2 7 (x1).toNatClampNeg) :: _) S2 _ _
        refine ai_aload_n dX3_addUse_69 rfl (j := 3) rfl ?_
        refine ai_getR dX3_addUse_70 fdX3_12 rfl rfl ?_
        refine ai_iload dX3_addUse_73 (j := 2) rfl ?_
        refine ai_callVi (As := [.int x1]) (rest := [.int (S2 7 (x1).toNatClampNeg), .int p2, .ref 26]) dX3_addUse_75 cvX3_187 rfl rfl rfl (Nat.le_of_ble_eq_true rfl) (vX4_hopsTo ?_)
        refine ⟨fun hc => absurd hc hc4, fun _ => ?_⟩
        refine ⟨hr7, ?_⟩
        refine ⟨hr8, ?_⟩
        refine ⟨hi9, ?_⟩
        show ai_W _ _ _ _ _ (.int ((S2 3 5) - (S2 6 (x1).toNatClampNeg)) :: _) S2 _ _
        refine ai_callVi (As := [.int p2, .int (S2 7 (x1).toNatClampNeg), .int ((S2 3 5) - (S2 6 (x1).toNatClampNeg))]) (rest := []) dX3_addUse_78 cvX3_57 rfl rfl rfl (Nat.le_of_ble_eq_true rfl) (ai_met.mi h (fun x16 S17 h => ?_))
        refine ai_pop dX3_addUse_81 rfl ?_
        exact ai_retv dX3_addUse_82 rfl h
  · have h := h.2 hc3
    refine ai_aload_n dX3_addUse_15 rfl (j := 1) rfl ?_
    refine ai_iconst (v := 0) dX3_addUse_16 (by decide) ?_
    refine ai_putI dX3_addUse_17 fdX3_45 pdX3_5 rfl rfl rfl rfl ?_
    refine ai_aload_n dX3_addUse_20 rfl (j := 1) rfl ?_
    refine ai_getR dX3_addUse_21 fdX3_12 rfl rfl ?_
    refine ai_iload dX3_addUse_24 (j := 0) rfl ?_
    refine ai_callVi (As := [.int x1]) (rest := []) dX3_addUse_26 cvX3_181 rfl rfl rfl (Nat.le_of_ble_eq_true rfl) (vX4_kindOf ?_)
    refine ⟨fun (hc18 : x1 < 0) => ?_, fun (hc18 : ¬ x1 < 0) => ?_⟩
    · have h := h.1 hc18
      show ai_W _ _ _ _ _ (.int 0 :: _) (ai_up S2 2 5 0) _ _
      refine ai_istore (lv' := [(6, .int 0), (5, .int x1), (0, .ref 2), (1, .int p1), (2, .int p2), (3, .int p3), (4, .int p4)]) dX3_addUse_29 (by decide) rfl ?_
      refine ai_iload dX3_addUse_31 (j := 0) rfl ?_
      refine ai_if_ne (tgt := 40) dX3_addUse_33 (by decide) ⟨fun hc => absurd hc (by decide), fun _ => ?_⟩
      refine ai_iload_n dX3_addUse_36 rfl (j := 4) rfl ?_
      refine ai_goto (tgt := 52) dX3_addUse_37 (by decide) ?_
      refine ai_istore (lv' := [(7, .int p2), (6, .int 0), (5, .int x1), (0, .ref 2), (1, .int p1), (2, .int p2), (3, .int p3), (4, .int p4)]) dX3_addUse_52 (by decide) rfl ?_
      refine ai_aload_n dX3_addUse_54 rfl (j := 3) rfl ?_
      refine ai_getV dX3_addUse_55 fdX3_18 rfl rfl ⟨hV3, ?_⟩
      refine ai_iload dX3_addUse_58 (j := 0) rfl ?_
      refine ai_aload_n dX3_addUse_60 rfl (j := 3) rfl ?_
      refine ai_getR dX3_addUse_61 fdX3_12 rfl rfl ?_
      refine ai_iload dX3_addUse_64 (j := 2) rfl ?_
      refine ai_callVi (As := [.int x1]) (rest := [.int p2, .ref 26]) dX3_addUse_66 cvX3_184 rfl rfl rfl (Nat.le_of_ble_eq_true rfl) (vX4_slotOf ?_)
      refine ⟨fun _ => ?_, fun hc => absurd hc18 hc⟩
      show ai_W _ _ _ _ _ (.int 0 :: _) (ai_up S2 2 5 0) _ _
      refine ai_aload_n dX3_addUse_69 rfl (j := 3) rfl ?_
      refine ai_getR dX3_addUse_70 fdX3_12 rfl rfl ?_
      refine ai_iload dX3_addUse_73 (j := 2) rfl ?_
      refine ai_callVi (As := [.int x1]) (rest := [.int 0, .int p2, .ref 26]) dX3_addUse_75 cvX3_187 rfl rfl rfl (Nat.le_of_ble_eq_true rfl) (vX4_hopsTo ?_)
      refine ⟨fun _ => ?_, fun hc => absurd hc18 hc⟩
      show ai_W _ _ _ _ _ (.int 0 :: _) (ai_up S2 2 5 0) _ _
      refine ai_callVi (As := [.int p2, .int 0, .int 0]) (rest := []) dX3_addUse_78 cvX3_57 rfl rfl rfl (Nat.le_of_ble_eq_true rfl) (ai_met.mi h (fun x19 S20 h => ?_))
      refine ai_pop dX3_addUse_81 rfl ?_
      exact ai_retv dX3_addUse_82 rfl h
    · have h := h.2 hc18
      have hr21 : ¬ (S2 3 4) ≤ x1 := h.1
      have h := h.2
      refine ⟨hr21, ?_⟩
      have hr22 : ¬ 136 ≤ x1 := h.1
      have h := h.2
      refine ⟨hr22, ?_⟩
      refine ⟨h.1, ?_⟩
      have hi23 := h.1
      have h := h.2
      show ai_W _ _ _ _ _ (.int (S2 5 (x1).toNatClampNeg) :: _) (ai_up S2 2 5 0) _ _
      refine ai_istore (lv' := [(6, .int (S2 5 (x1).toNatClampNeg)), (5, .int x1), (0, .ref 2), (1, .int p1), (2, .int p2), (3, .int p3), (4, .int p4)]) dX3_addUse_29 (by decide) rfl ?_
      refine ai_iload dX3_addUse_31 (j := 0) rfl ?_
      refine ai_if_ne (tgt := 40) dX3_addUse_33 (by decide) ⟨fun (hc24 : ¬ (S2 5 (x1).toNatClampNeg) = 0) => ?_, fun (hc24 : (S2 5 (x1).toNatClampNeg) = 0) => ?_⟩
      · have h := h.1 hc24
        refine ai_iload dX3_addUse_40 (j := 0) rfl ?_
        refine ai_iconst (v := 1) dX3_addUse_42 (by decide) ?_
        refine ai_icmp_ne (tgt := 50) dX3_addUse_43 (by decide) ⟨fun (hc25 : ¬ (S2 5 (x1).toNatClampNeg) = 1) => ?_, fun (hc25 : (S2 5 (x1).toNatClampNeg) = 1) => ?_⟩
        · have h := h.1 hc25
          refine ai_iload dX3_addUse_50 (j := 6) rfl ?_
          refine ai_istore (lv' := [(7, .int p4), (6, .int (S2 5 (x1).toNatClampNeg)), (5, .int x1), (0, .ref 2), (1, .int p1), (2, .int p2), (3, .int p3), (4, .int p4)]) dX3_addUse_52 (by decide) rfl ?_
          refine ai_aload_n dX3_addUse_54 rfl (j := 3) rfl ?_
          refine ai_getV dX3_addUse_55 fdX3_18 rfl rfl ⟨hV3, ?_⟩
          refine ai_iload dX3_addUse_58 (j := 0) rfl ?_
          refine ai_aload_n dX3_addUse_60 rfl (j := 3) rfl ?_
          refine ai_getR dX3_addUse_61 fdX3_12 rfl rfl ?_
          refine ai_iload dX3_addUse_64 (j := 2) rfl ?_
          refine ai_callVi (As := [.int x1]) (rest := [.int p4, .ref 26]) dX3_addUse_66 cvX3_184 rfl rfl rfl (Nat.le_of_ble_eq_true rfl) (vX4_slotOf ?_)
          refine ⟨fun hc => absurd hc hc18, fun _ => ?_⟩
          refine ⟨hr21, ?_⟩
          refine ⟨hr22, ?_⟩
          refine ⟨hi23, ?_⟩
          show ai_W _ _ _ _ _ (.int (S2 7 (x1).toNatClampNeg) :: _) (ai_up S2 2 5 0) _ _
          refine ai_aload_n dX3_addUse_69 rfl (j := 3) rfl ?_
          refine ai_getR dX3_addUse_70 fdX3_12 rfl rfl ?_
          refine ai_iload dX3_addUse_73 (j := 2) rfl ?_
          refine ai_callVi (As := [.int x1]) (rest := [.int (S2 7 (x1).toNatClampNeg), .int p4, .ref 26]) dX3_addUse_75 cvX3_187 rfl rfl rfl (Nat.le_of_ble_eq_true rfl) (vX4_hopsTo ?_)
          refine ⟨fun hc => absurd hc hc18, fun _ => ?_⟩
          refine ⟨hr21, ?_⟩
          refine ⟨hr22, ?_⟩
          refine ⟨hi23, ?_⟩
          show ai_W _ _ _ _ _ (.int ((S2 3 5) - (S2 6 (x1).toNatClampNeg)) :: _) (ai_up S2 2 5 0) _ _
          refine ai_callVi (As := [.int p4, .int (S2 7 (x1).toNatClampNeg), .int ((S2 3 5) - (S2 6 (x1).toNatClampNeg))]) (rest := []) dX3_addUse_78 cvX3_57 rfl rfl rfl (Nat.le_of_ble_eq_true rfl) (ai_met.mi h (fun x26 S27 h => ?_))
          refine ai_pop dX3_addUse_81 rfl ?_
          exact ai_retv dX3_addUse_82 rfl h
        · have h := h.2 hc25
          refine ai_iload_n dX3_addUse_46 rfl (j := 5) rfl ?_
          refine ai_goto (tgt := 52) dX3_addUse_47 (by decide) ?_
          refine ai_istore (lv' := [(7, .int p3), (6, .int (S2 5 (x1).toNatClampNeg)), (5, .int x1), (0, .ref 2), (1, .int p1), (2, .int p2), (3, .int p3), (4, .int p4)]) dX3_addUse_52 (by decide) rfl ?_
          refine ai_aload_n dX3_addUse_54 rfl (j := 3) rfl ?_
          refine ai_getV dX3_addUse_55 fdX3_18 rfl rfl ⟨hV3, ?_⟩
          refine ai_iload dX3_addUse_58 (j := 0) rfl ?_
          refine ai_aload_n dX3_addUse_60 rfl (j := 3) rfl ?_
          refine ai_getR dX3_addUse_61 fdX3_12 rfl rfl ?_
          refine ai_iload dX3_addUse_64 (j := 2) rfl ?_
          refine ai_callVi (As := [.int x1]) (rest := [.int p3, .ref 26]) dX3_addUse_66 cvX3_184 rfl rfl rfl (Nat.le_of_ble_eq_true rfl) (vX4_slotOf ?_)
          refine ⟨fun hc => absurd hc hc18, fun _ => ?_⟩
          refine ⟨hr21, ?_⟩
          refine ⟨hr22, ?_⟩
          refine ⟨hi23, ?_⟩
          show ai_W _ _ _ _ _ (.int (S2 7 (x1).toNatClampNeg) :: _) (ai_up S2 2 5 0) _ _
          refine ai_aload_n dX3_addUse_69 rfl (j := 3) rfl ?_
          refine ai_getR dX3_addUse_70 fdX3_12 rfl rfl ?_
          refine ai_iload dX3_addUse_73 (j := 2) rfl ?_
          refine ai_callVi (As := [.int x1]) (rest := [.int (S2 7 (x1).toNatClampNeg), .int p3, .ref 26]) dX3_addUse_75 cvX3_187 rfl rfl rfl (Nat.le_of_ble_eq_true rfl) (vX4_hopsTo ?_)
          refine ⟨fun hc => absurd hc hc18, fun _ => ?_⟩
          refine ⟨hr21, ?_⟩
          refine ⟨hr22, ?_⟩
          refine ⟨hi23, ?_⟩
          show ai_W _ _ _ _ _ (.int ((S2 3 5) - (S2 6 (x1).toNatClampNeg)) :: _) (ai_up S2 2 5 0) _ _
          refine ai_callVi (As := [.int p3, .int (S2 7 (x1).toNatClampNeg), .int ((S2 3 5) - (S2 6 (x1).toNatClampNeg))]) (rest := []) dX3_addUse_78 cvX3_57 rfl rfl rfl (Nat.le_of_ble_eq_true rfl) (ai_met.mi h (fun x28 S29 h => ?_))
          refine ai_pop dX3_addUse_81 rfl ?_
          exact ai_retv dX3_addUse_82 rfl h
      · have h := h.2 hc24
        refine ai_iload_n dX3_addUse_36 rfl (j := 4) rfl ?_
        refine ai_goto (tgt := 52) dX3_addUse_37 (by decide) ?_
        refine ai_istore (lv' := [(7, .int p2), (6, .int (S2 5 (x1).toNatClampNeg)), (5, .int x1), (0, .ref 2), (1, .int p1), (2, .int p2), (3, .int p3), (4, .int p4)]) dX3_addUse_52 (by decide) rfl ?_
        refine ai_aload_n dX3_addUse_54 rfl (j := 3) rfl ?_
        refine ai_getV dX3_addUse_55 fdX3_18 rfl rfl ⟨hV3, ?_⟩
        refine ai_iload dX3_addUse_58 (j := 0) rfl ?_
        refine ai_aload_n dX3_addUse_60 rfl (j := 3) rfl ?_
        refine ai_getR dX3_addUse_61 fdX3_12 rfl rfl ?_
        refine ai_iload dX3_addUse_64 (j := 2) rfl ?_
        refine ai_callVi (As := [.int x1]) (rest := [.int p2, .ref 26]) dX3_addUse_66 cvX3_184 rfl rfl rfl (Nat.le_of_ble_eq_true rfl) (vX4_slotOf ?_)
        refine ⟨fun hc => absurd hc hc18, fun _ => ?_⟩
        refine ⟨hr21, ?_⟩
        refine ⟨hr22, ?_⟩
        refine ⟨hi23, ?_⟩
        show ai_W _ _ _ _ _ (.int (S2 7 (x1).toNatClampNeg) :: _) (ai_up S2 2 5 0) _ _
        refine ai_aload_n dX3_addUse_69 rfl (j := 3) rfl ?_
        refine ai_getR dX3_addUse_70 fdX3_12 rfl rfl ?_
        refine ai_iload dX3_addUse_73 (j := 2) rfl ?_
        refine ai_callVi (As := [.int x1]) (rest := [.int (S2 7 (x1).toNatClampNeg), .int p2, .ref 26]) dX3_addUse_75 cvX3_187 rfl rfl rfl (Nat.le_of_ble_eq_true rfl) (vX4_hopsTo ?_)
        refine ⟨fun hc => absurd hc hc18, fun _ => ?_⟩
        refine ⟨hr21, ?_⟩
        refine ⟨hr22, ?_⟩
        refine ⟨hi23, ?_⟩
        show ai_W _ _ _ _ _ (.int ((S2 3 5) - (S2 6 (x1).toNatClampNeg)) :: _) (ai_up S2 2 5 0) _ _
        refine ai_callVi (As := [.int p2, .int (S2 7 (x1).toNatClampNeg), .int ((S2 3 5) - (S2 6 (x1).toNatClampNeg))]) (rest := []) dX3_addUse_78 cvX3_57 rfl rfl rfl (Nat.le_of_ble_eq_true rfl) (ai_met.mi h (fun x30 S31 h => ?_))
        refine ai_pop dX3_addUse_81 rfl ?_
        exact ai_retv dX3_addUse_82 rfl h
set_option maxHeartbeats 4000000 in
set_option maxRecDepth 100000 in
theorem vX3_addTarget {p1 : Int32} {S : ai_S} {V : ai_V} {G : ai_S → Prop} (hV3 : V 2 3 = .ref 26)
    (h : ai_met (uC l D ρ τ) (d + 1) mX4_find [.ref 3, .int p1] S V (ai_qi V (fun x1 S2 => ((x1 < 0 → ai_met (uC l D ρ τ) (d + 1) mX3_addUse [.ref 2, .int p1, .int 6, .int 7, .int 8] S2 V (ai_qv V (fun S5 => G S5))) ∧ (¬ x1 < 0 → (¬ (S2 3 4) ≤ x1 ∧ (¬ 136 ≤ x1 ∧ (vp_in x1 136 ∧ (((S2 5 (x1).toNatClampNeg) = 2 → (¬ ((S2 6 (x1).toNatClampNeg) + 1) < 1 ∧ (((S2 3 5) < ((S2 6 (x1).toNatClampNeg) + 1) → ai_met (uC l D ρ τ) (d + 1) mX3_addUse [.ref 2, .int p1, .int 6, .int 7, .int 8] S2 V (ai_qv V (fun S13 => G S13))) ∧ (¬ (S2 3 5) < ((S2 6 (x1).toNatClampNeg) + 1) → (¬ 10 < ((S2 6 (x1).toNatClampNeg) + 1) ∧ (vp_in ((S2 6 (x1).toNatClampNeg) + 1) 11 ∧ ((¬ (S2 8 (((S2 6 (x1).toNatClampNeg) + 1)).toNatClampNeg) = (S2 7 (x1).toNatClampNeg) → ai_met (uC l D ρ τ) (d + 1) mX3_addUse [.ref 2, .int p1, .int 6, .int 7, .int 8] S2 V (ai_qv V (fun S18 => G S18))) ∧ ((S2 8 (((S2 6 (x1).toNatClampNeg) + 1)).toNatClampNeg) = (S2 7 (x1).toNatClampNeg) → ai_met (uC l D ρ τ) (d + 1) mX2_add [.ref 26, .int 6, .int 0, .int (((S2 3 5) - (S2 6 (x1).toNatClampNeg)) - 1)] S2 V (ai_qi V (fun x19 S20 => G S20)))))))))) ∧ (¬ (S2 5 (x1).toNatClampNeg) = 2 → ai_met (uC l D ρ τ) (d + 1) mX3_addUse [.ref 2, .int p1, .int 6, .int 7, .int 8] S2 V (ai_qv V (fun S22 => G S22)))))))))))) :
    ai_met (uC l D ρ τ) (d + 2) mX3_addTarget [.ref 2, .int p1] S V (ai_qv V G) := by
  refine ai_mof plX3 (Nat.le_of_ble_eq_true rfl) (lv := [(0, .ref 2), (1, .int p1)]) rfl ?_
  refine ai_aload_n dX3_addTarget_0 rfl (j := 0) rfl ?_
  refine ai_getR dX3_addTarget_1 fdX3_12 rfl rfl ?_
  refine ai_iload_n dX3_addTarget_4 rfl (j := 1) rfl ?_
  refine ai_callVi (As := [.int p1]) (rest := []) dX3_addTarget_5 cvX3_177 rfl rfl rfl (Nat.le_of_ble_eq_true rfl) (ai_met.mi h (fun x1 S2 h => ?_))
  refine ai_istore_n (lv' := [(2, .int x1), (0, .ref 2), (1, .int p1)]) dX3_addTarget_8 rfl (by decide) rfl ?_
  refine ai_aload_n dX3_addTarget_9 rfl (j := 1) rfl ?_
  refine ai_getR dX3_addTarget_10 fdX3_12 rfl rfl ?_
  refine ai_iload_n dX3_addTarget_13 rfl (j := 0) rfl ?_
  refine ai_callVz (As := [.int x1]) (rest := []) dX3_addTarget_14 cvX3_190 rfl rfl rfl (Nat.le_of_ble_eq_true rfl) (vX4_isAroundHere ?_)
  refine ⟨fun (hc3 : x1 < 0) => ?_, fun (hc3 : ¬ x1 < 0) => ?_⟩
  · have h := h.1 hc3
    refine ai_zf ?_
    refine ai_if_eq (tgt := 44) dX3_addTarget_17 (by decide) ⟨fun _ => ?_, fun hc => absurd hc (by decide)⟩
    refine ai_aload_n dX3_addTarget_44 rfl (j := 1) rfl ?_
    refine ai_iload_n dX3_addTarget_45 rfl (j := 2) rfl ?_
    refine ai_bipush (v := 6) dX3_addTarget_46 (by decide) ?_
    refine ai_bipush (v := 7) dX3_addTarget_48 (by decide) ?_
    refine ai_bipush (v := 8) dX3_addTarget_50 (by decide) ?_
    refine ai_callVv (As := [.int p1, .int 6, .int 7, .int 8]) (rest := []) dX3_addTarget_52 cvX3_95 rfl rfl rfl (Nat.le_of_ble_eq_true rfl) (ai_met.mv h (fun S5 h => ?_))
    exact ai_retv dX3_addTarget_55 rfl h
  · have h := h.2 hc3
    have hr6 : ¬ (S2 3 4) ≤ x1 := h.1
    have h := h.2
    refine ⟨hr6, ?_⟩
    have hr7 : ¬ 136 ≤ x1 := h.1
    have h := h.2
    refine ⟨hr7, ?_⟩
    refine ⟨h.1, ?_⟩
    have hi8 := h.1
    have h := h.2
    refine ⟨fun (hc9 : (S2 5 (x1).toNatClampNeg) = 2) => ?_, fun (hc9 : ¬ (S2 5 (x1).toNatClampNeg) = 2) => ?_⟩
    · have h := h.1 hc9
      have hr10 : ¬ ((S2 6 (x1).toNatClampNeg) + 1) < 1 := h.1
      have h := h.2
      refine ⟨hr10, ?_⟩
      refine ⟨fun (hc11 : (S2 3 5) < ((S2 6 (x1).toNatClampNeg) + 1)) => ?_, fun (hc11 : ¬ (S2 3 5) < ((S2 6 (x1).toNatClampNeg) + 1)) => ?_⟩
      · have h := h.1 hc11
        refine ai_zf ?_
        refine ai_if_eq (tgt := 44) dX3_addTarget_17 (by decide) ⟨fun _ => ?_, fun hc => absurd hc (by decide)⟩
        refine ai_aload_n dX3_addTarget_44 rfl (j := 1) rfl ?_
        refine ai_iload_n dX3_addTarget_45 rfl (j := 2) rfl ?_
        refine ai_bipush (v := 6) dX3_addTarget_46 (by decide) ?_
        refine ai_bipush (v := 7) dX3_addTarget_48 (by decide) ?_
        refine ai_bipush (v := 8) dX3_addTarget_50 (by decide) ?_
        refine ai_callVv (As := [.int p1, .int 6, .int 7, .int 8]) (rest := []) dX3_addTarget_52 cvX3_95 rfl rfl rfl (Nat.le_of_ble_eq_true rfl) (ai_met.mv h (fun S13 h => ?_))
        exact ai_retv dX3_addTarget_55 rfl h
      · have h := h.2 hc11
        have hr14 : ¬ 10 < ((S2 6 (x1).toNatClampNeg) + 1) := h.1
        have h := h.2
        refine ⟨hr14, ?_⟩
        refine ⟨h.1, ?_⟩
        have hi15 := h.1
        have h := h.2
        refine ⟨fun (hc16 : ¬ (S2 8 (((S2 6 (x1).toNatClampNeg) + 1)).toNatClampNeg) = (S2 7 (x1).toNatClampNeg)) => ?_, fun (hc16 : (S2 8 (((S2 6 (x1).toNatClampNeg) + 1)).toNatClampNeg) = (S2 7 (x1).toNatClampNeg)) => ?_⟩
        · have h := h.1 hc16
          refine ai_zf ?_
          refine ai_if_eq (tgt := 44) dX3_addTarget_17 (by decide) ⟨fun _ => ?_, fun hc => absurd hc (by decide)⟩
          refine ai_aload_n dX3_addTarget_44 rfl (j := 1) rfl ?_
          refine ai_iload_n dX3_addTarget_45 rfl (j := 2) rfl ?_
          refine ai_bipush (v := 6) dX3_addTarget_46 (by decide) ?_
          refine ai_bipush (v := 7) dX3_addTarget_48 (by decide) ?_
          refine ai_bipush (v := 8) dX3_addTarget_50 (by decide) ?_
          refine ai_callVv (As := [.int p1, .int 6, .int 7, .int 8]) (rest := []) dX3_addTarget_52 cvX3_95 rfl rfl rfl (Nat.le_of_ble_eq_true rfl) (ai_met.mv h (fun S18 h => ?_))
          exact ai_retv dX3_addTarget_55 rfl h
        · have h := h.2 hc16
          refine ai_zt ?_
          refine ai_if_eq (tgt := 44) dX3_addTarget_17 (by decide) ⟨fun hc => absurd hc (by decide), fun _ => ?_⟩
          refine ai_aload_n dX3_addTarget_20 rfl (j := 1) rfl ?_
          refine ai_getV dX3_addTarget_21 fdX3_18 rfl rfl ⟨hV3, ?_⟩
          refine ai_bipush (v := 6) dX3_addTarget_24 (by decide) ?_
          refine ai_iconst (v := 0) dX3_addTarget_26 (by decide) ?_
          refine ai_aload_n dX3_addTarget_27 rfl (j := 1) rfl ?_
          refine ai_getR dX3_addTarget_28 fdX3_12 rfl rfl ?_
          refine ai_iload_n dX3_addTarget_31 rfl (j := 0) rfl ?_
          refine ai_callVi (As := [.int x1]) (rest := [.int 0, .int 6, .ref 26]) dX3_addTarget_32 cvX3_187 rfl rfl rfl (Nat.le_of_ble_eq_true rfl) (vX4_hopsTo ?_)
          refine ⟨fun hc => absurd hc hc3, fun _ => ?_⟩
          refine ⟨hr6, ?_⟩
          refine ⟨hr7, ?_⟩
          refine ⟨hi8, ?_⟩
          show ai_W _ _ _ _ _ (.int ((S2 3 5) - (S2 6 (x1).toNatClampNeg)) :: _) S2 _ _
          refine ai_iconst (v := 1) dX3_addTarget_35 (by decide) ?_
          refine ai_isub dX3_addTarget_36 ?_
          refine ai_callVi (As := [.int 6, .int 0, .int (((S2 3 5) - (S2 6 (x1).toNatClampNeg)) - 1)]) (rest := []) dX3_addTarget_37 cvX3_57 rfl rfl rfl (Nat.le_of_ble_eq_true rfl) (ai_met.mi h (fun x19 S20 h => ?_))
          refine ai_pop dX3_addTarget_40 rfl ?_
          refine ai_goto (tgt := 55) dX3_addTarget_41 (by decide) ?_
          exact ai_retv dX3_addTarget_55 rfl h
    · have h := h.2 hc9
      refine ai_zf ?_
      refine ai_if_eq (tgt := 44) dX3_addTarget_17 (by decide) ⟨fun _ => ?_, fun hc => absurd hc (by decide)⟩
      refine ai_aload_n dX3_addTarget_44 rfl (j := 1) rfl ?_
      refine ai_iload_n dX3_addTarget_45 rfl (j := 2) rfl ?_
      refine ai_bipush (v := 6) dX3_addTarget_46 (by decide) ?_
      refine ai_bipush (v := 7) dX3_addTarget_48 (by decide) ?_
      refine ai_bipush (v := 8) dX3_addTarget_50 (by decide) ?_
      refine ai_callVv (As := [.int p1, .int 6, .int 7, .int 8]) (rest := []) dX3_addTarget_52 cvX3_95 rfl rfl rfl (Nat.le_of_ble_eq_true rfl) (ai_met.mv h (fun S22 h => ?_))
      exact ai_retv dX3_addTarget_55 rfl h
set_option maxHeartbeats 4000000 in
set_option maxRecDepth 100000 in
theorem vX3_assignment {p1 : Int32} {p2 : Int32} {S : ai_S} {V : ai_V} {G : Bool → ai_S → Prop} (hV3 : V 2 3 = .ref 26)
    (h : ai_met (uC l D ρ τ) d mX3_addTarget [.ref 2, .int p1] S V (ai_qv V (fun S2 => ai_met (uC l D ρ τ) d mX3_expression [.ref 2, .int (p2 + 1)] S2 V (ai_qz V (fun b3 S4 => (b3 = true → ai_met (uC l D ρ τ) d mX3_take [.ref 2, .int 59] S4 V (ai_qz V (fun b5 S6 => (b5 = true → ai_met (uC l D ρ τ) d mX2_add [.ref 26, .int 9, .int 0, .int 0] S6 V (ai_qi V (fun x7 S8 => G true S8))) ∧ (b5 = false → G false S6)))) ∧ (b3 = false → G false S4)))))) :
    ai_met (uC l D ρ τ) (d + 1) mX3_assignment [.ref 2, .int p1, .int p2] S V (ai_qz V G) := by
  refine ai_mof plX3 (Nat.le_of_ble_eq_true rfl) (lv := [(0, .ref 2), (1, .int p1), (2, .int p2)]) rfl ?_
  refine ai_aload_n dX3_assignment_0 rfl (j := 0) rfl ?_
  refine ai_iload_n dX3_assignment_1 rfl (j := 1) rfl ?_
  refine ai_callVv (As := [.int p1]) (rest := []) dX3_assignment_2 cvX3_102 rfl rfl rfl (Nat.le_of_ble_eq_true rfl) (ai_met.mv h (fun S2 h => ?_))
  refine ai_aload_n dX3_assignment_5 rfl (j := 0) rfl ?_
  refine ai_iload_n dX3_assignment_6 rfl (j := 2) rfl ?_
  refine ai_iconst (v := 1) dX3_assignment_7 (by decide) ?_
  refine ai_iadd dX3_assignment_8 ?_
  refine ai_callVz (As := [.int (p2 + 1)]) (rest := []) dX3_assignment_9 cvX3_106 rfl rfl rfl (Nat.le_of_ble_eq_true rfl) (ai_met.mz h (fun S4 h => ?_) (fun S4 h => ?_))
  · show ai_W _ _ _ _ _ _ _ _ _
    refine ai_if_eq (tgt := 24) dX3_assignment_12 (by decide) ⟨fun hc => absurd hc (by decide), fun _ => ?_⟩
    refine ai_aload_n dX3_assignment_15 rfl (j := 0) rfl ?_
    refine ai_bipush (v := 59) dX3_assignment_16 (by decide) ?_
    refine ai_callVz (As := [.int 59]) (rest := []) dX3_assignment_18 cvX3_73 rfl rfl rfl (Nat.le_of_ble_eq_true rfl) (ai_met.mz h (fun S6 h => ?_) (fun S6 h => ?_))
    · show ai_W _ _ _ _ _ _ _ _ _
      refine ai_if_ne (tgt := 26) dX3_assignment_21 (by decide) ⟨fun _ => ?_, fun hc => absurd hc (by decide)⟩
      refine ai_aload_n dX3_assignment_26 rfl (j := 0) rfl ?_
      refine ai_getV dX3_assignment_27 fdX3_18 rfl rfl ⟨hV3, ?_⟩
      refine ai_bipush (v := 9) dX3_assignment_30 (by decide) ?_
      refine ai_iconst (v := 0) dX3_assignment_32 (by decide) ?_
      refine ai_iconst (v := 0) dX3_assignment_33 (by decide) ?_
      refine ai_callVi (As := [.int 9, .int 0, .int 0]) (rest := []) dX3_assignment_34 cvX3_57 rfl rfl rfl (Nat.le_of_ble_eq_true rfl) (ai_met.mi h (fun x7 S8 h => ?_))
      refine ai_pop dX3_assignment_37 rfl ?_
      refine ai_iconst (v := 1) dX3_assignment_38 (by decide) ?_
      exact ai_rett dX3_assignment_39 rfl h
    · show ai_W _ _ _ _ _ _ _ _ _
      refine ai_if_ne (tgt := 26) dX3_assignment_21 (by decide) ⟨fun hc => absurd hc (by decide), fun _ => ?_⟩
      refine ai_iconst (v := 0) dX3_assignment_24 (by decide) ?_
      exact ai_retf dX3_assignment_25 rfl h
  · show ai_W _ _ _ _ _ _ _ _ _
    refine ai_if_eq (tgt := 24) dX3_assignment_12 (by decide) ⟨fun _ => ?_, fun hc => absurd hc (by decide)⟩
    refine ai_iconst (v := 0) dX3_assignment_24 (by decide) ?_
    exact ai_retf dX3_assignment_25 rfl h
set_option maxHeartbeats 4000000 in
set_option maxRecDepth 100000 in
theorem vX3_print {p1 : Int32} {S : ai_S} {V : ai_V} {G : Bool → ai_S → Prop} (hV3 : V 2 3 = .ref 26)
    (h : ai_met (uC l D ρ τ) d mX2_add [.ref 26, .int 1, .int 0, .int 0] S V (ai_qi V (fun x1 S2 => ai_met (uC l D ρ τ) d mX3_expression [.ref 2, .int (p1 + 1)] S2 V (ai_qz V (fun b3 S4 => (b3 = true → ai_met (uC l D ρ τ) d mX3_take [.ref 2, .int 59] S4 V (ai_qz V (fun b5 S6 => (b5 = true → ai_met (uC l D ρ τ) d mX2_add [.ref 26, .int 5, .int 0, .int 0] S6 V (ai_qi V (fun x7 S8 => G true S8))) ∧ (b5 = false → G false S6)))) ∧ (b3 = false → G false S4)))))) :
    ai_met (uC l D ρ τ) (d + 1) mX3_print [.ref 2, .int p1] S V (ai_qz V G) := by
  refine ai_mof plX3 (Nat.le_of_ble_eq_true rfl) (lv := [(0, .ref 2), (1, .int p1)]) rfl ?_
  refine ai_aload_n dX3_print_0 rfl (j := 0) rfl ?_
  refine ai_getV dX3_print_1 fdX3_18 rfl rfl ⟨hV3, ?_⟩
  refine ai_iconst (v := 1) dX3_print_4 (by decide) ?_
  refine ai_iconst (v := 0) dX3_print_5 (by decide) ?_
  refine ai_iconst (v := 0) dX3_print_6 (by decide) ?_
  refine ai_callVi (As := [.int 1, .int 0, .int 0]) (rest := []) dX3_print_7 cvX3_57 rfl rfl rfl (Nat.le_of_ble_eq_true rfl) (ai_met.mi h (fun x1 S2 h => ?_))
  refine ai_pop dX3_print_10 rfl ?_
  refine ai_aload_n dX3_print_11 rfl (j := 0) rfl ?_
  refine ai_iload_n dX3_print_12 rfl (j := 1) rfl ?_
  refine ai_iconst (v := 1) dX3_print_13 (by decide) ?_
  refine ai_iadd dX3_print_14 ?_
  refine ai_callVz (As := [.int (p1 + 1)]) (rest := []) dX3_print_15 cvX3_106 rfl rfl rfl (Nat.le_of_ble_eq_true rfl) (ai_met.mz h (fun S4 h => ?_) (fun S4 h => ?_))
  · show ai_W _ _ _ _ _ _ _ _ _
    refine ai_if_eq (tgt := 30) dX3_print_18 (by decide) ⟨fun hc => absurd hc (by decide), fun _ => ?_⟩
    refine ai_aload_n dX3_print_21 rfl (j := 0) rfl ?_
    refine ai_bipush (v := 59) dX3_print_22 (by decide) ?_
    refine ai_callVz (As := [.int 59]) (rest := []) dX3_print_24 cvX3_73 rfl rfl rfl (Nat.le_of_ble_eq_true rfl) (ai_met.mz h (fun S6 h => ?_) (fun S6 h => ?_))
    · show ai_W _ _ _ _ _ _ _ _ _
      refine ai_if_ne (tgt := 32) dX3_print_27 (by decide) ⟨fun _ => ?_, fun hc => absurd hc (by decide)⟩
      refine ai_aload_n dX3_print_32 rfl (j := 0) rfl ?_
      refine ai_getV dX3_print_33 fdX3_18 rfl rfl ⟨hV3, ?_⟩
      refine ai_iconst (v := 5) dX3_print_36 (by decide) ?_
      refine ai_iconst (v := 0) dX3_print_37 (by decide) ?_
      refine ai_iconst (v := 0) dX3_print_38 (by decide) ?_
      refine ai_callVi (As := [.int 5, .int 0, .int 0]) (rest := []) dX3_print_39 cvX3_57 rfl rfl rfl (Nat.le_of_ble_eq_true rfl) (ai_met.mi h (fun x7 S8 h => ?_))
      refine ai_pop dX3_print_42 rfl ?_
      refine ai_iconst (v := 1) dX3_print_43 (by decide) ?_
      exact ai_rett dX3_print_44 rfl h
    · show ai_W _ _ _ _ _ _ _ _ _
      refine ai_if_ne (tgt := 32) dX3_print_27 (by decide) ⟨fun hc => absurd hc (by decide), fun _ => ?_⟩
      refine ai_iconst (v := 0) dX3_print_30 (by decide) ?_
      exact ai_retf dX3_print_31 rfl h
  · show ai_W _ _ _ _ _ _ _ _ _
    refine ai_if_eq (tgt := 30) dX3_print_18 (by decide) ⟨fun _ => ?_, fun hc => absurd hc (by decide)⟩
    refine ai_iconst (v := 0) dX3_print_30 (by decide) ?_
    exact ai_retf dX3_print_31 rfl h
set_option maxHeartbeats 4000000 in
set_option maxRecDepth 100000 in
theorem vX3_choice {p1 : Int32} {S : ai_S} {V : ai_V} {G : Bool → ai_S → Prop} (hV3 : V 2 3 = .ref 26)
    (h : ai_met (uC l D ρ τ) d mX2_add [.ref 26, .int 1, .int 0, .int 0] S V (ai_qi V (fun x1 S2 => ai_met (uC l D ρ τ) d mX3_take [.ref 2, .int 40] S2 V (ai_qz V (fun b3 S4 => (b3 = true → ai_met (uC l D ρ τ) d mX3_expression [.ref 2, .int (p1 + 1)] S4 V (ai_qz V (fun b5 S6 => (b5 = true → ai_met (uC l D ρ τ) d mX3_take [.ref 2, .int 41] S6 V (ai_qz V (fun b7 S8 => (b7 = true → ai_met (uC l D ρ τ) d mX2_add [.ref 26, .int 4, .int 0, .int 0] S8 V (ai_qi V (fun x9 S10 => ai_met (uC l D ρ τ) d mX3_statement [.ref 2, .int (p1 + 1)] S10 V (ai_qz V (fun b11 S12 => (b11 = true → ai_met (uC l D ρ τ) d mX2_add [.ref 26, .int 3, .int 0, .int 0] S12 V (ai_qi V (fun x13 S14 => ai_met (uC l D ρ τ) d mX2_setFirst [.ref 26, .int x9, .int (S14 26 3)] S14 V (ai_qv V (fun S16 => ai_met (uC l D ρ τ) d mX3_statement [.ref 2, .int (p1 + 1)] S16 V (ai_qz V (fun b17 S18 => (b17 = true → ai_met (uC l D ρ τ) d mX2_setFirst [.ref 26, .int x13, .int (S18 26 3)] S18 V (ai_qv V (fun S20 => G true S20))) ∧ (b17 = false → G false S18)))))))) ∧ (b11 = false → G false S12)))))) ∧ (b7 = false → G false S8)))) ∧ (b5 = false → G false S6)))) ∧ (b3 = false → G false S4)))))) :
    ai_met (uC l D ρ τ) (d + 1) mX3_choice [.ref 2, .int p1] S V (ai_qz V G) := by
  refine ai_mof plX3 (Nat.le_of_ble_eq_true rfl) (lv := [(0, .ref 2), (1, .int p1)]) rfl ?_
  refine ai_aload_n dX3_choice_0 rfl (j := 0) rfl ?_
  refine ai_getV dX3_choice_1 fdX3_18 rfl rfl ⟨hV3, ?_⟩
  refine ai_iconst (v := 1) dX3_choice_4 (by decide) ?_
  refine ai_iconst (v := 0) dX3_choice_5 (by decide) ?_
  refine ai_iconst (v := 0) dX3_choice_6 (by decide) ?_
  refine ai_callVi (As := [.int 1, .int 0, .int 0]) (rest := []) dX3_choice_7 cvX3_57 rfl rfl rfl (Nat.le_of_ble_eq_true rfl) (ai_met.mi h (fun x1 S2 h => ?_))
  refine ai_pop dX3_choice_10 rfl ?_
  refine ai_aload_n dX3_choice_11 rfl (j := 0) rfl ?_
  refine ai_bipush (v := 40) dX3_choice_12 (by decide) ?_
  refine ai_callVz (As := [.int 40]) (rest := []) dX3_choice_14 cvX3_73 rfl rfl rfl (Nat.le_of_ble_eq_true rfl) (ai_met.mz h (fun S4 h => ?_) (fun S4 h => ?_))
  · show ai_W _ _ _ _ _ _ _ _ _
    refine ai_if_eq (tgt := 39) dX3_choice_17 (by decide) ⟨fun hc => absurd hc (by decide), fun _ => ?_⟩
    refine ai_aload_n dX3_choice_20 rfl (j := 0) rfl ?_
    refine ai_iload_n dX3_choice_21 rfl (j := 1) rfl ?_
    refine ai_iconst (v := 1) dX3_choice_22 (by decide) ?_
    refine ai_iadd dX3_choice_23 ?_
    refine ai_callVz (As := [.int (p1 + 1)]) (rest := []) dX3_choice_24 cvX3_106 rfl rfl rfl (Nat.le_of_ble_eq_true rfl) (ai_met.mz h (fun S6 h => ?_) (fun S6 h => ?_))
    · show ai_W _ _ _ _ _ _ _ _ _
      refine ai_if_eq (tgt := 39) dX3_choice_27 (by decide) ⟨fun hc => absurd hc (by decide), fun _ => ?_⟩
      refine ai_aload_n dX3_choice_30 rfl (j := 0) rfl ?_
      refine ai_bipush (v := 41) dX3_choice_31 (by decide) ?_
      refine ai_callVz (As := [.int 41]) (rest := []) dX3_choice_33 cvX3_73 rfl rfl rfl (Nat.le_of_ble_eq_true rfl) (ai_met.mz h (fun S8 h => ?_) (fun S8 h => ?_))
      · show ai_W _ _ _ _ _ _ _ _ _
        refine ai_if_ne (tgt := 41) dX3_choice_36 (by decide) ⟨fun _ => ?_, fun hc => absurd hc (by decide)⟩
        refine ai_aload_n dX3_choice_41 rfl (j := 0) rfl ?_
        refine ai_getV dX3_choice_42 fdX3_18 rfl rfl ⟨hV3, ?_⟩
        refine ai_iconst (v := 4) dX3_choice_45 (by decide) ?_
        refine ai_iconst (v := 0) dX3_choice_46 (by decide) ?_
        refine ai_iconst (v := 0) dX3_choice_47 (by decide) ?_
        refine ai_callVi (As := [.int 4, .int 0, .int 0]) (rest := []) dX3_choice_48 cvX3_57 rfl rfl rfl (Nat.le_of_ble_eq_true rfl) (ai_met.mi h (fun x9 S10 h => ?_))
        refine ai_istore_n (lv' := [(2, .int x9), (0, .ref 2), (1, .int p1)]) dX3_choice_51 rfl (by decide) rfl ?_
        refine ai_aload_n dX3_choice_52 rfl (j := 1) rfl ?_
        refine ai_iload_n dX3_choice_53 rfl (j := 2) rfl ?_
        refine ai_iconst (v := 1) dX3_choice_54 (by decide) ?_
        refine ai_iadd dX3_choice_55 ?_
        refine ai_callVz (As := [.int (p1 + 1)]) (rest := []) dX3_choice_56 cvX3_49 rfl rfl rfl (Nat.le_of_ble_eq_true rfl) (ai_met.mz h (fun S12 h => ?_) (fun S12 h => ?_))
        · show ai_W _ _ _ _ _ _ _ _ _
          refine ai_if_ne (tgt := 64) dX3_choice_59 (by decide) ⟨fun _ => ?_, fun hc => absurd hc (by decide)⟩
          refine ai_aload_n dX3_choice_64 rfl (j := 1) rfl ?_
          refine ai_getV dX3_choice_65 fdX3_18 rfl rfl ⟨hV3, ?_⟩
          refine ai_iconst (v := 3) dX3_choice_68 (by decide) ?_
          refine ai_iconst (v := 0) dX3_choice_69 (by decide) ?_
          refine ai_iconst (v := 0) dX3_choice_70 (by decide) ?_
          refine ai_callVi (As := [.int 3, .int 0, .int 0]) (rest := []) dX3_choice_71 cvX3_57 rfl rfl rfl (Nat.le_of_ble_eq_true rfl) (ai_met.mi h (fun x13 S14 h => ?_))
          refine ai_istore_n (lv' := [(3, .int x13), (2, .int x9), (0, .ref 2), (1, .int p1)]) dX3_choice_74 rfl (by decide) rfl ?_
          refine ai_aload_n dX3_choice_75 rfl (j := 2) rfl ?_
          refine ai_getV dX3_choice_76 fdX3_18 rfl rfl ⟨hV3, ?_⟩
          refine ai_iload_n dX3_choice_79 rfl (j := 1) rfl ?_
          refine ai_aload_n dX3_choice_80 rfl (j := 2) rfl ?_
          refine ai_getV dX3_choice_81 fdX3_18 rfl rfl ⟨hV3, ?_⟩
          refine ai_getI dX3_choice_84 fdX3_109 rfl rfl ?_
          refine ai_callVv (As := [.int x9, .int (S14 26 3)]) (rest := []) dX3_choice_87 cvX3_112 rfl rfl rfl (Nat.le_of_ble_eq_true rfl) (ai_met.mv h (fun S16 h => ?_))
          refine ai_aload_n dX3_choice_90 rfl (j := 2) rfl ?_
          refine ai_iload_n dX3_choice_91 rfl (j := 3) rfl ?_
          refine ai_iconst (v := 1) dX3_choice_92 (by decide) ?_
          refine ai_iadd dX3_choice_93 ?_
          refine ai_callVz (As := [.int (p1 + 1)]) (rest := []) dX3_choice_94 cvX3_49 rfl rfl rfl (Nat.le_of_ble_eq_true rfl) (ai_met.mz h (fun S18 h => ?_) (fun S18 h => ?_))
          · show ai_W _ _ _ _ _ _ _ _ _
            refine ai_if_ne (tgt := 102) dX3_choice_97 (by decide) ⟨fun _ => ?_, fun hc => absurd hc (by decide)⟩
            refine ai_aload_n dX3_choice_102 rfl (j := 2) rfl ?_
            refine ai_getV dX3_choice_103 fdX3_18 rfl rfl ⟨hV3, ?_⟩
            refine ai_iload_n dX3_choice_106 rfl (j := 0) rfl ?_
            refine ai_aload_n dX3_choice_107 rfl (j := 2) rfl ?_
            refine ai_getV dX3_choice_108 fdX3_18 rfl rfl ⟨hV3, ?_⟩
            refine ai_getI dX3_choice_111 fdX3_109 rfl rfl ?_
            refine ai_callVv (As := [.int x13, .int (S18 26 3)]) (rest := []) dX3_choice_114 cvX3_112 rfl rfl rfl (Nat.le_of_ble_eq_true rfl) (ai_met.mv h (fun S20 h => ?_))
            refine ai_iconst (v := 1) dX3_choice_117 (by decide) ?_
            exact ai_rett dX3_choice_118 rfl h
          · show ai_W _ _ _ _ _ _ _ _ _
            refine ai_if_ne (tgt := 102) dX3_choice_97 (by decide) ⟨fun hc => absurd hc (by decide), fun _ => ?_⟩
            refine ai_iconst (v := 0) dX3_choice_100 (by decide) ?_
            exact ai_retf dX3_choice_101 rfl h
        · show ai_W _ _ _ _ _ _ _ _ _
          refine ai_if_ne (tgt := 64) dX3_choice_59 (by decide) ⟨fun hc => absurd hc (by decide), fun _ => ?_⟩
          refine ai_iconst (v := 0) dX3_choice_62 (by decide) ?_
          exact ai_retf dX3_choice_63 rfl h
      · show ai_W _ _ _ _ _ _ _ _ _
        refine ai_if_ne (tgt := 41) dX3_choice_36 (by decide) ⟨fun hc => absurd hc (by decide), fun _ => ?_⟩
        refine ai_iconst (v := 0) dX3_choice_39 (by decide) ?_
        exact ai_retf dX3_choice_40 rfl h
    · show ai_W _ _ _ _ _ _ _ _ _
      refine ai_if_eq (tgt := 39) dX3_choice_27 (by decide) ⟨fun _ => ?_, fun hc => absurd hc (by decide)⟩
      refine ai_iconst (v := 0) dX3_choice_39 (by decide) ?_
      exact ai_retf dX3_choice_40 rfl h
  · show ai_W _ _ _ _ _ _ _ _ _
    refine ai_if_eq (tgt := 39) dX3_choice_17 (by decide) ⟨fun _ => ?_, fun hc => absurd hc (by decide)⟩
    refine ai_iconst (v := 0) dX3_choice_39 (by decide) ?_
    exact ai_retf dX3_choice_40 rfl h
set_option maxHeartbeats 4000000 in
set_option maxRecDepth 100000 in
theorem vX3_loop {p1 : Int32} {S : ai_S} {V : ai_V} {G : Bool → ai_S → Prop} (hV3 : V 2 3 = .ref 26)
    (h : ai_met (uC l D ρ τ) d mX2_add [.ref 26, .int 1, .int 0, .int 0] S V (ai_qi V (fun x1 S2 => ai_met (uC l D ρ τ) d mX3_take [.ref 2, .int 40] S2 V (ai_qz V (fun b3 S4 => (b3 = true → ai_met (uC l D ρ τ) d mX3_expression [.ref 2, .int (p1 + 1)] S4 V (ai_qz V (fun b5 S6 => (b5 = true → ai_met (uC l D ρ τ) d mX3_take [.ref 2, .int 41] S6 V (ai_qz V (fun b7 S8 => (b7 = true → ai_met (uC l D ρ τ) d mX2_add [.ref 26, .int 4, .int 0, .int 0] S8 V (ai_qi V (fun x9 S10 => ai_met (uC l D ρ τ) d mX3_statement [.ref 2, .int (p1 + 1)] S10 V (ai_qz V (fun b11 S12 => (b11 = true → ai_met (uC l D ρ τ) d mX2_add [.ref 26, .int 3, .int (S2 26 3), .int 0] S12 V (ai_qi V (fun x13 S14 => ai_met (uC l D ρ τ) d mX2_setFirst [.ref 26, .int x9, .int (S14 26 3)] S14 V (ai_qv V (fun S16 => G true S16))))) ∧ (b11 = false → G false S12)))))) ∧ (b7 = false → G false S8)))) ∧ (b5 = false → G false S6)))) ∧ (b3 = false → G false S4)))))) :
    ai_met (uC l D ρ τ) (d + 1) mX3_loop [.ref 2, .int p1] S V (ai_qz V G) := by
  refine ai_mof plX3 (Nat.le_of_ble_eq_true rfl) (lv := [(0, .ref 2), (1, .int p1)]) rfl ?_
  refine ai_aload_n dX3_loop_0 rfl (j := 0) rfl ?_
  refine ai_getV dX3_loop_1 fdX3_18 rfl rfl ⟨hV3, ?_⟩
  refine ai_iconst (v := 1) dX3_loop_4 (by decide) ?_
  refine ai_iconst (v := 0) dX3_loop_5 (by decide) ?_
  refine ai_iconst (v := 0) dX3_loop_6 (by decide) ?_
  refine ai_callVi (As := [.int 1, .int 0, .int 0]) (rest := []) dX3_loop_7 cvX3_57 rfl rfl rfl (Nat.le_of_ble_eq_true rfl) (ai_met.mi h (fun x1 S2 h => ?_))
  refine ai_pop dX3_loop_10 rfl ?_
  refine ai_aload_n dX3_loop_11 rfl (j := 0) rfl ?_
  refine ai_getV dX3_loop_12 fdX3_18 rfl rfl ⟨hV3, ?_⟩
  refine ai_getI dX3_loop_15 fdX3_109 rfl rfl ?_
  refine ai_istore_n (lv' := [(2, .int (S2 26 3)), (0, .ref 2), (1, .int p1)]) dX3_loop_18 rfl (by decide) rfl ?_
  refine ai_aload_n dX3_loop_19 rfl (j := 1) rfl ?_
  refine ai_bipush (v := 40) dX3_loop_20 (by decide) ?_
  refine ai_callVz (As := [.int 40]) (rest := []) dX3_loop_22 cvX3_73 rfl rfl rfl (Nat.le_of_ble_eq_true rfl) (ai_met.mz h (fun S4 h => ?_) (fun S4 h => ?_))
  · show ai_W _ _ _ _ _ _ _ _ _
    refine ai_if_eq (tgt := 47) dX3_loop_25 (by decide) ⟨fun hc => absurd hc (by decide), fun _ => ?_⟩
    refine ai_aload_n dX3_loop_28 rfl (j := 1) rfl ?_
    refine ai_iload_n dX3_loop_29 rfl (j := 2) rfl ?_
    refine ai_iconst (v := 1) dX3_loop_30 (by decide) ?_
    refine ai_iadd dX3_loop_31 ?_
    refine ai_callVz (As := [.int (p1 + 1)]) (rest := []) dX3_loop_32 cvX3_106 rfl rfl rfl (Nat.le_of_ble_eq_true rfl) (ai_met.mz h (fun S6 h => ?_) (fun S6 h => ?_))
    · show ai_W _ _ _ _ _ _ _ _ _
      refine ai_if_eq (tgt := 47) dX3_loop_35 (by decide) ⟨fun hc => absurd hc (by decide), fun _ => ?_⟩
      refine ai_aload_n dX3_loop_38 rfl (j := 1) rfl ?_
      refine ai_bipush (v := 41) dX3_loop_39 (by decide) ?_
      refine ai_callVz (As := [.int 41]) (rest := []) dX3_loop_41 cvX3_73 rfl rfl rfl (Nat.le_of_ble_eq_true rfl) (ai_met.mz h (fun S8 h => ?_) (fun S8 h => ?_))
      · show ai_W _ _ _ _ _ _ _ _ _
        refine ai_if_ne (tgt := 49) dX3_loop_44 (by decide) ⟨fun _ => ?_, fun hc => absurd hc (by decide)⟩
        refine ai_aload_n dX3_loop_49 rfl (j := 1) rfl ?_
        refine ai_getV dX3_loop_50 fdX3_18 rfl rfl ⟨hV3, ?_⟩
        refine ai_iconst (v := 4) dX3_loop_53 (by decide) ?_
        refine ai_iconst (v := 0) dX3_loop_54 (by decide) ?_
        refine ai_iconst (v := 0) dX3_loop_55 (by decide) ?_
        refine ai_callVi (As := [.int 4, .int 0, .int 0]) (rest := []) dX3_loop_56 cvX3_57 rfl rfl rfl (Nat.le_of_ble_eq_true rfl) (ai_met.mi h (fun x9 S10 h => ?_))
        refine ai_istore_n (lv' := [(3, .int x9), (2, .int (S2 26 3)), (0, .ref 2), (1, .int p1)]) dX3_loop_59 rfl (by decide) rfl ?_
        refine ai_aload_n dX3_loop_60 rfl (j := 2) rfl ?_
        refine ai_iload_n dX3_loop_61 rfl (j := 3) rfl ?_
        refine ai_iconst (v := 1) dX3_loop_62 (by decide) ?_
        refine ai_iadd dX3_loop_63 ?_
        refine ai_callVz (As := [.int (p1 + 1)]) (rest := []) dX3_loop_64 cvX3_49 rfl rfl rfl (Nat.le_of_ble_eq_true rfl) (ai_met.mz h (fun S12 h => ?_) (fun S12 h => ?_))
        · show ai_W _ _ _ _ _ _ _ _ _
          refine ai_if_ne (tgt := 72) dX3_loop_67 (by decide) ⟨fun _ => ?_, fun hc => absurd hc (by decide)⟩
          refine ai_aload_n dX3_loop_72 rfl (j := 2) rfl ?_
          refine ai_getV dX3_loop_73 fdX3_18 rfl rfl ⟨hV3, ?_⟩
          refine ai_iconst (v := 3) dX3_loop_76 (by decide) ?_
          refine ai_iload_n dX3_loop_77 rfl (j := 1) rfl ?_
          refine ai_iconst (v := 0) dX3_loop_78 (by decide) ?_
          refine ai_callVi (As := [.int 3, .int (S2 26 3), .int 0]) (rest := []) dX3_loop_79 cvX3_57 rfl rfl rfl (Nat.le_of_ble_eq_true rfl) (ai_met.mi h (fun x13 S14 h => ?_))
          refine ai_pop dX3_loop_82 rfl ?_
          refine ai_aload_n dX3_loop_83 rfl (j := 2) rfl ?_
          refine ai_getV dX3_loop_84 fdX3_18 rfl rfl ⟨hV3, ?_⟩
          refine ai_iload_n dX3_loop_87 rfl (j := 0) rfl ?_
          refine ai_aload_n dX3_loop_88 rfl (j := 2) rfl ?_
          refine ai_getV dX3_loop_89 fdX3_18 rfl rfl ⟨hV3, ?_⟩
          refine ai_getI dX3_loop_92 fdX3_109 rfl rfl ?_
          refine ai_callVv (As := [.int x9, .int (S14 26 3)]) (rest := []) dX3_loop_95 cvX3_112 rfl rfl rfl (Nat.le_of_ble_eq_true rfl) (ai_met.mv h (fun S16 h => ?_))
          refine ai_iconst (v := 1) dX3_loop_98 (by decide) ?_
          exact ai_rett dX3_loop_99 rfl h
        · show ai_W _ _ _ _ _ _ _ _ _
          refine ai_if_ne (tgt := 72) dX3_loop_67 (by decide) ⟨fun hc => absurd hc (by decide), fun _ => ?_⟩
          refine ai_iconst (v := 0) dX3_loop_70 (by decide) ?_
          exact ai_retf dX3_loop_71 rfl h
      · show ai_W _ _ _ _ _ _ _ _ _
        refine ai_if_ne (tgt := 49) dX3_loop_44 (by decide) ⟨fun hc => absurd hc (by decide), fun _ => ?_⟩
        refine ai_iconst (v := 0) dX3_loop_47 (by decide) ?_
        exact ai_retf dX3_loop_48 rfl h
    · show ai_W _ _ _ _ _ _ _ _ _
      refine ai_if_eq (tgt := 47) dX3_loop_35 (by decide) ⟨fun _ => ?_, fun hc => absurd hc (by decide)⟩
      refine ai_iconst (v := 0) dX3_loop_47 (by decide) ?_
      exact ai_retf dX3_loop_48 rfl h
  · show ai_W _ _ _ _ _ _ _ _ _
    refine ai_if_eq (tgt := 47) dX3_loop_25 (by decide) ⟨fun _ => ?_, fun hc => absurd hc (by decide)⟩
    refine ai_iconst (v := 0) dX3_loop_47 (by decide) ?_
    exact ai_retf dX3_loop_48 rfl h
set_option maxHeartbeats 4000000 in
set_option maxRecDepth 100000 in
theorem vX3_statement {p1 : Int32} {S : ai_S} {V : ai_V} {G : Bool → ai_S → Prop} (hV3 : V 2 3 = .ref 26)
    (h : ai_met (uC l D ρ τ) d mX3_reach [.ref 2, .int p1] S V (ai_qz V (fun b1 S2 => (b1 = true → ai_met (uC l D ρ τ) d mX3_take [.ref 2, .int 123] (ai_up S2 26 8 ((S2 26 8) + 1)) V (ai_qz V (fun b3 S4 => (b3 = true → ai_met (uC l D ρ τ) d mX3_block [.ref 2, .int p1] S4 V (ai_qz V (fun b5 S6 => (b5 = true → G true S6) ∧ (b5 = false → G false S6)))) ∧ (b3 = false → ai_met (uC l D ρ τ) d mX3_take [.ref 2, .int 33] S4 V (ai_qz V (fun b7 S8 => (b7 = true → ai_met (uC l D ρ τ) d mX3_print [.ref 2, .int p1] S8 V (ai_qz V (fun b9 S10 => (b9 = true → G true S10) ∧ (b9 = false → G false S10)))) ∧ (b7 = false → ai_met (uC l D ρ τ) d mX3_take [.ref 2, .int 63] S8 V (ai_qz V (fun b11 S12 => (b11 = true → ai_met (uC l D ρ τ) d mX3_choice [.ref 2, .int p1] S12 V (ai_qz V (fun b13 S14 => (b13 = true → G true S14) ∧ (b13 = false → G false S14)))) ∧ (b11 = false → ai_met (uC l D ρ τ) d mX3_take [.ref 2, .int 42] S12 V (ai_qz V (fun b15 S16 => (b15 = true → ai_met (uC l D ρ τ) d mX3_loop [.ref 2, .int p1] S16 V (ai_qz V (fun b17 S18 => (b17 = true → G true S18) ∧ (b17 = false → G false S18)))) ∧ (b15 = false → ai_met (uC l D ρ τ) d mX3_takeName [.ref 2] S16 V (ai_qi V (fun x19 S20 => ((¬ x19 = 0 → ai_met (uC l D ρ τ) d mX3_take [.ref 2, .int 61] S20 V (ai_qz V (fun b22 S23 => (b22 = true → ai_met (uC l D ρ τ) d mX3_assignment [.ref 2, .int x19, .int p1] S23 V (ai_qz V (fun b24 S25 => (b24 = true → G true S25) ∧ (b24 = false → G false S25)))) ∧ (b22 = false → ai_met (uC l D ρ τ) d mX3_addUse [.ref 2, .int x19, .int 15, .int 14, .int 13] S23 V (ai_qv V (fun S27 => ai_met (uC l D ρ τ) d mX3_take [.ref 2, .int 40] S27 V (ai_qz V (fun b28 S29 => (b28 = true → ai_met (uC l D ρ τ) d mX3_list [.ref 2, .int (p1 + 1)] S29 V (ai_qz V (fun b30 S31 => (b30 = true → ai_met (uC l D ρ τ) d mX3_take [.ref 2, .int 59] S31 V (ai_qz V (fun b32 S33 => (b32 = true → G true S33) ∧ (b32 = false → G false S33)))) ∧ (b30 = false → G false S31)))) ∧ (b28 = false → G false S29))))))))) ∧ (x19 = 0 → G false S20))))))))))))))))) ∧ (b1 = false → G false S2)))) :
    ai_met (uC l D ρ τ) (d + 1) mX3_statement [.ref 2, .int p1] S V (ai_qz V G) := by
  refine ai_mof plX3 (Nat.le_of_ble_eq_true rfl) (lv := [(0, .ref 2), (1, .int p1)]) rfl ?_
  refine ai_aload_n dX3_statement_0 rfl (j := 0) rfl ?_
  refine ai_iload_n dX3_statement_1 rfl (j := 1) rfl ?_
  refine ai_callVz (As := [.int p1]) (rest := []) dX3_statement_2 cvX3_67 rfl rfl rfl (Nat.le_of_ble_eq_true rfl) (ai_met.mz h (fun S2 h => ?_) (fun S2 h => ?_))
  · show ai_W _ _ _ _ _ _ _ _ _
    refine ai_if_ne (tgt := 10) dX3_statement_5 (by decide) ⟨fun _ => ?_, fun hc => absurd hc (by decide)⟩
    refine ai_aload_n dX3_statement_10 rfl (j := 0) rfl ?_
    refine ai_getV dX3_statement_11 fdX3_18 rfl rfl ⟨hV3, ?_⟩
    refine ai_dup dX3_statement_14 rfl ?_
    refine ai_getI dX3_statement_15 fdX3_70 rfl rfl ?_
    refine ai_iconst (v := 1) dX3_statement_18 (by decide) ?_
    refine ai_iadd dX3_statement_19 ?_
    refine ai_putI dX3_statement_20 fdX3_70 pdX2_8 rfl rfl rfl rfl ?_
    refine ai_aload_n dX3_statement_23 rfl (j := 0) rfl ?_
    refine ai_bipush (v := 123) dX3_statement_24 (by decide) ?_
    refine ai_callVz (As := [.int 123]) (rest := []) dX3_statement_26 cvX3_73 rfl rfl rfl (Nat.le_of_ble_eq_true rfl) (ai_met.mz h (fun S4 h => ?_) (fun S4 h => ?_))
    · show ai_W _ _ _ _ _ _ _ _ _
      refine ai_if_eq (tgt := 38) dX3_statement_29 (by decide) ⟨fun hc => absurd hc (by decide), fun _ => ?_⟩
      refine ai_aload_n dX3_statement_32 rfl (j := 0) rfl ?_
      refine ai_iload_n dX3_statement_33 rfl (j := 1) rfl ?_
      refine ai_callVz (As := [.int p1]) (rest := []) dX3_statement_34 cvX3_76 rfl rfl rfl (Nat.le_of_ble_eq_true rfl) (ai_met.mz h (fun S6 h => ?_) (fun S6 h => ?_))
      · show ai_W _ _ _ _ _ _ _ _ _
        exact ai_rett dX3_statement_37 rfl h
      · show ai_W _ _ _ _ _ _ _ _ _
        exact ai_retf dX3_statement_37 rfl h
    · show ai_W _ _ _ _ _ _ _ _ _
      refine ai_if_eq (tgt := 38) dX3_statement_29 (by decide) ⟨fun _ => ?_, fun hc => absurd hc (by decide)⟩
      refine ai_aload_n dX3_statement_38 rfl (j := 0) rfl ?_
      refine ai_bipush (v := 33) dX3_statement_39 (by decide) ?_
      refine ai_callVz (As := [.int 33]) (rest := []) dX3_statement_41 cvX3_73 rfl rfl rfl (Nat.le_of_ble_eq_true rfl) (ai_met.mz h (fun S8 h => ?_) (fun S8 h => ?_))
      · show ai_W _ _ _ _ _ _ _ _ _
        refine ai_if_eq (tgt := 53) dX3_statement_44 (by decide) ⟨fun hc => absurd hc (by decide), fun _ => ?_⟩
        refine ai_aload_n dX3_statement_47 rfl (j := 0) rfl ?_
        refine ai_iload_n dX3_statement_48 rfl (j := 1) rfl ?_
        refine ai_callVz (As := [.int p1]) (rest := []) dX3_statement_49 cvX3_79 rfl rfl rfl (Nat.le_of_ble_eq_true rfl) (ai_met.mz h (fun S10 h => ?_) (fun S10 h => ?_))
        · show ai_W _ _ _ _ _ _ _ _ _
          exact ai_rett dX3_statement_52 rfl h
        · show ai_W _ _ _ _ _ _ _ _ _
          exact ai_retf dX3_statement_52 rfl h
      · show ai_W _ _ _ _ _ _ _ _ _
        refine ai_if_eq (tgt := 53) dX3_statement_44 (by decide) ⟨fun _ => ?_, fun hc => absurd hc (by decide)⟩
        refine ai_aload_n dX3_statement_53 rfl (j := 0) rfl ?_
        refine ai_bipush (v := 63) dX3_statement_54 (by decide) ?_
        refine ai_callVz (As := [.int 63]) (rest := []) dX3_statement_56 cvX3_73 rfl rfl rfl (Nat.le_of_ble_eq_true rfl) (ai_met.mz h (fun S12 h => ?_) (fun S12 h => ?_))
        · show ai_W _ _ _ _ _ _ _ _ _
          refine ai_if_eq (tgt := 68) dX3_statement_59 (by decide) ⟨fun hc => absurd hc (by decide), fun _ => ?_⟩
          refine ai_aload_n dX3_statement_62 rfl (j := 0) rfl ?_
          refine ai_iload_n dX3_statement_63 rfl (j := 1) rfl ?_
          refine ai_callVz (As := [.int p1]) (rest := []) dX3_statement_64 cvX3_82 rfl rfl rfl (Nat.le_of_ble_eq_true rfl) (ai_met.mz h (fun S14 h => ?_) (fun S14 h => ?_))
          · show ai_W _ _ _ _ _ _ _ _ _
            exact ai_rett dX3_statement_67 rfl h
          · show ai_W _ _ _ _ _ _ _ _ _
            exact ai_retf dX3_statement_67 rfl h
        · show ai_W _ _ _ _ _ _ _ _ _
          refine ai_if_eq (tgt := 68) dX3_statement_59 (by decide) ⟨fun _ => ?_, fun hc => absurd hc (by decide)⟩
          refine ai_aload_n dX3_statement_68 rfl (j := 0) rfl ?_
          refine ai_bipush (v := 42) dX3_statement_69 (by decide) ?_
          refine ai_callVz (As := [.int 42]) (rest := []) dX3_statement_71 cvX3_73 rfl rfl rfl (Nat.le_of_ble_eq_true rfl) (ai_met.mz h (fun S16 h => ?_) (fun S16 h => ?_))
          · show ai_W _ _ _ _ _ _ _ _ _
            refine ai_if_eq (tgt := 83) dX3_statement_74 (by decide) ⟨fun hc => absurd hc (by decide), fun _ => ?_⟩
            refine ai_aload_n dX3_statement_77 rfl (j := 0) rfl ?_
            refine ai_iload_n dX3_statement_78 rfl (j := 1) rfl ?_
            refine ai_callVz (As := [.int p1]) (rest := []) dX3_statement_79 cvX3_85 rfl rfl rfl (Nat.le_of_ble_eq_true rfl) (ai_met.mz h (fun S18 h => ?_) (fun S18 h => ?_))
            · show ai_W _ _ _ _ _ _ _ _ _
              exact ai_rett dX3_statement_82 rfl h
            · show ai_W _ _ _ _ _ _ _ _ _
              exact ai_retf dX3_statement_82 rfl h
          · show ai_W _ _ _ _ _ _ _ _ _
            refine ai_if_eq (tgt := 83) dX3_statement_74 (by decide) ⟨fun _ => ?_, fun hc => absurd hc (by decide)⟩
            refine ai_aload_n dX3_statement_83 rfl (j := 0) rfl ?_
            refine ai_callVi (As := []) (rest := []) dX3_statement_84 cvX3_88 rfl rfl rfl (Nat.le_of_ble_eq_true rfl) (ai_met.mi h (fun x19 S20 h => ?_))
            refine ai_istore_n (lv' := [(2, .int x19), (0, .ref 2), (1, .int p1)]) dX3_statement_87 rfl (by decide) rfl ?_
            refine ai_iload_n dX3_statement_88 rfl (j := 0) rfl ?_
            refine ai_if_ne (tgt := 94) dX3_statement_89 (by decide) ⟨fun (hc21 : ¬ x19 = 0) => ?_, fun (hc21 : x19 = 0) => ?_⟩
            · have h := h.1 hc21
              refine ai_aload_n dX3_statement_94 rfl (j := 1) rfl ?_
              refine ai_bipush (v := 61) dX3_statement_95 (by decide) ?_
              refine ai_callVz (As := [.int 61]) (rest := []) dX3_statement_97 cvX3_73 rfl rfl rfl (Nat.le_of_ble_eq_true rfl) (ai_met.mz h (fun S23 h => ?_) (fun S23 h => ?_))
              · show ai_W _ _ _ _ _ _ _ _ _
                refine ai_if_eq (tgt := 110) dX3_statement_100 (by decide) ⟨fun hc => absurd hc (by decide), fun _ => ?_⟩
                refine ai_aload_n dX3_statement_103 rfl (j := 1) rfl ?_
                refine ai_iload_n dX3_statement_104 rfl (j := 0) rfl ?_
                refine ai_iload_n dX3_statement_105 rfl (j := 2) rfl ?_
                refine ai_callVz (As := [.int x19, .int p1]) (rest := []) dX3_statement_106 cvX3_91 rfl rfl rfl (Nat.le_of_ble_eq_true rfl) (ai_met.mz h (fun S25 h => ?_) (fun S25 h => ?_))
                · show ai_W _ _ _ _ _ _ _ _ _
                  exact ai_rett dX3_statement_109 rfl h
                · show ai_W _ _ _ _ _ _ _ _ _
                  exact ai_retf dX3_statement_109 rfl h
              · show ai_W _ _ _ _ _ _ _ _ _
                refine ai_if_eq (tgt := 110) dX3_statement_100 (by decide) ⟨fun _ => ?_, fun hc => absurd hc (by decide)⟩
                refine ai_aload_n dX3_statement_110 rfl (j := 1) rfl ?_
                refine ai_iload_n dX3_statement_111 rfl (j := 0) rfl ?_
                refine ai_bipush (v := 15) dX3_statement_112 (by decide) ?_
                refine ai_bipush (v := 14) dX3_statement_114 (by decide) ?_
                refine ai_bipush (v := 13) dX3_statement_116 (by decide) ?_
                refine ai_callVv (As := [.int x19, .int 15, .int 14, .int 13]) (rest := []) dX3_statement_118 cvX3_95 rfl rfl rfl (Nat.le_of_ble_eq_true rfl) (ai_met.mv h (fun S27 h => ?_))
                refine ai_aload_n dX3_statement_121 rfl (j := 1) rfl ?_
                refine ai_bipush (v := 40) dX3_statement_122 (by decide) ?_
                refine ai_callVz (As := [.int 40]) (rest := []) dX3_statement_124 cvX3_73 rfl rfl rfl (Nat.le_of_ble_eq_true rfl) (ai_met.mz h (fun S29 h => ?_) (fun S29 h => ?_))
                · show ai_W _ _ _ _ _ _ _ _ _
                  refine ai_if_eq (tgt := 153) dX3_statement_127 (by decide) ⟨fun hc => absurd hc (by decide), fun _ => ?_⟩
                  refine ai_aload_n dX3_statement_130 rfl (j := 1) rfl ?_
                  refine ai_iload_n dX3_statement_131 rfl (j := 2) rfl ?_
                  refine ai_iconst (v := 1) dX3_statement_132 (by decide) ?_
                  refine ai_iadd dX3_statement_133 ?_
                  refine ai_callVz (As := [.int (p1 + 1)]) (rest := []) dX3_statement_134 cvX3_99 rfl rfl rfl (Nat.le_of_ble_eq_true rfl) (ai_met.mz h (fun S31 h => ?_) (fun S31 h => ?_))
                  · show ai_W _ _ _ _ _ _ _ _ _
                    refine ai_if_eq (tgt := 153) dX3_statement_137 (by decide) ⟨fun hc => absurd hc (by decide), fun _ => ?_⟩
                    refine ai_aload_n dX3_statement_140 rfl (j := 1) rfl ?_
                    refine ai_bipush (v := 59) dX3_statement_141 (by decide) ?_
                    refine ai_callVz (As := [.int 59]) (rest := []) dX3_statement_143 cvX3_73 rfl rfl rfl (Nat.le_of_ble_eq_true rfl) (ai_met.mz h (fun S33 h => ?_) (fun S33 h => ?_))
                    · show ai_W _ _ _ _ _ _ _ _ _
                      refine ai_if_eq (tgt := 153) dX3_statement_146 (by decide) ⟨fun hc => absurd hc (by decide), fun _ => ?_⟩
                      refine ai_iconst (v := 1) dX3_statement_149 (by decide) ?_
                      refine ai_goto (tgt := 154) dX3_statement_150 (by decide) ?_
                      exact ai_rett dX3_statement_154 rfl h
                    · show ai_W _ _ _ _ _ _ _ _ _
                      refine ai_if_eq (tgt := 153) dX3_statement_146 (by decide) ⟨fun _ => ?_, fun hc => absurd hc (by decide)⟩
                      refine ai_iconst (v := 0) dX3_statement_153 (by decide) ?_
                      exact ai_retf dX3_statement_154 rfl h
                  · show ai_W _ _ _ _ _ _ _ _ _
                    refine ai_if_eq (tgt := 153) dX3_statement_137 (by decide) ⟨fun _ => ?_, fun hc => absurd hc (by decide)⟩
                    refine ai_iconst (v := 0) dX3_statement_153 (by decide) ?_
                    exact ai_retf dX3_statement_154 rfl h
                · show ai_W _ _ _ _ _ _ _ _ _
                  refine ai_if_eq (tgt := 153) dX3_statement_127 (by decide) ⟨fun _ => ?_, fun hc => absurd hc (by decide)⟩
                  refine ai_iconst (v := 0) dX3_statement_153 (by decide) ?_
                  exact ai_retf dX3_statement_154 rfl h
            · have h := h.2 hc21
              refine ai_iconst (v := 0) dX3_statement_92 (by decide) ?_
              exact ai_retf dX3_statement_93 rfl h
  · show ai_W _ _ _ _ _ _ _ _ _
    refine ai_if_ne (tgt := 10) dX3_statement_5 (by decide) ⟨fun hc => absurd hc (by decide), fun _ => ?_⟩
    refine ai_iconst (v := 0) dX3_statement_8 (by decide) ?_
    exact ai_retf dX3_statement_9 rfl h
set_option maxHeartbeats 4000000 in
set_option maxRecDepth 100000 in
theorem vX3_expression {p1 : Int32} {S : ai_S} {V : ai_V} {G : Bool → ai_S → Prop} (hV3 : V 2 3 = .ref 26)
    (h : ai_met (uC l D ρ τ) d mX3_reach [.ref 2, .int p1] S V (ai_qz V (fun b1 S2 => (b1 = true → ai_met (uC l D ρ τ) d mX3_sum [.ref 2, .int p1] S2 V (ai_qz V (fun b3 S4 => (b3 = true → ai_met (uC l D ρ τ) d mX3_take [.ref 2, .int 60] S4 V (ai_qz V (fun b5 S6 => (b5 = true → ai_met (uC l D ρ τ) d mX2_add [.ref 26, .int 18, .int 0, .int 0] S6 V (ai_qi V (fun x7 S8 => ai_met (uC l D ρ τ) d mX3_sum [.ref 2, .int p1] S8 V (ai_qz V (fun b9 S10 => (b9 = true → ai_met (uC l D ρ τ) d mX2_add [.ref 26, .int 22, .int 0, .int 0] S10 V (ai_qi V (fun x11 S12 => G true S12))) ∧ (b9 = false → G false S10)))))) ∧ (b5 = false → G true S6)))) ∧ (b3 = false → G false S4)))) ∧ (b1 = false → G false S2)))) :
    ai_met (uC l D ρ τ) (d + 1) mX3_expression [.ref 2, .int p1] S V (ai_qz V G) := by
  refine ai_mof plX3 (Nat.le_of_ble_eq_true rfl) (lv := [(0, .ref 2), (1, .int p1)]) rfl ?_
  refine ai_aload_n dX3_expression_0 rfl (j := 0) rfl ?_
  refine ai_iload_n dX3_expression_1 rfl (j := 1) rfl ?_
  refine ai_callVz (As := [.int p1]) (rest := []) dX3_expression_2 cvX3_67 rfl rfl rfl (Nat.le_of_ble_eq_true rfl) (ai_met.mz h (fun S2 h => ?_) (fun S2 h => ?_))
  · show ai_W _ _ _ _ _ _ _ _ _
    refine ai_if_eq (tgt := 16) dX3_expression_5 (by decide) ⟨fun hc => absurd hc (by decide), fun _ => ?_⟩
    refine ai_aload_n dX3_expression_8 rfl (j := 0) rfl ?_
    refine ai_iload_n dX3_expression_9 rfl (j := 1) rfl ?_
    refine ai_callVz (As := [.int p1]) (rest := []) dX3_expression_10 cvX3_158 rfl rfl rfl (Nat.le_of_ble_eq_true rfl) (ai_met.mz h (fun S4 h => ?_) (fun S4 h => ?_))
    · show ai_W _ _ _ _ _ _ _ _ _
      refine ai_if_ne (tgt := 18) dX3_expression_13 (by decide) ⟨fun _ => ?_, fun hc => absurd hc (by decide)⟩
      refine ai_aload_n dX3_expression_18 rfl (j := 0) rfl ?_
      refine ai_bipush (v := 60) dX3_expression_19 (by decide) ?_
      refine ai_callVz (As := [.int 60]) (rest := []) dX3_expression_21 cvX3_73 rfl rfl rfl (Nat.le_of_ble_eq_true rfl) (ai_met.mz h (fun S6 h => ?_) (fun S6 h => ?_))
      · show ai_W _ _ _ _ _ _ _ _ _
        refine ai_if_ne (tgt := 29) dX3_expression_24 (by decide) ⟨fun _ => ?_, fun hc => absurd hc (by decide)⟩
        refine ai_aload_n dX3_expression_29 rfl (j := 0) rfl ?_
        refine ai_getV dX3_expression_30 fdX3_18 rfl rfl ⟨hV3, ?_⟩
        refine ai_bipush (v := 18) dX3_expression_33 (by decide) ?_
        refine ai_iconst (v := 0) dX3_expression_35 (by decide) ?_
        refine ai_iconst (v := 0) dX3_expression_36 (by decide) ?_
        refine ai_callVi (As := [.int 18, .int 0, .int 0]) (rest := []) dX3_expression_37 cvX3_57 rfl rfl rfl (Nat.le_of_ble_eq_true rfl) (ai_met.mi h (fun x7 S8 h => ?_))
        refine ai_pop dX3_expression_40 rfl ?_
        refine ai_aload_n dX3_expression_41 rfl (j := 0) rfl ?_
        refine ai_iload_n dX3_expression_42 rfl (j := 1) rfl ?_
        refine ai_callVz (As := [.int p1]) (rest := []) dX3_expression_43 cvX3_158 rfl rfl rfl (Nat.le_of_ble_eq_true rfl) (ai_met.mz h (fun S10 h => ?_) (fun S10 h => ?_))
        · show ai_W _ _ _ _ _ _ _ _ _
          refine ai_if_ne (tgt := 51) dX3_expression_46 (by decide) ⟨fun _ => ?_, fun hc => absurd hc (by decide)⟩
          refine ai_aload_n dX3_expression_51 rfl (j := 0) rfl ?_
          refine ai_getV dX3_expression_52 fdX3_18 rfl rfl ⟨hV3, ?_⟩
          refine ai_bipush (v := 22) dX3_expression_55 (by decide) ?_
          refine ai_iconst (v := 0) dX3_expression_57 (by decide) ?_
          refine ai_iconst (v := 0) dX3_expression_58 (by decide) ?_
          refine ai_callVi (As := [.int 22, .int 0, .int 0]) (rest := []) dX3_expression_59 cvX3_57 rfl rfl rfl (Nat.le_of_ble_eq_true rfl) (ai_met.mi h (fun x11 S12 h => ?_))
          refine ai_pop dX3_expression_62 rfl ?_
          refine ai_iconst (v := 1) dX3_expression_63 (by decide) ?_
          exact ai_rett dX3_expression_64 rfl h
        · show ai_W _ _ _ _ _ _ _ _ _
          refine ai_if_ne (tgt := 51) dX3_expression_46 (by decide) ⟨fun hc => absurd hc (by decide), fun _ => ?_⟩
          refine ai_iconst (v := 0) dX3_expression_49 (by decide) ?_
          exact ai_retf dX3_expression_50 rfl h
      · show ai_W _ _ _ _ _ _ _ _ _
        refine ai_if_ne (tgt := 29) dX3_expression_24 (by decide) ⟨fun hc => absurd hc (by decide), fun _ => ?_⟩
        refine ai_iconst (v := 1) dX3_expression_27 (by decide) ?_
        exact ai_rett dX3_expression_28 rfl h
    · show ai_W _ _ _ _ _ _ _ _ _
      refine ai_if_ne (tgt := 18) dX3_expression_13 (by decide) ⟨fun hc => absurd hc (by decide), fun _ => ?_⟩
      refine ai_iconst (v := 0) dX3_expression_16 (by decide) ?_
      exact ai_retf dX3_expression_17 rfl h
  · show ai_W _ _ _ _ _ _ _ _ _
    refine ai_if_eq (tgt := 16) dX3_expression_5 (by decide) ⟨fun _ => ?_, fun hc => absurd hc (by decide)⟩
    refine ai_iconst (v := 0) dX3_expression_16 (by decide) ?_
    exact ai_retf dX3_expression_17 rfl h
set_option maxHeartbeats 4000000 in
set_option maxRecDepth 100000 in
theorem vX3_factor {p1 : Int32} {S : ai_S} {V : ai_V} {G : Bool → ai_S → Prop} (hV3 : V 2 3 = .ref 26)
    (h : ai_met (uC l D ρ τ) d mX3_take [.ref 2, .int 40] S V (ai_qz V (fun b1 S2 => (b1 = true → ai_met (uC l D ρ τ) d mX3_expression [.ref 2, .int (p1 + 1)] S2 V (ai_qz V (fun b3 S4 => (b3 = true → ai_met (uC l D ρ τ) d mX3_take [.ref 2, .int 41] S4 V (ai_qz V (fun b5 S6 => (b5 = true → G true S6) ∧ (b5 = false → G false S6)))) ∧ (b3 = false → G false S4)))) ∧ (b1 = false → ai_met (uC l D ρ τ) d mX3_takeName [.ref 2] S2 V (ai_qi V (fun x7 S8 => ((¬ x7 = 0 → ai_met (uC l D ρ τ) d mX3_take [.ref 2, .int 40] S8 V (ai_qz V (fun b10 S11 => (b10 = true → ai_met (uC l D ρ τ) d mX3_addUse [.ref 2, .int x7, .int 15, .int 14, .int 13] S11 V (ai_qv V (fun S13 => ai_met (uC l D ρ τ) d mX3_list [.ref 2, .int (p1 + 1)] S13 V (ai_qz V (fun b14 S15 => (b14 = true → G true S15) ∧ (b14 = false → G false S15)))))) ∧ (b10 = false → ai_met (uC l D ρ τ) d mX3_addUse [.ref 2, .int x7, .int 11, .int 12, .int 13] S11 V (ai_qv V (fun S17 => G true S17)))))) ∧ (x7 = 0 → ai_met (uC l D ρ τ) d mX3_number [.ref 2] S8 V (ai_qz V (fun b18 S19 => (b18 = true → G true S19) ∧ (b18 = false → G false S19))))))))))) :
    ai_met (uC l D ρ τ) (d + 1) mX3_factor [.ref 2, .int p1] S V (ai_qz V G) := by
  refine ai_mof plX3 (Nat.le_of_ble_eq_true rfl) (lv := [(0, .ref 2), (1, .int p1)]) rfl ?_
  refine ai_aload_n dX3_factor_0 rfl (j := 0) rfl ?_
  refine ai_bipush (v := 40) dX3_factor_1 (by decide) ?_
  refine ai_callVz (As := [.int 40]) (rest := []) dX3_factor_3 cvX3_73 rfl rfl rfl (Nat.le_of_ble_eq_true rfl) (ai_met.mz h (fun S2 h => ?_) (fun S2 h => ?_))
  · show ai_W _ _ _ _ _ _ _ _ _
    refine ai_if_eq (tgt := 34) dX3_factor_6 (by decide) ⟨fun hc => absurd hc (by decide), fun _ => ?_⟩
    refine ai_aload_n dX3_factor_9 rfl (j := 0) rfl ?_
    refine ai_iload_n dX3_factor_10 rfl (j := 1) rfl ?_
    refine ai_iconst (v := 1) dX3_factor_11 (by decide) ?_
    refine ai_iadd dX3_factor_12 ?_
    refine ai_callVz (As := [.int (p1 + 1)]) (rest := []) dX3_factor_13 cvX3_106 rfl rfl rfl (Nat.le_of_ble_eq_true rfl) (ai_met.mz h (fun S4 h => ?_) (fun S4 h => ?_))
    · show ai_W _ _ _ _ _ _ _ _ _
      refine ai_if_eq (tgt := 32) dX3_factor_16 (by decide) ⟨fun hc => absurd hc (by decide), fun _ => ?_⟩
      refine ai_aload_n dX3_factor_19 rfl (j := 0) rfl ?_
      refine ai_bipush (v := 41) dX3_factor_20 (by decide) ?_
      refine ai_callVz (As := [.int 41]) (rest := []) dX3_factor_22 cvX3_73 rfl rfl rfl (Nat.le_of_ble_eq_true rfl) (ai_met.mz h (fun S6 h => ?_) (fun S6 h => ?_))
      · show ai_W _ _ _ _ _ _ _ _ _
        refine ai_if_eq (tgt := 32) dX3_factor_25 (by decide) ⟨fun hc => absurd hc (by decide), fun _ => ?_⟩
        refine ai_iconst (v := 1) dX3_factor_28 (by decide) ?_
        refine ai_goto (tgt := 33) dX3_factor_29 (by decide) ?_
        exact ai_rett dX3_factor_33 rfl h
      · show ai_W _ _ _ _ _ _ _ _ _
        refine ai_if_eq (tgt := 32) dX3_factor_25 (by decide) ⟨fun _ => ?_, fun hc => absurd hc (by decide)⟩
        refine ai_iconst (v := 0) dX3_factor_32 (by decide) ?_
        exact ai_retf dX3_factor_33 rfl h
    · show ai_W _ _ _ _ _ _ _ _ _
      refine ai_if_eq (tgt := 32) dX3_factor_16 (by decide) ⟨fun _ => ?_, fun hc => absurd hc (by decide)⟩
      refine ai_iconst (v := 0) dX3_factor_32 (by decide) ?_
      exact ai_retf dX3_factor_33 rfl h
  · show ai_W _ _ _ _ _ _ _ _ _
    refine ai_if_eq (tgt := 34) dX3_factor_6 (by decide) ⟨fun _ => ?_, fun hc => absurd hc (by decide)⟩
    refine ai_aload_n dX3_factor_34 rfl (j := 0) rfl ?_
    refine ai_callVi (As := []) (rest := []) dX3_factor_35 cvX3_88 rfl rfl rfl (Nat.le_of_ble_eq_true rfl) (ai_met.mi h (fun x7 S8 h => ?_))
    refine ai_istore_n (lv' := [(2, .int x7), (0, .ref 2), (1, .int p1)]) dX3_factor_38 rfl (by decide) rfl ?_
    refine ai_iload_n dX3_factor_39 rfl (j := 0) rfl ?_
    refine ai_if_ne (tgt := 48) dX3_factor_40 (by decide) ⟨fun (hc9 : ¬ x7 = 0) => ?_, fun (hc9 : x7 = 0) => ?_⟩
    · have h := h.1 hc9
      refine ai_aload_n dX3_factor_48 rfl (j := 1) rfl ?_
      refine ai_bipush (v := 40) dX3_factor_49 (by decide) ?_
      refine ai_callVz (As := [.int 40]) (rest := []) dX3_factor_51 cvX3_73 rfl rfl rfl (Nat.le_of_ble_eq_true rfl) (ai_met.mz h (fun S11 h => ?_) (fun S11 h => ?_))
      · show ai_W _ _ _ _ _ _ _ _ _
        refine ai_if_ne (tgt := 70) dX3_factor_54 (by decide) ⟨fun _ => ?_, fun hc => absurd hc (by decide)⟩
        refine ai_aload_n dX3_factor_70 rfl (j := 1) rfl ?_
        refine ai_iload_n dX3_factor_71 rfl (j := 0) rfl ?_
        refine ai_bipush (v := 15) dX3_factor_72 (by decide) ?_
        refine ai_bipush (v := 14) dX3_factor_74 (by decide) ?_
        refine ai_bipush (v := 13) dX3_factor_76 (by decide) ?_
        refine ai_callVv (As := [.int x7, .int 15, .int 14, .int 13]) (rest := []) dX3_factor_78 cvX3_95 rfl rfl rfl (Nat.le_of_ble_eq_true rfl) (ai_met.mv h (fun S13 h => ?_))
        refine ai_aload_n dX3_factor_81 rfl (j := 1) rfl ?_
        refine ai_iload_n dX3_factor_82 rfl (j := 2) rfl ?_
        refine ai_iconst (v := 1) dX3_factor_83 (by decide) ?_
        refine ai_iadd dX3_factor_84 ?_
        refine ai_callVz (As := [.int (p1 + 1)]) (rest := []) dX3_factor_85 cvX3_99 rfl rfl rfl (Nat.le_of_ble_eq_true rfl) (ai_met.mz h (fun S15 h => ?_) (fun S15 h => ?_))
        · show ai_W _ _ _ _ _ _ _ _ _
          exact ai_rett dX3_factor_88 rfl h
        · show ai_W _ _ _ _ _ _ _ _ _
          exact ai_retf dX3_factor_88 rfl h
      · show ai_W _ _ _ _ _ _ _ _ _
        refine ai_if_ne (tgt := 70) dX3_factor_54 (by decide) ⟨fun hc => absurd hc (by decide), fun _ => ?_⟩
        refine ai_aload_n dX3_factor_57 rfl (j := 1) rfl ?_
        refine ai_iload_n dX3_factor_58 rfl (j := 0) rfl ?_
        refine ai_bipush (v := 11) dX3_factor_59 (by decide) ?_
        refine ai_bipush (v := 12) dX3_factor_61 (by decide) ?_
        refine ai_bipush (v := 13) dX3_factor_63 (by decide) ?_
        refine ai_callVv (As := [.int x7, .int 11, .int 12, .int 13]) (rest := []) dX3_factor_65 cvX3_95 rfl rfl rfl (Nat.le_of_ble_eq_true rfl) (ai_met.mv h (fun S17 h => ?_))
        refine ai_iconst (v := 1) dX3_factor_68 (by decide) ?_
        exact ai_rett dX3_factor_69 rfl h
    · have h := h.2 hc9
      refine ai_aload_n dX3_factor_43 rfl (j := 1) rfl ?_
      refine ai_callVz (As := []) (rest := []) dX3_factor_44 cvX3_167 rfl rfl rfl (Nat.le_of_ble_eq_true rfl) (ai_met.mz h (fun S19 h => ?_) (fun S19 h => ?_))
      · show ai_W _ _ _ _ _ _ _ _ _
        exact ai_rett dX3_factor_47 rfl h
      · show ai_W _ _ _ _ _ _ _ _ _
        exact ai_retf dX3_factor_47 rfl h
set_option maxHeartbeats 4000000 in
set_option maxRecDepth 100000 in
theorem vX3_variable {p1 : Int32} {S : ai_S} {V : ai_V} {G : Bool → ai_S → Prop} (hV3 : V 2 3 = .ref 26)
    (h : ai_met (uC l D ρ τ) d mX3_takeName [.ref 2] S V (ai_qi V (fun x1 S2 => ((x1 = 0 → G false S2) ∧ (¬ x1 = 0 → ai_met (uC l D ρ τ) d mX3_take [.ref 2, .int 59] S2 V (ai_qz V (fun b4 S5 => (b4 = true → (((S5 26 7) < 24 → ai_met (uC l D ρ τ) d mX3_declare [.ref 2, .int x1, .int 0, .int (S5 3 7), .int p1] (ai_up S5 26 7 ((S5 26 7) + 1)) V (ai_qv V (fun S8 => G true (ai_up S8 3 7 ((S8 3 7) + 1))))) ∧ (¬ (S5 26 7) < 24 → G false S5))) ∧ (b4 = false → G false S5)))))))) :
    ai_met (uC l D ρ τ) (d + 1) mX3_variable [.ref 2, .int p1] S V (ai_qz V G) := by
  refine ai_mof plX3 (Nat.le_of_ble_eq_true rfl) (lv := [(0, .ref 2), (1, .int p1)]) rfl ?_
  refine ai_aload_n dX3_variable_0 rfl (j := 0) rfl ?_
  refine ai_callVi (As := []) (rest := []) dX3_variable_1 cvX3_88 rfl rfl rfl (Nat.le_of_ble_eq_true rfl) (ai_met.mi h (fun x1 S2 h => ?_))
  refine ai_istore_n (lv' := [(2, .int x1), (0, .ref 2), (1, .int p1)]) dX3_variable_4 rfl (by decide) rfl ?_
  refine ai_iload_n dX3_variable_5 rfl (j := 0) rfl ?_
  refine ai_if_eq (tgt := 30) dX3_variable_6 (by decide) ⟨fun (hc3 : x1 = 0) => ?_, fun (hc3 : ¬ x1 = 0) => ?_⟩
  · have h := h.1 hc3
    refine ai_iconst (v := 0) dX3_variable_30 (by decide) ?_
    exact ai_retf dX3_variable_31 rfl h
  · have h := h.2 hc3
    refine ai_aload_n dX3_variable_9 rfl (j := 1) rfl ?_
    refine ai_bipush (v := 59) dX3_variable_10 (by decide) ?_
    refine ai_callVz (As := [.int 59]) (rest := []) dX3_variable_12 cvX3_73 rfl rfl rfl (Nat.le_of_ble_eq_true rfl) (ai_met.mz h (fun S5 h => ?_) (fun S5 h => ?_))
    · show ai_W _ _ _ _ _ _ _ _ _
      refine ai_if_eq (tgt := 30) dX3_variable_15 (by decide) ⟨fun hc => absurd hc (by decide), fun _ => ?_⟩
      refine ai_aload_n dX3_variable_18 rfl (j := 1) rfl ?_
      refine ai_getV dX3_variable_19 fdX3_18 rfl rfl ⟨hV3, ?_⟩
      refine ai_getI dX3_variable_22 fdX3_134 rfl rfl ?_
      refine ai_bipush (v := 24) dX3_variable_25 (by decide) ?_
      refine ai_icmp_lt (tgt := 32) dX3_variable_27 (by decide) ⟨fun (hc6 : (S5 26 7) < 24) => ?_, fun (hc6 : ¬ (S5 26 7) < 24) => ?_⟩
      · have h := h.1 hc6
        refine ai_aload_n dX3_variable_32 rfl (j := 1) rfl ?_
        refine ai_getV dX3_variable_33 fdX3_18 rfl rfl ⟨hV3, ?_⟩
        refine ai_dup dX3_variable_36 rfl ?_
        refine ai_getI dX3_variable_37 fdX3_134 rfl rfl ?_
        refine ai_iconst (v := 1) dX3_variable_40 (by decide) ?_
        refine ai_iadd dX3_variable_41 ?_
        refine ai_putI dX3_variable_42 fdX3_134 pdX2_7 rfl rfl rfl rfl ?_
        refine ai_aload_n dX3_variable_45 rfl (j := 1) rfl ?_
        refine ai_iload_n dX3_variable_46 rfl (j := 0) rfl ?_
        refine ai_iconst (v := 0) dX3_variable_47 (by decide) ?_
        refine ai_aload_n dX3_variable_48 rfl (j := 1) rfl ?_
        refine ai_getR dX3_variable_49 fdX3_12 rfl rfl ?_
        refine ai_getIx (S5 3 7) dX3_variable_52 fdX3_119 rfl rfl rfl ?_
        refine ai_iload_n dX3_variable_55 rfl (j := 2) rfl ?_
        refine ai_callVv (As := [.int x1, .int 0, .int (S5 3 7), .int p1]) (rest := []) dX3_variable_56 cvX3_137 rfl rfl rfl (Nat.le_of_ble_eq_true rfl) (ai_met.mv h (fun S8 h => ?_))
        refine ai_aload_n dX3_variable_59 rfl (j := 1) rfl ?_
        refine ai_getR dX3_variable_60 fdX3_12 rfl rfl ?_
        refine ai_dup dX3_variable_63 rfl ?_
        refine ai_getI dX3_variable_64 fdX3_119 rfl rfl ?_
        refine ai_iconst (v := 1) dX3_variable_67 (by decide) ?_
        refine ai_iadd dX3_variable_68 ?_
        refine ai_putI dX3_variable_69 fdX3_119 pdX4_7 rfl rfl rfl rfl ?_
        refine ai_iconst (v := 1) dX3_variable_72 (by decide) ?_
        exact ai_rett dX3_variable_73 rfl h
      · have h := h.2 hc6
        refine ai_iconst (v := 0) dX3_variable_30 (by decide) ?_
        exact ai_retf dX3_variable_31 rfl h
    · show ai_W _ _ _ _ _ _ _ _ _
      refine ai_if_eq (tgt := 30) dX3_variable_15 (by decide) ⟨fun _ => ?_, fun hc => absurd hc (by decide)⟩
      refine ai_iconst (v := 0) dX3_variable_30 (by decide) ?_
      exact ai_retf dX3_variable_31 rfl h
set_option maxHeartbeats 4000000 in
set_option maxRecDepth 100000 in
theorem vX3_procedure {p1 : Int32} {p2 : Int32} {S : ai_S} {V : ai_V} {G : Bool → ai_S → Prop} (hV3 : V 2 3 = .ref 26)
    (h : ai_met (uC l D ρ τ) d mX3_takeName [.ref 2] S V (ai_qi V (fun x1 S2 => ((x1 = 0 → G false S2) ∧ (¬ x1 = 0 → ai_met (uC l D ρ τ) d mX3_take [.ref 2, .int 40] S2 V (ai_qz V (fun b4 S5 => (b4 = true → (((S5 26 6) < 16 → ai_met (uC l D ρ τ) d mX2_add [.ref 26, .int 3, .int 0, .int 0] S5 V (ai_qi V (fun x7 S8 => ai_met (uC l D ρ τ) d mX2_addProcedure [.ref 26] S8 V (ai_qi V (fun x9 S10 => ai_met (uC l D ρ τ) d mX3_declare [.ref 2, .int x1, .int 2, .int x9, .int p2] S10 V (ai_qv V (fun S12 => (¬ ((S12 3 5) + 1) < 0 ∧ (¬ 10 < ((S12 3 5) + 1) ∧ (vp_in ((S12 3 5) + 1) 11 ∧ ai_met (uC l D ρ τ) d mX3_formals [.ref 2, .int x9] (ai_up (ai_up (ai_up S12 3 5 ((S12 3 5) + 1)) 8 (((S12 3 5) + 1)).toNatClampNeg x9) 3 7 7) V (ai_qz V (fun b16 S17 => (b16 = true → ai_met (uC l D ρ τ) d mX3_statement [.ref 2, .int (p1 + 1)] S17 V (ai_qz V (fun b18 S19 => (b18 = true → ai_met (uC l D ρ τ) d mX2_add [.ref 26, .int 17, .int 0, .int 0] (ai_up (ai_up (ai_up S19 3 5 ((S19 3 5) - 1)) 3 7 (S12 3 7)) 3 4 (S12 3 4)) V (ai_qi V (fun x20 S21 => ai_met (uC l D ρ τ) d mX2_setFirst [.ref 26, .int x7, .int (S21 26 3)] S21 V (ai_qv V (fun S23 => G true S23))))) ∧ (b18 = false → G false S19)))) ∧ (b16 = false → G false S17))))))))))))) ∧ (¬ (S5 26 6) < 16 → G false S5))) ∧ (b4 = false → G false S5)))))))) :
    ai_met (uC l D ρ τ) (d + 1) mX3_procedure [.ref 2, .int p1, .int p2] S V (ai_qz V G) := by
  refine ai_mof plX3 (Nat.le_of_ble_eq_true rfl) (lv := [(0, .ref 2), (1, .int p1), (2, .int p2)]) rfl ?_
  refine ai_aload_n dX3_procedure_0 rfl (j := 0) rfl ?_
  refine ai_callVi (As := []) (rest := []) dX3_procedure_1 cvX3_88 rfl rfl rfl (Nat.le_of_ble_eq_true rfl) (ai_met.mi h (fun x1 S2 h => ?_))
  refine ai_istore_n (lv' := [(3, .int x1), (0, .ref 2), (1, .int p1), (2, .int p2)]) dX3_procedure_4 rfl (by decide) rfl ?_
  refine ai_iload_n dX3_procedure_5 rfl (j := 0) rfl ?_
  refine ai_if_eq (tgt := 30) dX3_procedure_6 (by decide) ⟨fun (hc3 : x1 = 0) => ?_, fun (hc3 : ¬ x1 = 0) => ?_⟩
  · have h := h.1 hc3
    refine ai_iconst (v := 0) dX3_procedure_30 (by decide) ?_
    exact ai_retf dX3_procedure_31 rfl h
  · have h := h.2 hc3
    refine ai_aload_n dX3_procedure_9 rfl (j := 1) rfl ?_
    refine ai_bipush (v := 40) dX3_procedure_10 (by decide) ?_
    refine ai_callVz (As := [.int 40]) (rest := []) dX3_procedure_12 cvX3_73 rfl rfl rfl (Nat.le_of_ble_eq_true rfl) (ai_met.mz h (fun S5 h => ?_) (fun S5 h => ?_))
    · show ai_W _ _ _ _ _ _ _ _ _
      refine ai_if_eq (tgt := 30) dX3_procedure_15 (by decide) ⟨fun hc => absurd hc (by decide), fun _ => ?_⟩
      refine ai_aload_n dX3_procedure_18 rfl (j := 1) rfl ?_
      refine ai_getV dX3_procedure_19 fdX3_18 rfl rfl ⟨hV3, ?_⟩
      refine ai_getI dX3_procedure_22 fdX3_140 rfl rfl ?_
      refine ai_bipush (v := 16) dX3_procedure_25 (by decide) ?_
      refine ai_icmp_lt (tgt := 32) dX3_procedure_27 (by decide) ⟨fun (hc6 : (S5 26 6) < 16) => ?_, fun (hc6 : ¬ (S5 26 6) < 16) => ?_⟩
      · have h := h.1 hc6
        refine ai_aload_n dX3_procedure_32 rfl (j := 1) rfl ?_
        refine ai_getV dX3_procedure_33 fdX3_18 rfl rfl ⟨hV3, ?_⟩
        refine ai_iconst (v := 3) dX3_procedure_36 (by decide) ?_
        refine ai_iconst (v := 0) dX3_procedure_37 (by decide) ?_
        refine ai_iconst (v := 0) dX3_procedure_38 (by decide) ?_
        refine ai_callVi (As := [.int 3, .int 0, .int 0]) (rest := []) dX3_procedure_39 cvX3_57 rfl rfl rfl (Nat.le_of_ble_eq_true rfl) (ai_met.mi h (fun x7 S8 h => ?_))
        refine ai_istore (lv' := [(4, .int x7), (3, .int x1), (0, .ref 2), (1, .int p1), (2, .int p2)]) dX3_procedure_42 (by decide) rfl ?_
        refine ai_aload_n dX3_procedure_44 rfl (j := 2) rfl ?_
        refine ai_getV dX3_procedure_45 fdX3_18 rfl rfl ⟨hV3, ?_⟩
        refine ai_callVi (As := []) (rest := []) dX3_procedure_48 cvX3_143 rfl rfl rfl (Nat.le_of_ble_eq_true rfl) (ai_met.mi h (fun x9 S10 h => ?_))
        refine ai_istore (lv' := [(5, .int x9), (4, .int x7), (3, .int x1), (0, .ref 2), (1, .int p1), (2, .int p2)]) dX3_procedure_51 (by decide) rfl ?_
        refine ai_aload_n dX3_procedure_53 rfl (j := 3) rfl ?_
        refine ai_iload_n dX3_procedure_54 rfl (j := 2) rfl ?_
        refine ai_iconst (v := 2) dX3_procedure_55 (by decide) ?_
        refine ai_iload dX3_procedure_56 (j := 0) rfl ?_
        refine ai_iload_n dX3_procedure_58 rfl (j := 5) rfl ?_
        refine ai_callVv (As := [.int x1, .int 2, .int x9, .int p2]) (rest := []) dX3_procedure_59 cvX3_137 rfl rfl rfl (Nat.le_of_ble_eq_true rfl) (ai_met.mv h (fun S12 h => ?_))
        refine ai_aload_n dX3_procedure_62 rfl (j := 3) rfl ?_
        refine ai_getR dX3_procedure_63 fdX3_12 rfl rfl ?_
        refine ai_getI dX3_procedure_66 fdX3_116 rfl rfl ?_
        refine ai_istore (lv' := [(6, .int (S12 3 4)), (5, .int x9), (4, .int x7), (3, .int x1), (0, .ref 2), (1, .int p1), (2, .int p2)]) dX3_procedure_69 (by decide) rfl ?_
        refine ai_aload_n dX3_procedure_71 rfl (j := 4) rfl ?_
        refine ai_getR dX3_procedure_72 fdX3_12 rfl rfl ?_
        refine ai_getI dX3_procedure_75 fdX3_119 rfl rfl ?_
        refine ai_istore (lv' := [(7, .int (S12 3 7)), (6, .int (S12 3 4)), (5, .int x9), (4, .int x7), (3, .int x1), (0, .ref 2), (1, .int p1), (2, .int p2)]) dX3_procedure_78 (by decide) rfl ?_
        refine ai_aload_n dX3_procedure_80 rfl (j := 5) rfl ?_
        refine ai_getR dX3_procedure_81 fdX3_12 rfl rfl ?_
        refine ai_iload dX3_procedure_84 (j := 2) rfl ?_
        refine ai_callVv (As := [.int x9]) (rest := []) dX3_procedure_86 cvX3_146 rfl rfl rfl (Nat.le_of_ble_eq_true rfl) (vX4_enterBody ?_)
        have hr13 : ¬ ((S12 3 5) + 1) < 0 := h.1
        have h := h.2
        refine ⟨hr13, ?_⟩
        have hr14 : ¬ 10 < ((S12 3 5) + 1) := h.1
        have h := h.2
        refine ⟨hr14, ?_⟩
        refine ⟨h.1, ?_⟩
        have hi15 := h.1
        have h := h.2
        show ai_W _ _ _ _ _ _ (ai_up (ai_up (ai_up S12 3 5 ((S12 3 5) + 1)) 8 (((S12 3 5) + 1)).toNatClampNeg x9) 3 7 7) _ _
        refine ai_aload_n dX3_procedure_89 rfl (j := 5) rfl ?_
        refine ai_iload dX3_procedure_90 (j := 2) rfl ?_
        refine ai_callVz (As := [.int x9]) (rest := []) dX3_procedure_92 cvX3_149 rfl rfl rfl (Nat.le_of_ble_eq_true rfl) (ai_met.mz h (fun S17 h => ?_) (fun S17 h => ?_))
        · show ai_W _ _ _ _ _ _ _ _ _
          refine ai_if_eq (tgt := 108) dX3_procedure_95 (by decide) ⟨fun hc => absurd hc (by decide), fun _ => ?_⟩
          refine ai_aload_n dX3_procedure_98 rfl (j := 5) rfl ?_
          refine ai_iload_n dX3_procedure_99 rfl (j := 6) rfl ?_
          refine ai_iconst (v := 1) dX3_procedure_100 (by decide) ?_
          refine ai_iadd dX3_procedure_101 ?_
          refine ai_callVz (As := [.int (p1 + 1)]) (rest := []) dX3_procedure_102 cvX3_49 rfl rfl rfl (Nat.le_of_ble_eq_true rfl) (ai_met.mz h (fun S19 h => ?_) (fun S19 h => ?_))
          · show ai_W _ _ _ _ _ _ _ _ _
            refine ai_if_ne (tgt := 110) dX3_procedure_105 (by decide) ⟨fun _ => ?_, fun hc => absurd hc (by decide)⟩
            refine ai_aload_n dX3_procedure_110 rfl (j := 5) rfl ?_
            refine ai_getR dX3_procedure_111 fdX3_12 rfl rfl ?_
            refine ai_dup dX3_procedure_114 rfl ?_
            refine ai_getI dX3_procedure_115 fdX3_152 rfl rfl ?_
            refine ai_iconst (v := 1) dX3_procedure_118 (by decide) ?_
            refine ai_isub dX3_procedure_119 ?_
            refine ai_putI dX3_procedure_120 fdX3_152 pdX4_5 rfl rfl rfl rfl ?_
            refine ai_aload_n dX3_procedure_123 rfl (j := 5) rfl ?_
            refine ai_getR dX3_procedure_124 fdX3_12 rfl rfl ?_
            refine ai_iload dX3_procedure_127 (j := 0) rfl ?_
            refine ai_putI dX3_procedure_129 fdX3_119 pdX4_7 rfl rfl rfl rfl ?_
            refine ai_aload_n dX3_procedure_132 rfl (j := 5) rfl ?_
            refine ai_getR dX3_procedure_133 fdX3_12 rfl rfl ?_
            refine ai_iload dX3_procedure_136 (j := 1) rfl ?_
            refine ai_putI dX3_procedure_138 fdX3_116 pdX4_4 rfl rfl rfl rfl ?_
            refine ai_aload_n dX3_procedure_141 rfl (j := 5) rfl ?_
            refine ai_getV dX3_procedure_142 fdX3_18 rfl rfl ⟨hV3, ?_⟩
            refine ai_bipush (v := 17) dX3_procedure_145 (by decide) ?_
            refine ai_iconst (v := 0) dX3_procedure_147 (by decide) ?_
            refine ai_iconst (v := 0) dX3_procedure_148 (by decide) ?_
            refine ai_callVi (As := [.int 17, .int 0, .int 0]) (rest := []) dX3_procedure_149 cvX3_57 rfl rfl rfl (Nat.le_of_ble_eq_true rfl) (ai_met.mi h (fun x20 S21 h => ?_))
            refine ai_pop dX3_procedure_152 rfl ?_
            refine ai_aload_n dX3_procedure_153 rfl (j := 5) rfl ?_
            refine ai_getV dX3_procedure_154 fdX3_18 rfl rfl ⟨hV3, ?_⟩
            refine ai_iload dX3_procedure_157 (j := 3) rfl ?_
            refine ai_aload_n dX3_procedure_159 rfl (j := 5) rfl ?_
            refine ai_getV dX3_procedure_160 fdX3_18 rfl rfl ⟨hV3, ?_⟩
            refine ai_getI dX3_procedure_163 fdX3_109 rfl rfl ?_
            refine ai_callVv (As := [.int x7, .int (S21 26 3)]) (rest := []) dX3_procedure_166 cvX3_112 rfl rfl rfl (Nat.le_of_ble_eq_true rfl) (ai_met.mv h (fun S23 h => ?_))
            refine ai_iconst (v := 1) dX3_procedure_169 (by decide) ?_
            exact ai_rett dX3_procedure_170 rfl h
          · show ai_W _ _ _ _ _ _ _ _ _
            refine ai_if_ne (tgt := 110) dX3_procedure_105 (by decide) ⟨fun hc => absurd hc (by decide), fun _ => ?_⟩
            refine ai_iconst (v := 0) dX3_procedure_108 (by decide) ?_
            exact ai_retf dX3_procedure_109 rfl h
        · show ai_W _ _ _ _ _ _ _ _ _
          refine ai_if_eq (tgt := 108) dX3_procedure_95 (by decide) ⟨fun _ => ?_, fun hc => absurd hc (by decide)⟩
          refine ai_iconst (v := 0) dX3_procedure_108 (by decide) ?_
          exact ai_retf dX3_procedure_109 rfl h
      · have h := h.2 hc6
        refine ai_iconst (v := 0) dX3_procedure_30 (by decide) ?_
        exact ai_retf dX3_procedure_31 rfl h
    · show ai_W _ _ _ _ _ _ _ _ _
      refine ai_if_eq (tgt := 30) dX3_procedure_15 (by decide) ⟨fun _ => ?_, fun hc => absurd hc (by decide)⟩
      refine ai_iconst (v := 0) dX3_procedure_30 (by decide) ?_
      exact ai_retf dX3_procedure_31 rfl h
set_option maxHeartbeats 4000000 in
set_option maxRecDepth 100000 in
theorem vX3_number {S : ai_S} {V : ai_V} {G : Bool → ai_S → Prop} (hV0 : V 2 0 = .ref 1) (hV3 : V 2 3 = .ref 26)
    (h : ai_met (uC l D ρ τ) d mX3_look [.ref 2] S V (ai_qi V (fun x1 S2 => ai_W (uC l D ρ τ) (d + 1) mX3_number 9 [(0, .ref 2), (1, .int 0), (2, .int 0), (3, .int x1)] [] S2 V (ai_qz V G)))) :
    ai_met (uC l D ρ τ) (d + 1) mX3_number [.ref 2] S V (ai_qz V G) := by
  refine ai_mof plX3 (Nat.le_of_ble_eq_true rfl) (lv := [(0, .ref 2)]) rfl ?_
  refine ai_iconst (v := 0) dX3_number_0 (by decide) ?_
  refine ai_istore_n (lv' := [(1, .int 0), (0, .ref 2)]) dX3_number_1 rfl (by decide) rfl ?_
  refine ai_iconst (v := 0) dX3_number_2 (by decide) ?_
  refine ai_istore_n (lv' := [(2, .int 0), (1, .int 0), (0, .ref 2)]) dX3_number_3 rfl (by decide) rfl ?_
  refine ai_aload_n dX3_number_4 rfl (j := 2) rfl ?_
  refine ai_callVi (As := []) (rest := []) dX3_number_5 cvX3_53 rfl rfl rfl (Nat.le_of_ble_eq_true rfl) (ai_met.mi h (fun x1 S2 h => ?_))
  refine ai_istore_n (lv' := [(3, .int x1), (2, .int 0), (1, .int 0), (0, .ref 2)]) dX3_number_8 rfl (by decide) rfl ?_
  refine ai_locj (lv' := [(0, .ref 2), (1, .int 0), (2, .int 0), (3, .int x1)]) [3, 2, 1, 0] rfl ?_
  exact h
set_option maxHeartbeats 4000000 in
set_option maxRecDepth 100000 in
theorem vX3_number_9 {dg : Int32} {vl : Int32} {sy : Int32} {S : ai_S} {V : ai_V} {G : Bool → ai_S → Prop} (hV0 : V 2 0 = .ref 1) (hZ : ¬ (S 2 1) ≤ ((S 2 2) + 1) → ai_zS ρ 1 (((S 2 2) + 1)).toNatClampNeg = S 1 (((S 2 2) + 1)).toNatClampNeg) (hV3 : V 2 3 = .ref 26)
    (h : ((9 ≤ dg → ai_met (uC l D ρ τ) d mX2_add [.ref 26, .int 10, .int vl, .int 0] S V (ai_qi V (fun x2 S3 => ((dg ≤ 0 → G false S3) ∧ (¬ dg ≤ 0 → G true S3))))) ∧ (¬ 9 ≤ dg → ((sy < 48 → ai_met (uC l D ρ τ) d mX2_add [.ref 26, .int 10, .int vl, .int 0] S V (ai_qi V (fun x6 S7 => ((dg ≤ 0 → G false S7) ∧ (¬ dg ≤ 0 → G true S7))))) ∧ (¬ sy < 48 → ((57 < sy → ai_met (uC l D ρ τ) d mX2_add [.ref 26, .int 10, .int vl, .int 0] S V (ai_qi V (fun x10 S11 => ((dg ≤ 0 → G false S11) ∧ (¬ dg ≤ 0 → G true S11))))) ∧ (¬ 57 < sy → (((S 2 1) ≤ ((S 2 2) + 1) → ai_W (uC l D ρ τ) (d + 1) mX3_number 9 [(0, .ref 2), (1, .int (dg + 1)), (2, .int ((vl * 10) + (sy - 48))), (3, .int 0)] [] (ai_up S 2 2 ((S 2 2) + 1)) V (ai_qz V G)) ∧ (¬ (S 2 1) ≤ ((S 2 2) + 1) → (vp_in ((S 2 2) + 1) 320 ∧ ai_W (uC l D ρ τ) (d + 1) mX3_number 9 [(0, .ref 2), (1, .int (dg + 1)), (2, .int ((vl * 10) + (sy - 48))), (3, .int (S 1 (((S 2 2) + 1)).toNatClampNeg))] [] (ai_up S 2 2 ((S 2 2) + 1)) V (ai_qz V G))))))))))) :
    ai_W (uC l D ρ τ) (d + 1) mX3_number 9 [(0, .ref 2), (1, .int dg), (2, .int vl), (3, .int sy)] [] S V (ai_qz V G) := by
  refine ai_iload_n dX3_number_9 rfl (j := 1) rfl ?_
  refine ai_bipush (v := 9) dX3_number_10 (by decide) ?_
  refine ai_icmp_ge (tgt := 78) dX3_number_12 (by decide) ⟨fun (hc1 : 9 ≤ dg) => ?_, fun (hc1 : ¬ 9 ≤ dg) => ?_⟩
  · have h := h.1 hc1
    refine ai_aload_n dX3_number_78 rfl (j := 0) rfl ?_
    refine ai_getV dX3_number_79 fdX3_18 rfl rfl ⟨hV3, ?_⟩
    refine ai_bipush (v := 10) dX3_number_82 (by decide) ?_
    refine ai_iload_n dX3_number_84 rfl (j := 2) rfl ?_
    refine ai_iconst (v := 0) dX3_number_85 (by decide) ?_
    refine ai_callVi (As := [.int 10, .int vl, .int 0]) (rest := []) dX3_number_86 cvX3_57 rfl rfl rfl (Nat.le_of_ble_eq_true rfl) (ai_met.mi h (fun x2 S3 h => ?_))
    refine ai_pop dX3_number_89 rfl ?_
    refine ai_iload_n dX3_number_90 rfl (j := 1) rfl ?_
    refine ai_if_le (tgt := 98) dX3_number_91 (by decide) ⟨fun (hc4 : dg ≤ 0) => ?_, fun (hc4 : ¬ dg ≤ 0) => ?_⟩
    · have h := h.1 hc4
      refine ai_iconst (v := 0) dX3_number_98 (by decide) ?_
      exact ai_retf dX3_number_99 rfl h
    · have h := h.2 hc4
      refine ai_iconst (v := 1) dX3_number_94 (by decide) ?_
      refine ai_goto (tgt := 99) dX3_number_95 (by decide) ?_
      exact ai_rett dX3_number_99 rfl h
  · have h := h.2 hc1
    refine ai_iload_n dX3_number_15 rfl (j := 3) rfl ?_
    refine ai_bipush (v := 48) dX3_number_16 (by decide) ?_
    refine ai_icmp_lt (tgt := 78) dX3_number_18 (by decide) ⟨fun (hc5 : sy < 48) => ?_, fun (hc5 : ¬ sy < 48) => ?_⟩
    · have h := h.1 hc5
      refine ai_aload_n dX3_number_78 rfl (j := 0) rfl ?_
      refine ai_getV dX3_number_79 fdX3_18 rfl rfl ⟨hV3, ?_⟩
      refine ai_bipush (v := 10) dX3_number_82 (by decide) ?_
      refine ai_iload_n dX3_number_84 rfl (j := 2) rfl ?_
      refine ai_iconst (v := 0) dX3_number_85 (by decide) ?_
      refine ai_callVi (As := [.int 10, .int vl, .int 0]) (rest := []) dX3_number_86 cvX3_57 rfl rfl rfl (Nat.le_of_ble_eq_true rfl) (ai_met.mi h (fun x6 S7 h => ?_))
      refine ai_pop dX3_number_89 rfl ?_
      refine ai_iload_n dX3_number_90 rfl (j := 1) rfl ?_
      refine ai_if_le (tgt := 98) dX3_number_91 (by decide) ⟨fun (hc8 : dg ≤ 0) => ?_, fun (hc8 : ¬ dg ≤ 0) => ?_⟩
      · have h := h.1 hc8
        refine ai_iconst (v := 0) dX3_number_98 (by decide) ?_
        exact ai_retf dX3_number_99 rfl h
      · have h := h.2 hc8
        refine ai_iconst (v := 1) dX3_number_94 (by decide) ?_
        refine ai_goto (tgt := 99) dX3_number_95 (by decide) ?_
        exact ai_rett dX3_number_99 rfl h
    · have h := h.2 hc5
      refine ai_iload_n dX3_number_21 rfl (j := 3) rfl ?_
      refine ai_bipush (v := 57) dX3_number_22 (by decide) ?_
      refine ai_icmp_gt (tgt := 78) dX3_number_24 (by decide) ⟨fun (hc9 : 57 < sy) => ?_, fun (hc9 : ¬ 57 < sy) => ?_⟩
      · have h := h.1 hc9
        refine ai_aload_n dX3_number_78 rfl (j := 0) rfl ?_
        refine ai_getV dX3_number_79 fdX3_18 rfl rfl ⟨hV3, ?_⟩
        refine ai_bipush (v := 10) dX3_number_82 (by decide) ?_
        refine ai_iload_n dX3_number_84 rfl (j := 2) rfl ?_
        refine ai_iconst (v := 0) dX3_number_85 (by decide) ?_
        refine ai_callVi (As := [.int 10, .int vl, .int 0]) (rest := []) dX3_number_86 cvX3_57 rfl rfl rfl (Nat.le_of_ble_eq_true rfl) (ai_met.mi h (fun x10 S11 h => ?_))
        refine ai_pop dX3_number_89 rfl ?_
        refine ai_iload_n dX3_number_90 rfl (j := 1) rfl ?_
        refine ai_if_le (tgt := 98) dX3_number_91 (by decide) ⟨fun (hc12 : dg ≤ 0) => ?_, fun (hc12 : ¬ dg ≤ 0) => ?_⟩
        · have h := h.1 hc12
          refine ai_iconst (v := 0) dX3_number_98 (by decide) ?_
          exact ai_retf dX3_number_99 rfl h
        · have h := h.2 hc12
          refine ai_iconst (v := 1) dX3_number_94 (by decide) ?_
          refine ai_goto (tgt := 99) dX3_number_95 (by decide) ?_
          exact ai_rett dX3_number_99 rfl h
      · have h := h.2 hc9
        refine ai_iload_n dX3_number_27 rfl (j := 2) rfl ?_
        refine ai_bipush (v := 10) dX3_number_28 (by decide) ?_
        refine ai_imul dX3_number_30 ?_
        refine ai_iload_n dX3_number_31 rfl (j := 3) rfl ?_
        refine ai_bipush (v := 48) dX3_number_32 (by decide) ?_
        refine ai_isub dX3_number_34 ?_
        refine ai_iadd dX3_number_35 ?_
        refine ai_istore_n (lv' := [(2, .int ((vl * 10) + (sy - 48))), (0, .ref 2), (1, .int dg), (3, .int sy)]) dX3_number_36 rfl (by decide) rfl ?_
        refine ai_iinc (j := 2) (v := (dg + 1)) (lv' := [(1, .int (dg + 1)), (2, .int ((vl * 10) + (sy - 48))), (0, .ref 2), (3, .int sy)]) dX3_number_37 rfl (by first | rfl | decide) (by decide) rfl ?_
        refine ai_aload_n dX3_number_40 rfl (j := 2) rfl ?_
        refine ai_dup dX3_number_41 rfl ?_
        refine ai_getI dX3_number_42 fdX3_42 rfl rfl ?_
        refine ai_iconst (v := 1) dX3_number_45 (by decide) ?_
        refine ai_iadd dX3_number_46 ?_
        refine ai_putI dX3_number_47 fdX3_42 pdX3_2 rfl rfl rfl rfl ?_
        refine ai_aload_n dX3_number_50 rfl (j := 2) rfl ?_
        refine ai_getIx ((S 2 2) + 1) dX3_number_51 fdX3_42 rfl rfl rfl ?_
        refine ai_aload_n dX3_number_54 rfl (j := 2) rfl ?_
        refine ai_getIx (S 2 1) dX3_number_55 fdX3_38 rfl rfl rfl ?_
        refine ai_icmp_ge (tgt := 73) dX3_number_58 (by decide) ⟨fun (hc13 : (S 2 1) ≤ ((S 2 2) + 1)) => ?_, fun (hc13 : ¬ (S 2 1) ≤ ((S 2 2) + 1)) => ?_⟩
        · have h := h.1 hc13
          refine ai_iconst (v := 0) dX3_number_73 (by decide) ?_
          refine ai_istore_n (lv' := [(3, .int 0), (1, .int (dg + 1)), (2, .int ((vl * 10) + (sy - 48))), (0, .ref 2)]) dX3_number_74 rfl (by decide) rfl ?_
          refine ai_goto (tgt := 9) dX3_number_75 (by decide) ?_
          refine ai_locj (lv' := [(0, .ref 2), (1, .int (dg + 1)), (2, .int ((vl * 10) + (sy - 48))), (3, .int 0)]) [3, 1, 2, 0] rfl ?_
          exact h
        · have h := h.2 hc13
          refine ai_aload_n dX3_number_61 rfl (j := 2) rfl ?_
          refine ai_getV dX3_number_62 fdX3_22 rfl rfl ⟨hV0, ?_⟩
          refine ai_aload_n dX3_number_65 rfl (j := 2) rfl ?_
          refine ai_getIx ((S 2 2) + 1) dX3_number_66 fdX3_42 rfl rfl rfl ?_
          refine ai_cald_z (x := S 1 (((S 2 2) + 1)).toNatClampNeg) dX3_number_69 rfl (hZ hc13) ⟨h.1, ?_⟩
          have hi14 := h.1
          have h := h.2
          refine ai_goto (tgt := 74) dX3_number_70 (by decide) ?_
          refine ai_istore_n (lv' := [(3, .int (S 1 (((S 2 2) + 1)).toNatClampNeg)), (1, .int (dg + 1)), (2, .int ((vl * 10) + (sy - 48))), (0, .ref 2)]) dX3_number_74 rfl (by decide) rfl ?_
          refine ai_goto (tgt := 9) dX3_number_75 (by decide) ?_
          refine ai_locj (lv' := [(0, .ref 2), (1, .int (dg + 1)), (2, .int ((vl * 10) + (sy - 48))), (3, .int (S 1 (((S 2 2) + 1)).toNatClampNeg))]) [3, 1, 2, 0] rfl ?_
          exact h
set_option maxHeartbeats 4000000 in
set_option maxRecDepth 100000 in
theorem vX3_sum {p1 : Int32} {S : ai_S} {V : ai_V} {G : Bool → ai_S → Prop} (hV3 : V 2 3 = .ref 26)
    (h : ai_met (uC l D ρ τ) d mX3_product [.ref 2, .int p1] S V (ai_qz V (fun b1 S2 => (b1 = true → ai_W (uC l D ρ τ) (d + 1) mX3_sum 12 [(0, .ref 2), (1, .int p1), (2, .int 0)] [] S2 V (ai_qz V G)) ∧ (b1 = false → G false S2)))) :
    ai_met (uC l D ρ τ) (d + 1) mX3_sum [.ref 2, .int p1] S V (ai_qz V G) := by
  refine ai_mof plX3 (Nat.le_of_ble_eq_true rfl) (lv := [(0, .ref 2), (1, .int p1)]) rfl ?_
  refine ai_aload_n dX3_sum_0 rfl (j := 0) rfl ?_
  refine ai_iload_n dX3_sum_1 rfl (j := 1) rfl ?_
  refine ai_callVz (As := [.int p1]) (rest := []) dX3_sum_2 cvX3_161 rfl rfl rfl (Nat.le_of_ble_eq_true rfl) (ai_met.mz h (fun S2 h => ?_) (fun S2 h => ?_))
  · show ai_W _ _ _ _ _ _ _ _ _
    refine ai_if_ne (tgt := 10) dX3_sum_5 (by decide) ⟨fun _ => ?_, fun hc => absurd hc (by decide)⟩
    refine ai_iconst (v := 0) dX3_sum_10 (by decide) ?_
    refine ai_istore_n (lv' := [(2, .int 0), (0, .ref 2), (1, .int p1)]) dX3_sum_11 rfl (by decide) rfl ?_
    refine ai_locj (lv' := [(0, .ref 2), (1, .int p1), (2, .int 0)]) [1, 2, 0] rfl ?_
    exact h
  · show ai_W _ _ _ _ _ _ _ _ _
    refine ai_if_ne (tgt := 10) dX3_sum_5 (by decide) ⟨fun hc => absurd hc (by decide), fun _ => ?_⟩
    refine ai_iconst (v := 0) dX3_sum_8 (by decide) ?_
    exact ai_retf dX3_sum_9 rfl h
set_option maxHeartbeats 4000000 in
set_option maxRecDepth 100000 in
theorem vX3_sum_12 {p1 : Int32} {j : Int32} {S : ai_S} {V : ai_V} {G : Bool → ai_S → Prop} (hV3 : V 2 3 = .ref 26)
    (h : ((320 < j → G false S) ∧ (¬ 320 < j → ai_met (uC l D ρ τ) d mX3_take [.ref 2, .int 43] S V (ai_qz V (fun b2 S3 => (b2 = true → ai_met (uC l D ρ τ) d mX2_add [.ref 26, .int 18, .int 0, .int 0] S3 V (ai_qi V (fun x4 S5 => ai_met (uC l D ρ τ) d mX3_product [.ref 2, .int p1] S5 V (ai_qz V (fun b6 S7 => (b6 = true → ai_met (uC l D ρ τ) d mX2_add [.ref 26, .int 19, .int 0, .int 0] S7 V (ai_qi V (fun x8 S9 => ai_W (uC l D ρ τ) (d + 1) mX3_sum 12 [(0, .ref 2), (1, .int p1), (2, .int (j + 1))] [] S9 V (ai_qz V G)))) ∧ (b6 = false → G false S7)))))) ∧ (b2 = false → ai_met (uC l D ρ τ) d mX3_take [.ref 2, .int 45] S3 V (ai_qz V (fun b10 S11 => (b10 = true → ai_met (uC l D ρ τ) d mX2_add [.ref 26, .int 18, .int 0, .int 0] S11 V (ai_qi V (fun x12 S13 => ai_met (uC l D ρ τ) d mX3_product [.ref 2, .int p1] S13 V (ai_qz V (fun b14 S15 => (b14 = true → ai_met (uC l D ρ τ) d mX2_add [.ref 26, .int 20, .int 0, .int 0] S15 V (ai_qi V (fun x16 S17 => ai_W (uC l D ρ τ) (d + 1) mX3_sum 12 [(0, .ref 2), (1, .int p1), (2, .int (j + 1))] [] S17 V (ai_qz V G)))) ∧ (b14 = false → G false S15)))))) ∧ (b10 = false → G true S11))))))))) :
    ai_W (uC l D ρ τ) (d + 1) mX3_sum 12 [(0, .ref 2), (1, .int p1), (2, .int j)] [] S V (ai_qz V G) := by
  refine ai_iload_n dX3_sum_12 rfl (j := 2) rfl ?_
  refine ai_sipush (v := 320) dX3_sum_13 (by decide) ?_
  refine ai_icmp_gt (tgt := 90) dX3_sum_16 (by decide) ⟨fun (hc1 : 320 < j) => ?_, fun (hc1 : ¬ 320 < j) => ?_⟩
  · have h := h.1 hc1
    refine ai_iconst (v := 0) dX3_sum_90 (by decide) ?_
    exact ai_retf dX3_sum_91 rfl h
  · have h := h.2 hc1
    refine ai_aload_n dX3_sum_19 rfl (j := 0) rfl ?_
    refine ai_bipush (v := 43) dX3_sum_20 (by decide) ?_
    refine ai_callVz (As := [.int 43]) (rest := []) dX3_sum_22 cvX3_73 rfl rfl rfl (Nat.le_of_ble_eq_true rfl) (ai_met.mz h (fun S3 h => ?_) (fun S3 h => ?_))
    · show ai_W _ _ _ _ _ _ _ _ _
      refine ai_istore_n (lv' := [(3, .int 1), (0, .ref 2), (1, .int p1), (2, .int j)]) dX3_sum_25 rfl (by decide) rfl ?_
      refine ai_iload_n dX3_sum_26 rfl (j := 0) rfl ?_
      refine ai_if_ne (tgt := 41) dX3_sum_27 (by decide) ⟨fun _ => ?_, fun hc => absurd hc (by decide)⟩
      refine ai_aload_n dX3_sum_41 rfl (j := 1) rfl ?_
      refine ai_getV dX3_sum_42 fdX3_18 rfl rfl ⟨hV3, ?_⟩
      refine ai_bipush (v := 18) dX3_sum_45 (by decide) ?_
      refine ai_iconst (v := 0) dX3_sum_47 (by decide) ?_
      refine ai_iconst (v := 0) dX3_sum_48 (by decide) ?_
      refine ai_callVi (As := [.int 18, .int 0, .int 0]) (rest := []) dX3_sum_49 cvX3_57 rfl rfl rfl (Nat.le_of_ble_eq_true rfl) (ai_met.mi h (fun x4 S5 h => ?_))
      refine ai_pop dX3_sum_52 rfl ?_
      refine ai_aload_n dX3_sum_53 rfl (j := 1) rfl ?_
      refine ai_iload_n dX3_sum_54 rfl (j := 2) rfl ?_
      refine ai_callVz (As := [.int p1]) (rest := []) dX3_sum_55 cvX3_161 rfl rfl rfl (Nat.le_of_ble_eq_true rfl) (ai_met.mz h (fun S7 h => ?_) (fun S7 h => ?_))
      · show ai_W _ _ _ _ _ _ _ _ _
        refine ai_if_ne (tgt := 63) dX3_sum_58 (by decide) ⟨fun _ => ?_, fun hc => absurd hc (by decide)⟩
        refine ai_aload_n dX3_sum_63 rfl (j := 1) rfl ?_
        refine ai_getV dX3_sum_64 fdX3_18 rfl rfl ⟨hV3, ?_⟩
        refine ai_iload_n dX3_sum_67 rfl (j := 0) rfl ?_
        refine ai_if_eq (tgt := 76) dX3_sum_68 (by decide) ⟨fun hc => absurd hc (by decide), fun _ => ?_⟩
        refine ai_bipush (v := 19) dX3_sum_71 (by decide) ?_
        refine ai_goto (tgt := 78) dX3_sum_73 (by decide) ?_
        refine ai_iconst (v := 0) dX3_sum_78 (by decide) ?_
        refine ai_iconst (v := 0) dX3_sum_79 (by decide) ?_
        refine ai_callVi (As := [.int 19, .int 0, .int 0]) (rest := []) dX3_sum_80 cvX3_57 rfl rfl rfl (Nat.le_of_ble_eq_true rfl) (ai_met.mi h (fun x8 S9 h => ?_))
        refine ai_pop dX3_sum_83 rfl ?_
        refine ai_iinc (j := 3) (v := (j + 1)) (lv' := [(2, .int (j + 1)), (3, .int 1), (0, .ref 2), (1, .int p1)]) dX3_sum_84 rfl (by first | rfl | decide) (by decide) rfl ?_
        refine ai_goto (tgt := 12) dX3_sum_87 (by decide) ?_
        refine ai_locj (lv' := [(0, .ref 2), (1, .int p1), (2, .int (j + 1))]) [2, 3, 0] rfl ?_
        exact h
      · show ai_W _ _ _ _ _ _ _ _ _
        refine ai_if_ne (tgt := 63) dX3_sum_58 (by decide) ⟨fun hc => absurd hc (by decide), fun _ => ?_⟩
        refine ai_iconst (v := 0) dX3_sum_61 (by decide) ?_
        exact ai_retf dX3_sum_62 rfl h
    · show ai_W _ _ _ _ _ _ _ _ _
      refine ai_istore_n (lv' := [(3, .int 0), (0, .ref 2), (1, .int p1), (2, .int j)]) dX3_sum_25 rfl (by decide) rfl ?_
      refine ai_iload_n dX3_sum_26 rfl (j := 0) rfl ?_
      refine ai_if_ne (tgt := 41) dX3_sum_27 (by decide) ⟨fun hc => absurd hc (by decide), fun _ => ?_⟩
      refine ai_aload_n dX3_sum_30 rfl (j := 1) rfl ?_
      refine ai_bipush (v := 45) dX3_sum_31 (by decide) ?_
      refine ai_callVz (As := [.int 45]) (rest := []) dX3_sum_33 cvX3_73 rfl rfl rfl (Nat.le_of_ble_eq_true rfl) (ai_met.mz h (fun S11 h => ?_) (fun S11 h => ?_))
      · show ai_W _ _ _ _ _ _ _ _ _
        refine ai_if_ne (tgt := 41) dX3_sum_36 (by decide) ⟨fun _ => ?_, fun hc => absurd hc (by decide)⟩
        refine ai_aload_n dX3_sum_41 rfl (j := 1) rfl ?_
        refine ai_getV dX3_sum_42 fdX3_18 rfl rfl ⟨hV3, ?_⟩
        refine ai_bipush (v := 18) dX3_sum_45 (by decide) ?_
        refine ai_iconst (v := 0) dX3_sum_47 (by decide) ?_
        refine ai_iconst (v := 0) dX3_sum_48 (by decide) ?_
        refine ai_callVi (As := [.int 18, .int 0, .int 0]) (rest := []) dX3_sum_49 cvX3_57 rfl rfl rfl (Nat.le_of_ble_eq_true rfl) (ai_met.mi h (fun x12 S13 h => ?_))
        refine ai_pop dX3_sum_52 rfl ?_
        refine ai_aload_n dX3_sum_53 rfl (j := 1) rfl ?_
        refine ai_iload_n dX3_sum_54 rfl (j := 2) rfl ?_
        refine ai_callVz (As := [.int p1]) (rest := []) dX3_sum_55 cvX3_161 rfl rfl rfl (Nat.le_of_ble_eq_true rfl) (ai_met.mz h (fun S15 h => ?_) (fun S15 h => ?_))
        · show ai_W _ _ _ _ _ _ _ _ _
          refine ai_if_ne (tgt := 63) dX3_sum_58 (by decide) ⟨fun _ => ?_, fun hc => absurd hc (by decide)⟩
          refine ai_aload_n dX3_sum_63 rfl (j := 1) rfl ?_
          refine ai_getV dX3_sum_64 fdX3_18 rfl rfl ⟨hV3, ?_⟩
          refine ai_iload_n dX3_sum_67 rfl (j := 0) rfl ?_
          refine ai_if_eq (tgt := 76) dX3_sum_68 (by decide) ⟨fun _ => ?_, fun hc => absurd hc (by decide)⟩
          refine ai_bipush (v := 20) dX3_sum_76 (by decide) ?_
          refine ai_iconst (v := 0) dX3_sum_78 (by decide) ?_
          refine ai_iconst (v := 0) dX3_sum_79 (by decide) ?_
          refine ai_callVi (As := [.int 20, .int 0, .int 0]) (rest := []) dX3_sum_80 cvX3_57 rfl rfl rfl (Nat.le_of_ble_eq_true rfl) (ai_met.mi h (fun x16 S17 h => ?_))
          refine ai_pop dX3_sum_83 rfl ?_
          refine ai_iinc (j := 3) (v := (j + 1)) (lv' := [(2, .int (j + 1)), (3, .int 0), (0, .ref 2), (1, .int p1)]) dX3_sum_84 rfl (by first | rfl | decide) (by decide) rfl ?_
          refine ai_goto (tgt := 12) dX3_sum_87 (by decide) ?_
          refine ai_locj (lv' := [(0, .ref 2), (1, .int p1), (2, .int (j + 1))]) [2, 3, 0] rfl ?_
          exact h
        · show ai_W _ _ _ _ _ _ _ _ _
          refine ai_if_ne (tgt := 63) dX3_sum_58 (by decide) ⟨fun hc => absurd hc (by decide), fun _ => ?_⟩
          refine ai_iconst (v := 0) dX3_sum_61 (by decide) ?_
          exact ai_retf dX3_sum_62 rfl h
      · show ai_W _ _ _ _ _ _ _ _ _
        refine ai_if_ne (tgt := 41) dX3_sum_36 (by decide) ⟨fun hc => absurd hc (by decide), fun _ => ?_⟩
        refine ai_iconst (v := 1) dX3_sum_39 (by decide) ?_
        exact ai_rett dX3_sum_40 rfl h
set_option maxHeartbeats 4000000 in
set_option maxRecDepth 100000 in
theorem vX3_product {p1 : Int32} {S : ai_S} {V : ai_V} {G : Bool → ai_S → Prop} (hV3 : V 2 3 = .ref 26)
    (h : ai_met (uC l D ρ τ) d mX3_factor [.ref 2, .int p1] S V (ai_qz V (fun b1 S2 => (b1 = true → ai_W (uC l D ρ τ) (d + 1) mX3_product 12 [(0, .ref 2), (1, .int p1), (2, .int 0)] [] S2 V (ai_qz V G)) ∧ (b1 = false → G false S2)))) :
    ai_met (uC l D ρ τ) (d + 1) mX3_product [.ref 2, .int p1] S V (ai_qz V G) := by
  refine ai_mof plX3 (Nat.le_of_ble_eq_true rfl) (lv := [(0, .ref 2), (1, .int p1)]) rfl ?_
  refine ai_aload_n dX3_product_0 rfl (j := 0) rfl ?_
  refine ai_iload_n dX3_product_1 rfl (j := 1) rfl ?_
  refine ai_callVz (As := [.int p1]) (rest := []) dX3_product_2 cvX3_164 rfl rfl rfl (Nat.le_of_ble_eq_true rfl) (ai_met.mz h (fun S2 h => ?_) (fun S2 h => ?_))
  · show ai_W _ _ _ _ _ _ _ _ _
    refine ai_if_ne (tgt := 10) dX3_product_5 (by decide) ⟨fun _ => ?_, fun hc => absurd hc (by decide)⟩
    refine ai_iconst (v := 0) dX3_product_10 (by decide) ?_
    refine ai_istore_n (lv' := [(2, .int 0), (0, .ref 2), (1, .int p1)]) dX3_product_11 rfl (by decide) rfl ?_
    refine ai_locj (lv' := [(0, .ref 2), (1, .int p1), (2, .int 0)]) [1, 2, 0] rfl ?_
    exact h
  · show ai_W _ _ _ _ _ _ _ _ _
    refine ai_if_ne (tgt := 10) dX3_product_5 (by decide) ⟨fun hc => absurd hc (by decide), fun _ => ?_⟩
    refine ai_iconst (v := 0) dX3_product_8 (by decide) ?_
    exact ai_retf dX3_product_9 rfl h
set_option maxHeartbeats 4000000 in
set_option maxRecDepth 100000 in
theorem vX3_product_12 {p1 : Int32} {j : Int32} {S : ai_S} {V : ai_V} {G : Bool → ai_S → Prop} (hV3 : V 2 3 = .ref 26)
    (h : ((320 < j → G false S) ∧ (¬ 320 < j → ai_met (uC l D ρ τ) d mX3_take [.ref 2, .int 42] S V (ai_qz V (fun b2 S3 => (b2 = true → ai_met (uC l D ρ τ) d mX2_add [.ref 26, .int 18, .int 0, .int 0] S3 V (ai_qi V (fun x4 S5 => ai_met (uC l D ρ τ) d mX3_factor [.ref 2, .int p1] S5 V (ai_qz V (fun b6 S7 => (b6 = true → ai_met (uC l D ρ τ) d mX2_add [.ref 26, .int 21, .int 0, .int 0] S7 V (ai_qi V (fun x8 S9 => ai_W (uC l D ρ τ) (d + 1) mX3_product 12 [(0, .ref 2), (1, .int p1), (2, .int (j + 1))] [] S9 V (ai_qz V G)))) ∧ (b6 = false → G false S7)))))) ∧ (b2 = false → G true S3)))))) :
    ai_W (uC l D ρ τ) (d + 1) mX3_product 12 [(0, .ref 2), (1, .int p1), (2, .int j)] [] S V (ai_qz V G) := by
  refine ai_iload_n dX3_product_12 rfl (j := 2) rfl ?_
  refine ai_sipush (v := 320) dX3_product_13 (by decide) ?_
  refine ai_icmp_gt (tgt := 70) dX3_product_16 (by decide) ⟨fun (hc1 : 320 < j) => ?_, fun (hc1 : ¬ 320 < j) => ?_⟩
  · have h := h.1 hc1
    refine ai_iconst (v := 0) dX3_product_70 (by decide) ?_
    exact ai_retf dX3_product_71 rfl h
  · have h := h.2 hc1
    refine ai_aload_n dX3_product_19 rfl (j := 0) rfl ?_
    refine ai_bipush (v := 42) dX3_product_20 (by decide) ?_
    refine ai_callVz (As := [.int 42]) (rest := []) dX3_product_22 cvX3_73 rfl rfl rfl (Nat.le_of_ble_eq_true rfl) (ai_met.mz h (fun S3 h => ?_) (fun S3 h => ?_))
    · show ai_W _ _ _ _ _ _ _ _ _
      refine ai_if_ne (tgt := 30) dX3_product_25 (by decide) ⟨fun _ => ?_, fun hc => absurd hc (by decide)⟩
      refine ai_aload_n dX3_product_30 rfl (j := 0) rfl ?_
      refine ai_getV dX3_product_31 fdX3_18 rfl rfl ⟨hV3, ?_⟩
      refine ai_bipush (v := 18) dX3_product_34 (by decide) ?_
      refine ai_iconst (v := 0) dX3_product_36 (by decide) ?_
      refine ai_iconst (v := 0) dX3_product_37 (by decide) ?_
      refine ai_callVi (As := [.int 18, .int 0, .int 0]) (rest := []) dX3_product_38 cvX3_57 rfl rfl rfl (Nat.le_of_ble_eq_true rfl) (ai_met.mi h (fun x4 S5 h => ?_))
      refine ai_pop dX3_product_41 rfl ?_
      refine ai_aload_n dX3_product_42 rfl (j := 0) rfl ?_
      refine ai_iload_n dX3_product_43 rfl (j := 1) rfl ?_
      refine ai_callVz (As := [.int p1]) (rest := []) dX3_product_44 cvX3_164 rfl rfl rfl (Nat.le_of_ble_eq_true rfl) (ai_met.mz h (fun S7 h => ?_) (fun S7 h => ?_))
      · show ai_W _ _ _ _ _ _ _ _ _
        refine ai_if_ne (tgt := 52) dX3_product_47 (by decide) ⟨fun _ => ?_, fun hc => absurd hc (by decide)⟩
        refine ai_aload_n dX3_product_52 rfl (j := 0) rfl ?_
        refine ai_getV dX3_product_53 fdX3_18 rfl rfl ⟨hV3, ?_⟩
        refine ai_bipush (v := 21) dX3_product_56 (by decide) ?_
        refine ai_iconst (v := 0) dX3_product_58 (by decide) ?_
        refine ai_iconst (v := 0) dX3_product_59 (by decide) ?_
        refine ai_callVi (As := [.int 21, .int 0, .int 0]) (rest := []) dX3_product_60 cvX3_57 rfl rfl rfl (Nat.le_of_ble_eq_true rfl) (ai_met.mi h (fun x8 S9 h => ?_))
        refine ai_pop dX3_product_63 rfl ?_
        refine ai_iinc (j := 2) (v := (j + 1)) (lv' := [(2, .int (j + 1)), (0, .ref 2), (1, .int p1)]) dX3_product_64 rfl (by first | rfl | decide) (by decide) rfl ?_
        refine ai_goto (tgt := 12) dX3_product_67 (by decide) ?_
        refine ai_locj (lv' := [(0, .ref 2), (1, .int p1), (2, .int (j + 1))]) [1, 2, 0] rfl ?_
        exact h
      · show ai_W _ _ _ _ _ _ _ _ _
        refine ai_if_ne (tgt := 52) dX3_product_47 (by decide) ⟨fun hc => absurd hc (by decide), fun _ => ?_⟩
        refine ai_iconst (v := 0) dX3_product_50 (by decide) ?_
        exact ai_retf dX3_product_51 rfl h
    · show ai_W _ _ _ _ _ _ _ _ _
      refine ai_if_ne (tgt := 30) dX3_product_25 (by decide) ⟨fun hc => absurd hc (by decide), fun _ => ?_⟩
      refine ai_iconst (v := 1) dX3_product_28 (by decide) ?_
      exact ai_rett dX3_product_29 rfl h
set_option maxHeartbeats 4000000 in
set_option maxRecDepth 100000 in
theorem vX3_list {p1 : Int32} {S : ai_S} {V : ai_V} {G : Bool → ai_S → Prop} (hV3 : V 2 3 = .ref 26)
    (h : ai_met (uC l D ρ τ) d mX3_take [.ref 2, .int 41] S V (ai_qz V (fun b1 S2 => (b1 = true → G true S2) ∧ (b1 = false → ai_W (uC l D ρ τ) (d + 1) mX3_list 13 [(0, .ref 2), (1, .int p1), (2, .int 0)] [] S2 V (ai_qz V G))))) :
    ai_met (uC l D ρ τ) (d + 1) mX3_list [.ref 2, .int p1] S V (ai_qz V G) := by
  refine ai_mof plX3 (Nat.le_of_ble_eq_true rfl) (lv := [(0, .ref 2), (1, .int p1)]) rfl ?_
  refine ai_aload_n dX3_list_0 rfl (j := 0) rfl ?_
  refine ai_bipush (v := 41) dX3_list_1 (by decide) ?_
  refine ai_callVz (As := [.int 41]) (rest := []) dX3_list_3 cvX3_73 rfl rfl rfl (Nat.le_of_ble_eq_true rfl) (ai_met.mz h (fun S2 h => ?_) (fun S2 h => ?_))
  · show ai_W _ _ _ _ _ _ _ _ _
    refine ai_if_eq (tgt := 11) dX3_list_6 (by decide) ⟨fun hc => absurd hc (by decide), fun _ => ?_⟩
    refine ai_iconst (v := 1) dX3_list_9 (by decide) ?_
    exact ai_rett dX3_list_10 rfl h
  · show ai_W _ _ _ _ _ _ _ _ _
    refine ai_if_eq (tgt := 11) dX3_list_6 (by decide) ⟨fun _ => ?_, fun hc => absurd hc (by decide)⟩
    refine ai_iconst (v := 0) dX3_list_11 (by decide) ?_
    refine ai_istore_n (lv' := [(2, .int 0), (0, .ref 2), (1, .int p1)]) dX3_list_12 rfl (by decide) rfl ?_
    refine ai_locj (lv' := [(0, .ref 2), (1, .int p1), (2, .int 0)]) [1, 2, 0] rfl ?_
    exact h
set_option maxHeartbeats 4000000 in
set_option maxRecDepth 100000 in
theorem vX3_list_13 {p1 : Int32} {j : Int32} {S : ai_S} {V : ai_V} {G : Bool → ai_S → Prop} (hV3 : V 2 3 = .ref 26)
    (h : ((6 ≤ j → G false S) ∧ (¬ 6 ≤ j → ai_met (uC l D ρ τ) d mX3_isNameAlone [.ref 2] S V (ai_qz V (fun b2 S3 => (b2 = true → ai_met (uC l D ρ τ) d mX2_add [.ref 26, .int 24, .int 0, .int 0] S3 V (ai_qi V (fun x4 S5 => ai_met (uC l D ρ τ) d mX3_expression [.ref 2, .int p1] S5 V (ai_qz V (fun b6 S7 => (b6 = true → ai_met (uC l D ρ τ) d mX2_add [.ref 26, .int 25, .int 0, .int 0] S7 V (ai_qi V (fun x8 S9 => ai_met (uC l D ρ τ) d mX2_setFirst [.ref 26, .int x4, .int (S9 26 3)] S9 V (ai_qv V (fun S11 => ai_met (uC l D ρ τ) d mX3_take [.ref 2, .int 41] S11 V (ai_qz V (fun b12 S13 => (b12 = true → G true S13) ∧ (b12 = false → ai_met (uC l D ρ τ) d mX3_take [.ref 2, .int 44] S13 V (ai_qz V (fun b14 S15 => (b14 = true → ai_W (uC l D ρ τ) (d + 1) mX3_list 13 [(0, .ref 2), (1, .int p1), (2, .int (j + 1))] [] S15 V (ai_qz V G)) ∧ (b14 = false → G false S15))))))))))) ∧ (b6 = false → G false S7)))))) ∧ (b2 = false → ai_met (uC l D ρ τ) d mX2_add [.ref 26, .int 23, .int 0, .int 0] S3 V (ai_qi V (fun x16 S17 => ai_met (uC l D ρ τ) d mX3_expression [.ref 2, .int p1] S17 V (ai_qz V (fun b18 S19 => (b18 = true → ai_met (uC l D ρ τ) d mX2_add [.ref 26, .int 25, .int 0, .int 0] S19 V (ai_qi V (fun x20 S21 => ai_met (uC l D ρ τ) d mX2_setFirst [.ref 26, .int x16, .int (S21 26 3)] S21 V (ai_qv V (fun S23 => ai_met (uC l D ρ τ) d mX3_take [.ref 2, .int 41] S23 V (ai_qz V (fun b24 S25 => (b24 = true → G true S25) ∧ (b24 = false → ai_met (uC l D ρ τ) d mX3_take [.ref 2, .int 44] S25 V (ai_qz V (fun b26 S27 => (b26 = true → ai_W (uC l D ρ τ) (d + 1) mX3_list 13 [(0, .ref 2), (1, .int p1), (2, .int (j + 1))] [] S27 V (ai_qz V G)) ∧ (b26 = false → G false S27))))))))))) ∧ (b18 = false → G false S19))))))))))) :
    ai_W (uC l D ρ τ) (d + 1) mX3_list 13 [(0, .ref 2), (1, .int p1), (2, .int j)] [] S V (ai_qz V G) := by
  refine ai_iload_n dX3_list_13 rfl (j := 2) rfl ?_
  refine ai_bipush (v := 6) dX3_list_14 (by decide) ?_
  refine ai_icmp_ge (tgt := 108) dX3_list_16 (by decide) ⟨fun (hc1 : 6 ≤ j) => ?_, fun (hc1 : ¬ 6 ≤ j) => ?_⟩
  · have h := h.1 hc1
    refine ai_iconst (v := 0) dX3_list_108 (by decide) ?_
    exact ai_retf dX3_list_109 rfl h
  · have h := h.2 hc1
    refine ai_aload_n dX3_list_19 rfl (j := 0) rfl ?_
    refine ai_getV dX3_list_20 fdX3_18 rfl rfl ⟨hV3, ?_⟩
    refine ai_aload_n dX3_list_23 rfl (j := 0) rfl ?_
    refine ai_callVz (As := []) (rest := [.ref 26]) dX3_list_24 cvX3_171 rfl rfl rfl (Nat.le_of_ble_eq_true rfl) (ai_met.mz h (fun S3 h => ?_) (fun S3 h => ?_))
    · show ai_W _ _ _ _ _ _ _ _ _
      refine ai_if_eq (tgt := 35) dX3_list_27 (by decide) ⟨fun hc => absurd hc (by decide), fun _ => ?_⟩
      refine ai_bipush (v := 24) dX3_list_30 (by decide) ?_
      refine ai_goto (tgt := 37) dX3_list_32 (by decide) ?_
      refine ai_iconst (v := 0) dX3_list_37 (by decide) ?_
      refine ai_iconst (v := 0) dX3_list_38 (by decide) ?_
      refine ai_callVi (As := [.int 24, .int 0, .int 0]) (rest := []) dX3_list_39 cvX3_57 rfl rfl rfl (Nat.le_of_ble_eq_true rfl) (ai_met.mi h (fun x4 S5 h => ?_))
      refine ai_istore_n (lv' := [(3, .int x4), (0, .ref 2), (1, .int p1), (2, .int j)]) dX3_list_42 rfl (by decide) rfl ?_
      refine ai_aload_n dX3_list_43 rfl (j := 1) rfl ?_
      refine ai_iload_n dX3_list_44 rfl (j := 2) rfl ?_
      refine ai_callVz (As := [.int p1]) (rest := []) dX3_list_45 cvX3_106 rfl rfl rfl (Nat.le_of_ble_eq_true rfl) (ai_met.mz h (fun S7 h => ?_) (fun S7 h => ?_))
      · show ai_W _ _ _ _ _ _ _ _ _
        refine ai_if_ne (tgt := 53) dX3_list_48 (by decide) ⟨fun _ => ?_, fun hc => absurd hc (by decide)⟩
        refine ai_aload_n dX3_list_53 rfl (j := 1) rfl ?_
        refine ai_getV dX3_list_54 fdX3_18 rfl rfl ⟨hV3, ?_⟩
        refine ai_bipush (v := 25) dX3_list_57 (by decide) ?_
        refine ai_iconst (v := 0) dX3_list_59 (by decide) ?_
        refine ai_iconst (v := 0) dX3_list_60 (by decide) ?_
        refine ai_callVi (As := [.int 25, .int 0, .int 0]) (rest := []) dX3_list_61 cvX3_57 rfl rfl rfl (Nat.le_of_ble_eq_true rfl) (ai_met.mi h (fun x8 S9 h => ?_))
        refine ai_pop dX3_list_64 rfl ?_
        refine ai_aload_n dX3_list_65 rfl (j := 1) rfl ?_
        refine ai_getV dX3_list_66 fdX3_18 rfl rfl ⟨hV3, ?_⟩
        refine ai_iload_n dX3_list_69 rfl (j := 0) rfl ?_
        refine ai_aload_n dX3_list_70 rfl (j := 1) rfl ?_
        refine ai_getV dX3_list_71 fdX3_18 rfl rfl ⟨hV3, ?_⟩
        refine ai_getI dX3_list_74 fdX3_109 rfl rfl ?_
        refine ai_callVv (As := [.int x4, .int (S9 26 3)]) (rest := []) dX3_list_77 cvX3_112 rfl rfl rfl (Nat.le_of_ble_eq_true rfl) (ai_met.mv h (fun S11 h => ?_))
        refine ai_aload_n dX3_list_80 rfl (j := 1) rfl ?_
        refine ai_bipush (v := 41) dX3_list_81 (by decide) ?_
        refine ai_callVz (As := [.int 41]) (rest := []) dX3_list_83 cvX3_73 rfl rfl rfl (Nat.le_of_ble_eq_true rfl) (ai_met.mz h (fun S13 h => ?_) (fun S13 h => ?_))
        · show ai_W _ _ _ _ _ _ _ _ _
          refine ai_if_eq (tgt := 91) dX3_list_86 (by decide) ⟨fun hc => absurd hc (by decide), fun _ => ?_⟩
          refine ai_iconst (v := 1) dX3_list_89 (by decide) ?_
          exact ai_rett dX3_list_90 rfl h
        · show ai_W _ _ _ _ _ _ _ _ _
          refine ai_if_eq (tgt := 91) dX3_list_86 (by decide) ⟨fun _ => ?_, fun hc => absurd hc (by decide)⟩
          refine ai_aload_n dX3_list_91 rfl (j := 1) rfl ?_
          refine ai_bipush (v := 44) dX3_list_92 (by decide) ?_
          refine ai_callVz (As := [.int 44]) (rest := []) dX3_list_94 cvX3_73 rfl rfl rfl (Nat.le_of_ble_eq_true rfl) (ai_met.mz h (fun S15 h => ?_) (fun S15 h => ?_))
          · show ai_W _ _ _ _ _ _ _ _ _
            refine ai_if_ne (tgt := 102) dX3_list_97 (by decide) ⟨fun _ => ?_, fun hc => absurd hc (by decide)⟩
            refine ai_iinc (j := 3) (v := (j + 1)) (lv' := [(2, .int (j + 1)), (3, .int x4), (0, .ref 2), (1, .int p1)]) dX3_list_102 rfl (by first | rfl | decide) (by decide) rfl ?_
            refine ai_goto (tgt := 13) dX3_list_105 (by decide) ?_
            refine ai_locj (lv' := [(0, .ref 2), (1, .int p1), (2, .int (j + 1))]) [2, 3, 0] rfl ?_
            exact h
          · show ai_W _ _ _ _ _ _ _ _ _
            refine ai_if_ne (tgt := 102) dX3_list_97 (by decide) ⟨fun hc => absurd hc (by decide), fun _ => ?_⟩
            refine ai_iconst (v := 0) dX3_list_100 (by decide) ?_
            exact ai_retf dX3_list_101 rfl h
      · show ai_W _ _ _ _ _ _ _ _ _
        refine ai_if_ne (tgt := 53) dX3_list_48 (by decide) ⟨fun hc => absurd hc (by decide), fun _ => ?_⟩
        refine ai_iconst (v := 0) dX3_list_51 (by decide) ?_
        exact ai_retf dX3_list_52 rfl h
    · show ai_W _ _ _ _ _ _ _ _ _
      refine ai_if_eq (tgt := 35) dX3_list_27 (by decide) ⟨fun _ => ?_, fun hc => absurd hc (by decide)⟩
      refine ai_bipush (v := 23) dX3_list_35 (by decide) ?_
      refine ai_iconst (v := 0) dX3_list_37 (by decide) ?_
      refine ai_iconst (v := 0) dX3_list_38 (by decide) ?_
      refine ai_callVi (As := [.int 23, .int 0, .int 0]) (rest := []) dX3_list_39 cvX3_57 rfl rfl rfl (Nat.le_of_ble_eq_true rfl) (ai_met.mi h (fun x16 S17 h => ?_))
      refine ai_istore_n (lv' := [(3, .int x16), (0, .ref 2), (1, .int p1), (2, .int j)]) dX3_list_42 rfl (by decide) rfl ?_
      refine ai_aload_n dX3_list_43 rfl (j := 1) rfl ?_
      refine ai_iload_n dX3_list_44 rfl (j := 2) rfl ?_
      refine ai_callVz (As := [.int p1]) (rest := []) dX3_list_45 cvX3_106 rfl rfl rfl (Nat.le_of_ble_eq_true rfl) (ai_met.mz h (fun S19 h => ?_) (fun S19 h => ?_))
      · show ai_W _ _ _ _ _ _ _ _ _
        refine ai_if_ne (tgt := 53) dX3_list_48 (by decide) ⟨fun _ => ?_, fun hc => absurd hc (by decide)⟩
        refine ai_aload_n dX3_list_53 rfl (j := 1) rfl ?_
        refine ai_getV dX3_list_54 fdX3_18 rfl rfl ⟨hV3, ?_⟩
        refine ai_bipush (v := 25) dX3_list_57 (by decide) ?_
        refine ai_iconst (v := 0) dX3_list_59 (by decide) ?_
        refine ai_iconst (v := 0) dX3_list_60 (by decide) ?_
        refine ai_callVi (As := [.int 25, .int 0, .int 0]) (rest := []) dX3_list_61 cvX3_57 rfl rfl rfl (Nat.le_of_ble_eq_true rfl) (ai_met.mi h (fun x20 S21 h => ?_))
        refine ai_pop dX3_list_64 rfl ?_
        refine ai_aload_n dX3_list_65 rfl (j := 1) rfl ?_
        refine ai_getV dX3_list_66 fdX3_18 rfl rfl ⟨hV3, ?_⟩
        refine ai_iload_n dX3_list_69 rfl (j := 0) rfl ?_
        refine ai_aload_n dX3_list_70 rfl (j := 1) rfl ?_
        refine ai_getV dX3_list_71 fdX3_18 rfl rfl ⟨hV3, ?_⟩
        refine ai_getI dX3_list_74 fdX3_109 rfl rfl ?_
        refine ai_callVv (As := [.int x16, .int (S21 26 3)]) (rest := []) dX3_list_77 cvX3_112 rfl rfl rfl (Nat.le_of_ble_eq_true rfl) (ai_met.mv h (fun S23 h => ?_))
        refine ai_aload_n dX3_list_80 rfl (j := 1) rfl ?_
        refine ai_bipush (v := 41) dX3_list_81 (by decide) ?_
        refine ai_callVz (As := [.int 41]) (rest := []) dX3_list_83 cvX3_73 rfl rfl rfl (Nat.le_of_ble_eq_true rfl) (ai_met.mz h (fun S25 h => ?_) (fun S25 h => ?_))
        · show ai_W _ _ _ _ _ _ _ _ _
          refine ai_if_eq (tgt := 91) dX3_list_86 (by decide) ⟨fun hc => absurd hc (by decide), fun _ => ?_⟩
          refine ai_iconst (v := 1) dX3_list_89 (by decide) ?_
          exact ai_rett dX3_list_90 rfl h
        · show ai_W _ _ _ _ _ _ _ _ _
          refine ai_if_eq (tgt := 91) dX3_list_86 (by decide) ⟨fun _ => ?_, fun hc => absurd hc (by decide)⟩
          refine ai_aload_n dX3_list_91 rfl (j := 1) rfl ?_
          refine ai_bipush (v := 44) dX3_list_92 (by decide) ?_
          refine ai_callVz (As := [.int 44]) (rest := []) dX3_list_94 cvX3_73 rfl rfl rfl (Nat.le_of_ble_eq_true rfl) (ai_met.mz h (fun S27 h => ?_) (fun S27 h => ?_))
          · show ai_W _ _ _ _ _ _ _ _ _
            refine ai_if_ne (tgt := 102) dX3_list_97 (by decide) ⟨fun _ => ?_, fun hc => absurd hc (by decide)⟩
            refine ai_iinc (j := 3) (v := (j + 1)) (lv' := [(2, .int (j + 1)), (3, .int x16), (0, .ref 2), (1, .int p1)]) dX3_list_102 rfl (by first | rfl | decide) (by decide) rfl ?_
            refine ai_goto (tgt := 13) dX3_list_105 (by decide) ?_
            refine ai_locj (lv' := [(0, .ref 2), (1, .int p1), (2, .int (j + 1))]) [2, 3, 0] rfl ?_
            exact h
          · show ai_W _ _ _ _ _ _ _ _ _
            refine ai_if_ne (tgt := 102) dX3_list_97 (by decide) ⟨fun hc => absurd hc (by decide), fun _ => ?_⟩
            refine ai_iconst (v := 0) dX3_list_100 (by decide) ?_
            exact ai_retf dX3_list_101 rfl h
      · show ai_W _ _ _ _ _ _ _ _ _
        refine ai_if_ne (tgt := 53) dX3_list_48 (by decide) ⟨fun hc => absurd hc (by decide), fun _ => ?_⟩
        refine ai_iconst (v := 0) dX3_list_51 (by decide) ?_
        exact ai_retf dX3_list_52 rfl h
set_option maxHeartbeats 4000000 in
set_option maxRecDepth 100000 in
theorem vX3_block {p1 : Int32} {S : ai_S} {V : ai_V} {G : Bool → ai_S → Prop} (hV3 : V 2 3 = .ref 26)
    (h : ai_met (uC l D ρ τ) d mX2_add [.ref 26, .int 2, .int (S 3 7), .int 0] S V (ai_qi V (fun x1 S2 => ai_met (uC l D ρ τ) d mX3_declarations [.ref 2, .int p1, .int (S 3 4)] S2 V (ai_qz V (fun b3 S4 => (b3 = true → ai_met (uC l D ρ τ) d mX2_setSecond [.ref 26, .int x1, .int ((S4 3 7) - (S 3 7))] S4 V (ai_qv V (fun S6 => ai_W (uC l D ρ τ) (d + 1) mX3_block 60 [(0, .ref 2), (1, .int p1), (2, .int (S 3 4)), (5, .int 0)] [] S6 V (ai_qz V G)))) ∧ (b3 = false → G false S4)))))) :
    ai_met (uC l D ρ τ) (d + 1) mX3_block [.ref 2, .int p1] S V (ai_qz V G) := by
  refine ai_mof plX3 (Nat.le_of_ble_eq_true rfl) (lv := [(0, .ref 2), (1, .int p1)]) rfl ?_
  refine ai_aload_n dX3_block_0 rfl (j := 0) rfl ?_
  refine ai_getR dX3_block_1 fdX3_12 rfl rfl ?_
  refine ai_getI dX3_block_4 fdX3_116 rfl rfl ?_
  refine ai_istore_n (lv' := [(2, .int (S 3 4)), (0, .ref 2), (1, .int p1)]) dX3_block_7 rfl (by decide) rfl ?_
  refine ai_aload_n dX3_block_8 rfl (j := 1) rfl ?_
  refine ai_getR dX3_block_9 fdX3_12 rfl rfl ?_
  refine ai_getI dX3_block_12 fdX3_119 rfl rfl ?_
  refine ai_istore_n (lv' := [(3, .int (S 3 7)), (2, .int (S 3 4)), (0, .ref 2), (1, .int p1)]) dX3_block_15 rfl (by decide) rfl ?_
  refine ai_aload_n dX3_block_16 rfl (j := 2) rfl ?_
  refine ai_getV dX3_block_17 fdX3_18 rfl rfl ⟨hV3, ?_⟩
  refine ai_iconst (v := 2) dX3_block_20 (by decide) ?_
  refine ai_iload_n dX3_block_21 rfl (j := 0) rfl ?_
  refine ai_iconst (v := 0) dX3_block_22 (by decide) ?_
  refine ai_callVi (As := [.int 2, .int (S 3 7), .int 0]) (rest := []) dX3_block_23 cvX3_57 rfl rfl rfl (Nat.le_of_ble_eq_true rfl) (ai_met.mi h (fun x1 S2 h => ?_))
  refine ai_istore (lv' := [(4, .int x1), (3, .int (S 3 7)), (2, .int (S 3 4)), (0, .ref 2), (1, .int p1)]) dX3_block_26 (by decide) rfl ?_
  refine ai_aload_n dX3_block_28 rfl (j := 3) rfl ?_
  refine ai_iload_n dX3_block_29 rfl (j := 4) rfl ?_
  refine ai_iload_n dX3_block_30 rfl (j := 2) rfl ?_
  refine ai_callVz (As := [.int p1, .int (S 3 4)]) (rest := []) dX3_block_31 cvX3_122 rfl rfl rfl (Nat.le_of_ble_eq_true rfl) (ai_met.mz h (fun S4 h => ?_) (fun S4 h => ?_))
  · show ai_W _ _ _ _ _ _ _ _ _
    refine ai_if_ne (tgt := 39) dX3_block_34 (by decide) ⟨fun _ => ?_, fun hc => absurd hc (by decide)⟩
    refine ai_aload_n dX3_block_39 rfl (j := 3) rfl ?_
    refine ai_getV dX3_block_40 fdX3_18 rfl rfl ⟨hV3, ?_⟩
    refine ai_iload dX3_block_43 (j := 0) rfl ?_
    refine ai_aload_n dX3_block_45 rfl (j := 3) rfl ?_
    refine ai_getR dX3_block_46 fdX3_12 rfl rfl ?_
    refine ai_getI dX3_block_49 fdX3_119 rfl rfl ?_
    refine ai_iload_n dX3_block_52 rfl (j := 1) rfl ?_
    refine ai_isub dX3_block_53 ?_
    refine ai_callVv (As := [.int x1, .int ((S4 3 7) - (S 3 7))]) (rest := []) dX3_block_54 cvX3_125 rfl rfl rfl (Nat.le_of_ble_eq_true rfl) (ai_met.mv h (fun S6 h => ?_))
    refine ai_iconst (v := 0) dX3_block_57 (by decide) ?_
    refine ai_istore (lv' := [(5, .int 0), (4, .int x1), (3, .int (S 3 7)), (2, .int (S 3 4)), (0, .ref 2), (1, .int p1)]) dX3_block_58 (by decide) rfl ?_
    refine ai_locj (lv' := [(0, .ref 2), (1, .int p1), (2, .int (S 3 4)), (5, .int 0)]) [4, 5, 3, 0] rfl ?_
    exact h
  · show ai_W _ _ _ _ _ _ _ _ _
    refine ai_if_ne (tgt := 39) dX3_block_34 (by decide) ⟨fun hc => absurd hc (by decide), fun _ => ?_⟩
    refine ai_iconst (v := 0) dX3_block_37 (by decide) ?_
    exact ai_retf dX3_block_38 rfl h
set_option maxHeartbeats 4000000 in
set_option maxRecDepth 100000 in
theorem vX3_block_60 {p1 : Int32} {mk : Int32} {j : Int32} {S : ai_S} {V : ai_V} {G : Bool → ai_S → Prop} (hV3 : V 2 3 = .ref 26)
    (h : ((320 < j → G false S) ∧ (¬ 320 < j → ai_met (uC l D ρ τ) d mX3_take [.ref 2, .int 125] S V (ai_qz V (fun b2 S3 => (b2 = true → G true (ai_up S3 3 4 mk)) ∧ (b2 = false → ai_met (uC l D ρ τ) d mX3_statement [.ref 2, .int (p1 + 1)] S3 V (ai_qz V (fun b4 S5 => (b4 = true → ai_W (uC l D ρ τ) (d + 1) mX3_block 60 [(0, .ref 2), (1, .int p1), (2, .int mk), (5, .int (j + 1))] [] S5 V (ai_qz V G)) ∧ (b4 = false → G false S5))))))))) :
    ai_W (uC l D ρ τ) (d + 1) mX3_block 60 [(0, .ref 2), (1, .int p1), (2, .int mk), (5, .int j)] [] S V (ai_qz V G) := by
  refine ai_iload dX3_block_60 (j := 3) rfl ?_
  refine ai_sipush (v := 320) dX3_block_62 (by decide) ?_
  refine ai_icmp_gt (tgt := 105) dX3_block_65 (by decide) ⟨fun (hc1 : 320 < j) => ?_, fun (hc1 : ¬ 320 < j) => ?_⟩
  · have h := h.1 hc1
    refine ai_iconst (v := 0) dX3_block_105 (by decide) ?_
    exact ai_retf dX3_block_106 rfl h
  · have h := h.2 hc1
    refine ai_aload_n dX3_block_68 rfl (j := 0) rfl ?_
    refine ai_bipush (v := 125) dX3_block_69 (by decide) ?_
    refine ai_callVz (As := [.int 125]) (rest := []) dX3_block_71 cvX3_73 rfl rfl rfl (Nat.le_of_ble_eq_true rfl) (ai_met.mz h (fun S3 h => ?_) (fun S3 h => ?_))
    · show ai_W _ _ _ _ _ _ _ _ _
      refine ai_if_eq (tgt := 87) dX3_block_74 (by decide) ⟨fun hc => absurd hc (by decide), fun _ => ?_⟩
      refine ai_aload_n dX3_block_77 rfl (j := 0) rfl ?_
      refine ai_getR dX3_block_78 fdX3_12 rfl rfl ?_
      refine ai_iload_n dX3_block_81 rfl (j := 2) rfl ?_
      refine ai_putI dX3_block_82 fdX3_116 pdX4_4 rfl rfl rfl rfl ?_
      refine ai_iconst (v := 1) dX3_block_85 (by decide) ?_
      exact ai_rett dX3_block_86 rfl h
    · show ai_W _ _ _ _ _ _ _ _ _
      refine ai_if_eq (tgt := 87) dX3_block_74 (by decide) ⟨fun _ => ?_, fun hc => absurd hc (by decide)⟩
      refine ai_aload_n dX3_block_87 rfl (j := 0) rfl ?_
      refine ai_iload_n dX3_block_88 rfl (j := 1) rfl ?_
      refine ai_iconst (v := 1) dX3_block_89 (by decide) ?_
      refine ai_iadd dX3_block_90 ?_
      refine ai_callVz (As := [.int (p1 + 1)]) (rest := []) dX3_block_91 cvX3_49 rfl rfl rfl (Nat.le_of_ble_eq_true rfl) (ai_met.mz h (fun S5 h => ?_) (fun S5 h => ?_))
      · show ai_W _ _ _ _ _ _ _ _ _
        refine ai_if_ne (tgt := 99) dX3_block_94 (by decide) ⟨fun _ => ?_, fun hc => absurd hc (by decide)⟩
        refine ai_iinc (j := 3) (v := (j + 1)) (lv' := [(5, .int (j + 1)), (0, .ref 2), (1, .int p1), (2, .int mk)]) dX3_block_99 rfl (by first | rfl | decide) (by decide) rfl ?_
        refine ai_goto (tgt := 60) dX3_block_102 (by decide) ?_
        refine ai_locj (lv' := [(0, .ref 2), (1, .int p1), (2, .int mk), (5, .int (j + 1))]) [1, 2, 3, 0] rfl ?_
        exact h
      · show ai_W _ _ _ _ _ _ _ _ _
        refine ai_if_ne (tgt := 99) dX3_block_94 (by decide) ⟨fun hc => absurd hc (by decide), fun _ => ?_⟩
        refine ai_iconst (v := 0) dX3_block_97 (by decide) ?_
        exact ai_retf dX3_block_98 rfl h
set_option maxHeartbeats 4000000 in
set_option maxRecDepth 100000 in
theorem vX3_declarations {p1 : Int32} {p2 : Int32} {S : ai_S} {V : ai_V} {G : Bool → ai_S → Prop} (hV3 : V 2 3 = .ref 26)
    (h : ai_W (uC l D ρ τ) d mX3_declarations 2 [(0, .ref 2), (1, .int p1), (2, .int p2), (3, .int 0)] [] S V (ai_qz V G)) :
    ai_met (uC l D ρ τ) d mX3_declarations [.ref 2, .int p1, .int p2] S V (ai_qz V G) := by
  refine ai_mof plX3 (Nat.le_of_ble_eq_true rfl) (lv := [(0, .ref 2), (1, .int p1), (2, .int p2)]) rfl ?_
  refine ai_iconst (v := 0) dX3_declarations_0 (by decide) ?_
  refine ai_istore_n (lv' := [(3, .int 0), (0, .ref 2), (1, .int p1), (2, .int p2)]) dX3_declarations_1 rfl (by decide) rfl ?_
  refine ai_locj (lv' := [(0, .ref 2), (1, .int p1), (2, .int p2), (3, .int 0)]) [1, 2, 3, 0] rfl ?_
  exact h
set_option maxHeartbeats 4000000 in
set_option maxRecDepth 100000 in
theorem vX3_declarations_2 {p1 : Int32} {p2 : Int32} {j : Int32} {S : ai_S} {V : ai_V} {G : Bool → ai_S → Prop} (hV3 : V 2 3 = .ref 26)
    (h : ((320 < j → G false S) ∧ (¬ 320 < j → ai_met (uC l D ρ τ) d mX3_take [.ref 2, .int 36] S V (ai_qz V (fun b2 S3 => (b2 = true → ai_met (uC l D ρ τ) d mX3_variable [.ref 2, .int p2] S3 V (ai_qz V (fun b4 S5 => (b4 = true → ai_W (uC l D ρ τ) (d + 1) mX3_declarations 2 [(0, .ref 2), (1, .int p1), (2, .int p2), (3, .int (j + 1))] [] S5 V (ai_qz V G)) ∧ (b4 = false → G false S5)))) ∧ (b2 = false → ai_met (uC l D ρ τ) d mX3_take [.ref 2, .int 64] S3 V (ai_qz V (fun b6 S7 => (b6 = true → ai_met (uC l D ρ τ) d mX3_procedure [.ref 2, .int p1, .int p2] S7 V (ai_qz V (fun b8 S9 => (b8 = true → ai_W (uC l D ρ τ) (d + 1) mX3_declarations 2 [(0, .ref 2), (1, .int p1), (2, .int p2), (3, .int (j + 1))] [] S9 V (ai_qz V G)) ∧ (b8 = false → G false S9)))) ∧ (b6 = false → G true S7))))))))) :
    ai_W (uC l D ρ τ) (d + 1) mX3_declarations 2 [(0, .ref 2), (1, .int p1), (2, .int p2), (3, .int j)] [] S V (ai_qz V G) := by
  refine ai_iload_n dX3_declarations_2 rfl (j := 3) rfl ?_
  refine ai_sipush (v := 320) dX3_declarations_3 (by decide) ?_
  refine ai_icmp_gt (tgt := 56) dX3_declarations_6 (by decide) ⟨fun (hc1 : 320 < j) => ?_, fun (hc1 : ¬ 320 < j) => ?_⟩
  · have h := h.1 hc1
    refine ai_iconst (v := 0) dX3_declarations_56 (by decide) ?_
    exact ai_retf dX3_declarations_57 rfl h
  · have h := h.2 hc1
    refine ai_aload_n dX3_declarations_9 rfl (j := 0) rfl ?_
    refine ai_bipush (v := 36) dX3_declarations_10 (by decide) ?_
    refine ai_callVz (As := [.int 36]) (rest := []) dX3_declarations_12 cvX3_73 rfl rfl rfl (Nat.le_of_ble_eq_true rfl) (ai_met.mz h (fun S3 h => ?_) (fun S3 h => ?_))
    · show ai_W _ _ _ _ _ _ _ _ _
      refine ai_if_eq (tgt := 28) dX3_declarations_15 (by decide) ⟨fun hc => absurd hc (by decide), fun _ => ?_⟩
      refine ai_aload_n dX3_declarations_18 rfl (j := 0) rfl ?_
      refine ai_iload_n dX3_declarations_19 rfl (j := 2) rfl ?_
      refine ai_callVz (As := [.int p2]) (rest := []) dX3_declarations_20 cvX3_128 rfl rfl rfl (Nat.le_of_ble_eq_true rfl) (ai_met.mz h (fun S5 h => ?_) (fun S5 h => ?_))
      · show ai_W _ _ _ _ _ _ _ _ _
        refine ai_if_ne (tgt := 50) dX3_declarations_23 (by decide) ⟨fun _ => ?_, fun hc => absurd hc (by decide)⟩
        refine ai_iinc (j := 3) (v := (j + 1)) (lv' := [(3, .int (j + 1)), (0, .ref 2), (1, .int p1), (2, .int p2)]) dX3_declarations_50 rfl (by first | rfl | decide) (by decide) rfl ?_
        refine ai_goto (tgt := 2) dX3_declarations_53 (by decide) ?_
        refine ai_locj (lv' := [(0, .ref 2), (1, .int p1), (2, .int p2), (3, .int (j + 1))]) [1, 2, 3, 0] rfl ?_
        exact h
      · show ai_W _ _ _ _ _ _ _ _ _
        refine ai_if_ne (tgt := 50) dX3_declarations_23 (by decide) ⟨fun hc => absurd hc (by decide), fun _ => ?_⟩
        refine ai_iconst (v := 0) dX3_declarations_26 (by decide) ?_
        exact ai_retf dX3_declarations_27 rfl h
    · show ai_W _ _ _ _ _ _ _ _ _
      refine ai_if_eq (tgt := 28) dX3_declarations_15 (by decide) ⟨fun _ => ?_, fun hc => absurd hc (by decide)⟩
      refine ai_aload_n dX3_declarations_28 rfl (j := 0) rfl ?_
      refine ai_bipush (v := 64) dX3_declarations_29 (by decide) ?_
      refine ai_callVz (As := [.int 64]) (rest := []) dX3_declarations_31 cvX3_73 rfl rfl rfl (Nat.le_of_ble_eq_true rfl) (ai_met.mz h (fun S7 h => ?_) (fun S7 h => ?_))
      · show ai_W _ _ _ _ _ _ _ _ _
        refine ai_if_eq (tgt := 48) dX3_declarations_34 (by decide) ⟨fun hc => absurd hc (by decide), fun _ => ?_⟩
        refine ai_aload_n dX3_declarations_37 rfl (j := 0) rfl ?_
        refine ai_iload_n dX3_declarations_38 rfl (j := 1) rfl ?_
        refine ai_iload_n dX3_declarations_39 rfl (j := 2) rfl ?_
        refine ai_callVz (As := [.int p1, .int p2]) (rest := []) dX3_declarations_40 cvX3_131 rfl rfl rfl (Nat.le_of_ble_eq_true rfl) (ai_met.mz h (fun S9 h => ?_) (fun S9 h => ?_))
        · show ai_W _ _ _ _ _ _ _ _ _
          refine ai_if_ne (tgt := 50) dX3_declarations_43 (by decide) ⟨fun _ => ?_, fun hc => absurd hc (by decide)⟩
          refine ai_iinc (j := 3) (v := (j + 1)) (lv' := [(3, .int (j + 1)), (0, .ref 2), (1, .int p1), (2, .int p2)]) dX3_declarations_50 rfl (by first | rfl | decide) (by decide) rfl ?_
          refine ai_goto (tgt := 2) dX3_declarations_53 (by decide) ?_
          refine ai_locj (lv' := [(0, .ref 2), (1, .int p1), (2, .int p2), (3, .int (j + 1))]) [1, 2, 3, 0] rfl ?_
          exact h
        · show ai_W _ _ _ _ _ _ _ _ _
          refine ai_if_ne (tgt := 50) dX3_declarations_43 (by decide) ⟨fun hc => absurd hc (by decide), fun _ => ?_⟩
          refine ai_iconst (v := 0) dX3_declarations_46 (by decide) ?_
          exact ai_retf dX3_declarations_47 rfl h
      · show ai_W _ _ _ _ _ _ _ _ _
        refine ai_if_eq (tgt := 48) dX3_declarations_34 (by decide) ⟨fun _ => ?_, fun hc => absurd hc (by decide)⟩
        refine ai_iconst (v := 1) dX3_declarations_48 (by decide) ?_
        exact ai_rett dX3_declarations_49 rfl h
set_option maxHeartbeats 4000000 in
set_option maxRecDepth 100000 in
theorem vX3_formals {p1 : Int32} {S : ai_S} {V : ai_V} {G : Bool → ai_S → Prop} (hV3 : V 2 3 = .ref 26)
    (h : ai_met (uC l D ρ τ) d mX3_take [.ref 2, .int 41] S V (ai_qz V (fun b1 S2 => (b1 = true → G true S2) ∧ (b1 = false → ai_W (uC l D ρ τ) (d + 1) mX3_formals 21 [(0, .ref 2), (1, .int p1), (2, .int (S2 3 4)), (3, .int 0)] [] S2 V (ai_qz V G))))) :
    ai_met (uC l D ρ τ) (d + 1) mX3_formals [.ref 2, .int p1] S V (ai_qz V G) := by
  refine ai_mof plX3 (Nat.le_of_ble_eq_true rfl) (lv := [(0, .ref 2), (1, .int p1)]) rfl ?_
  refine ai_aload_n dX3_formals_0 rfl (j := 0) rfl ?_
  refine ai_bipush (v := 41) dX3_formals_1 (by decide) ?_
  refine ai_callVz (As := [.int 41]) (rest := []) dX3_formals_3 cvX3_73 rfl rfl rfl (Nat.le_of_ble_eq_true rfl) (ai_met.mz h (fun S2 h => ?_) (fun S2 h => ?_))
  · show ai_W _ _ _ _ _ _ _ _ _
    refine ai_if_eq (tgt := 11) dX3_formals_6 (by decide) ⟨fun hc => absurd hc (by decide), fun _ => ?_⟩
    refine ai_iconst (v := 1) dX3_formals_9 (by decide) ?_
    exact ai_rett dX3_formals_10 rfl h
  · show ai_W _ _ _ _ _ _ _ _ _
    refine ai_if_eq (tgt := 11) dX3_formals_6 (by decide) ⟨fun _ => ?_, fun hc => absurd hc (by decide)⟩
    refine ai_aload_n dX3_formals_11 rfl (j := 0) rfl ?_
    refine ai_getR dX3_formals_12 fdX3_12 rfl rfl ?_
    refine ai_getI dX3_formals_15 fdX3_116 rfl rfl ?_
    refine ai_istore_n (lv' := [(2, .int (S2 3 4)), (0, .ref 2), (1, .int p1)]) dX3_formals_18 rfl (by decide) rfl ?_
    refine ai_iconst (v := 0) dX3_formals_19 (by decide) ?_
    refine ai_istore_n (lv' := [(3, .int 0), (2, .int (S2 3 4)), (0, .ref 2), (1, .int p1)]) dX3_formals_20 rfl (by decide) rfl ?_
    refine ai_locj (lv' := [(0, .ref 2), (1, .int p1), (2, .int (S2 3 4)), (3, .int 0)]) [2, 3, 1, 0] rfl ?_
    exact h
set_option maxHeartbeats 4000000 in
set_option maxRecDepth 100000 in
theorem vX3_formals_21 {p1 : Int32} {mk : Int32} {j : Int32} {S : ai_S} {V : ai_V} {G : Bool → ai_S → Prop} (hV3 : V 2 3 = .ref 26)
    (h : ((6 ≤ j → G false S) ∧ (¬ 6 ≤ j → ai_met (uC l D ρ τ) d mX3_take [.ref 2, .int 35] S V (ai_qz V (fun b2 S3 => (b2 = true → ai_met (uC l D ρ τ) d mX3_takeName [.ref 2] S3 V (ai_qi V (fun x4 S5 => ((¬ x4 = 0 → ai_met (uC l D ρ τ) d mX3_declare [.ref 2, .int x4, .int 0, .int (1 + j), .int mk] S5 V (ai_qv V (fun S8 => ai_met (uC l D ρ τ) d mX2_setFormalCount [.ref 26, .int p1, .int (j + 1)] S8 V (ai_qv V (fun S10 => ai_met (uC l D ρ τ) d mX2_add [.ref 26, .int 12, .int (1 + j), .int 0] S10 V (ai_qi V (fun x11 S12 => ai_met (uC l D ρ τ) d mX2_add [.ref 26, .int 16, .int (1 + j), .int 0] S12 V (ai_qi V (fun x13 S14 => ai_met (uC l D ρ τ) d mX3_take [.ref 2, .int 41] S14 V (ai_qz V (fun b15 S16 => (b15 = true → G true S16) ∧ (b15 = false → ai_met (uC l D ρ τ) d mX3_take [.ref 2, .int 44] S16 V (ai_qz V (fun b17 S18 => (b17 = true → ai_W (uC l D ρ τ) (d + 1) mX3_formals 21 [(0, .ref 2), (1, .int p1), (2, .int mk), (3, .int (j + 1))] [] S18 V (ai_qz V G)) ∧ (b17 = false → G false S18))))))))))))))) ∧ (x4 = 0 → G false S5))))) ∧ (b2 = false → ai_met (uC l D ρ τ) d mX3_takeName [.ref 2] S3 V (ai_qi V (fun x19 S20 => ((¬ x19 = 0 → ai_met (uC l D ρ τ) d mX3_declare [.ref 2, .int x19, .int 1, .int (1 + j), .int mk] S20 V (ai_qv V (fun S23 => ai_met (uC l D ρ τ) d mX2_setFormalCount [.ref 26, .int p1, .int (j + 1)] S23 V (ai_qv V (fun S25 => ai_met (uC l D ρ τ) d mX3_take [.ref 2, .int 41] S25 V (ai_qz V (fun b26 S27 => (b26 = true → G true S27) ∧ (b26 = false → ai_met (uC l D ρ τ) d mX3_take [.ref 2, .int 44] S27 V (ai_qz V (fun b28 S29 => (b28 = true → ai_W (uC l D ρ τ) (d + 1) mX3_formals 21 [(0, .ref 2), (1, .int p1), (2, .int mk), (3, .int (j + 1))] [] S29 V (ai_qz V G)) ∧ (b28 = false → G false S29))))))))))) ∧ (x19 = 0 → G false S20)))))))))) :
    ai_W (uC l D ρ τ) (d + 1) mX3_formals 21 [(0, .ref 2), (1, .int p1), (2, .int mk), (3, .int j)] [] S V (ai_qz V G) := by
  refine ai_iload_n dX3_formals_21 rfl (j := 3) rfl ?_
  refine ai_bipush (v := 6) dX3_formals_22 (by decide) ?_
  refine ai_icmp_ge (tgt := 142) dX3_formals_24 (by decide) ⟨fun (hc1 : 6 ≤ j) => ?_, fun (hc1 : ¬ 6 ≤ j) => ?_⟩
  · have h := h.1 hc1
    refine ai_iconst (v := 0) dX3_formals_142 (by decide) ?_
    exact ai_retf dX3_formals_143 rfl h
  · have h := h.2 hc1
    refine ai_aload_n dX3_formals_27 rfl (j := 0) rfl ?_
    refine ai_bipush (v := 35) dX3_formals_28 (by decide) ?_
    refine ai_callVz (As := [.int 35]) (rest := []) dX3_formals_30 cvX3_73 rfl rfl rfl (Nat.le_of_ble_eq_true rfl) (ai_met.mz h (fun S3 h => ?_) (fun S3 h => ?_))
    · show ai_W _ _ _ _ _ _ _ _ _
      refine ai_istore (lv' := [(4, .int 1), (0, .ref 2), (1, .int p1), (2, .int mk), (3, .int j)]) dX3_formals_33 (by decide) rfl ?_
      refine ai_aload_n dX3_formals_35 rfl (j := 1) rfl ?_
      refine ai_callVi (As := []) (rest := []) dX3_formals_36 cvX3_88 rfl rfl rfl (Nat.le_of_ble_eq_true rfl) (ai_met.mi h (fun x4 S5 h => ?_))
      refine ai_istore (lv' := [(5, .int x4), (4, .int 1), (0, .ref 2), (1, .int p1), (2, .int mk), (3, .int j)]) dX3_formals_39 (by decide) rfl ?_
      refine ai_iload dX3_formals_41 (j := 0) rfl ?_
      refine ai_if_ne (tgt := 48) dX3_formals_43 (by decide) ⟨fun (hc6 : ¬ x4 = 0) => ?_, fun (hc6 : x4 = 0) => ?_⟩
      · have h := h.1 hc6
        refine ai_iconst (v := 1) dX3_formals_48 (by decide) ?_
        refine ai_iload_n dX3_formals_49 rfl (j := 5) rfl ?_
        refine ai_iadd dX3_formals_50 ?_
        refine ai_istore (lv' := [(6, .int (1 + j)), (5, .int x4), (4, .int 1), (0, .ref 2), (1, .int p1), (2, .int mk), (3, .int j)]) dX3_formals_51 (by decide) rfl ?_
        refine ai_aload_n dX3_formals_53 rfl (j := 3) rfl ?_
        refine ai_iload dX3_formals_54 (j := 1) rfl ?_
        refine ai_iload dX3_formals_56 (j := 2) rfl ?_
        refine ai_if_eq (tgt := 65) dX3_formals_58 (by decide) ⟨fun hc => absurd hc (by decide), fun _ => ?_⟩
        refine ai_iconst (v := 0) dX3_formals_61 (by decide) ?_
        refine ai_goto (tgt := 66) dX3_formals_62 (by decide) ?_
        refine ai_iload dX3_formals_66 (j := 0) rfl ?_
        refine ai_iload_n dX3_formals_68 rfl (j := 5) rfl ?_
        refine ai_callVv (As := [.int x4, .int 0, .int (1 + j), .int mk]) (rest := []) dX3_formals_69 cvX3_137 rfl rfl rfl (Nat.le_of_ble_eq_true rfl) (ai_met.mv h (fun S8 h => ?_))
        refine ai_aload_n dX3_formals_72 rfl (j := 3) rfl ?_
        refine ai_getV dX3_formals_73 fdX3_18 rfl rfl ⟨hV3, ?_⟩
        refine ai_iload_n dX3_formals_76 rfl (j := 4) rfl ?_
        refine ai_iload_n dX3_formals_77 rfl (j := 6) rfl ?_
        refine ai_iconst (v := 1) dX3_formals_78 (by decide) ?_
        refine ai_iadd dX3_formals_79 ?_
        refine ai_callVv (As := [.int p1, .int (j + 1)]) (rest := []) dX3_formals_80 cvX3_155 rfl rfl rfl (Nat.le_of_ble_eq_true rfl) (ai_met.mv h (fun S10 h => ?_))
        refine ai_iload dX3_formals_83 (j := 2) rfl ?_
        refine ai_if_eq (tgt := 114) dX3_formals_85 (by decide) ⟨fun hc => absurd hc (by decide), fun _ => ?_⟩
        refine ai_aload_n dX3_formals_88 rfl (j := 3) rfl ?_
        refine ai_getV dX3_formals_89 fdX3_18 rfl rfl ⟨hV3, ?_⟩
        refine ai_bipush (v := 12) dX3_formals_92 (by decide) ?_
        refine ai_iload dX3_formals_94 (j := 0) rfl ?_
        refine ai_iconst (v := 0) dX3_formals_96 (by decide) ?_
        refine ai_callVi (As := [.int 12, .int (1 + j), .int 0]) (rest := []) dX3_formals_97 cvX3_57 rfl rfl rfl (Nat.le_of_ble_eq_true rfl) (ai_met.mi h (fun x11 S12 h => ?_))
        refine ai_pop dX3_formals_100 rfl ?_
        refine ai_aload_n dX3_formals_101 rfl (j := 3) rfl ?_
        refine ai_getV dX3_formals_102 fdX3_18 rfl rfl ⟨hV3, ?_⟩
        refine ai_bipush (v := 16) dX3_formals_105 (by decide) ?_
        refine ai_iload dX3_formals_107 (j := 0) rfl ?_
        refine ai_iconst (v := 0) dX3_formals_109 (by decide) ?_
        refine ai_callVi (As := [.int 16, .int (1 + j), .int 0]) (rest := []) dX3_formals_110 cvX3_57 rfl rfl rfl (Nat.le_of_ble_eq_true rfl) (ai_met.mi h (fun x13 S14 h => ?_))
        refine ai_pop dX3_formals_113 rfl ?_
        refine ai_aload_n dX3_formals_114 rfl (j := 3) rfl ?_
        refine ai_bipush (v := 41) dX3_formals_115 (by decide) ?_
        refine ai_callVz (As := [.int 41]) (rest := []) dX3_formals_117 cvX3_73 rfl rfl rfl (Nat.le_of_ble_eq_true rfl) (ai_met.mz h (fun S16 h => ?_) (fun S16 h => ?_))
        · show ai_W _ _ _ _ _ _ _ _ _
          refine ai_if_eq (tgt := 125) dX3_formals_120 (by decide) ⟨fun hc => absurd hc (by decide), fun _ => ?_⟩
          refine ai_iconst (v := 1) dX3_formals_123 (by decide) ?_
          exact ai_rett dX3_formals_124 rfl h
        · show ai_W _ _ _ _ _ _ _ _ _
          refine ai_if_eq (tgt := 125) dX3_formals_120 (by decide) ⟨fun _ => ?_, fun hc => absurd hc (by decide)⟩
          refine ai_aload_n dX3_formals_125 rfl (j := 3) rfl ?_
          refine ai_bipush (v := 44) dX3_formals_126 (by decide) ?_
          refine ai_callVz (As := [.int 44]) (rest := []) dX3_formals_128 cvX3_73 rfl rfl rfl (Nat.le_of_ble_eq_true rfl) (ai_met.mz h (fun S18 h => ?_) (fun S18 h => ?_))
          · show ai_W _ _ _ _ _ _ _ _ _
            refine ai_if_ne (tgt := 136) dX3_formals_131 (by decide) ⟨fun _ => ?_, fun hc => absurd hc (by decide)⟩
            refine ai_iinc (j := 6) (v := (j + 1)) (lv' := [(3, .int (j + 1)), (6, .int (1 + j)), (5, .int x4), (4, .int 1), (0, .ref 2), (1, .int p1), (2, .int mk)]) dX3_formals_136 rfl (by first | rfl | decide) (by decide) rfl ?_
            refine ai_goto (tgt := 21) dX3_formals_139 (by decide) ?_
            refine ai_locj (lv' := [(0, .ref 2), (1, .int p1), (2, .int mk), (3, .int (j + 1))]) [4, 5, 6, 0] rfl ?_
            exact h
          · show ai_W _ _ _ _ _ _ _ _ _
            refine ai_if_ne (tgt := 136) dX3_formals_131 (by decide) ⟨fun hc => absurd hc (by decide), fun _ => ?_⟩
            refine ai_iconst (v := 0) dX3_formals_134 (by decide) ?_
            exact ai_retf dX3_formals_135 rfl h
      · have h := h.2 hc6
        refine ai_iconst (v := 0) dX3_formals_46 (by decide) ?_
        exact ai_retf dX3_formals_47 rfl h
    · show ai_W _ _ _ _ _ _ _ _ _
      refine ai_istore (lv' := [(4, .int 0), (0, .ref 2), (1, .int p1), (2, .int mk), (3, .int j)]) dX3_formals_33 (by decide) rfl ?_
      refine ai_aload_n dX3_formals_35 rfl (j := 1) rfl ?_
      refine ai_callVi (As := []) (rest := []) dX3_formals_36 cvX3_88 rfl rfl rfl (Nat.le_of_ble_eq_true rfl) (ai_met.mi h (fun x19 S20 h => ?_))
      refine ai_istore (lv' := [(5, .int x19), (4, .int 0), (0, .ref 2), (1, .int p1), (2, .int mk), (3, .int j)]) dX3_formals_39 (by decide) rfl ?_
      refine ai_iload dX3_formals_41 (j := 0) rfl ?_
      refine ai_if_ne (tgt := 48) dX3_formals_43 (by decide) ⟨fun (hc21 : ¬ x19 = 0) => ?_, fun (hc21 : x19 = 0) => ?_⟩
      · have h := h.1 hc21
        refine ai_iconst (v := 1) dX3_formals_48 (by decide) ?_
        refine ai_iload_n dX3_formals_49 rfl (j := 5) rfl ?_
        refine ai_iadd dX3_formals_50 ?_
        refine ai_istore (lv' := [(6, .int (1 + j)), (5, .int x19), (4, .int 0), (0, .ref 2), (1, .int p1), (2, .int mk), (3, .int j)]) dX3_formals_51 (by decide) rfl ?_
        refine ai_aload_n dX3_formals_53 rfl (j := 3) rfl ?_
        refine ai_iload dX3_formals_54 (j := 1) rfl ?_
        refine ai_iload dX3_formals_56 (j := 2) rfl ?_
        refine ai_if_eq (tgt := 65) dX3_formals_58 (by decide) ⟨fun _ => ?_, fun hc => absurd hc (by decide)⟩
        refine ai_iconst (v := 1) dX3_formals_65 (by decide) ?_
        refine ai_iload dX3_formals_66 (j := 0) rfl ?_
        refine ai_iload_n dX3_formals_68 rfl (j := 5) rfl ?_
        refine ai_callVv (As := [.int x19, .int 1, .int (1 + j), .int mk]) (rest := []) dX3_formals_69 cvX3_137 rfl rfl rfl (Nat.le_of_ble_eq_true rfl) (ai_met.mv h (fun S23 h => ?_))
        refine ai_aload_n dX3_formals_72 rfl (j := 3) rfl ?_
        refine ai_getV dX3_formals_73 fdX3_18 rfl rfl ⟨hV3, ?_⟩
        refine ai_iload_n dX3_formals_76 rfl (j := 4) rfl ?_
        refine ai_iload_n dX3_formals_77 rfl (j := 6) rfl ?_
        refine ai_iconst (v := 1) dX3_formals_78 (by decide) ?_
        refine ai_iadd dX3_formals_79 ?_
        refine ai_callVv (As := [.int p1, .int (j + 1)]) (rest := []) dX3_formals_80 cvX3_155 rfl rfl rfl (Nat.le_of_ble_eq_true rfl) (ai_met.mv h (fun S25 h => ?_))
        refine ai_iload dX3_formals_83 (j := 2) rfl ?_
        refine ai_if_eq (tgt := 114) dX3_formals_85 (by decide) ⟨fun _ => ?_, fun hc => absurd hc (by decide)⟩
        refine ai_aload_n dX3_formals_114 rfl (j := 3) rfl ?_
        refine ai_bipush (v := 41) dX3_formals_115 (by decide) ?_
        refine ai_callVz (As := [.int 41]) (rest := []) dX3_formals_117 cvX3_73 rfl rfl rfl (Nat.le_of_ble_eq_true rfl) (ai_met.mz h (fun S27 h => ?_) (fun S27 h => ?_))
        · show ai_W _ _ _ _ _ _ _ _ _
          refine ai_if_eq (tgt := 125) dX3_formals_120 (by decide) ⟨fun hc => absurd hc (by decide), fun _ => ?_⟩
          refine ai_iconst (v := 1) dX3_formals_123 (by decide) ?_
          exact ai_rett dX3_formals_124 rfl h
        · show ai_W _ _ _ _ _ _ _ _ _
          refine ai_if_eq (tgt := 125) dX3_formals_120 (by decide) ⟨fun _ => ?_, fun hc => absurd hc (by decide)⟩
          refine ai_aload_n dX3_formals_125 rfl (j := 3) rfl ?_
          refine ai_bipush (v := 44) dX3_formals_126 (by decide) ?_
          refine ai_callVz (As := [.int 44]) (rest := []) dX3_formals_128 cvX3_73 rfl rfl rfl (Nat.le_of_ble_eq_true rfl) (ai_met.mz h (fun S29 h => ?_) (fun S29 h => ?_))
          · show ai_W _ _ _ _ _ _ _ _ _
            refine ai_if_ne (tgt := 136) dX3_formals_131 (by decide) ⟨fun _ => ?_, fun hc => absurd hc (by decide)⟩
            refine ai_iinc (j := 6) (v := (j + 1)) (lv' := [(3, .int (j + 1)), (6, .int (1 + j)), (5, .int x19), (4, .int 0), (0, .ref 2), (1, .int p1), (2, .int mk)]) dX3_formals_136 rfl (by first | rfl | decide) (by decide) rfl ?_
            refine ai_goto (tgt := 21) dX3_formals_139 (by decide) ?_
            refine ai_locj (lv' := [(0, .ref 2), (1, .int p1), (2, .int mk), (3, .int (j + 1))]) [4, 5, 6, 0] rfl ?_
            exact h
          · show ai_W _ _ _ _ _ _ _ _ _
            refine ai_if_ne (tgt := 136) dX3_formals_131 (by decide) ⟨fun hc => absurd hc (by decide), fun _ => ?_⟩
            refine ai_iconst (v := 0) dX3_formals_134 (by decide) ?_
            exact ai_retf dX3_formals_135 rfl h
      · have h := h.2 hc21
        refine ai_iconst (v := 0) dX3_formals_46 (by decide) ?_
        exact ai_retf dX3_formals_47 rfl h
set_option maxHeartbeats 4000000 in
set_option maxRecDepth 100000 in
theorem vX3_readInto {p3 : Int32} {S : ai_S} {V : ai_V} {G : Int32 → ai_S → ai_V → Prop}
    (h : ai_met (uC l D ρ τ) d mX3_statement [.ref 2, .int 1] (ai_up (ai_up (ai_up (ai_up (ai_up (ai_up (ai_up (ai_up (ai_up (ai_up (ai_up S 26 3 0) 26 6 0) 26 7 0) 26 8 0) 26 9 0) 3 4 0) 3 5 0) 3 7 7) 2 1 (if 320 < p3 then 320 else p3)) 2 2 0) 2 5 1) (ai_uv (ai_uv V 2 3 (.ref 26)) 2 0 (.ref 1)) (ai_qz (ai_uv (ai_uv V 2 3 (.ref 26)) 2 0 (.ref 1)) (fun b1 S2 => (b1 = true → ai_met (uC l D ρ τ) d mX3_look [.ref 2] S2 (ai_uv (ai_uv V 2 3 (.ref 26)) 2 0 (.ref 1)) (ai_qi (ai_uv (ai_uv V 2 3 (.ref 26)) 2 0 (.ref 1)) (fun x3 S4 => ((x3 = 0 → ai_met (uC l D ρ τ) d mX2_add [.ref 26, .int 0, .int 0, .int 0] S4 (ai_uv (ai_uv V 2 3 (.ref 26)) 2 0 (.ref 1)) (ai_qi (ai_uv (ai_uv V 2 3 (.ref 26)) 2 0 (.ref 1)) (fun x6 S7 => (((S7 2 5) = 0 → G (-2) S7 (ai_uv (ai_uv V 2 3 (.ref 26)) 2 0 (.ref 1))) ∧ (¬ (S7 2 5) = 0 → G 0 S7 (ai_uv (ai_uv V 2 3 (.ref 26)) 2 0 (.ref 1))))))) ∧ (¬ x3 = 0 → G (-1) S4 (ai_uv (ai_uv V 2 3 (.ref 26)) 2 0 (.ref 1))))))) ∧ (b1 = false → G (-1) S2 (ai_uv (ai_uv V 2 3 (.ref 26)) 2 0 (.ref 1)))))) :
    ai_met (uC l D ρ τ) (d + 1) mX3_readInto [.ref 2, .ref 26, .ref 1, .int p3] S V (ai_pi G) := by
  refine ai_mof plX3 (Nat.le_of_ble_eq_true rfl) (lv := [(0, .ref 2), (1, .ref 26), (2, .ref 1), (3, .int p3)]) rfl ?_
  refine ai_aload_n dX3_readInto_0 rfl (j := 0) rfl ?_
  refine ai_aload_n dX3_readInto_1 rfl (j := 1) rfl ?_
  refine ai_putV (v := .ref 26) dX3_readInto_2 fdX3_18 pdX3_3 rfl rfl rfl rfl ?_
  refine ai_aload_n dX3_readInto_5 rfl (j := 0) rfl ?_
  refine ai_aload_n dX3_readInto_6 rfl (j := 2) rfl ?_
  refine ai_putV (v := .ref 1) dX3_readInto_7 fdX3_22 pdX3_0 rfl rfl rfl rfl ?_
  refine ai_aload_n dX3_readInto_10 rfl (j := 0) rfl ?_
  refine ai_getV dX3_readInto_11 fdX3_18 rfl rfl ⟨rfl, ?_⟩
  refine ai_callVv (As := []) (rest := []) dX3_readInto_14 cvX3_26 rfl rfl rfl (Nat.le_of_ble_eq_true rfl) (vX2_clear_r ?_)
  show ai_W _ _ _ _ _ _ (ai_up (ai_up (ai_up (ai_up (ai_up S 26 3 0) 26 6 0) 26 7 0) 26 8 0) 26 9 0) _ _
  refine ai_aload_n dX3_readInto_17 rfl (j := 0) rfl ?_
  refine ai_getR dX3_readInto_18 fdX3_12 rfl rfl ?_
  refine ai_callVv (As := []) (rest := []) dX3_readInto_21 cvX3_31 rfl rfl rfl (Nat.le_of_ble_eq_true rfl) (vX4_clear ?_)
  show ai_W _ _ _ _ _ _ (ai_up (ai_up (ai_up (ai_up (ai_up (ai_up (ai_up (ai_up S 26 3 0) 26 6 0) 26 7 0) 26 8 0) 26 9 0) 3 4 0) 3 5 0) 3 7 7) _ _
  refine ai_aload_n dX3_readInto_24 rfl (j := 0) rfl ?_
  refine ai_iload_n dX3_readInto_25 rfl (j := 3) rfl ?_
  refine ai_aload_n dX3_readInto_26 rfl (j := 0) rfl ?_
  refine ai_getV dX3_readInto_27 fdX3_22 rfl rfl ⟨rfl, ?_⟩
  refine ai_alen_z (v := 320) dX3_readInto_30 rfl (by decide) ?_
  refine ai_mmin dX3_readInto_31 cxX3_32 (Nat.le_of_ble_eq_true rfl) ?_
  refine ai_putI dX3_readInto_34 fdX3_38 pdX3_1 rfl rfl rfl rfl ?_
  refine ai_aload_n dX3_readInto_37 rfl (j := 0) rfl ?_
  refine ai_iconst (v := 0) dX3_readInto_38 (by decide) ?_
  refine ai_putI dX3_readInto_39 fdX3_42 pdX3_2 rfl rfl rfl rfl ?_
  refine ai_aload_n dX3_readInto_42 rfl (j := 0) rfl ?_
  refine ai_iconst (v := 1) dX3_readInto_43 (by decide) ?_
  refine ai_putI dX3_readInto_44 fdX3_45 pdX3_5 rfl rfl rfl rfl ?_
  refine ai_aload_n dX3_readInto_47 rfl (j := 0) rfl ?_
  refine ai_iconst (v := 1) dX3_readInto_48 (by decide) ?_
  refine ai_callVz (As := [.int 1]) (rest := []) dX3_readInto_49 cvX3_49 rfl rfl rfl (Nat.le_of_ble_eq_true rfl) (ai_met.mz h (fun S2 h => ?_) (fun S2 h => ?_))
  · show ai_W _ _ _ _ _ _ _ _ _
    refine ai_if_eq (tgt := 62) dX3_readInto_52 (by decide) ⟨fun hc => absurd hc (by decide), fun _ => ?_⟩
    refine ai_aload_n dX3_readInto_55 rfl (j := 0) rfl ?_
    refine ai_callVi (As := []) (rest := []) dX3_readInto_56 cvX3_53 rfl rfl rfl (Nat.le_of_ble_eq_true rfl) (ai_met.mi h (fun x3 S4 h => ?_))
    refine ai_if_eq (tgt := 64) dX3_readInto_59 (by decide) ⟨fun (hc5 : x3 = 0) => ?_, fun (hc5 : ¬ x3 = 0) => ?_⟩
    · have h := h.1 hc5
      refine ai_aload_n dX3_readInto_64 rfl (j := 0) rfl ?_
      refine ai_getV dX3_readInto_65 fdX3_18 rfl rfl ⟨rfl, ?_⟩
      refine ai_iconst (v := 0) dX3_readInto_68 (by decide) ?_
      refine ai_iconst (v := 0) dX3_readInto_69 (by decide) ?_
      refine ai_iconst (v := 0) dX3_readInto_70 (by decide) ?_
      refine ai_callVi (As := [.int 0, .int 0, .int 0]) (rest := []) dX3_readInto_71 cvX3_57 rfl rfl rfl (Nat.le_of_ble_eq_true rfl) (ai_met.mi h (fun x6 S7 h => ?_))
      refine ai_pop dX3_readInto_74 rfl ?_
      refine ai_aload_n dX3_readInto_75 rfl (j := 0) rfl ?_
      refine ai_getI dX3_readInto_76 fdX3_45 rfl rfl ?_
      refine ai_if_eq (tgt := 86) dX3_readInto_79 (by decide) ⟨fun (hc8 : (S7 2 5) = 0) => ?_, fun (hc8 : ¬ (S7 2 5) = 0) => ?_⟩
      · have h := h.1 hc8
        refine ai_bipush (v := (-2)) dX3_readInto_86 (by decide) ?_
        exact ai_retp dX3_readInto_88 rfl h
      · have h := h.2 hc8
        refine ai_iconst (v := 0) dX3_readInto_82 (by decide) ?_
        refine ai_goto (tgt := 88) dX3_readInto_83 (by decide) ?_
        exact ai_retp dX3_readInto_88 rfl h
    · have h := h.2 hc5
      refine ai_iconst (v := (-1)) dX3_readInto_62 (by decide) ?_
      exact ai_retp dX3_readInto_63 rfl h
  · show ai_W _ _ _ _ _ _ _ _ _
    refine ai_if_eq (tgt := 62) dX3_readInto_52 (by decide) ⟨fun _ => ?_, fun hc => absurd hc (by decide)⟩
    refine ai_iconst (v := (-1)) dX3_readInto_62 (by decide) ?_
    exact ai_retp dX3_readInto_63 rfl h
end GC1
