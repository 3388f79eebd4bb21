/-! ===== printed, write ===== -/
theorem lw_lcmp {p : Program} {l : Launch} {e : Env} {R : Room} {s : State} {m : MethodId} {args : Array Value} {below : List Frame} {meth : Method} {c : Code} {H : Heap} {locs : List Loc} {cells slots : Nat} {Q : State → Prop} {cc : ByteArray} {pc : Nat} {ls : Array Slot} {rest : List Value} (hexec : p.tables.exec = Jvm.exec) (hb : c.code = cc) {x : Int64} (hdg : decode cc pc = .ok (.lcmp, 1)) (k : W p l e R s m args below meth c H locs cells slots Q (F0 m (pc + 1) ls (.int 0 :: rest))) : W p l e R s m args below meth c H locs cells slots Q (F0 m pc ls (.long x :: .long x :: rest)) := by
  intro T hT X
  obtain ⟨t, a, b⟩ := k T hT X
  refine ⟨t, ?_, b⟩
  jvm_step X.here [X.here.top, hexec, hb, hdg, Int64.lt_irrefl]
  exact a
section LWP
variable {p : Program} {l : Launch} {e : Env} {s : State} {m : MethodId} {below : List Frame} {meth : Method} {c : Code} {b L pc i5 i6 i a1 a2 : Nat} {xs : Nat → Int32} {D : va_G} {τ : Nat → ClassId} {ρ ρ' : Nat → Nat} {M5 M6 : ai_M} {C R : ai_S} {V VR : ai_V} {H : Heap} {locs : List Loc} {ls : Array Slot} {Q : State → Prop} {off : Int}
/-- a case with the script's next number -/
theorem lw_opL (B : lwB p s m c b L xs) (hK : cw_K D τ s) (hI : lwD (fun q : Nat => s.heap.size ≤ q) ρ ρ') (e1 : ρ 0 = a1) (e2 : ρ' 0 = a2) (hPN : va_P D vwCl (ai_w (uN l D ρ τ) C V) H) (hPM : va_P D vwCl (ai_w (uM l D ρ' τ) R VR) H) (hS : va_S (fun q : Nat => s.heap.size ≤ q) s.heap H locs) (hl : lv_has ls 4 [(0, .ref b), (1, .ref a1), (2, .ref a2), (3, .int (nI i))]) (hi : vp_in (nI i + 1) L)
    (fs : ∀ (y : Int32) Φ, fsL (uN l D ρ τ) 54 M5 [.ref 0, .int y] C V (uM l D ρ' τ) 8 M6 R VR Φ) (cv5 : ai_Cv RL i5 5 1 M5) (cv6 : ai_Cv RL i6 6 1 M6)
    (h0 : decode code pc = .ok (.aload_n 1, 1)) (g1 : decode code (pc + 1) = .ok (.aload_n 0, 1)) (g2 : decode code (pc + 1 + 1) = .ok (.iload_n 3, 1)) (g3 : decode code (pc + 1 + 1 + 1) = .ok (.iconst 1, 1)) (g4 : decode code (pc + 1 + 1 + 1 + 1) = .ok (.iadd, 1)) (g5 : decode code (pc + 1 + 1 + 1 + 1 + 1) = .ok (.iaload, 1)) (h1 : decode code (pc + 1 + 1 + 1 + 1 + 1 + 1) = .ok (.invokevirtual i5, 3))
    (h2 : decode code (pc + 1 + 1 + 1 + 1 + 1 + 1 + 3) = .ok (.aload_n 2, 1)) (k1 : decode code (pc + 1 + 1 + 1 + 1 + 1 + 1 + 3 + 1) = .ok (.aload_n 0, 1)) (k2 : decode code (pc + 1 + 1 + 1 + 1 + 1 + 1 + 3 + 1 + 1) = .ok (.iload_n 3, 1)) (k3 : decode code (pc + 1 + 1 + 1 + 1 + 1 + 1 + 3 + 1 + 1 + 1) = .ok (.iconst 1, 1)) (k4 : decode code (pc + 1 + 1 + 1 + 1 + 1 + 1 + 3 + 1 + 1 + 1 + 1) = .ok (.iadd, 1)) (k5 : decode code (pc + 1 + 1 + 1 + 1 + 1 + 1 + 3 + 1 + 1 + 1 + 1 + 1) = .ok (.iaload, 1)) (h3 : decode code (pc + 1 + 1 + 1 + 1 + 1 + 1 + 3 + 1 + 1 + 1 + 1 + 1 + 1) = .ok (.invokevirtual i6, 3))
    (h4 : decode code (pc + 1 + 1 + 1 + 1 + 1 + 1 + 3 + 1 + 1 + 1 + 1 + 1 + 1 + 3) = .ok (.lcmp, 1)) (h5 : decode code (pc + 1 + 1 + 1 + 1 + 1 + 1 + 3 + 1 + 1 + 1 + 1 + 1 + 1 + 3 + 1) = .ok (.ifCond .eq off, 3)) (ht : ((pc + 1 + 1 + 1 + 1 + 1 + 1 + 3 + 1 + 1 + 1 + 1 + 1 + 1 + 3 + 1 : Nat) : Int) + off = ((306 : Nat) : Int))
    (kk : ∀ (C2 : ai_S) (V2 : ai_V) (R2 : ai_S) (H1 : Heap) (locs1 : List Loc), NVs C2 V2 R2 → va_P D vwCl (ai_w (uN l D ρ τ) C2 V2) H1 → va_P D vwCl (ai_w (uM l D ρ' τ) R2 VR) H1 → va_S (fun q : Nat => s.heap.size ≤ q) s.heap H1 locs1 → W p l e room_1 s m #[Value.ref b] below meth c H1 locs1 600000 7302250 Q (F0 m 306 ls [])) :
    W p l e room_1 s m #[Value.ref b] below meth c H locs 600000 7302250 Q (F0 m pc ls []) := by
  obtain ⟨hx, hb, hml, hown, hts, hX, hbl⟩ := B
  have hbA : ¬ (fun q : Nat => s.heap.size ≤ q) b := Nat.not_le.mpr hbl
  subst e1
  subst e2
  refine lv_aload_n hx hb h0 rfl (lv_at hl 1 rfl) ?_
  refine lv_aload_n hx hb g1 rfl (lv_at hl 0 rfl) ?_
  refine lv_iload_n hx hb g2 rfl (lv_at hl 3 rfl) ?_
  refine lv_iconst (v := 1) hx hb g3 (by decide) ?_
  refine lv_iadd hx hb g4 ?_
  refine va_sld hx hb hX hbl hbA hS hi g5 ?_
  refine lw_c1L (As := [.int (xs (nI i + 1).toNatClampNeg)]) (rest := []) hx hb hml hown hts hK hI cv5 rfl rfl (Nat.le_of_ble_eq_true rfl) (fs _) h1 ⟨Nat.le_refl _, Nat.le_refl _⟩ hPN hPM hS hl.1 (fun x H1 locs1 hP1 hS1 hF => ?_)
  refine lv_aload_n hx hb h2 rfl (lv_at hl 2 rfl) ?_
  refine lv_aload_n hx hb k1 rfl (lv_at hl 0 rfl) ?_
  refine lv_iload_n hx hb k2 rfl (lv_at hl 3 rfl) ?_
  refine lv_iconst (v := 1) hx hb k3 (by decide) ?_
  refine lv_iadd hx hb k4 ?_
  refine va_sld hx hb hX hbl hbA hS1 hi k5 ?_
  refine lw_c2L (As := [.int (xs (nI i + 1).toNatClampNeg)]) (rest := [.long x]) hx hb hml hown hts hK hI cv6 rfl rfl (Nat.le_of_ble_eq_true rfl) hF h3 ⟨Nat.le_refl _, Nat.le_refl _⟩ hP1 hS1 hl.1 (fun C2 V2 R2 H2 locs2 hN hPN2 hPM2 hS2 => ?_)
  refine lw_lcmp hx hb h4 ?_
  exact lv_if_eq (tgt := 306) hx hb h5 ht (fun _ => kk C2 V2 R2 H2 locs2 hN hPN2 hPM2 hS2) (fun h => absurd rfl h)
/-- a word is written -/
theorem lw_opW (B : lwB p s m c b L xs) (hK : cw_K D τ s) (hI : lwD (fun q : Nat => s.heap.size ≤ q) ρ ρ') (e1 : ρ 0 = a1) (e2 : ρ' 0 = a2) (hPN : va_P D vwCl (ai_w (uN l D ρ τ) C V) H) (hPM : va_P D vwCl (ai_w (uM l D ρ' τ) R VR) H) (hS : va_S (fun q : Nat => s.heap.size ≤ q) s.heap H locs) (hl : lv_has ls 4 [(0, .ref b), (1, .ref a1), (2, .ref a2), (3, .int (nI i))]) (hi1 : vp_in (nI i + 1) L) (hi2 : vp_in (nI i + 2) L)
    (fs : ∀ (y : Int64) Φ, fsI (uN l D ρ τ) 54 mX5_write [.ref 0, .long y] C V (uM l D ρ' τ) 8 mX6_write R VR Φ)
    (kk : ∀ (C2 : ai_S) (V2 : ai_V) (R2 : ai_S) (H1 : Heap) (locs1 : List Loc), NVs C2 V2 R2 → va_P D vwCl (ai_w (uN l D ρ τ) C2 V2) H1 → va_P D vwCl (ai_w (uM l D ρ' τ) R2 VR) H1 → va_S (fun q : Nat => s.heap.size ≤ q) s.heap H1 locs1 → W p l e room_1 s m #[Value.ref b] below meth c H1 locs1 600000 7302250 Q (F0 m 306 ls [])) :
    W p l e room_1 s m #[Value.ref b] below meth c H locs 600000 7302250 Q (F0 m 92 ls []) := by
  obtain ⟨hx, hb, hml, hown, hts, hX, hbl⟩ := B
  have hbA : ¬ (fun q : Nat => s.heap.size ≤ q) b := Nat.not_le.mpr hbl
  subst e1
  subst e2
  refine lv_aload_n hx hb dL_law_92 rfl (lv_at hl 1 rfl) ?_
  refine lv_aload_n hx hb dL_law_93 rfl (lv_at hl 0 rfl) ?_
  refine lv_iload_n hx hb dL_law_94 rfl (lv_at hl 3 rfl) ?_
  refine lv_iconst (v := 1) hx hb dL_law_95 (by decide) ?_
  refine lv_iadd hx hb dL_law_96 ?_
  refine va_sld hx hb hX hbl hbA hS hi1 dL_law_97 ?_
  refine lv_i2l hx hb dL_law_98 rfl ?_
  refine lv_bipush (v := 32) hx hb dL_law_99 (by decide) ?_
  refine lv_lshl hx hb dL_law_101 rfl ?_
  refine lv_aload_n hx hb dL_law_102 rfl (lv_at hl 0 rfl) ?_
  refine lv_iload_n hx hb dL_law_103 rfl (lv_at hl 3 rfl) ?_
  refine lv_iconst (v := 2) hx hb dL_law_104 (by decide) ?_
  refine lv_iadd hx hb dL_law_105 ?_
  refine va_sld hx hb hX hbl hbA hS hi2 dL_law_106 ?_
  refine lv_i2l hx hb dL_law_107 rfl ?_
  refine lv_ldc2 hx hb hown (hts (.constantLong RL 13 4294967295) (by decide +kernel)) dL_law_108 ?_
  refine lv_land hx hb dL_law_111 ?_
  refine lv_lor hx hb dL_law_112 ?_
  refine lw_c1 (As := [.long (((xs (nI i + 1).toNatClampNeg).toInt64 <<< ((32 : Int32).toInt64 &&& 63)) ||| ((xs (nI i + 2).toNatClampNeg).toInt64 &&& 4294967295))]) (rest := []) hx hb hml hown hts hK hI cvL_15 rfl rfl (Nat.le_of_ble_eq_true rfl) (fs _) dL_law_113 ⟨Nat.le_refl _, Nat.le_refl _⟩ hPN hPM hS hl.1 (fun x H1 locs1 hP1 hS1 hF => ?_)
  refine lv_aload_n hx hb dL_law_116 rfl (lv_at hl 2 rfl) ?_
  refine lv_aload_n hx hb dL_law_117 rfl (lv_at hl 0 rfl) ?_
  refine lv_iload_n hx hb dL_law_118 rfl (lv_at hl 3 rfl) ?_
  refine lv_iconst (v := 1) hx hb dL_law_119 (by decide) ?_
  refine lv_iadd hx hb dL_law_120 ?_
  refine va_sld hx hb hX hbl hbA hS1 hi1 dL_law_121 ?_
  refine lv_i2l hx hb dL_law_122 rfl ?_
  refine lv_bipush (v := 32) hx hb dL_law_123 (by decide) ?_
  refine lv_lshl hx hb dL_law_125 rfl ?_
  refine lv_aload_n hx hb dL_law_126 rfl (lv_at hl 0 rfl) ?_
  refine lv_iload_n hx hb dL_law_127 rfl (lv_at hl 3 rfl) ?_
  refine lv_iconst (v := 2) hx hb dL_law_128 (by decide) ?_
  refine lv_iadd hx hb dL_law_129 ?_
  refine va_sld hx hb hX hbl hbA hS1 hi2 dL_law_130 ?_
  refine lv_i2l hx hb dL_law_131 rfl ?_
  refine lv_ldc2 hx hb hown (hts (.constantLong RL 13 4294967295) (by decide +kernel)) dL_law_132 ?_
  refine lv_land hx hb dL_law_135 ?_
  refine lv_lor hx hb dL_law_136 ?_
  refine lw_c2 (As := [.long (((xs (nI i + 1).toNatClampNeg).toInt64 <<< ((32 : Int32).toInt64 &&& 63)) ||| ((xs (nI i + 2).toNatClampNeg).toInt64 &&& 4294967295))]) (rest := [.int x]) hx hb hml hown hts hK hI cvL_19 rfl rfl (Nat.le_of_ble_eq_true rfl) hF dL_law_137 ⟨Nat.le_refl _, Nat.le_refl _⟩ hP1 hS1 hl.1 (fun C2 V2 R2 H2 locs2 hN hPN2 hPM2 hS2 => ?_)
  exact lv_icmp_eq (tgt := 306) hx hb dL_law_140 (by decide) (fun _ => kk C2 V2 R2 H2 locs2 hN hPN2 hPM2 hS2) (fun h => absurd rfl h)
end LWP
