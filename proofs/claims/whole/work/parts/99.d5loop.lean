/-! ===== the law's loop ===== -/
theorem lw_bound {L i : Nat} (hL : L ≤ 1536) (hi : i ≤ L) (h : ¬ nI L - 3 < nI i) : i + 3 ≤ L := by
  by_cases h3 : 3 ≤ L
  · rw [show (3 : Int32) = nI 3 from rfl, pk_sub h3, i_lt (by omega) (by omega)] at h
    omega
  · exfalso
    have e : (L = 0 ∧ i = 0) ∨ (L = 1 ∧ i = 0) ∨ (L = 1 ∧ i = 1) ∨ (L = 2 ∧ i = 0) ∨ (L = 2 ∧ i = 1) ∨ (L = 2 ∧ i = 2) := by omega
    rcases e with ⟨rfl, rfl⟩ | ⟨rfl, rfl⟩ | ⟨rfl, rfl⟩ | ⟨rfl, rfl⟩ | ⟨rfl, rfl⟩ | ⟨rfl, rfl⟩ <;> exact h (by decide)
section LWK
variable {p : Program} {l : Launch} {e : Env} {s : State} {m : MethodId} {below : List Frame} {meth : Method} {c : Code} {b L a1 a2 : Nat} {xs : Nat → Int32} {D : va_G} {τ : Nat → ClassId} {ρ' : Nat → Nat} {VR : ai_V}
theorem lw_loop (B : lwB p s m c b L xs) (hr : meth.sig.returnType = ret) (hlocks : meth.locks = false) (hL : L ≤ 1536) (hK : cw_K D τ s) (e2 : ρ' 0 = a2) :
    ∀ (n i : Nat), i ≤ L → L + 1 ≤ i + n → ∀ (ρ : Nat → Nat) (C : ai_S) (V : ai_V) (R : ai_S) (H : Heap) (locs : List Loc) (ls : Array Slot), lwD (fun q : Nat => s.heap.size ≤ q) ρ ρ' → ρ 0 = a1 → NV C V R → va_P D vwCl (ai_w (uN l D ρ τ) C V) H → va_P D vwCl (ai_w (uM l D ρ' τ) R VR) H → va_S (fun q : Nat => s.heap.size ≤ q) s.heap H locs → lv_has ls 4 [(0, .ref b), (1, .ref a1), (2, .ref a2), (3, .int (nI i))] →
      W p l e room_1 s m #[Value.ref b] below meth c H locs 600000 7302250 (lw_Z below #[Value.ref b] s) (F0 m 18 ls []) := by
  intro n
  induction n with
  | zero => intro i h1 h2; omega
  | succ n ih =>
    intro i hiL hin ρ C V R H locs ls hI e1 hN hPN hPM hS hl
    obtain ⟨hx, hb, hml, hown, hts, hX, hbl⟩ := id B
    have hbA : ¬ (fun q : Nat => s.heap.size ≤ q) b := Nat.not_le.mpr hbl
    refine lv_iload_n hx hb dL_law_18 rfl (lv_at hl 3 rfl) ?_
    refine lv_aload_n hx hb dL_law_19 rfl (lv_at hl 0 rfl) ?_
    refine va_slen hx hb hX hbl hbA hS dL_law_20 ?_
    refine lv_iconst (v := 3) hx hb dL_law_21 (by decide) ?_
    refine lv_isub hx hb dL_law_22 ?_
    refine lv_icmp_gt (tgt := 312) hx hb dL_law_23 (by decide) (fun _ => ?_) (fun hgt => ?_)
    · refine lv_iconst (v := 1) hx hb dL_law_312 (by decide) ?_
      refine va_forget (fun q hq => hS.2.2 q hq) ?_
      exact lw_ret hx hb hr hlocks dL_law_313
    · have h3 : i + 3 ≤ L := lw_bound hL hiL hgt
      have hi0 : vp_in (nI i) L := i_in (by omega) (by omega)
      have hi1 : vp_in (nI i + 1) L := by rw [nI_1]; exact i_in (by omega) (by omega)
      have hi2 : vp_in (nI i + 2) L := by rw [show (2 : Int32) = nI 2 from rfl, nI_add]; exact i_in (by omega) (by omega)
      have next : ∀ (C2 : ai_S) (V2 : ai_V) (R2 : ai_S) (H1 : Heap) (locs1 : List Loc), NVs C2 V2 R2 → va_P D vwCl (ai_w (uN l D ρ τ) C2 V2) H1 → va_P D vwCl (ai_w (uM l D ρ' τ) R2 VR) H1 → va_S (fun q : Nat => s.heap.size ≤ q) s.heap H1 locs1 → W p l e room_1 s m #[Value.ref b] below meth c H1 locs1 600000 7302250 (lw_Z below #[Value.ref b] s) (F0 m 306 ls []) := by
        intro C2 V2 R2 H1 locs1 hN2 hPN2 hPM2 hS2
        refine lv_iinc (v := nI (i + 3)) (lv' := [(3, .int (nI (i + 3))), (0, .ref b), (1, .ref a1), (2, .ref a2)]) hx hb dL_law_306 hl (k := 3) rfl (nI_add i 3) (by decide) rfl (fun ls hl => ?_)
        refine lv_goto (tgt := 18) hx hb dL_law_309 (by decide) ?_
        have hl' := lv_sub hl (l' := [(0, .ref b), (1, .ref a1), (2, .ref a2), (3, .int (nI (i + 3)))]) [1, 2, 3, 0] rfl
        rcases hN2 with hN2 | hN2
        · exact ih (i + 3) (by omega) (by omega) ρ C2 V2 R2 H1 locs1 ls hI e1 hN2 hPN2 hPM2 hS2 hl'
        · exact ih (i + 3) (by omega) (by omega) (fun q => ρ (sw q)) (swS C2) (swV V2) R2 H1 locs1 ls (sw_D hI) (by show ρ (sw 0) = a1; rw [sw_o (by omega)]; exact e1) hN2 (sw_P hPN2) hPM2 hS2 hl'
      refine lv_aload_n hx hb dL_law_26 rfl (lv_at hl 0 rfl) ?_
      refine lv_iload_n hx hb dL_law_27 rfl (lv_at hl 3 rfl) ?_
      refine va_sld hx hb hX hbl hbA hS hi0 dL_law_28 ?_
      refine lv_bipush (v := 15) hx hb dL_law_29 (by decide) ?_
      refine lv_iand hx hb dL_law_31 ?_
      obtain ⟨y, hy⟩ : ∃ y : Int32, y = xs (nI i).toNatClampNeg &&& 15 := ⟨_, rfl⟩
      rw [← hy]
      by_cases ho : y.toInt < 0 ∨ 10 < y.toInt
      · exact lv_tableOut (tgt := 306) hx hb dL_law_32 ho (by decide) (next C V R H locs (Or.inl hN) hPN hPM hS)
      · have e : y.toInt = 0 ∨ y.toInt = 1 ∨ y.toInt = 2 ∨ y.toInt = 3 ∨ y.toInt = 4 ∨ y.toInt = 5 ∨ y.toInt = 6 ∨ y.toInt = 7 ∨ y.toInt = 8 ∨ y.toInt = 9 ∨ y.toInt = 10 := by omega
        rcases e with h | h | h | h | h | h | h | h | h | h | h
        · refine lv_tableIn (off := 60) (tgt := 92) hx hb dL_law_32 (by omega) (by omega) (by rw [h]; rfl) (by decide) ?_
          exact lw_opW B hK hI e1 e2 hPN hPM hS hl hi1 hi2 (fun y Φ => fc_write (d := 0) (d' := 0) hN y Φ) next
        · refine lv_tableIn (off := 113) (tgt := 145) hx hb dL_law_32 (by omega) (by omega) (by rw [h]; rfl) (by decide) ?_
          exact lw_op0 B hK hI e1 e2 hPN hPM hS hl (fun Φ => fc_erase (d := 0) (d' := 0) hN Φ) cvL_20 cvL_24 dL_law_145 dL_law_146 dL_law_149 dL_law_150 dL_law_153 (by decide) next
        · refine lv_tableIn (off := 126) (tgt := 158) hx hb dL_law_32 (by omega) (by omega) (by rw [h]; rfl) (by decide) ?_
          exact lw_op0 B hK hI e1 e2 hPN hPM hS hl (fun Φ => fc_length (d := 0) (d' := 0) hN Φ) cvL_25 cvL_28 dL_law_158 dL_law_159 dL_law_162 dL_law_163 dL_law_166 (by decide) next
        · refine lv_tableIn (off := 139) (tgt := 171) hx hb dL_law_32 (by omega) (by omega) (by rw [h]; rfl) (by decide) ?_
          exact lw_op0 B hK hI e1 e2 hPN hPM hS hl (fun Φ => fc_read (d := 0) (d' := 0) hN Φ) cvL_29 cvL_32 dL_law_171 dL_law_172 dL_law_175 dL_law_176 dL_law_179 (by decide) next
        · refine lv_tableIn (off := 152) (tgt := 184) hx hb dL_law_32 (by omega) (by omega) (by rw [h]; rfl) (by decide) ?_
          exact lw_op1 B hK hI e1 e2 hPN hPM hS hl hi1 (fun y Φ => fc_run (d := 0) (d' := 0) hN y Φ) cvL_33 cvL_37 dL_law_184 dL_law_185 dL_law_186 dL_law_187 dL_law_188 dL_law_189 dL_law_190 dL_law_193 dL_law_194 dL_law_195 dL_law_196 dL_law_197 dL_law_198 dL_law_199 dL_law_202 (by decide) next
        · refine lv_tableIn (off := 175) (tgt := 207) hx hb dL_law_32 (by omega) (by omega) (by rw [h]; rfl) (by decide) ?_
          exact lw_op0 B hK hI e1 e2 hPN hPM hS hl (fun Φ => fc_prints (d := 0) (d' := 0) hN Φ) cvL_38 cvL_41 dL_law_207 dL_law_208 dL_law_211 dL_law_212 dL_law_215 (by decide) next
        · refine lv_tableIn (off := 188) (tgt := 220) hx hb dL_law_32 (by omega) (by omega) (by rw [h]; rfl) (by decide) ?_
          exact lw_opL B hK hI e1 e2 hPN hPM hS hl hi1 (fun y Φ => fc_printed (d := 0) (d' := 0) hN y Φ) cvL_42 cvL_46 dL_law_220 dL_law_221 dL_law_222 dL_law_223 dL_law_224 dL_law_225 dL_law_226 dL_law_229 dL_law_230 dL_law_231 dL_law_232 dL_law_233 dL_law_234 dL_law_235 dL_law_238 dL_law_239 (by decide) next
        · refine lv_tableIn (off := 212) (tgt := 244) hx hb dL_law_32 (by omega) (by omega) (by rw [h]; rfl) (by decide) ?_
          exact lw_op0 B hK hI e1 e2 hPN hPM hS hl (fun Φ => fc_cost (d := 0) (d' := 0) hN Φ) cvL_47 cvL_50 dL_law_244 dL_law_245 dL_law_248 dL_law_249 dL_law_252 (by decide) next
        · refine lv_tableIn (off := 225) (tgt := 257) hx hb dL_law_32 (by omega) (by omega) (by rw [h]; rfl) (by decide) ?_
          exact lw_op0 B hK hI e1 e2 hPN hPM hS hl (fun Φ => fc_deepest (d := 0) (d' := 0) hN Φ) cvL_51 cvL_54 dL_law_257 dL_law_258 dL_law_261 dL_law_262 dL_law_265 (by decide) next
        · refine lv_tableIn (off := 238) (tgt := 270) hx hb dL_law_32 (by omega) (by omega) (by rw [h]; rfl) (by decide) ?_
          exact lw_op0 B hK hI e1 e2 hPN hPM hS hl (fun Φ => fc_calls (d := 0) (d' := 0) hN Φ) cvL_55 cvL_58 dL_law_270 dL_law_271 dL_law_274 dL_law_275 dL_law_278 (by decide) next
        · refine lv_tableIn (off := 251) (tgt := 283) hx hb dL_law_32 (by omega) (by omega) (by rw [h]; rfl) (by decide) ?_
          exact lw_op1 B hK hI e1 e2 hPN hPM hS hl hi1 (fun y Φ => fc_about (d := 0) (d' := 0) hN y Φ) cvL_59 cvL_62 dL_law_283 dL_law_284 dL_law_285 dL_law_286 dL_law_287 dL_law_288 dL_law_289 dL_law_292 dL_law_293 dL_law_294 dL_law_295 dL_law_296 dL_law_297 dL_law_298 dL_law_301 (by decide) next
end LWK
