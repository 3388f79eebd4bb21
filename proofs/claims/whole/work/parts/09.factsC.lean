theorem fdX0_15 : ai_Fd RX0 15 0 1 := ⟨_, _, _, rfl, by decide, inX0, Or.inl (ai_in 167 (by decide +kernel) rfl)⟩
theorem fdX0_18 : ai_Fd RX0 18 0 2 := ⟨_, _, _, rfl, by decide, inX0, Or.inl (ai_in 168 (by decide +kernel) rfl)⟩
theorem fdX0_21 : ai_Fd RX0 21 0 3 := ⟨_, _, _, rfl, by decide, inX0, Or.inl (ai_in 169 (by decide +kernel) rfl)⟩
theorem fdX0_24 : ai_Fd RX0 24 0 4 := ⟨_, _, _, rfl, by decide, inX0, Or.inl (ai_in 170 (by decide +kernel) rfl)⟩
theorem fdX0_27 : ai_Fd RX0 27 0 5 := ⟨_, _, _, rfl, by decide, inX0, Or.inl (ai_in 171 (by decide +kernel) rfl)⟩
theorem fdX0_31 : ai_Fd RX0 31 0 6 := ⟨_, _, _, rfl, by decide, inX0, Or.inl (ai_in 173 (by decide +kernel) rfl)⟩
theorem fdX0_34 : ai_Fd RX0 34 0 7 := ⟨_, _, _, rfl, by decide, inX0, Or.inl (ai_in 175 (by decide +kernel) rfl)⟩
theorem fdX0_9 : ai_Fd RX0 9 0 0 := ⟨_, _, _, rfl, by decide, inX0, Or.inl (ai_in 166 (by decide +kernel) rfl)⟩
theorem fdX1_12 : ai_Fd RX1 12 1 7 := ⟨_, _, _, rfl, by decide, inX1, Or.inl (ai_in 202 (by decide +kernel) rfl)⟩
theorem fdX1_137 : ai_Fd RX1 137 1 15 := ⟨_, _, _, rfl, by decide, inX1, Or.inl (ai_in 212 (by decide +kernel) rfl)⟩
theorem fdX1_159 : ai_Fd RX1 159 0 5 := ⟨_, _, _, rfl, by decide, inX0, Or.inr ⟨"NameCalls", ai_inN 96 (by decide +kernel) rfl⟩⟩
theorem fdX1_18 : ai_Fd RX1 18 1 8 := ⟨_, _, _, rfl, by decide, inX1, Or.inl (ai_in 204 (by decide +kernel) rfl)⟩
theorem fdX1_22 : ai_Fd RX1 22 1 9 := ⟨_, _, _, rfl, by decide, inX1, Or.inl (ai_in 205 (by decide +kernel) rfl)⟩
theorem fdX1_25 : ai_Fd RX1 25 1 11 := ⟨_, _, _, rfl, by decide, inX1, Or.inl (ai_in 207 (by decide +kernel) rfl)⟩
theorem fdX1_28 : ai_Fd RX1 28 1 13 := ⟨_, _, _, rfl, by decide, inX1, Or.inl (ai_in 209 (by decide +kernel) rfl)⟩
theorem fdX1_31 : ai_Fd RX1 31 1 0 := ⟨_, _, _, rfl, by decide, inX1, Or.inl (ai_in 194 (by decide +kernel) rfl)⟩
theorem fdX1_35 : ai_Fd RX1 35 1 1 := ⟨_, _, _, rfl, by decide, inX1, Or.inl (ai_in 195 (by decide +kernel) rfl)⟩
theorem fdX1_39 : ai_Fd RX1 39 1 2 := ⟨_, _, _, rfl, by decide, inX1, Or.inl (ai_in 196 (by decide +kernel) rfl)⟩
theorem fdX1_42 : ai_Fd RX1 42 1 3 := ⟨_, _, _, rfl, by decide, inX1, Or.inl (ai_in 198 (by decide +kernel) rfl)⟩
theorem fdX1_45 : ai_Fd RX1 45 1 4 := ⟨_, _, _, rfl, by decide, inX1, Or.inl (ai_in 199 (by decide +kernel) rfl)⟩
theorem fdX1_48 : ai_Fd RX1 48 1 5 := ⟨_, _, _, rfl, by decide, inX1, Or.inl (ai_in 200 (by decide +kernel) rfl)⟩
theorem fdX1_51 : ai_Fd RX1 51 1 6 := ⟨_, _, _, rfl, by decide, inX1, Or.inl (ai_in 201 (by decide +kernel) rfl)⟩
theorem fdX1_57 : ai_Fd RX1 57 1 10 := ⟨_, _, _, rfl, by decide, inX1, Or.inl (ai_in 206 (by decide +kernel) rfl)⟩
theorem fdX1_60 : ai_Fd RX1 60 1 12 := ⟨_, _, _, rfl, by decide, inX1, Or.inl (ai_in 208 (by decide +kernel) rfl)⟩
theorem fdX1_63 : ai_Fd RX1 63 1 14 := ⟨_, _, _, rfl, by decide, inX1, Or.inl (ai_in 210 (by decide +kernel) rfl)⟩
theorem fdX2_15 : ai_Fd RX2 15 2 1 := ⟨_, _, _, rfl, by decide, inX2, Or.inl (ai_in 253 (by decide +kernel) rfl)⟩
theorem fdX2_18 : ai_Fd RX2 18 2 2 := ⟨_, _, _, rfl, by decide, inX2, Or.inl (ai_in 254 (by decide +kernel) rfl)⟩
theorem fdX2_21 : ai_Fd RX2 21 2 4 := ⟨_, _, _, rfl, by decide, inX2, Or.inl (ai_in 257 (by decide +kernel) rfl)⟩
theorem fdX2_24 : ai_Fd RX2 24 2 5 := ⟨_, _, _, rfl, by decide, inX2, Or.inl (ai_in 258 (by decide +kernel) rfl)⟩
theorem fdX2_27 : ai_Fd RX2 27 2 3 := ⟨_, _, _, rfl, by decide, inX2, Or.inl (ai_in 255 (by decide +kernel) rfl)⟩
theorem fdX2_31 : ai_Fd RX2 31 2 6 := ⟨_, _, _, rfl, by decide, inX2, Or.inl (ai_in 259 (by decide +kernel) rfl)⟩
theorem fdX2_34 : ai_Fd RX2 34 2 7 := ⟨_, _, _, rfl, by decide, inX2, Or.inl (ai_in 262 (by decide +kernel) rfl)⟩
theorem fdX2_37 : ai_Fd RX2 37 2 8 := ⟨_, _, _, rfl, by decide, inX2, Or.inl (ai_in 265 (by decide +kernel) rfl)⟩
theorem fdX2_40 : ai_Fd RX2 40 2 9 := ⟨_, _, _, rfl, by decide, inX2, Or.inl (ai_in 268 (by decide +kernel) rfl)⟩
theorem fdX2_9 : ai_Fd RX2 9 2 0 := ⟨_, _, _, rfl, by decide, inX2, Or.inl (ai_in 252 (by decide +kernel) rfl)⟩
theorem fdX3_109 : ai_Fd RX3 109 2 3 := ⟨_, _, _, rfl, by decide, inX2, Or.inr ⟨"NameCalls", ai_inN 180 (by decide +kernel) rfl⟩⟩
theorem fdX3_116 : ai_Fd RX3 116 4 4 := ⟨_, _, _, rfl, by decide, inX4, Or.inr ⟨"NameCalls", ai_inN 34 (by decide +kernel) rfl⟩⟩
theorem fdX3_119 : ai_Fd RX3 119 4 7 := ⟨_, _, _, rfl, by decide, inX4, Or.inr ⟨"NameCalls", ai_inN 39 (by decide +kernel) rfl⟩⟩
theorem fdX3_12 : ai_Fd RX3 12 3 4 := ⟨_, _, _, rfl, by decide, inX3, Or.inl (ai_in 139 (by decide +kernel) rfl)⟩
theorem fdX3_134 : ai_Fd RX3 134 2 7 := ⟨_, _, _, rfl, by decide, inX2, Or.inr ⟨"NameCalls", ai_inN 188 (by decide +kernel) rfl⟩⟩
theorem fdX3_140 : ai_Fd RX3 140 2 6 := ⟨_, _, _, rfl, by decide, inX2, Or.inr ⟨"NameCalls", ai_inN 185 (by decide +kernel) rfl⟩⟩
theorem fdX3_152 : ai_Fd RX3 152 4 5 := ⟨_, _, _, rfl, by decide, inX4, Or.inr ⟨"NameCalls", ai_inN 36 (by decide +kernel) rfl⟩⟩
theorem fdX3_18 : ai_Fd RX3 18 3 3 := ⟨_, _, _, rfl, by decide, inX3, Or.inl (ai_in 138 (by decide +kernel) rfl)⟩
theorem fdX3_22 : ai_Fd RX3 22 3 0 := ⟨_, _, _, rfl, by decide, inX3, Or.inl (ai_in 135 (by decide +kernel) rfl)⟩
theorem fdX3_38 : ai_Fd RX3 38 3 1 := ⟨_, _, _, rfl, by decide, inX3, Or.inl (ai_in 136 (by decide +kernel) rfl)⟩
theorem fdX3_42 : ai_Fd RX3 42 3 2 := ⟨_, _, _, rfl, by decide, inX3, Or.inl (ai_in 137 (by decide +kernel) rfl)⟩
theorem fdX3_45 : ai_Fd RX3 45 3 5 := ⟨_, _, _, rfl, by decide, inX3, Or.inl (ai_in 140 (by decide +kernel) rfl)⟩
theorem fdX3_61 : ai_Fd RX3 61 2 9 := ⟨_, _, _, rfl, by decide, inX2, Or.inr ⟨"NameCalls", ai_inN 193 (by decide +kernel) rfl⟩⟩
theorem fdX3_70 : ai_Fd RX3 70 2 8 := ⟨_, _, _, rfl, by decide, inX2, Or.inr ⟨"NameCalls", ai_inN 190 (by decide +kernel) rfl⟩⟩
theorem fdX4_15 : ai_Fd RX4 15 4 1 := ⟨_, _, _, rfl, by decide, inX4, Or.inl (ai_in 106 (by decide +kernel) rfl)⟩
theorem fdX4_18 : ai_Fd RX4 18 4 2 := ⟨_, _, _, rfl, by decide, inX4, Or.inl (ai_in 107 (by decide +kernel) rfl)⟩
theorem fdX4_21 : ai_Fd RX4 21 4 3 := ⟨_, _, _, rfl, by decide, inX4, Or.inl (ai_in 108 (by decide +kernel) rfl)⟩
theorem fdX4_24 : ai_Fd RX4 24 4 6 := ⟨_, _, _, rfl, by decide, inX4, Or.inl (ai_in 113 (by decide +kernel) rfl)⟩
theorem fdX4_27 : ai_Fd RX4 27 4 4 := ⟨_, _, _, rfl, by decide, inX4, Or.inl (ai_in 109 (by decide +kernel) rfl)⟩
theorem fdX4_31 : ai_Fd RX4 31 4 5 := ⟨_, _, _, rfl, by decide, inX4, Or.inl (ai_in 111 (by decide +kernel) rfl)⟩
theorem fdX4_34 : ai_Fd RX4 34 4 7 := ⟨_, _, _, rfl, by decide, inX4, Or.inl (ai_in 114 (by decide +kernel) rfl)⟩
theorem fdX4_9 : ai_Fd RX4 9 4 0 := ⟨_, _, _, rfl, by decide, inX4, Or.inl (ai_in 105 (by decide +kernel) rfl)⟩
theorem fdX5_13 : ai_Fd RX5 13 5 1 := ⟨_, _, _, rfl, by decide, inX5, Or.inl (ai_in 293 (by decide +kernel) rfl)⟩
theorem fdX5_20 : ai_Fd RX5 20 5 2 := ⟨_, _, _, rfl, by decide, inX5, Or.inl (ai_in 294 (by decide +kernel) rfl)⟩
theorem fdX5_27 : ai_Fd RX5 27 5 3 := ⟨_, _, _, rfl, by decide, inX5, Or.inl (ai_in 295 (by decide +kernel) rfl)⟩
theorem fdX5_34 : ai_Fd RX5 34 5 4 := ⟨_, _, _, rfl, by decide, inX5, Or.inl (ai_in 296 (by decide +kernel) rfl)⟩
theorem fdX5_38 : ai_Fd RX5 38 5 5 := ⟨_, _, _, rfl, by decide, inX5, Or.inl (ai_in 297 (by decide +kernel) rfl)⟩
theorem fdX5_41 : ai_Fd RX5 41 5 6 := ⟨_, _, _, rfl, by decide, inX5, Or.inl (ai_in 298 (by decide +kernel) rfl)⟩
theorem fdX5_57 : ai_Fd RX5 57 1 14 := ⟨_, _, _, rfl, by decide, inX1, Or.inr ⟨"NameCalls", ai_inN 135 (by decide +kernel) rfl⟩⟩
theorem fdX5_64 : ai_Fd RX5 64 1 2 := ⟨_, _, _, rfl, by decide, inX1, Or.inr ⟨"NameCalls", ai_inN 121 (by decide +kernel) rfl⟩⟩
theorem fdX5_67 : ai_Fd RX5 67 1 7 := ⟨_, _, _, rfl, by decide, inX1, Or.inr ⟨"NameCalls", ai_inN 127 (by decide +kernel) rfl⟩⟩
theorem fdX5_71 : ai_Fd RX5 71 0 6 := ⟨_, _, _, rfl, by decide, inX0, Or.inr ⟨"NameCalls", ai_inN 98 (by decide +kernel) rfl⟩⟩
theorem fdX5_76 : ai_Fd RX5 76 0 7 := ⟨_, _, _, rfl, by decide, inX0, Or.inr ⟨"NameCalls", ai_inN 100 (by decide +kernel) rfl⟩⟩
theorem fdX5_79 : ai_Fd RX5 79 2 6 := ⟨_, _, _, rfl, by decide, inX2, Or.inr ⟨"NameCalls", ai_inN 184 (by decide +kernel) rfl⟩⟩
theorem fdX5_82 : ai_Fd RX5 82 2 7 := ⟨_, _, _, rfl, by decide, inX2, Or.inr ⟨"NameCalls", ai_inN 187 (by decide +kernel) rfl⟩⟩
theorem fdX5_85 : ai_Fd RX5 85 2 8 := ⟨_, _, _, rfl, by decide, inX2, Or.inr ⟨"NameCalls", ai_inN 191 (by decide +kernel) rfl⟩⟩
theorem fdX5_88 : ai_Fd RX5 88 2 9 := ⟨_, _, _, rfl, by decide, inX2, Or.inr ⟨"NameCalls", ai_inN 194 (by decide +kernel) rfl⟩⟩
theorem fdX5_9 : ai_Fd RX5 9 5 0 := ⟨_, _, _, rfl, by decide, inX5, Or.inl (ai_in 292 (by decide +kernel) rfl)⟩
theorem pdX0_5 : ai_Pd 0 5 (.int) := ⟨_, _, _, tyX0, rfl, tyX0_ok, nmX0, rfl, rfl⟩
theorem pdX0_6 : ai_Pd 0 6 (.int) := ⟨_, _, _, tyX0, rfl, tyX0_ok, nmX0, rfl, rfl⟩
theorem pdX0_7 : ai_Pd 0 7 (.int) := ⟨_, _, _, tyX0, rfl, tyX0_ok, nmX0, rfl, rfl⟩
theorem pdX1_0 : ai_Pd 1 0 (.object "NameCalls$Program") := ⟨_, _, _, tyX1, rfl, tyX1_ok, nmX1, rfl, rfl⟩
theorem pdX1_1 : ai_Pd 1 1 (.int) := ⟨_, _, _, tyX1, rfl, tyX1_ok, nmX1, rfl, rfl⟩
theorem pdX1_10 : ai_Pd 1 10 (.int) := ⟨_, _, _, tyX1, rfl, tyX1_ok, nmX1, rfl, rfl⟩
theorem pdX1_12 : ai_Pd 1 12 (.int) := ⟨_, _, _, tyX1, rfl, tyX1_ok, nmX1, rfl, rfl⟩
theorem pdX1_14 : ai_Pd 1 14 (.int) := ⟨_, _, _, tyX1, rfl, tyX1_ok, nmX1, rfl, rfl⟩
theorem pdX1_15 : ai_Pd 1 15 (.int) := ⟨_, _, _, tyX1, rfl, tyX1_ok, nmX1, rfl, rfl⟩
theorem pdX1_2 : ai_Pd 1 2 (.int) := ⟨_, _, _, tyX1, rfl, tyX1_ok, nmX1, rfl, rfl⟩
theorem pdX1_3 : ai_Pd 1 3 (.int) := ⟨_, _, _, tyX1, rfl, tyX1_ok, nmX1, rfl, rfl⟩
theorem pdX1_4 : ai_Pd 1 4 (.int) := ⟨_, _, _, tyX1, rfl, tyX1_ok, nmX1, rfl, rfl⟩
theorem pdX1_5 : ai_Pd 1 5 (.int) := ⟨_, _, _, tyX1, rfl, tyX1_ok, nmX1, rfl, rfl⟩
theorem pdX1_6 : ai_Pd 1 6 (.int) := ⟨_, _, _, tyX1, rfl, tyX1_ok, nmX1, rfl, rfl⟩
theorem pdX2_3 : ai_Pd 2 3 (.int) := ⟨_, _, _, tyX2, rfl, tyX2_ok, nmX2, rfl, rfl⟩
theorem pdX2_6 : ai_Pd 2 6 (.int) := ⟨_, _, _, tyX2, rfl, tyX2_ok, nmX2, rfl, rfl⟩
theorem pdX2_7 : ai_Pd 2 7 (.int) := ⟨_, _, _, tyX2, rfl, tyX2_ok, nmX2, rfl, rfl⟩
theorem pdX2_8 : ai_Pd 2 8 (.int) := ⟨_, _, _, tyX2, rfl, tyX2_ok, nmX2, rfl, rfl⟩
theorem pdX2_9 : ai_Pd 2 9 (.int) := ⟨_, _, _, tyX2, rfl, tyX2_ok, nmX2, rfl, rfl⟩
theorem pdX3_0 : ai_Pd 3 0 (.array .char) := ⟨_, _, _, tyX3, rfl, tyX3_ok, nmX3, rfl, rfl⟩
theorem pdX3_1 : ai_Pd 3 1 (.int) := ⟨_, _, _, tyX3, rfl, tyX3_ok, nmX3, rfl, rfl⟩
theorem pdX3_2 : ai_Pd 3 2 (.int) := ⟨_, _, _, tyX3, rfl, tyX3_ok, nmX3, rfl, rfl⟩
theorem pdX3_3 : ai_Pd 3 3 (.object "NameCalls$Program") := ⟨_, _, _, tyX3, rfl, tyX3_ok, nmX3, rfl, rfl⟩
theorem pdX3_5 : ai_Pd 3 5 (.boolean) := ⟨_, _, _, tyX3, rfl, tyX3_ok, nmX3, rfl, rfl⟩
theorem pdX4_4 : ai_Pd 4 4 (.int) := ⟨_, _, _, tyX4, rfl, tyX4_ok, nmX4, rfl, rfl⟩
theorem pdX4_5 : ai_Pd 4 5 (.int) := ⟨_, _, _, tyX4, rfl, tyX4_ok, nmX4, rfl, rfl⟩
theorem pdX4_7 : ai_Pd 4 7 (.int) := ⟨_, _, _, tyX4, rfl, tyX4_ok, nmX4, rfl, rfl⟩
theorem pdX5_1 : ai_Pd 5 1 (.int) := ⟨_, _, _, tyX5, rfl, tyX5_ok, nmX5, rfl, rfl⟩
theorem pdX5_4 : ai_Pd 5 4 (.object "NameCalls$Program") := ⟨_, _, _, tyX5, rfl, tyX5_ok, nmX5, rfl, rfl⟩
theorem pdX5_5 : ai_Pd 5 5 (.object "NameCalls$Program") := ⟨_, _, _, tyX5, rfl, tyX5_ok, nmX5, rfl, rfl⟩
theorem pdX5_6 : ai_Pd 5 6 (.boolean) := ⟨_, _, _, tyX5, rfl, tyX5_ok, nmX5, rfl, rfl⟩
set_option maxRecDepth 100000 in
theorem wcX0_addressOf : Cond.code yX0_addressOf cX0_addressOf 3 (some .int) ∈ ai_ws := ai_in 573 rfl rfl
theorem cvX0_43 : ai_Cv RX0 43 0 2 mX0_addressOf := ⟨⟨_, _, rfl⟩, ai_in 619 (by decide +kernel) rfl, ai_in 571 (by decide +kernel) rfl, ai_in 572 (by decide +kernel) rfl, ai_in 81 (by decide +kernel) rfl, wcX0_addressOf, ⟨by decide +kernel, by decide +kernel, by decide +kernel⟩, by decide⟩
set_option maxRecDepth 100000 in
theorem wcX0_setValue : Cond.code yX0_setValue cX0_setValue 3 (none) ∈ ai_ws := ai_in 561 rfl rfl
theorem cvX0_46 : ai_Cv RX0 46 0 2 mX0_setValue := ⟨⟨_, _, rfl⟩, ai_in 620 (by decide +kernel) rfl, ai_in 559 (by decide +kernel) rfl, ai_in 560 (by decide +kernel) rfl, ai_in 81 (by decide +kernel) rfl, wcX0_setValue, ⟨by decide +kernel, by decide +kernel, by decide +kernel⟩, by decide⟩
set_option maxRecDepth 100000 in
theorem wcX0_isFrame : Cond.code yX0_isFrame cX0_isFrame 2 (some .boolean) ∈ ai_ws := ai_in 557 rfl rfl
theorem cvX0_50 : ai_Cv RX0 50 0 1 mX0_isFrame := ⟨⟨_, _, rfl⟩, ai_in 554 (by decide +kernel) rfl, ai_in 556 (by decide +kernel) rfl, ai_in 31 (by decide +kernel) rfl, ai_in 81 (by decide +kernel) rfl, wcX0_isFrame, ⟨by decide +kernel, by decide +kernel, by decide +kernel⟩, by decide⟩
set_option maxRecDepth 100000 in
theorem wcX1_pay : Cond.code yX1_pay cX1_pay 1 (some .boolean) ∈ ai_ws := ai_in 565 rfl rfl
theorem cvX1_101 : ai_Cv RX1 101 1 0 mX1_pay := ⟨⟨_, _, rfl⟩, ai_in 562 (by decide +kernel) rfl, ai_in 564 (by decide +kernel) rfl, ai_in 32 (by decide +kernel) rfl, ai_in 80 (by decide +kernel) rfl, wcX1_pay, ⟨by decide +kernel, by decide +kernel, by decide +kernel⟩, by decide⟩
set_option maxRecDepth 100000 in
theorem wcX1_beginBlock : Cond.code yX1_beginBlock cX1_beginBlock 4 (none) ∈ ai_ws := ai_in 632 rfl rfl
theorem cvX1_105 : ai_Cv RX1 105 1 2 mX1_beginBlock := ⟨⟨_, _, rfl⟩, ai_in 629 (by decide +kernel) rfl, ai_in 631 (by decide +kernel) rfl, ai_in 39 (by decide +kernel) rfl, ai_in 80 (by decide +kernel) rfl, wcX1_beginBlock, ⟨by decide +kernel, by decide +kernel, by decide +kernel⟩, by decide⟩
set_option maxRecDepth 100000 in
theorem wcX1_printValue : Cond.code yX1_printValue cX1_printValue 1 (none) ∈ ai_ws := ai_in 636 rfl rfl
theorem cvX1_109 : ai_Cv RX1 109 1 0 mX1_printValue := ⟨⟨_, _, rfl⟩, ai_in 633 (by decide +kernel) rfl, ai_in 635 (by decide +kernel) rfl, ai_in 40 (by decide +kernel) rfl, ai_in 80 (by decide +kernel) rfl, wcX1_printValue, ⟨by decide +kernel, by decide +kernel, by decide +kernel⟩, by decide⟩
theorem cvX1_112 : ai_Cv RX1 112 0 2 mX0_addressOf := ⟨⟨_, _, rfl⟩, ai_in 570 (by decide +kernel) rfl, ai_in 571 (by decide +kernel) rfl, ai_in 572 (by decide +kernel) rfl, ai_in 81 (by decide +kernel) rfl, wcX0_addressOf, ⟨by decide +kernel, by decide +kernel, by decide +kernel⟩, by decide⟩
theorem cvX1_116 : ai_Cv RX1 116 0 2 mX0_setValue := ⟨⟨_, _, rfl⟩, ai_in 558 (by decide +kernel) rfl, ai_in 559 (by decide +kernel) rfl, ai_in 560 (by decide +kernel) rfl, ai_in 81 (by decide +kernel) rfl, wcX0_setValue, ⟨by decide +kernel, by decide +kernel, by decide +kernel⟩, by decide⟩
set_option maxRecDepth 100000 in
theorem wcX1_leaveCall : Cond.code yX1_leaveCall cX1_leaveCall 2 (none) ∈ ai_ws := ai_in 640 rfl rfl
theorem cvX1_119 : ai_Cv RX1 119 1 0 mX1_leaveCall := ⟨⟨_, _, rfl⟩, ai_in 637 (by decide +kernel) rfl, ai_in 639 (by decide +kernel) rfl, ai_in 41 (by decide +kernel) rfl, ai_in 80 (by decide +kernel) rfl, wcX1_leaveCall, ⟨by decide +kernel, by decide +kernel, by decide +kernel⟩, by decide⟩
set_option maxRecDepth 100000 in
theorem wcX1_leaveActual : Cond.code yX1_leaveActual cX1_leaveActual 1 (none) ∈ ai_ws := ai_in 652 rfl rfl
theorem cvX1_122 : ai_Cv RX1 122 1 0 mX1_leaveActual := ⟨⟨_, _, rfl⟩, ai_in 649 (by decide +kernel) rfl, ai_in 651 (by decide +kernel) rfl, ai_in 42 (by decide +kernel) rfl, ai_in 80 (by decide +kernel) rfl, wcX1_leaveActual, ⟨by decide +kernel, by decide +kernel, by decide +kernel⟩, by decide⟩
set_option maxRecDepth 100000 in
theorem wcX0_targetOf : Cond.code yX0_targetOf cX0_targetOf 2 (some .int) ∈ ai_ws := ai_in 553 rfl rfl
theorem cvX1_125 : ai_Cv RX1 125 0 1 mX0_targetOf := ⟨⟨_, _, rfl⟩, ai_in 550 (by decide +kernel) rfl, ai_in 551 (by decide +kernel) rfl, ai_in 552 (by decide +kernel) rfl, ai_in 81 (by decide +kernel) rfl, wcX0_targetOf, ⟨by decide +kernel, by decide +kernel, by decide +kernel⟩, by decide⟩
set_option maxRecDepth 100000 in
theorem wcX0_outwards : Cond.code yX0_outwards cX0_outwards 5 (some .int) ∈ ai_ws := ai_in 569 rfl rfl
theorem cvX1_128 : ai_Cv RX1 128 0 2 mX0_outwards := ⟨⟨_, _, rfl⟩, ai_in 566 (by decide +kernel) rfl, ai_in 567 (by decide +kernel) rfl, ai_in 568 (by decide +kernel) rfl, ai_in 81 (by decide +kernel) rfl, wcX0_outwards, ⟨by decide +kernel, by decide +kernel, by decide +kernel⟩, by decide⟩
set_option maxRecDepth 100000 in
theorem wcX0_setTarget : Cond.code yX0_setTarget cX0_setTarget 3 (none) ∈ ai_ws := ai_in 577 rfl rfl
theorem cvX1_131 : ai_Cv RX1 131 0 2 mX0_setTarget := ⟨⟨_, _, rfl⟩, ai_in 574 (by decide +kernel) rfl, ai_in 575 (by decide +kernel) rfl, ai_in 576 (by decide +kernel) rfl, ai_in 81 (by decide +kernel) rfl, wcX0_setTarget, ⟨by decide +kernel, by decide +kernel, by decide +kernel⟩, by decide⟩
set_option maxRecDepth 100000 in
theorem wcX1_resolve : Cond.code yX1_resolve cX1_resolve 8 (some .int) ∈ ai_ws := ai_in 581 rfl rfl
theorem cvX1_134 : ai_Cv RX1 134 1 2 mX1_resolve := ⟨⟨_, _, rfl⟩, ai_in 578 (by decide +kernel) rfl, ai_in 580 (by decide +kernel) rfl, ai_in 33 (by decide +kernel) rfl, ai_in 80 (by decide +kernel) rfl, wcX1_resolve, ⟨by decide +kernel, by decide +kernel, by decide +kernel⟩, by decide⟩
set_option maxRecDepth 100000 in
theorem wcX0_valueAt : Cond.code yX0_valueAt cX0_valueAt 2 (some .int) ∈ ai_ws := ai_in 585 rfl rfl
theorem cvX1_140 : ai_Cv RX1 140 0 1 mX0_valueAt := ⟨⟨_, _, rfl⟩, ai_in 582 (by decide +kernel) rfl, ai_in 583 (by decide +kernel) rfl, ai_in 584 (by decide +kernel) rfl, ai_in 81 (by decide +kernel) rfl, wcX0_valueAt, ⟨by decide +kernel, by decide +kernel, by decide +kernel⟩, by decide⟩
set_option maxRecDepth 100000 in
theorem wcX0_callerOf : Cond.code yX0_callerOf cX0_callerOf 2 (some .int) ∈ ai_ws := ai_in 589 rfl rfl
theorem cvX1_143 : ai_Cv RX1 143 0 1 mX0_callerOf := ⟨⟨_, _, rfl⟩, ai_in 586 (by decide +kernel) rfl, ai_in 587 (by decide +kernel) rfl, ai_in 588 (by decide +kernel) rfl, ai_in 81 (by decide +kernel) rfl, wcX0_callerOf, ⟨by decide +kernel, by decide +kernel, by decide +kernel⟩, by decide⟩
set_option maxRecDepth 100000 in
theorem wcX1_enterActual : Cond.code yX1_enterActual cX1_enterActual 3 (none) ∈ ai_ws := ai_in 597 rfl rfl
theorem cvX1_146 : ai_Cv RX1 146 1 2 mX1_enterActual := ⟨⟨_, _, rfl⟩, ai_in 594 (by decide +kernel) rfl, ai_in 596 (by decide +kernel) rfl, ai_in 35 (by decide +kernel) rfl, ai_in 80 (by decide +kernel) rfl, wcX1_enterActual, ⟨by decide +kernel, by decide +kernel, by decide +kernel⟩, by decide⟩
set_option maxRecDepth 100000 in
theorem wcX1_enterCall : Cond.code yX1_enterCall cX1_enterCall 7 (none) ∈ ai_ws := ai_in 605 rfl rfl
theorem cvX1_149 : ai_Cv RX1 149 1 2 mX1_enterCall := ⟨⟨_, _, rfl⟩, ai_in 602 (by decide +kernel) rfl, ai_in 604 (by decide +kernel) rfl, ai_in 37 (by decide +kernel) rfl, ai_in 80 (by decide +kernel) rfl, wcX1_enterCall, ⟨by decide +kernel, by decide +kernel, by decide +kernel⟩, by decide⟩
set_option maxRecDepth 100000 in
theorem wcX2_isActual : Cond.code yX2_isActual cX2_isActual 2 (some .boolean) ∈ ai_ws := ai_in 609 rfl rfl
theorem cvX1_152 : ai_Cv RX1 152 2 1 mX2_isActual := ⟨⟨_, _, rfl⟩, ai_in 606 (by decide +kernel) rfl, ai_in 607 (by decide +kernel) rfl, ai_in 608 (by decide +kernel) rfl, ai_in 82 (by decide +kernel) rfl, wcX2_isActual, ⟨by decide +kernel, by decide +kernel, by decide +kernel⟩, by decide⟩
set_option maxRecDepth 100000 in
theorem wcX2_formalCountOf : Cond.code yX2_formalCountOf cX2_formalCountOf 2 (some .int) ∈ ai_ws := ai_in 613 rfl rfl
theorem cvX1_156 : ai_Cv RX1 156 2 1 mX2_formalCountOf := ⟨⟨_, _, rfl⟩, ai_in 610 (by decide +kernel) rfl, ai_in 611 (by decide +kernel) rfl, ai_in 612 (by decide +kernel) rfl, ai_in 82 (by decide +kernel) rfl, wcX2_formalCountOf, ⟨by decide +kernel, by decide +kernel, by decide +kernel⟩, by decide⟩
set_option maxRecDepth 100000 in
theorem wcX0_open : Cond.code yX0_open cX0_open 4 (none) ∈ ai_ws := ai_in 617 rfl rfl
theorem cvX1_162 : ai_Cv RX1 162 0 3 mX0_open := ⟨⟨_, _, rfl⟩, ai_in 614 (by decide +kernel) rfl, ai_in 615 (by decide +kernel) rfl, ai_in 616 (by decide +kernel) rfl, ai_in 81 (by decide +kernel) rfl, wcX0_open, ⟨by decide +kernel, by decide +kernel, by decide +kernel⟩, by decide⟩
set_option maxRecDepth 100000 in
theorem wcX2_startOf : Cond.code yX2_startOf cX2_startOf 2 (some .int) ∈ ai_ws := ai_in 624 rfl rfl
theorem cvX1_165 : ai_Cv RX1 165 2 1 mX2_startOf := ⟨⟨_, _, rfl⟩, ai_in 621 (by decide +kernel) rfl, ai_in 622 (by decide +kernel) rfl, ai_in 623 (by decide +kernel) rfl, ai_in 82 (by decide +kernel) rfl, wcX2_startOf, ⟨by decide +kernel, by decide +kernel, by decide +kernel⟩, by decide⟩
set_option maxRecDepth 100000 in
theorem wcX0_returnOf : Cond.code yX0_returnOf cX0_returnOf 2 (some .int) ∈ ai_ws := ai_in 644 rfl rfl
theorem cvX1_168 : ai_Cv RX1 168 0 1 mX0_returnOf := ⟨⟨_, _, rfl⟩, ai_in 641 (by decide +kernel) rfl, ai_in 642 (by decide +kernel) rfl, ai_in 643 (by decide +kernel) rfl, ai_in 81 (by decide +kernel) rfl, wcX0_returnOf, ⟨by decide +kernel, by decide +kernel, by decide +kernel⟩, by decide⟩
set_option maxRecDepth 100000 in
theorem wcX0_close : Cond.code yX0_close cX0_close 1 (none) ∈ ai_ws := ai_in 648 rfl rfl
theorem cvX1_171 : ai_Cv RX1 171 0 0 mX0_close := ⟨⟨_, _, rfl⟩, ai_in 645 (by decide +kernel) rfl, ai_in 646 (by decide +kernel) rfl, ai_in 647 (by decide +kernel) rfl, ai_in 81 (by decide +kernel) rfl, wcX0_close, ⟨by decide +kernel, by decide +kernel, by decide +kernel⟩, by decide⟩
set_option maxRecDepth 100000 in
theorem wcX1_beginToWait : Cond.code yX1_beginToWait cX1_beginToWait 1 (none) ∈ ai_ws := ai_in 545 rfl rfl
theorem cvX1_174 : ai_Cv RX1 174 1 0 mX1_beginToWait := ⟨⟨_, _, rfl⟩, ai_in 542 (by decide +kernel) rfl, ai_in 544 (by decide +kernel) rfl, ai_in 29 (by decide +kernel) rfl, ai_in 80 (by decide +kernel) rfl, wcX1_beginToWait, ⟨by decide +kernel, by decide +kernel, by decide +kernel⟩, by decide⟩
set_option maxRecDepth 100000 in
theorem wcX0_clear : Cond.code yX0_clear cX0_clear 1 (none) ∈ ai_ws := ai_in 520 rfl rfl
theorem cvX1_54 : ai_Cv RX1 54 0 0 mX0_clear := ⟨⟨_, _, rfl⟩, ai_in 517 (by decide +kernel) rfl, ai_in 518 (by decide +kernel) rfl, ai_in 519 (by decide +kernel) rfl, ai_in 81 (by decide +kernel) rfl, wcX0_clear, ⟨by decide +kernel, by decide +kernel, by decide +kernel⟩, by decide⟩
set_option maxRecDepth 100000 in
theorem wcX1_step : Cond.code yX1_step cX1_step 4 (none) ∈ ai_ws := ai_in 525 rfl rfl
theorem cvX1_67 : ai_Cv RX1 67 1 0 mX1_step := ⟨⟨_, _, rfl⟩, ai_in 522 (by decide +kernel) rfl, ai_in 524 (by decide +kernel) rfl, ai_in 27 (by decide +kernel) rfl, ai_in 80 (by decide +kernel) rfl, wcX1_step, ⟨by decide +kernel, by decide +kernel, by decide +kernel⟩, by decide⟩
set_option maxRecDepth 100000 in
theorem wcX2_opAt : Cond.code yX2_opAt cX2_opAt 2 (some .int) ∈ ai_ws := ai_in 529 rfl rfl
theorem cvX1_72 : ai_Cv RX1 72 2 1 mX2_opAt := ⟨⟨_, _, rfl⟩, ai_in 526 (by decide +kernel) rfl, ai_in 527 (by decide +kernel) rfl, ai_in 528 (by decide +kernel) rfl, ai_in 82 (by decide +kernel) rfl, wcX2_opAt, ⟨by decide +kernel, by decide +kernel, by decide +kernel⟩, by decide⟩
set_option maxRecDepth 100000 in
theorem wcX2_firstAt : Cond.code yX2_firstAt cX2_firstAt 2 (some .int) ∈ ai_ws := ai_in 533 rfl rfl
theorem cvX1_78 : ai_Cv RX1 78 2 1 mX2_firstAt := ⟨⟨_, _, rfl⟩, ai_in 530 (by decide +kernel) rfl, ai_in 531 (by decide +kernel) rfl, ai_in 532 (by decide +kernel) rfl, ai_in 82 (by decide +kernel) rfl, wcX2_firstAt, ⟨by decide +kernel, by decide +kernel, by decide +kernel⟩, by decide⟩
set_option maxRecDepth 100000 in
theorem wcX2_secondAt : Cond.code yX2_secondAt cX2_secondAt 2 (some .int) ∈ ai_ws := ai_in 537 rfl rfl
theorem cvX1_81 : ai_Cv RX1 81 2 1 mX2_secondAt := ⟨⟨_, _, rfl⟩, ai_in 534 (by decide +kernel) rfl, ai_in 535 (by decide +kernel) rfl, ai_in 536 (by decide +kernel) rfl, ai_in 82 (by decide +kernel) rfl, wcX2_secondAt, ⟨by decide +kernel, by decide +kernel, by decide +kernel⟩, by decide⟩
set_option maxRecDepth 100000 in
theorem wcX1_operate : Cond.code yX1_operate cX1_operate 3 (none) ∈ ai_ws := ai_in 541 rfl rfl
theorem cvX1_84 : ai_Cv RX1 84 1 1 mX1_operate := ⟨⟨_, _, rfl⟩, ai_in 538 (by decide +kernel) rfl, ai_in 540 (by decide +kernel) rfl, ai_in 28 (by decide +kernel) rfl, ai_in 80 (by decide +kernel) rfl, wcX1_operate, ⟨by decide +kernel, by decide +kernel, by decide +kernel⟩, by decide⟩
set_option maxRecDepth 100000 in
theorem wcX1_assign : Cond.code yX1_assign cX1_assign 7 (none) ∈ ai_ws := ai_in 549 rfl rfl
theorem cvX1_88 : ai_Cv RX1 88 1 3 mX1_assign := ⟨⟨_, _, rfl⟩, ai_in 546 (by decide +kernel) rfl, ai_in 548 (by decide +kernel) rfl, ai_in 30 (by decide +kernel) rfl, ai_in 80 (by decide +kernel) rfl, wcX1_assign, ⟨by decide +kernel, by decide +kernel, by decide +kernel⟩, by decide⟩
set_option maxRecDepth 100000 in
theorem wcX1_workOut : Cond.code yX1_workOut cX1_workOut 5 (none) ∈ ai_ws := ai_in 593 rfl rfl
theorem cvX1_92 : ai_Cv RX1 92 1 3 mX1_workOut := ⟨⟨_, _, rfl⟩, ai_in 590 (by decide +kernel) rfl, ai_in 592 (by decide +kernel) rfl, ai_in 34 (by decide +kernel) rfl, ai_in 80 (by decide +kernel) rfl, wcX1_workOut, ⟨by decide +kernel, by decide +kernel, by decide +kernel⟩, by decide⟩
set_option maxRecDepth 100000 in
theorem wcX1_call : Cond.code yX1_call cX1_call 6 (none) ∈ ai_ws := ai_in 601 rfl rfl
theorem cvX1_95 : ai_Cv RX1 95 1 3 mX1_call := ⟨⟨_, _, rfl⟩, ai_in 598 (by decide +kernel) rfl, ai_in 600 (by decide +kernel) rfl, ai_in 36 (by decide +kernel) rfl, ai_in 80 (by decide +kernel) rfl, wcX1_call, ⟨by decide +kernel, by decide +kernel, by decide +kernel⟩, by decide⟩
set_option maxRecDepth 100000 in
theorem wcX1_control : Cond.code yX1_control cX1_control 4 (none) ∈ ai_ws := ai_in 628 rfl rfl
theorem cvX1_98 : ai_Cv RX1 98 1 3 mX1_control := ⟨⟨_, _, rfl⟩, ai_in 625 (by decide +kernel) rfl, ai_in 627 (by decide +kernel) rfl, ai_in 38 (by decide +kernel) rfl, ai_in 80 (by decide +kernel) rfl, wcX1_control, ⟨by decide +kernel, by decide +kernel, by decide +kernel⟩, by decide⟩
set_option maxRecDepth 100000 in
theorem wcX2_isPlace : Cond.code yX2_isPlace cX2_isPlace 2 (some .boolean) ∈ ai_ws := ai_in 427 rfl rfl
theorem cvX2_43 : ai_Cv RX2 43 2 1 mX2_isPlace := ⟨⟨_, _, rfl⟩, ai_in 424 (by decide +kernel) rfl, ai_in 426 (by decide +kernel) rfl, ai_in 12 (by decide +kernel) rfl, ai_in 82 (by decide +kernel) rfl, wcX2_isPlace, ⟨by decide +kernel, by decide +kernel, by decide +kernel⟩, by decide⟩
set_option maxRecDepth 100000 in
theorem wcX2_isProcedure : Cond.code yX2_isProcedure cX2_isProcedure 2 (some .boolean) ∈ ai_ws := ai_in 419 rfl rfl
theorem cvX2_47 : ai_Cv RX2 47 2 1 mX2_isProcedure := ⟨⟨_, _, rfl⟩, ai_in 416 (by decide +kernel) rfl, ai_in 418 (by decide +kernel) rfl, ai_in 11 (by decide +kernel) rfl, ai_in 82 (by decide +kernel) rfl, wcX2_isProcedure, ⟨by decide +kernel, by decide +kernel, by decide +kernel⟩, by decide⟩
set_option maxRecDepth 100000 in
theorem wcX3_addTarget : Cond.code yX3_addTarget cX3_addTarget 3 (none) ∈ ai_ws := ai_in 504 rfl rfl
theorem cvX3_102 : ai_Cv RX3 102 3 1 mX3_addTarget := ⟨⟨_, _, rfl⟩, ai_in 501 (by decide +kernel) rfl, ai_in 503 (by decide +kernel) rfl, ai_in 26 (by decide +kernel) rfl, ai_in 78 (by decide +kernel) rfl, wcX3_addTarget, ⟨by decide +kernel, by decide +kernel, by decide +kernel⟩, by decide⟩
set_option maxRecDepth 100000 in
theorem wcX3_expression : Cond.code yX3_expression cX3_expression 2 (some .boolean) ∈ ai_ws := ai_in 439 rfl rfl
theorem cvX3_106 : ai_Cv RX3 106 3 1 mX3_expression := ⟨⟨_, _, rfl⟩, ai_in 436 (by decide +kernel) rfl, ai_in 438 (by decide +kernel) rfl, ai_in 14 (by decide +kernel) rfl, ai_in 78 (by decide +kernel) rfl, wcX3_expression, ⟨by decide +kernel, by decide +kernel, by decide +kernel⟩, by decide⟩
set_option maxRecDepth 100000 in
theorem wcX2_setFirst : Cond.code yX2_setFirst cX2_setFirst 3 (none) ∈ ai_ws := ai_in 423 rfl rfl
theorem cvX3_112 : ai_Cv RX3 112 2 2 mX2_setFirst := ⟨⟨_, _, rfl⟩, ai_in 420 (by decide +kernel) rfl, ai_in 421 (by decide +kernel) rfl, ai_in 422 (by decide +kernel) rfl, ai_in 82 (by decide +kernel) rfl, wcX2_setFirst, ⟨by decide +kernel, by decide +kernel, by decide +kernel⟩, by decide⟩
set_option maxRecDepth 100000 in
theorem wcX3_declarations : Cond.code yX3_declarations cX3_declarations 4 (some .boolean) ∈ ai_ws := ai_in 378 rfl rfl
theorem cvX3_122 : ai_Cv RX3 122 3 2 mX3_declarations := ⟨⟨_, _, rfl⟩, ai_in 375 (by decide +kernel) rfl, ai_in 377 (by decide +kernel) rfl, ai_in 5 (by decide +kernel) rfl, ai_in 78 (by decide +kernel) rfl, wcX3_declarations, ⟨by decide +kernel, by decide +kernel, by decide +kernel⟩, by decide⟩
set_option maxRecDepth 100000 in
theorem wcX2_setSecond : Cond.code yX2_setSecond cX2_setSecond 3 (none) ∈ ai_ws := ai_in 431 rfl rfl
theorem cvX3_125 : ai_Cv RX3 125 2 2 mX2_setSecond := ⟨⟨_, _, rfl⟩, ai_in 428 (by decide +kernel) rfl, ai_in 429 (by decide +kernel) rfl, ai_in 430 (by decide +kernel) rfl, ai_in 82 (by decide +kernel) rfl, wcX2_setSecond, ⟨by decide +kernel, by decide +kernel, by decide +kernel⟩, by decide⟩
set_option maxRecDepth 100000 in
theorem wcX3_variable : Cond.code yX3_variable cX3_variable 3 (some .boolean) ∈ ai_ws := ai_in 382 rfl rfl
theorem cvX3_128 : ai_Cv RX3 128 3 1 mX3_variable := ⟨⟨_, _, rfl⟩, ai_in 379 (by decide +kernel) rfl, ai_in 381 (by decide +kernel) rfl, ai_in 6 (by decide +kernel) rfl, ai_in 78 (by decide +kernel) rfl, wcX3_variable, ⟨by decide +kernel, by decide +kernel, by decide +kernel⟩, by decide⟩
set_option maxRecDepth 100000 in
theorem wcX3_procedure : Cond.code yX3_procedure cX3_procedure 8 (some .boolean) ∈ ai_ws := ai_in 399 rfl rfl
theorem cvX3_131 : ai_Cv RX3 131 3 2 mX3_procedure := ⟨⟨_, _, rfl⟩, ai_in 396 (by decide +kernel) rfl, ai_in 398 (by decide +kernel) rfl, ai_in 9 (by decide +kernel) rfl, ai_in 78 (by decide +kernel) rfl, wcX3_procedure, ⟨by decide +kernel, by decide +kernel, by decide +kernel⟩, by decide⟩
set_option maxRecDepth 100000 in
theorem wcX3_declare : Cond.code yX3_declare cX3_declare 5 (none) ∈ ai_ws := ai_in 390 rfl rfl
theorem cvX3_137 : ai_Cv RX3 137 3 4 mX3_declare := ⟨⟨_, _, rfl⟩, ai_in 387 (by decide +kernel) rfl, ai_in 389 (by decide +kernel) rfl, ai_in 8 (by decide +kernel) rfl, ai_in 78 (by decide +kernel) rfl, wcX3_declare, ⟨by decide +kernel, by decide +kernel, by decide +kernel⟩, by decide⟩
set_option maxRecDepth 100000 in
theorem wcX2_addProcedure : Cond.code yX2_addProcedure cX2_addProcedure 2 (some .int) ∈ ai_ws := ai_in 403 rfl rfl
theorem cvX3_143 : ai_Cv RX3 143 2 0 mX2_addProcedure := ⟨⟨_, _, rfl⟩, ai_in 400 (by decide +kernel) rfl, ai_in 401 (by decide +kernel) rfl, ai_in 402 (by decide +kernel) rfl, ai_in 82 (by decide +kernel) rfl, wcX2_addProcedure, ⟨by decide +kernel, by decide +kernel, by decide +kernel⟩, by decide⟩
set_option maxRecDepth 100000 in
theorem wcX4_enterBody : Cond.code yX4_enterBody cX4_enterBody 2 (none) ∈ ai_ws := ai_in 407 rfl rfl
theorem cvX3_146 : ai_Cv RX3 146 4 1 mX4_enterBody := ⟨⟨_, _, rfl⟩, ai_in 404 (by decide +kernel) rfl, ai_in 405 (by decide +kernel) rfl, ai_in 406 (by decide +kernel) rfl, ai_in 79 (by decide +kernel) rfl, wcX4_enterBody, ⟨by decide +kernel, by decide +kernel, by decide +kernel⟩, by decide⟩
set_option maxRecDepth 100000 in
theorem wcX3_formals : Cond.code yX3_formals cX3_formals 7 (some .boolean) ∈ ai_ws := ai_in 411 rfl rfl
theorem cvX3_149 : ai_Cv RX3 149 3 1 mX3_formals := ⟨⟨_, _, rfl⟩, ai_in 408 (by decide +kernel) rfl, ai_in 410 (by decide +kernel) rfl, ai_in 10 (by decide +kernel) rfl, ai_in 78 (by decide +kernel) rfl, wcX3_formals, ⟨by decide +kernel, by decide +kernel, by decide +kernel⟩, by decide⟩
set_option maxRecDepth 100000 in
theorem wcX2_setFormalCount : Cond.code yX2_setFormalCount cX2_setFormalCount 3 (none) ∈ ai_ws := ai_in 415 rfl rfl
theorem cvX3_155 : ai_Cv RX3 155 2 2 mX2_setFormalCount := ⟨⟨_, _, rfl⟩, ai_in 412 (by decide +kernel) rfl, ai_in 413 (by decide +kernel) rfl, ai_in 414 (by decide +kernel) rfl, ai_in 82 (by decide +kernel) rfl, wcX2_setFormalCount, ⟨by decide +kernel, by decide +kernel, by decide +kernel⟩, by decide⟩
set_option maxRecDepth 100000 in
theorem wcX3_sum : Cond.code yX3_sum cX3_sum 4 (some .boolean) ∈ ai_ws := ai_in 443 rfl rfl
theorem cvX3_158 : ai_Cv RX3 158 3 1 mX3_sum := ⟨⟨_, _, rfl⟩, ai_in 440 (by decide +kernel) rfl, ai_in 442 (by decide +kernel) rfl, ai_in 15 (by decide +kernel) rfl, ai_in 78 (by decide +kernel) rfl, wcX3_sum, ⟨by decide +kernel, by decide +kernel, by decide +kernel⟩, by decide⟩
set_option maxRecDepth 100000 in
theorem wcX3_product : Cond.code yX3_product cX3_product 3 (some .boolean) ∈ ai_ws := ai_in 447 rfl rfl
theorem cvX3_161 : ai_Cv RX3 161 3 1 mX3_product := ⟨⟨_, _, rfl⟩, ai_in 444 (by decide +kernel) rfl, ai_in 446 (by decide +kernel) rfl, ai_in 16 (by decide +kernel) rfl, ai_in 78 (by decide +kernel) rfl, wcX3_product, ⟨by decide +kernel, by decide +kernel, by decide +kernel⟩, by decide⟩
set_option maxRecDepth 100000 in
theorem wcX3_factor : Cond.code yX3_factor cX3_factor 3 (some .boolean) ∈ ai_ws := ai_in 451 rfl rfl
theorem cvX3_164 : ai_Cv RX3 164 3 1 mX3_factor := ⟨⟨_, _, rfl⟩, ai_in 448 (by decide +kernel) rfl, ai_in 450 (by decide +kernel) rfl, ai_in 17 (by decide +kernel) rfl, ai_in 78 (by decide +kernel) rfl, wcX3_factor, ⟨by decide +kernel, by decide +kernel, by decide +kernel⟩, by decide⟩
set_option maxRecDepth 100000 in
theorem wcX3_number : Cond.code yX3_number cX3_number 4 (some .boolean) ∈ ai_ws := ai_in 455 rfl rfl
theorem cvX3_167 : ai_Cv RX3 167 3 0 mX3_number := ⟨⟨_, _, rfl⟩, ai_in 452 (by decide +kernel) rfl, ai_in 454 (by decide +kernel) rfl, ai_in 18 (by decide +kernel) rfl, ai_in 78 (by decide +kernel) rfl, wcX3_number, ⟨by decide +kernel, by decide +kernel, by decide +kernel⟩, by decide⟩
set_option maxRecDepth 100000 in
theorem wcX3_isNameAlone : Cond.code yX3_isNameAlone cX3_isNameAlone 4 (some .boolean) ∈ ai_ws := ai_in 488 rfl rfl
theorem cvX3_171 : ai_Cv RX3 171 3 0 mX3_isNameAlone := ⟨⟨_, _, rfl⟩, ai_in 485 (by decide +kernel) rfl, ai_in 487 (by decide +kernel) rfl, ai_in 22 (by decide +kernel) rfl, ai_in 78 (by decide +kernel) rfl, wcX3_isNameAlone, ⟨by decide +kernel, by decide +kernel, by decide +kernel⟩, by decide⟩
set_option maxRecDepth 100000 in
theorem wcX4_declare : Cond.code yX4_declare cX4_declare 7 (some .boolean) ∈ ai_ws := ai_in 394 rfl rfl
theorem cvX3_174 : ai_Cv RX3 174 4 4 mX4_declare := ⟨⟨_, _, rfl⟩, ai_in 391 (by decide +kernel) rfl, ai_in 392 (by decide +kernel) rfl, ai_in 393 (by decide +kernel) rfl, ai_in 79 (by decide +kernel) rfl, wcX4_declare, ⟨by decide +kernel, by decide +kernel, by decide +kernel⟩, by decide⟩
set_option maxRecDepth 100000 in
theorem wcX4_find : Cond.code yX4_find cX4_find 3 (some .int) ∈ ai_ws := ai_in 463 rfl rfl
theorem cvX3_177 : ai_Cv RX3 177 4 1 mX4_find := ⟨⟨_, _, rfl⟩, ai_in 460 (by decide +kernel) rfl, ai_in 461 (by decide +kernel) rfl, ai_in 462 (by decide +kernel) rfl, ai_in 79 (by decide +kernel) rfl, wcX4_find, ⟨by decide +kernel, by decide +kernel, by decide +kernel⟩, by decide⟩
set_option maxRecDepth 100000 in
theorem wcX4_kindOf : Cond.code yX4_kindOf cX4_kindOf 2 (some .int) ∈ ai_ws := ai_in 468 rfl rfl
theorem cvX3_181 : ai_Cv RX3 181 4 1 mX4_kindOf := ⟨⟨_, _, rfl⟩, ai_in 465 (by decide +kernel) rfl, ai_in 466 (by decide +kernel) rfl, ai_in 467 (by decide +kernel) rfl, ai_in 79 (by decide +kernel) rfl, wcX4_kindOf, ⟨by decide +kernel, by decide +kernel, by decide +kernel⟩, by decide⟩
set_option maxRecDepth 100000 in
theorem wcX4_slotOf : Cond.code yX4_slotOf cX4_slotOf 2 (some .int) ∈ ai_ws := ai_in 476 rfl rfl
theorem cvX3_184 : ai_Cv RX3 184 4 1 mX4_slotOf := ⟨⟨_, _, rfl⟩, ai_in 473 (by decide +kernel) rfl, ai_in 474 (by decide +kernel) rfl, ai_in 475 (by decide +kernel) rfl, ai_in 79 (by decide +kernel) rfl, wcX4_slotOf, ⟨by decide +kernel, by decide +kernel, by decide +kernel⟩, by decide⟩
set_option maxRecDepth 100000 in
theorem wcX4_hopsTo : Cond.code yX4_hopsTo cX4_hopsTo 2 (some .int) ∈ ai_ws := ai_in 480 rfl rfl
theorem cvX3_187 : ai_Cv RX3 187 4 1 mX4_hopsTo := ⟨⟨_, _, rfl⟩, ai_in 477 (by decide +kernel) rfl, ai_in 478 (by decide +kernel) rfl, ai_in 479 (by decide +kernel) rfl, ai_in 79 (by decide +kernel) rfl, wcX4_hopsTo, ⟨by decide +kernel, by decide +kernel, by decide +kernel⟩, by decide⟩
set_option maxRecDepth 100000 in
theorem wcX4_isAroundHere : Cond.code yX4_isAroundHere cX4_isAroundHere 3 (some .boolean) ∈ ai_ws := ai_in 508 rfl rfl
theorem cvX3_190 : ai_Cv RX3 190 4 1 mX4_isAroundHere := ⟨⟨_, _, rfl⟩, ai_in 505 (by decide +kernel) rfl, ai_in 506 (by decide +kernel) rfl, ai_in 507 (by decide +kernel) rfl, ai_in 79 (by decide +kernel) rfl, wcX4_isAroundHere, ⟨by decide +kernel, by decide +kernel, by decide +kernel⟩, by decide⟩
set_option maxRecDepth 100000 in
theorem wcX2_clear : Cond.code yX2_clear cX2_clear 1 (none) ∈ ai_ws := ai_in 340 rfl rfl
theorem cvX3_26 : ai_Cv RX3 26 2 0 mX2_clear := ⟨⟨_, _, rfl⟩, ai_in 337 (by decide +kernel) rfl, ai_in 338 (by decide +kernel) rfl, ai_in 339 (by decide +kernel) rfl, ai_in 82 (by decide +kernel) rfl, wcX2_clear, ⟨by decide +kernel, by decide +kernel, by decide +kernel⟩, by decide⟩
set_option maxRecDepth 100000 in
theorem wcX4_clear : Cond.code yX4_clear cX4_clear 1 (none) ∈ ai_ws := ai_in 344 rfl rfl
theorem cvX3_31 : ai_Cv RX3 31 4 0 mX4_clear := ⟨⟨_, _, rfl⟩, ai_in 341 (by decide +kernel) rfl, ai_in 342 (by decide +kernel) rfl, ai_in 343 (by decide +kernel) rfl, ai_in 79 (by decide +kernel) rfl, wcX4_clear, ⟨by decide +kernel, by decide +kernel, by decide +kernel⟩, by decide⟩
set_option maxRecDepth 100000 in
theorem wcX3_statement : Cond.code yX3_statement cX3_statement 3 (some .boolean) ∈ ai_ws := ai_in 351 rfl rfl
theorem cvX3_49 : ai_Cv RX3 49 3 1 mX3_statement := ⟨⟨_, _, rfl⟩, ai_in 348 (by decide +kernel) rfl, ai_in 350 (by decide +kernel) rfl, ai_in 0 (by decide +kernel) rfl, ai_in 78 (by decide +kernel) rfl, wcX3_statement, ⟨by decide +kernel, by decide +kernel, by decide +kernel⟩, by decide⟩
set_option maxRecDepth 100000 in
theorem wcX3_look : Cond.code yX3_look cX3_look 1 (some .int) ∈ ai_ws := ai_in 366 rfl rfl
theorem cvX3_53 : ai_Cv RX3 53 3 0 mX3_look := ⟨⟨_, _, rfl⟩, ai_in 363 (by decide +kernel) rfl, ai_in 365 (by decide +kernel) rfl, ai_in 3 (by decide +kernel) rfl, ai_in 78 (by decide +kernel) rfl, wcX3_look, ⟨by decide +kernel, by decide +kernel, by decide +kernel⟩, by decide⟩
set_option maxRecDepth 100000 in
theorem wcX2_add : Cond.code yX2_add cX2_add 5 (some .int) ∈ ai_ws := ai_in 374 rfl rfl
theorem cvX3_57 : ai_Cv RX3 57 2 3 mX2_add := ⟨⟨_, _, rfl⟩, ai_in 371 (by decide +kernel) rfl, ai_in 372 (by decide +kernel) rfl, ai_in 373 (by decide +kernel) rfl, ai_in 82 (by decide +kernel) rfl, wcX2_add, ⟨by decide +kernel, by decide +kernel, by decide +kernel⟩, by decide⟩
set_option maxRecDepth 100000 in
theorem wcX3_reach : Cond.code yX3_reach cX3_reach 2 (some .boolean) ∈ ai_ws := ai_in 355 rfl rfl
theorem cvX3_67 : ai_Cv RX3 67 3 1 mX3_reach := ⟨⟨_, _, rfl⟩, ai_in 352 (by decide +kernel) rfl, ai_in 354 (by decide +kernel) rfl, ai_in 1 (by decide +kernel) rfl, ai_in 78 (by decide +kernel) rfl, wcX3_reach, ⟨by decide +kernel, by decide +kernel, by decide +kernel⟩, by decide⟩
set_option maxRecDepth 100000 in
theorem wcX3_take : Cond.code yX3_take cX3_take 2 (some .boolean) ∈ ai_ws := ai_in 362 rfl rfl
theorem cvX3_73 : ai_Cv RX3 73 3 1 mX3_take := ⟨⟨_, _, rfl⟩, ai_in 359 (by decide +kernel) rfl, ai_in 361 (by decide +kernel) rfl, ai_in 2 (by decide +kernel) rfl, ai_in 78 (by decide +kernel) rfl, wcX3_take, ⟨by decide +kernel, by decide +kernel, by decide +kernel⟩, by decide⟩
set_option maxRecDepth 100000 in
theorem wcX3_block : Cond.code yX3_block cX3_block 6 (some .boolean) ∈ ai_ws := ai_in 370 rfl rfl
theorem cvX3_76 : ai_Cv RX3 76 3 1 mX3_block := ⟨⟨_, _, rfl⟩, ai_in 367 (by decide +kernel) rfl, ai_in 369 (by decide +kernel) rfl, ai_in 4 (by decide +kernel) rfl, ai_in 78 (by decide +kernel) rfl, wcX3_block, ⟨by decide +kernel, by decide +kernel, by decide +kernel⟩, by decide⟩
set_option maxRecDepth 100000 in
theorem wcX3_print : Cond.code yX3_print cX3_print 2 (some .boolean) ∈ ai_ws := ai_in 435 rfl rfl
theorem cvX3_79 : ai_Cv RX3 79 3 1 mX3_print := ⟨⟨_, _, rfl⟩, ai_in 432 (by decide +kernel) rfl, ai_in 434 (by decide +kernel) rfl, ai_in 13 (by decide +kernel) rfl, ai_in 78 (by decide +kernel) rfl, wcX3_print, ⟨by decide +kernel, by decide +kernel, by decide +kernel⟩, by decide⟩
set_option maxRecDepth 100000 in
theorem wcX3_choice : Cond.code yX3_choice cX3_choice 4 (some .boolean) ∈ ai_ws := ai_in 492 rfl rfl
theorem cvX3_82 : ai_Cv RX3 82 3 1 mX3_choice := ⟨⟨_, _, rfl⟩, ai_in 489 (by decide +kernel) rfl, ai_in 491 (by decide +kernel) rfl, ai_in 23 (by decide +kernel) rfl, ai_in 78 (by decide +kernel) rfl, wcX3_choice, ⟨by decide +kernel, by decide +kernel, by decide +kernel⟩, by decide⟩
set_option maxRecDepth 100000 in
theorem wcX3_loop : Cond.code yX3_loop cX3_loop 4 (some .boolean) ∈ ai_ws := ai_in 496 rfl rfl
theorem cvX3_85 : ai_Cv RX3 85 3 1 mX3_loop := ⟨⟨_, _, rfl⟩, ai_in 493 (by decide +kernel) rfl, ai_in 495 (by decide +kernel) rfl, ai_in 24 (by decide +kernel) rfl, ai_in 78 (by decide +kernel) rfl, wcX3_loop, ⟨by decide +kernel, by decide +kernel, by decide +kernel⟩, by decide⟩
set_option maxRecDepth 100000 in
theorem wcX3_takeName : Cond.code yX3_takeName cX3_takeName 2 (some .int) ∈ ai_ws := ai_in 386 rfl rfl
theorem cvX3_88 : ai_Cv RX3 88 3 0 mX3_takeName := ⟨⟨_, _, rfl⟩, ai_in 383 (by decide +kernel) rfl, ai_in 385 (by decide +kernel) rfl, ai_in 7 (by decide +kernel) rfl, ai_in 78 (by decide +kernel) rfl, wcX3_takeName, ⟨by decide +kernel, by decide +kernel, by decide +kernel⟩, by decide⟩
set_option maxRecDepth 100000 in
theorem wcX3_assignment : Cond.code yX3_assignment cX3_assignment 3 (some .boolean) ∈ ai_ws := ai_in 500 rfl rfl
theorem cvX3_91 : ai_Cv RX3 91 3 2 mX3_assignment := ⟨⟨_, _, rfl⟩, ai_in 497 (by decide +kernel) rfl, ai_in 499 (by decide +kernel) rfl, ai_in 25 (by decide +kernel) rfl, ai_in 78 (by decide +kernel) rfl, wcX3_assignment, ⟨by decide +kernel, by decide +kernel, by decide +kernel⟩, by decide⟩
set_option maxRecDepth 100000 in
theorem wcX3_addUse : Cond.code yX3_addUse cX3_addUse 8 (none) ∈ ai_ws := ai_in 459 rfl rfl
theorem cvX3_95 : ai_Cv RX3 95 3 4 mX3_addUse := ⟨⟨_, _, rfl⟩, ai_in 456 (by decide +kernel) rfl, ai_in 458 (by decide +kernel) rfl, ai_in 19 (by decide +kernel) rfl, ai_in 78 (by decide +kernel) rfl, wcX3_addUse, ⟨by decide +kernel, by decide +kernel, by decide +kernel⟩, by decide⟩
set_option maxRecDepth 100000 in
theorem wcX3_list : Cond.code yX3_list cX3_list 4 (some .boolean) ∈ ai_ws := ai_in 484 rfl rfl
theorem cvX3_99 : ai_Cv RX3 99 3 1 mX3_list := ⟨⟨_, _, rfl⟩, ai_in 481 (by decide +kernel) rfl, ai_in 483 (by decide +kernel) rfl, ai_in 21 (by decide +kernel) rfl, ai_in 78 (by decide +kernel) rfl, wcX3_list, ⟨by decide +kernel, by decide +kernel, by decide +kernel⟩, by decide⟩
set_option maxRecDepth 100000 in
theorem wcX4_isEntry : Cond.code yX4_isEntry cX4_isEntry 2 (some .boolean) ∈ ai_ws := ai_in 472 rfl rfl
theorem cvX4_46 : ai_Cv RX4 46 4 1 mX4_isEntry := ⟨⟨_, _, rfl⟩, ai_in 469 (by decide +kernel) rfl, ai_in 471 (by decide +kernel) rfl, ai_in 20 (by decide +kernel) rfl, ai_in 79 (by decide +kernel) rfl, wcX4_isEntry, ⟨by decide +kernel, by decide +kernel, by decide +kernel⟩, by decide⟩
set_option maxRecDepth 100000 in
theorem wcX3_readInto : Cond.code yX3_readInto cX3_readInto 4 (some .int) ∈ ai_ws := ai_in 336 rfl rfl
theorem cvX5_49 : ai_Cv RX5 49 3 3 mX3_readInto := ⟨⟨_, _, rfl⟩, ai_in 333 (by decide +kernel) rfl, ai_in 334 (by decide +kernel) rfl, ai_in 335 (by decide +kernel) rfl, ai_in 78 (by decide +kernel) rfl, wcX3_readInto, ⟨by decide +kernel, by decide +kernel, by decide +kernel⟩, by decide⟩
set_option maxRecDepth 100000 in
theorem wcX1_runProgram : Cond.code yX1_runProgram cX1_runProgram 4 (some .int) ∈ ai_ws := ai_in 516 rfl rfl
theorem cvX5_53 : ai_Cv RX5 53 1 2 mX1_runProgram := ⟨⟨_, _, rfl⟩, ai_in 513 (by decide +kernel) rfl, ai_in 514 (by decide +kernel) rfl, ai_in 515 (by decide +kernel) rfl, ai_in 80 (by decide +kernel) rfl, wcX1_runProgram, ⟨by decide +kernel, by decide +kernel, by decide +kernel⟩, by decide⟩
set_option maxRecDepth 100000 in
theorem wcX1_printAt : Cond.code yX1_printAt cX1_printAt 2 (some .long) ∈ ai_ws := ai_in 664 rfl rfl
theorem cvX5_60 : ai_Cv RX5 60 1 1 mX1_printAt := ⟨⟨_, _, rfl⟩, ai_in 661 (by decide +kernel) rfl, ai_in 662 (by decide +kernel) rfl, ai_in 663 (by decide +kernel) rfl, ai_in 80 (by decide +kernel) rfl, wcX1_printAt, ⟨by decide +kernel, by decide +kernel, by decide +kernel⟩, by decide⟩
set_option maxRecDepth 100000 in
theorem wcX5_codeAt : Cond.code yX5_codeAt cX5_codeAt 3 (some .int) ∈ ai_ws := ai_in 320 rfl rfl
theorem csX5_45 : ai_Cs RX5 45 2 mX5_codeAt := ⟨ai_in 318 (by decide +kernel) rfl, ai_in 319 (by decide +kernel) rfl, ai_in 77 (by decide +kernel) rfl, wcX5_codeAt, ⟨by decide +kernel, by decide +kernel, by decide +kernel⟩, by decide⟩
theorem cxX0_37 : ai_Cx RX0 37 Lib.Math.max.name Lib.Math.max.code := ⟨ai_in 618 (by decide +kernel) rfl, ai_in 357 (by decide +kernel) rfl, ai_in 84 (by decide +kernel) rfl, ai_in 358 (by decide +kernel) rfl⟩
theorem cxX3_32 : ai_Cx RX3 32 Lib.Math.min.name Lib.Math.min.code := ⟨ai_in 345 (by decide +kernel) rfl, ai_in 346 (by decide +kernel) rfl, ai_in 84 (by decide +kernel) rfl, ai_in 347 (by decide +kernel) rfl⟩
theorem cxX3_64 : ai_Cx RX3 64 Lib.Math.max.name Lib.Math.max.code := ⟨ai_in 356 (by decide +kernel) rfl, ai_in 357 (by decide +kernel) rfl, ai_in 84 (by decide +kernel) rfl, ai_in 358 (by decide +kernel) rfl⟩
theorem cxX4_37 : ai_Cx RX4 37 Lib.Math.max.name Lib.Math.max.code := ⟨ai_in 395 (by decide +kernel) rfl, ai_in 357 (by decide +kernel) rfl, ai_in 84 (by decide +kernel) rfl, ai_in 358 (by decide +kernel) rfl⟩
theorem cxX4_43 : ai_Cx RX4 43 Lib.Math.min.name Lib.Math.min.code := ⟨ai_in 464 (by decide +kernel) rfl, ai_in 346 (by decide +kernel) rfl, ai_in 84 (by decide +kernel) rfl, ai_in 347 (by decide +kernel) rfl⟩
theorem ctX1_66 : Cond.constant RX1 66 1000000 ∈ ai_ws := ai_in 521 (by decide +kernel) rfl
theorem ctX1_70 : Cond.constantLong RX1 70 4294967296 ∈ ai_ws := ai_in 665 (by decide +kernel) rfl
