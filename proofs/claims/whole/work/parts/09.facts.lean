theorem fdX0_15 : ai_Fd RX0 15 0 1 := ⟨_, _, _, rfl, by decide, inX0, Or.inl (ai_in 167 (by decide +kernel) rfl)⟩
theorem fdX0_18 : ai_Fd RX0 18 0 2 := ⟨_, _, _, rfl, by decide, inX0, Or.inl (ai_in 168 (by decide +kernel) rfl)⟩
theorem fdX0_21 : ai_Fd RX0 21 0 3 := ⟨_, _, _, rfl, by decide, inX0, Or.inl (ai_in 169 (by decide +kernel) rfl)⟩
theorem fdX0_24 : ai_Fd RX0 24 0 4 := ⟨_, _, _, rfl, by decide, inX0, Or.inl (ai_in 170 (by decide +kernel) rfl)⟩
theorem fdX0_27 : ai_Fd RX0 27 0 5 := ⟨_, _, _, rfl, by decide, inX0, Or.inl (ai_in 171 (by decide +kernel) rfl)⟩
theorem fdX0_31 : ai_Fd RX0 31 0 6 := ⟨_, _, _, rfl, by decide, inX0, Or.inl (ai_in 173 (by decide +kernel) rfl)⟩
theorem fdX0_34 : ai_Fd RX0 34 0 7 := ⟨_, _, _, rfl, by decide, inX0, Or.inl (ai_in 175 (by decide +kernel) rfl)⟩
theorem fdX0_9 : ai_Fd RX0 9 0 0 := ⟨_, _, _, rfl, by decide, inX0, Or.inl (ai_in 166 (by decide +kernel) rfl)⟩
theorem fdX2_15 : ai_Fd RX2 15 2 1 := ⟨_, _, _, rfl, by decide, inX2, Or.inl (ai_in 253 (by decide +kernel) rfl)⟩
theorem fdX2_18 : ai_Fd RX2 18 2 2 := ⟨_, _, _, rfl, by decide, inX2, Or.inl (ai_in 254 (by decide +kernel) rfl)⟩
theorem fdX2_21 : ai_Fd RX2 21 2 4 := ⟨_, _, _, rfl, by decide, inX2, Or.inl (ai_in 257 (by decide +kernel) rfl)⟩
theorem fdX2_24 : ai_Fd RX2 24 2 5 := ⟨_, _, _, rfl, by decide, inX2, Or.inl (ai_in 258 (by decide +kernel) rfl)⟩
theorem fdX2_27 : ai_Fd RX2 27 2 3 := ⟨_, _, _, rfl, by decide, inX2, Or.inl (ai_in 255 (by decide +kernel) rfl)⟩
theorem fdX2_31 : ai_Fd RX2 31 2 6 := ⟨_, _, _, rfl, by decide, inX2, Or.inl (ai_in 259 (by decide +kernel) rfl)⟩
theorem fdX2_34 : ai_Fd RX2 34 2 7 := ⟨_, _, _, rfl, by decide, inX2, Or.inl (ai_in 262 (by decide +kernel) rfl)⟩
theorem fdX2_37 : ai_Fd RX2 37 2 8 := ⟨_, _, _, rfl, by decide, inX2, Or.inl (ai_in 265 (by decide +kernel) rfl)⟩
theorem fdX2_40 : ai_Fd RX2 40 2 9 := ⟨_, _, _, rfl, by decide, inX2, Or.inl (ai_in 268 (by decide +kernel) rfl)⟩
theorem fdX2_9 : ai_Fd RX2 9 2 0 := ⟨_, _, _, rfl, by decide, inX2, Or.inl (ai_in 252 (by decide +kernel) rfl)⟩
theorem fdX4_15 : ai_Fd RX4 15 4 1 := ⟨_, _, _, rfl, by decide, inX4, Or.inl (ai_in 106 (by decide +kernel) rfl)⟩
theorem fdX4_18 : ai_Fd RX4 18 4 2 := ⟨_, _, _, rfl, by decide, inX4, Or.inl (ai_in 107 (by decide +kernel) rfl)⟩
theorem fdX4_21 : ai_Fd RX4 21 4 3 := ⟨_, _, _, rfl, by decide, inX4, Or.inl (ai_in 108 (by decide +kernel) rfl)⟩
theorem fdX4_24 : ai_Fd RX4 24 4 6 := ⟨_, _, _, rfl, by decide, inX4, Or.inl (ai_in 113 (by decide +kernel) rfl)⟩
theorem fdX4_27 : ai_Fd RX4 27 4 4 := ⟨_, _, _, rfl, by decide, inX4, Or.inl (ai_in 109 (by decide +kernel) rfl)⟩
theorem fdX4_31 : ai_Fd RX4 31 4 5 := ⟨_, _, _, rfl, by decide, inX4, Or.inl (ai_in 111 (by decide +kernel) rfl)⟩
theorem fdX4_34 : ai_Fd RX4 34 4 7 := ⟨_, _, _, rfl, by decide, inX4, Or.inl (ai_in 114 (by decide +kernel) rfl)⟩
theorem pdX0_5 : ai_Pd 0 5 (.int) := ⟨_, _, _, tyX0, rfl, tyX0_ok, nmX0, rfl, rfl⟩
theorem pdX0_6 : ai_Pd 0 6 (.int) := ⟨_, _, _, tyX0, rfl, tyX0_ok, nmX0, rfl, rfl⟩
theorem pdX0_7 : ai_Pd 0 7 (.int) := ⟨_, _, _, tyX0, rfl, tyX0_ok, nmX0, rfl, rfl⟩
theorem pdX2_3 : ai_Pd 2 3 (.int) := ⟨_, _, _, tyX2, rfl, tyX2_ok, nmX2, rfl, rfl⟩
theorem pdX2_6 : ai_Pd 2 6 (.int) := ⟨_, _, _, tyX2, rfl, tyX2_ok, nmX2, rfl, rfl⟩
theorem pdX2_7 : ai_Pd 2 7 (.int) := ⟨_, _, _, tyX2, rfl, tyX2_ok, nmX2, rfl, rfl⟩
theorem pdX2_8 : ai_Pd 2 8 (.int) := ⟨_, _, _, tyX2, rfl, tyX2_ok, nmX2, rfl, rfl⟩
theorem pdX2_9 : ai_Pd 2 9 (.int) := ⟨_, _, _, tyX2, rfl, tyX2_ok, nmX2, rfl, rfl⟩
theorem pdX4_4 : ai_Pd 4 4 (.int) := ⟨_, _, _, tyX4, rfl, tyX4_ok, nmX4, rfl, rfl⟩
theorem pdX4_5 : ai_Pd 4 5 (.int) := ⟨_, _, _, tyX4, rfl, tyX4_ok, nmX4, rfl, rfl⟩
theorem pdX4_7 : ai_Pd 4 7 (.int) := ⟨_, _, _, tyX4, rfl, tyX4_ok, nmX4, rfl, rfl⟩
set_option maxRecDepth 100000 in
theorem wcX0_addressOf : Cond.code yX0_addressOf cX0_addressOf 3 (some .int) ∈ ai_ws := ai_in 573 rfl rfl
theorem cvX0_43 : ai_Cv RX0 43 0 2 mX0_addressOf := ⟨⟨_, _, rfl⟩, ai_in 619 (by decide +kernel) rfl, ai_in 571 (by decide +kernel) rfl, ai_in 572 (by decide +kernel) rfl, ai_in 81 (by decide +kernel) rfl, wcX0_addressOf, ⟨by decide +kernel, by decide +kernel, by decide +kernel⟩, by decide⟩
set_option maxRecDepth 100000 in
theorem wcX0_setValue : Cond.code yX0_setValue cX0_setValue 3 (none) ∈ ai_ws := ai_in 561 rfl rfl
theorem cvX0_46 : ai_Cv RX0 46 0 2 mX0_setValue := ⟨⟨_, _, rfl⟩, ai_in 620 (by decide +kernel) rfl, ai_in 559 (by decide +kernel) rfl, ai_in 560 (by decide +kernel) rfl, ai_in 81 (by decide +kernel) rfl, wcX0_setValue, ⟨by decide +kernel, by decide +kernel, by decide +kernel⟩, by decide⟩
set_option maxRecDepth 100000 in
theorem wcX0_isFrame : Cond.code yX0_isFrame cX0_isFrame 2 (some .boolean) ∈ ai_ws := ai_in 557 rfl rfl
theorem cvX0_50 : ai_Cv RX0 50 0 1 mX0_isFrame := ⟨⟨_, _, rfl⟩, ai_in 554 (by decide +kernel) rfl, ai_in 556 (by decide +kernel) rfl, ai_in 31 (by decide +kernel) rfl, ai_in 81 (by decide +kernel) rfl, wcX0_isFrame, ⟨by decide +kernel, by decide +kernel, by decide +kernel⟩, by decide⟩
set_option maxRecDepth 100000 in
theorem wcX2_isPlace : Cond.code yX2_isPlace cX2_isPlace 2 (some .boolean) ∈ ai_ws := ai_in 427 rfl rfl
theorem cvX2_43 : ai_Cv RX2 43 2 1 mX2_isPlace := ⟨⟨_, _, rfl⟩, ai_in 424 (by decide +kernel) rfl, ai_in 426 (by decide +kernel) rfl, ai_in 12 (by decide +kernel) rfl, ai_in 82 (by decide +kernel) rfl, wcX2_isPlace, ⟨by decide +kernel, by decide +kernel, by decide +kernel⟩, by decide⟩
set_option maxRecDepth 100000 in
theorem wcX2_isProcedure : Cond.code yX2_isProcedure cX2_isProcedure 2 (some .boolean) ∈ ai_ws := ai_in 419 rfl rfl
theorem cvX2_47 : ai_Cv RX2 47 2 1 mX2_isProcedure := ⟨⟨_, _, rfl⟩, ai_in 416 (by decide +kernel) rfl, ai_in 418 (by decide +kernel) rfl, ai_in 11 (by decide +kernel) rfl, ai_in 82 (by decide +kernel) rfl, wcX2_isProcedure, ⟨by decide +kernel, by decide +kernel, by decide +kernel⟩, by decide⟩
set_option maxRecDepth 100000 in
theorem wcX4_isEntry : Cond.code yX4_isEntry cX4_isEntry 2 (some .boolean) ∈ ai_ws := ai_in 472 rfl rfl
theorem cvX4_46 : ai_Cv RX4 46 4 1 mX4_isEntry := ⟨⟨_, _, rfl⟩, ai_in 469 (by decide +kernel) rfl, ai_in 471 (by decide +kernel) rfl, ai_in 20 (by decide +kernel) rfl, ai_in 79 (by decide +kernel) rfl, wcX4_isEntry, ⟨by decide +kernel, by decide +kernel, by decide +kernel⟩, by decide⟩
theorem cxX0_37 : ai_Cx RX0 37 Lib.Math.max.name Lib.Math.max.code := ⟨ai_in 618 (by decide +kernel) rfl, ai_in 357 (by decide +kernel) rfl, ai_in 84 (by decide +kernel) rfl, ai_in 358 (by decide +kernel) rfl⟩
