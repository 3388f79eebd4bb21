theorem fdX6_100 : ai_Fd RX6 100 6 1 := ⟨_, _, _, rfl, by decide, inX6, Or.inl (ai_in 689 (by decide +kernel) rfl)⟩
theorem fdX6_104 : ai_Fd RX6 104 6 2 := ⟨_, _, _, rfl, by decide, inX6, Or.inl (ai_in 690 (by decide +kernel) rfl)⟩
theorem fdX6_115 : ai_Fd RX6 115 6 30 := ⟨_, _, _, rfl, by decide, inX6, Or.inl (ai_in 717 (by decide +kernel) rfl)⟩
theorem fdX6_118 : ai_Fd RX6 118 6 15 := ⟨_, _, _, rfl, by decide, inX6, Or.inl (ai_in 703 (by decide +kernel) rfl)⟩
theorem fdX6_121 : ai_Fd RX6 121 6 31 := ⟨_, _, _, rfl, by decide, inX6, Or.inl (ai_in 718 (by decide +kernel) rfl)⟩
theorem fdX6_124 : ai_Fd RX6 124 6 19 := ⟨_, _, _, rfl, by decide, inX6, Or.inl (ai_in 706 (by decide +kernel) rfl)⟩
theorem fdX6_128 : ai_Fd RX6 128 6 36 := ⟨_, _, _, rfl, by decide, inX6, Or.inl (ai_in 723 (by decide +kernel) rfl)⟩
theorem fdX6_13 : ai_Fd RX6 13 6 3 := ⟨_, _, _, rfl, by decide, inX6, Or.inl (ai_in 691 (by decide +kernel) rfl)⟩
theorem fdX6_131 : ai_Fd RX6 131 6 37 := ⟨_, _, _, rfl, by decide, inX6, Or.inl (ai_in 724 (by decide +kernel) rfl)⟩
theorem fdX6_134 : ai_Fd RX6 134 6 20 := ⟨_, _, _, rfl, by decide, inX6, Or.inl (ai_in 707 (by decide +kernel) rfl)⟩
theorem fdX6_145 : ai_Fd RX6 145 6 24 := ⟨_, _, _, rfl, by decide, inX6, Or.inl (ai_in 711 (by decide +kernel) rfl)⟩
theorem fdX6_152 : ai_Fd RX6 152 6 23 := ⟨_, _, _, rfl, by decide, inX6, Or.inl (ai_in 710 (by decide +kernel) rfl)⟩
theorem fdX6_16 : ai_Fd RX6 16 6 4 := ⟨_, _, _, rfl, by decide, inX6, Or.inl (ai_in 692 (by decide +kernel) rfl)⟩
theorem fdX6_189 : ai_Fd RX6 189 6 22 := ⟨_, _, _, rfl, by decide, inX6, Or.inl (ai_in 709 (by decide +kernel) rfl)⟩
theorem fdX6_19 : ai_Fd RX6 19 6 5 := ⟨_, _, _, rfl, by decide, inX6, Or.inl (ai_in 693 (by decide +kernel) rfl)⟩
theorem fdX6_198 : ai_Fd RX6 198 6 21 := ⟨_, _, _, rfl, by decide, inX6, Or.inl (ai_in 708 (by decide +kernel) rfl)⟩
theorem fdX6_201 : ai_Fd RX6 201 6 14 := ⟨_, _, _, rfl, by decide, inX6, Or.inl (ai_in 702 (by decide +kernel) rfl)⟩
theorem fdX6_211 : ai_Fd RX6 211 6 18 := ⟨_, _, _, rfl, by decide, inX6, Or.inl (ai_in 705 (by decide +kernel) rfl)⟩
theorem fdX6_22 : ai_Fd RX6 22 6 6 := ⟨_, _, _, rfl, by decide, inX6, Or.inl (ai_in 694 (by decide +kernel) rfl)⟩
theorem fdX6_224 : ai_Fd RX6 224 6 16 := ⟨_, _, _, rfl, by decide, inX6, Or.inl (ai_in 704 (by decide +kernel) rfl)⟩
theorem fdX6_227 : ai_Fd RX6 227 6 39 := ⟨_, _, _, rfl, by decide, inX6, Or.inl (ai_in 726 (by decide +kernel) rfl)⟩
theorem fdX6_230 : ai_Fd RX6 230 6 53 := ⟨_, _, _, rfl, by decide, inX6, Or.inl (ai_in 740 (by decide +kernel) rfl)⟩
theorem fdX6_233 : ai_Fd RX6 233 6 52 := ⟨_, _, _, rfl, by decide, inX6, Or.inl (ai_in 739 (by decide +kernel) rfl)⟩
theorem fdX6_236 : ai_Fd RX6 236 6 51 := ⟨_, _, _, rfl, by decide, inX6, Or.inl (ai_in 738 (by decide +kernel) rfl)⟩
theorem fdX6_239 : ai_Fd RX6 239 6 46 := ⟨_, _, _, rfl, by decide, inX6, Or.inl (ai_in 733 (by decide +kernel) rfl)⟩
theorem fdX6_242 : ai_Fd RX6 242 6 47 := ⟨_, _, _, rfl, by decide, inX6, Or.inl (ai_in 734 (by decide +kernel) rfl)⟩
theorem fdX6_245 : ai_Fd RX6 245 6 59 := ⟨_, _, _, rfl, by decide, inX6, Or.inl (ai_in 746 (by decide +kernel) rfl)⟩
theorem fdX6_248 : ai_Fd RX6 248 6 60 := ⟨_, _, _, rfl, by decide, inX6, Or.inl (ai_in 747 (by decide +kernel) rfl)⟩
theorem fdX6_25 : ai_Fd RX6 25 6 7 := ⟨_, _, _, rfl, by decide, inX6, Or.inl (ai_in 695 (by decide +kernel) rfl)⟩
theorem fdX6_254 : ai_Fd RX6 254 6 61 := ⟨_, _, _, rfl, by decide, inX6, Or.inl (ai_in 748 (by decide +kernel) rfl)⟩
theorem fdX6_260 : ai_Fd RX6 260 6 54 := ⟨_, _, _, rfl, by decide, inX6, Or.inl (ai_in 741 (by decide +kernel) rfl)⟩
theorem fdX6_263 : ai_Fd RX6 263 6 56 := ⟨_, _, _, rfl, by decide, inX6, Or.inl (ai_in 743 (by decide +kernel) rfl)⟩
theorem fdX6_266 : ai_Fd RX6 266 6 55 := ⟨_, _, _, rfl, by decide, inX6, Or.inl (ai_in 742 (by decide +kernel) rfl)⟩
theorem fdX6_28 : ai_Fd RX6 28 6 8 := ⟨_, _, _, rfl, by decide, inX6, Or.inl (ai_in 696 (by decide +kernel) rfl)⟩
theorem fdX6_289 : ai_Fd RX6 289 6 50 := ⟨_, _, _, rfl, by decide, inX6, Or.inl (ai_in 737 (by decide +kernel) rfl)⟩
theorem fdX6_292 : ai_Fd RX6 292 6 49 := ⟨_, _, _, rfl, by decide, inX6, Or.inl (ai_in 736 (by decide +kernel) rfl)⟩
theorem fdX6_298 : ai_Fd RX6 298 6 57 := ⟨_, _, _, rfl, by decide, inX6, Or.inl (ai_in 744 (by decide +kernel) rfl)⟩
theorem fdX6_31 : ai_Fd RX6 31 6 9 := ⟨_, _, _, rfl, by decide, inX6, Or.inl (ai_in 697 (by decide +kernel) rfl)⟩
theorem fdX6_34 : ai_Fd RX6 34 6 10 := ⟨_, _, _, rfl, by decide, inX6, Or.inl (ai_in 698 (by decide +kernel) rfl)⟩
theorem fdX6_37 : ai_Fd RX6 37 6 11 := ⟨_, _, _, rfl, by decide, inX6, Or.inl (ai_in 699 (by decide +kernel) rfl)⟩
theorem fdX6_40 : ai_Fd RX6 40 6 12 := ⟨_, _, _, rfl, by decide, inX6, Or.inl (ai_in 700 (by decide +kernel) rfl)⟩
theorem fdX6_43 : ai_Fd RX6 43 6 13 := ⟨_, _, _, rfl, by decide, inX6, Or.inl (ai_in 701 (by decide +kernel) rfl)⟩
theorem fdX6_46 : ai_Fd RX6 46 6 25 := ⟨_, _, _, rfl, by decide, inX6, Or.inl (ai_in 712 (by decide +kernel) rfl)⟩
theorem fdX6_49 : ai_Fd RX6 49 6 26 := ⟨_, _, _, rfl, by decide, inX6, Or.inl (ai_in 713 (by decide +kernel) rfl)⟩
theorem fdX6_52 : ai_Fd RX6 52 6 27 := ⟨_, _, _, rfl, by decide, inX6, Or.inl (ai_in 714 (by decide +kernel) rfl)⟩
theorem fdX6_55 : ai_Fd RX6 55 6 28 := ⟨_, _, _, rfl, by decide, inX6, Or.inl (ai_in 715 (by decide +kernel) rfl)⟩
theorem fdX6_58 : ai_Fd RX6 58 6 29 := ⟨_, _, _, rfl, by decide, inX6, Or.inl (ai_in 716 (by decide +kernel) rfl)⟩
theorem fdX6_61 : ai_Fd RX6 61 6 32 := ⟨_, _, _, rfl, by decide, inX6, Or.inl (ai_in 719 (by decide +kernel) rfl)⟩
theorem fdX6_64 : ai_Fd RX6 64 6 33 := ⟨_, _, _, rfl, by decide, inX6, Or.inl (ai_in 720 (by decide +kernel) rfl)⟩
theorem fdX6_67 : ai_Fd RX6 67 6 34 := ⟨_, _, _, rfl, by decide, inX6, Or.inl (ai_in 721 (by decide +kernel) rfl)⟩
theorem fdX6_7 : ai_Fd RX6 7 6 0 := ⟨_, _, _, rfl, by decide, inX6, Or.inl (ai_in 688 (by decide +kernel) rfl)⟩
theorem fdX6_70 : ai_Fd RX6 70 6 35 := ⟨_, _, _, rfl, by decide, inX6, Or.inl (ai_in 722 (by decide +kernel) rfl)⟩
theorem fdX6_73 : ai_Fd RX6 73 6 38 := ⟨_, _, _, rfl, by decide, inX6, Or.inl (ai_in 725 (by decide +kernel) rfl)⟩
theorem fdX6_76 : ai_Fd RX6 76 6 40 := ⟨_, _, _, rfl, by decide, inX6, Or.inl (ai_in 727 (by decide +kernel) rfl)⟩
theorem fdX6_79 : ai_Fd RX6 79 6 41 := ⟨_, _, _, rfl, by decide, inX6, Or.inl (ai_in 728 (by decide +kernel) rfl)⟩
theorem fdX6_82 : ai_Fd RX6 82 6 42 := ⟨_, _, _, rfl, by decide, inX6, Or.inl (ai_in 729 (by decide +kernel) rfl)⟩
theorem fdX6_85 : ai_Fd RX6 85 6 43 := ⟨_, _, _, rfl, by decide, inX6, Or.inl (ai_in 730 (by decide +kernel) rfl)⟩
theorem fdX6_88 : ai_Fd RX6 88 6 44 := ⟨_, _, _, rfl, by decide, inX6, Or.inl (ai_in 731 (by decide +kernel) rfl)⟩
theorem fdX6_91 : ai_Fd RX6 91 6 45 := ⟨_, _, _, rfl, by decide, inX6, Or.inl (ai_in 732 (by decide +kernel) rfl)⟩
theorem fdX6_94 : ai_Fd RX6 94 6 48 := ⟨_, _, _, rfl, by decide, inX6, Or.inl (ai_in 735 (by decide +kernel) rfl)⟩
theorem fdX6_97 : ai_Fd RX6 97 6 58 := ⟨_, _, _, rfl, by decide, inX6, Or.inl (ai_in 745 (by decide +kernel) rfl)⟩
theorem pdX6_1 : ai_Pd 6 1 (.int) := ⟨_, _, _, tyX6, rfl, tyX6_ok, nmX6, rfl, rfl⟩
theorem pdX6_14 : ai_Pd 6 14 (.int) := ⟨_, _, _, tyX6, rfl, tyX6_ok, nmX6, rfl, rfl⟩
theorem pdX6_15 : ai_Pd 6 15 (.int) := ⟨_, _, _, tyX6, rfl, tyX6_ok, nmX6, rfl, rfl⟩
theorem pdX6_16 : ai_Pd 6 16 (.int) := ⟨_, _, _, tyX6, rfl, tyX6_ok, nmX6, rfl, rfl⟩
theorem pdX6_18 : ai_Pd 6 18 (.boolean) := ⟨_, _, _, tyX6, rfl, tyX6_ok, nmX6, rfl, rfl⟩
theorem pdX6_19 : ai_Pd 6 19 (.boolean) := ⟨_, _, _, tyX6, rfl, tyX6_ok, nmX6, rfl, rfl⟩
theorem pdX6_2 : ai_Pd 6 2 (.int) := ⟨_, _, _, tyX6, rfl, tyX6_ok, nmX6, rfl, rfl⟩
theorem pdX6_20 : ai_Pd 6 20 (.boolean) := ⟨_, _, _, tyX6, rfl, tyX6_ok, nmX6, rfl, rfl⟩
theorem pdX6_21 : ai_Pd 6 21 (.int) := ⟨_, _, _, tyX6, rfl, tyX6_ok, nmX6, rfl, rfl⟩
theorem pdX6_22 : ai_Pd 6 22 (.int) := ⟨_, _, _, tyX6, rfl, tyX6_ok, nmX6, rfl, rfl⟩
theorem pdX6_23 : ai_Pd 6 23 (.int) := ⟨_, _, _, tyX6, rfl, tyX6_ok, nmX6, rfl, rfl⟩
theorem pdX6_24 : ai_Pd 6 24 (.int) := ⟨_, _, _, tyX6, rfl, tyX6_ok, nmX6, rfl, rfl⟩
theorem pdX6_30 : ai_Pd 6 30 (.int) := ⟨_, _, _, tyX6, rfl, tyX6_ok, nmX6, rfl, rfl⟩
theorem pdX6_31 : ai_Pd 6 31 (.int) := ⟨_, _, _, tyX6, rfl, tyX6_ok, nmX6, rfl, rfl⟩
theorem pdX6_36 : ai_Pd 6 36 (.int) := ⟨_, _, _, tyX6, rfl, tyX6_ok, nmX6, rfl, rfl⟩
theorem pdX6_37 : ai_Pd 6 37 (.int) := ⟨_, _, _, tyX6, rfl, tyX6_ok, nmX6, rfl, rfl⟩
theorem pdX6_39 : ai_Pd 6 39 (.int) := ⟨_, _, _, tyX6, rfl, tyX6_ok, nmX6, rfl, rfl⟩
theorem pdX6_46 : ai_Pd 6 46 (.int) := ⟨_, _, _, tyX6, rfl, tyX6_ok, nmX6, rfl, rfl⟩
theorem pdX6_47 : ai_Pd 6 47 (.int) := ⟨_, _, _, tyX6, rfl, tyX6_ok, nmX6, rfl, rfl⟩
theorem pdX6_49 : ai_Pd 6 49 (.int) := ⟨_, _, _, tyX6, rfl, tyX6_ok, nmX6, rfl, rfl⟩
theorem pdX6_50 : ai_Pd 6 50 (.int) := ⟨_, _, _, tyX6, rfl, tyX6_ok, nmX6, rfl, rfl⟩
theorem pdX6_51 : ai_Pd 6 51 (.int) := ⟨_, _, _, tyX6, rfl, tyX6_ok, nmX6, rfl, rfl⟩
theorem pdX6_52 : ai_Pd 6 52 (.int) := ⟨_, _, _, tyX6, rfl, tyX6_ok, nmX6, rfl, rfl⟩
theorem pdX6_53 : ai_Pd 6 53 (.int) := ⟨_, _, _, tyX6, rfl, tyX6_ok, nmX6, rfl, rfl⟩
theorem pdX6_54 : ai_Pd 6 54 (.int) := ⟨_, _, _, tyX6, rfl, tyX6_ok, nmX6, rfl, rfl⟩
theorem pdX6_55 : ai_Pd 6 55 (.int) := ⟨_, _, _, tyX6, rfl, tyX6_ok, nmX6, rfl, rfl⟩
theorem pdX6_56 : ai_Pd 6 56 (.int) := ⟨_, _, _, tyX6, rfl, tyX6_ok, nmX6, rfl, rfl⟩
theorem pdX6_57 : ai_Pd 6 57 (.int) := ⟨_, _, _, tyX6, rfl, tyX6_ok, nmX6, rfl, rfl⟩
theorem pdX6_59 : ai_Pd 6 59 (.int) := ⟨_, _, _, tyX6, rfl, tyX6_ok, nmX6, rfl, rfl⟩
theorem pdX6_60 : ai_Pd 6 60 (.int) := ⟨_, _, _, tyX6, rfl, tyX6_ok, nmX6, rfl, rfl⟩
theorem pdX6_61 : ai_Pd 6 61 (.int) := ⟨_, _, _, tyX6, rfl, tyX6_ok, nmX6, rfl, rfl⟩
set_option maxRecDepth 100000 in
theorem wcX6_peek : Cond.code yX6_peek cX6_peek 1 (some .int) ∈ ai_ws := ai_in 902 rfl rfl
theorem cvX6_107 : ai_Cv RX6 107 6 0 mX6_peek := ⟨⟨_, _, rfl⟩, ai_in 899 (by decide +kernel) rfl, ai_in 901 (by decide +kernel) rfl, ai_in 45 (by decide +kernel) rfl, ai_in 83 (by decide +kernel) rfl, wcX6_peek, ⟨by decide +kernel, by decide +kernel, by decide +kernel⟩, by decide⟩
set_option maxRecDepth 100000 in
theorem wcX6_fresh : Cond.code yX6_fresh cX6_fresh 2 (some .int) ∈ ai_ws := ai_in 929 rfl rfl
theorem cvX6_137 : ai_Cv RX6 137 6 1 mX6_fresh := ⟨⟨_, _, rfl⟩, ai_in 926 (by decide +kernel) rfl, ai_in 928 (by decide +kernel) rfl, ai_in 51 (by decide +kernel) rfl, ai_in 83 (by decide +kernel) rfl, wcX6_fresh, ⟨by decide +kernel, by decide +kernel, by decide +kernel⟩, by decide⟩
set_option maxRecDepth 100000 in
theorem wcX6_need : Cond.code yX6_need cX6_need 2 (none) ∈ ai_ws := ai_in 910 rfl rfl
theorem cvX6_141 : ai_Cv RX6 141 6 1 mX6_need := ⟨⟨_, _, rfl⟩, ai_in 907 (by decide +kernel) rfl, ai_in 909 (by decide +kernel) rfl, ai_in 47 (by decide +kernel) rfl, ai_in 83 (by decide +kernel) rfl, wcX6_need, ⟨by decide +kernel, by decide +kernel, by decide +kernel⟩, by decide⟩
set_option maxRecDepth 100000 in
theorem wcX6_goDeeper : Cond.code yX6_goDeeper cX6_goDeeper 2 (none) ∈ ai_ws := ai_in 906 rfl rfl
theorem cvX6_148 : ai_Cv RX6 148 6 1 mX6_goDeeper := ⟨⟨_, _, rfl⟩, ai_in 903 (by decide +kernel) rfl, ai_in 905 (by decide +kernel) rfl, ai_in 46 (by decide +kernel) rfl, ai_in 83 (by decide +kernel) rfl, wcX6_goDeeper, ⟨by decide +kernel, by decide +kernel, by decide +kernel⟩, by decide⟩
set_option maxRecDepth 100000 in
theorem wcX6_isLetter : Cond.code yX6_isLetter cX6_isLetter 2 (some .boolean) ∈ ai_ws := ai_in 914 rfl rfl
theorem cvX6_155 : ai_Cv RX6 155 6 1 mX6_isLetter := ⟨⟨_, _, rfl⟩, ai_in 911 (by decide +kernel) rfl, ai_in 913 (by decide +kernel) rfl, ai_in 48 (by decide +kernel) rfl, ai_in 83 (by decide +kernel) rfl, wcX6_isLetter, ⟨by decide +kernel, by decide +kernel, by decide +kernel⟩, by decide⟩
set_option maxRecDepth 100000 in
theorem wcX6_eat : Cond.code yX6_eat cX6_eat 2 (some .boolean) ∈ ai_ws := ai_in 921 rfl rfl
theorem cvX6_159 : ai_Cv RX6 159 6 1 mX6_eat := ⟨⟨_, _, rfl⟩, ai_in 918 (by decide +kernel) rfl, ai_in 920 (by decide +kernel) rfl, ai_in 49 (by decide +kernel) rfl, ai_in 83 (by decide +kernel) rfl, wcX6_eat, ⟨by decide +kernel, by decide +kernel, by decide +kernel⟩, by decide⟩
set_option maxRecDepth 100000 in
theorem wcX6_use : Cond.code yX6_use cX6_use 5 (some .int) ∈ ai_ws := ai_in 925 rfl rfl
theorem cvX6_162 : ai_Cv RX6 162 6 2 mX6_use := ⟨⟨_, _, rfl⟩, ai_in 922 (by decide +kernel) rfl, ai_in 924 (by decide +kernel) rfl, ai_in 50 (by decide +kernel) rfl, ai_in 83 (by decide +kernel) rfl, wcX6_use, ⟨by decide +kernel, by decide +kernel, by decide +kernel⟩, by decide⟩
set_option maxRecDepth 100000 in
theorem wcX6_push : Cond.code yX6_push cX6_push 3 (none) ∈ ai_ws := ai_in 893 rfl rfl
theorem cvX6_166 : ai_Cv RX6 166 6 2 mX6_push := ⟨⟨_, _, rfl⟩, ai_in 890 (by decide +kernel) rfl, ai_in 892 (by decide +kernel) rfl, ai_in 43 (by decide +kernel) rfl, ai_in 83 (by decide +kernel) rfl, wcX6_push, ⟨by decide +kernel, by decide +kernel, by decide +kernel⟩, by decide⟩
set_option maxRecDepth 100000 in
theorem wcX6_openList : Cond.code yX6_openList cX6_openList 4 (none) ∈ ai_ws := ai_in 933 rfl rfl
theorem cvX6_170 : ai_Cv RX6 170 6 3 mX6_openList := ⟨⟨_, _, rfl⟩, ai_in 930 (by decide +kernel) rfl, ai_in 932 (by decide +kernel) rfl, ai_in 52 (by decide +kernel) rfl, ai_in 83 (by decide +kernel) rfl, wcX6_openList, ⟨by decide +kernel, by decide +kernel, by decide +kernel⟩, by decide⟩
set_option maxRecDepth 100000 in
theorem wcX6_closeList : Cond.code yX6_closeList cX6_closeList 2 (none) ∈ ai_ws := ai_in 937 rfl rfl
theorem cvX6_174 : ai_Cv RX6 174 6 1 mX6_closeList := ⟨⟨_, _, rfl⟩, ai_in 934 (by decide +kernel) rfl, ai_in 936 (by decide +kernel) rfl, ai_in 53 (by decide +kernel) rfl, ai_in 83 (by decide +kernel) rfl, wcX6_closeList, ⟨by decide +kernel, by decide +kernel, by decide +kernel⟩, by decide⟩
set_option maxRecDepth 100000 in
theorem wcX6_done : Cond.code yX6_done cX6_done 2 (none) ∈ ai_ws := ai_in 941 rfl rfl
theorem cvX6_177 : ai_Cv RX6 177 6 1 mX6_done := ⟨⟨_, _, rfl⟩, ai_in 938 (by decide +kernel) rfl, ai_in 940 (by decide +kernel) rfl, ai_in 54 (by decide +kernel) rfl, ai_in 83 (by decide +kernel) rfl, wcX6_done, ⟨by decide +kernel, by decide +kernel, by decide +kernel⟩, by decide⟩
set_option maxRecDepth 100000 in
theorem wcX6_add : Cond.code yX6_add cX6_add 2 (none) ∈ ai_ws := ai_in 953 rfl rfl
theorem cvX6_180 : ai_Cv RX6 180 6 1 mX6_add := ⟨⟨_, _, rfl⟩, ai_in 950 (by decide +kernel) rfl, ai_in 952 (by decide +kernel) rfl, ai_in 57 (by decide +kernel) rfl, ai_in 83 (by decide +kernel) rfl, wcX6_add, ⟨by decide +kernel, by decide +kernel, by decide +kernel⟩, by decide⟩
set_option maxRecDepth 100000 in
theorem wcX6_block : Cond.code yX6_block cX6_block 4 (none) ∈ ai_ws := ai_in 965 rfl rfl
theorem cvX6_183 : ai_Cv RX6 183 6 2 mX6_block := ⟨⟨_, _, rfl⟩, ai_in 962 (by decide +kernel) rfl, ai_in 964 (by decide +kernel) rfl, ai_in 60 (by decide +kernel) rfl, ai_in 83 (by decide +kernel) rfl, wcX6_block, ⟨by decide +kernel, by decide +kernel, by decide +kernel⟩, by decide⟩
set_option maxRecDepth 100000 in
theorem wcX6_leave : Cond.code yX6_leave cX6_leave 1 (none) ∈ ai_ws := ai_in 969 rfl rfl
theorem cvX6_186 : ai_Cv RX6 186 6 0 mX6_leave := ⟨⟨_, _, rfl⟩, ai_in 966 (by decide +kernel) rfl, ai_in 968 (by decide +kernel) rfl, ai_in 61 (by decide +kernel) rfl, ai_in 83 (by decide +kernel) rfl, wcX6_leave, ⟨by decide +kernel, by decide +kernel, by decide +kernel⟩, by decide⟩
set_option maxRecDepth 100000 in
theorem wcX6_declare : Cond.code yX6_declare cX6_declare 5 (none) ∈ ai_ws := ai_in 973 rfl rfl
theorem cvX6_192 : ai_Cv RX6 192 6 3 mX6_declare := ⟨⟨_, _, rfl⟩, ai_in 970 (by decide +kernel) rfl, ai_in 972 (by decide +kernel) rfl, ai_in 62 (by decide +kernel) rfl, ai_in 83 (by decide +kernel) rfl, wcX6_declare, ⟨by decide +kernel, by decide +kernel, by decide +kernel⟩, by decide⟩
set_option maxRecDepth 100000 in
theorem wcX6_heading : Cond.code yX6_heading cX6_heading 8 (none) ∈ ai_ws := ai_in 977 rfl rfl
theorem cvX6_195 : ai_Cv RX6 195 6 2 mX6_heading := ⟨⟨_, _, rfl⟩, ai_in 974 (by decide +kernel) rfl, ai_in 976 (by decide +kernel) rfl, ai_in 63 (by decide +kernel) rfl, ai_in 83 (by decide +kernel) rfl, wcX6_heading, ⟨by decide +kernel, by decide +kernel, by decide +kernel⟩, by decide⟩
set_option maxRecDepth 100000 in
theorem wcX6_operand : Cond.code yX6_operand cX6_operand 9 (none) ∈ ai_ws := ai_in 949 rfl rfl
theorem cvX6_204 : ai_Cv RX6 204 6 5 mX6_operand := ⟨⟨_, _, rfl⟩, ai_in 946 (by decide +kernel) rfl, ai_in 948 (by decide +kernel) rfl, ai_in 56 (by decide +kernel) rfl, ai_in 83 (by decide +kernel) rfl, wcX6_operand, ⟨by decide +kernel, by decide +kernel, by decide +kernel⟩, by decide⟩
set_option maxRecDepth 100000 in
theorem wcX6_factor : Cond.code yX6_factor cX6_factor 7 (none) ∈ ai_ws := ai_in 957 rfl rfl
theorem cvX6_208 : ai_Cv RX6 208 6 1 mX6_factor := ⟨⟨_, _, rfl⟩, ai_in 954 (by decide +kernel) rfl, ai_in 956 (by decide +kernel) rfl, ai_in 58 (by decide +kernel) rfl, ai_in 83 (by decide +kernel) rfl, wcX6_factor, ⟨by decide +kernel, by decide +kernel, by decide +kernel⟩, by decide⟩
set_option maxRecDepth 100000 in
theorem wcX6_openStatement : Cond.code yX6_openStatement cX6_openStatement 4 (none) ∈ ai_ws := ai_in 898 rfl rfl
theorem cvX6_215 : ai_Cv RX6 215 6 1 mX6_openStatement := ⟨⟨_, _, rfl⟩, ai_in 895 (by decide +kernel) rfl, ai_in 897 (by decide +kernel) rfl, ai_in 44 (by decide +kernel) rfl, ai_in 83 (by decide +kernel) rfl, wcX6_openStatement, ⟨by decide +kernel, by decide +kernel, by decide +kernel⟩, by decide⟩
set_option maxRecDepth 100000 in
theorem wcX6_expression : Cond.code yX6_expression cX6_expression 4 (none) ∈ ai_ws := ai_in 945 rfl rfl
theorem cvX6_218 : ai_Cv RX6 218 6 1 mX6_expression := ⟨⟨_, _, rfl⟩, ai_in 942 (by decide +kernel) rfl, ai_in 944 (by decide +kernel) rfl, ai_in 55 (by decide +kernel) rfl, ai_in 83 (by decide +kernel) rfl, wcX6_expression, ⟨by decide +kernel, by decide +kernel, by decide +kernel⟩, by decide⟩
set_option maxRecDepth 100000 in
theorem wcX6_onward : Cond.code yX6_onward cX6_onward 3 (none) ∈ ai_ws := ai_in 961 rfl rfl
theorem cvX6_221 : ai_Cv RX6 221 6 1 mX6_onward := ⟨⟨_, _, rfl⟩, ai_in 958 (by decide +kernel) rfl, ai_in 960 (by decide +kernel) rfl, ai_in 59 (by decide +kernel) rfl, ai_in 83 (by decide +kernel) rfl, wcX6_onward, ⟨by decide +kernel, by decide +kernel, by decide +kernel⟩, by decide⟩
set_option maxRecDepth 100000 in
theorem wcX6_outward : Cond.code yX6_outward cX6_outward 5 (some .int) ∈ ai_ws := ai_in 1014 rfl rfl
theorem cvX6_251 : ai_Cv RX6 251 6 2 mX6_outward := ⟨⟨_, _, rfl⟩, ai_in 1011 (by decide +kernel) rfl, ai_in 1013 (by decide +kernel) rfl, ai_in 71 (by decide +kernel) rfl, ai_in 83 (by decide +kernel) rfl, wcX6_outward, ⟨by decide +kernel, by decide +kernel, by decide +kernel⟩, by decide⟩
set_option maxRecDepth 100000 in
theorem wcX6_follow : Cond.code yX6_follow cX6_follow 7 (none) ∈ ai_ws := ai_in 1010 rfl rfl
theorem cvX6_257 : ai_Cv RX6 257 6 2 mX6_follow := ⟨⟨_, _, rfl⟩, ai_in 1007 (by decide +kernel) rfl, ai_in 1009 (by decide +kernel) rfl, ai_in 70 (by decide +kernel) rfl, ai_in 83 (by decide +kernel) rfl, wcX6_follow, ⟨by decide +kernel, by decide +kernel, by decide +kernel⟩, by decide⟩
set_option maxRecDepth 100000 in
theorem wcX6_frame : Cond.code yX6_frame cX6_frame 6 (some .int) ∈ ai_ws := ai_in 985 rfl rfl
theorem cvX6_269 : ai_Cv RX6 269 6 4 mX6_frame := ⟨⟨_, _, rfl⟩, ai_in 982 (by decide +kernel) rfl, ai_in 984 (by decide +kernel) rfl, ai_in 64 (by decide +kernel) rfl, ai_in 83 (by decide +kernel) rfl, wcX6_frame, ⟨by decide +kernel, by decide +kernel, by decide +kernel⟩, by decide⟩
set_option maxRecDepth 100000 in
theorem wcX6_arguments : Cond.code yX6_arguments cX6_arguments 5 (none) ∈ ai_ws := ai_in 1022 rfl rfl
theorem cvX6_273 : ai_Cv RX6 273 6 2 mX6_arguments := ⟨⟨_, _, rfl⟩, ai_in 1019 (by decide +kernel) rfl, ai_in 1021 (by decide +kernel) rfl, ai_in 73 (by decide +kernel) rfl, ai_in 83 (by decide +kernel) rfl, wcX6_arguments, ⟨by decide +kernel, by decide +kernel, by decide +kernel⟩, by decide⟩
set_option maxRecDepth 100000 in
theorem wcX6_later : Cond.code yX6_later cX6_later 4 (none) ∈ ai_ws := ai_in 989 rfl rfl
theorem cvX6_276 : ai_Cv RX6 276 6 3 mX6_later := ⟨⟨_, _, rfl⟩, ai_in 986 (by decide +kernel) rfl, ai_in 988 (by decide +kernel) rfl, ai_in 65 (by decide +kernel) rfl, ai_in 83 (by decide +kernel) rfl, wcX6_later, ⟨by decide +kernel, by decide +kernel, by decide +kernel⟩, by decide⟩
set_option maxRecDepth 100000 in
theorem wcX6_pay : Cond.code yX6_pay cX6_pay 1 (some .boolean) ∈ ai_ws := ai_in 1002 rfl rfl
theorem cvX6_279 : ai_Cv RX6 279 6 0 mX6_pay := ⟨⟨_, _, rfl⟩, ai_in 999 (by decide +kernel) rfl, ai_in 1001 (by decide +kernel) rfl, ai_in 68 (by decide +kernel) rfl, ai_in 83 (by decide +kernel) rfl, wcX6_pay, ⟨by decide +kernel, by decide +kernel, by decide +kernel⟩, by decide⟩
set_option maxRecDepth 100000 in
theorem wcX6_target : Cond.code yX6_target cX6_target 4 (some .int) ∈ ai_ws := ai_in 1006 rfl rfl
theorem cvX6_283 : ai_Cv RX6 283 6 2 mX6_target := ⟨⟨_, _, rfl⟩, ai_in 1003 (by decide +kernel) rfl, ai_in 1005 (by decide +kernel) rfl, ai_in 69 (by decide +kernel) rfl, ai_in 83 (by decide +kernel) rfl, wcX6_target, ⟨by decide +kernel, by decide +kernel, by decide +kernel⟩, by decide⟩
set_option maxRecDepth 100000 in
theorem wcX6_call : Cond.code yX6_call cX6_call 8 (none) ∈ ai_ws := ai_in 1018 rfl rfl
theorem cvX6_286 : ai_Cv RX6 286 6 2 mX6_call := ⟨⟨_, _, rfl⟩, ai_in 1015 (by decide +kernel) rfl, ai_in 1017 (by decide +kernel) rfl, ai_in 72 (by decide +kernel) rfl, ai_in 83 (by decide +kernel) rfl, wcX6_call, ⟨by decide +kernel, by decide +kernel, by decide +kernel⟩, by decide⟩
set_option maxRecDepth 100000 in
theorem wcX6_statement : Cond.code yX6_statement cX6_statement 6 (none) ∈ ai_ws := ai_in 998 rfl rfl
theorem cvX6_295 : ai_Cv RX6 295 6 2 mX6_statement := ⟨⟨_, _, rfl⟩, ai_in 995 (by decide +kernel) rfl, ai_in 997 (by decide +kernel) rfl, ai_in 67 (by decide +kernel) rfl, ai_in 83 (by decide +kernel) rfl, wcX6_statement, ⟨by decide +kernel, by decide +kernel, by decide +kernel⟩, by decide⟩
set_option maxRecDepth 100000 in
theorem wcX6_evaluate : Cond.code yX6_evaluate cX6_evaluate 5 (none) ∈ ai_ws := ai_in 1026 rfl rfl
theorem cvX6_301 : ai_Cv RX6 301 6 2 mX6_evaluate := ⟨⟨_, _, rfl⟩, ai_in 1023 (by decide +kernel) rfl, ai_in 1025 (by decide +kernel) rfl, ai_in 74 (by decide +kernel) rfl, ai_in 83 (by decide +kernel) rfl, wcX6_evaluate, ⟨by decide +kernel, by decide +kernel, by decide +kernel⟩, by decide⟩
set_option maxRecDepth 100000 in
theorem wcX6_operandDone : Cond.code yX6_operandDone cX6_operandDone 6 (none) ∈ ai_ws := ai_in 1030 rfl rfl
theorem cvX6_304 : ai_Cv RX6 304 6 3 mX6_operandDone := ⟨⟨_, _, rfl⟩, ai_in 1027 (by decide +kernel) rfl, ai_in 1029 (by decide +kernel) rfl, ai_in 75 (by decide +kernel) rfl, ai_in 83 (by decide +kernel) rfl, wcX6_operandDone, ⟨by decide +kernel, by decide +kernel, by decide +kernel⟩, by decide⟩
set_option maxRecDepth 100000 in
theorem wcX6_perform : Cond.code yX6_perform cX6_perform 5 (none) ∈ ai_ws := ai_in 994 rfl rfl
theorem cvX6_309 : ai_Cv RX6 309 6 3 mX6_perform := ⟨⟨_, _, rfl⟩, ai_in 991 (by decide +kernel) rfl, ai_in 993 (by decide +kernel) rfl, ai_in 66 (by decide +kernel) rfl, ai_in 83 (by decide +kernel) rfl, wcX6_perform, ⟨by decide +kernel, by decide +kernel, by decide +kernel⟩, by decide⟩
set_option maxRecDepth 100000 in
theorem wcX6_within : Cond.code yX6_within cX6_within 3 (some .boolean) ∈ ai_ws := ai_in 917 rfl rfl
theorem csX6_111 : ai_Cs RX6 111 3 mX6_within := ⟨ai_in 915 (by decide +kernel) rfl, ai_in 916 (by decide +kernel) rfl, ai_in 83 (by decide +kernel) rfl, wcX6_within, ⟨by decide +kernel, by decide +kernel, by decide +kernel⟩, by decide⟩
theorem ctX6_214 : Cond.constant RX6 214 100000 ∈ ai_ws := ai_in 894 (by decide +kernel) rfl
theorem ctX6_308 : Cond.constant RX6 308 10000000 ∈ ai_ws := ai_in 990 (by decide +kernel) rfl
theorem ctX6_312 : Cond.constantLong RX6 312 4294967296 ∈ ai_ws := ai_in 1039 (by decide +kernel) rfl
