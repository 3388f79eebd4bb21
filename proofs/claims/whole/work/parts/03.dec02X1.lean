theorem dX1_init_0 : decode cX1_init 0 = .ok (.aload_n 0, 1) := by decide +kernel
theorem dX1_init_1 : decode cX1_init 1 = .ok (.invokespecial 3, 3) := by decide +kernel
theorem dX1_init_4 : decode cX1_init 4 = .ok (.aload_n 0, 1) := by decide +kernel
theorem dX1_init_5 : decode cX1_init 5 = .ok (.new 9, 3) := by decide +kernel
theorem dX1_init_8 : decode cX1_init 8 = .ok (.dup, 1) := by decide +kernel
theorem dX1_init_9 : decode cX1_init 9 = .ok (.invokespecial 11, 3) := by decide +kernel
theorem dX1_init_12 : decode cX1_init 12 = .ok (.putfield 12, 3) := by decide +kernel
theorem dX1_init_15 : decode cX1_init 15 = .ok (.aload_n 0, 1) := by decide +kernel
theorem dX1_init_16 : decode cX1_init 16 = .ok (.bipush 30, 2) := by decide +kernel
theorem dX1_init_18 : decode cX1_init 18 = .ok (.newarray .int, 2) := by decide +kernel
theorem dX1_init_20 : decode cX1_init 20 = .ok (.putfield 18, 3) := by decide +kernel
theorem dX1_init_23 : decode cX1_init 23 = .ok (.aload_n 0, 1) := by decide +kernel
theorem dX1_init_24 : decode cX1_init 24 = .ok (.bipush 30, 2) := by decide +kernel
theorem dX1_init_26 : decode cX1_init 26 = .ok (.newarray .int, 2) := by decide +kernel
theorem dX1_init_28 : decode cX1_init 28 = .ok (.putfield 22, 3) := by decide +kernel
theorem dX1_init_31 : decode cX1_init 31 = .ok (.aload_n 0, 1) := by decide +kernel
theorem dX1_init_32 : decode cX1_init 32 = .ok (.bipush 100, 2) := by decide +kernel
theorem dX1_init_34 : decode cX1_init 34 = .ok (.newarray .int, 2) := by decide +kernel
theorem dX1_init_36 : decode cX1_init 36 = .ok (.putfield 25, 3) := by decide +kernel
theorem dX1_init_39 : decode cX1_init 39 = .ok (.aload_n 0, 1) := by decide +kernel
theorem dX1_init_40 : decode cX1_init 40 = .ok (.bipush 32, 2) := by decide +kernel
theorem dX1_init_42 : decode cX1_init 42 = .ok (.newarray .int, 2) := by decide +kernel
theorem dX1_init_44 : decode cX1_init 44 = .ok (.putfield 28, 3) := by decide +kernel
theorem dX1_init_47 : decode cX1_init 47 = .ok (.return_, 1) := by decide +kernel
theorem dX1_runProgram_0 : decode cX1_runProgram 0 = .ok (.aload_n 0, 1) := by decide +kernel
theorem dX1_runProgram_1 : decode cX1_runProgram 1 = .ok (.aload_n 1, 1) := by decide +kernel
theorem dX1_runProgram_2 : decode cX1_runProgram 2 = .ok (.putfield 31, 3) := by decide +kernel
theorem dX1_runProgram_5 : decode cX1_runProgram 5 = .ok (.aload_n 0, 1) := by decide +kernel
theorem dX1_runProgram_6 : decode cX1_runProgram 6 = .ok (.iload_n 2, 1) := by decide +kernel
theorem dX1_runProgram_7 : decode cX1_runProgram 7 = .ok (.putfield 35, 3) := by decide +kernel
theorem dX1_runProgram_10 : decode cX1_runProgram 10 = .ok (.aload_n 0, 1) := by decide +kernel
theorem dX1_runProgram_11 : decode cX1_runProgram 11 = .ok (.iconst 0, 1) := by decide +kernel
theorem dX1_runProgram_12 : decode cX1_runProgram 12 = .ok (.putfield 39, 3) := by decide +kernel
theorem dX1_runProgram_15 : decode cX1_runProgram 15 = .ok (.aload_n 0, 1) := by decide +kernel
theorem dX1_runProgram_16 : decode cX1_runProgram 16 = .ok (.iconst (-1), 1) := by decide +kernel
theorem dX1_runProgram_17 : decode cX1_runProgram 17 = .ok (.putfield 42, 3) := by decide +kernel
theorem dX1_runProgram_20 : decode cX1_runProgram 20 = .ok (.aload_n 0, 1) := by decide +kernel
theorem dX1_runProgram_21 : decode cX1_runProgram 21 = .ok (.iconst 0, 1) := by decide +kernel
theorem dX1_runProgram_22 : decode cX1_runProgram 22 = .ok (.putfield 45, 3) := by decide +kernel
theorem dX1_runProgram_25 : decode cX1_runProgram 25 = .ok (.aload_n 0, 1) := by decide +kernel
theorem dX1_runProgram_26 : decode cX1_runProgram 26 = .ok (.iconst 0, 1) := by decide +kernel
theorem dX1_runProgram_27 : decode cX1_runProgram 27 = .ok (.putfield 48, 3) := by decide +kernel
theorem dX1_runProgram_30 : decode cX1_runProgram 30 = .ok (.aload_n 0, 1) := by decide +kernel
theorem dX1_runProgram_31 : decode cX1_runProgram 31 = .ok (.iconst 0, 1) := by decide +kernel
theorem dX1_runProgram_32 : decode cX1_runProgram 32 = .ok (.putfield 51, 3) := by decide +kernel
theorem dX1_runProgram_35 : decode cX1_runProgram 35 = .ok (.aload_n 0, 1) := by decide +kernel
theorem dX1_runProgram_36 : decode cX1_runProgram 36 = .ok (.getfield 12, 3) := by decide +kernel
theorem dX1_runProgram_39 : decode cX1_runProgram 39 = .ok (.invokevirtual 54, 3) := by decide +kernel
theorem dX1_runProgram_42 : decode cX1_runProgram 42 = .ok (.aload_n 0, 1) := by decide +kernel
theorem dX1_runProgram_43 : decode cX1_runProgram 43 = .ok (.iconst 0, 1) := by decide +kernel
theorem dX1_runProgram_44 : decode cX1_runProgram 44 = .ok (.putfield 57, 3) := by decide +kernel
theorem dX1_runProgram_47 : decode cX1_runProgram 47 = .ok (.aload_n 0, 1) := by decide +kernel
theorem dX1_runProgram_48 : decode cX1_runProgram 48 = .ok (.iconst 0, 1) := by decide +kernel
theorem dX1_runProgram_49 : decode cX1_runProgram 49 = .ok (.putfield 60, 3) := by decide +kernel
theorem dX1_runProgram_52 : decode cX1_runProgram 52 = .ok (.aload_n 0, 1) := by decide +kernel
theorem dX1_runProgram_53 : decode cX1_runProgram 53 = .ok (.iconst 0, 1) := by decide +kernel
theorem dX1_runProgram_54 : decode cX1_runProgram 54 = .ok (.putfield 63, 3) := by decide +kernel
theorem dX1_runProgram_57 : decode cX1_runProgram 57 = .ok (.iconst 0, 1) := by decide +kernel
theorem dX1_runProgram_58 : decode cX1_runProgram 58 = .ok (.istore_n 3, 1) := by decide +kernel
theorem dX1_runProgram_59 : decode cX1_runProgram 59 = .ok (.iload_n 3, 1) := by decide +kernel
theorem dX1_runProgram_60 : decode cX1_runProgram 60 = .ok (.ldc 66, 2) := by decide +kernel
theorem dX1_runProgram_62 : decode cX1_runProgram 62 = .ok (.if_icmp .ge 21, 3) := by decide +kernel
theorem dX1_runProgram_65 : decode cX1_runProgram 65 = .ok (.aload_n 0, 1) := by decide +kernel
theorem dX1_runProgram_66 : decode cX1_runProgram 66 = .ok (.getfield 42, 3) := by decide +kernel
theorem dX1_runProgram_69 : decode cX1_runProgram 69 = .ok (.iconst (-1), 1) := by decide +kernel
theorem dX1_runProgram_70 : decode cX1_runProgram 70 = .ok (.if_icmp .ne 13, 3) := by decide +kernel
theorem dX1_runProgram_73 : decode cX1_runProgram 73 = .ok (.aload_n 0, 1) := by decide +kernel
theorem dX1_runProgram_74 : decode cX1_runProgram 74 = .ok (.invokevirtual 67, 3) := by decide +kernel
theorem dX1_runProgram_77 : decode cX1_runProgram 77 = .ok (.iinc 3 1, 3) := by decide +kernel
theorem dX1_runProgram_80 : decode cX1_runProgram 80 = .ok (.goto (-21), 3) := by decide +kernel
theorem dX1_runProgram_83 : decode cX1_runProgram 83 = .ok (.aload_n 0, 1) := by decide +kernel
theorem dX1_runProgram_84 : decode cX1_runProgram 84 = .ok (.getfield 42, 3) := by decide +kernel
theorem dX1_runProgram_87 : decode cX1_runProgram 87 = .ok (.iconst (-1), 1) := by decide +kernel
theorem dX1_runProgram_88 : decode cX1_runProgram 88 = .ok (.if_icmp .ne 8, 3) := by decide +kernel
theorem dX1_runProgram_91 : decode cX1_runProgram 91 = .ok (.aload_n 0, 1) := by decide +kernel
theorem dX1_runProgram_92 : decode cX1_runProgram 92 = .ok (.iconst 1, 1) := by decide +kernel
theorem dX1_runProgram_93 : decode cX1_runProgram 93 = .ok (.putfield 42, 3) := by decide +kernel
theorem dX1_runProgram_96 : decode cX1_runProgram 96 = .ok (.aload_n 0, 1) := by decide +kernel
theorem dX1_runProgram_97 : decode cX1_runProgram 97 = .ok (.getfield 42, 3) := by decide +kernel
theorem dX1_runProgram_100 : decode cX1_runProgram 100 = .ok (.ireturn, 1) := by decide +kernel
theorem dX1_printAt_0 : decode cX1_printAt 0 = .ok (.iload_n 1, 1) := by decide +kernel
theorem dX1_printAt_1 : decode cX1_printAt 1 = .ok (.ifCond .lt 27, 3) := by decide +kernel
theorem dX1_printAt_4 : decode cX1_printAt 4 = .ok (.iload_n 1, 1) := by decide +kernel
theorem dX1_printAt_5 : decode cX1_printAt 5 = .ok (.aload_n 0, 1) := by decide +kernel
theorem dX1_printAt_6 : decode cX1_printAt 6 = .ok (.getfield 63, 3) := by decide +kernel
theorem dX1_printAt_9 : decode cX1_printAt 9 = .ok (.if_icmp .ge 19, 3) := by decide +kernel
theorem dX1_printAt_12 : decode cX1_printAt 12 = .ok (.iload_n 1, 1) := by decide +kernel
theorem dX1_printAt_13 : decode cX1_printAt 13 = .ok (.bipush 32, 2) := by decide +kernel
theorem dX1_printAt_15 : decode cX1_printAt 15 = .ok (.if_icmp .ge 13, 3) := by decide +kernel
theorem dX1_printAt_18 : decode cX1_printAt 18 = .ok (.aload_n 0, 1) := by decide +kernel
theorem dX1_printAt_19 : decode cX1_printAt 19 = .ok (.getfield 28, 3) := by decide +kernel
theorem dX1_printAt_22 : decode cX1_printAt 22 = .ok (.iload_n 1, 1) := by decide +kernel
theorem dX1_printAt_23 : decode cX1_printAt 23 = .ok (.iaload, 1) := by decide +kernel
theorem dX1_printAt_24 : decode cX1_printAt 24 = .ok (.i2l, 1) := by decide +kernel
theorem dX1_printAt_25 : decode cX1_printAt 25 = .ok (.goto 6, 3) := by decide +kernel
theorem dX1_printAt_28 : decode cX1_printAt 28 = .ok (.ldc2_w 70, 3) := by decide +kernel
theorem dX1_printAt_31 : decode cX1_printAt 31 = .ok (.lreturn, 1) := by decide +kernel
theorem dX1_step_0 : decode cX1_step 0 = .ok (.aload_n 0, 1) := by decide +kernel
theorem dX1_step_1 : decode cX1_step 1 = .ok (.getfield 31, 3) := by decide +kernel
theorem dX1_step_4 : decode cX1_step 4 = .ok (.aload_n 0, 1) := by decide +kernel
theorem dX1_step_5 : decode cX1_step 5 = .ok (.getfield 45, 3) := by decide +kernel
theorem dX1_step_8 : decode cX1_step 8 = .ok (.invokevirtual 72, 3) := by decide +kernel
theorem dX1_step_11 : decode cX1_step 11 = .ok (.istore_n 1, 1) := by decide +kernel
theorem dX1_step_12 : decode cX1_step 12 = .ok (.aload_n 0, 1) := by decide +kernel
theorem dX1_step_13 : decode cX1_step 13 = .ok (.getfield 31, 3) := by decide +kernel
theorem dX1_step_16 : decode cX1_step 16 = .ok (.aload_n 0, 1) := by decide +kernel
theorem dX1_step_17 : decode cX1_step 17 = .ok (.getfield 45, 3) := by decide +kernel
theorem dX1_step_20 : decode cX1_step 20 = .ok (.invokevirtual 78, 3) := by decide +kernel
theorem dX1_step_23 : decode cX1_step 23 = .ok (.istore_n 2, 1) := by decide +kernel
theorem dX1_step_24 : decode cX1_step 24 = .ok (.aload_n 0, 1) := by decide +kernel
theorem dX1_step_25 : decode cX1_step 25 = .ok (.getfield 31, 3) := by decide +kernel
theorem dX1_step_28 : decode cX1_step 28 = .ok (.aload_n 0, 1) := by decide +kernel
theorem dX1_step_29 : decode cX1_step 29 = .ok (.getfield 45, 3) := by decide +kernel
theorem dX1_step_32 : decode cX1_step 32 = .ok (.invokevirtual 81, 3) := by decide +kernel
theorem dX1_step_35 : decode cX1_step 35 = .ok (.istore_n 3, 1) := by decide +kernel
theorem dX1_step_36 : decode cX1_step 36 = .ok (.aload_n 0, 1) := by decide +kernel
theorem dX1_step_37 : decode cX1_step 37 = .ok (.dup, 1) := by decide +kernel
theorem dX1_step_38 : decode cX1_step 38 = .ok (.getfield 45, 3) := by decide +kernel
theorem dX1_step_41 : decode cX1_step 41 = .ok (.iconst 1, 1) := by decide +kernel
theorem dX1_step_42 : decode cX1_step 42 = .ok (.iadd, 1) := by decide +kernel
theorem dX1_step_43 : decode cX1_step 43 = .ok (.putfield 45, 3) := by decide +kernel
theorem dX1_step_46 : decode cX1_step 46 = .ok (.iload_n 1, 1) := by decide +kernel
theorem dX1_step_47 : decode cX1_step 47 = .ok (.bipush 18, 2) := by decide +kernel
theorem dX1_step_49 : decode cX1_step 49 = .ok (.if_icmp .lt 17, 3) := by decide +kernel
theorem dX1_step_52 : decode cX1_step 52 = .ok (.iload_n 1, 1) := by decide +kernel
theorem dX1_step_53 : decode cX1_step 53 = .ok (.bipush 22, 2) := by decide +kernel
theorem dX1_step_55 : decode cX1_step 55 = .ok (.if_icmp .gt 11, 3) := by decide +kernel
theorem dX1_step_58 : decode cX1_step 58 = .ok (.aload_n 0, 1) := by decide +kernel
theorem dX1_step_59 : decode cX1_step 59 = .ok (.iload_n 1, 1) := by decide +kernel
theorem dX1_step_60 : decode cX1_step 60 = .ok (.invokevirtual 84, 3) := by decide +kernel
theorem dX1_step_63 : decode cX1_step 63 = .ok (.goto 76, 3) := by decide +kernel
theorem dX1_step_66 : decode cX1_step 66 = .ok (.iload_n 1, 1) := by decide +kernel
theorem dX1_step_67 : decode cX1_step 67 = .ok (.bipush 6, 2) := by decide +kernel
theorem dX1_step_69 : decode cX1_step 69 = .ok (.if_icmp .lt 19, 3) := by decide +kernel
theorem dX1_step_72 : decode cX1_step 72 = .ok (.iload_n 1, 1) := by decide +kernel
theorem dX1_step_73 : decode cX1_step 73 = .ok (.bipush 9, 2) := by decide +kernel
theorem dX1_step_75 : decode cX1_step 75 = .ok (.if_icmp .gt 13, 3) := by decide +kernel
theorem dX1_step_78 : decode cX1_step 78 = .ok (.aload_n 0, 1) := by decide +kernel
theorem dX1_step_79 : decode cX1_step 79 = .ok (.iload_n 1, 1) := by decide +kernel
theorem dX1_step_80 : decode cX1_step 80 = .ok (.iload_n 2, 1) := by decide +kernel
theorem dX1_step_81 : decode cX1_step 81 = .ok (.iload_n 3, 1) := by decide +kernel
theorem dX1_step_82 : decode cX1_step 82 = .ok (.invokevirtual 88, 3) := by decide +kernel
theorem dX1_step_85 : decode cX1_step 85 = .ok (.goto 54, 3) := by decide +kernel
theorem dX1_step_88 : decode cX1_step 88 = .ok (.iload_n 1, 1) := by decide +kernel
theorem dX1_step_89 : decode cX1_step 89 = .ok (.bipush 10, 2) := by decide +kernel
theorem dX1_step_91 : decode cX1_step 91 = .ok (.if_icmp .lt 19, 3) := by decide +kernel
theorem dX1_step_94 : decode cX1_step 94 = .ok (.iload_n 1, 1) := by decide +kernel
theorem dX1_step_95 : decode cX1_step 95 = .ok (.bipush 12, 2) := by decide +kernel
theorem dX1_step_97 : decode cX1_step 97 = .ok (.if_icmp .gt 13, 3) := by decide +kernel
theorem dX1_step_100 : decode cX1_step 100 = .ok (.aload_n 0, 1) := by decide +kernel
theorem dX1_step_101 : decode cX1_step 101 = .ok (.iload_n 1, 1) := by decide +kernel
theorem dX1_step_102 : decode cX1_step 102 = .ok (.iload_n 2, 1) := by decide +kernel
theorem dX1_step_103 : decode cX1_step 103 = .ok (.iload_n 3, 1) := by decide +kernel
theorem dX1_step_104 : decode cX1_step 104 = .ok (.invokevirtual 92, 3) := by decide +kernel
theorem dX1_step_107 : decode cX1_step 107 = .ok (.goto 32, 3) := by decide +kernel
theorem dX1_step_110 : decode cX1_step 110 = .ok (.iload_n 1, 1) := by decide +kernel
theorem dX1_step_111 : decode cX1_step 111 = .ok (.bipush 13, 2) := by decide +kernel
theorem dX1_step_113 : decode cX1_step 113 = .ok (.if_icmp .lt 19, 3) := by decide +kernel
theorem dX1_step_116 : decode cX1_step 116 = .ok (.iload_n 1, 1) := by decide +kernel
theorem dX1_step_117 : decode cX1_step 117 = .ok (.bipush 15, 2) := by decide +kernel
theorem dX1_step_119 : decode cX1_step 119 = .ok (.if_icmp .gt 13, 3) := by decide +kernel
theorem dX1_step_122 : decode cX1_step 122 = .ok (.aload_n 0, 1) := by decide +kernel
theorem dX1_step_123 : decode cX1_step 123 = .ok (.iload_n 1, 1) := by decide +kernel
theorem dX1_step_124 : decode cX1_step 124 = .ok (.iload_n 2, 1) := by decide +kernel
theorem dX1_step_125 : decode cX1_step 125 = .ok (.iload_n 3, 1) := by decide +kernel
theorem dX1_step_126 : decode cX1_step 126 = .ok (.invokevirtual 95, 3) := by decide +kernel
theorem dX1_step_129 : decode cX1_step 129 = .ok (.goto 10, 3) := by decide +kernel
theorem dX1_step_132 : decode cX1_step 132 = .ok (.aload_n 0, 1) := by decide +kernel
theorem dX1_step_133 : decode cX1_step 133 = .ok (.iload_n 1, 1) := by decide +kernel
theorem dX1_step_134 : decode cX1_step 134 = .ok (.iload_n 2, 1) := by decide +kernel
theorem dX1_step_135 : decode cX1_step 135 = .ok (.iload_n 3, 1) := by decide +kernel
theorem dX1_step_136 : decode cX1_step 136 = .ok (.invokevirtual 98, 3) := by decide +kernel
theorem dX1_step_139 : decode cX1_step 139 = .ok (.return_, 1) := by decide +kernel
theorem dX1_control_0 : decode cX1_control 0 = .ok (.iload_n 1, 1) := by decide +kernel
theorem dX1_control_1 : decode cX1_control 1 = .ok (.tableswitch 202 1 25 #[115, 123, 132, 140, 155, 202, 202, 202, 202, 202, 202, 202, 202, 202, 202, 162, 188, 202, 202, 202, 202, 202, 202, 202, 195], 115) := by decide +kernel
theorem dX1_control_116 : decode cX1_control 116 = .ok (.aload_n 0, 1) := by decide +kernel
theorem dX1_control_117 : decode cX1_control 117 = .ok (.invokevirtual 101, 3) := by decide +kernel
theorem dX1_control_120 : decode cX1_control 120 = .ok (.pop, 1) := by decide +kernel
theorem dX1_control_121 : decode cX1_control 121 = .ok (.goto 87, 3) := by decide +kernel
theorem dX1_control_124 : decode cX1_control 124 = .ok (.aload_n 0, 1) := by decide +kernel
theorem dX1_control_125 : decode cX1_control 125 = .ok (.iload_n 2, 1) := by decide +kernel
theorem dX1_control_126 : decode cX1_control 126 = .ok (.iload_n 3, 1) := by decide +kernel
theorem dX1_control_127 : decode cX1_control 127 = .ok (.invokevirtual 105, 3) := by decide +kernel
theorem dX1_control_130 : decode cX1_control 130 = .ok (.goto 78, 3) := by decide +kernel
theorem dX1_control_133 : decode cX1_control 133 = .ok (.aload_n 0, 1) := by decide +kernel
theorem dX1_control_134 : decode cX1_control 134 = .ok (.iload_n 2, 1) := by decide +kernel
theorem dX1_control_135 : decode cX1_control 135 = .ok (.putfield 45, 3) := by decide +kernel
theorem dX1_control_138 : decode cX1_control 138 = .ok (.goto 70, 3) := by decide +kernel
theorem dX1_control_141 : decode cX1_control 141 = .ok (.aload_n 0, 1) := by decide +kernel
theorem dX1_control_142 : decode cX1_control 142 = .ok (.getfield 51, 3) := by decide +kernel
theorem dX1_control_145 : decode cX1_control 145 = .ok (.ifCond .ne 63, 3) := by decide +kernel
theorem dX1_control_148 : decode cX1_control 148 = .ok (.aload_n 0, 1) := by decide +kernel
theorem dX1_control_149 : decode cX1_control 149 = .ok (.iload_n 2, 1) := by decide +kernel
theorem dX1_control_150 : decode cX1_control 150 = .ok (.putfield 45, 3) := by decide +kernel
theorem dX1_control_153 : decode cX1_control 153 = .ok (.goto 55, 3) := by decide +kernel
theorem dX1_control_156 : decode cX1_control 156 = .ok (.aload_n 0, 1) := by decide +kernel
theorem dX1_control_157 : decode cX1_control 157 = .ok (.invokevirtual 109, 3) := by decide +kernel
theorem dX1_control_160 : decode cX1_control 160 = .ok (.goto 48, 3) := by decide +kernel
theorem dX1_control_163 : decode cX1_control 163 = .ok (.aload_n 0, 1) := by decide +kernel
theorem dX1_control_164 : decode cX1_control 164 = .ok (.getfield 12, 3) := by decide +kernel
theorem dX1_control_167 : decode cX1_control 167 = .ok (.aload_n 0, 1) := by decide +kernel
theorem dX1_control_168 : decode cX1_control 168 = .ok (.getfield 12, 3) := by decide +kernel
theorem dX1_control_171 : decode cX1_control 171 = .ok (.aload_n 0, 1) := by decide +kernel
theorem dX1_control_172 : decode cX1_control 172 = .ok (.getfield 48, 3) := by decide +kernel
theorem dX1_control_175 : decode cX1_control 175 = .ok (.iload_n 2, 1) := by decide +kernel
theorem dX1_control_176 : decode cX1_control 176 = .ok (.invokevirtual 112, 3) := by decide +kernel
theorem dX1_control_179 : decode cX1_control 179 = .ok (.aload_n 0, 1) := by decide +kernel
theorem dX1_control_180 : decode cX1_control 180 = .ok (.getfield 51, 3) := by decide +kernel
theorem dX1_control_183 : decode cX1_control 183 = .ok (.invokevirtual 116, 3) := by decide +kernel
theorem dX1_control_186 : decode cX1_control 186 = .ok (.goto 22, 3) := by decide +kernel
theorem dX1_control_189 : decode cX1_control 189 = .ok (.aload_n 0, 1) := by decide +kernel
theorem dX1_control_190 : decode cX1_control 190 = .ok (.invokevirtual 119, 3) := by decide +kernel
theorem dX1_control_193 : decode cX1_control 193 = .ok (.goto 15, 3) := by decide +kernel
theorem dX1_control_196 : decode cX1_control 196 = .ok (.aload_n 0, 1) := by decide +kernel
theorem dX1_control_197 : decode cX1_control 197 = .ok (.invokevirtual 122, 3) := by decide +kernel
theorem dX1_control_200 : decode cX1_control 200 = .ok (.goto 8, 3) := by decide +kernel
theorem dX1_control_203 : decode cX1_control 203 = .ok (.aload_n 0, 1) := by decide +kernel
theorem dX1_control_204 : decode cX1_control 204 = .ok (.iconst 0, 1) := by decide +kernel
theorem dX1_control_205 : decode cX1_control 205 = .ok (.putfield 42, 3) := by decide +kernel
theorem dX1_control_208 : decode cX1_control 208 = .ok (.return_, 1) := by decide +kernel
theorem dX1_pay_0 : decode cX1_pay 0 = .ok (.aload_n 0, 1) := by decide +kernel
theorem dX1_pay_1 : decode cX1_pay 1 = .ok (.getfield 39, 3) := by decide +kernel
theorem dX1_pay_4 : decode cX1_pay 4 = .ok (.aload_n 0, 1) := by decide +kernel
theorem dX1_pay_5 : decode cX1_pay 5 = .ok (.getfield 35, 3) := by decide +kernel
theorem dX1_pay_8 : decode cX1_pay 8 = .ok (.if_icmp .lt 10, 3) := by decide +kernel
theorem dX1_pay_11 : decode cX1_pay 11 = .ok (.aload_n 0, 1) := by decide +kernel
theorem dX1_pay_12 : decode cX1_pay 12 = .ok (.iconst 1, 1) := by decide +kernel
theorem dX1_pay_13 : decode cX1_pay 13 = .ok (.putfield 42, 3) := by decide +kernel
theorem dX1_pay_16 : decode cX1_pay 16 = .ok (.iconst 0, 1) := by decide +kernel
theorem dX1_pay_17 : decode cX1_pay 17 = .ok (.ireturn, 1) := by decide +kernel
theorem dX1_pay_18 : decode cX1_pay 18 = .ok (.aload_n 0, 1) := by decide +kernel
theorem dX1_pay_19 : decode cX1_pay 19 = .ok (.dup, 1) := by decide +kernel
theorem dX1_pay_20 : decode cX1_pay 20 = .ok (.getfield 39, 3) := by decide +kernel
theorem dX1_pay_23 : decode cX1_pay 23 = .ok (.iconst 1, 1) := by decide +kernel
theorem dX1_pay_24 : decode cX1_pay 24 = .ok (.iadd, 1) := by decide +kernel
theorem dX1_pay_25 : decode cX1_pay 25 = .ok (.putfield 39, 3) := by decide +kernel
theorem dX1_pay_28 : decode cX1_pay 28 = .ok (.iconst 1, 1) := by decide +kernel
theorem dX1_pay_29 : decode cX1_pay 29 = .ok (.ireturn, 1) := by decide +kernel
theorem dX1_beginBlock_0 : decode cX1_beginBlock 0 = .ok (.aload_n 0, 1) := by decide +kernel
theorem dX1_beginBlock_1 : decode cX1_beginBlock 1 = .ok (.invokevirtual 101, 3) := by decide +kernel
theorem dX1_beginBlock_4 : decode cX1_beginBlock 4 = .ok (.ifCond .ne 4, 3) := by decide +kernel
theorem dX1_beginBlock_7 : decode cX1_beginBlock 7 = .ok (.return_, 1) := by decide +kernel
theorem dX1_beginBlock_8 : decode cX1_beginBlock 8 = .ok (.iconst 0, 1) := by decide +kernel
theorem dX1_beginBlock_9 : decode cX1_beginBlock 9 = .ok (.istore_n 3, 1) := by decide +kernel
theorem dX1_beginBlock_10 : decode cX1_beginBlock 10 = .ok (.iload_n 3, 1) := by decide +kernel
theorem dX1_beginBlock_11 : decode cX1_beginBlock 11 = .ok (.iload_n 2, 1) := by decide +kernel
theorem dX1_beginBlock_12 : decode cX1_beginBlock 12 = .ok (.if_icmp .ge 37, 3) := by decide +kernel
theorem dX1_beginBlock_15 : decode cX1_beginBlock 15 = .ok (.iload_n 3, 1) := by decide +kernel
theorem dX1_beginBlock_16 : decode cX1_beginBlock 16 = .ok (.bipush 24, 2) := by decide +kernel
theorem dX1_beginBlock_18 : decode cX1_beginBlock 18 = .ok (.if_icmp .ge 31, 3) := by decide +kernel
theorem dX1_beginBlock_21 : decode cX1_beginBlock 21 = .ok (.aload_n 0, 1) := by decide +kernel
theorem dX1_beginBlock_22 : decode cX1_beginBlock 22 = .ok (.getfield 12, 3) := by decide +kernel
theorem dX1_beginBlock_25 : decode cX1_beginBlock 25 = .ok (.aload_n 0, 1) := by decide +kernel
theorem dX1_beginBlock_26 : decode cX1_beginBlock 26 = .ok (.getfield 12, 3) := by decide +kernel
theorem dX1_beginBlock_29 : decode cX1_beginBlock 29 = .ok (.aload_n 0, 1) := by decide +kernel
theorem dX1_beginBlock_30 : decode cX1_beginBlock 30 = .ok (.getfield 48, 3) := by decide +kernel
theorem dX1_beginBlock_33 : decode cX1_beginBlock 33 = .ok (.iload_n 1, 1) := by decide +kernel
theorem dX1_beginBlock_34 : decode cX1_beginBlock 34 = .ok (.iload_n 3, 1) := by decide +kernel
theorem dX1_beginBlock_35 : decode cX1_beginBlock 35 = .ok (.iadd, 1) := by decide +kernel
theorem dX1_beginBlock_36 : decode cX1_beginBlock 36 = .ok (.invokevirtual 112, 3) := by decide +kernel
theorem dX1_beginBlock_39 : decode cX1_beginBlock 39 = .ok (.iconst 0, 1) := by decide +kernel
theorem dX1_beginBlock_40 : decode cX1_beginBlock 40 = .ok (.invokevirtual 116, 3) := by decide +kernel
theorem dX1_beginBlock_43 : decode cX1_beginBlock 43 = .ok (.iinc 3 1, 3) := by decide +kernel
theorem dX1_beginBlock_46 : decode cX1_beginBlock 46 = .ok (.goto (-36), 3) := by decide +kernel
theorem dX1_beginBlock_49 : decode cX1_beginBlock 49 = .ok (.return_, 1) := by decide +kernel
theorem dX1_printValue_0 : decode cX1_printValue 0 = .ok (.aload_n 0, 1) := by decide +kernel
theorem dX1_printValue_1 : decode cX1_printValue 1 = .ok (.getfield 63, 3) := by decide +kernel
theorem dX1_printValue_4 : decode cX1_printValue 4 = .ok (.bipush 32, 2) := by decide +kernel
theorem dX1_printValue_6 : decode cX1_printValue 6 = .ok (.if_icmp .lt 10, 3) := by decide +kernel
theorem dX1_printValue_9 : decode cX1_printValue 9 = .ok (.aload_n 0, 1) := by decide +kernel
theorem dX1_printValue_10 : decode cX1_printValue 10 = .ok (.bipush 6, 2) := by decide +kernel
theorem dX1_printValue_12 : decode cX1_printValue 12 = .ok (.putfield 42, 3) := by decide +kernel
theorem dX1_printValue_15 : decode cX1_printValue 15 = .ok (.return_, 1) := by decide +kernel
theorem dX1_printValue_16 : decode cX1_printValue 16 = .ok (.aload_n 0, 1) := by decide +kernel
theorem dX1_printValue_17 : decode cX1_printValue 17 = .ok (.getfield 28, 3) := by decide +kernel
theorem dX1_printValue_20 : decode cX1_printValue 20 = .ok (.aload_n 0, 1) := by decide +kernel
theorem dX1_printValue_21 : decode cX1_printValue 21 = .ok (.getfield 63, 3) := by decide +kernel
theorem dX1_printValue_24 : decode cX1_printValue 24 = .ok (.aload_n 0, 1) := by decide +kernel
theorem dX1_printValue_25 : decode cX1_printValue 25 = .ok (.getfield 51, 3) := by decide +kernel
theorem dX1_printValue_28 : decode cX1_printValue 28 = .ok (.iastore, 1) := by decide +kernel
theorem dX1_printValue_29 : decode cX1_printValue 29 = .ok (.aload_n 0, 1) := by decide +kernel
theorem dX1_printValue_30 : decode cX1_printValue 30 = .ok (.dup, 1) := by decide +kernel
theorem dX1_printValue_31 : decode cX1_printValue 31 = .ok (.getfield 63, 3) := by decide +kernel
theorem dX1_printValue_34 : decode cX1_printValue 34 = .ok (.iconst 1, 1) := by decide +kernel
theorem dX1_printValue_35 : decode cX1_printValue 35 = .ok (.iadd, 1) := by decide +kernel
theorem dX1_printValue_36 : decode cX1_printValue 36 = .ok (.putfield 63, 3) := by decide +kernel
theorem dX1_printValue_39 : decode cX1_printValue 39 = .ok (.return_, 1) := by decide +kernel
theorem dX1_assign_0 : decode cX1_assign 0 = .ok (.iload_n 1, 1) := by decide +kernel
theorem dX1_assign_1 : decode cX1_assign 1 = .ok (.bipush 9, 2) := by decide +kernel
theorem dX1_assign_3 : decode cX1_assign 3 = .ok (.if_icmp .ne 26, 3) := by decide +kernel
theorem dX1_assign_6 : decode cX1_assign 6 = .ok (.aload_n 0, 1) := by decide +kernel
theorem dX1_assign_7 : decode cX1_assign 7 = .ok (.getfield 12, 3) := by decide +kernel
theorem dX1_assign_10 : decode cX1_assign 10 = .ok (.aload_n 0, 1) := by decide +kernel
theorem dX1_assign_11 : decode cX1_assign 11 = .ok (.getfield 12, 3) := by decide +kernel
theorem dX1_assign_14 : decode cX1_assign 14 = .ok (.aload_n 0, 1) := by decide +kernel
theorem dX1_assign_15 : decode cX1_assign 15 = .ok (.getfield 48, 3) := by decide +kernel
theorem dX1_assign_18 : decode cX1_assign 18 = .ok (.invokevirtual 125, 3) := by decide +kernel
theorem dX1_assign_21 : decode cX1_assign 21 = .ok (.aload_n 0, 1) := by decide +kernel
theorem dX1_assign_22 : decode cX1_assign 22 = .ok (.getfield 51, 3) := by decide +kernel
theorem dX1_assign_25 : decode cX1_assign 25 = .ok (.invokevirtual 116, 3) := by decide +kernel
theorem dX1_assign_28 : decode cX1_assign 28 = .ok (.return_, 1) := by decide +kernel
theorem dX1_assign_29 : decode cX1_assign 29 = .ok (.aload_n 0, 1) := by decide +kernel
theorem dX1_assign_30 : decode cX1_assign 30 = .ok (.invokevirtual 101, 3) := by decide +kernel
theorem dX1_assign_33 : decode cX1_assign 33 = .ok (.ifCond .ne 4, 3) := by decide +kernel
theorem dX1_assign_36 : decode cX1_assign 36 = .ok (.return_, 1) := by decide +kernel
theorem dX1_assign_37 : decode cX1_assign 37 = .ok (.aload_n 0, 1) := by decide +kernel
theorem dX1_assign_38 : decode cX1_assign 38 = .ok (.getfield 12, 3) := by decide +kernel
theorem dX1_assign_41 : decode cX1_assign 41 = .ok (.aload_n 0, 1) := by decide +kernel
theorem dX1_assign_42 : decode cX1_assign 42 = .ok (.getfield 48, 3) := by decide +kernel
theorem dX1_assign_45 : decode cX1_assign 45 = .ok (.iload_n 3, 1) := by decide +kernel
theorem dX1_assign_46 : decode cX1_assign 46 = .ok (.invokevirtual 128, 3) := by decide +kernel
theorem dX1_assign_49 : decode cX1_assign 49 = .ok (.istore 4, 2) := by decide +kernel
theorem dX1_assign_51 : decode cX1_assign 51 = .ok (.iload_n 1, 1) := by decide +kernel
theorem dX1_assign_52 : decode cX1_assign 52 = .ok (.bipush 6, 2) := by decide +kernel
theorem dX1_assign_54 : decode cX1_assign 54 = .ok (.if_icmp .ne 25, 3) := by decide +kernel
theorem dX1_assign_57 : decode cX1_assign 57 = .ok (.aload_n 0, 1) := by decide +kernel
theorem dX1_assign_58 : decode cX1_assign 58 = .ok (.getfield 12, 3) := by decide +kernel
theorem dX1_assign_61 : decode cX1_assign 61 = .ok (.aload_n 0, 1) := by decide +kernel
theorem dX1_assign_62 : decode cX1_assign 62 = .ok (.getfield 48, 3) := by decide +kernel
theorem dX1_assign_65 : decode cX1_assign 65 = .ok (.aload_n 0, 1) := by decide +kernel
theorem dX1_assign_66 : decode cX1_assign 66 = .ok (.getfield 12, 3) := by decide +kernel
theorem dX1_assign_69 : decode cX1_assign 69 = .ok (.iload 4, 2) := by decide +kernel
theorem dX1_assign_71 : decode cX1_assign 71 = .ok (.iload_n 2, 1) := by decide +kernel
theorem dX1_assign_72 : decode cX1_assign 72 = .ok (.invokevirtual 112, 3) := by decide +kernel
theorem dX1_assign_75 : decode cX1_assign 75 = .ok (.invokevirtual 131, 3) := by decide +kernel
theorem dX1_assign_78 : decode cX1_assign 78 = .ok (.return_, 1) := by decide +kernel
theorem dX1_assign_79 : decode cX1_assign 79 = .ok (.iload_n 1, 1) := by decide +kernel
theorem dX1_assign_80 : decode cX1_assign 80 = .ok (.bipush 7, 2) := by decide +kernel
theorem dX1_assign_82 : decode cX1_assign 82 = .ok (.if_icmp .ne 13, 3) := by decide +kernel
theorem dX1_assign_85 : decode cX1_assign 85 = .ok (.aload_n 0, 1) := by decide +kernel
theorem dX1_assign_86 : decode cX1_assign 86 = .ok (.iload 4, 2) := by decide +kernel
theorem dX1_assign_88 : decode cX1_assign 88 = .ok (.iload_n 2, 1) := by decide +kernel
theorem dX1_assign_89 : decode cX1_assign 89 = .ok (.invokevirtual 134, 3) := by decide +kernel
theorem dX1_assign_92 : decode cX1_assign 92 = .ok (.goto 4, 3) := by decide +kernel
theorem dX1_assign_95 : decode cX1_assign 95 = .ok (.iconst (-1), 1) := by decide +kernel
theorem dX1_assign_96 : decode cX1_assign 96 = .ok (.istore 5, 2) := by decide +kernel
theorem dX1_assign_98 : decode cX1_assign 98 = .ok (.aload_n 0, 1) := by decide +kernel
theorem dX1_assign_99 : decode cX1_assign 99 = .ok (.getfield 31, 3) := by decide +kernel
theorem dX1_assign_102 : decode cX1_assign 102 = .ok (.iload 5, 2) := by decide +kernel
theorem dX1_assign_104 : decode cX1_assign 104 = .ok (.invokevirtual 72, 3) := by decide +kernel
theorem dX1_assign_107 : decode cX1_assign 107 = .ok (.bipush 11, 2) := by decide +kernel
theorem dX1_assign_109 : decode cX1_assign 109 = .ok (.if_icmp .eq 9, 3) := by decide +kernel
theorem dX1_assign_112 : decode cX1_assign 112 = .ok (.aload_n 0, 1) := by decide +kernel
theorem dX1_assign_113 : decode cX1_assign 113 = .ok (.iconst 2, 1) := by decide +kernel
theorem dX1_assign_114 : decode cX1_assign 114 = .ok (.putfield 42, 3) := by decide +kernel
theorem dX1_assign_117 : decode cX1_assign 117 = .ok (.return_, 1) := by decide +kernel
theorem dX1_assign_118 : decode cX1_assign 118 = .ok (.aload_n 0, 1) := by decide +kernel
theorem dX1_assign_119 : decode cX1_assign 119 = .ok (.getfield 12, 3) := by decide +kernel
theorem dX1_assign_122 : decode cX1_assign 122 = .ok (.aload_n 0, 1) := by decide +kernel
theorem dX1_assign_123 : decode cX1_assign 123 = .ok (.getfield 137, 3) := by decide +kernel
theorem dX1_assign_126 : decode cX1_assign 126 = .ok (.aload_n 0, 1) := by decide +kernel
theorem dX1_assign_127 : decode cX1_assign 127 = .ok (.getfield 31, 3) := by decide +kernel
theorem dX1_assign_130 : decode cX1_assign 130 = .ok (.iload 5, 2) := by decide +kernel
theorem dX1_assign_132 : decode cX1_assign 132 = .ok (.invokevirtual 81, 3) := by decide +kernel
theorem dX1_assign_135 : decode cX1_assign 135 = .ok (.invokevirtual 128, 3) := by decide +kernel
theorem dX1_assign_138 : decode cX1_assign 138 = .ok (.istore 6, 2) := by decide +kernel
theorem dX1_assign_140 : decode cX1_assign 140 = .ok (.aload_n 0, 1) := by decide +kernel
theorem dX1_assign_141 : decode cX1_assign 141 = .ok (.getfield 12, 3) := by decide +kernel
theorem dX1_assign_144 : decode cX1_assign 144 = .ok (.aload_n 0, 1) := by decide +kernel
theorem dX1_assign_145 : decode cX1_assign 145 = .ok (.getfield 48, 3) := by decide +kernel
theorem dX1_assign_148 : decode cX1_assign 148 = .ok (.aload_n 0, 1) := by decide +kernel
theorem dX1_assign_149 : decode cX1_assign 149 = .ok (.getfield 12, 3) := by decide +kernel
theorem dX1_assign_152 : decode cX1_assign 152 = .ok (.iload 6, 2) := by decide +kernel
theorem dX1_assign_154 : decode cX1_assign 154 = .ok (.aload_n 0, 1) := by decide +kernel
theorem dX1_assign_155 : decode cX1_assign 155 = .ok (.getfield 31, 3) := by decide +kernel
theorem dX1_assign_158 : decode cX1_assign 158 = .ok (.iload 5, 2) := by decide +kernel
theorem dX1_assign_160 : decode cX1_assign 160 = .ok (.invokevirtual 78, 3) := by decide +kernel
theorem dX1_assign_163 : decode cX1_assign 163 = .ok (.invokevirtual 112, 3) := by decide +kernel
theorem dX1_assign_166 : decode cX1_assign 166 = .ok (.invokevirtual 131, 3) := by decide +kernel
theorem dX1_assign_169 : decode cX1_assign 169 = .ok (.return_, 1) := by decide +kernel
theorem dX1_resolve_0 : decode cX1_resolve 0 = .ok (.iload_n 1, 1) := by decide +kernel
theorem dX1_resolve_1 : decode cX1_resolve 1 = .ok (.istore_n 3, 1) := by decide +kernel
theorem dX1_resolve_2 : decode cX1_resolve 2 = .ok (.iload_n 2, 1) := by decide +kernel
theorem dX1_resolve_3 : decode cX1_resolve 3 = .ok (.istore 4, 2) := by decide +kernel
theorem dX1_resolve_5 : decode cX1_resolve 5 = .ok (.iconst 0, 1) := by decide +kernel
theorem dX1_resolve_6 : decode cX1_resolve 6 = .ok (.istore 5, 2) := by decide +kernel
theorem dX1_resolve_8 : decode cX1_resolve 8 = .ok (.iload 5, 2) := by decide +kernel
theorem dX1_resolve_10 : decode cX1_resolve 10 = .ok (.bipush 31, 2) := by decide +kernel
theorem dX1_resolve_12 : decode cX1_resolve 12 = .ok (.if_icmp .ge 111, 3) := by decide +kernel
theorem dX1_resolve_15 : decode cX1_resolve 15 = .ok (.aload_n 0, 1) := by decide +kernel
theorem dX1_resolve_16 : decode cX1_resolve 16 = .ok (.getfield 12, 3) := by decide +kernel
theorem dX1_resolve_19 : decode cX1_resolve 19 = .ok (.aload_n 0, 1) := by decide +kernel
theorem dX1_resolve_20 : decode cX1_resolve 20 = .ok (.getfield 12, 3) := by decide +kernel
theorem dX1_resolve_23 : decode cX1_resolve 23 = .ok (.iload_n 3, 1) := by decide +kernel
theorem dX1_resolve_24 : decode cX1_resolve 24 = .ok (.iload 4, 2) := by decide +kernel
theorem dX1_resolve_26 : decode cX1_resolve 26 = .ok (.invokevirtual 112, 3) := by decide +kernel
theorem dX1_resolve_29 : decode cX1_resolve 29 = .ok (.invokevirtual 140, 3) := by decide +kernel
theorem dX1_resolve_32 : decode cX1_resolve 32 = .ok (.istore 6, 2) := by decide +kernel
theorem dX1_resolve_34 : decode cX1_resolve 34 = .ok (.aload_n 0, 1) := by decide +kernel
theorem dX1_resolve_35 : decode cX1_resolve 35 = .ok (.getfield 31, 3) := by decide +kernel
theorem dX1_resolve_38 : decode cX1_resolve 38 = .ok (.iload 6, 2) := by decide +kernel
theorem dX1_resolve_40 : decode cX1_resolve 40 = .ok (.invokevirtual 72, 3) := by decide +kernel
theorem dX1_resolve_43 : decode cX1_resolve 43 = .ok (.bipush 24, 2) := by decide +kernel
theorem dX1_resolve_45 : decode cX1_resolve 45 = .ok (.if_icmp .eq 5, 3) := by decide +kernel
theorem dX1_resolve_48 : decode cX1_resolve 48 = .ok (.iconst (-1), 1) := by decide +kernel
theorem dX1_resolve_49 : decode cX1_resolve 49 = .ok (.ireturn, 1) := by decide +kernel
theorem dX1_resolve_50 : decode cX1_resolve 50 = .ok (.iload 6, 2) := by decide +kernel
theorem dX1_resolve_52 : decode cX1_resolve 52 = .ok (.iconst 1, 1) := by decide +kernel
theorem dX1_resolve_53 : decode cX1_resolve 53 = .ok (.iadd, 1) := by decide +kernel
theorem dX1_resolve_54 : decode cX1_resolve 54 = .ok (.istore 7, 2) := by decide +kernel
theorem dX1_resolve_56 : decode cX1_resolve 56 = .ok (.aload_n 0, 1) := by decide +kernel
theorem dX1_resolve_57 : decode cX1_resolve 57 = .ok (.aload_n 0, 1) := by decide +kernel
theorem dX1_resolve_58 : decode cX1_resolve 58 = .ok (.getfield 12, 3) := by decide +kernel
theorem dX1_resolve_61 : decode cX1_resolve 61 = .ok (.iload_n 3, 1) := by decide +kernel
theorem dX1_resolve_62 : decode cX1_resolve 62 = .ok (.invokevirtual 143, 3) := by decide +kernel
theorem dX1_resolve_65 : decode cX1_resolve 65 = .ok (.putfield 137, 3) := by decide +kernel
theorem dX1_resolve_68 : decode cX1_resolve 68 = .ok (.aload_n 0, 1) := by decide +kernel
theorem dX1_resolve_69 : decode cX1_resolve 69 = .ok (.getfield 31, 3) := by decide +kernel
theorem dX1_resolve_72 : decode cX1_resolve 72 = .ok (.iload 7, 2) := by decide +kernel
theorem dX1_resolve_74 : decode cX1_resolve 74 = .ok (.invokevirtual 72, 3) := by decide +kernel
theorem dX1_resolve_77 : decode cX1_resolve 77 = .ok (.bipush 12, 2) := by decide +kernel
theorem dX1_resolve_79 : decode cX1_resolve 79 = .ok (.if_icmp .eq 6, 3) := by decide +kernel
theorem dX1_resolve_82 : decode cX1_resolve 82 = .ok (.iload 7, 2) := by decide +kernel
theorem dX1_resolve_84 : decode cX1_resolve 84 = .ok (.ireturn, 1) := by decide +kernel
theorem dX1_resolve_85 : decode cX1_resolve 85 = .ok (.aload_n 0, 1) := by decide +kernel
theorem dX1_resolve_86 : decode cX1_resolve 86 = .ok (.getfield 12, 3) := by decide +kernel
theorem dX1_resolve_89 : decode cX1_resolve 89 = .ok (.aload_n 0, 1) := by decide +kernel
theorem dX1_resolve_90 : decode cX1_resolve 90 = .ok (.getfield 137, 3) := by decide +kernel
theorem dX1_resolve_93 : decode cX1_resolve 93 = .ok (.aload_n 0, 1) := by decide +kernel
theorem dX1_resolve_94 : decode cX1_resolve 94 = .ok (.getfield 31, 3) := by decide +kernel
theorem dX1_resolve_97 : decode cX1_resolve 97 = .ok (.iload 7, 2) := by decide +kernel
theorem dX1_resolve_99 : decode cX1_resolve 99 = .ok (.invokevirtual 81, 3) := by decide +kernel
theorem dX1_resolve_102 : decode cX1_resolve 102 = .ok (.invokevirtual 128, 3) := by decide +kernel
theorem dX1_resolve_105 : decode cX1_resolve 105 = .ok (.istore_n 3, 1) := by decide +kernel
theorem dX1_resolve_106 : decode cX1_resolve 106 = .ok (.aload_n 0, 1) := by decide +kernel
theorem dX1_resolve_107 : decode cX1_resolve 107 = .ok (.getfield 31, 3) := by decide +kernel
theorem dX1_resolve_110 : decode cX1_resolve 110 = .ok (.iload 7, 2) := by decide +kernel
theorem dX1_resolve_112 : decode cX1_resolve 112 = .ok (.invokevirtual 78, 3) := by decide +kernel
theorem dX1_resolve_115 : decode cX1_resolve 115 = .ok (.istore 4, 2) := by decide +kernel
theorem dX1_resolve_117 : decode cX1_resolve 117 = .ok (.iinc 5 1, 3) := by decide +kernel
theorem dX1_resolve_120 : decode cX1_resolve 120 = .ok (.goto (-112), 3) := by decide +kernel
theorem dX1_resolve_123 : decode cX1_resolve 123 = .ok (.iconst (-1), 1) := by decide +kernel
theorem dX1_resolve_124 : decode cX1_resolve 124 = .ok (.ireturn, 1) := by decide +kernel
theorem dX1_workOut_0 : decode cX1_workOut 0 = .ok (.aload_n 0, 1) := by decide +kernel
theorem dX1_workOut_1 : decode cX1_workOut 1 = .ok (.getfield 12, 3) := by decide +kernel
theorem dX1_workOut_4 : decode cX1_workOut 4 = .ok (.aload_n 0, 1) := by decide +kernel
theorem dX1_workOut_5 : decode cX1_workOut 5 = .ok (.getfield 48, 3) := by decide +kernel
theorem dX1_workOut_8 : decode cX1_workOut 8 = .ok (.iload_n 3, 1) := by decide +kernel
theorem dX1_workOut_9 : decode cX1_workOut 9 = .ok (.invokevirtual 128, 3) := by decide +kernel
theorem dX1_workOut_12 : decode cX1_workOut 12 = .ok (.istore 4, 2) := by decide +kernel
theorem dX1_workOut_14 : decode cX1_workOut 14 = .ok (.iload_n 1, 1) := by decide +kernel
theorem dX1_workOut_15 : decode cX1_workOut 15 = .ok (.bipush 12, 2) := by decide +kernel
theorem dX1_workOut_17 : decode cX1_workOut 17 = .ok (.if_icmp .ne 13, 3) := by decide +kernel
theorem dX1_workOut_20 : decode cX1_workOut 20 = .ok (.aload_n 0, 1) := by decide +kernel
theorem dX1_workOut_21 : decode cX1_workOut 21 = .ok (.iload 4, 2) := by decide +kernel
theorem dX1_workOut_23 : decode cX1_workOut 23 = .ok (.iload_n 2, 1) := by decide +kernel
theorem dX1_workOut_24 : decode cX1_workOut 24 = .ok (.invokevirtual 146, 3) := by decide +kernel
theorem dX1_workOut_27 : decode cX1_workOut 27 = .ok (.goto 41, 3) := by decide +kernel
theorem dX1_workOut_30 : decode cX1_workOut 30 = .ok (.aload_n 0, 1) := by decide +kernel
theorem dX1_workOut_31 : decode cX1_workOut 31 = .ok (.invokevirtual 101, 3) := by decide +kernel
theorem dX1_workOut_34 : decode cX1_workOut 34 = .ok (.ifCond .eq 34, 3) := by decide +kernel
theorem dX1_workOut_37 : decode cX1_workOut 37 = .ok (.aload_n 0, 1) := by decide +kernel
theorem dX1_workOut_38 : decode cX1_workOut 38 = .ok (.iload_n 1, 1) := by decide +kernel
theorem dX1_workOut_39 : decode cX1_workOut 39 = .ok (.bipush 11, 2) := by decide +kernel
theorem dX1_workOut_41 : decode cX1_workOut 41 = .ok (.if_icmp .ne 23, 3) := by decide +kernel
theorem dX1_workOut_44 : decode cX1_workOut 44 = .ok (.aload_n 0, 1) := by decide +kernel
theorem dX1_workOut_45 : decode cX1_workOut 45 = .ok (.getfield 12, 3) := by decide +kernel
theorem dX1_workOut_48 : decode cX1_workOut 48 = .ok (.aload_n 0, 1) := by decide +kernel
theorem dX1_workOut_49 : decode cX1_workOut 49 = .ok (.getfield 12, 3) := by decide +kernel
theorem dX1_workOut_52 : decode cX1_workOut 52 = .ok (.iload 4, 2) := by decide +kernel
theorem dX1_workOut_54 : decode cX1_workOut 54 = .ok (.iload_n 2, 1) := by decide +kernel
theorem dX1_workOut_55 : decode cX1_workOut 55 = .ok (.invokevirtual 112, 3) := by decide +kernel
theorem dX1_workOut_58 : decode cX1_workOut 58 = .ok (.invokevirtual 140, 3) := by decide +kernel
theorem dX1_workOut_61 : decode cX1_workOut 61 = .ok (.goto 4, 3) := by decide +kernel
theorem dX1_workOut_64 : decode cX1_workOut 64 = .ok (.iload_n 2, 1) := by decide +kernel
theorem dX1_workOut_65 : decode cX1_workOut 65 = .ok (.putfield 51, 3) := by decide +kernel
theorem dX1_workOut_68 : decode cX1_workOut 68 = .ok (.return_, 1) := by decide +kernel
theorem dX1_enterActual_0 : decode cX1_enterActual 0 = .ok (.aload_n 0, 1) := by decide +kernel
theorem dX1_enterActual_1 : decode cX1_enterActual 1 = .ok (.getfield 57, 3) := by decide +kernel
theorem dX1_enterActual_4 : decode cX1_enterActual 4 = .ok (.ifCond .lt 12, 3) := by decide +kernel
theorem dX1_enterActual_7 : decode cX1_enterActual 7 = .ok (.aload_n 0, 1) := by decide +kernel
theorem dX1_enterActual_8 : decode cX1_enterActual 8 = .ok (.getfield 57, 3) := by decide +kernel
theorem dX1_enterActual_11 : decode cX1_enterActual 11 = .ok (.bipush 30, 2) := by decide +kernel
theorem dX1_enterActual_13 : decode cX1_enterActual 13 = .ok (.if_icmp .lt 9, 3) := by decide +kernel
theorem dX1_enterActual_16 : decode cX1_enterActual 16 = .ok (.aload_n 0, 1) := by decide +kernel
theorem dX1_enterActual_17 : decode cX1_enterActual 17 = .ok (.iconst 5, 1) := by decide +kernel
theorem dX1_enterActual_18 : decode cX1_enterActual 18 = .ok (.putfield 42, 3) := by decide +kernel
theorem dX1_enterActual_21 : decode cX1_enterActual 21 = .ok (.return_, 1) := by decide +kernel
theorem dX1_enterActual_22 : decode cX1_enterActual 22 = .ok (.aload_n 0, 1) := by decide +kernel
theorem dX1_enterActual_23 : decode cX1_enterActual 23 = .ok (.getfield 18, 3) := by decide +kernel
theorem dX1_enterActual_26 : decode cX1_enterActual 26 = .ok (.aload_n 0, 1) := by decide +kernel
theorem dX1_enterActual_27 : decode cX1_enterActual 27 = .ok (.getfield 57, 3) := by decide +kernel
theorem dX1_enterActual_30 : decode cX1_enterActual 30 = .ok (.aload_n 0, 1) := by decide +kernel
theorem dX1_enterActual_31 : decode cX1_enterActual 31 = .ok (.getfield 45, 3) := by decide +kernel
theorem dX1_enterActual_34 : decode cX1_enterActual 34 = .ok (.iastore, 1) := by decide +kernel
theorem dX1_enterActual_35 : decode cX1_enterActual 35 = .ok (.aload_n 0, 1) := by decide +kernel
theorem dX1_enterActual_36 : decode cX1_enterActual 36 = .ok (.getfield 22, 3) := by decide +kernel
theorem dX1_enterActual_39 : decode cX1_enterActual 39 = .ok (.aload_n 0, 1) := by decide +kernel
theorem dX1_enterActual_40 : decode cX1_enterActual 40 = .ok (.getfield 57, 3) := by decide +kernel
theorem dX1_enterActual_43 : decode cX1_enterActual 43 = .ok (.aload_n 0, 1) := by decide +kernel
theorem dX1_enterActual_44 : decode cX1_enterActual 44 = .ok (.getfield 48, 3) := by decide +kernel
theorem dX1_enterActual_47 : decode cX1_enterActual 47 = .ok (.iastore, 1) := by decide +kernel
theorem dX1_enterActual_48 : decode cX1_enterActual 48 = .ok (.aload_n 0, 1) := by decide +kernel
theorem dX1_enterActual_49 : decode cX1_enterActual 49 = .ok (.dup, 1) := by decide +kernel
theorem dX1_enterActual_50 : decode cX1_enterActual 50 = .ok (.getfield 57, 3) := by decide +kernel
theorem dX1_enterActual_53 : decode cX1_enterActual 53 = .ok (.iconst 1, 1) := by decide +kernel
theorem dX1_enterActual_54 : decode cX1_enterActual 54 = .ok (.iadd, 1) := by decide +kernel
theorem dX1_enterActual_55 : decode cX1_enterActual 55 = .ok (.putfield 57, 3) := by decide +kernel
theorem dX1_enterActual_58 : decode cX1_enterActual 58 = .ok (.aload_n 0, 1) := by decide +kernel
theorem dX1_enterActual_59 : decode cX1_enterActual 59 = .ok (.aload_n 0, 1) := by decide +kernel
theorem dX1_enterActual_60 : decode cX1_enterActual 60 = .ok (.getfield 12, 3) := by decide +kernel
theorem dX1_enterActual_63 : decode cX1_enterActual 63 = .ok (.aload_n 0, 1) := by decide +kernel
theorem dX1_enterActual_64 : decode cX1_enterActual 64 = .ok (.getfield 12, 3) := by decide +kernel
theorem dX1_enterActual_67 : decode cX1_enterActual 67 = .ok (.iload_n 1, 1) := by decide +kernel
theorem dX1_enterActual_68 : decode cX1_enterActual 68 = .ok (.iload_n 2, 1) := by decide +kernel
theorem dX1_enterActual_69 : decode cX1_enterActual 69 = .ok (.invokevirtual 112, 3) := by decide +kernel
theorem dX1_enterActual_72 : decode cX1_enterActual 72 = .ok (.invokevirtual 140, 3) := by decide +kernel
theorem dX1_enterActual_75 : decode cX1_enterActual 75 = .ok (.iconst 1, 1) := by decide +kernel
theorem dX1_enterActual_76 : decode cX1_enterActual 76 = .ok (.iadd, 1) := by decide +kernel
theorem dX1_enterActual_77 : decode cX1_enterActual 77 = .ok (.putfield 45, 3) := by decide +kernel
theorem dX1_enterActual_80 : decode cX1_enterActual 80 = .ok (.aload_n 0, 1) := by decide +kernel
theorem dX1_enterActual_81 : decode cX1_enterActual 81 = .ok (.aload_n 0, 1) := by decide +kernel
theorem dX1_enterActual_82 : decode cX1_enterActual 82 = .ok (.getfield 12, 3) := by decide +kernel
theorem dX1_enterActual_85 : decode cX1_enterActual 85 = .ok (.iload_n 1, 1) := by decide +kernel
theorem dX1_enterActual_86 : decode cX1_enterActual 86 = .ok (.invokevirtual 143, 3) := by decide +kernel
theorem dX1_enterActual_89 : decode cX1_enterActual 89 = .ok (.putfield 48, 3) := by decide +kernel
theorem dX1_enterActual_92 : decode cX1_enterActual 92 = .ok (.return_, 1) := by decide +kernel
theorem dX1_leaveActual_0 : decode cX1_leaveActual 0 = .ok (.aload_n 0, 1) := by decide +kernel
theorem dX1_leaveActual_1 : decode cX1_leaveActual 1 = .ok (.getfield 57, 3) := by decide +kernel
theorem dX1_leaveActual_4 : decode cX1_leaveActual 4 = .ok (.ifCond .le 48, 3) := by decide +kernel
theorem dX1_leaveActual_7 : decode cX1_leaveActual 7 = .ok (.aload_n 0, 1) := by decide +kernel
theorem dX1_leaveActual_8 : decode cX1_leaveActual 8 = .ok (.getfield 57, 3) := by decide +kernel
theorem dX1_leaveActual_11 : decode cX1_leaveActual 11 = .ok (.bipush 30, 2) := by decide +kernel
theorem dX1_leaveActual_13 : decode cX1_leaveActual 13 = .ok (.if_icmp .gt 39, 3) := by decide +kernel
theorem dX1_leaveActual_16 : decode cX1_leaveActual 16 = .ok (.aload_n 0, 1) := by decide +kernel
theorem dX1_leaveActual_17 : decode cX1_leaveActual 17 = .ok (.dup, 1) := by decide +kernel
theorem dX1_leaveActual_18 : decode cX1_leaveActual 18 = .ok (.getfield 57, 3) := by decide +kernel
theorem dX1_leaveActual_21 : decode cX1_leaveActual 21 = .ok (.iconst 1, 1) := by decide +kernel
theorem dX1_leaveActual_22 : decode cX1_leaveActual 22 = .ok (.isub, 1) := by decide +kernel
theorem dX1_leaveActual_23 : decode cX1_leaveActual 23 = .ok (.putfield 57, 3) := by decide +kernel
theorem dX1_leaveActual_26 : decode cX1_leaveActual 26 = .ok (.aload_n 0, 1) := by decide +kernel
theorem dX1_leaveActual_27 : decode cX1_leaveActual 27 = .ok (.aload_n 0, 1) := by decide +kernel
theorem dX1_leaveActual_28 : decode cX1_leaveActual 28 = .ok (.getfield 18, 3) := by decide +kernel
theorem dX1_leaveActual_31 : decode cX1_leaveActual 31 = .ok (.aload_n 0, 1) := by decide +kernel
theorem dX1_leaveActual_32 : decode cX1_leaveActual 32 = .ok (.getfield 57, 3) := by decide +kernel
theorem dX1_leaveActual_35 : decode cX1_leaveActual 35 = .ok (.iaload, 1) := by decide +kernel
theorem dX1_leaveActual_36 : decode cX1_leaveActual 36 = .ok (.putfield 45, 3) := by decide +kernel
theorem dX1_leaveActual_39 : decode cX1_leaveActual 39 = .ok (.aload_n 0, 1) := by decide +kernel
theorem dX1_leaveActual_40 : decode cX1_leaveActual 40 = .ok (.aload_n 0, 1) := by decide +kernel
theorem dX1_leaveActual_41 : decode cX1_leaveActual 41 = .ok (.getfield 22, 3) := by decide +kernel
theorem dX1_leaveActual_44 : decode cX1_leaveActual 44 = .ok (.aload_n 0, 1) := by decide +kernel
theorem dX1_leaveActual_45 : decode cX1_leaveActual 45 = .ok (.getfield 57, 3) := by decide +kernel
theorem dX1_leaveActual_48 : decode cX1_leaveActual 48 = .ok (.iaload, 1) := by decide +kernel
theorem dX1_leaveActual_49 : decode cX1_leaveActual 49 = .ok (.putfield 48, 3) := by decide +kernel
theorem dX1_leaveActual_52 : decode cX1_leaveActual 52 = .ok (.return_, 1) := by decide +kernel
theorem dX1_call_0 : decode cX1_call 0 = .ok (.aload_n 0, 1) := by decide +kernel
theorem dX1_call_1 : decode cX1_call 1 = .ok (.invokevirtual 101, 3) := by decide +kernel
theorem dX1_call_4 : decode cX1_call 4 = .ok (.ifCond .ne 4, 3) := by decide +kernel
theorem dX1_call_7 : decode cX1_call 7 = .ok (.return_, 1) := by decide +kernel
theorem dX1_call_8 : decode cX1_call 8 = .ok (.aload_n 0, 1) := by decide +kernel
theorem dX1_call_9 : decode cX1_call 9 = .ok (.getfield 12, 3) := by decide +kernel
theorem dX1_call_12 : decode cX1_call 12 = .ok (.aload_n 0, 1) := by decide +kernel
theorem dX1_call_13 : decode cX1_call 13 = .ok (.getfield 48, 3) := by decide +kernel
theorem dX1_call_16 : decode cX1_call 16 = .ok (.iload_n 3, 1) := by decide +kernel
theorem dX1_call_17 : decode cX1_call 17 = .ok (.invokevirtual 128, 3) := by decide +kernel
theorem dX1_call_20 : decode cX1_call 20 = .ok (.istore 4, 2) := by decide +kernel
theorem dX1_call_22 : decode cX1_call 22 = .ok (.iload_n 1, 1) := by decide +kernel
theorem dX1_call_23 : decode cX1_call 23 = .ok (.bipush 13, 2) := by decide +kernel
theorem dX1_call_25 : decode cX1_call 25 = .ok (.if_icmp .ne 11, 3) := by decide +kernel
theorem dX1_call_28 : decode cX1_call 28 = .ok (.aload_n 0, 1) := by decide +kernel
theorem dX1_call_29 : decode cX1_call 29 = .ok (.iload_n 2, 1) := by decide +kernel
theorem dX1_call_30 : decode cX1_call 30 = .ok (.iload 4, 2) := by decide +kernel
theorem dX1_call_32 : decode cX1_call 32 = .ok (.invokevirtual 149, 3) := by decide +kernel
theorem dX1_call_35 : decode cX1_call 35 = .ok (.return_, 1) := by decide +kernel
theorem dX1_call_36 : decode cX1_call 36 = .ok (.iload_n 1, 1) := by decide +kernel
theorem dX1_call_37 : decode cX1_call 37 = .ok (.bipush 14, 2) := by decide +kernel
theorem dX1_call_39 : decode cX1_call 39 = .ok (.if_icmp .ne 13, 3) := by decide +kernel
theorem dX1_call_42 : decode cX1_call 42 = .ok (.aload_n 0, 1) := by decide +kernel
theorem dX1_call_43 : decode cX1_call 43 = .ok (.iload 4, 2) := by decide +kernel
theorem dX1_call_45 : decode cX1_call 45 = .ok (.iload_n 2, 1) := by decide +kernel
theorem dX1_call_46 : decode cX1_call 46 = .ok (.invokevirtual 134, 3) := by decide +kernel
theorem dX1_call_49 : decode cX1_call 49 = .ok (.goto 4, 3) := by decide +kernel
theorem dX1_call_52 : decode cX1_call 52 = .ok (.iconst (-1), 1) := by decide +kernel
theorem dX1_call_53 : decode cX1_call 53 = .ok (.istore 5, 2) := by decide +kernel
theorem dX1_call_55 : decode cX1_call 55 = .ok (.aload_n 0, 1) := by decide +kernel
theorem dX1_call_56 : decode cX1_call 56 = .ok (.getfield 31, 3) := by decide +kernel
theorem dX1_call_59 : decode cX1_call 59 = .ok (.iload 5, 2) := by decide +kernel
theorem dX1_call_61 : decode cX1_call 61 = .ok (.invokevirtual 72, 3) := by decide +kernel
theorem dX1_call_64 : decode cX1_call 64 = .ok (.bipush 13, 2) := by decide +kernel
theorem dX1_call_66 : decode cX1_call 66 = .ok (.if_icmp .eq 9, 3) := by decide +kernel
theorem dX1_call_69 : decode cX1_call 69 = .ok (.aload_n 0, 1) := by decide +kernel
theorem dX1_call_70 : decode cX1_call 70 = .ok (.iconst 3, 1) := by decide +kernel
theorem dX1_call_71 : decode cX1_call 71 = .ok (.putfield 42, 3) := by decide +kernel
theorem dX1_call_74 : decode cX1_call 74 = .ok (.return_, 1) := by decide +kernel
theorem dX1_call_75 : decode cX1_call 75 = .ok (.aload_n 0, 1) := by decide +kernel
theorem dX1_call_76 : decode cX1_call 76 = .ok (.aload_n 0, 1) := by decide +kernel
theorem dX1_call_77 : decode cX1_call 77 = .ok (.getfield 31, 3) := by decide +kernel
theorem dX1_call_80 : decode cX1_call 80 = .ok (.iload 5, 2) := by decide +kernel
theorem dX1_call_82 : decode cX1_call 82 = .ok (.invokevirtual 78, 3) := by decide +kernel
theorem dX1_call_85 : decode cX1_call 85 = .ok (.aload_n 0, 1) := by decide +kernel
theorem dX1_call_86 : decode cX1_call 86 = .ok (.getfield 12, 3) := by decide +kernel
theorem dX1_call_89 : decode cX1_call 89 = .ok (.aload_n 0, 1) := by decide +kernel
theorem dX1_call_90 : decode cX1_call 90 = .ok (.getfield 137, 3) := by decide +kernel
theorem dX1_call_93 : decode cX1_call 93 = .ok (.aload_n 0, 1) := by decide +kernel
theorem dX1_call_94 : decode cX1_call 94 = .ok (.getfield 31, 3) := by decide +kernel
theorem dX1_call_97 : decode cX1_call 97 = .ok (.iload 5, 2) := by decide +kernel
theorem dX1_call_99 : decode cX1_call 99 = .ok (.invokevirtual 81, 3) := by decide +kernel
theorem dX1_call_102 : decode cX1_call 102 = .ok (.invokevirtual 128, 3) := by decide +kernel
theorem dX1_call_105 : decode cX1_call 105 = .ok (.invokevirtual 149, 3) := by decide +kernel
theorem dX1_call_108 : decode cX1_call 108 = .ok (.return_, 1) := by decide +kernel
theorem dX1_enterCall_0 : decode cX1_enterCall 0 = .ok (.iconst 0, 1) := by decide +kernel
theorem dX1_enterCall_1 : decode cX1_enterCall 1 = .ok (.istore_n 3, 1) := by decide +kernel
theorem dX1_enterCall_2 : decode cX1_enterCall 2 = .ok (.aload_n 0, 1) := by decide +kernel
theorem dX1_enterCall_3 : decode cX1_enterCall 3 = .ok (.getfield 45, 3) := by decide +kernel
theorem dX1_enterCall_6 : decode cX1_enterCall 6 = .ok (.istore 4, 2) := by decide +kernel
theorem dX1_enterCall_8 : decode cX1_enterCall 8 = .ok (.iload_n 3, 1) := by decide +kernel
theorem dX1_enterCall_9 : decode cX1_enterCall 9 = .ok (.bipush 6, 2) := by decide +kernel
theorem dX1_enterCall_11 : decode cX1_enterCall 11 = .ok (.if_icmp .ge 32, 3) := by decide +kernel
theorem dX1_enterCall_14 : decode cX1_enterCall 14 = .ok (.aload_n 0, 1) := by decide +kernel
theorem dX1_enterCall_15 : decode cX1_enterCall 15 = .ok (.getfield 31, 3) := by decide +kernel
theorem dX1_enterCall_18 : decode cX1_enterCall 18 = .ok (.iload 4, 2) := by decide +kernel
theorem dX1_enterCall_20 : decode cX1_enterCall 20 = .ok (.invokevirtual 152, 3) := by decide +kernel
theorem dX1_enterCall_23 : decode cX1_enterCall 23 = .ok (.ifCond .eq 20, 3) := by decide +kernel
theorem dX1_enterCall_26 : decode cX1_enterCall 26 = .ok (.iinc 3 1, 3) := by decide +kernel
theorem dX1_enterCall_29 : decode cX1_enterCall 29 = .ok (.aload_n 0, 1) := by decide +kernel
theorem dX1_enterCall_30 : decode cX1_enterCall 30 = .ok (.getfield 31, 3) := by decide +kernel
theorem dX1_enterCall_33 : decode cX1_enterCall 33 = .ok (.iload 4, 2) := by decide +kernel
theorem dX1_enterCall_35 : decode cX1_enterCall 35 = .ok (.invokevirtual 78, 3) := by decide +kernel
theorem dX1_enterCall_38 : decode cX1_enterCall 38 = .ok (.istore 4, 2) := by decide +kernel
theorem dX1_enterCall_40 : decode cX1_enterCall 40 = .ok (.goto (-32), 3) := by decide +kernel
theorem dX1_enterCall_43 : decode cX1_enterCall 43 = .ok (.iload_n 3, 1) := by decide +kernel
theorem dX1_enterCall_44 : decode cX1_enterCall 44 = .ok (.aload_n 0, 1) := by decide +kernel
theorem dX1_enterCall_45 : decode cX1_enterCall 45 = .ok (.getfield 31, 3) := by decide +kernel
theorem dX1_enterCall_48 : decode cX1_enterCall 48 = .ok (.iload_n 1, 1) := by decide +kernel
theorem dX1_enterCall_49 : decode cX1_enterCall 49 = .ok (.invokevirtual 156, 3) := by decide +kernel
theorem dX1_enterCall_52 : decode cX1_enterCall 52 = .ok (.if_icmp .eq 9, 3) := by decide +kernel
theorem dX1_enterCall_55 : decode cX1_enterCall 55 = .ok (.aload_n 0, 1) := by decide +kernel
theorem dX1_enterCall_56 : decode cX1_enterCall 56 = .ok (.iconst 4, 1) := by decide +kernel
theorem dX1_enterCall_57 : decode cX1_enterCall 57 = .ok (.putfield 42, 3) := by decide +kernel
theorem dX1_enterCall_60 : decode cX1_enterCall 60 = .ok (.return_, 1) := by decide +kernel
theorem dX1_enterCall_61 : decode cX1_enterCall 61 = .ok (.aload_n 0, 1) := by decide +kernel
theorem dX1_enterCall_62 : decode cX1_enterCall 62 = .ok (.getfield 12, 3) := by decide +kernel
theorem dX1_enterCall_65 : decode cX1_enterCall 65 = .ok (.getfield 159, 3) := by decide +kernel
theorem dX1_enterCall_68 : decode cX1_enterCall 68 = .ok (.bipush 30, 2) := by decide +kernel
theorem dX1_enterCall_70 : decode cX1_enterCall 70 = .ok (.if_icmp .lt 9, 3) := by decide +kernel
theorem dX1_enterCall_73 : decode cX1_enterCall 73 = .ok (.aload_n 0, 1) := by decide +kernel
theorem dX1_enterCall_74 : decode cX1_enterCall 74 = .ok (.iconst 5, 1) := by decide +kernel
theorem dX1_enterCall_75 : decode cX1_enterCall 75 = .ok (.putfield 42, 3) := by decide +kernel
theorem dX1_enterCall_78 : decode cX1_enterCall 78 = .ok (.return_, 1) := by decide +kernel
theorem dX1_enterCall_79 : decode cX1_enterCall 79 = .ok (.aload_n 0, 1) := by decide +kernel
theorem dX1_enterCall_80 : decode cX1_enterCall 80 = .ok (.getfield 12, 3) := by decide +kernel
theorem dX1_enterCall_83 : decode cX1_enterCall 83 = .ok (.iload_n 2, 1) := by decide +kernel
theorem dX1_enterCall_84 : decode cX1_enterCall 84 = .ok (.aload_n 0, 1) := by decide +kernel
theorem dX1_enterCall_85 : decode cX1_enterCall 85 = .ok (.getfield 48, 3) := by decide +kernel
theorem dX1_enterCall_88 : decode cX1_enterCall 88 = .ok (.iload 4, 2) := by decide +kernel
theorem dX1_enterCall_90 : decode cX1_enterCall 90 = .ok (.invokevirtual 162, 3) := by decide +kernel
theorem dX1_enterCall_93 : decode cX1_enterCall 93 = .ok (.aload_n 0, 1) := by decide +kernel
theorem dX1_enterCall_94 : decode cX1_enterCall 94 = .ok (.getfield 45, 3) := by decide +kernel
theorem dX1_enterCall_97 : decode cX1_enterCall 97 = .ok (.istore 5, 2) := by decide +kernel
theorem dX1_enterCall_99 : decode cX1_enterCall 99 = .ok (.iconst 0, 1) := by decide +kernel
theorem dX1_enterCall_100 : decode cX1_enterCall 100 = .ok (.istore 6, 2) := by decide +kernel
theorem dX1_enterCall_102 : decode cX1_enterCall 102 = .ok (.iload 6, 2) := by decide +kernel
theorem dX1_enterCall_104 : decode cX1_enterCall 104 = .ok (.iload_n 3, 1) := by decide +kernel
theorem dX1_enterCall_105 : decode cX1_enterCall 105 = .ok (.if_icmp .ge 47, 3) := by decide +kernel
theorem dX1_enterCall_108 : decode cX1_enterCall 108 = .ok (.aload_n 0, 1) := by decide +kernel
theorem dX1_enterCall_109 : decode cX1_enterCall 109 = .ok (.getfield 12, 3) := by decide +kernel
theorem dX1_enterCall_112 : decode cX1_enterCall 112 = .ok (.aload_n 0, 1) := by decide +kernel
theorem dX1_enterCall_113 : decode cX1_enterCall 113 = .ok (.getfield 12, 3) := by decide +kernel
theorem dX1_enterCall_116 : decode cX1_enterCall 116 = .ok (.aload_n 0, 1) := by decide +kernel
theorem dX1_enterCall_117 : decode cX1_enterCall 117 = .ok (.getfield 12, 3) := by decide +kernel
theorem dX1_enterCall_120 : decode cX1_enterCall 120 = .ok (.getfield 159, 3) := by decide +kernel
theorem dX1_enterCall_123 : decode cX1_enterCall 123 = .ok (.iconst 1, 1) := by decide +kernel
theorem dX1_enterCall_124 : decode cX1_enterCall 124 = .ok (.iload 6, 2) := by decide +kernel
theorem dX1_enterCall_126 : decode cX1_enterCall 126 = .ok (.iadd, 1) := by decide +kernel
theorem dX1_enterCall_127 : decode cX1_enterCall 127 = .ok (.invokevirtual 112, 3) := by decide +kernel
theorem dX1_enterCall_130 : decode cX1_enterCall 130 = .ok (.iload 5, 2) := by decide +kernel
theorem dX1_enterCall_132 : decode cX1_enterCall 132 = .ok (.invokevirtual 116, 3) := by decide +kernel
theorem dX1_enterCall_135 : decode cX1_enterCall 135 = .ok (.aload_n 0, 1) := by decide +kernel
theorem dX1_enterCall_136 : decode cX1_enterCall 136 = .ok (.getfield 31, 3) := by decide +kernel
theorem dX1_enterCall_139 : decode cX1_enterCall 139 = .ok (.iload 5, 2) := by decide +kernel
theorem dX1_enterCall_141 : decode cX1_enterCall 141 = .ok (.invokevirtual 78, 3) := by decide +kernel
theorem dX1_enterCall_144 : decode cX1_enterCall 144 = .ok (.istore 5, 2) := by decide +kernel
theorem dX1_enterCall_146 : decode cX1_enterCall 146 = .ok (.iinc 6 1, 3) := by decide +kernel
theorem dX1_enterCall_149 : decode cX1_enterCall 149 = .ok (.goto (-47), 3) := by decide +kernel
theorem dX1_enterCall_152 : decode cX1_enterCall 152 = .ok (.aload_n 0, 1) := by decide +kernel
theorem dX1_enterCall_153 : decode cX1_enterCall 153 = .ok (.aload_n 0, 1) := by decide +kernel
theorem dX1_enterCall_154 : decode cX1_enterCall 154 = .ok (.getfield 12, 3) := by decide +kernel
theorem dX1_enterCall_157 : decode cX1_enterCall 157 = .ok (.getfield 159, 3) := by decide +kernel
theorem dX1_enterCall_160 : decode cX1_enterCall 160 = .ok (.putfield 48, 3) := by decide +kernel
theorem dX1_enterCall_163 : decode cX1_enterCall 163 = .ok (.aload_n 0, 1) := by decide +kernel
theorem dX1_enterCall_164 : decode cX1_enterCall 164 = .ok (.aload_n 0, 1) := by decide +kernel
theorem dX1_enterCall_165 : decode cX1_enterCall 165 = .ok (.getfield 31, 3) := by decide +kernel
theorem dX1_enterCall_168 : decode cX1_enterCall 168 = .ok (.iload_n 1, 1) := by decide +kernel
theorem dX1_enterCall_169 : decode cX1_enterCall 169 = .ok (.invokevirtual 165, 3) := by decide +kernel
theorem dX1_enterCall_172 : decode cX1_enterCall 172 = .ok (.putfield 45, 3) := by decide +kernel
theorem dX1_enterCall_175 : decode cX1_enterCall 175 = .ok (.return_, 1) := by decide +kernel
theorem dX1_leaveCall_0 : decode cX1_leaveCall 0 = .ok (.aload_n 0, 1) := by decide +kernel
theorem dX1_leaveCall_1 : decode cX1_leaveCall 1 = .ok (.getfield 12, 3) := by decide +kernel
theorem dX1_leaveCall_4 : decode cX1_leaveCall 4 = .ok (.getfield 159, 3) := by decide +kernel
theorem dX1_leaveCall_7 : decode cX1_leaveCall 7 = .ok (.istore_n 1, 1) := by decide +kernel
theorem dX1_leaveCall_8 : decode cX1_leaveCall 8 = .ok (.aload_n 0, 1) := by decide +kernel
theorem dX1_leaveCall_9 : decode cX1_leaveCall 9 = .ok (.aload_n 0, 1) := by decide +kernel
theorem dX1_leaveCall_10 : decode cX1_leaveCall 10 = .ok (.getfield 12, 3) := by decide +kernel
theorem dX1_leaveCall_13 : decode cX1_leaveCall 13 = .ok (.aload_n 0, 1) := by decide +kernel
theorem dX1_leaveCall_14 : decode cX1_leaveCall 14 = .ok (.getfield 12, 3) := by decide +kernel
theorem dX1_leaveCall_17 : decode cX1_leaveCall 17 = .ok (.iload_n 1, 1) := by decide +kernel
theorem dX1_leaveCall_18 : decode cX1_leaveCall 18 = .ok (.iconst 0, 1) := by decide +kernel
theorem dX1_leaveCall_19 : decode cX1_leaveCall 19 = .ok (.invokevirtual 112, 3) := by decide +kernel
theorem dX1_leaveCall_22 : decode cX1_leaveCall 22 = .ok (.invokevirtual 140, 3) := by decide +kernel
theorem dX1_leaveCall_25 : decode cX1_leaveCall 25 = .ok (.putfield 51, 3) := by decide +kernel
