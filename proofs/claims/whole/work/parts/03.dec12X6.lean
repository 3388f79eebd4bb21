theorem dX6_call_256 : decode cX6_call 256 = .ok (.iaload, 1) := by decide +kernel
theorem dX6_call_257 : decode cX6_call 257 = .ok (.goto 4, 3) := by decide +kernel
theorem dX6_call_260 : decode cX6_call 260 = .ok (.iconst 0, 1) := by decide +kernel
theorem dX6_call_261 : decode cX6_call 261 = .ok (.iload 5, 2) := by decide +kernel
theorem dX6_call_263 : decode cX6_call 263 = .ok (.invokevirtual 273, 3) := by decide +kernel
theorem dX6_call_266 : decode cX6_call 266 = .ok (.return_, 1) := by decide +kernel
theorem dX6_arguments_0 : decode cX6_arguments 0 = .ok (.aload_n 0, 1) := by decide +kernel
theorem dX6_arguments_1 : decode cX6_arguments 1 = .ok (.getfield 79, 3) := by decide +kernel
theorem dX6_arguments_4 : decode cX6_arguments 4 = .ok (.iload_n 2, 1) := by decide +kernel
theorem dX6_arguments_5 : decode cX6_arguments 5 = .ok (.iaload, 1) := by decide +kernel
theorem dX6_arguments_6 : decode cX6_arguments 6 = .ok (.istore_n 3, 1) := by decide +kernel
theorem dX6_arguments_7 : decode cX6_arguments 7 = .ok (.iload_n 1, 1) := by decide +kernel
theorem dX6_arguments_8 : decode cX6_arguments 8 = .ok (.istore 4, 2) := by decide +kernel
theorem dX6_arguments_10 : decode cX6_arguments 10 = .ok (.iload 4, 2) := by decide +kernel
theorem dX6_arguments_12 : decode cX6_arguments 12 = .ok (.ifCond .le 34, 3) := by decide +kernel
theorem dX6_arguments_15 : decode cX6_arguments 15 = .ok (.aload_n 0, 1) := by decide +kernel
theorem dX6_arguments_16 : decode cX6_arguments 16 = .ok (.getfield 40, 3) := by decide +kernel
theorem dX6_arguments_19 : decode cX6_arguments 19 = .ok (.iload_n 3, 1) := by decide +kernel
theorem dX6_arguments_20 : decode cX6_arguments 20 = .ok (.iaload, 1) := by decide +kernel
theorem dX6_arguments_21 : decode cX6_arguments 21 = .ok (.aload_n 0, 1) := by decide +kernel
theorem dX6_arguments_22 : decode cX6_arguments 22 = .ok (.getfield 31, 3) := by decide +kernel
theorem dX6_arguments_25 : decode cX6_arguments 25 = .ok (.iload 4, 2) := by decide +kernel
theorem dX6_arguments_27 : decode cX6_arguments 27 = .ok (.iaload, 1) := by decide +kernel
theorem dX6_arguments_28 : decode cX6_arguments 28 = .ok (.ishr, 1) := by decide +kernel
theorem dX6_arguments_29 : decode cX6_arguments 29 = .ok (.iconst 1, 1) := by decide +kernel
theorem dX6_arguments_30 : decode cX6_arguments 30 = .ok (.iand, 1) := by decide +kernel
theorem dX6_arguments_31 : decode cX6_arguments 31 = .ok (.ifCond .ne 15, 3) := by decide +kernel
theorem dX6_arguments_34 : decode cX6_arguments 34 = .ok (.aload_n 0, 1) := by decide +kernel
theorem dX6_arguments_35 : decode cX6_arguments 35 = .ok (.getfield 19, 3) := by decide +kernel
theorem dX6_arguments_38 : decode cX6_arguments 38 = .ok (.iload 4, 2) := by decide +kernel
theorem dX6_arguments_40 : decode cX6_arguments 40 = .ok (.iaload, 1) := by decide +kernel
theorem dX6_arguments_41 : decode cX6_arguments 41 = .ok (.istore 4, 2) := by decide +kernel
theorem dX6_arguments_43 : decode cX6_arguments 43 = .ok (.goto (-33), 3) := by decide +kernel
theorem dX6_arguments_46 : decode cX6_arguments 46 = .ok (.iload 4, 2) := by decide +kernel
theorem dX6_arguments_48 : decode cX6_arguments 48 = .ok (.ifCond .le 29, 3) := by decide +kernel
theorem dX6_arguments_51 : decode cX6_arguments 51 = .ok (.aload_n 0, 1) := by decide +kernel
theorem dX6_arguments_52 : decode cX6_arguments 52 = .ok (.bipush 12, 2) := by decide +kernel
theorem dX6_arguments_54 : decode cX6_arguments 54 = .ok (.iload 4, 2) := by decide +kernel
theorem dX6_arguments_56 : decode cX6_arguments 56 = .ok (.iload_n 2, 1) := by decide +kernel
theorem dX6_arguments_57 : decode cX6_arguments 57 = .ok (.invokevirtual 276, 3) := by decide +kernel
theorem dX6_arguments_60 : decode cX6_arguments 60 = .ok (.aload_n 0, 1) := by decide +kernel
theorem dX6_arguments_61 : decode cX6_arguments 61 = .ok (.bipush 8, 2) := by decide +kernel
theorem dX6_arguments_63 : decode cX6_arguments 63 = .ok (.iload 4, 2) := by decide +kernel
theorem dX6_arguments_65 : decode cX6_arguments 65 = .ok (.aload_n 0, 1) := by decide +kernel
theorem dX6_arguments_66 : decode cX6_arguments 66 = .ok (.getfield 85, 3) := by decide +kernel
theorem dX6_arguments_69 : decode cX6_arguments 69 = .ok (.iload_n 2, 1) := by decide +kernel
theorem dX6_arguments_70 : decode cX6_arguments 70 = .ok (.iaload, 1) := by decide +kernel
theorem dX6_arguments_71 : decode cX6_arguments 71 = .ok (.invokevirtual 276, 3) := by decide +kernel
theorem dX6_arguments_74 : decode cX6_arguments 74 = .ok (.goto 23, 3) := by decide +kernel
theorem dX6_arguments_77 : decode cX6_arguments 77 = .ok (.aload_n 0, 1) := by decide +kernel
theorem dX6_arguments_78 : decode cX6_arguments 78 = .ok (.bipush 13, 2) := by decide +kernel
theorem dX6_arguments_80 : decode cX6_arguments 80 = .ok (.iconst 0, 1) := by decide +kernel
theorem dX6_arguments_81 : decode cX6_arguments 81 = .ok (.iload_n 2, 1) := by decide +kernel
theorem dX6_arguments_82 : decode cX6_arguments 82 = .ok (.invokevirtual 276, 3) := by decide +kernel
theorem dX6_arguments_85 : decode cX6_arguments 85 = .ok (.aload_n 0, 1) := by decide +kernel
theorem dX6_arguments_86 : decode cX6_arguments 86 = .ok (.iconst 0, 1) := by decide +kernel
theorem dX6_arguments_87 : decode cX6_arguments 87 = .ok (.aload_n 0, 1) := by decide +kernel
theorem dX6_arguments_88 : decode cX6_arguments 88 = .ok (.getfield 34, 3) := by decide +kernel
theorem dX6_arguments_91 : decode cX6_arguments 91 = .ok (.iload_n 3, 1) := by decide +kernel
theorem dX6_arguments_92 : decode cX6_arguments 92 = .ok (.iaload, 1) := by decide +kernel
theorem dX6_arguments_93 : decode cX6_arguments 93 = .ok (.iload_n 2, 1) := by decide +kernel
theorem dX6_arguments_94 : decode cX6_arguments 94 = .ok (.invokevirtual 276, 3) := by decide +kernel
theorem dX6_arguments_97 : decode cX6_arguments 97 = .ok (.return_, 1) := by decide +kernel
theorem dX6_statement_0 : decode cX6_statement 0 = .ok (.aload_n 0, 1) := by decide +kernel
theorem dX6_statement_1 : decode cX6_statement 1 = .ok (.invokevirtual 279, 3) := by decide +kernel
theorem dX6_statement_4 : decode cX6_statement 4 = .ok (.ifCond .ne 4, 3) := by decide +kernel
theorem dX6_statement_7 : decode cX6_statement 7 = .ok (.return_, 1) := by decide +kernel
theorem dX6_statement_8 : decode cX6_statement 8 = .ok (.aload_n 0, 1) := by decide +kernel
theorem dX6_statement_9 : decode cX6_statement 9 = .ok (.getfield 16, 3) := by decide +kernel
theorem dX6_statement_12 : decode cX6_statement 12 = .ok (.iload_n 1, 1) := by decide +kernel
theorem dX6_statement_13 : decode cX6_statement 13 = .ok (.iaload, 1) := by decide +kernel
theorem dX6_statement_14 : decode cX6_statement 14 = .ok (.istore_n 3, 1) := by decide +kernel
theorem dX6_statement_15 : decode cX6_statement 15 = .ok (.aload_n 0, 1) := by decide +kernel
theorem dX6_statement_16 : decode cX6_statement 16 = .ok (.getfield 13, 3) := by decide +kernel
theorem dX6_statement_19 : decode cX6_statement 19 = .ok (.iload_n 1, 1) := by decide +kernel
theorem dX6_statement_20 : decode cX6_statement 20 = .ok (.iaload, 1) := by decide +kernel
theorem dX6_statement_21 : decode cX6_statement 21 = .ok (.tableswitch 144 1 5 #[35, 81, 90, 108, 126], 35) := by decide +kernel
theorem dX6_statement_56 : decode cX6_statement 56 = .ok (.aload_n 0, 1) := by decide +kernel
theorem dX6_statement_57 : decode cX6_statement 57 = .ok (.iload_n 1, 1) := by decide +kernel
theorem dX6_statement_58 : decode cX6_statement 58 = .ok (.iload_n 2, 1) := by decide +kernel
theorem dX6_statement_59 : decode cX6_statement 59 = .ok (.invokevirtual 283, 3) := by decide +kernel
theorem dX6_statement_62 : decode cX6_statement 62 = .ok (.istore 4, 2) := by decide +kernel
theorem dX6_statement_64 : decode cX6_statement 64 = .ok (.iload 4, 2) := by decide +kernel
theorem dX6_statement_66 : decode cX6_statement 66 = .ok (.ifCond .ge 9, 3) := by decide +kernel
theorem dX6_statement_69 : decode cX6_statement 69 = .ok (.aload_n 0, 1) := by decide +kernel
theorem dX6_statement_70 : decode cX6_statement 70 = .ok (.iconst 2, 1) := by decide +kernel
theorem dX6_statement_71 : decode cX6_statement 71 = .ok (.putfield 236, 3) := by decide +kernel
theorem dX6_statement_74 : decode cX6_statement 74 = .ok (.return_, 1) := by decide +kernel
theorem dX6_statement_75 : decode cX6_statement 75 = .ok (.aload_n 0, 1) := by decide +kernel
theorem dX6_statement_76 : decode cX6_statement 76 = .ok (.iconst 1, 1) := by decide +kernel
theorem dX6_statement_77 : decode cX6_statement 77 = .ok (.iload 4, 2) := by decide +kernel
theorem dX6_statement_79 : decode cX6_statement 79 = .ok (.sipush 1023, 3) := by decide +kernel
theorem dX6_statement_82 : decode cX6_statement 82 = .ok (.iand, 1) := by decide +kernel
theorem dX6_statement_83 : decode cX6_statement 83 = .ok (.iload 4, 2) := by decide +kernel
theorem dX6_statement_85 : decode cX6_statement 85 = .ok (.bipush 10, 2) := by decide +kernel
theorem dX6_statement_87 : decode cX6_statement 87 = .ok (.ishr, 1) := by decide +kernel
theorem dX6_statement_88 : decode cX6_statement 88 = .ok (.invokevirtual 276, 3) := by decide +kernel
theorem dX6_statement_91 : decode cX6_statement 91 = .ok (.aload_n 0, 1) := by decide +kernel
theorem dX6_statement_92 : decode cX6_statement 92 = .ok (.bipush 8, 2) := by decide +kernel
theorem dX6_statement_94 : decode cX6_statement 94 = .ok (.iload_n 3, 1) := by decide +kernel
theorem dX6_statement_95 : decode cX6_statement 95 = .ok (.iload_n 2, 1) := by decide +kernel
theorem dX6_statement_96 : decode cX6_statement 96 = .ok (.invokevirtual 276, 3) := by decide +kernel
theorem dX6_statement_99 : decode cX6_statement 99 = .ok (.goto 103, 3) := by decide +kernel
theorem dX6_statement_102 : decode cX6_statement 102 = .ok (.aload_n 0, 1) := by decide +kernel
theorem dX6_statement_103 : decode cX6_statement 103 = .ok (.iload_n 1, 1) := by decide +kernel
theorem dX6_statement_104 : decode cX6_statement 104 = .ok (.iload_n 2, 1) := by decide +kernel
theorem dX6_statement_105 : decode cX6_statement 105 = .ok (.invokevirtual 286, 3) := by decide +kernel
theorem dX6_statement_108 : decode cX6_statement 108 = .ok (.goto 94, 3) := by decide +kernel
theorem dX6_statement_111 : decode cX6_statement 111 = .ok (.aload_n 0, 1) := by decide +kernel
theorem dX6_statement_112 : decode cX6_statement 112 = .ok (.iconst 2, 1) := by decide +kernel
theorem dX6_statement_113 : decode cX6_statement 113 = .ok (.iconst 0, 1) := by decide +kernel
theorem dX6_statement_114 : decode cX6_statement 114 = .ok (.iconst 0, 1) := by decide +kernel
theorem dX6_statement_115 : decode cX6_statement 115 = .ok (.invokevirtual 276, 3) := by decide +kernel
theorem dX6_statement_118 : decode cX6_statement 118 = .ok (.aload_n 0, 1) := by decide +kernel
theorem dX6_statement_119 : decode cX6_statement 119 = .ok (.bipush 8, 2) := by decide +kernel
theorem dX6_statement_121 : decode cX6_statement 121 = .ok (.iload_n 3, 1) := by decide +kernel
theorem dX6_statement_122 : decode cX6_statement 122 = .ok (.iload_n 2, 1) := by decide +kernel
theorem dX6_statement_123 : decode cX6_statement 123 = .ok (.invokevirtual 276, 3) := by decide +kernel
theorem dX6_statement_126 : decode cX6_statement 126 = .ok (.goto 76, 3) := by decide +kernel
theorem dX6_statement_129 : decode cX6_statement 129 = .ok (.aload_n 0, 1) := by decide +kernel
theorem dX6_statement_130 : decode cX6_statement 130 = .ok (.iconst 3, 1) := by decide +kernel
theorem dX6_statement_131 : decode cX6_statement 131 = .ok (.iload_n 1, 1) := by decide +kernel
theorem dX6_statement_132 : decode cX6_statement 132 = .ok (.iload_n 2, 1) := by decide +kernel
theorem dX6_statement_133 : decode cX6_statement 133 = .ok (.invokevirtual 276, 3) := by decide +kernel
theorem dX6_statement_136 : decode cX6_statement 136 = .ok (.aload_n 0, 1) := by decide +kernel
theorem dX6_statement_137 : decode cX6_statement 137 = .ok (.bipush 8, 2) := by decide +kernel
theorem dX6_statement_139 : decode cX6_statement 139 = .ok (.iload_n 3, 1) := by decide +kernel
theorem dX6_statement_140 : decode cX6_statement 140 = .ok (.iload_n 2, 1) := by decide +kernel
theorem dX6_statement_141 : decode cX6_statement 141 = .ok (.invokevirtual 276, 3) := by decide +kernel
theorem dX6_statement_144 : decode cX6_statement 144 = .ok (.goto 58, 3) := by decide +kernel
theorem dX6_statement_147 : decode cX6_statement 147 = .ok (.aload_n 0, 1) := by decide +kernel
theorem dX6_statement_148 : decode cX6_statement 148 = .ok (.iconst 4, 1) := by decide +kernel
theorem dX6_statement_149 : decode cX6_statement 149 = .ok (.iload_n 1, 1) := by decide +kernel
theorem dX6_statement_150 : decode cX6_statement 150 = .ok (.iload_n 2, 1) := by decide +kernel
theorem dX6_statement_151 : decode cX6_statement 151 = .ok (.invokevirtual 276, 3) := by decide +kernel
theorem dX6_statement_154 : decode cX6_statement 154 = .ok (.aload_n 0, 1) := by decide +kernel
theorem dX6_statement_155 : decode cX6_statement 155 = .ok (.bipush 8, 2) := by decide +kernel
theorem dX6_statement_157 : decode cX6_statement 157 = .ok (.iload_n 3, 1) := by decide +kernel
theorem dX6_statement_158 : decode cX6_statement 158 = .ok (.iload_n 2, 1) := by decide +kernel
theorem dX6_statement_159 : decode cX6_statement 159 = .ok (.invokevirtual 276, 3) := by decide +kernel
theorem dX6_statement_162 : decode cX6_statement 162 = .ok (.goto 40, 3) := by decide +kernel
theorem dX6_statement_165 : decode cX6_statement 165 = .ok (.aload_n 0, 1) := by decide +kernel
theorem dX6_statement_166 : decode cX6_statement 166 = .ok (.iload_n 2, 1) := by decide +kernel
theorem dX6_statement_167 : decode cX6_statement 167 = .ok (.iconst (-1), 1) := by decide +kernel
theorem dX6_statement_168 : decode cX6_statement 168 = .ok (.aload_n 0, 1) := by decide +kernel
theorem dX6_statement_169 : decode cX6_statement 169 = .ok (.getfield 22, 3) := by decide +kernel
theorem dX6_statement_172 : decode cX6_statement 172 = .ok (.iload_n 1, 1) := by decide +kernel
theorem dX6_statement_173 : decode cX6_statement 173 = .ok (.iaload, 1) := by decide +kernel
theorem dX6_statement_174 : decode cX6_statement 174 = .ok (.iconst 0, 1) := by decide +kernel
theorem dX6_statement_175 : decode cX6_statement 175 = .ok (.invokevirtual 269, 3) := by decide +kernel
theorem dX6_statement_178 : decode cX6_statement 178 = .ok (.istore 5, 2) := by decide +kernel
theorem dX6_statement_180 : decode cX6_statement 180 = .ok (.aload_n 0, 1) := by decide +kernel
theorem dX6_statement_181 : decode cX6_statement 181 = .ok (.bipush 6, 2) := by decide +kernel
theorem dX6_statement_183 : decode cX6_statement 183 = .ok (.iconst 0, 1) := by decide +kernel
theorem dX6_statement_184 : decode cX6_statement 184 = .ok (.iload 5, 2) := by decide +kernel
theorem dX6_statement_186 : decode cX6_statement 186 = .ok (.invokevirtual 276, 3) := by decide +kernel
theorem dX6_statement_189 : decode cX6_statement 189 = .ok (.iload_n 3, 1) := by decide +kernel
theorem dX6_statement_190 : decode cX6_statement 190 = .ok (.ifCond .le 12, 3) := by decide +kernel
theorem dX6_statement_193 : decode cX6_statement 193 = .ok (.aload_n 0, 1) := by decide +kernel
theorem dX6_statement_194 : decode cX6_statement 194 = .ok (.bipush 7, 2) := by decide +kernel
theorem dX6_statement_196 : decode cX6_statement 196 = .ok (.iload_n 3, 1) := by decide +kernel
theorem dX6_statement_197 : decode cX6_statement 197 = .ok (.iload 5, 2) := by decide +kernel
theorem dX6_statement_199 : decode cX6_statement 199 = .ok (.invokevirtual 276, 3) := by decide +kernel
theorem dX6_statement_202 : decode cX6_statement 202 = .ok (.return_, 1) := by decide +kernel
theorem dX6_evaluate_0 : decode cX6_evaluate 0 = .ok (.aload_n 0, 1) := by decide +kernel
theorem dX6_evaluate_1 : decode cX6_evaluate 1 = .ok (.getfield 13, 3) := by decide +kernel
theorem dX6_evaluate_4 : decode cX6_evaluate 4 = .ok (.iload_n 1, 1) := by decide +kernel
theorem dX6_evaluate_5 : decode cX6_evaluate 5 = .ok (.iaload, 1) := by decide +kernel
theorem dX6_evaluate_6 : decode cX6_evaluate 6 = .ok (.istore_n 3, 1) := by decide +kernel
theorem dX6_evaluate_7 : decode cX6_evaluate 7 = .ok (.iload_n 3, 1) := by decide +kernel
theorem dX6_evaluate_8 : decode cX6_evaluate 8 = .ok (.bipush 7, 2) := by decide +kernel
theorem dX6_evaluate_10 : decode cX6_evaluate 10 = .ok (.if_icmp .ne 23, 3) := by decide +kernel
theorem dX6_evaluate_13 : decode cX6_evaluate 13 = .ok (.aload_n 0, 1) := by decide +kernel
theorem dX6_evaluate_14 : decode cX6_evaluate 14 = .ok (.invokevirtual 279, 3) := by decide +kernel
theorem dX6_evaluate_17 : decode cX6_evaluate 17 = .ok (.ifCond .eq 198, 3) := by decide +kernel
theorem dX6_evaluate_20 : decode cX6_evaluate 20 = .ok (.aload_n 0, 1) := by decide +kernel
theorem dX6_evaluate_21 : decode cX6_evaluate 21 = .ok (.aload_n 0, 1) := by decide +kernel
theorem dX6_evaluate_22 : decode cX6_evaluate 22 = .ok (.getfield 22, 3) := by decide +kernel
theorem dX6_evaluate_25 : decode cX6_evaluate 25 = .ok (.iload_n 1, 1) := by decide +kernel
theorem dX6_evaluate_26 : decode cX6_evaluate 26 = .ok (.iaload, 1) := by decide +kernel
theorem dX6_evaluate_27 : decode cX6_evaluate 27 = .ok (.putfield 289, 3) := by decide +kernel
theorem dX6_evaluate_30 : decode cX6_evaluate 30 = .ok (.goto 185, 3) := by decide +kernel
theorem dX6_evaluate_33 : decode cX6_evaluate 33 = .ok (.iload_n 3, 1) := by decide +kernel
theorem dX6_evaluate_34 : decode cX6_evaluate 34 = .ok (.bipush 8, 2) := by decide +kernel
theorem dX6_evaluate_36 : decode cX6_evaluate 36 = .ok (.if_icmp .ne 61, 3) := by decide +kernel
theorem dX6_evaluate_39 : decode cX6_evaluate 39 = .ok (.aload_n 0, 1) := by decide +kernel
theorem dX6_evaluate_40 : decode cX6_evaluate 40 = .ok (.getfield 22, 3) := by decide +kernel
theorem dX6_evaluate_43 : decode cX6_evaluate 43 = .ok (.iload_n 1, 1) := by decide +kernel
theorem dX6_evaluate_44 : decode cX6_evaluate 44 = .ok (.iaload, 1) := by decide +kernel
theorem dX6_evaluate_45 : decode cX6_evaluate 45 = .ok (.iconst 4, 1) := by decide +kernel
theorem dX6_evaluate_46 : decode cX6_evaluate 46 = .ok (.if_icmp .ne 51, 3) := by decide +kernel
theorem dX6_evaluate_49 : decode cX6_evaluate 49 = .ok (.aload_n 0, 1) := by decide +kernel
theorem dX6_evaluate_50 : decode cX6_evaluate 50 = .ok (.getfield 82, 3) := by decide +kernel
theorem dX6_evaluate_53 : decode cX6_evaluate 53 = .ok (.aload_n 0, 1) := by decide +kernel
theorem dX6_evaluate_54 : decode cX6_evaluate 54 = .ok (.iload_n 2, 1) := by decide +kernel
theorem dX6_evaluate_55 : decode cX6_evaluate 55 = .ok (.aload_n 0, 1) := by decide +kernel
theorem dX6_evaluate_56 : decode cX6_evaluate 56 = .ok (.getfield 28, 3) := by decide +kernel
theorem dX6_evaluate_59 : decode cX6_evaluate 59 = .ok (.iload_n 1, 1) := by decide +kernel
theorem dX6_evaluate_60 : decode cX6_evaluate 60 = .ok (.iaload, 1) := by decide +kernel
theorem dX6_evaluate_61 : decode cX6_evaluate 61 = .ok (.invokevirtual 251, 3) := by decide +kernel
theorem dX6_evaluate_64 : decode cX6_evaluate 64 = .ok (.iaload, 1) := by decide +kernel
theorem dX6_evaluate_65 : decode cX6_evaluate 65 = .ok (.aload_n 0, 1) := by decide +kernel
theorem dX6_evaluate_66 : decode cX6_evaluate 66 = .ok (.getfield 25, 3) := by decide +kernel
theorem dX6_evaluate_69 : decode cX6_evaluate 69 = .ok (.iload_n 1, 1) := by decide +kernel
theorem dX6_evaluate_70 : decode cX6_evaluate 70 = .ok (.iaload, 1) := by decide +kernel
theorem dX6_evaluate_71 : decode cX6_evaluate 71 = .ok (.iadd, 1) := by decide +kernel
theorem dX6_evaluate_72 : decode cX6_evaluate 72 = .ok (.istore 4, 2) := by decide +kernel
theorem dX6_evaluate_74 : decode cX6_evaluate 74 = .ok (.aload_n 0, 1) := by decide +kernel
theorem dX6_evaluate_75 : decode cX6_evaluate 75 = .ok (.bipush 8, 2) := by decide +kernel
theorem dX6_evaluate_77 : decode cX6_evaluate 77 = .ok (.aload_n 0, 1) := by decide +kernel
theorem dX6_evaluate_78 : decode cX6_evaluate 78 = .ok (.getfield 88, 3) := by decide +kernel
theorem dX6_evaluate_81 : decode cX6_evaluate 81 = .ok (.iload 4, 2) := by decide +kernel
theorem dX6_evaluate_83 : decode cX6_evaluate 83 = .ok (.iaload, 1) := by decide +kernel
theorem dX6_evaluate_84 : decode cX6_evaluate 84 = .ok (.aload_n 0, 1) := by decide +kernel
theorem dX6_evaluate_85 : decode cX6_evaluate 85 = .ok (.getfield 91, 3) := by decide +kernel
theorem dX6_evaluate_88 : decode cX6_evaluate 88 = .ok (.iload 4, 2) := by decide +kernel
theorem dX6_evaluate_90 : decode cX6_evaluate 90 = .ok (.iaload, 1) := by decide +kernel
theorem dX6_evaluate_91 : decode cX6_evaluate 91 = .ok (.invokevirtual 276, 3) := by decide +kernel
theorem dX6_evaluate_94 : decode cX6_evaluate 94 = .ok (.goto 121, 3) := by decide +kernel
theorem dX6_evaluate_97 : decode cX6_evaluate 97 = .ok (.iload_n 3, 1) := by decide +kernel
theorem dX6_evaluate_98 : decode cX6_evaluate 98 = .ok (.bipush 8, 2) := by decide +kernel
theorem dX6_evaluate_100 : decode cX6_evaluate 100 = .ok (.if_icmp .ne 55, 3) := by decide +kernel
theorem dX6_evaluate_103 : decode cX6_evaluate 103 = .ok (.aload_n 0, 1) := by decide +kernel
theorem dX6_evaluate_104 : decode cX6_evaluate 104 = .ok (.getfield 22, 3) := by decide +kernel
theorem dX6_evaluate_107 : decode cX6_evaluate 107 = .ok (.iload_n 1, 1) := by decide +kernel
theorem dX6_evaluate_108 : decode cX6_evaluate 108 = .ok (.iaload, 1) := by decide +kernel
theorem dX6_evaluate_109 : decode cX6_evaluate 109 = .ok (.iconst 2, 1) := by decide +kernel
theorem dX6_evaluate_110 : decode cX6_evaluate 110 = .ok (.if_icmp .eq 45, 3) := by decide +kernel
theorem dX6_evaluate_113 : decode cX6_evaluate 113 = .ok (.aload_n 0, 1) := by decide +kernel
theorem dX6_evaluate_114 : decode cX6_evaluate 114 = .ok (.invokevirtual 279, 3) := by decide +kernel
theorem dX6_evaluate_117 : decode cX6_evaluate 117 = .ok (.ifCond .eq 98, 3) := by decide +kernel
theorem dX6_evaluate_120 : decode cX6_evaluate 120 = .ok (.aload_n 0, 1) := by decide +kernel
theorem dX6_evaluate_121 : decode cX6_evaluate 121 = .ok (.aload_n 0, 1) := by decide +kernel
theorem dX6_evaluate_122 : decode cX6_evaluate 122 = .ok (.getfield 88, 3) := by decide +kernel
theorem dX6_evaluate_125 : decode cX6_evaluate 125 = .ok (.aload_n 0, 1) := by decide +kernel
theorem dX6_evaluate_126 : decode cX6_evaluate 126 = .ok (.getfield 82, 3) := by decide +kernel
theorem dX6_evaluate_129 : decode cX6_evaluate 129 = .ok (.aload_n 0, 1) := by decide +kernel
theorem dX6_evaluate_130 : decode cX6_evaluate 130 = .ok (.iload_n 2, 1) := by decide +kernel
theorem dX6_evaluate_131 : decode cX6_evaluate 131 = .ok (.aload_n 0, 1) := by decide +kernel
theorem dX6_evaluate_132 : decode cX6_evaluate 132 = .ok (.getfield 28, 3) := by decide +kernel
theorem dX6_evaluate_135 : decode cX6_evaluate 135 = .ok (.iload_n 1, 1) := by decide +kernel
theorem dX6_evaluate_136 : decode cX6_evaluate 136 = .ok (.iaload, 1) := by decide +kernel
theorem dX6_evaluate_137 : decode cX6_evaluate 137 = .ok (.invokevirtual 251, 3) := by decide +kernel
theorem dX6_evaluate_140 : decode cX6_evaluate 140 = .ok (.iaload, 1) := by decide +kernel
theorem dX6_evaluate_141 : decode cX6_evaluate 141 = .ok (.aload_n 0, 1) := by decide +kernel
theorem dX6_evaluate_142 : decode cX6_evaluate 142 = .ok (.getfield 25, 3) := by decide +kernel
theorem dX6_evaluate_145 : decode cX6_evaluate 145 = .ok (.iload_n 1, 1) := by decide +kernel
theorem dX6_evaluate_146 : decode cX6_evaluate 146 = .ok (.iaload, 1) := by decide +kernel
theorem dX6_evaluate_147 : decode cX6_evaluate 147 = .ok (.iadd, 1) := by decide +kernel
theorem dX6_evaluate_148 : decode cX6_evaluate 148 = .ok (.iaload, 1) := by decide +kernel
theorem dX6_evaluate_149 : decode cX6_evaluate 149 = .ok (.putfield 289, 3) := by decide +kernel
theorem dX6_evaluate_152 : decode cX6_evaluate 152 = .ok (.goto 63, 3) := by decide +kernel
theorem dX6_evaluate_155 : decode cX6_evaluate 155 = .ok (.iload_n 3, 1) := by decide +kernel
theorem dX6_evaluate_156 : decode cX6_evaluate 156 = .ok (.bipush 8, 2) := by decide +kernel
theorem dX6_evaluate_158 : decode cX6_evaluate 158 = .ok (.if_icmp .eq 9, 3) := by decide +kernel
theorem dX6_evaluate_161 : decode cX6_evaluate 161 = .ok (.iload_n 3, 1) := by decide +kernel
theorem dX6_evaluate_162 : decode cX6_evaluate 162 = .ok (.bipush 9, 2) := by decide +kernel
theorem dX6_evaluate_164 : decode cX6_evaluate 164 = .ok (.if_icmp .ne 19, 3) := by decide +kernel
theorem dX6_evaluate_167 : decode cX6_evaluate 167 = .ok (.aload_n 0, 1) := by decide +kernel
theorem dX6_evaluate_168 : decode cX6_evaluate 168 = .ok (.invokevirtual 279, 3) := by decide +kernel
theorem dX6_evaluate_171 : decode cX6_evaluate 171 = .ok (.ifCond .eq 44, 3) := by decide +kernel
theorem dX6_evaluate_174 : decode cX6_evaluate 174 = .ok (.aload_n 0, 1) := by decide +kernel
theorem dX6_evaluate_175 : decode cX6_evaluate 175 = .ok (.iload_n 1, 1) := by decide +kernel
theorem dX6_evaluate_176 : decode cX6_evaluate 176 = .ok (.iload_n 2, 1) := by decide +kernel
theorem dX6_evaluate_177 : decode cX6_evaluate 177 = .ok (.invokevirtual 286, 3) := by decide +kernel
theorem dX6_evaluate_180 : decode cX6_evaluate 180 = .ok (.goto 35, 3) := by decide +kernel
theorem dX6_evaluate_183 : decode cX6_evaluate 183 = .ok (.iload_n 3, 1) := by decide +kernel
theorem dX6_evaluate_184 : decode cX6_evaluate 184 = .ok (.bipush 13, 2) := by decide +kernel
theorem dX6_evaluate_186 : decode cX6_evaluate 186 = .ok (.if_icmp .eq 16, 3) := by decide +kernel
theorem dX6_evaluate_189 : decode cX6_evaluate 189 = .ok (.aload_n 0, 1) := by decide +kernel
theorem dX6_evaluate_190 : decode cX6_evaluate 190 = .ok (.bipush 9, 2) := by decide +kernel
theorem dX6_evaluate_192 : decode cX6_evaluate 192 = .ok (.aload_n 0, 1) := by decide +kernel
theorem dX6_evaluate_193 : decode cX6_evaluate 193 = .ok (.getfield 16, 3) := by decide +kernel
theorem dX6_evaluate_196 : decode cX6_evaluate 196 = .ok (.iload_n 1, 1) := by decide +kernel
theorem dX6_evaluate_197 : decode cX6_evaluate 197 = .ok (.iaload, 1) := by decide +kernel
theorem dX6_evaluate_198 : decode cX6_evaluate 198 = .ok (.iload_n 2, 1) := by decide +kernel
theorem dX6_evaluate_199 : decode cX6_evaluate 199 = .ok (.invokevirtual 276, 3) := by decide +kernel
theorem dX6_evaluate_202 : decode cX6_evaluate 202 = .ok (.aload_n 0, 1) := by decide +kernel
theorem dX6_evaluate_203 : decode cX6_evaluate 203 = .ok (.bipush 8, 2) := by decide +kernel
theorem dX6_evaluate_205 : decode cX6_evaluate 205 = .ok (.aload_n 0, 1) := by decide +kernel
theorem dX6_evaluate_206 : decode cX6_evaluate 206 = .ok (.getfield 16, 3) := by decide +kernel
theorem dX6_evaluate_209 : decode cX6_evaluate 209 = .ok (.iload_n 1, 1) := by decide +kernel
theorem dX6_evaluate_210 : decode cX6_evaluate 210 = .ok (.iaload, 1) := by decide +kernel
theorem dX6_evaluate_211 : decode cX6_evaluate 211 = .ok (.iload_n 2, 1) := by decide +kernel
theorem dX6_evaluate_212 : decode cX6_evaluate 212 = .ok (.invokevirtual 276, 3) := by decide +kernel
theorem dX6_evaluate_215 : decode cX6_evaluate 215 = .ok (.return_, 1) := by decide +kernel
theorem dX6_operandDone_0 : decode cX6_operandDone 0 = .ok (.iload_n 3, 1) := by decide +kernel
theorem dX6_operandDone_1 : decode cX6_operandDone 1 = .ok (.ifCond .eq 97, 3) := by decide +kernel
theorem dX6_operandDone_4 : decode cX6_operandDone 4 = .ok (.aload_n 0, 1) := by decide +kernel
theorem dX6_operandDone_5 : decode cX6_operandDone 5 = .ok (.dup, 1) := by decide +kernel
theorem dX6_operandDone_6 : decode cX6_operandDone 6 = .ok (.getfield 292, 3) := by decide +kernel
theorem dX6_operandDone_9 : decode cX6_operandDone 9 = .ok (.iconst 1, 1) := by decide +kernel
theorem dX6_operandDone_10 : decode cX6_operandDone 10 = .ok (.isub, 1) := by decide +kernel
theorem dX6_operandDone_11 : decode cX6_operandDone 11 = .ok (.putfield 292, 3) := by decide +kernel
theorem dX6_operandDone_14 : decode cX6_operandDone 14 = .ok (.aload_n 0, 1) := by decide +kernel
theorem dX6_operandDone_15 : decode cX6_operandDone 15 = .ok (.getfield 94, 3) := by decide +kernel
theorem dX6_operandDone_18 : decode cX6_operandDone 18 = .ok (.aload_n 0, 1) := by decide +kernel
theorem dX6_operandDone_19 : decode cX6_operandDone 19 = .ok (.getfield 292, 3) := by decide +kernel
theorem dX6_operandDone_22 : decode cX6_operandDone 22 = .ok (.iaload, 1) := by decide +kernel
theorem dX6_operandDone_23 : decode cX6_operandDone 23 = .ok (.istore 4, 2) := by decide +kernel
theorem dX6_operandDone_25 : decode cX6_operandDone 25 = .ok (.aload_n 0, 1) := by decide +kernel
theorem dX6_operandDone_26 : decode cX6_operandDone 26 = .ok (.getfield 31, 3) := by decide +kernel
theorem dX6_operandDone_29 : decode cX6_operandDone 29 = .ok (.iload_n 1, 1) := by decide +kernel
theorem dX6_operandDone_30 : decode cX6_operandDone 30 = .ok (.iaload, 1) := by decide +kernel
theorem dX6_operandDone_31 : decode cX6_operandDone 31 = .ok (.istore 5, 2) := by decide +kernel
theorem dX6_operandDone_33 : decode cX6_operandDone 33 = .ok (.aload_n 0, 1) := by decide +kernel
theorem dX6_operandDone_34 : decode cX6_operandDone 34 = .ok (.iload 5, 2) := by decide +kernel
theorem dX6_operandDone_36 : decode cX6_operandDone 36 = .ok (.ifCond .ne 13, 3) := by decide +kernel
theorem dX6_operandDone_39 : decode cX6_operandDone 39 = .ok (.iload 4, 2) := by decide +kernel
theorem dX6_operandDone_41 : decode cX6_operandDone 41 = .ok (.aload_n 0, 1) := by decide +kernel
theorem dX6_operandDone_42 : decode cX6_operandDone 42 = .ok (.getfield 289, 3) := by decide +kernel
theorem dX6_operandDone_45 : decode cX6_operandDone 45 = .ok (.iadd, 1) := by decide +kernel
theorem dX6_operandDone_46 : decode cX6_operandDone 46 = .ok (.goto 49, 3) := by decide +kernel
theorem dX6_operandDone_49 : decode cX6_operandDone 49 = .ok (.iload 5, 2) := by decide +kernel
theorem dX6_operandDone_51 : decode cX6_operandDone 51 = .ok (.iconst 1, 1) := by decide +kernel
theorem dX6_operandDone_52 : decode cX6_operandDone 52 = .ok (.if_icmp .ne 13, 3) := by decide +kernel
theorem dX6_operandDone_55 : decode cX6_operandDone 55 = .ok (.iload 4, 2) := by decide +kernel
theorem dX6_operandDone_57 : decode cX6_operandDone 57 = .ok (.aload_n 0, 1) := by decide +kernel
theorem dX6_operandDone_58 : decode cX6_operandDone 58 = .ok (.getfield 289, 3) := by decide +kernel
theorem dX6_operandDone_61 : decode cX6_operandDone 61 = .ok (.isub, 1) := by decide +kernel
theorem dX6_operandDone_62 : decode cX6_operandDone 62 = .ok (.goto 33, 3) := by decide +kernel
theorem dX6_operandDone_65 : decode cX6_operandDone 65 = .ok (.iload 5, 2) := by decide +kernel
theorem dX6_operandDone_67 : decode cX6_operandDone 67 = .ok (.iconst 2, 1) := by decide +kernel
theorem dX6_operandDone_68 : decode cX6_operandDone 68 = .ok (.if_icmp .ne 13, 3) := by decide +kernel
theorem dX6_operandDone_71 : decode cX6_operandDone 71 = .ok (.iload 4, 2) := by decide +kernel
theorem dX6_operandDone_73 : decode cX6_operandDone 73 = .ok (.aload_n 0, 1) := by decide +kernel
theorem dX6_operandDone_74 : decode cX6_operandDone 74 = .ok (.getfield 289, 3) := by decide +kernel
theorem dX6_operandDone_77 : decode cX6_operandDone 77 = .ok (.imul, 1) := by decide +kernel
theorem dX6_operandDone_78 : decode cX6_operandDone 78 = .ok (.goto 17, 3) := by decide +kernel
theorem dX6_operandDone_81 : decode cX6_operandDone 81 = .ok (.iload 4, 2) := by decide +kernel
theorem dX6_operandDone_83 : decode cX6_operandDone 83 = .ok (.aload_n 0, 1) := by decide +kernel
theorem dX6_operandDone_84 : decode cX6_operandDone 84 = .ok (.getfield 289, 3) := by decide +kernel
theorem dX6_operandDone_87 : decode cX6_operandDone 87 = .ok (.if_icmp .ge 7, 3) := by decide +kernel
theorem dX6_operandDone_90 : decode cX6_operandDone 90 = .ok (.iconst 1, 1) := by decide +kernel
theorem dX6_operandDone_91 : decode cX6_operandDone 91 = .ok (.goto 4, 3) := by decide +kernel
theorem dX6_operandDone_94 : decode cX6_operandDone 94 = .ok (.iconst 0, 1) := by decide +kernel
theorem dX6_operandDone_95 : decode cX6_operandDone 95 = .ok (.putfield 289, 3) := by decide +kernel
theorem dX6_operandDone_98 : decode cX6_operandDone 98 = .ok (.aload_n 0, 1) := by decide +kernel
theorem dX6_operandDone_99 : decode cX6_operandDone 99 = .ok (.getfield 19, 3) := by decide +kernel
theorem dX6_operandDone_102 : decode cX6_operandDone 102 = .ok (.iload_n 1, 1) := by decide +kernel
theorem dX6_operandDone_103 : decode cX6_operandDone 103 = .ok (.iaload, 1) := by decide +kernel
theorem dX6_operandDone_104 : decode cX6_operandDone 104 = .ok (.ifCond .ne 4, 3) := by decide +kernel
theorem dX6_operandDone_107 : decode cX6_operandDone 107 = .ok (.return_, 1) := by decide +kernel
theorem dX6_operandDone_108 : decode cX6_operandDone 108 = .ok (.aload_n 0, 1) := by decide +kernel
theorem dX6_operandDone_109 : decode cX6_operandDone 109 = .ok (.getfield 292, 3) := by decide +kernel
theorem dX6_operandDone_112 : decode cX6_operandDone 112 = .ok (.bipush 100, 2) := by decide +kernel
theorem dX6_operandDone_114 : decode cX6_operandDone 114 = .ok (.if_icmp .ne 10, 3) := by decide +kernel
theorem dX6_operandDone_117 : decode cX6_operandDone 117 = .ok (.aload_n 0, 1) := by decide +kernel
theorem dX6_operandDone_118 : decode cX6_operandDone 118 = .ok (.bipush 7, 2) := by decide +kernel
theorem dX6_operandDone_120 : decode cX6_operandDone 120 = .ok (.putfield 236, 3) := by decide +kernel
theorem dX6_operandDone_123 : decode cX6_operandDone 123 = .ok (.return_, 1) := by decide +kernel
theorem dX6_operandDone_124 : decode cX6_operandDone 124 = .ok (.aload_n 0, 1) := by decide +kernel
theorem dX6_operandDone_125 : decode cX6_operandDone 125 = .ok (.getfield 94, 3) := by decide +kernel
theorem dX6_operandDone_128 : decode cX6_operandDone 128 = .ok (.aload_n 0, 1) := by decide +kernel
theorem dX6_operandDone_129 : decode cX6_operandDone 129 = .ok (.getfield 292, 3) := by decide +kernel
theorem dX6_operandDone_132 : decode cX6_operandDone 132 = .ok (.aload_n 0, 1) := by decide +kernel
theorem dX6_operandDone_133 : decode cX6_operandDone 133 = .ok (.getfield 289, 3) := by decide +kernel
theorem dX6_operandDone_136 : decode cX6_operandDone 136 = .ok (.iastore, 1) := by decide +kernel
theorem dX6_operandDone_137 : decode cX6_operandDone 137 = .ok (.aload_n 0, 1) := by decide +kernel
theorem dX6_operandDone_138 : decode cX6_operandDone 138 = .ok (.dup, 1) := by decide +kernel
theorem dX6_operandDone_139 : decode cX6_operandDone 139 = .ok (.getfield 292, 3) := by decide +kernel
theorem dX6_operandDone_142 : decode cX6_operandDone 142 = .ok (.iconst 1, 1) := by decide +kernel
theorem dX6_operandDone_143 : decode cX6_operandDone 143 = .ok (.iadd, 1) := by decide +kernel
theorem dX6_operandDone_144 : decode cX6_operandDone 144 = .ok (.putfield 292, 3) := by decide +kernel
theorem dX6_operandDone_147 : decode cX6_operandDone 147 = .ok (.aload_n 0, 1) := by decide +kernel
theorem dX6_operandDone_148 : decode cX6_operandDone 148 = .ok (.bipush 10, 2) := by decide +kernel
theorem dX6_operandDone_150 : decode cX6_operandDone 150 = .ok (.aload_n 0, 1) := by decide +kernel
theorem dX6_operandDone_151 : decode cX6_operandDone 151 = .ok (.getfield 19, 3) := by decide +kernel
theorem dX6_operandDone_154 : decode cX6_operandDone 154 = .ok (.iload_n 1, 1) := by decide +kernel
theorem dX6_operandDone_155 : decode cX6_operandDone 155 = .ok (.iaload, 1) := by decide +kernel
theorem dX6_operandDone_156 : decode cX6_operandDone 156 = .ok (.iload_n 2, 1) := by decide +kernel
theorem dX6_operandDone_157 : decode cX6_operandDone 157 = .ok (.invokevirtual 276, 3) := by decide +kernel
theorem dX6_operandDone_160 : decode cX6_operandDone 160 = .ok (.aload_n 0, 1) := by decide +kernel
theorem dX6_operandDone_161 : decode cX6_operandDone 161 = .ok (.bipush 8, 2) := by decide +kernel
theorem dX6_operandDone_163 : decode cX6_operandDone 163 = .ok (.aload_n 0, 1) := by decide +kernel
theorem dX6_operandDone_164 : decode cX6_operandDone 164 = .ok (.getfield 19, 3) := by decide +kernel
theorem dX6_operandDone_167 : decode cX6_operandDone 167 = .ok (.iload_n 1, 1) := by decide +kernel
theorem dX6_operandDone_168 : decode cX6_operandDone 168 = .ok (.iaload, 1) := by decide +kernel
theorem dX6_operandDone_169 : decode cX6_operandDone 169 = .ok (.iload_n 2, 1) := by decide +kernel
theorem dX6_operandDone_170 : decode cX6_operandDone 170 = .ok (.invokevirtual 276, 3) := by decide +kernel
theorem dX6_operandDone_173 : decode cX6_operandDone 173 = .ok (.return_, 1) := by decide +kernel
theorem dX6_perform_0 : decode cX6_perform 0 = .ok (.iload_n 1, 1) := by decide +kernel
theorem dX6_perform_1 : decode cX6_perform 1 = .ok (.tableswitch 354 0 12 #[67, 76, 95, 139, 180, 214, 237, 255, 287, 296, 306, 354, 316], 67) := by decide +kernel
theorem dX6_perform_68 : decode cX6_perform 68 = .ok (.aload_n 0, 1) := by decide +kernel
theorem dX6_perform_69 : decode cX6_perform 69 = .ok (.iload_n 2, 1) := by decide +kernel
theorem dX6_perform_70 : decode cX6_perform 70 = .ok (.iload_n 3, 1) := by decide +kernel
theorem dX6_perform_71 : decode cX6_perform 71 = .ok (.invokevirtual 295, 3) := by decide +kernel
theorem dX6_perform_74 : decode cX6_perform 74 = .ok (.goto 321, 3) := by decide +kernel
theorem dX6_perform_77 : decode cX6_perform 77 = .ok (.aload_n 0, 1) := by decide +kernel
theorem dX6_perform_78 : decode cX6_perform 78 = .ok (.getfield 88, 3) := by decide +kernel
theorem dX6_perform_81 : decode cX6_perform 81 = .ok (.iload_n 2, 1) := by decide +kernel
theorem dX6_perform_82 : decode cX6_perform 82 = .ok (.sipush 1024, 3) := by decide +kernel
theorem dX6_perform_85 : decode cX6_perform 85 = .ok (.iload_n 3, 1) := by decide +kernel
theorem dX6_perform_86 : decode cX6_perform 86 = .ok (.imul, 1) := by decide +kernel
theorem dX6_perform_87 : decode cX6_perform 87 = .ok (.iadd, 1) := by decide +kernel
theorem dX6_perform_88 : decode cX6_perform 88 = .ok (.aload_n 0, 1) := by decide +kernel
theorem dX6_perform_89 : decode cX6_perform 89 = .ok (.getfield 289, 3) := by decide +kernel
theorem dX6_perform_92 : decode cX6_perform 92 = .ok (.iastore, 1) := by decide +kernel
theorem dX6_perform_93 : decode cX6_perform 93 = .ok (.goto 302, 3) := by decide +kernel
theorem dX6_perform_96 : decode cX6_perform 96 = .ok (.aload_n 0, 1) := by decide +kernel
theorem dX6_perform_97 : decode cX6_perform 97 = .ok (.getfield 298, 3) := by decide +kernel
theorem dX6_perform_100 : decode cX6_perform 100 = .ok (.bipush 32, 2) := by decide +kernel
theorem dX6_perform_102 : decode cX6_perform 102 = .ok (.if_icmp .ne 12, 3) := by decide +kernel
theorem dX6_perform_105 : decode cX6_perform 105 = .ok (.aload_n 0, 1) := by decide +kernel
theorem dX6_perform_106 : decode cX6_perform 106 = .ok (.bipush 6, 2) := by decide +kernel
theorem dX6_perform_108 : decode cX6_perform 108 = .ok (.putfield 236, 3) := by decide +kernel
theorem dX6_perform_111 : decode cX6_perform 111 = .ok (.goto 284, 3) := by decide +kernel
theorem dX6_perform_114 : decode cX6_perform 114 = .ok (.aload_n 0, 1) := by decide +kernel
theorem dX6_perform_115 : decode cX6_perform 115 = .ok (.getfield 97, 3) := by decide +kernel
theorem dX6_perform_118 : decode cX6_perform 118 = .ok (.aload_n 0, 1) := by decide +kernel
theorem dX6_perform_119 : decode cX6_perform 119 = .ok (.getfield 298, 3) := by decide +kernel
theorem dX6_perform_122 : decode cX6_perform 122 = .ok (.aload_n 0, 1) := by decide +kernel
theorem dX6_perform_123 : decode cX6_perform 123 = .ok (.getfield 289, 3) := by decide +kernel
theorem dX6_perform_126 : decode cX6_perform 126 = .ok (.iastore, 1) := by decide +kernel
theorem dX6_perform_127 : decode cX6_perform 127 = .ok (.aload_n 0, 1) := by decide +kernel
theorem dX6_perform_128 : decode cX6_perform 128 = .ok (.dup, 1) := by decide +kernel
theorem dX6_perform_129 : decode cX6_perform 129 = .ok (.getfield 298, 3) := by decide +kernel
theorem dX6_perform_132 : decode cX6_perform 132 = .ok (.iconst 1, 1) := by decide +kernel
theorem dX6_perform_133 : decode cX6_perform 133 = .ok (.iadd, 1) := by decide +kernel
theorem dX6_perform_134 : decode cX6_perform 134 = .ok (.putfield 298, 3) := by decide +kernel
theorem dX6_perform_137 : decode cX6_perform 137 = .ok (.goto 258, 3) := by decide +kernel
theorem dX6_perform_140 : decode cX6_perform 140 = .ok (.aload_n 0, 1) := by decide +kernel
theorem dX6_perform_141 : decode cX6_perform 141 = .ok (.getfield 19, 3) := by decide +kernel
theorem dX6_perform_144 : decode cX6_perform 144 = .ok (.aload_n 0, 1) := by decide +kernel
theorem dX6_perform_145 : decode cX6_perform 145 = .ok (.getfield 16, 3) := by decide +kernel
theorem dX6_perform_148 : decode cX6_perform 148 = .ok (.iload_n 2, 1) := by decide +kernel
theorem dX6_perform_149 : decode cX6_perform 149 = .ok (.iaload, 1) := by decide +kernel
theorem dX6_perform_150 : decode cX6_perform 150 = .ok (.iaload, 1) := by decide +kernel
theorem dX6_perform_151 : decode cX6_perform 151 = .ok (.istore 4, 2) := by decide +kernel
theorem dX6_perform_153 : decode cX6_perform 153 = .ok (.aload_n 0, 1) := by decide +kernel
theorem dX6_perform_154 : decode cX6_perform 154 = .ok (.iconst 0, 1) := by decide +kernel
theorem dX6_perform_155 : decode cX6_perform 155 = .ok (.aload_n 0, 1) := by decide +kernel
theorem dX6_perform_156 : decode cX6_perform 156 = .ok (.getfield 289, 3) := by decide +kernel
theorem dX6_perform_159 : decode cX6_perform 159 = .ok (.ifCond .eq 8, 3) := by decide +kernel
theorem dX6_perform_162 : decode cX6_perform 162 = .ok (.iload 4, 2) := by decide +kernel
theorem dX6_perform_164 : decode cX6_perform 164 = .ok (.goto 10, 3) := by decide +kernel
theorem dX6_perform_167 : decode cX6_perform 167 = .ok (.aload_n 0, 1) := by decide +kernel
theorem dX6_perform_168 : decode cX6_perform 168 = .ok (.getfield 19, 3) := by decide +kernel
theorem dX6_perform_171 : decode cX6_perform 171 = .ok (.iload 4, 2) := by decide +kernel
theorem dX6_perform_173 : decode cX6_perform 173 = .ok (.iaload, 1) := by decide +kernel
theorem dX6_perform_174 : decode cX6_perform 174 = .ok (.iload_n 3, 1) := by decide +kernel
theorem dX6_perform_175 : decode cX6_perform 175 = .ok (.invokevirtual 276, 3) := by decide +kernel
theorem dX6_perform_178 : decode cX6_perform 178 = .ok (.goto 217, 3) := by decide +kernel
theorem dX6_perform_181 : decode cX6_perform 181 = .ok (.aload_n 0, 1) := by decide +kernel
theorem dX6_perform_182 : decode cX6_perform 182 = .ok (.getfield 289, 3) := by decide +kernel
theorem dX6_perform_185 : decode cX6_perform 185 = .ok (.ifCond .eq 210, 3) := by decide +kernel
theorem dX6_perform_188 : decode cX6_perform 188 = .ok (.aload_n 0, 1) := by decide +kernel
theorem dX6_perform_189 : decode cX6_perform 189 = .ok (.iconst 5, 1) := by decide +kernel
theorem dX6_perform_190 : decode cX6_perform 190 = .ok (.iload_n 2, 1) := by decide +kernel
theorem dX6_perform_191 : decode cX6_perform 191 = .ok (.iload_n 3, 1) := by decide +kernel
theorem dX6_perform_192 : decode cX6_perform 192 = .ok (.invokevirtual 276, 3) := by decide +kernel
theorem dX6_perform_195 : decode cX6_perform 195 = .ok (.aload_n 0, 1) := by decide +kernel
theorem dX6_perform_196 : decode cX6_perform 196 = .ok (.iconst 0, 1) := by decide +kernel
theorem dX6_perform_197 : decode cX6_perform 197 = .ok (.aload_n 0, 1) := by decide +kernel
theorem dX6_perform_198 : decode cX6_perform 198 = .ok (.getfield 19, 3) := by decide +kernel
theorem dX6_perform_201 : decode cX6_perform 201 = .ok (.aload_n 0, 1) := by decide +kernel
theorem dX6_perform_202 : decode cX6_perform 202 = .ok (.getfield 16, 3) := by decide +kernel
theorem dX6_perform_205 : decode cX6_perform 205 = .ok (.iload_n 2, 1) := by decide +kernel
theorem dX6_perform_206 : decode cX6_perform 206 = .ok (.iaload, 1) := by decide +kernel
theorem dX6_perform_207 : decode cX6_perform 207 = .ok (.iaload, 1) := by decide +kernel
theorem dX6_perform_208 : decode cX6_perform 208 = .ok (.iload_n 3, 1) := by decide +kernel
theorem dX6_perform_209 : decode cX6_perform 209 = .ok (.invokevirtual 276, 3) := by decide +kernel
theorem dX6_perform_212 : decode cX6_perform 212 = .ok (.goto 183, 3) := by decide +kernel
theorem dX6_perform_215 : decode cX6_perform 215 = .ok (.aload_n 0, 1) := by decide +kernel
theorem dX6_perform_216 : decode cX6_perform 216 = .ok (.iconst 4, 1) := by decide +kernel
theorem dX6_perform_217 : decode cX6_perform 217 = .ok (.iload_n 2, 1) := by decide +kernel
theorem dX6_perform_218 : decode cX6_perform 218 = .ok (.iload_n 3, 1) := by decide +kernel
theorem dX6_perform_219 : decode cX6_perform 219 = .ok (.invokevirtual 276, 3) := by decide +kernel
theorem dX6_perform_222 : decode cX6_perform 222 = .ok (.aload_n 0, 1) := by decide +kernel
theorem dX6_perform_223 : decode cX6_perform 223 = .ok (.bipush 8, 2) := by decide +kernel
theorem dX6_perform_225 : decode cX6_perform 225 = .ok (.aload_n 0, 1) := by decide +kernel
theorem dX6_perform_226 : decode cX6_perform 226 = .ok (.getfield 16, 3) := by decide +kernel
theorem dX6_perform_229 : decode cX6_perform 229 = .ok (.iload_n 2, 1) := by decide +kernel
theorem dX6_perform_230 : decode cX6_perform 230 = .ok (.iaload, 1) := by decide +kernel
theorem dX6_perform_231 : decode cX6_perform 231 = .ok (.iload_n 3, 1) := by decide +kernel
theorem dX6_perform_232 : decode cX6_perform 232 = .ok (.invokevirtual 276, 3) := by decide +kernel
theorem dX6_perform_235 : decode cX6_perform 235 = .ok (.goto 160, 3) := by decide +kernel
theorem dX6_perform_238 : decode cX6_perform 238 = .ok (.aload_n 0, 1) := by decide +kernel
theorem dX6_perform_239 : decode cX6_perform 239 = .ok (.iload_n 3, 1) := by decide +kernel
theorem dX6_perform_240 : decode cX6_perform 240 = .ok (.putfield 239, 3) := by decide +kernel
theorem dX6_perform_243 : decode cX6_perform 243 = .ok (.aload_n 0, 1) := by decide +kernel
theorem dX6_perform_244 : decode cX6_perform 244 = .ok (.aload_n 0, 1) := by decide +kernel
theorem dX6_perform_245 : decode cX6_perform 245 = .ok (.getfield 82, 3) := by decide +kernel
theorem dX6_perform_248 : decode cX6_perform 248 = .ok (.iload_n 3, 1) := by decide +kernel
theorem dX6_perform_249 : decode cX6_perform 249 = .ok (.iaload, 1) := by decide +kernel
theorem dX6_perform_250 : decode cX6_perform 250 = .ok (.putfield 242, 3) := by decide +kernel
theorem dX6_perform_253 : decode cX6_perform 253 = .ok (.goto 142, 3) := by decide +kernel
theorem dX6_perform_256 : decode cX6_perform 256 = .ok (.aload_n 0, 1) := by decide +kernel
theorem dX6_perform_257 : decode cX6_perform 257 = .ok (.getfield 19, 3) := by decide +kernel
theorem dX6_perform_260 : decode cX6_perform 260 = .ok (.iload_n 2, 1) := by decide +kernel
theorem dX6_perform_261 : decode cX6_perform 261 = .ok (.iaload, 1) := by decide +kernel
theorem dX6_perform_262 : decode cX6_perform 262 = .ok (.ifCond .le 16, 3) := by decide +kernel
theorem dX6_perform_265 : decode cX6_perform 265 = .ok (.aload_n 0, 1) := by decide +kernel
theorem dX6_perform_266 : decode cX6_perform 266 = .ok (.bipush 7, 2) := by decide +kernel
theorem dX6_perform_268 : decode cX6_perform 268 = .ok (.aload_n 0, 1) := by decide +kernel
theorem dX6_perform_269 : decode cX6_perform 269 = .ok (.getfield 19, 3) := by decide +kernel
theorem dX6_perform_272 : decode cX6_perform 272 = .ok (.iload_n 2, 1) := by decide +kernel
theorem dX6_perform_273 : decode cX6_perform 273 = .ok (.iaload, 1) := by decide +kernel
theorem dX6_perform_274 : decode cX6_perform 274 = .ok (.iload_n 3, 1) := by decide +kernel
theorem dX6_perform_275 : decode cX6_perform 275 = .ok (.invokevirtual 276, 3) := by decide +kernel
theorem dX6_perform_278 : decode cX6_perform 278 = .ok (.aload_n 0, 1) := by decide +kernel
theorem dX6_perform_279 : decode cX6_perform 279 = .ok (.iconst 0, 1) := by decide +kernel
theorem dX6_perform_280 : decode cX6_perform 280 = .ok (.iload_n 2, 1) := by decide +kernel
theorem dX6_perform_281 : decode cX6_perform 281 = .ok (.iload_n 3, 1) := by decide +kernel
theorem dX6_perform_282 : decode cX6_perform 282 = .ok (.invokevirtual 276, 3) := by decide +kernel
theorem dX6_perform_285 : decode cX6_perform 285 = .ok (.goto 110, 3) := by decide +kernel
theorem dX6_perform_288 : decode cX6_perform 288 = .ok (.aload_n 0, 1) := by decide +kernel
theorem dX6_perform_289 : decode cX6_perform 289 = .ok (.iload_n 2, 1) := by decide +kernel
theorem dX6_perform_290 : decode cX6_perform 290 = .ok (.iload_n 3, 1) := by decide +kernel
theorem dX6_perform_291 : decode cX6_perform 291 = .ok (.invokevirtual 301, 3) := by decide +kernel
theorem dX6_perform_294 : decode cX6_perform 294 = .ok (.goto 101, 3) := by decide +kernel
theorem dX6_perform_297 : decode cX6_perform 297 = .ok (.aload_n 0, 1) := by decide +kernel
theorem dX6_perform_298 : decode cX6_perform 298 = .ok (.iload_n 2, 1) := by decide +kernel
theorem dX6_perform_299 : decode cX6_perform 299 = .ok (.iload_n 3, 1) := by decide +kernel
theorem dX6_perform_300 : decode cX6_perform 300 = .ok (.iconst 0, 1) := by decide +kernel
theorem dX6_perform_301 : decode cX6_perform 301 = .ok (.invokevirtual 304, 3) := by decide +kernel
theorem dX6_perform_304 : decode cX6_perform 304 = .ok (.goto 91, 3) := by decide +kernel
theorem dX6_perform_307 : decode cX6_perform 307 = .ok (.aload_n 0, 1) := by decide +kernel
theorem dX6_perform_308 : decode cX6_perform 308 = .ok (.iload_n 2, 1) := by decide +kernel
theorem dX6_perform_309 : decode cX6_perform 309 = .ok (.iload_n 3, 1) := by decide +kernel
theorem dX6_perform_310 : decode cX6_perform 310 = .ok (.iconst 1, 1) := by decide +kernel
theorem dX6_perform_311 : decode cX6_perform 311 = .ok (.invokevirtual 304, 3) := by decide +kernel
theorem dX6_perform_314 : decode cX6_perform 314 = .ok (.goto 81, 3) := by decide +kernel
theorem dX6_perform_317 : decode cX6_perform 317 = .ok (.aload_n 0, 1) := by decide +kernel
theorem dX6_perform_318 : decode cX6_perform 318 = .ok (.getfield 88, 3) := by decide +kernel
theorem dX6_perform_321 : decode cX6_perform 321 = .ok (.aload_n 0, 1) := by decide +kernel
theorem dX6_perform_322 : decode cX6_perform 322 = .ok (.getfield 82, 3) := by decide +kernel
theorem dX6_perform_325 : decode cX6_perform 325 = .ok (.iload_n 3, 1) := by decide +kernel
theorem dX6_perform_326 : decode cX6_perform 326 = .ok (.iaload, 1) := by decide +kernel
theorem dX6_perform_327 : decode cX6_perform 327 = .ok (.iconst 1, 1) := by decide +kernel
theorem dX6_perform_328 : decode cX6_perform 328 = .ok (.iadd, 1) := by decide +kernel
theorem dX6_perform_329 : decode cX6_perform 329 = .ok (.aload_n 0, 1) := by decide +kernel
theorem dX6_perform_330 : decode cX6_perform 330 = .ok (.getfield 31, 3) := by decide +kernel
theorem dX6_perform_333 : decode cX6_perform 333 = .ok (.iload_n 2, 1) := by decide +kernel
theorem dX6_perform_334 : decode cX6_perform 334 = .ok (.iaload, 1) := by decide +kernel
theorem dX6_perform_335 : decode cX6_perform 335 = .ok (.iadd, 1) := by decide +kernel
theorem dX6_perform_336 : decode cX6_perform 336 = .ok (.aload_n 0, 1) := by decide +kernel
theorem dX6_perform_337 : decode cX6_perform 337 = .ok (.getfield 289, 3) := by decide +kernel
theorem dX6_perform_340 : decode cX6_perform 340 = .ok (.iastore, 1) := by decide +kernel
theorem dX6_perform_341 : decode cX6_perform 341 = .ok (.aload_n 0, 1) := by decide +kernel
theorem dX6_perform_342 : decode cX6_perform 342 = .ok (.aload_n 0, 1) := by decide +kernel
theorem dX6_perform_343 : decode cX6_perform 343 = .ok (.getfield 19, 3) := by decide +kernel
theorem dX6_perform_346 : decode cX6_perform 346 = .ok (.iload_n 2, 1) := by decide +kernel
theorem dX6_perform_347 : decode cX6_perform 347 = .ok (.iaload, 1) := by decide +kernel
theorem dX6_perform_348 : decode cX6_perform 348 = .ok (.iload_n 3, 1) := by decide +kernel
theorem dX6_perform_349 : decode cX6_perform 349 = .ok (.invokevirtual 273, 3) := by decide +kernel
theorem dX6_perform_352 : decode cX6_perform 352 = .ok (.goto 43, 3) := by decide +kernel
theorem dX6_perform_355 : decode cX6_perform 355 = .ok (.aload_n 0, 1) := by decide +kernel
theorem dX6_perform_356 : decode cX6_perform 356 = .ok (.aload_n 0, 1) := by decide +kernel
theorem dX6_perform_357 : decode cX6_perform 357 = .ok (.getfield 88, 3) := by decide +kernel
theorem dX6_perform_360 : decode cX6_perform 360 = .ok (.aload_n 0, 1) := by decide +kernel
theorem dX6_perform_361 : decode cX6_perform 361 = .ok (.getfield 82, 3) := by decide +kernel
theorem dX6_perform_364 : decode cX6_perform 364 = .ok (.iload_n 3, 1) := by decide +kernel
theorem dX6_perform_365 : decode cX6_perform 365 = .ok (.iaload, 1) := by decide +kernel
theorem dX6_perform_366 : decode cX6_perform 366 = .ok (.iaload, 1) := by decide +kernel
theorem dX6_perform_367 : decode cX6_perform 367 = .ok (.putfield 289, 3) := by decide +kernel
theorem dX6_perform_370 : decode cX6_perform 370 = .ok (.aload_n 0, 1) := by decide +kernel
theorem dX6_perform_371 : decode cX6_perform 371 = .ok (.dup, 1) := by decide +kernel
theorem dX6_perform_372 : decode cX6_perform 372 = .ok (.getfield 260, 3) := by decide +kernel
theorem dX6_perform_375 : decode cX6_perform 375 = .ok (.iconst 1, 1) := by decide +kernel
theorem dX6_perform_376 : decode cX6_perform 376 = .ok (.isub, 1) := by decide +kernel
theorem dX6_perform_377 : decode cX6_perform 377 = .ok (.putfield 260, 3) := by decide +kernel
theorem dX6_perform_380 : decode cX6_perform 380 = .ok (.aload_n 0, 1) := by decide +kernel
theorem dX6_perform_381 : decode cX6_perform 381 = .ok (.iload_n 3, 1) := by decide +kernel
theorem dX6_perform_382 : decode cX6_perform 382 = .ok (.putfield 239, 3) := by decide +kernel
theorem dX6_perform_385 : decode cX6_perform 385 = .ok (.aload_n 0, 1) := by decide +kernel
theorem dX6_perform_386 : decode cX6_perform 386 = .ok (.aload_n 0, 1) := by decide +kernel
theorem dX6_perform_387 : decode cX6_perform 387 = .ok (.getfield 82, 3) := by decide +kernel
theorem dX6_perform_390 : decode cX6_perform 390 = .ok (.iload_n 3, 1) := by decide +kernel
theorem dX6_perform_391 : decode cX6_perform 391 = .ok (.iaload, 1) := by decide +kernel
theorem dX6_perform_392 : decode cX6_perform 392 = .ok (.putfield 242, 3) := by decide +kernel
theorem dX6_perform_395 : decode cX6_perform 395 = .ok (.return_, 1) := by decide +kernel
theorem dX6_run_0 : decode cX6_run 0 = .ok (.aload_n 0, 1) := by decide +kernel
theorem dX6_run_1 : decode cX6_run 1 = .ok (.getfield 211, 3) := by decide +kernel
theorem dX6_run_4 : decode cX6_run 4 = .ok (.ifCond .ne 5, 3) := by decide +kernel
theorem dX6_run_7 : decode cX6_run 7 = .ok (.iconst (-1), 1) := by decide +kernel
theorem dX6_run_8 : decode cX6_run 8 = .ok (.ireturn, 1) := by decide +kernel
theorem dX6_run_9 : decode cX6_run 9 = .ok (.iload_n 1, 1) := by decide +kernel
theorem dX6_run_10 : decode cX6_run 10 = .ok (.iconst 0, 1) := by decide +kernel
theorem dX6_run_11 : decode cX6_run 11 = .ok (.sipush 1000, 3) := by decide +kernel
theorem dX6_run_14 : decode cX6_run 14 = .ok (.invokestatic 111, 3) := by decide +kernel
theorem dX6_run_17 : decode cX6_run 17 = .ok (.ifCond .ne 6, 3) := by decide +kernel
theorem dX6_run_20 : decode cX6_run 20 = .ok (.bipush (-2), 2) := by decide +kernel
theorem dX6_run_22 : decode cX6_run 22 = .ok (.ireturn, 1) := by decide +kernel
theorem dX6_run_23 : decode cX6_run 23 = .ok (.aload_n 0, 1) := by decide +kernel
theorem dX6_run_24 : decode cX6_run 24 = .ok (.iload_n 1, 1) := by decide +kernel
theorem dX6_run_25 : decode cX6_run 25 = .ok (.putfield 233, 3) := by decide +kernel
theorem dX6_run_28 : decode cX6_run 28 = .ok (.aload_n 0, 1) := by decide +kernel
theorem dX6_run_29 : decode cX6_run 29 = .ok (.iconst 0, 1) := by decide +kernel
theorem dX6_run_30 : decode cX6_run 30 = .ok (.putfield 230, 3) := by decide +kernel
theorem dX6_run_33 : decode cX6_run 33 = .ok (.aload_n 0, 1) := by decide +kernel
theorem dX6_run_34 : decode cX6_run 34 = .ok (.iconst 0, 1) := by decide +kernel
theorem dX6_run_35 : decode cX6_run 35 = .ok (.putfield 260, 3) := by decide +kernel
theorem dX6_run_38 : decode cX6_run 38 = .ok (.aload_n 0, 1) := by decide +kernel
theorem dX6_run_39 : decode cX6_run 39 = .ok (.iconst 0, 1) := by decide +kernel
theorem dX6_run_40 : decode cX6_run 40 = .ok (.putfield 266, 3) := by decide +kernel
theorem dX6_run_43 : decode cX6_run 43 = .ok (.aload_n 0, 1) := by decide +kernel
theorem dX6_run_44 : decode cX6_run 44 = .ok (.iconst 0, 1) := by decide +kernel
theorem dX6_run_45 : decode cX6_run 45 = .ok (.putfield 263, 3) := by decide +kernel
theorem dX6_run_48 : decode cX6_run 48 = .ok (.aload_n 0, 1) := by decide +kernel
theorem dX6_run_49 : decode cX6_run 49 = .ok (.iconst 0, 1) := by decide +kernel
theorem dX6_run_50 : decode cX6_run 50 = .ok (.putfield 298, 3) := by decide +kernel
theorem dX6_run_53 : decode cX6_run 53 = .ok (.aload_n 0, 1) := by decide +kernel
theorem dX6_run_54 : decode cX6_run 54 = .ok (.iconst 0, 1) := by decide +kernel
theorem dX6_run_55 : decode cX6_run 55 = .ok (.putfield 227, 3) := by decide +kernel
theorem dX6_run_58 : decode cX6_run 58 = .ok (.aload_n 0, 1) := by decide +kernel
theorem dX6_run_59 : decode cX6_run 59 = .ok (.iconst 0, 1) := by decide +kernel
theorem dX6_run_60 : decode cX6_run 60 = .ok (.putfield 239, 3) := by decide +kernel
theorem dX6_run_63 : decode cX6_run 63 = .ok (.aload_n 0, 1) := by decide +kernel
theorem dX6_run_64 : decode cX6_run 64 = .ok (.iconst 0, 1) := by decide +kernel
theorem dX6_run_65 : decode cX6_run 65 = .ok (.putfield 242, 3) := by decide +kernel
theorem dX6_run_68 : decode cX6_run 68 = .ok (.aload_n 0, 1) := by decide +kernel
theorem dX6_run_69 : decode cX6_run 69 = .ok (.iconst 0, 1) := by decide +kernel
theorem dX6_run_70 : decode cX6_run 70 = .ok (.putfield 292, 3) := by decide +kernel
theorem dX6_run_73 : decode cX6_run 73 = .ok (.aload_n 0, 1) := by decide +kernel
theorem dX6_run_74 : decode cX6_run 74 = .ok (.iconst 0, 1) := by decide +kernel
theorem dX6_run_75 : decode cX6_run 75 = .ok (.putfield 236, 3) := by decide +kernel
theorem dX6_run_78 : decode cX6_run 78 = .ok (.aload_n 0, 1) := by decide +kernel
theorem dX6_run_79 : decode cX6_run 79 = .ok (.iconst 0, 1) := by decide +kernel
theorem dX6_run_80 : decode cX6_run 80 = .ok (.iconst (-1), 1) := by decide +kernel
theorem dX6_run_81 : decode cX6_run 81 = .ok (.iconst 0, 1) := by decide +kernel
theorem dX6_run_82 : decode cX6_run 82 = .ok (.iconst 0, 1) := by decide +kernel
theorem dX6_run_83 : decode cX6_run 83 = .ok (.invokevirtual 269, 3) := by decide +kernel
theorem dX6_run_86 : decode cX6_run 86 = .ok (.istore_n 2, 1) := by decide +kernel
theorem dX6_run_87 : decode cX6_run 87 = .ok (.aload_n 0, 1) := by decide +kernel
theorem dX6_run_88 : decode cX6_run 88 = .ok (.iconst 0, 1) := by decide +kernel
theorem dX6_run_89 : decode cX6_run 89 = .ok (.aload_n 0, 1) := by decide +kernel
theorem dX6_run_90 : decode cX6_run 90 = .ok (.getfield 224, 3) := by decide +kernel
theorem dX6_run_93 : decode cX6_run 93 = .ok (.iload_n 2, 1) := by decide +kernel
theorem dX6_run_94 : decode cX6_run 94 = .ok (.invokevirtual 276, 3) := by decide +kernel
theorem dX6_run_97 : decode cX6_run 97 = .ok (.iconst 0, 1) := by decide +kernel
theorem dX6_run_98 : decode cX6_run 98 = .ok (.istore_n 3, 1) := by decide +kernel
theorem dX6_run_99 : decode cX6_run 99 = .ok (.iload_n 3, 1) := by decide +kernel
theorem dX6_run_100 : decode cX6_run 100 = .ok (.ldc_w 308, 3) := by decide +kernel
theorem dX6_run_103 : decode cX6_run 103 = .ok (.if_icmp .ge 66, 3) := by decide +kernel
theorem dX6_run_106 : decode cX6_run 106 = .ok (.aload_n 0, 1) := by decide +kernel
theorem dX6_run_107 : decode cX6_run 107 = .ok (.getfield 227, 3) := by decide +kernel
theorem dX6_run_110 : decode cX6_run 110 = .ok (.ifCond .le 59, 3) := by decide +kernel
theorem dX6_run_113 : decode cX6_run 113 = .ok (.aload_n 0, 1) := by decide +kernel
theorem dX6_run_114 : decode cX6_run 114 = .ok (.getfield 236, 3) := by decide +kernel
theorem dX6_run_117 : decode cX6_run 117 = .ok (.ifCond .ne 52, 3) := by decide +kernel
theorem dX6_run_120 : decode cX6_run 120 = .ok (.aload_n 0, 1) := by decide +kernel
theorem dX6_run_121 : decode cX6_run 121 = .ok (.dup, 1) := by decide +kernel
theorem dX6_run_122 : decode cX6_run 122 = .ok (.getfield 227, 3) := by decide +kernel
theorem dX6_run_125 : decode cX6_run 125 = .ok (.iconst 1, 1) := by decide +kernel
theorem dX6_run_126 : decode cX6_run 126 = .ok (.isub, 1) := by decide +kernel
theorem dX6_run_127 : decode cX6_run 127 = .ok (.putfield 227, 3) := by decide +kernel
theorem dX6_run_130 : decode cX6_run 130 = .ok (.aload_n 0, 1) := by decide +kernel
theorem dX6_run_131 : decode cX6_run 131 = .ok (.getfield 73, 3) := by decide +kernel
theorem dX6_run_134 : decode cX6_run 134 = .ok (.aload_n 0, 1) := by decide +kernel
theorem dX6_run_135 : decode cX6_run 135 = .ok (.getfield 227, 3) := by decide +kernel
theorem dX6_run_138 : decode cX6_run 138 = .ok (.iaload, 1) := by decide +kernel
theorem dX6_run_139 : decode cX6_run 139 = .ok (.istore 4, 2) := by decide +kernel
theorem dX6_run_141 : decode cX6_run 141 = .ok (.aload_n 0, 1) := by decide +kernel
theorem dX6_run_142 : decode cX6_run 142 = .ok (.iload 4, 2) := by decide +kernel
theorem dX6_run_144 : decode cX6_run 144 = .ok (.bipush 15, 2) := by decide +kernel
theorem dX6_run_146 : decode cX6_run 146 = .ok (.iand, 1) := by decide +kernel
theorem dX6_run_147 : decode cX6_run 147 = .ok (.iload 4, 2) := by decide +kernel
theorem dX6_run_149 : decode cX6_run 149 = .ok (.iconst 4, 1) := by decide +kernel
theorem dX6_run_150 : decode cX6_run 150 = .ok (.ishr, 1) := by decide +kernel
theorem dX6_run_151 : decode cX6_run 151 = .ok (.sipush 1023, 3) := by decide +kernel
theorem dX6_run_154 : decode cX6_run 154 = .ok (.iand, 1) := by decide +kernel
theorem dX6_run_155 : decode cX6_run 155 = .ok (.iload 4, 2) := by decide +kernel
theorem dX6_run_157 : decode cX6_run 157 = .ok (.bipush 14, 2) := by decide +kernel
theorem dX6_run_159 : decode cX6_run 159 = .ok (.ishr, 1) := by decide +kernel
theorem dX6_run_160 : decode cX6_run 160 = .ok (.invokevirtual 309, 3) := by decide +kernel
theorem dX6_run_163 : decode cX6_run 163 = .ok (.iinc 3 1, 3) := by decide +kernel
theorem dX6_run_166 : decode cX6_run 166 = .ok (.goto (-67), 3) := by decide +kernel
theorem dX6_run_169 : decode cX6_run 169 = .ok (.aload_n 0, 1) := by decide +kernel
theorem dX6_run_170 : decode cX6_run 170 = .ok (.getfield 236, 3) := by decide +kernel
theorem dX6_run_173 : decode cX6_run 173 = .ok (.ireturn, 1) := by decide +kernel
theorem dX6_prints_0 : decode cX6_prints 0 = .ok (.aload_n 0, 1) := by decide +kernel
theorem dX6_prints_1 : decode cX6_prints 1 = .ok (.getfield 298, 3) := by decide +kernel
theorem dX6_prints_4 : decode cX6_prints 4 = .ok (.ireturn, 1) := by decide +kernel
theorem dX6_printed_0 : decode cX6_printed 0 = .ok (.iload_n 1, 1) := by decide +kernel
theorem dX6_printed_1 : decode cX6_printed 1 = .ok (.iconst 0, 1) := by decide +kernel
theorem dX6_printed_2 : decode cX6_printed 2 = .ok (.aload_n 0, 1) := by decide +kernel
theorem dX6_printed_3 : decode cX6_printed 3 = .ok (.getfield 298, 3) := by decide +kernel
theorem dX6_printed_6 : decode cX6_printed 6 = .ok (.iconst 1, 1) := by decide +kernel
theorem dX6_printed_7 : decode cX6_printed 7 = .ok (.isub, 1) := by decide +kernel
theorem dX6_printed_8 : decode cX6_printed 8 = .ok (.invokestatic 111, 3) := by decide +kernel
theorem dX6_printed_11 : decode cX6_printed 11 = .ok (.ifCond .eq 13, 3) := by decide +kernel
theorem dX6_printed_14 : decode cX6_printed 14 = .ok (.aload_n 0, 1) := by decide +kernel
theorem dX6_printed_15 : decode cX6_printed 15 = .ok (.getfield 97, 3) := by decide +kernel
theorem dX6_printed_18 : decode cX6_printed 18 = .ok (.iload_n 1, 1) := by decide +kernel
theorem dX6_printed_19 : decode cX6_printed 19 = .ok (.iaload, 1) := by decide +kernel
theorem dX6_printed_20 : decode cX6_printed 20 = .ok (.i2l, 1) := by decide +kernel
theorem dX6_printed_21 : decode cX6_printed 21 = .ok (.goto 6, 3) := by decide +kernel
theorem dX6_printed_24 : decode cX6_printed 24 = .ok (.ldc2_w 312, 3) := by decide +kernel
theorem dX6_printed_27 : decode cX6_printed 27 = .ok (.lreturn, 1) := by decide +kernel
theorem dX6_cost_0 : decode cX6_cost 0 = .ok (.aload_n 0, 1) := by decide +kernel
theorem dX6_cost_1 : decode cX6_cost 1 = .ok (.getfield 230, 3) := by decide +kernel
theorem dX6_cost_4 : decode cX6_cost 4 = .ok (.ireturn, 1) := by decide +kernel
theorem dX6_deepest_0 : decode cX6_deepest 0 = .ok (.aload_n 0, 1) := by decide +kernel
theorem dX6_deepest_1 : decode cX6_deepest 1 = .ok (.getfield 266, 3) := by decide +kernel
theorem dX6_deepest_4 : decode cX6_deepest 4 = .ok (.ireturn, 1) := by decide +kernel
theorem dX6_calls_0 : decode cX6_calls 0 = .ok (.aload_n 0, 1) := by decide +kernel
theorem dX6_calls_1 : decode cX6_calls 1 = .ok (.getfield 263, 3) := by decide +kernel
theorem dX6_calls_4 : decode cX6_calls 4 = .ok (.ireturn, 1) := by decide +kernel
theorem dX6_about_0 : decode cX6_about 0 = .ok (.aload_n 0, 1) := by decide +kernel
