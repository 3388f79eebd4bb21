theorem dX6_operand_172 : decode cX6_operand 172 = .ok (.iastore, 1) := by decide +kernel
theorem dX6_operand_173 : decode cX6_operand 173 = .ok (.iload 4, 2) := by decide +kernel
theorem dX6_operand_175 : decode cX6_operand 175 = .ok (.bipush 10, 2) := by decide +kernel
theorem dX6_operand_177 : decode cX6_operand 177 = .ok (.if_icmp .ne 11, 3) := by decide +kernel
theorem dX6_operand_180 : decode cX6_operand 180 = .ok (.aload_n 0, 1) := by decide +kernel
theorem dX6_operand_181 : decode cX6_operand 181 = .ok (.getfield 46, 3) := by decide +kernel
theorem dX6_operand_184 : decode cX6_operand 184 = .ok (.iload_n 1, 1) := by decide +kernel
theorem dX6_operand_185 : decode cX6_operand 185 = .ok (.bipush 32, 2) := by decide +kernel
theorem dX6_operand_187 : decode cX6_operand 187 = .ok (.iastore, 1) := by decide +kernel
theorem dX6_operand_188 : decode cX6_operand 188 = .ok (.aload_n 0, 1) := by decide +kernel
theorem dX6_operand_189 : decode cX6_operand 189 = .ok (.iload 5, 2) := by decide +kernel
theorem dX6_operand_191 : decode cX6_operand 191 = .ok (.aload_n 0, 1) := by decide +kernel
theorem dX6_operand_192 : decode cX6_operand 192 = .ok (.getfield 52, 3) := by decide +kernel
theorem dX6_operand_195 : decode cX6_operand 195 = .ok (.iload_n 1, 1) := by decide +kernel
theorem dX6_operand_196 : decode cX6_operand 196 = .ok (.iaload, 1) := by decide +kernel
theorem dX6_operand_197 : decode cX6_operand 197 = .ok (.invokevirtual 166, 3) := by decide +kernel
theorem dX6_operand_200 : decode cX6_operand 200 = .ok (.return_, 1) := by decide +kernel
theorem dX6_factor_0 : decode cX6_factor 0 = .ok (.aload_n 0, 1) := by decide +kernel
theorem dX6_factor_1 : decode cX6_factor 1 = .ok (.invokevirtual 107, 3) := by decide +kernel
theorem dX6_factor_4 : decode cX6_factor 4 = .ok (.istore_n 2, 1) := by decide +kernel
theorem dX6_factor_5 : decode cX6_factor 5 = .ok (.aload_n 0, 1) := by decide +kernel
theorem dX6_factor_6 : decode cX6_factor 6 = .ok (.getfield 52, 3) := by decide +kernel
theorem dX6_factor_9 : decode cX6_factor 9 = .ok (.iload_n 1, 1) := by decide +kernel
theorem dX6_factor_10 : decode cX6_factor 10 = .ok (.iaload, 1) := by decide +kernel
theorem dX6_factor_11 : decode cX6_factor 11 = .ok (.iconst 1, 1) := by decide +kernel
theorem dX6_factor_12 : decode cX6_factor 12 = .ok (.iadd, 1) := by decide +kernel
theorem dX6_factor_13 : decode cX6_factor 13 = .ok (.istore_n 3, 1) := by decide +kernel
theorem dX6_factor_14 : decode cX6_factor 14 = .ok (.aload_n 0, 1) := by decide +kernel
theorem dX6_factor_15 : decode cX6_factor 15 = .ok (.dup, 1) := by decide +kernel
theorem dX6_factor_16 : decode cX6_factor 16 = .ok (.getfield 104, 3) := by decide +kernel
theorem dX6_factor_19 : decode cX6_factor 19 = .ok (.iconst 1, 1) := by decide +kernel
theorem dX6_factor_20 : decode cX6_factor 20 = .ok (.iadd, 1) := by decide +kernel
theorem dX6_factor_21 : decode cX6_factor 21 = .ok (.putfield 104, 3) := by decide +kernel
theorem dX6_factor_24 : decode cX6_factor 24 = .ok (.iload_n 2, 1) := by decide +kernel
theorem dX6_factor_25 : decode cX6_factor 25 = .ok (.bipush 48, 2) := by decide +kernel
theorem dX6_factor_27 : decode cX6_factor 27 = .ok (.bipush 57, 2) := by decide +kernel
theorem dX6_factor_29 : decode cX6_factor 29 = .ok (.invokestatic 111, 3) := by decide +kernel
theorem dX6_factor_32 : decode cX6_factor 32 = .ok (.ifCond .eq 134, 3) := by decide +kernel
theorem dX6_factor_35 : decode cX6_factor 35 = .ok (.iload_n 2, 1) := by decide +kernel
theorem dX6_factor_36 : decode cX6_factor 36 = .ok (.bipush 48, 2) := by decide +kernel
theorem dX6_factor_38 : decode cX6_factor 38 = .ok (.isub, 1) := by decide +kernel
theorem dX6_factor_39 : decode cX6_factor 39 = .ok (.istore 4, 2) := by decide +kernel
theorem dX6_factor_41 : decode cX6_factor 41 = .ok (.iconst 1, 1) := by decide +kernel
theorem dX6_factor_42 : decode cX6_factor 42 = .ok (.istore 5, 2) := by decide +kernel
theorem dX6_factor_44 : decode cX6_factor 44 = .ok (.aload_n 0, 1) := by decide +kernel
theorem dX6_factor_45 : decode cX6_factor 45 = .ok (.getfield 104, 3) := by decide +kernel
theorem dX6_factor_48 : decode cX6_factor 48 = .ok (.aload_n 0, 1) := by decide +kernel
theorem dX6_factor_49 : decode cX6_factor 49 = .ok (.getfield 100, 3) := by decide +kernel
theorem dX6_factor_52 : decode cX6_factor 52 = .ok (.if_icmp .ge 72, 3) := by decide +kernel
theorem dX6_factor_55 : decode cX6_factor 55 = .ok (.aload_n 0, 1) := by decide +kernel
theorem dX6_factor_56 : decode cX6_factor 56 = .ok (.getfield 7, 3) := by decide +kernel
theorem dX6_factor_59 : decode cX6_factor 59 = .ok (.aload_n 0, 1) := by decide +kernel
theorem dX6_factor_60 : decode cX6_factor 60 = .ok (.getfield 104, 3) := by decide +kernel
theorem dX6_factor_63 : decode cX6_factor 63 = .ok (.iaload, 1) := by decide +kernel
theorem dX6_factor_64 : decode cX6_factor 64 = .ok (.bipush 48, 2) := by decide +kernel
theorem dX6_factor_66 : decode cX6_factor 66 = .ok (.bipush 57, 2) := by decide +kernel
theorem dX6_factor_68 : decode cX6_factor 68 = .ok (.invokestatic 111, 3) := by decide +kernel
theorem dX6_factor_71 : decode cX6_factor 71 = .ok (.ifCond .eq 53, 3) := by decide +kernel
theorem dX6_factor_74 : decode cX6_factor 74 = .ok (.iload 5, 2) := by decide +kernel
theorem dX6_factor_76 : decode cX6_factor 76 = .ok (.bipush 10, 2) := by decide +kernel
theorem dX6_factor_78 : decode cX6_factor 78 = .ok (.if_icmp .ge 46, 3) := by decide +kernel
theorem dX6_factor_81 : decode cX6_factor 81 = .ok (.iload 5, 2) := by decide +kernel
theorem dX6_factor_83 : decode cX6_factor 83 = .ok (.bipush 9, 2) := by decide +kernel
theorem dX6_factor_85 : decode cX6_factor 85 = .ok (.if_icmp .ge 23, 3) := by decide +kernel
theorem dX6_factor_88 : decode cX6_factor 88 = .ok (.bipush 10, 2) := by decide +kernel
theorem dX6_factor_90 : decode cX6_factor 90 = .ok (.iload 4, 2) := by decide +kernel
theorem dX6_factor_92 : decode cX6_factor 92 = .ok (.imul, 1) := by decide +kernel
theorem dX6_factor_93 : decode cX6_factor 93 = .ok (.aload_n 0, 1) := by decide +kernel
theorem dX6_factor_94 : decode cX6_factor 94 = .ok (.getfield 7, 3) := by decide +kernel
theorem dX6_factor_97 : decode cX6_factor 97 = .ok (.aload_n 0, 1) := by decide +kernel
theorem dX6_factor_98 : decode cX6_factor 98 = .ok (.getfield 104, 3) := by decide +kernel
theorem dX6_factor_101 : decode cX6_factor 101 = .ok (.iaload, 1) := by decide +kernel
theorem dX6_factor_102 : decode cX6_factor 102 = .ok (.iadd, 1) := by decide +kernel
theorem dX6_factor_103 : decode cX6_factor 103 = .ok (.bipush 48, 2) := by decide +kernel
theorem dX6_factor_105 : decode cX6_factor 105 = .ok (.isub, 1) := by decide +kernel
theorem dX6_factor_106 : decode cX6_factor 106 = .ok (.istore 4, 2) := by decide +kernel
theorem dX6_factor_108 : decode cX6_factor 108 = .ok (.iinc 5 1, 3) := by decide +kernel
theorem dX6_factor_111 : decode cX6_factor 111 = .ok (.aload_n 0, 1) := by decide +kernel
theorem dX6_factor_112 : decode cX6_factor 112 = .ok (.dup, 1) := by decide +kernel
theorem dX6_factor_113 : decode cX6_factor 113 = .ok (.getfield 104, 3) := by decide +kernel
theorem dX6_factor_116 : decode cX6_factor 116 = .ok (.iconst 1, 1) := by decide +kernel
theorem dX6_factor_117 : decode cX6_factor 117 = .ok (.iadd, 1) := by decide +kernel
theorem dX6_factor_118 : decode cX6_factor 118 = .ok (.putfield 104, 3) := by decide +kernel
theorem dX6_factor_121 : decode cX6_factor 121 = .ok (.goto (-77), 3) := by decide +kernel
theorem dX6_factor_124 : decode cX6_factor 124 = .ok (.aload_n 0, 1) := by decide +kernel
theorem dX6_factor_125 : decode cX6_factor 125 = .ok (.iload 5, 2) := by decide +kernel
theorem dX6_factor_127 : decode cX6_factor 127 = .ok (.bipush 10, 2) := by decide +kernel
theorem dX6_factor_129 : decode cX6_factor 129 = .ok (.if_icmp .ge 7, 3) := by decide +kernel
theorem dX6_factor_132 : decode cX6_factor 132 = .ok (.iconst 1, 1) := by decide +kernel
theorem dX6_factor_133 : decode cX6_factor 133 = .ok (.goto 4, 3) := by decide +kernel
theorem dX6_factor_136 : decode cX6_factor 136 = .ok (.iconst 0, 1) := by decide +kernel
theorem dX6_factor_137 : decode cX6_factor 137 = .ok (.invokevirtual 141, 3) := by decide +kernel
theorem dX6_factor_140 : decode cX6_factor 140 = .ok (.aload_n 0, 1) := by decide +kernel
theorem dX6_factor_141 : decode cX6_factor 141 = .ok (.bipush 7, 2) := by decide +kernel
theorem dX6_factor_143 : decode cX6_factor 143 = .ok (.invokevirtual 137, 3) := by decide +kernel
theorem dX6_factor_146 : decode cX6_factor 146 = .ok (.istore 6, 2) := by decide +kernel
theorem dX6_factor_148 : decode cX6_factor 148 = .ok (.aload_n 0, 1) := by decide +kernel
theorem dX6_factor_149 : decode cX6_factor 149 = .ok (.getfield 22, 3) := by decide +kernel
theorem dX6_factor_152 : decode cX6_factor 152 = .ok (.iload 6, 2) := by decide +kernel
theorem dX6_factor_154 : decode cX6_factor 154 = .ok (.iload 4, 2) := by decide +kernel
theorem dX6_factor_156 : decode cX6_factor 156 = .ok (.iastore, 1) := by decide +kernel
theorem dX6_factor_157 : decode cX6_factor 157 = .ok (.aload_n 0, 1) := by decide +kernel
theorem dX6_factor_158 : decode cX6_factor 158 = .ok (.iload 6, 2) := by decide +kernel
theorem dX6_factor_160 : decode cX6_factor 160 = .ok (.invokevirtual 177, 3) := by decide +kernel
theorem dX6_factor_163 : decode cX6_factor 163 = .ok (.goto 103, 3) := by decide +kernel
theorem dX6_factor_166 : decode cX6_factor 166 = .ok (.aload_n 0, 1) := by decide +kernel
theorem dX6_factor_167 : decode cX6_factor 167 = .ok (.iload_n 2, 1) := by decide +kernel
theorem dX6_factor_168 : decode cX6_factor 168 = .ok (.invokevirtual 155, 3) := by decide +kernel
theorem dX6_factor_171 : decode cX6_factor 171 = .ok (.ifCond .eq 54, 3) := by decide +kernel
theorem dX6_factor_174 : decode cX6_factor 174 = .ok (.aload_n 0, 1) := by decide +kernel
theorem dX6_factor_175 : decode cX6_factor 175 = .ok (.bipush 40, 2) := by decide +kernel
theorem dX6_factor_177 : decode cX6_factor 177 = .ok (.invokevirtual 159, 3) := by decide +kernel
theorem dX6_factor_180 : decode cX6_factor 180 = .ok (.ifCond .eq 27, 3) := by decide +kernel
theorem dX6_factor_183 : decode cX6_factor 183 = .ok (.aload_n 0, 1) := by decide +kernel
theorem dX6_factor_184 : decode cX6_factor 184 = .ok (.getfield 49, 3) := by decide +kernel
theorem dX6_factor_187 : decode cX6_factor 187 = .ok (.iload_n 1, 1) := by decide +kernel
theorem dX6_factor_188 : decode cX6_factor 188 = .ok (.aload_n 0, 1) := by decide +kernel
theorem dX6_factor_189 : decode cX6_factor 189 = .ok (.bipush 9, 2) := by decide +kernel
theorem dX6_factor_191 : decode cX6_factor 191 = .ok (.iload_n 2, 1) := by decide +kernel
theorem dX6_factor_192 : decode cX6_factor 192 = .ok (.invokevirtual 162, 3) := by decide +kernel
theorem dX6_factor_195 : decode cX6_factor 195 = .ok (.iastore, 1) := by decide +kernel
theorem dX6_factor_196 : decode cX6_factor 196 = .ok (.aload_n 0, 1) := by decide +kernel
theorem dX6_factor_197 : decode cX6_factor 197 = .ok (.iload_n 1, 1) := by decide +kernel
theorem dX6_factor_198 : decode cX6_factor 198 = .ok (.bipush 40, 2) := by decide +kernel
theorem dX6_factor_200 : decode cX6_factor 200 = .ok (.iload_n 3, 1) := by decide +kernel
theorem dX6_factor_201 : decode cX6_factor 201 = .ok (.invokevirtual 170, 3) := by decide +kernel
theorem dX6_factor_204 : decode cX6_factor 204 = .ok (.goto 62, 3) := by decide +kernel
theorem dX6_factor_207 : decode cX6_factor 207 = .ok (.aload_n 0, 1) := by decide +kernel
theorem dX6_factor_208 : decode cX6_factor 208 = .ok (.bipush 8, 2) := by decide +kernel
theorem dX6_factor_210 : decode cX6_factor 210 = .ok (.iload_n 2, 1) := by decide +kernel
theorem dX6_factor_211 : decode cX6_factor 211 = .ok (.invokevirtual 162, 3) := by decide +kernel
theorem dX6_factor_214 : decode cX6_factor 214 = .ok (.istore 4, 2) := by decide +kernel
theorem dX6_factor_216 : decode cX6_factor 216 = .ok (.aload_n 0, 1) := by decide +kernel
theorem dX6_factor_217 : decode cX6_factor 217 = .ok (.iload 4, 2) := by decide +kernel
theorem dX6_factor_219 : decode cX6_factor 219 = .ok (.invokevirtual 177, 3) := by decide +kernel
theorem dX6_factor_222 : decode cX6_factor 222 = .ok (.goto 44, 3) := by decide +kernel
theorem dX6_factor_225 : decode cX6_factor 225 = .ok (.iload_n 2, 1) := by decide +kernel
theorem dX6_factor_226 : decode cX6_factor 226 = .ok (.bipush 40, 2) := by decide +kernel
theorem dX6_factor_228 : decode cX6_factor 228 = .ok (.if_icmp .ne 33, 3) := by decide +kernel
theorem dX6_factor_231 : decode cX6_factor 231 = .ok (.aload_n 0, 1) := by decide +kernel
theorem dX6_factor_232 : decode cX6_factor 232 = .ok (.getfield 49, 3) := by decide +kernel
theorem dX6_factor_235 : decode cX6_factor 235 = .ok (.iload_n 1, 1) := by decide +kernel
theorem dX6_factor_236 : decode cX6_factor 236 = .ok (.aload_n 0, 1) := by decide +kernel
theorem dX6_factor_237 : decode cX6_factor 237 = .ok (.bipush 13, 2) := by decide +kernel
theorem dX6_factor_239 : decode cX6_factor 239 = .ok (.invokevirtual 137, 3) := by decide +kernel
theorem dX6_factor_242 : decode cX6_factor 242 = .ok (.iastore, 1) := by decide +kernel
theorem dX6_factor_243 : decode cX6_factor 243 = .ok (.aload_n 0, 1) := by decide +kernel
theorem dX6_factor_244 : decode cX6_factor 244 = .ok (.getfield 46, 3) := by decide +kernel
theorem dX6_factor_247 : decode cX6_factor 247 = .ok (.iload_n 1, 1) := by decide +kernel
theorem dX6_factor_248 : decode cX6_factor 248 = .ok (.bipush 41, 2) := by decide +kernel
theorem dX6_factor_250 : decode cX6_factor 250 = .ok (.iastore, 1) := by decide +kernel
theorem dX6_factor_251 : decode cX6_factor 251 = .ok (.aload_n 0, 1) := by decide +kernel
theorem dX6_factor_252 : decode cX6_factor 252 = .ok (.bipush 30, 2) := by decide +kernel
theorem dX6_factor_254 : decode cX6_factor 254 = .ok (.iload_n 3, 1) := by decide +kernel
theorem dX6_factor_255 : decode cX6_factor 255 = .ok (.invokevirtual 166, 3) := by decide +kernel
theorem dX6_factor_258 : decode cX6_factor 258 = .ok (.goto 8, 3) := by decide +kernel
theorem dX6_factor_261 : decode cX6_factor 261 = .ok (.aload_n 0, 1) := by decide +kernel
theorem dX6_factor_262 : decode cX6_factor 262 = .ok (.iconst 1, 1) := by decide +kernel
theorem dX6_factor_263 : decode cX6_factor 263 = .ok (.putfield 124, 3) := by decide +kernel
theorem dX6_factor_266 : decode cX6_factor 266 = .ok (.return_, 1) := by decide +kernel
theorem dX6_read_0 : decode cX6_read 0 = .ok (.aload_n 0, 1) := by decide +kernel
theorem dX6_read_1 : decode cX6_read 1 = .ok (.getfield 201, 3) := by decide +kernel
theorem dX6_read_4 : decode cX6_read 4 = .ok (.istore_n 1, 1) := by decide +kernel
theorem dX6_read_5 : decode cX6_read 5 = .ok (.aload_n 0, 1) := by decide +kernel
theorem dX6_read_6 : decode cX6_read 6 = .ok (.aload_n 0, 1) := by decide +kernel
theorem dX6_read_7 : decode cX6_read 7 = .ok (.getfield 211, 3) := by decide +kernel
theorem dX6_read_10 : decode cX6_read 10 = .ok (.ifCond .eq 12, 3) := by decide +kernel
theorem dX6_read_13 : decode cX6_read 13 = .ok (.iconst 1, 1) := by decide +kernel
theorem dX6_read_14 : decode cX6_read 14 = .ok (.aload_n 0, 1) := by decide +kernel
theorem dX6_read_15 : decode cX6_read 15 = .ok (.getfield 201, 3) := by decide +kernel
theorem dX6_read_18 : decode cX6_read 18 = .ok (.isub, 1) := by decide +kernel
theorem dX6_read_19 : decode cX6_read 19 = .ok (.goto 7, 3) := by decide +kernel
theorem dX6_read_22 : decode cX6_read 22 = .ok (.aload_n 0, 1) := by decide +kernel
theorem dX6_read_23 : decode cX6_read 23 = .ok (.getfield 201, 3) := by decide +kernel
theorem dX6_read_26 : decode cX6_read 26 = .ok (.putfield 201, 3) := by decide +kernel
theorem dX6_read_29 : decode cX6_read 29 = .ok (.aload_n 0, 1) := by decide +kernel
theorem dX6_read_30 : decode cX6_read 30 = .ok (.sipush 350, 3) := by decide +kernel
theorem dX6_read_33 : decode cX6_read 33 = .ok (.aload_n 0, 1) := by decide +kernel
theorem dX6_read_34 : decode cX6_read 34 = .ok (.getfield 201, 3) := by decide +kernel
theorem dX6_read_37 : decode cX6_read 37 = .ok (.imul, 1) := by decide +kernel
theorem dX6_read_38 : decode cX6_read 38 = .ok (.putfield 118, 3) := by decide +kernel
theorem dX6_read_41 : decode cX6_read 41 = .ok (.aload_n 0, 1) := by decide +kernel
theorem dX6_read_42 : decode cX6_read 42 = .ok (.iconst 0, 1) := by decide +kernel
theorem dX6_read_43 : decode cX6_read 43 = .ok (.putfield 104, 3) := by decide +kernel
theorem dX6_read_46 : decode cX6_read 46 = .ok (.aload_n 0, 1) := by decide +kernel
theorem dX6_read_47 : decode cX6_read 47 = .ok (.iconst 0, 1) := by decide +kernel
theorem dX6_read_48 : decode cX6_read 48 = .ok (.putfield 115, 3) := by decide +kernel
theorem dX6_read_51 : decode cX6_read 51 = .ok (.aload_n 0, 1) := by decide +kernel
theorem dX6_read_52 : decode cX6_read 52 = .ok (.iconst 0, 1) := by decide +kernel
theorem dX6_read_53 : decode cX6_read 53 = .ok (.putfield 128, 3) := by decide +kernel
theorem dX6_read_56 : decode cX6_read 56 = .ok (.aload_n 0, 1) := by decide +kernel
theorem dX6_read_57 : decode cX6_read 57 = .ok (.iconst 0, 1) := by decide +kernel
theorem dX6_read_58 : decode cX6_read 58 = .ok (.putfield 131, 3) := by decide +kernel
theorem dX6_read_61 : decode cX6_read 61 = .ok (.aload_n 0, 1) := by decide +kernel
theorem dX6_read_62 : decode cX6_read 62 = .ok (.iconst 0, 1) := by decide +kernel
theorem dX6_read_63 : decode cX6_read 63 = .ok (.putfield 124, 3) := by decide +kernel
theorem dX6_read_66 : decode cX6_read 66 = .ok (.aload_n 0, 1) := by decide +kernel
theorem dX6_read_67 : decode cX6_read 67 = .ok (.iconst 0, 1) := by decide +kernel
theorem dX6_read_68 : decode cX6_read 68 = .ok (.putfield 134, 3) := by decide +kernel
theorem dX6_read_71 : decode cX6_read 71 = .ok (.aload_n 0, 1) := by decide +kernel
theorem dX6_read_72 : decode cX6_read 72 = .ok (.iconst 0, 1) := by decide +kernel
theorem dX6_read_73 : decode cX6_read 73 = .ok (.putfield 198, 3) := by decide +kernel
theorem dX6_read_76 : decode cX6_read 76 = .ok (.aload_n 0, 1) := by decide +kernel
theorem dX6_read_77 : decode cX6_read 77 = .ok (.iconst 0, 1) := by decide +kernel
theorem dX6_read_78 : decode cX6_read 78 = .ok (.putfield 189, 3) := by decide +kernel
theorem dX6_read_81 : decode cX6_read 81 = .ok (.aload_n 0, 1) := by decide +kernel
theorem dX6_read_82 : decode cX6_read 82 = .ok (.iconst 0, 1) := by decide +kernel
theorem dX6_read_83 : decode cX6_read 83 = .ok (.putfield 152, 3) := by decide +kernel
theorem dX6_read_86 : decode cX6_read 86 = .ok (.aload_n 0, 1) := by decide +kernel
theorem dX6_read_87 : decode cX6_read 87 = .ok (.iconst 0, 1) := by decide +kernel
theorem dX6_read_88 : decode cX6_read 88 = .ok (.putfield 145, 3) := by decide +kernel
theorem dX6_read_91 : decode cX6_read 91 = .ok (.aload_n 0, 1) := by decide +kernel
theorem dX6_read_92 : decode cX6_read 92 = .ok (.bipush 10, 2) := by decide +kernel
theorem dX6_read_94 : decode cX6_read 94 = .ok (.iconst 1, 1) := by decide +kernel
theorem dX6_read_95 : decode cX6_read 95 = .ok (.invokevirtual 166, 3) := by decide +kernel
theorem dX6_read_98 : decode cX6_read 98 = .ok (.iconst 0, 1) := by decide +kernel
theorem dX6_read_99 : decode cX6_read 99 = .ok (.istore_n 2, 1) := by decide +kernel
theorem dX6_read_100 : decode cX6_read 100 = .ok (.iload_n 2, 1) := by decide +kernel
theorem dX6_read_101 : decode cX6_read 101 = .ok (.ldc 214, 2) := by decide +kernel
theorem dX6_read_103 : decode cX6_read 103 = .ok (.if_icmp .ge 80, 3) := by decide +kernel
theorem dX6_read_106 : decode cX6_read 106 = .ok (.aload_n 0, 1) := by decide +kernel
theorem dX6_read_107 : decode cX6_read 107 = .ok (.getfield 115, 3) := by decide +kernel
theorem dX6_read_110 : decode cX6_read 110 = .ok (.ifCond .le 73, 3) := by decide +kernel
theorem dX6_read_113 : decode cX6_read 113 = .ok (.aload_n 0, 1) := by decide +kernel
theorem dX6_read_114 : decode cX6_read 114 = .ok (.getfield 124, 3) := by decide +kernel
theorem dX6_read_117 : decode cX6_read 117 = .ok (.ifCond .ne 66, 3) := by decide +kernel
theorem dX6_read_120 : decode cX6_read 120 = .ok (.aload_n 0, 1) := by decide +kernel
theorem dX6_read_121 : decode cX6_read 121 = .ok (.getfield 115, 3) := by decide +kernel
theorem dX6_read_124 : decode cX6_read 124 = .ok (.iconst 1, 1) := by decide +kernel
theorem dX6_read_125 : decode cX6_read 125 = .ok (.isub, 1) := by decide +kernel
theorem dX6_read_126 : decode cX6_read 126 = .ok (.istore_n 3, 1) := by decide +kernel
theorem dX6_read_127 : decode cX6_read 127 = .ok (.aload_n 0, 1) := by decide +kernel
theorem dX6_read_128 : decode cX6_read 128 = .ok (.getfield 46, 3) := by decide +kernel
theorem dX6_read_131 : decode cX6_read 131 = .ok (.iload_n 3, 1) := by decide +kernel
theorem dX6_read_132 : decode cX6_read 132 = .ok (.iaload, 1) := by decide +kernel
theorem dX6_read_133 : decode cX6_read 133 = .ok (.istore 4, 2) := by decide +kernel
theorem dX6_read_135 : decode cX6_read 135 = .ok (.iload 4, 2) := by decide +kernel
theorem dX6_read_137 : decode cX6_read 137 = .ok (.bipush 10, 2) := by decide +kernel
theorem dX6_read_139 : decode cX6_read 139 = .ok (.if_icmp .ne 11, 3) := by decide +kernel
theorem dX6_read_142 : decode cX6_read 142 = .ok (.aload_n 0, 1) := by decide +kernel
theorem dX6_read_143 : decode cX6_read 143 = .ok (.iload_n 3, 1) := by decide +kernel
theorem dX6_read_144 : decode cX6_read 144 = .ok (.invokevirtual 215, 3) := by decide +kernel
theorem dX6_read_147 : decode cX6_read 147 = .ok (.goto 30, 3) := by decide +kernel
theorem dX6_read_150 : decode cX6_read 150 = .ok (.iload 4, 2) := by decide +kernel
theorem dX6_read_152 : decode cX6_read 152 = .ok (.bipush 30, 2) := by decide +kernel
theorem dX6_read_154 : decode cX6_read 154 = .ok (.if_icmp .lt 18, 3) := by decide +kernel
theorem dX6_read_157 : decode cX6_read 157 = .ok (.iload 4, 2) := by decide +kernel
theorem dX6_read_159 : decode cX6_read 159 = .ok (.bipush 40, 2) := by decide +kernel
theorem dX6_read_161 : decode cX6_read 161 = .ok (.if_icmp .eq 11, 3) := by decide +kernel
theorem dX6_read_164 : decode cX6_read 164 = .ok (.aload_n 0, 1) := by decide +kernel
theorem dX6_read_165 : decode cX6_read 165 = .ok (.iload_n 3, 1) := by decide +kernel
theorem dX6_read_166 : decode cX6_read 166 = .ok (.invokevirtual 218, 3) := by decide +kernel
theorem dX6_read_169 : decode cX6_read 169 = .ok (.goto 8, 3) := by decide +kernel
theorem dX6_read_172 : decode cX6_read 172 = .ok (.aload_n 0, 1) := by decide +kernel
theorem dX6_read_173 : decode cX6_read 173 = .ok (.iload_n 3, 1) := by decide +kernel
theorem dX6_read_174 : decode cX6_read 174 = .ok (.invokevirtual 221, 3) := by decide +kernel
theorem dX6_read_177 : decode cX6_read 177 = .ok (.iinc 2 1, 3) := by decide +kernel
theorem dX6_read_180 : decode cX6_read 180 = .ok (.goto (-80), 3) := by decide +kernel
theorem dX6_read_183 : decode cX6_read 183 = .ok (.aload_n 0, 1) := by decide +kernel
theorem dX6_read_184 : decode cX6_read 184 = .ok (.getfield 124, 3) := by decide +kernel
theorem dX6_read_187 : decode cX6_read 187 = .ok (.ifCond .ne 18, 3) := by decide +kernel
theorem dX6_read_190 : decode cX6_read 190 = .ok (.aload_n 0, 1) := by decide +kernel
theorem dX6_read_191 : decode cX6_read 191 = .ok (.invokevirtual 107, 3) := by decide +kernel
theorem dX6_read_194 : decode cX6_read 194 = .ok (.iconst (-1), 1) := by decide +kernel
theorem dX6_read_195 : decode cX6_read 195 = .ok (.if_icmp .ne 10, 3) := by decide +kernel
theorem dX6_read_198 : decode cX6_read 198 = .ok (.aload_n 0, 1) := by decide +kernel
theorem dX6_read_199 : decode cX6_read 199 = .ok (.getfield 134, 3) := by decide +kernel
theorem dX6_read_202 : decode cX6_read 202 = .ok (.ifCond .eq 30, 3) := by decide +kernel
theorem dX6_read_205 : decode cX6_read 205 = .ok (.aload_n 0, 1) := by decide +kernel
theorem dX6_read_206 : decode cX6_read 206 = .ok (.iload_n 1, 1) := by decide +kernel
theorem dX6_read_207 : decode cX6_read 207 = .ok (.putfield 201, 3) := by decide +kernel
theorem dX6_read_210 : decode cX6_read 210 = .ok (.aload_n 0, 1) := by decide +kernel
theorem dX6_read_211 : decode cX6_read 211 = .ok (.getfield 124, 3) := by decide +kernel
theorem dX6_read_214 : decode cX6_read 214 = .ok (.ifCond .ne 11, 3) := by decide +kernel
theorem dX6_read_217 : decode cX6_read 217 = .ok (.aload_n 0, 1) := by decide +kernel
theorem dX6_read_218 : decode cX6_read 218 = .ok (.invokevirtual 107, 3) := by decide +kernel
theorem dX6_read_221 : decode cX6_read 221 = .ok (.iconst (-1), 1) := by decide +kernel
theorem dX6_read_222 : decode cX6_read 222 = .ok (.if_icmp .eq 7, 3) := by decide +kernel
theorem dX6_read_225 : decode cX6_read 225 = .ok (.iconst (-1), 1) := by decide +kernel
theorem dX6_read_226 : decode cX6_read 226 = .ok (.goto 5, 3) := by decide +kernel
theorem dX6_read_229 : decode cX6_read 229 = .ok (.bipush (-2), 2) := by decide +kernel
theorem dX6_read_231 : decode cX6_read 231 = .ok (.ireturn, 1) := by decide +kernel
theorem dX6_read_232 : decode cX6_read 232 = .ok (.aload_n 0, 1) := by decide +kernel
theorem dX6_read_233 : decode cX6_read 233 = .ok (.iconst 1, 1) := by decide +kernel
theorem dX6_read_234 : decode cX6_read 234 = .ok (.putfield 211, 3) := by decide +kernel
theorem dX6_read_237 : decode cX6_read 237 = .ok (.aload_n 0, 1) := by decide +kernel
theorem dX6_read_238 : decode cX6_read 238 = .ok (.aload_n 0, 1) := by decide +kernel
theorem dX6_read_239 : decode cX6_read 239 = .ok (.getfield 121, 3) := by decide +kernel
theorem dX6_read_242 : decode cX6_read 242 = .ok (.putfield 224, 3) := by decide +kernel
theorem dX6_read_245 : decode cX6_read 245 = .ok (.aload_n 0, 1) := by decide +kernel
theorem dX6_read_246 : decode cX6_read 246 = .ok (.getfield 43, 3) := by decide +kernel
theorem dX6_read_249 : decode cX6_read 249 = .ok (.iconst 0, 1) := by decide +kernel
theorem dX6_read_250 : decode cX6_read 250 = .ok (.aload_n 0, 1) := by decide +kernel
theorem dX6_read_251 : decode cX6_read 251 = .ok (.getfield 198, 3) := by decide +kernel
theorem dX6_read_254 : decode cX6_read 254 = .ok (.iastore, 1) := by decide +kernel
theorem dX6_read_255 : decode cX6_read 255 = .ok (.aload_n 0, 1) := by decide +kernel
theorem dX6_read_256 : decode cX6_read 256 = .ok (.getfield 43, 3) := by decide +kernel
theorem dX6_read_259 : decode cX6_read 259 = .ok (.iconst 1, 1) := by decide +kernel
theorem dX6_read_260 : decode cX6_read 260 = .ok (.aload_n 0, 1) := by decide +kernel
theorem dX6_read_261 : decode cX6_read 261 = .ok (.getfield 189, 3) := by decide +kernel
theorem dX6_read_264 : decode cX6_read 264 = .ok (.iastore, 1) := by decide +kernel
theorem dX6_read_265 : decode cX6_read 265 = .ok (.aload_n 0, 1) := by decide +kernel
theorem dX6_read_266 : decode cX6_read 266 = .ok (.getfield 43, 3) := by decide +kernel
theorem dX6_read_269 : decode cX6_read 269 = .ok (.iconst 2, 1) := by decide +kernel
theorem dX6_read_270 : decode cX6_read 270 = .ok (.aload_n 0, 1) := by decide +kernel
theorem dX6_read_271 : decode cX6_read 271 = .ok (.getfield 152, 3) := by decide +kernel
theorem dX6_read_274 : decode cX6_read 274 = .ok (.iastore, 1) := by decide +kernel
theorem dX6_read_275 : decode cX6_read 275 = .ok (.aload_n 0, 1) := by decide +kernel
theorem dX6_read_276 : decode cX6_read 276 = .ok (.getfield 43, 3) := by decide +kernel
theorem dX6_read_279 : decode cX6_read 279 = .ok (.iconst 3, 1) := by decide +kernel
theorem dX6_read_280 : decode cX6_read 280 = .ok (.aload_n 0, 1) := by decide +kernel
theorem dX6_read_281 : decode cX6_read 281 = .ok (.getfield 145, 3) := by decide +kernel
theorem dX6_read_284 : decode cX6_read 284 = .ok (.iastore, 1) := by decide +kernel
theorem dX6_read_285 : decode cX6_read 285 = .ok (.iconst 0, 1) := by decide +kernel
theorem dX6_read_286 : decode cX6_read 286 = .ok (.ireturn, 1) := by decide +kernel
theorem dX6_later_0 : decode cX6_later 0 = .ok (.aload_n 0, 1) := by decide +kernel
theorem dX6_later_1 : decode cX6_later 1 = .ok (.getfield 73, 3) := by decide +kernel
theorem dX6_later_4 : decode cX6_later 4 = .ok (.aload_n 0, 1) := by decide +kernel
theorem dX6_later_5 : decode cX6_later 5 = .ok (.getfield 227, 3) := by decide +kernel
theorem dX6_later_8 : decode cX6_later 8 = .ok (.iload_n 1, 1) := by decide +kernel
theorem dX6_later_9 : decode cX6_later 9 = .ok (.bipush 16, 2) := by decide +kernel
theorem dX6_later_11 : decode cX6_later 11 = .ok (.iload_n 2, 1) := by decide +kernel
theorem dX6_later_12 : decode cX6_later 12 = .ok (.imul, 1) := by decide +kernel
theorem dX6_later_13 : decode cX6_later 13 = .ok (.iadd, 1) := by decide +kernel
theorem dX6_later_14 : decode cX6_later 14 = .ok (.sipush 16384, 3) := by decide +kernel
theorem dX6_later_17 : decode cX6_later 17 = .ok (.iload_n 3, 1) := by decide +kernel
theorem dX6_later_18 : decode cX6_later 18 = .ok (.imul, 1) := by decide +kernel
theorem dX6_later_19 : decode cX6_later 19 = .ok (.iadd, 1) := by decide +kernel
theorem dX6_later_20 : decode cX6_later 20 = .ok (.iastore, 1) := by decide +kernel
theorem dX6_later_21 : decode cX6_later 21 = .ok (.aload_n 0, 1) := by decide +kernel
theorem dX6_later_22 : decode cX6_later 22 = .ok (.dup, 1) := by decide +kernel
theorem dX6_later_23 : decode cX6_later 23 = .ok (.getfield 227, 3) := by decide +kernel
theorem dX6_later_26 : decode cX6_later 26 = .ok (.iconst 1, 1) := by decide +kernel
theorem dX6_later_27 : decode cX6_later 27 = .ok (.iadd, 1) := by decide +kernel
theorem dX6_later_28 : decode cX6_later 28 = .ok (.putfield 227, 3) := by decide +kernel
theorem dX6_later_31 : decode cX6_later 31 = .ok (.return_, 1) := by decide +kernel
theorem dX6_pay_0 : decode cX6_pay 0 = .ok (.aload_n 0, 1) := by decide +kernel
theorem dX6_pay_1 : decode cX6_pay 1 = .ok (.getfield 230, 3) := by decide +kernel
theorem dX6_pay_4 : decode cX6_pay 4 = .ok (.aload_n 0, 1) := by decide +kernel
theorem dX6_pay_5 : decode cX6_pay 5 = .ok (.getfield 233, 3) := by decide +kernel
theorem dX6_pay_8 : decode cX6_pay 8 = .ok (.if_icmp .ne 10, 3) := by decide +kernel
theorem dX6_pay_11 : decode cX6_pay 11 = .ok (.aload_n 0, 1) := by decide +kernel
theorem dX6_pay_12 : decode cX6_pay 12 = .ok (.iconst 1, 1) := by decide +kernel
theorem dX6_pay_13 : decode cX6_pay 13 = .ok (.putfield 236, 3) := by decide +kernel
theorem dX6_pay_16 : decode cX6_pay 16 = .ok (.iconst 0, 1) := by decide +kernel
theorem dX6_pay_17 : decode cX6_pay 17 = .ok (.ireturn, 1) := by decide +kernel
theorem dX6_pay_18 : decode cX6_pay 18 = .ok (.aload_n 0, 1) := by decide +kernel
theorem dX6_pay_19 : decode cX6_pay 19 = .ok (.dup, 1) := by decide +kernel
theorem dX6_pay_20 : decode cX6_pay 20 = .ok (.getfield 230, 3) := by decide +kernel
theorem dX6_pay_23 : decode cX6_pay 23 = .ok (.iconst 1, 1) := by decide +kernel
theorem dX6_pay_24 : decode cX6_pay 24 = .ok (.iadd, 1) := by decide +kernel
theorem dX6_pay_25 : decode cX6_pay 25 = .ok (.putfield 230, 3) := by decide +kernel
theorem dX6_pay_28 : decode cX6_pay 28 = .ok (.iconst 1, 1) := by decide +kernel
theorem dX6_pay_29 : decode cX6_pay 29 = .ok (.ireturn, 1) := by decide +kernel
theorem dX6_frame_0 : decode cX6_frame 0 = .ok (.aload_n 0, 1) := by decide +kernel
theorem dX6_frame_1 : decode cX6_frame 1 = .ok (.getfield 76, 3) := by decide +kernel
theorem dX6_frame_4 : decode cX6_frame 4 = .ok (.aload_n 0, 1) := by decide +kernel
theorem dX6_frame_5 : decode cX6_frame 5 = .ok (.getfield 239, 3) := by decide +kernel
theorem dX6_frame_8 : decode cX6_frame 8 = .ok (.iload_n 1, 1) := by decide +kernel
theorem dX6_frame_9 : decode cX6_frame 9 = .ok (.iastore, 1) := by decide +kernel
theorem dX6_frame_10 : decode cX6_frame 10 = .ok (.aload_n 0, 1) := by decide +kernel
theorem dX6_frame_11 : decode cX6_frame 11 = .ok (.getfield 79, 3) := by decide +kernel
theorem dX6_frame_14 : decode cX6_frame 14 = .ok (.aload_n 0, 1) := by decide +kernel
theorem dX6_frame_15 : decode cX6_frame 15 = .ok (.getfield 239, 3) := by decide +kernel
theorem dX6_frame_18 : decode cX6_frame 18 = .ok (.iload_n 2, 1) := by decide +kernel
theorem dX6_frame_19 : decode cX6_frame 19 = .ok (.iastore, 1) := by decide +kernel
theorem dX6_frame_20 : decode cX6_frame 20 = .ok (.aload_n 0, 1) := by decide +kernel
theorem dX6_frame_21 : decode cX6_frame 21 = .ok (.getfield 82, 3) := by decide +kernel
theorem dX6_frame_24 : decode cX6_frame 24 = .ok (.aload_n 0, 1) := by decide +kernel
theorem dX6_frame_25 : decode cX6_frame 25 = .ok (.getfield 239, 3) := by decide +kernel
theorem dX6_frame_28 : decode cX6_frame 28 = .ok (.aload_n 0, 1) := by decide +kernel
theorem dX6_frame_29 : decode cX6_frame 29 = .ok (.getfield 242, 3) := by decide +kernel
theorem dX6_frame_32 : decode cX6_frame 32 = .ok (.iastore, 1) := by decide +kernel
theorem dX6_frame_33 : decode cX6_frame 33 = .ok (.aload_n 0, 1) := by decide +kernel
theorem dX6_frame_34 : decode cX6_frame 34 = .ok (.getfield 85, 3) := by decide +kernel
theorem dX6_frame_37 : decode cX6_frame 37 = .ok (.aload_n 0, 1) := by decide +kernel
theorem dX6_frame_38 : decode cX6_frame 38 = .ok (.getfield 239, 3) := by decide +kernel
theorem dX6_frame_41 : decode cX6_frame 41 = .ok (.iload 4, 2) := by decide +kernel
theorem dX6_frame_43 : decode cX6_frame 43 = .ok (.iastore, 1) := by decide +kernel
theorem dX6_frame_44 : decode cX6_frame 44 = .ok (.iconst 0, 1) := by decide +kernel
theorem dX6_frame_45 : decode cX6_frame 45 = .ok (.istore 5, 2) := by decide +kernel
theorem dX6_frame_47 : decode cX6_frame 47 = .ok (.iload 5, 2) := by decide +kernel
theorem dX6_frame_49 : decode cX6_frame 49 = .ok (.iload_n 3, 1) := by decide +kernel
theorem dX6_frame_50 : decode cX6_frame 50 = .ok (.if_icmp .ge 22, 3) := by decide +kernel
theorem dX6_frame_53 : decode cX6_frame 53 = .ok (.aload_n 0, 1) := by decide +kernel
theorem dX6_frame_54 : decode cX6_frame 54 = .ok (.getfield 88, 3) := by decide +kernel
theorem dX6_frame_57 : decode cX6_frame 57 = .ok (.aload_n 0, 1) := by decide +kernel
theorem dX6_frame_58 : decode cX6_frame 58 = .ok (.getfield 242, 3) := by decide +kernel
theorem dX6_frame_61 : decode cX6_frame 61 = .ok (.iload 5, 2) := by decide +kernel
theorem dX6_frame_63 : decode cX6_frame 63 = .ok (.iadd, 1) := by decide +kernel
theorem dX6_frame_64 : decode cX6_frame 64 = .ok (.iconst 0, 1) := by decide +kernel
theorem dX6_frame_65 : decode cX6_frame 65 = .ok (.iastore, 1) := by decide +kernel
theorem dX6_frame_66 : decode cX6_frame 66 = .ok (.iinc 5 1, 3) := by decide +kernel
theorem dX6_frame_69 : decode cX6_frame 69 = .ok (.goto (-22), 3) := by decide +kernel
theorem dX6_frame_72 : decode cX6_frame 72 = .ok (.aload_n 0, 1) := by decide +kernel
theorem dX6_frame_73 : decode cX6_frame 73 = .ok (.dup, 1) := by decide +kernel
theorem dX6_frame_74 : decode cX6_frame 74 = .ok (.getfield 242, 3) := by decide +kernel
theorem dX6_frame_77 : decode cX6_frame 77 = .ok (.iload_n 3, 1) := by decide +kernel
theorem dX6_frame_78 : decode cX6_frame 78 = .ok (.iadd, 1) := by decide +kernel
theorem dX6_frame_79 : decode cX6_frame 79 = .ok (.putfield 242, 3) := by decide +kernel
theorem dX6_frame_82 : decode cX6_frame 82 = .ok (.aload_n 0, 1) := by decide +kernel
theorem dX6_frame_83 : decode cX6_frame 83 = .ok (.dup, 1) := by decide +kernel
theorem dX6_frame_84 : decode cX6_frame 84 = .ok (.getfield 239, 3) := by decide +kernel
theorem dX6_frame_87 : decode cX6_frame 87 = .ok (.iconst 1, 1) := by decide +kernel
theorem dX6_frame_88 : decode cX6_frame 88 = .ok (.iadd, 1) := by decide +kernel
theorem dX6_frame_89 : decode cX6_frame 89 = .ok (.putfield 239, 3) := by decide +kernel
theorem dX6_frame_92 : decode cX6_frame 92 = .ok (.aload_n 0, 1) := by decide +kernel
theorem dX6_frame_93 : decode cX6_frame 93 = .ok (.getfield 239, 3) := by decide +kernel
theorem dX6_frame_96 : decode cX6_frame 96 = .ok (.iconst 1, 1) := by decide +kernel
theorem dX6_frame_97 : decode cX6_frame 97 = .ok (.isub, 1) := by decide +kernel
theorem dX6_frame_98 : decode cX6_frame 98 = .ok (.ireturn, 1) := by decide +kernel
theorem dX6_outward_0 : decode cX6_outward 0 = .ok (.iload_n 1, 1) := by decide +kernel
theorem dX6_outward_1 : decode cX6_outward 1 = .ok (.istore_n 3, 1) := by decide +kernel
theorem dX6_outward_2 : decode cX6_outward 2 = .ok (.iconst 0, 1) := by decide +kernel
theorem dX6_outward_3 : decode cX6_outward 3 = .ok (.istore 4, 2) := by decide +kernel
theorem dX6_outward_5 : decode cX6_outward 5 = .ok (.iload 4, 2) := by decide +kernel
theorem dX6_outward_7 : decode cX6_outward 7 = .ok (.iload_n 2, 1) := by decide +kernel
theorem dX6_outward_8 : decode cX6_outward 8 = .ok (.if_icmp .ge 16, 3) := by decide +kernel
theorem dX6_outward_11 : decode cX6_outward 11 = .ok (.aload_n 0, 1) := by decide +kernel
theorem dX6_outward_12 : decode cX6_outward 12 = .ok (.getfield 76, 3) := by decide +kernel
theorem dX6_outward_15 : decode cX6_outward 15 = .ok (.iload_n 3, 1) := by decide +kernel
theorem dX6_outward_16 : decode cX6_outward 16 = .ok (.iaload, 1) := by decide +kernel
theorem dX6_outward_17 : decode cX6_outward 17 = .ok (.istore_n 3, 1) := by decide +kernel
theorem dX6_outward_18 : decode cX6_outward 18 = .ok (.iinc 4 1, 3) := by decide +kernel
theorem dX6_outward_21 : decode cX6_outward 21 = .ok (.goto (-16), 3) := by decide +kernel
theorem dX6_outward_24 : decode cX6_outward 24 = .ok (.iload_n 3, 1) := by decide +kernel
theorem dX6_outward_25 : decode cX6_outward 25 = .ok (.ireturn, 1) := by decide +kernel
theorem dX6_follow_0 : decode cX6_follow 0 = .ok (.iload_n 1, 1) := by decide +kernel
theorem dX6_follow_1 : decode cX6_follow 1 = .ok (.istore_n 3, 1) := by decide +kernel
theorem dX6_follow_2 : decode cX6_follow 2 = .ok (.iload_n 2, 1) := by decide +kernel
theorem dX6_follow_3 : decode cX6_follow 3 = .ok (.istore 4, 2) := by decide +kernel
theorem dX6_follow_5 : decode cX6_follow 5 = .ok (.aload_n 0, 1) := by decide +kernel
theorem dX6_follow_6 : decode cX6_follow 6 = .ok (.iconst 4, 1) := by decide +kernel
theorem dX6_follow_7 : decode cX6_follow 7 = .ok (.putfield 245, 3) := by decide +kernel
theorem dX6_follow_10 : decode cX6_follow 10 = .ok (.iconst 0, 1) := by decide +kernel
theorem dX6_follow_11 : decode cX6_follow 11 = .ok (.istore 5, 2) := by decide +kernel
theorem dX6_follow_13 : decode cX6_follow 13 = .ok (.iload 5, 2) := by decide +kernel
theorem dX6_follow_15 : decode cX6_follow 15 = .ok (.sipush 500, 3) := by decide +kernel
theorem dX6_follow_18 : decode cX6_follow 18 = .ok (.if_icmp .ge 110, 3) := by decide +kernel
theorem dX6_follow_21 : decode cX6_follow 21 = .ok (.aload_n 0, 1) := by decide +kernel
theorem dX6_follow_22 : decode cX6_follow 22 = .ok (.getfield 245, 3) := by decide +kernel
theorem dX6_follow_25 : decode cX6_follow 25 = .ok (.iconst 4, 1) := by decide +kernel
theorem dX6_follow_26 : decode cX6_follow 26 = .ok (.if_icmp .ne 102, 3) := by decide +kernel
theorem dX6_follow_29 : decode cX6_follow 29 = .ok (.aload_n 0, 1) := by decide +kernel
theorem dX6_follow_30 : decode cX6_follow 30 = .ok (.aload_n 0, 1) := by decide +kernel
theorem dX6_follow_31 : decode cX6_follow 31 = .ok (.getfield 22, 3) := by decide +kernel
theorem dX6_follow_34 : decode cX6_follow 34 = .ok (.iload_n 3, 1) := by decide +kernel
theorem dX6_follow_35 : decode cX6_follow 35 = .ok (.iaload, 1) := by decide +kernel
theorem dX6_follow_36 : decode cX6_follow 36 = .ok (.putfield 245, 3) := by decide +kernel
theorem dX6_follow_39 : decode cX6_follow 39 = .ok (.aload_n 0, 1) := by decide +kernel
theorem dX6_follow_40 : decode cX6_follow 40 = .ok (.aload_n 0, 1) := by decide +kernel
theorem dX6_follow_41 : decode cX6_follow 41 = .ok (.getfield 25, 3) := by decide +kernel
theorem dX6_follow_44 : decode cX6_follow 44 = .ok (.iload_n 3, 1) := by decide +kernel
theorem dX6_follow_45 : decode cX6_follow 45 = .ok (.iaload, 1) := by decide +kernel
theorem dX6_follow_46 : decode cX6_follow 46 = .ok (.putfield 248, 3) := by decide +kernel
theorem dX6_follow_49 : decode cX6_follow 49 = .ok (.aload_n 0, 1) := by decide +kernel
theorem dX6_follow_50 : decode cX6_follow 50 = .ok (.aload_n 0, 1) := by decide +kernel
theorem dX6_follow_51 : decode cX6_follow 51 = .ok (.iload 4, 2) := by decide +kernel
theorem dX6_follow_53 : decode cX6_follow 53 = .ok (.aload_n 0, 1) := by decide +kernel
theorem dX6_follow_54 : decode cX6_follow 54 = .ok (.getfield 28, 3) := by decide +kernel
theorem dX6_follow_57 : decode cX6_follow 57 = .ok (.iload_n 3, 1) := by decide +kernel
theorem dX6_follow_58 : decode cX6_follow 58 = .ok (.iaload, 1) := by decide +kernel
theorem dX6_follow_59 : decode cX6_follow 59 = .ok (.invokevirtual 251, 3) := by decide +kernel
theorem dX6_follow_62 : decode cX6_follow 62 = .ok (.putfield 254, 3) := by decide +kernel
theorem dX6_follow_65 : decode cX6_follow 65 = .ok (.aload_n 0, 1) := by decide +kernel
theorem dX6_follow_66 : decode cX6_follow 66 = .ok (.getfield 245, 3) := by decide +kernel
theorem dX6_follow_69 : decode cX6_follow 69 = .ok (.iconst 4, 1) := by decide +kernel
theorem dX6_follow_70 : decode cX6_follow 70 = .ok (.if_icmp .ne 52, 3) := by decide +kernel
theorem dX6_follow_73 : decode cX6_follow 73 = .ok (.aload_n 0, 1) := by decide +kernel
theorem dX6_follow_74 : decode cX6_follow 74 = .ok (.getfield 82, 3) := by decide +kernel
theorem dX6_follow_77 : decode cX6_follow 77 = .ok (.aload_n 0, 1) := by decide +kernel
theorem dX6_follow_78 : decode cX6_follow 78 = .ok (.getfield 254, 3) := by decide +kernel
theorem dX6_follow_81 : decode cX6_follow 81 = .ok (.iaload, 1) := by decide +kernel
theorem dX6_follow_82 : decode cX6_follow 82 = .ok (.aload_n 0, 1) := by decide +kernel
theorem dX6_follow_83 : decode cX6_follow 83 = .ok (.getfield 248, 3) := by decide +kernel
theorem dX6_follow_86 : decode cX6_follow 86 = .ok (.iadd, 1) := by decide +kernel
theorem dX6_follow_87 : decode cX6_follow 87 = .ok (.istore 6, 2) := by decide +kernel
theorem dX6_follow_89 : decode cX6_follow 89 = .ok (.aload_n 0, 1) := by decide +kernel
theorem dX6_follow_90 : decode cX6_follow 90 = .ok (.getfield 88, 3) := by decide +kernel
theorem dX6_follow_93 : decode cX6_follow 93 = .ok (.iload 6, 2) := by decide +kernel
theorem dX6_follow_95 : decode cX6_follow 95 = .ok (.iaload, 1) := by decide +kernel
theorem dX6_follow_96 : decode cX6_follow 96 = .ok (.istore_n 3, 1) := by decide +kernel
theorem dX6_follow_97 : decode cX6_follow 97 = .ok (.aload_n 0, 1) := by decide +kernel
theorem dX6_follow_98 : decode cX6_follow 98 = .ok (.getfield 91, 3) := by decide +kernel
theorem dX6_follow_101 : decode cX6_follow 101 = .ok (.iload 6, 2) := by decide +kernel
theorem dX6_follow_103 : decode cX6_follow 103 = .ok (.iaload, 1) := by decide +kernel
theorem dX6_follow_104 : decode cX6_follow 104 = .ok (.istore 4, 2) := by decide +kernel
theorem dX6_follow_106 : decode cX6_follow 106 = .ok (.aload_n 0, 1) := by decide +kernel
theorem dX6_follow_107 : decode cX6_follow 107 = .ok (.getfield 13, 3) := by decide +kernel
theorem dX6_follow_110 : decode cX6_follow 110 = .ok (.iload_n 3, 1) := by decide +kernel
theorem dX6_follow_111 : decode cX6_follow 111 = .ok (.iaload, 1) := by decide +kernel
theorem dX6_follow_112 : decode cX6_follow 112 = .ok (.bipush 8, 2) := by decide +kernel
theorem dX6_follow_114 : decode cX6_follow 114 = .ok (.if_icmp .eq 8, 3) := by decide +kernel
theorem dX6_follow_117 : decode cX6_follow 117 = .ok (.aload_n 0, 1) := by decide +kernel
theorem dX6_follow_118 : decode cX6_follow 118 = .ok (.iconst 0, 1) := by decide +kernel
theorem dX6_follow_119 : decode cX6_follow 119 = .ok (.putfield 245, 3) := by decide +kernel
theorem dX6_follow_122 : decode cX6_follow 122 = .ok (.iinc 5 1, 3) := by decide +kernel
theorem dX6_follow_125 : decode cX6_follow 125 = .ok (.goto (-112), 3) := by decide +kernel
theorem dX6_follow_128 : decode cX6_follow 128 = .ok (.return_, 1) := by decide +kernel
theorem dX6_target_0 : decode cX6_target 0 = .ok (.aload_n 0, 1) := by decide +kernel
theorem dX6_target_1 : decode cX6_target 1 = .ok (.iload_n 1, 1) := by decide +kernel
theorem dX6_target_2 : decode cX6_target 2 = .ok (.iload_n 2, 1) := by decide +kernel
theorem dX6_target_3 : decode cX6_target 3 = .ok (.invokevirtual 257, 3) := by decide +kernel
theorem dX6_target_6 : decode cX6_target 6 = .ok (.aload_n 0, 1) := by decide +kernel
theorem dX6_target_7 : decode cX6_target 7 = .ok (.getfield 245, 3) := by decide +kernel
theorem dX6_target_10 : decode cX6_target 10 = .ok (.iconst 1, 1) := by decide +kernel
theorem dX6_target_11 : decode cX6_target 11 = .ok (.if_icmp .eq 11, 3) := by decide +kernel
theorem dX6_target_14 : decode cX6_target 14 = .ok (.aload_n 0, 1) := by decide +kernel
theorem dX6_target_15 : decode cX6_target 15 = .ok (.getfield 245, 3) := by decide +kernel
theorem dX6_target_18 : decode cX6_target 18 = .ok (.iconst 3, 1) := by decide +kernel
theorem dX6_target_19 : decode cX6_target 19 = .ok (.if_icmp .ne 18, 3) := by decide +kernel
theorem dX6_target_22 : decode cX6_target 22 = .ok (.aload_n 0, 1) := by decide +kernel
theorem dX6_target_23 : decode cX6_target 23 = .ok (.getfield 82, 3) := by decide +kernel
theorem dX6_target_26 : decode cX6_target 26 = .ok (.aload_n 0, 1) := by decide +kernel
theorem dX6_target_27 : decode cX6_target 27 = .ok (.getfield 254, 3) := by decide +kernel
theorem dX6_target_30 : decode cX6_target 30 = .ok (.iaload, 1) := by decide +kernel
theorem dX6_target_31 : decode cX6_target 31 = .ok (.aload_n 0, 1) := by decide +kernel
theorem dX6_target_32 : decode cX6_target 32 = .ok (.getfield 248, 3) := by decide +kernel
theorem dX6_target_35 : decode cX6_target 35 = .ok (.iadd, 1) := by decide +kernel
theorem dX6_target_36 : decode cX6_target 36 = .ok (.ireturn, 1) := by decide +kernel
theorem dX6_target_37 : decode cX6_target 37 = .ok (.aload_n 0, 1) := by decide +kernel
theorem dX6_target_38 : decode cX6_target 38 = .ok (.getfield 245, 3) := by decide +kernel
theorem dX6_target_41 : decode cX6_target 41 = .ok (.iconst 2, 1) := by decide +kernel
theorem dX6_target_42 : decode cX6_target 42 = .ok (.if_icmp .ne 13, 3) := by decide +kernel
theorem dX6_target_45 : decode cX6_target 45 = .ok (.aload_n 0, 1) := by decide +kernel
theorem dX6_target_46 : decode cX6_target 46 = .ok (.getfield 22, 3) := by decide +kernel
theorem dX6_target_49 : decode cX6_target 49 = .ok (.iload_n 1, 1) := by decide +kernel
theorem dX6_target_50 : decode cX6_target 50 = .ok (.iaload, 1) := by decide +kernel
theorem dX6_target_51 : decode cX6_target 51 = .ok (.iconst 2, 1) := by decide +kernel
theorem dX6_target_52 : decode cX6_target 52 = .ok (.if_icmp .eq 5, 3) := by decide +kernel
theorem dX6_target_55 : decode cX6_target 55 = .ok (.iconst (-1), 1) := by decide +kernel
theorem dX6_target_56 : decode cX6_target 56 = .ok (.ireturn, 1) := by decide +kernel
theorem dX6_target_57 : decode cX6_target 57 = .ok (.iload_n 2, 1) := by decide +kernel
theorem dX6_target_58 : decode cX6_target 58 = .ok (.istore_n 3, 1) := by decide +kernel
theorem dX6_target_59 : decode cX6_target 59 = .ok (.iload_n 3, 1) := by decide +kernel
theorem dX6_target_60 : decode cX6_target 60 = .ok (.ifCond .le 26, 3) := by decide +kernel
theorem dX6_target_63 : decode cX6_target 63 = .ok (.aload_n 0, 1) := by decide +kernel
theorem dX6_target_64 : decode cX6_target 64 = .ok (.getfield 79, 3) := by decide +kernel
theorem dX6_target_67 : decode cX6_target 67 = .ok (.iload_n 3, 1) := by decide +kernel
theorem dX6_target_68 : decode cX6_target 68 = .ok (.iaload, 1) := by decide +kernel
theorem dX6_target_69 : decode cX6_target 69 = .ok (.aload_n 0, 1) := by decide +kernel
theorem dX6_target_70 : decode cX6_target 70 = .ok (.getfield 248, 3) := by decide +kernel
theorem dX6_target_73 : decode cX6_target 73 = .ok (.if_icmp .eq 13, 3) := by decide +kernel
theorem dX6_target_76 : decode cX6_target 76 = .ok (.aload_n 0, 1) := by decide +kernel
theorem dX6_target_77 : decode cX6_target 77 = .ok (.getfield 76, 3) := by decide +kernel
theorem dX6_target_80 : decode cX6_target 80 = .ok (.iload_n 3, 1) := by decide +kernel
theorem dX6_target_81 : decode cX6_target 81 = .ok (.iaload, 1) := by decide +kernel
theorem dX6_target_82 : decode cX6_target 82 = .ok (.istore_n 3, 1) := by decide +kernel
theorem dX6_target_83 : decode cX6_target 83 = .ok (.goto (-24), 3) := by decide +kernel
theorem dX6_target_86 : decode cX6_target 86 = .ok (.iload_n 3, 1) := by decide +kernel
theorem dX6_target_87 : decode cX6_target 87 = .ok (.ifCond .le 12, 3) := by decide +kernel
theorem dX6_target_90 : decode cX6_target 90 = .ok (.aload_n 0, 1) := by decide +kernel
theorem dX6_target_91 : decode cX6_target 91 = .ok (.getfield 82, 3) := by decide +kernel
theorem dX6_target_94 : decode cX6_target 94 = .ok (.iload_n 3, 1) := by decide +kernel
theorem dX6_target_95 : decode cX6_target 95 = .ok (.iaload, 1) := by decide +kernel
theorem dX6_target_96 : decode cX6_target 96 = .ok (.goto 4, 3) := by decide +kernel
theorem dX6_target_99 : decode cX6_target 99 = .ok (.iconst (-1), 1) := by decide +kernel
theorem dX6_target_100 : decode cX6_target 100 = .ok (.ireturn, 1) := by decide +kernel
theorem dX6_call_0 : decode cX6_call 0 = .ok (.iconst 0, 1) := by decide +kernel
theorem dX6_call_1 : decode cX6_call 1 = .ok (.istore_n 3, 1) := by decide +kernel
theorem dX6_call_2 : decode cX6_call 2 = .ok (.aload_n 0, 1) := by decide +kernel
theorem dX6_call_3 : decode cX6_call 3 = .ok (.getfield 13, 3) := by decide +kernel
theorem dX6_call_6 : decode cX6_call 6 = .ok (.iload_n 1, 1) := by decide +kernel
theorem dX6_call_7 : decode cX6_call 7 = .ok (.iaload, 1) := by decide +kernel
theorem dX6_call_8 : decode cX6_call 8 = .ok (.bipush 8, 2) := by decide +kernel
theorem dX6_call_10 : decode cX6_call 10 = .ok (.if_icmp .eq 31, 3) := by decide +kernel
theorem dX6_call_13 : decode cX6_call 13 = .ok (.aload_n 0, 1) := by decide +kernel
theorem dX6_call_14 : decode cX6_call 14 = .ok (.getfield 16, 3) := by decide +kernel
theorem dX6_call_17 : decode cX6_call 17 = .ok (.iload_n 1, 1) := by decide +kernel
theorem dX6_call_18 : decode cX6_call 18 = .ok (.iaload, 1) := by decide +kernel
theorem dX6_call_19 : decode cX6_call 19 = .ok (.istore 4, 2) := by decide +kernel
theorem dX6_call_21 : decode cX6_call 21 = .ok (.iload 4, 2) := by decide +kernel
theorem dX6_call_23 : decode cX6_call 23 = .ok (.ifCond .le 18, 3) := by decide +kernel
theorem dX6_call_26 : decode cX6_call 26 = .ok (.iinc 3 1, 3) := by decide +kernel
theorem dX6_call_29 : decode cX6_call 29 = .ok (.aload_n 0, 1) := by decide +kernel
theorem dX6_call_30 : decode cX6_call 30 = .ok (.getfield 19, 3) := by decide +kernel
theorem dX6_call_33 : decode cX6_call 33 = .ok (.iload 4, 2) := by decide +kernel
theorem dX6_call_35 : decode cX6_call 35 = .ok (.iaload, 1) := by decide +kernel
theorem dX6_call_36 : decode cX6_call 36 = .ok (.istore 4, 2) := by decide +kernel
theorem dX6_call_38 : decode cX6_call 38 = .ok (.goto (-17), 3) := by decide +kernel
theorem dX6_call_41 : decode cX6_call 41 = .ok (.aload_n 0, 1) := by decide +kernel
theorem dX6_call_42 : decode cX6_call 42 = .ok (.iload_n 1, 1) := by decide +kernel
theorem dX6_call_43 : decode cX6_call 43 = .ok (.iload_n 2, 1) := by decide +kernel
theorem dX6_call_44 : decode cX6_call 44 = .ok (.invokevirtual 257, 3) := by decide +kernel
theorem dX6_call_47 : decode cX6_call 47 = .ok (.aload_n 0, 1) := by decide +kernel
theorem dX6_call_48 : decode cX6_call 48 = .ok (.getfield 248, 3) := by decide +kernel
theorem dX6_call_51 : decode cX6_call 51 = .ok (.istore 4, 2) := by decide +kernel
theorem dX6_call_53 : decode cX6_call 53 = .ok (.aload_n 0, 1) := by decide +kernel
theorem dX6_call_54 : decode cX6_call 54 = .ok (.aload_n 0, 1) := by decide +kernel
theorem dX6_call_55 : decode cX6_call 55 = .ok (.getfield 245, 3) := by decide +kernel
theorem dX6_call_58 : decode cX6_call 58 = .ok (.iconst 2, 1) := by decide +kernel
theorem dX6_call_59 : decode cX6_call 59 = .ok (.if_icmp .eq 7, 3) := by decide +kernel
theorem dX6_call_62 : decode cX6_call 62 = .ok (.iconst 3, 1) := by decide +kernel
theorem dX6_call_63 : decode cX6_call 63 = .ok (.goto 32, 3) := by decide +kernel
theorem dX6_call_66 : decode cX6_call 66 = .ok (.iload_n 3, 1) := by decide +kernel
theorem dX6_call_67 : decode cX6_call 67 = .ok (.aload_n 0, 1) := by decide +kernel
theorem dX6_call_68 : decode cX6_call 68 = .ok (.getfield 37, 3) := by decide +kernel
theorem dX6_call_71 : decode cX6_call 71 = .ok (.iload 4, 2) := by decide +kernel
theorem dX6_call_73 : decode cX6_call 73 = .ok (.iaload, 1) := by decide +kernel
theorem dX6_call_74 : decode cX6_call 74 = .ok (.if_icmp .eq 7, 3) := by decide +kernel
theorem dX6_call_77 : decode cX6_call 77 = .ok (.iconst 4, 1) := by decide +kernel
theorem dX6_call_78 : decode cX6_call 78 = .ok (.goto 17, 3) := by decide +kernel
theorem dX6_call_81 : decode cX6_call 81 = .ok (.aload_n 0, 1) := by decide +kernel
theorem dX6_call_82 : decode cX6_call 82 = .ok (.getfield 260, 3) := by decide +kernel
theorem dX6_call_85 : decode cX6_call 85 = .ok (.bipush 30, 2) := by decide +kernel
theorem dX6_call_87 : decode cX6_call 87 = .ok (.if_icmp .ne 7, 3) := by decide +kernel
theorem dX6_call_90 : decode cX6_call 90 = .ok (.iconst 5, 1) := by decide +kernel
theorem dX6_call_91 : decode cX6_call 91 = .ok (.goto 4, 3) := by decide +kernel
theorem dX6_call_94 : decode cX6_call 94 = .ok (.iconst 0, 1) := by decide +kernel
theorem dX6_call_95 : decode cX6_call 95 = .ok (.putfield 236, 3) := by decide +kernel
theorem dX6_call_98 : decode cX6_call 98 = .ok (.aload_n 0, 1) := by decide +kernel
theorem dX6_call_99 : decode cX6_call 99 = .ok (.getfield 236, 3) := by decide +kernel
theorem dX6_call_102 : decode cX6_call 102 = .ok (.ifCond .le 4, 3) := by decide +kernel
theorem dX6_call_105 : decode cX6_call 105 = .ok (.return_, 1) := by decide +kernel
theorem dX6_call_106 : decode cX6_call 106 = .ok (.aload_n 0, 1) := by decide +kernel
theorem dX6_call_107 : decode cX6_call 107 = .ok (.dup, 1) := by decide +kernel
theorem dX6_call_108 : decode cX6_call 108 = .ok (.getfield 260, 3) := by decide +kernel
theorem dX6_call_111 : decode cX6_call 111 = .ok (.iconst 1, 1) := by decide +kernel
theorem dX6_call_112 : decode cX6_call 112 = .ok (.iadd, 1) := by decide +kernel
theorem dX6_call_113 : decode cX6_call 113 = .ok (.putfield 260, 3) := by decide +kernel
theorem dX6_call_116 : decode cX6_call 116 = .ok (.aload_n 0, 1) := by decide +kernel
theorem dX6_call_117 : decode cX6_call 117 = .ok (.dup, 1) := by decide +kernel
theorem dX6_call_118 : decode cX6_call 118 = .ok (.getfield 263, 3) := by decide +kernel
theorem dX6_call_121 : decode cX6_call 121 = .ok (.iconst 1, 1) := by decide +kernel
theorem dX6_call_122 : decode cX6_call 122 = .ok (.iadd, 1) := by decide +kernel
theorem dX6_call_123 : decode cX6_call 123 = .ok (.putfield 263, 3) := by decide +kernel
theorem dX6_call_126 : decode cX6_call 126 = .ok (.aload_n 0, 1) := by decide +kernel
theorem dX6_call_127 : decode cX6_call 127 = .ok (.getfield 260, 3) := by decide +kernel
theorem dX6_call_130 : decode cX6_call 130 = .ok (.aload_n 0, 1) := by decide +kernel
theorem dX6_call_131 : decode cX6_call 131 = .ok (.getfield 266, 3) := by decide +kernel
theorem dX6_call_134 : decode cX6_call 134 = .ok (.if_icmp .le 11, 3) := by decide +kernel
theorem dX6_call_137 : decode cX6_call 137 = .ok (.aload_n 0, 1) := by decide +kernel
theorem dX6_call_138 : decode cX6_call 138 = .ok (.aload_n 0, 1) := by decide +kernel
theorem dX6_call_139 : decode cX6_call 139 = .ok (.getfield 260, 3) := by decide +kernel
theorem dX6_call_142 : decode cX6_call 142 = .ok (.putfield 266, 3) := by decide +kernel
theorem dX6_call_145 : decode cX6_call 145 = .ok (.aload_n 0, 1) := by decide +kernel
theorem dX6_call_146 : decode cX6_call 146 = .ok (.aload_n 0, 1) := by decide +kernel
theorem dX6_call_147 : decode cX6_call 147 = .ok (.getfield 254, 3) := by decide +kernel
theorem dX6_call_150 : decode cX6_call 150 = .ok (.iload 4, 2) := by decide +kernel
theorem dX6_call_152 : decode cX6_call 152 = .ok (.iconst 1, 1) := by decide +kernel
theorem dX6_call_153 : decode cX6_call 153 = .ok (.iload_n 3, 1) := by decide +kernel
theorem dX6_call_154 : decode cX6_call 154 = .ok (.iadd, 1) := by decide +kernel
theorem dX6_call_155 : decode cX6_call 155 = .ok (.iload_n 2, 1) := by decide +kernel
theorem dX6_call_156 : decode cX6_call 156 = .ok (.invokevirtual 269, 3) := by decide +kernel
theorem dX6_call_159 : decode cX6_call 159 = .ok (.istore 5, 2) := by decide +kernel
theorem dX6_call_161 : decode cX6_call 161 = .ok (.iload_n 3, 1) := by decide +kernel
theorem dX6_call_162 : decode cX6_call 162 = .ok (.ifCond .le 84, 3) := by decide +kernel
theorem dX6_call_165 : decode cX6_call 165 = .ok (.aload_n 0, 1) := by decide +kernel
theorem dX6_call_166 : decode cX6_call 166 = .ok (.getfield 16, 3) := by decide +kernel
theorem dX6_call_169 : decode cX6_call 169 = .ok (.iload_n 1, 1) := by decide +kernel
theorem dX6_call_170 : decode cX6_call 170 = .ok (.iaload, 1) := by decide +kernel
theorem dX6_call_171 : decode cX6_call 171 = .ok (.istore 6, 2) := by decide +kernel
theorem dX6_call_173 : decode cX6_call 173 = .ok (.iload 6, 2) := by decide +kernel
theorem dX6_call_175 : decode cX6_call 175 = .ok (.ifCond .le 71, 3) := by decide +kernel
theorem dX6_call_178 : decode cX6_call 178 = .ok (.aload_n 0, 1) := by decide +kernel
theorem dX6_call_179 : decode cX6_call 179 = .ok (.getfield 82, 3) := by decide +kernel
theorem dX6_call_182 : decode cX6_call 182 = .ok (.iload 5, 2) := by decide +kernel
theorem dX6_call_184 : decode cX6_call 184 = .ok (.iaload, 1) := by decide +kernel
theorem dX6_call_185 : decode cX6_call 185 = .ok (.iconst 1, 1) := by decide +kernel
theorem dX6_call_186 : decode cX6_call 186 = .ok (.iadd, 1) := by decide +kernel
theorem dX6_call_187 : decode cX6_call 187 = .ok (.aload_n 0, 1) := by decide +kernel
theorem dX6_call_188 : decode cX6_call 188 = .ok (.getfield 31, 3) := by decide +kernel
theorem dX6_call_191 : decode cX6_call 191 = .ok (.iload 6, 2) := by decide +kernel
theorem dX6_call_193 : decode cX6_call 193 = .ok (.iaload, 1) := by decide +kernel
theorem dX6_call_194 : decode cX6_call 194 = .ok (.iadd, 1) := by decide +kernel
theorem dX6_call_195 : decode cX6_call 195 = .ok (.istore 7, 2) := by decide +kernel
theorem dX6_call_197 : decode cX6_call 197 = .ok (.aload_n 0, 1) := by decide +kernel
theorem dX6_call_198 : decode cX6_call 198 = .ok (.getfield 40, 3) := by decide +kernel
theorem dX6_call_201 : decode cX6_call 201 = .ok (.iload 4, 2) := by decide +kernel
theorem dX6_call_203 : decode cX6_call 203 = .ok (.iaload, 1) := by decide +kernel
theorem dX6_call_204 : decode cX6_call 204 = .ok (.aload_n 0, 1) := by decide +kernel
theorem dX6_call_205 : decode cX6_call 205 = .ok (.getfield 31, 3) := by decide +kernel
theorem dX6_call_208 : decode cX6_call 208 = .ok (.iload 6, 2) := by decide +kernel
theorem dX6_call_210 : decode cX6_call 210 = .ok (.iaload, 1) := by decide +kernel
theorem dX6_call_211 : decode cX6_call 211 = .ok (.ishr, 1) := by decide +kernel
theorem dX6_call_212 : decode cX6_call 212 = .ok (.iconst 1, 1) := by decide +kernel
theorem dX6_call_213 : decode cX6_call 213 = .ok (.iand, 1) := by decide +kernel
theorem dX6_call_214 : decode cX6_call 214 = .ok (.ifCond .ne 20, 3) := by decide +kernel
theorem dX6_call_217 : decode cX6_call 217 = .ok (.aload_n 0, 1) := by decide +kernel
theorem dX6_call_218 : decode cX6_call 218 = .ok (.getfield 88, 3) := by decide +kernel
theorem dX6_call_221 : decode cX6_call 221 = .ok (.iload 7, 2) := by decide +kernel
theorem dX6_call_223 : decode cX6_call 223 = .ok (.iload 6, 2) := by decide +kernel
theorem dX6_call_225 : decode cX6_call 225 = .ok (.iastore, 1) := by decide +kernel
theorem dX6_call_226 : decode cX6_call 226 = .ok (.aload_n 0, 1) := by decide +kernel
theorem dX6_call_227 : decode cX6_call 227 = .ok (.getfield 91, 3) := by decide +kernel
theorem dX6_call_230 : decode cX6_call 230 = .ok (.iload 7, 2) := by decide +kernel
theorem dX6_call_232 : decode cX6_call 232 = .ok (.iload_n 2, 1) := by decide +kernel
theorem dX6_call_233 : decode cX6_call 233 = .ok (.iastore, 1) := by decide +kernel
theorem dX6_call_234 : decode cX6_call 234 = .ok (.aload_n 0, 1) := by decide +kernel
theorem dX6_call_235 : decode cX6_call 235 = .ok (.getfield 19, 3) := by decide +kernel
theorem dX6_call_238 : decode cX6_call 238 = .ok (.iload 6, 2) := by decide +kernel
theorem dX6_call_240 : decode cX6_call 240 = .ok (.iaload, 1) := by decide +kernel
theorem dX6_call_241 : decode cX6_call 241 = .ok (.istore 6, 2) := by decide +kernel
theorem dX6_call_243 : decode cX6_call 243 = .ok (.goto (-70), 3) := by decide +kernel
theorem dX6_call_246 : decode cX6_call 246 = .ok (.aload_n 0, 1) := by decide +kernel
theorem dX6_call_247 : decode cX6_call 247 = .ok (.iload_n 3, 1) := by decide +kernel
theorem dX6_call_248 : decode cX6_call 248 = .ok (.ifCond .le 12, 3) := by decide +kernel
theorem dX6_call_251 : decode cX6_call 251 = .ok (.aload_n 0, 1) := by decide +kernel
theorem dX6_call_252 : decode cX6_call 252 = .ok (.getfield 16, 3) := by decide +kernel
theorem dX6_call_255 : decode cX6_call 255 = .ok (.iload_n 1, 1) := by decide +kernel
