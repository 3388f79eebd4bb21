theorem dX6_init_0 : decode cX6_init 0 = .ok (.aload_n 0, 1) := by decide +kernel
theorem dX6_init_1 : decode cX6_init 1 = .ok (.invokespecial 1, 3) := by decide +kernel
theorem dX6_init_4 : decode cX6_init 4 = .ok (.aload_n 0, 1) := by decide +kernel
theorem dX6_init_5 : decode cX6_init 5 = .ok (.sipush 320, 3) := by decide +kernel
theorem dX6_init_8 : decode cX6_init 8 = .ok (.newarray .int, 2) := by decide +kernel
theorem dX6_init_10 : decode cX6_init 10 = .ok (.putfield 7, 3) := by decide +kernel
theorem dX6_init_13 : decode cX6_init 13 = .ok (.aload_n 0, 1) := by decide +kernel
theorem dX6_init_14 : decode cX6_init 14 = .ok (.sipush 700, 3) := by decide +kernel
theorem dX6_init_17 : decode cX6_init 17 = .ok (.newarray .int, 2) := by decide +kernel
theorem dX6_init_19 : decode cX6_init 19 = .ok (.putfield 13, 3) := by decide +kernel
theorem dX6_init_22 : decode cX6_init 22 = .ok (.aload_n 0, 1) := by decide +kernel
theorem dX6_init_23 : decode cX6_init 23 = .ok (.sipush 700, 3) := by decide +kernel
theorem dX6_init_26 : decode cX6_init 26 = .ok (.newarray .int, 2) := by decide +kernel
theorem dX6_init_28 : decode cX6_init 28 = .ok (.putfield 16, 3) := by decide +kernel
theorem dX6_init_31 : decode cX6_init 31 = .ok (.aload_n 0, 1) := by decide +kernel
theorem dX6_init_32 : decode cX6_init 32 = .ok (.sipush 700, 3) := by decide +kernel
theorem dX6_init_35 : decode cX6_init 35 = .ok (.newarray .int, 2) := by decide +kernel
theorem dX6_init_37 : decode cX6_init 37 = .ok (.putfield 19, 3) := by decide +kernel
theorem dX6_init_40 : decode cX6_init 40 = .ok (.aload_n 0, 1) := by decide +kernel
theorem dX6_init_41 : decode cX6_init 41 = .ok (.sipush 700, 3) := by decide +kernel
theorem dX6_init_44 : decode cX6_init 44 = .ok (.newarray .int, 2) := by decide +kernel
theorem dX6_init_46 : decode cX6_init 46 = .ok (.putfield 22, 3) := by decide +kernel
theorem dX6_init_49 : decode cX6_init 49 = .ok (.aload_n 0, 1) := by decide +kernel
theorem dX6_init_50 : decode cX6_init 50 = .ok (.sipush 700, 3) := by decide +kernel
theorem dX6_init_53 : decode cX6_init 53 = .ok (.newarray .int, 2) := by decide +kernel
theorem dX6_init_55 : decode cX6_init 55 = .ok (.putfield 25, 3) := by decide +kernel
theorem dX6_init_58 : decode cX6_init 58 = .ok (.aload_n 0, 1) := by decide +kernel
theorem dX6_init_59 : decode cX6_init 59 = .ok (.sipush 700, 3) := by decide +kernel
theorem dX6_init_62 : decode cX6_init 62 = .ok (.newarray .int, 2) := by decide +kernel
theorem dX6_init_64 : decode cX6_init 64 = .ok (.putfield 28, 3) := by decide +kernel
theorem dX6_init_67 : decode cX6_init 67 = .ok (.aload_n 0, 1) := by decide +kernel
theorem dX6_init_68 : decode cX6_init 68 = .ok (.sipush 700, 3) := by decide +kernel
theorem dX6_init_71 : decode cX6_init 71 = .ok (.newarray .int, 2) := by decide +kernel
theorem dX6_init_73 : decode cX6_init 73 = .ok (.putfield 31, 3) := by decide +kernel
theorem dX6_init_76 : decode cX6_init 76 = .ok (.aload_n 0, 1) := by decide +kernel
theorem dX6_init_77 : decode cX6_init 77 = .ok (.bipush 32, 2) := by decide +kernel
theorem dX6_init_79 : decode cX6_init 79 = .ok (.newarray .int, 2) := by decide +kernel
theorem dX6_init_81 : decode cX6_init 81 = .ok (.putfield 34, 3) := by decide +kernel
theorem dX6_init_84 : decode cX6_init 84 = .ok (.aload_n 0, 1) := by decide +kernel
theorem dX6_init_85 : decode cX6_init 85 = .ok (.bipush 32, 2) := by decide +kernel
theorem dX6_init_87 : decode cX6_init 87 = .ok (.newarray .int, 2) := by decide +kernel
theorem dX6_init_89 : decode cX6_init 89 = .ok (.putfield 37, 3) := by decide +kernel
theorem dX6_init_92 : decode cX6_init 92 = .ok (.aload_n 0, 1) := by decide +kernel
theorem dX6_init_93 : decode cX6_init 93 = .ok (.bipush 32, 2) := by decide +kernel
theorem dX6_init_95 : decode cX6_init 95 = .ok (.newarray .int, 2) := by decide +kernel
theorem dX6_init_97 : decode cX6_init 97 = .ok (.putfield 40, 3) := by decide +kernel
theorem dX6_init_100 : decode cX6_init 100 = .ok (.aload_n 0, 1) := by decide +kernel
theorem dX6_init_101 : decode cX6_init 101 = .ok (.bipush 8, 2) := by decide +kernel
theorem dX6_init_103 : decode cX6_init 103 = .ok (.newarray .int, 2) := by decide +kernel
theorem dX6_init_105 : decode cX6_init 105 = .ok (.putfield 43, 3) := by decide +kernel
theorem dX6_init_108 : decode cX6_init 108 = .ok (.aload_n 0, 1) := by decide +kernel
theorem dX6_init_109 : decode cX6_init 109 = .ok (.bipush 80, 2) := by decide +kernel
theorem dX6_init_111 : decode cX6_init 111 = .ok (.newarray .int, 2) := by decide +kernel
theorem dX6_init_113 : decode cX6_init 113 = .ok (.putfield 46, 3) := by decide +kernel
theorem dX6_init_116 : decode cX6_init 116 = .ok (.aload_n 0, 1) := by decide +kernel
theorem dX6_init_117 : decode cX6_init 117 = .ok (.bipush 80, 2) := by decide +kernel
theorem dX6_init_119 : decode cX6_init 119 = .ok (.newarray .int, 2) := by decide +kernel
theorem dX6_init_121 : decode cX6_init 121 = .ok (.putfield 49, 3) := by decide +kernel
theorem dX6_init_124 : decode cX6_init 124 = .ok (.aload_n 0, 1) := by decide +kernel
theorem dX6_init_125 : decode cX6_init 125 = .ok (.bipush 80, 2) := by decide +kernel
theorem dX6_init_127 : decode cX6_init 127 = .ok (.newarray .int, 2) := by decide +kernel
theorem dX6_init_129 : decode cX6_init 129 = .ok (.putfield 52, 3) := by decide +kernel
theorem dX6_init_132 : decode cX6_init 132 = .ok (.aload_n 0, 1) := by decide +kernel
theorem dX6_init_133 : decode cX6_init 133 = .ok (.bipush 80, 2) := by decide +kernel
theorem dX6_init_135 : decode cX6_init 135 = .ok (.newarray .int, 2) := by decide +kernel
theorem dX6_init_137 : decode cX6_init 137 = .ok (.putfield 55, 3) := by decide +kernel
theorem dX6_init_140 : decode cX6_init 140 = .ok (.aload_n 0, 1) := by decide +kernel
theorem dX6_init_141 : decode cX6_init 141 = .ok (.bipush 80, 2) := by decide +kernel
theorem dX6_init_143 : decode cX6_init 143 = .ok (.newarray .int, 2) := by decide +kernel
theorem dX6_init_145 : decode cX6_init 145 = .ok (.putfield 58, 3) := by decide +kernel
theorem dX6_init_148 : decode cX6_init 148 = .ok (.aload_n 0, 1) := by decide +kernel
theorem dX6_init_149 : decode cX6_init 149 = .ok (.sipush 160, 3) := by decide +kernel
theorem dX6_init_152 : decode cX6_init 152 = .ok (.newarray .int, 2) := by decide +kernel
theorem dX6_init_154 : decode cX6_init 154 = .ok (.putfield 61, 3) := by decide +kernel
theorem dX6_init_157 : decode cX6_init 157 = .ok (.aload_n 0, 1) := by decide +kernel
theorem dX6_init_158 : decode cX6_init 158 = .ok (.sipush 160, 3) := by decide +kernel
theorem dX6_init_161 : decode cX6_init 161 = .ok (.newarray .int, 2) := by decide +kernel
theorem dX6_init_163 : decode cX6_init 163 = .ok (.putfield 64, 3) := by decide +kernel
theorem dX6_init_166 : decode cX6_init 166 = .ok (.aload_n 0, 1) := by decide +kernel
theorem dX6_init_167 : decode cX6_init 167 = .ok (.sipush 160, 3) := by decide +kernel
theorem dX6_init_170 : decode cX6_init 170 = .ok (.newarray .int, 2) := by decide +kernel
theorem dX6_init_172 : decode cX6_init 172 = .ok (.putfield 67, 3) := by decide +kernel
theorem dX6_init_175 : decode cX6_init 175 = .ok (.aload_n 0, 1) := by decide +kernel
theorem dX6_init_176 : decode cX6_init 176 = .ok (.sipush 160, 3) := by decide +kernel
theorem dX6_init_179 : decode cX6_init 179 = .ok (.newarray .int, 2) := by decide +kernel
theorem dX6_init_181 : decode cX6_init 181 = .ok (.putfield 70, 3) := by decide +kernel
theorem dX6_init_184 : decode cX6_init 184 = .ok (.aload_n 0, 1) := by decide +kernel
theorem dX6_init_185 : decode cX6_init 185 = .ok (.sipush 7000, 3) := by decide +kernel
theorem dX6_init_188 : decode cX6_init 188 = .ok (.newarray .int, 2) := by decide +kernel
theorem dX6_init_190 : decode cX6_init 190 = .ok (.putfield 73, 3) := by decide +kernel
theorem dX6_init_193 : decode cX6_init 193 = .ok (.aload_n 0, 1) := by decide +kernel
theorem dX6_init_194 : decode cX6_init 194 = .ok (.sipush 400, 3) := by decide +kernel
theorem dX6_init_197 : decode cX6_init 197 = .ok (.newarray .int, 2) := by decide +kernel
theorem dX6_init_199 : decode cX6_init 199 = .ok (.putfield 76, 3) := by decide +kernel
theorem dX6_init_202 : decode cX6_init 202 = .ok (.aload_n 0, 1) := by decide +kernel
theorem dX6_init_203 : decode cX6_init 203 = .ok (.sipush 400, 3) := by decide +kernel
theorem dX6_init_206 : decode cX6_init 206 = .ok (.newarray .int, 2) := by decide +kernel
theorem dX6_init_208 : decode cX6_init 208 = .ok (.putfield 79, 3) := by decide +kernel
theorem dX6_init_211 : decode cX6_init 211 = .ok (.aload_n 0, 1) := by decide +kernel
theorem dX6_init_212 : decode cX6_init 212 = .ok (.sipush 400, 3) := by decide +kernel
theorem dX6_init_215 : decode cX6_init 215 = .ok (.newarray .int, 2) := by decide +kernel
theorem dX6_init_217 : decode cX6_init 217 = .ok (.putfield 82, 3) := by decide +kernel
theorem dX6_init_220 : decode cX6_init 220 = .ok (.aload_n 0, 1) := by decide +kernel
theorem dX6_init_221 : decode cX6_init 221 = .ok (.sipush 400, 3) := by decide +kernel
theorem dX6_init_224 : decode cX6_init 224 = .ok (.newarray .int, 2) := by decide +kernel
theorem dX6_init_226 : decode cX6_init 226 = .ok (.putfield 85, 3) := by decide +kernel
theorem dX6_init_229 : decode cX6_init 229 = .ok (.aload_n 0, 1) := by decide +kernel
theorem dX6_init_230 : decode cX6_init 230 = .ok (.sipush 1300, 3) := by decide +kernel
theorem dX6_init_233 : decode cX6_init 233 = .ok (.newarray .int, 2) := by decide +kernel
theorem dX6_init_235 : decode cX6_init 235 = .ok (.putfield 88, 3) := by decide +kernel
theorem dX6_init_238 : decode cX6_init 238 = .ok (.aload_n 0, 1) := by decide +kernel
theorem dX6_init_239 : decode cX6_init 239 = .ok (.sipush 1300, 3) := by decide +kernel
theorem dX6_init_242 : decode cX6_init 242 = .ok (.newarray .int, 2) := by decide +kernel
theorem dX6_init_244 : decode cX6_init 244 = .ok (.putfield 91, 3) := by decide +kernel
theorem dX6_init_247 : decode cX6_init 247 = .ok (.aload_n 0, 1) := by decide +kernel
theorem dX6_init_248 : decode cX6_init 248 = .ok (.bipush 100, 2) := by decide +kernel
theorem dX6_init_250 : decode cX6_init 250 = .ok (.newarray .int, 2) := by decide +kernel
theorem dX6_init_252 : decode cX6_init 252 = .ok (.putfield 94, 3) := by decide +kernel
theorem dX6_init_255 : decode cX6_init 255 = .ok (.aload_n 0, 1) := by decide +kernel
theorem dX6_init_256 : decode cX6_init 256 = .ok (.bipush 32, 2) := by decide +kernel
theorem dX6_init_258 : decode cX6_init 258 = .ok (.newarray .int, 2) := by decide +kernel
theorem dX6_init_260 : decode cX6_init 260 = .ok (.putfield 97, 3) := by decide +kernel
theorem dX6_init_263 : decode cX6_init 263 = .ok (.return_, 1) := by decide +kernel
theorem dX6_within_0 : decode cX6_within 0 = .ok (.iload_n 0, 1) := by decide +kernel
theorem dX6_within_1 : decode cX6_within 1 = .ok (.iload_n 1, 1) := by decide +kernel
theorem dX6_within_2 : decode cX6_within 2 = .ok (.if_icmp .lt 12, 3) := by decide +kernel
theorem dX6_within_5 : decode cX6_within 5 = .ok (.iload_n 0, 1) := by decide +kernel
theorem dX6_within_6 : decode cX6_within 6 = .ok (.iload_n 2, 1) := by decide +kernel
theorem dX6_within_7 : decode cX6_within 7 = .ok (.if_icmp .gt 7, 3) := by decide +kernel
theorem dX6_within_10 : decode cX6_within 10 = .ok (.iconst 1, 1) := by decide +kernel
theorem dX6_within_11 : decode cX6_within 11 = .ok (.goto 4, 3) := by decide +kernel
theorem dX6_within_14 : decode cX6_within 14 = .ok (.iconst 0, 1) := by decide +kernel
theorem dX6_within_15 : decode cX6_within 15 = .ok (.ireturn, 1) := by decide +kernel
theorem dX6_write_0 : decode cX6_write 0 = .ok (.iconst 0, 1) := by decide +kernel
theorem dX6_write_1 : decode cX6_write 1 = .ok (.istore_n 3, 1) := by decide +kernel
theorem dX6_write_2 : decode cX6_write 2 = .ok (.iconst 0, 1) := by decide +kernel
theorem dX6_write_3 : decode cX6_write 3 = .ok (.istore 4, 2) := by decide +kernel
theorem dX6_write_5 : decode cX6_write 5 = .ok (.iload 4, 2) := by decide +kernel
theorem dX6_write_7 : decode cX6_write 7 = .ok (.bipush 8, 2) := by decide +kernel
theorem dX6_write_9 : decode cX6_write 9 = .ok (.if_icmp .ge 43, 3) := by decide +kernel
theorem dX6_write_12 : decode cX6_write 12 = .ok (.lload_n 1, 1) := by decide +kernel
theorem dX6_write_13 : decode cX6_write 13 = .ok (.bipush 8, 2) := by decide +kernel
theorem dX6_write_15 : decode cX6_write 15 = .ok (.iload 4, 2) := by decide +kernel
theorem dX6_write_17 : decode cX6_write 17 = .ok (.imul, 1) := by decide +kernel
theorem dX6_write_18 : decode cX6_write 18 = .ok (.lshr, 1) := by decide +kernel
theorem dX6_write_19 : decode cX6_write 19 = .ok (.l2i, 1) := by decide +kernel
theorem dX6_write_20 : decode cX6_write 20 = .ok (.sipush 255, 3) := by decide +kernel
theorem dX6_write_23 : decode cX6_write 23 = .ok (.iand, 1) := by decide +kernel
theorem dX6_write_24 : decode cX6_write 24 = .ok (.istore 5, 2) := by decide +kernel
theorem dX6_write_26 : decode cX6_write 26 = .ok (.iload 5, 2) := by decide +kernel
theorem dX6_write_28 : decode cX6_write 28 = .ok (.ifCond .ne 6, 3) := by decide +kernel
theorem dX6_write_31 : decode cX6_write 31 = .ok (.goto 21, 3) := by decide +kernel
theorem dX6_write_34 : decode cX6_write 34 = .ok (.iload 5, 2) := by decide +kernel
theorem dX6_write_36 : decode cX6_write 36 = .ok (.bipush 127, 2) := by decide +kernel
theorem dX6_write_38 : decode cX6_write 38 = .ok (.if_icmp .le 5, 3) := by decide +kernel
theorem dX6_write_41 : decode cX6_write 41 = .ok (.iconst (-1), 1) := by decide +kernel
theorem dX6_write_42 : decode cX6_write 42 = .ok (.ireturn, 1) := by decide +kernel
theorem dX6_write_43 : decode cX6_write 43 = .ok (.iinc 3 1, 3) := by decide +kernel
theorem dX6_write_46 : decode cX6_write 46 = .ok (.iinc 4 1, 3) := by decide +kernel
theorem dX6_write_49 : decode cX6_write 49 = .ok (.goto (-44), 3) := by decide +kernel
theorem dX6_write_52 : decode cX6_write 52 = .ok (.aload_n 0, 1) := by decide +kernel
theorem dX6_write_53 : decode cX6_write 53 = .ok (.getfield 100, 3) := by decide +kernel
theorem dX6_write_56 : decode cX6_write 56 = .ok (.iload_n 3, 1) := by decide +kernel
theorem dX6_write_57 : decode cX6_write 57 = .ok (.iadd, 1) := by decide +kernel
theorem dX6_write_58 : decode cX6_write 58 = .ok (.sipush 320, 3) := by decide +kernel
theorem dX6_write_61 : decode cX6_write 61 = .ok (.if_icmp .le 5, 3) := by decide +kernel
theorem dX6_write_64 : decode cX6_write 64 = .ok (.iconst (-1), 1) := by decide +kernel
theorem dX6_write_65 : decode cX6_write 65 = .ok (.ireturn, 1) := by decide +kernel
theorem dX6_write_66 : decode cX6_write 66 = .ok (.iconst 0, 1) := by decide +kernel
theorem dX6_write_67 : decode cX6_write 67 = .ok (.istore 4, 2) := by decide +kernel
theorem dX6_write_69 : decode cX6_write 69 = .ok (.iload 4, 2) := by decide +kernel
theorem dX6_write_71 : decode cX6_write 71 = .ok (.iload_n 3, 1) := by decide +kernel
theorem dX6_write_72 : decode cX6_write 72 = .ok (.if_icmp .ge 32, 3) := by decide +kernel
theorem dX6_write_75 : decode cX6_write 75 = .ok (.aload_n 0, 1) := by decide +kernel
theorem dX6_write_76 : decode cX6_write 76 = .ok (.getfield 7, 3) := by decide +kernel
theorem dX6_write_79 : decode cX6_write 79 = .ok (.aload_n 0, 1) := by decide +kernel
theorem dX6_write_80 : decode cX6_write 80 = .ok (.getfield 100, 3) := by decide +kernel
theorem dX6_write_83 : decode cX6_write 83 = .ok (.iload 4, 2) := by decide +kernel
theorem dX6_write_85 : decode cX6_write 85 = .ok (.iadd, 1) := by decide +kernel
theorem dX6_write_86 : decode cX6_write 86 = .ok (.lload_n 1, 1) := by decide +kernel
theorem dX6_write_87 : decode cX6_write 87 = .ok (.bipush 8, 2) := by decide +kernel
theorem dX6_write_89 : decode cX6_write 89 = .ok (.iload 4, 2) := by decide +kernel
theorem dX6_write_91 : decode cX6_write 91 = .ok (.imul, 1) := by decide +kernel
theorem dX6_write_92 : decode cX6_write 92 = .ok (.lshr, 1) := by decide +kernel
theorem dX6_write_93 : decode cX6_write 93 = .ok (.l2i, 1) := by decide +kernel
theorem dX6_write_94 : decode cX6_write 94 = .ok (.bipush 127, 2) := by decide +kernel
theorem dX6_write_96 : decode cX6_write 96 = .ok (.iand, 1) := by decide +kernel
theorem dX6_write_97 : decode cX6_write 97 = .ok (.iastore, 1) := by decide +kernel
theorem dX6_write_98 : decode cX6_write 98 = .ok (.iinc 4 1, 3) := by decide +kernel
theorem dX6_write_101 : decode cX6_write 101 = .ok (.goto (-32), 3) := by decide +kernel
theorem dX6_write_104 : decode cX6_write 104 = .ok (.aload_n 0, 1) := by decide +kernel
theorem dX6_write_105 : decode cX6_write 105 = .ok (.dup, 1) := by decide +kernel
theorem dX6_write_106 : decode cX6_write 106 = .ok (.getfield 100, 3) := by decide +kernel
theorem dX6_write_109 : decode cX6_write 109 = .ok (.iload_n 3, 1) := by decide +kernel
theorem dX6_write_110 : decode cX6_write 110 = .ok (.iadd, 1) := by decide +kernel
theorem dX6_write_111 : decode cX6_write 111 = .ok (.putfield 100, 3) := by decide +kernel
theorem dX6_write_114 : decode cX6_write 114 = .ok (.iload_n 3, 1) := by decide +kernel
theorem dX6_write_115 : decode cX6_write 115 = .ok (.ireturn, 1) := by decide +kernel
theorem dX6_erase_0 : decode cX6_erase 0 = .ok (.aload_n 0, 1) := by decide +kernel
theorem dX6_erase_1 : decode cX6_erase 1 = .ok (.getfield 100, 3) := by decide +kernel
theorem dX6_erase_4 : decode cX6_erase 4 = .ok (.istore_n 1, 1) := by decide +kernel
theorem dX6_erase_5 : decode cX6_erase 5 = .ok (.aload_n 0, 1) := by decide +kernel
theorem dX6_erase_6 : decode cX6_erase 6 = .ok (.iconst 0, 1) := by decide +kernel
theorem dX6_erase_7 : decode cX6_erase 7 = .ok (.putfield 100, 3) := by decide +kernel
theorem dX6_erase_10 : decode cX6_erase 10 = .ok (.iload_n 1, 1) := by decide +kernel
theorem dX6_erase_11 : decode cX6_erase 11 = .ok (.ireturn, 1) := by decide +kernel
theorem dX6_length_0 : decode cX6_length 0 = .ok (.aload_n 0, 1) := by decide +kernel
theorem dX6_length_1 : decode cX6_length 1 = .ok (.getfield 100, 3) := by decide +kernel
theorem dX6_length_4 : decode cX6_length 4 = .ok (.ireturn, 1) := by decide +kernel
theorem dX6_peek_0 : decode cX6_peek 0 = .ok (.aload_n 0, 1) := by decide +kernel
theorem dX6_peek_1 : decode cX6_peek 1 = .ok (.getfield 104, 3) := by decide +kernel
theorem dX6_peek_4 : decode cX6_peek 4 = .ok (.aload_n 0, 1) := by decide +kernel
theorem dX6_peek_5 : decode cX6_peek 5 = .ok (.getfield 100, 3) := by decide +kernel
theorem dX6_peek_8 : decode cX6_peek 8 = .ok (.if_icmp .ge 44, 3) := by decide +kernel
theorem dX6_peek_11 : decode cX6_peek 11 = .ok (.aload_n 0, 1) := by decide +kernel
theorem dX6_peek_12 : decode cX6_peek 12 = .ok (.getfield 7, 3) := by decide +kernel
theorem dX6_peek_15 : decode cX6_peek 15 = .ok (.aload_n 0, 1) := by decide +kernel
theorem dX6_peek_16 : decode cX6_peek 16 = .ok (.getfield 104, 3) := by decide +kernel
theorem dX6_peek_19 : decode cX6_peek 19 = .ok (.iaload, 1) := by decide +kernel
theorem dX6_peek_20 : decode cX6_peek 20 = .ok (.bipush 32, 2) := by decide +kernel
theorem dX6_peek_22 : decode cX6_peek 22 = .ok (.if_icmp .eq 17, 3) := by decide +kernel
theorem dX6_peek_25 : decode cX6_peek 25 = .ok (.aload_n 0, 1) := by decide +kernel
theorem dX6_peek_26 : decode cX6_peek 26 = .ok (.getfield 7, 3) := by decide +kernel
theorem dX6_peek_29 : decode cX6_peek 29 = .ok (.aload_n 0, 1) := by decide +kernel
theorem dX6_peek_30 : decode cX6_peek 30 = .ok (.getfield 104, 3) := by decide +kernel
theorem dX6_peek_33 : decode cX6_peek 33 = .ok (.iaload, 1) := by decide +kernel
theorem dX6_peek_34 : decode cX6_peek 34 = .ok (.bipush 10, 2) := by decide +kernel
theorem dX6_peek_36 : decode cX6_peek 36 = .ok (.if_icmp .ne 16, 3) := by decide +kernel
theorem dX6_peek_39 : decode cX6_peek 39 = .ok (.aload_n 0, 1) := by decide +kernel
theorem dX6_peek_40 : decode cX6_peek 40 = .ok (.dup, 1) := by decide +kernel
theorem dX6_peek_41 : decode cX6_peek 41 = .ok (.getfield 104, 3) := by decide +kernel
theorem dX6_peek_44 : decode cX6_peek 44 = .ok (.iconst 1, 1) := by decide +kernel
theorem dX6_peek_45 : decode cX6_peek 45 = .ok (.iadd, 1) := by decide +kernel
theorem dX6_peek_46 : decode cX6_peek 46 = .ok (.putfield 104, 3) := by decide +kernel
theorem dX6_peek_49 : decode cX6_peek 49 = .ok (.goto (-49), 3) := by decide +kernel
theorem dX6_peek_52 : decode cX6_peek 52 = .ok (.aload_n 0, 1) := by decide +kernel
theorem dX6_peek_53 : decode cX6_peek 53 = .ok (.getfield 104, 3) := by decide +kernel
theorem dX6_peek_56 : decode cX6_peek 56 = .ok (.aload_n 0, 1) := by decide +kernel
theorem dX6_peek_57 : decode cX6_peek 57 = .ok (.getfield 100, 3) := by decide +kernel
theorem dX6_peek_60 : decode cX6_peek 60 = .ok (.if_icmp .ge 15, 3) := by decide +kernel
theorem dX6_peek_63 : decode cX6_peek 63 = .ok (.aload_n 0, 1) := by decide +kernel
theorem dX6_peek_64 : decode cX6_peek 64 = .ok (.getfield 7, 3) := by decide +kernel
theorem dX6_peek_67 : decode cX6_peek 67 = .ok (.aload_n 0, 1) := by decide +kernel
theorem dX6_peek_68 : decode cX6_peek 68 = .ok (.getfield 104, 3) := by decide +kernel
theorem dX6_peek_71 : decode cX6_peek 71 = .ok (.iaload, 1) := by decide +kernel
theorem dX6_peek_72 : decode cX6_peek 72 = .ok (.goto 4, 3) := by decide +kernel
theorem dX6_peek_75 : decode cX6_peek 75 = .ok (.iconst (-1), 1) := by decide +kernel
theorem dX6_peek_76 : decode cX6_peek 76 = .ok (.ireturn, 1) := by decide +kernel
theorem dX6_eat_0 : decode cX6_eat 0 = .ok (.aload_n 0, 1) := by decide +kernel
theorem dX6_eat_1 : decode cX6_eat 1 = .ok (.invokevirtual 107, 3) := by decide +kernel
theorem dX6_eat_4 : decode cX6_eat 4 = .ok (.iload_n 1, 1) := by decide +kernel
theorem dX6_eat_5 : decode cX6_eat 5 = .ok (.if_icmp .eq 5, 3) := by decide +kernel
theorem dX6_eat_8 : decode cX6_eat 8 = .ok (.iconst 0, 1) := by decide +kernel
theorem dX6_eat_9 : decode cX6_eat 9 = .ok (.ireturn, 1) := by decide +kernel
theorem dX6_eat_10 : decode cX6_eat 10 = .ok (.aload_n 0, 1) := by decide +kernel
theorem dX6_eat_11 : decode cX6_eat 11 = .ok (.dup, 1) := by decide +kernel
theorem dX6_eat_12 : decode cX6_eat 12 = .ok (.getfield 104, 3) := by decide +kernel
theorem dX6_eat_15 : decode cX6_eat 15 = .ok (.iconst 1, 1) := by decide +kernel
theorem dX6_eat_16 : decode cX6_eat 16 = .ok (.iadd, 1) := by decide +kernel
theorem dX6_eat_17 : decode cX6_eat 17 = .ok (.putfield 104, 3) := by decide +kernel
theorem dX6_eat_20 : decode cX6_eat 20 = .ok (.iconst 1, 1) := by decide +kernel
theorem dX6_eat_21 : decode cX6_eat 21 = .ok (.ireturn, 1) := by decide +kernel
theorem dX6_isLetter_0 : decode cX6_isLetter 0 = .ok (.iload_n 1, 1) := by decide +kernel
theorem dX6_isLetter_1 : decode cX6_isLetter 1 = .ok (.bipush 97, 2) := by decide +kernel
theorem dX6_isLetter_3 : decode cX6_isLetter 3 = .ok (.bipush 122, 2) := by decide +kernel
theorem dX6_isLetter_5 : decode cX6_isLetter 5 = .ok (.invokestatic 111, 3) := by decide +kernel
theorem dX6_isLetter_8 : decode cX6_isLetter 8 = .ok (.ireturn, 1) := by decide +kernel
theorem dX6_push_0 : decode cX6_push 0 = .ok (.aload_n 0, 1) := by decide +kernel
theorem dX6_push_1 : decode cX6_push 1 = .ok (.getfield 46, 3) := by decide +kernel
theorem dX6_push_4 : decode cX6_push 4 = .ok (.aload_n 0, 1) := by decide +kernel
theorem dX6_push_5 : decode cX6_push 5 = .ok (.getfield 115, 3) := by decide +kernel
theorem dX6_push_8 : decode cX6_push 8 = .ok (.iload_n 1, 1) := by decide +kernel
theorem dX6_push_9 : decode cX6_push 9 = .ok (.iastore, 1) := by decide +kernel
theorem dX6_push_10 : decode cX6_push 10 = .ok (.aload_n 0, 1) := by decide +kernel
theorem dX6_push_11 : decode cX6_push 11 = .ok (.getfield 49, 3) := by decide +kernel
theorem dX6_push_14 : decode cX6_push 14 = .ok (.aload_n 0, 1) := by decide +kernel
theorem dX6_push_15 : decode cX6_push 15 = .ok (.getfield 115, 3) := by decide +kernel
theorem dX6_push_18 : decode cX6_push 18 = .ok (.iconst 0, 1) := by decide +kernel
theorem dX6_push_19 : decode cX6_push 19 = .ok (.iastore, 1) := by decide +kernel
theorem dX6_push_20 : decode cX6_push 20 = .ok (.aload_n 0, 1) := by decide +kernel
theorem dX6_push_21 : decode cX6_push 21 = .ok (.getfield 52, 3) := by decide +kernel
theorem dX6_push_24 : decode cX6_push 24 = .ok (.aload_n 0, 1) := by decide +kernel
theorem dX6_push_25 : decode cX6_push 25 = .ok (.getfield 115, 3) := by decide +kernel
theorem dX6_push_28 : decode cX6_push 28 = .ok (.iload_n 2, 1) := by decide +kernel
theorem dX6_push_29 : decode cX6_push 29 = .ok (.iastore, 1) := by decide +kernel
theorem dX6_push_30 : decode cX6_push 30 = .ok (.aload_n 0, 1) := by decide +kernel
theorem dX6_push_31 : decode cX6_push 31 = .ok (.getfield 55, 3) := by decide +kernel
theorem dX6_push_34 : decode cX6_push 34 = .ok (.aload_n 0, 1) := by decide +kernel
theorem dX6_push_35 : decode cX6_push 35 = .ok (.getfield 115, 3) := by decide +kernel
theorem dX6_push_38 : decode cX6_push 38 = .ok (.iconst 0, 1) := by decide +kernel
theorem dX6_push_39 : decode cX6_push 39 = .ok (.iastore, 1) := by decide +kernel
theorem dX6_push_40 : decode cX6_push 40 = .ok (.aload_n 0, 1) := by decide +kernel
theorem dX6_push_41 : decode cX6_push 41 = .ok (.getfield 58, 3) := by decide +kernel
theorem dX6_push_44 : decode cX6_push 44 = .ok (.aload_n 0, 1) := by decide +kernel
theorem dX6_push_45 : decode cX6_push 45 = .ok (.getfield 115, 3) := by decide +kernel
theorem dX6_push_48 : decode cX6_push 48 = .ok (.iconst 0, 1) := by decide +kernel
theorem dX6_push_49 : decode cX6_push 49 = .ok (.iastore, 1) := by decide +kernel
theorem dX6_push_50 : decode cX6_push 50 = .ok (.aload_n 0, 1) := by decide +kernel
theorem dX6_push_51 : decode cX6_push 51 = .ok (.dup, 1) := by decide +kernel
theorem dX6_push_52 : decode cX6_push 52 = .ok (.getfield 115, 3) := by decide +kernel
theorem dX6_push_55 : decode cX6_push 55 = .ok (.iconst 1, 1) := by decide +kernel
theorem dX6_push_56 : decode cX6_push 56 = .ok (.iadd, 1) := by decide +kernel
theorem dX6_push_57 : decode cX6_push 57 = .ok (.putfield 115, 3) := by decide +kernel
theorem dX6_push_60 : decode cX6_push 60 = .ok (.return_, 1) := by decide +kernel
theorem dX6_fresh_0 : decode cX6_fresh 0 = .ok (.aload_n 0, 1) := by decide +kernel
theorem dX6_fresh_1 : decode cX6_fresh 1 = .ok (.dup, 1) := by decide +kernel
theorem dX6_fresh_2 : decode cX6_fresh 2 = .ok (.getfield 118, 3) := by decide +kernel
theorem dX6_fresh_5 : decode cX6_fresh 5 = .ok (.iconst 1, 1) := by decide +kernel
theorem dX6_fresh_6 : decode cX6_fresh 6 = .ok (.iadd, 1) := by decide +kernel
theorem dX6_fresh_7 : decode cX6_fresh 7 = .ok (.putfield 118, 3) := by decide +kernel
theorem dX6_fresh_10 : decode cX6_fresh 10 = .ok (.aload_n 0, 1) := by decide +kernel
theorem dX6_fresh_11 : decode cX6_fresh 11 = .ok (.getfield 13, 3) := by decide +kernel
theorem dX6_fresh_14 : decode cX6_fresh 14 = .ok (.aload_n 0, 1) := by decide +kernel
theorem dX6_fresh_15 : decode cX6_fresh 15 = .ok (.getfield 118, 3) := by decide +kernel
theorem dX6_fresh_18 : decode cX6_fresh 18 = .ok (.iload_n 1, 1) := by decide +kernel
theorem dX6_fresh_19 : decode cX6_fresh 19 = .ok (.iastore, 1) := by decide +kernel
theorem dX6_fresh_20 : decode cX6_fresh 20 = .ok (.aload_n 0, 1) := by decide +kernel
theorem dX6_fresh_21 : decode cX6_fresh 21 = .ok (.getfield 16, 3) := by decide +kernel
theorem dX6_fresh_24 : decode cX6_fresh 24 = .ok (.aload_n 0, 1) := by decide +kernel
theorem dX6_fresh_25 : decode cX6_fresh 25 = .ok (.getfield 118, 3) := by decide +kernel
theorem dX6_fresh_28 : decode cX6_fresh 28 = .ok (.iconst 0, 1) := by decide +kernel
theorem dX6_fresh_29 : decode cX6_fresh 29 = .ok (.iastore, 1) := by decide +kernel
theorem dX6_fresh_30 : decode cX6_fresh 30 = .ok (.aload_n 0, 1) := by decide +kernel
theorem dX6_fresh_31 : decode cX6_fresh 31 = .ok (.getfield 19, 3) := by decide +kernel
theorem dX6_fresh_34 : decode cX6_fresh 34 = .ok (.aload_n 0, 1) := by decide +kernel
theorem dX6_fresh_35 : decode cX6_fresh 35 = .ok (.getfield 118, 3) := by decide +kernel
theorem dX6_fresh_38 : decode cX6_fresh 38 = .ok (.iconst 0, 1) := by decide +kernel
theorem dX6_fresh_39 : decode cX6_fresh 39 = .ok (.iastore, 1) := by decide +kernel
theorem dX6_fresh_40 : decode cX6_fresh 40 = .ok (.aload_n 0, 1) := by decide +kernel
theorem dX6_fresh_41 : decode cX6_fresh 41 = .ok (.getfield 22, 3) := by decide +kernel
theorem dX6_fresh_44 : decode cX6_fresh 44 = .ok (.aload_n 0, 1) := by decide +kernel
theorem dX6_fresh_45 : decode cX6_fresh 45 = .ok (.getfield 118, 3) := by decide +kernel
theorem dX6_fresh_48 : decode cX6_fresh 48 = .ok (.iconst 0, 1) := by decide +kernel
theorem dX6_fresh_49 : decode cX6_fresh 49 = .ok (.iastore, 1) := by decide +kernel
theorem dX6_fresh_50 : decode cX6_fresh 50 = .ok (.aload_n 0, 1) := by decide +kernel
theorem dX6_fresh_51 : decode cX6_fresh 51 = .ok (.getfield 31, 3) := by decide +kernel
theorem dX6_fresh_54 : decode cX6_fresh 54 = .ok (.aload_n 0, 1) := by decide +kernel
theorem dX6_fresh_55 : decode cX6_fresh 55 = .ok (.getfield 118, 3) := by decide +kernel
theorem dX6_fresh_58 : decode cX6_fresh 58 = .ok (.iconst 0, 1) := by decide +kernel
theorem dX6_fresh_59 : decode cX6_fresh 59 = .ok (.iastore, 1) := by decide +kernel
theorem dX6_fresh_60 : decode cX6_fresh 60 = .ok (.aload_n 0, 1) := by decide +kernel
theorem dX6_fresh_61 : decode cX6_fresh 61 = .ok (.getfield 118, 3) := by decide +kernel
theorem dX6_fresh_64 : decode cX6_fresh 64 = .ok (.ireturn, 1) := by decide +kernel
theorem dX6_add_0 : decode cX6_add 0 = .ok (.aload_n 0, 1) := by decide +kernel
theorem dX6_add_1 : decode cX6_add 1 = .ok (.getfield 55, 3) := by decide +kernel
theorem dX6_add_4 : decode cX6_add 4 = .ok (.iload_n 1, 1) := by decide +kernel
theorem dX6_add_5 : decode cX6_add 5 = .ok (.iaload, 1) := by decide +kernel
theorem dX6_add_6 : decode cX6_add 6 = .ok (.ifCond .ne 21, 3) := by decide +kernel
theorem dX6_add_9 : decode cX6_add 9 = .ok (.aload_n 0, 1) := by decide +kernel
theorem dX6_add_10 : decode cX6_add 10 = .ok (.getfield 16, 3) := by decide +kernel
theorem dX6_add_13 : decode cX6_add 13 = .ok (.aload_n 0, 1) := by decide +kernel
theorem dX6_add_14 : decode cX6_add 14 = .ok (.getfield 49, 3) := by decide +kernel
theorem dX6_add_17 : decode cX6_add 17 = .ok (.iload_n 1, 1) := by decide +kernel
theorem dX6_add_18 : decode cX6_add 18 = .ok (.iaload, 1) := by decide +kernel
theorem dX6_add_19 : decode cX6_add 19 = .ok (.aload_n 0, 1) := by decide +kernel
theorem dX6_add_20 : decode cX6_add 20 = .ok (.getfield 121, 3) := by decide +kernel
theorem dX6_add_23 : decode cX6_add 23 = .ok (.iastore, 1) := by decide +kernel
theorem dX6_add_24 : decode cX6_add 24 = .ok (.goto 18, 3) := by decide +kernel
theorem dX6_add_27 : decode cX6_add 27 = .ok (.aload_n 0, 1) := by decide +kernel
theorem dX6_add_28 : decode cX6_add 28 = .ok (.getfield 19, 3) := by decide +kernel
theorem dX6_add_31 : decode cX6_add 31 = .ok (.aload_n 0, 1) := by decide +kernel
theorem dX6_add_32 : decode cX6_add 32 = .ok (.getfield 55, 3) := by decide +kernel
theorem dX6_add_35 : decode cX6_add 35 = .ok (.iload_n 1, 1) := by decide +kernel
theorem dX6_add_36 : decode cX6_add 36 = .ok (.iaload, 1) := by decide +kernel
theorem dX6_add_37 : decode cX6_add 37 = .ok (.aload_n 0, 1) := by decide +kernel
theorem dX6_add_38 : decode cX6_add 38 = .ok (.getfield 121, 3) := by decide +kernel
theorem dX6_add_41 : decode cX6_add 41 = .ok (.iastore, 1) := by decide +kernel
theorem dX6_add_42 : decode cX6_add 42 = .ok (.aload_n 0, 1) := by decide +kernel
theorem dX6_add_43 : decode cX6_add 43 = .ok (.getfield 55, 3) := by decide +kernel
theorem dX6_add_46 : decode cX6_add 46 = .ok (.iload_n 1, 1) := by decide +kernel
theorem dX6_add_47 : decode cX6_add 47 = .ok (.aload_n 0, 1) := by decide +kernel
theorem dX6_add_48 : decode cX6_add 48 = .ok (.getfield 121, 3) := by decide +kernel
theorem dX6_add_51 : decode cX6_add 51 = .ok (.iastore, 1) := by decide +kernel
theorem dX6_add_52 : decode cX6_add 52 = .ok (.return_, 1) := by decide +kernel
theorem dX6_done_0 : decode cX6_done 0 = .ok (.aload_n 0, 1) := by decide +kernel
theorem dX6_done_1 : decode cX6_done 1 = .ok (.iload_n 1, 1) := by decide +kernel
theorem dX6_done_2 : decode cX6_done 2 = .ok (.putfield 121, 3) := by decide +kernel
theorem dX6_done_5 : decode cX6_done 5 = .ok (.aload_n 0, 1) := by decide +kernel
theorem dX6_done_6 : decode cX6_done 6 = .ok (.dup, 1) := by decide +kernel
theorem dX6_done_7 : decode cX6_done 7 = .ok (.getfield 115, 3) := by decide +kernel
theorem dX6_done_10 : decode cX6_done 10 = .ok (.iconst 1, 1) := by decide +kernel
theorem dX6_done_11 : decode cX6_done 11 = .ok (.isub, 1) := by decide +kernel
theorem dX6_done_12 : decode cX6_done 12 = .ok (.putfield 115, 3) := by decide +kernel
theorem dX6_done_15 : decode cX6_done 15 = .ok (.return_, 1) := by decide +kernel
theorem dX6_need_0 : decode cX6_need 0 = .ok (.iload_n 1, 1) := by decide +kernel
theorem dX6_need_1 : decode cX6_need 1 = .ok (.ifCond .ne 8, 3) := by decide +kernel
theorem dX6_need_4 : decode cX6_need 4 = .ok (.aload_n 0, 1) := by decide +kernel
theorem dX6_need_5 : decode cX6_need 5 = .ok (.iconst 1, 1) := by decide +kernel
theorem dX6_need_6 : decode cX6_need 6 = .ok (.putfield 124, 3) := by decide +kernel
theorem dX6_need_9 : decode cX6_need 9 = .ok (.return_, 1) := by decide +kernel
theorem dX6_declare_0 : decode cX6_declare 0 = .ok (.aload_n 0, 1) := by decide +kernel
theorem dX6_declare_1 : decode cX6_declare 1 = .ok (.getfield 128, 3) := by decide +kernel
theorem dX6_declare_4 : decode cX6_declare 4 = .ok (.iconst 1, 1) := by decide +kernel
theorem dX6_declare_5 : decode cX6_declare 5 = .ok (.isub, 1) := by decide +kernel
theorem dX6_declare_6 : decode cX6_declare 6 = .ok (.istore 4, 2) := by decide +kernel
theorem dX6_declare_8 : decode cX6_declare 8 = .ok (.iload 4, 2) := by decide +kernel
theorem dX6_declare_10 : decode cX6_declare 10 = .ok (.ifCond .lt 39, 3) := by decide +kernel
theorem dX6_declare_13 : decode cX6_declare 13 = .ok (.aload_n 0, 1) := by decide +kernel
theorem dX6_declare_14 : decode cX6_declare 14 = .ok (.getfield 70, 3) := by decide +kernel
theorem dX6_declare_17 : decode cX6_declare 17 = .ok (.iload 4, 2) := by decide +kernel
theorem dX6_declare_19 : decode cX6_declare 19 = .ok (.iaload, 1) := by decide +kernel
theorem dX6_declare_20 : decode cX6_declare 20 = .ok (.aload_n 0, 1) := by decide +kernel
theorem dX6_declare_21 : decode cX6_declare 21 = .ok (.getfield 131, 3) := by decide +kernel
theorem dX6_declare_24 : decode cX6_declare 24 = .ok (.if_icmp .ne 25, 3) := by decide +kernel
theorem dX6_declare_27 : decode cX6_declare 27 = .ok (.aload_n 0, 1) := by decide +kernel
theorem dX6_declare_28 : decode cX6_declare 28 = .ok (.getfield 61, 3) := by decide +kernel
theorem dX6_declare_31 : decode cX6_declare 31 = .ok (.iload 4, 2) := by decide +kernel
theorem dX6_declare_33 : decode cX6_declare 33 = .ok (.iaload, 1) := by decide +kernel
theorem dX6_declare_34 : decode cX6_declare 34 = .ok (.iload_n 1, 1) := by decide +kernel
theorem dX6_declare_35 : decode cX6_declare 35 = .ok (.if_icmp .ne 8, 3) := by decide +kernel
theorem dX6_declare_38 : decode cX6_declare 38 = .ok (.aload_n 0, 1) := by decide +kernel
theorem dX6_declare_39 : decode cX6_declare 39 = .ok (.iconst 1, 1) := by decide +kernel
theorem dX6_declare_40 : decode cX6_declare 40 = .ok (.putfield 134, 3) := by decide +kernel
theorem dX6_declare_43 : decode cX6_declare 43 = .ok (.iinc 4 (-1), 3) := by decide +kernel
theorem dX6_declare_46 : decode cX6_declare 46 = .ok (.goto (-38), 3) := by decide +kernel
theorem dX6_declare_49 : decode cX6_declare 49 = .ok (.aload_n 0, 1) := by decide +kernel
theorem dX6_declare_50 : decode cX6_declare 50 = .ok (.getfield 61, 3) := by decide +kernel
theorem dX6_declare_53 : decode cX6_declare 53 = .ok (.aload_n 0, 1) := by decide +kernel
theorem dX6_declare_54 : decode cX6_declare 54 = .ok (.getfield 128, 3) := by decide +kernel
theorem dX6_declare_57 : decode cX6_declare 57 = .ok (.iload_n 1, 1) := by decide +kernel
theorem dX6_declare_58 : decode cX6_declare 58 = .ok (.iastore, 1) := by decide +kernel
theorem dX6_declare_59 : decode cX6_declare 59 = .ok (.aload_n 0, 1) := by decide +kernel
theorem dX6_declare_60 : decode cX6_declare 60 = .ok (.getfield 64, 3) := by decide +kernel
theorem dX6_declare_63 : decode cX6_declare 63 = .ok (.aload_n 0, 1) := by decide +kernel
theorem dX6_declare_64 : decode cX6_declare 64 = .ok (.getfield 128, 3) := by decide +kernel
theorem dX6_declare_67 : decode cX6_declare 67 = .ok (.iload_n 2, 1) := by decide +kernel
theorem dX6_declare_68 : decode cX6_declare 68 = .ok (.iastore, 1) := by decide +kernel
theorem dX6_declare_69 : decode cX6_declare 69 = .ok (.aload_n 0, 1) := by decide +kernel
theorem dX6_declare_70 : decode cX6_declare 70 = .ok (.getfield 67, 3) := by decide +kernel
theorem dX6_declare_73 : decode cX6_declare 73 = .ok (.aload_n 0, 1) := by decide +kernel
theorem dX6_declare_74 : decode cX6_declare 74 = .ok (.getfield 128, 3) := by decide +kernel
theorem dX6_declare_77 : decode cX6_declare 77 = .ok (.iload_n 3, 1) := by decide +kernel
theorem dX6_declare_78 : decode cX6_declare 78 = .ok (.iastore, 1) := by decide +kernel
theorem dX6_declare_79 : decode cX6_declare 79 = .ok (.aload_n 0, 1) := by decide +kernel
theorem dX6_declare_80 : decode cX6_declare 80 = .ok (.getfield 70, 3) := by decide +kernel
theorem dX6_declare_83 : decode cX6_declare 83 = .ok (.aload_n 0, 1) := by decide +kernel
theorem dX6_declare_84 : decode cX6_declare 84 = .ok (.getfield 128, 3) := by decide +kernel
theorem dX6_declare_87 : decode cX6_declare 87 = .ok (.aload_n 0, 1) := by decide +kernel
theorem dX6_declare_88 : decode cX6_declare 88 = .ok (.getfield 131, 3) := by decide +kernel
theorem dX6_declare_91 : decode cX6_declare 91 = .ok (.iastore, 1) := by decide +kernel
theorem dX6_declare_92 : decode cX6_declare 92 = .ok (.aload_n 0, 1) := by decide +kernel
theorem dX6_declare_93 : decode cX6_declare 93 = .ok (.dup, 1) := by decide +kernel
theorem dX6_declare_94 : decode cX6_declare 94 = .ok (.getfield 128, 3) := by decide +kernel
theorem dX6_declare_97 : decode cX6_declare 97 = .ok (.iconst 1, 1) := by decide +kernel
theorem dX6_declare_98 : decode cX6_declare 98 = .ok (.iadd, 1) := by decide +kernel
theorem dX6_declare_99 : decode cX6_declare 99 = .ok (.putfield 128, 3) := by decide +kernel
theorem dX6_declare_102 : decode cX6_declare 102 = .ok (.return_, 1) := by decide +kernel
theorem dX6_leave_0 : decode cX6_leave 0 = .ok (.aload_n 0, 1) := by decide +kernel
theorem dX6_leave_1 : decode cX6_leave 1 = .ok (.getfield 128, 3) := by decide +kernel
theorem dX6_leave_4 : decode cX6_leave 4 = .ok (.ifCond .le 34, 3) := by decide +kernel
theorem dX6_leave_7 : decode cX6_leave 7 = .ok (.aload_n 0, 1) := by decide +kernel
theorem dX6_leave_8 : decode cX6_leave 8 = .ok (.getfield 70, 3) := by decide +kernel
theorem dX6_leave_11 : decode cX6_leave 11 = .ok (.aload_n 0, 1) := by decide +kernel
theorem dX6_leave_12 : decode cX6_leave 12 = .ok (.getfield 128, 3) := by decide +kernel
theorem dX6_leave_15 : decode cX6_leave 15 = .ok (.iconst 1, 1) := by decide +kernel
theorem dX6_leave_16 : decode cX6_leave 16 = .ok (.isub, 1) := by decide +kernel
theorem dX6_leave_17 : decode cX6_leave 17 = .ok (.iaload, 1) := by decide +kernel
theorem dX6_leave_18 : decode cX6_leave 18 = .ok (.aload_n 0, 1) := by decide +kernel
theorem dX6_leave_19 : decode cX6_leave 19 = .ok (.getfield 131, 3) := by decide +kernel
theorem dX6_leave_22 : decode cX6_leave 22 = .ok (.if_icmp .ne 16, 3) := by decide +kernel
theorem dX6_leave_25 : decode cX6_leave 25 = .ok (.aload_n 0, 1) := by decide +kernel
theorem dX6_leave_26 : decode cX6_leave 26 = .ok (.dup, 1) := by decide +kernel
theorem dX6_leave_27 : decode cX6_leave 27 = .ok (.getfield 128, 3) := by decide +kernel
theorem dX6_leave_30 : decode cX6_leave 30 = .ok (.iconst 1, 1) := by decide +kernel
theorem dX6_leave_31 : decode cX6_leave 31 = .ok (.isub, 1) := by decide +kernel
theorem dX6_leave_32 : decode cX6_leave 32 = .ok (.putfield 128, 3) := by decide +kernel
theorem dX6_leave_35 : decode cX6_leave 35 = .ok (.goto (-35), 3) := by decide +kernel
theorem dX6_leave_38 : decode cX6_leave 38 = .ok (.aload_n 0, 1) := by decide +kernel
theorem dX6_leave_39 : decode cX6_leave 39 = .ok (.dup, 1) := by decide +kernel
theorem dX6_leave_40 : decode cX6_leave 40 = .ok (.getfield 131, 3) := by decide +kernel
theorem dX6_leave_43 : decode cX6_leave 43 = .ok (.iconst 1, 1) := by decide +kernel
theorem dX6_leave_44 : decode cX6_leave 44 = .ok (.isub, 1) := by decide +kernel
theorem dX6_leave_45 : decode cX6_leave 45 = .ok (.putfield 131, 3) := by decide +kernel
theorem dX6_leave_48 : decode cX6_leave 48 = .ok (.return_, 1) := by decide +kernel
theorem dX6_use_0 : decode cX6_use 0 = .ok (.aload_n 0, 1) := by decide +kernel
theorem dX6_use_1 : decode cX6_use 1 = .ok (.iload_n 1, 1) := by decide +kernel
theorem dX6_use_2 : decode cX6_use 2 = .ok (.invokevirtual 137, 3) := by decide +kernel
theorem dX6_use_5 : decode cX6_use 5 = .ok (.istore_n 3, 1) := by decide +kernel
theorem dX6_use_6 : decode cX6_use 6 = .ok (.aload_n 0, 1) := by decide +kernel
theorem dX6_use_7 : decode cX6_use 7 = .ok (.getfield 128, 3) := by decide +kernel
theorem dX6_use_10 : decode cX6_use 10 = .ok (.iconst 1, 1) := by decide +kernel
theorem dX6_use_11 : decode cX6_use 11 = .ok (.isub, 1) := by decide +kernel
theorem dX6_use_12 : decode cX6_use 12 = .ok (.istore 4, 2) := by decide +kernel
theorem dX6_use_14 : decode cX6_use 14 = .ok (.iload 4, 2) := by decide +kernel
theorem dX6_use_16 : decode cX6_use 16 = .ok (.ifCond .lt 20, 3) := by decide +kernel
theorem dX6_use_19 : decode cX6_use 19 = .ok (.aload_n 0, 1) := by decide +kernel
theorem dX6_use_20 : decode cX6_use 20 = .ok (.getfield 61, 3) := by decide +kernel
theorem dX6_use_23 : decode cX6_use 23 = .ok (.iload 4, 2) := by decide +kernel
theorem dX6_use_25 : decode cX6_use 25 = .ok (.iaload, 1) := by decide +kernel
theorem dX6_use_26 : decode cX6_use 26 = .ok (.iload_n 2, 1) := by decide +kernel
theorem dX6_use_27 : decode cX6_use 27 = .ok (.if_icmp .eq 9, 3) := by decide +kernel
theorem dX6_use_30 : decode cX6_use 30 = .ok (.iinc 4 (-1), 3) := by decide +kernel
theorem dX6_use_33 : decode cX6_use 33 = .ok (.goto (-19), 3) := by decide +kernel
theorem dX6_use_36 : decode cX6_use 36 = .ok (.iload 4, 2) := by decide +kernel
theorem dX6_use_38 : decode cX6_use 38 = .ok (.ifCond .ge 11, 3) := by decide +kernel
theorem dX6_use_41 : decode cX6_use 41 = .ok (.aload_n 0, 1) := by decide +kernel
theorem dX6_use_42 : decode cX6_use 42 = .ok (.iconst 1, 1) := by decide +kernel
theorem dX6_use_43 : decode cX6_use 43 = .ok (.putfield 134, 3) := by decide +kernel
theorem dX6_use_46 : decode cX6_use 46 = .ok (.goto 47, 3) := by decide +kernel
theorem dX6_use_49 : decode cX6_use 49 = .ok (.aload_n 0, 1) := by decide +kernel
theorem dX6_use_50 : decode cX6_use 50 = .ok (.getfield 22, 3) := by decide +kernel
theorem dX6_use_53 : decode cX6_use 53 = .ok (.iload_n 3, 1) := by decide +kernel
theorem dX6_use_54 : decode cX6_use 54 = .ok (.aload_n 0, 1) := by decide +kernel
theorem dX6_use_55 : decode cX6_use 55 = .ok (.getfield 64, 3) := by decide +kernel
theorem dX6_use_58 : decode cX6_use 58 = .ok (.iload 4, 2) := by decide +kernel
theorem dX6_use_60 : decode cX6_use 60 = .ok (.iaload, 1) := by decide +kernel
theorem dX6_use_61 : decode cX6_use 61 = .ok (.iastore, 1) := by decide +kernel
theorem dX6_use_62 : decode cX6_use 62 = .ok (.aload_n 0, 1) := by decide +kernel
theorem dX6_use_63 : decode cX6_use 63 = .ok (.getfield 25, 3) := by decide +kernel
theorem dX6_use_66 : decode cX6_use 66 = .ok (.iload_n 3, 1) := by decide +kernel
theorem dX6_use_67 : decode cX6_use 67 = .ok (.aload_n 0, 1) := by decide +kernel
theorem dX6_use_68 : decode cX6_use 68 = .ok (.getfield 67, 3) := by decide +kernel
theorem dX6_use_71 : decode cX6_use 71 = .ok (.iload 4, 2) := by decide +kernel
theorem dX6_use_73 : decode cX6_use 73 = .ok (.iaload, 1) := by decide +kernel
theorem dX6_use_74 : decode cX6_use 74 = .ok (.iastore, 1) := by decide +kernel
theorem dX6_use_75 : decode cX6_use 75 = .ok (.aload_n 0, 1) := by decide +kernel
theorem dX6_use_76 : decode cX6_use 76 = .ok (.getfield 28, 3) := by decide +kernel
theorem dX6_use_79 : decode cX6_use 79 = .ok (.iload_n 3, 1) := by decide +kernel
theorem dX6_use_80 : decode cX6_use 80 = .ok (.aload_n 0, 1) := by decide +kernel
theorem dX6_use_81 : decode cX6_use 81 = .ok (.getfield 131, 3) := by decide +kernel
theorem dX6_use_84 : decode cX6_use 84 = .ok (.aload_n 0, 1) := by decide +kernel
theorem dX6_use_85 : decode cX6_use 85 = .ok (.getfield 70, 3) := by decide +kernel
theorem dX6_use_88 : decode cX6_use 88 = .ok (.iload 4, 2) := by decide +kernel
theorem dX6_use_90 : decode cX6_use 90 = .ok (.iaload, 1) := by decide +kernel
theorem dX6_use_91 : decode cX6_use 91 = .ok (.isub, 1) := by decide +kernel
theorem dX6_use_92 : decode cX6_use 92 = .ok (.iastore, 1) := by decide +kernel
theorem dX6_use_93 : decode cX6_use 93 = .ok (.iload_n 3, 1) := by decide +kernel
theorem dX6_use_94 : decode cX6_use 94 = .ok (.ireturn, 1) := by decide +kernel
theorem dX6_goDeeper_0 : decode cX6_goDeeper 0 = .ok (.aload_n 0, 1) := by decide +kernel
theorem dX6_goDeeper_1 : decode cX6_goDeeper 1 = .ok (.aload_n 0, 1) := by decide +kernel
theorem dX6_goDeeper_2 : decode cX6_goDeeper 2 = .ok (.getfield 52, 3) := by decide +kernel
theorem dX6_goDeeper_5 : decode cX6_goDeeper 5 = .ok (.iload_n 1, 1) := by decide +kernel
theorem dX6_goDeeper_6 : decode cX6_goDeeper 6 = .ok (.iaload, 1) := by decide +kernel
theorem dX6_goDeeper_7 : decode cX6_goDeeper 7 = .ok (.bipush 10, 2) := by decide +kernel
theorem dX6_goDeeper_9 : decode cX6_goDeeper 9 = .ok (.if_icmp .gt 7, 3) := by decide +kernel
theorem dX6_goDeeper_12 : decode cX6_goDeeper 12 = .ok (.iconst 1, 1) := by decide +kernel
theorem dX6_goDeeper_13 : decode cX6_goDeeper 13 = .ok (.goto 4, 3) := by decide +kernel
theorem dX6_goDeeper_16 : decode cX6_goDeeper 16 = .ok (.iconst 0, 1) := by decide +kernel
theorem dX6_goDeeper_17 : decode cX6_goDeeper 17 = .ok (.invokevirtual 141, 3) := by decide +kernel
theorem dX6_goDeeper_20 : decode cX6_goDeeper 20 = .ok (.aload_n 0, 1) := by decide +kernel
theorem dX6_goDeeper_21 : decode cX6_goDeeper 21 = .ok (.getfield 52, 3) := by decide +kernel
theorem dX6_goDeeper_24 : decode cX6_goDeeper 24 = .ok (.iload_n 1, 1) := by decide +kernel
theorem dX6_goDeeper_25 : decode cX6_goDeeper 25 = .ok (.iaload, 1) := by decide +kernel
theorem dX6_goDeeper_26 : decode cX6_goDeeper 26 = .ok (.aload_n 0, 1) := by decide +kernel
theorem dX6_goDeeper_27 : decode cX6_goDeeper 27 = .ok (.getfield 145, 3) := by decide +kernel
theorem dX6_goDeeper_30 : decode cX6_goDeeper 30 = .ok (.if_icmp .le 13, 3) := by decide +kernel
theorem dX6_goDeeper_33 : decode cX6_goDeeper 33 = .ok (.aload_n 0, 1) := by decide +kernel
theorem dX6_goDeeper_34 : decode cX6_goDeeper 34 = .ok (.aload_n 0, 1) := by decide +kernel
theorem dX6_goDeeper_35 : decode cX6_goDeeper 35 = .ok (.getfield 52, 3) := by decide +kernel
theorem dX6_goDeeper_38 : decode cX6_goDeeper 38 = .ok (.iload_n 1, 1) := by decide +kernel
theorem dX6_goDeeper_39 : decode cX6_goDeeper 39 = .ok (.iaload, 1) := by decide +kernel
theorem dX6_goDeeper_40 : decode cX6_goDeeper 40 = .ok (.putfield 145, 3) := by decide +kernel
theorem dX6_goDeeper_43 : decode cX6_goDeeper 43 = .ok (.return_, 1) := by decide +kernel
theorem dX6_openStatement_0 : decode cX6_openStatement 0 = .ok (.aload_n 0, 1) := by decide +kernel
theorem dX6_openStatement_1 : decode cX6_openStatement 1 = .ok (.invokevirtual 107, 3) := by decide +kernel
theorem dX6_openStatement_4 : decode cX6_openStatement 4 = .ok (.istore_n 2, 1) := by decide +kernel
theorem dX6_openStatement_5 : decode cX6_openStatement 5 = .ok (.aload_n 0, 1) := by decide +kernel
theorem dX6_openStatement_6 : decode cX6_openStatement 6 = .ok (.getfield 52, 3) := by decide +kernel
theorem dX6_openStatement_9 : decode cX6_openStatement 9 = .ok (.iload_n 1, 1) := by decide +kernel
theorem dX6_openStatement_10 : decode cX6_openStatement 10 = .ok (.iaload, 1) := by decide +kernel
theorem dX6_openStatement_11 : decode cX6_openStatement 11 = .ok (.iconst 1, 1) := by decide +kernel
theorem dX6_openStatement_12 : decode cX6_openStatement 12 = .ok (.iadd, 1) := by decide +kernel
theorem dX6_openStatement_13 : decode cX6_openStatement 13 = .ok (.istore_n 3, 1) := by decide +kernel
theorem dX6_openStatement_14 : decode cX6_openStatement 14 = .ok (.aload_n 0, 1) := by decide +kernel
theorem dX6_openStatement_15 : decode cX6_openStatement 15 = .ok (.iload_n 1, 1) := by decide +kernel
theorem dX6_openStatement_16 : decode cX6_openStatement 16 = .ok (.invokevirtual 148, 3) := by decide +kernel
theorem dX6_openStatement_19 : decode cX6_openStatement 19 = .ok (.aload_n 0, 1) := by decide +kernel
theorem dX6_openStatement_20 : decode cX6_openStatement 20 = .ok (.dup, 1) := by decide +kernel
theorem dX6_openStatement_21 : decode cX6_openStatement 21 = .ok (.getfield 152, 3) := by decide +kernel
theorem dX6_openStatement_24 : decode cX6_openStatement 24 = .ok (.iconst 1, 1) := by decide +kernel
theorem dX6_openStatement_25 : decode cX6_openStatement 25 = .ok (.iadd, 1) := by decide +kernel
theorem dX6_openStatement_26 : decode cX6_openStatement 26 = .ok (.putfield 152, 3) := by decide +kernel
theorem dX6_openStatement_29 : decode cX6_openStatement 29 = .ok (.aload_n 0, 1) := by decide +kernel
theorem dX6_openStatement_30 : decode cX6_openStatement 30 = .ok (.dup, 1) := by decide +kernel
theorem dX6_openStatement_31 : decode cX6_openStatement 31 = .ok (.getfield 104, 3) := by decide +kernel
theorem dX6_openStatement_34 : decode cX6_openStatement 34 = .ok (.iconst 1, 1) := by decide +kernel
theorem dX6_openStatement_35 : decode cX6_openStatement 35 = .ok (.iadd, 1) := by decide +kernel
theorem dX6_openStatement_36 : decode cX6_openStatement 36 = .ok (.putfield 104, 3) := by decide +kernel
theorem dX6_openStatement_39 : decode cX6_openStatement 39 = .ok (.aload_n 0, 1) := by decide +kernel
theorem dX6_openStatement_40 : decode cX6_openStatement 40 = .ok (.iload_n 2, 1) := by decide +kernel
theorem dX6_openStatement_41 : decode cX6_openStatement 41 = .ok (.invokevirtual 155, 3) := by decide +kernel
theorem dX6_openStatement_44 : decode cX6_openStatement 44 = .ok (.ifCond .eq 82, 3) := by decide +kernel
theorem dX6_openStatement_47 : decode cX6_openStatement 47 = .ok (.aload_n 0, 1) := by decide +kernel
theorem dX6_openStatement_48 : decode cX6_openStatement 48 = .ok (.bipush 61, 2) := by decide +kernel
theorem dX6_openStatement_50 : decode cX6_openStatement 50 = .ok (.invokevirtual 159, 3) := by decide +kernel
theorem dX6_openStatement_53 : decode cX6_openStatement 53 = .ok (.ifCond .eq 33, 3) := by decide +kernel
theorem dX6_openStatement_56 : decode cX6_openStatement 56 = .ok (.aload_n 0, 1) := by decide +kernel
theorem dX6_openStatement_57 : decode cX6_openStatement 57 = .ok (.getfield 49, 3) := by decide +kernel
theorem dX6_openStatement_60 : decode cX6_openStatement 60 = .ok (.iload_n 1, 1) := by decide +kernel
theorem dX6_openStatement_61 : decode cX6_openStatement 61 = .ok (.aload_n 0, 1) := by decide +kernel
theorem dX6_openStatement_62 : decode cX6_openStatement 62 = .ok (.iconst 1, 1) := by decide +kernel
theorem dX6_openStatement_63 : decode cX6_openStatement 63 = .ok (.iload_n 2, 1) := by decide +kernel
theorem dX6_openStatement_64 : decode cX6_openStatement 64 = .ok (.invokevirtual 162, 3) := by decide +kernel
theorem dX6_openStatement_67 : decode cX6_openStatement 67 = .ok (.iastore, 1) := by decide +kernel
theorem dX6_openStatement_68 : decode cX6_openStatement 68 = .ok (.aload_n 0, 1) := by decide +kernel
theorem dX6_openStatement_69 : decode cX6_openStatement 69 = .ok (.getfield 46, 3) := by decide +kernel
theorem dX6_openStatement_72 : decode cX6_openStatement 72 = .ok (.iload_n 1, 1) := by decide +kernel
theorem dX6_openStatement_73 : decode cX6_openStatement 73 = .ok (.bipush 11, 2) := by decide +kernel
theorem dX6_openStatement_75 : decode cX6_openStatement 75 = .ok (.iastore, 1) := by decide +kernel
theorem dX6_openStatement_76 : decode cX6_openStatement 76 = .ok (.aload_n 0, 1) := by decide +kernel
theorem dX6_openStatement_77 : decode cX6_openStatement 77 = .ok (.bipush 30, 2) := by decide +kernel
theorem dX6_openStatement_79 : decode cX6_openStatement 79 = .ok (.iload_n 3, 1) := by decide +kernel
theorem dX6_openStatement_80 : decode cX6_openStatement 80 = .ok (.invokevirtual 166, 3) := by decide +kernel
theorem dX6_openStatement_83 : decode cX6_openStatement 83 = .ok (.goto 183, 3) := by decide +kernel
theorem dX6_openStatement_86 : decode cX6_openStatement 86 = .ok (.aload_n 0, 1) := by decide +kernel
theorem dX6_openStatement_87 : decode cX6_openStatement 87 = .ok (.bipush 40, 2) := by decide +kernel
theorem dX6_openStatement_89 : decode cX6_openStatement 89 = .ok (.invokevirtual 159, 3) := by decide +kernel
theorem dX6_openStatement_92 : decode cX6_openStatement 92 = .ok (.ifCond .eq 26, 3) := by decide +kernel
theorem dX6_openStatement_95 : decode cX6_openStatement 95 = .ok (.aload_n 0, 1) := by decide +kernel
theorem dX6_openStatement_96 : decode cX6_openStatement 96 = .ok (.getfield 49, 3) := by decide +kernel
theorem dX6_openStatement_99 : decode cX6_openStatement 99 = .ok (.iload_n 1, 1) := by decide +kernel
theorem dX6_openStatement_100 : decode cX6_openStatement 100 = .ok (.aload_n 0, 1) := by decide +kernel
theorem dX6_openStatement_101 : decode cX6_openStatement 101 = .ok (.iconst 2, 1) := by decide +kernel
theorem dX6_openStatement_102 : decode cX6_openStatement 102 = .ok (.iload_n 2, 1) := by decide +kernel
theorem dX6_openStatement_103 : decode cX6_openStatement 103 = .ok (.invokevirtual 162, 3) := by decide +kernel
theorem dX6_openStatement_106 : decode cX6_openStatement 106 = .ok (.iastore, 1) := by decide +kernel
theorem dX6_openStatement_107 : decode cX6_openStatement 107 = .ok (.aload_n 0, 1) := by decide +kernel
theorem dX6_openStatement_108 : decode cX6_openStatement 108 = .ok (.iload_n 1, 1) := by decide +kernel
theorem dX6_openStatement_109 : decode cX6_openStatement 109 = .ok (.bipush 12, 2) := by decide +kernel
theorem dX6_openStatement_111 : decode cX6_openStatement 111 = .ok (.iload_n 3, 1) := by decide +kernel
theorem dX6_openStatement_112 : decode cX6_openStatement 112 = .ok (.invokevirtual 170, 3) := by decide +kernel
theorem dX6_openStatement_115 : decode cX6_openStatement 115 = .ok (.goto 151, 3) := by decide +kernel
theorem dX6_openStatement_118 : decode cX6_openStatement 118 = .ok (.aload_n 0, 1) := by decide +kernel
theorem dX6_openStatement_119 : decode cX6_openStatement 119 = .ok (.iconst 1, 1) := by decide +kernel
theorem dX6_openStatement_120 : decode cX6_openStatement 120 = .ok (.putfield 124, 3) := by decide +kernel
theorem dX6_openStatement_123 : decode cX6_openStatement 123 = .ok (.goto 143, 3) := by decide +kernel
theorem dX6_openStatement_126 : decode cX6_openStatement 126 = .ok (.iload_n 2, 1) := by decide +kernel
theorem dX6_openStatement_127 : decode cX6_openStatement 127 = .ok (.bipush 33, 2) := by decide +kernel
theorem dX6_openStatement_129 : decode cX6_openStatement 129 = .ok (.if_icmp .ne 32, 3) := by decide +kernel
theorem dX6_openStatement_132 : decode cX6_openStatement 132 = .ok (.aload_n 0, 1) := by decide +kernel
theorem dX6_openStatement_133 : decode cX6_openStatement 133 = .ok (.getfield 49, 3) := by decide +kernel
theorem dX6_openStatement_136 : decode cX6_openStatement 136 = .ok (.iload_n 1, 1) := by decide +kernel
theorem dX6_openStatement_137 : decode cX6_openStatement 137 = .ok (.aload_n 0, 1) := by decide +kernel
theorem dX6_openStatement_138 : decode cX6_openStatement 138 = .ok (.iconst 3, 1) := by decide +kernel
theorem dX6_openStatement_139 : decode cX6_openStatement 139 = .ok (.invokevirtual 137, 3) := by decide +kernel
theorem dX6_openStatement_142 : decode cX6_openStatement 142 = .ok (.iastore, 1) := by decide +kernel
theorem dX6_openStatement_143 : decode cX6_openStatement 143 = .ok (.aload_n 0, 1) := by decide +kernel
theorem dX6_openStatement_144 : decode cX6_openStatement 144 = .ok (.getfield 46, 3) := by decide +kernel
theorem dX6_openStatement_147 : decode cX6_openStatement 147 = .ok (.iload_n 1, 1) := by decide +kernel
theorem dX6_openStatement_148 : decode cX6_openStatement 148 = .ok (.bipush 11, 2) := by decide +kernel
theorem dX6_openStatement_150 : decode cX6_openStatement 150 = .ok (.iastore, 1) := by decide +kernel
theorem dX6_openStatement_151 : decode cX6_openStatement 151 = .ok (.aload_n 0, 1) := by decide +kernel
theorem dX6_openStatement_152 : decode cX6_openStatement 152 = .ok (.bipush 30, 2) := by decide +kernel
theorem dX6_openStatement_154 : decode cX6_openStatement 154 = .ok (.iload_n 3, 1) := by decide +kernel
theorem dX6_openStatement_155 : decode cX6_openStatement 155 = .ok (.invokevirtual 166, 3) := by decide +kernel
theorem dX6_openStatement_158 : decode cX6_openStatement 158 = .ok (.goto 108, 3) := by decide +kernel
theorem dX6_openStatement_161 : decode cX6_openStatement 161 = .ok (.iload_n 2, 1) := by decide +kernel
theorem dX6_openStatement_162 : decode cX6_openStatement 162 = .ok (.bipush 63, 2) := by decide +kernel
theorem dX6_openStatement_164 : decode cX6_openStatement 164 = .ok (.if_icmp .eq 9, 3) := by decide +kernel
theorem dX6_openStatement_167 : decode cX6_openStatement 167 = .ok (.iload_n 2, 1) := by decide +kernel
theorem dX6_openStatement_168 : decode cX6_openStatement 168 = .ok (.bipush 42, 2) := by decide +kernel
theorem dX6_openStatement_170 : decode cX6_openStatement 170 = .ok (.if_icmp .ne 52, 3) := by decide +kernel
theorem dX6_openStatement_173 : decode cX6_openStatement 173 = .ok (.aload_n 0, 1) := by decide +kernel
theorem dX6_openStatement_174 : decode cX6_openStatement 174 = .ok (.aload_n 0, 1) := by decide +kernel
theorem dX6_openStatement_175 : decode cX6_openStatement 175 = .ok (.bipush 40, 2) := by decide +kernel
theorem dX6_openStatement_177 : decode cX6_openStatement 177 = .ok (.invokevirtual 159, 3) := by decide +kernel
theorem dX6_openStatement_180 : decode cX6_openStatement 180 = .ok (.invokevirtual 141, 3) := by decide +kernel
theorem dX6_openStatement_183 : decode cX6_openStatement 183 = .ok (.aload_n 0, 1) := by decide +kernel
theorem dX6_openStatement_184 : decode cX6_openStatement 184 = .ok (.getfield 49, 3) := by decide +kernel
theorem dX6_openStatement_187 : decode cX6_openStatement 187 = .ok (.iload_n 1, 1) := by decide +kernel
theorem dX6_openStatement_188 : decode cX6_openStatement 188 = .ok (.aload_n 0, 1) := by decide +kernel
theorem dX6_openStatement_189 : decode cX6_openStatement 189 = .ok (.iload_n 2, 1) := by decide +kernel
theorem dX6_openStatement_190 : decode cX6_openStatement 190 = .ok (.bipush 63, 2) := by decide +kernel
theorem dX6_openStatement_192 : decode cX6_openStatement 192 = .ok (.if_icmp .ne 7, 3) := by decide +kernel
theorem dX6_openStatement_195 : decode cX6_openStatement 195 = .ok (.iconst 4, 1) := by decide +kernel
theorem dX6_openStatement_196 : decode cX6_openStatement 196 = .ok (.goto 4, 3) := by decide +kernel
theorem dX6_openStatement_199 : decode cX6_openStatement 199 = .ok (.iconst 5, 1) := by decide +kernel
theorem dX6_openStatement_200 : decode cX6_openStatement 200 = .ok (.invokevirtual 137, 3) := by decide +kernel
theorem dX6_openStatement_203 : decode cX6_openStatement 203 = .ok (.iastore, 1) := by decide +kernel
theorem dX6_openStatement_204 : decode cX6_openStatement 204 = .ok (.aload_n 0, 1) := by decide +kernel
theorem dX6_openStatement_205 : decode cX6_openStatement 205 = .ok (.getfield 46, 3) := by decide +kernel
theorem dX6_openStatement_208 : decode cX6_openStatement 208 = .ok (.iload_n 1, 1) := by decide +kernel
theorem dX6_openStatement_209 : decode cX6_openStatement 209 = .ok (.bipush 14, 2) := by decide +kernel
theorem dX6_openStatement_211 : decode cX6_openStatement 211 = .ok (.iastore, 1) := by decide +kernel
theorem dX6_openStatement_212 : decode cX6_openStatement 212 = .ok (.aload_n 0, 1) := by decide +kernel
theorem dX6_openStatement_213 : decode cX6_openStatement 213 = .ok (.bipush 30, 2) := by decide +kernel
theorem dX6_openStatement_215 : decode cX6_openStatement 215 = .ok (.iload_n 3, 1) := by decide +kernel
theorem dX6_openStatement_216 : decode cX6_openStatement 216 = .ok (.invokevirtual 166, 3) := by decide +kernel
theorem dX6_openStatement_219 : decode cX6_openStatement 219 = .ok (.goto 47, 3) := by decide +kernel
theorem dX6_openStatement_222 : decode cX6_openStatement 222 = .ok (.iload_n 2, 1) := by decide +kernel
theorem dX6_openStatement_223 : decode cX6_openStatement 223 = .ok (.bipush 123, 2) := by decide +kernel
theorem dX6_openStatement_225 : decode cX6_openStatement 225 = .ok (.if_icmp .ne 36, 3) := by decide +kernel
theorem dX6_openStatement_228 : decode cX6_openStatement 228 = .ok (.aload_n 0, 1) := by decide +kernel
theorem dX6_openStatement_229 : decode cX6_openStatement 229 = .ok (.getfield 49, 3) := by decide +kernel
theorem dX6_openStatement_232 : decode cX6_openStatement 232 = .ok (.iload_n 1, 1) := by decide +kernel
theorem dX6_openStatement_233 : decode cX6_openStatement 233 = .ok (.aload_n 0, 1) := by decide +kernel
theorem dX6_openStatement_234 : decode cX6_openStatement 234 = .ok (.bipush 6, 2) := by decide +kernel
theorem dX6_openStatement_236 : decode cX6_openStatement 236 = .ok (.invokevirtual 137, 3) := by decide +kernel
theorem dX6_openStatement_239 : decode cX6_openStatement 239 = .ok (.iastore, 1) := by decide +kernel
theorem dX6_openStatement_240 : decode cX6_openStatement 240 = .ok (.aload_n 0, 1) := by decide +kernel
theorem dX6_openStatement_241 : decode cX6_openStatement 241 = .ok (.dup, 1) := by decide +kernel
theorem dX6_openStatement_242 : decode cX6_openStatement 242 = .ok (.getfield 131, 3) := by decide +kernel
theorem dX6_openStatement_245 : decode cX6_openStatement 245 = .ok (.iconst 1, 1) := by decide +kernel
theorem dX6_openStatement_246 : decode cX6_openStatement 246 = .ok (.iadd, 1) := by decide +kernel
theorem dX6_openStatement_247 : decode cX6_openStatement 247 = .ok (.putfield 131, 3) := by decide +kernel
theorem dX6_openStatement_250 : decode cX6_openStatement 250 = .ok (.aload_n 0, 1) := by decide +kernel
theorem dX6_openStatement_251 : decode cX6_openStatement 251 = .ok (.getfield 46, 3) := by decide +kernel
theorem dX6_openStatement_254 : decode cX6_openStatement 254 = .ok (.iload_n 1, 1) := by decide +kernel
theorem dX6_openStatement_255 : decode cX6_openStatement 255 = .ok (.bipush 19, 2) := by decide +kernel
theorem dX6_openStatement_257 : decode cX6_openStatement 257 = .ok (.iastore, 1) := by decide +kernel
