theorem dX6_openStatement_258 : decode cX6_openStatement 258 = .ok (.goto 8, 3) := by decide +kernel
theorem dX6_openStatement_261 : decode cX6_openStatement 261 = .ok (.aload_n 0, 1) := by decide +kernel
theorem dX6_openStatement_262 : decode cX6_openStatement 262 = .ok (.iconst 1, 1) := by decide +kernel
theorem dX6_openStatement_263 : decode cX6_openStatement 263 = .ok (.putfield 124, 3) := by decide +kernel
theorem dX6_openStatement_266 : decode cX6_openStatement 266 = .ok (.return_, 1) := by decide +kernel
theorem dX6_openList_0 : decode cX6_openList 0 = .ok (.aload_n 0, 1) := by decide +kernel
theorem dX6_openList_1 : decode cX6_openList 1 = .ok (.getfield 46, 3) := by decide +kernel
theorem dX6_openList_4 : decode cX6_openList 4 = .ok (.iload_n 1, 1) := by decide +kernel
theorem dX6_openList_5 : decode cX6_openList 5 = .ok (.iload_n 2, 1) := by decide +kernel
theorem dX6_openList_6 : decode cX6_openList 6 = .ok (.iastore, 1) := by decide +kernel
theorem dX6_openList_7 : decode cX6_openList 7 = .ok (.aload_n 0, 1) := by decide +kernel
theorem dX6_openList_8 : decode cX6_openList 8 = .ok (.bipush 41, 2) := by decide +kernel
theorem dX6_openList_10 : decode cX6_openList 10 = .ok (.invokevirtual 159, 3) := by decide +kernel
theorem dX6_openList_13 : decode cX6_openList 13 = .ok (.ifCond .eq 11, 3) := by decide +kernel
theorem dX6_openList_16 : decode cX6_openList 16 = .ok (.aload_n 0, 1) := by decide +kernel
theorem dX6_openList_17 : decode cX6_openList 17 = .ok (.iload_n 1, 1) := by decide +kernel
theorem dX6_openList_18 : decode cX6_openList 18 = .ok (.invokevirtual 174, 3) := by decide +kernel
theorem dX6_openList_21 : decode cX6_openList 21 = .ok (.goto 10, 3) := by decide +kernel
theorem dX6_openList_24 : decode cX6_openList 24 = .ok (.aload_n 0, 1) := by decide +kernel
theorem dX6_openList_25 : decode cX6_openList 25 = .ok (.bipush 30, 2) := by decide +kernel
theorem dX6_openList_27 : decode cX6_openList 27 = .ok (.iload_n 3, 1) := by decide +kernel
theorem dX6_openList_28 : decode cX6_openList 28 = .ok (.invokevirtual 166, 3) := by decide +kernel
theorem dX6_openList_31 : decode cX6_openList 31 = .ok (.return_, 1) := by decide +kernel
theorem dX6_closeList_0 : decode cX6_closeList 0 = .ok (.aload_n 0, 1) := by decide +kernel
theorem dX6_closeList_1 : decode cX6_closeList 1 = .ok (.getfield 46, 3) := by decide +kernel
theorem dX6_closeList_4 : decode cX6_closeList 4 = .ok (.iload_n 1, 1) := by decide +kernel
theorem dX6_closeList_5 : decode cX6_closeList 5 = .ok (.iaload, 1) := by decide +kernel
theorem dX6_closeList_6 : decode cX6_closeList 6 = .ok (.bipush 12, 2) := by decide +kernel
theorem dX6_closeList_8 : decode cX6_closeList 8 = .ok (.if_icmp .ne 13, 3) := by decide +kernel
theorem dX6_closeList_11 : decode cX6_closeList 11 = .ok (.aload_n 0, 1) := by decide +kernel
theorem dX6_closeList_12 : decode cX6_closeList 12 = .ok (.aload_n 0, 1) := by decide +kernel
theorem dX6_closeList_13 : decode cX6_closeList 13 = .ok (.bipush 59, 2) := by decide +kernel
theorem dX6_closeList_15 : decode cX6_closeList 15 = .ok (.invokevirtual 159, 3) := by decide +kernel
theorem dX6_closeList_18 : decode cX6_closeList 18 = .ok (.invokevirtual 141, 3) := by decide +kernel
theorem dX6_closeList_21 : decode cX6_closeList 21 = .ok (.aload_n 0, 1) := by decide +kernel
theorem dX6_closeList_22 : decode cX6_closeList 22 = .ok (.aload_n 0, 1) := by decide +kernel
theorem dX6_closeList_23 : decode cX6_closeList 23 = .ok (.getfield 49, 3) := by decide +kernel
theorem dX6_closeList_26 : decode cX6_closeList 26 = .ok (.iload_n 1, 1) := by decide +kernel
theorem dX6_closeList_27 : decode cX6_closeList 27 = .ok (.iaload, 1) := by decide +kernel
theorem dX6_closeList_28 : decode cX6_closeList 28 = .ok (.invokevirtual 177, 3) := by decide +kernel
theorem dX6_closeList_31 : decode cX6_closeList 31 = .ok (.return_, 1) := by decide +kernel
theorem dX6_onward_0 : decode cX6_onward 0 = .ok (.aload_n 0, 1) := by decide +kernel
theorem dX6_onward_1 : decode cX6_onward 1 = .ok (.getfield 52, 3) := by decide +kernel
theorem dX6_onward_4 : decode cX6_onward 4 = .ok (.iload_n 1, 1) := by decide +kernel
theorem dX6_onward_5 : decode cX6_onward 5 = .ok (.iaload, 1) := by decide +kernel
theorem dX6_onward_6 : decode cX6_onward 6 = .ok (.iconst 1, 1) := by decide +kernel
theorem dX6_onward_7 : decode cX6_onward 7 = .ok (.iadd, 1) := by decide +kernel
theorem dX6_onward_8 : decode cX6_onward 8 = .ok (.istore_n 2, 1) := by decide +kernel
theorem dX6_onward_9 : decode cX6_onward 9 = .ok (.aload_n 0, 1) := by decide +kernel
theorem dX6_onward_10 : decode cX6_onward 10 = .ok (.getfield 46, 3) := by decide +kernel
theorem dX6_onward_13 : decode cX6_onward 13 = .ok (.iload_n 1, 1) := by decide +kernel
theorem dX6_onward_14 : decode cX6_onward 14 = .ok (.iaload, 1) := by decide +kernel
theorem dX6_onward_15 : decode cX6_onward 15 = .ok (.lookupswitch 266 #[(11, 57), (12, 85), (14, 172), (15, 225), (16, 248), (40, 85)], 57) := by decide +kernel
theorem dX6_onward_72 : decode cX6_onward 72 = .ok (.aload_n 0, 1) := by decide +kernel
theorem dX6_onward_73 : decode cX6_onward 73 = .ok (.iload_n 1, 1) := by decide +kernel
theorem dX6_onward_74 : decode cX6_onward 74 = .ok (.invokevirtual 180, 3) := by decide +kernel
theorem dX6_onward_77 : decode cX6_onward 77 = .ok (.aload_n 0, 1) := by decide +kernel
theorem dX6_onward_78 : decode cX6_onward 78 = .ok (.aload_n 0, 1) := by decide +kernel
theorem dX6_onward_79 : decode cX6_onward 79 = .ok (.bipush 59, 2) := by decide +kernel
theorem dX6_onward_81 : decode cX6_onward 81 = .ok (.invokevirtual 159, 3) := by decide +kernel
theorem dX6_onward_84 : decode cX6_onward 84 = .ok (.invokevirtual 141, 3) := by decide +kernel
theorem dX6_onward_87 : decode cX6_onward 87 = .ok (.aload_n 0, 1) := by decide +kernel
theorem dX6_onward_88 : decode cX6_onward 88 = .ok (.aload_n 0, 1) := by decide +kernel
theorem dX6_onward_89 : decode cX6_onward 89 = .ok (.getfield 49, 3) := by decide +kernel
theorem dX6_onward_92 : decode cX6_onward 92 = .ok (.iload_n 1, 1) := by decide +kernel
theorem dX6_onward_93 : decode cX6_onward 93 = .ok (.iaload, 1) := by decide +kernel
theorem dX6_onward_94 : decode cX6_onward 94 = .ok (.invokevirtual 177, 3) := by decide +kernel
theorem dX6_onward_97 : decode cX6_onward 97 = .ok (.goto 190, 3) := by decide +kernel
theorem dX6_onward_100 : decode cX6_onward 100 = .ok (.aload_n 0, 1) := by decide +kernel
theorem dX6_onward_101 : decode cX6_onward 101 = .ok (.iload_n 1, 1) := by decide +kernel
theorem dX6_onward_102 : decode cX6_onward 102 = .ok (.invokevirtual 180, 3) := by decide +kernel
theorem dX6_onward_105 : decode cX6_onward 105 = .ok (.aload_n 0, 1) := by decide +kernel
theorem dX6_onward_106 : decode cX6_onward 106 = .ok (.getfield 31, 3) := by decide +kernel
theorem dX6_onward_109 : decode cX6_onward 109 = .ok (.aload_n 0, 1) := by decide +kernel
theorem dX6_onward_110 : decode cX6_onward 110 = .ok (.getfield 121, 3) := by decide +kernel
theorem dX6_onward_113 : decode cX6_onward 113 = .ok (.aload_n 0, 1) := by decide +kernel
theorem dX6_onward_114 : decode cX6_onward 114 = .ok (.getfield 58, 3) := by decide +kernel
theorem dX6_onward_117 : decode cX6_onward 117 = .ok (.iload_n 1, 1) := by decide +kernel
theorem dX6_onward_118 : decode cX6_onward 118 = .ok (.iaload, 1) := by decide +kernel
theorem dX6_onward_119 : decode cX6_onward 119 = .ok (.iastore, 1) := by decide +kernel
theorem dX6_onward_120 : decode cX6_onward 120 = .ok (.aload_n 0, 1) := by decide +kernel
theorem dX6_onward_121 : decode cX6_onward 121 = .ok (.getfield 58, 3) := by decide +kernel
theorem dX6_onward_124 : decode cX6_onward 124 = .ok (.iload_n 1, 1) := by decide +kernel
theorem dX6_onward_125 : decode cX6_onward 125 = .ok (.dup2, 1) := by decide +kernel
theorem dX6_onward_126 : decode cX6_onward 126 = .ok (.iaload, 1) := by decide +kernel
theorem dX6_onward_127 : decode cX6_onward 127 = .ok (.iconst 1, 1) := by decide +kernel
theorem dX6_onward_128 : decode cX6_onward 128 = .ok (.iadd, 1) := by decide +kernel
theorem dX6_onward_129 : decode cX6_onward 129 = .ok (.iastore, 1) := by decide +kernel
theorem dX6_onward_130 : decode cX6_onward 130 = .ok (.aload_n 0, 1) := by decide +kernel
theorem dX6_onward_131 : decode cX6_onward 131 = .ok (.bipush 44, 2) := by decide +kernel
theorem dX6_onward_133 : decode cX6_onward 133 = .ok (.invokevirtual 159, 3) := by decide +kernel
theorem dX6_onward_136 : decode cX6_onward 136 = .ok (.ifCond .eq 33, 3) := by decide +kernel
theorem dX6_onward_139 : decode cX6_onward 139 = .ok (.aload_n 0, 1) := by decide +kernel
theorem dX6_onward_140 : decode cX6_onward 140 = .ok (.aload_n 0, 1) := by decide +kernel
theorem dX6_onward_141 : decode cX6_onward 141 = .ok (.getfield 58, 3) := by decide +kernel
theorem dX6_onward_144 : decode cX6_onward 144 = .ok (.iload_n 1, 1) := by decide +kernel
theorem dX6_onward_145 : decode cX6_onward 145 = .ok (.iaload, 1) := by decide +kernel
theorem dX6_onward_146 : decode cX6_onward 146 = .ok (.bipush 6, 2) := by decide +kernel
theorem dX6_onward_148 : decode cX6_onward 148 = .ok (.if_icmp .ge 7, 3) := by decide +kernel
theorem dX6_onward_151 : decode cX6_onward 151 = .ok (.iconst 1, 1) := by decide +kernel
theorem dX6_onward_152 : decode cX6_onward 152 = .ok (.goto 4, 3) := by decide +kernel
theorem dX6_onward_155 : decode cX6_onward 155 = .ok (.iconst 0, 1) := by decide +kernel
theorem dX6_onward_156 : decode cX6_onward 156 = .ok (.invokevirtual 141, 3) := by decide +kernel
theorem dX6_onward_159 : decode cX6_onward 159 = .ok (.aload_n 0, 1) := by decide +kernel
theorem dX6_onward_160 : decode cX6_onward 160 = .ok (.bipush 30, 2) := by decide +kernel
theorem dX6_onward_162 : decode cX6_onward 162 = .ok (.iload_n 2, 1) := by decide +kernel
theorem dX6_onward_163 : decode cX6_onward 163 = .ok (.invokevirtual 166, 3) := by decide +kernel
theorem dX6_onward_166 : decode cX6_onward 166 = .ok (.goto 121, 3) := by decide +kernel
theorem dX6_onward_169 : decode cX6_onward 169 = .ok (.aload_n 0, 1) := by decide +kernel
theorem dX6_onward_170 : decode cX6_onward 170 = .ok (.aload_n 0, 1) := by decide +kernel
theorem dX6_onward_171 : decode cX6_onward 171 = .ok (.bipush 41, 2) := by decide +kernel
theorem dX6_onward_173 : decode cX6_onward 173 = .ok (.invokevirtual 159, 3) := by decide +kernel
theorem dX6_onward_176 : decode cX6_onward 176 = .ok (.invokevirtual 141, 3) := by decide +kernel
theorem dX6_onward_179 : decode cX6_onward 179 = .ok (.aload_n 0, 1) := by decide +kernel
theorem dX6_onward_180 : decode cX6_onward 180 = .ok (.iload_n 1, 1) := by decide +kernel
theorem dX6_onward_181 : decode cX6_onward 181 = .ok (.invokevirtual 174, 3) := by decide +kernel
theorem dX6_onward_184 : decode cX6_onward 184 = .ok (.goto 103, 3) := by decide +kernel
theorem dX6_onward_187 : decode cX6_onward 187 = .ok (.aload_n 0, 1) := by decide +kernel
theorem dX6_onward_188 : decode cX6_onward 188 = .ok (.iload_n 1, 1) := by decide +kernel
theorem dX6_onward_189 : decode cX6_onward 189 = .ok (.invokevirtual 180, 3) := by decide +kernel
theorem dX6_onward_192 : decode cX6_onward 192 = .ok (.aload_n 0, 1) := by decide +kernel
theorem dX6_onward_193 : decode cX6_onward 193 = .ok (.aload_n 0, 1) := by decide +kernel
theorem dX6_onward_194 : decode cX6_onward 194 = .ok (.bipush 41, 2) := by decide +kernel
theorem dX6_onward_196 : decode cX6_onward 196 = .ok (.invokevirtual 159, 3) := by decide +kernel
theorem dX6_onward_199 : decode cX6_onward 199 = .ok (.invokevirtual 141, 3) := by decide +kernel
theorem dX6_onward_202 : decode cX6_onward 202 = .ok (.aload_n 0, 1) := by decide +kernel
theorem dX6_onward_203 : decode cX6_onward 203 = .ok (.getfield 46, 3) := by decide +kernel
theorem dX6_onward_206 : decode cX6_onward 206 = .ok (.iload_n 1, 1) := by decide +kernel
theorem dX6_onward_207 : decode cX6_onward 207 = .ok (.aload_n 0, 1) := by decide +kernel
theorem dX6_onward_208 : decode cX6_onward 208 = .ok (.getfield 13, 3) := by decide +kernel
theorem dX6_onward_211 : decode cX6_onward 211 = .ok (.aload_n 0, 1) := by decide +kernel
theorem dX6_onward_212 : decode cX6_onward 212 = .ok (.getfield 49, 3) := by decide +kernel
theorem dX6_onward_215 : decode cX6_onward 215 = .ok (.iload_n 1, 1) := by decide +kernel
theorem dX6_onward_216 : decode cX6_onward 216 = .ok (.iaload, 1) := by decide +kernel
theorem dX6_onward_217 : decode cX6_onward 217 = .ok (.iaload, 1) := by decide +kernel
theorem dX6_onward_218 : decode cX6_onward 218 = .ok (.iconst 4, 1) := by decide +kernel
theorem dX6_onward_219 : decode cX6_onward 219 = .ok (.if_icmp .ne 8, 3) := by decide +kernel
theorem dX6_onward_222 : decode cX6_onward 222 = .ok (.bipush 15, 2) := by decide +kernel
theorem dX6_onward_224 : decode cX6_onward 224 = .ok (.goto 5, 3) := by decide +kernel
theorem dX6_onward_227 : decode cX6_onward 227 = .ok (.bipush 16, 2) := by decide +kernel
theorem dX6_onward_229 : decode cX6_onward 229 = .ok (.iastore, 1) := by decide +kernel
theorem dX6_onward_230 : decode cX6_onward 230 = .ok (.aload_n 0, 1) := by decide +kernel
theorem dX6_onward_231 : decode cX6_onward 231 = .ok (.bipush 10, 2) := by decide +kernel
theorem dX6_onward_233 : decode cX6_onward 233 = .ok (.iload_n 2, 1) := by decide +kernel
theorem dX6_onward_234 : decode cX6_onward 234 = .ok (.invokevirtual 166, 3) := by decide +kernel
theorem dX6_onward_237 : decode cX6_onward 237 = .ok (.goto 50, 3) := by decide +kernel
theorem dX6_onward_240 : decode cX6_onward 240 = .ok (.aload_n 0, 1) := by decide +kernel
theorem dX6_onward_241 : decode cX6_onward 241 = .ok (.iload_n 1, 1) := by decide +kernel
theorem dX6_onward_242 : decode cX6_onward 242 = .ok (.invokevirtual 180, 3) := by decide +kernel
theorem dX6_onward_245 : decode cX6_onward 245 = .ok (.aload_n 0, 1) := by decide +kernel
theorem dX6_onward_246 : decode cX6_onward 246 = .ok (.getfield 46, 3) := by decide +kernel
theorem dX6_onward_249 : decode cX6_onward 249 = .ok (.iload_n 1, 1) := by decide +kernel
theorem dX6_onward_250 : decode cX6_onward 250 = .ok (.bipush 16, 2) := by decide +kernel
theorem dX6_onward_252 : decode cX6_onward 252 = .ok (.iastore, 1) := by decide +kernel
theorem dX6_onward_253 : decode cX6_onward 253 = .ok (.aload_n 0, 1) := by decide +kernel
theorem dX6_onward_254 : decode cX6_onward 254 = .ok (.bipush 10, 2) := by decide +kernel
theorem dX6_onward_256 : decode cX6_onward 256 = .ok (.iload_n 2, 1) := by decide +kernel
theorem dX6_onward_257 : decode cX6_onward 257 = .ok (.invokevirtual 166, 3) := by decide +kernel
theorem dX6_onward_260 : decode cX6_onward 260 = .ok (.goto 27, 3) := by decide +kernel
theorem dX6_onward_263 : decode cX6_onward 263 = .ok (.aload_n 0, 1) := by decide +kernel
theorem dX6_onward_264 : decode cX6_onward 264 = .ok (.iload_n 1, 1) := by decide +kernel
theorem dX6_onward_265 : decode cX6_onward 265 = .ok (.invokevirtual 180, 3) := by decide +kernel
theorem dX6_onward_268 : decode cX6_onward 268 = .ok (.aload_n 0, 1) := by decide +kernel
theorem dX6_onward_269 : decode cX6_onward 269 = .ok (.aload_n 0, 1) := by decide +kernel
theorem dX6_onward_270 : decode cX6_onward 270 = .ok (.getfield 49, 3) := by decide +kernel
theorem dX6_onward_273 : decode cX6_onward 273 = .ok (.iload_n 1, 1) := by decide +kernel
theorem dX6_onward_274 : decode cX6_onward 274 = .ok (.iaload, 1) := by decide +kernel
theorem dX6_onward_275 : decode cX6_onward 275 = .ok (.invokevirtual 177, 3) := by decide +kernel
theorem dX6_onward_278 : decode cX6_onward 278 = .ok (.goto 9, 3) := by decide +kernel
theorem dX6_onward_281 : decode cX6_onward 281 = .ok (.aload_n 0, 1) := by decide +kernel
theorem dX6_onward_282 : decode cX6_onward 282 = .ok (.iload_n 1, 1) := by decide +kernel
theorem dX6_onward_283 : decode cX6_onward 283 = .ok (.iload_n 2, 1) := by decide +kernel
theorem dX6_onward_284 : decode cX6_onward 284 = .ok (.invokevirtual 183, 3) := by decide +kernel
theorem dX6_onward_287 : decode cX6_onward 287 = .ok (.return_, 1) := by decide +kernel
theorem dX6_block_0 : decode cX6_block 0 = .ok (.aload_n 0, 1) := by decide +kernel
theorem dX6_block_1 : decode cX6_block 1 = .ok (.getfield 46, 3) := by decide +kernel
theorem dX6_block_4 : decode cX6_block 4 = .ok (.iload_n 1, 1) := by decide +kernel
theorem dX6_block_5 : decode cX6_block 5 = .ok (.iaload, 1) := by decide +kernel
theorem dX6_block_6 : decode cX6_block 6 = .ok (.bipush 20, 2) := by decide +kernel
theorem dX6_block_8 : decode cX6_block 8 = .ok (.if_icmp .ne 30, 3) := by decide +kernel
theorem dX6_block_11 : decode cX6_block 11 = .ok (.aload_n 0, 1) := by decide +kernel
theorem dX6_block_12 : decode cX6_block 12 = .ok (.getfield 34, 3) := by decide +kernel
theorem dX6_block_15 : decode cX6_block 15 = .ok (.aload_n 0, 1) := by decide +kernel
theorem dX6_block_16 : decode cX6_block 16 = .ok (.getfield 58, 3) := by decide +kernel
theorem dX6_block_19 : decode cX6_block 19 = .ok (.iload_n 1, 1) := by decide +kernel
theorem dX6_block_20 : decode cX6_block 20 = .ok (.iaload, 1) := by decide +kernel
theorem dX6_block_21 : decode cX6_block 21 = .ok (.aload_n 0, 1) := by decide +kernel
theorem dX6_block_22 : decode cX6_block 22 = .ok (.getfield 121, 3) := by decide +kernel
theorem dX6_block_25 : decode cX6_block 25 = .ok (.iastore, 1) := by decide +kernel
theorem dX6_block_26 : decode cX6_block 26 = .ok (.aload_n 0, 1) := by decide +kernel
theorem dX6_block_27 : decode cX6_block 27 = .ok (.invokevirtual 186, 3) := by decide +kernel
theorem dX6_block_30 : decode cX6_block 30 = .ok (.aload_n 0, 1) := by decide +kernel
theorem dX6_block_31 : decode cX6_block 31 = .ok (.getfield 46, 3) := by decide +kernel
theorem dX6_block_34 : decode cX6_block 34 = .ok (.iload_n 1, 1) := by decide +kernel
theorem dX6_block_35 : decode cX6_block 35 = .ok (.bipush 19, 2) := by decide +kernel
theorem dX6_block_37 : decode cX6_block 37 = .ok (.iastore, 1) := by decide +kernel
theorem dX6_block_38 : decode cX6_block 38 = .ok (.aload_n 0, 1) := by decide +kernel
theorem dX6_block_39 : decode cX6_block 39 = .ok (.getfield 46, 3) := by decide +kernel
theorem dX6_block_42 : decode cX6_block 42 = .ok (.iload_n 1, 1) := by decide +kernel
theorem dX6_block_43 : decode cX6_block 43 = .ok (.iaload, 1) := by decide +kernel
theorem dX6_block_44 : decode cX6_block 44 = .ok (.bipush 22, 2) := by decide +kernel
theorem dX6_block_46 : decode cX6_block 46 = .ok (.if_icmp .ne 8, 3) := by decide +kernel
theorem dX6_block_49 : decode cX6_block 49 = .ok (.aload_n 0, 1) := by decide +kernel
theorem dX6_block_50 : decode cX6_block 50 = .ok (.iload_n 1, 1) := by decide +kernel
theorem dX6_block_51 : decode cX6_block 51 = .ok (.invokevirtual 180, 3) := by decide +kernel
theorem dX6_block_54 : decode cX6_block 54 = .ok (.aload_n 0, 1) := by decide +kernel
theorem dX6_block_55 : decode cX6_block 55 = .ok (.invokevirtual 107, 3) := by decide +kernel
theorem dX6_block_58 : decode cX6_block 58 = .ok (.istore_n 3, 1) := by decide +kernel
theorem dX6_block_59 : decode cX6_block 59 = .ok (.aload_n 0, 1) := by decide +kernel
theorem dX6_block_60 : decode cX6_block 60 = .ok (.getfield 46, 3) := by decide +kernel
theorem dX6_block_63 : decode cX6_block 63 = .ok (.iload_n 1, 1) := by decide +kernel
theorem dX6_block_64 : decode cX6_block 64 = .ok (.iaload, 1) := by decide +kernel
theorem dX6_block_65 : decode cX6_block 65 = .ok (.bipush 19, 2) := by decide +kernel
theorem dX6_block_67 : decode cX6_block 67 = .ok (.if_icmp .ne 122, 3) := by decide +kernel
theorem dX6_block_70 : decode cX6_block 70 = .ok (.iload_n 3, 1) := by decide +kernel
theorem dX6_block_71 : decode cX6_block 71 = .ok (.bipush 36, 2) := by decide +kernel
theorem dX6_block_73 : decode cX6_block 73 = .ok (.if_icmp .ne 116, 3) := by decide +kernel
theorem dX6_block_76 : decode cX6_block 76 = .ok (.aload_n 0, 1) := by decide +kernel
theorem dX6_block_77 : decode cX6_block 77 = .ok (.dup, 1) := by decide +kernel
theorem dX6_block_78 : decode cX6_block 78 = .ok (.getfield 104, 3) := by decide +kernel
theorem dX6_block_81 : decode cX6_block 81 = .ok (.iconst 1, 1) := by decide +kernel
theorem dX6_block_82 : decode cX6_block 82 = .ok (.iadd, 1) := by decide +kernel
theorem dX6_block_83 : decode cX6_block 83 = .ok (.putfield 104, 3) := by decide +kernel
theorem dX6_block_86 : decode cX6_block 86 = .ok (.aload_n 0, 1) := by decide +kernel
theorem dX6_block_87 : decode cX6_block 87 = .ok (.invokevirtual 107, 3) := by decide +kernel
theorem dX6_block_90 : decode cX6_block 90 = .ok (.istore_n 3, 1) := by decide +kernel
theorem dX6_block_91 : decode cX6_block 91 = .ok (.aload_n 0, 1) := by decide +kernel
theorem dX6_block_92 : decode cX6_block 92 = .ok (.dup, 1) := by decide +kernel
theorem dX6_block_93 : decode cX6_block 93 = .ok (.getfield 104, 3) := by decide +kernel
theorem dX6_block_96 : decode cX6_block 96 = .ok (.iconst 1, 1) := by decide +kernel
theorem dX6_block_97 : decode cX6_block 97 = .ok (.iadd, 1) := by decide +kernel
theorem dX6_block_98 : decode cX6_block 98 = .ok (.putfield 104, 3) := by decide +kernel
theorem dX6_block_101 : decode cX6_block 101 = .ok (.aload_n 0, 1) := by decide +kernel
theorem dX6_block_102 : decode cX6_block 102 = .ok (.aload_n 0, 1) := by decide +kernel
theorem dX6_block_103 : decode cX6_block 103 = .ok (.iload_n 3, 1) := by decide +kernel
theorem dX6_block_104 : decode cX6_block 104 = .ok (.invokevirtual 155, 3) := by decide +kernel
theorem dX6_block_107 : decode cX6_block 107 = .ok (.ifCond .eq 25, 3) := by decide +kernel
theorem dX6_block_110 : decode cX6_block 110 = .ok (.aload_n 0, 1) := by decide +kernel
theorem dX6_block_111 : decode cX6_block 111 = .ok (.bipush 59, 2) := by decide +kernel
theorem dX6_block_113 : decode cX6_block 113 = .ok (.invokevirtual 159, 3) := by decide +kernel
theorem dX6_block_116 : decode cX6_block 116 = .ok (.ifCond .eq 16, 3) := by decide +kernel
theorem dX6_block_119 : decode cX6_block 119 = .ok (.aload_n 0, 1) := by decide +kernel
theorem dX6_block_120 : decode cX6_block 120 = .ok (.getfield 189, 3) := by decide +kernel
theorem dX6_block_123 : decode cX6_block 123 = .ok (.bipush 24, 2) := by decide +kernel
theorem dX6_block_125 : decode cX6_block 125 = .ok (.if_icmp .ge 7, 3) := by decide +kernel
theorem dX6_block_128 : decode cX6_block 128 = .ok (.iconst 1, 1) := by decide +kernel
theorem dX6_block_129 : decode cX6_block 129 = .ok (.goto 4, 3) := by decide +kernel
theorem dX6_block_132 : decode cX6_block 132 = .ok (.iconst 0, 1) := by decide +kernel
theorem dX6_block_133 : decode cX6_block 133 = .ok (.invokevirtual 141, 3) := by decide +kernel
theorem dX6_block_136 : decode cX6_block 136 = .ok (.aload_n 0, 1) := by decide +kernel
theorem dX6_block_137 : decode cX6_block 137 = .ok (.getfield 124, 3) := by decide +kernel
theorem dX6_block_140 : decode cX6_block 140 = .ok (.ifCond .eq 4, 3) := by decide +kernel
theorem dX6_block_143 : decode cX6_block 143 = .ok (.return_, 1) := by decide +kernel
theorem dX6_block_144 : decode cX6_block 144 = .ok (.aload_n 0, 1) := by decide +kernel
theorem dX6_block_145 : decode cX6_block 145 = .ok (.iload_n 3, 1) := by decide +kernel
theorem dX6_block_146 : decode cX6_block 146 = .ok (.iconst 1, 1) := by decide +kernel
theorem dX6_block_147 : decode cX6_block 147 = .ok (.aload_n 0, 1) := by decide +kernel
theorem dX6_block_148 : decode cX6_block 148 = .ok (.getfield 22, 3) := by decide +kernel
theorem dX6_block_151 : decode cX6_block 151 = .ok (.aload_n 0, 1) := by decide +kernel
theorem dX6_block_152 : decode cX6_block 152 = .ok (.getfield 49, 3) := by decide +kernel
theorem dX6_block_155 : decode cX6_block 155 = .ok (.iload_n 1, 1) := by decide +kernel
theorem dX6_block_156 : decode cX6_block 156 = .ok (.iaload, 1) := by decide +kernel
theorem dX6_block_157 : decode cX6_block 157 = .ok (.iaload, 1) := by decide +kernel
theorem dX6_block_158 : decode cX6_block 158 = .ok (.invokevirtual 192, 3) := by decide +kernel
theorem dX6_block_161 : decode cX6_block 161 = .ok (.aload_n 0, 1) := by decide +kernel
theorem dX6_block_162 : decode cX6_block 162 = .ok (.getfield 22, 3) := by decide +kernel
theorem dX6_block_165 : decode cX6_block 165 = .ok (.aload_n 0, 1) := by decide +kernel
theorem dX6_block_166 : decode cX6_block 166 = .ok (.getfield 49, 3) := by decide +kernel
theorem dX6_block_169 : decode cX6_block 169 = .ok (.iload_n 1, 1) := by decide +kernel
theorem dX6_block_170 : decode cX6_block 170 = .ok (.iaload, 1) := by decide +kernel
theorem dX6_block_171 : decode cX6_block 171 = .ok (.dup2, 1) := by decide +kernel
theorem dX6_block_172 : decode cX6_block 172 = .ok (.iaload, 1) := by decide +kernel
theorem dX6_block_173 : decode cX6_block 173 = .ok (.iconst 1, 1) := by decide +kernel
theorem dX6_block_174 : decode cX6_block 174 = .ok (.iadd, 1) := by decide +kernel
theorem dX6_block_175 : decode cX6_block 175 = .ok (.iastore, 1) := by decide +kernel
theorem dX6_block_176 : decode cX6_block 176 = .ok (.aload_n 0, 1) := by decide +kernel
theorem dX6_block_177 : decode cX6_block 177 = .ok (.dup, 1) := by decide +kernel
theorem dX6_block_178 : decode cX6_block 178 = .ok (.getfield 189, 3) := by decide +kernel
theorem dX6_block_181 : decode cX6_block 181 = .ok (.iconst 1, 1) := by decide +kernel
theorem dX6_block_182 : decode cX6_block 182 = .ok (.iadd, 1) := by decide +kernel
theorem dX6_block_183 : decode cX6_block 183 = .ok (.putfield 189, 3) := by decide +kernel
theorem dX6_block_186 : decode cX6_block 186 = .ok (.goto 87, 3) := by decide +kernel
theorem dX6_block_189 : decode cX6_block 189 = .ok (.aload_n 0, 1) := by decide +kernel
theorem dX6_block_190 : decode cX6_block 190 = .ok (.getfield 46, 3) := by decide +kernel
theorem dX6_block_193 : decode cX6_block 193 = .ok (.iload_n 1, 1) := by decide +kernel
theorem dX6_block_194 : decode cX6_block 194 = .ok (.iaload, 1) := by decide +kernel
theorem dX6_block_195 : decode cX6_block 195 = .ok (.bipush 19, 2) := by decide +kernel
theorem dX6_block_197 : decode cX6_block 197 = .ok (.if_icmp .ne 28, 3) := by decide +kernel
theorem dX6_block_200 : decode cX6_block 200 = .ok (.iload_n 3, 1) := by decide +kernel
theorem dX6_block_201 : decode cX6_block 201 = .ok (.bipush 64, 2) := by decide +kernel
theorem dX6_block_203 : decode cX6_block 203 = .ok (.if_icmp .ne 22, 3) := by decide +kernel
theorem dX6_block_206 : decode cX6_block 206 = .ok (.aload_n 0, 1) := by decide +kernel
theorem dX6_block_207 : decode cX6_block 207 = .ok (.dup, 1) := by decide +kernel
theorem dX6_block_208 : decode cX6_block 208 = .ok (.getfield 104, 3) := by decide +kernel
theorem dX6_block_211 : decode cX6_block 211 = .ok (.iconst 1, 1) := by decide +kernel
theorem dX6_block_212 : decode cX6_block 212 = .ok (.iadd, 1) := by decide +kernel
theorem dX6_block_213 : decode cX6_block 213 = .ok (.putfield 104, 3) := by decide +kernel
theorem dX6_block_216 : decode cX6_block 216 = .ok (.aload_n 0, 1) := by decide +kernel
theorem dX6_block_217 : decode cX6_block 217 = .ok (.iload_n 1, 1) := by decide +kernel
theorem dX6_block_218 : decode cX6_block 218 = .ok (.iload_n 2, 1) := by decide +kernel
theorem dX6_block_219 : decode cX6_block 219 = .ok (.invokevirtual 195, 3) := by decide +kernel
theorem dX6_block_222 : decode cX6_block 222 = .ok (.goto 51, 3) := by decide +kernel
theorem dX6_block_225 : decode cX6_block 225 = .ok (.iload_n 3, 1) := by decide +kernel
theorem dX6_block_226 : decode cX6_block 226 = .ok (.bipush 125, 2) := by decide +kernel
theorem dX6_block_228 : decode cX6_block 228 = .ok (.if_icmp .ne 30, 3) := by decide +kernel
theorem dX6_block_231 : decode cX6_block 231 = .ok (.aload_n 0, 1) := by decide +kernel
theorem dX6_block_232 : decode cX6_block 232 = .ok (.dup, 1) := by decide +kernel
theorem dX6_block_233 : decode cX6_block 233 = .ok (.getfield 104, 3) := by decide +kernel
theorem dX6_block_236 : decode cX6_block 236 = .ok (.iconst 1, 1) := by decide +kernel
theorem dX6_block_237 : decode cX6_block 237 = .ok (.iadd, 1) := by decide +kernel
theorem dX6_block_238 : decode cX6_block 238 = .ok (.putfield 104, 3) := by decide +kernel
theorem dX6_block_241 : decode cX6_block 241 = .ok (.aload_n 0, 1) := by decide +kernel
theorem dX6_block_242 : decode cX6_block 242 = .ok (.invokevirtual 186, 3) := by decide +kernel
theorem dX6_block_245 : decode cX6_block 245 = .ok (.aload_n 0, 1) := by decide +kernel
theorem dX6_block_246 : decode cX6_block 246 = .ok (.aload_n 0, 1) := by decide +kernel
theorem dX6_block_247 : decode cX6_block 247 = .ok (.getfield 49, 3) := by decide +kernel
theorem dX6_block_250 : decode cX6_block 250 = .ok (.iload_n 1, 1) := by decide +kernel
theorem dX6_block_251 : decode cX6_block 251 = .ok (.iaload, 1) := by decide +kernel
theorem dX6_block_252 : decode cX6_block 252 = .ok (.invokevirtual 177, 3) := by decide +kernel
theorem dX6_block_255 : decode cX6_block 255 = .ok (.goto 18, 3) := by decide +kernel
theorem dX6_block_258 : decode cX6_block 258 = .ok (.aload_n 0, 1) := by decide +kernel
theorem dX6_block_259 : decode cX6_block 259 = .ok (.getfield 46, 3) := by decide +kernel
theorem dX6_block_262 : decode cX6_block 262 = .ok (.iload_n 1, 1) := by decide +kernel
theorem dX6_block_263 : decode cX6_block 263 = .ok (.bipush 22, 2) := by decide +kernel
theorem dX6_block_265 : decode cX6_block 265 = .ok (.iastore, 1) := by decide +kernel
theorem dX6_block_266 : decode cX6_block 266 = .ok (.aload_n 0, 1) := by decide +kernel
theorem dX6_block_267 : decode cX6_block 267 = .ok (.bipush 10, 2) := by decide +kernel
theorem dX6_block_269 : decode cX6_block 269 = .ok (.iload_n 2, 1) := by decide +kernel
theorem dX6_block_270 : decode cX6_block 270 = .ok (.invokevirtual 166, 3) := by decide +kernel
theorem dX6_block_273 : decode cX6_block 273 = .ok (.return_, 1) := by decide +kernel
theorem dX6_heading_0 : decode cX6_heading 0 = .ok (.aload_n 0, 1) := by decide +kernel
theorem dX6_heading_1 : decode cX6_heading 1 = .ok (.invokevirtual 107, 3) := by decide +kernel
theorem dX6_heading_4 : decode cX6_heading 4 = .ok (.istore_n 3, 1) := by decide +kernel
theorem dX6_heading_5 : decode cX6_heading 5 = .ok (.aload_n 0, 1) := by decide +kernel
theorem dX6_heading_6 : decode cX6_heading 6 = .ok (.dup, 1) := by decide +kernel
theorem dX6_heading_7 : decode cX6_heading 7 = .ok (.getfield 104, 3) := by decide +kernel
theorem dX6_heading_10 : decode cX6_heading 10 = .ok (.iconst 1, 1) := by decide +kernel
theorem dX6_heading_11 : decode cX6_heading 11 = .ok (.iadd, 1) := by decide +kernel
theorem dX6_heading_12 : decode cX6_heading 12 = .ok (.putfield 104, 3) := by decide +kernel
theorem dX6_heading_15 : decode cX6_heading 15 = .ok (.aload_n 0, 1) := by decide +kernel
theorem dX6_heading_16 : decode cX6_heading 16 = .ok (.aload_n 0, 1) := by decide +kernel
theorem dX6_heading_17 : decode cX6_heading 17 = .ok (.iload_n 3, 1) := by decide +kernel
theorem dX6_heading_18 : decode cX6_heading 18 = .ok (.invokevirtual 155, 3) := by decide +kernel
theorem dX6_heading_21 : decode cX6_heading 21 = .ok (.ifCond .eq 25, 3) := by decide +kernel
theorem dX6_heading_24 : decode cX6_heading 24 = .ok (.aload_n 0, 1) := by decide +kernel
theorem dX6_heading_25 : decode cX6_heading 25 = .ok (.bipush 40, 2) := by decide +kernel
theorem dX6_heading_27 : decode cX6_heading 27 = .ok (.invokevirtual 159, 3) := by decide +kernel
theorem dX6_heading_30 : decode cX6_heading 30 = .ok (.ifCond .eq 16, 3) := by decide +kernel
theorem dX6_heading_33 : decode cX6_heading 33 = .ok (.aload_n 0, 1) := by decide +kernel
theorem dX6_heading_34 : decode cX6_heading 34 = .ok (.getfield 198, 3) := by decide +kernel
theorem dX6_heading_37 : decode cX6_heading 37 = .ok (.bipush 16, 2) := by decide +kernel
theorem dX6_heading_39 : decode cX6_heading 39 = .ok (.if_icmp .ge 7, 3) := by decide +kernel
theorem dX6_heading_42 : decode cX6_heading 42 = .ok (.iconst 1, 1) := by decide +kernel
theorem dX6_heading_43 : decode cX6_heading 43 = .ok (.goto 4, 3) := by decide +kernel
theorem dX6_heading_46 : decode cX6_heading 46 = .ok (.iconst 0, 1) := by decide +kernel
theorem dX6_heading_47 : decode cX6_heading 47 = .ok (.invokevirtual 141, 3) := by decide +kernel
theorem dX6_heading_50 : decode cX6_heading 50 = .ok (.aload_n 0, 1) := by decide +kernel
theorem dX6_heading_51 : decode cX6_heading 51 = .ok (.getfield 124, 3) := by decide +kernel
theorem dX6_heading_54 : decode cX6_heading 54 = .ok (.ifCond .eq 4, 3) := by decide +kernel
theorem dX6_heading_57 : decode cX6_heading 57 = .ok (.return_, 1) := by decide +kernel
theorem dX6_heading_58 : decode cX6_heading 58 = .ok (.bipush 16, 2) := by decide +kernel
theorem dX6_heading_60 : decode cX6_heading 60 = .ok (.aload_n 0, 1) := by decide +kernel
theorem dX6_heading_61 : decode cX6_heading 61 = .ok (.getfield 201, 3) := by decide +kernel
theorem dX6_heading_64 : decode cX6_heading 64 = .ok (.imul, 1) := by decide +kernel
theorem dX6_heading_65 : decode cX6_heading 65 = .ok (.aload_n 0, 1) := by decide +kernel
theorem dX6_heading_66 : decode cX6_heading 66 = .ok (.getfield 198, 3) := by decide +kernel
theorem dX6_heading_69 : decode cX6_heading 69 = .ok (.iadd, 1) := by decide +kernel
theorem dX6_heading_70 : decode cX6_heading 70 = .ok (.istore 4, 2) := by decide +kernel
theorem dX6_heading_72 : decode cX6_heading 72 = .ok (.aload_n 0, 1) := by decide +kernel
theorem dX6_heading_73 : decode cX6_heading 73 = .ok (.dup, 1) := by decide +kernel
theorem dX6_heading_74 : decode cX6_heading 74 = .ok (.getfield 198, 3) := by decide +kernel
theorem dX6_heading_77 : decode cX6_heading 77 = .ok (.iconst 1, 1) := by decide +kernel
theorem dX6_heading_78 : decode cX6_heading 78 = .ok (.iadd, 1) := by decide +kernel
theorem dX6_heading_79 : decode cX6_heading 79 = .ok (.putfield 198, 3) := by decide +kernel
theorem dX6_heading_82 : decode cX6_heading 82 = .ok (.aload_n 0, 1) := by decide +kernel
theorem dX6_heading_83 : decode cX6_heading 83 = .ok (.iload_n 3, 1) := by decide +kernel
theorem dX6_heading_84 : decode cX6_heading 84 = .ok (.iconst 2, 1) := by decide +kernel
theorem dX6_heading_85 : decode cX6_heading 85 = .ok (.iload 4, 2) := by decide +kernel
theorem dX6_heading_87 : decode cX6_heading 87 = .ok (.invokevirtual 192, 3) := by decide +kernel
theorem dX6_heading_90 : decode cX6_heading 90 = .ok (.aload_n 0, 1) := by decide +kernel
theorem dX6_heading_91 : decode cX6_heading 91 = .ok (.getfield 37, 3) := by decide +kernel
theorem dX6_heading_94 : decode cX6_heading 94 = .ok (.iload 4, 2) := by decide +kernel
theorem dX6_heading_96 : decode cX6_heading 96 = .ok (.iconst 0, 1) := by decide +kernel
theorem dX6_heading_97 : decode cX6_heading 97 = .ok (.iastore, 1) := by decide +kernel
theorem dX6_heading_98 : decode cX6_heading 98 = .ok (.aload_n 0, 1) := by decide +kernel
theorem dX6_heading_99 : decode cX6_heading 99 = .ok (.getfield 40, 3) := by decide +kernel
theorem dX6_heading_102 : decode cX6_heading 102 = .ok (.iload 4, 2) := by decide +kernel
theorem dX6_heading_104 : decode cX6_heading 104 = .ok (.iconst 0, 1) := by decide +kernel
theorem dX6_heading_105 : decode cX6_heading 105 = .ok (.iastore, 1) := by decide +kernel
theorem dX6_heading_106 : decode cX6_heading 106 = .ok (.aload_n 0, 1) := by decide +kernel
theorem dX6_heading_107 : decode cX6_heading 107 = .ok (.dup, 1) := by decide +kernel
theorem dX6_heading_108 : decode cX6_heading 108 = .ok (.getfield 131, 3) := by decide +kernel
theorem dX6_heading_111 : decode cX6_heading 111 = .ok (.iconst 1, 1) := by decide +kernel
theorem dX6_heading_112 : decode cX6_heading 112 = .ok (.iadd, 1) := by decide +kernel
theorem dX6_heading_113 : decode cX6_heading 113 = .ok (.putfield 131, 3) := by decide +kernel
theorem dX6_heading_116 : decode cX6_heading 116 = .ok (.aload_n 0, 1) := by decide +kernel
theorem dX6_heading_117 : decode cX6_heading 117 = .ok (.bipush 41, 2) := by decide +kernel
theorem dX6_heading_119 : decode cX6_heading 119 = .ok (.invokevirtual 159, 3) := by decide +kernel
theorem dX6_heading_122 : decode cX6_heading 122 = .ok (.ifCond .ne 7, 3) := by decide +kernel
theorem dX6_heading_125 : decode cX6_heading 125 = .ok (.iconst 1, 1) := by decide +kernel
theorem dX6_heading_126 : decode cX6_heading 126 = .ok (.goto 4, 3) := by decide +kernel
theorem dX6_heading_129 : decode cX6_heading 129 = .ok (.iconst 0, 1) := by decide +kernel
theorem dX6_heading_130 : decode cX6_heading 130 = .ok (.istore 5, 2) := by decide +kernel
theorem dX6_heading_132 : decode cX6_heading 132 = .ok (.iconst 0, 1) := by decide +kernel
theorem dX6_heading_133 : decode cX6_heading 133 = .ok (.istore 6, 2) := by decide +kernel
theorem dX6_heading_135 : decode cX6_heading 135 = .ok (.iload 6, 2) := by decide +kernel
theorem dX6_heading_137 : decode cX6_heading 137 = .ok (.bipush 7, 2) := by decide +kernel
theorem dX6_heading_139 : decode cX6_heading 139 = .ok (.if_icmp .ge 152, 3) := by decide +kernel
theorem dX6_heading_142 : decode cX6_heading 142 = .ok (.iload 5, 2) := by decide +kernel
theorem dX6_heading_144 : decode cX6_heading 144 = .ok (.ifCond .eq 147, 3) := by decide +kernel
theorem dX6_heading_147 : decode cX6_heading 147 = .ok (.aload_n 0, 1) := by decide +kernel
theorem dX6_heading_148 : decode cX6_heading 148 = .ok (.getfield 124, 3) := by decide +kernel
theorem dX6_heading_151 : decode cX6_heading 151 = .ok (.ifCond .ne 140, 3) := by decide +kernel
theorem dX6_heading_154 : decode cX6_heading 154 = .ok (.aload_n 0, 1) := by decide +kernel
theorem dX6_heading_155 : decode cX6_heading 155 = .ok (.bipush 35, 2) := by decide +kernel
theorem dX6_heading_157 : decode cX6_heading 157 = .ok (.invokevirtual 159, 3) := by decide +kernel
theorem dX6_heading_160 : decode cX6_heading 160 = .ok (.istore 7, 2) := by decide +kernel
theorem dX6_heading_162 : decode cX6_heading 162 = .ok (.aload_n 0, 1) := by decide +kernel
theorem dX6_heading_163 : decode cX6_heading 163 = .ok (.invokevirtual 107, 3) := by decide +kernel
theorem dX6_heading_166 : decode cX6_heading 166 = .ok (.istore_n 3, 1) := by decide +kernel
theorem dX6_heading_167 : decode cX6_heading 167 = .ok (.aload_n 0, 1) := by decide +kernel
theorem dX6_heading_168 : decode cX6_heading 168 = .ok (.dup, 1) := by decide +kernel
theorem dX6_heading_169 : decode cX6_heading 169 = .ok (.getfield 104, 3) := by decide +kernel
theorem dX6_heading_172 : decode cX6_heading 172 = .ok (.iconst 1, 1) := by decide +kernel
theorem dX6_heading_173 : decode cX6_heading 173 = .ok (.iadd, 1) := by decide +kernel
theorem dX6_heading_174 : decode cX6_heading 174 = .ok (.putfield 104, 3) := by decide +kernel
theorem dX6_heading_177 : decode cX6_heading 177 = .ok (.aload_n 0, 1) := by decide +kernel
theorem dX6_heading_178 : decode cX6_heading 178 = .ok (.aload_n 0, 1) := by decide +kernel
theorem dX6_heading_179 : decode cX6_heading 179 = .ok (.iload_n 3, 1) := by decide +kernel
theorem dX6_heading_180 : decode cX6_heading 180 = .ok (.invokevirtual 155, 3) := by decide +kernel
theorem dX6_heading_183 : decode cX6_heading 183 = .ok (.ifCond .eq 14, 3) := by decide +kernel
theorem dX6_heading_186 : decode cX6_heading 186 = .ok (.iload 6, 2) := by decide +kernel
theorem dX6_heading_188 : decode cX6_heading 188 = .ok (.bipush 6, 2) := by decide +kernel
theorem dX6_heading_190 : decode cX6_heading 190 = .ok (.if_icmp .ge 7, 3) := by decide +kernel
theorem dX6_heading_193 : decode cX6_heading 193 = .ok (.iconst 1, 1) := by decide +kernel
theorem dX6_heading_194 : decode cX6_heading 194 = .ok (.goto 4, 3) := by decide +kernel
theorem dX6_heading_197 : decode cX6_heading 197 = .ok (.iconst 0, 1) := by decide +kernel
theorem dX6_heading_198 : decode cX6_heading 198 = .ok (.invokevirtual 141, 3) := by decide +kernel
theorem dX6_heading_201 : decode cX6_heading 201 = .ok (.aload_n 0, 1) := by decide +kernel
theorem dX6_heading_202 : decode cX6_heading 202 = .ok (.getfield 124, 3) := by decide +kernel
theorem dX6_heading_205 : decode cX6_heading 205 = .ok (.ifCond .eq 4, 3) := by decide +kernel
theorem dX6_heading_208 : decode cX6_heading 208 = .ok (.return_, 1) := by decide +kernel
theorem dX6_heading_209 : decode cX6_heading 209 = .ok (.iload 7, 2) := by decide +kernel
theorem dX6_heading_211 : decode cX6_heading 211 = .ok (.ifCond .eq 22, 3) := by decide +kernel
theorem dX6_heading_214 : decode cX6_heading 214 = .ok (.aload_n 0, 1) := by decide +kernel
theorem dX6_heading_215 : decode cX6_heading 215 = .ok (.getfield 40, 3) := by decide +kernel
theorem dX6_heading_218 : decode cX6_heading 218 = .ok (.iload 4, 2) := by decide +kernel
theorem dX6_heading_220 : decode cX6_heading 220 = .ok (.aload_n 0, 1) := by decide +kernel
theorem dX6_heading_221 : decode cX6_heading 221 = .ok (.getfield 40, 3) := by decide +kernel
theorem dX6_heading_224 : decode cX6_heading 224 = .ok (.iload 4, 2) := by decide +kernel
theorem dX6_heading_226 : decode cX6_heading 226 = .ok (.iaload, 1) := by decide +kernel
theorem dX6_heading_227 : decode cX6_heading 227 = .ok (.iconst 1, 1) := by decide +kernel
theorem dX6_heading_228 : decode cX6_heading 228 = .ok (.iload 6, 2) := by decide +kernel
theorem dX6_heading_230 : decode cX6_heading 230 = .ok (.ishl, 1) := by decide +kernel
theorem dX6_heading_231 : decode cX6_heading 231 = .ok (.ior, 1) := by decide +kernel
theorem dX6_heading_232 : decode cX6_heading 232 = .ok (.iastore, 1) := by decide +kernel
theorem dX6_heading_233 : decode cX6_heading 233 = .ok (.aload_n 0, 1) := by decide +kernel
theorem dX6_heading_234 : decode cX6_heading 234 = .ok (.iload_n 3, 1) := by decide +kernel
theorem dX6_heading_235 : decode cX6_heading 235 = .ok (.iload 7, 2) := by decide +kernel
theorem dX6_heading_237 : decode cX6_heading 237 = .ok (.ifCond .eq 7, 3) := by decide +kernel
theorem dX6_heading_240 : decode cX6_heading 240 = .ok (.iconst 3, 1) := by decide +kernel
theorem dX6_heading_241 : decode cX6_heading 241 = .ok (.goto 4, 3) := by decide +kernel
theorem dX6_heading_244 : decode cX6_heading 244 = .ok (.iconst 4, 1) := by decide +kernel
theorem dX6_heading_245 : decode cX6_heading 245 = .ok (.iload 6, 2) := by decide +kernel
theorem dX6_heading_247 : decode cX6_heading 247 = .ok (.iconst 1, 1) := by decide +kernel
theorem dX6_heading_248 : decode cX6_heading 248 = .ok (.iadd, 1) := by decide +kernel
theorem dX6_heading_249 : decode cX6_heading 249 = .ok (.invokevirtual 192, 3) := by decide +kernel
theorem dX6_heading_252 : decode cX6_heading 252 = .ok (.aload_n 0, 1) := by decide +kernel
theorem dX6_heading_253 : decode cX6_heading 253 = .ok (.getfield 37, 3) := by decide +kernel
theorem dX6_heading_256 : decode cX6_heading 256 = .ok (.iload 4, 2) := by decide +kernel
theorem dX6_heading_258 : decode cX6_heading 258 = .ok (.dup2, 1) := by decide +kernel
theorem dX6_heading_259 : decode cX6_heading 259 = .ok (.iaload, 1) := by decide +kernel
theorem dX6_heading_260 : decode cX6_heading 260 = .ok (.iconst 1, 1) := by decide +kernel
theorem dX6_heading_261 : decode cX6_heading 261 = .ok (.iadd, 1) := by decide +kernel
theorem dX6_heading_262 : decode cX6_heading 262 = .ok (.iastore, 1) := by decide +kernel
theorem dX6_heading_263 : decode cX6_heading 263 = .ok (.aload_n 0, 1) := by decide +kernel
theorem dX6_heading_264 : decode cX6_heading 264 = .ok (.bipush 44, 2) := by decide +kernel
theorem dX6_heading_266 : decode cX6_heading 266 = .ok (.invokevirtual 159, 3) := by decide +kernel
theorem dX6_heading_269 : decode cX6_heading 269 = .ok (.ifCond .ne 16, 3) := by decide +kernel
theorem dX6_heading_272 : decode cX6_heading 272 = .ok (.aload_n 0, 1) := by decide +kernel
theorem dX6_heading_273 : decode cX6_heading 273 = .ok (.aload_n 0, 1) := by decide +kernel
theorem dX6_heading_274 : decode cX6_heading 274 = .ok (.bipush 41, 2) := by decide +kernel
theorem dX6_heading_276 : decode cX6_heading 276 = .ok (.invokevirtual 159, 3) := by decide +kernel
theorem dX6_heading_279 : decode cX6_heading 279 = .ok (.invokevirtual 141, 3) := by decide +kernel
theorem dX6_heading_282 : decode cX6_heading 282 = .ok (.iconst 0, 1) := by decide +kernel
theorem dX6_heading_283 : decode cX6_heading 283 = .ok (.istore 5, 2) := by decide +kernel
theorem dX6_heading_285 : decode cX6_heading 285 = .ok (.iinc 6 1, 3) := by decide +kernel
theorem dX6_heading_288 : decode cX6_heading 288 = .ok (.goto (-153), 3) := by decide +kernel
theorem dX6_heading_291 : decode cX6_heading 291 = .ok (.aload_n 0, 1) := by decide +kernel
theorem dX6_heading_292 : decode cX6_heading 292 = .ok (.getfield 58, 3) := by decide +kernel
theorem dX6_heading_295 : decode cX6_heading 295 = .ok (.iload_n 1, 1) := by decide +kernel
theorem dX6_heading_296 : decode cX6_heading 296 = .ok (.iload 4, 2) := by decide +kernel
theorem dX6_heading_298 : decode cX6_heading 298 = .ok (.iastore, 1) := by decide +kernel
theorem dX6_heading_299 : decode cX6_heading 299 = .ok (.aload_n 0, 1) := by decide +kernel
theorem dX6_heading_300 : decode cX6_heading 300 = .ok (.getfield 46, 3) := by decide +kernel
theorem dX6_heading_303 : decode cX6_heading 303 = .ok (.iload_n 1, 1) := by decide +kernel
theorem dX6_heading_304 : decode cX6_heading 304 = .ok (.bipush 20, 2) := by decide +kernel
theorem dX6_heading_306 : decode cX6_heading 306 = .ok (.iastore, 1) := by decide +kernel
theorem dX6_heading_307 : decode cX6_heading 307 = .ok (.aload_n 0, 1) := by decide +kernel
theorem dX6_heading_308 : decode cX6_heading 308 = .ok (.bipush 10, 2) := by decide +kernel
theorem dX6_heading_310 : decode cX6_heading 310 = .ok (.iload_n 2, 1) := by decide +kernel
theorem dX6_heading_311 : decode cX6_heading 311 = .ok (.invokevirtual 166, 3) := by decide +kernel
theorem dX6_heading_314 : decode cX6_heading 314 = .ok (.return_, 1) := by decide +kernel
theorem dX6_expression_0 : decode cX6_expression 0 = .ok (.aload_n 0, 1) := by decide +kernel
theorem dX6_expression_1 : decode cX6_expression 1 = .ok (.getfield 46, 3) := by decide +kernel
theorem dX6_expression_4 : decode cX6_expression 4 = .ok (.iload_n 1, 1) := by decide +kernel
theorem dX6_expression_5 : decode cX6_expression 5 = .ok (.iaload, 1) := by decide +kernel
theorem dX6_expression_6 : decode cX6_expression 6 = .ok (.istore_n 2, 1) := by decide +kernel
theorem dX6_expression_7 : decode cX6_expression 7 = .ok (.aload_n 0, 1) := by decide +kernel
theorem dX6_expression_8 : decode cX6_expression 8 = .ok (.getfield 52, 3) := by decide +kernel
theorem dX6_expression_11 : decode cX6_expression 11 = .ok (.iload_n 1, 1) := by decide +kernel
theorem dX6_expression_12 : decode cX6_expression 12 = .ok (.iaload, 1) := by decide +kernel
theorem dX6_expression_13 : decode cX6_expression 13 = .ok (.istore_n 3, 1) := by decide +kernel
theorem dX6_expression_14 : decode cX6_expression 14 = .ok (.iload_n 2, 1) := by decide +kernel
theorem dX6_expression_15 : decode cX6_expression 15 = .ok (.bipush 30, 2) := by decide +kernel
theorem dX6_expression_17 : decode cX6_expression 17 = .ok (.if_icmp .ne 26, 3) := by decide +kernel
theorem dX6_expression_20 : decode cX6_expression 20 = .ok (.aload_n 0, 1) := by decide +kernel
theorem dX6_expression_21 : decode cX6_expression 21 = .ok (.iload_n 1, 1) := by decide +kernel
theorem dX6_expression_22 : decode cX6_expression 22 = .ok (.invokevirtual 148, 3) := by decide +kernel
theorem dX6_expression_25 : decode cX6_expression 25 = .ok (.aload_n 0, 1) := by decide +kernel
theorem dX6_expression_26 : decode cX6_expression 26 = .ok (.getfield 46, 3) := by decide +kernel
theorem dX6_expression_29 : decode cX6_expression 29 = .ok (.iload_n 1, 1) := by decide +kernel
theorem dX6_expression_30 : decode cX6_expression 30 = .ok (.bipush 31, 2) := by decide +kernel
theorem dX6_expression_32 : decode cX6_expression 32 = .ok (.iastore, 1) := by decide +kernel
theorem dX6_expression_33 : decode cX6_expression 33 = .ok (.aload_n 0, 1) := by decide +kernel
theorem dX6_expression_34 : decode cX6_expression 34 = .ok (.bipush 33, 2) := by decide +kernel
theorem dX6_expression_36 : decode cX6_expression 36 = .ok (.iload_n 3, 1) := by decide +kernel
theorem dX6_expression_37 : decode cX6_expression 37 = .ok (.invokevirtual 166, 3) := by decide +kernel
theorem dX6_expression_40 : decode cX6_expression 40 = .ok (.goto 146, 3) := by decide +kernel
theorem dX6_expression_43 : decode cX6_expression 43 = .ok (.iload_n 2, 1) := by decide +kernel
theorem dX6_expression_44 : decode cX6_expression 44 = .ok (.bipush 33, 2) := by decide +kernel
theorem dX6_expression_46 : decode cX6_expression 46 = .ok (.if_icmp .eq 9, 3) := by decide +kernel
theorem dX6_expression_49 : decode cX6_expression 49 = .ok (.iload_n 2, 1) := by decide +kernel
theorem dX6_expression_50 : decode cX6_expression 50 = .ok (.bipush 36, 2) := by decide +kernel
theorem dX6_expression_52 : decode cX6_expression 52 = .ok (.if_icmp .ne 23, 3) := by decide +kernel
theorem dX6_expression_55 : decode cX6_expression 55 = .ok (.aload_n 0, 1) := by decide +kernel
theorem dX6_expression_56 : decode cX6_expression 56 = .ok (.getfield 46, 3) := by decide +kernel
theorem dX6_expression_59 : decode cX6_expression 59 = .ok (.iload_n 1, 1) := by decide +kernel
theorem dX6_expression_60 : decode cX6_expression 60 = .ok (.iload_n 2, 1) := by decide +kernel
theorem dX6_expression_61 : decode cX6_expression 61 = .ok (.iconst 1, 1) := by decide +kernel
theorem dX6_expression_62 : decode cX6_expression 62 = .ok (.iadd, 1) := by decide +kernel
theorem dX6_expression_63 : decode cX6_expression 63 = .ok (.iastore, 1) := by decide +kernel
theorem dX6_expression_64 : decode cX6_expression 64 = .ok (.aload_n 0, 1) := by decide +kernel
theorem dX6_expression_65 : decode cX6_expression 65 = .ok (.iload_n 2, 1) := by decide +kernel
theorem dX6_expression_66 : decode cX6_expression 66 = .ok (.iconst 3, 1) := by decide +kernel
theorem dX6_expression_67 : decode cX6_expression 67 = .ok (.iadd, 1) := by decide +kernel
theorem dX6_expression_68 : decode cX6_expression 68 = .ok (.iload_n 3, 1) := by decide +kernel
theorem dX6_expression_69 : decode cX6_expression 69 = .ok (.invokevirtual 166, 3) := by decide +kernel
theorem dX6_expression_72 : decode cX6_expression 72 = .ok (.goto 114, 3) := by decide +kernel
theorem dX6_expression_75 : decode cX6_expression 75 = .ok (.iload_n 2, 1) := by decide +kernel
theorem dX6_expression_76 : decode cX6_expression 76 = .ok (.bipush 31, 2) := by decide +kernel
theorem dX6_expression_78 : decode cX6_expression 78 = .ok (.if_icmp .eq 9, 3) := by decide +kernel
theorem dX6_expression_81 : decode cX6_expression 81 = .ok (.iload_n 2, 1) := by decide +kernel
theorem dX6_expression_82 : decode cX6_expression 82 = .ok (.bipush 32, 2) := by decide +kernel
theorem dX6_expression_84 : decode cX6_expression 84 = .ok (.if_icmp .ne 19, 3) := by decide +kernel
theorem dX6_expression_87 : decode cX6_expression 87 = .ok (.aload_n 0, 1) := by decide +kernel
theorem dX6_expression_88 : decode cX6_expression 88 = .ok (.iload_n 1, 1) := by decide +kernel
theorem dX6_expression_89 : decode cX6_expression 89 = .ok (.bipush 60, 2) := by decide +kernel
theorem dX6_expression_91 : decode cX6_expression 91 = .ok (.bipush 60, 2) := by decide +kernel
theorem dX6_expression_93 : decode cX6_expression 93 = .ok (.bipush 10, 2) := by decide +kernel
theorem dX6_expression_95 : decode cX6_expression 95 = .ok (.bipush 33, 2) := by decide +kernel
theorem dX6_expression_97 : decode cX6_expression 97 = .ok (.invokevirtual 204, 3) := by decide +kernel
theorem dX6_expression_100 : decode cX6_expression 100 = .ok (.goto 86, 3) := by decide +kernel
theorem dX6_expression_103 : decode cX6_expression 103 = .ok (.iload_n 2, 1) := by decide +kernel
theorem dX6_expression_104 : decode cX6_expression 104 = .ok (.bipush 34, 2) := by decide +kernel
theorem dX6_expression_106 : decode cX6_expression 106 = .ok (.if_icmp .ne 19, 3) := by decide +kernel
theorem dX6_expression_109 : decode cX6_expression 109 = .ok (.aload_n 0, 1) := by decide +kernel
theorem dX6_expression_110 : decode cX6_expression 110 = .ok (.iload_n 1, 1) := by decide +kernel
theorem dX6_expression_111 : decode cX6_expression 111 = .ok (.bipush 43, 2) := by decide +kernel
theorem dX6_expression_113 : decode cX6_expression 113 = .ok (.bipush 45, 2) := by decide +kernel
theorem dX6_expression_115 : decode cX6_expression 115 = .ok (.bipush 11, 2) := by decide +kernel
theorem dX6_expression_117 : decode cX6_expression 117 = .ok (.bipush 36, 2) := by decide +kernel
theorem dX6_expression_119 : decode cX6_expression 119 = .ok (.invokevirtual 204, 3) := by decide +kernel
theorem dX6_expression_122 : decode cX6_expression 122 = .ok (.goto 64, 3) := by decide +kernel
theorem dX6_expression_125 : decode cX6_expression 125 = .ok (.iload_n 2, 1) := by decide +kernel
theorem dX6_expression_126 : decode cX6_expression 126 = .ok (.bipush 37, 2) := by decide +kernel
theorem dX6_expression_128 : decode cX6_expression 128 = .ok (.if_icmp .ne 19, 3) := by decide +kernel
theorem dX6_expression_131 : decode cX6_expression 131 = .ok (.aload_n 0, 1) := by decide +kernel
theorem dX6_expression_132 : decode cX6_expression 132 = .ok (.iload_n 1, 1) := by decide +kernel
theorem dX6_expression_133 : decode cX6_expression 133 = .ok (.bipush 42, 2) := by decide +kernel
theorem dX6_expression_135 : decode cX6_expression 135 = .ok (.bipush 42, 2) := by decide +kernel
theorem dX6_expression_137 : decode cX6_expression 137 = .ok (.bipush 12, 2) := by decide +kernel
theorem dX6_expression_139 : decode cX6_expression 139 = .ok (.bipush 39, 2) := by decide +kernel
theorem dX6_expression_141 : decode cX6_expression 141 = .ok (.invokevirtual 204, 3) := by decide +kernel
theorem dX6_expression_144 : decode cX6_expression 144 = .ok (.goto 42, 3) := by decide +kernel
theorem dX6_expression_147 : decode cX6_expression 147 = .ok (.iload_n 2, 1) := by decide +kernel
theorem dX6_expression_148 : decode cX6_expression 148 = .ok (.bipush 39, 2) := by decide +kernel
theorem dX6_expression_150 : decode cX6_expression 150 = .ok (.if_icmp .ne 11, 3) := by decide +kernel
theorem dX6_expression_153 : decode cX6_expression 153 = .ok (.aload_n 0, 1) := by decide +kernel
theorem dX6_expression_154 : decode cX6_expression 154 = .ok (.iload_n 1, 1) := by decide +kernel
theorem dX6_expression_155 : decode cX6_expression 155 = .ok (.invokevirtual 208, 3) := by decide +kernel
theorem dX6_expression_158 : decode cX6_expression 158 = .ok (.goto 28, 3) := by decide +kernel
theorem dX6_expression_161 : decode cX6_expression 161 = .ok (.aload_n 0, 1) := by decide +kernel
theorem dX6_expression_162 : decode cX6_expression 162 = .ok (.iload_n 1, 1) := by decide +kernel
theorem dX6_expression_163 : decode cX6_expression 163 = .ok (.invokevirtual 180, 3) := by decide +kernel
theorem dX6_expression_166 : decode cX6_expression 166 = .ok (.aload_n 0, 1) := by decide +kernel
theorem dX6_expression_167 : decode cX6_expression 167 = .ok (.aload_n 0, 1) := by decide +kernel
theorem dX6_expression_168 : decode cX6_expression 168 = .ok (.bipush 41, 2) := by decide +kernel
theorem dX6_expression_170 : decode cX6_expression 170 = .ok (.invokevirtual 159, 3) := by decide +kernel
theorem dX6_expression_173 : decode cX6_expression 173 = .ok (.invokevirtual 141, 3) := by decide +kernel
theorem dX6_expression_176 : decode cX6_expression 176 = .ok (.aload_n 0, 1) := by decide +kernel
theorem dX6_expression_177 : decode cX6_expression 177 = .ok (.aload_n 0, 1) := by decide +kernel
theorem dX6_expression_178 : decode cX6_expression 178 = .ok (.getfield 49, 3) := by decide +kernel
theorem dX6_expression_181 : decode cX6_expression 181 = .ok (.iload_n 1, 1) := by decide +kernel
theorem dX6_expression_182 : decode cX6_expression 182 = .ok (.iaload, 1) := by decide +kernel
theorem dX6_expression_183 : decode cX6_expression 183 = .ok (.invokevirtual 177, 3) := by decide +kernel
theorem dX6_expression_186 : decode cX6_expression 186 = .ok (.return_, 1) := by decide +kernel
theorem dX6_operand_0 : decode cX6_operand 0 = .ok (.aload_n 0, 1) := by decide +kernel
theorem dX6_operand_1 : decode cX6_operand 1 = .ok (.invokevirtual 107, 3) := by decide +kernel
theorem dX6_operand_4 : decode cX6_operand 4 = .ok (.istore 6, 2) := by decide +kernel
theorem dX6_operand_6 : decode cX6_operand 6 = .ok (.iload 6, 2) := by decide +kernel
theorem dX6_operand_8 : decode cX6_operand 8 = .ok (.iload_n 2, 1) := by decide +kernel
theorem dX6_operand_9 : decode cX6_operand 9 = .ok (.if_icmp .eq 9, 3) := by decide +kernel
theorem dX6_operand_12 : decode cX6_operand 12 = .ok (.iload 6, 2) := by decide +kernel
theorem dX6_operand_14 : decode cX6_operand 14 = .ok (.iload_n 3, 1) := by decide +kernel
theorem dX6_operand_15 : decode cX6_operand 15 = .ok (.if_icmp .ne 18, 3) := by decide +kernel
theorem dX6_operand_18 : decode cX6_operand 18 = .ok (.aload_n 0, 1) := by decide +kernel
theorem dX6_operand_19 : decode cX6_operand 19 = .ok (.getfield 46, 3) := by decide +kernel
theorem dX6_operand_22 : decode cX6_operand 22 = .ok (.iload_n 1, 1) := by decide +kernel
theorem dX6_operand_23 : decode cX6_operand 23 = .ok (.iaload, 1) := by decide +kernel
theorem dX6_operand_24 : decode cX6_operand 24 = .ok (.bipush 32, 2) := by decide +kernel
theorem dX6_operand_26 : decode cX6_operand 26 = .ok (.if_icmp .eq 7, 3) := by decide +kernel
theorem dX6_operand_29 : decode cX6_operand 29 = .ok (.iconst 1, 1) := by decide +kernel
theorem dX6_operand_30 : decode cX6_operand 30 = .ok (.goto 4, 3) := by decide +kernel
theorem dX6_operand_33 : decode cX6_operand 33 = .ok (.iconst 0, 1) := by decide +kernel
theorem dX6_operand_34 : decode cX6_operand 34 = .ok (.istore 7, 2) := by decide +kernel
theorem dX6_operand_36 : decode cX6_operand 36 = .ok (.aload_n 0, 1) := by decide +kernel
theorem dX6_operand_37 : decode cX6_operand 37 = .ok (.getfield 121, 3) := by decide +kernel
theorem dX6_operand_40 : decode cX6_operand 40 = .ok (.istore 8, 2) := by decide +kernel
theorem dX6_operand_42 : decode cX6_operand 42 = .ok (.aload_n 0, 1) := by decide +kernel
theorem dX6_operand_43 : decode cX6_operand 43 = .ok (.getfield 49, 3) := by decide +kernel
theorem dX6_operand_46 : decode cX6_operand 46 = .ok (.iload_n 1, 1) := by decide +kernel
theorem dX6_operand_47 : decode cX6_operand 47 = .ok (.iaload, 1) := by decide +kernel
theorem dX6_operand_48 : decode cX6_operand 48 = .ok (.ifCond .ne 15, 3) := by decide +kernel
theorem dX6_operand_51 : decode cX6_operand 51 = .ok (.iload 7, 2) := by decide +kernel
theorem dX6_operand_53 : decode cX6_operand 53 = .ok (.ifCond .ne 10, 3) := by decide +kernel
theorem dX6_operand_56 : decode cX6_operand 56 = .ok (.aload_n 0, 1) := by decide +kernel
theorem dX6_operand_57 : decode cX6_operand 57 = .ok (.iload 8, 2) := by decide +kernel
theorem dX6_operand_59 : decode cX6_operand 59 = .ok (.invokevirtual 177, 3) := by decide +kernel
theorem dX6_operand_62 : decode cX6_operand 62 = .ok (.return_, 1) := by decide +kernel
theorem dX6_operand_63 : decode cX6_operand 63 = .ok (.aload_n 0, 1) := by decide +kernel
theorem dX6_operand_64 : decode cX6_operand 64 = .ok (.getfield 49, 3) := by decide +kernel
theorem dX6_operand_67 : decode cX6_operand 67 = .ok (.iload_n 1, 1) := by decide +kernel
theorem dX6_operand_68 : decode cX6_operand 68 = .ok (.iaload, 1) := by decide +kernel
theorem dX6_operand_69 : decode cX6_operand 69 = .ok (.ifCond .ne 15, 3) := by decide +kernel
theorem dX6_operand_72 : decode cX6_operand 72 = .ok (.aload_n 0, 1) := by decide +kernel
theorem dX6_operand_73 : decode cX6_operand 73 = .ok (.getfield 49, 3) := by decide +kernel
theorem dX6_operand_76 : decode cX6_operand 76 = .ok (.iload_n 1, 1) := by decide +kernel
theorem dX6_operand_77 : decode cX6_operand 77 = .ok (.aload_n 0, 1) := by decide +kernel
theorem dX6_operand_78 : decode cX6_operand 78 = .ok (.iload 4, 2) := by decide +kernel
theorem dX6_operand_80 : decode cX6_operand 80 = .ok (.invokevirtual 137, 3) := by decide +kernel
theorem dX6_operand_83 : decode cX6_operand 83 = .ok (.iastore, 1) := by decide +kernel
theorem dX6_operand_84 : decode cX6_operand 84 = .ok (.aload_n 0, 1) := by decide +kernel
theorem dX6_operand_85 : decode cX6_operand 85 = .ok (.iload 8, 2) := by decide +kernel
theorem dX6_operand_87 : decode cX6_operand 87 = .ok (.putfield 121, 3) := by decide +kernel
theorem dX6_operand_90 : decode cX6_operand 90 = .ok (.aload_n 0, 1) := by decide +kernel
theorem dX6_operand_91 : decode cX6_operand 91 = .ok (.getfield 31, 3) := by decide +kernel
theorem dX6_operand_94 : decode cX6_operand 94 = .ok (.iload 8, 2) := by decide +kernel
theorem dX6_operand_96 : decode cX6_operand 96 = .ok (.aload_n 0, 1) := by decide +kernel
theorem dX6_operand_97 : decode cX6_operand 97 = .ok (.getfield 58, 3) := by decide +kernel
theorem dX6_operand_100 : decode cX6_operand 100 = .ok (.iload_n 1, 1) := by decide +kernel
theorem dX6_operand_101 : decode cX6_operand 101 = .ok (.iaload, 1) := by decide +kernel
theorem dX6_operand_102 : decode cX6_operand 102 = .ok (.iastore, 1) := by decide +kernel
theorem dX6_operand_103 : decode cX6_operand 103 = .ok (.aload_n 0, 1) := by decide +kernel
theorem dX6_operand_104 : decode cX6_operand 104 = .ok (.iload_n 1, 1) := by decide +kernel
theorem dX6_operand_105 : decode cX6_operand 105 = .ok (.invokevirtual 180, 3) := by decide +kernel
theorem dX6_operand_108 : decode cX6_operand 108 = .ok (.iload 7, 2) := by decide +kernel
theorem dX6_operand_110 : decode cX6_operand 110 = .ok (.ifCond .ne 14, 3) := by decide +kernel
theorem dX6_operand_113 : decode cX6_operand 113 = .ok (.aload_n 0, 1) := by decide +kernel
theorem dX6_operand_114 : decode cX6_operand 114 = .ok (.aload_n 0, 1) := by decide +kernel
theorem dX6_operand_115 : decode cX6_operand 115 = .ok (.getfield 49, 3) := by decide +kernel
theorem dX6_operand_118 : decode cX6_operand 118 = .ok (.iload_n 1, 1) := by decide +kernel
theorem dX6_operand_119 : decode cX6_operand 119 = .ok (.iaload, 1) := by decide +kernel
theorem dX6_operand_120 : decode cX6_operand 120 = .ok (.invokevirtual 177, 3) := by decide +kernel
theorem dX6_operand_123 : decode cX6_operand 123 = .ok (.return_, 1) := by decide +kernel
theorem dX6_operand_124 : decode cX6_operand 124 = .ok (.aload_n 0, 1) := by decide +kernel
theorem dX6_operand_125 : decode cX6_operand 125 = .ok (.dup, 1) := by decide +kernel
theorem dX6_operand_126 : decode cX6_operand 126 = .ok (.getfield 104, 3) := by decide +kernel
theorem dX6_operand_129 : decode cX6_operand 129 = .ok (.iconst 1, 1) := by decide +kernel
theorem dX6_operand_130 : decode cX6_operand 130 = .ok (.iadd, 1) := by decide +kernel
theorem dX6_operand_131 : decode cX6_operand 131 = .ok (.putfield 104, 3) := by decide +kernel
theorem dX6_operand_134 : decode cX6_operand 134 = .ok (.aload_n 0, 1) := by decide +kernel
theorem dX6_operand_135 : decode cX6_operand 135 = .ok (.getfield 58, 3) := by decide +kernel
theorem dX6_operand_138 : decode cX6_operand 138 = .ok (.iload_n 1, 1) := by decide +kernel
theorem dX6_operand_139 : decode cX6_operand 139 = .ok (.iload 4, 2) := by decide +kernel
theorem dX6_operand_141 : decode cX6_operand 141 = .ok (.bipush 12, 2) := by decide +kernel
theorem dX6_operand_143 : decode cX6_operand 143 = .ok (.if_icmp .ne 7, 3) := by decide +kernel
theorem dX6_operand_146 : decode cX6_operand 146 = .ok (.iconst 2, 1) := by decide +kernel
theorem dX6_operand_147 : decode cX6_operand 147 = .ok (.goto 25, 3) := by decide +kernel
theorem dX6_operand_150 : decode cX6_operand 150 = .ok (.iload 4, 2) := by decide +kernel
theorem dX6_operand_152 : decode cX6_operand 152 = .ok (.bipush 10, 2) := by decide +kernel
theorem dX6_operand_154 : decode cX6_operand 154 = .ok (.if_icmp .ne 7, 3) := by decide +kernel
theorem dX6_operand_157 : decode cX6_operand 157 = .ok (.iconst 3, 1) := by decide +kernel
theorem dX6_operand_158 : decode cX6_operand 158 = .ok (.goto 14, 3) := by decide +kernel
theorem dX6_operand_161 : decode cX6_operand 161 = .ok (.iload 6, 2) := by decide +kernel
theorem dX6_operand_163 : decode cX6_operand 163 = .ok (.iload_n 3, 1) := by decide +kernel
theorem dX6_operand_164 : decode cX6_operand 164 = .ok (.if_icmp .ne 7, 3) := by decide +kernel
theorem dX6_operand_167 : decode cX6_operand 167 = .ok (.iconst 1, 1) := by decide +kernel
theorem dX6_operand_168 : decode cX6_operand 168 = .ok (.goto 4, 3) := by decide +kernel
theorem dX6_operand_171 : decode cX6_operand 171 = .ok (.iconst 0, 1) := by decide +kernel
