theorem dX7_read_80 : decode cX7_read 80 = .ok (.aload_n 0, 1) := by decide +kernel
theorem dX7_read_81 : decode cX7_read 81 = .ok (.invokevirtual 167, 3) := by decide +kernel
theorem dX7_read_84 : decode cX7_read 84 = .ok (.goto (-22), 3) := by decide +kernel
theorem dX7_read_87 : decode cX7_read 87 = .ok (.aload_n 0, 1) := by decide +kernel
theorem dX7_read_88 : decode cX7_read 88 = .ok (.getfield 138, 3) := by decide +kernel
theorem dX7_read_91 : decode cX7_read 91 = .ok (.ifCond .le 12, 3) := by decide +kernel
theorem dX7_read_94 : decode cX7_read 94 = .ok (.aload_n 0, 1) := by decide +kernel
theorem dX7_read_95 : decode cX7_read 95 = .ok (.iconst 1, 1) := by decide +kernel
theorem dX7_read_96 : decode cX7_read 96 = .ok (.aload_n 0, 1) := by decide +kernel
theorem dX7_read_97 : decode cX7_read 97 = .ok (.getfield 102, 3) := by decide +kernel
theorem dX7_read_100 : decode cX7_read 100 = .ok (.invokevirtual 134, 3) := by decide +kernel
theorem dX7_read_103 : decode cX7_read 103 = .ok (.aload_n 0, 1) := by decide +kernel
theorem dX7_read_104 : decode cX7_read 104 = .ok (.getfield 107, 3) := by decide +kernel
theorem dX7_read_107 : decode cX7_read 107 = .ok (.ifCond .le 5, 3) := by decide +kernel
theorem dX7_read_110 : decode cX7_read 110 = .ok (.iconst (-1), 1) := by decide +kernel
theorem dX7_read_111 : decode cX7_read 111 = .ok (.ireturn, 1) := by decide +kernel
theorem dX7_read_112 : decode cX7_read 112 = .ok (.aload_n 0, 1) := by decide +kernel
theorem dX7_read_113 : decode cX7_read 113 = .ok (.invokevirtual 161, 3) := by decide +kernel
theorem dX7_read_116 : decode cX7_read 116 = .ok (.aload_n 0, 1) := by decide +kernel
theorem dX7_read_117 : decode cX7_read 117 = .ok (.getfield 35, 3) := by decide +kernel
theorem dX7_read_120 : decode cX7_read 120 = .ok (.iconst 0, 1) := by decide +kernel
theorem dX7_read_121 : decode cX7_read 121 = .ok (.aload_n 0, 1) := by decide +kernel
theorem dX7_read_122 : decode cX7_read 122 = .ok (.getfield 42, 3) := by decide +kernel
theorem dX7_read_125 : decode cX7_read 125 = .ok (.iconst 0, 1) := by decide +kernel
theorem dX7_read_126 : decode cX7_read 126 = .ok (.iaload, 1) := by decide +kernel
theorem dX7_read_127 : decode cX7_read 127 = .ok (.iastore, 1) := by decide +kernel
theorem dX7_read_128 : decode cX7_read 128 = .ok (.aload_n 0, 1) := by decide +kernel
theorem dX7_read_129 : decode cX7_read 129 = .ok (.invokevirtual 170, 3) := by decide +kernel
theorem dX7_read_132 : decode cX7_read 132 = .ok (.iconst 0, 1) := by decide +kernel
theorem dX7_read_133 : decode cX7_read 133 = .ok (.istore_n 2, 1) := by decide +kernel
theorem dX7_read_134 : decode cX7_read 134 = .ok (.iload_n 2, 1) := by decide +kernel
theorem dX7_read_135 : decode cX7_read 135 = .ok (.aload_n 0, 1) := by decide +kernel
theorem dX7_read_136 : decode cX7_read 136 = .ok (.getfield 110, 3) := by decide +kernel
theorem dX7_read_139 : decode cX7_read 139 = .ok (.if_icmp .gt 125, 3) := by decide +kernel
theorem dX7_read_142 : decode cX7_read 142 = .ok (.iconst 1, 1) := by decide +kernel
theorem dX7_read_143 : decode cX7_read 143 = .ok (.istore_n 3, 1) := by decide +kernel
theorem dX7_read_144 : decode cX7_read 144 = .ok (.iload_n 3, 1) := by decide +kernel
theorem dX7_read_145 : decode cX7_read 145 = .ok (.aload_n 0, 1) := by decide +kernel
theorem dX7_read_146 : decode cX7_read 146 = .ok (.getfield 110, 3) := by decide +kernel
theorem dX7_read_149 : decode cX7_read 149 = .ok (.if_icmp .gt 109, 3) := by decide +kernel
theorem dX7_read_152 : decode cX7_read 152 = .ok (.iconst 0, 1) := by decide +kernel
theorem dX7_read_153 : decode cX7_read 153 = .ok (.istore 4, 2) := by decide +kernel
theorem dX7_read_155 : decode cX7_read 155 = .ok (.iload 4, 2) := by decide +kernel
theorem dX7_read_157 : decode cX7_read 157 = .ok (.bipush 8, 2) := by decide +kernel
theorem dX7_read_159 : decode cX7_read 159 = .ok (.if_icmp .ge 93, 3) := by decide +kernel
theorem dX7_read_162 : decode cX7_read 162 = .ok (.aload_n 0, 1) := by decide +kernel
theorem dX7_read_163 : decode cX7_read 163 = .ok (.getfield 35, 3) := by decide +kernel
theorem dX7_read_166 : decode cX7_read 166 = .ok (.iload_n 2, 1) := by decide +kernel
theorem dX7_read_167 : decode cX7_read 167 = .ok (.iaload, 1) := by decide +kernel
theorem dX7_read_168 : decode cX7_read 168 = .ok (.iload_n 3, 1) := by decide +kernel
theorem dX7_read_169 : decode cX7_read 169 = .ok (.ishr, 1) := by decide +kernel
theorem dX7_read_170 : decode cX7_read 170 = .ok (.iconst 1, 1) := by decide +kernel
theorem dX7_read_171 : decode cX7_read 171 = .ok (.iand, 1) := by decide +kernel
theorem dX7_read_172 : decode cX7_read 172 = .ok (.iconst 1, 1) := by decide +kernel
theorem dX7_read_173 : decode cX7_read 173 = .ok (.if_icmp .ne 22, 3) := by decide +kernel
theorem dX7_read_176 : decode cX7_read 176 = .ok (.aload_n 0, 1) := by decide +kernel
theorem dX7_read_177 : decode cX7_read 177 = .ok (.getfield 32, 3) := by decide +kernel
theorem dX7_read_180 : decode cX7_read 180 = .ok (.iload_n 3, 1) := by decide +kernel
theorem dX7_read_181 : decode cX7_read 181 = .ok (.iaload, 1) := by decide +kernel
theorem dX7_read_182 : decode cX7_read 182 = .ok (.iload 4, 2) := by decide +kernel
theorem dX7_read_184 : decode cX7_read 184 = .ok (.ishr, 1) := by decide +kernel
theorem dX7_read_185 : decode cX7_read 185 = .ok (.iconst 1, 1) := by decide +kernel
theorem dX7_read_186 : decode cX7_read 186 = .ok (.iand, 1) := by decide +kernel
theorem dX7_read_187 : decode cX7_read 187 = .ok (.iconst 1, 1) := by decide +kernel
theorem dX7_read_188 : decode cX7_read 188 = .ok (.if_icmp .ne 7, 3) := by decide +kernel
theorem dX7_read_191 : decode cX7_read 191 = .ok (.iconst 1, 1) := by decide +kernel
theorem dX7_read_192 : decode cX7_read 192 = .ok (.goto 4, 3) := by decide +kernel
theorem dX7_read_195 : decode cX7_read 195 = .ok (.iconst 0, 1) := by decide +kernel
theorem dX7_read_196 : decode cX7_read 196 = .ok (.istore 5, 2) := by decide +kernel
theorem dX7_read_198 : decode cX7_read 198 = .ok (.aload_n 0, 1) := by decide +kernel
theorem dX7_read_199 : decode cX7_read 199 = .ok (.getfield 29, 3) := by decide +kernel
theorem dX7_read_202 : decode cX7_read 202 = .ok (.bipush 8, 2) := by decide +kernel
theorem dX7_read_204 : decode cX7_read 204 = .ok (.iload_n 2, 1) := by decide +kernel
theorem dX7_read_205 : decode cX7_read 205 = .ok (.imul, 1) := by decide +kernel
theorem dX7_read_206 : decode cX7_read 206 = .ok (.iload 4, 2) := by decide +kernel
theorem dX7_read_208 : decode cX7_read 208 = .ok (.iadd, 1) := by decide +kernel
theorem dX7_read_209 : decode cX7_read 209 = .ok (.iload 5, 2) := by decide +kernel
theorem dX7_read_211 : decode cX7_read 211 = .ok (.ifCond .eq 22, 3) := by decide +kernel
theorem dX7_read_214 : decode cX7_read 214 = .ok (.aload_n 0, 1) := by decide +kernel
theorem dX7_read_215 : decode cX7_read 215 = .ok (.getfield 29, 3) := by decide +kernel
theorem dX7_read_218 : decode cX7_read 218 = .ok (.bipush 8, 2) := by decide +kernel
theorem dX7_read_220 : decode cX7_read 220 = .ok (.iload_n 2, 1) := by decide +kernel
theorem dX7_read_221 : decode cX7_read 221 = .ok (.imul, 1) := by decide +kernel
theorem dX7_read_222 : decode cX7_read 222 = .ok (.iload 4, 2) := by decide +kernel
theorem dX7_read_224 : decode cX7_read 224 = .ok (.iadd, 1) := by decide +kernel
theorem dX7_read_225 : decode cX7_read 225 = .ok (.iaload, 1) := by decide +kernel
theorem dX7_read_226 : decode cX7_read 226 = .ok (.iconst 1, 1) := by decide +kernel
theorem dX7_read_227 : decode cX7_read 227 = .ok (.iload_n 3, 1) := by decide +kernel
theorem dX7_read_228 : decode cX7_read 228 = .ok (.ishl, 1) := by decide +kernel
theorem dX7_read_229 : decode cX7_read 229 = .ok (.ior, 1) := by decide +kernel
theorem dX7_read_230 : decode cX7_read 230 = .ok (.goto 15, 3) := by decide +kernel
theorem dX7_read_233 : decode cX7_read 233 = .ok (.aload_n 0, 1) := by decide +kernel
theorem dX7_read_234 : decode cX7_read 234 = .ok (.getfield 29, 3) := by decide +kernel
theorem dX7_read_237 : decode cX7_read 237 = .ok (.bipush 8, 2) := by decide +kernel
theorem dX7_read_239 : decode cX7_read 239 = .ok (.iload_n 2, 1) := by decide +kernel
theorem dX7_read_240 : decode cX7_read 240 = .ok (.imul, 1) := by decide +kernel
theorem dX7_read_241 : decode cX7_read 241 = .ok (.iload 4, 2) := by decide +kernel
theorem dX7_read_243 : decode cX7_read 243 = .ok (.iadd, 1) := by decide +kernel
theorem dX7_read_244 : decode cX7_read 244 = .ok (.iaload, 1) := by decide +kernel
theorem dX7_read_245 : decode cX7_read 245 = .ok (.iastore, 1) := by decide +kernel
theorem dX7_read_246 : decode cX7_read 246 = .ok (.iinc 4 1, 3) := by decide +kernel
theorem dX7_read_249 : decode cX7_read 249 = .ok (.goto (-94), 3) := by decide +kernel
theorem dX7_read_252 : decode cX7_read 252 = .ok (.iinc 3 1, 3) := by decide +kernel
theorem dX7_read_255 : decode cX7_read 255 = .ok (.goto (-111), 3) := by decide +kernel
theorem dX7_read_258 : decode cX7_read 258 = .ok (.iinc 2 1, 3) := by decide +kernel
theorem dX7_read_261 : decode cX7_read 261 = .ok (.goto (-127), 3) := by decide +kernel
theorem dX7_read_264 : decode cX7_read 264 = .ok (.aload_n 0, 1) := by decide +kernel
theorem dX7_read_265 : decode cX7_read 265 = .ok (.iload_n 1, 1) := by decide +kernel
theorem dX7_read_266 : decode cX7_read 266 = .ok (.aload_n 0, 1) := by decide +kernel
theorem dX7_read_267 : decode cX7_read 267 = .ok (.getfield 110, 3) := by decide +kernel
theorem dX7_read_270 : decode cX7_read 270 = .ok (.iconst 1, 1) := by decide +kernel
theorem dX7_read_271 : decode cX7_read 271 = .ok (.iadd, 1) := by decide +kernel
theorem dX7_read_272 : decode cX7_read 272 = .ok (.iconst 1, 1) := by decide +kernel
theorem dX7_read_273 : decode cX7_read 273 = .ok (.aload_n 0, 1) := by decide +kernel
theorem dX7_read_274 : decode cX7_read 274 = .ok (.getfield 38, 3) := by decide +kernel
theorem dX7_read_277 : decode cX7_read 277 = .ok (.iconst 0, 1) := by decide +kernel
theorem dX7_read_278 : decode cX7_read 278 = .ok (.baload, 1) := by decide +kernel
theorem dX7_read_279 : decode cX7_read 279 = .ok (.ifCond .eq 14, 3) := by decide +kernel
theorem dX7_read_282 : decode cX7_read 282 = .ok (.aload_n 0, 1) := by decide +kernel
theorem dX7_read_283 : decode cX7_read 283 = .ok (.getfield 45, 3) := by decide +kernel
theorem dX7_read_286 : decode cX7_read 286 = .ok (.iconst 0, 1) := by decide +kernel
theorem dX7_read_287 : decode cX7_read 287 = .ok (.iaload, 1) := by decide +kernel
theorem dX7_read_288 : decode cX7_read 288 = .ok (.iconst 1, 1) := by decide +kernel
theorem dX7_read_289 : decode cX7_read 289 = .ok (.ior, 1) := by decide +kernel
theorem dX7_read_290 : decode cX7_read 290 = .ok (.goto 9, 3) := by decide +kernel
theorem dX7_read_293 : decode cX7_read 293 = .ok (.aload_n 0, 1) := by decide +kernel
theorem dX7_read_294 : decode cX7_read 294 = .ok (.getfield 45, 3) := by decide +kernel
theorem dX7_read_297 : decode cX7_read 297 = .ok (.iconst 0, 1) := by decide +kernel
theorem dX7_read_298 : decode cX7_read 298 = .ok (.iaload, 1) := by decide +kernel
theorem dX7_read_299 : decode cX7_read 299 = .ok (.invokevirtual 173, 3) := by decide +kernel
theorem dX7_read_302 : decode cX7_read 302 = .ok (.aload_n 0, 1) := by decide +kernel
theorem dX7_read_303 : decode cX7_read 303 = .ok (.getfield 110, 3) := by decide +kernel
theorem dX7_read_306 : decode cX7_read 306 = .ok (.iconst 1, 1) := by decide +kernel
theorem dX7_read_307 : decode cX7_read 307 = .ok (.iadd, 1) := by decide +kernel
theorem dX7_read_308 : decode cX7_read 308 = .ok (.ireturn, 1) := by decide +kernel
theorem dX7_fault_0 : decode cX7_fault 0 = .ok (.aload_n 0, 1) := by decide +kernel
theorem dX7_fault_1 : decode cX7_fault 1 = .ok (.iconst 0, 1) := by decide +kernel
theorem dX7_fault_2 : decode cX7_fault 2 = .ok (.putfield 99, 3) := by decide +kernel
theorem dX7_fault_5 : decode cX7_fault 5 = .ok (.aload_n 0, 1) := by decide +kernel
theorem dX7_fault_6 : decode cX7_fault 6 = .ok (.getfield 107, 3) := by decide +kernel
theorem dX7_fault_9 : decode cX7_fault 9 = .ok (.ireturn, 1) := by decide +kernel
theorem dX7_place_0 : decode cX7_place 0 = .ok (.aload_n 0, 1) := by decide +kernel
theorem dX7_place_1 : decode cX7_place 1 = .ok (.iconst 0, 1) := by decide +kernel
theorem dX7_place_2 : decode cX7_place 2 = .ok (.putfield 99, 3) := by decide +kernel
theorem dX7_place_5 : decode cX7_place 5 = .ok (.aload_n 0, 1) := by decide +kernel
theorem dX7_place_6 : decode cX7_place 6 = .ok (.getfield 13, 3) := by decide +kernel
theorem dX7_place_9 : decode cX7_place 9 = .ok (.ireturn, 1) := by decide +kernel
theorem dX7_blank_0 : decode cX7_blank 0 = .ok (.aload_n 0, 1) := by decide +kernel
theorem dX7_blank_1 : decode cX7_blank 1 = .ok (.aload_n 0, 1) := by decide +kernel
theorem dX7_blank_2 : decode cX7_blank 2 = .ok (.iload_n 1, 1) := by decide +kernel
theorem dX7_blank_3 : decode cX7_blank 3 = .ok (.invokevirtual 164, 3) := by decide +kernel
theorem dX7_blank_6 : decode cX7_blank 6 = .ok (.ifCond .eq 7, 3) := by decide +kernel
theorem dX7_blank_9 : decode cX7_blank 9 = .ok (.iconst 1, 1) := by decide +kernel
theorem dX7_blank_10 : decode cX7_blank 10 = .ok (.goto 19, 3) := by decide +kernel
theorem dX7_blank_13 : decode cX7_blank 13 = .ok (.iload_n 2, 1) := by decide +kernel
theorem dX7_blank_14 : decode cX7_blank 14 = .ok (.iconst 1, 1) := by decide +kernel
theorem dX7_blank_15 : decode cX7_blank 15 = .ok (.if_icmp .lt 9, 3) := by decide +kernel
theorem dX7_blank_18 : decode cX7_blank 18 = .ok (.iload_n 2, 1) := by decide +kernel
theorem dX7_blank_19 : decode cX7_blank 19 = .ok (.bipush 24, 2) := by decide +kernel
theorem dX7_blank_21 : decode cX7_blank 21 = .ok (.if_icmp .le 7, 3) := by decide +kernel
theorem dX7_blank_24 : decode cX7_blank 24 = .ok (.iconst 2, 1) := by decide +kernel
theorem dX7_blank_25 : decode cX7_blank 25 = .ok (.goto 4, 3) := by decide +kernel
theorem dX7_blank_28 : decode cX7_blank 28 = .ok (.iconst 0, 1) := by decide +kernel
theorem dX7_blank_29 : decode cX7_blank 29 = .ok (.putfield 99, 3) := by decide +kernel
theorem dX7_blank_32 : decode cX7_blank 32 = .ok (.aload_n 0, 1) := by decide +kernel
theorem dX7_blank_33 : decode cX7_blank 33 = .ok (.getfield 99, 3) := by decide +kernel
theorem dX7_blank_36 : decode cX7_blank 36 = .ok (.ifCond .ne 15, 3) := by decide +kernel
theorem dX7_blank_39 : decode cX7_blank 39 = .ok (.aload_n 0, 1) := by decide +kernel
theorem dX7_blank_40 : decode cX7_blank 40 = .ok (.invokevirtual 170, 3) := by decide +kernel
theorem dX7_blank_43 : decode cX7_blank 43 = .ok (.aload_n 0, 1) := by decide +kernel
theorem dX7_blank_44 : decode cX7_blank 44 = .ok (.iload_n 1, 1) := by decide +kernel
theorem dX7_blank_45 : decode cX7_blank 45 = .ok (.iload_n 2, 1) := by decide +kernel
theorem dX7_blank_46 : decode cX7_blank 46 = .ok (.iconst 0, 1) := by decide +kernel
theorem dX7_blank_47 : decode cX7_blank 47 = .ok (.iconst 0, 1) := by decide +kernel
theorem dX7_blank_48 : decode cX7_blank 48 = .ok (.invokevirtual 173, 3) := by decide +kernel
theorem dX7_blank_51 : decode cX7_blank 51 = .ok (.return_, 1) := by decide +kernel
theorem dX7_noState_0 : decode cX7_noState 0 = .ok (.aload_n 0, 1) := by decide +kernel
theorem dX7_noState_1 : decode cX7_noState 1 = .ok (.iload_n 1, 1) := by decide +kernel
theorem dX7_noState_2 : decode cX7_noState 2 = .ok (.invokevirtual 164, 3) := by decide +kernel
theorem dX7_noState_5 : decode cX7_noState 5 = .ok (.ifCond .ne 17, 3) := by decide +kernel
theorem dX7_noState_8 : decode cX7_noState 8 = .ok (.iload_n 2, 1) := by decide +kernel
theorem dX7_noState_9 : decode cX7_noState 9 = .ok (.ifCond .lt 13, 3) := by decide +kernel
theorem dX7_noState_12 : decode cX7_noState 12 = .ok (.iload_n 2, 1) := by decide +kernel
theorem dX7_noState_13 : decode cX7_noState 13 = .ok (.aload_n 0, 1) := by decide +kernel
theorem dX7_noState_14 : decode cX7_noState 14 = .ok (.getfield 20, 3) := by decide +kernel
theorem dX7_noState_17 : decode cX7_noState 17 = .ok (.iload_n 1, 1) := by decide +kernel
theorem dX7_noState_18 : decode cX7_noState 18 = .ok (.iaload, 1) := by decide +kernel
theorem dX7_noState_19 : decode cX7_noState 19 = .ok (.if_icmp .lt 7, 3) := by decide +kernel
theorem dX7_noState_22 : decode cX7_noState 22 = .ok (.iconst 1, 1) := by decide +kernel
theorem dX7_noState_23 : decode cX7_noState 23 = .ok (.goto 4, 3) := by decide +kernel
theorem dX7_noState_26 : decode cX7_noState 26 = .ok (.iconst 0, 1) := by decide +kernel
theorem dX7_noState_27 : decode cX7_noState 27 = .ok (.ireturn, 1) := by decide +kernel
theorem dX7_mark_0 : decode cX7_mark 0 = .ok (.aload_n 0, 1) := by decide +kernel
theorem dX7_mark_1 : decode cX7_mark 1 = .ok (.aload_n 0, 1) := by decide +kernel
theorem dX7_mark_2 : decode cX7_mark 2 = .ok (.iload_n 1, 1) := by decide +kernel
theorem dX7_mark_3 : decode cX7_mark 3 = .ok (.iload_n 2, 1) := by decide +kernel
theorem dX7_mark_4 : decode cX7_mark 4 = .ok (.invokevirtual 177, 3) := by decide +kernel
theorem dX7_mark_7 : decode cX7_mark 7 = .ok (.ifCond .eq 7, 3) := by decide +kernel
theorem dX7_mark_10 : decode cX7_mark 10 = .ok (.iconst 1, 1) := by decide +kernel
theorem dX7_mark_11 : decode cX7_mark 11 = .ok (.goto 17, 3) := by decide +kernel
theorem dX7_mark_14 : decode cX7_mark 14 = .ok (.iload_n 3, 1) := by decide +kernel
theorem dX7_mark_15 : decode cX7_mark 15 = .ok (.ifCond .lt 8, 3) := by decide +kernel
theorem dX7_mark_18 : decode cX7_mark 18 = .ok (.iload_n 3, 1) := by decide +kernel
theorem dX7_mark_19 : decode cX7_mark 19 = .ok (.iconst 3, 1) := by decide +kernel
theorem dX7_mark_20 : decode cX7_mark 20 = .ok (.if_icmp .le 7, 3) := by decide +kernel
theorem dX7_mark_23 : decode cX7_mark 23 = .ok (.iconst 2, 1) := by decide +kernel
theorem dX7_mark_24 : decode cX7_mark 24 = .ok (.goto 4, 3) := by decide +kernel
theorem dX7_mark_27 : decode cX7_mark 27 = .ok (.iconst 0, 1) := by decide +kernel
theorem dX7_mark_28 : decode cX7_mark 28 = .ok (.putfield 99, 3) := by decide +kernel
theorem dX7_mark_31 : decode cX7_mark 31 = .ok (.aload_n 0, 1) := by decide +kernel
theorem dX7_mark_32 : decode cX7_mark 32 = .ok (.getfield 99, 3) := by decide +kernel
theorem dX7_mark_35 : decode cX7_mark 35 = .ok (.ifCond .ne 77, 3) := by decide +kernel
theorem dX7_mark_38 : decode cX7_mark 38 = .ok (.aload_n 0, 1) := by decide +kernel
theorem dX7_mark_39 : decode cX7_mark 39 = .ok (.getfield 23, 3) := by decide +kernel
theorem dX7_mark_42 : decode cX7_mark 42 = .ok (.iload_n 1, 1) := by decide +kernel
theorem dX7_mark_43 : decode cX7_mark 43 = .ok (.iload_n 3, 1) := by decide +kernel
theorem dX7_mark_44 : decode cX7_mark 44 = .ok (.iconst 2, 1) := by decide +kernel
theorem dX7_mark_45 : decode cX7_mark 45 = .ok (.irem, 1) := by decide +kernel
theorem dX7_mark_46 : decode cX7_mark 46 = .ok (.iconst 1, 1) := by decide +kernel
theorem dX7_mark_47 : decode cX7_mark 47 = .ok (.if_icmp .ne 16, 3) := by decide +kernel
theorem dX7_mark_50 : decode cX7_mark 50 = .ok (.aload_n 0, 1) := by decide +kernel
theorem dX7_mark_51 : decode cX7_mark 51 = .ok (.getfield 23, 3) := by decide +kernel
theorem dX7_mark_54 : decode cX7_mark 54 = .ok (.iload_n 1, 1) := by decide +kernel
theorem dX7_mark_55 : decode cX7_mark 55 = .ok (.iaload, 1) := by decide +kernel
theorem dX7_mark_56 : decode cX7_mark 56 = .ok (.iconst 1, 1) := by decide +kernel
theorem dX7_mark_57 : decode cX7_mark 57 = .ok (.iload_n 2, 1) := by decide +kernel
theorem dX7_mark_58 : decode cX7_mark 58 = .ok (.ishl, 1) := by decide +kernel
theorem dX7_mark_59 : decode cX7_mark 59 = .ok (.ior, 1) := by decide +kernel
theorem dX7_mark_60 : decode cX7_mark 60 = .ok (.goto 15, 3) := by decide +kernel
theorem dX7_mark_63 : decode cX7_mark 63 = .ok (.aload_n 0, 1) := by decide +kernel
theorem dX7_mark_64 : decode cX7_mark 64 = .ok (.getfield 23, 3) := by decide +kernel
theorem dX7_mark_67 : decode cX7_mark 67 = .ok (.iload_n 1, 1) := by decide +kernel
theorem dX7_mark_68 : decode cX7_mark 68 = .ok (.iaload, 1) := by decide +kernel
theorem dX7_mark_69 : decode cX7_mark 69 = .ok (.iconst 1, 1) := by decide +kernel
theorem dX7_mark_70 : decode cX7_mark 70 = .ok (.iload_n 2, 1) := by decide +kernel
theorem dX7_mark_71 : decode cX7_mark 71 = .ok (.ishl, 1) := by decide +kernel
theorem dX7_mark_72 : decode cX7_mark 72 = .ok (.iconst (-1), 1) := by decide +kernel
theorem dX7_mark_73 : decode cX7_mark 73 = .ok (.ixor, 1) := by decide +kernel
theorem dX7_mark_74 : decode cX7_mark 74 = .ok (.iand, 1) := by decide +kernel
theorem dX7_mark_75 : decode cX7_mark 75 = .ok (.iastore, 1) := by decide +kernel
theorem dX7_mark_76 : decode cX7_mark 76 = .ok (.aload_n 0, 1) := by decide +kernel
theorem dX7_mark_77 : decode cX7_mark 77 = .ok (.getfield 26, 3) := by decide +kernel
theorem dX7_mark_80 : decode cX7_mark 80 = .ok (.iload_n 1, 1) := by decide +kernel
theorem dX7_mark_81 : decode cX7_mark 81 = .ok (.iload_n 3, 1) := by decide +kernel
theorem dX7_mark_82 : decode cX7_mark 82 = .ok (.iconst 1, 1) := by decide +kernel
theorem dX7_mark_83 : decode cX7_mark 83 = .ok (.if_icmp .le 16, 3) := by decide +kernel
theorem dX7_mark_86 : decode cX7_mark 86 = .ok (.aload_n 0, 1) := by decide +kernel
theorem dX7_mark_87 : decode cX7_mark 87 = .ok (.getfield 26, 3) := by decide +kernel
theorem dX7_mark_90 : decode cX7_mark 90 = .ok (.iload_n 1, 1) := by decide +kernel
theorem dX7_mark_91 : decode cX7_mark 91 = .ok (.iaload, 1) := by decide +kernel
theorem dX7_mark_92 : decode cX7_mark 92 = .ok (.iconst 1, 1) := by decide +kernel
theorem dX7_mark_93 : decode cX7_mark 93 = .ok (.iload_n 2, 1) := by decide +kernel
theorem dX7_mark_94 : decode cX7_mark 94 = .ok (.ishl, 1) := by decide +kernel
theorem dX7_mark_95 : decode cX7_mark 95 = .ok (.ior, 1) := by decide +kernel
theorem dX7_mark_96 : decode cX7_mark 96 = .ok (.goto 15, 3) := by decide +kernel
theorem dX7_mark_99 : decode cX7_mark 99 = .ok (.aload_n 0, 1) := by decide +kernel
theorem dX7_mark_100 : decode cX7_mark 100 = .ok (.getfield 26, 3) := by decide +kernel
theorem dX7_mark_103 : decode cX7_mark 103 = .ok (.iload_n 1, 1) := by decide +kernel
theorem dX7_mark_104 : decode cX7_mark 104 = .ok (.iaload, 1) := by decide +kernel
theorem dX7_mark_105 : decode cX7_mark 105 = .ok (.iconst 1, 1) := by decide +kernel
theorem dX7_mark_106 : decode cX7_mark 106 = .ok (.iload_n 2, 1) := by decide +kernel
theorem dX7_mark_107 : decode cX7_mark 107 = .ok (.ishl, 1) := by decide +kernel
theorem dX7_mark_108 : decode cX7_mark 108 = .ok (.iconst (-1), 1) := by decide +kernel
theorem dX7_mark_109 : decode cX7_mark 109 = .ok (.ixor, 1) := by decide +kernel
theorem dX7_mark_110 : decode cX7_mark 110 = .ok (.iand, 1) := by decide +kernel
theorem dX7_mark_111 : decode cX7_mark 111 = .ok (.iastore, 1) := by decide +kernel
theorem dX7_mark_112 : decode cX7_mark 112 = .ok (.return_, 1) := by decide +kernel
theorem dX7_arcsOf_0 : decode cX7_arcsOf 0 = .ok (.aload_n 0, 1) := by decide +kernel
theorem dX7_arcsOf_1 : decode cX7_arcsOf 1 = .ok (.getfield 17, 3) := by decide +kernel
theorem dX7_arcsOf_4 : decode cX7_arcsOf 4 = .ok (.sipush 192, 3) := by decide +kernel
theorem dX7_arcsOf_7 : decode cX7_arcsOf 7 = .ok (.iload_n 1, 1) := by decide +kernel
theorem dX7_arcsOf_8 : decode cX7_arcsOf 8 = .ok (.imul, 1) := by decide +kernel
theorem dX7_arcsOf_9 : decode cX7_arcsOf 9 = .ok (.bipush 8, 2) := by decide +kernel
theorem dX7_arcsOf_11 : decode cX7_arcsOf 11 = .ok (.iload_n 2, 1) := by decide +kernel
theorem dX7_arcsOf_12 : decode cX7_arcsOf 12 = .ok (.imul, 1) := by decide +kernel
theorem dX7_arcsOf_13 : decode cX7_arcsOf 13 = .ok (.iadd, 1) := by decide +kernel
theorem dX7_arcsOf_14 : decode cX7_arcsOf 14 = .ok (.iload_n 3, 1) := by decide +kernel
theorem dX7_arcsOf_15 : decode cX7_arcsOf 15 = .ok (.iadd, 1) := by decide +kernel
theorem dX7_arcsOf_16 : decode cX7_arcsOf 16 = .ok (.iaload, 1) := by decide +kernel
theorem dX7_arcsOf_17 : decode cX7_arcsOf 17 = .ok (.ireturn, 1) := by decide +kernel
theorem dX7_arc_0 : decode cX7_arc 0 = .ok (.aload_n 0, 1) := by decide +kernel
theorem dX7_arc_1 : decode cX7_arc 1 = .ok (.aload_n 0, 1) := by decide +kernel
theorem dX7_arc_2 : decode cX7_arc 2 = .ok (.iload_n 1, 1) := by decide +kernel
theorem dX7_arc_3 : decode cX7_arc 3 = .ok (.iload_n 2, 1) := by decide +kernel
theorem dX7_arc_4 : decode cX7_arc 4 = .ok (.invokevirtual 177, 3) := by decide +kernel
theorem dX7_arc_7 : decode cX7_arc 7 = .ok (.ifCond .ne 13, 3) := by decide +kernel
theorem dX7_arc_10 : decode cX7_arc 10 = .ok (.aload_n 0, 1) := by decide +kernel
theorem dX7_arc_11 : decode cX7_arc 11 = .ok (.iload_n 1, 1) := by decide +kernel
theorem dX7_arc_12 : decode cX7_arc 12 = .ok (.iload 4, 2) := by decide +kernel
theorem dX7_arc_14 : decode cX7_arc 14 = .ok (.invokevirtual 177, 3) := by decide +kernel
theorem dX7_arc_17 : decode cX7_arc 17 = .ok (.ifCond .eq 7, 3) := by decide +kernel
theorem dX7_arc_20 : decode cX7_arc 20 = .ok (.iconst 1, 1) := by decide +kernel
theorem dX7_arc_21 : decode cX7_arc 21 = .ok (.goto 18, 3) := by decide +kernel
theorem dX7_arc_24 : decode cX7_arc 24 = .ok (.iload_n 3, 1) := by decide +kernel
theorem dX7_arc_25 : decode cX7_arc 25 = .ok (.ifCond .lt 9, 3) := by decide +kernel
theorem dX7_arc_28 : decode cX7_arc 28 = .ok (.iload_n 3, 1) := by decide +kernel
theorem dX7_arc_29 : decode cX7_arc 29 = .ok (.bipush 7, 2) := by decide +kernel
theorem dX7_arc_31 : decode cX7_arc 31 = .ok (.if_icmp .le 7, 3) := by decide +kernel
theorem dX7_arc_34 : decode cX7_arc 34 = .ok (.iconst 2, 1) := by decide +kernel
theorem dX7_arc_35 : decode cX7_arc 35 = .ok (.goto 4, 3) := by decide +kernel
theorem dX7_arc_38 : decode cX7_arc 38 = .ok (.iconst 0, 1) := by decide +kernel
theorem dX7_arc_39 : decode cX7_arc 39 = .ok (.putfield 99, 3) := by decide +kernel
theorem dX7_arc_42 : decode cX7_arc 42 = .ok (.aload_n 0, 1) := by decide +kernel
theorem dX7_arc_43 : decode cX7_arc 43 = .ok (.getfield 99, 3) := by decide +kernel
theorem dX7_arc_46 : decode cX7_arc 46 = .ok (.ifCond .le 5, 3) := by decide +kernel
theorem dX7_arc_49 : decode cX7_arc 49 = .ok (.iconst 0, 1) := by decide +kernel
theorem dX7_arc_50 : decode cX7_arc 50 = .ok (.ireturn, 1) := by decide +kernel
theorem dX7_arc_51 : decode cX7_arc 51 = .ok (.aload_n 0, 1) := by decide +kernel
theorem dX7_arc_52 : decode cX7_arc 52 = .ok (.iload_n 1, 1) := by decide +kernel
theorem dX7_arc_53 : decode cX7_arc 53 = .ok (.iload_n 2, 1) := by decide +kernel
theorem dX7_arc_54 : decode cX7_arc 54 = .ok (.iload_n 3, 1) := by decide +kernel
theorem dX7_arc_55 : decode cX7_arc 55 = .ok (.invokevirtual 181, 3) := by decide +kernel
theorem dX7_arc_58 : decode cX7_arc 58 = .ok (.istore 6, 2) := by decide +kernel
theorem dX7_arc_60 : decode cX7_arc 60 = .ok (.aload_n 0, 1) := by decide +kernel
theorem dX7_arc_61 : decode cX7_arc 61 = .ok (.getfield 17, 3) := by decide +kernel
theorem dX7_arc_64 : decode cX7_arc 64 = .ok (.sipush 192, 3) := by decide +kernel
theorem dX7_arc_67 : decode cX7_arc 67 = .ok (.iload_n 1, 1) := by decide +kernel
theorem dX7_arc_68 : decode cX7_arc 68 = .ok (.imul, 1) := by decide +kernel
theorem dX7_arc_69 : decode cX7_arc 69 = .ok (.bipush 8, 2) := by decide +kernel
theorem dX7_arc_71 : decode cX7_arc 71 = .ok (.iload_n 2, 1) := by decide +kernel
theorem dX7_arc_72 : decode cX7_arc 72 = .ok (.imul, 1) := by decide +kernel
theorem dX7_arc_73 : decode cX7_arc 73 = .ok (.iadd, 1) := by decide +kernel
theorem dX7_arc_74 : decode cX7_arc 74 = .ok (.iload_n 3, 1) := by decide +kernel
theorem dX7_arc_75 : decode cX7_arc 75 = .ok (.iadd, 1) := by decide +kernel
theorem dX7_arc_76 : decode cX7_arc 76 = .ok (.iload 5, 2) := by decide +kernel
theorem dX7_arc_78 : decode cX7_arc 78 = .ok (.ifCond .eq 13, 3) := by decide +kernel
theorem dX7_arc_81 : decode cX7_arc 81 = .ok (.iload 6, 2) := by decide +kernel
theorem dX7_arc_83 : decode cX7_arc 83 = .ok (.iconst 1, 1) := by decide +kernel
theorem dX7_arc_84 : decode cX7_arc 84 = .ok (.iload 4, 2) := by decide +kernel
theorem dX7_arc_86 : decode cX7_arc 86 = .ok (.ishl, 1) := by decide +kernel
theorem dX7_arc_87 : decode cX7_arc 87 = .ok (.ior, 1) := by decide +kernel
theorem dX7_arc_88 : decode cX7_arc 88 = .ok (.goto 12, 3) := by decide +kernel
theorem dX7_arc_91 : decode cX7_arc 91 = .ok (.iload 6, 2) := by decide +kernel
theorem dX7_arc_93 : decode cX7_arc 93 = .ok (.iconst 1, 1) := by decide +kernel
theorem dX7_arc_94 : decode cX7_arc 94 = .ok (.iload 4, 2) := by decide +kernel
theorem dX7_arc_96 : decode cX7_arc 96 = .ok (.ishl, 1) := by decide +kernel
theorem dX7_arc_97 : decode cX7_arc 97 = .ok (.iconst (-1), 1) := by decide +kernel
theorem dX7_arc_98 : decode cX7_arc 98 = .ok (.ixor, 1) := by decide +kernel
theorem dX7_arc_99 : decode cX7_arc 99 = .ok (.iand, 1) := by decide +kernel
theorem dX7_arc_100 : decode cX7_arc 100 = .ok (.iastore, 1) := by decide +kernel
theorem dX7_arc_101 : decode cX7_arc 101 = .ok (.iload 6, 2) := by decide +kernel
theorem dX7_arc_103 : decode cX7_arc 103 = .ok (.iload 4, 2) := by decide +kernel
theorem dX7_arc_105 : decode cX7_arc 105 = .ok (.ishr, 1) := by decide +kernel
theorem dX7_arc_106 : decode cX7_arc 106 = .ok (.iconst 1, 1) := by decide +kernel
theorem dX7_arc_107 : decode cX7_arc 107 = .ok (.iand, 1) := by decide +kernel
theorem dX7_arc_108 : decode cX7_arc 108 = .ok (.iconst 1, 1) := by decide +kernel
theorem dX7_arc_109 : decode cX7_arc 109 = .ok (.if_icmp .ne 7, 3) := by decide +kernel
theorem dX7_arc_112 : decode cX7_arc 112 = .ok (.iconst 1, 1) := by decide +kernel
theorem dX7_arc_113 : decode cX7_arc 113 = .ok (.goto 4, 3) := by decide +kernel
theorem dX7_arc_116 : decode cX7_arc 116 = .ok (.iconst 0, 1) := by decide +kernel
theorem dX7_arc_117 : decode cX7_arc 117 = .ok (.ireturn, 1) := by decide +kernel
theorem dX7_arcs_0 : decode cX7_arcs 0 = .ok (.aload_n 0, 1) := by decide +kernel
theorem dX7_arcs_1 : decode cX7_arcs 1 = .ok (.aload_n 0, 1) := by decide +kernel
theorem dX7_arcs_2 : decode cX7_arcs 2 = .ok (.iload_n 1, 1) := by decide +kernel
theorem dX7_arcs_3 : decode cX7_arcs 3 = .ok (.iload_n 2, 1) := by decide +kernel
theorem dX7_arcs_4 : decode cX7_arcs 4 = .ok (.invokevirtual 177, 3) := by decide +kernel
theorem dX7_arcs_7 : decode cX7_arcs 7 = .ok (.ifCond .eq 7, 3) := by decide +kernel
theorem dX7_arcs_10 : decode cX7_arcs 10 = .ok (.iconst 1, 1) := by decide +kernel
theorem dX7_arcs_11 : decode cX7_arcs 11 = .ok (.goto 18, 3) := by decide +kernel
theorem dX7_arcs_14 : decode cX7_arcs 14 = .ok (.iload_n 3, 1) := by decide +kernel
theorem dX7_arcs_15 : decode cX7_arcs 15 = .ok (.ifCond .lt 9, 3) := by decide +kernel
theorem dX7_arcs_18 : decode cX7_arcs 18 = .ok (.iload_n 3, 1) := by decide +kernel
theorem dX7_arcs_19 : decode cX7_arcs 19 = .ok (.bipush 8, 2) := by decide +kernel
theorem dX7_arcs_21 : decode cX7_arcs 21 = .ok (.if_icmp .le 7, 3) := by decide +kernel
theorem dX7_arcs_24 : decode cX7_arcs 24 = .ok (.iconst 2, 1) := by decide +kernel
theorem dX7_arcs_25 : decode cX7_arcs 25 = .ok (.goto 4, 3) := by decide +kernel
theorem dX7_arcs_28 : decode cX7_arcs 28 = .ok (.iconst 0, 1) := by decide +kernel
theorem dX7_arcs_29 : decode cX7_arcs 29 = .ok (.putfield 99, 3) := by decide +kernel
theorem dX7_arcs_32 : decode cX7_arcs 32 = .ok (.aload_n 0, 1) := by decide +kernel
theorem dX7_arcs_33 : decode cX7_arcs 33 = .ok (.getfield 99, 3) := by decide +kernel
theorem dX7_arcs_36 : decode cX7_arcs 36 = .ok (.ifCond .le 5, 3) := by decide +kernel
theorem dX7_arcs_39 : decode cX7_arcs 39 = .ok (.iconst 0, 1) := by decide +kernel
theorem dX7_arcs_40 : decode cX7_arcs 40 = .ok (.ireturn, 1) := by decide +kernel
theorem dX7_arcs_41 : decode cX7_arcs 41 = .ok (.iload_n 3, 1) := by decide +kernel
theorem dX7_arcs_42 : decode cX7_arcs 42 = .ok (.bipush 8, 2) := by decide +kernel
theorem dX7_arcs_44 : decode cX7_arcs 44 = .ok (.if_icmp .ge 13, 3) := by decide +kernel
theorem dX7_arcs_47 : decode cX7_arcs 47 = .ok (.aload_n 0, 1) := by decide +kernel
theorem dX7_arcs_48 : decode cX7_arcs 48 = .ok (.iload_n 1, 1) := by decide +kernel
theorem dX7_arcs_49 : decode cX7_arcs 49 = .ok (.iload_n 2, 1) := by decide +kernel
theorem dX7_arcs_50 : decode cX7_arcs 50 = .ok (.iload_n 3, 1) := by decide +kernel
theorem dX7_arcs_51 : decode cX7_arcs 51 = .ok (.invokevirtual 181, 3) := by decide +kernel
theorem dX7_arcs_54 : decode cX7_arcs 54 = .ok (.goto 26, 3) := by decide +kernel
theorem dX7_arcs_57 : decode cX7_arcs 57 = .ok (.aload_n 0, 1) := by decide +kernel
theorem dX7_arcs_58 : decode cX7_arcs 58 = .ok (.getfield 23, 3) := by decide +kernel
theorem dX7_arcs_61 : decode cX7_arcs 61 = .ok (.iload_n 1, 1) := by decide +kernel
theorem dX7_arcs_62 : decode cX7_arcs 62 = .ok (.iaload, 1) := by decide +kernel
theorem dX7_arcs_63 : decode cX7_arcs 63 = .ok (.iload_n 2, 1) := by decide +kernel
theorem dX7_arcs_64 : decode cX7_arcs 64 = .ok (.ishr, 1) := by decide +kernel
theorem dX7_arcs_65 : decode cX7_arcs 65 = .ok (.iconst 1, 1) := by decide +kernel
theorem dX7_arcs_66 : decode cX7_arcs 66 = .ok (.iand, 1) := by decide +kernel
theorem dX7_arcs_67 : decode cX7_arcs 67 = .ok (.iconst 2, 1) := by decide +kernel
theorem dX7_arcs_68 : decode cX7_arcs 68 = .ok (.aload_n 0, 1) := by decide +kernel
theorem dX7_arcs_69 : decode cX7_arcs 69 = .ok (.getfield 26, 3) := by decide +kernel
theorem dX7_arcs_72 : decode cX7_arcs 72 = .ok (.iload_n 1, 1) := by decide +kernel
theorem dX7_arcs_73 : decode cX7_arcs 73 = .ok (.iaload, 1) := by decide +kernel
theorem dX7_arcs_74 : decode cX7_arcs 74 = .ok (.iload_n 2, 1) := by decide +kernel
theorem dX7_arcs_75 : decode cX7_arcs 75 = .ok (.ishr, 1) := by decide +kernel
theorem dX7_arcs_76 : decode cX7_arcs 76 = .ok (.iconst 1, 1) := by decide +kernel
theorem dX7_arcs_77 : decode cX7_arcs 77 = .ok (.iand, 1) := by decide +kernel
theorem dX7_arcs_78 : decode cX7_arcs 78 = .ok (.imul, 1) := by decide +kernel
theorem dX7_arcs_79 : decode cX7_arcs 79 = .ok (.iadd, 1) := by decide +kernel
theorem dX7_arcs_80 : decode cX7_arcs 80 = .ok (.ireturn, 1) := by decide +kernel
theorem dX7_states_0 : decode cX7_states 0 = .ok (.aload_n 0, 1) := by decide +kernel
theorem dX7_states_1 : decode cX7_states 1 = .ok (.aload_n 0, 1) := by decide +kernel
theorem dX7_states_2 : decode cX7_states 2 = .ok (.iload_n 1, 1) := by decide +kernel
theorem dX7_states_3 : decode cX7_states 3 = .ok (.invokevirtual 164, 3) := by decide +kernel
theorem dX7_states_6 : decode cX7_states 6 = .ok (.ifCond .eq 7, 3) := by decide +kernel
theorem dX7_states_9 : decode cX7_states 9 = .ok (.iconst 1, 1) := by decide +kernel
theorem dX7_states_10 : decode cX7_states 10 = .ok (.goto 4, 3) := by decide +kernel
theorem dX7_states_13 : decode cX7_states 13 = .ok (.iconst 0, 1) := by decide +kernel
theorem dX7_states_14 : decode cX7_states 14 = .ok (.putfield 99, 3) := by decide +kernel
theorem dX7_states_17 : decode cX7_states 17 = .ok (.aload_n 0, 1) := by decide +kernel
theorem dX7_states_18 : decode cX7_states 18 = .ok (.getfield 99, 3) := by decide +kernel
theorem dX7_states_21 : decode cX7_states 21 = .ok (.ifCond .le 7, 3) := by decide +kernel
theorem dX7_states_24 : decode cX7_states 24 = .ok (.iconst 0, 1) := by decide +kernel
theorem dX7_states_25 : decode cX7_states 25 = .ok (.goto 9, 3) := by decide +kernel
theorem dX7_states_28 : decode cX7_states 28 = .ok (.aload_n 0, 1) := by decide +kernel
theorem dX7_states_29 : decode cX7_states 29 = .ok (.getfield 20, 3) := by decide +kernel
theorem dX7_states_32 : decode cX7_states 32 = .ok (.iload_n 1, 1) := by decide +kernel
theorem dX7_states_33 : decode cX7_states 33 = .ok (.iaload, 1) := by decide +kernel
theorem dX7_states_34 : decode cX7_states 34 = .ok (.ireturn, 1) := by decide +kernel
theorem dX7_turn_0 : decode cX7_turn 0 = .ok (.aload_n 0, 1) := by decide +kernel
theorem dX7_turn_1 : decode cX7_turn 1 = .ok (.aload_n 0, 1) := by decide +kernel
theorem dX7_turn_2 : decode cX7_turn 2 = .ok (.iload_n 1, 1) := by decide +kernel
theorem dX7_turn_3 : decode cX7_turn 3 = .ok (.invokevirtual 164, 3) := by decide +kernel
theorem dX7_turn_6 : decode cX7_turn 6 = .ok (.ifCond .ne 11, 3) := by decide +kernel
theorem dX7_turn_9 : decode cX7_turn 9 = .ok (.aload_n 0, 1) := by decide +kernel
theorem dX7_turn_10 : decode cX7_turn 10 = .ok (.iload_n 2, 1) := by decide +kernel
theorem dX7_turn_11 : decode cX7_turn 11 = .ok (.invokevirtual 164, 3) := by decide +kernel
theorem dX7_turn_14 : decode cX7_turn 14 = .ok (.ifCond .eq 7, 3) := by decide +kernel
theorem dX7_turn_17 : decode cX7_turn 17 = .ok (.iconst 1, 1) := by decide +kernel
theorem dX7_turn_18 : decode cX7_turn 18 = .ok (.goto 4, 3) := by decide +kernel
theorem dX7_turn_21 : decode cX7_turn 21 = .ok (.iconst 0, 1) := by decide +kernel
theorem dX7_turn_22 : decode cX7_turn 22 = .ok (.putfield 99, 3) := by decide +kernel
theorem dX7_turn_25 : decode cX7_turn 25 = .ok (.aload_n 0, 1) := by decide +kernel
theorem dX7_turn_26 : decode cX7_turn 26 = .ok (.getfield 99, 3) := by decide +kernel
theorem dX7_turn_29 : decode cX7_turn 29 = .ok (.ifCond .le 4, 3) := by decide +kernel
theorem dX7_turn_32 : decode cX7_turn 32 = .ok (.return_, 1) := by decide +kernel
theorem dX7_turn_33 : decode cX7_turn 33 = .ok (.aload_n 0, 1) := by decide +kernel
theorem dX7_turn_34 : decode cX7_turn 34 = .ok (.invokevirtual 170, 3) := by decide +kernel
theorem dX7_turn_37 : decode cX7_turn 37 = .ok (.iconst 0, 1) := by decide +kernel
theorem dX7_turn_38 : decode cX7_turn 38 = .ok (.istore_n 3, 1) := by decide +kernel
theorem dX7_turn_39 : decode cX7_turn 39 = .ok (.iload_n 3, 1) := by decide +kernel
theorem dX7_turn_40 : decode cX7_turn 40 = .ok (.aload_n 0, 1) := by decide +kernel
theorem dX7_turn_41 : decode cX7_turn 41 = .ok (.getfield 20, 3) := by decide +kernel
theorem dX7_turn_44 : decode cX7_turn 44 = .ok (.iload_n 2, 1) := by decide +kernel
theorem dX7_turn_45 : decode cX7_turn 45 = .ok (.iaload, 1) := by decide +kernel
theorem dX7_turn_46 : decode cX7_turn 46 = .ok (.if_icmp .ge 118, 3) := by decide +kernel
theorem dX7_turn_49 : decode cX7_turn 49 = .ok (.iconst 0, 1) := by decide +kernel
theorem dX7_turn_50 : decode cX7_turn 50 = .ok (.istore 4, 2) := by decide +kernel
theorem dX7_turn_52 : decode cX7_turn 52 = .ok (.iload 4, 2) := by decide +kernel
theorem dX7_turn_54 : decode cX7_turn 54 = .ok (.aload_n 0, 1) := by decide +kernel
theorem dX7_turn_55 : decode cX7_turn 55 = .ok (.getfield 20, 3) := by decide +kernel
theorem dX7_turn_58 : decode cX7_turn 58 = .ok (.iload_n 2, 1) := by decide +kernel
theorem dX7_turn_59 : decode cX7_turn 59 = .ok (.iaload, 1) := by decide +kernel
theorem dX7_turn_60 : decode cX7_turn 60 = .ok (.if_icmp .ge 98, 3) := by decide +kernel
theorem dX7_turn_63 : decode cX7_turn 63 = .ok (.iconst 0, 1) := by decide +kernel
theorem dX7_turn_64 : decode cX7_turn 64 = .ok (.istore 5, 2) := by decide +kernel
theorem dX7_turn_66 : decode cX7_turn 66 = .ok (.iload 5, 2) := by decide +kernel
theorem dX7_turn_68 : decode cX7_turn 68 = .ok (.bipush 8, 2) := by decide +kernel
theorem dX7_turn_70 : decode cX7_turn 70 = .ok (.if_icmp .ge 82, 3) := by decide +kernel
theorem dX7_turn_73 : decode cX7_turn 73 = .ok (.aload_n 0, 1) := by decide +kernel
theorem dX7_turn_74 : decode cX7_turn 74 = .ok (.iload_n 2, 1) := by decide +kernel
theorem dX7_turn_75 : decode cX7_turn 75 = .ok (.iload 4, 2) := by decide +kernel
theorem dX7_turn_77 : decode cX7_turn 77 = .ok (.iload 5, 2) := by decide +kernel
theorem dX7_turn_79 : decode cX7_turn 79 = .ok (.invokevirtual 181, 3) := by decide +kernel
theorem dX7_turn_82 : decode cX7_turn 82 = .ok (.iload_n 3, 1) := by decide +kernel
theorem dX7_turn_83 : decode cX7_turn 83 = .ok (.ishr, 1) := by decide +kernel
theorem dX7_turn_84 : decode cX7_turn 84 = .ok (.iconst 1, 1) := by decide +kernel
theorem dX7_turn_85 : decode cX7_turn 85 = .ok (.iand, 1) := by decide +kernel
theorem dX7_turn_86 : decode cX7_turn 86 = .ok (.iconst 1, 1) := by decide +kernel
theorem dX7_turn_87 : decode cX7_turn 87 = .ok (.if_icmp .ne 7, 3) := by decide +kernel
theorem dX7_turn_90 : decode cX7_turn 90 = .ok (.iconst 1, 1) := by decide +kernel
theorem dX7_turn_91 : decode cX7_turn 91 = .ok (.goto 4, 3) := by decide +kernel
theorem dX7_turn_94 : decode cX7_turn 94 = .ok (.iconst 0, 1) := by decide +kernel
theorem dX7_turn_95 : decode cX7_turn 95 = .ok (.istore 6, 2) := by decide +kernel
theorem dX7_turn_97 : decode cX7_turn 97 = .ok (.aload_n 0, 1) := by decide +kernel
theorem dX7_turn_98 : decode cX7_turn 98 = .ok (.getfield 29, 3) := by decide +kernel
theorem dX7_turn_101 : decode cX7_turn 101 = .ok (.bipush 8, 2) := by decide +kernel
theorem dX7_turn_103 : decode cX7_turn 103 = .ok (.iload_n 3, 1) := by decide +kernel
theorem dX7_turn_104 : decode cX7_turn 104 = .ok (.imul, 1) := by decide +kernel
theorem dX7_turn_105 : decode cX7_turn 105 = .ok (.iload 5, 2) := by decide +kernel
theorem dX7_turn_107 : decode cX7_turn 107 = .ok (.iadd, 1) := by decide +kernel
theorem dX7_turn_108 : decode cX7_turn 108 = .ok (.iload 6, 2) := by decide +kernel
theorem dX7_turn_110 : decode cX7_turn 110 = .ok (.ifCond .eq 23, 3) := by decide +kernel
theorem dX7_turn_113 : decode cX7_turn 113 = .ok (.aload_n 0, 1) := by decide +kernel
theorem dX7_turn_114 : decode cX7_turn 114 = .ok (.getfield 29, 3) := by decide +kernel
theorem dX7_turn_117 : decode cX7_turn 117 = .ok (.bipush 8, 2) := by decide +kernel
theorem dX7_turn_119 : decode cX7_turn 119 = .ok (.iload_n 3, 1) := by decide +kernel
theorem dX7_turn_120 : decode cX7_turn 120 = .ok (.imul, 1) := by decide +kernel
theorem dX7_turn_121 : decode cX7_turn 121 = .ok (.iload 5, 2) := by decide +kernel
theorem dX7_turn_123 : decode cX7_turn 123 = .ok (.iadd, 1) := by decide +kernel
theorem dX7_turn_124 : decode cX7_turn 124 = .ok (.iaload, 1) := by decide +kernel
theorem dX7_turn_125 : decode cX7_turn 125 = .ok (.iconst 1, 1) := by decide +kernel
theorem dX7_turn_126 : decode cX7_turn 126 = .ok (.iload 4, 2) := by decide +kernel
theorem dX7_turn_128 : decode cX7_turn 128 = .ok (.ishl, 1) := by decide +kernel
theorem dX7_turn_129 : decode cX7_turn 129 = .ok (.ior, 1) := by decide +kernel
theorem dX7_turn_130 : decode cX7_turn 130 = .ok (.goto 15, 3) := by decide +kernel
theorem dX7_turn_133 : decode cX7_turn 133 = .ok (.aload_n 0, 1) := by decide +kernel
theorem dX7_turn_134 : decode cX7_turn 134 = .ok (.getfield 29, 3) := by decide +kernel
theorem dX7_turn_137 : decode cX7_turn 137 = .ok (.bipush 8, 2) := by decide +kernel
theorem dX7_turn_139 : decode cX7_turn 139 = .ok (.iload_n 3, 1) := by decide +kernel
theorem dX7_turn_140 : decode cX7_turn 140 = .ok (.imul, 1) := by decide +kernel
theorem dX7_turn_141 : decode cX7_turn 141 = .ok (.iload 5, 2) := by decide +kernel
theorem dX7_turn_143 : decode cX7_turn 143 = .ok (.iadd, 1) := by decide +kernel
theorem dX7_turn_144 : decode cX7_turn 144 = .ok (.iaload, 1) := by decide +kernel
theorem dX7_turn_145 : decode cX7_turn 145 = .ok (.iastore, 1) := by decide +kernel
theorem dX7_turn_146 : decode cX7_turn 146 = .ok (.iinc 5 1, 3) := by decide +kernel
theorem dX7_turn_149 : decode cX7_turn 149 = .ok (.goto (-83), 3) := by decide +kernel
theorem dX7_turn_152 : decode cX7_turn 152 = .ok (.iinc 4 1, 3) := by decide +kernel
theorem dX7_turn_155 : decode cX7_turn 155 = .ok (.goto (-103), 3) := by decide +kernel
theorem dX7_turn_158 : decode cX7_turn 158 = .ok (.iinc 3 1, 3) := by decide +kernel
theorem dX7_turn_161 : decode cX7_turn 161 = .ok (.goto (-122), 3) := by decide +kernel
theorem dX7_turn_164 : decode cX7_turn 164 = .ok (.aload_n 0, 1) := by decide +kernel
theorem dX7_turn_165 : decode cX7_turn 165 = .ok (.iload_n 1, 1) := by decide +kernel
theorem dX7_turn_166 : decode cX7_turn 166 = .ok (.aload_n 0, 1) := by decide +kernel
theorem dX7_turn_167 : decode cX7_turn 167 = .ok (.getfield 20, 3) := by decide +kernel
theorem dX7_turn_170 : decode cX7_turn 170 = .ok (.iload_n 2, 1) := by decide +kernel
theorem dX7_turn_171 : decode cX7_turn 171 = .ok (.iaload, 1) := by decide +kernel
theorem dX7_turn_172 : decode cX7_turn 172 = .ok (.aload_n 0, 1) := by decide +kernel
theorem dX7_turn_173 : decode cX7_turn 173 = .ok (.getfield 26, 3) := by decide +kernel
theorem dX7_turn_176 : decode cX7_turn 176 = .ok (.iload_n 2, 1) := by decide +kernel
theorem dX7_turn_177 : decode cX7_turn 177 = .ok (.iaload, 1) := by decide +kernel
theorem dX7_turn_178 : decode cX7_turn 178 = .ok (.aload_n 0, 1) := by decide +kernel
theorem dX7_turn_179 : decode cX7_turn 179 = .ok (.getfield 23, 3) := by decide +kernel
theorem dX7_turn_182 : decode cX7_turn 182 = .ok (.iload_n 2, 1) := by decide +kernel
theorem dX7_turn_183 : decode cX7_turn 183 = .ok (.iaload, 1) := by decide +kernel
theorem dX7_turn_184 : decode cX7_turn 184 = .ok (.invokevirtual 173, 3) := by decide +kernel
theorem dX7_turn_187 : decode cX7_turn 187 = .ok (.return_, 1) := by decide +kernel
theorem dX7_either_0 : decode cX7_either 0 = .ok (.aload_n 0, 1) := by decide +kernel
theorem dX7_either_1 : decode cX7_either 1 = .ok (.aload_n 0, 1) := by decide +kernel
theorem dX7_either_2 : decode cX7_either 2 = .ok (.iload_n 1, 1) := by decide +kernel
theorem dX7_either_3 : decode cX7_either 3 = .ok (.invokevirtual 164, 3) := by decide +kernel
theorem dX7_either_6 : decode cX7_either 6 = .ok (.ifCond .ne 19, 3) := by decide +kernel
theorem dX7_either_9 : decode cX7_either 9 = .ok (.aload_n 0, 1) := by decide +kernel
theorem dX7_either_10 : decode cX7_either 10 = .ok (.iload_n 2, 1) := by decide +kernel
theorem dX7_either_11 : decode cX7_either 11 = .ok (.invokevirtual 164, 3) := by decide +kernel
theorem dX7_either_14 : decode cX7_either 14 = .ok (.ifCond .ne 11, 3) := by decide +kernel
theorem dX7_either_17 : decode cX7_either 17 = .ok (.aload_n 0, 1) := by decide +kernel
theorem dX7_either_18 : decode cX7_either 18 = .ok (.iload_n 3, 1) := by decide +kernel
theorem dX7_either_19 : decode cX7_either 19 = .ok (.invokevirtual 164, 3) := by decide +kernel
theorem dX7_either_22 : decode cX7_either 22 = .ok (.ifCond .eq 7, 3) := by decide +kernel
theorem dX7_either_25 : decode cX7_either 25 = .ok (.iconst 1, 1) := by decide +kernel
theorem dX7_either_26 : decode cX7_either 26 = .ok (.goto 4, 3) := by decide +kernel
theorem dX7_either_29 : decode cX7_either 29 = .ok (.iconst 0, 1) := by decide +kernel
theorem dX7_either_30 : decode cX7_either 30 = .ok (.putfield 99, 3) := by decide +kernel
theorem dX7_either_33 : decode cX7_either 33 = .ok (.aload_n 0, 1) := by decide +kernel
theorem dX7_either_34 : decode cX7_either 34 = .ok (.getfield 99, 3) := by decide +kernel
theorem dX7_either_37 : decode cX7_either 37 = .ok (.ifCond .le 5, 3) := by decide +kernel
theorem dX7_either_40 : decode cX7_either 40 = .ok (.iconst 0, 1) := by decide +kernel
theorem dX7_either_41 : decode cX7_either 41 = .ok (.ireturn, 1) := by decide +kernel
theorem dX7_either_42 : decode cX7_either 42 = .ok (.aload_n 0, 1) := by decide +kernel
theorem dX7_either_43 : decode cX7_either 43 = .ok (.getfield 20, 3) := by decide +kernel
theorem dX7_either_46 : decode cX7_either 46 = .ok (.iload_n 2, 1) := by decide +kernel
theorem dX7_either_47 : decode cX7_either 47 = .ok (.iaload, 1) := by decide +kernel
theorem dX7_either_48 : decode cX7_either 48 = .ok (.istore 4, 2) := by decide +kernel
theorem dX7_either_50 : decode cX7_either 50 = .ok (.iload 4, 2) := by decide +kernel
theorem dX7_either_52 : decode cX7_either 52 = .ok (.aload_n 0, 1) := by decide +kernel
theorem dX7_either_53 : decode cX7_either 53 = .ok (.getfield 20, 3) := by decide +kernel
theorem dX7_either_56 : decode cX7_either 56 = .ok (.iload_n 3, 1) := by decide +kernel
theorem dX7_either_57 : decode cX7_either 57 = .ok (.iaload, 1) := by decide +kernel
theorem dX7_either_58 : decode cX7_either 58 = .ok (.iadd, 1) := by decide +kernel
theorem dX7_either_59 : decode cX7_either 59 = .ok (.istore 5, 2) := by decide +kernel
theorem dX7_either_61 : decode cX7_either 61 = .ok (.iload 5, 2) := by decide +kernel
theorem dX7_either_63 : decode cX7_either 63 = .ok (.bipush 24, 2) := by decide +kernel
theorem dX7_either_65 : decode cX7_either 65 = .ok (.if_icmp .le 5, 3) := by decide +kernel
theorem dX7_either_68 : decode cX7_either 68 = .ok (.iconst (-1), 1) := by decide +kernel
theorem dX7_either_69 : decode cX7_either 69 = .ok (.ireturn, 1) := by decide +kernel
theorem dX7_either_70 : decode cX7_either 70 = .ok (.aload_n 0, 1) := by decide +kernel
theorem dX7_either_71 : decode cX7_either 71 = .ok (.invokevirtual 170, 3) := by decide +kernel
theorem dX7_either_74 : decode cX7_either 74 = .ok (.iconst 0, 1) := by decide +kernel
theorem dX7_either_75 : decode cX7_either 75 = .ok (.istore 6, 2) := by decide +kernel
theorem dX7_either_77 : decode cX7_either 77 = .ok (.iload 6, 2) := by decide +kernel
theorem dX7_either_79 : decode cX7_either 79 = .ok (.iload 5, 2) := by decide +kernel
theorem dX7_either_81 : decode cX7_either 81 = .ok (.if_icmp .ge 72, 3) := by decide +kernel
theorem dX7_either_84 : decode cX7_either 84 = .ok (.iconst 0, 1) := by decide +kernel
theorem dX7_either_85 : decode cX7_either 85 = .ok (.istore 7, 2) := by decide +kernel
theorem dX7_either_87 : decode cX7_either 87 = .ok (.iload 7, 2) := by decide +kernel
theorem dX7_either_89 : decode cX7_either 89 = .ok (.bipush 8, 2) := by decide +kernel
theorem dX7_either_91 : decode cX7_either 91 = .ok (.if_icmp .ge 56, 3) := by decide +kernel
theorem dX7_either_94 : decode cX7_either 94 = .ok (.aload_n 0, 1) := by decide +kernel
theorem dX7_either_95 : decode cX7_either 95 = .ok (.getfield 29, 3) := by decide +kernel
theorem dX7_either_98 : decode cX7_either 98 = .ok (.bipush 8, 2) := by decide +kernel
theorem dX7_either_100 : decode cX7_either 100 = .ok (.iload 6, 2) := by decide +kernel
theorem dX7_either_102 : decode cX7_either 102 = .ok (.imul, 1) := by decide +kernel
theorem dX7_either_103 : decode cX7_either 103 = .ok (.iload 7, 2) := by decide +kernel
theorem dX7_either_105 : decode cX7_either 105 = .ok (.iadd, 1) := by decide +kernel
theorem dX7_either_106 : decode cX7_either 106 = .ok (.iload 6, 2) := by decide +kernel
theorem dX7_either_108 : decode cX7_either 108 = .ok (.iload 4, 2) := by decide +kernel
theorem dX7_either_110 : decode cX7_either 110 = .ok (.if_icmp .ge 15, 3) := by decide +kernel
theorem dX7_either_113 : decode cX7_either 113 = .ok (.aload_n 0, 1) := by decide +kernel
theorem dX7_either_114 : decode cX7_either 114 = .ok (.iload_n 2, 1) := by decide +kernel
theorem dX7_either_115 : decode cX7_either 115 = .ok (.iload 6, 2) := by decide +kernel
theorem dX7_either_117 : decode cX7_either 117 = .ok (.iload 7, 2) := by decide +kernel
theorem dX7_either_119 : decode cX7_either 119 = .ok (.invokevirtual 181, 3) := by decide +kernel
theorem dX7_either_122 : decode cX7_either 122 = .ok (.goto 18, 3) := by decide +kernel
theorem dX7_either_125 : decode cX7_either 125 = .ok (.aload_n 0, 1) := by decide +kernel
theorem dX7_either_126 : decode cX7_either 126 = .ok (.iload_n 3, 1) := by decide +kernel
theorem dX7_either_127 : decode cX7_either 127 = .ok (.iload 6, 2) := by decide +kernel
theorem dX7_either_129 : decode cX7_either 129 = .ok (.iload 4, 2) := by decide +kernel
theorem dX7_either_131 : decode cX7_either 131 = .ok (.isub, 1) := by decide +kernel
theorem dX7_either_132 : decode cX7_either 132 = .ok (.iload 7, 2) := by decide +kernel
theorem dX7_either_134 : decode cX7_either 134 = .ok (.invokevirtual 181, 3) := by decide +kernel
theorem dX7_either_137 : decode cX7_either 137 = .ok (.iload 4, 2) := by decide +kernel
theorem dX7_either_139 : decode cX7_either 139 = .ok (.ishl, 1) := by decide +kernel
theorem dX7_either_140 : decode cX7_either 140 = .ok (.iastore, 1) := by decide +kernel
theorem dX7_either_141 : decode cX7_either 141 = .ok (.iinc 7 1, 3) := by decide +kernel
theorem dX7_either_144 : decode cX7_either 144 = .ok (.goto (-57), 3) := by decide +kernel
theorem dX7_either_147 : decode cX7_either 147 = .ok (.iinc 6 1, 3) := by decide +kernel
theorem dX7_either_150 : decode cX7_either 150 = .ok (.goto (-73), 3) := by decide +kernel
theorem dX7_either_153 : decode cX7_either 153 = .ok (.aload_n 0, 1) := by decide +kernel
theorem dX7_either_154 : decode cX7_either 154 = .ok (.iload_n 1, 1) := by decide +kernel
theorem dX7_either_155 : decode cX7_either 155 = .ok (.iload 5, 2) := by decide +kernel
theorem dX7_either_157 : decode cX7_either 157 = .ok (.aload_n 0, 1) := by decide +kernel
theorem dX7_either_158 : decode cX7_either 158 = .ok (.getfield 23, 3) := by decide +kernel
theorem dX7_either_161 : decode cX7_either 161 = .ok (.iload_n 2, 1) := by decide +kernel
theorem dX7_either_162 : decode cX7_either 162 = .ok (.iaload, 1) := by decide +kernel
theorem dX7_either_163 : decode cX7_either 163 = .ok (.aload_n 0, 1) := by decide +kernel
theorem dX7_either_164 : decode cX7_either 164 = .ok (.getfield 23, 3) := by decide +kernel
theorem dX7_either_167 : decode cX7_either 167 = .ok (.iload_n 3, 1) := by decide +kernel
theorem dX7_either_168 : decode cX7_either 168 = .ok (.iaload, 1) := by decide +kernel
theorem dX7_either_169 : decode cX7_either 169 = .ok (.iload 4, 2) := by decide +kernel
theorem dX7_either_171 : decode cX7_either 171 = .ok (.ishl, 1) := by decide +kernel
theorem dX7_either_172 : decode cX7_either 172 = .ok (.ior, 1) := by decide +kernel
theorem dX7_either_173 : decode cX7_either 173 = .ok (.aload_n 0, 1) := by decide +kernel
theorem dX7_either_174 : decode cX7_either 174 = .ok (.getfield 26, 3) := by decide +kernel
theorem dX7_either_177 : decode cX7_either 177 = .ok (.iload_n 2, 1) := by decide +kernel
theorem dX7_either_178 : decode cX7_either 178 = .ok (.iaload, 1) := by decide +kernel
theorem dX7_either_179 : decode cX7_either 179 = .ok (.aload_n 0, 1) := by decide +kernel
theorem dX7_either_180 : decode cX7_either 180 = .ok (.getfield 26, 3) := by decide +kernel
theorem dX7_either_183 : decode cX7_either 183 = .ok (.iload_n 3, 1) := by decide +kernel
theorem dX7_either_184 : decode cX7_either 184 = .ok (.iaload, 1) := by decide +kernel
theorem dX7_either_185 : decode cX7_either 185 = .ok (.iload 4, 2) := by decide +kernel
theorem dX7_either_187 : decode cX7_either 187 = .ok (.ishl, 1) := by decide +kernel
theorem dX7_either_188 : decode cX7_either 188 = .ok (.ior, 1) := by decide +kernel
theorem dX7_either_189 : decode cX7_either 189 = .ok (.invokevirtual 173, 3) := by decide +kernel
theorem dX7_either_192 : decode cX7_either 192 = .ok (.iload 5, 2) := by decide +kernel
theorem dX7_either_194 : decode cX7_either 194 = .ok (.ireturn, 1) := by decide +kernel
theorem dX7_pairs_0 : decode cX7_pairs 0 = .ok (.iconst 0, 1) := by decide +kernel
theorem dX7_pairs_1 : decode cX7_pairs 1 = .ok (.istore_n 3, 1) := by decide +kernel
theorem dX7_pairs_2 : decode cX7_pairs 2 = .ok (.iconst 0, 1) := by decide +kernel
theorem dX7_pairs_3 : decode cX7_pairs 3 = .ok (.istore 4, 2) := by decide +kernel
theorem dX7_pairs_5 : decode cX7_pairs 5 = .ok (.iload 4, 2) := by decide +kernel
theorem dX7_pairs_7 : decode cX7_pairs 7 = .ok (.iload_n 2, 1) := by decide +kernel
theorem dX7_pairs_8 : decode cX7_pairs 8 = .ok (.imul, 1) := by decide +kernel
theorem dX7_pairs_9 : decode cX7_pairs 9 = .ok (.bipush 24, 2) := by decide +kernel
theorem dX7_pairs_11 : decode cX7_pairs 11 = .ok (.if_icmp .ge 32, 3) := by decide +kernel
theorem dX7_pairs_14 : decode cX7_pairs 14 = .ok (.iload_n 0, 1) := by decide +kernel
theorem dX7_pairs_15 : decode cX7_pairs 15 = .ok (.iload 4, 2) := by decide +kernel
theorem dX7_pairs_17 : decode cX7_pairs 17 = .ok (.ishr, 1) := by decide +kernel
theorem dX7_pairs_18 : decode cX7_pairs 18 = .ok (.iconst 1, 1) := by decide +kernel
theorem dX7_pairs_19 : decode cX7_pairs 19 = .ok (.iand, 1) := by decide +kernel
theorem dX7_pairs_20 : decode cX7_pairs 20 = .ok (.iconst 1, 1) := by decide +kernel
theorem dX7_pairs_21 : decode cX7_pairs 21 = .ok (.if_icmp .ne 14, 3) := by decide +kernel
theorem dX7_pairs_24 : decode cX7_pairs 24 = .ok (.iload_n 3, 1) := by decide +kernel
theorem dX7_pairs_25 : decode cX7_pairs 25 = .ok (.iload_n 1, 1) := by decide +kernel
theorem dX7_pairs_26 : decode cX7_pairs 26 = .ok (.iload 4, 2) := by decide +kernel
theorem dX7_pairs_28 : decode cX7_pairs 28 = .ok (.iload_n 2, 1) := by decide +kernel
theorem dX7_pairs_29 : decode cX7_pairs 29 = .ok (.imul, 1) := by decide +kernel
theorem dX7_pairs_30 : decode cX7_pairs 30 = .ok (.ishl, 1) := by decide +kernel
theorem dX7_pairs_31 : decode cX7_pairs 31 = .ok (.ior, 1) := by decide +kernel
theorem dX7_pairs_32 : decode cX7_pairs 32 = .ok (.goto 4, 3) := by decide +kernel
theorem dX7_pairs_35 : decode cX7_pairs 35 = .ok (.iload_n 3, 1) := by decide +kernel
theorem dX7_pairs_36 : decode cX7_pairs 36 = .ok (.istore_n 3, 1) := by decide +kernel
theorem dX7_pairs_37 : decode cX7_pairs 37 = .ok (.iinc 4 1, 3) := by decide +kernel
theorem dX7_pairs_40 : decode cX7_pairs 40 = .ok (.goto (-35), 3) := by decide +kernel
theorem dX7_pairs_43 : decode cX7_pairs 43 = .ok (.iload_n 3, 1) := by decide +kernel
theorem dX7_pairs_44 : decode cX7_pairs 44 = .ok (.ireturn, 1) := by decide +kernel
theorem dX7_both_0 : decode cX7_both 0 = .ok (.aload_n 0, 1) := by decide +kernel
theorem dX7_both_1 : decode cX7_both 1 = .ok (.aload_n 0, 1) := by decide +kernel
theorem dX7_both_2 : decode cX7_both 2 = .ok (.iload_n 1, 1) := by decide +kernel
theorem dX7_both_3 : decode cX7_both 3 = .ok (.invokevirtual 164, 3) := by decide +kernel
theorem dX7_both_6 : decode cX7_both 6 = .ok (.ifCond .ne 19, 3) := by decide +kernel
theorem dX7_both_9 : decode cX7_both 9 = .ok (.aload_n 0, 1) := by decide +kernel
theorem dX7_both_10 : decode cX7_both 10 = .ok (.iload_n 2, 1) := by decide +kernel
theorem dX7_both_11 : decode cX7_both 11 = .ok (.invokevirtual 164, 3) := by decide +kernel
theorem dX7_both_14 : decode cX7_both 14 = .ok (.ifCond .ne 11, 3) := by decide +kernel
theorem dX7_both_17 : decode cX7_both 17 = .ok (.aload_n 0, 1) := by decide +kernel
theorem dX7_both_18 : decode cX7_both 18 = .ok (.iload_n 3, 1) := by decide +kernel
theorem dX7_both_19 : decode cX7_both 19 = .ok (.invokevirtual 164, 3) := by decide +kernel
theorem dX7_both_22 : decode cX7_both 22 = .ok (.ifCond .eq 7, 3) := by decide +kernel
theorem dX7_both_25 : decode cX7_both 25 = .ok (.iconst 1, 1) := by decide +kernel
theorem dX7_both_26 : decode cX7_both 26 = .ok (.goto 4, 3) := by decide +kernel
theorem dX7_both_29 : decode cX7_both 29 = .ok (.iconst 0, 1) := by decide +kernel
theorem dX7_both_30 : decode cX7_both 30 = .ok (.putfield 99, 3) := by decide +kernel
theorem dX7_both_33 : decode cX7_both 33 = .ok (.aload_n 0, 1) := by decide +kernel
theorem dX7_both_34 : decode cX7_both 34 = .ok (.getfield 99, 3) := by decide +kernel
theorem dX7_both_37 : decode cX7_both 37 = .ok (.ifCond .le 5, 3) := by decide +kernel
theorem dX7_both_40 : decode cX7_both 40 = .ok (.iconst 0, 1) := by decide +kernel
theorem dX7_both_41 : decode cX7_both 41 = .ok (.ireturn, 1) := by decide +kernel
theorem dX7_both_42 : decode cX7_both 42 = .ok (.aload_n 0, 1) := by decide +kernel
theorem dX7_both_43 : decode cX7_both 43 = .ok (.getfield 20, 3) := by decide +kernel
theorem dX7_both_46 : decode cX7_both 46 = .ok (.iload_n 3, 1) := by decide +kernel
theorem dX7_both_47 : decode cX7_both 47 = .ok (.iaload, 1) := by decide +kernel
theorem dX7_both_48 : decode cX7_both 48 = .ok (.istore 4, 2) := by decide +kernel
theorem dX7_both_50 : decode cX7_both 50 = .ok (.aload_n 0, 1) := by decide +kernel
theorem dX7_both_51 : decode cX7_both 51 = .ok (.getfield 20, 3) := by decide +kernel
theorem dX7_both_54 : decode cX7_both 54 = .ok (.iload_n 2, 1) := by decide +kernel
theorem dX7_both_55 : decode cX7_both 55 = .ok (.iaload, 1) := by decide +kernel
theorem dX7_both_56 : decode cX7_both 56 = .ok (.iload 4, 2) := by decide +kernel
theorem dX7_both_58 : decode cX7_both 58 = .ok (.imul, 1) := by decide +kernel
theorem dX7_both_59 : decode cX7_both 59 = .ok (.istore 5, 2) := by decide +kernel
theorem dX7_both_61 : decode cX7_both 61 = .ok (.iload 5, 2) := by decide +kernel
theorem dX7_both_63 : decode cX7_both 63 = .ok (.bipush 24, 2) := by decide +kernel
theorem dX7_both_65 : decode cX7_both 65 = .ok (.if_icmp .le 5, 3) := by decide +kernel
theorem dX7_both_68 : decode cX7_both 68 = .ok (.iconst (-1), 1) := by decide +kernel
theorem dX7_both_69 : decode cX7_both 69 = .ok (.ireturn, 1) := by decide +kernel
theorem dX7_both_70 : decode cX7_both 70 = .ok (.aload_n 0, 1) := by decide +kernel
theorem dX7_both_71 : decode cX7_both 71 = .ok (.invokevirtual 170, 3) := by decide +kernel
theorem dX7_both_74 : decode cX7_both 74 = .ok (.iconst 0, 1) := by decide +kernel
theorem dX7_both_75 : decode cX7_both 75 = .ok (.istore 6, 2) := by decide +kernel
theorem dX7_both_77 : decode cX7_both 77 = .ok (.iload 6, 2) := by decide +kernel
theorem dX7_both_79 : decode cX7_both 79 = .ok (.iload 5, 2) := by decide +kernel
theorem dX7_both_81 : decode cX7_both 81 = .ok (.if_icmp .ge 67, 3) := by decide +kernel
theorem dX7_both_84 : decode cX7_both 84 = .ok (.iconst 0, 1) := by decide +kernel
theorem dX7_both_85 : decode cX7_both 85 = .ok (.istore 7, 2) := by decide +kernel
theorem dX7_both_87 : decode cX7_both 87 = .ok (.iload 7, 2) := by decide +kernel
theorem dX7_both_89 : decode cX7_both 89 = .ok (.bipush 8, 2) := by decide +kernel
theorem dX7_both_91 : decode cX7_both 91 = .ok (.if_icmp .ge 51, 3) := by decide +kernel
theorem dX7_both_94 : decode cX7_both 94 = .ok (.aload_n 0, 1) := by decide +kernel
theorem dX7_both_95 : decode cX7_both 95 = .ok (.getfield 29, 3) := by decide +kernel
theorem dX7_both_98 : decode cX7_both 98 = .ok (.bipush 8, 2) := by decide +kernel
theorem dX7_both_100 : decode cX7_both 100 = .ok (.iload 6, 2) := by decide +kernel
theorem dX7_both_102 : decode cX7_both 102 = .ok (.imul, 1) := by decide +kernel
theorem dX7_both_103 : decode cX7_both 103 = .ok (.iload 7, 2) := by decide +kernel
theorem dX7_both_105 : decode cX7_both 105 = .ok (.iadd, 1) := by decide +kernel
theorem dX7_both_106 : decode cX7_both 106 = .ok (.aload_n 0, 1) := by decide +kernel
theorem dX7_both_107 : decode cX7_both 107 = .ok (.iload_n 2, 1) := by decide +kernel
theorem dX7_both_108 : decode cX7_both 108 = .ok (.iload 6, 2) := by decide +kernel
theorem dX7_both_110 : decode cX7_both 110 = .ok (.iload 4, 2) := by decide +kernel
theorem dX7_both_112 : decode cX7_both 112 = .ok (.idiv, 1) := by decide +kernel
theorem dX7_both_113 : decode cX7_both 113 = .ok (.iload 7, 2) := by decide +kernel
theorem dX7_both_115 : decode cX7_both 115 = .ok (.invokevirtual 181, 3) := by decide +kernel
theorem dX7_both_118 : decode cX7_both 118 = .ok (.aload_n 0, 1) := by decide +kernel
theorem dX7_both_119 : decode cX7_both 119 = .ok (.iload_n 3, 1) := by decide +kernel
theorem dX7_both_120 : decode cX7_both 120 = .ok (.iload 6, 2) := by decide +kernel
theorem dX7_both_122 : decode cX7_both 122 = .ok (.iload 4, 2) := by decide +kernel
theorem dX7_both_124 : decode cX7_both 124 = .ok (.irem, 1) := by decide +kernel
theorem dX7_both_125 : decode cX7_both 125 = .ok (.iload 7, 2) := by decide +kernel
theorem dX7_both_127 : decode cX7_both 127 = .ok (.invokevirtual 181, 3) := by decide +kernel
theorem dX7_both_130 : decode cX7_both 130 = .ok (.iload 4, 2) := by decide +kernel
theorem dX7_both_132 : decode cX7_both 132 = .ok (.invokestatic 185, 3) := by decide +kernel
theorem dX7_both_135 : decode cX7_both 135 = .ok (.iastore, 1) := by decide +kernel
theorem dX7_both_136 : decode cX7_both 136 = .ok (.iinc 7 1, 3) := by decide +kernel
theorem dX7_both_139 : decode cX7_both 139 = .ok (.goto (-52), 3) := by decide +kernel
theorem dX7_both_142 : decode cX7_both 142 = .ok (.iinc 6 1, 3) := by decide +kernel
theorem dX7_both_145 : decode cX7_both 145 = .ok (.goto (-68), 3) := by decide +kernel
theorem dX7_both_148 : decode cX7_both 148 = .ok (.aload_n 0, 1) := by decide +kernel
theorem dX7_both_149 : decode cX7_both 149 = .ok (.iload_n 1, 1) := by decide +kernel
theorem dX7_both_150 : decode cX7_both 150 = .ok (.iload 5, 2) := by decide +kernel
theorem dX7_both_152 : decode cX7_both 152 = .ok (.aload_n 0, 1) := by decide +kernel
theorem dX7_both_153 : decode cX7_both 153 = .ok (.getfield 23, 3) := by decide +kernel
theorem dX7_both_156 : decode cX7_both 156 = .ok (.iload_n 2, 1) := by decide +kernel
theorem dX7_both_157 : decode cX7_both 157 = .ok (.iaload, 1) := by decide +kernel
theorem dX7_both_158 : decode cX7_both 158 = .ok (.aload_n 0, 1) := by decide +kernel
theorem dX7_both_159 : decode cX7_both 159 = .ok (.getfield 23, 3) := by decide +kernel
theorem dX7_both_162 : decode cX7_both 162 = .ok (.iload_n 3, 1) := by decide +kernel
theorem dX7_both_163 : decode cX7_both 163 = .ok (.iaload, 1) := by decide +kernel
theorem dX7_both_164 : decode cX7_both 164 = .ok (.iload 4, 2) := by decide +kernel
theorem dX7_both_166 : decode cX7_both 166 = .ok (.invokestatic 185, 3) := by decide +kernel
theorem dX7_both_169 : decode cX7_both 169 = .ok (.aload_n 0, 1) := by decide +kernel
theorem dX7_both_170 : decode cX7_both 170 = .ok (.getfield 26, 3) := by decide +kernel
theorem dX7_both_173 : decode cX7_both 173 = .ok (.iload_n 2, 1) := by decide +kernel
theorem dX7_both_174 : decode cX7_both 174 = .ok (.iaload, 1) := by decide +kernel
theorem dX7_both_175 : decode cX7_both 175 = .ok (.aload_n 0, 1) := by decide +kernel
theorem dX7_both_176 : decode cX7_both 176 = .ok (.getfield 26, 3) := by decide +kernel
theorem dX7_both_179 : decode cX7_both 179 = .ok (.iload_n 3, 1) := by decide +kernel
theorem dX7_both_180 : decode cX7_both 180 = .ok (.iaload, 1) := by decide +kernel
theorem dX7_both_181 : decode cX7_both 181 = .ok (.iload 4, 2) := by decide +kernel
theorem dX7_both_183 : decode cX7_both 183 = .ok (.invokestatic 185, 3) := by decide +kernel
theorem dX7_both_186 : decode cX7_both 186 = .ok (.invokevirtual 173, 3) := by decide +kernel
theorem dX7_both_189 : decode cX7_both 189 = .ok (.iload 5, 2) := by decide +kernel
theorem dX7_both_191 : decode cX7_both 191 = .ok (.ireturn, 1) := by decide +kernel
theorem dX7_after_0 : decode cX7_after 0 = .ok (.iconst 0, 1) := by decide +kernel
theorem dX7_after_1 : decode cX7_after 1 = .ok (.istore 4, 2) := by decide +kernel
theorem dX7_after_3 : decode cX7_after 3 = .ok (.iconst 0, 1) := by decide +kernel
theorem dX7_after_4 : decode cX7_after 4 = .ok (.istore 5, 2) := by decide +kernel
theorem dX7_after_6 : decode cX7_after 6 = .ok (.iload 5, 2) := by decide +kernel
theorem dX7_after_8 : decode cX7_after 8 = .ok (.aload_n 0, 1) := by decide +kernel
theorem dX7_after_9 : decode cX7_after 9 = .ok (.getfield 20, 3) := by decide +kernel
theorem dX7_after_12 : decode cX7_after 12 = .ok (.iload_n 1, 1) := by decide +kernel
theorem dX7_after_13 : decode cX7_after 13 = .ok (.iaload, 1) := by decide +kernel
theorem dX7_after_14 : decode cX7_after 14 = .ok (.if_icmp .ge 37, 3) := by decide +kernel
theorem dX7_after_17 : decode cX7_after 17 = .ok (.iload_n 2, 1) := by decide +kernel
theorem dX7_after_18 : decode cX7_after 18 = .ok (.iload 5, 2) := by decide +kernel
theorem dX7_after_20 : decode cX7_after 20 = .ok (.ishr, 1) := by decide +kernel
theorem dX7_after_21 : decode cX7_after 21 = .ok (.iconst 1, 1) := by decide +kernel
theorem dX7_after_22 : decode cX7_after 22 = .ok (.iand, 1) := by decide +kernel
theorem dX7_after_23 : decode cX7_after 23 = .ok (.iconst 1, 1) := by decide +kernel
theorem dX7_after_24 : decode cX7_after 24 = .ok (.if_icmp .ne 17, 3) := by decide +kernel
theorem dX7_after_27 : decode cX7_after 27 = .ok (.iload 4, 2) := by decide +kernel
theorem dX7_after_29 : decode cX7_after 29 = .ok (.aload_n 0, 1) := by decide +kernel
theorem dX7_after_30 : decode cX7_after 30 = .ok (.iload_n 1, 1) := by decide +kernel
theorem dX7_after_31 : decode cX7_after 31 = .ok (.iload 5, 2) := by decide +kernel
theorem dX7_after_33 : decode cX7_after 33 = .ok (.iload_n 3, 1) := by decide +kernel
theorem dX7_after_34 : decode cX7_after 34 = .ok (.invokevirtual 181, 3) := by decide +kernel
theorem dX7_after_37 : decode cX7_after 37 = .ok (.ior, 1) := by decide +kernel
theorem dX7_after_38 : decode cX7_after 38 = .ok (.goto 5, 3) := by decide +kernel
theorem dX7_after_41 : decode cX7_after 41 = .ok (.iload 4, 2) := by decide +kernel
theorem dX7_after_43 : decode cX7_after 43 = .ok (.istore 4, 2) := by decide +kernel
theorem dX7_after_45 : decode cX7_after 45 = .ok (.iinc 5 1, 3) := by decide +kernel
theorem dX7_after_48 : decode cX7_after 48 = .ok (.goto (-42), 3) := by decide +kernel
theorem dX7_after_51 : decode cX7_after 51 = .ok (.iload 4, 2) := by decide +kernel
theorem dX7_after_53 : decode cX7_after 53 = .ok (.ireturn, 1) := by decide +kernel
theorem dX7_takes_0 : decode cX7_takes 0 = .ok (.aload_n 0, 1) := by decide +kernel
theorem dX7_takes_1 : decode cX7_takes 1 = .ok (.aload_n 0, 1) := by decide +kernel
theorem dX7_takes_2 : decode cX7_takes 2 = .ok (.iload_n 1, 1) := by decide +kernel
theorem dX7_takes_3 : decode cX7_takes 3 = .ok (.invokevirtual 164, 3) := by decide +kernel
theorem dX7_takes_6 : decode cX7_takes 6 = .ok (.ifCond .eq 7, 3) := by decide +kernel
theorem dX7_takes_9 : decode cX7_takes 9 = .ok (.iconst 1, 1) := by decide +kernel
theorem dX7_takes_10 : decode cX7_takes 10 = .ok (.goto 4, 3) := by decide +kernel
theorem dX7_takes_13 : decode cX7_takes 13 = .ok (.iconst 0, 1) := by decide +kernel
theorem dX7_takes_14 : decode cX7_takes 14 = .ok (.putfield 99, 3) := by decide +kernel
theorem dX7_takes_17 : decode cX7_takes 17 = .ok (.aload_n 0, 1) := by decide +kernel
theorem dX7_takes_18 : decode cX7_takes 18 = .ok (.getfield 99, 3) := by decide +kernel
theorem dX7_takes_21 : decode cX7_takes 21 = .ok (.ifCond .le 5, 3) := by decide +kernel
theorem dX7_takes_24 : decode cX7_takes 24 = .ok (.iconst 0, 1) := by decide +kernel
theorem dX7_takes_25 : decode cX7_takes 25 = .ok (.ireturn, 1) := by decide +kernel
theorem dX7_takes_26 : decode cX7_takes 26 = .ok (.aload_n 0, 1) := by decide +kernel
theorem dX7_takes_27 : decode cX7_takes 27 = .ok (.getfield 23, 3) := by decide +kernel
theorem dX7_takes_30 : decode cX7_takes 30 = .ok (.iload_n 1, 1) := by decide +kernel
theorem dX7_takes_31 : decode cX7_takes 31 = .ok (.iaload, 1) := by decide +kernel
theorem dX7_takes_32 : decode cX7_takes 32 = .ok (.istore_n 2, 1) := by decide +kernel
theorem dX7_takes_33 : decode cX7_takes 33 = .ok (.iconst 0, 1) := by decide +kernel
theorem dX7_takes_34 : decode cX7_takes 34 = .ok (.istore_n 3, 1) := by decide +kernel
theorem dX7_takes_35 : decode cX7_takes 35 = .ok (.iload_n 3, 1) := by decide +kernel
theorem dX7_takes_36 : decode cX7_takes 36 = .ok (.aload_n 0, 1) := by decide +kernel
theorem dX7_takes_37 : decode cX7_takes 37 = .ok (.getfield 102, 3) := by decide +kernel
theorem dX7_takes_40 : decode cX7_takes 40 = .ok (.if_icmp .ge 41, 3) := by decide +kernel
theorem dX7_takes_43 : decode cX7_takes 43 = .ok (.aload_n 0, 1) := by decide +kernel
theorem dX7_takes_44 : decode cX7_takes 44 = .ok (.getfield 7, 3) := by decide +kernel
theorem dX7_takes_47 : decode cX7_takes 47 = .ok (.iload_n 3, 1) := by decide +kernel
theorem dX7_takes_48 : decode cX7_takes 48 = .ok (.iaload, 1) := by decide +kernel
theorem dX7_takes_49 : decode cX7_takes 49 = .ok (.invokestatic 130, 3) := by decide +kernel
theorem dX7_takes_52 : decode cX7_takes 52 = .ok (.ifCond .eq 21, 3) := by decide +kernel
theorem dX7_takes_55 : decode cX7_takes 55 = .ok (.aload_n 0, 1) := by decide +kernel
theorem dX7_takes_56 : decode cX7_takes 56 = .ok (.iload_n 1, 1) := by decide +kernel
theorem dX7_takes_57 : decode cX7_takes 57 = .ok (.iload_n 2, 1) := by decide +kernel
theorem dX7_takes_58 : decode cX7_takes 58 = .ok (.aload_n 0, 1) := by decide +kernel
theorem dX7_takes_59 : decode cX7_takes 59 = .ok (.getfield 7, 3) := by decide +kernel
theorem dX7_takes_62 : decode cX7_takes 62 = .ok (.iload_n 3, 1) := by decide +kernel
theorem dX7_takes_63 : decode cX7_takes 63 = .ok (.iaload, 1) := by decide +kernel
theorem dX7_takes_64 : decode cX7_takes 64 = .ok (.bipush 97, 2) := by decide +kernel
theorem dX7_takes_66 : decode cX7_takes 66 = .ok (.isub, 1) := by decide +kernel
theorem dX7_takes_67 : decode cX7_takes 67 = .ok (.invokevirtual 188, 3) := by decide +kernel
theorem dX7_takes_70 : decode cX7_takes 70 = .ok (.goto 4, 3) := by decide +kernel
theorem dX7_takes_73 : decode cX7_takes 73 = .ok (.iconst 0, 1) := by decide +kernel
theorem dX7_takes_74 : decode cX7_takes 74 = .ok (.istore_n 2, 1) := by decide +kernel
theorem dX7_takes_75 : decode cX7_takes 75 = .ok (.iinc 3 1, 3) := by decide +kernel
theorem dX7_takes_78 : decode cX7_takes 78 = .ok (.goto (-43), 3) := by decide +kernel
theorem dX7_takes_81 : decode cX7_takes 81 = .ok (.iload_n 2, 1) := by decide +kernel
theorem dX7_takes_82 : decode cX7_takes 82 = .ok (.aload_n 0, 1) := by decide +kernel
theorem dX7_takes_83 : decode cX7_takes 83 = .ok (.getfield 26, 3) := by decide +kernel
theorem dX7_takes_86 : decode cX7_takes 86 = .ok (.iload_n 1, 1) := by decide +kernel
theorem dX7_takes_87 : decode cX7_takes 87 = .ok (.iaload, 1) := by decide +kernel
theorem dX7_takes_88 : decode cX7_takes 88 = .ok (.iand, 1) := by decide +kernel
theorem dX7_takes_89 : decode cX7_takes 89 = .ok (.ifCond .eq 7, 3) := by decide +kernel
theorem dX7_takes_92 : decode cX7_takes 92 = .ok (.iconst 1, 1) := by decide +kernel
theorem dX7_takes_93 : decode cX7_takes 93 = .ok (.goto 4, 3) := by decide +kernel
theorem dX7_takes_96 : decode cX7_takes 96 = .ok (.iconst 0, 1) := by decide +kernel
theorem dX7_takes_97 : decode cX7_takes 97 = .ok (.ireturn, 1) := by decide +kernel
theorem dX7_word_0 : decode cX7_word 0 = .ok (.aload_n 0, 1) := by decide +kernel
theorem dX7_word_1 : decode cX7_word 1 = .ok (.getfield 68, 3) := by decide +kernel
theorem dX7_word_4 : decode cX7_word 4 = .ok (.aload_n 0, 1) := by decide +kernel
theorem dX7_word_5 : decode cX7_word 5 = .ok (.getfield 191, 3) := by decide +kernel
theorem dX7_word_8 : decode cX7_word 8 = .ok (.iload_n 1, 1) := by decide +kernel
theorem dX7_word_9 : decode cX7_word 9 = .ok (.iastore, 1) := by decide +kernel
theorem dX7_word_10 : decode cX7_word 10 = .ok (.aload_n 0, 1) := by decide +kernel
theorem dX7_word_11 : decode cX7_word 11 = .ok (.getfield 71, 3) := by decide +kernel
theorem dX7_word_14 : decode cX7_word 14 = .ok (.aload_n 0, 1) := by decide +kernel
theorem dX7_word_15 : decode cX7_word 15 = .ok (.getfield 191, 3) := by decide +kernel
theorem dX7_word_18 : decode cX7_word 18 = .ok (.iload_n 2, 1) := by decide +kernel
theorem dX7_word_19 : decode cX7_word 19 = .ok (.iastore, 1) := by decide +kernel
theorem dX7_word_20 : decode cX7_word 20 = .ok (.aload_n 0, 1) := by decide +kernel
theorem dX7_word_21 : decode cX7_word 21 = .ok (.getfield 74, 3) := by decide +kernel
theorem dX7_word_24 : decode cX7_word 24 = .ok (.aload_n 0, 1) := by decide +kernel
theorem dX7_word_25 : decode cX7_word 25 = .ok (.getfield 191, 3) := by decide +kernel
theorem dX7_word_28 : decode cX7_word 28 = .ok (.iload_n 3, 1) := by decide +kernel
theorem dX7_word_29 : decode cX7_word 29 = .ok (.iastore, 1) := by decide +kernel
theorem dX7_word_30 : decode cX7_word 30 = .ok (.aload_n 0, 1) := by decide +kernel
theorem dX7_word_31 : decode cX7_word 31 = .ok (.dup, 1) := by decide +kernel
theorem dX7_word_32 : decode cX7_word 32 = .ok (.getfield 191, 3) := by decide +kernel
theorem dX7_word_35 : decode cX7_word 35 = .ok (.iconst 1, 1) := by decide +kernel
theorem dX7_word_36 : decode cX7_word 36 = .ok (.iadd, 1) := by decide +kernel
theorem dX7_word_37 : decode cX7_word 37 = .ok (.putfield 191, 3) := by decide +kernel
theorem dX7_word_40 : decode cX7_word 40 = .ok (.aload_n 0, 1) := by decide +kernel
theorem dX7_word_41 : decode cX7_word 41 = .ok (.getfield 191, 3) := by decide +kernel
theorem dX7_word_44 : decode cX7_word 44 = .ok (.iconst 1, 1) := by decide +kernel
theorem dX7_word_45 : decode cX7_word 45 = .ok (.isub, 1) := by decide +kernel
theorem dX7_word_46 : decode cX7_word 46 = .ok (.ireturn, 1) := by decide +kernel
theorem dX7_keep_0 : decode cX7_keep 0 = .ok (.aload_n 0, 1) := by decide +kernel
theorem dX7_keep_1 : decode cX7_keep 1 = .ok (.iconst 0, 1) := by decide +kernel
theorem dX7_keep_2 : decode cX7_keep 2 = .ok (.putfield 80, 3) := by decide +kernel
theorem dX7_keep_5 : decode cX7_keep 5 = .ok (.iload_n 1, 1) := by decide +kernel
theorem dX7_keep_6 : decode cX7_keep 6 = .ok (.istore_n 2, 1) := by decide +kernel
theorem dX7_keep_7 : decode cX7_keep 7 = .ok (.iload_n 2, 1) := by decide +kernel
theorem dX7_keep_8 : decode cX7_keep 8 = .ok (.ifCond .le 23, 3) := by decide +kernel
theorem dX7_keep_11 : decode cX7_keep 11 = .ok (.aload_n 0, 1) := by decide +kernel
theorem dX7_keep_12 : decode cX7_keep 12 = .ok (.dup, 1) := by decide +kernel
theorem dX7_keep_13 : decode cX7_keep 13 = .ok (.getfield 80, 3) := by decide +kernel
