theorem dX7_init_0 : decode cX7_init 0 = .ok (.aload_n 0, 1) := by decide +kernel
theorem dX7_init_1 : decode cX7_init 1 = .ok (.invokespecial 1, 3) := by decide +kernel
theorem dX7_init_4 : decode cX7_init 4 = .ok (.aload_n 0, 1) := by decide +kernel
theorem dX7_init_5 : decode cX7_init 5 = .ok (.sipush 200, 3) := by decide +kernel
theorem dX7_init_8 : decode cX7_init 8 = .ok (.newarray .int, 2) := by decide +kernel
theorem dX7_init_10 : decode cX7_init 10 = .ok (.putfield 7, 3) := by decide +kernel
theorem dX7_init_13 : decode cX7_init 13 = .ok (.aload_n 0, 1) := by decide +kernel
theorem dX7_init_14 : decode cX7_init 14 = .ok (.iconst (-1), 1) := by decide +kernel
theorem dX7_init_15 : decode cX7_init 15 = .ok (.putfield 13, 3) := by decide +kernel
theorem dX7_init_18 : decode cX7_init 18 = .ok (.aload_n 0, 1) := by decide +kernel
theorem dX7_init_19 : decode cX7_init 19 = .ok (.sipush 1536, 3) := by decide +kernel
theorem dX7_init_22 : decode cX7_init 22 = .ok (.newarray .int, 2) := by decide +kernel
theorem dX7_init_24 : decode cX7_init 24 = .ok (.putfield 17, 3) := by decide +kernel
theorem dX7_init_27 : decode cX7_init 27 = .ok (.aload_n 0, 1) := by decide +kernel
theorem dX7_init_28 : decode cX7_init 28 = .ok (.bipush 8, 2) := by decide +kernel
theorem dX7_init_30 : decode cX7_init 30 = .ok (.newarray .int, 2) := by decide +kernel
theorem dX7_init_32 : decode cX7_init 32 = .ok (.putfield 20, 3) := by decide +kernel
theorem dX7_init_35 : decode cX7_init 35 = .ok (.aload_n 0, 1) := by decide +kernel
theorem dX7_init_36 : decode cX7_init 36 = .ok (.bipush 8, 2) := by decide +kernel
theorem dX7_init_38 : decode cX7_init 38 = .ok (.newarray .int, 2) := by decide +kernel
theorem dX7_init_40 : decode cX7_init 40 = .ok (.putfield 23, 3) := by decide +kernel
theorem dX7_init_43 : decode cX7_init 43 = .ok (.aload_n 0, 1) := by decide +kernel
theorem dX7_init_44 : decode cX7_init 44 = .ok (.bipush 8, 2) := by decide +kernel
theorem dX7_init_46 : decode cX7_init 46 = .ok (.newarray .int, 2) := by decide +kernel
theorem dX7_init_48 : decode cX7_init 48 = .ok (.putfield 26, 3) := by decide +kernel
theorem dX7_init_51 : decode cX7_init 51 = .ok (.aload_n 0, 1) := by decide +kernel
theorem dX7_init_52 : decode cX7_init 52 = .ok (.sipush 192, 3) := by decide +kernel
theorem dX7_init_55 : decode cX7_init 55 = .ok (.newarray .int, 2) := by decide +kernel
theorem dX7_init_57 : decode cX7_init 57 = .ok (.putfield 29, 3) := by decide +kernel
theorem dX7_init_60 : decode cX7_init 60 = .ok (.aload_n 0, 1) := by decide +kernel
theorem dX7_init_61 : decode cX7_init 61 = .ok (.bipush 24, 2) := by decide +kernel
theorem dX7_init_63 : decode cX7_init 63 = .ok (.newarray .int, 2) := by decide +kernel
theorem dX7_init_65 : decode cX7_init 65 = .ok (.putfield 32, 3) := by decide +kernel
theorem dX7_init_68 : decode cX7_init 68 = .ok (.aload_n 0, 1) := by decide +kernel
theorem dX7_init_69 : decode cX7_init 69 = .ok (.bipush 24, 2) := by decide +kernel
theorem dX7_init_71 : decode cX7_init 71 = .ok (.newarray .int, 2) := by decide +kernel
theorem dX7_init_73 : decode cX7_init 73 = .ok (.putfield 35, 3) := by decide +kernel
theorem dX7_init_76 : decode cX7_init 76 = .ok (.aload_n 0, 1) := by decide +kernel
theorem dX7_init_77 : decode cX7_init 77 = .ok (.bipush 22, 2) := by decide +kernel
theorem dX7_init_79 : decode cX7_init 79 = .ok (.newarray .boolean, 2) := by decide +kernel
theorem dX7_init_81 : decode cX7_init 81 = .ok (.putfield 38, 3) := by decide +kernel
theorem dX7_init_84 : decode cX7_init 84 = .ok (.aload_n 0, 1) := by decide +kernel
theorem dX7_init_85 : decode cX7_init 85 = .ok (.bipush 22, 2) := by decide +kernel
theorem dX7_init_87 : decode cX7_init 87 = .ok (.newarray .int, 2) := by decide +kernel
theorem dX7_init_89 : decode cX7_init 89 = .ok (.putfield 42, 3) := by decide +kernel
theorem dX7_init_92 : decode cX7_init 92 = .ok (.aload_n 0, 1) := by decide +kernel
theorem dX7_init_93 : decode cX7_init 93 = .ok (.bipush 22, 2) := by decide +kernel
theorem dX7_init_95 : decode cX7_init 95 = .ok (.newarray .int, 2) := by decide +kernel
theorem dX7_init_97 : decode cX7_init 97 = .ok (.putfield 45, 3) := by decide +kernel
theorem dX7_init_100 : decode cX7_init 100 = .ok (.aload_n 0, 1) := by decide +kernel
theorem dX7_init_101 : decode cX7_init 101 = .ok (.bipush 22, 2) := by decide +kernel
theorem dX7_init_103 : decode cX7_init 103 = .ok (.newarray .boolean, 2) := by decide +kernel
theorem dX7_init_105 : decode cX7_init 105 = .ok (.putfield 48, 3) := by decide +kernel
theorem dX7_init_108 : decode cX7_init 108 = .ok (.aload_n 0, 1) := by decide +kernel
theorem dX7_init_109 : decode cX7_init 109 = .ok (.bipush 22, 2) := by decide +kernel
theorem dX7_init_111 : decode cX7_init 111 = .ok (.newarray .int, 2) := by decide +kernel
theorem dX7_init_113 : decode cX7_init 113 = .ok (.putfield 51, 3) := by decide +kernel
theorem dX7_init_116 : decode cX7_init 116 = .ok (.aload_n 0, 1) := by decide +kernel
theorem dX7_init_117 : decode cX7_init 117 = .ok (.bipush 22, 2) := by decide +kernel
theorem dX7_init_119 : decode cX7_init 119 = .ok (.newarray .int, 2) := by decide +kernel
theorem dX7_init_121 : decode cX7_init 121 = .ok (.putfield 54, 3) := by decide +kernel
theorem dX7_init_124 : decode cX7_init 124 = .ok (.aload_n 0, 1) := by decide +kernel
theorem dX7_init_125 : decode cX7_init 125 = .ok (.ldc 57, 2) := by decide +kernel
theorem dX7_init_127 : decode cX7_init 127 = .ok (.newarray .int, 2) := by decide +kernel
theorem dX7_init_129 : decode cX7_init 129 = .ok (.putfield 58, 3) := by decide +kernel
theorem dX7_init_132 : decode cX7_init 132 = .ok (.aload_n 0, 1) := by decide +kernel
theorem dX7_init_133 : decode cX7_init 133 = .ok (.ldc 57, 2) := by decide +kernel
theorem dX7_init_135 : decode cX7_init 135 = .ok (.newarray .int, 2) := by decide +kernel
theorem dX7_init_137 : decode cX7_init 137 = .ok (.putfield 61, 3) := by decide +kernel
theorem dX7_init_140 : decode cX7_init 140 = .ok (.aload_n 0, 1) := by decide +kernel
theorem dX7_init_141 : decode cX7_init 141 = .ok (.ldc 57, 2) := by decide +kernel
theorem dX7_init_143 : decode cX7_init 143 = .ok (.newarray .boolean, 2) := by decide +kernel
theorem dX7_init_145 : decode cX7_init 145 = .ok (.putfield 64, 3) := by decide +kernel
theorem dX7_init_148 : decode cX7_init 148 = .ok (.aload_n 0, 1) := by decide +kernel
theorem dX7_init_149 : decode cX7_init 149 = .ok (.ldc 67, 2) := by decide +kernel
theorem dX7_init_151 : decode cX7_init 151 = .ok (.newarray .int, 2) := by decide +kernel
theorem dX7_init_153 : decode cX7_init 153 = .ok (.putfield 68, 3) := by decide +kernel
theorem dX7_init_156 : decode cX7_init 156 = .ok (.aload_n 0, 1) := by decide +kernel
theorem dX7_init_157 : decode cX7_init 157 = .ok (.ldc 67, 2) := by decide +kernel
theorem dX7_init_159 : decode cX7_init 159 = .ok (.newarray .int, 2) := by decide +kernel
theorem dX7_init_161 : decode cX7_init 161 = .ok (.putfield 71, 3) := by decide +kernel
theorem dX7_init_164 : decode cX7_init 164 = .ok (.aload_n 0, 1) := by decide +kernel
theorem dX7_init_165 : decode cX7_init 165 = .ok (.ldc 67, 2) := by decide +kernel
theorem dX7_init_167 : decode cX7_init 167 = .ok (.newarray .int, 2) := by decide +kernel
theorem dX7_init_169 : decode cX7_init 169 = .ok (.putfield 74, 3) := by decide +kernel
theorem dX7_init_172 : decode cX7_init 172 = .ok (.aload_n 0, 1) := by decide +kernel
theorem dX7_init_173 : decode cX7_init 173 = .ok (.ldc 67, 2) := by decide +kernel
theorem dX7_init_175 : decode cX7_init 175 = .ok (.newarray .int, 2) := by decide +kernel
theorem dX7_init_177 : decode cX7_init 177 = .ok (.putfield 77, 3) := by decide +kernel
theorem dX7_init_180 : decode cX7_init 180 = .ok (.aload_n 0, 1) := by decide +kernel
theorem dX7_init_181 : decode cX7_init 181 = .ok (.iconst (-1), 1) := by decide +kernel
theorem dX7_init_182 : decode cX7_init 182 = .ok (.putfield 80, 3) := by decide +kernel
theorem dX7_init_185 : decode cX7_init 185 = .ok (.aload_n 0, 1) := by decide +kernel
theorem dX7_init_186 : decode cX7_init 186 = .ok (.sipush 2048, 3) := by decide +kernel
theorem dX7_init_189 : decode cX7_init 189 = .ok (.newarray .long, 2) := by decide +kernel
theorem dX7_init_191 : decode cX7_init 191 = .ok (.putfield 83, 3) := by decide +kernel
theorem dX7_init_194 : decode cX7_init 194 = .ok (.aload_n 0, 1) := by decide +kernel
theorem dX7_init_195 : decode cX7_init 195 = .ok (.sipush 2048, 3) := by decide +kernel
theorem dX7_init_198 : decode cX7_init 198 = .ok (.newarray .long, 2) := by decide +kernel
theorem dX7_init_200 : decode cX7_init 200 = .ok (.putfield 87, 3) := by decide +kernel
theorem dX7_init_203 : decode cX7_init 203 = .ok (.aload_n 0, 1) := by decide +kernel
theorem dX7_init_204 : decode cX7_init 204 = .ok (.sipush 2048, 3) := by decide +kernel
theorem dX7_init_207 : decode cX7_init 207 = .ok (.newarray .int, 2) := by decide +kernel
theorem dX7_init_209 : decode cX7_init 209 = .ok (.putfield 90, 3) := by decide +kernel
theorem dX7_init_212 : decode cX7_init 212 = .ok (.aload_n 0, 1) := by decide +kernel
theorem dX7_init_213 : decode cX7_init 213 = .ok (.sipush 2048, 3) := by decide +kernel
theorem dX7_init_216 : decode cX7_init 216 = .ok (.newarray .int, 2) := by decide +kernel
theorem dX7_init_218 : decode cX7_init 218 = .ok (.putfield 93, 3) := by decide +kernel
theorem dX7_init_221 : decode cX7_init 221 = .ok (.aload_n 0, 1) := by decide +kernel
theorem dX7_init_222 : decode cX7_init 222 = .ok (.sipush 2048, 3) := by decide +kernel
theorem dX7_init_225 : decode cX7_init 225 = .ok (.newarray .boolean, 2) := by decide +kernel
theorem dX7_init_227 : decode cX7_init 227 = .ok (.putfield 96, 3) := by decide +kernel
theorem dX7_init_230 : decode cX7_init 230 = .ok (.iconst 0, 1) := by decide +kernel
theorem dX7_init_231 : decode cX7_init 231 = .ok (.istore_n 1, 1) := by decide +kernel
theorem dX7_init_232 : decode cX7_init 232 = .ok (.iload_n 1, 1) := by decide +kernel
theorem dX7_init_233 : decode cX7_init 233 = .ok (.bipush 8, 2) := by decide +kernel
theorem dX7_init_235 : decode cX7_init 235 = .ok (.if_icmp .ge 16, 3) := by decide +kernel
theorem dX7_init_238 : decode cX7_init 238 = .ok (.aload_n 0, 1) := by decide +kernel
theorem dX7_init_239 : decode cX7_init 239 = .ok (.getfield 20, 3) := by decide +kernel
theorem dX7_init_242 : decode cX7_init 242 = .ok (.iload_n 1, 1) := by decide +kernel
theorem dX7_init_243 : decode cX7_init 243 = .ok (.iconst 1, 1) := by decide +kernel
theorem dX7_init_244 : decode cX7_init 244 = .ok (.iastore, 1) := by decide +kernel
theorem dX7_init_245 : decode cX7_init 245 = .ok (.iinc 1 1, 3) := by decide +kernel
theorem dX7_init_248 : decode cX7_init 248 = .ok (.goto (-16), 3) := by decide +kernel
theorem dX7_init_251 : decode cX7_init 251 = .ok (.return_, 1) := by decide +kernel
theorem dX7_thrown_0 : decode cX7_thrown 0 = .ok (.aload_n 0, 1) := by decide +kernel
theorem dX7_thrown_1 : decode cX7_thrown 1 = .ok (.getfield 99, 3) := by decide +kernel
theorem dX7_thrown_4 : decode cX7_thrown 4 = .ok (.ireturn, 1) := by decide +kernel
theorem dX7_feed_0 : decode cX7_feed 0 = .ok (.aload_n 0, 1) := by decide +kernel
theorem dX7_feed_1 : decode cX7_feed 1 = .ok (.iload_n 1, 1) := by decide +kernel
theorem dX7_feed_2 : decode cX7_feed 2 = .ok (.iconst 1, 1) := by decide +kernel
theorem dX7_feed_3 : decode cX7_feed 3 = .ok (.if_icmp .lt 9, 3) := by decide +kernel
theorem dX7_feed_6 : decode cX7_feed 6 = .ok (.iload_n 1, 1) := by decide +kernel
theorem dX7_feed_7 : decode cX7_feed 7 = .ok (.bipush 8, 2) := by decide +kernel
theorem dX7_feed_9 : decode cX7_feed 9 = .ok (.if_icmp .le 7, 3) := by decide +kernel
theorem dX7_feed_12 : decode cX7_feed 12 = .ok (.iconst 1, 1) := by decide +kernel
theorem dX7_feed_13 : decode cX7_feed 13 = .ok (.goto 4, 3) := by decide +kernel
theorem dX7_feed_16 : decode cX7_feed 16 = .ok (.iconst 0, 1) := by decide +kernel
theorem dX7_feed_17 : decode cX7_feed 17 = .ok (.putfield 99, 3) := by decide +kernel
theorem dX7_feed_20 : decode cX7_feed 20 = .ok (.aload_n 0, 1) := by decide +kernel
theorem dX7_feed_21 : decode cX7_feed 21 = .ok (.getfield 99, 3) := by decide +kernel
theorem dX7_feed_24 : decode cX7_feed 24 = .ok (.ifCond .le 5, 3) := by decide +kernel
theorem dX7_feed_27 : decode cX7_feed 27 = .ok (.iconst 0, 1) := by decide +kernel
theorem dX7_feed_28 : decode cX7_feed 28 = .ok (.ireturn, 1) := by decide +kernel
theorem dX7_feed_29 : decode cX7_feed 29 = .ok (.aload_n 0, 1) := by decide +kernel
theorem dX7_feed_30 : decode cX7_feed 30 = .ok (.getfield 102, 3) := by decide +kernel
theorem dX7_feed_33 : decode cX7_feed 33 = .ok (.iload_n 1, 1) := by decide +kernel
theorem dX7_feed_34 : decode cX7_feed 34 = .ok (.iadd, 1) := by decide +kernel
theorem dX7_feed_35 : decode cX7_feed 35 = .ok (.sipush 200, 3) := by decide +kernel
theorem dX7_feed_38 : decode cX7_feed 38 = .ok (.if_icmp .le 5, 3) := by decide +kernel
theorem dX7_feed_41 : decode cX7_feed 41 = .ok (.iconst (-1), 1) := by decide +kernel
theorem dX7_feed_42 : decode cX7_feed 42 = .ok (.ireturn, 1) := by decide +kernel
theorem dX7_feed_43 : decode cX7_feed 43 = .ok (.iconst 0, 1) := by decide +kernel
theorem dX7_feed_44 : decode cX7_feed 44 = .ok (.istore 4, 2) := by decide +kernel
theorem dX7_feed_46 : decode cX7_feed 46 = .ok (.iload 4, 2) := by decide +kernel
theorem dX7_feed_48 : decode cX7_feed 48 = .ok (.iload_n 1, 1) := by decide +kernel
theorem dX7_feed_49 : decode cX7_feed 49 = .ok (.if_icmp .ge 40, 3) := by decide +kernel
theorem dX7_feed_52 : decode cX7_feed 52 = .ok (.aload_n 0, 1) := by decide +kernel
theorem dX7_feed_53 : decode cX7_feed 53 = .ok (.getfield 7, 3) := by decide +kernel
theorem dX7_feed_56 : decode cX7_feed 56 = .ok (.aload_n 0, 1) := by decide +kernel
theorem dX7_feed_57 : decode cX7_feed 57 = .ok (.getfield 102, 3) := by decide +kernel
theorem dX7_feed_60 : decode cX7_feed 60 = .ok (.lload_n 2, 1) := by decide +kernel
theorem dX7_feed_61 : decode cX7_feed 61 = .ok (.bipush 8, 2) := by decide +kernel
theorem dX7_feed_63 : decode cX7_feed 63 = .ok (.iload 4, 2) := by decide +kernel
theorem dX7_feed_65 : decode cX7_feed 65 = .ok (.imul, 1) := by decide +kernel
theorem dX7_feed_66 : decode cX7_feed 66 = .ok (.lshr, 1) := by decide +kernel
theorem dX7_feed_67 : decode cX7_feed 67 = .ok (.ldc2_w 105, 3) := by decide +kernel
theorem dX7_feed_70 : decode cX7_feed 70 = .ok (.land, 1) := by decide +kernel
theorem dX7_feed_71 : decode cX7_feed 71 = .ok (.l2i, 1) := by decide +kernel
theorem dX7_feed_72 : decode cX7_feed 72 = .ok (.iastore, 1) := by decide +kernel
theorem dX7_feed_73 : decode cX7_feed 73 = .ok (.aload_n 0, 1) := by decide +kernel
theorem dX7_feed_74 : decode cX7_feed 74 = .ok (.dup, 1) := by decide +kernel
theorem dX7_feed_75 : decode cX7_feed 75 = .ok (.getfield 102, 3) := by decide +kernel
theorem dX7_feed_78 : decode cX7_feed 78 = .ok (.iconst 1, 1) := by decide +kernel
theorem dX7_feed_79 : decode cX7_feed 79 = .ok (.iadd, 1) := by decide +kernel
theorem dX7_feed_80 : decode cX7_feed 80 = .ok (.putfield 102, 3) := by decide +kernel
theorem dX7_feed_83 : decode cX7_feed 83 = .ok (.iinc 4 1, 3) := by decide +kernel
theorem dX7_feed_86 : decode cX7_feed 86 = .ok (.goto (-40), 3) := by decide +kernel
theorem dX7_feed_89 : decode cX7_feed 89 = .ok (.aload_n 0, 1) := by decide +kernel
theorem dX7_feed_90 : decode cX7_feed 90 = .ok (.getfield 102, 3) := by decide +kernel
theorem dX7_feed_93 : decode cX7_feed 93 = .ok (.ireturn, 1) := by decide +kernel
theorem dX7_wipe_0 : decode cX7_wipe 0 = .ok (.aload_n 0, 1) := by decide +kernel
theorem dX7_wipe_1 : decode cX7_wipe 1 = .ok (.iconst 0, 1) := by decide +kernel
theorem dX7_wipe_2 : decode cX7_wipe 2 = .ok (.putfield 99, 3) := by decide +kernel
theorem dX7_wipe_5 : decode cX7_wipe 5 = .ok (.aload_n 0, 1) := by decide +kernel
theorem dX7_wipe_6 : decode cX7_wipe 6 = .ok (.getfield 102, 3) := by decide +kernel
theorem dX7_wipe_9 : decode cX7_wipe 9 = .ok (.istore_n 1, 1) := by decide +kernel
theorem dX7_wipe_10 : decode cX7_wipe 10 = .ok (.aload_n 0, 1) := by decide +kernel
theorem dX7_wipe_11 : decode cX7_wipe 11 = .ok (.iconst 0, 1) := by decide +kernel
theorem dX7_wipe_12 : decode cX7_wipe 12 = .ok (.putfield 102, 3) := by decide +kernel
theorem dX7_wipe_15 : decode cX7_wipe 15 = .ok (.iload_n 1, 1) := by decide +kernel
theorem dX7_wipe_16 : decode cX7_wipe 16 = .ok (.ireturn, 1) := by decide +kernel
theorem dX7_fail_0 : decode cX7_fail 0 = .ok (.aload_n 0, 1) := by decide +kernel
theorem dX7_fail_1 : decode cX7_fail 1 = .ok (.getfield 107, 3) := by decide +kernel
theorem dX7_fail_4 : decode cX7_fail 4 = .ok (.ifCond .ne 13, 3) := by decide +kernel
theorem dX7_fail_7 : decode cX7_fail 7 = .ok (.aload_n 0, 1) := by decide +kernel
theorem dX7_fail_8 : decode cX7_fail 8 = .ok (.iload_n 1, 1) := by decide +kernel
theorem dX7_fail_9 : decode cX7_fail 9 = .ok (.putfield 107, 3) := by decide +kernel
theorem dX7_fail_12 : decode cX7_fail 12 = .ok (.aload_n 0, 1) := by decide +kernel
theorem dX7_fail_13 : decode cX7_fail 13 = .ok (.iload_n 2, 1) := by decide +kernel
theorem dX7_fail_14 : decode cX7_fail 14 = .ok (.putfield 13, 3) := by decide +kernel
theorem dX7_fail_17 : decode cX7_fail 17 = .ok (.return_, 1) := by decide +kernel
theorem dX7_byteAt_0 : decode cX7_byteAt 0 = .ok (.iload_n 1, 1) := by decide +kernel
theorem dX7_byteAt_1 : decode cX7_byteAt 1 = .ok (.aload_n 0, 1) := by decide +kernel
theorem dX7_byteAt_2 : decode cX7_byteAt 2 = .ok (.getfield 102, 3) := by decide +kernel
theorem dX7_byteAt_5 : decode cX7_byteAt 5 = .ok (.if_icmp .ge 12, 3) := by decide +kernel
theorem dX7_byteAt_8 : decode cX7_byteAt 8 = .ok (.aload_n 0, 1) := by decide +kernel
theorem dX7_byteAt_9 : decode cX7_byteAt 9 = .ok (.getfield 7, 3) := by decide +kernel
theorem dX7_byteAt_12 : decode cX7_byteAt 12 = .ok (.iload_n 1, 1) := by decide +kernel
theorem dX7_byteAt_13 : decode cX7_byteAt 13 = .ok (.iaload, 1) := by decide +kernel
theorem dX7_byteAt_14 : decode cX7_byteAt 14 = .ok (.goto 4, 3) := by decide +kernel
theorem dX7_byteAt_17 : decode cX7_byteAt 17 = .ok (.iconst (-1), 1) := by decide +kernel
theorem dX7_byteAt_18 : decode cX7_byteAt 18 = .ok (.ireturn, 1) := by decide +kernel
theorem dX7_isLetter_0 : decode cX7_isLetter 0 = .ok (.iload_n 0, 1) := by decide +kernel
theorem dX7_isLetter_1 : decode cX7_isLetter 1 = .ok (.bipush 97, 2) := by decide +kernel
theorem dX7_isLetter_3 : decode cX7_isLetter 3 = .ok (.if_icmp .lt 13, 3) := by decide +kernel
theorem dX7_isLetter_6 : decode cX7_isLetter 6 = .ok (.iload_n 0, 1) := by decide +kernel
theorem dX7_isLetter_7 : decode cX7_isLetter 7 = .ok (.bipush 104, 2) := by decide +kernel
theorem dX7_isLetter_9 : decode cX7_isLetter 9 = .ok (.if_icmp .gt 7, 3) := by decide +kernel
theorem dX7_isLetter_12 : decode cX7_isLetter 12 = .ok (.iconst 1, 1) := by decide +kernel
theorem dX7_isLetter_13 : decode cX7_isLetter 13 = .ok (.goto 4, 3) := by decide +kernel
theorem dX7_isLetter_16 : decode cX7_isLetter 16 = .ok (.iconst 0, 1) := by decide +kernel
theorem dX7_isLetter_17 : decode cX7_isLetter 17 = .ok (.ireturn, 1) := by decide +kernel
theorem dX7_atom_0 : decode cX7_atom 0 = .ok (.aload_n 0, 1) := by decide +kernel
theorem dX7_atom_1 : decode cX7_atom 1 = .ok (.dup, 1) := by decide +kernel
theorem dX7_atom_2 : decode cX7_atom 2 = .ok (.getfield 110, 3) := by decide +kernel
theorem dX7_atom_5 : decode cX7_atom 5 = .ok (.iconst 1, 1) := by decide +kernel
theorem dX7_atom_6 : decode cX7_atom 6 = .ok (.iadd, 1) := by decide +kernel
theorem dX7_atom_7 : decode cX7_atom 7 = .ok (.putfield 110, 3) := by decide +kernel
theorem dX7_atom_10 : decode cX7_atom 10 = .ok (.aload_n 0, 1) := by decide +kernel
theorem dX7_atom_11 : decode cX7_atom 11 = .ok (.getfield 32, 3) := by decide +kernel
theorem dX7_atom_14 : decode cX7_atom 14 = .ok (.aload_n 0, 1) := by decide +kernel
theorem dX7_atom_15 : decode cX7_atom 15 = .ok (.getfield 110, 3) := by decide +kernel
theorem dX7_atom_18 : decode cX7_atom 18 = .ok (.iload_n 1, 1) := by decide +kernel
theorem dX7_atom_19 : decode cX7_atom 19 = .ok (.iastore, 1) := by decide +kernel
theorem dX7_atom_20 : decode cX7_atom 20 = .ok (.aload_n 0, 1) := by decide +kernel
theorem dX7_atom_21 : decode cX7_atom 21 = .ok (.getfield 35, 3) := by decide +kernel
theorem dX7_atom_24 : decode cX7_atom 24 = .ok (.aload_n 0, 1) := by decide +kernel
theorem dX7_atom_25 : decode cX7_atom 25 = .ok (.getfield 110, 3) := by decide +kernel
theorem dX7_atom_28 : decode cX7_atom 28 = .ok (.iconst 0, 1) := by decide +kernel
theorem dX7_atom_29 : decode cX7_atom 29 = .ok (.iastore, 1) := by decide +kernel
theorem dX7_atom_30 : decode cX7_atom 30 = .ok (.aload_n 0, 1) := by decide +kernel
theorem dX7_atom_31 : decode cX7_atom 31 = .ok (.iconst 0, 1) := by decide +kernel
theorem dX7_atom_32 : decode cX7_atom 32 = .ok (.putfield 113, 3) := by decide +kernel
theorem dX7_atom_35 : decode cX7_atom 35 = .ok (.aload_n 0, 1) := by decide +kernel
theorem dX7_atom_36 : decode cX7_atom 36 = .ok (.iconst 1, 1) := by decide +kernel
theorem dX7_atom_37 : decode cX7_atom 37 = .ok (.aload_n 0, 1) := by decide +kernel
theorem dX7_atom_38 : decode cX7_atom 38 = .ok (.getfield 110, 3) := by decide +kernel
theorem dX7_atom_41 : decode cX7_atom 41 = .ok (.ishl, 1) := by decide +kernel
theorem dX7_atom_42 : decode cX7_atom 42 = .ok (.putfield 117, 3) := by decide +kernel
theorem dX7_atom_45 : decode cX7_atom 45 = .ok (.aload_n 0, 1) := by decide +kernel
theorem dX7_atom_46 : decode cX7_atom 46 = .ok (.iconst 1, 1) := by decide +kernel
theorem dX7_atom_47 : decode cX7_atom 47 = .ok (.aload_n 0, 1) := by decide +kernel
theorem dX7_atom_48 : decode cX7_atom 48 = .ok (.getfield 110, 3) := by decide +kernel
theorem dX7_atom_51 : decode cX7_atom 51 = .ok (.ishl, 1) := by decide +kernel
theorem dX7_atom_52 : decode cX7_atom 52 = .ok (.putfield 120, 3) := by decide +kernel
theorem dX7_atom_55 : decode cX7_atom 55 = .ok (.return_, 1) := by decide +kernel
theorem dX7_brackets_0 : decode cX7_brackets 0 = .ok (.aload_n 0, 1) := by decide +kernel
theorem dX7_brackets_1 : decode cX7_brackets 1 = .ok (.aload_n 0, 1) := by decide +kernel
theorem dX7_brackets_2 : decode cX7_brackets 2 = .ok (.getfield 123, 3) := by decide +kernel
theorem dX7_brackets_5 : decode cX7_brackets 5 = .ok (.invokevirtual 126, 3) := by decide +kernel
theorem dX7_brackets_8 : decode cX7_brackets 8 = .ok (.bipush 94, 2) := by decide +kernel
theorem dX7_brackets_10 : decode cX7_brackets 10 = .ok (.if_icmp .ne 7, 3) := by decide +kernel
theorem dX7_brackets_13 : decode cX7_brackets 13 = .ok (.iconst 1, 1) := by decide +kernel
theorem dX7_brackets_14 : decode cX7_brackets 14 = .ok (.goto 4, 3) := by decide +kernel
theorem dX7_brackets_17 : decode cX7_brackets 17 = .ok (.iconst 0, 1) := by decide +kernel
theorem dX7_brackets_18 : decode cX7_brackets 18 = .ok (.istore_n 1, 1) := by decide +kernel
theorem dX7_brackets_19 : decode cX7_brackets 19 = .ok (.aload_n 0, 1) := by decide +kernel
theorem dX7_brackets_20 : decode cX7_brackets 20 = .ok (.iload_n 1, 1) := by decide +kernel
theorem dX7_brackets_21 : decode cX7_brackets 21 = .ok (.ifCond .eq 12, 3) := by decide +kernel
theorem dX7_brackets_24 : decode cX7_brackets 24 = .ok (.aload_n 0, 1) := by decide +kernel
theorem dX7_brackets_25 : decode cX7_brackets 25 = .ok (.getfield 123, 3) := by decide +kernel
theorem dX7_brackets_28 : decode cX7_brackets 28 = .ok (.iconst 1, 1) := by decide +kernel
theorem dX7_brackets_29 : decode cX7_brackets 29 = .ok (.iadd, 1) := by decide +kernel
theorem dX7_brackets_30 : decode cX7_brackets 30 = .ok (.goto 7, 3) := by decide +kernel
theorem dX7_brackets_33 : decode cX7_brackets 33 = .ok (.aload_n 0, 1) := by decide +kernel
theorem dX7_brackets_34 : decode cX7_brackets 34 = .ok (.getfield 123, 3) := by decide +kernel
theorem dX7_brackets_37 : decode cX7_brackets 37 = .ok (.putfield 123, 3) := by decide +kernel
theorem dX7_brackets_40 : decode cX7_brackets 40 = .ok (.iconst 0, 1) := by decide +kernel
theorem dX7_brackets_41 : decode cX7_brackets 41 = .ok (.istore_n 2, 1) := by decide +kernel
theorem dX7_brackets_42 : decode cX7_brackets 42 = .ok (.iconst 0, 1) := by decide +kernel
theorem dX7_brackets_43 : decode cX7_brackets 43 = .ok (.istore_n 3, 1) := by decide +kernel
theorem dX7_brackets_44 : decode cX7_brackets 44 = .ok (.aload_n 0, 1) := by decide +kernel
theorem dX7_brackets_45 : decode cX7_brackets 45 = .ok (.getfield 107, 3) := by decide +kernel
theorem dX7_brackets_48 : decode cX7_brackets 48 = .ok (.ifCond .ne 175, 3) := by decide +kernel
theorem dX7_brackets_51 : decode cX7_brackets 51 = .ok (.iload_n 3, 1) := by decide +kernel
theorem dX7_brackets_52 : decode cX7_brackets 52 = .ok (.ifCond .eq 16, 3) := by decide +kernel
theorem dX7_brackets_55 : decode cX7_brackets 55 = .ok (.aload_n 0, 1) := by decide +kernel
theorem dX7_brackets_56 : decode cX7_brackets 56 = .ok (.aload_n 0, 1) := by decide +kernel
theorem dX7_brackets_57 : decode cX7_brackets 57 = .ok (.getfield 123, 3) := by decide +kernel
theorem dX7_brackets_60 : decode cX7_brackets 60 = .ok (.invokevirtual 126, 3) := by decide +kernel
theorem dX7_brackets_63 : decode cX7_brackets 63 = .ok (.bipush 93, 2) := by decide +kernel
theorem dX7_brackets_65 : decode cX7_brackets 65 = .ok (.if_icmp .eq 158, 3) := by decide +kernel
theorem dX7_brackets_68 : decode cX7_brackets 68 = .ok (.aload_n 0, 1) := by decide +kernel
theorem dX7_brackets_69 : decode cX7_brackets 69 = .ok (.aload_n 0, 1) := by decide +kernel
theorem dX7_brackets_70 : decode cX7_brackets 70 = .ok (.getfield 123, 3) := by decide +kernel
theorem dX7_brackets_73 : decode cX7_brackets 73 = .ok (.invokevirtual 126, 3) := by decide +kernel
theorem dX7_brackets_76 : decode cX7_brackets 76 = .ok (.istore 4, 2) := by decide +kernel
theorem dX7_brackets_78 : decode cX7_brackets 78 = .ok (.iload 4, 2) := by decide +kernel
theorem dX7_brackets_80 : decode cX7_brackets 80 = .ok (.invokestatic 130, 3) := by decide +kernel
theorem dX7_brackets_83 : decode cX7_brackets 83 = .ok (.ifCond .ne 14, 3) := by decide +kernel
theorem dX7_brackets_86 : decode cX7_brackets 86 = .ok (.aload_n 0, 1) := by decide +kernel
theorem dX7_brackets_87 : decode cX7_brackets 87 = .ok (.iconst 1, 1) := by decide +kernel
theorem dX7_brackets_88 : decode cX7_brackets 88 = .ok (.aload_n 0, 1) := by decide +kernel
theorem dX7_brackets_89 : decode cX7_brackets 89 = .ok (.getfield 123, 3) := by decide +kernel
theorem dX7_brackets_92 : decode cX7_brackets 92 = .ok (.invokevirtual 134, 3) := by decide +kernel
theorem dX7_brackets_95 : decode cX7_brackets 95 = .ok (.iconst 0, 1) := by decide +kernel
theorem dX7_brackets_96 : decode cX7_brackets 96 = .ok (.ireturn, 1) := by decide +kernel
theorem dX7_brackets_97 : decode cX7_brackets 97 = .ok (.aload_n 0, 1) := by decide +kernel
theorem dX7_brackets_98 : decode cX7_brackets 98 = .ok (.dup, 1) := by decide +kernel
theorem dX7_brackets_99 : decode cX7_brackets 99 = .ok (.getfield 123, 3) := by decide +kernel
theorem dX7_brackets_102 : decode cX7_brackets 102 = .ok (.iconst 1, 1) := by decide +kernel
theorem dX7_brackets_103 : decode cX7_brackets 103 = .ok (.iadd, 1) := by decide +kernel
theorem dX7_brackets_104 : decode cX7_brackets 104 = .ok (.putfield 123, 3) := by decide +kernel
theorem dX7_brackets_107 : decode cX7_brackets 107 = .ok (.iload 4, 2) := by decide +kernel
theorem dX7_brackets_109 : decode cX7_brackets 109 = .ok (.istore 5, 2) := by decide +kernel
theorem dX7_brackets_111 : decode cX7_brackets 111 = .ok (.aload_n 0, 1) := by decide +kernel
theorem dX7_brackets_112 : decode cX7_brackets 112 = .ok (.aload_n 0, 1) := by decide +kernel
theorem dX7_brackets_113 : decode cX7_brackets 113 = .ok (.getfield 123, 3) := by decide +kernel
theorem dX7_brackets_116 : decode cX7_brackets 116 = .ok (.invokevirtual 126, 3) := by decide +kernel
theorem dX7_brackets_119 : decode cX7_brackets 119 = .ok (.bipush 45, 2) := by decide +kernel
theorem dX7_brackets_121 : decode cX7_brackets 121 = .ok (.if_icmp .ne 70, 3) := by decide +kernel
theorem dX7_brackets_124 : decode cX7_brackets 124 = .ok (.aload_n 0, 1) := by decide +kernel
theorem dX7_brackets_125 : decode cX7_brackets 125 = .ok (.dup, 1) := by decide +kernel
theorem dX7_brackets_126 : decode cX7_brackets 126 = .ok (.getfield 123, 3) := by decide +kernel
theorem dX7_brackets_129 : decode cX7_brackets 129 = .ok (.iconst 1, 1) := by decide +kernel
theorem dX7_brackets_130 : decode cX7_brackets 130 = .ok (.iadd, 1) := by decide +kernel
theorem dX7_brackets_131 : decode cX7_brackets 131 = .ok (.putfield 123, 3) := by decide +kernel
theorem dX7_brackets_134 : decode cX7_brackets 134 = .ok (.aload_n 0, 1) := by decide +kernel
theorem dX7_brackets_135 : decode cX7_brackets 135 = .ok (.aload_n 0, 1) := by decide +kernel
theorem dX7_brackets_136 : decode cX7_brackets 136 = .ok (.getfield 123, 3) := by decide +kernel
theorem dX7_brackets_139 : decode cX7_brackets 139 = .ok (.invokevirtual 126, 3) := by decide +kernel
theorem dX7_brackets_142 : decode cX7_brackets 142 = .ok (.istore 5, 2) := by decide +kernel
theorem dX7_brackets_144 : decode cX7_brackets 144 = .ok (.iload 5, 2) := by decide +kernel
theorem dX7_brackets_146 : decode cX7_brackets 146 = .ok (.invokestatic 130, 3) := by decide +kernel
theorem dX7_brackets_149 : decode cX7_brackets 149 = .ok (.ifCond .ne 14, 3) := by decide +kernel
theorem dX7_brackets_152 : decode cX7_brackets 152 = .ok (.aload_n 0, 1) := by decide +kernel
theorem dX7_brackets_153 : decode cX7_brackets 153 = .ok (.iconst 1, 1) := by decide +kernel
theorem dX7_brackets_154 : decode cX7_brackets 154 = .ok (.aload_n 0, 1) := by decide +kernel
theorem dX7_brackets_155 : decode cX7_brackets 155 = .ok (.getfield 123, 3) := by decide +kernel
theorem dX7_brackets_158 : decode cX7_brackets 158 = .ok (.invokevirtual 134, 3) := by decide +kernel
theorem dX7_brackets_161 : decode cX7_brackets 161 = .ok (.iconst 0, 1) := by decide +kernel
theorem dX7_brackets_162 : decode cX7_brackets 162 = .ok (.ireturn, 1) := by decide +kernel
theorem dX7_brackets_163 : decode cX7_brackets 163 = .ok (.iload 5, 2) := by decide +kernel
theorem dX7_brackets_165 : decode cX7_brackets 165 = .ok (.iload 4, 2) := by decide +kernel
theorem dX7_brackets_167 : decode cX7_brackets 167 = .ok (.if_icmp .ge 14, 3) := by decide +kernel
theorem dX7_brackets_170 : decode cX7_brackets 170 = .ok (.aload_n 0, 1) := by decide +kernel
theorem dX7_brackets_171 : decode cX7_brackets 171 = .ok (.iconst 4, 1) := by decide +kernel
theorem dX7_brackets_172 : decode cX7_brackets 172 = .ok (.aload_n 0, 1) := by decide +kernel
theorem dX7_brackets_173 : decode cX7_brackets 173 = .ok (.getfield 123, 3) := by decide +kernel
theorem dX7_brackets_176 : decode cX7_brackets 176 = .ok (.invokevirtual 134, 3) := by decide +kernel
theorem dX7_brackets_179 : decode cX7_brackets 179 = .ok (.iconst 0, 1) := by decide +kernel
theorem dX7_brackets_180 : decode cX7_brackets 180 = .ok (.ireturn, 1) := by decide +kernel
theorem dX7_brackets_181 : decode cX7_brackets 181 = .ok (.aload_n 0, 1) := by decide +kernel
theorem dX7_brackets_182 : decode cX7_brackets 182 = .ok (.dup, 1) := by decide +kernel
theorem dX7_brackets_183 : decode cX7_brackets 183 = .ok (.getfield 123, 3) := by decide +kernel
theorem dX7_brackets_186 : decode cX7_brackets 186 = .ok (.iconst 1, 1) := by decide +kernel
theorem dX7_brackets_187 : decode cX7_brackets 187 = .ok (.iadd, 1) := by decide +kernel
theorem dX7_brackets_188 : decode cX7_brackets 188 = .ok (.putfield 123, 3) := by decide +kernel
theorem dX7_brackets_191 : decode cX7_brackets 191 = .ok (.iload 4, 2) := by decide +kernel
theorem dX7_brackets_193 : decode cX7_brackets 193 = .ok (.istore 6, 2) := by decide +kernel
theorem dX7_brackets_195 : decode cX7_brackets 195 = .ok (.iload 6, 2) := by decide +kernel
theorem dX7_brackets_197 : decode cX7_brackets 197 = .ok (.iload 5, 2) := by decide +kernel
theorem dX7_brackets_199 : decode cX7_brackets 199 = .ok (.if_icmp .gt 19, 3) := by decide +kernel
theorem dX7_brackets_202 : decode cX7_brackets 202 = .ok (.iload_n 2, 1) := by decide +kernel
theorem dX7_brackets_203 : decode cX7_brackets 203 = .ok (.iconst 1, 1) := by decide +kernel
theorem dX7_brackets_204 : decode cX7_brackets 204 = .ok (.iload 6, 2) := by decide +kernel
theorem dX7_brackets_206 : decode cX7_brackets 206 = .ok (.bipush 97, 2) := by decide +kernel
theorem dX7_brackets_208 : decode cX7_brackets 208 = .ok (.isub, 1) := by decide +kernel
theorem dX7_brackets_209 : decode cX7_brackets 209 = .ok (.ishl, 1) := by decide +kernel
theorem dX7_brackets_210 : decode cX7_brackets 210 = .ok (.ior, 1) := by decide +kernel
theorem dX7_brackets_211 : decode cX7_brackets 211 = .ok (.istore_n 2, 1) := by decide +kernel
theorem dX7_brackets_212 : decode cX7_brackets 212 = .ok (.iinc 6 1, 3) := by decide +kernel
theorem dX7_brackets_215 : decode cX7_brackets 215 = .ok (.goto (-20), 3) := by decide +kernel
theorem dX7_brackets_218 : decode cX7_brackets 218 = .ok (.iconst 1, 1) := by decide +kernel
theorem dX7_brackets_219 : decode cX7_brackets 219 = .ok (.istore_n 3, 1) := by decide +kernel
theorem dX7_brackets_220 : decode cX7_brackets 220 = .ok (.goto (-176), 3) := by decide +kernel
theorem dX7_brackets_223 : decode cX7_brackets 223 = .ok (.aload_n 0, 1) := by decide +kernel
theorem dX7_brackets_224 : decode cX7_brackets 224 = .ok (.dup, 1) := by decide +kernel
theorem dX7_brackets_225 : decode cX7_brackets 225 = .ok (.getfield 123, 3) := by decide +kernel
theorem dX7_brackets_228 : decode cX7_brackets 228 = .ok (.iconst 1, 1) := by decide +kernel
theorem dX7_brackets_229 : decode cX7_brackets 229 = .ok (.iadd, 1) := by decide +kernel
theorem dX7_brackets_230 : decode cX7_brackets 230 = .ok (.putfield 123, 3) := by decide +kernel
theorem dX7_brackets_233 : decode cX7_brackets 233 = .ok (.iload_n 1, 1) := by decide +kernel
theorem dX7_brackets_234 : decode cX7_brackets 234 = .ok (.ifCond .eq 13, 3) := by decide +kernel
theorem dX7_brackets_237 : decode cX7_brackets 237 = .ok (.sipush 255, 3) := by decide +kernel
theorem dX7_brackets_240 : decode cX7_brackets 240 = .ok (.iload_n 2, 1) := by decide +kernel
theorem dX7_brackets_241 : decode cX7_brackets 241 = .ok (.iconst (-1), 1) := by decide +kernel
theorem dX7_brackets_242 : decode cX7_brackets 242 = .ok (.ixor, 1) := by decide +kernel
theorem dX7_brackets_243 : decode cX7_brackets 243 = .ok (.iand, 1) := by decide +kernel
theorem dX7_brackets_244 : decode cX7_brackets 244 = .ok (.goto 4, 3) := by decide +kernel
theorem dX7_brackets_247 : decode cX7_brackets 247 = .ok (.iload_n 2, 1) := by decide +kernel
theorem dX7_brackets_248 : decode cX7_brackets 248 = .ok (.ireturn, 1) := by decide +kernel
theorem dX7_lead_0 : decode cX7_lead 0 = .ok (.iconst 0, 1) := by decide +kernel
theorem dX7_lead_1 : decode cX7_lead 1 = .ok (.istore_n 3, 1) := by decide +kernel
theorem dX7_lead_2 : decode cX7_lead 2 = .ok (.iload_n 3, 1) := by decide +kernel
theorem dX7_lead_3 : decode cX7_lead 3 = .ok (.bipush 24, 2) := by decide +kernel
theorem dX7_lead_5 : decode cX7_lead 5 = .ok (.if_icmp .ge 41, 3) := by decide +kernel
theorem dX7_lead_8 : decode cX7_lead 8 = .ok (.aload_n 0, 1) := by decide +kernel
theorem dX7_lead_9 : decode cX7_lead 9 = .ok (.getfield 35, 3) := by decide +kernel
theorem dX7_lead_12 : decode cX7_lead 12 = .ok (.iload_n 3, 1) := by decide +kernel
theorem dX7_lead_13 : decode cX7_lead 13 = .ok (.iload_n 1, 1) := by decide +kernel
theorem dX7_lead_14 : decode cX7_lead 14 = .ok (.iload_n 3, 1) := by decide +kernel
theorem dX7_lead_15 : decode cX7_lead 15 = .ok (.ishr, 1) := by decide +kernel
theorem dX7_lead_16 : decode cX7_lead 16 = .ok (.iconst 1, 1) := by decide +kernel
theorem dX7_lead_17 : decode cX7_lead 17 = .ok (.iand, 1) := by decide +kernel
theorem dX7_lead_18 : decode cX7_lead 18 = .ok (.iconst 1, 1) := by decide +kernel
theorem dX7_lead_19 : decode cX7_lead 19 = .ok (.if_icmp .ne 14, 3) := by decide +kernel
theorem dX7_lead_22 : decode cX7_lead 22 = .ok (.aload_n 0, 1) := by decide +kernel
theorem dX7_lead_23 : decode cX7_lead 23 = .ok (.getfield 35, 3) := by decide +kernel
theorem dX7_lead_26 : decode cX7_lead 26 = .ok (.iload_n 3, 1) := by decide +kernel
theorem dX7_lead_27 : decode cX7_lead 27 = .ok (.iaload, 1) := by decide +kernel
theorem dX7_lead_28 : decode cX7_lead 28 = .ok (.iload_n 2, 1) := by decide +kernel
theorem dX7_lead_29 : decode cX7_lead 29 = .ok (.ior, 1) := by decide +kernel
theorem dX7_lead_30 : decode cX7_lead 30 = .ok (.goto 9, 3) := by decide +kernel
theorem dX7_lead_33 : decode cX7_lead 33 = .ok (.aload_n 0, 1) := by decide +kernel
theorem dX7_lead_34 : decode cX7_lead 34 = .ok (.getfield 35, 3) := by decide +kernel
theorem dX7_lead_37 : decode cX7_lead 37 = .ok (.iload_n 3, 1) := by decide +kernel
theorem dX7_lead_38 : decode cX7_lead 38 = .ok (.iaload, 1) := by decide +kernel
theorem dX7_lead_39 : decode cX7_lead 39 = .ok (.iastore, 1) := by decide +kernel
theorem dX7_lead_40 : decode cX7_lead 40 = .ok (.iinc 3 1, 3) := by decide +kernel
theorem dX7_lead_43 : decode cX7_lead 43 = .ok (.goto (-41), 3) := by decide +kernel
theorem dX7_lead_46 : decode cX7_lead 46 = .ok (.return_, 1) := by decide +kernel
theorem dX7_beginRow_0 : decode cX7_beginRow 0 = .ok (.aload_n 0, 1) := by decide +kernel
theorem dX7_beginRow_1 : decode cX7_beginRow 1 = .ok (.getfield 48, 3) := by decide +kernel
theorem dX7_beginRow_4 : decode cX7_beginRow 4 = .ok (.aload_n 0, 1) := by decide +kernel
theorem dX7_beginRow_5 : decode cX7_beginRow 5 = .ok (.getfield 138, 3) := by decide +kernel
theorem dX7_beginRow_8 : decode cX7_beginRow 8 = .ok (.iconst 1, 1) := by decide +kernel
theorem dX7_beginRow_9 : decode cX7_beginRow 9 = .ok (.bastore, 1) := by decide +kernel
theorem dX7_beginRow_10 : decode cX7_beginRow 10 = .ok (.aload_n 0, 1) := by decide +kernel
theorem dX7_beginRow_11 : decode cX7_beginRow 11 = .ok (.getfield 51, 3) := by decide +kernel
theorem dX7_beginRow_14 : decode cX7_beginRow 14 = .ok (.aload_n 0, 1) := by decide +kernel
theorem dX7_beginRow_15 : decode cX7_beginRow 15 = .ok (.getfield 138, 3) := by decide +kernel
theorem dX7_beginRow_18 : decode cX7_beginRow 18 = .ok (.iconst 0, 1) := by decide +kernel
theorem dX7_beginRow_19 : decode cX7_beginRow 19 = .ok (.iastore, 1) := by decide +kernel
theorem dX7_beginRow_20 : decode cX7_beginRow 20 = .ok (.aload_n 0, 1) := by decide +kernel
theorem dX7_beginRow_21 : decode cX7_beginRow 21 = .ok (.getfield 54, 3) := by decide +kernel
theorem dX7_beginRow_24 : decode cX7_beginRow 24 = .ok (.aload_n 0, 1) := by decide +kernel
theorem dX7_beginRow_25 : decode cX7_beginRow 25 = .ok (.getfield 138, 3) := by decide +kernel
theorem dX7_beginRow_28 : decode cX7_beginRow 28 = .ok (.iconst 0, 1) := by decide +kernel
theorem dX7_beginRow_29 : decode cX7_beginRow 29 = .ok (.iastore, 1) := by decide +kernel
theorem dX7_beginRow_30 : decode cX7_beginRow 30 = .ok (.return_, 1) := by decide +kernel
theorem dX7_beginParts_0 : decode cX7_beginParts 0 = .ok (.aload_n 0, 1) := by decide +kernel
theorem dX7_beginParts_1 : decode cX7_beginParts 1 = .ok (.getfield 38, 3) := by decide +kernel
theorem dX7_beginParts_4 : decode cX7_beginParts 4 = .ok (.aload_n 0, 1) := by decide +kernel
theorem dX7_beginParts_5 : decode cX7_beginParts 5 = .ok (.getfield 138, 3) := by decide +kernel
theorem dX7_beginParts_8 : decode cX7_beginParts 8 = .ok (.iconst 0, 1) := by decide +kernel
theorem dX7_beginParts_9 : decode cX7_beginParts 9 = .ok (.bastore, 1) := by decide +kernel
theorem dX7_beginParts_10 : decode cX7_beginParts 10 = .ok (.aload_n 0, 1) := by decide +kernel
theorem dX7_beginParts_11 : decode cX7_beginParts 11 = .ok (.getfield 42, 3) := by decide +kernel
theorem dX7_beginParts_14 : decode cX7_beginParts 14 = .ok (.aload_n 0, 1) := by decide +kernel
theorem dX7_beginParts_15 : decode cX7_beginParts 15 = .ok (.getfield 138, 3) := by decide +kernel
theorem dX7_beginParts_18 : decode cX7_beginParts 18 = .ok (.iconst 0, 1) := by decide +kernel
theorem dX7_beginParts_19 : decode cX7_beginParts 19 = .ok (.iastore, 1) := by decide +kernel
theorem dX7_beginParts_20 : decode cX7_beginParts 20 = .ok (.aload_n 0, 1) := by decide +kernel
theorem dX7_beginParts_21 : decode cX7_beginParts 21 = .ok (.getfield 45, 3) := by decide +kernel
theorem dX7_beginParts_24 : decode cX7_beginParts 24 = .ok (.aload_n 0, 1) := by decide +kernel
theorem dX7_beginParts_25 : decode cX7_beginParts 25 = .ok (.getfield 138, 3) := by decide +kernel
theorem dX7_beginParts_28 : decode cX7_beginParts 28 = .ok (.iconst 0, 1) := by decide +kernel
theorem dX7_beginParts_29 : decode cX7_beginParts 29 = .ok (.iastore, 1) := by decide +kernel
theorem dX7_beginParts_30 : decode cX7_beginParts 30 = .ok (.aload_n 0, 1) := by decide +kernel
theorem dX7_beginParts_31 : decode cX7_beginParts 31 = .ok (.invokevirtual 141, 3) := by decide +kernel
theorem dX7_beginParts_34 : decode cX7_beginParts 34 = .ok (.return_, 1) := by decide +kernel
theorem dX7_endRow_0 : decode cX7_endRow 0 = .ok (.aload_n 0, 1) := by decide +kernel
theorem dX7_endRow_1 : decode cX7_endRow 1 = .ok (.getfield 38, 3) := by decide +kernel
theorem dX7_endRow_4 : decode cX7_endRow 4 = .ok (.aload_n 0, 1) := by decide +kernel
theorem dX7_endRow_5 : decode cX7_endRow 5 = .ok (.getfield 138, 3) := by decide +kernel
theorem dX7_endRow_8 : decode cX7_endRow 8 = .ok (.aload_n 0, 1) := by decide +kernel
theorem dX7_endRow_9 : decode cX7_endRow 9 = .ok (.getfield 38, 3) := by decide +kernel
theorem dX7_endRow_12 : decode cX7_endRow 12 = .ok (.aload_n 0, 1) := by decide +kernel
theorem dX7_endRow_13 : decode cX7_endRow 13 = .ok (.getfield 138, 3) := by decide +kernel
theorem dX7_endRow_16 : decode cX7_endRow 16 = .ok (.baload, 1) := by decide +kernel
theorem dX7_endRow_17 : decode cX7_endRow 17 = .ok (.ifCond .ne 15, 3) := by decide +kernel
theorem dX7_endRow_20 : decode cX7_endRow 20 = .ok (.aload_n 0, 1) := by decide +kernel
theorem dX7_endRow_21 : decode cX7_endRow 21 = .ok (.getfield 48, 3) := by decide +kernel
theorem dX7_endRow_24 : decode cX7_endRow 24 = .ok (.aload_n 0, 1) := by decide +kernel
theorem dX7_endRow_25 : decode cX7_endRow 25 = .ok (.getfield 138, 3) := by decide +kernel
theorem dX7_endRow_28 : decode cX7_endRow 28 = .ok (.baload, 1) := by decide +kernel
theorem dX7_endRow_29 : decode cX7_endRow 29 = .ok (.ifCond .eq 7, 3) := by decide +kernel
theorem dX7_endRow_32 : decode cX7_endRow 32 = .ok (.iconst 1, 1) := by decide +kernel
theorem dX7_endRow_33 : decode cX7_endRow 33 = .ok (.goto 4, 3) := by decide +kernel
theorem dX7_endRow_36 : decode cX7_endRow 36 = .ok (.iconst 0, 1) := by decide +kernel
theorem dX7_endRow_37 : decode cX7_endRow 37 = .ok (.bastore, 1) := by decide +kernel
theorem dX7_endRow_38 : decode cX7_endRow 38 = .ok (.aload_n 0, 1) := by decide +kernel
theorem dX7_endRow_39 : decode cX7_endRow 39 = .ok (.getfield 42, 3) := by decide +kernel
theorem dX7_endRow_42 : decode cX7_endRow 42 = .ok (.aload_n 0, 1) := by decide +kernel
theorem dX7_endRow_43 : decode cX7_endRow 43 = .ok (.getfield 138, 3) := by decide +kernel
theorem dX7_endRow_46 : decode cX7_endRow 46 = .ok (.aload_n 0, 1) := by decide +kernel
theorem dX7_endRow_47 : decode cX7_endRow 47 = .ok (.getfield 42, 3) := by decide +kernel
theorem dX7_endRow_50 : decode cX7_endRow 50 = .ok (.aload_n 0, 1) := by decide +kernel
theorem dX7_endRow_51 : decode cX7_endRow 51 = .ok (.getfield 138, 3) := by decide +kernel
theorem dX7_endRow_54 : decode cX7_endRow 54 = .ok (.iaload, 1) := by decide +kernel
theorem dX7_endRow_55 : decode cX7_endRow 55 = .ok (.aload_n 0, 1) := by decide +kernel
theorem dX7_endRow_56 : decode cX7_endRow 56 = .ok (.getfield 51, 3) := by decide +kernel
theorem dX7_endRow_59 : decode cX7_endRow 59 = .ok (.aload_n 0, 1) := by decide +kernel
theorem dX7_endRow_60 : decode cX7_endRow 60 = .ok (.getfield 138, 3) := by decide +kernel
theorem dX7_endRow_63 : decode cX7_endRow 63 = .ok (.iaload, 1) := by decide +kernel
theorem dX7_endRow_64 : decode cX7_endRow 64 = .ok (.ior, 1) := by decide +kernel
theorem dX7_endRow_65 : decode cX7_endRow 65 = .ok (.iastore, 1) := by decide +kernel
theorem dX7_endRow_66 : decode cX7_endRow 66 = .ok (.aload_n 0, 1) := by decide +kernel
theorem dX7_endRow_67 : decode cX7_endRow 67 = .ok (.getfield 45, 3) := by decide +kernel
theorem dX7_endRow_70 : decode cX7_endRow 70 = .ok (.aload_n 0, 1) := by decide +kernel
theorem dX7_endRow_71 : decode cX7_endRow 71 = .ok (.getfield 138, 3) := by decide +kernel
theorem dX7_endRow_74 : decode cX7_endRow 74 = .ok (.aload_n 0, 1) := by decide +kernel
theorem dX7_endRow_75 : decode cX7_endRow 75 = .ok (.getfield 45, 3) := by decide +kernel
theorem dX7_endRow_78 : decode cX7_endRow 78 = .ok (.aload_n 0, 1) := by decide +kernel
theorem dX7_endRow_79 : decode cX7_endRow 79 = .ok (.getfield 138, 3) := by decide +kernel
theorem dX7_endRow_82 : decode cX7_endRow 82 = .ok (.iaload, 1) := by decide +kernel
theorem dX7_endRow_83 : decode cX7_endRow 83 = .ok (.aload_n 0, 1) := by decide +kernel
theorem dX7_endRow_84 : decode cX7_endRow 84 = .ok (.getfield 54, 3) := by decide +kernel
theorem dX7_endRow_87 : decode cX7_endRow 87 = .ok (.aload_n 0, 1) := by decide +kernel
theorem dX7_endRow_88 : decode cX7_endRow 88 = .ok (.getfield 138, 3) := by decide +kernel
theorem dX7_endRow_91 : decode cX7_endRow 91 = .ok (.iaload, 1) := by decide +kernel
theorem dX7_endRow_92 : decode cX7_endRow 92 = .ok (.ior, 1) := by decide +kernel
theorem dX7_endRow_93 : decode cX7_endRow 93 = .ok (.iastore, 1) := by decide +kernel
theorem dX7_endRow_94 : decode cX7_endRow 94 = .ok (.return_, 1) := by decide +kernel
theorem dX7_take_0 : decode cX7_take 0 = .ok (.aload_n 0, 1) := by decide +kernel
theorem dX7_take_1 : decode cX7_take 1 = .ok (.aload_n 0, 1) := by decide +kernel
theorem dX7_take_2 : decode cX7_take 2 = .ok (.getfield 123, 3) := by decide +kernel
theorem dX7_take_5 : decode cX7_take 5 = .ok (.invokevirtual 126, 3) := by decide +kernel
theorem dX7_take_8 : decode cX7_take 8 = .ok (.istore_n 1, 1) := by decide +kernel
theorem dX7_take_9 : decode cX7_take 9 = .ok (.iload_n 1, 1) := by decide +kernel
theorem dX7_take_10 : decode cX7_take 10 = .ok (.bipush 42, 2) := by decide +kernel
theorem dX7_take_12 : decode cX7_take 12 = .ok (.if_icmp .eq 15, 3) := by decide +kernel
theorem dX7_take_15 : decode cX7_take 15 = .ok (.iload_n 1, 1) := by decide +kernel
theorem dX7_take_16 : decode cX7_take 16 = .ok (.bipush 43, 2) := by decide +kernel
theorem dX7_take_18 : decode cX7_take 18 = .ok (.if_icmp .eq 9, 3) := by decide +kernel
theorem dX7_take_21 : decode cX7_take 21 = .ok (.iload_n 1, 1) := by decide +kernel
theorem dX7_take_22 : decode cX7_take 22 = .ok (.bipush 63, 2) := by decide +kernel
theorem dX7_take_24 : decode cX7_take 24 = .ok (.if_icmp .ne 65, 3) := by decide +kernel
theorem dX7_take_27 : decode cX7_take 27 = .ok (.aload_n 0, 1) := by decide +kernel
theorem dX7_take_28 : decode cX7_take 28 = .ok (.aload_n 0, 1) := by decide +kernel
theorem dX7_take_29 : decode cX7_take 29 = .ok (.getfield 113, 3) := by decide +kernel
theorem dX7_take_32 : decode cX7_take 32 = .ok (.ifCond .ne 9, 3) := by decide +kernel
theorem dX7_take_35 : decode cX7_take 35 = .ok (.iload_n 1, 1) := by decide +kernel
theorem dX7_take_36 : decode cX7_take 36 = .ok (.bipush 43, 2) := by decide +kernel
theorem dX7_take_38 : decode cX7_take 38 = .ok (.if_icmp .eq 7, 3) := by decide +kernel
theorem dX7_take_41 : decode cX7_take 41 = .ok (.iconst 1, 1) := by decide +kernel
theorem dX7_take_42 : decode cX7_take 42 = .ok (.goto 4, 3) := by decide +kernel
theorem dX7_take_45 : decode cX7_take 45 = .ok (.iconst 0, 1) := by decide +kernel
theorem dX7_take_46 : decode cX7_take 46 = .ok (.putfield 113, 3) := by decide +kernel
theorem dX7_take_49 : decode cX7_take 49 = .ok (.iload_n 1, 1) := by decide +kernel
theorem dX7_take_50 : decode cX7_take 50 = .ok (.bipush 63, 2) := by decide +kernel
theorem dX7_take_52 : decode cX7_take 52 = .ok (.if_icmp .eq 15, 3) := by decide +kernel
theorem dX7_take_55 : decode cX7_take 55 = .ok (.aload_n 0, 1) := by decide +kernel
theorem dX7_take_56 : decode cX7_take 56 = .ok (.aload_n 0, 1) := by decide +kernel
theorem dX7_take_57 : decode cX7_take 57 = .ok (.getfield 120, 3) := by decide +kernel
theorem dX7_take_60 : decode cX7_take 60 = .ok (.aload_n 0, 1) := by decide +kernel
theorem dX7_take_61 : decode cX7_take 61 = .ok (.getfield 117, 3) := by decide +kernel
theorem dX7_take_64 : decode cX7_take 64 = .ok (.invokevirtual 144, 3) := by decide +kernel
theorem dX7_take_67 : decode cX7_take 67 = .ok (.aload_n 0, 1) := by decide +kernel
theorem dX7_take_68 : decode cX7_take 68 = .ok (.dup, 1) := by decide +kernel
theorem dX7_take_69 : decode cX7_take 69 = .ok (.getfield 123, 3) := by decide +kernel
theorem dX7_take_72 : decode cX7_take 72 = .ok (.iconst 1, 1) := by decide +kernel
theorem dX7_take_73 : decode cX7_take 73 = .ok (.iadd, 1) := by decide +kernel
theorem dX7_take_74 : decode cX7_take 74 = .ok (.putfield 123, 3) := by decide +kernel
theorem dX7_take_77 : decode cX7_take 77 = .ok (.aload_n 0, 1) := by decide +kernel
theorem dX7_take_78 : decode cX7_take 78 = .ok (.aload_n 0, 1) := by decide +kernel
theorem dX7_take_79 : decode cX7_take 79 = .ok (.getfield 123, 3) := by decide +kernel
theorem dX7_take_82 : decode cX7_take 82 = .ok (.invokevirtual 126, 3) := by decide +kernel
theorem dX7_take_85 : decode cX7_take 85 = .ok (.istore_n 1, 1) := by decide +kernel
theorem dX7_take_86 : decode cX7_take 86 = .ok (.goto (-77), 3) := by decide +kernel
theorem dX7_take_89 : decode cX7_take 89 = .ok (.aload_n 0, 1) := by decide +kernel
theorem dX7_take_90 : decode cX7_take 90 = .ok (.aload_n 0, 1) := by decide +kernel
theorem dX7_take_91 : decode cX7_take 91 = .ok (.getfield 54, 3) := by decide +kernel
theorem dX7_take_94 : decode cX7_take 94 = .ok (.aload_n 0, 1) := by decide +kernel
theorem dX7_take_95 : decode cX7_take 95 = .ok (.getfield 138, 3) := by decide +kernel
theorem dX7_take_98 : decode cX7_take 98 = .ok (.iaload, 1) := by decide +kernel
theorem dX7_take_99 : decode cX7_take 99 = .ok (.aload_n 0, 1) := by decide +kernel
theorem dX7_take_100 : decode cX7_take 100 = .ok (.getfield 117, 3) := by decide +kernel
theorem dX7_take_103 : decode cX7_take 103 = .ok (.invokevirtual 144, 3) := by decide +kernel
theorem dX7_take_106 : decode cX7_take 106 = .ok (.aload_n 0, 1) := by decide +kernel
theorem dX7_take_107 : decode cX7_take 107 = .ok (.getfield 51, 3) := by decide +kernel
theorem dX7_take_110 : decode cX7_take 110 = .ok (.aload_n 0, 1) := by decide +kernel
theorem dX7_take_111 : decode cX7_take 111 = .ok (.getfield 138, 3) := by decide +kernel
theorem dX7_take_114 : decode cX7_take 114 = .ok (.aload_n 0, 1) := by decide +kernel
theorem dX7_take_115 : decode cX7_take 115 = .ok (.getfield 48, 3) := by decide +kernel
theorem dX7_take_118 : decode cX7_take 118 = .ok (.aload_n 0, 1) := by decide +kernel
theorem dX7_take_119 : decode cX7_take 119 = .ok (.getfield 138, 3) := by decide +kernel
theorem dX7_take_122 : decode cX7_take 122 = .ok (.baload, 1) := by decide +kernel
theorem dX7_take_123 : decode cX7_take 123 = .ok (.ifCond .eq 20, 3) := by decide +kernel
theorem dX7_take_126 : decode cX7_take 126 = .ok (.aload_n 0, 1) := by decide +kernel
theorem dX7_take_127 : decode cX7_take 127 = .ok (.getfield 51, 3) := by decide +kernel
theorem dX7_take_130 : decode cX7_take 130 = .ok (.aload_n 0, 1) := by decide +kernel
theorem dX7_take_131 : decode cX7_take 131 = .ok (.getfield 138, 3) := by decide +kernel
theorem dX7_take_134 : decode cX7_take 134 = .ok (.iaload, 1) := by decide +kernel
theorem dX7_take_135 : decode cX7_take 135 = .ok (.aload_n 0, 1) := by decide +kernel
theorem dX7_take_136 : decode cX7_take 136 = .ok (.getfield 117, 3) := by decide +kernel
theorem dX7_take_139 : decode cX7_take 139 = .ok (.ior, 1) := by decide +kernel
theorem dX7_take_140 : decode cX7_take 140 = .ok (.goto 12, 3) := by decide +kernel
theorem dX7_take_143 : decode cX7_take 143 = .ok (.aload_n 0, 1) := by decide +kernel
theorem dX7_take_144 : decode cX7_take 144 = .ok (.getfield 51, 3) := by decide +kernel
theorem dX7_take_147 : decode cX7_take 147 = .ok (.aload_n 0, 1) := by decide +kernel
theorem dX7_take_148 : decode cX7_take 148 = .ok (.getfield 138, 3) := by decide +kernel
theorem dX7_take_151 : decode cX7_take 151 = .ok (.iaload, 1) := by decide +kernel
theorem dX7_take_152 : decode cX7_take 152 = .ok (.iastore, 1) := by decide +kernel
theorem dX7_take_153 : decode cX7_take 153 = .ok (.aload_n 0, 1) := by decide +kernel
theorem dX7_take_154 : decode cX7_take 154 = .ok (.getfield 54, 3) := by decide +kernel
theorem dX7_take_157 : decode cX7_take 157 = .ok (.aload_n 0, 1) := by decide +kernel
theorem dX7_take_158 : decode cX7_take 158 = .ok (.getfield 138, 3) := by decide +kernel
theorem dX7_take_161 : decode cX7_take 161 = .ok (.aload_n 0, 1) := by decide +kernel
theorem dX7_take_162 : decode cX7_take 162 = .ok (.getfield 113, 3) := by decide +kernel
theorem dX7_take_165 : decode cX7_take 165 = .ok (.ifCond .eq 20, 3) := by decide +kernel
theorem dX7_take_168 : decode cX7_take 168 = .ok (.aload_n 0, 1) := by decide +kernel
theorem dX7_take_169 : decode cX7_take 169 = .ok (.getfield 54, 3) := by decide +kernel
theorem dX7_take_172 : decode cX7_take 172 = .ok (.aload_n 0, 1) := by decide +kernel
theorem dX7_take_173 : decode cX7_take 173 = .ok (.getfield 138, 3) := by decide +kernel
theorem dX7_take_176 : decode cX7_take 176 = .ok (.iaload, 1) := by decide +kernel
theorem dX7_take_177 : decode cX7_take 177 = .ok (.aload_n 0, 1) := by decide +kernel
theorem dX7_take_178 : decode cX7_take 178 = .ok (.getfield 120, 3) := by decide +kernel
theorem dX7_take_181 : decode cX7_take 181 = .ok (.ior, 1) := by decide +kernel
theorem dX7_take_182 : decode cX7_take 182 = .ok (.goto 7, 3) := by decide +kernel
theorem dX7_take_185 : decode cX7_take 185 = .ok (.aload_n 0, 1) := by decide +kernel
theorem dX7_take_186 : decode cX7_take 186 = .ok (.getfield 120, 3) := by decide +kernel
theorem dX7_take_189 : decode cX7_take 189 = .ok (.iastore, 1) := by decide +kernel
theorem dX7_take_190 : decode cX7_take 190 = .ok (.aload_n 0, 1) := by decide +kernel
theorem dX7_take_191 : decode cX7_take 191 = .ok (.getfield 48, 3) := by decide +kernel
theorem dX7_take_194 : decode cX7_take 194 = .ok (.aload_n 0, 1) := by decide +kernel
theorem dX7_take_195 : decode cX7_take 195 = .ok (.getfield 138, 3) := by decide +kernel
theorem dX7_take_198 : decode cX7_take 198 = .ok (.aload_n 0, 1) := by decide +kernel
theorem dX7_take_199 : decode cX7_take 199 = .ok (.getfield 48, 3) := by decide +kernel
theorem dX7_take_202 : decode cX7_take 202 = .ok (.aload_n 0, 1) := by decide +kernel
theorem dX7_take_203 : decode cX7_take 203 = .ok (.getfield 138, 3) := by decide +kernel
theorem dX7_take_206 : decode cX7_take 206 = .ok (.baload, 1) := by decide +kernel
theorem dX7_take_207 : decode cX7_take 207 = .ok (.ifCond .eq 14, 3) := by decide +kernel
theorem dX7_take_210 : decode cX7_take 210 = .ok (.aload_n 0, 1) := by decide +kernel
theorem dX7_take_211 : decode cX7_take 211 = .ok (.getfield 113, 3) := by decide +kernel
theorem dX7_take_214 : decode cX7_take 214 = .ok (.ifCond .eq 7, 3) := by decide +kernel
theorem dX7_take_217 : decode cX7_take 217 = .ok (.iconst 1, 1) := by decide +kernel
theorem dX7_take_218 : decode cX7_take 218 = .ok (.goto 4, 3) := by decide +kernel
theorem dX7_take_221 : decode cX7_take 221 = .ok (.iconst 0, 1) := by decide +kernel
theorem dX7_take_222 : decode cX7_take 222 = .ok (.bastore, 1) := by decide +kernel
theorem dX7_take_223 : decode cX7_take 223 = .ok (.return_, 1) := by decide +kernel
theorem dX7_step_0 : decode cX7_step 0 = .ok (.aload_n 0, 1) := by decide +kernel
theorem dX7_step_1 : decode cX7_step 1 = .ok (.aload_n 0, 1) := by decide +kernel
theorem dX7_step_2 : decode cX7_step 2 = .ok (.getfield 123, 3) := by decide +kernel
theorem dX7_step_5 : decode cX7_step 5 = .ok (.invokevirtual 126, 3) := by decide +kernel
theorem dX7_step_8 : decode cX7_step 8 = .ok (.istore_n 1, 1) := by decide +kernel
theorem dX7_step_9 : decode cX7_step 9 = .ok (.iload_n 1, 1) := by decide +kernel
theorem dX7_step_10 : decode cX7_step 10 = .ok (.invokestatic 130, 3) := by decide +kernel
theorem dX7_step_13 : decode cX7_step 13 = .ok (.ifCond .ne 15, 3) := by decide +kernel
theorem dX7_step_16 : decode cX7_step 16 = .ok (.iload_n 1, 1) := by decide +kernel
theorem dX7_step_17 : decode cX7_step 17 = .ok (.bipush 46, 2) := by decide +kernel
theorem dX7_step_19 : decode cX7_step 19 = .ok (.if_icmp .eq 9, 3) := by decide +kernel
theorem dX7_step_22 : decode cX7_step 22 = .ok (.iload_n 1, 1) := by decide +kernel
theorem dX7_step_23 : decode cX7_step 23 = .ok (.bipush 91, 2) := by decide +kernel
theorem dX7_step_25 : decode cX7_step 25 = .ok (.if_icmp .ne 7, 3) := by decide +kernel
theorem dX7_step_28 : decode cX7_step 28 = .ok (.iconst 1, 1) := by decide +kernel
theorem dX7_step_29 : decode cX7_step 29 = .ok (.goto 4, 3) := by decide +kernel
theorem dX7_step_32 : decode cX7_step 32 = .ok (.iconst 0, 1) := by decide +kernel
theorem dX7_step_33 : decode cX7_step 33 = .ok (.istore_n 2, 1) := by decide +kernel
theorem dX7_step_34 : decode cX7_step 34 = .ok (.iload_n 2, 1) := by decide +kernel
theorem dX7_step_35 : decode cX7_step 35 = .ok (.ifCond .eq 24, 3) := by decide +kernel
theorem dX7_step_38 : decode cX7_step 38 = .ok (.aload_n 0, 1) := by decide +kernel
theorem dX7_step_39 : decode cX7_step 39 = .ok (.getfield 110, 3) := by decide +kernel
theorem dX7_step_42 : decode cX7_step 42 = .ok (.bipush 23, 2) := by decide +kernel
theorem dX7_step_44 : decode cX7_step 44 = .ok (.if_icmp .ne 15, 3) := by decide +kernel
theorem dX7_step_47 : decode cX7_step 47 = .ok (.aload_n 0, 1) := by decide +kernel
theorem dX7_step_48 : decode cX7_step 48 = .ok (.iconst 2, 1) := by decide +kernel
theorem dX7_step_49 : decode cX7_step 49 = .ok (.aload_n 0, 1) := by decide +kernel
theorem dX7_step_50 : decode cX7_step 50 = .ok (.getfield 123, 3) := by decide +kernel
theorem dX7_step_53 : decode cX7_step 53 = .ok (.invokevirtual 134, 3) := by decide +kernel
theorem dX7_step_56 : decode cX7_step 56 = .ok (.goto 259, 3) := by decide +kernel
theorem dX7_step_59 : decode cX7_step 59 = .ok (.iload_n 1, 1) := by decide +kernel
theorem dX7_step_60 : decode cX7_step 60 = .ok (.bipush 91, 2) := by decide +kernel
theorem dX7_step_62 : decode cX7_step 62 = .ok (.if_icmp .ne 37, 3) := by decide +kernel
theorem dX7_step_65 : decode cX7_step 65 = .ok (.aload_n 0, 1) := by decide +kernel
theorem dX7_step_66 : decode cX7_step 66 = .ok (.dup, 1) := by decide +kernel
theorem dX7_step_67 : decode cX7_step 67 = .ok (.getfield 123, 3) := by decide +kernel
theorem dX7_step_70 : decode cX7_step 70 = .ok (.iconst 1, 1) := by decide +kernel
theorem dX7_step_71 : decode cX7_step 71 = .ok (.iadd, 1) := by decide +kernel
theorem dX7_step_72 : decode cX7_step 72 = .ok (.putfield 123, 3) := by decide +kernel
theorem dX7_step_75 : decode cX7_step 75 = .ok (.aload_n 0, 1) := by decide +kernel
theorem dX7_step_76 : decode cX7_step 76 = .ok (.invokevirtual 147, 3) := by decide +kernel
theorem dX7_step_79 : decode cX7_step 79 = .ok (.istore_n 3, 1) := by decide +kernel
theorem dX7_step_80 : decode cX7_step 80 = .ok (.aload_n 0, 1) := by decide +kernel
theorem dX7_step_81 : decode cX7_step 81 = .ok (.getfield 107, 3) := by decide +kernel
theorem dX7_step_84 : decode cX7_step 84 = .ok (.ifCond .ne 12, 3) := by decide +kernel
theorem dX7_step_87 : decode cX7_step 87 = .ok (.aload_n 0, 1) := by decide +kernel
theorem dX7_step_88 : decode cX7_step 88 = .ok (.iload_n 3, 1) := by decide +kernel
theorem dX7_step_89 : decode cX7_step 89 = .ok (.invokevirtual 151, 3) := by decide +kernel
theorem dX7_step_92 : decode cX7_step 92 = .ok (.aload_n 0, 1) := by decide +kernel
theorem dX7_step_93 : decode cX7_step 93 = .ok (.invokevirtual 155, 3) := by decide +kernel
theorem dX7_step_96 : decode cX7_step 96 = .ok (.goto 219, 3) := by decide +kernel
theorem dX7_step_99 : decode cX7_step 99 = .ok (.iload_n 2, 1) := by decide +kernel
theorem dX7_step_100 : decode cX7_step 100 = .ok (.ifCond .eq 42, 3) := by decide +kernel
theorem dX7_step_103 : decode cX7_step 103 = .ok (.aload_n 0, 1) := by decide +kernel
theorem dX7_step_104 : decode cX7_step 104 = .ok (.dup, 1) := by decide +kernel
theorem dX7_step_105 : decode cX7_step 105 = .ok (.getfield 123, 3) := by decide +kernel
theorem dX7_step_108 : decode cX7_step 108 = .ok (.iconst 1, 1) := by decide +kernel
theorem dX7_step_109 : decode cX7_step 109 = .ok (.iadd, 1) := by decide +kernel
theorem dX7_step_110 : decode cX7_step 110 = .ok (.putfield 123, 3) := by decide +kernel
theorem dX7_step_113 : decode cX7_step 113 = .ok (.aload_n 0, 1) := by decide +kernel
theorem dX7_step_114 : decode cX7_step 114 = .ok (.iload_n 1, 1) := by decide +kernel
theorem dX7_step_115 : decode cX7_step 115 = .ok (.bipush 46, 2) := by decide +kernel
theorem dX7_step_117 : decode cX7_step 117 = .ok (.if_icmp .ne 9, 3) := by decide +kernel
theorem dX7_step_120 : decode cX7_step 120 = .ok (.sipush 255, 3) := by decide +kernel
theorem dX7_step_123 : decode cX7_step 123 = .ok (.goto 9, 3) := by decide +kernel
theorem dX7_step_126 : decode cX7_step 126 = .ok (.iconst 1, 1) := by decide +kernel
theorem dX7_step_127 : decode cX7_step 127 = .ok (.iload_n 1, 1) := by decide +kernel
theorem dX7_step_128 : decode cX7_step 128 = .ok (.bipush 97, 2) := by decide +kernel
theorem dX7_step_130 : decode cX7_step 130 = .ok (.isub, 1) := by decide +kernel
theorem dX7_step_131 : decode cX7_step 131 = .ok (.ishl, 1) := by decide +kernel
theorem dX7_step_132 : decode cX7_step 132 = .ok (.invokevirtual 151, 3) := by decide +kernel
theorem dX7_step_135 : decode cX7_step 135 = .ok (.aload_n 0, 1) := by decide +kernel
theorem dX7_step_136 : decode cX7_step 136 = .ok (.invokevirtual 155, 3) := by decide +kernel
theorem dX7_step_139 : decode cX7_step 139 = .ok (.goto 176, 3) := by decide +kernel
theorem dX7_step_142 : decode cX7_step 142 = .ok (.iload_n 1, 1) := by decide +kernel
theorem dX7_step_143 : decode cX7_step 143 = .ok (.bipush 40, 2) := by decide +kernel
theorem dX7_step_145 : decode cX7_step 145 = .ok (.if_icmp .ne 51, 3) := by decide +kernel
theorem dX7_step_148 : decode cX7_step 148 = .ok (.aload_n 0, 1) := by decide +kernel
theorem dX7_step_149 : decode cX7_step 149 = .ok (.getfield 138, 3) := by decide +kernel
theorem dX7_step_152 : decode cX7_step 152 = .ok (.bipush 20, 2) := by decide +kernel
theorem dX7_step_154 : decode cX7_step 154 = .ok (.if_icmp .ne 15, 3) := by decide +kernel
theorem dX7_step_157 : decode cX7_step 157 = .ok (.aload_n 0, 1) := by decide +kernel
theorem dX7_step_158 : decode cX7_step 158 = .ok (.iconst 3, 1) := by decide +kernel
theorem dX7_step_159 : decode cX7_step 159 = .ok (.aload_n 0, 1) := by decide +kernel
theorem dX7_step_160 : decode cX7_step 160 = .ok (.getfield 123, 3) := by decide +kernel
theorem dX7_step_163 : decode cX7_step 163 = .ok (.invokevirtual 134, 3) := by decide +kernel
theorem dX7_step_166 : decode cX7_step 166 = .ok (.goto 149, 3) := by decide +kernel
theorem dX7_step_169 : decode cX7_step 169 = .ok (.aload_n 0, 1) := by decide +kernel
theorem dX7_step_170 : decode cX7_step 170 = .ok (.dup, 1) := by decide +kernel
theorem dX7_step_171 : decode cX7_step 171 = .ok (.getfield 138, 3) := by decide +kernel
theorem dX7_step_174 : decode cX7_step 174 = .ok (.iconst 1, 1) := by decide +kernel
theorem dX7_step_175 : decode cX7_step 175 = .ok (.iadd, 1) := by decide +kernel
theorem dX7_step_176 : decode cX7_step 176 = .ok (.putfield 138, 3) := by decide +kernel
theorem dX7_step_179 : decode cX7_step 179 = .ok (.aload_n 0, 1) := by decide +kernel
theorem dX7_step_180 : decode cX7_step 180 = .ok (.invokevirtual 158, 3) := by decide +kernel
theorem dX7_step_183 : decode cX7_step 183 = .ok (.aload_n 0, 1) := by decide +kernel
theorem dX7_step_184 : decode cX7_step 184 = .ok (.dup, 1) := by decide +kernel
theorem dX7_step_185 : decode cX7_step 185 = .ok (.getfield 123, 3) := by decide +kernel
theorem dX7_step_188 : decode cX7_step 188 = .ok (.iconst 1, 1) := by decide +kernel
theorem dX7_step_189 : decode cX7_step 189 = .ok (.iadd, 1) := by decide +kernel
theorem dX7_step_190 : decode cX7_step 190 = .ok (.putfield 123, 3) := by decide +kernel
theorem dX7_step_193 : decode cX7_step 193 = .ok (.goto 122, 3) := by decide +kernel
theorem dX7_step_196 : decode cX7_step 196 = .ok (.iload_n 1, 1) := by decide +kernel
theorem dX7_step_197 : decode cX7_step 197 = .ok (.bipush 41, 2) := by decide +kernel
theorem dX7_step_199 : decode cX7_step 199 = .ok (.if_icmp .ne 80, 3) := by decide +kernel
theorem dX7_step_202 : decode cX7_step 202 = .ok (.aload_n 0, 1) := by decide +kernel
theorem dX7_step_203 : decode cX7_step 203 = .ok (.getfield 138, 3) := by decide +kernel
theorem dX7_step_206 : decode cX7_step 206 = .ok (.ifCond .le 73, 3) := by decide +kernel
theorem dX7_step_209 : decode cX7_step 209 = .ok (.aload_n 0, 1) := by decide +kernel
theorem dX7_step_210 : decode cX7_step 210 = .ok (.invokevirtual 161, 3) := by decide +kernel
theorem dX7_step_213 : decode cX7_step 213 = .ok (.aload_n 0, 1) := by decide +kernel
theorem dX7_step_214 : decode cX7_step 214 = .ok (.aload_n 0, 1) := by decide +kernel
theorem dX7_step_215 : decode cX7_step 215 = .ok (.getfield 38, 3) := by decide +kernel
theorem dX7_step_218 : decode cX7_step 218 = .ok (.aload_n 0, 1) := by decide +kernel
theorem dX7_step_219 : decode cX7_step 219 = .ok (.getfield 138, 3) := by decide +kernel
theorem dX7_step_222 : decode cX7_step 222 = .ok (.baload, 1) := by decide +kernel
theorem dX7_step_223 : decode cX7_step 223 = .ok (.putfield 113, 3) := by decide +kernel
theorem dX7_step_226 : decode cX7_step 226 = .ok (.aload_n 0, 1) := by decide +kernel
theorem dX7_step_227 : decode cX7_step 227 = .ok (.aload_n 0, 1) := by decide +kernel
theorem dX7_step_228 : decode cX7_step 228 = .ok (.getfield 42, 3) := by decide +kernel
theorem dX7_step_231 : decode cX7_step 231 = .ok (.aload_n 0, 1) := by decide +kernel
theorem dX7_step_232 : decode cX7_step 232 = .ok (.getfield 138, 3) := by decide +kernel
theorem dX7_step_235 : decode cX7_step 235 = .ok (.iaload, 1) := by decide +kernel
theorem dX7_step_236 : decode cX7_step 236 = .ok (.putfield 117, 3) := by decide +kernel
theorem dX7_step_239 : decode cX7_step 239 = .ok (.aload_n 0, 1) := by decide +kernel
theorem dX7_step_240 : decode cX7_step 240 = .ok (.aload_n 0, 1) := by decide +kernel
theorem dX7_step_241 : decode cX7_step 241 = .ok (.getfield 45, 3) := by decide +kernel
theorem dX7_step_244 : decode cX7_step 244 = .ok (.aload_n 0, 1) := by decide +kernel
theorem dX7_step_245 : decode cX7_step 245 = .ok (.getfield 138, 3) := by decide +kernel
theorem dX7_step_248 : decode cX7_step 248 = .ok (.iaload, 1) := by decide +kernel
theorem dX7_step_249 : decode cX7_step 249 = .ok (.putfield 120, 3) := by decide +kernel
theorem dX7_step_252 : decode cX7_step 252 = .ok (.aload_n 0, 1) := by decide +kernel
theorem dX7_step_253 : decode cX7_step 253 = .ok (.dup, 1) := by decide +kernel
theorem dX7_step_254 : decode cX7_step 254 = .ok (.getfield 138, 3) := by decide +kernel
theorem dX7_step_257 : decode cX7_step 257 = .ok (.iconst 1, 1) := by decide +kernel
theorem dX7_step_258 : decode cX7_step 258 = .ok (.isub, 1) := by decide +kernel
theorem dX7_step_259 : decode cX7_step 259 = .ok (.putfield 138, 3) := by decide +kernel
theorem dX7_step_262 : decode cX7_step 262 = .ok (.aload_n 0, 1) := by decide +kernel
theorem dX7_step_263 : decode cX7_step 263 = .ok (.dup, 1) := by decide +kernel
theorem dX7_step_264 : decode cX7_step 264 = .ok (.getfield 123, 3) := by decide +kernel
theorem dX7_step_267 : decode cX7_step 267 = .ok (.iconst 1, 1) := by decide +kernel
theorem dX7_step_268 : decode cX7_step 268 = .ok (.iadd, 1) := by decide +kernel
theorem dX7_step_269 : decode cX7_step 269 = .ok (.putfield 123, 3) := by decide +kernel
theorem dX7_step_272 : decode cX7_step 272 = .ok (.aload_n 0, 1) := by decide +kernel
theorem dX7_step_273 : decode cX7_step 273 = .ok (.invokevirtual 155, 3) := by decide +kernel
theorem dX7_step_276 : decode cX7_step 276 = .ok (.goto 39, 3) := by decide +kernel
theorem dX7_step_279 : decode cX7_step 279 = .ok (.iload_n 1, 1) := by decide +kernel
theorem dX7_step_280 : decode cX7_step 280 = .ok (.bipush 124, 2) := by decide +kernel
theorem dX7_step_282 : decode cX7_step 282 = .ok (.if_icmp .ne 24, 3) := by decide +kernel
theorem dX7_step_285 : decode cX7_step 285 = .ok (.aload_n 0, 1) := by decide +kernel
theorem dX7_step_286 : decode cX7_step 286 = .ok (.invokevirtual 161, 3) := by decide +kernel
theorem dX7_step_289 : decode cX7_step 289 = .ok (.aload_n 0, 1) := by decide +kernel
theorem dX7_step_290 : decode cX7_step 290 = .ok (.invokevirtual 141, 3) := by decide +kernel
theorem dX7_step_293 : decode cX7_step 293 = .ok (.aload_n 0, 1) := by decide +kernel
theorem dX7_step_294 : decode cX7_step 294 = .ok (.dup, 1) := by decide +kernel
theorem dX7_step_295 : decode cX7_step 295 = .ok (.getfield 123, 3) := by decide +kernel
theorem dX7_step_298 : decode cX7_step 298 = .ok (.iconst 1, 1) := by decide +kernel
theorem dX7_step_299 : decode cX7_step 299 = .ok (.iadd, 1) := by decide +kernel
theorem dX7_step_300 : decode cX7_step 300 = .ok (.putfield 123, 3) := by decide +kernel
theorem dX7_step_303 : decode cX7_step 303 = .ok (.goto 12, 3) := by decide +kernel
theorem dX7_step_306 : decode cX7_step 306 = .ok (.aload_n 0, 1) := by decide +kernel
theorem dX7_step_307 : decode cX7_step 307 = .ok (.iconst 1, 1) := by decide +kernel
theorem dX7_step_308 : decode cX7_step 308 = .ok (.aload_n 0, 1) := by decide +kernel
theorem dX7_step_309 : decode cX7_step 309 = .ok (.getfield 123, 3) := by decide +kernel
theorem dX7_step_312 : decode cX7_step 312 = .ok (.invokevirtual 134, 3) := by decide +kernel
theorem dX7_step_315 : decode cX7_step 315 = .ok (.return_, 1) := by decide +kernel
theorem dX7_noMachine_0 : decode cX7_noMachine 0 = .ok (.iload_n 1, 1) := by decide +kernel
theorem dX7_noMachine_1 : decode cX7_noMachine 1 = .ok (.ifCond .lt 9, 3) := by decide +kernel
theorem dX7_noMachine_4 : decode cX7_noMachine 4 = .ok (.iload_n 1, 1) := by decide +kernel
theorem dX7_noMachine_5 : decode cX7_noMachine 5 = .ok (.bipush 7, 2) := by decide +kernel
theorem dX7_noMachine_7 : decode cX7_noMachine 7 = .ok (.if_icmp .le 7, 3) := by decide +kernel
theorem dX7_noMachine_10 : decode cX7_noMachine 10 = .ok (.iconst 1, 1) := by decide +kernel
theorem dX7_noMachine_11 : decode cX7_noMachine 11 = .ok (.goto 4, 3) := by decide +kernel
theorem dX7_noMachine_14 : decode cX7_noMachine 14 = .ok (.iconst 0, 1) := by decide +kernel
theorem dX7_noMachine_15 : decode cX7_noMachine 15 = .ok (.ireturn, 1) := by decide +kernel
theorem dX7_clearNew_0 : decode cX7_clearNew 0 = .ok (.iconst 0, 1) := by decide +kernel
theorem dX7_clearNew_1 : decode cX7_clearNew 1 = .ok (.istore_n 1, 1) := by decide +kernel
theorem dX7_clearNew_2 : decode cX7_clearNew 2 = .ok (.iload_n 1, 1) := by decide +kernel
theorem dX7_clearNew_3 : decode cX7_clearNew 3 = .ok (.sipush 192, 3) := by decide +kernel
theorem dX7_clearNew_6 : decode cX7_clearNew 6 = .ok (.if_icmp .ge 16, 3) := by decide +kernel
theorem dX7_clearNew_9 : decode cX7_clearNew 9 = .ok (.aload_n 0, 1) := by decide +kernel
theorem dX7_clearNew_10 : decode cX7_clearNew 10 = .ok (.getfield 29, 3) := by decide +kernel
theorem dX7_clearNew_13 : decode cX7_clearNew 13 = .ok (.iload_n 1, 1) := by decide +kernel
theorem dX7_clearNew_14 : decode cX7_clearNew 14 = .ok (.iconst 0, 1) := by decide +kernel
theorem dX7_clearNew_15 : decode cX7_clearNew 15 = .ok (.iastore, 1) := by decide +kernel
theorem dX7_clearNew_16 : decode cX7_clearNew 16 = .ok (.iinc 1 1, 3) := by decide +kernel
theorem dX7_clearNew_19 : decode cX7_clearNew 19 = .ok (.goto (-17), 3) := by decide +kernel
theorem dX7_clearNew_22 : decode cX7_clearNew 22 = .ok (.return_, 1) := by decide +kernel
theorem dX7_put_0 : decode cX7_put 0 = .ok (.aload_n 0, 1) := by decide +kernel
theorem dX7_put_1 : decode cX7_put 1 = .ok (.getfield 20, 3) := by decide +kernel
theorem dX7_put_4 : decode cX7_put 4 = .ok (.iload_n 1, 1) := by decide +kernel
theorem dX7_put_5 : decode cX7_put 5 = .ok (.iload_n 2, 1) := by decide +kernel
theorem dX7_put_6 : decode cX7_put 6 = .ok (.iastore, 1) := by decide +kernel
theorem dX7_put_7 : decode cX7_put 7 = .ok (.aload_n 0, 1) := by decide +kernel
theorem dX7_put_8 : decode cX7_put 8 = .ok (.getfield 23, 3) := by decide +kernel
theorem dX7_put_11 : decode cX7_put 11 = .ok (.iload_n 1, 1) := by decide +kernel
theorem dX7_put_12 : decode cX7_put 12 = .ok (.iload_n 3, 1) := by decide +kernel
theorem dX7_put_13 : decode cX7_put 13 = .ok (.iastore, 1) := by decide +kernel
theorem dX7_put_14 : decode cX7_put 14 = .ok (.aload_n 0, 1) := by decide +kernel
theorem dX7_put_15 : decode cX7_put 15 = .ok (.getfield 26, 3) := by decide +kernel
theorem dX7_put_18 : decode cX7_put 18 = .ok (.iload_n 1, 1) := by decide +kernel
theorem dX7_put_19 : decode cX7_put 19 = .ok (.iload 4, 2) := by decide +kernel
theorem dX7_put_21 : decode cX7_put 21 = .ok (.iastore, 1) := by decide +kernel
theorem dX7_put_22 : decode cX7_put 22 = .ok (.iconst 0, 1) := by decide +kernel
theorem dX7_put_23 : decode cX7_put 23 = .ok (.istore 5, 2) := by decide +kernel
theorem dX7_put_25 : decode cX7_put 25 = .ok (.iload 5, 2) := by decide +kernel
theorem dX7_put_27 : decode cX7_put 27 = .ok (.sipush 192, 3) := by decide +kernel
theorem dX7_put_30 : decode cX7_put 30 = .ok (.if_icmp .ge 29, 3) := by decide +kernel
theorem dX7_put_33 : decode cX7_put 33 = .ok (.aload_n 0, 1) := by decide +kernel
theorem dX7_put_34 : decode cX7_put 34 = .ok (.getfield 17, 3) := by decide +kernel
theorem dX7_put_37 : decode cX7_put 37 = .ok (.sipush 192, 3) := by decide +kernel
theorem dX7_put_40 : decode cX7_put 40 = .ok (.iload_n 1, 1) := by decide +kernel
theorem dX7_put_41 : decode cX7_put 41 = .ok (.imul, 1) := by decide +kernel
theorem dX7_put_42 : decode cX7_put 42 = .ok (.iload 5, 2) := by decide +kernel
theorem dX7_put_44 : decode cX7_put 44 = .ok (.iadd, 1) := by decide +kernel
theorem dX7_put_45 : decode cX7_put 45 = .ok (.aload_n 0, 1) := by decide +kernel
theorem dX7_put_46 : decode cX7_put 46 = .ok (.getfield 29, 3) := by decide +kernel
theorem dX7_put_49 : decode cX7_put 49 = .ok (.iload 5, 2) := by decide +kernel
theorem dX7_put_51 : decode cX7_put 51 = .ok (.iaload, 1) := by decide +kernel
theorem dX7_put_52 : decode cX7_put 52 = .ok (.iastore, 1) := by decide +kernel
theorem dX7_put_53 : decode cX7_put 53 = .ok (.iinc 5 1, 3) := by decide +kernel
theorem dX7_put_56 : decode cX7_put 56 = .ok (.goto (-31), 3) := by decide +kernel
theorem dX7_put_59 : decode cX7_put 59 = .ok (.return_, 1) := by decide +kernel
theorem dX7_read_0 : decode cX7_read 0 = .ok (.aload_n 0, 1) := by decide +kernel
theorem dX7_read_1 : decode cX7_read 1 = .ok (.aload_n 0, 1) := by decide +kernel
theorem dX7_read_2 : decode cX7_read 2 = .ok (.iload_n 1, 1) := by decide +kernel
theorem dX7_read_3 : decode cX7_read 3 = .ok (.invokevirtual 164, 3) := by decide +kernel
theorem dX7_read_6 : decode cX7_read 6 = .ok (.ifCond .eq 7, 3) := by decide +kernel
theorem dX7_read_9 : decode cX7_read 9 = .ok (.iconst 1, 1) := by decide +kernel
theorem dX7_read_10 : decode cX7_read 10 = .ok (.goto 4, 3) := by decide +kernel
theorem dX7_read_13 : decode cX7_read 13 = .ok (.iconst 0, 1) := by decide +kernel
theorem dX7_read_14 : decode cX7_read 14 = .ok (.putfield 99, 3) := by decide +kernel
theorem dX7_read_17 : decode cX7_read 17 = .ok (.aload_n 0, 1) := by decide +kernel
theorem dX7_read_18 : decode cX7_read 18 = .ok (.getfield 99, 3) := by decide +kernel
theorem dX7_read_21 : decode cX7_read 21 = .ok (.ifCond .le 5, 3) := by decide +kernel
theorem dX7_read_24 : decode cX7_read 24 = .ok (.iconst 0, 1) := by decide +kernel
theorem dX7_read_25 : decode cX7_read 25 = .ok (.ireturn, 1) := by decide +kernel
theorem dX7_read_26 : decode cX7_read 26 = .ok (.aload_n 0, 1) := by decide +kernel
theorem dX7_read_27 : decode cX7_read 27 = .ok (.iconst 0, 1) := by decide +kernel
theorem dX7_read_28 : decode cX7_read 28 = .ok (.putfield 107, 3) := by decide +kernel
theorem dX7_read_31 : decode cX7_read 31 = .ok (.aload_n 0, 1) := by decide +kernel
theorem dX7_read_32 : decode cX7_read 32 = .ok (.iconst (-1), 1) := by decide +kernel
theorem dX7_read_33 : decode cX7_read 33 = .ok (.putfield 13, 3) := by decide +kernel
theorem dX7_read_36 : decode cX7_read 36 = .ok (.aload_n 0, 1) := by decide +kernel
theorem dX7_read_37 : decode cX7_read 37 = .ok (.iconst 0, 1) := by decide +kernel
theorem dX7_read_38 : decode cX7_read 38 = .ok (.putfield 110, 3) := by decide +kernel
theorem dX7_read_41 : decode cX7_read 41 = .ok (.aload_n 0, 1) := by decide +kernel
theorem dX7_read_42 : decode cX7_read 42 = .ok (.iconst 0, 1) := by decide +kernel
theorem dX7_read_43 : decode cX7_read 43 = .ok (.putfield 123, 3) := by decide +kernel
theorem dX7_read_46 : decode cX7_read 46 = .ok (.aload_n 0, 1) := by decide +kernel
theorem dX7_read_47 : decode cX7_read 47 = .ok (.iconst 0, 1) := by decide +kernel
theorem dX7_read_48 : decode cX7_read 48 = .ok (.putfield 138, 3) := by decide +kernel
theorem dX7_read_51 : decode cX7_read 51 = .ok (.aload_n 0, 1) := by decide +kernel
theorem dX7_read_52 : decode cX7_read 52 = .ok (.getfield 35, 3) := by decide +kernel
theorem dX7_read_55 : decode cX7_read 55 = .ok (.iconst 0, 1) := by decide +kernel
theorem dX7_read_56 : decode cX7_read 56 = .ok (.iconst 0, 1) := by decide +kernel
theorem dX7_read_57 : decode cX7_read 57 = .ok (.iastore, 1) := by decide +kernel
theorem dX7_read_58 : decode cX7_read 58 = .ok (.aload_n 0, 1) := by decide +kernel
theorem dX7_read_59 : decode cX7_read 59 = .ok (.invokevirtual 158, 3) := by decide +kernel
theorem dX7_read_62 : decode cX7_read 62 = .ok (.aload_n 0, 1) := by decide +kernel
theorem dX7_read_63 : decode cX7_read 63 = .ok (.getfield 107, 3) := by decide +kernel
theorem dX7_read_66 : decode cX7_read 66 = .ok (.ifCond .ne 21, 3) := by decide +kernel
theorem dX7_read_69 : decode cX7_read 69 = .ok (.aload_n 0, 1) := by decide +kernel
theorem dX7_read_70 : decode cX7_read 70 = .ok (.getfield 123, 3) := by decide +kernel
theorem dX7_read_73 : decode cX7_read 73 = .ok (.aload_n 0, 1) := by decide +kernel
theorem dX7_read_74 : decode cX7_read 74 = .ok (.getfield 102, 3) := by decide +kernel
theorem dX7_read_77 : decode cX7_read 77 = .ok (.if_icmp .ge 10, 3) := by decide +kernel
