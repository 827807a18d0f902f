theorem dX7_keep_16 : decode cX7_keep 16 = .ok (.iconst 1, 1) := by decide +kernel
theorem dX7_keep_17 : decode cX7_keep 17 = .ok (.iadd, 1) := by decide +kernel
theorem dX7_keep_18 : decode cX7_keep 18 = .ok (.putfield 80, 3) := by decide +kernel
theorem dX7_keep_21 : decode cX7_keep 21 = .ok (.aload_n 0, 1) := by decide +kernel
theorem dX7_keep_22 : decode cX7_keep 22 = .ok (.getfield 68, 3) := by decide +kernel
theorem dX7_keep_25 : decode cX7_keep 25 = .ok (.iload_n 2, 1) := by decide +kernel
theorem dX7_keep_26 : decode cX7_keep 26 = .ok (.iaload, 1) := by decide +kernel
theorem dX7_keep_27 : decode cX7_keep 27 = .ok (.istore_n 2, 1) := by decide +kernel
theorem dX7_keep_28 : decode cX7_keep 28 = .ok (.goto (-21), 3) := by decide +kernel
theorem dX7_keep_31 : decode cX7_keep 31 = .ok (.aload_n 0, 1) := by decide +kernel
theorem dX7_keep_32 : decode cX7_keep 32 = .ok (.getfield 80, 3) := by decide +kernel
theorem dX7_keep_35 : decode cX7_keep 35 = .ok (.istore_n 2, 1) := by decide +kernel
theorem dX7_keep_36 : decode cX7_keep 36 = .ok (.iload_n 1, 1) := by decide +kernel
theorem dX7_keep_37 : decode cX7_keep 37 = .ok (.istore_n 3, 1) := by decide +kernel
theorem dX7_keep_38 : decode cX7_keep 38 = .ok (.iload_n 3, 1) := by decide +kernel
theorem dX7_keep_39 : decode cX7_keep 39 = .ok (.ifCond .le 28, 3) := by decide +kernel
theorem dX7_keep_42 : decode cX7_keep 42 = .ok (.iinc 2 (-1), 3) := by decide +kernel
theorem dX7_keep_45 : decode cX7_keep 45 = .ok (.aload_n 0, 1) := by decide +kernel
theorem dX7_keep_46 : decode cX7_keep 46 = .ok (.getfield 77, 3) := by decide +kernel
theorem dX7_keep_49 : decode cX7_keep 49 = .ok (.iload_n 2, 1) := by decide +kernel
theorem dX7_keep_50 : decode cX7_keep 50 = .ok (.aload_n 0, 1) := by decide +kernel
theorem dX7_keep_51 : decode cX7_keep 51 = .ok (.getfield 71, 3) := by decide +kernel
theorem dX7_keep_54 : decode cX7_keep 54 = .ok (.iload_n 3, 1) := by decide +kernel
theorem dX7_keep_55 : decode cX7_keep 55 = .ok (.iaload, 1) := by decide +kernel
theorem dX7_keep_56 : decode cX7_keep 56 = .ok (.iastore, 1) := by decide +kernel
theorem dX7_keep_57 : decode cX7_keep 57 = .ok (.aload_n 0, 1) := by decide +kernel
theorem dX7_keep_58 : decode cX7_keep 58 = .ok (.getfield 68, 3) := by decide +kernel
theorem dX7_keep_61 : decode cX7_keep 61 = .ok (.iload_n 3, 1) := by decide +kernel
theorem dX7_keep_62 : decode cX7_keep 62 = .ok (.iaload, 1) := by decide +kernel
theorem dX7_keep_63 : decode cX7_keep 63 = .ok (.istore_n 3, 1) := by decide +kernel
theorem dX7_keep_64 : decode cX7_keep 64 = .ok (.goto (-26), 3) := by decide +kernel
theorem dX7_keep_67 : decode cX7_keep 67 = .ok (.return_, 1) := by decide +kernel
theorem dX7_comes_0 : decode cX7_comes 0 = .ok (.aload_n 0, 1) := by decide +kernel
theorem dX7_comes_1 : decode cX7_comes 1 = .ok (.getfield 74, 3) := by decide +kernel
theorem dX7_comes_4 : decode cX7_comes 4 = .ok (.iload 4, 2) := by decide +kernel
theorem dX7_comes_6 : decode cX7_comes 6 = .ok (.iaload, 1) := by decide +kernel
theorem dX7_comes_7 : decode cX7_comes 7 = .ok (.istore 5, 2) := by decide +kernel
theorem dX7_comes_9 : decode cX7_comes 9 = .ok (.iconst 0, 1) := by decide +kernel
theorem dX7_comes_10 : decode cX7_comes 10 = .ok (.istore 6, 2) := by decide +kernel
theorem dX7_comes_12 : decode cX7_comes 12 = .ok (.iload 6, 2) := by decide +kernel
theorem dX7_comes_14 : decode cX7_comes 14 = .ok (.aload_n 0, 1) := by decide +kernel
theorem dX7_comes_15 : decode cX7_comes 15 = .ok (.getfield 20, 3) := by decide +kernel
theorem dX7_comes_18 : decode cX7_comes 18 = .ok (.iload_n 1, 1) := by decide +kernel
theorem dX7_comes_19 : decode cX7_comes 19 = .ok (.iaload, 1) := by decide +kernel
theorem dX7_comes_20 : decode cX7_comes 20 = .ok (.if_icmp .ge 83, 3) := by decide +kernel
theorem dX7_comes_23 : decode cX7_comes 23 = .ok (.iload_n 3, 1) := by decide +kernel
theorem dX7_comes_24 : decode cX7_comes 24 = .ok (.iload 6, 2) := by decide +kernel
theorem dX7_comes_26 : decode cX7_comes 26 = .ok (.ishr, 1) := by decide +kernel
theorem dX7_comes_27 : decode cX7_comes 27 = .ok (.iconst 1, 1) := by decide +kernel
theorem dX7_comes_28 : decode cX7_comes 28 = .ok (.iand, 1) := by decide +kernel
theorem dX7_comes_29 : decode cX7_comes 29 = .ok (.iconst 1, 1) := by decide +kernel
theorem dX7_comes_30 : decode cX7_comes 30 = .ok (.if_icmp .ne 67, 3) := by decide +kernel
theorem dX7_comes_33 : decode cX7_comes 33 = .ok (.aload_n 0, 1) := by decide +kernel
theorem dX7_comes_34 : decode cX7_comes 34 = .ok (.getfield 64, 3) := by decide +kernel
theorem dX7_comes_37 : decode cX7_comes 37 = .ok (.sipush 2048, 3) := by decide +kernel
theorem dX7_comes_40 : decode cX7_comes 40 = .ok (.iload 6, 2) := by decide +kernel
theorem dX7_comes_42 : decode cX7_comes 42 = .ok (.imul, 1) := by decide +kernel
theorem dX7_comes_43 : decode cX7_comes 43 = .ok (.iload 5, 2) := by decide +kernel
theorem dX7_comes_45 : decode cX7_comes 45 = .ok (.iadd, 1) := by decide +kernel
theorem dX7_comes_46 : decode cX7_comes 46 = .ok (.baload, 1) := by decide +kernel
theorem dX7_comes_47 : decode cX7_comes 47 = .ok (.ifCond .ne 50, 3) := by decide +kernel
theorem dX7_comes_50 : decode cX7_comes 50 = .ok (.aload_n 0, 1) := by decide +kernel
theorem dX7_comes_51 : decode cX7_comes 51 = .ok (.getfield 64, 3) := by decide +kernel
theorem dX7_comes_54 : decode cX7_comes 54 = .ok (.sipush 2048, 3) := by decide +kernel
theorem dX7_comes_57 : decode cX7_comes 57 = .ok (.iload 6, 2) := by decide +kernel
theorem dX7_comes_59 : decode cX7_comes 59 = .ok (.imul, 1) := by decide +kernel
theorem dX7_comes_60 : decode cX7_comes 60 = .ok (.iload 5, 2) := by decide +kernel
theorem dX7_comes_62 : decode cX7_comes 62 = .ok (.iadd, 1) := by decide +kernel
theorem dX7_comes_63 : decode cX7_comes 63 = .ok (.iconst 1, 1) := by decide +kernel
theorem dX7_comes_64 : decode cX7_comes 64 = .ok (.bastore, 1) := by decide +kernel
theorem dX7_comes_65 : decode cX7_comes 65 = .ok (.aload_n 0, 1) := by decide +kernel
theorem dX7_comes_66 : decode cX7_comes 66 = .ok (.getfield 58, 3) := by decide +kernel
theorem dX7_comes_69 : decode cX7_comes 69 = .ok (.aload_n 0, 1) := by decide +kernel
theorem dX7_comes_70 : decode cX7_comes 70 = .ok (.getfield 194, 3) := by decide +kernel
theorem dX7_comes_73 : decode cX7_comes 73 = .ok (.iload 6, 2) := by decide +kernel
theorem dX7_comes_75 : decode cX7_comes 75 = .ok (.iastore, 1) := by decide +kernel
theorem dX7_comes_76 : decode cX7_comes 76 = .ok (.aload_n 0, 1) := by decide +kernel
theorem dX7_comes_77 : decode cX7_comes 77 = .ok (.getfield 61, 3) := by decide +kernel
theorem dX7_comes_80 : decode cX7_comes 80 = .ok (.aload_n 0, 1) := by decide +kernel
theorem dX7_comes_81 : decode cX7_comes 81 = .ok (.getfield 194, 3) := by decide +kernel
theorem dX7_comes_84 : decode cX7_comes 84 = .ok (.iload 4, 2) := by decide +kernel
theorem dX7_comes_86 : decode cX7_comes 86 = .ok (.iastore, 1) := by decide +kernel
theorem dX7_comes_87 : decode cX7_comes 87 = .ok (.aload_n 0, 1) := by decide +kernel
theorem dX7_comes_88 : decode cX7_comes 88 = .ok (.dup, 1) := by decide +kernel
theorem dX7_comes_89 : decode cX7_comes 89 = .ok (.getfield 194, 3) := by decide +kernel
theorem dX7_comes_92 : decode cX7_comes 92 = .ok (.iconst 1, 1) := by decide +kernel
theorem dX7_comes_93 : decode cX7_comes 93 = .ok (.iadd, 1) := by decide +kernel
theorem dX7_comes_94 : decode cX7_comes 94 = .ok (.putfield 194, 3) := by decide +kernel
theorem dX7_comes_97 : decode cX7_comes 97 = .ok (.iinc 6 1, 3) := by decide +kernel
theorem dX7_comes_100 : decode cX7_comes 100 = .ok (.goto (-88), 3) := by decide +kernel
theorem dX7_comes_103 : decode cX7_comes 103 = .ok (.iload_n 3, 1) := by decide +kernel
theorem dX7_comes_104 : decode cX7_comes 104 = .ok (.aload_n 0, 1) := by decide +kernel
theorem dX7_comes_105 : decode cX7_comes 105 = .ok (.getfield 26, 3) := by decide +kernel
theorem dX7_comes_108 : decode cX7_comes 108 = .ok (.iload_n 1, 1) := by decide +kernel
theorem dX7_comes_109 : decode cX7_comes 109 = .ok (.iaload, 1) := by decide +kernel
theorem dX7_comes_110 : decode cX7_comes 110 = .ok (.iand, 1) := by decide +kernel
theorem dX7_comes_111 : decode cX7_comes 111 = .ok (.ifCond .eq 19, 3) := by decide +kernel
theorem dX7_comes_114 : decode cX7_comes 114 = .ok (.iload 5, 2) := by decide +kernel
theorem dX7_comes_116 : decode cX7_comes 116 = .ok (.aload_n 0, 1) := by decide +kernel
theorem dX7_comes_117 : decode cX7_comes 117 = .ok (.getfield 26, 3) := by decide +kernel
theorem dX7_comes_120 : decode cX7_comes 120 = .ok (.iload_n 2, 1) := by decide +kernel
theorem dX7_comes_121 : decode cX7_comes 121 = .ok (.iaload, 1) := by decide +kernel
theorem dX7_comes_122 : decode cX7_comes 122 = .ok (.iand, 1) := by decide +kernel
theorem dX7_comes_123 : decode cX7_comes 123 = .ok (.ifCond .ne 7, 3) := by decide +kernel
theorem dX7_comes_126 : decode cX7_comes 126 = .ok (.iconst 1, 1) := by decide +kernel
theorem dX7_comes_127 : decode cX7_comes 127 = .ok (.goto 4, 3) := by decide +kernel
theorem dX7_comes_130 : decode cX7_comes 130 = .ok (.iconst 0, 1) := by decide +kernel
theorem dX7_comes_131 : decode cX7_comes 131 = .ok (.ireturn, 1) := by decide +kernel
theorem dX7_within_0 : decode cX7_within 0 = .ok (.aload_n 0, 1) := by decide +kernel
theorem dX7_within_1 : decode cX7_within 1 = .ok (.aload_n 0, 1) := by decide +kernel
theorem dX7_within_2 : decode cX7_within 2 = .ok (.iload_n 1, 1) := by decide +kernel
theorem dX7_within_3 : decode cX7_within 3 = .ok (.invokevirtual 164, 3) := by decide +kernel
theorem dX7_within_6 : decode cX7_within 6 = .ok (.ifCond .ne 11, 3) := by decide +kernel
theorem dX7_within_9 : decode cX7_within 9 = .ok (.aload_n 0, 1) := by decide +kernel
theorem dX7_within_10 : decode cX7_within 10 = .ok (.iload_n 2, 1) := by decide +kernel
theorem dX7_within_11 : decode cX7_within 11 = .ok (.invokevirtual 164, 3) := by decide +kernel
theorem dX7_within_14 : decode cX7_within 14 = .ok (.ifCond .eq 7, 3) := by decide +kernel
theorem dX7_within_17 : decode cX7_within 17 = .ok (.iconst 1, 1) := by decide +kernel
theorem dX7_within_18 : decode cX7_within 18 = .ok (.goto 19, 3) := by decide +kernel
theorem dX7_within_21 : decode cX7_within 21 = .ok (.aload_n 0, 1) := by decide +kernel
theorem dX7_within_22 : decode cX7_within 22 = .ok (.getfield 20, 3) := by decide +kernel
theorem dX7_within_25 : decode cX7_within 25 = .ok (.iload_n 2, 1) := by decide +kernel
theorem dX7_within_26 : decode cX7_within 26 = .ok (.iaload, 1) := by decide +kernel
theorem dX7_within_27 : decode cX7_within 27 = .ok (.bipush 11, 2) := by decide +kernel
theorem dX7_within_29 : decode cX7_within 29 = .ok (.if_icmp .le 7, 3) := by decide +kernel
theorem dX7_within_32 : decode cX7_within 32 = .ok (.iconst 2, 1) := by decide +kernel
theorem dX7_within_33 : decode cX7_within 33 = .ok (.goto 4, 3) := by decide +kernel
theorem dX7_within_36 : decode cX7_within 36 = .ok (.iconst 0, 1) := by decide +kernel
theorem dX7_within_37 : decode cX7_within 37 = .ok (.putfield 99, 3) := by decide +kernel
theorem dX7_within_40 : decode cX7_within 40 = .ok (.aload_n 0, 1) := by decide +kernel
theorem dX7_within_41 : decode cX7_within 41 = .ok (.getfield 99, 3) := by decide +kernel
theorem dX7_within_44 : decode cX7_within 44 = .ok (.ifCond .le 5, 3) := by decide +kernel
theorem dX7_within_47 : decode cX7_within 47 = .ok (.iconst 0, 1) := by decide +kernel
theorem dX7_within_48 : decode cX7_within 48 = .ok (.ireturn, 1) := by decide +kernel
theorem dX7_within_49 : decode cX7_within 49 = .ok (.iconst 0, 1) := by decide +kernel
theorem dX7_within_50 : decode cX7_within 50 = .ok (.istore_n 3, 1) := by decide +kernel
theorem dX7_within_51 : decode cX7_within 51 = .ok (.iload_n 3, 1) := by decide +kernel
theorem dX7_within_52 : decode cX7_within 52 = .ok (.ldc 57, 2) := by decide +kernel
theorem dX7_within_54 : decode cX7_within 54 = .ok (.if_icmp .ge 16, 3) := by decide +kernel
theorem dX7_within_57 : decode cX7_within 57 = .ok (.aload_n 0, 1) := by decide +kernel
theorem dX7_within_58 : decode cX7_within 58 = .ok (.getfield 64, 3) := by decide +kernel
theorem dX7_within_61 : decode cX7_within 61 = .ok (.iload_n 3, 1) := by decide +kernel
theorem dX7_within_62 : decode cX7_within 62 = .ok (.iconst 0, 1) := by decide +kernel
theorem dX7_within_63 : decode cX7_within 63 = .ok (.bastore, 1) := by decide +kernel
theorem dX7_within_64 : decode cX7_within 64 = .ok (.iinc 3 1, 3) := by decide +kernel
theorem dX7_within_67 : decode cX7_within 67 = .ok (.goto (-16), 3) := by decide +kernel
theorem dX7_within_70 : decode cX7_within 70 = .ok (.aload_n 0, 1) := by decide +kernel
theorem dX7_within_71 : decode cX7_within 71 = .ok (.iconst 0, 1) := by decide +kernel
theorem dX7_within_72 : decode cX7_within 72 = .ok (.putfield 194, 3) := by decide +kernel
theorem dX7_within_75 : decode cX7_within 75 = .ok (.aload_n 0, 1) := by decide +kernel
theorem dX7_within_76 : decode cX7_within 76 = .ok (.iconst 0, 1) := by decide +kernel
theorem dX7_within_77 : decode cX7_within 77 = .ok (.putfield 191, 3) := by decide +kernel
theorem dX7_within_80 : decode cX7_within 80 = .ok (.aload_n 0, 1) := by decide +kernel
theorem dX7_within_81 : decode cX7_within 81 = .ok (.iconst (-1), 1) := by decide +kernel
theorem dX7_within_82 : decode cX7_within 82 = .ok (.putfield 80, 3) := by decide +kernel
theorem dX7_within_85 : decode cX7_within 85 = .ok (.aload_n 0, 1) := by decide +kernel
theorem dX7_within_86 : decode cX7_within 86 = .ok (.iconst (-1), 1) := by decide +kernel
theorem dX7_within_87 : decode cX7_within 87 = .ok (.iconst 0, 1) := by decide +kernel
theorem dX7_within_88 : decode cX7_within 88 = .ok (.aload_n 0, 1) := by decide +kernel
theorem dX7_within_89 : decode cX7_within 89 = .ok (.getfield 23, 3) := by decide +kernel
theorem dX7_within_92 : decode cX7_within 92 = .ok (.iload_n 2, 1) := by decide +kernel
theorem dX7_within_93 : decode cX7_within 93 = .ok (.iaload, 1) := by decide +kernel
theorem dX7_within_94 : decode cX7_within 94 = .ok (.invokevirtual 197, 3) := by decide +kernel
theorem dX7_within_97 : decode cX7_within 97 = .ok (.istore_n 3, 1) := by decide +kernel
theorem dX7_within_98 : decode cX7_within 98 = .ok (.aload_n 0, 1) := by decide +kernel
theorem dX7_within_99 : decode cX7_within 99 = .ok (.iload_n 1, 1) := by decide +kernel
theorem dX7_within_100 : decode cX7_within 100 = .ok (.iload_n 2, 1) := by decide +kernel
theorem dX7_within_101 : decode cX7_within 101 = .ok (.aload_n 0, 1) := by decide +kernel
theorem dX7_within_102 : decode cX7_within 102 = .ok (.getfield 23, 3) := by decide +kernel
theorem dX7_within_105 : decode cX7_within 105 = .ok (.iload_n 1, 1) := by decide +kernel
theorem dX7_within_106 : decode cX7_within 106 = .ok (.iaload, 1) := by decide +kernel
theorem dX7_within_107 : decode cX7_within 107 = .ok (.iload_n 3, 1) := by decide +kernel
theorem dX7_within_108 : decode cX7_within 108 = .ok (.invokevirtual 200, 3) := by decide +kernel
theorem dX7_within_111 : decode cX7_within 111 = .ok (.istore 4, 2) := by decide +kernel
theorem dX7_within_113 : decode cX7_within 113 = .ok (.iconst 0, 1) := by decide +kernel
theorem dX7_within_114 : decode cX7_within 114 = .ok (.istore 5, 2) := by decide +kernel
theorem dX7_within_116 : decode cX7_within 116 = .ok (.iload 4, 2) := by decide +kernel
theorem dX7_within_118 : decode cX7_within 118 = .ok (.ifCond .eq 7, 3) := by decide +kernel
theorem dX7_within_121 : decode cX7_within 121 = .ok (.iload_n 3, 1) := by decide +kernel
theorem dX7_within_122 : decode cX7_within 122 = .ok (.goto 4, 3) := by decide +kernel
theorem dX7_within_125 : decode cX7_within 125 = .ok (.iconst (-1), 1) := by decide +kernel
theorem dX7_within_126 : decode cX7_within 126 = .ok (.istore 6, 2) := by decide +kernel
theorem dX7_within_128 : decode cX7_within 128 = .ok (.iload 6, 2) := by decide +kernel
theorem dX7_within_130 : decode cX7_within 130 = .ok (.ifCond .ge 173, 3) := by decide +kernel
theorem dX7_within_133 : decode cX7_within 133 = .ok (.iload 5, 2) := by decide +kernel
theorem dX7_within_135 : decode cX7_within 135 = .ok (.aload_n 0, 1) := by decide +kernel
theorem dX7_within_136 : decode cX7_within 136 = .ok (.getfield 194, 3) := by decide +kernel
theorem dX7_within_139 : decode cX7_within 139 = .ok (.if_icmp .ge 164, 3) := by decide +kernel
theorem dX7_within_142 : decode cX7_within 142 = .ok (.aload_n 0, 1) := by decide +kernel
theorem dX7_within_143 : decode cX7_within 143 = .ok (.getfield 61, 3) := by decide +kernel
theorem dX7_within_146 : decode cX7_within 146 = .ok (.iload 5, 2) := by decide +kernel
theorem dX7_within_148 : decode cX7_within 148 = .ok (.iaload, 1) := by decide +kernel
theorem dX7_within_149 : decode cX7_within 149 = .ok (.istore 7, 2) := by decide +kernel
theorem dX7_within_151 : decode cX7_within 151 = .ok (.iconst 0, 1) := by decide +kernel
theorem dX7_within_152 : decode cX7_within 152 = .ok (.istore 8, 2) := by decide +kernel
theorem dX7_within_154 : decode cX7_within 154 = .ok (.iload 5, 2) := by decide +kernel
theorem dX7_within_156 : decode cX7_within 156 = .ok (.aload_n 0, 1) := by decide +kernel
theorem dX7_within_157 : decode cX7_within 157 = .ok (.getfield 194, 3) := by decide +kernel
theorem dX7_within_160 : decode cX7_within 160 = .ok (.if_icmp .ge 35, 3) := by decide +kernel
theorem dX7_within_163 : decode cX7_within 163 = .ok (.aload_n 0, 1) := by decide +kernel
theorem dX7_within_164 : decode cX7_within 164 = .ok (.getfield 61, 3) := by decide +kernel
theorem dX7_within_167 : decode cX7_within 167 = .ok (.iload 5, 2) := by decide +kernel
theorem dX7_within_169 : decode cX7_within 169 = .ok (.iaload, 1) := by decide +kernel
theorem dX7_within_170 : decode cX7_within 170 = .ok (.iload 7, 2) := by decide +kernel
theorem dX7_within_172 : decode cX7_within 172 = .ok (.if_icmp .ne 23, 3) := by decide +kernel
theorem dX7_within_175 : decode cX7_within 175 = .ok (.iload 8, 2) := by decide +kernel
theorem dX7_within_177 : decode cX7_within 177 = .ok (.iconst 1, 1) := by decide +kernel
theorem dX7_within_178 : decode cX7_within 178 = .ok (.aload_n 0, 1) := by decide +kernel
theorem dX7_within_179 : decode cX7_within 179 = .ok (.getfield 58, 3) := by decide +kernel
theorem dX7_within_182 : decode cX7_within 182 = .ok (.iload 5, 2) := by decide +kernel
theorem dX7_within_184 : decode cX7_within 184 = .ok (.iaload, 1) := by decide +kernel
theorem dX7_within_185 : decode cX7_within 185 = .ok (.ishl, 1) := by decide +kernel
theorem dX7_within_186 : decode cX7_within 186 = .ok (.ior, 1) := by decide +kernel
theorem dX7_within_187 : decode cX7_within 187 = .ok (.istore 8, 2) := by decide +kernel
theorem dX7_within_189 : decode cX7_within 189 = .ok (.iinc 5 1, 3) := by decide +kernel
theorem dX7_within_192 : decode cX7_within 192 = .ok (.goto (-38), 3) := by decide +kernel
theorem dX7_within_195 : decode cX7_within 195 = .ok (.iconst 0, 1) := by decide +kernel
theorem dX7_within_196 : decode cX7_within 196 = .ok (.istore 9, 2) := by decide +kernel
theorem dX7_within_198 : decode cX7_within 198 = .ok (.iload 9, 2) := by decide +kernel
theorem dX7_within_200 : decode cX7_within 200 = .ok (.bipush 8, 2) := by decide +kernel
theorem dX7_within_202 : decode cX7_within 202 = .ok (.if_icmp .ge 98, 3) := by decide +kernel
theorem dX7_within_205 : decode cX7_within 205 = .ok (.iload 6, 2) := by decide +kernel
theorem dX7_within_207 : decode cX7_within 207 = .ok (.ifCond .ge 93, 3) := by decide +kernel
theorem dX7_within_210 : decode cX7_within 210 = .ok (.aload_n 0, 1) := by decide +kernel
theorem dX7_within_211 : decode cX7_within 211 = .ok (.iload_n 1, 1) := by decide +kernel
theorem dX7_within_212 : decode cX7_within 212 = .ok (.iload 8, 2) := by decide +kernel
theorem dX7_within_214 : decode cX7_within 214 = .ok (.iload 9, 2) := by decide +kernel
theorem dX7_within_216 : decode cX7_within 216 = .ok (.invokevirtual 188, 3) := by decide +kernel
theorem dX7_within_219 : decode cX7_within 219 = .ok (.istore 10, 2) := by decide +kernel
theorem dX7_within_221 : decode cX7_within 221 = .ok (.aload_n 0, 1) := by decide +kernel
theorem dX7_within_222 : decode cX7_within 222 = .ok (.iload_n 2, 1) := by decide +kernel
theorem dX7_within_223 : decode cX7_within 223 = .ok (.aload_n 0, 1) := by decide +kernel
theorem dX7_within_224 : decode cX7_within 224 = .ok (.getfield 74, 3) := by decide +kernel
theorem dX7_within_227 : decode cX7_within 227 = .ok (.iload 7, 2) := by decide +kernel
theorem dX7_within_229 : decode cX7_within 229 = .ok (.iaload, 1) := by decide +kernel
theorem dX7_within_230 : decode cX7_within 230 = .ok (.iload 9, 2) := by decide +kernel
theorem dX7_within_232 : decode cX7_within 232 = .ok (.invokevirtual 188, 3) := by decide +kernel
theorem dX7_within_235 : decode cX7_within 235 = .ok (.istore 11, 2) := by decide +kernel
theorem dX7_within_237 : decode cX7_within 237 = .ok (.aload_n 0, 1) := by decide +kernel
theorem dX7_within_238 : decode cX7_within 238 = .ok (.getfield 194, 3) := by decide +kernel
theorem dX7_within_241 : decode cX7_within 241 = .ok (.istore 12, 2) := by decide +kernel
theorem dX7_within_243 : decode cX7_within 243 = .ok (.aload_n 0, 1) := by decide +kernel
theorem dX7_within_244 : decode cX7_within 244 = .ok (.iload 7, 2) := by decide +kernel
theorem dX7_within_246 : decode cX7_within 246 = .ok (.iload 9, 2) := by decide +kernel
theorem dX7_within_248 : decode cX7_within 248 = .ok (.iload 11, 2) := by decide +kernel
theorem dX7_within_250 : decode cX7_within 250 = .ok (.invokevirtual 197, 3) := by decide +kernel
theorem dX7_within_253 : decode cX7_within 253 = .ok (.istore 13, 2) := by decide +kernel
theorem dX7_within_255 : decode cX7_within 255 = .ok (.aload_n 0, 1) := by decide +kernel
theorem dX7_within_256 : decode cX7_within 256 = .ok (.iload_n 1, 1) := by decide +kernel
theorem dX7_within_257 : decode cX7_within 257 = .ok (.iload_n 2, 1) := by decide +kernel
theorem dX7_within_258 : decode cX7_within 258 = .ok (.iload 10, 2) := by decide +kernel
theorem dX7_within_260 : decode cX7_within 260 = .ok (.iload 13, 2) := by decide +kernel
theorem dX7_within_262 : decode cX7_within 262 = .ok (.invokevirtual 200, 3) := by decide +kernel
theorem dX7_within_265 : decode cX7_within 265 = .ok (.ifCond .eq 10, 3) := by decide +kernel
theorem dX7_within_268 : decode cX7_within 268 = .ok (.iload 13, 2) := by decide +kernel
theorem dX7_within_270 : decode cX7_within 270 = .ok (.istore 6, 2) := by decide +kernel
theorem dX7_within_272 : decode cX7_within 272 = .ok (.goto 22, 3) := by decide +kernel
theorem dX7_within_275 : decode cX7_within 275 = .ok (.aload_n 0, 1) := by decide +kernel
theorem dX7_within_276 : decode cX7_within 276 = .ok (.getfield 194, 3) := by decide +kernel
theorem dX7_within_279 : decode cX7_within 279 = .ok (.iload 12, 2) := by decide +kernel
theorem dX7_within_281 : decode cX7_within 281 = .ok (.if_icmp .ne 13, 3) := by decide +kernel
theorem dX7_within_284 : decode cX7_within 284 = .ok (.aload_n 0, 1) := by decide +kernel
theorem dX7_within_285 : decode cX7_within 285 = .ok (.dup, 1) := by decide +kernel
theorem dX7_within_286 : decode cX7_within 286 = .ok (.getfield 191, 3) := by decide +kernel
theorem dX7_within_289 : decode cX7_within 289 = .ok (.iconst 1, 1) := by decide +kernel
theorem dX7_within_290 : decode cX7_within 290 = .ok (.isub, 1) := by decide +kernel
theorem dX7_within_291 : decode cX7_within 291 = .ok (.putfield 191, 3) := by decide +kernel
theorem dX7_within_294 : decode cX7_within 294 = .ok (.iinc 9 1, 3) := by decide +kernel
theorem dX7_within_297 : decode cX7_within 297 = .ok (.goto (-99), 3) := by decide +kernel
theorem dX7_within_300 : decode cX7_within 300 = .ok (.goto (-172), 3) := by decide +kernel
theorem dX7_within_303 : decode cX7_within 303 = .ok (.iload 6, 2) := by decide +kernel
theorem dX7_within_305 : decode cX7_within 305 = .ok (.ifCond .lt 9, 3) := by decide +kernel
theorem dX7_within_308 : decode cX7_within 308 = .ok (.aload_n 0, 1) := by decide +kernel
theorem dX7_within_309 : decode cX7_within 309 = .ok (.iload 6, 2) := by decide +kernel
theorem dX7_within_311 : decode cX7_within 311 = .ok (.invokevirtual 204, 3) := by decide +kernel
theorem dX7_within_314 : decode cX7_within 314 = .ok (.iload 6, 2) := by decide +kernel
theorem dX7_within_316 : decode cX7_within 316 = .ok (.ifCond .ge 7, 3) := by decide +kernel
theorem dX7_within_319 : decode cX7_within 319 = .ok (.iconst 1, 1) := by decide +kernel
theorem dX7_within_320 : decode cX7_within 320 = .ok (.goto 4, 3) := by decide +kernel
theorem dX7_within_323 : decode cX7_within 323 = .ok (.iconst 0, 1) := by decide +kernel
theorem dX7_within_324 : decode cX7_within 324 = .ok (.ireturn, 1) := by decide +kernel
theorem dX7_length_0 : decode cX7_length 0 = .ok (.aload_n 0, 1) := by decide +kernel
theorem dX7_length_1 : decode cX7_length 1 = .ok (.iconst 0, 1) := by decide +kernel
theorem dX7_length_2 : decode cX7_length 2 = .ok (.putfield 99, 3) := by decide +kernel
theorem dX7_length_5 : decode cX7_length 5 = .ok (.aload_n 0, 1) := by decide +kernel
theorem dX7_length_6 : decode cX7_length 6 = .ok (.getfield 80, 3) := by decide +kernel
theorem dX7_length_9 : decode cX7_length 9 = .ok (.ireturn, 1) := by decide +kernel
theorem dX7_letter_0 : decode cX7_letter 0 = .ok (.aload_n 0, 1) := by decide +kernel
theorem dX7_letter_1 : decode cX7_letter 1 = .ok (.iload_n 1, 1) := by decide +kernel
theorem dX7_letter_2 : decode cX7_letter 2 = .ok (.ifCond .lt 11, 3) := by decide +kernel
theorem dX7_letter_5 : decode cX7_letter 5 = .ok (.iload_n 1, 1) := by decide +kernel
theorem dX7_letter_6 : decode cX7_letter 6 = .ok (.aload_n 0, 1) := by decide +kernel
theorem dX7_letter_7 : decode cX7_letter 7 = .ok (.getfield 80, 3) := by decide +kernel
theorem dX7_letter_10 : decode cX7_letter 10 = .ok (.if_icmp .lt 7, 3) := by decide +kernel
theorem dX7_letter_13 : decode cX7_letter 13 = .ok (.iconst 1, 1) := by decide +kernel
theorem dX7_letter_14 : decode cX7_letter 14 = .ok (.goto 4, 3) := by decide +kernel
theorem dX7_letter_17 : decode cX7_letter 17 = .ok (.iconst 0, 1) := by decide +kernel
theorem dX7_letter_18 : decode cX7_letter 18 = .ok (.putfield 99, 3) := by decide +kernel
theorem dX7_letter_21 : decode cX7_letter 21 = .ok (.aload_n 0, 1) := by decide +kernel
theorem dX7_letter_22 : decode cX7_letter 22 = .ok (.getfield 99, 3) := by decide +kernel
theorem dX7_letter_25 : decode cX7_letter 25 = .ok (.ifCond .le 7, 3) := by decide +kernel
theorem dX7_letter_28 : decode cX7_letter 28 = .ok (.iconst 0, 1) := by decide +kernel
theorem dX7_letter_29 : decode cX7_letter 29 = .ok (.goto 9, 3) := by decide +kernel
theorem dX7_letter_32 : decode cX7_letter 32 = .ok (.aload_n 0, 1) := by decide +kernel
theorem dX7_letter_33 : decode cX7_letter 33 = .ok (.getfield 77, 3) := by decide +kernel
theorem dX7_letter_36 : decode cX7_letter 36 = .ok (.iload_n 1, 1) := by decide +kernel
theorem dX7_letter_37 : decode cX7_letter 37 = .ok (.iaload, 1) := by decide +kernel
theorem dX7_letter_38 : decode cX7_letter 38 = .ok (.ireturn, 1) := by decide +kernel
theorem dX7_isGreat_0 : decode cX7_isGreat 0 = .ok (.aload_n 0, 1) := by decide +kernel
theorem dX7_isGreat_1 : decode cX7_isGreat 1 = .ok (.getfield 20, 3) := by decide +kernel
theorem dX7_isGreat_4 : decode cX7_isGreat 4 = .ok (.iload_n 1, 1) := by decide +kernel
theorem dX7_isGreat_5 : decode cX7_isGreat 5 = .ok (.iaload, 1) := by decide +kernel
theorem dX7_isGreat_6 : decode cX7_isGreat 6 = .ok (.bipush 11, 2) := by decide +kernel
theorem dX7_isGreat_8 : decode cX7_isGreat 8 = .ok (.if_icmp .le 7, 3) := by decide +kernel
theorem dX7_isGreat_11 : decode cX7_isGreat 11 = .ok (.iconst 1, 1) := by decide +kernel
theorem dX7_isGreat_12 : decode cX7_isGreat 12 = .ok (.goto 4, 3) := by decide +kernel
theorem dX7_isGreat_15 : decode cX7_isGreat 15 = .ok (.iconst 0, 1) := by decide +kernel
theorem dX7_isGreat_16 : decode cX7_isGreat 16 = .ok (.ireturn, 1) := by decide +kernel
theorem dX7_words_0 : decode cX7_words 0 = .ok (.aload_n 0, 1) := by decide +kernel
theorem dX7_words_1 : decode cX7_words 1 = .ok (.aload_n 0, 1) := by decide +kernel
theorem dX7_words_2 : decode cX7_words 2 = .ok (.iload_n 1, 1) := by decide +kernel
theorem dX7_words_3 : decode cX7_words 3 = .ok (.invokevirtual 164, 3) := by decide +kernel
theorem dX7_words_6 : decode cX7_words 6 = .ok (.ifCond .eq 7, 3) := by decide +kernel
theorem dX7_words_9 : decode cX7_words 9 = .ok (.iconst 1, 1) := by decide +kernel
theorem dX7_words_10 : decode cX7_words 10 = .ok (.goto 26, 3) := by decide +kernel
theorem dX7_words_13 : decode cX7_words 13 = .ok (.aload_n 0, 1) := by decide +kernel
theorem dX7_words_14 : decode cX7_words 14 = .ok (.iload_n 1, 1) := by decide +kernel
theorem dX7_words_15 : decode cX7_words 15 = .ok (.invokevirtual 207, 3) := by decide +kernel
theorem dX7_words_18 : decode cX7_words 18 = .ok (.ifCond .ne 13, 3) := by decide +kernel
theorem dX7_words_21 : decode cX7_words 21 = .ok (.iload_n 2, 1) := by decide +kernel
theorem dX7_words_22 : decode cX7_words 22 = .ok (.ifCond .lt 9, 3) := by decide +kernel
theorem dX7_words_25 : decode cX7_words 25 = .ok (.iload_n 2, 1) := by decide +kernel
theorem dX7_words_26 : decode cX7_words 26 = .ok (.bipush 20, 2) := by decide +kernel
theorem dX7_words_28 : decode cX7_words 28 = .ok (.if_icmp .le 7, 3) := by decide +kernel
theorem dX7_words_31 : decode cX7_words 31 = .ok (.iconst 2, 1) := by decide +kernel
theorem dX7_words_32 : decode cX7_words 32 = .ok (.goto 4, 3) := by decide +kernel
theorem dX7_words_35 : decode cX7_words 35 = .ok (.iconst 0, 1) := by decide +kernel
theorem dX7_words_36 : decode cX7_words 36 = .ok (.putfield 99, 3) := by decide +kernel
theorem dX7_words_39 : decode cX7_words 39 = .ok (.aload_n 0, 1) := by decide +kernel
theorem dX7_words_40 : decode cX7_words 40 = .ok (.getfield 99, 3) := by decide +kernel
theorem dX7_words_43 : decode cX7_words 43 = .ok (.ifCond .le 5, 3) := by decide +kernel
theorem dX7_words_46 : decode cX7_words 46 = .ok (.lconst 0, 1) := by decide +kernel
theorem dX7_words_47 : decode cX7_words 47 = .ok (.lreturn, 1) := by decide +kernel
theorem dX7_words_48 : decode cX7_words 48 = .ok (.iconst 0, 1) := by decide +kernel
theorem dX7_words_49 : decode cX7_words 49 = .ok (.istore_n 3, 1) := by decide +kernel
theorem dX7_words_50 : decode cX7_words 50 = .ok (.iload_n 3, 1) := by decide +kernel
theorem dX7_words_51 : decode cX7_words 51 = .ok (.sipush 2048, 3) := by decide +kernel
theorem dX7_words_54 : decode cX7_words 54 = .ok (.if_icmp .ge 30, 3) := by decide +kernel
theorem dX7_words_57 : decode cX7_words 57 = .ok (.aload_n 0, 1) := by decide +kernel
theorem dX7_words_58 : decode cX7_words 58 = .ok (.getfield 83, 3) := by decide +kernel
theorem dX7_words_61 : decode cX7_words 61 = .ok (.iload_n 3, 1) := by decide +kernel
theorem dX7_words_62 : decode cX7_words 62 = .ok (.iload_n 3, 1) := by decide +kernel
theorem dX7_words_63 : decode cX7_words 63 = .ok (.aload_n 0, 1) := by decide +kernel
theorem dX7_words_64 : decode cX7_words 64 = .ok (.getfield 23, 3) := by decide +kernel
theorem dX7_words_67 : decode cX7_words 67 = .ok (.iload_n 1, 1) := by decide +kernel
theorem dX7_words_68 : decode cX7_words 68 = .ok (.iaload, 1) := by decide +kernel
theorem dX7_words_69 : decode cX7_words 69 = .ok (.if_icmp .ne 7, 3) := by decide +kernel
theorem dX7_words_72 : decode cX7_words 72 = .ok (.lconst 1, 1) := by decide +kernel
theorem dX7_words_73 : decode cX7_words 73 = .ok (.goto 4, 3) := by decide +kernel
theorem dX7_words_76 : decode cX7_words 76 = .ok (.lconst 0, 1) := by decide +kernel
theorem dX7_words_77 : decode cX7_words 77 = .ok (.lastore, 1) := by decide +kernel
theorem dX7_words_78 : decode cX7_words 78 = .ok (.iinc 3 1, 3) := by decide +kernel
theorem dX7_words_81 : decode cX7_words 81 = .ok (.goto (-31), 3) := by decide +kernel
theorem dX7_words_84 : decode cX7_words 84 = .ok (.iconst 0, 1) := by decide +kernel
theorem dX7_words_85 : decode cX7_words 85 = .ok (.istore_n 3, 1) := by decide +kernel
theorem dX7_words_86 : decode cX7_words 86 = .ok (.iload_n 3, 1) := by decide +kernel
theorem dX7_words_87 : decode cX7_words 87 = .ok (.iload_n 2, 1) := by decide +kernel
theorem dX7_words_88 : decode cX7_words 88 = .ok (.if_icmp .ge 143, 3) := by decide +kernel
theorem dX7_words_91 : decode cX7_words 91 = .ok (.iconst 0, 1) := by decide +kernel
theorem dX7_words_92 : decode cX7_words 92 = .ok (.istore 4, 2) := by decide +kernel
theorem dX7_words_94 : decode cX7_words 94 = .ok (.iload 4, 2) := by decide +kernel
theorem dX7_words_96 : decode cX7_words 96 = .ok (.sipush 2048, 3) := by decide +kernel
theorem dX7_words_99 : decode cX7_words 99 = .ok (.if_icmp .ge 17, 3) := by decide +kernel
theorem dX7_words_102 : decode cX7_words 102 = .ok (.aload_n 0, 1) := by decide +kernel
theorem dX7_words_103 : decode cX7_words 103 = .ok (.getfield 87, 3) := by decide +kernel
theorem dX7_words_106 : decode cX7_words 106 = .ok (.iload 4, 2) := by decide +kernel
theorem dX7_words_108 : decode cX7_words 108 = .ok (.lconst 0, 1) := by decide +kernel
theorem dX7_words_109 : decode cX7_words 109 = .ok (.lastore, 1) := by decide +kernel
theorem dX7_words_110 : decode cX7_words 110 = .ok (.iinc 4 1, 3) := by decide +kernel
theorem dX7_words_113 : decode cX7_words 113 = .ok (.goto (-19), 3) := by decide +kernel
theorem dX7_words_116 : decode cX7_words 116 = .ok (.iconst 0, 1) := by decide +kernel
theorem dX7_words_117 : decode cX7_words 117 = .ok (.istore 4, 2) := by decide +kernel
theorem dX7_words_119 : decode cX7_words 119 = .ok (.iload 4, 2) := by decide +kernel
theorem dX7_words_121 : decode cX7_words 121 = .ok (.sipush 2048, 3) := by decide +kernel
theorem dX7_words_124 : decode cX7_words 124 = .ok (.if_icmp .ge 70, 3) := by decide +kernel
theorem dX7_words_127 : decode cX7_words 127 = .ok (.iconst 0, 1) := by decide +kernel
theorem dX7_words_128 : decode cX7_words 128 = .ok (.istore 5, 2) := by decide +kernel
theorem dX7_words_130 : decode cX7_words 130 = .ok (.iload 5, 2) := by decide +kernel
theorem dX7_words_132 : decode cX7_words 132 = .ok (.bipush 8, 2) := by decide +kernel
theorem dX7_words_134 : decode cX7_words 134 = .ok (.if_icmp .ge 54, 3) := by decide +kernel
theorem dX7_words_137 : decode cX7_words 137 = .ok (.aload_n 0, 1) := by decide +kernel
theorem dX7_words_138 : decode cX7_words 138 = .ok (.getfield 83, 3) := by decide +kernel
theorem dX7_words_141 : decode cX7_words 141 = .ok (.iload 4, 2) := by decide +kernel
theorem dX7_words_143 : decode cX7_words 143 = .ok (.laload, 1) := by decide +kernel
theorem dX7_words_144 : decode cX7_words 144 = .ok (.lconst 0, 1) := by decide +kernel
theorem dX7_words_145 : decode cX7_words 145 = .ok (.lcmp, 1) := by decide +kernel
theorem dX7_words_146 : decode cX7_words 146 = .ok (.ifCond .le 42, 3) := by decide +kernel
theorem dX7_words_149 : decode cX7_words 149 = .ok (.aload_n 0, 1) := by decide +kernel
theorem dX7_words_150 : decode cX7_words 150 = .ok (.iload_n 1, 1) := by decide +kernel
theorem dX7_words_151 : decode cX7_words 151 = .ok (.iload 4, 2) := by decide +kernel
theorem dX7_words_153 : decode cX7_words 153 = .ok (.iload 5, 2) := by decide +kernel
theorem dX7_words_155 : decode cX7_words 155 = .ok (.invokevirtual 188, 3) := by decide +kernel
theorem dX7_words_158 : decode cX7_words 158 = .ok (.istore 6, 2) := by decide +kernel
theorem dX7_words_160 : decode cX7_words 160 = .ok (.aload_n 0, 1) := by decide +kernel
theorem dX7_words_161 : decode cX7_words 161 = .ok (.getfield 87, 3) := by decide +kernel
theorem dX7_words_164 : decode cX7_words 164 = .ok (.iload 6, 2) := by decide +kernel
theorem dX7_words_166 : decode cX7_words 166 = .ok (.aload_n 0, 1) := by decide +kernel
theorem dX7_words_167 : decode cX7_words 167 = .ok (.getfield 87, 3) := by decide +kernel
theorem dX7_words_170 : decode cX7_words 170 = .ok (.iload 6, 2) := by decide +kernel
theorem dX7_words_172 : decode cX7_words 172 = .ok (.laload, 1) := by decide +kernel
theorem dX7_words_173 : decode cX7_words 173 = .ok (.aload_n 0, 1) := by decide +kernel
theorem dX7_words_174 : decode cX7_words 174 = .ok (.getfield 83, 3) := by decide +kernel
theorem dX7_words_177 : decode cX7_words 177 = .ok (.iload 4, 2) := by decide +kernel
theorem dX7_words_179 : decode cX7_words 179 = .ok (.laload, 1) := by decide +kernel
theorem dX7_words_180 : decode cX7_words 180 = .ok (.ladd, 1) := by decide +kernel
theorem dX7_words_181 : decode cX7_words 181 = .ok (.lastore, 1) := by decide +kernel
theorem dX7_words_182 : decode cX7_words 182 = .ok (.iinc 5 1, 3) := by decide +kernel
theorem dX7_words_185 : decode cX7_words 185 = .ok (.goto (-55), 3) := by decide +kernel
theorem dX7_words_188 : decode cX7_words 188 = .ok (.iinc 4 1, 3) := by decide +kernel
theorem dX7_words_191 : decode cX7_words 191 = .ok (.goto (-72), 3) := by decide +kernel
theorem dX7_words_194 : decode cX7_words 194 = .ok (.iconst 0, 1) := by decide +kernel
theorem dX7_words_195 : decode cX7_words 195 = .ok (.istore 4, 2) := by decide +kernel
theorem dX7_words_197 : decode cX7_words 197 = .ok (.iload 4, 2) := by decide +kernel
theorem dX7_words_199 : decode cX7_words 199 = .ok (.sipush 2048, 3) := by decide +kernel
theorem dX7_words_202 : decode cX7_words 202 = .ok (.if_icmp .ge 23, 3) := by decide +kernel
theorem dX7_words_205 : decode cX7_words 205 = .ok (.aload_n 0, 1) := by decide +kernel
theorem dX7_words_206 : decode cX7_words 206 = .ok (.getfield 83, 3) := by decide +kernel
theorem dX7_words_209 : decode cX7_words 209 = .ok (.iload 4, 2) := by decide +kernel
theorem dX7_words_211 : decode cX7_words 211 = .ok (.aload_n 0, 1) := by decide +kernel
theorem dX7_words_212 : decode cX7_words 212 = .ok (.getfield 87, 3) := by decide +kernel
theorem dX7_words_215 : decode cX7_words 215 = .ok (.iload 4, 2) := by decide +kernel
theorem dX7_words_217 : decode cX7_words 217 = .ok (.laload, 1) := by decide +kernel
theorem dX7_words_218 : decode cX7_words 218 = .ok (.lastore, 1) := by decide +kernel
theorem dX7_words_219 : decode cX7_words 219 = .ok (.iinc 4 1, 3) := by decide +kernel
theorem dX7_words_222 : decode cX7_words 222 = .ok (.goto (-25), 3) := by decide +kernel
theorem dX7_words_225 : decode cX7_words 225 = .ok (.iinc 3 1, 3) := by decide +kernel
theorem dX7_words_228 : decode cX7_words 228 = .ok (.goto (-142), 3) := by decide +kernel
theorem dX7_words_231 : decode cX7_words 231 = .ok (.lconst 0, 1) := by decide +kernel
theorem dX7_words_232 : decode cX7_words 232 = .ok (.lstore_n 3, 1) := by decide +kernel
theorem dX7_words_233 : decode cX7_words 233 = .ok (.iconst 0, 1) := by decide +kernel
theorem dX7_words_234 : decode cX7_words 234 = .ok (.istore 5, 2) := by decide +kernel
theorem dX7_words_236 : decode cX7_words 236 = .ok (.iload 5, 2) := by decide +kernel
theorem dX7_words_238 : decode cX7_words 238 = .ok (.sipush 2048, 3) := by decide +kernel
theorem dX7_words_241 : decode cX7_words 241 = .ok (.if_icmp .ge 35, 3) := by decide +kernel
theorem dX7_words_244 : decode cX7_words 244 = .ok (.iload 5, 2) := by decide +kernel
theorem dX7_words_246 : decode cX7_words 246 = .ok (.aload_n 0, 1) := by decide +kernel
theorem dX7_words_247 : decode cX7_words 247 = .ok (.getfield 26, 3) := by decide +kernel
theorem dX7_words_250 : decode cX7_words 250 = .ok (.iload_n 1, 1) := by decide +kernel
theorem dX7_words_251 : decode cX7_words 251 = .ok (.iaload, 1) := by decide +kernel
theorem dX7_words_252 : decode cX7_words 252 = .ok (.iand, 1) := by decide +kernel
theorem dX7_words_253 : decode cX7_words 253 = .ok (.ifCond .eq 15, 3) := by decide +kernel
theorem dX7_words_256 : decode cX7_words 256 = .ok (.lload_n 3, 1) := by decide +kernel
theorem dX7_words_257 : decode cX7_words 257 = .ok (.aload_n 0, 1) := by decide +kernel
theorem dX7_words_258 : decode cX7_words 258 = .ok (.getfield 83, 3) := by decide +kernel
theorem dX7_words_261 : decode cX7_words 261 = .ok (.iload 5, 2) := by decide +kernel
theorem dX7_words_263 : decode cX7_words 263 = .ok (.laload, 1) := by decide +kernel
theorem dX7_words_264 : decode cX7_words 264 = .ok (.ladd, 1) := by decide +kernel
theorem dX7_words_265 : decode cX7_words 265 = .ok (.goto 4, 3) := by decide +kernel
theorem dX7_words_268 : decode cX7_words 268 = .ok (.lload_n 3, 1) := by decide +kernel
theorem dX7_words_269 : decode cX7_words 269 = .ok (.lstore_n 3, 1) := by decide +kernel
theorem dX7_words_270 : decode cX7_words 270 = .ok (.iinc 5 1, 3) := by decide +kernel
theorem dX7_words_273 : decode cX7_words 273 = .ok (.goto (-37), 3) := by decide +kernel
theorem dX7_words_276 : decode cX7_words 276 = .ok (.lload_n 3, 1) := by decide +kernel
theorem dX7_words_277 : decode cX7_words 277 = .ok (.lreturn, 1) := by decide +kernel
theorem dX7_visit_0 : decode cX7_visit 0 = .ok (.aload_n 0, 1) := by decide +kernel
theorem dX7_visit_1 : decode cX7_visit 1 = .ok (.getfield 96, 3) := by decide +kernel
theorem dX7_visit_4 : decode cX7_visit 4 = .ok (.iload_n 3, 1) := by decide +kernel
theorem dX7_visit_5 : decode cX7_visit 5 = .ok (.baload, 1) := by decide +kernel
theorem dX7_visit_6 : decode cX7_visit 6 = .ok (.ifCond .eq 5, 3) := by decide +kernel
theorem dX7_visit_9 : decode cX7_visit 9 = .ok (.iload_n 2, 1) := by decide +kernel
theorem dX7_visit_10 : decode cX7_visit 10 = .ok (.ireturn, 1) := by decide +kernel
theorem dX7_visit_11 : decode cX7_visit 11 = .ok (.aload_n 0, 1) := by decide +kernel
theorem dX7_visit_12 : decode cX7_visit 12 = .ok (.getfield 96, 3) := by decide +kernel
theorem dX7_visit_15 : decode cX7_visit 15 = .ok (.iload_n 3, 1) := by decide +kernel
theorem dX7_visit_16 : decode cX7_visit 16 = .ok (.iconst 1, 1) := by decide +kernel
theorem dX7_visit_17 : decode cX7_visit 17 = .ok (.bastore, 1) := by decide +kernel
theorem dX7_visit_18 : decode cX7_visit 18 = .ok (.aload_n 1, 1) := by decide +kernel
theorem dX7_visit_19 : decode cX7_visit 19 = .ok (.iload_n 2, 1) := by decide +kernel
theorem dX7_visit_20 : decode cX7_visit 20 = .ok (.iload_n 3, 1) := by decide +kernel
theorem dX7_visit_21 : decode cX7_visit 21 = .ok (.iastore, 1) := by decide +kernel
theorem dX7_visit_22 : decode cX7_visit 22 = .ok (.iload_n 2, 1) := by decide +kernel
theorem dX7_visit_23 : decode cX7_visit 23 = .ok (.iconst 1, 1) := by decide +kernel
theorem dX7_visit_24 : decode cX7_visit 24 = .ok (.iadd, 1) := by decide +kernel
theorem dX7_visit_25 : decode cX7_visit 25 = .ok (.ireturn, 1) := by decide +kernel
theorem dX7_unmark_0 : decode cX7_unmark 0 = .ok (.iconst 0, 1) := by decide +kernel
theorem dX7_unmark_1 : decode cX7_unmark 1 = .ok (.istore_n 1, 1) := by decide +kernel
theorem dX7_unmark_2 : decode cX7_unmark 2 = .ok (.iload_n 1, 1) := by decide +kernel
theorem dX7_unmark_3 : decode cX7_unmark 3 = .ok (.sipush 2048, 3) := by decide +kernel
theorem dX7_unmark_6 : decode cX7_unmark 6 = .ok (.if_icmp .ge 16, 3) := by decide +kernel
theorem dX7_unmark_9 : decode cX7_unmark 9 = .ok (.aload_n 0, 1) := by decide +kernel
theorem dX7_unmark_10 : decode cX7_unmark 10 = .ok (.getfield 96, 3) := by decide +kernel
theorem dX7_unmark_13 : decode cX7_unmark 13 = .ok (.iload_n 1, 1) := by decide +kernel
theorem dX7_unmark_14 : decode cX7_unmark 14 = .ok (.iconst 0, 1) := by decide +kernel
theorem dX7_unmark_15 : decode cX7_unmark 15 = .ok (.bastore, 1) := by decide +kernel
theorem dX7_unmark_16 : decode cX7_unmark 16 = .ok (.iinc 1 1, 3) := by decide +kernel
theorem dX7_unmark_19 : decode cX7_unmark 19 = .ok (.goto (-17), 3) := by decide +kernel
theorem dX7_unmark_22 : decode cX7_unmark 22 = .ok (.return_, 1) := by decide +kernel
theorem dX7_findSets_0 : decode cX7_findSets 0 = .ok (.aload_n 0, 1) := by decide +kernel
theorem dX7_findSets_1 : decode cX7_findSets 1 = .ok (.invokevirtual 210, 3) := by decide +kernel
theorem dX7_findSets_4 : decode cX7_findSets 4 = .ok (.aload_n 0, 1) := by decide +kernel
theorem dX7_findSets_5 : decode cX7_findSets 5 = .ok (.aload_n 0, 1) := by decide +kernel
theorem dX7_findSets_6 : decode cX7_findSets 6 = .ok (.getfield 90, 3) := by decide +kernel
theorem dX7_findSets_9 : decode cX7_findSets 9 = .ok (.iconst 0, 1) := by decide +kernel
theorem dX7_findSets_10 : decode cX7_findSets 10 = .ok (.aload_n 0, 1) := by decide +kernel
theorem dX7_findSets_11 : decode cX7_findSets 11 = .ok (.getfield 23, 3) := by decide +kernel
theorem dX7_findSets_14 : decode cX7_findSets 14 = .ok (.iload_n 1, 1) := by decide +kernel
theorem dX7_findSets_15 : decode cX7_findSets 15 = .ok (.iaload, 1) := by decide +kernel
theorem dX7_findSets_16 : decode cX7_findSets 16 = .ok (.invokevirtual 213, 3) := by decide +kernel
theorem dX7_findSets_19 : decode cX7_findSets 19 = .ok (.istore_n 2, 1) := by decide +kernel
theorem dX7_findSets_20 : decode cX7_findSets 20 = .ok (.iconst 0, 1) := by decide +kernel
theorem dX7_findSets_21 : decode cX7_findSets 21 = .ok (.istore_n 3, 1) := by decide +kernel
theorem dX7_findSets_22 : decode cX7_findSets 22 = .ok (.iload_n 3, 1) := by decide +kernel
theorem dX7_findSets_23 : decode cX7_findSets 23 = .ok (.iload_n 2, 1) := by decide +kernel
theorem dX7_findSets_24 : decode cX7_findSets 24 = .ok (.if_icmp .ge 48, 3) := by decide +kernel
theorem dX7_findSets_27 : decode cX7_findSets 27 = .ok (.iconst 0, 1) := by decide +kernel
theorem dX7_findSets_28 : decode cX7_findSets 28 = .ok (.istore 4, 2) := by decide +kernel
theorem dX7_findSets_30 : decode cX7_findSets 30 = .ok (.iload 4, 2) := by decide +kernel
theorem dX7_findSets_32 : decode cX7_findSets 32 = .ok (.bipush 8, 2) := by decide +kernel
theorem dX7_findSets_34 : decode cX7_findSets 34 = .ok (.if_icmp .ge 32, 3) := by decide +kernel
theorem dX7_findSets_37 : decode cX7_findSets 37 = .ok (.aload_n 0, 1) := by decide +kernel
theorem dX7_findSets_38 : decode cX7_findSets 38 = .ok (.aload_n 0, 1) := by decide +kernel
theorem dX7_findSets_39 : decode cX7_findSets 39 = .ok (.getfield 90, 3) := by decide +kernel
theorem dX7_findSets_42 : decode cX7_findSets 42 = .ok (.iload_n 2, 1) := by decide +kernel
theorem dX7_findSets_43 : decode cX7_findSets 43 = .ok (.aload_n 0, 1) := by decide +kernel
theorem dX7_findSets_44 : decode cX7_findSets 44 = .ok (.iload_n 1, 1) := by decide +kernel
theorem dX7_findSets_45 : decode cX7_findSets 45 = .ok (.aload_n 0, 1) := by decide +kernel
theorem dX7_findSets_46 : decode cX7_findSets 46 = .ok (.getfield 90, 3) := by decide +kernel
theorem dX7_findSets_49 : decode cX7_findSets 49 = .ok (.iload_n 3, 1) := by decide +kernel
theorem dX7_findSets_50 : decode cX7_findSets 50 = .ok (.iaload, 1) := by decide +kernel
theorem dX7_findSets_51 : decode cX7_findSets 51 = .ok (.iload 4, 2) := by decide +kernel
theorem dX7_findSets_53 : decode cX7_findSets 53 = .ok (.invokevirtual 188, 3) := by decide +kernel
theorem dX7_findSets_56 : decode cX7_findSets 56 = .ok (.invokevirtual 213, 3) := by decide +kernel
theorem dX7_findSets_59 : decode cX7_findSets 59 = .ok (.istore_n 2, 1) := by decide +kernel
theorem dX7_findSets_60 : decode cX7_findSets 60 = .ok (.iinc 4 1, 3) := by decide +kernel
theorem dX7_findSets_63 : decode cX7_findSets 63 = .ok (.goto (-33), 3) := by decide +kernel
theorem dX7_findSets_66 : decode cX7_findSets 66 = .ok (.iinc 3 1, 3) := by decide +kernel
theorem dX7_findSets_69 : decode cX7_findSets 69 = .ok (.goto (-47), 3) := by decide +kernel
theorem dX7_findSets_72 : decode cX7_findSets 72 = .ok (.iload_n 2, 1) := by decide +kernel
theorem dX7_findSets_73 : decode cX7_findSets 73 = .ok (.ireturn, 1) := by decide +kernel
theorem dX7_before_0 : decode cX7_before 0 = .ok (.iconst 0, 1) := by decide +kernel
theorem dX7_before_1 : decode cX7_before 1 = .ok (.istore 4, 2) := by decide +kernel
theorem dX7_before_3 : decode cX7_before 3 = .ok (.iconst 0, 1) := by decide +kernel
theorem dX7_before_4 : decode cX7_before 4 = .ok (.istore 5, 2) := by decide +kernel
theorem dX7_before_6 : decode cX7_before 6 = .ok (.iload 5, 2) := by decide +kernel
theorem dX7_before_8 : decode cX7_before 8 = .ok (.aload_n 0, 1) := by decide +kernel
theorem dX7_before_9 : decode cX7_before 9 = .ok (.getfield 20, 3) := by decide +kernel
theorem dX7_before_12 : decode cX7_before 12 = .ok (.iload_n 1, 1) := by decide +kernel
theorem dX7_before_13 : decode cX7_before 13 = .ok (.iaload, 1) := by decide +kernel
theorem dX7_before_14 : decode cX7_before 14 = .ok (.if_icmp .ge 36, 3) := by decide +kernel
theorem dX7_before_17 : decode cX7_before 17 = .ok (.aload_n 0, 1) := by decide +kernel
theorem dX7_before_18 : decode cX7_before 18 = .ok (.iload_n 1, 1) := by decide +kernel
theorem dX7_before_19 : decode cX7_before 19 = .ok (.iload 5, 2) := by decide +kernel
theorem dX7_before_21 : decode cX7_before 21 = .ok (.iload_n 3, 1) := by decide +kernel
theorem dX7_before_22 : decode cX7_before 22 = .ok (.invokevirtual 181, 3) := by decide +kernel
theorem dX7_before_25 : decode cX7_before 25 = .ok (.iload_n 2, 1) := by decide +kernel
theorem dX7_before_26 : decode cX7_before 26 = .ok (.iand, 1) := by decide +kernel
theorem dX7_before_27 : decode cX7_before 27 = .ok (.ifCond .eq 13, 3) := by decide +kernel
theorem dX7_before_30 : decode cX7_before 30 = .ok (.iload 4, 2) := by decide +kernel
theorem dX7_before_32 : decode cX7_before 32 = .ok (.iconst 1, 1) := by decide +kernel
theorem dX7_before_33 : decode cX7_before 33 = .ok (.iload 5, 2) := by decide +kernel
theorem dX7_before_35 : decode cX7_before 35 = .ok (.ishl, 1) := by decide +kernel
theorem dX7_before_36 : decode cX7_before 36 = .ok (.ior, 1) := by decide +kernel
theorem dX7_before_37 : decode cX7_before 37 = .ok (.goto 5, 3) := by decide +kernel
theorem dX7_before_40 : decode cX7_before 40 = .ok (.iload 4, 2) := by decide +kernel
theorem dX7_before_42 : decode cX7_before 42 = .ok (.istore 4, 2) := by decide +kernel
theorem dX7_before_44 : decode cX7_before 44 = .ok (.iinc 5 1, 3) := by decide +kernel
theorem dX7_before_47 : decode cX7_before 47 = .ok (.goto (-41), 3) := by decide +kernel
theorem dX7_before_50 : decode cX7_before 50 = .ok (.iload 4, 2) := by decide +kernel
theorem dX7_before_52 : decode cX7_before 52 = .ok (.ireturn, 1) := by decide +kernel
theorem dX7_sets_0 : decode cX7_sets 0 = .ok (.aload_n 0, 1) := by decide +kernel
theorem dX7_sets_1 : decode cX7_sets 1 = .ok (.aload_n 0, 1) := by decide +kernel
theorem dX7_sets_2 : decode cX7_sets 2 = .ok (.iload_n 1, 1) := by decide +kernel
theorem dX7_sets_3 : decode cX7_sets 3 = .ok (.invokevirtual 164, 3) := by decide +kernel
theorem dX7_sets_6 : decode cX7_sets 6 = .ok (.ifCond .eq 7, 3) := by decide +kernel
theorem dX7_sets_9 : decode cX7_sets 9 = .ok (.iconst 1, 1) := by decide +kernel
theorem dX7_sets_10 : decode cX7_sets 10 = .ok (.goto 16, 3) := by decide +kernel
theorem dX7_sets_13 : decode cX7_sets 13 = .ok (.aload_n 0, 1) := by decide +kernel
theorem dX7_sets_14 : decode cX7_sets 14 = .ok (.iload_n 1, 1) := by decide +kernel
theorem dX7_sets_15 : decode cX7_sets 15 = .ok (.invokevirtual 207, 3) := by decide +kernel
theorem dX7_sets_18 : decode cX7_sets 18 = .ok (.ifCond .eq 7, 3) := by decide +kernel
theorem dX7_sets_21 : decode cX7_sets 21 = .ok (.iconst 2, 1) := by decide +kernel
theorem dX7_sets_22 : decode cX7_sets 22 = .ok (.goto 4, 3) := by decide +kernel
theorem dX7_sets_25 : decode cX7_sets 25 = .ok (.iconst 0, 1) := by decide +kernel
theorem dX7_sets_26 : decode cX7_sets 26 = .ok (.putfield 99, 3) := by decide +kernel
theorem dX7_sets_29 : decode cX7_sets 29 = .ok (.aload_n 0, 1) := by decide +kernel
theorem dX7_sets_30 : decode cX7_sets 30 = .ok (.getfield 99, 3) := by decide +kernel
theorem dX7_sets_33 : decode cX7_sets 33 = .ok (.ifCond .le 7, 3) := by decide +kernel
theorem dX7_sets_36 : decode cX7_sets 36 = .ok (.iconst 0, 1) := by decide +kernel
theorem dX7_sets_37 : decode cX7_sets 37 = .ok (.goto 8, 3) := by decide +kernel
theorem dX7_sets_40 : decode cX7_sets 40 = .ok (.aload_n 0, 1) := by decide +kernel
theorem dX7_sets_41 : decode cX7_sets 41 = .ok (.iload_n 1, 1) := by decide +kernel
theorem dX7_sets_42 : decode cX7_sets 42 = .ok (.invokevirtual 217, 3) := by decide +kernel
theorem dX7_sets_45 : decode cX7_sets 45 = .ok (.ireturn, 1) := by decide +kernel
theorem dX7_rests_0 : decode cX7_rests 0 = .ok (.aload_n 0, 1) := by decide +kernel
theorem dX7_rests_1 : decode cX7_rests 1 = .ok (.aload_n 0, 1) := by decide +kernel
theorem dX7_rests_2 : decode cX7_rests 2 = .ok (.iload_n 1, 1) := by decide +kernel
theorem dX7_rests_3 : decode cX7_rests 3 = .ok (.invokevirtual 164, 3) := by decide +kernel
theorem dX7_rests_6 : decode cX7_rests 6 = .ok (.ifCond .eq 7, 3) := by decide +kernel
theorem dX7_rests_9 : decode cX7_rests 9 = .ok (.iconst 1, 1) := by decide +kernel
theorem dX7_rests_10 : decode cX7_rests 10 = .ok (.goto 16, 3) := by decide +kernel
theorem dX7_rests_13 : decode cX7_rests 13 = .ok (.aload_n 0, 1) := by decide +kernel
theorem dX7_rests_14 : decode cX7_rests 14 = .ok (.iload_n 1, 1) := by decide +kernel
theorem dX7_rests_15 : decode cX7_rests 15 = .ok (.invokevirtual 207, 3) := by decide +kernel
theorem dX7_rests_18 : decode cX7_rests 18 = .ok (.ifCond .eq 7, 3) := by decide +kernel
theorem dX7_rests_21 : decode cX7_rests 21 = .ok (.iconst 2, 1) := by decide +kernel
theorem dX7_rests_22 : decode cX7_rests 22 = .ok (.goto 4, 3) := by decide +kernel
theorem dX7_rests_25 : decode cX7_rests 25 = .ok (.iconst 0, 1) := by decide +kernel
theorem dX7_rests_26 : decode cX7_rests 26 = .ok (.putfield 99, 3) := by decide +kernel
theorem dX7_rests_29 : decode cX7_rests 29 = .ok (.aload_n 0, 1) := by decide +kernel
theorem dX7_rests_30 : decode cX7_rests 30 = .ok (.getfield 99, 3) := by decide +kernel
theorem dX7_rests_33 : decode cX7_rests 33 = .ok (.ifCond .le 5, 3) := by decide +kernel
theorem dX7_rests_36 : decode cX7_rests 36 = .ok (.iconst 0, 1) := by decide +kernel
theorem dX7_rests_37 : decode cX7_rests 37 = .ok (.ireturn, 1) := by decide +kernel
theorem dX7_rests_38 : decode cX7_rests 38 = .ok (.aload_n 0, 1) := by decide +kernel
theorem dX7_rests_39 : decode cX7_rests 39 = .ok (.iload_n 1, 1) := by decide +kernel
theorem dX7_rests_40 : decode cX7_rests 40 = .ok (.invokevirtual 217, 3) := by decide +kernel
theorem dX7_rests_43 : decode cX7_rests 43 = .ok (.istore_n 2, 1) := by decide +kernel
theorem dX7_rests_44 : decode cX7_rests 44 = .ok (.aload_n 0, 1) := by decide +kernel
theorem dX7_rests_45 : decode cX7_rests 45 = .ok (.invokevirtual 210, 3) := by decide +kernel
theorem dX7_rests_48 : decode cX7_rests 48 = .ok (.aload_n 0, 1) := by decide +kernel
theorem dX7_rests_49 : decode cX7_rests 49 = .ok (.aload_n 0, 1) := by decide +kernel
theorem dX7_rests_50 : decode cX7_rests 50 = .ok (.getfield 93, 3) := by decide +kernel
theorem dX7_rests_53 : decode cX7_rests 53 = .ok (.iconst 0, 1) := by decide +kernel
theorem dX7_rests_54 : decode cX7_rests 54 = .ok (.aload_n 0, 1) := by decide +kernel
theorem dX7_rests_55 : decode cX7_rests 55 = .ok (.getfield 26, 3) := by decide +kernel
theorem dX7_rests_58 : decode cX7_rests 58 = .ok (.iload_n 1, 1) := by decide +kernel
theorem dX7_rests_59 : decode cX7_rests 59 = .ok (.iaload, 1) := by decide +kernel
theorem dX7_rests_60 : decode cX7_rests 60 = .ok (.invokevirtual 213, 3) := by decide +kernel
theorem dX7_rests_63 : decode cX7_rests 63 = .ok (.istore_n 3, 1) := by decide +kernel
theorem dX7_rests_64 : decode cX7_rests 64 = .ok (.iconst 0, 1) := by decide +kernel
theorem dX7_rests_65 : decode cX7_rests 65 = .ok (.istore 4, 2) := by decide +kernel
theorem dX7_rests_67 : decode cX7_rests 67 = .ok (.iload 4, 2) := by decide +kernel
theorem dX7_rests_69 : decode cX7_rests 69 = .ok (.iload_n 3, 1) := by decide +kernel
theorem dX7_rests_70 : decode cX7_rests 70 = .ok (.if_icmp .ge 49, 3) := by decide +kernel
theorem dX7_rests_73 : decode cX7_rests 73 = .ok (.iconst 0, 1) := by decide +kernel
theorem dX7_rests_74 : decode cX7_rests 74 = .ok (.istore 5, 2) := by decide +kernel
theorem dX7_rests_76 : decode cX7_rests 76 = .ok (.iload 5, 2) := by decide +kernel
theorem dX7_rests_78 : decode cX7_rests 78 = .ok (.bipush 8, 2) := by decide +kernel
theorem dX7_rests_80 : decode cX7_rests 80 = .ok (.if_icmp .ge 33, 3) := by decide +kernel
theorem dX7_rests_83 : decode cX7_rests 83 = .ok (.aload_n 0, 1) := by decide +kernel
theorem dX7_rests_84 : decode cX7_rests 84 = .ok (.aload_n 0, 1) := by decide +kernel
theorem dX7_rests_85 : decode cX7_rests 85 = .ok (.getfield 93, 3) := by decide +kernel
theorem dX7_rests_88 : decode cX7_rests 88 = .ok (.iload_n 3, 1) := by decide +kernel
theorem dX7_rests_89 : decode cX7_rests 89 = .ok (.aload_n 0, 1) := by decide +kernel
theorem dX7_rests_90 : decode cX7_rests 90 = .ok (.iload_n 1, 1) := by decide +kernel
theorem dX7_rests_91 : decode cX7_rests 91 = .ok (.aload_n 0, 1) := by decide +kernel
theorem dX7_rests_92 : decode cX7_rests 92 = .ok (.getfield 93, 3) := by decide +kernel
theorem dX7_rests_95 : decode cX7_rests 95 = .ok (.iload 4, 2) := by decide +kernel
theorem dX7_rests_97 : decode cX7_rests 97 = .ok (.iaload, 1) := by decide +kernel
theorem dX7_rests_98 : decode cX7_rests 98 = .ok (.iload 5, 2) := by decide +kernel
theorem dX7_rests_100 : decode cX7_rests 100 = .ok (.invokevirtual 220, 3) := by decide +kernel
theorem dX7_rests_103 : decode cX7_rests 103 = .ok (.invokevirtual 213, 3) := by decide +kernel
theorem dX7_rests_106 : decode cX7_rests 106 = .ok (.istore_n 3, 1) := by decide +kernel
theorem dX7_rests_107 : decode cX7_rests 107 = .ok (.iinc 5 1, 3) := by decide +kernel
theorem dX7_rests_110 : decode cX7_rests 110 = .ok (.goto (-34), 3) := by decide +kernel
theorem dX7_rests_113 : decode cX7_rests 113 = .ok (.iinc 4 1, 3) := by decide +kernel
theorem dX7_rests_116 : decode cX7_rests 116 = .ok (.goto (-49), 3) := by decide +kernel
theorem dX7_rests_119 : decode cX7_rests 119 = .ok (.aload_n 0, 1) := by decide +kernel
theorem dX7_rests_120 : decode cX7_rests 120 = .ok (.invokevirtual 210, 3) := by decide +kernel
theorem dX7_rests_123 : decode cX7_rests 123 = .ok (.iconst 0, 1) := by decide +kernel
theorem dX7_rests_124 : decode cX7_rests 124 = .ok (.istore 4, 2) := by decide +kernel
theorem dX7_rests_126 : decode cX7_rests 126 = .ok (.iconst 0, 1) := by decide +kernel
theorem dX7_rests_127 : decode cX7_rests 127 = .ok (.istore 5, 2) := by decide +kernel
theorem dX7_rests_129 : decode cX7_rests 129 = .ok (.iload 5, 2) := by decide +kernel
theorem dX7_rests_131 : decode cX7_rests 131 = .ok (.iload_n 2, 1) := by decide +kernel
theorem dX7_rests_132 : decode cX7_rests 132 = .ok (.if_icmp .ge 95, 3) := by decide +kernel
theorem dX7_rests_135 : decode cX7_rests 135 = .ok (.sipush 2047, 3) := by decide +kernel
theorem dX7_rests_138 : decode cX7_rests 138 = .ok (.istore 6, 2) := by decide +kernel
theorem dX7_rests_140 : decode cX7_rests 140 = .ok (.iconst 0, 1) := by decide +kernel
theorem dX7_rests_141 : decode cX7_rests 141 = .ok (.istore 7, 2) := by decide +kernel
theorem dX7_rests_143 : decode cX7_rests 143 = .ok (.iload 7, 2) := by decide +kernel
theorem dX7_rests_145 : decode cX7_rests 145 = .ok (.iload_n 3, 1) := by decide +kernel
theorem dX7_rests_146 : decode cX7_rests 146 = .ok (.if_icmp .ge 46, 3) := by decide +kernel
theorem dX7_rests_149 : decode cX7_rests 149 = .ok (.aload_n 0, 1) := by decide +kernel
theorem dX7_rests_150 : decode cX7_rests 150 = .ok (.getfield 93, 3) := by decide +kernel
theorem dX7_rests_153 : decode cX7_rests 153 = .ok (.iload 7, 2) := by decide +kernel
theorem dX7_rests_155 : decode cX7_rests 155 = .ok (.iaload, 1) := by decide +kernel
theorem dX7_rests_156 : decode cX7_rests 156 = .ok (.aload_n 0, 1) := by decide +kernel
theorem dX7_rests_157 : decode cX7_rests 157 = .ok (.getfield 90, 3) := by decide +kernel
theorem dX7_rests_160 : decode cX7_rests 160 = .ok (.iload 5, 2) := by decide +kernel
theorem dX7_rests_162 : decode cX7_rests 162 = .ok (.iaload, 1) := by decide +kernel
theorem dX7_rests_163 : decode cX7_rests 163 = .ok (.iand, 1) := by decide +kernel
theorem dX7_rests_164 : decode cX7_rests 164 = .ok (.ifCond .ne 18, 3) := by decide +kernel
theorem dX7_rests_167 : decode cX7_rests 167 = .ok (.iload 6, 2) := by decide +kernel
theorem dX7_rests_169 : decode cX7_rests 169 = .ok (.aload_n 0, 1) := by decide +kernel
theorem dX7_rests_170 : decode cX7_rests 170 = .ok (.getfield 93, 3) := by decide +kernel
theorem dX7_rests_173 : decode cX7_rests 173 = .ok (.iload 7, 2) := by decide +kernel
theorem dX7_rests_175 : decode cX7_rests 175 = .ok (.iaload, 1) := by decide +kernel
theorem dX7_rests_176 : decode cX7_rests 176 = .ok (.iconst (-1), 1) := by decide +kernel
theorem dX7_rests_177 : decode cX7_rests 177 = .ok (.ixor, 1) := by decide +kernel
theorem dX7_rests_178 : decode cX7_rests 178 = .ok (.iand, 1) := by decide +kernel
theorem dX7_rests_179 : decode cX7_rests 179 = .ok (.goto 5, 3) := by decide +kernel
theorem dX7_rests_182 : decode cX7_rests 182 = .ok (.iload 6, 2) := by decide +kernel
theorem dX7_rests_184 : decode cX7_rests 184 = .ok (.istore 6, 2) := by decide +kernel
theorem dX7_rests_186 : decode cX7_rests 186 = .ok (.iinc 7 1, 3) := by decide +kernel
theorem dX7_rests_189 : decode cX7_rests 189 = .ok (.goto (-46), 3) := by decide +kernel
theorem dX7_rests_192 : decode cX7_rests 192 = .ok (.aload_n 0, 1) := by decide +kernel
theorem dX7_rests_193 : decode cX7_rests 193 = .ok (.getfield 96, 3) := by decide +kernel
theorem dX7_rests_196 : decode cX7_rests 196 = .ok (.iload 6, 2) := by decide +kernel
theorem dX7_rests_198 : decode cX7_rests 198 = .ok (.baload, 1) := by decide +kernel
theorem dX7_rests_199 : decode cX7_rests 199 = .ok (.ifCond .eq 8, 3) := by decide +kernel
theorem dX7_rests_202 : decode cX7_rests 202 = .ok (.iload 4, 2) := by decide +kernel
theorem dX7_rests_204 : decode cX7_rests 204 = .ok (.goto 7, 3) := by decide +kernel
theorem dX7_rests_207 : decode cX7_rests 207 = .ok (.iload 4, 2) := by decide +kernel
theorem dX7_rests_209 : decode cX7_rests 209 = .ok (.iconst 1, 1) := by decide +kernel
theorem dX7_rests_210 : decode cX7_rests 210 = .ok (.iadd, 1) := by decide +kernel
theorem dX7_rests_211 : decode cX7_rests 211 = .ok (.istore 4, 2) := by decide +kernel
theorem dX7_rests_213 : decode cX7_rests 213 = .ok (.aload_n 0, 1) := by decide +kernel
theorem dX7_rests_214 : decode cX7_rests 214 = .ok (.getfield 96, 3) := by decide +kernel
theorem dX7_rests_217 : decode cX7_rests 217 = .ok (.iload 6, 2) := by decide +kernel
theorem dX7_rests_219 : decode cX7_rests 219 = .ok (.iconst 1, 1) := by decide +kernel
theorem dX7_rests_220 : decode cX7_rests 220 = .ok (.bastore, 1) := by decide +kernel
theorem dX7_rests_221 : decode cX7_rests 221 = .ok (.iinc 5 1, 3) := by decide +kernel
theorem dX7_rests_224 : decode cX7_rests 224 = .ok (.goto (-95), 3) := by decide +kernel
theorem dX7_rests_227 : decode cX7_rests 227 = .ok (.iload 4, 2) := by decide +kernel
theorem dX7_rests_229 : decode cX7_rests 229 = .ok (.ireturn, 1) := by decide +kernel
