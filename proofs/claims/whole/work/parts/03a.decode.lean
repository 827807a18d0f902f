theorem dX0_init_0 : decode cX0_init 0 = .ok (.aload_n 0, 1) := by decide +kernel
theorem dX0_init_1 : decode cX0_init 1 = .ok (.invokespecial 3, 3) := by decide +kernel
theorem dX0_init_4 : decode cX0_init 4 = .ok (.aload_n 0, 1) := by decide +kernel
theorem dX0_init_5 : decode cX0_init 5 = .ok (.iconst 0, 1) := by decide +kernel
theorem dX0_init_6 : decode cX0_init 6 = .ok (.putfield 11, 3) := by decide +kernel
theorem dX0_init_9 : decode cX0_init 9 = .ok (.aload_n 0, 1) := by decide +kernel
theorem dX0_init_10 : decode cX0_init 10 = .ok (.iconst (-1), 1) := by decide +kernel
theorem dX0_init_11 : decode cX0_init 11 = .ok (.putfield 15, 3) := by decide +kernel
theorem dX0_init_14 : decode cX0_init 14 = .ok (.aload_n 0, 1) := by decide +kernel
theorem dX0_init_15 : decode cX0_init 15 = .ok (.bipush 21, 2) := by decide +kernel
theorem dX0_init_17 : decode cX0_init 17 = .ok (.anewarray 18, 3) := by decide +kernel
theorem dX0_init_20 : decode cX0_init 20 = .ok (.putfield 20, 3) := by decide +kernel
theorem dX0_init_23 : decode cX0_init 23 = .ok (.aload_n 0, 1) := by decide +kernel
theorem dX0_init_24 : decode cX0_init 24 = .ok (.bipush 24, 2) := by decide +kernel
theorem dX0_init_26 : decode cX0_init 26 = .ok (.newarray .int, 2) := by decide +kernel
theorem dX0_init_28 : decode cX0_init 28 = .ok (.putfield 24, 3) := by decide +kernel
theorem dX0_init_31 : decode cX0_init 31 = .ok (.aload_n 0, 1) := by decide +kernel
theorem dX0_init_32 : decode cX0_init 32 = .ok (.bipush 24, 2) := by decide +kernel
theorem dX0_init_34 : decode cX0_init 34 = .ok (.newarray .int, 2) := by decide +kernel
theorem dX0_init_36 : decode cX0_init 36 = .ok (.putfield 28, 3) := by decide +kernel
theorem dX0_init_39 : decode cX0_init 39 = .ok (.iconst 0, 1) := by decide +kernel
theorem dX0_init_40 : decode cX0_init 40 = .ok (.istore_n 1, 1) := by decide +kernel
theorem dX0_init_41 : decode cX0_init 41 = .ok (.iload_n 1, 1) := by decide +kernel
theorem dX0_init_42 : decode cX0_init 42 = .ok (.aload_n 0, 1) := by decide +kernel
theorem dX0_init_43 : decode cX0_init 43 = .ok (.getfield 20, 3) := by decide +kernel
theorem dX0_init_46 : decode cX0_init 46 = .ok (.arraylength, 1) := by decide +kernel
theorem dX0_init_47 : decode cX0_init 47 = .ok (.if_icmp .ge 22, 3) := by decide +kernel
theorem dX0_init_50 : decode cX0_init 50 = .ok (.aload_n 0, 1) := by decide +kernel
theorem dX0_init_51 : decode cX0_init 51 = .ok (.getfield 20, 3) := by decide +kernel
theorem dX0_init_54 : decode cX0_init 54 = .ok (.iload_n 1, 1) := by decide +kernel
theorem dX0_init_55 : decode cX0_init 55 = .ok (.new 18, 3) := by decide +kernel
theorem dX0_init_58 : decode cX0_init 58 = .ok (.dup, 1) := by decide +kernel
theorem dX0_init_59 : decode cX0_init 59 = .ok (.invokespecial 31, 3) := by decide +kernel
theorem dX0_init_62 : decode cX0_init 62 = .ok (.aastore, 1) := by decide +kernel
theorem dX0_init_63 : decode cX0_init 63 = .ok (.iinc 1 1, 3) := by decide +kernel
theorem dX0_init_66 : decode cX0_init 66 = .ok (.goto (-25), 3) := by decide +kernel
theorem dX0_init_69 : decode cX0_init 69 = .ok (.return_, 1) := by decide +kernel
theorem dX0_parse_0 : decode cX0_parse 0 = .ok (.aload_n 0, 1) := by decide +kernel
theorem dX0_parse_1 : decode cX0_parse 1 = .ok (.invokevirtual 32, 3) := by decide +kernel
theorem dX0_parse_4 : decode cX0_parse 4 = .ok (.iconst 0, 1) := by decide +kernel
theorem dX0_parse_5 : decode cX0_parse 5 = .ok (.istore_n 3, 1) := by decide +kernel
theorem dX0_parse_6 : decode cX0_parse 6 = .ok (.iconst 0, 1) := by decide +kernel
theorem dX0_parse_7 : decode cX0_parse 7 = .ok (.istore 4, 2) := by decide +kernel
theorem dX0_parse_9 : decode cX0_parse 9 = .ok (.iload 4, 2) := by decide +kernel
theorem dX0_parse_11 : decode cX0_parse 11 = .ok (.iload_n 2, 1) := by decide +kernel
theorem dX0_parse_12 : decode cX0_parse 12 = .ok (.if_icmp .ge 43, 3) := by decide +kernel
theorem dX0_parse_15 : decode cX0_parse 15 = .ok (.aload_n 0, 1) := by decide +kernel
theorem dX0_parse_16 : decode cX0_parse 16 = .ok (.getfield 35, 3) := by decide +kernel
theorem dX0_parse_19 : decode cX0_parse 19 = .ok (.ifCond .ne 14, 3) := by decide +kernel
theorem dX0_parse_22 : decode cX0_parse 22 = .ok (.aload_n 0, 1) := by decide +kernel
theorem dX0_parse_23 : decode cX0_parse 23 = .ok (.aload_n 1, 1) := by decide +kernel
theorem dX0_parse_24 : decode cX0_parse 24 = .ok (.iload 4, 2) := by decide +kernel
theorem dX0_parse_26 : decode cX0_parse 26 = .ok (.baload, 1) := by decide +kernel
theorem dX0_parse_27 : decode cX0_parse 27 = .ok (.invokevirtual 38, 3) := by decide +kernel
theorem dX0_parse_30 : decode cX0_parse 30 = .ok (.goto 11, 3) := by decide +kernel
theorem dX0_parse_33 : decode cX0_parse 33 = .ok (.aload_n 0, 1) := by decide +kernel
theorem dX0_parse_34 : decode cX0_parse 34 = .ok (.aload_n 1, 1) := by decide +kernel
theorem dX0_parse_35 : decode cX0_parse 35 = .ok (.iload 4, 2) := by decide +kernel
theorem dX0_parse_37 : decode cX0_parse 37 = .ok (.baload, 1) := by decide +kernel
theorem dX0_parse_38 : decode cX0_parse 38 = .ok (.invokevirtual 42, 3) := by decide +kernel
theorem dX0_parse_41 : decode cX0_parse 41 = .ok (.istore_n 3, 1) := by decide +kernel
theorem dX0_parse_42 : decode cX0_parse 42 = .ok (.iload_n 3, 1) := by decide +kernel
theorem dX0_parse_43 : decode cX0_parse 43 = .ok (.ifCond .eq 6, 3) := by decide +kernel
theorem dX0_parse_46 : decode cX0_parse 46 = .ok (.goto 9, 3) := by decide +kernel
theorem dX0_parse_49 : decode cX0_parse 49 = .ok (.iinc 4 1, 3) := by decide +kernel
theorem dX0_parse_52 : decode cX0_parse 52 = .ok (.goto (-43), 3) := by decide +kernel
theorem dX0_parse_55 : decode cX0_parse 55 = .ok (.iload_n 3, 1) := by decide +kernel
theorem dX0_parse_56 : decode cX0_parse 56 = .ok (.ifCond .ne 19, 3) := by decide +kernel
theorem dX0_parse_59 : decode cX0_parse 59 = .ok (.aload_n 0, 1) := by decide +kernel
theorem dX0_parse_60 : decode cX0_parse 60 = .ok (.getfield 35, 3) := by decide +kernel
theorem dX0_parse_63 : decode cX0_parse 63 = .ok (.ifCond .ne 10, 3) := by decide +kernel
theorem dX0_parse_66 : decode cX0_parse 66 = .ok (.aload_n 0, 1) := by decide +kernel
theorem dX0_parse_67 : decode cX0_parse 67 = .ok (.getfield 45, 3) := by decide +kernel
theorem dX0_parse_70 : decode cX0_parse 70 = .ok (.ifCond .le 5, 3) := by decide +kernel
theorem dX0_parse_73 : decode cX0_parse 73 = .ok (.iconst 1, 1) := by decide +kernel
theorem dX0_parse_74 : decode cX0_parse 74 = .ok (.istore_n 3, 1) := by decide +kernel
theorem dX0_parse_75 : decode cX0_parse 75 = .ok (.aload_n 0, 1) := by decide +kernel
theorem dX0_parse_76 : decode cX0_parse 76 = .ok (.iload_n 3, 1) := by decide +kernel
theorem dX0_parse_77 : decode cX0_parse 77 = .ok (.putfield 11, 3) := by decide +kernel
theorem dX0_parse_80 : decode cX0_parse 80 = .ok (.aload_n 0, 1) := by decide +kernel
theorem dX0_parse_81 : decode cX0_parse 81 = .ok (.iload_n 3, 1) := by decide +kernel
theorem dX0_parse_82 : decode cX0_parse 82 = .ok (.ifCond .ne 7, 3) := by decide +kernel
theorem dX0_parse_85 : decode cX0_parse 85 = .ok (.iconst (-1), 1) := by decide +kernel
theorem dX0_parse_86 : decode cX0_parse 86 = .ok (.goto 5, 3) := by decide +kernel
theorem dX0_parse_89 : decode cX0_parse 89 = .ok (.iload 4, 2) := by decide +kernel
theorem dX0_parse_91 : decode cX0_parse 91 = .ok (.putfield 15, 3) := by decide +kernel
theorem dX0_parse_94 : decode cX0_parse 94 = .ok (.return_, 1) := by decide +kernel
theorem dX0_writeTo_0 : decode cX0_writeTo 0 = .ok (.aload_n 0, 1) := by decide +kernel
theorem dX0_writeTo_1 : decode cX0_writeTo 1 = .ok (.getfield 20, 3) := by decide +kernel
theorem dX0_writeTo_4 : decode cX0_writeTo 4 = .ok (.iconst 0, 1) := by decide +kernel
theorem dX0_writeTo_5 : decode cX0_writeTo 5 = .ok (.aaload, 1) := by decide +kernel
theorem dX0_writeTo_6 : decode cX0_writeTo 6 = .ok (.astore_n 2, 1) := by decide +kernel
theorem dX0_writeTo_7 : decode cX0_writeTo 7 = .ok (.aload_n 0, 1) := by decide +kernel
theorem dX0_writeTo_8 : decode cX0_writeTo 8 = .ok (.aload_n 2, 1) := by decide +kernel
theorem dX0_writeTo_9 : decode cX0_writeTo 9 = .ok (.invokevirtual 48, 3) := by decide +kernel
theorem dX0_writeTo_12 : decode cX0_writeTo 12 = .ok (.aload_n 0, 1) := by decide +kernel
theorem dX0_writeTo_13 : decode cX0_writeTo 13 = .ok (.getfield 24, 3) := by decide +kernel
theorem dX0_writeTo_16 : decode cX0_writeTo 16 = .ok (.iconst 0, 1) := by decide +kernel
theorem dX0_writeTo_17 : decode cX0_writeTo 17 = .ok (.aload_n 2, 1) := by decide +kernel
theorem dX0_writeTo_18 : decode cX0_writeTo 18 = .ok (.getfield 52, 3) := by decide +kernel
theorem dX0_writeTo_21 : decode cX0_writeTo 21 = .ok (.getfield 56, 3) := by decide +kernel
theorem dX0_writeTo_24 : decode cX0_writeTo 24 = .ok (.iastore, 1) := by decide +kernel
theorem dX0_writeTo_25 : decode cX0_writeTo 25 = .ok (.aload_n 1, 1) := by decide +kernel
theorem dX0_writeTo_26 : decode cX0_writeTo 26 = .ok (.aload_n 0, 1) := by decide +kernel
theorem dX0_writeTo_27 : decode cX0_writeTo 27 = .ok (.getfield 61, 3) := by decide +kernel
theorem dX0_writeTo_30 : decode cX0_writeTo 30 = .ok (.invokevirtual 64, 3) := by decide +kernel
theorem dX0_writeTo_33 : decode cX0_writeTo 33 = .ok (.aload_n 1, 1) := by decide +kernel
theorem dX0_writeTo_34 : decode cX0_writeTo 34 = .ok (.iconst 1, 1) := by decide +kernel
theorem dX0_writeTo_35 : decode cX0_writeTo 35 = .ok (.putfield 70, 3) := by decide +kernel
theorem dX0_writeTo_38 : decode cX0_writeTo 38 = .ok (.aload_n 1, 1) := by decide +kernel
theorem dX0_writeTo_39 : decode cX0_writeTo 39 = .ok (.aload_n 2, 1) := by decide +kernel
theorem dX0_writeTo_40 : decode cX0_writeTo 40 = .ok (.getfield 52, 3) := by decide +kernel
theorem dX0_writeTo_43 : decode cX0_writeTo 43 = .ok (.getfield 73, 3) := by decide +kernel
theorem dX0_writeTo_46 : decode cX0_writeTo 46 = .ok (.aload_n 2, 1) := by decide +kernel
theorem dX0_writeTo_47 : decode cX0_writeTo 47 = .ok (.getfield 52, 3) := by decide +kernel
theorem dX0_writeTo_50 : decode cX0_writeTo 50 = .ok (.getfield 76, 3) := by decide +kernel
theorem dX0_writeTo_53 : decode cX0_writeTo 53 = .ok (.ifCond .eq 7, 3) := by decide +kernel
theorem dX0_writeTo_56 : decode cX0_writeTo 56 = .ok (.iconst 1, 1) := by decide +kernel
theorem dX0_writeTo_57 : decode cX0_writeTo 57 = .ok (.goto 4, 3) := by decide +kernel
theorem dX0_writeTo_60 : decode cX0_writeTo 60 = .ok (.iconst 0, 1) := by decide +kernel
theorem dX0_writeTo_61 : decode cX0_writeTo 61 = .ok (.ior, 1) := by decide +kernel
theorem dX0_writeTo_62 : decode cX0_writeTo 62 = .ok (.putfield 80, 3) := by decide +kernel
theorem dX0_writeTo_65 : decode cX0_writeTo 65 = .ok (.iconst 0, 1) := by decide +kernel
theorem dX0_writeTo_66 : decode cX0_writeTo 66 = .ok (.istore_n 3, 1) := by decide +kernel
theorem dX0_writeTo_67 : decode cX0_writeTo 67 = .ok (.iload_n 3, 1) := by decide +kernel
theorem dX0_writeTo_68 : decode cX0_writeTo 68 = .ok (.bipush 8, 2) := by decide +kernel
theorem dX0_writeTo_70 : decode cX0_writeTo 70 = .ok (.if_icmp .ge 51, 3) := by decide +kernel
theorem dX0_writeTo_73 : decode cX0_writeTo 73 = .ok (.aload_n 0, 1) := by decide +kernel
theorem dX0_writeTo_74 : decode cX0_writeTo 74 = .ok (.iload_n 3, 1) := by decide +kernel
theorem dX0_writeTo_75 : decode cX0_writeTo 75 = .ok (.invokevirtual 83, 3) := by decide +kernel
theorem dX0_writeTo_78 : decode cX0_writeTo 78 = .ok (.istore 4, 2) := by decide +kernel
theorem dX0_writeTo_80 : decode cX0_writeTo 80 = .ok (.iconst 0, 1) := by decide +kernel
theorem dX0_writeTo_81 : decode cX0_writeTo 81 = .ok (.istore 5, 2) := by decide +kernel
theorem dX0_writeTo_83 : decode cX0_writeTo 83 = .ok (.iload 5, 2) := by decide +kernel
theorem dX0_writeTo_85 : decode cX0_writeTo 85 = .ok (.aload_n 0, 1) := by decide +kernel
theorem dX0_writeTo_86 : decode cX0_writeTo 86 = .ok (.getfield 61, 3) := by decide +kernel
theorem dX0_writeTo_89 : decode cX0_writeTo 89 = .ok (.if_icmp .ge 26, 3) := by decide +kernel
theorem dX0_writeTo_92 : decode cX0_writeTo 92 = .ok (.aload_n 1, 1) := by decide +kernel
theorem dX0_writeTo_93 : decode cX0_writeTo 93 = .ok (.iload 5, 2) := by decide +kernel
theorem dX0_writeTo_95 : decode cX0_writeTo 95 = .ok (.iload_n 3, 1) := by decide +kernel
theorem dX0_writeTo_96 : decode cX0_writeTo 96 = .ok (.aload_n 0, 1) := by decide +kernel
theorem dX0_writeTo_97 : decode cX0_writeTo 97 = .ok (.getfield 24, 3) := by decide +kernel
theorem dX0_writeTo_100 : decode cX0_writeTo 100 = .ok (.iload 5, 2) := by decide +kernel
theorem dX0_writeTo_102 : decode cX0_writeTo 102 = .ok (.iaload, 1) := by decide +kernel
theorem dX0_writeTo_103 : decode cX0_writeTo 103 = .ok (.iload 4, 2) := by decide +kernel
theorem dX0_writeTo_105 : decode cX0_writeTo 105 = .ok (.iand, 1) := by decide +kernel
theorem dX0_writeTo_106 : decode cX0_writeTo 106 = .ok (.invokevirtual 86, 3) := by decide +kernel
theorem dX0_writeTo_109 : decode cX0_writeTo 109 = .ok (.iinc 5 1, 3) := by decide +kernel
theorem dX0_writeTo_112 : decode cX0_writeTo 112 = .ok (.goto (-29), 3) := by decide +kernel
theorem dX0_writeTo_115 : decode cX0_writeTo 115 = .ok (.iinc 3 1, 3) := by decide +kernel
theorem dX0_writeTo_118 : decode cX0_writeTo 118 = .ok (.goto (-51), 3) := by decide +kernel
theorem dX0_writeTo_121 : decode cX0_writeTo 121 = .ok (.return_, 1) := by decide +kernel
theorem dX0_statesWith_0 : decode cX0_statesWith 0 = .ok (.iconst 0, 1) := by decide +kernel
theorem dX0_statesWith_1 : decode cX0_statesWith 1 = .ok (.istore_n 2, 1) := by decide +kernel
theorem dX0_statesWith_2 : decode cX0_statesWith 2 = .ok (.iconst 1, 1) := by decide +kernel
theorem dX0_statesWith_3 : decode cX0_statesWith 3 = .ok (.istore_n 3, 1) := by decide +kernel
theorem dX0_statesWith_4 : decode cX0_statesWith 4 = .ok (.iload_n 3, 1) := by decide +kernel
theorem dX0_statesWith_5 : decode cX0_statesWith 5 = .ok (.aload_n 0, 1) := by decide +kernel
theorem dX0_statesWith_6 : decode cX0_statesWith 6 = .ok (.getfield 61, 3) := by decide +kernel
theorem dX0_statesWith_9 : decode cX0_statesWith 9 = .ok (.if_icmp .ge 28, 3) := by decide +kernel
theorem dX0_statesWith_12 : decode cX0_statesWith 12 = .ok (.aload_n 0, 1) := by decide +kernel
theorem dX0_statesWith_13 : decode cX0_statesWith 13 = .ok (.getfield 28, 3) := by decide +kernel
theorem dX0_statesWith_16 : decode cX0_statesWith 16 = .ok (.iload_n 3, 1) := by decide +kernel
theorem dX0_statesWith_17 : decode cX0_statesWith 17 = .ok (.iaload, 1) := by decide +kernel
theorem dX0_statesWith_18 : decode cX0_statesWith 18 = .ok (.iload_n 1, 1) := by decide +kernel
theorem dX0_statesWith_19 : decode cX0_statesWith 19 = .ok (.invokestatic 90, 3) := by decide +kernel
theorem dX0_statesWith_22 : decode cX0_statesWith 22 = .ok (.ifCond .eq 9, 3) := by decide +kernel
theorem dX0_statesWith_25 : decode cX0_statesWith 25 = .ok (.iload_n 2, 1) := by decide +kernel
theorem dX0_statesWith_26 : decode cX0_statesWith 26 = .ok (.iconst 1, 1) := by decide +kernel
theorem dX0_statesWith_27 : decode cX0_statesWith 27 = .ok (.iload_n 3, 1) := by decide +kernel
theorem dX0_statesWith_28 : decode cX0_statesWith 28 = .ok (.ishl, 1) := by decide +kernel
theorem dX0_statesWith_29 : decode cX0_statesWith 29 = .ok (.ior, 1) := by decide +kernel
theorem dX0_statesWith_30 : decode cX0_statesWith 30 = .ok (.istore_n 2, 1) := by decide +kernel
theorem dX0_statesWith_31 : decode cX0_statesWith 31 = .ok (.iinc 3 1, 3) := by decide +kernel
theorem dX0_statesWith_34 : decode cX0_statesWith 34 = .ok (.goto (-30), 3) := by decide +kernel
theorem dX0_statesWith_37 : decode cX0_statesWith 37 = .ok (.iload_n 2, 1) := by decide +kernel
theorem dX0_statesWith_38 : decode cX0_statesWith 38 = .ok (.ireturn, 1) := by decide +kernel
theorem dX0_begin_0 : decode cX0_begin 0 = .ok (.aload_n 0, 1) := by decide +kernel
theorem dX0_begin_1 : decode cX0_begin 1 = .ok (.iconst 0, 1) := by decide +kernel
theorem dX0_begin_2 : decode cX0_begin 2 = .ok (.putfield 45, 3) := by decide +kernel
theorem dX0_begin_5 : decode cX0_begin 5 = .ok (.aload_n 0, 1) := by decide +kernel
theorem dX0_begin_6 : decode cX0_begin 6 = .ok (.iconst 1, 1) := by decide +kernel
theorem dX0_begin_7 : decode cX0_begin 7 = .ok (.putfield 61, 3) := by decide +kernel
theorem dX0_begin_10 : decode cX0_begin 10 = .ok (.aload_n 0, 1) := by decide +kernel
theorem dX0_begin_11 : decode cX0_begin 11 = .ok (.iconst 0, 1) := by decide +kernel
theorem dX0_begin_12 : decode cX0_begin 12 = .ok (.putfield 35, 3) := by decide +kernel
theorem dX0_begin_15 : decode cX0_begin 15 = .ok (.aload_n 0, 1) := by decide +kernel
theorem dX0_begin_16 : decode cX0_begin 16 = .ok (.getfield 20, 3) := by decide +kernel
theorem dX0_begin_19 : decode cX0_begin 19 = .ok (.iconst 0, 1) := by decide +kernel
theorem dX0_begin_20 : decode cX0_begin 20 = .ok (.aaload, 1) := by decide +kernel
theorem dX0_begin_21 : decode cX0_begin 21 = .ok (.invokevirtual 94, 3) := by decide +kernel
theorem dX0_begin_24 : decode cX0_begin 24 = .ok (.return_, 1) := by decide +kernel
theorem dX0_takeOutside_0 : decode cX0_takeOutside 0 = .ok (.iload_n 1, 1) := by decide +kernel
theorem dX0_takeOutside_1 : decode cX0_takeOutside 1 = .ok (.invokestatic 97, 3) := by decide +kernel
theorem dX0_takeOutside_4 : decode cX0_takeOutside 4 = .ok (.istore_n 2, 1) := by decide +kernel
theorem dX0_takeOutside_5 : decode cX0_takeOutside 5 = .ok (.iload_n 2, 1) := by decide +kernel
theorem dX0_takeOutside_6 : decode cX0_takeOutside 6 = .ok (.iconst (-1), 1) := by decide +kernel
theorem dX0_takeOutside_7 : decode cX0_takeOutside 7 = .ok (.if_icmp .eq 11, 3) := by decide +kernel
theorem dX0_takeOutside_10 : decode cX0_takeOutside 10 = .ok (.aload_n 0, 1) := by decide +kernel
theorem dX0_takeOutside_11 : decode cX0_takeOutside 11 = .ok (.iconst 1, 1) := by decide +kernel
theorem dX0_takeOutside_12 : decode cX0_takeOutside 12 = .ok (.iload_n 2, 1) := by decide +kernel
theorem dX0_takeOutside_13 : decode cX0_takeOutside 13 = .ok (.ishl, 1) := by decide +kernel
theorem dX0_takeOutside_14 : decode cX0_takeOutside 14 = .ok (.invokevirtual 100, 3) := by decide +kernel
theorem dX0_takeOutside_17 : decode cX0_takeOutside 17 = .ok (.ireturn, 1) := by decide +kernel
theorem dX0_takeOutside_18 : decode cX0_takeOutside 18 = .ok (.iload_n 1, 1) := by decide +kernel
theorem dX0_takeOutside_19 : decode cX0_takeOutside 19 = .ok (.lookupswitch 137 #[(40, 97), (41, 102), (42, 122), (43, 122), (46, 73), (63, 122), (91, 81), (124, 107)], 73) := by decide +kernel
theorem dX0_takeOutside_92 : decode cX0_takeOutside 92 = .ok (.aload_n 0, 1) := by decide +kernel
theorem dX0_takeOutside_93 : decode cX0_takeOutside 93 = .ok (.sipush 255, 3) := by decide +kernel
theorem dX0_takeOutside_96 : decode cX0_takeOutside 96 = .ok (.invokevirtual 100, 3) := by decide +kernel
theorem dX0_takeOutside_99 : decode cX0_takeOutside 99 = .ok (.ireturn, 1) := by decide +kernel
theorem dX0_takeOutside_100 : decode cX0_takeOutside 100 = .ok (.aload_n 0, 1) := by decide +kernel
theorem dX0_takeOutside_101 : decode cX0_takeOutside 101 = .ok (.iconst 1, 1) := by decide +kernel
theorem dX0_takeOutside_102 : decode cX0_takeOutside 102 = .ok (.putfield 35, 3) := by decide +kernel
theorem dX0_takeOutside_105 : decode cX0_takeOutside 105 = .ok (.aload_n 0, 1) := by decide +kernel
theorem dX0_takeOutside_106 : decode cX0_takeOutside 106 = .ok (.iconst 0, 1) := by decide +kernel
theorem dX0_takeOutside_107 : decode cX0_takeOutside 107 = .ok (.putfield 103, 3) := by decide +kernel
theorem dX0_takeOutside_110 : decode cX0_takeOutside 110 = .ok (.aload_n 0, 1) := by decide +kernel
theorem dX0_takeOutside_111 : decode cX0_takeOutside 111 = .ok (.iconst 0, 1) := by decide +kernel
theorem dX0_takeOutside_112 : decode cX0_takeOutside 112 = .ok (.invokevirtual 100, 3) := by decide +kernel
theorem dX0_takeOutside_115 : decode cX0_takeOutside 115 = .ok (.ireturn, 1) := by decide +kernel
theorem dX0_takeOutside_116 : decode cX0_takeOutside 116 = .ok (.aload_n 0, 1) := by decide +kernel
theorem dX0_takeOutside_117 : decode cX0_takeOutside 117 = .ok (.invokevirtual 106, 3) := by decide +kernel
theorem dX0_takeOutside_120 : decode cX0_takeOutside 120 = .ok (.ireturn, 1) := by decide +kernel
theorem dX0_takeOutside_121 : decode cX0_takeOutside 121 = .ok (.aload_n 0, 1) := by decide +kernel
theorem dX0_takeOutside_122 : decode cX0_takeOutside 122 = .ok (.invokevirtual 110, 3) := by decide +kernel
theorem dX0_takeOutside_125 : decode cX0_takeOutside 125 = .ok (.ireturn, 1) := by decide +kernel
theorem dX0_takeOutside_126 : decode cX0_takeOutside 126 = .ok (.aload_n 0, 1) := by decide +kernel
theorem dX0_takeOutside_127 : decode cX0_takeOutside 127 = .ok (.aload_n 0, 1) := by decide +kernel
theorem dX0_takeOutside_128 : decode cX0_takeOutside 128 = .ok (.getfield 20, 3) := by decide +kernel
theorem dX0_takeOutside_131 : decode cX0_takeOutside 131 = .ok (.aload_n 0, 1) := by decide +kernel
theorem dX0_takeOutside_132 : decode cX0_takeOutside 132 = .ok (.getfield 45, 3) := by decide +kernel
theorem dX0_takeOutside_135 : decode cX0_takeOutside 135 = .ok (.aaload, 1) := by decide +kernel
theorem dX0_takeOutside_136 : decode cX0_takeOutside 136 = .ok (.invokevirtual 48, 3) := by decide +kernel
theorem dX0_takeOutside_139 : decode cX0_takeOutside 139 = .ok (.iconst 0, 1) := by decide +kernel
theorem dX0_takeOutside_140 : decode cX0_takeOutside 140 = .ok (.ireturn, 1) := by decide +kernel
theorem dX0_takeOutside_141 : decode cX0_takeOutside 141 = .ok (.aload_n 0, 1) := by decide +kernel
theorem dX0_takeOutside_142 : decode cX0_takeOutside 142 = .ok (.aload_n 0, 1) := by decide +kernel
theorem dX0_takeOutside_143 : decode cX0_takeOutside 143 = .ok (.getfield 20, 3) := by decide +kernel
theorem dX0_takeOutside_146 : decode cX0_takeOutside 146 = .ok (.aload_n 0, 1) := by decide +kernel
theorem dX0_takeOutside_147 : decode cX0_takeOutside 147 = .ok (.getfield 45, 3) := by decide +kernel
theorem dX0_takeOutside_150 : decode cX0_takeOutside 150 = .ok (.aaload, 1) := by decide +kernel
theorem dX0_takeOutside_151 : decode cX0_takeOutside 151 = .ok (.iload_n 1, 1) := by decide +kernel
theorem dX0_takeOutside_152 : decode cX0_takeOutside 152 = .ok (.invokevirtual 113, 3) := by decide +kernel
theorem dX0_takeOutside_155 : decode cX0_takeOutside 155 = .ok (.ireturn, 1) := by decide +kernel
theorem dX0_takeOutside_156 : decode cX0_takeOutside 156 = .ok (.iconst 1, 1) := by decide +kernel
theorem dX0_takeOutside_157 : decode cX0_takeOutside 157 = .ok (.ireturn, 1) := by decide +kernel
theorem dX0_addState_0 : decode cX0_addState 0 = .ok (.aload_n 0, 1) := by decide +kernel
theorem dX0_addState_1 : decode cX0_addState 1 = .ok (.getfield 61, 3) := by decide +kernel
theorem dX0_addState_4 : decode cX0_addState 4 = .ok (.bipush 24, 2) := by decide +kernel
theorem dX0_addState_6 : decode cX0_addState 6 = .ok (.if_icmp .lt 5, 3) := by decide +kernel
theorem dX0_addState_9 : decode cX0_addState 9 = .ok (.iconst 2, 1) := by decide +kernel
theorem dX0_addState_10 : decode cX0_addState 10 = .ok (.ireturn, 1) := by decide +kernel
theorem dX0_addState_11 : decode cX0_addState 11 = .ok (.aload_n 0, 1) := by decide +kernel
theorem dX0_addState_12 : decode cX0_addState 12 = .ok (.getfield 28, 3) := by decide +kernel
theorem dX0_addState_15 : decode cX0_addState 15 = .ok (.aload_n 0, 1) := by decide +kernel
theorem dX0_addState_16 : decode cX0_addState 16 = .ok (.getfield 61, 3) := by decide +kernel
theorem dX0_addState_19 : decode cX0_addState 19 = .ok (.iload_n 1, 1) := by decide +kernel
theorem dX0_addState_20 : decode cX0_addState 20 = .ok (.iastore, 1) := by decide +kernel
theorem dX0_addState_21 : decode cX0_addState 21 = .ok (.aload_n 0, 1) := by decide +kernel
theorem dX0_addState_22 : decode cX0_addState 22 = .ok (.getfield 24, 3) := by decide +kernel
theorem dX0_addState_25 : decode cX0_addState 25 = .ok (.aload_n 0, 1) := by decide +kernel
theorem dX0_addState_26 : decode cX0_addState 26 = .ok (.getfield 61, 3) := by decide +kernel
theorem dX0_addState_29 : decode cX0_addState 29 = .ok (.iconst 0, 1) := by decide +kernel
theorem dX0_addState_30 : decode cX0_addState 30 = .ok (.iastore, 1) := by decide +kernel
theorem dX0_addState_31 : decode cX0_addState 31 = .ok (.aload_n 0, 1) := by decide +kernel
theorem dX0_addState_32 : decode cX0_addState 32 = .ok (.aload_n 0, 1) := by decide +kernel
theorem dX0_addState_33 : decode cX0_addState 33 = .ok (.getfield 20, 3) := by decide +kernel
theorem dX0_addState_36 : decode cX0_addState 36 = .ok (.aload_n 0, 1) := by decide +kernel
theorem dX0_addState_37 : decode cX0_addState 37 = .ok (.getfield 45, 3) := by decide +kernel
theorem dX0_addState_40 : decode cX0_addState 40 = .ok (.aaload, 1) := by decide +kernel
theorem dX0_addState_41 : decode cX0_addState 41 = .ok (.iconst 0, 1) := by decide +kernel
theorem dX0_addState_42 : decode cX0_addState 42 = .ok (.iconst 1, 1) := by decide +kernel
theorem dX0_addState_43 : decode cX0_addState 43 = .ok (.aload_n 0, 1) := by decide +kernel
theorem dX0_addState_44 : decode cX0_addState 44 = .ok (.getfield 61, 3) := by decide +kernel
theorem dX0_addState_47 : decode cX0_addState 47 = .ok (.ishl, 1) := by decide +kernel
theorem dX0_addState_48 : decode cX0_addState 48 = .ok (.iconst 1, 1) := by decide +kernel
theorem dX0_addState_49 : decode cX0_addState 49 = .ok (.aload_n 0, 1) := by decide +kernel
theorem dX0_addState_50 : decode cX0_addState 50 = .ok (.getfield 61, 3) := by decide +kernel
theorem dX0_addState_53 : decode cX0_addState 53 = .ok (.ishl, 1) := by decide +kernel
theorem dX0_addState_54 : decode cX0_addState 54 = .ok (.invokevirtual 117, 3) := by decide +kernel
theorem dX0_addState_57 : decode cX0_addState 57 = .ok (.aload_n 0, 1) := by decide +kernel
theorem dX0_addState_58 : decode cX0_addState 58 = .ok (.dup, 1) := by decide +kernel
theorem dX0_addState_59 : decode cX0_addState 59 = .ok (.getfield 61, 3) := by decide +kernel
theorem dX0_addState_62 : decode cX0_addState 62 = .ok (.iconst 1, 1) := by decide +kernel
theorem dX0_addState_63 : decode cX0_addState 63 = .ok (.iadd, 1) := by decide +kernel
theorem dX0_addState_64 : decode cX0_addState 64 = .ok (.putfield 61, 3) := by decide +kernel
theorem dX0_addState_67 : decode cX0_addState 67 = .ok (.iconst 0, 1) := by decide +kernel
theorem dX0_addState_68 : decode cX0_addState 68 = .ok (.ireturn, 1) := by decide +kernel
theorem dX0_openExpression_0 : decode cX0_openExpression 0 = .ok (.aload_n 0, 1) := by decide +kernel
theorem dX0_openExpression_1 : decode cX0_openExpression 1 = .ok (.getfield 45, 3) := by decide +kernel
theorem dX0_openExpression_4 : decode cX0_openExpression 4 = .ok (.bipush 20, 2) := by decide +kernel
theorem dX0_openExpression_6 : decode cX0_openExpression 6 = .ok (.if_icmp .lt 5, 3) := by decide +kernel
theorem dX0_openExpression_9 : decode cX0_openExpression 9 = .ok (.iconst 3, 1) := by decide +kernel
theorem dX0_openExpression_10 : decode cX0_openExpression 10 = .ok (.ireturn, 1) := by decide +kernel
theorem dX0_openExpression_11 : decode cX0_openExpression 11 = .ok (.aload_n 0, 1) := by decide +kernel
theorem dX0_openExpression_12 : decode cX0_openExpression 12 = .ok (.dup, 1) := by decide +kernel
theorem dX0_openExpression_13 : decode cX0_openExpression 13 = .ok (.getfield 45, 3) := by decide +kernel
theorem dX0_openExpression_16 : decode cX0_openExpression 16 = .ok (.iconst 1, 1) := by decide +kernel
theorem dX0_openExpression_17 : decode cX0_openExpression 17 = .ok (.iadd, 1) := by decide +kernel
theorem dX0_openExpression_18 : decode cX0_openExpression 18 = .ok (.putfield 45, 3) := by decide +kernel
theorem dX0_openExpression_21 : decode cX0_openExpression 21 = .ok (.aload_n 0, 1) := by decide +kernel
theorem dX0_openExpression_22 : decode cX0_openExpression 22 = .ok (.getfield 20, 3) := by decide +kernel
theorem dX0_openExpression_25 : decode cX0_openExpression 25 = .ok (.aload_n 0, 1) := by decide +kernel
theorem dX0_openExpression_26 : decode cX0_openExpression 26 = .ok (.getfield 45, 3) := by decide +kernel
theorem dX0_openExpression_29 : decode cX0_openExpression 29 = .ok (.aaload, 1) := by decide +kernel
theorem dX0_openExpression_30 : decode cX0_openExpression 30 = .ok (.invokevirtual 94, 3) := by decide +kernel
theorem dX0_openExpression_33 : decode cX0_openExpression 33 = .ok (.iconst 0, 1) := by decide +kernel
theorem dX0_openExpression_34 : decode cX0_openExpression 34 = .ok (.ireturn, 1) := by decide +kernel
theorem dX0_closeExpression_0 : decode cX0_closeExpression 0 = .ok (.aload_n 0, 1) := by decide +kernel
theorem dX0_closeExpression_1 : decode cX0_closeExpression 1 = .ok (.getfield 45, 3) := by decide +kernel
theorem dX0_closeExpression_4 : decode cX0_closeExpression 4 = .ok (.ifCond .gt 5, 3) := by decide +kernel
theorem dX0_closeExpression_7 : decode cX0_closeExpression 7 = .ok (.iconst 1, 1) := by decide +kernel
theorem dX0_closeExpression_8 : decode cX0_closeExpression 8 = .ok (.ireturn, 1) := by decide +kernel
theorem dX0_closeExpression_9 : decode cX0_closeExpression 9 = .ok (.aload_n 0, 1) := by decide +kernel
theorem dX0_closeExpression_10 : decode cX0_closeExpression 10 = .ok (.getfield 20, 3) := by decide +kernel
theorem dX0_closeExpression_13 : decode cX0_closeExpression 13 = .ok (.aload_n 0, 1) := by decide +kernel
theorem dX0_closeExpression_14 : decode cX0_closeExpression 14 = .ok (.getfield 45, 3) := by decide +kernel
theorem dX0_closeExpression_17 : decode cX0_closeExpression 17 = .ok (.aaload, 1) := by decide +kernel
theorem dX0_closeExpression_18 : decode cX0_closeExpression 18 = .ok (.astore_n 1, 1) := by decide +kernel
theorem dX0_closeExpression_19 : decode cX0_closeExpression 19 = .ok (.aload_n 0, 1) := by decide +kernel
theorem dX0_closeExpression_20 : decode cX0_closeExpression 20 = .ok (.aload_n 1, 1) := by decide +kernel
theorem dX0_closeExpression_21 : decode cX0_closeExpression 21 = .ok (.invokevirtual 48, 3) := by decide +kernel
theorem dX0_closeExpression_24 : decode cX0_closeExpression 24 = .ok (.aload_n 0, 1) := by decide +kernel
theorem dX0_closeExpression_25 : decode cX0_closeExpression 25 = .ok (.dup, 1) := by decide +kernel
theorem dX0_closeExpression_26 : decode cX0_closeExpression 26 = .ok (.getfield 45, 3) := by decide +kernel
theorem dX0_closeExpression_29 : decode cX0_closeExpression 29 = .ok (.iconst 1, 1) := by decide +kernel
theorem dX0_closeExpression_30 : decode cX0_closeExpression 30 = .ok (.isub, 1) := by decide +kernel
theorem dX0_closeExpression_31 : decode cX0_closeExpression 31 = .ok (.putfield 45, 3) := by decide +kernel
theorem dX0_closeExpression_34 : decode cX0_closeExpression 34 = .ok (.aload_n 0, 1) := by decide +kernel
theorem dX0_closeExpression_35 : decode cX0_closeExpression 35 = .ok (.aload_n 0, 1) := by decide +kernel
theorem dX0_closeExpression_36 : decode cX0_closeExpression 36 = .ok (.getfield 20, 3) := by decide +kernel
theorem dX0_closeExpression_39 : decode cX0_closeExpression 39 = .ok (.aload_n 0, 1) := by decide +kernel
theorem dX0_closeExpression_40 : decode cX0_closeExpression 40 = .ok (.getfield 45, 3) := by decide +kernel
theorem dX0_closeExpression_43 : decode cX0_closeExpression 43 = .ok (.aaload, 1) := by decide +kernel
theorem dX0_closeExpression_44 : decode cX0_closeExpression 44 = .ok (.aload_n 1, 1) := by decide +kernel
theorem dX0_closeExpression_45 : decode cX0_closeExpression 45 = .ok (.getfield 52, 3) := by decide +kernel
theorem dX0_closeExpression_48 : decode cX0_closeExpression 48 = .ok (.getfield 76, 3) := by decide +kernel
theorem dX0_closeExpression_51 : decode cX0_closeExpression 51 = .ok (.aload_n 1, 1) := by decide +kernel
theorem dX0_closeExpression_52 : decode cX0_closeExpression 52 = .ok (.getfield 52, 3) := by decide +kernel
theorem dX0_closeExpression_55 : decode cX0_closeExpression 55 = .ok (.getfield 56, 3) := by decide +kernel
theorem dX0_closeExpression_58 : decode cX0_closeExpression 58 = .ok (.aload_n 1, 1) := by decide +kernel
theorem dX0_closeExpression_59 : decode cX0_closeExpression 59 = .ok (.getfield 52, 3) := by decide +kernel
theorem dX0_closeExpression_62 : decode cX0_closeExpression 62 = .ok (.getfield 73, 3) := by decide +kernel
theorem dX0_closeExpression_65 : decode cX0_closeExpression 65 = .ok (.invokevirtual 117, 3) := by decide +kernel
theorem dX0_closeExpression_68 : decode cX0_closeExpression 68 = .ok (.iconst 0, 1) := by decide +kernel
theorem dX0_closeExpression_69 : decode cX0_closeExpression 69 = .ok (.ireturn, 1) := by decide +kernel
theorem dX0_repeat_0 : decode cX0_repeat 0 = .ok (.aload_n 1, 1) := by decide +kernel
theorem dX0_repeat_1 : decode cX0_repeat 1 = .ok (.getfield 121, 3) := by decide +kernel
theorem dX0_repeat_4 : decode cX0_repeat 4 = .ok (.ifCond .ne 5, 3) := by decide +kernel
theorem dX0_repeat_7 : decode cX0_repeat 7 = .ok (.iconst 1, 1) := by decide +kernel
theorem dX0_repeat_8 : decode cX0_repeat 8 = .ok (.ireturn, 1) := by decide +kernel
theorem dX0_repeat_9 : decode cX0_repeat 9 = .ok (.aload_n 1, 1) := by decide +kernel
theorem dX0_repeat_10 : decode cX0_repeat 10 = .ok (.getfield 124, 3) := by decide +kernel
theorem dX0_repeat_13 : decode cX0_repeat 13 = .ok (.astore_n 3, 1) := by decide +kernel
theorem dX0_repeat_14 : decode cX0_repeat 14 = .ok (.iload_n 2, 1) := by decide +kernel
theorem dX0_repeat_15 : decode cX0_repeat 15 = .ok (.bipush 63, 2) := by decide +kernel
theorem dX0_repeat_17 : decode cX0_repeat 17 = .ok (.if_icmp .eq 15, 3) := by decide +kernel
theorem dX0_repeat_20 : decode cX0_repeat 20 = .ok (.aload_n 0, 1) := by decide +kernel
theorem dX0_repeat_21 : decode cX0_repeat 21 = .ok (.aload_n 3, 1) := by decide +kernel
theorem dX0_repeat_22 : decode cX0_repeat 22 = .ok (.getfield 73, 3) := by decide +kernel
theorem dX0_repeat_25 : decode cX0_repeat 25 = .ok (.aload_n 3, 1) := by decide +kernel
theorem dX0_repeat_26 : decode cX0_repeat 26 = .ok (.getfield 56, 3) := by decide +kernel
theorem dX0_repeat_29 : decode cX0_repeat 29 = .ok (.invokevirtual 127, 3) := by decide +kernel
theorem dX0_repeat_32 : decode cX0_repeat 32 = .ok (.iload_n 2, 1) := by decide +kernel
theorem dX0_repeat_33 : decode cX0_repeat 33 = .ok (.bipush 43, 2) := by decide +kernel
theorem dX0_repeat_35 : decode cX0_repeat 35 = .ok (.if_icmp .eq 8, 3) := by decide +kernel
theorem dX0_repeat_38 : decode cX0_repeat 38 = .ok (.aload_n 3, 1) := by decide +kernel
theorem dX0_repeat_39 : decode cX0_repeat 39 = .ok (.iconst 1, 1) := by decide +kernel
theorem dX0_repeat_40 : decode cX0_repeat 40 = .ok (.putfield 76, 3) := by decide +kernel
theorem dX0_repeat_43 : decode cX0_repeat 43 = .ok (.iconst 0, 1) := by decide +kernel
theorem dX0_repeat_44 : decode cX0_repeat 44 = .ok (.ireturn, 1) := by decide +kernel
theorem dX0_addThing_0 : decode cX0_addThing 0 = .ok (.aload_n 0, 1) := by decide +kernel
theorem dX0_addThing_1 : decode cX0_addThing 1 = .ok (.aload_n 1, 1) := by decide +kernel
theorem dX0_addThing_2 : decode cX0_addThing 2 = .ok (.invokevirtual 131, 3) := by decide +kernel
theorem dX0_addThing_5 : decode cX0_addThing 5 = .ok (.aload_n 1, 1) := by decide +kernel
theorem dX0_addThing_6 : decode cX0_addThing 6 = .ok (.getfield 124, 3) := by decide +kernel
theorem dX0_addThing_9 : decode cX0_addThing 9 = .ok (.iload_n 2, 1) := by decide +kernel
theorem dX0_addThing_10 : decode cX0_addThing 10 = .ok (.iload_n 3, 1) := by decide +kernel
theorem dX0_addThing_11 : decode cX0_addThing 11 = .ok (.iload 4, 2) := by decide +kernel
theorem dX0_addThing_13 : decode cX0_addThing 13 = .ok (.invokevirtual 134, 3) := by decide +kernel
theorem dX0_addThing_16 : decode cX0_addThing 16 = .ok (.aload_n 1, 1) := by decide +kernel
theorem dX0_addThing_17 : decode cX0_addThing 17 = .ok (.iconst 1, 1) := by decide +kernel
theorem dX0_addThing_18 : decode cX0_addThing 18 = .ok (.putfield 121, 3) := by decide +kernel
theorem dX0_addThing_21 : decode cX0_addThing 21 = .ok (.return_, 1) := by decide +kernel
theorem dX0_joinThing_0 : decode cX0_joinThing 0 = .ok (.aload_n 0, 1) := by decide +kernel
theorem dX0_joinThing_1 : decode cX0_joinThing 1 = .ok (.aload_n 1, 1) := by decide +kernel
theorem dX0_joinThing_2 : decode cX0_joinThing 2 = .ok (.getfield 138, 3) := by decide +kernel
theorem dX0_joinThing_5 : decode cX0_joinThing 5 = .ok (.getfield 73, 3) := by decide +kernel
theorem dX0_joinThing_8 : decode cX0_joinThing 8 = .ok (.aload_n 1, 1) := by decide +kernel
theorem dX0_joinThing_9 : decode cX0_joinThing 9 = .ok (.getfield 124, 3) := by decide +kernel
theorem dX0_joinThing_12 : decode cX0_joinThing 12 = .ok (.getfield 56, 3) := by decide +kernel
theorem dX0_joinThing_15 : decode cX0_joinThing 15 = .ok (.invokevirtual 127, 3) := by decide +kernel
theorem dX0_joinThing_18 : decode cX0_joinThing 18 = .ok (.aload_n 1, 1) := by decide +kernel
theorem dX0_joinThing_19 : decode cX0_joinThing 19 = .ok (.getfield 138, 3) := by decide +kernel
theorem dX0_joinThing_22 : decode cX0_joinThing 22 = .ok (.aload_n 1, 1) := by decide +kernel
theorem dX0_joinThing_23 : decode cX0_joinThing 23 = .ok (.getfield 124, 3) := by decide +kernel
theorem dX0_joinThing_26 : decode cX0_joinThing 26 = .ok (.invokevirtual 141, 3) := by decide +kernel
theorem dX0_joinThing_29 : decode cX0_joinThing 29 = .ok (.return_, 1) := by decide +kernel
theorem dX0_endPart_0 : decode cX0_endPart 0 = .ok (.aload_n 0, 1) := by decide +kernel
theorem dX0_endPart_1 : decode cX0_endPart 1 = .ok (.aload_n 1, 1) := by decide +kernel
theorem dX0_endPart_2 : decode cX0_endPart 2 = .ok (.invokevirtual 131, 3) := by decide +kernel
theorem dX0_endPart_5 : decode cX0_endPart 5 = .ok (.aload_n 1, 1) := by decide +kernel
theorem dX0_endPart_6 : decode cX0_endPart 6 = .ok (.getfield 52, 3) := by decide +kernel
theorem dX0_endPart_9 : decode cX0_endPart 9 = .ok (.aload_n 1, 1) := by decide +kernel
theorem dX0_endPart_10 : decode cX0_endPart 10 = .ok (.getfield 138, 3) := by decide +kernel
theorem dX0_endPart_13 : decode cX0_endPart 13 = .ok (.invokevirtual 145, 3) := by decide +kernel
theorem dX0_endPart_16 : decode cX0_endPart 16 = .ok (.aload_n 1, 1) := by decide +kernel
theorem dX0_endPart_17 : decode cX0_endPart 17 = .ok (.invokevirtual 148, 3) := by decide +kernel
theorem dX0_endPart_20 : decode cX0_endPart 20 = .ok (.return_, 1) := by decide +kernel
theorem dX0_link_0 : decode cX0_link 0 = .ok (.iconst 1, 1) := by decide +kernel
theorem dX0_link_1 : decode cX0_link 1 = .ok (.istore_n 3, 1) := by decide +kernel
theorem dX0_link_2 : decode cX0_link 2 = .ok (.iload_n 3, 1) := by decide +kernel
theorem dX0_link_3 : decode cX0_link 3 = .ok (.aload_n 0, 1) := by decide +kernel
theorem dX0_link_4 : decode cX0_link 4 = .ok (.getfield 61, 3) := by decide +kernel
theorem dX0_link_7 : decode cX0_link 7 = .ok (.if_icmp .ge 27, 3) := by decide +kernel
theorem dX0_link_10 : decode cX0_link 10 = .ok (.iload_n 1, 1) := by decide +kernel
theorem dX0_link_11 : decode cX0_link 11 = .ok (.iload_n 3, 1) := by decide +kernel
theorem dX0_link_12 : decode cX0_link 12 = .ok (.iushr, 1) := by decide +kernel
theorem dX0_link_13 : decode cX0_link 13 = .ok (.iconst 1, 1) := by decide +kernel
theorem dX0_link_14 : decode cX0_link 14 = .ok (.iand, 1) := by decide +kernel
theorem dX0_link_15 : decode cX0_link 15 = .ok (.ifCond .eq 13, 3) := by decide +kernel
theorem dX0_link_18 : decode cX0_link 18 = .ok (.aload_n 0, 1) := by decide +kernel
theorem dX0_link_19 : decode cX0_link 19 = .ok (.getfield 24, 3) := by decide +kernel
theorem dX0_link_22 : decode cX0_link 22 = .ok (.iload_n 3, 1) := by decide +kernel
theorem dX0_link_23 : decode cX0_link 23 = .ok (.dup2, 1) := by decide +kernel
theorem dX0_link_24 : decode cX0_link 24 = .ok (.iaload, 1) := by decide +kernel
theorem dX0_link_25 : decode cX0_link 25 = .ok (.iload_n 2, 1) := by decide +kernel
theorem dX0_link_26 : decode cX0_link 26 = .ok (.ior, 1) := by decide +kernel
theorem dX0_link_27 : decode cX0_link 27 = .ok (.iastore, 1) := by decide +kernel
theorem dX0_link_28 : decode cX0_link 28 = .ok (.iinc 3 1, 3) := by decide +kernel
theorem dX0_link_31 : decode cX0_link 31 = .ok (.goto (-29), 3) := by decide +kernel
theorem dX0_link_34 : decode cX0_link 34 = .ok (.return_, 1) := by decide +kernel
theorem dX0_takeInside_0 : decode cX0_takeInside 0 = .ok (.iload_n 1, 1) := by decide +kernel
theorem dX0_takeInside_1 : decode cX0_takeInside 1 = .ok (.invokestatic 97, 3) := by decide +kernel
theorem dX0_takeInside_4 : decode cX0_takeInside 4 = .ok (.istore_n 2, 1) := by decide +kernel
theorem dX0_takeInside_5 : decode cX0_takeInside 5 = .ok (.iload_n 2, 1) := by decide +kernel
theorem dX0_takeInside_6 : decode cX0_takeInside 6 = .ok (.iconst (-1), 1) := by decide +kernel
theorem dX0_takeInside_7 : decode cX0_takeInside 7 = .ok (.if_icmp .eq 25, 3) := by decide +kernel
theorem dX0_takeInside_10 : decode cX0_takeInside 10 = .ok (.aload_n 0, 1) := by decide +kernel
theorem dX0_takeInside_11 : decode cX0_takeInside 11 = .ok (.getfield 35, 3) := by decide +kernel
theorem dX0_takeInside_14 : decode cX0_takeInside 14 = .ok (.iconst 4, 1) := by decide +kernel
theorem dX0_takeInside_15 : decode cX0_takeInside 15 = .ok (.if_icmp .ne 11, 3) := by decide +kernel
theorem dX0_takeInside_18 : decode cX0_takeInside 18 = .ok (.aload_n 0, 1) := by decide +kernel
theorem dX0_takeInside_19 : decode cX0_takeInside 19 = .ok (.iload_n 2, 1) := by decide +kernel
theorem dX0_takeInside_20 : decode cX0_takeInside 20 = .ok (.invokevirtual 151, 3) := by decide +kernel
theorem dX0_takeInside_23 : decode cX0_takeInside 23 = .ok (.goto 8, 3) := by decide +kernel
theorem dX0_takeInside_26 : decode cX0_takeInside 26 = .ok (.aload_n 0, 1) := by decide +kernel
theorem dX0_takeInside_27 : decode cX0_takeInside 27 = .ok (.iload_n 2, 1) := by decide +kernel
theorem dX0_takeInside_28 : decode cX0_takeInside 28 = .ok (.invokevirtual 154, 3) := by decide +kernel
theorem dX0_takeInside_31 : decode cX0_takeInside 31 = .ok (.ireturn, 1) := by decide +kernel
theorem dX0_takeInside_32 : decode cX0_takeInside 32 = .ok (.iload_n 1, 1) := by decide +kernel
theorem dX0_takeInside_33 : decode cX0_takeInside 33 = .ok (.bipush 94, 2) := by decide +kernel
theorem dX0_takeInside_35 : decode cX0_takeInside 35 = .ok (.if_icmp .ne 23, 3) := by decide +kernel
theorem dX0_takeInside_38 : decode cX0_takeInside 38 = .ok (.aload_n 0, 1) := by decide +kernel
theorem dX0_takeInside_39 : decode cX0_takeInside 39 = .ok (.getfield 35, 3) := by decide +kernel
theorem dX0_takeInside_42 : decode cX0_takeInside 42 = .ok (.iconst 1, 1) := by decide +kernel
theorem dX0_takeInside_43 : decode cX0_takeInside 43 = .ok (.if_icmp .ne 15, 3) := by decide +kernel
theorem dX0_takeInside_46 : decode cX0_takeInside 46 = .ok (.aload_n 0, 1) := by decide +kernel
theorem dX0_takeInside_47 : decode cX0_takeInside 47 = .ok (.iconst 1, 1) := by decide +kernel
theorem dX0_takeInside_48 : decode cX0_takeInside 48 = .ok (.putfield 103, 3) := by decide +kernel
theorem dX0_takeInside_51 : decode cX0_takeInside 51 = .ok (.aload_n 0, 1) := by decide +kernel
theorem dX0_takeInside_52 : decode cX0_takeInside 52 = .ok (.iconst 2, 1) := by decide +kernel
theorem dX0_takeInside_53 : decode cX0_takeInside 53 = .ok (.putfield 35, 3) := by decide +kernel
theorem dX0_takeInside_56 : decode cX0_takeInside 56 = .ok (.iconst 0, 1) := by decide +kernel
theorem dX0_takeInside_57 : decode cX0_takeInside 57 = .ok (.ireturn, 1) := by decide +kernel
theorem dX0_takeInside_58 : decode cX0_takeInside 58 = .ok (.iload_n 1, 1) := by decide +kernel
theorem dX0_takeInside_59 : decode cX0_takeInside 59 = .ok (.bipush 45, 2) := by decide +kernel
theorem dX0_takeInside_61 : decode cX0_takeInside 61 = .ok (.if_icmp .ne 18, 3) := by decide +kernel
theorem dX0_takeInside_64 : decode cX0_takeInside 64 = .ok (.aload_n 0, 1) := by decide +kernel
theorem dX0_takeInside_65 : decode cX0_takeInside 65 = .ok (.getfield 35, 3) := by decide +kernel
theorem dX0_takeInside_68 : decode cX0_takeInside 68 = .ok (.iconst 3, 1) := by decide +kernel
theorem dX0_takeInside_69 : decode cX0_takeInside 69 = .ok (.if_icmp .ne 10, 3) := by decide +kernel
theorem dX0_takeInside_72 : decode cX0_takeInside 72 = .ok (.aload_n 0, 1) := by decide +kernel
theorem dX0_takeInside_73 : decode cX0_takeInside 73 = .ok (.iconst 4, 1) := by decide +kernel
theorem dX0_takeInside_74 : decode cX0_takeInside 74 = .ok (.putfield 35, 3) := by decide +kernel
theorem dX0_takeInside_77 : decode cX0_takeInside 77 = .ok (.iconst 0, 1) := by decide +kernel
theorem dX0_takeInside_78 : decode cX0_takeInside 78 = .ok (.ireturn, 1) := by decide +kernel
theorem dX0_takeInside_79 : decode cX0_takeInside 79 = .ok (.iload_n 1, 1) := by decide +kernel
theorem dX0_takeInside_80 : decode cX0_takeInside 80 = .ok (.bipush 93, 2) := by decide +kernel
theorem dX0_takeInside_82 : decode cX0_takeInside 82 = .ok (.if_icmp .ne 25, 3) := by decide +kernel
theorem dX0_takeInside_85 : decode cX0_takeInside 85 = .ok (.aload_n 0, 1) := by decide +kernel
theorem dX0_takeInside_86 : decode cX0_takeInside 86 = .ok (.getfield 35, 3) := by decide +kernel
theorem dX0_takeInside_89 : decode cX0_takeInside 89 = .ok (.iconst 3, 1) := by decide +kernel
theorem dX0_takeInside_90 : decode cX0_takeInside 90 = .ok (.if_icmp .eq 11, 3) := by decide +kernel
theorem dX0_takeInside_93 : decode cX0_takeInside 93 = .ok (.aload_n 0, 1) := by decide +kernel
theorem dX0_takeInside_94 : decode cX0_takeInside 94 = .ok (.getfield 35, 3) := by decide +kernel
theorem dX0_takeInside_97 : decode cX0_takeInside 97 = .ok (.iconst 5, 1) := by decide +kernel
theorem dX0_takeInside_98 : decode cX0_takeInside 98 = .ok (.if_icmp .ne 9, 3) := by decide +kernel
theorem dX0_takeInside_101 : decode cX0_takeInside 101 = .ok (.aload_n 0, 1) := by decide +kernel
theorem dX0_takeInside_102 : decode cX0_takeInside 102 = .ok (.invokevirtual 157, 3) := by decide +kernel
theorem dX0_takeInside_105 : decode cX0_takeInside 105 = .ok (.iconst 0, 1) := by decide +kernel
theorem dX0_takeInside_106 : decode cX0_takeInside 106 = .ok (.ireturn, 1) := by decide +kernel
theorem dX0_takeInside_107 : decode cX0_takeInside 107 = .ok (.iconst 1, 1) := by decide +kernel
theorem dX0_takeInside_108 : decode cX0_takeInside 108 = .ok (.ireturn, 1) := by decide +kernel
theorem dX0_addLetter_0 : decode cX0_addLetter 0 = .ok (.aload_n 0, 1) := by decide +kernel
theorem dX0_addLetter_1 : decode cX0_addLetter 1 = .ok (.getfield 28, 3) := by decide +kernel
theorem dX0_addLetter_4 : decode cX0_addLetter 4 = .ok (.aload_n 0, 1) := by decide +kernel
theorem dX0_addLetter_5 : decode cX0_addLetter 5 = .ok (.getfield 61, 3) := by decide +kernel
theorem dX0_addLetter_8 : decode cX0_addLetter 8 = .ok (.iconst 1, 1) := by decide +kernel
theorem dX0_addLetter_9 : decode cX0_addLetter 9 = .ok (.isub, 1) := by decide +kernel
theorem dX0_addLetter_10 : decode cX0_addLetter 10 = .ok (.dup2, 1) := by decide +kernel
theorem dX0_addLetter_11 : decode cX0_addLetter 11 = .ok (.iaload, 1) := by decide +kernel
theorem dX0_addLetter_12 : decode cX0_addLetter 12 = .ok (.iconst 1, 1) := by decide +kernel
theorem dX0_addLetter_13 : decode cX0_addLetter 13 = .ok (.iload_n 1, 1) := by decide +kernel
theorem dX0_addLetter_14 : decode cX0_addLetter 14 = .ok (.ishl, 1) := by decide +kernel
theorem dX0_addLetter_15 : decode cX0_addLetter 15 = .ok (.ior, 1) := by decide +kernel
theorem dX0_addLetter_16 : decode cX0_addLetter 16 = .ok (.iastore, 1) := by decide +kernel
theorem dX0_addLetter_17 : decode cX0_addLetter 17 = .ok (.aload_n 0, 1) := by decide +kernel
theorem dX0_addLetter_18 : decode cX0_addLetter 18 = .ok (.iload_n 1, 1) := by decide +kernel
theorem dX0_addLetter_19 : decode cX0_addLetter 19 = .ok (.putfield 160, 3) := by decide +kernel
theorem dX0_addLetter_22 : decode cX0_addLetter 22 = .ok (.aload_n 0, 1) := by decide +kernel
theorem dX0_addLetter_23 : decode cX0_addLetter 23 = .ok (.iconst 3, 1) := by decide +kernel
theorem dX0_addLetter_24 : decode cX0_addLetter 24 = .ok (.putfield 35, 3) := by decide +kernel
theorem dX0_addLetter_27 : decode cX0_addLetter 27 = .ok (.iconst 0, 1) := by decide +kernel
theorem dX0_addLetter_28 : decode cX0_addLetter 28 = .ok (.ireturn, 1) := by decide +kernel
theorem dX0_addRange_0 : decode cX0_addRange 0 = .ok (.iload_n 1, 1) := by decide +kernel
theorem dX0_addRange_1 : decode cX0_addRange 1 = .ok (.aload_n 0, 1) := by decide +kernel
theorem dX0_addRange_2 : decode cX0_addRange 2 = .ok (.getfield 160, 3) := by decide +kernel
theorem dX0_addRange_5 : decode cX0_addRange 5 = .ok (.if_icmp .ge 5, 3) := by decide +kernel
theorem dX0_addRange_8 : decode cX0_addRange 8 = .ok (.iconst 4, 1) := by decide +kernel
theorem dX0_addRange_9 : decode cX0_addRange 9 = .ok (.ireturn, 1) := by decide +kernel
theorem dX0_addRange_10 : decode cX0_addRange 10 = .ok (.aload_n 0, 1) := by decide +kernel
theorem dX0_addRange_11 : decode cX0_addRange 11 = .ok (.getfield 160, 3) := by decide +kernel
theorem dX0_addRange_14 : decode cX0_addRange 14 = .ok (.istore_n 2, 1) := by decide +kernel
theorem dX0_addRange_15 : decode cX0_addRange 15 = .ok (.iload_n 2, 1) := by decide +kernel
theorem dX0_addRange_16 : decode cX0_addRange 16 = .ok (.iload_n 1, 1) := by decide +kernel
theorem dX0_addRange_17 : decode cX0_addRange 17 = .ok (.if_icmp .gt 26, 3) := by decide +kernel
theorem dX0_addRange_20 : decode cX0_addRange 20 = .ok (.aload_n 0, 1) := by decide +kernel
theorem dX0_addRange_21 : decode cX0_addRange 21 = .ok (.getfield 28, 3) := by decide +kernel
theorem dX0_addRange_24 : decode cX0_addRange 24 = .ok (.aload_n 0, 1) := by decide +kernel
theorem dX0_addRange_25 : decode cX0_addRange 25 = .ok (.getfield 61, 3) := by decide +kernel
theorem dX0_addRange_28 : decode cX0_addRange 28 = .ok (.iconst 1, 1) := by decide +kernel
theorem dX0_addRange_29 : decode cX0_addRange 29 = .ok (.isub, 1) := by decide +kernel
theorem dX0_addRange_30 : decode cX0_addRange 30 = .ok (.dup2, 1) := by decide +kernel
theorem dX0_addRange_31 : decode cX0_addRange 31 = .ok (.iaload, 1) := by decide +kernel
theorem dX0_addRange_32 : decode cX0_addRange 32 = .ok (.iconst 1, 1) := by decide +kernel
theorem dX0_addRange_33 : decode cX0_addRange 33 = .ok (.iload_n 2, 1) := by decide +kernel
theorem dX0_addRange_34 : decode cX0_addRange 34 = .ok (.ishl, 1) := by decide +kernel
theorem dX0_addRange_35 : decode cX0_addRange 35 = .ok (.ior, 1) := by decide +kernel
theorem dX0_addRange_36 : decode cX0_addRange 36 = .ok (.iastore, 1) := by decide +kernel
theorem dX0_addRange_37 : decode cX0_addRange 37 = .ok (.iinc 2 1, 3) := by decide +kernel
theorem dX0_addRange_40 : decode cX0_addRange 40 = .ok (.goto (-25), 3) := by decide +kernel
theorem dX0_addRange_43 : decode cX0_addRange 43 = .ok (.aload_n 0, 1) := by decide +kernel
theorem dX0_addRange_44 : decode cX0_addRange 44 = .ok (.iconst 5, 1) := by decide +kernel
theorem dX0_addRange_45 : decode cX0_addRange 45 = .ok (.putfield 35, 3) := by decide +kernel
theorem dX0_addRange_48 : decode cX0_addRange 48 = .ok (.iconst 0, 1) := by decide +kernel
theorem dX0_addRange_49 : decode cX0_addRange 49 = .ok (.ireturn, 1) := by decide +kernel
theorem dX0_closeBracket_0 : decode cX0_closeBracket 0 = .ok (.aload_n 0, 1) := by decide +kernel
theorem dX0_closeBracket_1 : decode cX0_closeBracket 1 = .ok (.getfield 103, 3) := by decide +kernel
theorem dX0_closeBracket_4 : decode cX0_closeBracket 4 = .ok (.ifCond .eq 20, 3) := by decide +kernel
theorem dX0_closeBracket_7 : decode cX0_closeBracket 7 = .ok (.aload_n 0, 1) := by decide +kernel
theorem dX0_closeBracket_8 : decode cX0_closeBracket 8 = .ok (.getfield 28, 3) := by decide +kernel
theorem dX0_closeBracket_11 : decode cX0_closeBracket 11 = .ok (.aload_n 0, 1) := by decide +kernel
theorem dX0_closeBracket_12 : decode cX0_closeBracket 12 = .ok (.getfield 61, 3) := by decide +kernel
theorem dX0_closeBracket_15 : decode cX0_closeBracket 15 = .ok (.iconst 1, 1) := by decide +kernel
theorem dX0_closeBracket_16 : decode cX0_closeBracket 16 = .ok (.isub, 1) := by decide +kernel
theorem dX0_closeBracket_17 : decode cX0_closeBracket 17 = .ok (.dup2, 1) := by decide +kernel
theorem dX0_closeBracket_18 : decode cX0_closeBracket 18 = .ok (.iaload, 1) := by decide +kernel
theorem dX0_closeBracket_19 : decode cX0_closeBracket 19 = .ok (.sipush 255, 3) := by decide +kernel
theorem dX0_closeBracket_22 : decode cX0_closeBracket 22 = .ok (.ixor, 1) := by decide +kernel
theorem dX0_closeBracket_23 : decode cX0_closeBracket 23 = .ok (.iastore, 1) := by decide +kernel
theorem dX0_closeBracket_24 : decode cX0_closeBracket 24 = .ok (.aload_n 0, 1) := by decide +kernel
theorem dX0_closeBracket_25 : decode cX0_closeBracket 25 = .ok (.iconst 0, 1) := by decide +kernel
theorem dX0_closeBracket_26 : decode cX0_closeBracket 26 = .ok (.putfield 35, 3) := by decide +kernel
theorem dX0_closeBracket_29 : decode cX0_closeBracket 29 = .ok (.return_, 1) := by decide +kernel
theorem dX1_init_0 : decode cX1_init 0 = .ok (.aload_n 0, 1) := by decide +kernel
theorem dX1_init_1 : decode cX1_init 1 = .ok (.invokespecial 1, 3) := by decide +kernel
theorem dX1_init_4 : decode cX1_init 4 = .ok (.aload_n 0, 1) := by decide +kernel
theorem dX1_init_5 : decode cX1_init 5 = .ok (.new 7, 3) := by decide +kernel
theorem dX1_init_8 : decode cX1_init 8 = .ok (.dup, 1) := by decide +kernel
theorem dX1_init_9 : decode cX1_init 9 = .ok (.invokespecial 9, 3) := by decide +kernel
theorem dX1_init_12 : decode cX1_init 12 = .ok (.putfield 10, 3) := by decide +kernel
theorem dX1_init_15 : decode cX1_init 15 = .ok (.aload_n 0, 1) := by decide +kernel
theorem dX1_init_16 : decode cX1_init 16 = .ok (.new 7, 3) := by decide +kernel
theorem dX1_init_19 : decode cX1_init 19 = .ok (.dup, 1) := by decide +kernel
theorem dX1_init_20 : decode cX1_init 20 = .ok (.invokespecial 9, 3) := by decide +kernel
theorem dX1_init_23 : decode cX1_init 23 = .ok (.putfield 16, 3) := by decide +kernel
theorem dX1_init_26 : decode cX1_init 26 = .ok (.aload_n 0, 1) := by decide +kernel
theorem dX1_init_27 : decode cX1_init 27 = .ok (.new 7, 3) := by decide +kernel
theorem dX1_init_30 : decode cX1_init 30 = .ok (.dup, 1) := by decide +kernel
theorem dX1_init_31 : decode cX1_init 31 = .ok (.invokespecial 9, 3) := by decide +kernel
theorem dX1_init_34 : decode cX1_init 34 = .ok (.putfield 19, 3) := by decide +kernel
theorem dX1_init_37 : decode cX1_init 37 = .ok (.return_, 1) := by decide +kernel
theorem dX1_beginExpression_0 : decode cX1_beginExpression 0 = .ok (.aload_n 0, 1) := by decide +kernel
theorem dX1_beginExpression_1 : decode cX1_beginExpression 1 = .ok (.getfield 10, 3) := by decide +kernel
theorem dX1_beginExpression_4 : decode cX1_beginExpression 4 = .ok (.iconst 0, 1) := by decide +kernel
theorem dX1_beginExpression_5 : decode cX1_beginExpression 5 = .ok (.iconst 0, 1) := by decide +kernel
theorem dX1_beginExpression_6 : decode cX1_beginExpression 6 = .ok (.iconst 0, 1) := by decide +kernel
theorem dX1_beginExpression_7 : decode cX1_beginExpression 7 = .ok (.invokevirtual 22, 3) := by decide +kernel
theorem dX1_beginExpression_10 : decode cX1_beginExpression 10 = .ok (.aload_n 0, 1) := by decide +kernel
theorem dX1_beginExpression_11 : decode cX1_beginExpression 11 = .ok (.invokevirtual 26, 3) := by decide +kernel
theorem dX1_beginExpression_14 : decode cX1_beginExpression 14 = .ok (.return_, 1) := by decide +kernel
theorem dX1_beginPart_0 : decode cX1_beginPart 0 = .ok (.aload_n 0, 1) := by decide +kernel
theorem dX1_beginPart_1 : decode cX1_beginPart 1 = .ok (.getfield 16, 3) := by decide +kernel
theorem dX1_beginPart_4 : decode cX1_beginPart 4 = .ok (.iconst 1, 1) := by decide +kernel
theorem dX1_beginPart_5 : decode cX1_beginPart 5 = .ok (.iconst 0, 1) := by decide +kernel
theorem dX1_beginPart_6 : decode cX1_beginPart 6 = .ok (.iconst 0, 1) := by decide +kernel
theorem dX1_beginPart_7 : decode cX1_beginPart 7 = .ok (.invokevirtual 22, 3) := by decide +kernel
theorem dX1_beginPart_10 : decode cX1_beginPart 10 = .ok (.aload_n 0, 1) := by decide +kernel
theorem dX1_beginPart_11 : decode cX1_beginPart 11 = .ok (.getfield 19, 3) := by decide +kernel
theorem dX1_beginPart_14 : decode cX1_beginPart 14 = .ok (.iconst 1, 1) := by decide +kernel
theorem dX1_beginPart_15 : decode cX1_beginPart 15 = .ok (.iconst 0, 1) := by decide +kernel
theorem dX1_beginPart_16 : decode cX1_beginPart 16 = .ok (.iconst 0, 1) := by decide +kernel
theorem dX1_beginPart_17 : decode cX1_beginPart 17 = .ok (.invokevirtual 22, 3) := by decide +kernel
theorem dX1_beginPart_20 : decode cX1_beginPart 20 = .ok (.aload_n 0, 1) := by decide +kernel
theorem dX1_beginPart_21 : decode cX1_beginPart 21 = .ok (.iconst 0, 1) := by decide +kernel
theorem dX1_beginPart_22 : decode cX1_beginPart 22 = .ok (.putfield 29, 3) := by decide +kernel
theorem dX1_beginPart_25 : decode cX1_beginPart 25 = .ok (.return_, 1) := by decide +kernel
theorem dX3_init_0 : decode cX3_init 0 = .ok (.aload_n 0, 1) := by decide +kernel
theorem dX3_init_1 : decode cX3_init 1 = .ok (.invokespecial 1, 3) := by decide +kernel
theorem dX3_init_4 : decode cX3_init 4 = .ok (.return_, 1) := by decide +kernel
theorem dX3_put_0 : decode cX3_put 0 = .ok (.aload_n 0, 1) := by decide +kernel
theorem dX3_put_1 : decode cX3_put 1 = .ok (.iload_n 1, 1) := by decide +kernel
theorem dX3_put_2 : decode cX3_put 2 = .ok (.putfield 7, 3) := by decide +kernel
theorem dX3_put_5 : decode cX3_put 5 = .ok (.aload_n 0, 1) := by decide +kernel
theorem dX3_put_6 : decode cX3_put 6 = .ok (.iload_n 2, 1) := by decide +kernel
theorem dX3_put_7 : decode cX3_put 7 = .ok (.putfield 13, 3) := by decide +kernel
theorem dX3_put_10 : decode cX3_put 10 = .ok (.aload_n 0, 1) := by decide +kernel
theorem dX3_put_11 : decode cX3_put 11 = .ok (.iload_n 3, 1) := by decide +kernel
theorem dX3_put_12 : decode cX3_put 12 = .ok (.putfield 17, 3) := by decide +kernel
theorem dX3_put_15 : decode cX3_put 15 = .ok (.return_, 1) := by decide +kernel
theorem dX3_addPart_0 : decode cX3_addPart 0 = .ok (.aload_n 0, 1) := by decide +kernel
theorem dX3_addPart_1 : decode cX3_addPart 1 = .ok (.aload_n 0, 1) := by decide +kernel
theorem dX3_addPart_2 : decode cX3_addPart 2 = .ok (.getfield 7, 3) := by decide +kernel
theorem dX3_addPart_5 : decode cX3_addPart 5 = .ok (.ifCond .ne 10, 3) := by decide +kernel
theorem dX3_addPart_8 : decode cX3_addPart 8 = .ok (.aload_n 1, 1) := by decide +kernel
theorem dX3_addPart_9 : decode cX3_addPart 9 = .ok (.getfield 7, 3) := by decide +kernel
theorem dX3_addPart_12 : decode cX3_addPart 12 = .ok (.ifCond .eq 7, 3) := by decide +kernel
theorem dX3_addPart_15 : decode cX3_addPart 15 = .ok (.iconst 1, 1) := by decide +kernel
theorem dX3_addPart_16 : decode cX3_addPart 16 = .ok (.goto 4, 3) := by decide +kernel
theorem dX3_addPart_19 : decode cX3_addPart 19 = .ok (.iconst 0, 1) := by decide +kernel
theorem dX3_addPart_20 : decode cX3_addPart 20 = .ok (.aload_n 0, 1) := by decide +kernel
theorem dX3_addPart_21 : decode cX3_addPart 21 = .ok (.getfield 13, 3) := by decide +kernel
theorem dX3_addPart_24 : decode cX3_addPart 24 = .ok (.aload_n 1, 1) := by decide +kernel
theorem dX3_addPart_25 : decode cX3_addPart 25 = .ok (.getfield 13, 3) := by decide +kernel
theorem dX3_addPart_28 : decode cX3_addPart 28 = .ok (.ior, 1) := by decide +kernel
theorem dX3_addPart_29 : decode cX3_addPart 29 = .ok (.aload_n 0, 1) := by decide +kernel
theorem dX3_addPart_30 : decode cX3_addPart 30 = .ok (.getfield 17, 3) := by decide +kernel
theorem dX3_addPart_33 : decode cX3_addPart 33 = .ok (.aload_n 1, 1) := by decide +kernel
theorem dX3_addPart_34 : decode cX3_addPart 34 = .ok (.getfield 17, 3) := by decide +kernel
theorem dX3_addPart_37 : decode cX3_addPart 37 = .ok (.ior, 1) := by decide +kernel
theorem dX3_addPart_38 : decode cX3_addPart 38 = .ok (.invokevirtual 20, 3) := by decide +kernel
theorem dX3_addPart_41 : decode cX3_addPart 41 = .ok (.return_, 1) := by decide +kernel
theorem dX3_append_0 : decode cX3_append 0 = .ok (.aload_n 0, 1) := by decide +kernel
theorem dX3_append_1 : decode cX3_append 1 = .ok (.dup, 1) := by decide +kernel
theorem dX3_append_2 : decode cX3_append 2 = .ok (.getfield 13, 3) := by decide +kernel
theorem dX3_append_5 : decode cX3_append 5 = .ok (.aload_n 0, 1) := by decide +kernel
theorem dX3_append_6 : decode cX3_append 6 = .ok (.getfield 7, 3) := by decide +kernel
theorem dX3_append_9 : decode cX3_append 9 = .ok (.ifCond .eq 10, 3) := by decide +kernel
theorem dX3_append_12 : decode cX3_append 12 = .ok (.aload_n 1, 1) := by decide +kernel
theorem dX3_append_13 : decode cX3_append 13 = .ok (.getfield 13, 3) := by decide +kernel
theorem dX3_append_16 : decode cX3_append 16 = .ok (.goto 4, 3) := by decide +kernel
theorem dX3_append_19 : decode cX3_append 19 = .ok (.iconst 0, 1) := by decide +kernel
theorem dX3_append_20 : decode cX3_append 20 = .ok (.ior, 1) := by decide +kernel
theorem dX3_append_21 : decode cX3_append 21 = .ok (.putfield 13, 3) := by decide +kernel
theorem dX3_append_24 : decode cX3_append 24 = .ok (.aload_n 0, 1) := by decide +kernel
theorem dX3_append_25 : decode cX3_append 25 = .ok (.aload_n 1, 1) := by decide +kernel
theorem dX3_append_26 : decode cX3_append 26 = .ok (.getfield 17, 3) := by decide +kernel
theorem dX3_append_29 : decode cX3_append 29 = .ok (.aload_n 1, 1) := by decide +kernel
theorem dX3_append_30 : decode cX3_append 30 = .ok (.getfield 7, 3) := by decide +kernel
theorem dX3_append_33 : decode cX3_append 33 = .ok (.ifCond .eq 10, 3) := by decide +kernel
theorem dX3_append_36 : decode cX3_append 36 = .ok (.aload_n 0, 1) := by decide +kernel
theorem dX3_append_37 : decode cX3_append 37 = .ok (.getfield 17, 3) := by decide +kernel
theorem dX3_append_40 : decode cX3_append 40 = .ok (.goto 4, 3) := by decide +kernel
theorem dX3_append_43 : decode cX3_append 43 = .ok (.iconst 0, 1) := by decide +kernel
theorem dX3_append_44 : decode cX3_append 44 = .ok (.ior, 1) := by decide +kernel
theorem dX3_append_45 : decode cX3_append 45 = .ok (.putfield 17, 3) := by decide +kernel
theorem dX3_append_48 : decode cX3_append 48 = .ok (.aload_n 0, 1) := by decide +kernel
theorem dX3_append_49 : decode cX3_append 49 = .ok (.aload_n 0, 1) := by decide +kernel
theorem dX3_append_50 : decode cX3_append 50 = .ok (.getfield 7, 3) := by decide +kernel
theorem dX3_append_53 : decode cX3_append 53 = .ok (.ifCond .eq 14, 3) := by decide +kernel
theorem dX3_append_56 : decode cX3_append 56 = .ok (.aload_n 1, 1) := by decide +kernel
theorem dX3_append_57 : decode cX3_append 57 = .ok (.getfield 7, 3) := by decide +kernel
theorem dX3_append_60 : decode cX3_append 60 = .ok (.ifCond .eq 7, 3) := by decide +kernel
theorem dX3_append_63 : decode cX3_append 63 = .ok (.iconst 1, 1) := by decide +kernel
theorem dX3_append_64 : decode cX3_append 64 = .ok (.goto 4, 3) := by decide +kernel
theorem dX3_append_67 : decode cX3_append 67 = .ok (.iconst 0, 1) := by decide +kernel
theorem dX3_append_68 : decode cX3_append 68 = .ok (.putfield 7, 3) := by decide +kernel
theorem dX3_append_71 : decode cX3_append 71 = .ok (.return_, 1) := by decide +kernel
