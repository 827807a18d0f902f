theorem dX6_init_0 : decode cX6_init 0 = .ok (.aload_n 0, 1) := by decide +kernel
theorem dX6_init_1 : decode cX6_init 1 = .ok (.invokespecial 3, 3) := by decide +kernel
theorem dX6_init_4 : decode cX6_init 4 = .ok (.aload_n 0, 1) := by decide +kernel
theorem dX6_init_5 : decode cX6_init 5 = .ok (.bipush 8, 2) := by decide +kernel
theorem dX6_init_7 : decode cX6_init 7 = .ok (.anewarray 9, 3) := by decide +kernel
theorem dX6_init_10 : decode cX6_init 10 = .ok (.putfield 11, 3) := by decide +kernel
theorem dX6_init_13 : decode cX6_init 13 = .ok (.aload_n 0, 1) := by decide +kernel
theorem dX6_init_14 : decode cX6_init 14 = .ok (.new 9, 3) := by decide +kernel
theorem dX6_init_17 : decode cX6_init 17 = .ok (.dup, 1) := by decide +kernel
theorem dX6_init_18 : decode cX6_init 18 = .ok (.invokespecial 15, 3) := by decide +kernel
theorem dX6_init_21 : decode cX6_init 21 = .ok (.putfield 16, 3) := by decide +kernel
theorem dX6_init_24 : decode cX6_init 24 = .ok (.aload_n 0, 1) := by decide +kernel
theorem dX6_init_25 : decode cX6_init 25 = .ok (.sipush 200, 3) := by decide +kernel
theorem dX6_init_28 : decode cX6_init 28 = .ok (.newarray .byte, 2) := by decide +kernel
theorem dX6_init_30 : decode cX6_init 30 = .ok (.putfield 20, 3) := by decide +kernel
theorem dX6_init_33 : decode cX6_init 33 = .ok (.aload_n 0, 1) := by decide +kernel
theorem dX6_init_34 : decode cX6_init 34 = .ok (.iconst 0, 1) := by decide +kernel
theorem dX6_init_35 : decode cX6_init 35 = .ok (.putfield 24, 3) := by decide +kernel
theorem dX6_init_38 : decode cX6_init 38 = .ok (.aload_n 0, 1) := by decide +kernel
theorem dX6_init_39 : decode cX6_init 39 = .ok (.new 28, 3) := by decide +kernel
theorem dX6_init_42 : decode cX6_init 42 = .ok (.dup, 1) := by decide +kernel
theorem dX6_init_43 : decode cX6_init 43 = .ok (.invokespecial 30, 3) := by decide +kernel
theorem dX6_init_46 : decode cX6_init 46 = .ok (.putfield 31, 3) := by decide +kernel
theorem dX6_init_49 : decode cX6_init 49 = .ok (.aload_n 0, 1) := by decide +kernel
theorem dX6_init_50 : decode cX6_init 50 = .ok (.new 35, 3) := by decide +kernel
theorem dX6_init_53 : decode cX6_init 53 = .ok (.dup, 1) := by decide +kernel
theorem dX6_init_54 : decode cX6_init 54 = .ok (.invokespecial 37, 3) := by decide +kernel
theorem dX6_init_57 : decode cX6_init 57 = .ok (.putfield 38, 3) := by decide +kernel
theorem dX6_init_60 : decode cX6_init 60 = .ok (.aload_n 0, 1) := by decide +kernel
theorem dX6_init_61 : decode cX6_init 61 = .ok (.new 42, 3) := by decide +kernel
theorem dX6_init_64 : decode cX6_init 64 = .ok (.dup, 1) := by decide +kernel
theorem dX6_init_65 : decode cX6_init 65 = .ok (.invokespecial 44, 3) := by decide +kernel
theorem dX6_init_68 : decode cX6_init 68 = .ok (.putfield 45, 3) := by decide +kernel
theorem dX6_init_71 : decode cX6_init 71 = .ok (.iconst 0, 1) := by decide +kernel
theorem dX6_init_72 : decode cX6_init 72 = .ok (.istore_n 1, 1) := by decide +kernel
theorem dX6_init_73 : decode cX6_init 73 = .ok (.iload_n 1, 1) := by decide +kernel
theorem dX6_init_74 : decode cX6_init 74 = .ok (.bipush 8, 2) := by decide +kernel
theorem dX6_init_76 : decode cX6_init 76 = .ok (.if_icmp .ge 22, 3) := by decide +kernel
theorem dX6_init_79 : decode cX6_init 79 = .ok (.aload_n 0, 1) := by decide +kernel
theorem dX6_init_80 : decode cX6_init 80 = .ok (.getfield 11, 3) := by decide +kernel
theorem dX6_init_83 : decode cX6_init 83 = .ok (.iload_n 1, 1) := by decide +kernel
theorem dX6_init_84 : decode cX6_init 84 = .ok (.new 9, 3) := by decide +kernel
theorem dX6_init_87 : decode cX6_init 87 = .ok (.dup, 1) := by decide +kernel
theorem dX6_init_88 : decode cX6_init 88 = .ok (.invokespecial 15, 3) := by decide +kernel
theorem dX6_init_91 : decode cX6_init 91 = .ok (.aastore, 1) := by decide +kernel
theorem dX6_init_92 : decode cX6_init 92 = .ok (.iinc 1 1, 3) := by decide +kernel
theorem dX6_init_95 : decode cX6_init 95 = .ok (.goto (-22), 3) := by decide +kernel
theorem dX6_init_98 : decode cX6_init 98 = .ok (.return_, 1) := by decide +kernel
theorem dX6_feed_0 : decode cX6_feed 0 = .ok (.iload_n 1, 1) := by decide +kernel
theorem dX6_feed_1 : decode cX6_feed 1 = .ok (.iconst 1, 1) := by decide +kernel
theorem dX6_feed_2 : decode cX6_feed 2 = .ok (.if_icmp .lt 9, 3) := by decide +kernel
theorem dX6_feed_5 : decode cX6_feed 5 = .ok (.iload_n 1, 1) := by decide +kernel
theorem dX6_feed_6 : decode cX6_feed 6 = .ok (.bipush 8, 2) := by decide +kernel
theorem dX6_feed_8 : decode cX6_feed 8 = .ok (.if_icmp .le 13, 3) := by decide +kernel
theorem dX6_feed_11 : decode cX6_feed 11 = .ok (.new 49, 3) := by decide +kernel
theorem dX6_feed_14 : decode cX6_feed 14 = .ok (.dup, 1) := by decide +kernel
theorem dX6_feed_15 : decode cX6_feed 15 = .ok (.ldc 51, 2) := by decide +kernel
theorem dX6_feed_17 : decode cX6_feed 17 = .ok (.invokespecial 53, 3) := by decide +kernel
theorem dX6_feed_20 : decode cX6_feed 20 = .ok (.athrow, 1) := by decide +kernel
theorem dX6_feed_21 : decode cX6_feed 21 = .ok (.aload_n 0, 1) := by decide +kernel
theorem dX6_feed_22 : decode cX6_feed 22 = .ok (.getfield 24, 3) := by decide +kernel
theorem dX6_feed_25 : decode cX6_feed 25 = .ok (.iload_n 1, 1) := by decide +kernel
theorem dX6_feed_26 : decode cX6_feed 26 = .ok (.iadd, 1) := by decide +kernel
theorem dX6_feed_27 : decode cX6_feed 27 = .ok (.sipush 200, 3) := by decide +kernel
theorem dX6_feed_30 : decode cX6_feed 30 = .ok (.if_icmp .le 5, 3) := by decide +kernel
theorem dX6_feed_33 : decode cX6_feed 33 = .ok (.iconst (-1), 1) := by decide +kernel
theorem dX6_feed_34 : decode cX6_feed 34 = .ok (.ireturn, 1) := by decide +kernel
theorem dX6_feed_35 : decode cX6_feed 35 = .ok (.iconst 0, 1) := by decide +kernel
theorem dX6_feed_36 : decode cX6_feed 36 = .ok (.istore 4, 2) := by decide +kernel
theorem dX6_feed_38 : decode cX6_feed 38 = .ok (.iload 4, 2) := by decide +kernel
theorem dX6_feed_40 : decode cX6_feed 40 = .ok (.iload_n 1, 1) := by decide +kernel
theorem dX6_feed_41 : decode cX6_feed 41 = .ok (.if_icmp .ge 30, 3) := by decide +kernel
theorem dX6_feed_44 : decode cX6_feed 44 = .ok (.aload_n 0, 1) := by decide +kernel
theorem dX6_feed_45 : decode cX6_feed 45 = .ok (.getfield 20, 3) := by decide +kernel
theorem dX6_feed_48 : decode cX6_feed 48 = .ok (.aload_n 0, 1) := by decide +kernel
theorem dX6_feed_49 : decode cX6_feed 49 = .ok (.getfield 24, 3) := by decide +kernel
theorem dX6_feed_52 : decode cX6_feed 52 = .ok (.iload 4, 2) := by decide +kernel
theorem dX6_feed_54 : decode cX6_feed 54 = .ok (.iadd, 1) := by decide +kernel
theorem dX6_feed_55 : decode cX6_feed 55 = .ok (.lload_n 2, 1) := by decide +kernel
theorem dX6_feed_56 : decode cX6_feed 56 = .ok (.bipush 8, 2) := by decide +kernel
theorem dX6_feed_58 : decode cX6_feed 58 = .ok (.iload 4, 2) := by decide +kernel
theorem dX6_feed_60 : decode cX6_feed 60 = .ok (.imul, 1) := by decide +kernel
theorem dX6_feed_61 : decode cX6_feed 61 = .ok (.lushr, 1) := by decide +kernel
theorem dX6_feed_62 : decode cX6_feed 62 = .ok (.l2i, 1) := by decide +kernel
theorem dX6_feed_63 : decode cX6_feed 63 = .ok (.i2b, 1) := by decide +kernel
theorem dX6_feed_64 : decode cX6_feed 64 = .ok (.bastore, 1) := by decide +kernel
theorem dX6_feed_65 : decode cX6_feed 65 = .ok (.iinc 4 1, 3) := by decide +kernel
theorem dX6_feed_68 : decode cX6_feed 68 = .ok (.goto (-30), 3) := by decide +kernel
theorem dX6_feed_71 : decode cX6_feed 71 = .ok (.aload_n 0, 1) := by decide +kernel
theorem dX6_feed_72 : decode cX6_feed 72 = .ok (.dup, 1) := by decide +kernel
theorem dX6_feed_73 : decode cX6_feed 73 = .ok (.getfield 24, 3) := by decide +kernel
theorem dX6_feed_76 : decode cX6_feed 76 = .ok (.iload_n 1, 1) := by decide +kernel
theorem dX6_feed_77 : decode cX6_feed 77 = .ok (.iadd, 1) := by decide +kernel
theorem dX6_feed_78 : decode cX6_feed 78 = .ok (.putfield 24, 3) := by decide +kernel
theorem dX6_feed_81 : decode cX6_feed 81 = .ok (.aload_n 0, 1) := by decide +kernel
theorem dX6_feed_82 : decode cX6_feed 82 = .ok (.getfield 24, 3) := by decide +kernel
theorem dX6_feed_85 : decode cX6_feed 85 = .ok (.ireturn, 1) := by decide +kernel
theorem dX6_wipe_0 : decode cX6_wipe 0 = .ok (.aload_n 0, 1) := by decide +kernel
theorem dX6_wipe_1 : decode cX6_wipe 1 = .ok (.getfield 24, 3) := by decide +kernel
theorem dX6_wipe_4 : decode cX6_wipe 4 = .ok (.istore_n 1, 1) := by decide +kernel
theorem dX6_wipe_5 : decode cX6_wipe 5 = .ok (.aload_n 0, 1) := by decide +kernel
theorem dX6_wipe_6 : decode cX6_wipe 6 = .ok (.iconst 0, 1) := by decide +kernel
theorem dX6_wipe_7 : decode cX6_wipe 7 = .ok (.putfield 24, 3) := by decide +kernel
theorem dX6_wipe_10 : decode cX6_wipe 10 = .ok (.iload_n 1, 1) := by decide +kernel
theorem dX6_wipe_11 : decode cX6_wipe 11 = .ok (.ireturn, 1) := by decide +kernel
theorem dX6_read_0 : decode cX6_read 0 = .ok (.aload_n 0, 1) := by decide +kernel
theorem dX6_read_1 : decode cX6_read 1 = .ok (.iload_n 1, 1) := by decide +kernel
theorem dX6_read_2 : decode cX6_read 2 = .ok (.invokevirtual 56, 3) := by decide +kernel
theorem dX6_read_5 : decode cX6_read 5 = .ok (.astore_n 2, 1) := by decide +kernel
theorem dX6_read_6 : decode cX6_read 6 = .ok (.aload_n 0, 1) := by decide +kernel
theorem dX6_read_7 : decode cX6_read 7 = .ok (.getfield 31, 3) := by decide +kernel
theorem dX6_read_10 : decode cX6_read 10 = .ok (.aload_n 0, 1) := by decide +kernel
theorem dX6_read_11 : decode cX6_read 11 = .ok (.getfield 20, 3) := by decide +kernel
theorem dX6_read_14 : decode cX6_read 14 = .ok (.aload_n 0, 1) := by decide +kernel
theorem dX6_read_15 : decode cX6_read 15 = .ok (.getfield 24, 3) := by decide +kernel
theorem dX6_read_18 : decode cX6_read 18 = .ok (.invokevirtual 60, 3) := by decide +kernel
theorem dX6_read_21 : decode cX6_read 21 = .ok (.aload_n 0, 1) := by decide +kernel
theorem dX6_read_22 : decode cX6_read 22 = .ok (.getfield 31, 3) := by decide +kernel
theorem dX6_read_25 : decode cX6_read 25 = .ok (.getfield 64, 3) := by decide +kernel
theorem dX6_read_28 : decode cX6_read 28 = .ok (.ifCond .eq 5, 3) := by decide +kernel
theorem dX6_read_31 : decode cX6_read 31 = .ok (.iconst (-1), 1) := by decide +kernel
theorem dX6_read_32 : decode cX6_read 32 = .ok (.ireturn, 1) := by decide +kernel
theorem dX6_read_33 : decode cX6_read 33 = .ok (.aload_n 0, 1) := by decide +kernel
theorem dX6_read_34 : decode cX6_read 34 = .ok (.getfield 31, 3) := by decide +kernel
theorem dX6_read_37 : decode cX6_read 37 = .ok (.aload_n 2, 1) := by decide +kernel
theorem dX6_read_38 : decode cX6_read 38 = .ok (.invokevirtual 67, 3) := by decide +kernel
theorem dX6_read_41 : decode cX6_read 41 = .ok (.aload_n 2, 1) := by decide +kernel
theorem dX6_read_42 : decode cX6_read 42 = .ok (.getfield 71, 3) := by decide +kernel
theorem dX6_read_45 : decode cX6_read 45 = .ok (.ireturn, 1) := by decide +kernel
theorem dX6_fault_0 : decode cX6_fault 0 = .ok (.aload_n 0, 1) := by decide +kernel
theorem dX6_fault_1 : decode cX6_fault 1 = .ok (.getfield 31, 3) := by decide +kernel
theorem dX6_fault_4 : decode cX6_fault 4 = .ok (.getfield 64, 3) := by decide +kernel
theorem dX6_fault_7 : decode cX6_fault 7 = .ok (.ireturn, 1) := by decide +kernel
theorem dX6_place_0 : decode cX6_place 0 = .ok (.aload_n 0, 1) := by decide +kernel
theorem dX6_place_1 : decode cX6_place 1 = .ok (.getfield 31, 3) := by decide +kernel
theorem dX6_place_4 : decode cX6_place 4 = .ok (.getfield 74, 3) := by decide +kernel
theorem dX6_place_7 : decode cX6_place 7 = .ok (.ireturn, 1) := by decide +kernel
theorem dX6_blank_0 : decode cX6_blank 0 = .ok (.aload_n 0, 1) := by decide +kernel
theorem dX6_blank_1 : decode cX6_blank 1 = .ok (.iload_n 1, 1) := by decide +kernel
theorem dX6_blank_2 : decode cX6_blank 2 = .ok (.invokevirtual 56, 3) := by decide +kernel
theorem dX6_blank_5 : decode cX6_blank 5 = .ok (.astore_n 3, 1) := by decide +kernel
theorem dX6_blank_6 : decode cX6_blank 6 = .ok (.iload_n 2, 1) := by decide +kernel
theorem dX6_blank_7 : decode cX6_blank 7 = .ok (.iconst 1, 1) := by decide +kernel
theorem dX6_blank_8 : decode cX6_blank 8 = .ok (.if_icmp .lt 9, 3) := by decide +kernel
theorem dX6_blank_11 : decode cX6_blank 11 = .ok (.iload_n 2, 1) := by decide +kernel
theorem dX6_blank_12 : decode cX6_blank 12 = .ok (.bipush 24, 2) := by decide +kernel
theorem dX6_blank_14 : decode cX6_blank 14 = .ok (.if_icmp .le 13, 3) := by decide +kernel
theorem dX6_blank_17 : decode cX6_blank 17 = .ok (.new 49, 3) := by decide +kernel
theorem dX6_blank_20 : decode cX6_blank 20 = .ok (.dup, 1) := by decide +kernel
theorem dX6_blank_21 : decode cX6_blank 21 = .ok (.ldc 77, 2) := by decide +kernel
theorem dX6_blank_23 : decode cX6_blank 23 = .ok (.invokespecial 53, 3) := by decide +kernel
theorem dX6_blank_26 : decode cX6_blank 26 = .ok (.athrow, 1) := by decide +kernel
theorem dX6_blank_27 : decode cX6_blank 27 = .ok (.aload_n 3, 1) := by decide +kernel
theorem dX6_blank_28 : decode cX6_blank 28 = .ok (.iload_n 2, 1) := by decide +kernel
theorem dX6_blank_29 : decode cX6_blank 29 = .ok (.invokevirtual 79, 3) := by decide +kernel
theorem dX6_blank_32 : decode cX6_blank 32 = .ok (.return_, 1) := by decide +kernel
theorem dX6_mark_0 : decode cX6_mark 0 = .ok (.aload_n 0, 1) := by decide +kernel
theorem dX6_mark_1 : decode cX6_mark 1 = .ok (.iload_n 1, 1) := by decide +kernel
theorem dX6_mark_2 : decode cX6_mark 2 = .ok (.invokevirtual 56, 3) := by decide +kernel
theorem dX6_mark_5 : decode cX6_mark 5 = .ok (.astore 4, 2) := by decide +kernel
theorem dX6_mark_7 : decode cX6_mark 7 = .ok (.aload 4, 2) := by decide +kernel
theorem dX6_mark_9 : decode cX6_mark 9 = .ok (.iload_n 2, 1) := by decide +kernel
theorem dX6_mark_10 : decode cX6_mark 10 = .ok (.invokestatic 83, 3) := by decide +kernel
theorem dX6_mark_13 : decode cX6_mark 13 = .ok (.iload_n 3, 1) := by decide +kernel
theorem dX6_mark_14 : decode cX6_mark 14 = .ok (.ifCond .lt 8, 3) := by decide +kernel
theorem dX6_mark_17 : decode cX6_mark 17 = .ok (.iload_n 3, 1) := by decide +kernel
theorem dX6_mark_18 : decode cX6_mark 18 = .ok (.iconst 3, 1) := by decide +kernel
theorem dX6_mark_19 : decode cX6_mark 19 = .ok (.if_icmp .le 13, 3) := by decide +kernel
theorem dX6_mark_22 : decode cX6_mark 22 = .ok (.new 49, 3) := by decide +kernel
theorem dX6_mark_25 : decode cX6_mark 25 = .ok (.dup, 1) := by decide +kernel
theorem dX6_mark_26 : decode cX6_mark 26 = .ok (.ldc 87, 2) := by decide +kernel
theorem dX6_mark_28 : decode cX6_mark 28 = .ok (.invokespecial 53, 3) := by decide +kernel
theorem dX6_mark_31 : decode cX6_mark 31 = .ok (.athrow, 1) := by decide +kernel
theorem dX6_mark_32 : decode cX6_mark 32 = .ok (.aload 4, 2) := by decide +kernel
theorem dX6_mark_34 : decode cX6_mark 34 = .ok (.aload 4, 2) := by decide +kernel
theorem dX6_mark_36 : decode cX6_mark 36 = .ok (.getfield 89, 3) := by decide +kernel
theorem dX6_mark_39 : decode cX6_mark 39 = .ok (.iload_n 2, 1) := by decide +kernel
theorem dX6_mark_40 : decode cX6_mark 40 = .ok (.iload_n 3, 1) := by decide +kernel
theorem dX6_mark_41 : decode cX6_mark 41 = .ok (.iconst 1, 1) := by decide +kernel
theorem dX6_mark_42 : decode cX6_mark 42 = .ok (.iand, 1) := by decide +kernel
theorem dX6_mark_43 : decode cX6_mark 43 = .ok (.ifCond .eq 7, 3) := by decide +kernel
theorem dX6_mark_46 : decode cX6_mark 46 = .ok (.iconst 1, 1) := by decide +kernel
theorem dX6_mark_47 : decode cX6_mark 47 = .ok (.goto 4, 3) := by decide +kernel
theorem dX6_mark_50 : decode cX6_mark 50 = .ok (.iconst 0, 1) := by decide +kernel
theorem dX6_mark_51 : decode cX6_mark 51 = .ok (.invokestatic 92, 3) := by decide +kernel
theorem dX6_mark_54 : decode cX6_mark 54 = .ok (.putfield 89, 3) := by decide +kernel
theorem dX6_mark_57 : decode cX6_mark 57 = .ok (.aload 4, 2) := by decide +kernel
theorem dX6_mark_59 : decode cX6_mark 59 = .ok (.aload 4, 2) := by decide +kernel
theorem dX6_mark_61 : decode cX6_mark 61 = .ok (.getfield 96, 3) := by decide +kernel
theorem dX6_mark_64 : decode cX6_mark 64 = .ok (.iload_n 2, 1) := by decide +kernel
theorem dX6_mark_65 : decode cX6_mark 65 = .ok (.iload_n 3, 1) := by decide +kernel
theorem dX6_mark_66 : decode cX6_mark 66 = .ok (.iconst 2, 1) := by decide +kernel
theorem dX6_mark_67 : decode cX6_mark 67 = .ok (.iand, 1) := by decide +kernel
theorem dX6_mark_68 : decode cX6_mark 68 = .ok (.ifCond .eq 7, 3) := by decide +kernel
theorem dX6_mark_71 : decode cX6_mark 71 = .ok (.iconst 1, 1) := by decide +kernel
theorem dX6_mark_72 : decode cX6_mark 72 = .ok (.goto 4, 3) := by decide +kernel
theorem dX6_mark_75 : decode cX6_mark 75 = .ok (.iconst 0, 1) := by decide +kernel
theorem dX6_mark_76 : decode cX6_mark 76 = .ok (.invokestatic 92, 3) := by decide +kernel
theorem dX6_mark_79 : decode cX6_mark 79 = .ok (.putfield 96, 3) := by decide +kernel
theorem dX6_mark_82 : decode cX6_mark 82 = .ok (.return_, 1) := by decide +kernel
theorem dX6_arc_0 : decode cX6_arc 0 = .ok (.aload_n 0, 1) := by decide +kernel
theorem dX6_arc_1 : decode cX6_arc 1 = .ok (.iload_n 1, 1) := by decide +kernel
theorem dX6_arc_2 : decode cX6_arc 2 = .ok (.invokevirtual 56, 3) := by decide +kernel
theorem dX6_arc_5 : decode cX6_arc 5 = .ok (.astore 6, 2) := by decide +kernel
theorem dX6_arc_7 : decode cX6_arc 7 = .ok (.aload 6, 2) := by decide +kernel
theorem dX6_arc_9 : decode cX6_arc 9 = .ok (.iload_n 2, 1) := by decide +kernel
theorem dX6_arc_10 : decode cX6_arc 10 = .ok (.invokestatic 83, 3) := by decide +kernel
theorem dX6_arc_13 : decode cX6_arc 13 = .ok (.aload 6, 2) := by decide +kernel
theorem dX6_arc_15 : decode cX6_arc 15 = .ok (.iload 4, 2) := by decide +kernel
theorem dX6_arc_17 : decode cX6_arc 17 = .ok (.invokestatic 83, 3) := by decide +kernel
theorem dX6_arc_20 : decode cX6_arc 20 = .ok (.iload_n 3, 1) := by decide +kernel
theorem dX6_arc_21 : decode cX6_arc 21 = .ok (.ifCond .lt 9, 3) := by decide +kernel
theorem dX6_arc_24 : decode cX6_arc 24 = .ok (.iload_n 3, 1) := by decide +kernel
theorem dX6_arc_25 : decode cX6_arc 25 = .ok (.bipush 8, 2) := by decide +kernel
theorem dX6_arc_27 : decode cX6_arc 27 = .ok (.if_icmp .lt 13, 3) := by decide +kernel
theorem dX6_arc_30 : decode cX6_arc 30 = .ok (.new 49, 3) := by decide +kernel
theorem dX6_arc_33 : decode cX6_arc 33 = .ok (.dup, 1) := by decide +kernel
theorem dX6_arc_34 : decode cX6_arc 34 = .ok (.ldc 99, 2) := by decide +kernel
theorem dX6_arc_36 : decode cX6_arc 36 = .ok (.invokespecial 53, 3) := by decide +kernel
theorem dX6_arc_39 : decode cX6_arc 39 = .ok (.athrow, 1) := by decide +kernel
theorem dX6_arc_40 : decode cX6_arc 40 = .ok (.aload 6, 2) := by decide +kernel
theorem dX6_arc_42 : decode cX6_arc 42 = .ok (.iload_n 2, 1) := by decide +kernel
theorem dX6_arc_43 : decode cX6_arc 43 = .ok (.iload_n 3, 1) := by decide +kernel
theorem dX6_arc_44 : decode cX6_arc 44 = .ok (.invokevirtual 101, 3) := by decide +kernel
theorem dX6_arc_47 : decode cX6_arc 47 = .ok (.istore 7, 2) := by decide +kernel
theorem dX6_arc_49 : decode cX6_arc 49 = .ok (.aload 6, 2) := by decide +kernel
theorem dX6_arc_51 : decode cX6_arc 51 = .ok (.iload_n 2, 1) := by decide +kernel
theorem dX6_arc_52 : decode cX6_arc 52 = .ok (.iload_n 3, 1) := by decide +kernel
theorem dX6_arc_53 : decode cX6_arc 53 = .ok (.iload 7, 2) := by decide +kernel
theorem dX6_arc_55 : decode cX6_arc 55 = .ok (.iload 4, 2) := by decide +kernel
theorem dX6_arc_57 : decode cX6_arc 57 = .ok (.iload 5, 2) := by decide +kernel
theorem dX6_arc_59 : decode cX6_arc 59 = .ok (.invokestatic 92, 3) := by decide +kernel
theorem dX6_arc_62 : decode cX6_arc 62 = .ok (.invokevirtual 105, 3) := by decide +kernel
theorem dX6_arc_65 : decode cX6_arc 65 = .ok (.iload 7, 2) := by decide +kernel
theorem dX6_arc_67 : decode cX6_arc 67 = .ok (.iload 4, 2) := by decide +kernel
theorem dX6_arc_69 : decode cX6_arc 69 = .ok (.invokestatic 109, 3) := by decide +kernel
theorem dX6_arc_72 : decode cX6_arc 72 = .ok (.ireturn, 1) := by decide +kernel
theorem dX6_arcs_0 : decode cX6_arcs 0 = .ok (.aload_n 0, 1) := by decide +kernel
theorem dX6_arcs_1 : decode cX6_arcs 1 = .ok (.iload_n 1, 1) := by decide +kernel
theorem dX6_arcs_2 : decode cX6_arcs 2 = .ok (.invokevirtual 56, 3) := by decide +kernel
theorem dX6_arcs_5 : decode cX6_arcs 5 = .ok (.astore 4, 2) := by decide +kernel
theorem dX6_arcs_7 : decode cX6_arcs 7 = .ok (.aload 4, 2) := by decide +kernel
theorem dX6_arcs_9 : decode cX6_arcs 9 = .ok (.iload_n 2, 1) := by decide +kernel
theorem dX6_arcs_10 : decode cX6_arcs 10 = .ok (.invokestatic 83, 3) := by decide +kernel
theorem dX6_arcs_13 : decode cX6_arcs 13 = .ok (.iload_n 3, 1) := by decide +kernel
theorem dX6_arcs_14 : decode cX6_arcs 14 = .ok (.ifCond .lt 9, 3) := by decide +kernel
theorem dX6_arcs_17 : decode cX6_arcs 17 = .ok (.iload_n 3, 1) := by decide +kernel
theorem dX6_arcs_18 : decode cX6_arcs 18 = .ok (.bipush 8, 2) := by decide +kernel
theorem dX6_arcs_20 : decode cX6_arcs 20 = .ok (.if_icmp .le 13, 3) := by decide +kernel
theorem dX6_arcs_23 : decode cX6_arcs 23 = .ok (.new 49, 3) := by decide +kernel
theorem dX6_arcs_26 : decode cX6_arcs 26 = .ok (.dup, 1) := by decide +kernel
theorem dX6_arcs_27 : decode cX6_arcs 27 = .ok (.ldc 99, 2) := by decide +kernel
theorem dX6_arcs_29 : decode cX6_arcs 29 = .ok (.invokespecial 53, 3) := by decide +kernel
theorem dX6_arcs_32 : decode cX6_arcs 32 = .ok (.athrow, 1) := by decide +kernel
theorem dX6_arcs_33 : decode cX6_arcs 33 = .ok (.iload_n 3, 1) := by decide +kernel
theorem dX6_arcs_34 : decode cX6_arcs 34 = .ok (.bipush 8, 2) := by decide +kernel
theorem dX6_arcs_36 : decode cX6_arcs 36 = .ok (.if_icmp .ne 39, 3) := by decide +kernel
theorem dX6_arcs_39 : decode cX6_arcs 39 = .ok (.aload 4, 2) := by decide +kernel
theorem dX6_arcs_41 : decode cX6_arcs 41 = .ok (.getfield 89, 3) := by decide +kernel
theorem dX6_arcs_44 : decode cX6_arcs 44 = .ok (.iload_n 2, 1) := by decide +kernel
theorem dX6_arcs_45 : decode cX6_arcs 45 = .ok (.invokestatic 109, 3) := by decide +kernel
theorem dX6_arcs_48 : decode cX6_arcs 48 = .ok (.ifCond .eq 7, 3) := by decide +kernel
theorem dX6_arcs_51 : decode cX6_arcs 51 = .ok (.iconst 1, 1) := by decide +kernel
theorem dX6_arcs_52 : decode cX6_arcs 52 = .ok (.goto 4, 3) := by decide +kernel
theorem dX6_arcs_55 : decode cX6_arcs 55 = .ok (.iconst 0, 1) := by decide +kernel
theorem dX6_arcs_56 : decode cX6_arcs 56 = .ok (.aload 4, 2) := by decide +kernel
theorem dX6_arcs_58 : decode cX6_arcs 58 = .ok (.getfield 96, 3) := by decide +kernel
theorem dX6_arcs_61 : decode cX6_arcs 61 = .ok (.iload_n 2, 1) := by decide +kernel
theorem dX6_arcs_62 : decode cX6_arcs 62 = .ok (.invokestatic 109, 3) := by decide +kernel
theorem dX6_arcs_65 : decode cX6_arcs 65 = .ok (.ifCond .eq 7, 3) := by decide +kernel
theorem dX6_arcs_68 : decode cX6_arcs 68 = .ok (.iconst 2, 1) := by decide +kernel
theorem dX6_arcs_69 : decode cX6_arcs 69 = .ok (.goto 4, 3) := by decide +kernel
theorem dX6_arcs_72 : decode cX6_arcs 72 = .ok (.iconst 0, 1) := by decide +kernel
theorem dX6_arcs_73 : decode cX6_arcs 73 = .ok (.ior, 1) := by decide +kernel
theorem dX6_arcs_74 : decode cX6_arcs 74 = .ok (.ireturn, 1) := by decide +kernel
theorem dX6_arcs_75 : decode cX6_arcs 75 = .ok (.aload 4, 2) := by decide +kernel
theorem dX6_arcs_77 : decode cX6_arcs 77 = .ok (.iload_n 2, 1) := by decide +kernel
theorem dX6_arcs_78 : decode cX6_arcs 78 = .ok (.iload_n 3, 1) := by decide +kernel
theorem dX6_arcs_79 : decode cX6_arcs 79 = .ok (.invokevirtual 101, 3) := by decide +kernel
theorem dX6_arcs_82 : decode cX6_arcs 82 = .ok (.ireturn, 1) := by decide +kernel
theorem dX6_states_0 : decode cX6_states 0 = .ok (.aload_n 0, 1) := by decide +kernel
theorem dX6_states_1 : decode cX6_states 1 = .ok (.iload_n 1, 1) := by decide +kernel
theorem dX6_states_2 : decode cX6_states 2 = .ok (.invokevirtual 56, 3) := by decide +kernel
theorem dX6_states_5 : decode cX6_states 5 = .ok (.getfield 71, 3) := by decide +kernel
theorem dX6_states_8 : decode cX6_states 8 = .ok (.ireturn, 1) := by decide +kernel
theorem dX6_turn_0 : decode cX6_turn 0 = .ok (.aload_n 0, 1) := by decide +kernel
theorem dX6_turn_1 : decode cX6_turn 1 = .ok (.iload_n 1, 1) := by decide +kernel
theorem dX6_turn_2 : decode cX6_turn 2 = .ok (.invokevirtual 56, 3) := by decide +kernel
theorem dX6_turn_5 : decode cX6_turn 5 = .ok (.astore_n 3, 1) := by decide +kernel
theorem dX6_turn_6 : decode cX6_turn 6 = .ok (.aload_n 0, 1) := by decide +kernel
theorem dX6_turn_7 : decode cX6_turn 7 = .ok (.iload_n 2, 1) := by decide +kernel
theorem dX6_turn_8 : decode cX6_turn 8 = .ok (.invokevirtual 56, 3) := by decide +kernel
theorem dX6_turn_11 : decode cX6_turn 11 = .ok (.astore 4, 2) := by decide +kernel
theorem dX6_turn_13 : decode cX6_turn 13 = .ok (.aload_n 0, 1) := by decide +kernel
theorem dX6_turn_14 : decode cX6_turn 14 = .ok (.getfield 16, 3) := by decide +kernel
theorem dX6_turn_17 : decode cX6_turn 17 = .ok (.aload 4, 2) := by decide +kernel
theorem dX6_turn_19 : decode cX6_turn 19 = .ok (.invokevirtual 113, 3) := by decide +kernel
theorem dX6_turn_22 : decode cX6_turn 22 = .ok (.aload_n 3, 1) := by decide +kernel
theorem dX6_turn_23 : decode cX6_turn 23 = .ok (.aload_n 0, 1) := by decide +kernel
theorem dX6_turn_24 : decode cX6_turn 24 = .ok (.getfield 16, 3) := by decide +kernel
theorem dX6_turn_27 : decode cX6_turn 27 = .ok (.invokevirtual 116, 3) := by decide +kernel
theorem dX6_turn_30 : decode cX6_turn 30 = .ok (.return_, 1) := by decide +kernel
theorem dX6_either_0 : decode cX6_either 0 = .ok (.aload_n 0, 1) := by decide +kernel
theorem dX6_either_1 : decode cX6_either 1 = .ok (.iload_n 1, 1) := by decide +kernel
theorem dX6_either_2 : decode cX6_either 2 = .ok (.invokevirtual 56, 3) := by decide +kernel
theorem dX6_either_5 : decode cX6_either 5 = .ok (.astore 4, 2) := by decide +kernel
theorem dX6_either_7 : decode cX6_either 7 = .ok (.aload_n 0, 1) := by decide +kernel
theorem dX6_either_8 : decode cX6_either 8 = .ok (.iload_n 2, 1) := by decide +kernel
theorem dX6_either_9 : decode cX6_either 9 = .ok (.invokevirtual 56, 3) := by decide +kernel
theorem dX6_either_12 : decode cX6_either 12 = .ok (.astore 5, 2) := by decide +kernel
theorem dX6_either_14 : decode cX6_either 14 = .ok (.aload_n 0, 1) := by decide +kernel
theorem dX6_either_15 : decode cX6_either 15 = .ok (.iload_n 3, 1) := by decide +kernel
theorem dX6_either_16 : decode cX6_either 16 = .ok (.invokevirtual 56, 3) := by decide +kernel
theorem dX6_either_19 : decode cX6_either 19 = .ok (.astore 6, 2) := by decide +kernel
theorem dX6_either_21 : decode cX6_either 21 = .ok (.aload 5, 2) := by decide +kernel
theorem dX6_either_23 : decode cX6_either 23 = .ok (.getfield 71, 3) := by decide +kernel
theorem dX6_either_26 : decode cX6_either 26 = .ok (.aload 6, 2) := by decide +kernel
theorem dX6_either_28 : decode cX6_either 28 = .ok (.getfield 71, 3) := by decide +kernel
theorem dX6_either_31 : decode cX6_either 31 = .ok (.iadd, 1) := by decide +kernel
theorem dX6_either_32 : decode cX6_either 32 = .ok (.bipush 24, 2) := by decide +kernel
theorem dX6_either_34 : decode cX6_either 34 = .ok (.if_icmp .le 5, 3) := by decide +kernel
theorem dX6_either_37 : decode cX6_either 37 = .ok (.iconst (-1), 1) := by decide +kernel
theorem dX6_either_38 : decode cX6_either 38 = .ok (.ireturn, 1) := by decide +kernel
theorem dX6_either_39 : decode cX6_either 39 = .ok (.aload_n 0, 1) := by decide +kernel
theorem dX6_either_40 : decode cX6_either 40 = .ok (.getfield 16, 3) := by decide +kernel
theorem dX6_either_43 : decode cX6_either 43 = .ok (.aload 5, 2) := by decide +kernel
theorem dX6_either_45 : decode cX6_either 45 = .ok (.aload 6, 2) := by decide +kernel
theorem dX6_either_47 : decode cX6_either 47 = .ok (.invokevirtual 119, 3) := by decide +kernel
theorem dX6_either_50 : decode cX6_either 50 = .ok (.aload 4, 2) := by decide +kernel
theorem dX6_either_52 : decode cX6_either 52 = .ok (.aload_n 0, 1) := by decide +kernel
theorem dX6_either_53 : decode cX6_either 53 = .ok (.getfield 16, 3) := by decide +kernel
theorem dX6_either_56 : decode cX6_either 56 = .ok (.invokevirtual 116, 3) := by decide +kernel
theorem dX6_either_59 : decode cX6_either 59 = .ok (.aload 4, 2) := by decide +kernel
theorem dX6_either_61 : decode cX6_either 61 = .ok (.getfield 71, 3) := by decide +kernel
theorem dX6_either_64 : decode cX6_either 64 = .ok (.ireturn, 1) := by decide +kernel
theorem dX6_both_0 : decode cX6_both 0 = .ok (.aload_n 0, 1) := by decide +kernel
theorem dX6_both_1 : decode cX6_both 1 = .ok (.iload_n 1, 1) := by decide +kernel
theorem dX6_both_2 : decode cX6_both 2 = .ok (.invokevirtual 56, 3) := by decide +kernel
theorem dX6_both_5 : decode cX6_both 5 = .ok (.astore 4, 2) := by decide +kernel
theorem dX6_both_7 : decode cX6_both 7 = .ok (.aload_n 0, 1) := by decide +kernel
theorem dX6_both_8 : decode cX6_both 8 = .ok (.iload_n 2, 1) := by decide +kernel
theorem dX6_both_9 : decode cX6_both 9 = .ok (.invokevirtual 56, 3) := by decide +kernel
theorem dX6_both_12 : decode cX6_both 12 = .ok (.astore 5, 2) := by decide +kernel
theorem dX6_both_14 : decode cX6_both 14 = .ok (.aload_n 0, 1) := by decide +kernel
theorem dX6_both_15 : decode cX6_both 15 = .ok (.iload_n 3, 1) := by decide +kernel
theorem dX6_both_16 : decode cX6_both 16 = .ok (.invokevirtual 56, 3) := by decide +kernel
theorem dX6_both_19 : decode cX6_both 19 = .ok (.astore 6, 2) := by decide +kernel
theorem dX6_both_21 : decode cX6_both 21 = .ok (.aload 5, 2) := by decide +kernel
theorem dX6_both_23 : decode cX6_both 23 = .ok (.getfield 71, 3) := by decide +kernel
theorem dX6_both_26 : decode cX6_both 26 = .ok (.aload 6, 2) := by decide +kernel
theorem dX6_both_28 : decode cX6_both 28 = .ok (.getfield 71, 3) := by decide +kernel
theorem dX6_both_31 : decode cX6_both 31 = .ok (.imul, 1) := by decide +kernel
theorem dX6_both_32 : decode cX6_both 32 = .ok (.bipush 24, 2) := by decide +kernel
theorem dX6_both_34 : decode cX6_both 34 = .ok (.if_icmp .le 5, 3) := by decide +kernel
theorem dX6_both_37 : decode cX6_both 37 = .ok (.iconst (-1), 1) := by decide +kernel
theorem dX6_both_38 : decode cX6_both 38 = .ok (.ireturn, 1) := by decide +kernel
theorem dX6_both_39 : decode cX6_both 39 = .ok (.aload_n 0, 1) := by decide +kernel
theorem dX6_both_40 : decode cX6_both 40 = .ok (.getfield 16, 3) := by decide +kernel
theorem dX6_both_43 : decode cX6_both 43 = .ok (.aload 5, 2) := by decide +kernel
theorem dX6_both_45 : decode cX6_both 45 = .ok (.aload 6, 2) := by decide +kernel
theorem dX6_both_47 : decode cX6_both 47 = .ok (.invokevirtual 123, 3) := by decide +kernel
theorem dX6_both_50 : decode cX6_both 50 = .ok (.aload 4, 2) := by decide +kernel
theorem dX6_both_52 : decode cX6_both 52 = .ok (.aload_n 0, 1) := by decide +kernel
theorem dX6_both_53 : decode cX6_both 53 = .ok (.getfield 16, 3) := by decide +kernel
theorem dX6_both_56 : decode cX6_both 56 = .ok (.invokevirtual 116, 3) := by decide +kernel
theorem dX6_both_59 : decode cX6_both 59 = .ok (.aload 4, 2) := by decide +kernel
theorem dX6_both_61 : decode cX6_both 61 = .ok (.getfield 71, 3) := by decide +kernel
theorem dX6_both_64 : decode cX6_both 64 = .ok (.ireturn, 1) := by decide +kernel
theorem dX6_takes_0 : decode cX6_takes 0 = .ok (.aload_n 0, 1) := by decide +kernel
theorem dX6_takes_1 : decode cX6_takes 1 = .ok (.iload_n 1, 1) := by decide +kernel
theorem dX6_takes_2 : decode cX6_takes 2 = .ok (.invokevirtual 56, 3) := by decide +kernel
theorem dX6_takes_5 : decode cX6_takes 5 = .ok (.astore_n 2, 1) := by decide +kernel
theorem dX6_takes_6 : decode cX6_takes 6 = .ok (.aload_n 2, 1) := by decide +kernel
theorem dX6_takes_7 : decode cX6_takes 7 = .ok (.getfield 89, 3) := by decide +kernel
theorem dX6_takes_10 : decode cX6_takes 10 = .ok (.istore_n 3, 1) := by decide +kernel
theorem dX6_takes_11 : decode cX6_takes 11 = .ok (.iconst 0, 1) := by decide +kernel
theorem dX6_takes_12 : decode cX6_takes 12 = .ok (.istore 4, 2) := by decide +kernel
theorem dX6_takes_14 : decode cX6_takes 14 = .ok (.iload 4, 2) := by decide +kernel
theorem dX6_takes_16 : decode cX6_takes 16 = .ok (.aload_n 0, 1) := by decide +kernel
theorem dX6_takes_17 : decode cX6_takes 17 = .ok (.getfield 24, 3) := by decide +kernel
theorem dX6_takes_20 : decode cX6_takes 20 = .ok (.if_icmp .ge 37, 3) := by decide +kernel
theorem dX6_takes_23 : decode cX6_takes 23 = .ok (.aload_n 0, 1) := by decide +kernel
theorem dX6_takes_24 : decode cX6_takes 24 = .ok (.getfield 20, 3) := by decide +kernel
theorem dX6_takes_27 : decode cX6_takes 27 = .ok (.iload 4, 2) := by decide +kernel
theorem dX6_takes_29 : decode cX6_takes 29 = .ok (.baload, 1) := by decide +kernel
theorem dX6_takes_30 : decode cX6_takes 30 = .ok (.invokestatic 126, 3) := by decide +kernel
theorem dX6_takes_33 : decode cX6_takes 33 = .ok (.istore 5, 2) := by decide +kernel
theorem dX6_takes_35 : decode cX6_takes 35 = .ok (.iload 5, 2) := by decide +kernel
theorem dX6_takes_37 : decode cX6_takes 37 = .ok (.iconst (-1), 1) := by decide +kernel
theorem dX6_takes_38 : decode cX6_takes 38 = .ok (.if_icmp .ne 5, 3) := by decide +kernel
theorem dX6_takes_41 : decode cX6_takes 41 = .ok (.iconst 0, 1) := by decide +kernel
theorem dX6_takes_42 : decode cX6_takes 42 = .ok (.ireturn, 1) := by decide +kernel
theorem dX6_takes_43 : decode cX6_takes 43 = .ok (.aload_n 2, 1) := by decide +kernel
theorem dX6_takes_44 : decode cX6_takes 44 = .ok (.iload_n 3, 1) := by decide +kernel
theorem dX6_takes_45 : decode cX6_takes 45 = .ok (.iload 5, 2) := by decide +kernel
theorem dX6_takes_47 : decode cX6_takes 47 = .ok (.invokevirtual 130, 3) := by decide +kernel
theorem dX6_takes_50 : decode cX6_takes 50 = .ok (.istore_n 3, 1) := by decide +kernel
theorem dX6_takes_51 : decode cX6_takes 51 = .ok (.iinc 4 1, 3) := by decide +kernel
theorem dX6_takes_54 : decode cX6_takes 54 = .ok (.goto (-40), 3) := by decide +kernel
theorem dX6_takes_57 : decode cX6_takes 57 = .ok (.iload_n 3, 1) := by decide +kernel
theorem dX6_takes_58 : decode cX6_takes 58 = .ok (.aload_n 2, 1) := by decide +kernel
theorem dX6_takes_59 : decode cX6_takes 59 = .ok (.getfield 96, 3) := by decide +kernel
theorem dX6_takes_62 : decode cX6_takes 62 = .ok (.iand, 1) := by decide +kernel
theorem dX6_takes_63 : decode cX6_takes 63 = .ok (.ifCond .eq 7, 3) := by decide +kernel
theorem dX6_takes_66 : decode cX6_takes 66 = .ok (.iconst 1, 1) := by decide +kernel
theorem dX6_takes_67 : decode cX6_takes 67 = .ok (.goto 4, 3) := by decide +kernel
theorem dX6_takes_70 : decode cX6_takes 70 = .ok (.iconst 0, 1) := by decide +kernel
theorem dX6_takes_71 : decode cX6_takes 71 = .ok (.ireturn, 1) := by decide +kernel
theorem dX6_within_0 : decode cX6_within 0 = .ok (.aload_n 0, 1) := by decide +kernel
theorem dX6_within_1 : decode cX6_within 1 = .ok (.iload_n 1, 1) := by decide +kernel
theorem dX6_within_2 : decode cX6_within 2 = .ok (.invokevirtual 56, 3) := by decide +kernel
theorem dX6_within_5 : decode cX6_within 5 = .ok (.astore_n 3, 1) := by decide +kernel
theorem dX6_within_6 : decode cX6_within 6 = .ok (.aload_n 0, 1) := by decide +kernel
theorem dX6_within_7 : decode cX6_within 7 = .ok (.iload_n 2, 1) := by decide +kernel
theorem dX6_within_8 : decode cX6_within 8 = .ok (.invokevirtual 56, 3) := by decide +kernel
theorem dX6_within_11 : decode cX6_within 11 = .ok (.astore 4, 2) := by decide +kernel
theorem dX6_within_13 : decode cX6_within 13 = .ok (.aload 4, 2) := by decide +kernel
theorem dX6_within_15 : decode cX6_within 15 = .ok (.invokestatic 133, 3) := by decide +kernel
theorem dX6_within_18 : decode cX6_within 18 = .ok (.aload_n 0, 1) := by decide +kernel
theorem dX6_within_19 : decode cX6_within 19 = .ok (.getfield 38, 3) := by decide +kernel
theorem dX6_within_22 : decode cX6_within 22 = .ok (.aload 4, 2) := by decide +kernel
theorem dX6_within_24 : decode cX6_within 24 = .ok (.invokevirtual 136, 3) := by decide +kernel
theorem dX6_within_27 : decode cX6_within 27 = .ok (.aload_n 0, 1) := by decide +kernel
theorem dX6_within_28 : decode cX6_within 28 = .ok (.getfield 45, 3) := by decide +kernel
theorem dX6_within_31 : decode cX6_within 31 = .ok (.aload_n 3, 1) := by decide +kernel
theorem dX6_within_32 : decode cX6_within 32 = .ok (.aload 4, 2) := by decide +kernel
theorem dX6_within_34 : decode cX6_within 34 = .ok (.aload_n 0, 1) := by decide +kernel
theorem dX6_within_35 : decode cX6_within 35 = .ok (.getfield 38, 3) := by decide +kernel
theorem dX6_within_38 : decode cX6_within 38 = .ok (.invokevirtual 139, 3) := by decide +kernel
theorem dX6_within_41 : decode cX6_within 41 = .ok (.aload_n 0, 1) := by decide +kernel
theorem dX6_within_42 : decode cX6_within 42 = .ok (.getfield 45, 3) := by decide +kernel
theorem dX6_within_45 : decode cX6_within 45 = .ok (.getfield 143, 3) := by decide +kernel
theorem dX6_within_48 : decode cX6_within 48 = .ok (.iconst (-1), 1) := by decide +kernel
theorem dX6_within_49 : decode cX6_within 49 = .ok (.if_icmp .ne 7, 3) := by decide +kernel
theorem dX6_within_52 : decode cX6_within 52 = .ok (.iconst 1, 1) := by decide +kernel
theorem dX6_within_53 : decode cX6_within 53 = .ok (.goto 4, 3) := by decide +kernel
theorem dX6_within_56 : decode cX6_within 56 = .ok (.iconst 0, 1) := by decide +kernel
theorem dX6_within_57 : decode cX6_within 57 = .ok (.ireturn, 1) := by decide +kernel
theorem dX6_length_0 : decode cX6_length 0 = .ok (.aload_n 0, 1) := by decide +kernel
theorem dX6_length_1 : decode cX6_length 1 = .ok (.getfield 45, 3) := by decide +kernel
theorem dX6_length_4 : decode cX6_length 4 = .ok (.getfield 143, 3) := by decide +kernel
theorem dX6_length_7 : decode cX6_length 7 = .ok (.ireturn, 1) := by decide +kernel
theorem dX6_letter_0 : decode cX6_letter 0 = .ok (.iload_n 1, 1) := by decide +kernel
theorem dX6_letter_1 : decode cX6_letter 1 = .ok (.ifCond .lt 14, 3) := by decide +kernel
theorem dX6_letter_4 : decode cX6_letter 4 = .ok (.iload_n 1, 1) := by decide +kernel
theorem dX6_letter_5 : decode cX6_letter 5 = .ok (.aload_n 0, 1) := by decide +kernel
theorem dX6_letter_6 : decode cX6_letter 6 = .ok (.getfield 45, 3) := by decide +kernel
theorem dX6_letter_9 : decode cX6_letter 9 = .ok (.getfield 143, 3) := by decide +kernel
theorem dX6_letter_12 : decode cX6_letter 12 = .ok (.if_icmp .lt 13, 3) := by decide +kernel
theorem dX6_letter_15 : decode cX6_letter 15 = .ok (.new 146, 3) := by decide +kernel
theorem dX6_letter_18 : decode cX6_letter 18 = .ok (.dup, 1) := by decide +kernel
theorem dX6_letter_19 : decode cX6_letter 19 = .ok (.ldc 148, 2) := by decide +kernel
theorem dX6_letter_21 : decode cX6_letter 21 = .ok (.invokespecial 150, 3) := by decide +kernel
theorem dX6_letter_24 : decode cX6_letter 24 = .ok (.athrow, 1) := by decide +kernel
theorem dX6_letter_25 : decode cX6_letter 25 = .ok (.aload_n 0, 1) := by decide +kernel
theorem dX6_letter_26 : decode cX6_letter 26 = .ok (.getfield 45, 3) := by decide +kernel
theorem dX6_letter_29 : decode cX6_letter 29 = .ok (.iload_n 1, 1) := by decide +kernel
theorem dX6_letter_30 : decode cX6_letter 30 = .ok (.invokevirtual 151, 3) := by decide +kernel
theorem dX6_letter_33 : decode cX6_letter 33 = .ok (.ireturn, 1) := by decide +kernel
theorem dX6_words_0 : decode cX6_words 0 = .ok (.aload_n 0, 1) := by decide +kernel
theorem dX6_words_1 : decode cX6_words 1 = .ok (.iload_n 1, 1) := by decide +kernel
theorem dX6_words_2 : decode cX6_words 2 = .ok (.invokevirtual 56, 3) := by decide +kernel
theorem dX6_words_5 : decode cX6_words 5 = .ok (.astore_n 3, 1) := by decide +kernel
theorem dX6_words_6 : decode cX6_words 6 = .ok (.aload_n 3, 1) := by decide +kernel
theorem dX6_words_7 : decode cX6_words 7 = .ok (.invokestatic 133, 3) := by decide +kernel
theorem dX6_words_10 : decode cX6_words 10 = .ok (.iload_n 2, 1) := by decide +kernel
theorem dX6_words_11 : decode cX6_words 11 = .ok (.ifCond .lt 9, 3) := by decide +kernel
theorem dX6_words_14 : decode cX6_words 14 = .ok (.iload_n 2, 1) := by decide +kernel
theorem dX6_words_15 : decode cX6_words 15 = .ok (.bipush 20, 2) := by decide +kernel
theorem dX6_words_17 : decode cX6_words 17 = .ok (.if_icmp .le 13, 3) := by decide +kernel
theorem dX6_words_20 : decode cX6_words 20 = .ok (.new 49, 3) := by decide +kernel
theorem dX6_words_23 : decode cX6_words 23 = .ok (.dup, 1) := by decide +kernel
theorem dX6_words_24 : decode cX6_words 24 = .ok (.ldc 154, 2) := by decide +kernel
theorem dX6_words_26 : decode cX6_words 26 = .ok (.invokespecial 53, 3) := by decide +kernel
theorem dX6_words_29 : decode cX6_words 29 = .ok (.athrow, 1) := by decide +kernel
theorem dX6_words_30 : decode cX6_words 30 = .ok (.aload_n 0, 1) := by decide +kernel
theorem dX6_words_31 : decode cX6_words 31 = .ok (.getfield 38, 3) := by decide +kernel
theorem dX6_words_34 : decode cX6_words 34 = .ok (.aload_n 3, 1) := by decide +kernel
theorem dX6_words_35 : decode cX6_words 35 = .ok (.iload_n 2, 1) := by decide +kernel
theorem dX6_words_36 : decode cX6_words 36 = .ok (.invokevirtual 156, 3) := by decide +kernel
theorem dX6_words_39 : decode cX6_words 39 = .ok (.lreturn, 1) := by decide +kernel
theorem dX6_sets_0 : decode cX6_sets 0 = .ok (.aload_n 0, 1) := by decide +kernel
theorem dX6_sets_1 : decode cX6_sets 1 = .ok (.iload_n 1, 1) := by decide +kernel
theorem dX6_sets_2 : decode cX6_sets 2 = .ok (.invokevirtual 56, 3) := by decide +kernel
theorem dX6_sets_5 : decode cX6_sets 5 = .ok (.astore_n 2, 1) := by decide +kernel
theorem dX6_sets_6 : decode cX6_sets 6 = .ok (.aload_n 2, 1) := by decide +kernel
theorem dX6_sets_7 : decode cX6_sets 7 = .ok (.invokestatic 133, 3) := by decide +kernel
theorem dX6_sets_10 : decode cX6_sets 10 = .ok (.aload_n 0, 1) := by decide +kernel
theorem dX6_sets_11 : decode cX6_sets 11 = .ok (.getfield 38, 3) := by decide +kernel
theorem dX6_sets_14 : decode cX6_sets 14 = .ok (.aload_n 2, 1) := by decide +kernel
theorem dX6_sets_15 : decode cX6_sets 15 = .ok (.invokevirtual 160, 3) := by decide +kernel
theorem dX6_sets_18 : decode cX6_sets 18 = .ok (.aload_n 0, 1) := by decide +kernel
theorem dX6_sets_19 : decode cX6_sets 19 = .ok (.getfield 38, 3) := by decide +kernel
theorem dX6_sets_22 : decode cX6_sets 22 = .ok (.getfield 163, 3) := by decide +kernel
theorem dX6_sets_25 : decode cX6_sets 25 = .ok (.ireturn, 1) := by decide +kernel
theorem dX6_rests_0 : decode cX6_rests 0 = .ok (.aload_n 0, 1) := by decide +kernel
theorem dX6_rests_1 : decode cX6_rests 1 = .ok (.iload_n 1, 1) := by decide +kernel
theorem dX6_rests_2 : decode cX6_rests 2 = .ok (.invokevirtual 56, 3) := by decide +kernel
theorem dX6_rests_5 : decode cX6_rests 5 = .ok (.astore_n 2, 1) := by decide +kernel
theorem dX6_rests_6 : decode cX6_rests 6 = .ok (.aload_n 2, 1) := by decide +kernel
theorem dX6_rests_7 : decode cX6_rests 7 = .ok (.invokestatic 133, 3) := by decide +kernel
theorem dX6_rests_10 : decode cX6_rests 10 = .ok (.aload_n 0, 1) := by decide +kernel
theorem dX6_rests_11 : decode cX6_rests 11 = .ok (.getfield 16, 3) := by decide +kernel
theorem dX6_rests_14 : decode cX6_rests 14 = .ok (.aload_n 2, 1) := by decide +kernel
theorem dX6_rests_15 : decode cX6_rests 15 = .ok (.invokevirtual 113, 3) := by decide +kernel
theorem dX6_rests_18 : decode cX6_rests 18 = .ok (.aload_n 0, 1) := by decide +kernel
theorem dX6_rests_19 : decode cX6_rests 19 = .ok (.getfield 38, 3) := by decide +kernel
theorem dX6_rests_22 : decode cX6_rests 22 = .ok (.aload_n 2, 1) := by decide +kernel
theorem dX6_rests_23 : decode cX6_rests 23 = .ok (.aload_n 0, 1) := by decide +kernel
theorem dX6_rests_24 : decode cX6_rests 24 = .ok (.getfield 16, 3) := by decide +kernel
theorem dX6_rests_27 : decode cX6_rests 27 = .ok (.invokevirtual 166, 3) := by decide +kernel
theorem dX6_rests_30 : decode cX6_rests 30 = .ok (.ireturn, 1) := by decide +kernel
theorem dX6_machineAt_0 : decode cX6_machineAt 0 = .ok (.iload_n 1, 1) := by decide +kernel
theorem dX6_machineAt_1 : decode cX6_machineAt 1 = .ok (.ifCond .lt 9, 3) := by decide +kernel
theorem dX6_machineAt_4 : decode cX6_machineAt 4 = .ok (.iload_n 1, 1) := by decide +kernel
theorem dX6_machineAt_5 : decode cX6_machineAt 5 = .ok (.bipush 8, 2) := by decide +kernel
theorem dX6_machineAt_7 : decode cX6_machineAt 7 = .ok (.if_icmp .lt 13, 3) := by decide +kernel
theorem dX6_machineAt_10 : decode cX6_machineAt 10 = .ok (.new 146, 3) := by decide +kernel
theorem dX6_machineAt_13 : decode cX6_machineAt 13 = .ok (.dup, 1) := by decide +kernel
theorem dX6_machineAt_14 : decode cX6_machineAt 14 = .ok (.ldc 170, 2) := by decide +kernel
theorem dX6_machineAt_16 : decode cX6_machineAt 16 = .ok (.invokespecial 150, 3) := by decide +kernel
theorem dX6_machineAt_19 : decode cX6_machineAt 19 = .ok (.athrow, 1) := by decide +kernel
theorem dX6_machineAt_20 : decode cX6_machineAt 20 = .ok (.aload_n 0, 1) := by decide +kernel
theorem dX6_machineAt_21 : decode cX6_machineAt 21 = .ok (.getfield 11, 3) := by decide +kernel
theorem dX6_machineAt_24 : decode cX6_machineAt 24 = .ok (.iload_n 1, 1) := by decide +kernel
theorem dX6_machineAt_25 : decode cX6_machineAt 25 = .ok (.aaload, 1) := by decide +kernel
theorem dX6_machineAt_26 : decode cX6_machineAt 26 = .ok (.areturn, 1) := by decide +kernel
theorem dX6_checkState_0 : decode cX6_checkState 0 = .ok (.iload_n 1, 1) := by decide +kernel
theorem dX6_checkState_1 : decode cX6_checkState 1 = .ok (.ifCond .lt 11, 3) := by decide +kernel
theorem dX6_checkState_4 : decode cX6_checkState 4 = .ok (.iload_n 1, 1) := by decide +kernel
theorem dX6_checkState_5 : decode cX6_checkState 5 = .ok (.aload_n 0, 1) := by decide +kernel
theorem dX6_checkState_6 : decode cX6_checkState 6 = .ok (.getfield 71, 3) := by decide +kernel
theorem dX6_checkState_9 : decode cX6_checkState 9 = .ok (.if_icmp .lt 13, 3) := by decide +kernel
theorem dX6_checkState_12 : decode cX6_checkState 12 = .ok (.new 146, 3) := by decide +kernel
theorem dX6_checkState_15 : decode cX6_checkState 15 = .ok (.dup, 1) := by decide +kernel
theorem dX6_checkState_16 : decode cX6_checkState 16 = .ok (.ldc 172, 2) := by decide +kernel
theorem dX6_checkState_18 : decode cX6_checkState 18 = .ok (.invokespecial 150, 3) := by decide +kernel
theorem dX6_checkState_21 : decode cX6_checkState 21 = .ok (.athrow, 1) := by decide +kernel
theorem dX6_checkState_22 : decode cX6_checkState 22 = .ok (.return_, 1) := by decide +kernel
theorem dX6_checkFewStates_0 : decode cX6_checkFewStates 0 = .ok (.aload_n 0, 1) := by decide +kernel
theorem dX6_checkFewStates_1 : decode cX6_checkFewStates 1 = .ok (.getfield 71, 3) := by decide +kernel
theorem dX6_checkFewStates_4 : decode cX6_checkFewStates 4 = .ok (.bipush 11, 2) := by decide +kernel
theorem dX6_checkFewStates_6 : decode cX6_checkFewStates 6 = .ok (.if_icmp .le 13, 3) := by decide +kernel
theorem dX6_checkFewStates_9 : decode cX6_checkFewStates 9 = .ok (.new 49, 3) := by decide +kernel
theorem dX6_checkFewStates_12 : decode cX6_checkFewStates 12 = .ok (.dup, 1) := by decide +kernel
theorem dX6_checkFewStates_13 : decode cX6_checkFewStates 13 = .ok (.ldc 174, 2) := by decide +kernel
theorem dX6_checkFewStates_15 : decode cX6_checkFewStates 15 = .ok (.invokespecial 53, 3) := by decide +kernel
theorem dX6_checkFewStates_18 : decode cX6_checkFewStates 18 = .ok (.athrow, 1) := by decide +kernel
theorem dX6_checkFewStates_19 : decode cX6_checkFewStates 19 = .ok (.return_, 1) := by decide +kernel
theorem dX6_letterOf_0 : decode cX6_letterOf 0 = .ok (.iload_n 0, 1) := by decide +kernel
theorem dX6_letterOf_1 : decode cX6_letterOf 1 = .ok (.bipush 97, 2) := by decide +kernel
theorem dX6_letterOf_3 : decode cX6_letterOf 3 = .ok (.if_icmp .lt 16, 3) := by decide +kernel
theorem dX6_letterOf_6 : decode cX6_letterOf 6 = .ok (.iload_n 0, 1) := by decide +kernel
theorem dX6_letterOf_7 : decode cX6_letterOf 7 = .ok (.bipush 105, 2) := by decide +kernel
theorem dX6_letterOf_9 : decode cX6_letterOf 9 = .ok (.if_icmp .ge 10, 3) := by decide +kernel
theorem dX6_letterOf_12 : decode cX6_letterOf 12 = .ok (.iload_n 0, 1) := by decide +kernel
theorem dX6_letterOf_13 : decode cX6_letterOf 13 = .ok (.bipush 97, 2) := by decide +kernel
theorem dX6_letterOf_15 : decode cX6_letterOf 15 = .ok (.isub, 1) := by decide +kernel
theorem dX6_letterOf_16 : decode cX6_letterOf 16 = .ok (.goto 4, 3) := by decide +kernel
theorem dX6_letterOf_19 : decode cX6_letterOf 19 = .ok (.iconst (-1), 1) := by decide +kernel
theorem dX6_letterOf_20 : decode cX6_letterOf 20 = .ok (.ireturn, 1) := by decide +kernel
theorem dX6_hasBit_0 : decode cX6_hasBit 0 = .ok (.iload_n 0, 1) := by decide +kernel
theorem dX6_hasBit_1 : decode cX6_hasBit 1 = .ok (.iload_n 1, 1) := by decide +kernel
theorem dX6_hasBit_2 : decode cX6_hasBit 2 = .ok (.iushr, 1) := by decide +kernel
theorem dX6_hasBit_3 : decode cX6_hasBit 3 = .ok (.iconst 1, 1) := by decide +kernel
theorem dX6_hasBit_4 : decode cX6_hasBit 4 = .ok (.iand, 1) := by decide +kernel
theorem dX6_hasBit_5 : decode cX6_hasBit 5 = .ok (.ifCond .eq 7, 3) := by decide +kernel
theorem dX6_hasBit_8 : decode cX6_hasBit 8 = .ok (.iconst 1, 1) := by decide +kernel
theorem dX6_hasBit_9 : decode cX6_hasBit 9 = .ok (.goto 4, 3) := by decide +kernel
theorem dX6_hasBit_12 : decode cX6_hasBit 12 = .ok (.iconst 0, 1) := by decide +kernel
theorem dX6_hasBit_13 : decode cX6_hasBit 13 = .ok (.ireturn, 1) := by decide +kernel
theorem dX6_withBit_0 : decode cX6_withBit 0 = .ok (.iload_n 2, 1) := by decide +kernel
theorem dX6_withBit_1 : decode cX6_withBit 1 = .ok (.ifCond .eq 11, 3) := by decide +kernel
theorem dX6_withBit_4 : decode cX6_withBit 4 = .ok (.iload_n 0, 1) := by decide +kernel
theorem dX6_withBit_5 : decode cX6_withBit 5 = .ok (.iconst 1, 1) := by decide +kernel
theorem dX6_withBit_6 : decode cX6_withBit 6 = .ok (.iload_n 1, 1) := by decide +kernel
theorem dX6_withBit_7 : decode cX6_withBit 7 = .ok (.ishl, 1) := by decide +kernel
theorem dX6_withBit_8 : decode cX6_withBit 8 = .ok (.ior, 1) := by decide +kernel
theorem dX6_withBit_9 : decode cX6_withBit 9 = .ok (.goto 10, 3) := by decide +kernel
theorem dX6_withBit_12 : decode cX6_withBit 12 = .ok (.iload_n 0, 1) := by decide +kernel
theorem dX6_withBit_13 : decode cX6_withBit 13 = .ok (.iconst 1, 1) := by decide +kernel
theorem dX6_withBit_14 : decode cX6_withBit 14 = .ok (.iload_n 1, 1) := by decide +kernel
theorem dX6_withBit_15 : decode cX6_withBit 15 = .ok (.ishl, 1) := by decide +kernel
theorem dX6_withBit_16 : decode cX6_withBit 16 = .ok (.iconst (-1), 1) := by decide +kernel
theorem dX6_withBit_17 : decode cX6_withBit 17 = .ok (.ixor, 1) := by decide +kernel
theorem dX6_withBit_18 : decode cX6_withBit 18 = .ok (.iand, 1) := by decide +kernel
theorem dX6_withBit_19 : decode cX6_withBit 19 = .ok (.ireturn, 1) := by decide +kernel
