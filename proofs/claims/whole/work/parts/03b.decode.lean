theorem dX2_init_0 : decode cX2_init 0 = .ok (.aload_n 0, 1) := by decide +kernel
theorem dX2_init_1 : decode cX2_init 1 = .ok (.invokespecial 3, 3) := by decide +kernel
theorem dX2_init_4 : decode cX2_init 4 = .ok (.aload_n 0, 1) := by decide +kernel
theorem dX2_init_5 : decode cX2_init 5 = .ok (.sipush 192, 3) := by decide +kernel
theorem dX2_init_8 : decode cX2_init 8 = .ok (.newarray .int, 2) := by decide +kernel
theorem dX2_init_10 : decode cX2_init 10 = .ok (.putfield 9, 3) := by decide +kernel
theorem dX2_init_13 : decode cX2_init 13 = .ok (.aload_n 0, 1) := by decide +kernel
theorem dX2_init_14 : decode cX2_init 14 = .ok (.iconst 1, 1) := by decide +kernel
theorem dX2_init_15 : decode cX2_init 15 = .ok (.putfield 15, 3) := by decide +kernel
theorem dX2_init_18 : decode cX2_init 18 = .ok (.aload_n 0, 1) := by decide +kernel
theorem dX2_init_19 : decode cX2_init 19 = .ok (.iconst 0, 1) := by decide +kernel
theorem dX2_init_20 : decode cX2_init 20 = .ok (.putfield 19, 3) := by decide +kernel
theorem dX2_init_23 : decode cX2_init 23 = .ok (.aload_n 0, 1) := by decide +kernel
theorem dX2_init_24 : decode cX2_init 24 = .ok (.iconst 0, 1) := by decide +kernel
theorem dX2_init_25 : decode cX2_init 25 = .ok (.putfield 22, 3) := by decide +kernel
theorem dX2_init_28 : decode cX2_init 28 = .ok (.return_, 1) := by decide +kernel
theorem dX2_goalsOf_0 : decode cX2_goalsOf 0 = .ok (.aload_n 0, 1) := by decide +kernel
theorem dX2_goalsOf_1 : decode cX2_goalsOf 1 = .ok (.getfield 9, 3) := by decide +kernel
theorem dX2_goalsOf_4 : decode cX2_goalsOf 4 = .ok (.iload_n 2, 1) := by decide +kernel
theorem dX2_goalsOf_5 : decode cX2_goalsOf 5 = .ok (.bipush 24, 2) := by decide +kernel
theorem dX2_goalsOf_7 : decode cX2_goalsOf 7 = .ok (.imul, 1) := by decide +kernel
theorem dX2_goalsOf_8 : decode cX2_goalsOf 8 = .ok (.iload_n 1, 1) := by decide +kernel
theorem dX2_goalsOf_9 : decode cX2_goalsOf 9 = .ok (.iadd, 1) := by decide +kernel
theorem dX2_goalsOf_10 : decode cX2_goalsOf 10 = .ok (.iaload, 1) := by decide +kernel
theorem dX2_goalsOf_11 : decode cX2_goalsOf 11 = .ok (.ireturn, 1) := by decide +kernel
theorem dX2_putGoals_0 : decode cX2_putGoals 0 = .ok (.aload_n 0, 1) := by decide +kernel
theorem dX2_putGoals_1 : decode cX2_putGoals 1 = .ok (.getfield 9, 3) := by decide +kernel
theorem dX2_putGoals_4 : decode cX2_putGoals 4 = .ok (.iload_n 2, 1) := by decide +kernel
theorem dX2_putGoals_5 : decode cX2_putGoals 5 = .ok (.bipush 24, 2) := by decide +kernel
theorem dX2_putGoals_7 : decode cX2_putGoals 7 = .ok (.imul, 1) := by decide +kernel
theorem dX2_putGoals_8 : decode cX2_putGoals 8 = .ok (.iload_n 1, 1) := by decide +kernel
theorem dX2_putGoals_9 : decode cX2_putGoals 9 = .ok (.iadd, 1) := by decide +kernel
theorem dX2_putGoals_10 : decode cX2_putGoals 10 = .ok (.iload_n 3, 1) := by decide +kernel
theorem dX2_putGoals_11 : decode cX2_putGoals 11 = .ok (.iastore, 1) := by decide +kernel
theorem dX2_putGoals_12 : decode cX2_putGoals 12 = .ok (.return_, 1) := by decide +kernel
theorem dX2_goalsOfSet_0 : decode cX2_goalsOfSet 0 = .ok (.iconst 0, 1) := by decide +kernel
theorem dX2_goalsOfSet_1 : decode cX2_goalsOfSet 1 = .ok (.istore_n 3, 1) := by decide +kernel
theorem dX2_goalsOfSet_2 : decode cX2_goalsOfSet 2 = .ok (.iload_n 1, 1) := by decide +kernel
theorem dX2_goalsOfSet_3 : decode cX2_goalsOfSet 3 = .ok (.invokestatic 25, 3) := by decide +kernel
theorem dX2_goalsOfSet_6 : decode cX2_goalsOfSet 6 = .ok (.istore 4, 2) := by decide +kernel
theorem dX2_goalsOfSet_8 : decode cX2_goalsOfSet 8 = .ok (.iload 4, 2) := by decide +kernel
theorem dX2_goalsOfSet_10 : decode cX2_goalsOfSet 10 = .ok (.aload_n 0, 1) := by decide +kernel
theorem dX2_goalsOfSet_11 : decode cX2_goalsOfSet 11 = .ok (.getfield 15, 3) := by decide +kernel
theorem dX2_goalsOfSet_14 : decode cX2_goalsOfSet 14 = .ok (.if_icmp .ge 35, 3) := by decide +kernel
theorem dX2_goalsOfSet_17 : decode cX2_goalsOfSet 17 = .ok (.iload_n 1, 1) := by decide +kernel
theorem dX2_goalsOfSet_18 : decode cX2_goalsOfSet 18 = .ok (.iload 4, 2) := by decide +kernel
theorem dX2_goalsOfSet_20 : decode cX2_goalsOfSet 20 = .ok (.iushr, 1) := by decide +kernel
theorem dX2_goalsOfSet_21 : decode cX2_goalsOfSet 21 = .ok (.ifCond .eq 28, 3) := by decide +kernel
theorem dX2_goalsOfSet_24 : decode cX2_goalsOfSet 24 = .ok (.iload_n 1, 1) := by decide +kernel
theorem dX2_goalsOfSet_25 : decode cX2_goalsOfSet 25 = .ok (.iload 4, 2) := by decide +kernel
theorem dX2_goalsOfSet_27 : decode cX2_goalsOfSet 27 = .ok (.invokestatic 31, 3) := by decide +kernel
theorem dX2_goalsOfSet_30 : decode cX2_goalsOfSet 30 = .ok (.ifCond .eq 13, 3) := by decide +kernel
theorem dX2_goalsOfSet_33 : decode cX2_goalsOfSet 33 = .ok (.iload_n 3, 1) := by decide +kernel
theorem dX2_goalsOfSet_34 : decode cX2_goalsOfSet 34 = .ok (.aload_n 0, 1) := by decide +kernel
theorem dX2_goalsOfSet_35 : decode cX2_goalsOfSet 35 = .ok (.iload 4, 2) := by decide +kernel
theorem dX2_goalsOfSet_37 : decode cX2_goalsOfSet 37 = .ok (.iload_n 2, 1) := by decide +kernel
theorem dX2_goalsOfSet_38 : decode cX2_goalsOfSet 38 = .ok (.invokevirtual 35, 3) := by decide +kernel
theorem dX2_goalsOfSet_41 : decode cX2_goalsOfSet 41 = .ok (.ior, 1) := by decide +kernel
theorem dX2_goalsOfSet_42 : decode cX2_goalsOfSet 42 = .ok (.istore_n 3, 1) := by decide +kernel
theorem dX2_goalsOfSet_43 : decode cX2_goalsOfSet 43 = .ok (.iinc 4 1, 3) := by decide +kernel
theorem dX2_goalsOfSet_46 : decode cX2_goalsOfSet 46 = .ok (.goto (-38), 3) := by decide +kernel
theorem dX2_goalsOfSet_49 : decode cX2_goalsOfSet 49 = .ok (.iload_n 3, 1) := by decide +kernel
theorem dX2_goalsOfSet_50 : decode cX2_goalsOfSet 50 = .ok (.ireturn, 1) := by decide +kernel
theorem dX2_clear_0 : decode cX2_clear 0 = .ok (.aload_n 0, 1) := by decide +kernel
theorem dX2_clear_1 : decode cX2_clear 1 = .ok (.iload_n 1, 1) := by decide +kernel
theorem dX2_clear_2 : decode cX2_clear 2 = .ok (.putfield 15, 3) := by decide +kernel
theorem dX2_clear_5 : decode cX2_clear 5 = .ok (.aload_n 0, 1) := by decide +kernel
theorem dX2_clear_6 : decode cX2_clear 6 = .ok (.iconst 0, 1) := by decide +kernel
theorem dX2_clear_7 : decode cX2_clear 7 = .ok (.putfield 19, 3) := by decide +kernel
theorem dX2_clear_10 : decode cX2_clear 10 = .ok (.aload_n 0, 1) := by decide +kernel
theorem dX2_clear_11 : decode cX2_clear 11 = .ok (.iconst 0, 1) := by decide +kernel
theorem dX2_clear_12 : decode cX2_clear 12 = .ok (.putfield 22, 3) := by decide +kernel
theorem dX2_clear_15 : decode cX2_clear 15 = .ok (.aload_n 0, 1) := by decide +kernel
theorem dX2_clear_16 : decode cX2_clear 16 = .ok (.getfield 9, 3) := by decide +kernel
theorem dX2_clear_19 : decode cX2_clear 19 = .ok (.iconst 0, 1) := by decide +kernel
theorem dX2_clear_20 : decode cX2_clear 20 = .ok (.invokestatic 39, 3) := by decide +kernel
theorem dX2_clear_23 : decode cX2_clear 23 = .ok (.return_, 1) := by decide +kernel
theorem dX2_becomeCopy_0 : decode cX2_becomeCopy 0 = .ok (.aload_n 0, 1) := by decide +kernel
theorem dX2_becomeCopy_1 : decode cX2_becomeCopy 1 = .ok (.aload_n 1, 1) := by decide +kernel
theorem dX2_becomeCopy_2 : decode cX2_becomeCopy 2 = .ok (.getfield 15, 3) := by decide +kernel
theorem dX2_becomeCopy_5 : decode cX2_becomeCopy 5 = .ok (.putfield 15, 3) := by decide +kernel
theorem dX2_becomeCopy_8 : decode cX2_becomeCopy 8 = .ok (.aload_n 0, 1) := by decide +kernel
theorem dX2_becomeCopy_9 : decode cX2_becomeCopy 9 = .ok (.aload_n 1, 1) := by decide +kernel
theorem dX2_becomeCopy_10 : decode cX2_becomeCopy 10 = .ok (.getfield 19, 3) := by decide +kernel
theorem dX2_becomeCopy_13 : decode cX2_becomeCopy 13 = .ok (.putfield 19, 3) := by decide +kernel
theorem dX2_becomeCopy_16 : decode cX2_becomeCopy 16 = .ok (.aload_n 0, 1) := by decide +kernel
theorem dX2_becomeCopy_17 : decode cX2_becomeCopy 17 = .ok (.aload_n 1, 1) := by decide +kernel
theorem dX2_becomeCopy_18 : decode cX2_becomeCopy 18 = .ok (.getfield 22, 3) := by decide +kernel
theorem dX2_becomeCopy_21 : decode cX2_becomeCopy 21 = .ok (.putfield 22, 3) := by decide +kernel
theorem dX2_becomeCopy_24 : decode cX2_becomeCopy 24 = .ok (.aload_n 1, 1) := by decide +kernel
theorem dX2_becomeCopy_25 : decode cX2_becomeCopy 25 = .ok (.getfield 9, 3) := by decide +kernel
theorem dX2_becomeCopy_28 : decode cX2_becomeCopy 28 = .ok (.iconst 0, 1) := by decide +kernel
theorem dX2_becomeCopy_29 : decode cX2_becomeCopy 29 = .ok (.aload_n 0, 1) := by decide +kernel
theorem dX2_becomeCopy_30 : decode cX2_becomeCopy 30 = .ok (.getfield 9, 3) := by decide +kernel
theorem dX2_becomeCopy_33 : decode cX2_becomeCopy 33 = .ok (.iconst 0, 1) := by decide +kernel
theorem dX2_becomeCopy_34 : decode cX2_becomeCopy 34 = .ok (.aload_n 0, 1) := by decide +kernel
theorem dX2_becomeCopy_35 : decode cX2_becomeCopy 35 = .ok (.getfield 9, 3) := by decide +kernel
theorem dX2_becomeCopy_38 : decode cX2_becomeCopy 38 = .ok (.arraylength, 1) := by decide +kernel
theorem dX2_becomeCopy_39 : decode cX2_becomeCopy 39 = .ok (.invokestatic 45, 3) := by decide +kernel
theorem dX2_becomeCopy_42 : decode cX2_becomeCopy 42 = .ok (.return_, 1) := by decide +kernel
theorem dX2_becomeTurned_0 : decode cX2_becomeTurned 0 = .ok (.aload_n 0, 1) := by decide +kernel
theorem dX2_becomeTurned_1 : decode cX2_becomeTurned 1 = .ok (.aload_n 1, 1) := by decide +kernel
theorem dX2_becomeTurned_2 : decode cX2_becomeTurned 2 = .ok (.getfield 15, 3) := by decide +kernel
theorem dX2_becomeTurned_5 : decode cX2_becomeTurned 5 = .ok (.invokevirtual 51, 3) := by decide +kernel
theorem dX2_becomeTurned_8 : decode cX2_becomeTurned 8 = .ok (.aload_n 0, 1) := by decide +kernel
theorem dX2_becomeTurned_9 : decode cX2_becomeTurned 9 = .ok (.aload_n 1, 1) := by decide +kernel
theorem dX2_becomeTurned_10 : decode cX2_becomeTurned 10 = .ok (.getfield 22, 3) := by decide +kernel
theorem dX2_becomeTurned_13 : decode cX2_becomeTurned 13 = .ok (.putfield 19, 3) := by decide +kernel
theorem dX2_becomeTurned_16 : decode cX2_becomeTurned 16 = .ok (.aload_n 0, 1) := by decide +kernel
theorem dX2_becomeTurned_17 : decode cX2_becomeTurned 17 = .ok (.aload_n 1, 1) := by decide +kernel
theorem dX2_becomeTurned_18 : decode cX2_becomeTurned 18 = .ok (.getfield 19, 3) := by decide +kernel
theorem dX2_becomeTurned_21 : decode cX2_becomeTurned 21 = .ok (.putfield 22, 3) := by decide +kernel
theorem dX2_becomeTurned_24 : decode cX2_becomeTurned 24 = .ok (.iconst 0, 1) := by decide +kernel
theorem dX2_becomeTurned_25 : decode cX2_becomeTurned 25 = .ok (.istore_n 2, 1) := by decide +kernel
theorem dX2_becomeTurned_26 : decode cX2_becomeTurned 26 = .ok (.iload_n 2, 1) := by decide +kernel
theorem dX2_becomeTurned_27 : decode cX2_becomeTurned 27 = .ok (.bipush 8, 2) := by decide +kernel
theorem dX2_becomeTurned_29 : decode cX2_becomeTurned 29 = .ok (.if_icmp .ge 37, 3) := by decide +kernel
theorem dX2_becomeTurned_32 : decode cX2_becomeTurned 32 = .ok (.iconst 0, 1) := by decide +kernel
theorem dX2_becomeTurned_33 : decode cX2_becomeTurned 33 = .ok (.istore_n 3, 1) := by decide +kernel
theorem dX2_becomeTurned_34 : decode cX2_becomeTurned 34 = .ok (.iload_n 3, 1) := by decide +kernel
theorem dX2_becomeTurned_35 : decode cX2_becomeTurned 35 = .ok (.aload_n 0, 1) := by decide +kernel
theorem dX2_becomeTurned_36 : decode cX2_becomeTurned 36 = .ok (.getfield 15, 3) := by decide +kernel
theorem dX2_becomeTurned_39 : decode cX2_becomeTurned 39 = .ok (.if_icmp .ge 21, 3) := by decide +kernel
theorem dX2_becomeTurned_42 : decode cX2_becomeTurned 42 = .ok (.aload_n 0, 1) := by decide +kernel
theorem dX2_becomeTurned_43 : decode cX2_becomeTurned 43 = .ok (.iload_n 3, 1) := by decide +kernel
theorem dX2_becomeTurned_44 : decode cX2_becomeTurned 44 = .ok (.iload_n 2, 1) := by decide +kernel
theorem dX2_becomeTurned_45 : decode cX2_becomeTurned 45 = .ok (.aload_n 1, 1) := by decide +kernel
theorem dX2_becomeTurned_46 : decode cX2_becomeTurned 46 = .ok (.iload_n 3, 1) := by decide +kernel
theorem dX2_becomeTurned_47 : decode cX2_becomeTurned 47 = .ok (.iload_n 2, 1) := by decide +kernel
theorem dX2_becomeTurned_48 : decode cX2_becomeTurned 48 = .ok (.invokevirtual 35, 3) := by decide +kernel
theorem dX2_becomeTurned_51 : decode cX2_becomeTurned 51 = .ok (.invokevirtual 55, 3) := by decide +kernel
theorem dX2_becomeTurned_54 : decode cX2_becomeTurned 54 = .ok (.iinc 3 1, 3) := by decide +kernel
theorem dX2_becomeTurned_57 : decode cX2_becomeTurned 57 = .ok (.goto (-23), 3) := by decide +kernel
theorem dX2_becomeTurned_60 : decode cX2_becomeTurned 60 = .ok (.iinc 2 1, 3) := by decide +kernel
theorem dX2_becomeTurned_63 : decode cX2_becomeTurned 63 = .ok (.goto (-37), 3) := by decide +kernel
theorem dX2_becomeTurned_66 : decode cX2_becomeTurned 66 = .ok (.return_, 1) := by decide +kernel
theorem dX2_turnArcs_0 : decode cX2_turnArcs 0 = .ok (.iconst 0, 1) := by decide +kernel
theorem dX2_turnArcs_1 : decode cX2_turnArcs 1 = .ok (.istore 4, 2) := by decide +kernel
theorem dX2_turnArcs_3 : decode cX2_turnArcs 3 = .ok (.iload 4, 2) := by decide +kernel
theorem dX2_turnArcs_5 : decode cX2_turnArcs 5 = .ok (.aload_n 0, 1) := by decide +kernel
theorem dX2_turnArcs_6 : decode cX2_turnArcs 6 = .ok (.getfield 15, 3) := by decide +kernel
theorem dX2_turnArcs_9 : decode cX2_turnArcs 9 = .ok (.if_icmp .ge 37, 3) := by decide +kernel
theorem dX2_turnArcs_12 : decode cX2_turnArcs 12 = .ok (.iload_n 3, 1) := by decide +kernel
theorem dX2_turnArcs_13 : decode cX2_turnArcs 13 = .ok (.iload 4, 2) := by decide +kernel
theorem dX2_turnArcs_15 : decode cX2_turnArcs 15 = .ok (.invokestatic 31, 3) := by decide +kernel
theorem dX2_turnArcs_18 : decode cX2_turnArcs 18 = .ok (.ifCond .eq 22, 3) := by decide +kernel
theorem dX2_turnArcs_21 : decode cX2_turnArcs 21 = .ok (.aload_n 0, 1) := by decide +kernel
theorem dX2_turnArcs_22 : decode cX2_turnArcs 22 = .ok (.iload 4, 2) := by decide +kernel
theorem dX2_turnArcs_24 : decode cX2_turnArcs 24 = .ok (.iload_n 2, 1) := by decide +kernel
theorem dX2_turnArcs_25 : decode cX2_turnArcs 25 = .ok (.aload_n 0, 1) := by decide +kernel
theorem dX2_turnArcs_26 : decode cX2_turnArcs 26 = .ok (.iload 4, 2) := by decide +kernel
theorem dX2_turnArcs_28 : decode cX2_turnArcs 28 = .ok (.iload_n 2, 1) := by decide +kernel
theorem dX2_turnArcs_29 : decode cX2_turnArcs 29 = .ok (.invokevirtual 35, 3) := by decide +kernel
theorem dX2_turnArcs_32 : decode cX2_turnArcs 32 = .ok (.iload_n 1, 1) := by decide +kernel
theorem dX2_turnArcs_33 : decode cX2_turnArcs 33 = .ok (.iconst 1, 1) := by decide +kernel
theorem dX2_turnArcs_34 : decode cX2_turnArcs 34 = .ok (.invokestatic 59, 3) := by decide +kernel
theorem dX2_turnArcs_37 : decode cX2_turnArcs 37 = .ok (.invokevirtual 63, 3) := by decide +kernel
theorem dX2_turnArcs_40 : decode cX2_turnArcs 40 = .ok (.iinc 4 1, 3) := by decide +kernel
theorem dX2_turnArcs_43 : decode cX2_turnArcs 43 = .ok (.goto (-40), 3) := by decide +kernel
theorem dX2_turnArcs_46 : decode cX2_turnArcs 46 = .ok (.return_, 1) := by decide +kernel
theorem dX2_becomeBeside_0 : decode cX2_becomeBeside 0 = .ok (.aload_n 0, 1) := by decide +kernel
theorem dX2_becomeBeside_1 : decode cX2_becomeBeside 1 = .ok (.aload_n 1, 1) := by decide +kernel
theorem dX2_becomeBeside_2 : decode cX2_becomeBeside 2 = .ok (.invokevirtual 66, 3) := by decide +kernel
theorem dX2_becomeBeside_5 : decode cX2_becomeBeside 5 = .ok (.aload_n 0, 1) := by decide +kernel
theorem dX2_becomeBeside_6 : decode cX2_becomeBeside 6 = .ok (.aload_n 1, 1) := by decide +kernel
theorem dX2_becomeBeside_7 : decode cX2_becomeBeside 7 = .ok (.getfield 15, 3) := by decide +kernel
theorem dX2_becomeBeside_10 : decode cX2_becomeBeside 10 = .ok (.aload_n 2, 1) := by decide +kernel
theorem dX2_becomeBeside_11 : decode cX2_becomeBeside 11 = .ok (.getfield 15, 3) := by decide +kernel
theorem dX2_becomeBeside_14 : decode cX2_becomeBeside 14 = .ok (.iadd, 1) := by decide +kernel
theorem dX2_becomeBeside_15 : decode cX2_becomeBeside 15 = .ok (.putfield 15, 3) := by decide +kernel
theorem dX2_becomeBeside_18 : decode cX2_becomeBeside 18 = .ok (.aload_n 0, 1) := by decide +kernel
theorem dX2_becomeBeside_19 : decode cX2_becomeBeside 19 = .ok (.dup, 1) := by decide +kernel
theorem dX2_becomeBeside_20 : decode cX2_becomeBeside 20 = .ok (.getfield 19, 3) := by decide +kernel
theorem dX2_becomeBeside_23 : decode cX2_becomeBeside 23 = .ok (.aload_n 2, 1) := by decide +kernel
theorem dX2_becomeBeside_24 : decode cX2_becomeBeside 24 = .ok (.getfield 19, 3) := by decide +kernel
theorem dX2_becomeBeside_27 : decode cX2_becomeBeside 27 = .ok (.aload_n 1, 1) := by decide +kernel
theorem dX2_becomeBeside_28 : decode cX2_becomeBeside 28 = .ok (.getfield 15, 3) := by decide +kernel
theorem dX2_becomeBeside_31 : decode cX2_becomeBeside 31 = .ok (.ishl, 1) := by decide +kernel
theorem dX2_becomeBeside_32 : decode cX2_becomeBeside 32 = .ok (.ior, 1) := by decide +kernel
theorem dX2_becomeBeside_33 : decode cX2_becomeBeside 33 = .ok (.putfield 19, 3) := by decide +kernel
theorem dX2_becomeBeside_36 : decode cX2_becomeBeside 36 = .ok (.aload_n 0, 1) := by decide +kernel
theorem dX2_becomeBeside_37 : decode cX2_becomeBeside 37 = .ok (.dup, 1) := by decide +kernel
theorem dX2_becomeBeside_38 : decode cX2_becomeBeside 38 = .ok (.getfield 22, 3) := by decide +kernel
theorem dX2_becomeBeside_41 : decode cX2_becomeBeside 41 = .ok (.aload_n 2, 1) := by decide +kernel
theorem dX2_becomeBeside_42 : decode cX2_becomeBeside 42 = .ok (.getfield 22, 3) := by decide +kernel
theorem dX2_becomeBeside_45 : decode cX2_becomeBeside 45 = .ok (.aload_n 1, 1) := by decide +kernel
theorem dX2_becomeBeside_46 : decode cX2_becomeBeside 46 = .ok (.getfield 15, 3) := by decide +kernel
theorem dX2_becomeBeside_49 : decode cX2_becomeBeside 49 = .ok (.ishl, 1) := by decide +kernel
theorem dX2_becomeBeside_50 : decode cX2_becomeBeside 50 = .ok (.ior, 1) := by decide +kernel
theorem dX2_becomeBeside_51 : decode cX2_becomeBeside 51 = .ok (.putfield 22, 3) := by decide +kernel
theorem dX2_becomeBeside_54 : decode cX2_becomeBeside 54 = .ok (.iconst 0, 1) := by decide +kernel
theorem dX2_becomeBeside_55 : decode cX2_becomeBeside 55 = .ok (.istore_n 3, 1) := by decide +kernel
theorem dX2_becomeBeside_56 : decode cX2_becomeBeside 56 = .ok (.iload_n 3, 1) := by decide +kernel
theorem dX2_becomeBeside_57 : decode cX2_becomeBeside 57 = .ok (.bipush 8, 2) := by decide +kernel
theorem dX2_becomeBeside_59 : decode cX2_becomeBeside 59 = .ok (.if_icmp .ge 51, 3) := by decide +kernel
theorem dX2_becomeBeside_62 : decode cX2_becomeBeside 62 = .ok (.iconst 0, 1) := by decide +kernel
theorem dX2_becomeBeside_63 : decode cX2_becomeBeside 63 = .ok (.istore 4, 2) := by decide +kernel
theorem dX2_becomeBeside_65 : decode cX2_becomeBeside 65 = .ok (.iload 4, 2) := by decide +kernel
theorem dX2_becomeBeside_67 : decode cX2_becomeBeside 67 = .ok (.aload_n 2, 1) := by decide +kernel
theorem dX2_becomeBeside_68 : decode cX2_becomeBeside 68 = .ok (.getfield 15, 3) := by decide +kernel
theorem dX2_becomeBeside_71 : decode cX2_becomeBeside 71 = .ok (.if_icmp .ge 33, 3) := by decide +kernel
theorem dX2_becomeBeside_74 : decode cX2_becomeBeside 74 = .ok (.aload_n 0, 1) := by decide +kernel
theorem dX2_becomeBeside_75 : decode cX2_becomeBeside 75 = .ok (.aload_n 1, 1) := by decide +kernel
theorem dX2_becomeBeside_76 : decode cX2_becomeBeside 76 = .ok (.getfield 15, 3) := by decide +kernel
theorem dX2_becomeBeside_79 : decode cX2_becomeBeside 79 = .ok (.iload 4, 2) := by decide +kernel
theorem dX2_becomeBeside_81 : decode cX2_becomeBeside 81 = .ok (.iadd, 1) := by decide +kernel
theorem dX2_becomeBeside_82 : decode cX2_becomeBeside 82 = .ok (.iload_n 3, 1) := by decide +kernel
theorem dX2_becomeBeside_83 : decode cX2_becomeBeside 83 = .ok (.aload_n 2, 1) := by decide +kernel
theorem dX2_becomeBeside_84 : decode cX2_becomeBeside 84 = .ok (.iload 4, 2) := by decide +kernel
theorem dX2_becomeBeside_86 : decode cX2_becomeBeside 86 = .ok (.iload_n 3, 1) := by decide +kernel
theorem dX2_becomeBeside_87 : decode cX2_becomeBeside 87 = .ok (.invokevirtual 35, 3) := by decide +kernel
theorem dX2_becomeBeside_90 : decode cX2_becomeBeside 90 = .ok (.aload_n 1, 1) := by decide +kernel
theorem dX2_becomeBeside_91 : decode cX2_becomeBeside 91 = .ok (.getfield 15, 3) := by decide +kernel
theorem dX2_becomeBeside_94 : decode cX2_becomeBeside 94 = .ok (.ishl, 1) := by decide +kernel
theorem dX2_becomeBeside_95 : decode cX2_becomeBeside 95 = .ok (.invokevirtual 63, 3) := by decide +kernel
theorem dX2_becomeBeside_98 : decode cX2_becomeBeside 98 = .ok (.iinc 4 1, 3) := by decide +kernel
theorem dX2_becomeBeside_101 : decode cX2_becomeBeside 101 = .ok (.goto (-36), 3) := by decide +kernel
theorem dX2_becomeBeside_104 : decode cX2_becomeBeside 104 = .ok (.iinc 3 1, 3) := by decide +kernel
theorem dX2_becomeBeside_107 : decode cX2_becomeBeside 107 = .ok (.goto (-51), 3) := by decide +kernel
theorem dX2_becomeBeside_110 : decode cX2_becomeBeside 110 = .ok (.return_, 1) := by decide +kernel
theorem dX2_becomePairs_0 : decode cX2_becomePairs 0 = .ok (.aload_n 0, 1) := by decide +kernel
theorem dX2_becomePairs_1 : decode cX2_becomePairs 1 = .ok (.aload_n 1, 1) := by decide +kernel
theorem dX2_becomePairs_2 : decode cX2_becomePairs 2 = .ok (.getfield 15, 3) := by decide +kernel
theorem dX2_becomePairs_5 : decode cX2_becomePairs 5 = .ok (.aload_n 2, 1) := by decide +kernel
theorem dX2_becomePairs_6 : decode cX2_becomePairs 6 = .ok (.getfield 15, 3) := by decide +kernel
theorem dX2_becomePairs_9 : decode cX2_becomePairs 9 = .ok (.imul, 1) := by decide +kernel
theorem dX2_becomePairs_10 : decode cX2_becomePairs 10 = .ok (.invokevirtual 51, 3) := by decide +kernel
theorem dX2_becomePairs_13 : decode cX2_becomePairs 13 = .ok (.aload_n 0, 1) := by decide +kernel
theorem dX2_becomePairs_14 : decode cX2_becomePairs 14 = .ok (.aload_n 1, 1) := by decide +kernel
theorem dX2_becomePairs_15 : decode cX2_becomePairs 15 = .ok (.aload_n 1, 1) := by decide +kernel
theorem dX2_becomePairs_16 : decode cX2_becomePairs 16 = .ok (.getfield 19, 3) := by decide +kernel
theorem dX2_becomePairs_19 : decode cX2_becomePairs 19 = .ok (.aload_n 2, 1) := by decide +kernel
theorem dX2_becomePairs_20 : decode cX2_becomePairs 20 = .ok (.aload_n 2, 1) := by decide +kernel
theorem dX2_becomePairs_21 : decode cX2_becomePairs 21 = .ok (.getfield 19, 3) := by decide +kernel
theorem dX2_becomePairs_24 : decode cX2_becomePairs 24 = .ok (.invokestatic 70, 3) := by decide +kernel
theorem dX2_becomePairs_27 : decode cX2_becomePairs 27 = .ok (.putfield 19, 3) := by decide +kernel
theorem dX2_becomePairs_30 : decode cX2_becomePairs 30 = .ok (.aload_n 0, 1) := by decide +kernel
theorem dX2_becomePairs_31 : decode cX2_becomePairs 31 = .ok (.aload_n 1, 1) := by decide +kernel
theorem dX2_becomePairs_32 : decode cX2_becomePairs 32 = .ok (.aload_n 1, 1) := by decide +kernel
theorem dX2_becomePairs_33 : decode cX2_becomePairs 33 = .ok (.getfield 22, 3) := by decide +kernel
theorem dX2_becomePairs_36 : decode cX2_becomePairs 36 = .ok (.aload_n 2, 1) := by decide +kernel
theorem dX2_becomePairs_37 : decode cX2_becomePairs 37 = .ok (.aload_n 2, 1) := by decide +kernel
theorem dX2_becomePairs_38 : decode cX2_becomePairs 38 = .ok (.getfield 22, 3) := by decide +kernel
theorem dX2_becomePairs_41 : decode cX2_becomePairs 41 = .ok (.invokestatic 70, 3) := by decide +kernel
theorem dX2_becomePairs_44 : decode cX2_becomePairs 44 = .ok (.putfield 22, 3) := by decide +kernel
theorem dX2_becomePairs_47 : decode cX2_becomePairs 47 = .ok (.iconst 0, 1) := by decide +kernel
theorem dX2_becomePairs_48 : decode cX2_becomePairs 48 = .ok (.istore_n 3, 1) := by decide +kernel
theorem dX2_becomePairs_49 : decode cX2_becomePairs 49 = .ok (.iload_n 3, 1) := by decide +kernel
theorem dX2_becomePairs_50 : decode cX2_becomePairs 50 = .ok (.aload_n 1, 1) := by decide +kernel
theorem dX2_becomePairs_51 : decode cX2_becomePairs 51 = .ok (.getfield 15, 3) := by decide +kernel
theorem dX2_becomePairs_54 : decode cX2_becomePairs 54 = .ok (.if_icmp .ge 36, 3) := by decide +kernel
theorem dX2_becomePairs_57 : decode cX2_becomePairs 57 = .ok (.iconst 0, 1) := by decide +kernel
theorem dX2_becomePairs_58 : decode cX2_becomePairs 58 = .ok (.istore 4, 2) := by decide +kernel
theorem dX2_becomePairs_60 : decode cX2_becomePairs 60 = .ok (.iload 4, 2) := by decide +kernel
theorem dX2_becomePairs_62 : decode cX2_becomePairs 62 = .ok (.aload_n 2, 1) := by decide +kernel
theorem dX2_becomePairs_63 : decode cX2_becomePairs 63 = .ok (.getfield 15, 3) := by decide +kernel
theorem dX2_becomePairs_66 : decode cX2_becomePairs 66 = .ok (.if_icmp .ge 18, 3) := by decide +kernel
theorem dX2_becomePairs_69 : decode cX2_becomePairs 69 = .ok (.aload_n 0, 1) := by decide +kernel
theorem dX2_becomePairs_70 : decode cX2_becomePairs 70 = .ok (.aload_n 1, 1) := by decide +kernel
theorem dX2_becomePairs_71 : decode cX2_becomePairs 71 = .ok (.iload_n 3, 1) := by decide +kernel
theorem dX2_becomePairs_72 : decode cX2_becomePairs 72 = .ok (.aload_n 2, 1) := by decide +kernel
theorem dX2_becomePairs_73 : decode cX2_becomePairs 73 = .ok (.iload 4, 2) := by decide +kernel
theorem dX2_becomePairs_75 : decode cX2_becomePairs 75 = .ok (.invokevirtual 74, 3) := by decide +kernel
theorem dX2_becomePairs_78 : decode cX2_becomePairs 78 = .ok (.iinc 4 1, 3) := by decide +kernel
theorem dX2_becomePairs_81 : decode cX2_becomePairs 81 = .ok (.goto (-21), 3) := by decide +kernel
theorem dX2_becomePairs_84 : decode cX2_becomePairs 84 = .ok (.iinc 3 1, 3) := by decide +kernel
theorem dX2_becomePairs_87 : decode cX2_becomePairs 87 = .ok (.goto (-38), 3) := by decide +kernel
theorem dX2_becomePairs_90 : decode cX2_becomePairs 90 = .ok (.return_, 1) := by decide +kernel
theorem dX2_pairArcs_0 : decode cX2_pairArcs 0 = .ok (.iconst 0, 1) := by decide +kernel
theorem dX2_pairArcs_1 : decode cX2_pairArcs 1 = .ok (.istore 5, 2) := by decide +kernel
theorem dX2_pairArcs_3 : decode cX2_pairArcs 3 = .ok (.iload 5, 2) := by decide +kernel
theorem dX2_pairArcs_5 : decode cX2_pairArcs 5 = .ok (.bipush 8, 2) := by decide +kernel
theorem dX2_pairArcs_7 : decode cX2_pairArcs 7 = .ok (.if_icmp .ge 48, 3) := by decide +kernel
theorem dX2_pairArcs_10 : decode cX2_pairArcs 10 = .ok (.aload_n 1, 1) := by decide +kernel
theorem dX2_pairArcs_11 : decode cX2_pairArcs 11 = .ok (.aload_n 1, 1) := by decide +kernel
theorem dX2_pairArcs_12 : decode cX2_pairArcs 12 = .ok (.iload_n 2, 1) := by decide +kernel
theorem dX2_pairArcs_13 : decode cX2_pairArcs 13 = .ok (.iload 5, 2) := by decide +kernel
theorem dX2_pairArcs_15 : decode cX2_pairArcs 15 = .ok (.invokevirtual 35, 3) := by decide +kernel
theorem dX2_pairArcs_18 : decode cX2_pairArcs 18 = .ok (.aload_n 3, 1) := by decide +kernel
theorem dX2_pairArcs_19 : decode cX2_pairArcs 19 = .ok (.aload_n 3, 1) := by decide +kernel
theorem dX2_pairArcs_20 : decode cX2_pairArcs 20 = .ok (.iload 4, 2) := by decide +kernel
theorem dX2_pairArcs_22 : decode cX2_pairArcs 22 = .ok (.iload 5, 2) := by decide +kernel
theorem dX2_pairArcs_24 : decode cX2_pairArcs 24 = .ok (.invokevirtual 35, 3) := by decide +kernel
theorem dX2_pairArcs_27 : decode cX2_pairArcs 27 = .ok (.invokestatic 70, 3) := by decide +kernel
theorem dX2_pairArcs_30 : decode cX2_pairArcs 30 = .ok (.istore 6, 2) := by decide +kernel
theorem dX2_pairArcs_32 : decode cX2_pairArcs 32 = .ok (.aload_n 0, 1) := by decide +kernel
theorem dX2_pairArcs_33 : decode cX2_pairArcs 33 = .ok (.iload_n 2, 1) := by decide +kernel
theorem dX2_pairArcs_34 : decode cX2_pairArcs 34 = .ok (.aload_n 3, 1) := by decide +kernel
theorem dX2_pairArcs_35 : decode cX2_pairArcs 35 = .ok (.getfield 15, 3) := by decide +kernel
theorem dX2_pairArcs_38 : decode cX2_pairArcs 38 = .ok (.imul, 1) := by decide +kernel
theorem dX2_pairArcs_39 : decode cX2_pairArcs 39 = .ok (.iload 4, 2) := by decide +kernel
theorem dX2_pairArcs_41 : decode cX2_pairArcs 41 = .ok (.iadd, 1) := by decide +kernel
theorem dX2_pairArcs_42 : decode cX2_pairArcs 42 = .ok (.iload 5, 2) := by decide +kernel
theorem dX2_pairArcs_44 : decode cX2_pairArcs 44 = .ok (.iload 6, 2) := by decide +kernel
theorem dX2_pairArcs_46 : decode cX2_pairArcs 46 = .ok (.invokevirtual 63, 3) := by decide +kernel
theorem dX2_pairArcs_49 : decode cX2_pairArcs 49 = .ok (.iinc 5 1, 3) := by decide +kernel
theorem dX2_pairArcs_52 : decode cX2_pairArcs 52 = .ok (.goto (-49), 3) := by decide +kernel
theorem dX2_pairArcs_55 : decode cX2_pairArcs 55 = .ok (.return_, 1) := by decide +kernel
theorem dX2_pairs_0 : decode cX2_pairs 0 = .ok (.iconst 0, 1) := by decide +kernel
theorem dX2_pairs_1 : decode cX2_pairs 1 = .ok (.istore 4, 2) := by decide +kernel
theorem dX2_pairs_3 : decode cX2_pairs 3 = .ok (.iconst 0, 1) := by decide +kernel
theorem dX2_pairs_4 : decode cX2_pairs 4 = .ok (.istore 5, 2) := by decide +kernel
theorem dX2_pairs_6 : decode cX2_pairs 6 = .ok (.iload 5, 2) := by decide +kernel
theorem dX2_pairs_8 : decode cX2_pairs 8 = .ok (.aload_n 0, 1) := by decide +kernel
theorem dX2_pairs_9 : decode cX2_pairs 9 = .ok (.getfield 15, 3) := by decide +kernel
theorem dX2_pairs_12 : decode cX2_pairs 12 = .ok (.if_icmp .ge 32, 3) := by decide +kernel
theorem dX2_pairs_15 : decode cX2_pairs 15 = .ok (.iload_n 1, 1) := by decide +kernel
theorem dX2_pairs_16 : decode cX2_pairs 16 = .ok (.iload 5, 2) := by decide +kernel
theorem dX2_pairs_18 : decode cX2_pairs 18 = .ok (.invokestatic 31, 3) := by decide +kernel
theorem dX2_pairs_21 : decode cX2_pairs 21 = .ok (.ifCond .eq 17, 3) := by decide +kernel
theorem dX2_pairs_24 : decode cX2_pairs 24 = .ok (.iload 4, 2) := by decide +kernel
theorem dX2_pairs_26 : decode cX2_pairs 26 = .ok (.iload_n 3, 1) := by decide +kernel
theorem dX2_pairs_27 : decode cX2_pairs 27 = .ok (.iload 5, 2) := by decide +kernel
theorem dX2_pairs_29 : decode cX2_pairs 29 = .ok (.aload_n 2, 1) := by decide +kernel
theorem dX2_pairs_30 : decode cX2_pairs 30 = .ok (.getfield 15, 3) := by decide +kernel
theorem dX2_pairs_33 : decode cX2_pairs 33 = .ok (.imul, 1) := by decide +kernel
theorem dX2_pairs_34 : decode cX2_pairs 34 = .ok (.ishl, 1) := by decide +kernel
theorem dX2_pairs_35 : decode cX2_pairs 35 = .ok (.ior, 1) := by decide +kernel
theorem dX2_pairs_36 : decode cX2_pairs 36 = .ok (.istore 4, 2) := by decide +kernel
theorem dX2_pairs_38 : decode cX2_pairs 38 = .ok (.iinc 5 1, 3) := by decide +kernel
theorem dX2_pairs_41 : decode cX2_pairs 41 = .ok (.goto (-35), 3) := by decide +kernel
theorem dX2_pairs_44 : decode cX2_pairs 44 = .ok (.iload 4, 2) := by decide +kernel
theorem dX2_pairs_46 : decode cX2_pairs 46 = .ok (.ireturn, 1) := by decide +kernel
theorem dX4_init_0 : decode cX4_init 0 = .ok (.aload_n 0, 1) := by decide +kernel
theorem dX4_init_1 : decode cX4_init 1 = .ok (.invokespecial 3, 3) := by decide +kernel
theorem dX4_init_4 : decode cX4_init 4 = .ok (.aload_n 0, 1) := by decide +kernel
theorem dX4_init_5 : decode cX4_init 5 = .ok (.sipush 16384, 3) := by decide +kernel
theorem dX4_init_8 : decode cX4_init 8 = .ok (.newarray .int, 2) := by decide +kernel
theorem dX4_init_10 : decode cX4_init 10 = .ok (.putfield 9, 3) := by decide +kernel
theorem dX4_init_13 : decode cX4_init 13 = .ok (.aload_n 0, 1) := by decide +kernel
theorem dX4_init_14 : decode cX4_init 14 = .ok (.sipush 2048, 3) := by decide +kernel
theorem dX4_init_17 : decode cX4_init 17 = .ok (.newarray .boolean, 2) := by decide +kernel
theorem dX4_init_19 : decode cX4_init 19 = .ok (.putfield 15, 3) := by decide +kernel
theorem dX4_init_22 : decode cX4_init 22 = .ok (.aload_n 0, 1) := by decide +kernel
theorem dX4_init_23 : decode cX4_init 23 = .ok (.sipush 2048, 3) := by decide +kernel
theorem dX4_init_26 : decode cX4_init 26 = .ok (.newarray .int, 2) := by decide +kernel
theorem dX4_init_28 : decode cX4_init 28 = .ok (.putfield 19, 3) := by decide +kernel
theorem dX4_init_31 : decode cX4_init 31 = .ok (.aload_n 0, 1) := by decide +kernel
theorem dX4_init_32 : decode cX4_init 32 = .ok (.sipush 2048, 3) := by decide +kernel
theorem dX4_init_35 : decode cX4_init 35 = .ok (.newarray .int, 2) := by decide +kernel
theorem dX4_init_37 : decode cX4_init 37 = .ok (.putfield 22, 3) := by decide +kernel
theorem dX4_init_40 : decode cX4_init 40 = .ok (.aload_n 0, 1) := by decide +kernel
theorem dX4_init_41 : decode cX4_init 41 = .ok (.sipush 2048, 3) := by decide +kernel
theorem dX4_init_44 : decode cX4_init 44 = .ok (.newarray .long, 2) := by decide +kernel
theorem dX4_init_46 : decode cX4_init 46 = .ok (.putfield 25, 3) := by decide +kernel
theorem dX4_init_49 : decode cX4_init 49 = .ok (.aload_n 0, 1) := by decide +kernel
theorem dX4_init_50 : decode cX4_init 50 = .ok (.sipush 2048, 3) := by decide +kernel
theorem dX4_init_53 : decode cX4_init 53 = .ok (.newarray .long, 2) := by decide +kernel
theorem dX4_init_55 : decode cX4_init 55 = .ok (.putfield 29, 3) := by decide +kernel
theorem dX4_init_58 : decode cX4_init 58 = .ok (.aload_n 0, 1) := by decide +kernel
theorem dX4_init_59 : decode cX4_init 59 = .ok (.iconst 0, 1) := by decide +kernel
theorem dX4_init_60 : decode cX4_init 60 = .ok (.putfield 32, 3) := by decide +kernel
theorem dX4_init_63 : decode cX4_init 63 = .ok (.aload_n 0, 1) := by decide +kernel
theorem dX4_init_64 : decode cX4_init 64 = .ok (.iconst 0, 1) := by decide +kernel
theorem dX4_init_65 : decode cX4_init 65 = .ok (.putfield 36, 3) := by decide +kernel
theorem dX4_init_68 : decode cX4_init 68 = .ok (.return_, 1) := by decide +kernel
theorem dX4_fillSteps_0 : decode cX4_fillSteps 0 = .ok (.aload_n 0, 1) := by decide +kernel
theorem dX4_fillSteps_1 : decode cX4_fillSteps 1 = .ok (.iconst 1, 1) := by decide +kernel
theorem dX4_fillSteps_2 : decode cX4_fillSteps 2 = .ok (.aload_n 1, 1) := by decide +kernel
theorem dX4_fillSteps_3 : decode cX4_fillSteps 3 = .ok (.getfield 39, 3) := by decide +kernel
theorem dX4_fillSteps_6 : decode cX4_fillSteps 6 = .ok (.ishl, 1) := by decide +kernel
theorem dX4_fillSteps_7 : decode cX4_fillSteps 7 = .ok (.putfield 32, 3) := by decide +kernel
theorem dX4_fillSteps_10 : decode cX4_fillSteps 10 = .ok (.iconst 0, 1) := by decide +kernel
theorem dX4_fillSteps_11 : decode cX4_fillSteps 11 = .ok (.istore_n 2, 1) := by decide +kernel
theorem dX4_fillSteps_12 : decode cX4_fillSteps 12 = .ok (.iload_n 2, 1) := by decide +kernel
theorem dX4_fillSteps_13 : decode cX4_fillSteps 13 = .ok (.bipush 8, 2) := by decide +kernel
theorem dX4_fillSteps_15 : decode cX4_fillSteps 15 = .ok (.if_icmp .ge 78, 3) := by decide +kernel
theorem dX4_fillSteps_18 : decode cX4_fillSteps 18 = .ok (.iload_n 2, 1) := by decide +kernel
theorem dX4_fillSteps_19 : decode cX4_fillSteps 19 = .ok (.sipush 2048, 3) := by decide +kernel
theorem dX4_fillSteps_22 : decode cX4_fillSteps 22 = .ok (.imul, 1) := by decide +kernel
theorem dX4_fillSteps_23 : decode cX4_fillSteps 23 = .ok (.istore_n 3, 1) := by decide +kernel
theorem dX4_fillSteps_24 : decode cX4_fillSteps 24 = .ok (.aload_n 0, 1) := by decide +kernel
theorem dX4_fillSteps_25 : decode cX4_fillSteps 25 = .ok (.getfield 9, 3) := by decide +kernel
theorem dX4_fillSteps_28 : decode cX4_fillSteps 28 = .ok (.iload_n 3, 1) := by decide +kernel
theorem dX4_fillSteps_29 : decode cX4_fillSteps 29 = .ok (.iconst 0, 1) := by decide +kernel
theorem dX4_fillSteps_30 : decode cX4_fillSteps 30 = .ok (.iastore, 1) := by decide +kernel
theorem dX4_fillSteps_31 : decode cX4_fillSteps 31 = .ok (.iconst 1, 1) := by decide +kernel
theorem dX4_fillSteps_32 : decode cX4_fillSteps 32 = .ok (.istore 4, 2) := by decide +kernel
theorem dX4_fillSteps_34 : decode cX4_fillSteps 34 = .ok (.iload 4, 2) := by decide +kernel
theorem dX4_fillSteps_36 : decode cX4_fillSteps 36 = .ok (.aload_n 0, 1) := by decide +kernel
theorem dX4_fillSteps_37 : decode cX4_fillSteps 37 = .ok (.getfield 32, 3) := by decide +kernel
theorem dX4_fillSteps_40 : decode cX4_fillSteps 40 = .ok (.if_icmp .ge 47, 3) := by decide +kernel
theorem dX4_fillSteps_43 : decode cX4_fillSteps 43 = .ok (.iload 4, 2) := by decide +kernel
theorem dX4_fillSteps_45 : decode cX4_fillSteps 45 = .ok (.invokestatic 44, 3) := by decide +kernel
theorem dX4_fillSteps_48 : decode cX4_fillSteps 48 = .ok (.istore 5, 2) := by decide +kernel
theorem dX4_fillSteps_50 : decode cX4_fillSteps 50 = .ok (.aload_n 0, 1) := by decide +kernel
theorem dX4_fillSteps_51 : decode cX4_fillSteps 51 = .ok (.getfield 9, 3) := by decide +kernel
theorem dX4_fillSteps_54 : decode cX4_fillSteps 54 = .ok (.iload_n 3, 1) := by decide +kernel
theorem dX4_fillSteps_55 : decode cX4_fillSteps 55 = .ok (.iload 4, 2) := by decide +kernel
theorem dX4_fillSteps_57 : decode cX4_fillSteps 57 = .ok (.iadd, 1) := by decide +kernel
theorem dX4_fillSteps_58 : decode cX4_fillSteps 58 = .ok (.aload_n 0, 1) := by decide +kernel
theorem dX4_fillSteps_59 : decode cX4_fillSteps 59 = .ok (.getfield 9, 3) := by decide +kernel
theorem dX4_fillSteps_62 : decode cX4_fillSteps 62 = .ok (.iload_n 3, 1) := by decide +kernel
theorem dX4_fillSteps_63 : decode cX4_fillSteps 63 = .ok (.iload 4, 2) := by decide +kernel
theorem dX4_fillSteps_65 : decode cX4_fillSteps 65 = .ok (.iload 4, 2) := by decide +kernel
theorem dX4_fillSteps_67 : decode cX4_fillSteps 67 = .ok (.iconst 1, 1) := by decide +kernel
theorem dX4_fillSteps_68 : decode cX4_fillSteps 68 = .ok (.isub, 1) := by decide +kernel
theorem dX4_fillSteps_69 : decode cX4_fillSteps 69 = .ok (.iand, 1) := by decide +kernel
theorem dX4_fillSteps_70 : decode cX4_fillSteps 70 = .ok (.iadd, 1) := by decide +kernel
theorem dX4_fillSteps_71 : decode cX4_fillSteps 71 = .ok (.iaload, 1) := by decide +kernel
theorem dX4_fillSteps_72 : decode cX4_fillSteps 72 = .ok (.aload_n 1, 1) := by decide +kernel
theorem dX4_fillSteps_73 : decode cX4_fillSteps 73 = .ok (.iload 5, 2) := by decide +kernel
theorem dX4_fillSteps_75 : decode cX4_fillSteps 75 = .ok (.iload_n 2, 1) := by decide +kernel
theorem dX4_fillSteps_76 : decode cX4_fillSteps 76 = .ok (.invokevirtual 50, 3) := by decide +kernel
theorem dX4_fillSteps_79 : decode cX4_fillSteps 79 = .ok (.ior, 1) := by decide +kernel
theorem dX4_fillSteps_80 : decode cX4_fillSteps 80 = .ok (.iastore, 1) := by decide +kernel
theorem dX4_fillSteps_81 : decode cX4_fillSteps 81 = .ok (.iinc 4 1, 3) := by decide +kernel
theorem dX4_fillSteps_84 : decode cX4_fillSteps 84 = .ok (.goto (-50), 3) := by decide +kernel
theorem dX4_fillSteps_87 : decode cX4_fillSteps 87 = .ok (.iinc 2 1, 3) := by decide +kernel
theorem dX4_fillSteps_90 : decode cX4_fillSteps 90 = .ok (.goto (-78), 3) := by decide +kernel
theorem dX4_fillSteps_93 : decode cX4_fillSteps 93 = .ok (.return_, 1) := by decide +kernel
theorem dX4_stepFrom_0 : decode cX4_stepFrom 0 = .ok (.aload_n 0, 1) := by decide +kernel
theorem dX4_stepFrom_1 : decode cX4_stepFrom 1 = .ok (.getfield 9, 3) := by decide +kernel
theorem dX4_stepFrom_4 : decode cX4_stepFrom 4 = .ok (.iload_n 2, 1) := by decide +kernel
theorem dX4_stepFrom_5 : decode cX4_stepFrom 5 = .ok (.sipush 2048, 3) := by decide +kernel
theorem dX4_stepFrom_8 : decode cX4_stepFrom 8 = .ok (.imul, 1) := by decide +kernel
theorem dX4_stepFrom_9 : decode cX4_stepFrom 9 = .ok (.iload_n 1, 1) := by decide +kernel
theorem dX4_stepFrom_10 : decode cX4_stepFrom 10 = .ok (.iadd, 1) := by decide +kernel
theorem dX4_stepFrom_11 : decode cX4_stepFrom 11 = .ok (.iaload, 1) := by decide +kernel
theorem dX4_stepFrom_12 : decode cX4_stepFrom 12 = .ok (.ireturn, 1) := by decide +kernel
theorem dX4_meetAll_0 : decode cX4_meetAll 0 = .ok (.aload_n 0, 1) := by decide +kernel
theorem dX4_meetAll_1 : decode cX4_meetAll 1 = .ok (.aload_n 1, 1) := by decide +kernel
theorem dX4_meetAll_2 : decode cX4_meetAll 2 = .ok (.invokevirtual 54, 3) := by decide +kernel
theorem dX4_meetAll_5 : decode cX4_meetAll 5 = .ok (.aload_n 0, 1) := by decide +kernel
theorem dX4_meetAll_6 : decode cX4_meetAll 6 = .ok (.invokevirtual 58, 3) := by decide +kernel
theorem dX4_meetAll_9 : decode cX4_meetAll 9 = .ok (.aload_n 0, 1) := by decide +kernel
theorem dX4_meetAll_10 : decode cX4_meetAll 10 = .ok (.iconst 0, 1) := by decide +kernel
theorem dX4_meetAll_11 : decode cX4_meetAll 11 = .ok (.putfield 36, 3) := by decide +kernel
theorem dX4_meetAll_14 : decode cX4_meetAll 14 = .ok (.aload_n 0, 1) := by decide +kernel
theorem dX4_meetAll_15 : decode cX4_meetAll 15 = .ok (.aload_n 1, 1) := by decide +kernel
theorem dX4_meetAll_16 : decode cX4_meetAll 16 = .ok (.getfield 61, 3) := by decide +kernel
theorem dX4_meetAll_19 : decode cX4_meetAll 19 = .ok (.invokevirtual 64, 3) := by decide +kernel
theorem dX4_meetAll_22 : decode cX4_meetAll 22 = .ok (.iconst 0, 1) := by decide +kernel
theorem dX4_meetAll_23 : decode cX4_meetAll 23 = .ok (.istore_n 2, 1) := by decide +kernel
theorem dX4_meetAll_24 : decode cX4_meetAll 24 = .ok (.iload_n 2, 1) := by decide +kernel
theorem dX4_meetAll_25 : decode cX4_meetAll 25 = .ok (.aload_n 0, 1) := by decide +kernel
theorem dX4_meetAll_26 : decode cX4_meetAll 26 = .ok (.getfield 36, 3) := by decide +kernel
theorem dX4_meetAll_29 : decode cX4_meetAll 29 = .ok (.if_icmp .ge 45, 3) := by decide +kernel
theorem dX4_meetAll_32 : decode cX4_meetAll 32 = .ok (.iload_n 2, 1) := by decide +kernel
theorem dX4_meetAll_33 : decode cX4_meetAll 33 = .ok (.sipush 2048, 3) := by decide +kernel
theorem dX4_meetAll_36 : decode cX4_meetAll 36 = .ok (.if_icmp .ge 38, 3) := by decide +kernel
theorem dX4_meetAll_39 : decode cX4_meetAll 39 = .ok (.iconst 0, 1) := by decide +kernel
theorem dX4_meetAll_40 : decode cX4_meetAll 40 = .ok (.istore_n 3, 1) := by decide +kernel
theorem dX4_meetAll_41 : decode cX4_meetAll 41 = .ok (.iload_n 3, 1) := by decide +kernel
theorem dX4_meetAll_42 : decode cX4_meetAll 42 = .ok (.bipush 8, 2) := by decide +kernel
theorem dX4_meetAll_44 : decode cX4_meetAll 44 = .ok (.if_icmp .ge 24, 3) := by decide +kernel
theorem dX4_meetAll_47 : decode cX4_meetAll 47 = .ok (.aload_n 0, 1) := by decide +kernel
theorem dX4_meetAll_48 : decode cX4_meetAll 48 = .ok (.aload_n 0, 1) := by decide +kernel
theorem dX4_meetAll_49 : decode cX4_meetAll 49 = .ok (.aload_n 0, 1) := by decide +kernel
theorem dX4_meetAll_50 : decode cX4_meetAll 50 = .ok (.getfield 19, 3) := by decide +kernel
theorem dX4_meetAll_53 : decode cX4_meetAll 53 = .ok (.iload_n 2, 1) := by decide +kernel
theorem dX4_meetAll_54 : decode cX4_meetAll 54 = .ok (.iaload, 1) := by decide +kernel
theorem dX4_meetAll_55 : decode cX4_meetAll 55 = .ok (.iload_n 3, 1) := by decide +kernel
theorem dX4_meetAll_56 : decode cX4_meetAll 56 = .ok (.invokevirtual 68, 3) := by decide +kernel
theorem dX4_meetAll_59 : decode cX4_meetAll 59 = .ok (.invokevirtual 64, 3) := by decide +kernel
theorem dX4_meetAll_62 : decode cX4_meetAll 62 = .ok (.iinc 3 1, 3) := by decide +kernel
theorem dX4_meetAll_65 : decode cX4_meetAll 65 = .ok (.goto (-24), 3) := by decide +kernel
theorem dX4_meetAll_68 : decode cX4_meetAll 68 = .ok (.iinc 2 1, 3) := by decide +kernel
theorem dX4_meetAll_71 : decode cX4_meetAll 71 = .ok (.goto (-47), 3) := by decide +kernel
theorem dX4_meetAll_74 : decode cX4_meetAll 74 = .ok (.return_, 1) := by decide +kernel
theorem dX4_meet_0 : decode cX4_meet 0 = .ok (.aload_n 0, 1) := by decide +kernel
theorem dX4_meet_1 : decode cX4_meet 1 = .ok (.iload_n 1, 1) := by decide +kernel
theorem dX4_meet_2 : decode cX4_meet 2 = .ok (.invokevirtual 71, 3) := by decide +kernel
theorem dX4_meet_5 : decode cX4_meet 5 = .ok (.ifCond .eq 33, 3) := by decide +kernel
theorem dX4_meet_8 : decode cX4_meet 8 = .ok (.aload_n 0, 1) := by decide +kernel
theorem dX4_meet_9 : decode cX4_meet 9 = .ok (.getfield 36, 3) := by decide +kernel
theorem dX4_meet_12 : decode cX4_meet 12 = .ok (.sipush 2048, 3) := by decide +kernel
theorem dX4_meet_15 : decode cX4_meet 15 = .ok (.if_icmp .ge 23, 3) := by decide +kernel
theorem dX4_meet_18 : decode cX4_meet 18 = .ok (.aload_n 0, 1) := by decide +kernel
theorem dX4_meet_19 : decode cX4_meet 19 = .ok (.getfield 19, 3) := by decide +kernel
theorem dX4_meet_22 : decode cX4_meet 22 = .ok (.aload_n 0, 1) := by decide +kernel
theorem dX4_meet_23 : decode cX4_meet 23 = .ok (.getfield 36, 3) := by decide +kernel
theorem dX4_meet_26 : decode cX4_meet 26 = .ok (.iload_n 1, 1) := by decide +kernel
theorem dX4_meet_27 : decode cX4_meet 27 = .ok (.iastore, 1) := by decide +kernel
theorem dX4_meet_28 : decode cX4_meet 28 = .ok (.aload_n 0, 1) := by decide +kernel
theorem dX4_meet_29 : decode cX4_meet 29 = .ok (.dup, 1) := by decide +kernel
theorem dX4_meet_30 : decode cX4_meet 30 = .ok (.getfield 36, 3) := by decide +kernel
theorem dX4_meet_33 : decode cX4_meet 33 = .ok (.iconst 1, 1) := by decide +kernel
theorem dX4_meet_34 : decode cX4_meet 34 = .ok (.iadd, 1) := by decide +kernel
theorem dX4_meet_35 : decode cX4_meet 35 = .ok (.putfield 36, 3) := by decide +kernel
theorem dX4_meet_38 : decode cX4_meet 38 = .ok (.return_, 1) := by decide +kernel
theorem dX4_clearMarks_0 : decode cX4_clearMarks 0 = .ok (.iconst 0, 1) := by decide +kernel
theorem dX4_clearMarks_1 : decode cX4_clearMarks 1 = .ok (.istore_n 1, 1) := by decide +kernel
theorem dX4_clearMarks_2 : decode cX4_clearMarks 2 = .ok (.iload_n 1, 1) := by decide +kernel
theorem dX4_clearMarks_3 : decode cX4_clearMarks 3 = .ok (.aload_n 0, 1) := by decide +kernel
theorem dX4_clearMarks_4 : decode cX4_clearMarks 4 = .ok (.getfield 32, 3) := by decide +kernel
theorem dX4_clearMarks_7 : decode cX4_clearMarks 7 = .ok (.if_icmp .ge 16, 3) := by decide +kernel
theorem dX4_clearMarks_10 : decode cX4_clearMarks 10 = .ok (.aload_n 0, 1) := by decide +kernel
theorem dX4_clearMarks_11 : decode cX4_clearMarks 11 = .ok (.getfield 15, 3) := by decide +kernel
theorem dX4_clearMarks_14 : decode cX4_clearMarks 14 = .ok (.iload_n 1, 1) := by decide +kernel
theorem dX4_clearMarks_15 : decode cX4_clearMarks 15 = .ok (.iconst 0, 1) := by decide +kernel
theorem dX4_clearMarks_16 : decode cX4_clearMarks 16 = .ok (.bastore, 1) := by decide +kernel
theorem dX4_clearMarks_17 : decode cX4_clearMarks 17 = .ok (.iinc 1 1, 3) := by decide +kernel
theorem dX4_clearMarks_20 : decode cX4_clearMarks 20 = .ok (.goto (-18), 3) := by decide +kernel
theorem dX4_clearMarks_23 : decode cX4_clearMarks 23 = .ok (.return_, 1) := by decide +kernel
theorem dX4_markNew_0 : decode cX4_markNew 0 = .ok (.aload_n 0, 1) := by decide +kernel
theorem dX4_markNew_1 : decode cX4_markNew 1 = .ok (.getfield 15, 3) := by decide +kernel
theorem dX4_markNew_4 : decode cX4_markNew 4 = .ok (.iload_n 1, 1) := by decide +kernel
theorem dX4_markNew_5 : decode cX4_markNew 5 = .ok (.baload, 1) := by decide +kernel
theorem dX4_markNew_6 : decode cX4_markNew 6 = .ok (.ifCond .ne 7, 3) := by decide +kernel
theorem dX4_markNew_9 : decode cX4_markNew 9 = .ok (.iconst 1, 1) := by decide +kernel
theorem dX4_markNew_10 : decode cX4_markNew 10 = .ok (.goto 4, 3) := by decide +kernel
theorem dX4_markNew_13 : decode cX4_markNew 13 = .ok (.iconst 0, 1) := by decide +kernel
theorem dX4_markNew_14 : decode cX4_markNew 14 = .ok (.istore_n 2, 1) := by decide +kernel
theorem dX4_markNew_15 : decode cX4_markNew 15 = .ok (.aload_n 0, 1) := by decide +kernel
theorem dX4_markNew_16 : decode cX4_markNew 16 = .ok (.getfield 15, 3) := by decide +kernel
theorem dX4_markNew_19 : decode cX4_markNew 19 = .ok (.iload_n 1, 1) := by decide +kernel
theorem dX4_markNew_20 : decode cX4_markNew 20 = .ok (.iconst 1, 1) := by decide +kernel
theorem dX4_markNew_21 : decode cX4_markNew 21 = .ok (.bastore, 1) := by decide +kernel
theorem dX4_markNew_22 : decode cX4_markNew 22 = .ok (.iload_n 2, 1) := by decide +kernel
theorem dX4_markNew_23 : decode cX4_markNew 23 = .ok (.ireturn, 1) := by decide +kernel
theorem dX4_countWords_0 : decode cX4_countWords 0 = .ok (.aload_n 0, 1) := by decide +kernel
theorem dX4_countWords_1 : decode cX4_countWords 1 = .ok (.aload_n 1, 1) := by decide +kernel
theorem dX4_countWords_2 : decode cX4_countWords 2 = .ok (.invokevirtual 75, 3) := by decide +kernel
theorem dX4_countWords_5 : decode cX4_countWords 5 = .ok (.aload_n 0, 1) := by decide +kernel
theorem dX4_countWords_6 : decode cX4_countWords 6 = .ok (.getfield 25, 3) := by decide +kernel
theorem dX4_countWords_9 : decode cX4_countWords 9 = .ok (.astore_n 3, 1) := by decide +kernel
theorem dX4_countWords_10 : decode cX4_countWords 10 = .ok (.aload_n 0, 1) := by decide +kernel
theorem dX4_countWords_11 : decode cX4_countWords 11 = .ok (.getfield 29, 3) := by decide +kernel
theorem dX4_countWords_14 : decode cX4_countWords 14 = .ok (.astore 4, 2) := by decide +kernel
theorem dX4_countWords_16 : decode cX4_countWords 16 = .ok (.aload_n 3, 1) := by decide +kernel
theorem dX4_countWords_17 : decode cX4_countWords 17 = .ok (.iconst 0, 1) := by decide +kernel
theorem dX4_countWords_18 : decode cX4_countWords 18 = .ok (.aload_n 0, 1) := by decide +kernel
theorem dX4_countWords_19 : decode cX4_countWords 19 = .ok (.getfield 32, 3) := by decide +kernel
theorem dX4_countWords_22 : decode cX4_countWords 22 = .ok (.lconst 0, 1) := by decide +kernel
theorem dX4_countWords_23 : decode cX4_countWords 23 = .ok (.invokestatic 78, 3) := by decide +kernel
theorem dX4_countWords_26 : decode cX4_countWords 26 = .ok (.aload_n 3, 1) := by decide +kernel
theorem dX4_countWords_27 : decode cX4_countWords 27 = .ok (.aload_n 1, 1) := by decide +kernel
theorem dX4_countWords_28 : decode cX4_countWords 28 = .ok (.getfield 61, 3) := by decide +kernel
theorem dX4_countWords_31 : decode cX4_countWords 31 = .ok (.lconst 1, 1) := by decide +kernel
theorem dX4_countWords_32 : decode cX4_countWords 32 = .ok (.lastore, 1) := by decide +kernel
theorem dX4_countWords_33 : decode cX4_countWords 33 = .ok (.iconst 0, 1) := by decide +kernel
theorem dX4_countWords_34 : decode cX4_countWords 34 = .ok (.istore 5, 2) := by decide +kernel
theorem dX4_countWords_36 : decode cX4_countWords 36 = .ok (.iload 5, 2) := by decide +kernel
theorem dX4_countWords_38 : decode cX4_countWords 38 = .ok (.iload_n 2, 1) := by decide +kernel
theorem dX4_countWords_39 : decode cX4_countWords 39 = .ok (.if_icmp .ge 26, 3) := by decide +kernel
theorem dX4_countWords_42 : decode cX4_countWords 42 = .ok (.aload_n 0, 1) := by decide +kernel
theorem dX4_countWords_43 : decode cX4_countWords 43 = .ok (.aload_n 3, 1) := by decide +kernel
theorem dX4_countWords_44 : decode cX4_countWords 44 = .ok (.aload 4, 2) := by decide +kernel
theorem dX4_countWords_46 : decode cX4_countWords 46 = .ok (.invokevirtual 84, 3) := by decide +kernel
theorem dX4_countWords_49 : decode cX4_countWords 49 = .ok (.aload_n 3, 1) := by decide +kernel
theorem dX4_countWords_50 : decode cX4_countWords 50 = .ok (.astore 6, 2) := by decide +kernel
theorem dX4_countWords_52 : decode cX4_countWords 52 = .ok (.aload 4, 2) := by decide +kernel
theorem dX4_countWords_54 : decode cX4_countWords 54 = .ok (.astore_n 3, 1) := by decide +kernel
theorem dX4_countWords_55 : decode cX4_countWords 55 = .ok (.aload 6, 2) := by decide +kernel
theorem dX4_countWords_57 : decode cX4_countWords 57 = .ok (.astore 4, 2) := by decide +kernel
theorem dX4_countWords_59 : decode cX4_countWords 59 = .ok (.iinc 5 1, 3) := by decide +kernel
theorem dX4_countWords_62 : decode cX4_countWords 62 = .ok (.goto (-26), 3) := by decide +kernel
theorem dX4_countWords_65 : decode cX4_countWords 65 = .ok (.aload_n 0, 1) := by decide +kernel
theorem dX4_countWords_66 : decode cX4_countWords 66 = .ok (.aload_n 3, 1) := by decide +kernel
theorem dX4_countWords_67 : decode cX4_countWords 67 = .ok (.aload_n 1, 1) := by decide +kernel
theorem dX4_countWords_68 : decode cX4_countWords 68 = .ok (.getfield 88, 3) := by decide +kernel
theorem dX4_countWords_71 : decode cX4_countWords 71 = .ok (.invokevirtual 91, 3) := by decide +kernel
theorem dX4_countWords_74 : decode cX4_countWords 74 = .ok (.lreturn, 1) := by decide +kernel
theorem dX4_addLetterToWords_0 : decode cX4_addLetterToWords 0 = .ok (.aload_n 2, 1) := by decide +kernel
theorem dX4_addLetterToWords_1 : decode cX4_addLetterToWords 1 = .ok (.iconst 0, 1) := by decide +kernel
theorem dX4_addLetterToWords_2 : decode cX4_addLetterToWords 2 = .ok (.aload_n 0, 1) := by decide +kernel
theorem dX4_addLetterToWords_3 : decode cX4_addLetterToWords 3 = .ok (.getfield 32, 3) := by decide +kernel
theorem dX4_addLetterToWords_6 : decode cX4_addLetterToWords 6 = .ok (.lconst 0, 1) := by decide +kernel
theorem dX4_addLetterToWords_7 : decode cX4_addLetterToWords 7 = .ok (.invokestatic 78, 3) := by decide +kernel
theorem dX4_addLetterToWords_10 : decode cX4_addLetterToWords 10 = .ok (.iconst 0, 1) := by decide +kernel
theorem dX4_addLetterToWords_11 : decode cX4_addLetterToWords 11 = .ok (.istore_n 3, 1) := by decide +kernel
theorem dX4_addLetterToWords_12 : decode cX4_addLetterToWords 12 = .ok (.iload_n 3, 1) := by decide +kernel
theorem dX4_addLetterToWords_13 : decode cX4_addLetterToWords 13 = .ok (.aload_n 0, 1) := by decide +kernel
theorem dX4_addLetterToWords_14 : decode cX4_addLetterToWords 14 = .ok (.getfield 36, 3) := by decide +kernel
theorem dX4_addLetterToWords_17 : decode cX4_addLetterToWords 17 = .ok (.if_icmp .ge 59, 3) := by decide +kernel
theorem dX4_addLetterToWords_20 : decode cX4_addLetterToWords 20 = .ok (.aload_n 0, 1) := by decide +kernel
theorem dX4_addLetterToWords_21 : decode cX4_addLetterToWords 21 = .ok (.getfield 19, 3) := by decide +kernel
theorem dX4_addLetterToWords_24 : decode cX4_addLetterToWords 24 = .ok (.iload_n 3, 1) := by decide +kernel
theorem dX4_addLetterToWords_25 : decode cX4_addLetterToWords 25 = .ok (.iaload, 1) := by decide +kernel
theorem dX4_addLetterToWords_26 : decode cX4_addLetterToWords 26 = .ok (.istore 4, 2) := by decide +kernel
theorem dX4_addLetterToWords_28 : decode cX4_addLetterToWords 28 = .ok (.aload_n 1, 1) := by decide +kernel
theorem dX4_addLetterToWords_29 : decode cX4_addLetterToWords 29 = .ok (.iload 4, 2) := by decide +kernel
theorem dX4_addLetterToWords_31 : decode cX4_addLetterToWords 31 = .ok (.laload, 1) := by decide +kernel
theorem dX4_addLetterToWords_32 : decode cX4_addLetterToWords 32 = .ok (.lconst 0, 1) := by decide +kernel
theorem dX4_addLetterToWords_33 : decode cX4_addLetterToWords 33 = .ok (.lcmp, 1) := by decide +kernel
theorem dX4_addLetterToWords_34 : decode cX4_addLetterToWords 34 = .ok (.ifCond .eq 36, 3) := by decide +kernel
theorem dX4_addLetterToWords_37 : decode cX4_addLetterToWords 37 = .ok (.iconst 0, 1) := by decide +kernel
theorem dX4_addLetterToWords_38 : decode cX4_addLetterToWords 38 = .ok (.istore 5, 2) := by decide +kernel
theorem dX4_addLetterToWords_40 : decode cX4_addLetterToWords 40 = .ok (.iload 5, 2) := by decide +kernel
theorem dX4_addLetterToWords_42 : decode cX4_addLetterToWords 42 = .ok (.bipush 8, 2) := by decide +kernel
theorem dX4_addLetterToWords_44 : decode cX4_addLetterToWords 44 = .ok (.if_icmp .ge 26, 3) := by decide +kernel
theorem dX4_addLetterToWords_47 : decode cX4_addLetterToWords 47 = .ok (.aload_n 2, 1) := by decide +kernel
theorem dX4_addLetterToWords_48 : decode cX4_addLetterToWords 48 = .ok (.aload_n 0, 1) := by decide +kernel
theorem dX4_addLetterToWords_49 : decode cX4_addLetterToWords 49 = .ok (.iload 4, 2) := by decide +kernel
theorem dX4_addLetterToWords_51 : decode cX4_addLetterToWords 51 = .ok (.iload 5, 2) := by decide +kernel
theorem dX4_addLetterToWords_53 : decode cX4_addLetterToWords 53 = .ok (.invokevirtual 68, 3) := by decide +kernel
theorem dX4_addLetterToWords_56 : decode cX4_addLetterToWords 56 = .ok (.dup2, 1) := by decide +kernel
theorem dX4_addLetterToWords_57 : decode cX4_addLetterToWords 57 = .ok (.laload, 1) := by decide +kernel
theorem dX4_addLetterToWords_58 : decode cX4_addLetterToWords 58 = .ok (.aload_n 1, 1) := by decide +kernel
theorem dX4_addLetterToWords_59 : decode cX4_addLetterToWords 59 = .ok (.iload 4, 2) := by decide +kernel
theorem dX4_addLetterToWords_61 : decode cX4_addLetterToWords 61 = .ok (.laload, 1) := by decide +kernel
theorem dX4_addLetterToWords_62 : decode cX4_addLetterToWords 62 = .ok (.ladd, 1) := by decide +kernel
theorem dX4_addLetterToWords_63 : decode cX4_addLetterToWords 63 = .ok (.lastore, 1) := by decide +kernel
theorem dX4_addLetterToWords_64 : decode cX4_addLetterToWords 64 = .ok (.iinc 5 1, 3) := by decide +kernel
theorem dX4_addLetterToWords_67 : decode cX4_addLetterToWords 67 = .ok (.goto (-27), 3) := by decide +kernel
theorem dX4_addLetterToWords_70 : decode cX4_addLetterToWords 70 = .ok (.iinc 3 1, 3) := by decide +kernel
theorem dX4_addLetterToWords_73 : decode cX4_addLetterToWords 73 = .ok (.goto (-61), 3) := by decide +kernel
theorem dX4_addLetterToWords_76 : decode cX4_addLetterToWords 76 = .ok (.return_, 1) := by decide +kernel
theorem dX4_sumOfEnds_0 : decode cX4_sumOfEnds 0 = .ok (.lconst 0, 1) := by decide +kernel
theorem dX4_sumOfEnds_1 : decode cX4_sumOfEnds 1 = .ok (.lstore_n 3, 1) := by decide +kernel
theorem dX4_sumOfEnds_2 : decode cX4_sumOfEnds 2 = .ok (.iconst 0, 1) := by decide +kernel
theorem dX4_sumOfEnds_3 : decode cX4_sumOfEnds 3 = .ok (.istore 5, 2) := by decide +kernel
theorem dX4_sumOfEnds_5 : decode cX4_sumOfEnds 5 = .ok (.iload 5, 2) := by decide +kernel
theorem dX4_sumOfEnds_7 : decode cX4_sumOfEnds 7 = .ok (.aload_n 0, 1) := by decide +kernel
theorem dX4_sumOfEnds_8 : decode cX4_sumOfEnds 8 = .ok (.getfield 36, 3) := by decide +kernel
theorem dX4_sumOfEnds_11 : decode cX4_sumOfEnds 11 = .ok (.if_icmp .ge 33, 3) := by decide +kernel
theorem dX4_sumOfEnds_14 : decode cX4_sumOfEnds 14 = .ok (.aload_n 0, 1) := by decide +kernel
theorem dX4_sumOfEnds_15 : decode cX4_sumOfEnds 15 = .ok (.getfield 19, 3) := by decide +kernel
theorem dX4_sumOfEnds_18 : decode cX4_sumOfEnds 18 = .ok (.iload 5, 2) := by decide +kernel
theorem dX4_sumOfEnds_20 : decode cX4_sumOfEnds 20 = .ok (.iaload, 1) := by decide +kernel
theorem dX4_sumOfEnds_21 : decode cX4_sumOfEnds 21 = .ok (.iload_n 2, 1) := by decide +kernel
theorem dX4_sumOfEnds_22 : decode cX4_sumOfEnds 22 = .ok (.iand, 1) := by decide +kernel
theorem dX4_sumOfEnds_23 : decode cX4_sumOfEnds 23 = .ok (.ifCond .eq 15, 3) := by decide +kernel
theorem dX4_sumOfEnds_26 : decode cX4_sumOfEnds 26 = .ok (.lload_n 3, 1) := by decide +kernel
theorem dX4_sumOfEnds_27 : decode cX4_sumOfEnds 27 = .ok (.aload_n 1, 1) := by decide +kernel
theorem dX4_sumOfEnds_28 : decode cX4_sumOfEnds 28 = .ok (.aload_n 0, 1) := by decide +kernel
theorem dX4_sumOfEnds_29 : decode cX4_sumOfEnds 29 = .ok (.getfield 19, 3) := by decide +kernel
theorem dX4_sumOfEnds_32 : decode cX4_sumOfEnds 32 = .ok (.iload 5, 2) := by decide +kernel
theorem dX4_sumOfEnds_34 : decode cX4_sumOfEnds 34 = .ok (.iaload, 1) := by decide +kernel
theorem dX4_sumOfEnds_35 : decode cX4_sumOfEnds 35 = .ok (.laload, 1) := by decide +kernel
theorem dX4_sumOfEnds_36 : decode cX4_sumOfEnds 36 = .ok (.ladd, 1) := by decide +kernel
theorem dX4_sumOfEnds_37 : decode cX4_sumOfEnds 37 = .ok (.lstore_n 3, 1) := by decide +kernel
theorem dX4_sumOfEnds_38 : decode cX4_sumOfEnds 38 = .ok (.iinc 5 1, 3) := by decide +kernel
theorem dX4_sumOfEnds_41 : decode cX4_sumOfEnds 41 = .ok (.goto (-36), 3) := by decide +kernel
theorem dX4_sumOfEnds_44 : decode cX4_sumOfEnds 44 = .ok (.lload_n 3, 1) := by decide +kernel
theorem dX4_sumOfEnds_45 : decode cX4_sumOfEnds 45 = .ok (.lreturn, 1) := by decide +kernel
theorem dX4_countRests_0 : decode cX4_countRests 0 = .ok (.aload_n 0, 1) := by decide +kernel
theorem dX4_countRests_1 : decode cX4_countRests 1 = .ok (.aload_n 2, 1) := by decide +kernel
theorem dX4_countRests_2 : decode cX4_countRests 2 = .ok (.invokevirtual 75, 3) := by decide +kernel
theorem dX4_countRests_5 : decode cX4_countRests 5 = .ok (.aload_n 0, 1) := by decide +kernel
theorem dX4_countRests_6 : decode cX4_countRests 6 = .ok (.invokevirtual 95, 3) := by decide +kernel
theorem dX4_countRests_9 : decode cX4_countRests 9 = .ok (.aload_n 0, 1) := by decide +kernel
theorem dX4_countRests_10 : decode cX4_countRests 10 = .ok (.aload_n 1, 1) := by decide +kernel
theorem dX4_countRests_11 : decode cX4_countRests 11 = .ok (.invokevirtual 75, 3) := by decide +kernel
theorem dX4_countRests_14 : decode cX4_countRests 14 = .ok (.aload_n 0, 1) := by decide +kernel
theorem dX4_countRests_15 : decode cX4_countRests 15 = .ok (.invokevirtual 58, 3) := by decide +kernel
theorem dX4_countRests_18 : decode cX4_countRests 18 = .ok (.aload_n 0, 1) := by decide +kernel
theorem dX4_countRests_19 : decode cX4_countRests 19 = .ok (.getfield 32, 3) := by decide +kernel
theorem dX4_countRests_22 : decode cX4_countRests 22 = .ok (.iconst 1, 1) := by decide +kernel
theorem dX4_countRests_23 : decode cX4_countRests 23 = .ok (.isub, 1) := by decide +kernel
theorem dX4_countRests_24 : decode cX4_countRests 24 = .ok (.istore_n 3, 1) := by decide +kernel
theorem dX4_countRests_25 : decode cX4_countRests 25 = .ok (.iconst 0, 1) := by decide +kernel
theorem dX4_countRests_26 : decode cX4_countRests 26 = .ok (.istore 4, 2) := by decide +kernel
theorem dX4_countRests_28 : decode cX4_countRests 28 = .ok (.iconst 0, 1) := by decide +kernel
theorem dX4_countRests_29 : decode cX4_countRests 29 = .ok (.istore 5, 2) := by decide +kernel
theorem dX4_countRests_31 : decode cX4_countRests 31 = .ok (.iload 5, 2) := by decide +kernel
theorem dX4_countRests_33 : decode cX4_countRests 33 = .ok (.aload_n 0, 1) := by decide +kernel
theorem dX4_countRests_34 : decode cX4_countRests 34 = .ok (.getfield 36, 3) := by decide +kernel
theorem dX4_countRests_37 : decode cX4_countRests 37 = .ok (.if_icmp .ge 35, 3) := by decide +kernel
theorem dX4_countRests_40 : decode cX4_countRests 40 = .ok (.aload_n 0, 1) := by decide +kernel
theorem dX4_countRests_41 : decode cX4_countRests 41 = .ok (.aload_n 0, 1) := by decide +kernel
theorem dX4_countRests_42 : decode cX4_countRests 42 = .ok (.getfield 22, 3) := by decide +kernel
theorem dX4_countRests_45 : decode cX4_countRests 45 = .ok (.iload_n 3, 1) := by decide +kernel
theorem dX4_countRests_46 : decode cX4_countRests 46 = .ok (.aload_n 0, 1) := by decide +kernel
theorem dX4_countRests_47 : decode cX4_countRests 47 = .ok (.getfield 19, 3) := by decide +kernel
theorem dX4_countRests_50 : decode cX4_countRests 50 = .ok (.iload 5, 2) := by decide +kernel
theorem dX4_countRests_52 : decode cX4_countRests 52 = .ok (.iaload, 1) := by decide +kernel
theorem dX4_countRests_53 : decode cX4_countRests 53 = .ok (.iconst (-1), 1) := by decide +kernel
theorem dX4_countRests_54 : decode cX4_countRests 54 = .ok (.ixor, 1) := by decide +kernel
theorem dX4_countRests_55 : decode cX4_countRests 55 = .ok (.iand, 1) := by decide +kernel
theorem dX4_countRests_56 : decode cX4_countRests 56 = .ok (.iaload, 1) := by decide +kernel
theorem dX4_countRests_57 : decode cX4_countRests 57 = .ok (.invokevirtual 71, 3) := by decide +kernel
theorem dX4_countRests_60 : decode cX4_countRests 60 = .ok (.ifCond .eq 6, 3) := by decide +kernel
theorem dX4_countRests_63 : decode cX4_countRests 63 = .ok (.iinc 4 1, 3) := by decide +kernel
theorem dX4_countRests_66 : decode cX4_countRests 66 = .ok (.iinc 5 1, 3) := by decide +kernel
theorem dX4_countRests_69 : decode cX4_countRests 69 = .ok (.goto (-38), 3) := by decide +kernel
theorem dX4_countRests_72 : decode cX4_countRests 72 = .ok (.iload 4, 2) := by decide +kernel
theorem dX4_countRests_74 : decode cX4_countRests 74 = .ok (.ireturn, 1) := by decide +kernel
theorem dX4_fillUnions_0 : decode cX4_fillUnions 0 = .ok (.iconst 0, 1) := by decide +kernel
theorem dX4_fillUnions_1 : decode cX4_fillUnions 1 = .ok (.istore_n 1, 1) := by decide +kernel
theorem dX4_fillUnions_2 : decode cX4_fillUnions 2 = .ok (.iload_n 1, 1) := by decide +kernel
theorem dX4_fillUnions_3 : decode cX4_fillUnions 3 = .ok (.aload_n 0, 1) := by decide +kernel
theorem dX4_fillUnions_4 : decode cX4_fillUnions 4 = .ok (.getfield 32, 3) := by decide +kernel
theorem dX4_fillUnions_7 : decode cX4_fillUnions 7 = .ok (.if_icmp .ge 33, 3) := by decide +kernel
theorem dX4_fillUnions_10 : decode cX4_fillUnions 10 = .ok (.aload_n 0, 1) := by decide +kernel
theorem dX4_fillUnions_11 : decode cX4_fillUnions 11 = .ok (.getfield 22, 3) := by decide +kernel
theorem dX4_fillUnions_14 : decode cX4_fillUnions 14 = .ok (.iload_n 1, 1) := by decide +kernel
theorem dX4_fillUnions_15 : decode cX4_fillUnions 15 = .ok (.aload_n 0, 1) := by decide +kernel
theorem dX4_fillUnions_16 : decode cX4_fillUnions 16 = .ok (.getfield 15, 3) := by decide +kernel
theorem dX4_fillUnions_19 : decode cX4_fillUnions 19 = .ok (.iload_n 1, 1) := by decide +kernel
theorem dX4_fillUnions_20 : decode cX4_fillUnions 20 = .ok (.baload, 1) := by decide +kernel
theorem dX4_fillUnions_21 : decode cX4_fillUnions 21 = .ok (.ifCond .eq 7, 3) := by decide +kernel
theorem dX4_fillUnions_24 : decode cX4_fillUnions 24 = .ok (.iload_n 1, 1) := by decide +kernel
theorem dX4_fillUnions_25 : decode cX4_fillUnions 25 = .ok (.goto 8, 3) := by decide +kernel
theorem dX4_fillUnions_28 : decode cX4_fillUnions 28 = .ok (.aload_n 0, 1) := by decide +kernel
theorem dX4_fillUnions_29 : decode cX4_fillUnions 29 = .ok (.iload_n 1, 1) := by decide +kernel
theorem dX4_fillUnions_30 : decode cX4_fillUnions 30 = .ok (.invokevirtual 98, 3) := by decide +kernel
theorem dX4_fillUnions_33 : decode cX4_fillUnions 33 = .ok (.iastore, 1) := by decide +kernel
theorem dX4_fillUnions_34 : decode cX4_fillUnions 34 = .ok (.iinc 1 1, 3) := by decide +kernel
theorem dX4_fillUnions_37 : decode cX4_fillUnions 37 = .ok (.goto (-35), 3) := by decide +kernel
theorem dX4_fillUnions_40 : decode cX4_fillUnions 40 = .ok (.return_, 1) := by decide +kernel
theorem dX4_unionOfSmaller_0 : decode cX4_unionOfSmaller 0 = .ok (.iconst 0, 1) := by decide +kernel
theorem dX4_unionOfSmaller_1 : decode cX4_unionOfSmaller 1 = .ok (.istore_n 2, 1) := by decide +kernel
theorem dX4_unionOfSmaller_2 : decode cX4_unionOfSmaller 2 = .ok (.iconst 0, 1) := by decide +kernel
theorem dX4_unionOfSmaller_3 : decode cX4_unionOfSmaller 3 = .ok (.istore_n 3, 1) := by decide +kernel
theorem dX4_unionOfSmaller_4 : decode cX4_unionOfSmaller 4 = .ok (.iload_n 3, 1) := by decide +kernel
theorem dX4_unionOfSmaller_5 : decode cX4_unionOfSmaller 5 = .ok (.bipush 11, 2) := by decide +kernel
theorem dX4_unionOfSmaller_7 : decode cX4_unionOfSmaller 7 = .ok (.if_icmp .ge 32, 3) := by decide +kernel
theorem dX4_unionOfSmaller_10 : decode cX4_unionOfSmaller 10 = .ok (.iload_n 1, 1) := by decide +kernel
theorem dX4_unionOfSmaller_11 : decode cX4_unionOfSmaller 11 = .ok (.iload_n 3, 1) := by decide +kernel
theorem dX4_unionOfSmaller_12 : decode cX4_unionOfSmaller 12 = .ok (.invokestatic 101, 3) := by decide +kernel
theorem dX4_unionOfSmaller_15 : decode cX4_unionOfSmaller 15 = .ok (.ifCond .eq 18, 3) := by decide +kernel
theorem dX4_unionOfSmaller_18 : decode cX4_unionOfSmaller 18 = .ok (.iload_n 2, 1) := by decide +kernel
theorem dX4_unionOfSmaller_19 : decode cX4_unionOfSmaller 19 = .ok (.aload_n 0, 1) := by decide +kernel
theorem dX4_unionOfSmaller_20 : decode cX4_unionOfSmaller 20 = .ok (.getfield 22, 3) := by decide +kernel
theorem dX4_unionOfSmaller_23 : decode cX4_unionOfSmaller 23 = .ok (.iload_n 1, 1) := by decide +kernel
theorem dX4_unionOfSmaller_24 : decode cX4_unionOfSmaller 24 = .ok (.iconst 1, 1) := by decide +kernel
theorem dX4_unionOfSmaller_25 : decode cX4_unionOfSmaller 25 = .ok (.iload_n 3, 1) := by decide +kernel
theorem dX4_unionOfSmaller_26 : decode cX4_unionOfSmaller 26 = .ok (.ishl, 1) := by decide +kernel
theorem dX4_unionOfSmaller_27 : decode cX4_unionOfSmaller 27 = .ok (.iconst (-1), 1) := by decide +kernel
theorem dX4_unionOfSmaller_28 : decode cX4_unionOfSmaller 28 = .ok (.ixor, 1) := by decide +kernel
theorem dX4_unionOfSmaller_29 : decode cX4_unionOfSmaller 29 = .ok (.iand, 1) := by decide +kernel
theorem dX4_unionOfSmaller_30 : decode cX4_unionOfSmaller 30 = .ok (.iaload, 1) := by decide +kernel
theorem dX4_unionOfSmaller_31 : decode cX4_unionOfSmaller 31 = .ok (.ior, 1) := by decide +kernel
theorem dX4_unionOfSmaller_32 : decode cX4_unionOfSmaller 32 = .ok (.istore_n 2, 1) := by decide +kernel
theorem dX4_unionOfSmaller_33 : decode cX4_unionOfSmaller 33 = .ok (.iinc 3 1, 3) := by decide +kernel
theorem dX4_unionOfSmaller_36 : decode cX4_unionOfSmaller 36 = .ok (.goto (-32), 3) := by decide +kernel
theorem dX4_unionOfSmaller_39 : decode cX4_unionOfSmaller 39 = .ok (.iload_n 2, 1) := by decide +kernel
theorem dX4_unionOfSmaller_40 : decode cX4_unionOfSmaller 40 = .ok (.ireturn, 1) := by decide +kernel
theorem dX5_init_0 : decode cX5_init 0 = .ok (.aload_n 0, 1) := by decide +kernel
theorem dX5_init_1 : decode cX5_init 1 = .ok (.invokespecial 5, 3) := by decide +kernel
theorem dX5_init_4 : decode cX5_init 4 = .ok (.aload_n 0, 1) := by decide +kernel
theorem dX5_init_5 : decode cX5_init 5 = .ok (.ldc 11, 2) := by decide +kernel
theorem dX5_init_7 : decode cX5_init 7 = .ok (.newarray .long, 2) := by decide +kernel
theorem dX5_init_9 : decode cX5_init 9 = .ok (.putfield 12, 3) := by decide +kernel
theorem dX5_init_12 : decode cX5_init 12 = .ok (.aload_n 0, 1) := by decide +kernel
theorem dX5_init_13 : decode cX5_init 13 = .ok (.sipush 2048, 3) := by decide +kernel
theorem dX5_init_16 : decode cX5_init 16 = .ok (.newarray .int, 2) := by decide +kernel
theorem dX5_init_18 : decode cX5_init 18 = .ok (.putfield 16, 3) := by decide +kernel
theorem dX5_init_21 : decode cX5_init 21 = .ok (.aload_n 0, 1) := by decide +kernel
theorem dX5_init_22 : decode cX5_init 22 = .ok (.iconst 0, 1) := by decide +kernel
theorem dX5_init_23 : decode cX5_init 23 = .ok (.putfield 20, 3) := by decide +kernel
theorem dX5_init_26 : decode cX5_init 26 = .ok (.aload_n 0, 1) := by decide +kernel
theorem dX5_init_27 : decode cX5_init 27 = .ok (.iconst 0, 1) := by decide +kernel
theorem dX5_init_28 : decode cX5_init 28 = .ok (.putfield 24, 3) := by decide +kernel
theorem dX5_init_31 : decode cX5_init 31 = .ok (.aload_n 0, 1) := by decide +kernel
theorem dX5_init_32 : decode cX5_init 32 = .ok (.iconst (-1), 1) := by decide +kernel
theorem dX5_init_33 : decode cX5_init 33 = .ok (.putfield 27, 3) := by decide +kernel
theorem dX5_init_36 : decode cX5_init 36 = .ok (.return_, 1) := by decide +kernel
theorem dX5_search_0 : decode cX5_search 0 = .ok (.aload_n 0, 1) := by decide +kernel
theorem dX5_search_1 : decode cX5_search 1 = .ok (.getfield 16, 3) := by decide +kernel
theorem dX5_search_4 : decode cX5_search 4 = .ok (.iconst 0, 1) := by decide +kernel
theorem dX5_search_5 : decode cX5_search 5 = .ok (.aload_n 3, 1) := by decide +kernel
theorem dX5_search_6 : decode cX5_search 6 = .ok (.getfield 30, 3) := by decide +kernel
theorem dX5_search_9 : decode cX5_search 9 = .ok (.iconst 0, 1) := by decide +kernel
theorem dX5_search_10 : decode cX5_search 10 = .ok (.invokestatic 35, 3) := by decide +kernel
theorem dX5_search_13 : decode cX5_search 13 = .ok (.aload_n 0, 1) := by decide +kernel
theorem dX5_search_14 : decode cX5_search 14 = .ok (.iconst 0, 1) := by decide +kernel
theorem dX5_search_15 : decode cX5_search 15 = .ok (.putfield 20, 3) := by decide +kernel
theorem dX5_search_18 : decode cX5_search 18 = .ok (.aload_n 0, 1) := by decide +kernel
theorem dX5_search_19 : decode cX5_search 19 = .ok (.iconst (-1), 1) := by decide +kernel
theorem dX5_search_20 : decode cX5_search 20 = .ok (.putfield 27, 3) := by decide +kernel
theorem dX5_search_23 : decode cX5_search 23 = .ok (.aload_n 0, 1) := by decide +kernel
theorem dX5_search_24 : decode cX5_search 24 = .ok (.aload_n 1, 1) := by decide +kernel
theorem dX5_search_25 : decode cX5_search 25 = .ok (.getfield 41, 3) := by decide +kernel
theorem dX5_search_28 : decode cX5_search 28 = .ok (.aload_n 2, 1) := by decide +kernel
theorem dX5_search_29 : decode cX5_search 29 = .ok (.getfield 41, 3) := by decide +kernel
theorem dX5_search_32 : decode cX5_search 32 = .ok (.iconst 0, 1) := by decide +kernel
theorem dX5_search_33 : decode cX5_search 33 = .ok (.iconst 0, 1) := by decide +kernel
theorem dX5_search_34 : decode cX5_search 34 = .ok (.invokevirtual 46, 3) := by decide +kernel
theorem dX5_search_37 : decode cX5_search 37 = .ok (.iconst 0, 1) := by decide +kernel
theorem dX5_search_38 : decode cX5_search 38 = .ok (.istore 4, 2) := by decide +kernel
theorem dX5_search_40 : decode cX5_search 40 = .ok (.iload 4, 2) := by decide +kernel
theorem dX5_search_42 : decode cX5_search 42 = .ok (.aload_n 0, 1) := by decide +kernel
theorem dX5_search_43 : decode cX5_search 43 = .ok (.getfield 20, 3) := by decide +kernel
theorem dX5_search_46 : decode cX5_search 46 = .ok (.if_icmp .ge 99, 3) := by decide +kernel
theorem dX5_search_49 : decode cX5_search 49 = .ok (.iload 4, 2) := by decide +kernel
theorem dX5_search_51 : decode cX5_search 51 = .ok (.ldc 11, 2) := by decide +kernel
theorem dX5_search_53 : decode cX5_search 53 = .ok (.if_icmp .ge 92, 3) := by decide +kernel
theorem dX5_search_56 : decode cX5_search 56 = .ok (.aload_n 0, 1) := by decide +kernel
theorem dX5_search_57 : decode cX5_search 57 = .ok (.iload 4, 2) := by decide +kernel
theorem dX5_search_59 : decode cX5_search 59 = .ok (.invokevirtual 50, 3) := by decide +kernel
theorem dX5_search_62 : decode cX5_search 62 = .ok (.istore 5, 2) := by decide +kernel
theorem dX5_search_64 : decode cX5_search 64 = .ok (.aload_n 0, 1) := by decide +kernel
theorem dX5_search_65 : decode cX5_search 65 = .ok (.iload 4, 2) := by decide +kernel
theorem dX5_search_67 : decode cX5_search 67 = .ok (.invokevirtual 54, 3) := by decide +kernel
theorem dX5_search_70 : decode cX5_search 70 = .ok (.istore 6, 2) := by decide +kernel
theorem dX5_search_72 : decode cX5_search 72 = .ok (.iload 5, 2) := by decide +kernel
theorem dX5_search_74 : decode cX5_search 74 = .ok (.aload_n 1, 1) := by decide +kernel
theorem dX5_search_75 : decode cX5_search 75 = .ok (.getfield 57, 3) := by decide +kernel
theorem dX5_search_78 : decode cX5_search 78 = .ok (.iand, 1) := by decide +kernel
theorem dX5_search_79 : decode cX5_search 79 = .ok (.ifCond .eq 20, 3) := by decide +kernel
theorem dX5_search_82 : decode cX5_search 82 = .ok (.iload 6, 2) := by decide +kernel
theorem dX5_search_84 : decode cX5_search 84 = .ok (.aload_n 2, 1) := by decide +kernel
theorem dX5_search_85 : decode cX5_search 85 = .ok (.getfield 57, 3) := by decide +kernel
theorem dX5_search_88 : decode cX5_search 88 = .ok (.iand, 1) := by decide +kernel
theorem dX5_search_89 : decode cX5_search 89 = .ok (.ifCond .ne 10, 3) := by decide +kernel
theorem dX5_search_92 : decode cX5_search 92 = .ok (.aload_n 0, 1) := by decide +kernel
theorem dX5_search_93 : decode cX5_search 93 = .ok (.iload 4, 2) := by decide +kernel
theorem dX5_search_95 : decode cX5_search 95 = .ok (.invokevirtual 60, 3) := by decide +kernel
theorem dX5_search_98 : decode cX5_search 98 = .ok (.return_, 1) := by decide +kernel
theorem dX5_search_99 : decode cX5_search 99 = .ok (.iconst 0, 1) := by decide +kernel
theorem dX5_search_100 : decode cX5_search 100 = .ok (.istore 7, 2) := by decide +kernel
theorem dX5_search_102 : decode cX5_search 102 = .ok (.iload 7, 2) := by decide +kernel
theorem dX5_search_104 : decode cX5_search 104 = .ok (.bipush 8, 2) := by decide +kernel
theorem dX5_search_106 : decode cX5_search 106 = .ok (.if_icmp .ge 33, 3) := by decide +kernel
theorem dX5_search_109 : decode cX5_search 109 = .ok (.aload_n 0, 1) := by decide +kernel
theorem dX5_search_110 : decode cX5_search 110 = .ok (.aload_n 1, 1) := by decide +kernel
theorem dX5_search_111 : decode cX5_search 111 = .ok (.iload 5, 2) := by decide +kernel
theorem dX5_search_113 : decode cX5_search 113 = .ok (.iload 7, 2) := by decide +kernel
theorem dX5_search_115 : decode cX5_search 115 = .ok (.invokevirtual 64, 3) := by decide +kernel
theorem dX5_search_118 : decode cX5_search 118 = .ok (.aload_n 3, 1) := by decide +kernel
theorem dX5_search_119 : decode cX5_search 119 = .ok (.iload 6, 2) := by decide +kernel
theorem dX5_search_121 : decode cX5_search 121 = .ok (.iload 7, 2) := by decide +kernel
theorem dX5_search_123 : decode cX5_search 123 = .ok (.invokevirtual 68, 3) := by decide +kernel
theorem dX5_search_126 : decode cX5_search 126 = .ok (.iload 7, 2) := by decide +kernel
theorem dX5_search_128 : decode cX5_search 128 = .ok (.iload 4, 2) := by decide +kernel
theorem dX5_search_130 : decode cX5_search 130 = .ok (.invokevirtual 46, 3) := by decide +kernel
theorem dX5_search_133 : decode cX5_search 133 = .ok (.iinc 7 1, 3) := by decide +kernel
theorem dX5_search_136 : decode cX5_search 136 = .ok (.goto (-34), 3) := by decide +kernel
theorem dX5_search_139 : decode cX5_search 139 = .ok (.iinc 4 1, 3) := by decide +kernel
theorem dX5_search_142 : decode cX5_search 142 = .ok (.goto (-102), 3) := by decide +kernel
theorem dX5_search_145 : decode cX5_search 145 = .ok (.return_, 1) := by decide +kernel
theorem dX5_addGroup_0 : decode cX5_addGroup 0 = .ok (.iload_n 1, 1) := by decide +kernel
theorem dX5_addGroup_1 : decode cX5_addGroup 1 = .ok (.aload_n 0, 1) := by decide +kernel
theorem dX5_addGroup_2 : decode cX5_addGroup 2 = .ok (.getfield 16, 3) := by decide +kernel
theorem dX5_addGroup_5 : decode cX5_addGroup 5 = .ok (.iload_n 2, 1) := by decide +kernel
theorem dX5_addGroup_6 : decode cX5_addGroup 6 = .ok (.iaload, 1) := by decide +kernel
theorem dX5_addGroup_7 : decode cX5_addGroup 7 = .ok (.iconst (-1), 1) := by decide +kernel
theorem dX5_addGroup_8 : decode cX5_addGroup 8 = .ok (.ixor, 1) := by decide +kernel
theorem dX5_addGroup_9 : decode cX5_addGroup 9 = .ok (.iand, 1) := by decide +kernel
theorem dX5_addGroup_10 : decode cX5_addGroup 10 = .ok (.istore 5, 2) := by decide +kernel
theorem dX5_addGroup_12 : decode cX5_addGroup 12 = .ok (.iload 5, 2) := by decide +kernel
theorem dX5_addGroup_14 : decode cX5_addGroup 14 = .ok (.ifCond .eq 64, 3) := by decide +kernel
theorem dX5_addGroup_17 : decode cX5_addGroup 17 = .ok (.aload_n 0, 1) := by decide +kernel
theorem dX5_addGroup_18 : decode cX5_addGroup 18 = .ok (.getfield 20, 3) := by decide +kernel
theorem dX5_addGroup_21 : decode cX5_addGroup 21 = .ok (.ldc 11, 2) := by decide +kernel
theorem dX5_addGroup_23 : decode cX5_addGroup 23 = .ok (.if_icmp .ge 55, 3) := by decide +kernel
theorem dX5_addGroup_26 : decode cX5_addGroup 26 = .ok (.aload_n 0, 1) := by decide +kernel
theorem dX5_addGroup_27 : decode cX5_addGroup 27 = .ok (.getfield 16, 3) := by decide +kernel
theorem dX5_addGroup_30 : decode cX5_addGroup 30 = .ok (.iload_n 2, 1) := by decide +kernel
theorem dX5_addGroup_31 : decode cX5_addGroup 31 = .ok (.dup2, 1) := by decide +kernel
theorem dX5_addGroup_32 : decode cX5_addGroup 32 = .ok (.iaload, 1) := by decide +kernel
theorem dX5_addGroup_33 : decode cX5_addGroup 33 = .ok (.iload 5, 2) := by decide +kernel
theorem dX5_addGroup_35 : decode cX5_addGroup 35 = .ok (.ior, 1) := by decide +kernel
theorem dX5_addGroup_36 : decode cX5_addGroup 36 = .ok (.iastore, 1) := by decide +kernel
theorem dX5_addGroup_37 : decode cX5_addGroup 37 = .ok (.aload_n 0, 1) := by decide +kernel
theorem dX5_addGroup_38 : decode cX5_addGroup 38 = .ok (.getfield 12, 3) := by decide +kernel
theorem dX5_addGroup_41 : decode cX5_addGroup 41 = .ok (.aload_n 0, 1) := by decide +kernel
theorem dX5_addGroup_42 : decode cX5_addGroup 42 = .ok (.getfield 20, 3) := by decide +kernel
theorem dX5_addGroup_45 : decode cX5_addGroup 45 = .ok (.iload 5, 2) := by decide +kernel
theorem dX5_addGroup_47 : decode cX5_addGroup 47 = .ok (.i2l, 1) := by decide +kernel
theorem dX5_addGroup_48 : decode cX5_addGroup 48 = .ok (.iload_n 2, 1) := by decide +kernel
theorem dX5_addGroup_49 : decode cX5_addGroup 49 = .ok (.i2l, 1) := by decide +kernel
theorem dX5_addGroup_50 : decode cX5_addGroup 50 = .ok (.bipush 24, 2) := by decide +kernel
theorem dX5_addGroup_52 : decode cX5_addGroup 52 = .ok (.lshl, 1) := by decide +kernel
theorem dX5_addGroup_53 : decode cX5_addGroup 53 = .ok (.lor, 1) := by decide +kernel
theorem dX5_addGroup_54 : decode cX5_addGroup 54 = .ok (.iload_n 3, 1) := by decide +kernel
theorem dX5_addGroup_55 : decode cX5_addGroup 55 = .ok (.i2l, 1) := by decide +kernel
theorem dX5_addGroup_56 : decode cX5_addGroup 56 = .ok (.bipush 35, 2) := by decide +kernel
theorem dX5_addGroup_58 : decode cX5_addGroup 58 = .ok (.lshl, 1) := by decide +kernel
theorem dX5_addGroup_59 : decode cX5_addGroup 59 = .ok (.lor, 1) := by decide +kernel
theorem dX5_addGroup_60 : decode cX5_addGroup 60 = .ok (.iload 4, 2) := by decide +kernel
theorem dX5_addGroup_62 : decode cX5_addGroup 62 = .ok (.i2l, 1) := by decide +kernel
theorem dX5_addGroup_63 : decode cX5_addGroup 63 = .ok (.bipush 38, 2) := by decide +kernel
theorem dX5_addGroup_65 : decode cX5_addGroup 65 = .ok (.lshl, 1) := by decide +kernel
theorem dX5_addGroup_66 : decode cX5_addGroup 66 = .ok (.lor, 1) := by decide +kernel
theorem dX5_addGroup_67 : decode cX5_addGroup 67 = .ok (.lastore, 1) := by decide +kernel
theorem dX5_addGroup_68 : decode cX5_addGroup 68 = .ok (.aload_n 0, 1) := by decide +kernel
theorem dX5_addGroup_69 : decode cX5_addGroup 69 = .ok (.dup, 1) := by decide +kernel
theorem dX5_addGroup_70 : decode cX5_addGroup 70 = .ok (.getfield 20, 3) := by decide +kernel
theorem dX5_addGroup_73 : decode cX5_addGroup 73 = .ok (.iconst 1, 1) := by decide +kernel
theorem dX5_addGroup_74 : decode cX5_addGroup 74 = .ok (.iadd, 1) := by decide +kernel
theorem dX5_addGroup_75 : decode cX5_addGroup 75 = .ok (.putfield 20, 3) := by decide +kernel
theorem dX5_addGroup_78 : decode cX5_addGroup 78 = .ok (.return_, 1) := by decide +kernel
theorem dX5_keepWord_0 : decode cX5_keepWord 0 = .ok (.aload_n 0, 1) := by decide +kernel
theorem dX5_keepWord_1 : decode cX5_keepWord 1 = .ok (.iload_n 1, 1) := by decide +kernel
theorem dX5_keepWord_2 : decode cX5_keepWord 2 = .ok (.putfield 24, 3) := by decide +kernel
theorem dX5_keepWord_5 : decode cX5_keepWord 5 = .ok (.aload_n 0, 1) := by decide +kernel
theorem dX5_keepWord_6 : decode cX5_keepWord 6 = .ok (.iconst 0, 1) := by decide +kernel
theorem dX5_keepWord_7 : decode cX5_keepWord 7 = .ok (.putfield 27, 3) := by decide +kernel
theorem dX5_keepWord_10 : decode cX5_keepWord 10 = .ok (.iload_n 1, 1) := by decide +kernel
theorem dX5_keepWord_11 : decode cX5_keepWord 11 = .ok (.istore_n 2, 1) := by decide +kernel
theorem dX5_keepWord_12 : decode cX5_keepWord 12 = .ok (.iload_n 2, 1) := by decide +kernel
theorem dX5_keepWord_13 : decode cX5_keepWord 13 = .ok (.ifCond .le 31, 3) := by decide +kernel
theorem dX5_keepWord_16 : decode cX5_keepWord 16 = .ok (.aload_n 0, 1) := by decide +kernel
theorem dX5_keepWord_17 : decode cX5_keepWord 17 = .ok (.getfield 27, 3) := by decide +kernel
theorem dX5_keepWord_20 : decode cX5_keepWord 20 = .ok (.ldc 11, 2) := by decide +kernel
theorem dX5_keepWord_22 : decode cX5_keepWord 22 = .ok (.if_icmp .ge 22, 3) := by decide +kernel
theorem dX5_keepWord_25 : decode cX5_keepWord 25 = .ok (.aload_n 0, 1) := by decide +kernel
theorem dX5_keepWord_26 : decode cX5_keepWord 26 = .ok (.dup, 1) := by decide +kernel
theorem dX5_keepWord_27 : decode cX5_keepWord 27 = .ok (.getfield 27, 3) := by decide +kernel
theorem dX5_keepWord_30 : decode cX5_keepWord 30 = .ok (.iconst 1, 1) := by decide +kernel
theorem dX5_keepWord_31 : decode cX5_keepWord 31 = .ok (.iadd, 1) := by decide +kernel
theorem dX5_keepWord_32 : decode cX5_keepWord 32 = .ok (.putfield 27, 3) := by decide +kernel
theorem dX5_keepWord_35 : decode cX5_keepWord 35 = .ok (.aload_n 0, 1) := by decide +kernel
theorem dX5_keepWord_36 : decode cX5_keepWord 36 = .ok (.iload_n 2, 1) := by decide +kernel
theorem dX5_keepWord_37 : decode cX5_keepWord 37 = .ok (.invokevirtual 71, 3) := by decide +kernel
theorem dX5_keepWord_40 : decode cX5_keepWord 40 = .ok (.istore_n 2, 1) := by decide +kernel
theorem dX5_keepWord_41 : decode cX5_keepWord 41 = .ok (.goto (-29), 3) := by decide +kernel
theorem dX5_keepWord_44 : decode cX5_keepWord 44 = .ok (.return_, 1) := by decide +kernel
theorem dX5_wordLetter_0 : decode cX5_wordLetter 0 = .ok (.aload_n 0, 1) := by decide +kernel
theorem dX5_wordLetter_1 : decode cX5_wordLetter 1 = .ok (.getfield 24, 3) := by decide +kernel
theorem dX5_wordLetter_4 : decode cX5_wordLetter 4 = .ok (.istore_n 2, 1) := by decide +kernel
theorem dX5_wordLetter_5 : decode cX5_wordLetter 5 = .ok (.aload_n 0, 1) := by decide +kernel
theorem dX5_wordLetter_6 : decode cX5_wordLetter 6 = .ok (.getfield 27, 3) := by decide +kernel
theorem dX5_wordLetter_9 : decode cX5_wordLetter 9 = .ok (.iconst 1, 1) := by decide +kernel
theorem dX5_wordLetter_10 : decode cX5_wordLetter 10 = .ok (.isub, 1) := by decide +kernel
theorem dX5_wordLetter_11 : decode cX5_wordLetter 11 = .ok (.istore_n 3, 1) := by decide +kernel
