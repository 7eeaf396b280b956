theorem dX2_addCase_36 : decode cX2_addCase 36 = .ok (.aload_n 0, 1) := by decide +kernel
theorem dX2_addCase_37 : decode cX2_addCase 37 = .ok (.getfield 34, 3) := by decide +kernel
theorem dX2_addCase_40 : decode cX2_addCase 40 = .ok (.iload_n 3, 1) := by decide +kernel
theorem dX2_addCase_41 : decode cX2_addCase 41 = .ok (.iastore, 1) := by decide +kernel
theorem dX2_addCase_42 : decode cX2_addCase 42 = .ok (.aload_n 0, 1) := by decide +kernel
theorem dX2_addCase_43 : decode cX2_addCase 43 = .ok (.getfield 18, 3) := by decide +kernel
theorem dX2_addCase_46 : decode cX2_addCase 46 = .ok (.aload_n 0, 1) := by decide +kernel
theorem dX2_addCase_47 : decode cX2_addCase 47 = .ok (.getfield 34, 3) := by decide +kernel
theorem dX2_addCase_50 : decode cX2_addCase 50 = .ok (.iload 4, 2) := by decide +kernel
theorem dX2_addCase_52 : decode cX2_addCase 52 = .ok (.iastore, 1) := by decide +kernel
theorem dX2_addCase_53 : decode cX2_addCase 53 = .ok (.aload_n 0, 1) := by decide +kernel
theorem dX2_addCase_54 : decode cX2_addCase 54 = .ok (.getfield 27, 3) := by decide +kernel
theorem dX2_addCase_57 : decode cX2_addCase 57 = .ok (.aload_n 0, 1) := by decide +kernel
theorem dX2_addCase_58 : decode cX2_addCase 58 = .ok (.getfield 34, 3) := by decide +kernel
theorem dX2_addCase_61 : decode cX2_addCase 61 = .ok (.iconst 1, 1) := by decide +kernel
theorem dX2_addCase_62 : decode cX2_addCase 62 = .ok (.bastore, 1) := by decide +kernel
theorem dX2_addCase_63 : decode cX2_addCase 63 = .ok (.aload_n 0, 1) := by decide +kernel
theorem dX2_addCase_64 : decode cX2_addCase 64 = .ok (.dup, 1) := by decide +kernel
theorem dX2_addCase_65 : decode cX2_addCase 65 = .ok (.getfield 34, 3) := by decide +kernel
theorem dX2_addCase_68 : decode cX2_addCase 68 = .ok (.dup_x1, 1) := by decide +kernel
theorem dX2_addCase_69 : decode cX2_addCase 69 = .ok (.iconst 1, 1) := by decide +kernel
theorem dX2_addCase_70 : decode cX2_addCase 70 = .ok (.iadd, 1) := by decide +kernel
theorem dX2_addCase_71 : decode cX2_addCase 71 = .ok (.putfield 34, 3) := by decide +kernel
theorem dX2_addCase_74 : decode cX2_addCase 74 = .ok (.ireturn, 1) := by decide +kernel
theorem dX2_fine_0 : decode cX2_fine 0 = .ok (.aload_n 0, 1) := by decide +kernel
theorem dX2_fine_1 : decode cX2_fine 1 = .ok (.getfield 27, 3) := by decide +kernel
theorem dX2_fine_4 : decode cX2_fine 4 = .ok (.iload_n 1, 1) := by decide +kernel
theorem dX2_fine_5 : decode cX2_fine 5 = .ok (.baload, 1) := by decide +kernel
theorem dX2_fine_6 : decode cX2_fine 6 = .ok (.ifCond .ne 5, 3) := by decide +kernel
theorem dX2_fine_9 : decode cX2_fine 9 = .ok (.iconst 0, 1) := by decide +kernel
theorem dX2_fine_10 : decode cX2_fine 10 = .ok (.ireturn, 1) := by decide +kernel
theorem dX2_fine_11 : decode cX2_fine 11 = .ok (.iconst 1, 1) := by decide +kernel
theorem dX2_fine_12 : decode cX2_fine 12 = .ok (.istore_n 2, 1) := by decide +kernel
theorem dX2_fine_13 : decode cX2_fine 13 = .ok (.iconst 0, 1) := by decide +kernel
theorem dX2_fine_14 : decode cX2_fine 14 = .ok (.istore_n 3, 1) := by decide +kernel
theorem dX2_fine_15 : decode cX2_fine 15 = .ok (.iload_n 3, 1) := by decide +kernel
theorem dX2_fine_16 : decode cX2_fine 16 = .ok (.iload_n 1, 1) := by decide +kernel
theorem dX2_fine_17 : decode cX2_fine 17 = .ok (.if_icmp .ge 36, 3) := by decide +kernel
theorem dX2_fine_20 : decode cX2_fine 20 = .ok (.aload_n 0, 1) := by decide +kernel
theorem dX2_fine_21 : decode cX2_fine 21 = .ok (.getfield 27, 3) := by decide +kernel
theorem dX2_fine_24 : decode cX2_fine 24 = .ok (.iload_n 3, 1) := by decide +kernel
theorem dX2_fine_25 : decode cX2_fine 25 = .ok (.baload, 1) := by decide +kernel
theorem dX2_fine_26 : decode cX2_fine 26 = .ok (.ifCond .eq 21, 3) := by decide +kernel
theorem dX2_fine_29 : decode cX2_fine 29 = .ok (.aload_n 0, 1) := by decide +kernel
theorem dX2_fine_30 : decode cX2_fine 30 = .ok (.getfield 21, 3) := by decide +kernel
theorem dX2_fine_33 : decode cX2_fine 33 = .ok (.iload_n 3, 1) := by decide +kernel
theorem dX2_fine_34 : decode cX2_fine 34 = .ok (.iaload, 1) := by decide +kernel
theorem dX2_fine_35 : decode cX2_fine 35 = .ok (.aload_n 0, 1) := by decide +kernel
theorem dX2_fine_36 : decode cX2_fine 36 = .ok (.getfield 21, 3) := by decide +kernel
theorem dX2_fine_39 : decode cX2_fine 39 = .ok (.iload_n 1, 1) := by decide +kernel
theorem dX2_fine_40 : decode cX2_fine 40 = .ok (.iaload, 1) := by decide +kernel
theorem dX2_fine_41 : decode cX2_fine 41 = .ok (.if_icmp .ne 6, 3) := by decide +kernel
theorem dX2_fine_44 : decode cX2_fine 44 = .ok (.iinc 2 1, 3) := by decide +kernel
theorem dX2_fine_47 : decode cX2_fine 47 = .ok (.iinc 3 1, 3) := by decide +kernel
theorem dX2_fine_50 : decode cX2_fine 50 = .ok (.goto (-35), 3) := by decide +kernel
theorem dX2_fine_53 : decode cX2_fine 53 = .ok (.aload_n 0, 1) := by decide +kernel
theorem dX2_fine_54 : decode cX2_fine 54 = .ok (.getfield 15, 3) := by decide +kernel
theorem dX2_fine_57 : decode cX2_fine 57 = .ok (.aload_n 0, 1) := by decide +kernel
theorem dX2_fine_58 : decode cX2_fine 58 = .ok (.getfield 24, 3) := by decide +kernel
theorem dX2_fine_61 : decode cX2_fine 61 = .ok (.iload_n 1, 1) := by decide +kernel
theorem dX2_fine_62 : decode cX2_fine 62 = .ok (.iaload, 1) := by decide +kernel
theorem dX2_fine_63 : decode cX2_fine 63 = .ok (.iaload, 1) := by decide +kernel
theorem dX2_fine_64 : decode cX2_fine 64 = .ok (.iload_n 2, 1) := by decide +kernel
theorem dX2_fine_65 : decode cX2_fine 65 = .ok (.imul, 1) := by decide +kernel
theorem dX2_fine_66 : decode cX2_fine 66 = .ok (.ireturn, 1) := by decide +kernel
theorem dX2_finesOf_0 : decode cX2_finesOf 0 = .ok (.iconst 0, 1) := by decide +kernel
theorem dX2_finesOf_1 : decode cX2_finesOf 1 = .ok (.istore_n 2, 1) := by decide +kernel
theorem dX2_finesOf_2 : decode cX2_finesOf 2 = .ok (.iconst 0, 1) := by decide +kernel
theorem dX2_finesOf_3 : decode cX2_finesOf 3 = .ok (.istore_n 3, 1) := by decide +kernel
theorem dX2_finesOf_4 : decode cX2_finesOf 4 = .ok (.iload_n 3, 1) := by decide +kernel
theorem dX2_finesOf_5 : decode cX2_finesOf 5 = .ok (.aload_n 0, 1) := by decide +kernel
theorem dX2_finesOf_6 : decode cX2_finesOf 6 = .ok (.getfield 34, 3) := by decide +kernel
theorem dX2_finesOf_9 : decode cX2_finesOf 9 = .ok (.if_icmp .ge 33, 3) := by decide +kernel
theorem dX2_finesOf_12 : decode cX2_finesOf 12 = .ok (.iload_n 1, 1) := by decide +kernel
theorem dX2_finesOf_13 : decode cX2_finesOf 13 = .ok (.bipush (-9), 2) := by decide +kernel
theorem dX2_finesOf_15 : decode cX2_finesOf 15 = .ok (.if_icmp .eq 13, 3) := by decide +kernel
theorem dX2_finesOf_18 : decode cX2_finesOf 18 = .ok (.aload_n 0, 1) := by decide +kernel
theorem dX2_finesOf_19 : decode cX2_finesOf 19 = .ok (.getfield 21, 3) := by decide +kernel
theorem dX2_finesOf_22 : decode cX2_finesOf 22 = .ok (.iload_n 3, 1) := by decide +kernel
theorem dX2_finesOf_23 : decode cX2_finesOf 23 = .ok (.iaload, 1) := by decide +kernel
theorem dX2_finesOf_24 : decode cX2_finesOf 24 = .ok (.iload_n 1, 1) := by decide +kernel
theorem dX2_finesOf_25 : decode cX2_finesOf 25 = .ok (.if_icmp .ne 11, 3) := by decide +kernel
theorem dX2_finesOf_28 : decode cX2_finesOf 28 = .ok (.iload_n 2, 1) := by decide +kernel
theorem dX2_finesOf_29 : decode cX2_finesOf 29 = .ok (.aload_n 0, 1) := by decide +kernel
theorem dX2_finesOf_30 : decode cX2_finesOf 30 = .ok (.iload_n 3, 1) := by decide +kernel
theorem dX2_finesOf_31 : decode cX2_finesOf 31 = .ok (.invokevirtual 41, 3) := by decide +kernel
theorem dX2_finesOf_34 : decode cX2_finesOf 34 = .ok (.iadd, 1) := by decide +kernel
theorem dX2_finesOf_35 : decode cX2_finesOf 35 = .ok (.istore_n 2, 1) := by decide +kernel
theorem dX2_finesOf_36 : decode cX2_finesOf 36 = .ok (.iinc 3 1, 3) := by decide +kernel
theorem dX2_finesOf_39 : decode cX2_finesOf 39 = .ok (.goto (-35), 3) := by decide +kernel
theorem dX2_finesOf_42 : decode cX2_finesOf 42 = .ok (.iload_n 2, 1) := by decide +kernel
theorem dX2_finesOf_43 : decode cX2_finesOf 43 = .ok (.ireturn, 1) := by decide +kernel
theorem dX2_overturn_0 : decode cX2_overturn 0 = .ok (.iconst 0, 1) := by decide +kernel
theorem dX2_overturn_1 : decode cX2_overturn 1 = .ok (.istore_n 2, 1) := by decide +kernel
theorem dX2_overturn_2 : decode cX2_overturn 2 = .ok (.iload_n 1, 1) := by decide +kernel
theorem dX2_overturn_3 : decode cX2_overturn 3 = .ok (.istore_n 3, 1) := by decide +kernel
theorem dX2_overturn_4 : decode cX2_overturn 4 = .ok (.iload_n 3, 1) := by decide +kernel
theorem dX2_overturn_5 : decode cX2_overturn 5 = .ok (.aload_n 0, 1) := by decide +kernel
theorem dX2_overturn_6 : decode cX2_overturn 6 = .ok (.getfield 34, 3) := by decide +kernel
theorem dX2_overturn_9 : decode cX2_overturn 9 = .ok (.if_icmp .ge 58, 3) := by decide +kernel
theorem dX2_overturn_12 : decode cX2_overturn 12 = .ok (.aload_n 0, 1) := by decide +kernel
theorem dX2_overturn_13 : decode cX2_overturn 13 = .ok (.getfield 27, 3) := by decide +kernel
theorem dX2_overturn_16 : decode cX2_overturn 16 = .ok (.iload_n 3, 1) := by decide +kernel
theorem dX2_overturn_17 : decode cX2_overturn 17 = .ok (.baload, 1) := by decide +kernel
theorem dX2_overturn_18 : decode cX2_overturn 18 = .ok (.ifCond .eq 43, 3) := by decide +kernel
theorem dX2_overturn_21 : decode cX2_overturn 21 = .ok (.aload_n 0, 1) := by decide +kernel
theorem dX2_overturn_22 : decode cX2_overturn 22 = .ok (.getfield 31, 3) := by decide +kernel
theorem dX2_overturn_25 : decode cX2_overturn 25 = .ok (.iload_n 3, 1) := by decide +kernel
theorem dX2_overturn_26 : decode cX2_overturn 26 = .ok (.iaload, 1) := by decide +kernel
theorem dX2_overturn_27 : decode cX2_overturn 27 = .ok (.aload_n 0, 1) := by decide +kernel
theorem dX2_overturn_28 : decode cX2_overturn 28 = .ok (.getfield 31, 3) := by decide +kernel
theorem dX2_overturn_31 : decode cX2_overturn 31 = .ok (.iload_n 1, 1) := by decide +kernel
theorem dX2_overturn_32 : decode cX2_overturn 32 = .ok (.iaload, 1) := by decide +kernel
theorem dX2_overturn_33 : decode cX2_overturn 33 = .ok (.if_icmp .ne 28, 3) := by decide +kernel
theorem dX2_overturn_36 : decode cX2_overturn 36 = .ok (.aload_n 0, 1) := by decide +kernel
theorem dX2_overturn_37 : decode cX2_overturn 37 = .ok (.getfield 24, 3) := by decide +kernel
theorem dX2_overturn_40 : decode cX2_overturn 40 = .ok (.iload_n 3, 1) := by decide +kernel
theorem dX2_overturn_41 : decode cX2_overturn 41 = .ok (.iaload, 1) := by decide +kernel
theorem dX2_overturn_42 : decode cX2_overturn 42 = .ok (.aload_n 0, 1) := by decide +kernel
theorem dX2_overturn_43 : decode cX2_overturn 43 = .ok (.getfield 24, 3) := by decide +kernel
theorem dX2_overturn_46 : decode cX2_overturn 46 = .ok (.iload_n 1, 1) := by decide +kernel
theorem dX2_overturn_47 : decode cX2_overturn 47 = .ok (.iaload, 1) := by decide +kernel
theorem dX2_overturn_48 : decode cX2_overturn 48 = .ok (.if_icmp .ne 13, 3) := by decide +kernel
theorem dX2_overturn_51 : decode cX2_overturn 51 = .ok (.aload_n 0, 1) := by decide +kernel
theorem dX2_overturn_52 : decode cX2_overturn 52 = .ok (.getfield 27, 3) := by decide +kernel
theorem dX2_overturn_55 : decode cX2_overturn 55 = .ok (.iload_n 3, 1) := by decide +kernel
theorem dX2_overturn_56 : decode cX2_overturn 56 = .ok (.iconst 0, 1) := by decide +kernel
theorem dX2_overturn_57 : decode cX2_overturn 57 = .ok (.bastore, 1) := by decide +kernel
theorem dX2_overturn_58 : decode cX2_overturn 58 = .ok (.iinc 2 1, 3) := by decide +kernel
theorem dX2_overturn_61 : decode cX2_overturn 61 = .ok (.iinc 3 1, 3) := by decide +kernel
theorem dX2_overturn_64 : decode cX2_overturn 64 = .ok (.goto (-60), 3) := by decide +kernel
theorem dX2_overturn_67 : decode cX2_overturn 67 = .ok (.iload_n 2, 1) := by decide +kernel
theorem dX2_overturn_68 : decode cX2_overturn 68 = .ok (.ireturn, 1) := by decide +kernel
theorem dX2_standing_0 : decode cX2_standing 0 = .ok (.iconst 0, 1) := by decide +kernel
theorem dX2_standing_1 : decode cX2_standing 1 = .ok (.istore_n 1, 1) := by decide +kernel
theorem dX2_standing_2 : decode cX2_standing 2 = .ok (.iconst 0, 1) := by decide +kernel
theorem dX2_standing_3 : decode cX2_standing 3 = .ok (.istore_n 2, 1) := by decide +kernel
theorem dX2_standing_4 : decode cX2_standing 4 = .ok (.iload_n 2, 1) := by decide +kernel
theorem dX2_standing_5 : decode cX2_standing 5 = .ok (.aload_n 0, 1) := by decide +kernel
theorem dX2_standing_6 : decode cX2_standing 6 = .ok (.getfield 34, 3) := by decide +kernel
theorem dX2_standing_9 : decode cX2_standing 9 = .ok (.if_icmp .ge 21, 3) := by decide +kernel
theorem dX2_standing_12 : decode cX2_standing 12 = .ok (.aload_n 0, 1) := by decide +kernel
theorem dX2_standing_13 : decode cX2_standing 13 = .ok (.getfield 27, 3) := by decide +kernel
theorem dX2_standing_16 : decode cX2_standing 16 = .ok (.iload_n 2, 1) := by decide +kernel
theorem dX2_standing_17 : decode cX2_standing 17 = .ok (.baload, 1) := by decide +kernel
theorem dX2_standing_18 : decode cX2_standing 18 = .ok (.ifCond .eq 6, 3) := by decide +kernel
theorem dX2_standing_21 : decode cX2_standing 21 = .ok (.iinc 1 1, 3) := by decide +kernel
theorem dX2_standing_24 : decode cX2_standing 24 = .ok (.iinc 2 1, 3) := by decide +kernel
theorem dX2_standing_27 : decode cX2_standing 27 = .ok (.goto (-23), 3) := by decide +kernel
theorem dX2_standing_30 : decode cX2_standing 30 = .ok (.iload_n 1, 1) := by decide +kernel
theorem dX2_standing_31 : decode cX2_standing 31 = .ok (.ireturn, 1) := by decide +kernel
theorem dX3_init_0 : decode cX3_init 0 = .ok (.aload_n 0, 1) := by decide +kernel
theorem dX3_init_1 : decode cX3_init 1 = .ok (.invokespecial 3, 3) := by decide +kernel
theorem dX3_init_4 : decode cX3_init 4 = .ok (.aload_n 0, 1) := by decide +kernel
theorem dX3_init_5 : decode cX3_init 5 = .ok (.bipush 24, 2) := by decide +kernel
theorem dX3_init_7 : decode cX3_init 7 = .ok (.newarray .int, 2) := by decide +kernel
theorem dX3_init_9 : decode cX3_init 9 = .ok (.putfield 11, 3) := by decide +kernel
theorem dX3_init_12 : decode cX3_init 12 = .ok (.aload_n 0, 1) := by decide +kernel
theorem dX3_init_13 : decode cX3_init 13 = .ok (.bipush 24, 2) := by decide +kernel
theorem dX3_init_15 : decode cX3_init 15 = .ok (.newarray .int, 2) := by decide +kernel
theorem dX3_init_17 : decode cX3_init 17 = .ok (.putfield 15, 3) := by decide +kernel
theorem dX3_init_20 : decode cX3_init 20 = .ok (.aload_n 0, 1) := by decide +kernel
theorem dX3_init_21 : decode cX3_init 21 = .ok (.bipush 24, 2) := by decide +kernel
theorem dX3_init_23 : decode cX3_init 23 = .ok (.newarray .int, 2) := by decide +kernel
theorem dX3_init_25 : decode cX3_init 25 = .ok (.putfield 18, 3) := by decide +kernel
theorem dX3_init_28 : decode cX3_init 28 = .ok (.aload_n 0, 1) := by decide +kernel
theorem dX3_init_29 : decode cX3_init 29 = .ok (.bipush 24, 2) := by decide +kernel
theorem dX3_init_31 : decode cX3_init 31 = .ok (.newarray .int, 2) := by decide +kernel
theorem dX3_init_33 : decode cX3_init 33 = .ok (.putfield 21, 3) := by decide +kernel
theorem dX3_init_36 : decode cX3_init 36 = .ok (.aload_n 0, 1) := by decide +kernel
theorem dX3_init_37 : decode cX3_init 37 = .ok (.bipush 24, 2) := by decide +kernel
theorem dX3_init_39 : decode cX3_init 39 = .ok (.newarray .boolean, 2) := by decide +kernel
theorem dX3_init_41 : decode cX3_init 41 = .ok (.putfield 24, 3) := by decide +kernel
theorem dX3_init_44 : decode cX3_init 44 = .ok (.aload_n 0, 1) := by decide +kernel
theorem dX3_init_45 : decode cX3_init 45 = .ok (.bipush 24, 2) := by decide +kernel
theorem dX3_init_47 : decode cX3_init 47 = .ok (.newarray .int, 2) := by decide +kernel
theorem dX3_init_49 : decode cX3_init 49 = .ok (.putfield 28, 3) := by decide +kernel
theorem dX3_init_52 : decode cX3_init 52 = .ok (.return_, 1) := by decide +kernel
theorem dX3_knows_0 : decode cX3_knows 0 = .ok (.iload_n 1, 1) := by decide +kernel
theorem dX3_knows_1 : decode cX3_knows 1 = .ok (.ifCond .lt 15, 3) := by decide +kernel
theorem dX3_knows_4 : decode cX3_knows 4 = .ok (.iload_n 1, 1) := by decide +kernel
theorem dX3_knows_5 : decode cX3_knows 5 = .ok (.aload_n 0, 1) := by decide +kernel
theorem dX3_knows_6 : decode cX3_knows 6 = .ok (.getfield 31, 3) := by decide +kernel
theorem dX3_knows_9 : decode cX3_knows 9 = .ok (.if_icmp .ge 7, 3) := by decide +kernel
theorem dX3_knows_12 : decode cX3_knows 12 = .ok (.iconst 1, 1) := by decide +kernel
theorem dX3_knows_13 : decode cX3_knows 13 = .ok (.goto 4, 3) := by decide +kernel
theorem dX3_knows_16 : decode cX3_knows 16 = .ok (.iconst 0, 1) := by decide +kernel
theorem dX3_knows_17 : decode cX3_knows 17 = .ok (.ireturn, 1) := by decide +kernel
theorem dX3_add_0 : decode cX3_add 0 = .ok (.aload_n 0, 1) := by decide +kernel
theorem dX3_add_1 : decode cX3_add 1 = .ok (.getfield 31, 3) := by decide +kernel
theorem dX3_add_4 : decode cX3_add 4 = .ok (.bipush 24, 2) := by decide +kernel
theorem dX3_add_6 : decode cX3_add 6 = .ok (.if_icmp .ne 6, 3) := by decide +kernel
theorem dX3_add_9 : decode cX3_add 9 = .ok (.bipush (-3), 2) := by decide +kernel
theorem dX3_add_11 : decode cX3_add 11 = .ok (.ireturn, 1) := by decide +kernel
theorem dX3_add_12 : decode cX3_add 12 = .ok (.aload_n 0, 1) := by decide +kernel
theorem dX3_add_13 : decode cX3_add 13 = .ok (.getfield 11, 3) := by decide +kernel
theorem dX3_add_16 : decode cX3_add 16 = .ok (.aload_n 0, 1) := by decide +kernel
theorem dX3_add_17 : decode cX3_add 17 = .ok (.getfield 31, 3) := by decide +kernel
theorem dX3_add_20 : decode cX3_add 20 = .ok (.iload_n 1, 1) := by decide +kernel
theorem dX3_add_21 : decode cX3_add 21 = .ok (.iastore, 1) := by decide +kernel
theorem dX3_add_22 : decode cX3_add 22 = .ok (.aload_n 0, 1) := by decide +kernel
theorem dX3_add_23 : decode cX3_add 23 = .ok (.getfield 28, 3) := by decide +kernel
theorem dX3_add_26 : decode cX3_add 26 = .ok (.aload_n 0, 1) := by decide +kernel
theorem dX3_add_27 : decode cX3_add 27 = .ok (.getfield 31, 3) := by decide +kernel
theorem dX3_add_30 : decode cX3_add 30 = .ok (.iload_n 2, 1) := by decide +kernel
theorem dX3_add_31 : decode cX3_add 31 = .ok (.iastore, 1) := by decide +kernel
theorem dX3_add_32 : decode cX3_add 32 = .ok (.aload_n 0, 1) := by decide +kernel
theorem dX3_add_33 : decode cX3_add 33 = .ok (.getfield 18, 3) := by decide +kernel
theorem dX3_add_36 : decode cX3_add 36 = .ok (.aload_n 0, 1) := by decide +kernel
theorem dX3_add_37 : decode cX3_add 37 = .ok (.getfield 31, 3) := by decide +kernel
theorem dX3_add_40 : decode cX3_add 40 = .ok (.iconst 0, 1) := by decide +kernel
theorem dX3_add_41 : decode cX3_add 41 = .ok (.iastore, 1) := by decide +kernel
theorem dX3_add_42 : decode cX3_add 42 = .ok (.aload_n 0, 1) := by decide +kernel
theorem dX3_add_43 : decode cX3_add 43 = .ok (.getfield 21, 3) := by decide +kernel
theorem dX3_add_46 : decode cX3_add 46 = .ok (.aload_n 0, 1) := by decide +kernel
theorem dX3_add_47 : decode cX3_add 47 = .ok (.getfield 31, 3) := by decide +kernel
theorem dX3_add_50 : decode cX3_add 50 = .ok (.sipush 10799, 3) := by decide +kernel
theorem dX3_add_53 : decode cX3_add 53 = .ok (.iastore, 1) := by decide +kernel
theorem dX3_add_54 : decode cX3_add 54 = .ok (.aload_n 0, 1) := by decide +kernel
theorem dX3_add_55 : decode cX3_add 55 = .ok (.dup, 1) := by decide +kernel
theorem dX3_add_56 : decode cX3_add 56 = .ok (.getfield 31, 3) := by decide +kernel
theorem dX3_add_59 : decode cX3_add 59 = .ok (.dup_x1, 1) := by decide +kernel
theorem dX3_add_60 : decode cX3_add 60 = .ok (.iconst 1, 1) := by decide +kernel
theorem dX3_add_61 : decode cX3_add 61 = .ok (.iadd, 1) := by decide +kernel
theorem dX3_add_62 : decode cX3_add 62 = .ok (.putfield 31, 3) := by decide +kernel
theorem dX3_add_65 : decode cX3_add 65 = .ok (.ireturn, 1) := by decide +kernel
theorem dX3_traceOf_0 : decode cX3_traceOf 0 = .ok (.iload_n 0, 1) := by decide +kernel
theorem dX3_traceOf_1 : decode cX3_traceOf 1 = .ok (.tableswitch 52 1 5 #[35, 38, 41, 45, 49], 35) := by decide +kernel
theorem dX3_traceOf_36 : decode cX3_traceOf 36 = .ok (.bipush 11, 2) := by decide +kernel
theorem dX3_traceOf_38 : decode cX3_traceOf 38 = .ok (.ireturn, 1) := by decide +kernel
theorem dX3_traceOf_39 : decode cX3_traceOf 39 = .ok (.bipush 101, 2) := by decide +kernel
theorem dX3_traceOf_41 : decode cX3_traceOf 41 = .ok (.ireturn, 1) := by decide +kernel
theorem dX3_traceOf_42 : decode cX3_traceOf 42 = .ok (.sipush 1011, 3) := by decide +kernel
theorem dX3_traceOf_45 : decode cX3_traceOf 45 = .ok (.ireturn, 1) := by decide +kernel
theorem dX3_traceOf_46 : decode cX3_traceOf 46 = .ok (.sipush 10001, 3) := by decide +kernel
theorem dX3_traceOf_49 : decode cX3_traceOf 49 = .ok (.ireturn, 1) := by decide +kernel
theorem dX3_traceOf_50 : decode cX3_traceOf 50 = .ok (.ldc 35, 2) := by decide +kernel
theorem dX3_traceOf_52 : decode cX3_traceOf 52 = .ok (.ireturn, 1) := by decide +kernel
theorem dX3_traceOf_53 : decode cX3_traceOf 53 = .ok (.iconst 1, 1) := by decide +kernel
theorem dX3_traceOf_54 : decode cX3_traceOf 54 = .ok (.ireturn, 1) := by decide +kernel
theorem dX3_customAs_0 : decode cX3_customAs 0 = .ok (.sipush 900, 3) := by decide +kernel
theorem dX3_customAs_3 : decode cX3_customAs 3 = .ok (.bipush 30, 2) := by decide +kernel
theorem dX3_customAs_5 : decode cX3_customAs 5 = .ok (.aload_n 0, 1) := by decide +kernel
theorem dX3_customAs_6 : decode cX3_customAs 6 = .ok (.getfield 28, 3) := by decide +kernel
theorem dX3_customAs_9 : decode cX3_customAs 9 = .ok (.iload_n 2, 1) := by decide +kernel
theorem dX3_customAs_10 : decode cX3_customAs 10 = .ok (.iaload, 1) := by decide +kernel
theorem dX3_customAs_11 : decode cX3_customAs 11 = .ok (.imul, 1) := by decide +kernel
theorem dX3_customAs_12 : decode cX3_customAs 12 = .ok (.isub, 1) := by decide +kernel
theorem dX3_customAs_13 : decode cX3_customAs 13 = .ok (.istore_n 3, 1) := by decide +kernel
theorem dX3_customAs_14 : decode cX3_customAs 14 = .ok (.iload_n 3, 1) := by decide +kernel
theorem dX3_customAs_15 : decode cX3_customAs 15 = .ok (.iconst 2, 1) := by decide +kernel
theorem dX3_customAs_16 : decode cX3_customAs 16 = .ok (.idiv, 1) := by decide +kernel
theorem dX3_customAs_17 : decode cX3_customAs 17 = .ok (.bipush 30, 2) := by decide +kernel
theorem dX3_customAs_19 : decode cX3_customAs 19 = .ok (.iadd, 1) := by decide +kernel
theorem dX3_customAs_20 : decode cX3_customAs 20 = .ok (.istore 4, 2) := by decide +kernel
theorem dX3_customAs_22 : decode cX3_customAs 22 = .ok (.iload_n 1, 1) := by decide +kernel
theorem dX3_customAs_23 : decode cX3_customAs 23 = .ok (.tableswitch 68 1 5 #[33, 36, 42, 48, 55], 33) := by decide +kernel
theorem dX3_customAs_56 : decode cX3_customAs 56 = .ok (.iload 4, 2) := by decide +kernel
theorem dX3_customAs_58 : decode cX3_customAs 58 = .ok (.ireturn, 1) := by decide +kernel
theorem dX3_customAs_59 : decode cX3_customAs 59 = .ok (.iload_n 3, 1) := by decide +kernel
theorem dX3_customAs_60 : decode cX3_customAs 60 = .ok (.sipush 150, 3) := by decide +kernel
theorem dX3_customAs_63 : decode cX3_customAs 63 = .ok (.isub, 1) := by decide +kernel
theorem dX3_customAs_64 : decode cX3_customAs 64 = .ok (.ireturn, 1) := by decide +kernel
theorem dX3_customAs_65 : decode cX3_customAs 65 = .ok (.iload 4, 2) := by decide +kernel
theorem dX3_customAs_67 : decode cX3_customAs 67 = .ok (.bipush 45, 2) := by decide +kernel
theorem dX3_customAs_69 : decode cX3_customAs 69 = .ok (.isub, 1) := by decide +kernel
theorem dX3_customAs_70 : decode cX3_customAs 70 = .ok (.ireturn, 1) := by decide +kernel
theorem dX3_customAs_71 : decode cX3_customAs 71 = .ok (.iload_n 3, 1) := by decide +kernel
theorem dX3_customAs_72 : decode cX3_customAs 72 = .ok (.iload_n 3, 1) := by decide +kernel
theorem dX3_customAs_73 : decode cX3_customAs 73 = .ok (.bipush 10, 2) := by decide +kernel
theorem dX3_customAs_75 : decode cX3_customAs 75 = .ok (.idiv, 1) := by decide +kernel
theorem dX3_customAs_76 : decode cX3_customAs 76 = .ok (.isub, 1) := by decide +kernel
theorem dX3_customAs_77 : decode cX3_customAs 77 = .ok (.ireturn, 1) := by decide +kernel
theorem dX3_customAs_78 : decode cX3_customAs 78 = .ok (.iload 4, 2) := by decide +kernel
theorem dX3_customAs_80 : decode cX3_customAs 80 = .ok (.bipush 15, 2) := by decide +kernel
theorem dX3_customAs_82 : decode cX3_customAs 82 = .ok (.aload_n 0, 1) := by decide +kernel
theorem dX3_customAs_83 : decode cX3_customAs 83 = .ok (.getfield 15, 3) := by decide +kernel
theorem dX3_customAs_86 : decode cX3_customAs 86 = .ok (.iload_n 2, 1) := by decide +kernel
theorem dX3_customAs_87 : decode cX3_customAs 87 = .ok (.iaload, 1) := by decide +kernel
theorem dX3_customAs_88 : decode cX3_customAs 88 = .ok (.imul, 1) := by decide +kernel
theorem dX3_customAs_89 : decode cX3_customAs 89 = .ok (.iadd, 1) := by decide +kernel
theorem dX3_customAs_90 : decode cX3_customAs 90 = .ok (.ireturn, 1) := by decide +kernel
theorem dX3_customAs_91 : decode cX3_customAs 91 = .ok (.iload_n 3, 1) := by decide +kernel
theorem dX3_customAs_92 : decode cX3_customAs 92 = .ok (.ireturn, 1) := by decide +kernel
theorem dX3_mostOf_0 : decode cX3_mostOf 0 = .ok (.iload_n 0, 1) := by decide +kernel
theorem dX3_mostOf_1 : decode cX3_mostOf 1 = .ok (.lookupswitch 34 #[(0, 27), (1, 31)], 27) := by decide +kernel
theorem dX3_mostOf_28 : decode cX3_mostOf 28 = .ok (.sipush 9999, 3) := by decide +kernel
theorem dX3_mostOf_31 : decode cX3_mostOf 31 = .ok (.ireturn, 1) := by decide +kernel
theorem dX3_mostOf_32 : decode cX3_mostOf 32 = .ok (.bipush 32, 2) := by decide +kernel
theorem dX3_mostOf_34 : decode cX3_mostOf 34 = .ok (.ireturn, 1) := by decide +kernel
theorem dX3_mostOf_35 : decode cX3_mostOf 35 = .ok (.bipush 30, 2) := by decide +kernel
theorem dX3_mostOf_37 : decode cX3_mostOf 37 = .ok (.ireturn, 1) := by decide +kernel
theorem dX3_addPaper_0 : decode cX3_addPaper 0 = .ok (.aload_n 0, 1) := by decide +kernel
theorem dX3_addPaper_1 : decode cX3_addPaper 1 = .ok (.getfield 15, 3) := by decide +kernel
theorem dX3_addPaper_4 : decode cX3_addPaper 4 = .ok (.iload_n 1, 1) := by decide +kernel
theorem dX3_addPaper_5 : decode cX3_addPaper 5 = .ok (.iaload, 1) := by decide +kernel
theorem dX3_addPaper_6 : decode cX3_addPaper 6 = .ok (.iconst 3, 1) := by decide +kernel
theorem dX3_addPaper_7 : decode cX3_addPaper 7 = .ok (.if_icmp .ne 6, 3) := by decide +kernel
theorem dX3_addPaper_10 : decode cX3_addPaper 10 = .ok (.bipush (-3), 2) := by decide +kernel
theorem dX3_addPaper_12 : decode cX3_addPaper 12 = .ok (.ireturn, 1) := by decide +kernel
theorem dX3_addPaper_13 : decode cX3_addPaper 13 = .ok (.iload_n 2, 1) := by decide +kernel
theorem dX3_addPaper_14 : decode cX3_addPaper 14 = .ok (.ifCond .ne 13, 3) := by decide +kernel
theorem dX3_addPaper_17 : decode cX3_addPaper 17 = .ok (.aload_n 0, 1) := by decide +kernel
theorem dX3_addPaper_18 : decode cX3_addPaper 18 = .ok (.iload_n 1, 1) := by decide +kernel
theorem dX3_addPaper_19 : decode cX3_addPaper 19 = .ok (.iload_n 3, 1) := by decide +kernel
theorem dX3_addPaper_20 : decode cX3_addPaper 20 = .ok (.iload_n 3, 1) := by decide +kernel
theorem dX3_addPaper_21 : decode cX3_addPaper 21 = .ok (.invokevirtual 36, 3) := by decide +kernel
theorem dX3_addPaper_24 : decode cX3_addPaper 24 = .ok (.goto 56, 3) := by decide +kernel
theorem dX3_addPaper_27 : decode cX3_addPaper 27 = .ok (.iload_n 2, 1) := by decide +kernel
theorem dX3_addPaper_28 : decode cX3_addPaper 28 = .ok (.iconst 1, 1) := by decide +kernel
theorem dX3_addPaper_29 : decode cX3_addPaper 29 = .ok (.if_icmp .ne 35, 3) := by decide +kernel
theorem dX3_addPaper_32 : decode cX3_addPaper 32 = .ok (.aload_n 0, 1) := by decide +kernel
theorem dX3_addPaper_33 : decode cX3_addPaper 33 = .ok (.iload_n 1, 1) := by decide +kernel
theorem dX3_addPaper_34 : decode cX3_addPaper 34 = .ok (.iload_n 3, 1) := by decide +kernel
theorem dX3_addPaper_35 : decode cX3_addPaper 35 = .ok (.iconst 3, 1) := by decide +kernel
theorem dX3_addPaper_36 : decode cX3_addPaper 36 = .ok (.idiv, 1) := by decide +kernel
theorem dX3_addPaper_37 : decode cX3_addPaper 37 = .ok (.sipush 360, 3) := by decide +kernel
theorem dX3_addPaper_40 : decode cX3_addPaper 40 = .ok (.imul, 1) := by decide +kernel
theorem dX3_addPaper_41 : decode cX3_addPaper 41 = .ok (.iload 4, 2) := by decide +kernel
theorem dX3_addPaper_43 : decode cX3_addPaper 43 = .ok (.isub, 1) := by decide +kernel
theorem dX3_addPaper_44 : decode cX3_addPaper 44 = .ok (.iload_n 3, 1) := by decide +kernel
theorem dX3_addPaper_45 : decode cX3_addPaper 45 = .ok (.iconst 2, 1) := by decide +kernel
theorem dX3_addPaper_46 : decode cX3_addPaper 46 = .ok (.idiv, 1) := by decide +kernel
theorem dX3_addPaper_47 : decode cX3_addPaper 47 = .ok (.iconst 5, 1) := by decide +kernel
theorem dX3_addPaper_48 : decode cX3_addPaper 48 = .ok (.iadd, 1) := by decide +kernel
theorem dX3_addPaper_49 : decode cX3_addPaper 49 = .ok (.sipush 360, 3) := by decide +kernel
theorem dX3_addPaper_52 : decode cX3_addPaper 52 = .ok (.imul, 1) := by decide +kernel
theorem dX3_addPaper_53 : decode cX3_addPaper 53 = .ok (.iload 4, 2) := by decide +kernel
theorem dX3_addPaper_55 : decode cX3_addPaper 55 = .ok (.isub, 1) := by decide +kernel
theorem dX3_addPaper_56 : decode cX3_addPaper 56 = .ok (.iconst 1, 1) := by decide +kernel
theorem dX3_addPaper_57 : decode cX3_addPaper 57 = .ok (.isub, 1) := by decide +kernel
theorem dX3_addPaper_58 : decode cX3_addPaper 58 = .ok (.invokevirtual 36, 3) := by decide +kernel
theorem dX3_addPaper_61 : decode cX3_addPaper 61 = .ok (.goto 19, 3) := by decide +kernel
theorem dX3_addPaper_64 : decode cX3_addPaper 64 = .ok (.aload_n 0, 1) := by decide +kernel
theorem dX3_addPaper_65 : decode cX3_addPaper 65 = .ok (.iload_n 1, 1) := by decide +kernel
theorem dX3_addPaper_66 : decode cX3_addPaper 66 = .ok (.iload_n 3, 1) := by decide +kernel
theorem dX3_addPaper_67 : decode cX3_addPaper 67 = .ok (.sipush 360, 3) := by decide +kernel
theorem dX3_addPaper_70 : decode cX3_addPaper 70 = .ok (.imul, 1) := by decide +kernel
theorem dX3_addPaper_71 : decode cX3_addPaper 71 = .ok (.iload 4, 2) := by decide +kernel
theorem dX3_addPaper_73 : decode cX3_addPaper 73 = .ok (.isub, 1) := by decide +kernel
theorem dX3_addPaper_74 : decode cX3_addPaper 74 = .ok (.sipush 10799, 3) := by decide +kernel
theorem dX3_addPaper_77 : decode cX3_addPaper 77 = .ok (.invokevirtual 36, 3) := by decide +kernel
theorem dX3_addPaper_80 : decode cX3_addPaper 80 = .ok (.aload_n 0, 1) := by decide +kernel
theorem dX3_addPaper_81 : decode cX3_addPaper 81 = .ok (.getfield 15, 3) := by decide +kernel
theorem dX3_addPaper_84 : decode cX3_addPaper 84 = .ok (.iload_n 1, 1) := by decide +kernel
theorem dX3_addPaper_85 : decode cX3_addPaper 85 = .ok (.dup2, 1) := by decide +kernel
theorem dX3_addPaper_86 : decode cX3_addPaper 86 = .ok (.iaload, 1) := by decide +kernel
theorem dX3_addPaper_87 : decode cX3_addPaper 87 = .ok (.iconst 1, 1) := by decide +kernel
theorem dX3_addPaper_88 : decode cX3_addPaper 88 = .ok (.iadd, 1) := by decide +kernel
theorem dX3_addPaper_89 : decode cX3_addPaper 89 = .ok (.iastore, 1) := by decide +kernel
theorem dX3_addPaper_90 : decode cX3_addPaper 90 = .ok (.aload_n 0, 1) := by decide +kernel
theorem dX3_addPaper_91 : decode cX3_addPaper 91 = .ok (.getfield 15, 3) := by decide +kernel
theorem dX3_addPaper_94 : decode cX3_addPaper 94 = .ok (.iload_n 1, 1) := by decide +kernel
theorem dX3_addPaper_95 : decode cX3_addPaper 95 = .ok (.iaload, 1) := by decide +kernel
theorem dX3_addPaper_96 : decode cX3_addPaper 96 = .ok (.ireturn, 1) := by decide +kernel
theorem dX3_narrow_0 : decode cX3_narrow 0 = .ok (.aload_n 0, 1) := by decide +kernel
theorem dX3_narrow_1 : decode cX3_narrow 1 = .ok (.getfield 24, 3) := by decide +kernel
theorem dX3_narrow_4 : decode cX3_narrow 4 = .ok (.iload_n 1, 1) := by decide +kernel
theorem dX3_narrow_5 : decode cX3_narrow 5 = .ok (.baload, 1) := by decide +kernel
theorem dX3_narrow_6 : decode cX3_narrow 6 = .ok (.ifCond .eq 4, 3) := by decide +kernel
theorem dX3_narrow_9 : decode cX3_narrow 9 = .ok (.return_, 1) := by decide +kernel
theorem dX3_narrow_10 : decode cX3_narrow 10 = .ok (.aload_n 0, 1) := by decide +kernel
theorem dX3_narrow_11 : decode cX3_narrow 11 = .ok (.getfield 18, 3) := by decide +kernel
theorem dX3_narrow_14 : decode cX3_narrow 14 = .ok (.iload_n 1, 1) := by decide +kernel
theorem dX3_narrow_15 : decode cX3_narrow 15 = .ok (.aload_n 0, 1) := by decide +kernel
theorem dX3_narrow_16 : decode cX3_narrow 16 = .ok (.getfield 18, 3) := by decide +kernel
theorem dX3_narrow_19 : decode cX3_narrow 19 = .ok (.iload_n 1, 1) := by decide +kernel
theorem dX3_narrow_20 : decode cX3_narrow 20 = .ok (.iaload, 1) := by decide +kernel
theorem dX3_narrow_21 : decode cX3_narrow 21 = .ok (.iload_n 2, 1) := by decide +kernel
theorem dX3_narrow_22 : decode cX3_narrow 22 = .ok (.invokestatic 40, 3) := by decide +kernel
theorem dX3_narrow_25 : decode cX3_narrow 25 = .ok (.iastore, 1) := by decide +kernel
theorem dX3_narrow_26 : decode cX3_narrow 26 = .ok (.aload_n 0, 1) := by decide +kernel
theorem dX3_narrow_27 : decode cX3_narrow 27 = .ok (.getfield 21, 3) := by decide +kernel
theorem dX3_narrow_30 : decode cX3_narrow 30 = .ok (.iload_n 1, 1) := by decide +kernel
theorem dX3_narrow_31 : decode cX3_narrow 31 = .ok (.aload_n 0, 1) := by decide +kernel
theorem dX3_narrow_32 : decode cX3_narrow 32 = .ok (.getfield 21, 3) := by decide +kernel
theorem dX3_narrow_35 : decode cX3_narrow 35 = .ok (.iload_n 1, 1) := by decide +kernel
theorem dX3_narrow_36 : decode cX3_narrow 36 = .ok (.iaload, 1) := by decide +kernel
theorem dX3_narrow_37 : decode cX3_narrow 37 = .ok (.iload_n 3, 1) := by decide +kernel
theorem dX3_narrow_38 : decode cX3_narrow 38 = .ok (.invokestatic 46, 3) := by decide +kernel
theorem dX3_narrow_41 : decode cX3_narrow 41 = .ok (.iastore, 1) := by decide +kernel
theorem dX3_narrow_42 : decode cX3_narrow 42 = .ok (.aload_n 0, 1) := by decide +kernel
theorem dX3_narrow_43 : decode cX3_narrow 43 = .ok (.getfield 18, 3) := by decide +kernel
theorem dX3_narrow_46 : decode cX3_narrow 46 = .ok (.iload_n 1, 1) := by decide +kernel
theorem dX3_narrow_47 : decode cX3_narrow 47 = .ok (.iaload, 1) := by decide +kernel
theorem dX3_narrow_48 : decode cX3_narrow 48 = .ok (.aload_n 0, 1) := by decide +kernel
theorem dX3_narrow_49 : decode cX3_narrow 49 = .ok (.getfield 21, 3) := by decide +kernel
theorem dX3_narrow_52 : decode cX3_narrow 52 = .ok (.iload_n 1, 1) := by decide +kernel
theorem dX3_narrow_53 : decode cX3_narrow 53 = .ok (.iaload, 1) := by decide +kernel
theorem dX3_narrow_54 : decode cX3_narrow 54 = .ok (.if_icmp .le 26, 3) := by decide +kernel
theorem dX3_narrow_57 : decode cX3_narrow 57 = .ok (.aload_n 0, 1) := by decide +kernel
theorem dX3_narrow_58 : decode cX3_narrow 58 = .ok (.getfield 24, 3) := by decide +kernel
theorem dX3_narrow_61 : decode cX3_narrow 61 = .ok (.iload_n 1, 1) := by decide +kernel
theorem dX3_narrow_62 : decode cX3_narrow 62 = .ok (.iconst 1, 1) := by decide +kernel
theorem dX3_narrow_63 : decode cX3_narrow 63 = .ok (.bastore, 1) := by decide +kernel
theorem dX3_narrow_64 : decode cX3_narrow 64 = .ok (.aload_n 0, 1) := by decide +kernel
theorem dX3_narrow_65 : decode cX3_narrow 65 = .ok (.getfield 18, 3) := by decide +kernel
theorem dX3_narrow_68 : decode cX3_narrow 68 = .ok (.iload_n 1, 1) := by decide +kernel
theorem dX3_narrow_69 : decode cX3_narrow 69 = .ok (.iconst 0, 1) := by decide +kernel
theorem dX3_narrow_70 : decode cX3_narrow 70 = .ok (.iastore, 1) := by decide +kernel
theorem dX3_narrow_71 : decode cX3_narrow 71 = .ok (.aload_n 0, 1) := by decide +kernel
theorem dX3_narrow_72 : decode cX3_narrow 72 = .ok (.getfield 21, 3) := by decide +kernel
theorem dX3_narrow_75 : decode cX3_narrow 75 = .ok (.iload_n 1, 1) := by decide +kernel
theorem dX3_narrow_76 : decode cX3_narrow 76 = .ok (.sipush 10799, 3) := by decide +kernel
theorem dX3_narrow_79 : decode cX3_narrow 79 = .ok (.iastore, 1) := by decide +kernel
theorem dX3_narrow_80 : decode cX3_narrow 80 = .ok (.return_, 1) := by decide +kernel
theorem dX3_ageFrom_0 : decode cX3_ageFrom 0 = .ok (.aload_n 0, 1) := by decide +kernel
theorem dX3_ageFrom_1 : decode cX3_ageFrom 1 = .ok (.getfield 18, 3) := by decide +kernel
theorem dX3_ageFrom_4 : decode cX3_ageFrom 4 = .ok (.iload_n 1, 1) := by decide +kernel
theorem dX3_ageFrom_5 : decode cX3_ageFrom 5 = .ok (.iaload, 1) := by decide +kernel
theorem dX3_ageFrom_6 : decode cX3_ageFrom 6 = .ok (.iload_n 2, 1) := by decide +kernel
theorem dX3_ageFrom_7 : decode cX3_ageFrom 7 = .ok (.iadd, 1) := by decide +kernel
theorem dX3_ageFrom_8 : decode cX3_ageFrom 8 = .ok (.sipush 360, 3) := by decide +kernel
theorem dX3_ageFrom_11 : decode cX3_ageFrom 11 = .ok (.idiv, 1) := by decide +kernel
theorem dX3_ageFrom_12 : decode cX3_ageFrom 12 = .ok (.ireturn, 1) := by decide +kernel
theorem dX3_ageTo_0 : decode cX3_ageTo 0 = .ok (.aload_n 0, 1) := by decide +kernel
theorem dX3_ageTo_1 : decode cX3_ageTo 1 = .ok (.getfield 21, 3) := by decide +kernel
theorem dX3_ageTo_4 : decode cX3_ageTo 4 = .ok (.iload_n 1, 1) := by decide +kernel
theorem dX3_ageTo_5 : decode cX3_ageTo 5 = .ok (.iaload, 1) := by decide +kernel
theorem dX3_ageTo_6 : decode cX3_ageTo 6 = .ok (.iload_n 2, 1) := by decide +kernel
theorem dX3_ageTo_7 : decode cX3_ageTo 7 = .ok (.iadd, 1) := by decide +kernel
theorem dX3_ageTo_8 : decode cX3_ageTo 8 = .ok (.sipush 360, 3) := by decide +kernel
theorem dX3_ageTo_11 : decode cX3_ageTo 11 = .ok (.idiv, 1) := by decide +kernel
theorem dX3_ageTo_12 : decode cX3_ageTo 12 = .ok (.ireturn, 1) := by decide +kernel
theorem dX4_init_0 : decode cX4_init 0 = .ok (.aload_n 0, 1) := by decide +kernel
theorem dX4_init_1 : decode cX4_init 1 = .ok (.invokespecial 3, 3) := by decide +kernel
theorem dX4_init_4 : decode cX4_init 4 = .ok (.aload_n 0, 1) := by decide +kernel
theorem dX4_init_5 : decode cX4_init 5 = .ok (.bipush 6, 2) := by decide +kernel
theorem dX4_init_7 : decode cX4_init 7 = .ok (.newarray .int, 2) := by decide +kernel
theorem dX4_init_9 : decode cX4_init 9 = .ok (.putfield 11, 3) := by decide +kernel
theorem dX4_init_12 : decode cX4_init 12 = .ok (.aload_n 0, 1) := by decide +kernel
theorem dX4_init_13 : decode cX4_init 13 = .ok (.bipush 6, 2) := by decide +kernel
theorem dX4_init_15 : decode cX4_init 15 = .ok (.newarray .int, 2) := by decide +kernel
theorem dX4_init_17 : decode cX4_init 17 = .ok (.putfield 15, 3) := by decide +kernel
theorem dX4_init_20 : decode cX4_init 20 = .ok (.aload_n 0, 1) := by decide +kernel
theorem dX4_init_21 : decode cX4_init 21 = .ok (.bipush 6, 2) := by decide +kernel
theorem dX4_init_23 : decode cX4_init 23 = .ok (.newarray .int, 2) := by decide +kernel
theorem dX4_init_25 : decode cX4_init 25 = .ok (.putfield 18, 3) := by decide +kernel
theorem dX4_init_28 : decode cX4_init 28 = .ok (.aload_n 0, 1) := by decide +kernel
theorem dX4_init_29 : decode cX4_init 29 = .ok (.bipush 6, 2) := by decide +kernel
theorem dX4_init_31 : decode cX4_init 31 = .ok (.newarray .int, 2) := by decide +kernel
theorem dX4_init_33 : decode cX4_init 33 = .ok (.putfield 21, 3) := by decide +kernel
theorem dX4_init_36 : decode cX4_init 36 = .ok (.aload_n 0, 1) := by decide +kernel
theorem dX4_init_37 : decode cX4_init 37 = .ok (.bipush 6, 2) := by decide +kernel
theorem dX4_init_39 : decode cX4_init 39 = .ok (.newarray .int, 2) := by decide +kernel
theorem dX4_init_41 : decode cX4_init 41 = .ok (.putfield 24, 3) := by decide +kernel
theorem dX4_init_44 : decode cX4_init 44 = .ok (.aload_n 0, 1) := by decide +kernel
theorem dX4_init_45 : decode cX4_init 45 = .ok (.bipush 24, 2) := by decide +kernel
theorem dX4_init_47 : decode cX4_init 47 = .ok (.newarray .int, 2) := by decide +kernel
theorem dX4_init_49 : decode cX4_init 49 = .ok (.putfield 27, 3) := by decide +kernel
theorem dX4_init_52 : decode cX4_init 52 = .ok (.aload_n 0, 1) := by decide +kernel
theorem dX4_init_53 : decode cX4_init 53 = .ok (.bipush 24, 2) := by decide +kernel
theorem dX4_init_55 : decode cX4_init 55 = .ok (.newarray .int, 2) := by decide +kernel
theorem dX4_init_57 : decode cX4_init 57 = .ok (.putfield 30, 3) := by decide +kernel
theorem dX4_init_60 : decode cX4_init 60 = .ok (.return_, 1) := by decide +kernel
theorem dX4_knows_0 : decode cX4_knows 0 = .ok (.iload_n 1, 1) := by decide +kernel
theorem dX4_knows_1 : decode cX4_knows 1 = .ok (.ifCond .lt 15, 3) := by decide +kernel
theorem dX4_knows_4 : decode cX4_knows 4 = .ok (.iload_n 1, 1) := by decide +kernel
theorem dX4_knows_5 : decode cX4_knows 5 = .ok (.aload_n 0, 1) := by decide +kernel
theorem dX4_knows_6 : decode cX4_knows 6 = .ok (.getfield 33, 3) := by decide +kernel
theorem dX4_knows_9 : decode cX4_knows 9 = .ok (.if_icmp .ge 7, 3) := by decide +kernel
theorem dX4_knows_12 : decode cX4_knows 12 = .ok (.iconst 1, 1) := by decide +kernel
theorem dX4_knows_13 : decode cX4_knows 13 = .ok (.goto 4, 3) := by decide +kernel
theorem dX4_knows_16 : decode cX4_knows 16 = .ok (.iconst 0, 1) := by decide +kernel
theorem dX4_knows_17 : decode cX4_knows 17 = .ok (.ireturn, 1) := by decide +kernel
theorem dX4_add_0 : decode cX4_add 0 = .ok (.aload_n 0, 1) := by decide +kernel
theorem dX4_add_1 : decode cX4_add 1 = .ok (.getfield 33, 3) := by decide +kernel
theorem dX4_add_4 : decode cX4_add 4 = .ok (.bipush 6, 2) := by decide +kernel
theorem dX4_add_6 : decode cX4_add 6 = .ok (.if_icmp .ne 6, 3) := by decide +kernel
theorem dX4_add_9 : decode cX4_add 9 = .ok (.bipush (-3), 2) := by decide +kernel
theorem dX4_add_11 : decode cX4_add 11 = .ok (.ireturn, 1) := by decide +kernel
theorem dX4_add_12 : decode cX4_add 12 = .ok (.aload_n 0, 1) := by decide +kernel
theorem dX4_add_13 : decode cX4_add 13 = .ok (.getfield 11, 3) := by decide +kernel
theorem dX4_add_16 : decode cX4_add 16 = .ok (.aload_n 0, 1) := by decide +kernel
theorem dX4_add_17 : decode cX4_add 17 = .ok (.getfield 33, 3) := by decide +kernel
theorem dX4_add_20 : decode cX4_add 20 = .ok (.iload_n 1, 1) := by decide +kernel
theorem dX4_add_21 : decode cX4_add 21 = .ok (.iastore, 1) := by decide +kernel
theorem dX4_add_22 : decode cX4_add 22 = .ok (.aload_n 0, 1) := by decide +kernel
theorem dX4_add_23 : decode cX4_add 23 = .ok (.getfield 15, 3) := by decide +kernel
theorem dX4_add_26 : decode cX4_add 26 = .ok (.aload_n 0, 1) := by decide +kernel
theorem dX4_add_27 : decode cX4_add 27 = .ok (.getfield 33, 3) := by decide +kernel
theorem dX4_add_30 : decode cX4_add 30 = .ok (.iload_n 2, 1) := by decide +kernel
theorem dX4_add_31 : decode cX4_add 31 = .ok (.iastore, 1) := by decide +kernel
theorem dX4_add_32 : decode cX4_add 32 = .ok (.aload_n 0, 1) := by decide +kernel
theorem dX4_add_33 : decode cX4_add 33 = .ok (.getfield 18, 3) := by decide +kernel
theorem dX4_add_36 : decode cX4_add 36 = .ok (.aload_n 0, 1) := by decide +kernel
theorem dX4_add_37 : decode cX4_add 37 = .ok (.getfield 33, 3) := by decide +kernel
theorem dX4_add_40 : decode cX4_add 40 = .ok (.iload_n 3, 1) := by decide +kernel
theorem dX4_add_41 : decode cX4_add 41 = .ok (.iastore, 1) := by decide +kernel
theorem dX4_add_42 : decode cX4_add 42 = .ok (.aload_n 0, 1) := by decide +kernel
theorem dX4_add_43 : decode cX4_add 43 = .ok (.dup, 1) := by decide +kernel
theorem dX4_add_44 : decode cX4_add 44 = .ok (.getfield 33, 3) := by decide +kernel
theorem dX4_add_47 : decode cX4_add 47 = .ok (.dup_x1, 1) := by decide +kernel
theorem dX4_add_48 : decode cX4_add 48 = .ok (.iconst 1, 1) := by decide +kernel
theorem dX4_add_49 : decode cX4_add 49 = .ok (.iadd, 1) := by decide +kernel
theorem dX4_add_50 : decode cX4_add 50 = .ok (.putfield 33, 3) := by decide +kernel
theorem dX4_add_53 : decode cX4_add 53 = .ok (.ireturn, 1) := by decide +kernel
theorem dX4_addCheck_0 : decode cX4_addCheck 0 = .ok (.aload_n 0, 1) := by decide +kernel
theorem dX4_addCheck_1 : decode cX4_addCheck 1 = .ok (.getfield 24, 3) := by decide +kernel
theorem dX4_addCheck_4 : decode cX4_addCheck 4 = .ok (.iload_n 1, 1) := by decide +kernel
theorem dX4_addCheck_5 : decode cX4_addCheck 5 = .ok (.iaload, 1) := by decide +kernel
theorem dX4_addCheck_6 : decode cX4_addCheck 6 = .ok (.iconst 4, 1) := by decide +kernel
theorem dX4_addCheck_7 : decode cX4_addCheck 7 = .ok (.if_icmp .ne 6, 3) := by decide +kernel
theorem dX4_addCheck_10 : decode cX4_addCheck 10 = .ok (.bipush (-3), 2) := by decide +kernel
theorem dX4_addCheck_12 : decode cX4_addCheck 12 = .ok (.ireturn, 1) := by decide +kernel
theorem dX4_addCheck_13 : decode cX4_addCheck 13 = .ok (.iload_n 1, 1) := by decide +kernel
theorem dX4_addCheck_14 : decode cX4_addCheck 14 = .ok (.iconst 4, 1) := by decide +kernel
theorem dX4_addCheck_15 : decode cX4_addCheck 15 = .ok (.imul, 1) := by decide +kernel
theorem dX4_addCheck_16 : decode cX4_addCheck 16 = .ok (.aload_n 0, 1) := by decide +kernel
theorem dX4_addCheck_17 : decode cX4_addCheck 17 = .ok (.getfield 24, 3) := by decide +kernel
theorem dX4_addCheck_20 : decode cX4_addCheck 20 = .ok (.iload_n 1, 1) := by decide +kernel
theorem dX4_addCheck_21 : decode cX4_addCheck 21 = .ok (.iaload, 1) := by decide +kernel
theorem dX4_addCheck_22 : decode cX4_addCheck 22 = .ok (.iadd, 1) := by decide +kernel
theorem dX4_addCheck_23 : decode cX4_addCheck 23 = .ok (.istore 4, 2) := by decide +kernel
theorem dX4_addCheck_25 : decode cX4_addCheck 25 = .ok (.aload_n 0, 1) := by decide +kernel
theorem dX4_addCheck_26 : decode cX4_addCheck 26 = .ok (.getfield 27, 3) := by decide +kernel
theorem dX4_addCheck_29 : decode cX4_addCheck 29 = .ok (.iload 4, 2) := by decide +kernel
theorem dX4_addCheck_31 : decode cX4_addCheck 31 = .ok (.iload_n 2, 1) := by decide +kernel
theorem dX4_addCheck_32 : decode cX4_addCheck 32 = .ok (.iastore, 1) := by decide +kernel
theorem dX4_addCheck_33 : decode cX4_addCheck 33 = .ok (.aload_n 0, 1) := by decide +kernel
theorem dX4_addCheck_34 : decode cX4_addCheck 34 = .ok (.getfield 30, 3) := by decide +kernel
theorem dX4_addCheck_37 : decode cX4_addCheck 37 = .ok (.iload 4, 2) := by decide +kernel
theorem dX4_addCheck_39 : decode cX4_addCheck 39 = .ok (.iload_n 3, 1) := by decide +kernel
theorem dX4_addCheck_40 : decode cX4_addCheck 40 = .ok (.iastore, 1) := by decide +kernel
theorem dX4_addCheck_41 : decode cX4_addCheck 41 = .ok (.aload_n 0, 1) := by decide +kernel
theorem dX4_addCheck_42 : decode cX4_addCheck 42 = .ok (.getfield 24, 3) := by decide +kernel
theorem dX4_addCheck_45 : decode cX4_addCheck 45 = .ok (.iload_n 1, 1) := by decide +kernel
theorem dX4_addCheck_46 : decode cX4_addCheck 46 = .ok (.dup2, 1) := by decide +kernel
theorem dX4_addCheck_47 : decode cX4_addCheck 47 = .ok (.iaload, 1) := by decide +kernel
theorem dX4_addCheck_48 : decode cX4_addCheck 48 = .ok (.iconst 1, 1) := by decide +kernel
theorem dX4_addCheck_49 : decode cX4_addCheck 49 = .ok (.iadd, 1) := by decide +kernel
theorem dX4_addCheck_50 : decode cX4_addCheck 50 = .ok (.iastore, 1) := by decide +kernel
theorem dX4_addCheck_51 : decode cX4_addCheck 51 = .ok (.aload_n 0, 1) := by decide +kernel
theorem dX4_addCheck_52 : decode cX4_addCheck 52 = .ok (.getfield 24, 3) := by decide +kernel
theorem dX4_addCheck_55 : decode cX4_addCheck 55 = .ok (.iload_n 1, 1) := by decide +kernel
theorem dX4_addCheck_56 : decode cX4_addCheck 56 = .ok (.iaload, 1) := by decide +kernel
theorem dX4_addCheck_57 : decode cX4_addCheck 57 = .ok (.ireturn, 1) := by decide +kernel
theorem dX4_inTruth_0 : decode cX4_inTruth 0 = .ok (.iload_n 1, 1) := by decide +kernel
theorem dX4_inTruth_1 : decode cX4_inTruth 1 = .ok (.bipush (-9), 2) := by decide +kernel
theorem dX4_inTruth_3 : decode cX4_inTruth 3 = .ok (.if_icmp .ne 5, 3) := by decide +kernel
theorem dX4_inTruth_6 : decode cX4_inTruth 6 = .ok (.iload_n 2, 1) := by decide +kernel
theorem dX4_inTruth_7 : decode cX4_inTruth 7 = .ok (.ireturn, 1) := by decide +kernel
theorem dX4_inTruth_8 : decode cX4_inTruth 8 = .ok (.aload_n 0, 1) := by decide +kernel
theorem dX4_inTruth_9 : decode cX4_inTruth 9 = .ok (.iload_n 1, 1) := by decide +kernel
theorem dX4_inTruth_10 : decode cX4_inTruth 10 = .ok (.iload_n 2, 1) := by decide +kernel
theorem dX4_inTruth_11 : decode cX4_inTruth 11 = .ok (.invokevirtual 37, 3) := by decide +kernel
theorem dX4_inTruth_14 : decode cX4_inTruth 14 = .ok (.istore 4, 2) := by decide +kernel
theorem dX4_inTruth_16 : decode cX4_inTruth 16 = .ok (.aload_n 0, 1) := by decide +kernel
theorem dX4_inTruth_17 : decode cX4_inTruth 17 = .ok (.iload_n 1, 1) := by decide +kernel
theorem dX4_inTruth_18 : decode cX4_inTruth 18 = .ok (.iload_n 2, 1) := by decide +kernel
theorem dX4_inTruth_19 : decode cX4_inTruth 19 = .ok (.invokevirtual 41, 3) := by decide +kernel
theorem dX4_inTruth_22 : decode cX4_inTruth 22 = .ok (.istore 5, 2) := by decide +kernel
theorem dX4_inTruth_24 : decode cX4_inTruth 24 = .ok (.iload 4, 2) := by decide +kernel
theorem dX4_inTruth_26 : decode cX4_inTruth 26 = .ok (.bipush (-9), 2) := by decide +kernel
theorem dX4_inTruth_28 : decode cX4_inTruth 28 = .ok (.if_icmp .ne 12, 3) := by decide +kernel
theorem dX4_inTruth_31 : decode cX4_inTruth 31 = .ok (.iload 5, 2) := by decide +kernel
theorem dX4_inTruth_33 : decode cX4_inTruth 33 = .ok (.bipush (-9), 2) := by decide +kernel
theorem dX4_inTruth_35 : decode cX4_inTruth 35 = .ok (.if_icmp .ne 5, 3) := by decide +kernel
theorem dX4_inTruth_38 : decode cX4_inTruth 38 = .ok (.iload_n 2, 1) := by decide +kernel
theorem dX4_inTruth_39 : decode cX4_inTruth 39 = .ok (.ireturn, 1) := by decide +kernel
theorem dX4_inTruth_40 : decode cX4_inTruth 40 = .ok (.iload 4, 2) := by decide +kernel
theorem dX4_inTruth_42 : decode cX4_inTruth 42 = .ok (.bipush (-9), 2) := by decide +kernel
theorem dX4_inTruth_44 : decode cX4_inTruth 44 = .ok (.if_icmp .eq 10, 3) := by decide +kernel
theorem dX4_inTruth_47 : decode cX4_inTruth 47 = .ok (.iload 5, 2) := by decide +kernel
theorem dX4_inTruth_49 : decode cX4_inTruth 49 = .ok (.bipush (-9), 2) := by decide +kernel
theorem dX4_inTruth_51 : decode cX4_inTruth 51 = .ok (.if_icmp .ne 41, 3) := by decide +kernel
theorem dX4_inTruth_54 : decode cX4_inTruth 54 = .ok (.aload_n 0, 1) := by decide +kernel
theorem dX4_inTruth_55 : decode cX4_inTruth 55 = .ok (.getfield 30, 3) := by decide +kernel
theorem dX4_inTruth_58 : decode cX4_inTruth 58 = .ok (.iload 4, 2) := by decide +kernel
theorem dX4_inTruth_60 : decode cX4_inTruth 60 = .ok (.bipush (-9), 2) := by decide +kernel
theorem dX4_inTruth_62 : decode cX4_inTruth 62 = .ok (.if_icmp .ne 8, 3) := by decide +kernel
theorem dX4_inTruth_65 : decode cX4_inTruth 65 = .ok (.iload 5, 2) := by decide +kernel
theorem dX4_inTruth_67 : decode cX4_inTruth 67 = .ok (.goto 5, 3) := by decide +kernel
theorem dX4_inTruth_70 : decode cX4_inTruth 70 = .ok (.iload 4, 2) := by decide +kernel
theorem dX4_inTruth_72 : decode cX4_inTruth 72 = .ok (.iaload, 1) := by decide +kernel
theorem dX4_inTruth_73 : decode cX4_inTruth 73 = .ok (.istore 6, 2) := by decide +kernel
theorem dX4_inTruth_75 : decode cX4_inTruth 75 = .ok (.iload_n 2, 1) := by decide +kernel
theorem dX4_inTruth_76 : decode cX4_inTruth 76 = .ok (.iload 6, 2) := by decide +kernel
theorem dX4_inTruth_78 : decode cX4_inTruth 78 = .ok (.iadd, 1) := by decide +kernel
theorem dX4_inTruth_79 : decode cX4_inTruth 79 = .ok (.iload_n 3, 1) := by decide +kernel
theorem dX4_inTruth_80 : decode cX4_inTruth 80 = .ok (.ifCond .eq 8, 3) := by decide +kernel
theorem dX4_inTruth_83 : decode cX4_inTruth 83 = .ok (.bipush 10, 2) := by decide +kernel
theorem dX4_inTruth_85 : decode cX4_inTruth 85 = .ok (.goto 5, 3) := by decide +kernel
theorem dX4_inTruth_88 : decode cX4_inTruth 88 = .ok (.bipush (-10), 2) := by decide +kernel
theorem dX4_inTruth_90 : decode cX4_inTruth 90 = .ok (.iadd, 1) := by decide +kernel
theorem dX4_inTruth_91 : decode cX4_inTruth 91 = .ok (.ireturn, 1) := by decide +kernel
theorem dX4_inTruth_92 : decode cX4_inTruth 92 = .ok (.aload_n 0, 1) := by decide +kernel
theorem dX4_inTruth_93 : decode cX4_inTruth 93 = .ok (.getfield 30, 3) := by decide +kernel
theorem dX4_inTruth_96 : decode cX4_inTruth 96 = .ok (.iload 4, 2) := by decide +kernel
theorem dX4_inTruth_98 : decode cX4_inTruth 98 = .ok (.iaload, 1) := by decide +kernel
theorem dX4_inTruth_99 : decode cX4_inTruth 99 = .ok (.istore 6, 2) := by decide +kernel
theorem dX4_inTruth_101 : decode cX4_inTruth 101 = .ok (.aload_n 0, 1) := by decide +kernel
theorem dX4_inTruth_102 : decode cX4_inTruth 102 = .ok (.getfield 30, 3) := by decide +kernel
theorem dX4_inTruth_105 : decode cX4_inTruth 105 = .ok (.iload 5, 2) := by decide +kernel
theorem dX4_inTruth_107 : decode cX4_inTruth 107 = .ok (.iaload, 1) := by decide +kernel
theorem dX4_inTruth_108 : decode cX4_inTruth 108 = .ok (.istore 7, 2) := by decide +kernel
theorem dX4_inTruth_110 : decode cX4_inTruth 110 = .ok (.iload_n 2, 1) := by decide +kernel
theorem dX4_inTruth_111 : decode cX4_inTruth 111 = .ok (.iload_n 3, 1) := by decide +kernel
theorem dX4_inTruth_112 : decode cX4_inTruth 112 = .ok (.ifCond .eq 13, 3) := by decide +kernel
theorem dX4_inTruth_115 : decode cX4_inTruth 115 = .ok (.iload 6, 2) := by decide +kernel
theorem dX4_inTruth_117 : decode cX4_inTruth 117 = .ok (.iload 7, 2) := by decide +kernel
theorem dX4_inTruth_119 : decode cX4_inTruth 119 = .ok (.invokestatic 44, 3) := by decide +kernel
theorem dX4_inTruth_122 : decode cX4_inTruth 122 = .ok (.goto 10, 3) := by decide +kernel
theorem dX4_inTruth_125 : decode cX4_inTruth 125 = .ok (.iload 6, 2) := by decide +kernel
theorem dX4_inTruth_127 : decode cX4_inTruth 127 = .ok (.iload 7, 2) := by decide +kernel
theorem dX4_inTruth_129 : decode cX4_inTruth 129 = .ok (.invokestatic 49, 3) := by decide +kernel
theorem dX4_inTruth_132 : decode cX4_inTruth 132 = .ok (.iadd, 1) := by decide +kernel
theorem dX4_inTruth_133 : decode cX4_inTruth 133 = .ok (.ireturn, 1) := by decide +kernel
theorem dX4_checkAhead_0 : decode cX4_checkAhead 0 = .ok (.bipush (-9), 2) := by decide +kernel
theorem dX4_checkAhead_2 : decode cX4_checkAhead 2 = .ok (.istore_n 3, 1) := by decide +kernel
theorem dX4_checkAhead_3 : decode cX4_checkAhead 3 = .ok (.iload_n 1, 1) := by decide +kernel
theorem dX4_checkAhead_4 : decode cX4_checkAhead 4 = .ok (.iconst 4, 1) := by decide +kernel
theorem dX4_checkAhead_5 : decode cX4_checkAhead 5 = .ok (.imul, 1) := by decide +kernel
theorem dX4_checkAhead_6 : decode cX4_checkAhead 6 = .ok (.istore 4, 2) := by decide +kernel
theorem dX4_checkAhead_8 : decode cX4_checkAhead 8 = .ok (.iload 4, 2) := by decide +kernel
theorem dX4_checkAhead_10 : decode cX4_checkAhead 10 = .ok (.istore 5, 2) := by decide +kernel
theorem dX4_checkAhead_12 : decode cX4_checkAhead 12 = .ok (.iload 5, 2) := by decide +kernel
theorem dX4_checkAhead_14 : decode cX4_checkAhead 14 = .ok (.iload 4, 2) := by decide +kernel
theorem dX4_checkAhead_16 : decode cX4_checkAhead 16 = .ok (.aload_n 0, 1) := by decide +kernel
theorem dX4_checkAhead_17 : decode cX4_checkAhead 17 = .ok (.getfield 24, 3) := by decide +kernel
theorem dX4_checkAhead_20 : decode cX4_checkAhead 20 = .ok (.iload_n 1, 1) := by decide +kernel
theorem dX4_checkAhead_21 : decode cX4_checkAhead 21 = .ok (.iaload, 1) := by decide +kernel
theorem dX4_checkAhead_22 : decode cX4_checkAhead 22 = .ok (.iadd, 1) := by decide +kernel
theorem dX4_checkAhead_23 : decode cX4_checkAhead 23 = .ok (.if_icmp .ge 45, 3) := by decide +kernel
theorem dX4_checkAhead_26 : decode cX4_checkAhead 26 = .ok (.aload_n 0, 1) := by decide +kernel
theorem dX4_checkAhead_27 : decode cX4_checkAhead 27 = .ok (.getfield 27, 3) := by decide +kernel
theorem dX4_checkAhead_30 : decode cX4_checkAhead 30 = .ok (.iload 5, 2) := by decide +kernel
theorem dX4_checkAhead_32 : decode cX4_checkAhead 32 = .ok (.iaload, 1) := by decide +kernel
theorem dX4_checkAhead_33 : decode cX4_checkAhead 33 = .ok (.iload_n 2, 1) := by decide +kernel
theorem dX4_checkAhead_34 : decode cX4_checkAhead 34 = .ok (.if_icmp .gt 28, 3) := by decide +kernel
theorem dX4_checkAhead_37 : decode cX4_checkAhead 37 = .ok (.iload_n 3, 1) := by decide +kernel
theorem dX4_checkAhead_38 : decode cX4_checkAhead 38 = .ok (.bipush (-9), 2) := by decide +kernel
theorem dX4_checkAhead_40 : decode cX4_checkAhead 40 = .ok (.if_icmp .eq 19, 3) := by decide +kernel
theorem dX4_checkAhead_43 : decode cX4_checkAhead 43 = .ok (.aload_n 0, 1) := by decide +kernel
theorem dX4_checkAhead_44 : decode cX4_checkAhead 44 = .ok (.getfield 27, 3) := by decide +kernel
theorem dX4_checkAhead_47 : decode cX4_checkAhead 47 = .ok (.iload 5, 2) := by decide +kernel
theorem dX4_checkAhead_49 : decode cX4_checkAhead 49 = .ok (.iaload, 1) := by decide +kernel
theorem dX4_checkAhead_50 : decode cX4_checkAhead 50 = .ok (.aload_n 0, 1) := by decide +kernel
theorem dX4_checkAhead_51 : decode cX4_checkAhead 51 = .ok (.getfield 27, 3) := by decide +kernel
theorem dX4_checkAhead_54 : decode cX4_checkAhead 54 = .ok (.iload_n 3, 1) := by decide +kernel
theorem dX4_checkAhead_55 : decode cX4_checkAhead 55 = .ok (.iaload, 1) := by decide +kernel
theorem dX4_checkAhead_56 : decode cX4_checkAhead 56 = .ok (.if_icmp .lt 6, 3) := by decide +kernel
theorem dX4_checkAhead_59 : decode cX4_checkAhead 59 = .ok (.iload 5, 2) := by decide +kernel
theorem dX4_checkAhead_61 : decode cX4_checkAhead 61 = .ok (.istore_n 3, 1) := by decide +kernel
theorem dX4_checkAhead_62 : decode cX4_checkAhead 62 = .ok (.iinc 5 1, 3) := by decide +kernel
theorem dX4_checkAhead_65 : decode cX4_checkAhead 65 = .ok (.goto (-53), 3) := by decide +kernel
theorem dX4_checkAhead_68 : decode cX4_checkAhead 68 = .ok (.iload_n 3, 1) := by decide +kernel
theorem dX4_checkAhead_69 : decode cX4_checkAhead 69 = .ok (.ireturn, 1) := by decide +kernel
theorem dX4_checkBehind_0 : decode cX4_checkBehind 0 = .ok (.bipush (-9), 2) := by decide +kernel
theorem dX4_checkBehind_2 : decode cX4_checkBehind 2 = .ok (.istore_n 3, 1) := by decide +kernel
theorem dX4_checkBehind_3 : decode cX4_checkBehind 3 = .ok (.iload_n 1, 1) := by decide +kernel
theorem dX4_checkBehind_4 : decode cX4_checkBehind 4 = .ok (.iconst 4, 1) := by decide +kernel
theorem dX4_checkBehind_5 : decode cX4_checkBehind 5 = .ok (.imul, 1) := by decide +kernel
theorem dX4_checkBehind_6 : decode cX4_checkBehind 6 = .ok (.istore 4, 2) := by decide +kernel
theorem dX4_checkBehind_8 : decode cX4_checkBehind 8 = .ok (.iload 4, 2) := by decide +kernel
theorem dX4_checkBehind_10 : decode cX4_checkBehind 10 = .ok (.istore 5, 2) := by decide +kernel
theorem dX4_checkBehind_12 : decode cX4_checkBehind 12 = .ok (.iload 5, 2) := by decide +kernel
theorem dX4_checkBehind_14 : decode cX4_checkBehind 14 = .ok (.iload 4, 2) := by decide +kernel
theorem dX4_checkBehind_16 : decode cX4_checkBehind 16 = .ok (.aload_n 0, 1) := by decide +kernel
theorem dX4_checkBehind_17 : decode cX4_checkBehind 17 = .ok (.getfield 24, 3) := by decide +kernel
theorem dX4_checkBehind_20 : decode cX4_checkBehind 20 = .ok (.iload_n 1, 1) := by decide +kernel
theorem dX4_checkBehind_21 : decode cX4_checkBehind 21 = .ok (.iaload, 1) := by decide +kernel
theorem dX4_checkBehind_22 : decode cX4_checkBehind 22 = .ok (.iadd, 1) := by decide +kernel
theorem dX4_checkBehind_23 : decode cX4_checkBehind 23 = .ok (.if_icmp .ge 45, 3) := by decide +kernel
theorem dX4_checkBehind_26 : decode cX4_checkBehind 26 = .ok (.aload_n 0, 1) := by decide +kernel
theorem dX4_checkBehind_27 : decode cX4_checkBehind 27 = .ok (.getfield 27, 3) := by decide +kernel
theorem dX4_checkBehind_30 : decode cX4_checkBehind 30 = .ok (.iload 5, 2) := by decide +kernel
theorem dX4_checkBehind_32 : decode cX4_checkBehind 32 = .ok (.iaload, 1) := by decide +kernel
theorem dX4_checkBehind_33 : decode cX4_checkBehind 33 = .ok (.iload_n 2, 1) := by decide +kernel
theorem dX4_checkBehind_34 : decode cX4_checkBehind 34 = .ok (.if_icmp .lt 28, 3) := by decide +kernel
theorem dX4_checkBehind_37 : decode cX4_checkBehind 37 = .ok (.iload_n 3, 1) := by decide +kernel
theorem dX4_checkBehind_38 : decode cX4_checkBehind 38 = .ok (.bipush (-9), 2) := by decide +kernel
theorem dX4_checkBehind_40 : decode cX4_checkBehind 40 = .ok (.if_icmp .eq 19, 3) := by decide +kernel
theorem dX4_checkBehind_43 : decode cX4_checkBehind 43 = .ok (.aload_n 0, 1) := by decide +kernel
theorem dX4_checkBehind_44 : decode cX4_checkBehind 44 = .ok (.getfield 27, 3) := by decide +kernel
theorem dX4_checkBehind_47 : decode cX4_checkBehind 47 = .ok (.iload 5, 2) := by decide +kernel
theorem dX4_checkBehind_49 : decode cX4_checkBehind 49 = .ok (.iaload, 1) := by decide +kernel
theorem dX4_checkBehind_50 : decode cX4_checkBehind 50 = .ok (.aload_n 0, 1) := by decide +kernel
theorem dX4_checkBehind_51 : decode cX4_checkBehind 51 = .ok (.getfield 27, 3) := by decide +kernel
theorem dX4_checkBehind_54 : decode cX4_checkBehind 54 = .ok (.iload_n 3, 1) := by decide +kernel
theorem dX4_checkBehind_55 : decode cX4_checkBehind 55 = .ok (.iaload, 1) := by decide +kernel
theorem dX4_checkBehind_56 : decode cX4_checkBehind 56 = .ok (.if_icmp .gt 6, 3) := by decide +kernel
theorem dX4_checkBehind_59 : decode cX4_checkBehind 59 = .ok (.iload 5, 2) := by decide +kernel
theorem dX4_checkBehind_61 : decode cX4_checkBehind 61 = .ok (.istore_n 3, 1) := by decide +kernel
theorem dX4_checkBehind_62 : decode cX4_checkBehind 62 = .ok (.iinc 5 1, 3) := by decide +kernel
theorem dX4_checkBehind_65 : decode cX4_checkBehind 65 = .ok (.goto (-53), 3) := by decide +kernel
theorem dX4_checkBehind_68 : decode cX4_checkBehind 68 = .ok (.iload_n 3, 1) := by decide +kernel
theorem dX4_checkBehind_69 : decode cX4_checkBehind 69 = .ok (.ireturn, 1) := by decide +kernel
theorem dX5_init_0 : decode cX5_init 0 = .ok (.aload_n 0, 1) := by decide +kernel
theorem dX5_init_1 : decode cX5_init 1 = .ok (.invokespecial 3, 3) := by decide +kernel
theorem dX5_init_4 : decode cX5_init 4 = .ok (.aload_n 0, 1) := by decide +kernel
theorem dX5_init_5 : decode cX5_init 5 = .ok (.sipush 900, 3) := by decide +kernel
theorem dX5_init_8 : decode cX5_init 8 = .ok (.newarray .byte, 2) := by decide +kernel
theorem dX5_init_10 : decode cX5_init 10 = .ok (.putfield 11, 3) := by decide +kernel
theorem dX5_init_13 : decode cX5_init 13 = .ok (.aload_n 0, 1) := by decide +kernel
theorem dX5_init_14 : decode cX5_init 14 = .ok (.bipush 64, 2) := by decide +kernel
theorem dX5_init_16 : decode cX5_init 16 = .ok (.newarray .int, 2) := by decide +kernel
theorem dX5_init_18 : decode cX5_init 18 = .ok (.putfield 15, 3) := by decide +kernel
theorem dX5_init_21 : decode cX5_init 21 = .ok (.aload_n 0, 1) := by decide +kernel
theorem dX5_init_22 : decode cX5_init 22 = .ok (.aload_n 1, 1) := by decide +kernel
theorem dX5_init_23 : decode cX5_init 23 = .ok (.putfield 19, 3) := by decide +kernel
theorem dX5_init_26 : decode cX5_init 26 = .ok (.return_, 1) := by decide +kernel
theorem dX5_append_0 : decode cX5_append 0 = .ok (.aload_n 0, 1) := by decide +kernel
theorem dX5_append_1 : decode cX5_append 1 = .ok (.getfield 23, 3) := by decide +kernel
theorem dX5_append_4 : decode cX5_append 4 = .ok (.iload_n 3, 1) := by decide +kernel
theorem dX5_append_5 : decode cX5_append 5 = .ok (.iadd, 1) := by decide +kernel
theorem dX5_append_6 : decode cX5_append 6 = .ok (.sipush 900, 3) := by decide +kernel
theorem dX5_append_9 : decode cX5_append 9 = .ok (.if_icmp .le 6, 3) := by decide +kernel
theorem dX5_append_12 : decode cX5_append 12 = .ok (.bipush (-3), 2) := by decide +kernel
theorem dX5_append_14 : decode cX5_append 14 = .ok (.ireturn, 1) := by decide +kernel
theorem dX5_append_15 : decode cX5_append 15 = .ok (.iload_n 3, 1) := by decide +kernel
theorem dX5_append_16 : decode cX5_append 16 = .ok (.iconst 1, 1) := by decide +kernel
theorem dX5_append_17 : decode cX5_append 17 = .ok (.isub, 1) := by decide +kernel
theorem dX5_append_18 : decode cX5_append 18 = .ok (.istore 4, 2) := by decide +kernel
theorem dX5_append_20 : decode cX5_append 20 = .ok (.iload 4, 2) := by decide +kernel
theorem dX5_append_22 : decode cX5_append 22 = .ok (.ifCond .lt 37, 3) := by decide +kernel
theorem dX5_append_25 : decode cX5_append 25 = .ok (.aload_n 0, 1) := by decide +kernel
theorem dX5_append_26 : decode cX5_append 26 = .ok (.getfield 11, 3) := by decide +kernel
theorem dX5_append_29 : decode cX5_append 29 = .ok (.aload_n 0, 1) := by decide +kernel
theorem dX5_append_30 : decode cX5_append 30 = .ok (.getfield 23, 3) := by decide +kernel
theorem dX5_append_33 : decode cX5_append 33 = .ok (.lload_n 1, 1) := by decide +kernel
theorem dX5_append_34 : decode cX5_append 34 = .ok (.bipush 8, 2) := by decide +kernel
theorem dX5_append_36 : decode cX5_append 36 = .ok (.iload 4, 2) := by decide +kernel
theorem dX5_append_38 : decode cX5_append 38 = .ok (.imul, 1) := by decide +kernel
theorem dX5_append_39 : decode cX5_append 39 = .ok (.lushr, 1) := by decide +kernel
theorem dX5_append_40 : decode cX5_append 40 = .ok (.l2i, 1) := by decide +kernel
theorem dX5_append_41 : decode cX5_append 41 = .ok (.i2b, 1) := by decide +kernel
theorem dX5_append_42 : decode cX5_append 42 = .ok (.bastore, 1) := by decide +kernel
theorem dX5_append_43 : decode cX5_append 43 = .ok (.aload_n 0, 1) := by decide +kernel
theorem dX5_append_44 : decode cX5_append 44 = .ok (.dup, 1) := by decide +kernel
theorem dX5_append_45 : decode cX5_append 45 = .ok (.getfield 23, 3) := by decide +kernel
theorem dX5_append_48 : decode cX5_append 48 = .ok (.iconst 1, 1) := by decide +kernel
theorem dX5_append_49 : decode cX5_append 49 = .ok (.iadd, 1) := by decide +kernel
theorem dX5_append_50 : decode cX5_append 50 = .ok (.putfield 23, 3) := by decide +kernel
theorem dX5_append_53 : decode cX5_append 53 = .ok (.iinc 4 (-1), 3) := by decide +kernel
theorem dX5_append_56 : decode cX5_append 56 = .ok (.goto (-36), 3) := by decide +kernel
theorem dX5_append_59 : decode cX5_append 59 = .ok (.aload_n 0, 1) := by decide +kernel
theorem dX5_append_60 : decode cX5_append 60 = .ok (.getfield 23, 3) := by decide +kernel
theorem dX5_append_63 : decode cX5_append 63 = .ok (.ireturn, 1) := by decide +kernel
theorem dX5_empty_0 : decode cX5_empty 0 = .ok (.aload_n 0, 1) := by decide +kernel
theorem dX5_empty_1 : decode cX5_empty 1 = .ok (.getfield 23, 3) := by decide +kernel
theorem dX5_empty_4 : decode cX5_empty 4 = .ok (.istore_n 1, 1) := by decide +kernel
theorem dX5_empty_5 : decode cX5_empty 5 = .ok (.aload_n 0, 1) := by decide +kernel
theorem dX5_empty_6 : decode cX5_empty 6 = .ok (.iconst 0, 1) := by decide +kernel
theorem dX5_empty_7 : decode cX5_empty 7 = .ok (.putfield 23, 3) := by decide +kernel
theorem dX5_empty_10 : decode cX5_empty 10 = .ok (.iload_n 1, 1) := by decide +kernel
theorem dX5_empty_11 : decode cX5_empty 11 = .ok (.ireturn, 1) := by decide +kernel
theorem dX5_readInto_0 : decode cX5_readInto 0 = .ok (.aload_n 0, 1) := by decide +kernel
theorem dX5_readInto_1 : decode cX5_readInto 1 = .ok (.aload_n 1, 1) := by decide +kernel
theorem dX5_readInto_2 : decode cX5_readInto 2 = .ok (.putfield 19, 3) := by decide +kernel
theorem dX5_readInto_5 : decode cX5_readInto 5 = .ok (.aload_n 1, 1) := by decide +kernel
theorem dX5_readInto_6 : decode cX5_readInto 6 = .ok (.invokevirtual 27, 3) := by decide +kernel
theorem dX5_readInto_9 : decode cX5_readInto 9 = .ok (.aload_n 0, 1) := by decide +kernel
theorem dX5_readInto_10 : decode cX5_readInto 10 = .ok (.iconst 0, 1) := by decide +kernel
theorem dX5_readInto_11 : decode cX5_readInto 11 = .ok (.putfield 32, 3) := by decide +kernel
theorem dX5_readInto_14 : decode cX5_readInto 14 = .ok (.aload_n 0, 1) := by decide +kernel
theorem dX5_readInto_15 : decode cX5_readInto 15 = .ok (.iconst 0, 1) := by decide +kernel
theorem dX5_readInto_16 : decode cX5_readInto 16 = .ok (.putfield 35, 3) := by decide +kernel
theorem dX5_readInto_19 : decode cX5_readInto 19 = .ok (.aload_n 0, 1) := by decide +kernel
theorem dX5_readInto_20 : decode cX5_readInto 20 = .ok (.invokevirtual 38, 3) := by decide +kernel
theorem dX5_readInto_23 : decode cX5_readInto 23 = .ok (.iconst 0, 1) := by decide +kernel
theorem dX5_readInto_24 : decode cX5_readInto 24 = .ok (.istore_n 2, 1) := by decide +kernel
theorem dX5_readInto_25 : decode cX5_readInto 25 = .ok (.iload_n 2, 1) := by decide +kernel
theorem dX5_readInto_26 : decode cX5_readInto 26 = .ok (.sipush 900, 3) := by decide +kernel
theorem dX5_readInto_29 : decode cX5_readInto 29 = .ok (.if_icmp .ge 91, 3) := by decide +kernel
theorem dX5_readInto_32 : decode cX5_readInto 32 = .ok (.aload_n 0, 1) := by decide +kernel
theorem dX5_readInto_33 : decode cX5_readInto 33 = .ok (.getfield 41, 3) := by decide +kernel
theorem dX5_readInto_36 : decode cX5_readInto 36 = .ok (.bipush (-3), 2) := by decide +kernel
theorem dX5_readInto_38 : decode cX5_readInto 38 = .ok (.if_icmp .eq 82, 3) := by decide +kernel
theorem dX5_readInto_41 : decode cX5_readInto 41 = .ok (.iconst 0, 1) := by decide +kernel
theorem dX5_readInto_42 : decode cX5_readInto 42 = .ok (.istore_n 3, 1) := by decide +kernel
theorem dX5_readInto_43 : decode cX5_readInto 43 = .ok (.aload_n 0, 1) := by decide +kernel
theorem dX5_readInto_44 : decode cX5_readInto 44 = .ok (.ldc 44, 2) := by decide +kernel
theorem dX5_readInto_46 : decode cX5_readInto 46 = .ok (.invokevirtual 46, 3) := by decide +kernel
theorem dX5_readInto_49 : decode cX5_readInto 49 = .ok (.ifCond .eq 42, 3) := by decide +kernel
theorem dX5_readInto_52 : decode cX5_readInto 52 = .ok (.aload_n 1, 1) := by decide +kernel
theorem dX5_readInto_53 : decode cX5_readInto 53 = .ok (.getfield 50, 3) := by decide +kernel
theorem dX5_readInto_56 : decode cX5_readInto 56 = .ok (.bipush 16, 2) := by decide +kernel
theorem dX5_readInto_58 : decode cX5_readInto 58 = .ok (.if_icmp .ge 28, 3) := by decide +kernel
theorem dX5_readInto_61 : decode cX5_readInto 61 = .ok (.aload_n 0, 1) := by decide +kernel
theorem dX5_readInto_62 : decode cX5_readInto 62 = .ok (.invokevirtual 53, 3) := by decide +kernel
theorem dX5_readInto_65 : decode cX5_readInto 65 = .ok (.ifCond .eq 21, 3) := by decide +kernel
theorem dX5_readInto_68 : decode cX5_readInto 68 = .ok (.aload_n 0, 1) := by decide +kernel
theorem dX5_readInto_69 : decode cX5_readInto 69 = .ok (.invokevirtual 57, 3) := by decide +kernel
theorem dX5_readInto_72 : decode cX5_readInto 72 = .ok (.ifCond .eq 14, 3) := by decide +kernel
theorem dX5_readInto_75 : decode cX5_readInto 75 = .ok (.aload_n 0, 1) := by decide +kernel
theorem dX5_readInto_76 : decode cX5_readInto 76 = .ok (.invokevirtual 60, 3) := by decide +kernel
theorem dX5_readInto_79 : decode cX5_readInto 79 = .ok (.ifCond .eq 7, 3) := by decide +kernel
theorem dX5_readInto_82 : decode cX5_readInto 82 = .ok (.iconst 1, 1) := by decide +kernel
theorem dX5_readInto_83 : decode cX5_readInto 83 = .ok (.goto 4, 3) := by decide +kernel
theorem dX5_readInto_86 : decode cX5_readInto 86 = .ok (.iconst 0, 1) := by decide +kernel
theorem dX5_readInto_87 : decode cX5_readInto 87 = .ok (.istore_n 3, 1) := by decide +kernel
theorem dX5_readInto_88 : decode cX5_readInto 88 = .ok (.goto 17, 3) := by decide +kernel
theorem dX5_readInto_91 : decode cX5_readInto 91 = .ok (.aload_n 0, 1) := by decide +kernel
theorem dX5_readInto_92 : decode cX5_readInto 92 = .ok (.ldc 63, 2) := by decide +kernel
theorem dX5_readInto_94 : decode cX5_readInto 94 = .ok (.invokevirtual 46, 3) := by decide +kernel
theorem dX5_readInto_97 : decode cX5_readInto 97 = .ok (.ifCond .eq 8, 3) := by decide +kernel
theorem dX5_readInto_100 : decode cX5_readInto 100 = .ok (.aload_n 0, 1) := by decide +kernel
theorem dX5_readInto_101 : decode cX5_readInto 101 = .ok (.invokevirtual 65, 3) := by decide +kernel
theorem dX5_readInto_104 : decode cX5_readInto 104 = .ok (.istore_n 3, 1) := by decide +kernel
theorem dX5_readInto_105 : decode cX5_readInto 105 = .ok (.iload_n 3, 1) := by decide +kernel
theorem dX5_readInto_106 : decode cX5_readInto 106 = .ok (.ifCond .ne 8, 3) := by decide +kernel
theorem dX5_readInto_109 : decode cX5_readInto 109 = .ok (.aload_n 0, 1) := by decide +kernel
theorem dX5_readInto_110 : decode cX5_readInto 110 = .ok (.getfield 32, 3) := by decide +kernel
theorem dX5_readInto_113 : decode cX5_readInto 113 = .ok (.ireturn, 1) := by decide +kernel
theorem dX5_readInto_114 : decode cX5_readInto 114 = .ok (.iinc 2 1, 3) := by decide +kernel
theorem dX5_readInto_117 : decode cX5_readInto 117 = .ok (.goto (-92), 3) := by decide +kernel
theorem dX5_readInto_120 : decode cX5_readInto 120 = .ok (.bipush (-9), 2) := by decide +kernel
theorem dX5_readInto_122 : decode cX5_readInto 122 = .ok (.ireturn, 1) := by decide +kernel
theorem dX5_step_0 : decode cX5_step 0 = .ok (.aload_n 0, 1) := by decide +kernel
theorem dX5_step_1 : decode cX5_step 1 = .ok (.dup, 1) := by decide +kernel
theorem dX5_step_2 : decode cX5_step 2 = .ok (.getfield 32, 3) := by decide +kernel
theorem dX5_step_5 : decode cX5_step 5 = .ok (.aload_n 0, 1) := by decide +kernel
theorem dX5_step_6 : decode cX5_step 6 = .ok (.getfield 35, 3) := by decide +kernel
theorem dX5_step_9 : decode cX5_step 9 = .ok (.iadd, 1) := by decide +kernel
theorem dX5_step_10 : decode cX5_step 10 = .ok (.putfield 32, 3) := by decide +kernel
theorem dX5_step_13 : decode cX5_step 13 = .ok (.aload_n 0, 1) := by decide +kernel
theorem dX5_step_14 : decode cX5_step 14 = .ok (.getfield 32, 3) := by decide +kernel
theorem dX5_step_17 : decode cX5_step 17 = .ok (.aload_n 0, 1) := by decide +kernel
theorem dX5_step_18 : decode cX5_step 18 = .ok (.getfield 23, 3) := by decide +kernel
theorem dX5_step_21 : decode cX5_step 21 = .ok (.if_icmp .ge 44, 3) := by decide +kernel
theorem dX5_step_24 : decode cX5_step 24 = .ok (.aload_n 0, 1) := by decide +kernel
theorem dX5_step_25 : decode cX5_step 25 = .ok (.getfield 11, 3) := by decide +kernel
theorem dX5_step_28 : decode cX5_step 28 = .ok (.aload_n 0, 1) := by decide +kernel
theorem dX5_step_29 : decode cX5_step 29 = .ok (.getfield 32, 3) := by decide +kernel
theorem dX5_step_32 : decode cX5_step 32 = .ok (.baload, 1) := by decide +kernel
theorem dX5_step_33 : decode cX5_step 33 = .ok (.bipush 32, 2) := by decide +kernel
theorem dX5_step_35 : decode cX5_step 35 = .ok (.if_icmp .eq 17, 3) := by decide +kernel
theorem dX5_step_38 : decode cX5_step 38 = .ok (.aload_n 0, 1) := by decide +kernel
theorem dX5_step_39 : decode cX5_step 39 = .ok (.getfield 11, 3) := by decide +kernel
theorem dX5_step_42 : decode cX5_step 42 = .ok (.aload_n 0, 1) := by decide +kernel
theorem dX5_step_43 : decode cX5_step 43 = .ok (.getfield 32, 3) := by decide +kernel
theorem dX5_step_46 : decode cX5_step 46 = .ok (.baload, 1) := by decide +kernel
theorem dX5_step_47 : decode cX5_step 47 = .ok (.bipush 10, 2) := by decide +kernel
theorem dX5_step_49 : decode cX5_step 49 = .ok (.if_icmp .ne 16, 3) := by decide +kernel
theorem dX5_step_52 : decode cX5_step 52 = .ok (.aload_n 0, 1) := by decide +kernel
theorem dX5_step_53 : decode cX5_step 53 = .ok (.dup, 1) := by decide +kernel
theorem dX5_step_54 : decode cX5_step 54 = .ok (.getfield 32, 3) := by decide +kernel
theorem dX5_step_57 : decode cX5_step 57 = .ok (.iconst 1, 1) := by decide +kernel
theorem dX5_step_58 : decode cX5_step 58 = .ok (.iadd, 1) := by decide +kernel
theorem dX5_step_59 : decode cX5_step 59 = .ok (.putfield 32, 3) := by decide +kernel
theorem dX5_step_62 : decode cX5_step 62 = .ok (.goto (-49), 3) := by decide +kernel
theorem dX5_step_65 : decode cX5_step 65 = .ok (.aload_n 0, 1) := by decide +kernel
theorem dX5_step_66 : decode cX5_step 66 = .ok (.iconst 0, 1) := by decide +kernel
theorem dX5_step_67 : decode cX5_step 67 = .ok (.putfield 35, 3) := by decide +kernel
theorem dX5_step_70 : decode cX5_step 70 = .ok (.aload_n 0, 1) := by decide +kernel
theorem dX5_step_71 : decode cX5_step 71 = .ok (.getfield 32, 3) := by decide +kernel
theorem dX5_step_74 : decode cX5_step 74 = .ok (.aload_n 0, 1) := by decide +kernel
theorem dX5_step_75 : decode cX5_step 75 = .ok (.getfield 23, 3) := by decide +kernel
theorem dX5_step_78 : decode cX5_step 78 = .ok (.if_icmp .lt 10, 3) := by decide +kernel
theorem dX5_step_81 : decode cX5_step 81 = .ok (.aload_n 0, 1) := by decide +kernel
theorem dX5_step_82 : decode cX5_step 82 = .ok (.bipush (-3), 2) := by decide +kernel
theorem dX5_step_84 : decode cX5_step 84 = .ok (.putfield 41, 3) := by decide +kernel
theorem dX5_step_87 : decode cX5_step 87 = .ok (.return_, 1) := by decide +kernel
theorem dX5_step_88 : decode cX5_step 88 = .ok (.aload_n 0, 1) := by decide +kernel
theorem dX5_step_89 : decode cX5_step 89 = .ok (.aload_n 0, 1) := by decide +kernel
theorem dX5_step_90 : decode cX5_step 90 = .ok (.getfield 11, 3) := by decide +kernel
theorem dX5_step_93 : decode cX5_step 93 = .ok (.aload_n 0, 1) := by decide +kernel
theorem dX5_step_94 : decode cX5_step 94 = .ok (.getfield 32, 3) := by decide +kernel
theorem dX5_step_97 : decode cX5_step 97 = .ok (.baload, 1) := by decide +kernel
theorem dX5_step_98 : decode cX5_step 98 = .ok (.sipush 255, 3) := by decide +kernel
theorem dX5_step_101 : decode cX5_step 101 = .ok (.iand, 1) := by decide +kernel
theorem dX5_step_102 : decode cX5_step 102 = .ok (.putfield 41, 3) := by decide +kernel
theorem dX5_step_105 : decode cX5_step 105 = .ok (.aload_n 0, 1) := by decide +kernel
theorem dX5_step_106 : decode cX5_step 106 = .ok (.iconst 1, 1) := by decide +kernel
theorem dX5_step_107 : decode cX5_step 107 = .ok (.putfield 35, 3) := by decide +kernel
theorem dX5_step_110 : decode cX5_step 110 = .ok (.aload_n 0, 1) := by decide +kernel
theorem dX5_step_111 : decode cX5_step 111 = .ok (.getfield 41, 3) := by decide +kernel
theorem dX5_step_114 : decode cX5_step 114 = .ok (.bipush 97, 2) := by decide +kernel
theorem dX5_step_116 : decode cX5_step 116 = .ok (.if_icmp .lt 84, 3) := by decide +kernel
theorem dX5_step_119 : decode cX5_step 119 = .ok (.aload_n 0, 1) := by decide +kernel
theorem dX5_step_120 : decode cX5_step 120 = .ok (.getfield 41, 3) := by decide +kernel
theorem dX5_step_123 : decode cX5_step 123 = .ok (.bipush 122, 2) := by decide +kernel
theorem dX5_step_125 : decode cX5_step 125 = .ok (.if_icmp .gt 75, 3) := by decide +kernel
theorem dX5_step_128 : decode cX5_step 128 = .ok (.aload_n 0, 1) := by decide +kernel
theorem dX5_step_129 : decode cX5_step 129 = .ok (.iconst (-1), 1) := by decide +kernel
theorem dX5_step_130 : decode cX5_step 130 = .ok (.putfield 41, 3) := by decide +kernel
theorem dX5_step_133 : decode cX5_step 133 = .ok (.aload_n 0, 1) := by decide +kernel
theorem dX5_step_134 : decode cX5_step 134 = .ok (.getfield 32, 3) := by decide +kernel
theorem dX5_step_137 : decode cX5_step 137 = .ok (.aload_n 0, 1) := by decide +kernel
theorem dX5_step_138 : decode cX5_step 138 = .ok (.getfield 35, 3) := by decide +kernel
theorem dX5_step_141 : decode cX5_step 141 = .ok (.iadd, 1) := by decide +kernel
theorem dX5_step_142 : decode cX5_step 142 = .ok (.aload_n 0, 1) := by decide +kernel
theorem dX5_step_143 : decode cX5_step 143 = .ok (.getfield 23, 3) := by decide +kernel
theorem dX5_step_146 : decode cX5_step 146 = .ok (.if_icmp .ge 233, 3) := by decide +kernel
theorem dX5_step_149 : decode cX5_step 149 = .ok (.aload_n 0, 1) := by decide +kernel
theorem dX5_step_150 : decode cX5_step 150 = .ok (.getfield 11, 3) := by decide +kernel
theorem dX5_step_153 : decode cX5_step 153 = .ok (.aload_n 0, 1) := by decide +kernel
theorem dX5_step_154 : decode cX5_step 154 = .ok (.getfield 32, 3) := by decide +kernel
theorem dX5_step_157 : decode cX5_step 157 = .ok (.aload_n 0, 1) := by decide +kernel
theorem dX5_step_158 : decode cX5_step 158 = .ok (.getfield 35, 3) := by decide +kernel
theorem dX5_step_161 : decode cX5_step 161 = .ok (.iadd, 1) := by decide +kernel
theorem dX5_step_162 : decode cX5_step 162 = .ok (.baload, 1) := by decide +kernel
theorem dX5_step_163 : decode cX5_step 163 = .ok (.bipush 97, 2) := by decide +kernel
theorem dX5_step_165 : decode cX5_step 165 = .ok (.if_icmp .lt 214, 3) := by decide +kernel
theorem dX5_step_168 : decode cX5_step 168 = .ok (.aload_n 0, 1) := by decide +kernel
theorem dX5_step_169 : decode cX5_step 169 = .ok (.getfield 11, 3) := by decide +kernel
theorem dX5_step_172 : decode cX5_step 172 = .ok (.aload_n 0, 1) := by decide +kernel
theorem dX5_step_173 : decode cX5_step 173 = .ok (.getfield 32, 3) := by decide +kernel
theorem dX5_step_176 : decode cX5_step 176 = .ok (.aload_n 0, 1) := by decide +kernel
theorem dX5_step_177 : decode cX5_step 177 = .ok (.getfield 35, 3) := by decide +kernel
theorem dX5_step_180 : decode cX5_step 180 = .ok (.iadd, 1) := by decide +kernel
theorem dX5_step_181 : decode cX5_step 181 = .ok (.baload, 1) := by decide +kernel
theorem dX5_step_182 : decode cX5_step 182 = .ok (.bipush 122, 2) := by decide +kernel
theorem dX5_step_184 : decode cX5_step 184 = .ok (.if_icmp .gt 195, 3) := by decide +kernel
theorem dX5_step_187 : decode cX5_step 187 = .ok (.aload_n 0, 1) := by decide +kernel
theorem dX5_step_188 : decode cX5_step 188 = .ok (.dup, 1) := by decide +kernel
theorem dX5_step_189 : decode cX5_step 189 = .ok (.getfield 35, 3) := by decide +kernel
theorem dX5_step_192 : decode cX5_step 192 = .ok (.iconst 1, 1) := by decide +kernel
theorem dX5_step_193 : decode cX5_step 193 = .ok (.iadd, 1) := by decide +kernel
theorem dX5_step_194 : decode cX5_step 194 = .ok (.putfield 35, 3) := by decide +kernel
theorem dX5_step_197 : decode cX5_step 197 = .ok (.goto (-64), 3) := by decide +kernel
theorem dX5_step_200 : decode cX5_step 200 = .ok (.aload_n 0, 1) := by decide +kernel
theorem dX5_step_201 : decode cX5_step 201 = .ok (.getfield 41, 3) := by decide +kernel
theorem dX5_step_204 : decode cX5_step 204 = .ok (.bipush 48, 2) := by decide +kernel
theorem dX5_step_206 : decode cX5_step 206 = .ok (.if_icmp .lt 173, 3) := by decide +kernel
theorem dX5_step_209 : decode cX5_step 209 = .ok (.aload_n 0, 1) := by decide +kernel
theorem dX5_step_210 : decode cX5_step 210 = .ok (.getfield 41, 3) := by decide +kernel
theorem dX5_step_213 : decode cX5_step 213 = .ok (.bipush 57, 2) := by decide +kernel
theorem dX5_step_215 : decode cX5_step 215 = .ok (.if_icmp .gt 164, 3) := by decide +kernel
theorem dX5_step_218 : decode cX5_step 218 = .ok (.aload_n 0, 1) := by decide +kernel
theorem dX5_step_219 : decode cX5_step 219 = .ok (.getfield 41, 3) := by decide +kernel
theorem dX5_step_222 : decode cX5_step 222 = .ok (.bipush 48, 2) := by decide +kernel
theorem dX5_step_224 : decode cX5_step 224 = .ok (.if_icmp .ne 7, 3) := by decide +kernel
theorem dX5_step_227 : decode cX5_step 227 = .ok (.iconst 1, 1) := by decide +kernel
theorem dX5_step_228 : decode cX5_step 228 = .ok (.goto 4, 3) := by decide +kernel
theorem dX5_step_231 : decode cX5_step 231 = .ok (.iconst 0, 1) := by decide +kernel
theorem dX5_step_232 : decode cX5_step 232 = .ok (.istore_n 1, 1) := by decide +kernel
theorem dX5_step_233 : decode cX5_step 233 = .ok (.aload_n 0, 1) := by decide +kernel
theorem dX5_step_234 : decode cX5_step 234 = .ok (.aload_n 0, 1) := by decide +kernel
theorem dX5_step_235 : decode cX5_step 235 = .ok (.getfield 41, 3) := by decide +kernel
theorem dX5_step_238 : decode cX5_step 238 = .ok (.bipush 48, 2) := by decide +kernel
theorem dX5_step_240 : decode cX5_step 240 = .ok (.isub, 1) := by decide +kernel
theorem dX5_step_241 : decode cX5_step 241 = .ok (.putfield 68, 3) := by decide +kernel
theorem dX5_step_244 : decode cX5_step 244 = .ok (.aload_n 0, 1) := by decide +kernel
theorem dX5_step_245 : decode cX5_step 245 = .ok (.getfield 32, 3) := by decide +kernel
theorem dX5_step_248 : decode cX5_step 248 = .ok (.aload_n 0, 1) := by decide +kernel
theorem dX5_step_249 : decode cX5_step 249 = .ok (.getfield 35, 3) := by decide +kernel
theorem dX5_step_252 : decode cX5_step 252 = .ok (.iadd, 1) := by decide +kernel
theorem dX5_step_253 : decode cX5_step 253 = .ok (.aload_n 0, 1) := by decide +kernel
theorem dX5_step_254 : decode cX5_step 254 = .ok (.getfield 23, 3) := by decide +kernel
theorem dX5_step_257 : decode cX5_step 257 = .ok (.if_icmp .ge 89, 3) := by decide +kernel
theorem dX5_step_260 : decode cX5_step 260 = .ok (.aload_n 0, 1) := by decide +kernel
theorem dX5_step_261 : decode cX5_step 261 = .ok (.getfield 11, 3) := by decide +kernel
theorem dX5_step_264 : decode cX5_step 264 = .ok (.aload_n 0, 1) := by decide +kernel
theorem dX5_step_265 : decode cX5_step 265 = .ok (.getfield 32, 3) := by decide +kernel
theorem dX5_step_268 : decode cX5_step 268 = .ok (.aload_n 0, 1) := by decide +kernel
theorem dX5_step_269 : decode cX5_step 269 = .ok (.getfield 35, 3) := by decide +kernel
theorem dX5_step_272 : decode cX5_step 272 = .ok (.iadd, 1) := by decide +kernel
theorem dX5_step_273 : decode cX5_step 273 = .ok (.baload, 1) := by decide +kernel
theorem dX5_step_274 : decode cX5_step 274 = .ok (.bipush 48, 2) := by decide +kernel
theorem dX5_step_276 : decode cX5_step 276 = .ok (.if_icmp .lt 70, 3) := by decide +kernel
theorem dX5_step_279 : decode cX5_step 279 = .ok (.aload_n 0, 1) := by decide +kernel
theorem dX5_step_280 : decode cX5_step 280 = .ok (.getfield 11, 3) := by decide +kernel
theorem dX5_step_283 : decode cX5_step 283 = .ok (.aload_n 0, 1) := by decide +kernel
theorem dX5_step_284 : decode cX5_step 284 = .ok (.getfield 32, 3) := by decide +kernel
theorem dX5_step_287 : decode cX5_step 287 = .ok (.aload_n 0, 1) := by decide +kernel
theorem dX5_step_288 : decode cX5_step 288 = .ok (.getfield 35, 3) := by decide +kernel
theorem dX5_step_291 : decode cX5_step 291 = .ok (.iadd, 1) := by decide +kernel
theorem dX5_step_292 : decode cX5_step 292 = .ok (.baload, 1) := by decide +kernel
theorem dX5_step_293 : decode cX5_step 293 = .ok (.bipush 57, 2) := by decide +kernel
theorem dX5_step_295 : decode cX5_step 295 = .ok (.if_icmp .gt 51, 3) := by decide +kernel
theorem dX5_step_298 : decode cX5_step 298 = .ok (.aload_n 0, 1) := by decide +kernel
theorem dX5_step_299 : decode cX5_step 299 = .ok (.sipush 10000, 3) := by decide +kernel
theorem dX5_step_302 : decode cX5_step 302 = .ok (.aload_n 0, 1) := by decide +kernel
theorem dX5_step_303 : decode cX5_step 303 = .ok (.getfield 68, 3) := by decide +kernel
theorem dX5_step_306 : decode cX5_step 306 = .ok (.bipush 10, 2) := by decide +kernel
theorem dX5_step_308 : decode cX5_step 308 = .ok (.imul, 1) := by decide +kernel
theorem dX5_step_309 : decode cX5_step 309 = .ok (.aload_n 0, 1) := by decide +kernel
theorem dX5_step_310 : decode cX5_step 310 = .ok (.getfield 11, 3) := by decide +kernel
theorem dX5_step_313 : decode cX5_step 313 = .ok (.aload_n 0, 1) := by decide +kernel
theorem dX5_step_314 : decode cX5_step 314 = .ok (.getfield 32, 3) := by decide +kernel
theorem dX5_step_317 : decode cX5_step 317 = .ok (.aload_n 0, 1) := by decide +kernel
theorem dX5_step_318 : decode cX5_step 318 = .ok (.getfield 35, 3) := by decide +kernel
theorem dX5_step_321 : decode cX5_step 321 = .ok (.iadd, 1) := by decide +kernel
theorem dX5_step_322 : decode cX5_step 322 = .ok (.baload, 1) := by decide +kernel
theorem dX5_step_323 : decode cX5_step 323 = .ok (.iadd, 1) := by decide +kernel
theorem dX5_step_324 : decode cX5_step 324 = .ok (.bipush 48, 2) := by decide +kernel
theorem dX5_step_326 : decode cX5_step 326 = .ok (.isub, 1) := by decide +kernel
theorem dX5_step_327 : decode cX5_step 327 = .ok (.invokestatic 71, 3) := by decide +kernel
theorem dX5_step_330 : decode cX5_step 330 = .ok (.putfield 68, 3) := by decide +kernel
theorem dX5_step_333 : decode cX5_step 333 = .ok (.aload_n 0, 1) := by decide +kernel
theorem dX5_step_334 : decode cX5_step 334 = .ok (.dup, 1) := by decide +kernel
theorem dX5_step_335 : decode cX5_step 335 = .ok (.getfield 35, 3) := by decide +kernel
theorem dX5_step_338 : decode cX5_step 338 = .ok (.iconst 1, 1) := by decide +kernel
theorem dX5_step_339 : decode cX5_step 339 = .ok (.iadd, 1) := by decide +kernel
theorem dX5_step_340 : decode cX5_step 340 = .ok (.putfield 35, 3) := by decide +kernel
theorem dX5_step_343 : decode cX5_step 343 = .ok (.goto (-99), 3) := by decide +kernel
theorem dX5_step_346 : decode cX5_step 346 = .ok (.aload_n 0, 1) := by decide +kernel
theorem dX5_step_347 : decode cX5_step 347 = .ok (.aload_n 0, 1) := by decide +kernel
theorem dX5_step_348 : decode cX5_step 348 = .ok (.getfield 68, 3) := by decide +kernel
theorem dX5_step_351 : decode cX5_step 351 = .ok (.sipush 9999, 3) := by decide +kernel
theorem dX5_step_354 : decode cX5_step 354 = .ok (.if_icmp .gt 15, 3) := by decide +kernel
theorem dX5_step_357 : decode cX5_step 357 = .ok (.iload_n 1, 1) := by decide +kernel
theorem dX5_step_358 : decode cX5_step 358 = .ok (.ifCond .eq 16, 3) := by decide +kernel
theorem dX5_step_361 : decode cX5_step 361 = .ok (.aload_n 0, 1) := by decide +kernel
theorem dX5_step_362 : decode cX5_step 362 = .ok (.getfield 35, 3) := by decide +kernel
theorem dX5_step_365 : decode cX5_step 365 = .ok (.iconst 1, 1) := by decide +kernel
theorem dX5_step_366 : decode cX5_step 366 = .ok (.if_icmp .le 8, 3) := by decide +kernel
theorem dX5_step_369 : decode cX5_step 369 = .ok (.bipush (-4), 2) := by decide +kernel
theorem dX5_step_371 : decode cX5_step 371 = .ok (.goto 5, 3) := by decide +kernel
theorem dX5_step_374 : decode cX5_step 374 = .ok (.bipush (-2), 2) := by decide +kernel
theorem dX5_step_376 : decode cX5_step 376 = .ok (.putfield 41, 3) := by decide +kernel
theorem dX5_step_379 : decode cX5_step 379 = .ok (.return_, 1) := by decide +kernel
theorem dX5_isWord_0 : decode cX5_isWord 0 = .ok (.aload_n 0, 1) := by decide +kernel
theorem dX5_isWord_1 : decode cX5_isWord 1 = .ok (.getfield 41, 3) := by decide +kernel
theorem dX5_isWord_4 : decode cX5_isWord 4 = .ok (.iconst (-1), 1) := by decide +kernel
theorem dX5_isWord_5 : decode cX5_isWord 5 = .ok (.if_icmp .ne 14, 3) := by decide +kernel
theorem dX5_isWord_8 : decode cX5_isWord 8 = .ok (.aload_n 0, 1) := by decide +kernel
theorem dX5_isWord_9 : decode cX5_isWord 9 = .ok (.getfield 35, 3) := by decide +kernel
theorem dX5_isWord_12 : decode cX5_isWord 12 = .ok (.aload_n 1, 1) := by decide +kernel
theorem dX5_isWord_13 : decode cX5_isWord 13 = .ok (.invokevirtual 77, 3) := by decide +kernel
theorem dX5_isWord_16 : decode cX5_isWord 16 = .ok (.if_icmp .eq 5, 3) := by decide +kernel
theorem dX5_isWord_19 : decode cX5_isWord 19 = .ok (.iconst 0, 1) := by decide +kernel
theorem dX5_isWord_20 : decode cX5_isWord 20 = .ok (.ireturn, 1) := by decide +kernel
theorem dX5_isWord_21 : decode cX5_isWord 21 = .ok (.iconst 0, 1) := by decide +kernel
theorem dX5_isWord_22 : decode cX5_isWord 22 = .ok (.istore_n 2, 1) := by decide +kernel
theorem dX5_isWord_23 : decode cX5_isWord 23 = .ok (.iload_n 2, 1) := by decide +kernel
theorem dX5_isWord_24 : decode cX5_isWord 24 = .ok (.aload_n 0, 1) := by decide +kernel
theorem dX5_isWord_25 : decode cX5_isWord 25 = .ok (.getfield 35, 3) := by decide +kernel
theorem dX5_isWord_28 : decode cX5_isWord 28 = .ok (.if_icmp .ge 30, 3) := by decide +kernel
theorem dX5_isWord_31 : decode cX5_isWord 31 = .ok (.aload_n 0, 1) := by decide +kernel
theorem dX5_isWord_32 : decode cX5_isWord 32 = .ok (.getfield 11, 3) := by decide +kernel
theorem dX5_isWord_35 : decode cX5_isWord 35 = .ok (.aload_n 0, 1) := by decide +kernel
theorem dX5_isWord_36 : decode cX5_isWord 36 = .ok (.getfield 32, 3) := by decide +kernel
theorem dX5_isWord_39 : decode cX5_isWord 39 = .ok (.iload_n 2, 1) := by decide +kernel
theorem dX5_isWord_40 : decode cX5_isWord 40 = .ok (.iadd, 1) := by decide +kernel
theorem dX5_isWord_41 : decode cX5_isWord 41 = .ok (.baload, 1) := by decide +kernel
theorem dX5_isWord_42 : decode cX5_isWord 42 = .ok (.aload_n 1, 1) := by decide +kernel
theorem dX5_isWord_43 : decode cX5_isWord 43 = .ok (.iload_n 2, 1) := by decide +kernel
theorem dX5_isWord_44 : decode cX5_isWord 44 = .ok (.invokevirtual 82, 3) := by decide +kernel
theorem dX5_isWord_47 : decode cX5_isWord 47 = .ok (.if_icmp .eq 5, 3) := by decide +kernel
theorem dX5_isWord_50 : decode cX5_isWord 50 = .ok (.iconst 0, 1) := by decide +kernel
theorem dX5_isWord_51 : decode cX5_isWord 51 = .ok (.ireturn, 1) := by decide +kernel
theorem dX5_isWord_52 : decode cX5_isWord 52 = .ok (.iinc 2 1, 3) := by decide +kernel
theorem dX5_isWord_55 : decode cX5_isWord 55 = .ok (.goto (-32), 3) := by decide +kernel
theorem dX5_isWord_58 : decode cX5_isWord 58 = .ok (.iconst 1, 1) := by decide +kernel
theorem dX5_isWord_59 : decode cX5_isWord 59 = .ok (.ireturn, 1) := by decide +kernel
theorem dX5_takeWord_0 : decode cX5_takeWord 0 = .ok (.aload_n 0, 1) := by decide +kernel
theorem dX5_takeWord_1 : decode cX5_takeWord 1 = .ok (.aload_n 1, 1) := by decide +kernel
theorem dX5_takeWord_2 : decode cX5_takeWord 2 = .ok (.invokevirtual 46, 3) := by decide +kernel
theorem dX5_takeWord_5 : decode cX5_takeWord 5 = .ok (.ifCond .ne 5, 3) := by decide +kernel
theorem dX5_takeWord_8 : decode cX5_takeWord 8 = .ok (.iconst 0, 1) := by decide +kernel
theorem dX5_takeWord_9 : decode cX5_takeWord 9 = .ok (.ireturn, 1) := by decide +kernel
theorem dX5_takeWord_10 : decode cX5_takeWord 10 = .ok (.aload_n 0, 1) := by decide +kernel
theorem dX5_takeWord_11 : decode cX5_takeWord 11 = .ok (.invokevirtual 38, 3) := by decide +kernel
theorem dX5_takeWord_14 : decode cX5_takeWord 14 = .ok (.iconst 1, 1) := by decide +kernel
theorem dX5_takeWord_15 : decode cX5_takeWord 15 = .ok (.ireturn, 1) := by decide +kernel
theorem dX5_takeSign_0 : decode cX5_takeSign 0 = .ok (.aload_n 0, 1) := by decide +kernel
theorem dX5_takeSign_1 : decode cX5_takeSign 1 = .ok (.getfield 41, 3) := by decide +kernel
theorem dX5_takeSign_4 : decode cX5_takeSign 4 = .ok (.iload_n 1, 1) := by decide +kernel
theorem dX5_takeSign_5 : decode cX5_takeSign 5 = .ok (.if_icmp .eq 5, 3) := by decide +kernel
theorem dX5_takeSign_8 : decode cX5_takeSign 8 = .ok (.iconst 0, 1) := by decide +kernel
theorem dX5_takeSign_9 : decode cX5_takeSign 9 = .ok (.ireturn, 1) := by decide +kernel
theorem dX5_takeSign_10 : decode cX5_takeSign 10 = .ok (.aload_n 0, 1) := by decide +kernel
theorem dX5_takeSign_11 : decode cX5_takeSign 11 = .ok (.invokevirtual 38, 3) := by decide +kernel
theorem dX5_takeSign_14 : decode cX5_takeSign 14 = .ok (.iconst 1, 1) := by decide +kernel
theorem dX5_takeSign_15 : decode cX5_takeSign 15 = .ok (.ireturn, 1) := by decide +kernel
theorem dX5_takeNumber_0 : decode cX5_takeNumber 0 = .ok (.aload_n 0, 1) := by decide +kernel
theorem dX5_takeNumber_1 : decode cX5_takeNumber 1 = .ok (.getfield 41, 3) := by decide +kernel
theorem dX5_takeNumber_4 : decode cX5_takeNumber 4 = .ok (.bipush (-2), 2) := by decide +kernel
theorem dX5_takeNumber_6 : decode cX5_takeNumber 6 = .ok (.if_icmp .ne 19, 3) := by decide +kernel
theorem dX5_takeNumber_9 : decode cX5_takeNumber 9 = .ok (.aload_n 0, 1) := by decide +kernel
theorem dX5_takeNumber_10 : decode cX5_takeNumber 10 = .ok (.getfield 68, 3) := by decide +kernel
theorem dX5_takeNumber_13 : decode cX5_takeNumber 13 = .ok (.iload_n 1, 1) := by decide +kernel
theorem dX5_takeNumber_14 : decode cX5_takeNumber 14 = .ok (.if_icmp .lt 11, 3) := by decide +kernel
theorem dX5_takeNumber_17 : decode cX5_takeNumber 17 = .ok (.aload_n 0, 1) := by decide +kernel
theorem dX5_takeNumber_18 : decode cX5_takeNumber 18 = .ok (.getfield 68, 3) := by decide +kernel
theorem dX5_takeNumber_21 : decode cX5_takeNumber 21 = .ok (.iload_n 2, 1) := by decide +kernel
theorem dX5_takeNumber_22 : decode cX5_takeNumber 22 = .ok (.if_icmp .le 6, 3) := by decide +kernel
theorem dX5_takeNumber_25 : decode cX5_takeNumber 25 = .ok (.bipush (-9), 2) := by decide +kernel
theorem dX5_takeNumber_27 : decode cX5_takeNumber 27 = .ok (.ireturn, 1) := by decide +kernel
theorem dX5_takeNumber_28 : decode cX5_takeNumber 28 = .ok (.aload_n 0, 1) := by decide +kernel
theorem dX5_takeNumber_29 : decode cX5_takeNumber 29 = .ok (.getfield 68, 3) := by decide +kernel
theorem dX5_takeNumber_32 : decode cX5_takeNumber 32 = .ok (.istore_n 3, 1) := by decide +kernel
theorem dX5_takeNumber_33 : decode cX5_takeNumber 33 = .ok (.aload_n 0, 1) := by decide +kernel
theorem dX5_takeNumber_34 : decode cX5_takeNumber 34 = .ok (.invokevirtual 38, 3) := by decide +kernel
theorem dX5_takeNumber_37 : decode cX5_takeNumber 37 = .ok (.iload_n 3, 1) := by decide +kernel
theorem dX5_takeNumber_38 : decode cX5_takeNumber 38 = .ok (.ireturn, 1) := by decide +kernel
theorem dX5_readHead_0 : decode cX5_readHead 0 = .ok (.aload_n 0, 1) := by decide +kernel
theorem dX5_readHead_1 : decode cX5_readHead 1 = .ok (.invokevirtual 38, 3) := by decide +kernel
theorem dX5_readHead_4 : decode cX5_readHead 4 = .ok (.aload_n 0, 1) := by decide +kernel
theorem dX5_readHead_5 : decode cX5_readHead 5 = .ok (.getfield 41, 3) := by decide +kernel
theorem dX5_readHead_8 : decode cX5_readHead 8 = .ok (.bipush (-2), 2) := by decide +kernel
theorem dX5_readHead_10 : decode cX5_readHead 10 = .ok (.if_icmp .ne 21, 3) := by decide +kernel
theorem dX5_readHead_13 : decode cX5_readHead 13 = .ok (.aload_n 0, 1) := by decide +kernel
theorem dX5_readHead_14 : decode cX5_readHead 14 = .ok (.getfield 19, 3) := by decide +kernel
theorem dX5_readHead_17 : decode cX5_readHead 17 = .ok (.aload_n 0, 1) := by decide +kernel
theorem dX5_readHead_18 : decode cX5_readHead 18 = .ok (.getfield 68, 3) := by decide +kernel
theorem dX5_readHead_21 : decode cX5_readHead 21 = .ok (.invokevirtual 86, 3) := by decide +kernel
theorem dX5_readHead_24 : decode cX5_readHead 24 = .ok (.bipush (-9), 2) := by decide +kernel
theorem dX5_readHead_26 : decode cX5_readHead 26 = .ok (.if_icmp .eq 5, 3) := by decide +kernel
theorem dX5_readHead_29 : decode cX5_readHead 29 = .ok (.iconst 0, 1) := by decide +kernel
theorem dX5_readHead_30 : decode cX5_readHead 30 = .ok (.ireturn, 1) := by decide +kernel
theorem dX5_readHead_31 : decode cX5_readHead 31 = .ok (.aload_n 0, 1) := by decide +kernel
theorem dX5_readHead_32 : decode cX5_readHead 32 = .ok (.iconst 1, 1) := by decide +kernel
theorem dX5_readHead_33 : decode cX5_readHead 33 = .ok (.bipush 99, 2) := by decide +kernel
theorem dX5_readHead_35 : decode cX5_readHead 35 = .ok (.invokevirtual 90, 3) := by decide +kernel
theorem dX5_readHead_38 : decode cX5_readHead 38 = .ok (.istore_n 1, 1) := by decide +kernel
theorem dX5_readHead_39 : decode cX5_readHead 39 = .ok (.iload_n 1, 1) := by decide +kernel
theorem dX5_readHead_40 : decode cX5_readHead 40 = .ok (.bipush (-9), 2) := by decide +kernel
theorem dX5_readHead_42 : decode cX5_readHead 42 = .ok (.if_icmp .eq 12, 3) := by decide +kernel
theorem dX5_readHead_45 : decode cX5_readHead 45 = .ok (.aload_n 0, 1) := by decide +kernel
theorem dX5_readHead_46 : decode cX5_readHead 46 = .ok (.ldc 93, 2) := by decide +kernel
theorem dX5_readHead_48 : decode cX5_readHead 48 = .ok (.invokevirtual 95, 3) := by decide +kernel
theorem dX5_readHead_51 : decode cX5_readHead 51 = .ok (.ifCond .ne 5, 3) := by decide +kernel
theorem dX5_readHead_54 : decode cX5_readHead 54 = .ok (.iconst 0, 1) := by decide +kernel
theorem dX5_readHead_55 : decode cX5_readHead 55 = .ok (.ireturn, 1) := by decide +kernel
theorem dX5_readHead_56 : decode cX5_readHead 56 = .ok (.aload_n 0, 1) := by decide +kernel
theorem dX5_readHead_57 : decode cX5_readHead 57 = .ok (.iconst 0, 1) := by decide +kernel
theorem dX5_readHead_58 : decode cX5_readHead 58 = .ok (.sipush 359, 3) := by decide +kernel
theorem dX5_readHead_61 : decode cX5_readHead 61 = .ok (.invokevirtual 90, 3) := by decide +kernel
theorem dX5_readHead_64 : decode cX5_readHead 64 = .ok (.istore_n 2, 1) := by decide +kernel
theorem dX5_readHead_65 : decode cX5_readHead 65 = .ok (.iload_n 2, 1) := by decide +kernel
theorem dX5_readHead_66 : decode cX5_readHead 66 = .ok (.bipush (-9), 2) := by decide +kernel
theorem dX5_readHead_68 : decode cX5_readHead 68 = .ok (.if_icmp .eq 12, 3) := by decide +kernel
theorem dX5_readHead_71 : decode cX5_readHead 71 = .ok (.aload_n 0, 1) := by decide +kernel
theorem dX5_readHead_72 : decode cX5_readHead 72 = .ok (.bipush 45, 2) := by decide +kernel
theorem dX5_readHead_74 : decode cX5_readHead 74 = .ok (.invokevirtual 98, 3) := by decide +kernel
theorem dX5_readHead_77 : decode cX5_readHead 77 = .ok (.ifCond .ne 5, 3) := by decide +kernel
theorem dX5_readHead_80 : decode cX5_readHead 80 = .ok (.iconst 0, 1) := by decide +kernel
theorem dX5_readHead_81 : decode cX5_readHead 81 = .ok (.ireturn, 1) := by decide +kernel
theorem dX5_readHead_82 : decode cX5_readHead 82 = .ok (.aload_n 0, 1) := by decide +kernel
theorem dX5_readHead_83 : decode cX5_readHead 83 = .ok (.iload_n 2, 1) := by decide +kernel
theorem dX5_readHead_84 : decode cX5_readHead 84 = .ok (.sipush 359, 3) := by decide +kernel
theorem dX5_readHead_87 : decode cX5_readHead 87 = .ok (.invokevirtual 90, 3) := by decide +kernel
theorem dX5_readHead_90 : decode cX5_readHead 90 = .ok (.istore_n 3, 1) := by decide +kernel
theorem dX5_readHead_91 : decode cX5_readHead 91 = .ok (.iload_n 3, 1) := by decide +kernel
theorem dX5_readHead_92 : decode cX5_readHead 92 = .ok (.bipush (-9), 2) := by decide +kernel
theorem dX5_readHead_94 : decode cX5_readHead 94 = .ok (.if_icmp .eq 12, 3) := by decide +kernel
theorem dX5_readHead_97 : decode cX5_readHead 97 = .ok (.aload_n 0, 1) := by decide +kernel
theorem dX5_readHead_98 : decode cX5_readHead 98 = .ok (.bipush 58, 2) := by decide +kernel
theorem dX5_readHead_100 : decode cX5_readHead 100 = .ok (.invokevirtual 98, 3) := by decide +kernel
theorem dX5_readHead_103 : decode cX5_readHead 103 = .ok (.ifCond .ne 5, 3) := by decide +kernel
theorem dX5_readHead_106 : decode cX5_readHead 106 = .ok (.iconst 0, 1) := by decide +kernel
theorem dX5_readHead_107 : decode cX5_readHead 107 = .ok (.ireturn, 1) := by decide +kernel
theorem dX5_readHead_108 : decode cX5_readHead 108 = .ok (.aload_n 0, 1) := by decide +kernel
theorem dX5_readHead_109 : decode cX5_readHead 109 = .ok (.getfield 19, 3) := by decide +kernel
theorem dX5_readHead_112 : decode cX5_readHead 112 = .ok (.iload_n 1, 1) := by decide +kernel
theorem dX5_readHead_113 : decode cX5_readHead 113 = .ok (.iload_n 2, 1) := by decide +kernel
theorem dX5_readHead_114 : decode cX5_readHead 114 = .ok (.iload_n 3, 1) := by decide +kernel
theorem dX5_readHead_115 : decode cX5_readHead 115 = .ok (.invokevirtual 102, 3) := by decide +kernel
theorem dX5_readHead_118 : decode cX5_readHead 118 = .ok (.iconst 1, 1) := by decide +kernel
theorem dX5_readHead_119 : decode cX5_readHead 119 = .ok (.ireturn, 1) := by decide +kernel
theorem dX5_readIf_0 : decode cX5_readIf 0 = .ok (.aload_n 0, 1) := by decide +kernel
theorem dX5_readIf_1 : decode cX5_readIf 1 = .ok (.ldc 106, 2) := by decide +kernel
theorem dX5_readIf_3 : decode cX5_readIf 3 = .ok (.invokevirtual 95, 3) := by decide +kernel
theorem dX5_readIf_6 : decode cX5_readIf 6 = .ok (.ifCond .eq 19, 3) := by decide +kernel
theorem dX5_readIf_9 : decode cX5_readIf 9 = .ok (.aload_n 0, 1) := by decide +kernel
theorem dX5_readIf_10 : decode cX5_readIf 10 = .ok (.invokevirtual 108, 3) := by decide +kernel
theorem dX5_readIf_13 : decode cX5_readIf 13 = .ok (.ifCond .eq 16, 3) := by decide +kernel
theorem dX5_readIf_16 : decode cX5_readIf 16 = .ok (.aload_n 0, 1) := by decide +kernel
theorem dX5_readIf_17 : decode cX5_readIf 17 = .ok (.ldc 111, 2) := by decide +kernel
theorem dX5_readIf_19 : decode cX5_readIf 19 = .ok (.invokevirtual 95, 3) := by decide +kernel
theorem dX5_readIf_22 : decode cX5_readIf 22 = .ok (.ifCond .eq 7, 3) := by decide +kernel
theorem dX5_readIf_25 : decode cX5_readIf 25 = .ok (.iconst 1, 1) := by decide +kernel
theorem dX5_readIf_26 : decode cX5_readIf 26 = .ok (.goto 4, 3) := by decide +kernel
theorem dX5_readIf_29 : decode cX5_readIf 29 = .ok (.iconst 0, 1) := by decide +kernel
theorem dX5_readIf_30 : decode cX5_readIf 30 = .ok (.ireturn, 1) := by decide +kernel
theorem dX5_readStrike_0 : decode cX5_readStrike 0 = .ok (.aload_n 0, 1) := by decide +kernel
theorem dX5_readStrike_1 : decode cX5_readStrike 1 = .ok (.invokevirtual 38, 3) := by decide +kernel
theorem dX5_readStrike_4 : decode cX5_readStrike 4 = .ok (.aload_n 0, 1) := by decide +kernel
theorem dX5_readStrike_5 : decode cX5_readStrike 5 = .ok (.getfield 41, 3) := by decide +kernel
theorem dX5_readStrike_8 : decode cX5_readStrike 8 = .ok (.bipush (-2), 2) := by decide +kernel
theorem dX5_readStrike_10 : decode cX5_readStrike 10 = .ok (.if_icmp .ne 17, 3) := by decide +kernel
theorem dX5_readStrike_13 : decode cX5_readStrike 13 = .ok (.aload_n 0, 1) := by decide +kernel
theorem dX5_readStrike_14 : decode cX5_readStrike 14 = .ok (.getfield 19, 3) := by decide +kernel
theorem dX5_readStrike_17 : decode cX5_readStrike 17 = .ok (.aload_n 0, 1) := by decide +kernel
theorem dX5_readStrike_18 : decode cX5_readStrike 18 = .ok (.getfield 68, 3) := by decide +kernel
theorem dX5_readStrike_21 : decode cX5_readStrike 21 = .ok (.invokevirtual 86, 3) := by decide +kernel
theorem dX5_readStrike_24 : decode cX5_readStrike 24 = .ok (.goto 5, 3) := by decide +kernel
theorem dX5_readStrike_27 : decode cX5_readStrike 27 = .ok (.bipush (-9), 2) := by decide +kernel
theorem dX5_readStrike_29 : decode cX5_readStrike 29 = .ok (.istore_n 1, 1) := by decide +kernel
theorem dX5_readStrike_30 : decode cX5_readStrike 30 = .ok (.iload_n 1, 1) := by decide +kernel
theorem dX5_readStrike_31 : decode cX5_readStrike 31 = .ok (.bipush (-9), 2) := by decide +kernel
theorem dX5_readStrike_33 : decode cX5_readStrike 33 = .ok (.if_icmp .ne 5, 3) := by decide +kernel
theorem dX5_readStrike_36 : decode cX5_readStrike 36 = .ok (.iconst 0, 1) := by decide +kernel
theorem dX5_readStrike_37 : decode cX5_readStrike 37 = .ok (.ireturn, 1) := by decide +kernel
theorem dX5_readStrike_38 : decode cX5_readStrike 38 = .ok (.aload_n 0, 1) := by decide +kernel
theorem dX5_readStrike_39 : decode cX5_readStrike 39 = .ok (.invokevirtual 38, 3) := by decide +kernel
theorem dX5_readStrike_42 : decode cX5_readStrike 42 = .ok (.aload_n 0, 1) := by decide +kernel
theorem dX5_readStrike_43 : decode cX5_readStrike 43 = .ok (.ldc 93, 2) := by decide +kernel
theorem dX5_readStrike_45 : decode cX5_readStrike 45 = .ok (.invokevirtual 95, 3) := by decide +kernel
theorem dX5_readStrike_48 : decode cX5_readStrike 48 = .ok (.ifCond .ne 5, 3) := by decide +kernel
theorem dX5_readStrike_51 : decode cX5_readStrike 51 = .ok (.iconst 0, 1) := by decide +kernel
theorem dX5_readStrike_52 : decode cX5_readStrike 52 = .ok (.ireturn, 1) := by decide +kernel
theorem dX5_readStrike_53 : decode cX5_readStrike 53 = .ok (.aload_n 0, 1) := by decide +kernel
theorem dX5_readStrike_54 : decode cX5_readStrike 54 = .ok (.iconst 0, 1) := by decide +kernel
theorem dX5_readStrike_55 : decode cX5_readStrike 55 = .ok (.sipush 359, 3) := by decide +kernel
theorem dX5_readStrike_58 : decode cX5_readStrike 58 = .ok (.invokevirtual 90, 3) := by decide +kernel
theorem dX5_readStrike_61 : decode cX5_readStrike 61 = .ok (.istore_n 2, 1) := by decide +kernel
theorem dX5_readStrike_62 : decode cX5_readStrike 62 = .ok (.iload_n 2, 1) := by decide +kernel
theorem dX5_readStrike_63 : decode cX5_readStrike 63 = .ok (.bipush (-9), 2) := by decide +kernel
theorem dX5_readStrike_65 : decode cX5_readStrike 65 = .ok (.if_icmp .ne 5, 3) := by decide +kernel
theorem dX5_readStrike_68 : decode cX5_readStrike 68 = .ok (.iconst 0, 1) := by decide +kernel
theorem dX5_readStrike_69 : decode cX5_readStrike 69 = .ok (.ireturn, 1) := by decide +kernel
theorem dX5_readStrike_70 : decode cX5_readStrike 70 = .ok (.aload_n 0, 1) := by decide +kernel
theorem dX5_readStrike_71 : decode cX5_readStrike 71 = .ok (.getfield 19, 3) := by decide +kernel
theorem dX5_readStrike_74 : decode cX5_readStrike 74 = .ok (.iload_n 1, 1) := by decide +kernel
theorem dX5_readStrike_75 : decode cX5_readStrike 75 = .ok (.iload_n 2, 1) := by decide +kernel
theorem dX5_readStrike_76 : decode cX5_readStrike 76 = .ok (.invokevirtual 113, 3) := by decide +kernel
theorem dX5_readStrike_79 : decode cX5_readStrike 79 = .ok (.aload_n 0, 1) := by decide +kernel
theorem dX5_readStrike_80 : decode cX5_readStrike 80 = .ok (.bipush 59, 2) := by decide +kernel
theorem dX5_readStrike_82 : decode cX5_readStrike 82 = .ok (.invokevirtual 98, 3) := by decide +kernel
theorem dX5_readStrike_85 : decode cX5_readStrike 85 = .ok (.ireturn, 1) := by decide +kernel
theorem dX5_readDuties_0 : decode cX5_readDuties 0 = .ok (.iconst 0, 1) := by decide +kernel
theorem dX5_readDuties_1 : decode cX5_readDuties 1 = .ok (.istore_n 1, 1) := by decide +kernel
theorem dX5_readDuties_2 : decode cX5_readDuties 2 = .ok (.iload_n 1, 1) := by decide +kernel
theorem dX5_readDuties_3 : decode cX5_readDuties 3 = .ok (.iconst 4, 1) := by decide +kernel
theorem dX5_readDuties_4 : decode cX5_readDuties 4 = .ok (.if_icmp .ge 41, 3) := by decide +kernel
theorem dX5_readDuties_7 : decode cX5_readDuties 7 = .ok (.aload_n 0, 1) := by decide +kernel
theorem dX5_readDuties_8 : decode cX5_readDuties 8 = .ok (.invokevirtual 116, 3) := by decide +kernel
theorem dX5_readDuties_11 : decode cX5_readDuties 11 = .ok (.ifCond .ne 5, 3) := by decide +kernel
theorem dX5_readDuties_14 : decode cX5_readDuties 14 = .ok (.iconst 0, 1) := by decide +kernel
theorem dX5_readDuties_15 : decode cX5_readDuties 15 = .ok (.ireturn, 1) := by decide +kernel
theorem dX5_readDuties_16 : decode cX5_readDuties 16 = .ok (.aload_n 0, 1) := by decide +kernel
theorem dX5_readDuties_17 : decode cX5_readDuties 17 = .ok (.getfield 19, 3) := by decide +kernel
theorem dX5_readDuties_20 : decode cX5_readDuties 20 = .ok (.invokevirtual 119, 3) := by decide +kernel
theorem dX5_readDuties_23 : decode cX5_readDuties 23 = .ok (.aload_n 0, 1) := by decide +kernel
theorem dX5_readDuties_24 : decode cX5_readDuties 24 = .ok (.bipush 44, 2) := by decide +kernel
theorem dX5_readDuties_26 : decode cX5_readDuties 26 = .ok (.invokevirtual 98, 3) := by decide +kernel
theorem dX5_readDuties_29 : decode cX5_readDuties 29 = .ok (.ifCond .ne 10, 3) := by decide +kernel
theorem dX5_readDuties_32 : decode cX5_readDuties 32 = .ok (.aload_n 0, 1) := by decide +kernel
theorem dX5_readDuties_33 : decode cX5_readDuties 33 = .ok (.bipush 59, 2) := by decide +kernel
theorem dX5_readDuties_35 : decode cX5_readDuties 35 = .ok (.invokevirtual 98, 3) := by decide +kernel
theorem dX5_readDuties_38 : decode cX5_readDuties 38 = .ok (.ireturn, 1) := by decide +kernel
theorem dX5_readDuties_39 : decode cX5_readDuties 39 = .ok (.iinc 1 1, 3) := by decide +kernel
theorem dX5_readDuties_42 : decode cX5_readDuties 42 = .ok (.goto (-40), 3) := by decide +kernel
theorem dX5_readDuties_45 : decode cX5_readDuties 45 = .ok (.iconst 0, 1) := by decide +kernel
theorem dX5_readDuties_46 : decode cX5_readDuties 46 = .ok (.ireturn, 1) := by decide +kernel
theorem dX5_readDuty_0 : decode cX5_readDuty 0 = .ok (.aload_n 0, 1) := by decide +kernel
theorem dX5_readDuty_1 : decode cX5_readDuty 1 = .ok (.invokevirtual 122, 3) := by decide +kernel
theorem dX5_readDuty_4 : decode cX5_readDuty 4 = .ok (.istore_n 1, 1) := by decide +kernel
theorem dX5_readDuty_5 : decode cX5_readDuty 5 = .ok (.iload_n 1, 1) := by decide +kernel
theorem dX5_readDuty_6 : decode cX5_readDuty 6 = .ok (.bipush (-9), 2) := by decide +kernel
theorem dX5_readDuty_8 : decode cX5_readDuty 8 = .ok (.if_icmp .eq 14, 3) := by decide +kernel
theorem dX5_readDuty_11 : decode cX5_readDuty 11 = .ok (.aload_n 0, 1) := by decide +kernel
theorem dX5_readDuty_12 : decode cX5_readDuty 12 = .ok (.getfield 19, 3) := by decide +kernel
theorem dX5_readDuty_15 : decode cX5_readDuty 15 = .ok (.iload_n 1, 1) := by decide +kernel
theorem dX5_readDuty_16 : decode cX5_readDuty 16 = .ok (.invokevirtual 125, 3) := by decide +kernel
theorem dX5_readDuty_19 : decode cX5_readDuty 19 = .ok (.ifCond .eq 5, 3) := by decide +kernel
theorem dX5_readDuty_22 : decode cX5_readDuty 22 = .ok (.iconst 0, 1) := by decide +kernel
theorem dX5_readDuty_23 : decode cX5_readDuty 23 = .ok (.ireturn, 1) := by decide +kernel
theorem dX5_readDuty_24 : decode cX5_readDuty 24 = .ok (.aload_n 0, 1) := by decide +kernel
theorem dX5_readDuty_25 : decode cX5_readDuty 25 = .ok (.invokevirtual 38, 3) := by decide +kernel
theorem dX5_readDuty_28 : decode cX5_readDuty 28 = .ok (.iload_n 1, 1) := by decide +kernel
theorem dX5_readDuty_29 : decode cX5_readDuty 29 = .ok (.tableswitch 70 0 4 #[35, 45, 70, 50, 60], 35) := by decide +kernel
theorem dX5_readDuty_64 : decode cX5_readDuty 64 = .ok (.aload_n 0, 1) := by decide +kernel
theorem dX5_readDuty_65 : decode cX5_readDuty 65 = .ok (.iconst 0, 1) := by decide +kernel
theorem dX5_readDuty_66 : decode cX5_readDuty 66 = .ok (.iconst 0, 1) := by decide +kernel
theorem dX5_readDuty_67 : decode cX5_readDuty 67 = .ok (.sipush 1440, 3) := by decide +kernel
theorem dX5_readDuty_70 : decode cX5_readDuty 70 = .ok (.invokevirtual 129, 3) := by decide +kernel
theorem dX5_readDuty_73 : decode cX5_readDuty 73 = .ok (.ireturn, 1) := by decide +kernel
theorem dX5_readDuty_74 : decode cX5_readDuty 74 = .ok (.aload_n 0, 1) := by decide +kernel
theorem dX5_readDuty_75 : decode cX5_readDuty 75 = .ok (.invokevirtual 133, 3) := by decide +kernel
theorem dX5_readDuty_78 : decode cX5_readDuty 78 = .ok (.ireturn, 1) := by decide +kernel
theorem dX5_readDuty_79 : decode cX5_readDuty 79 = .ok (.aload_n 0, 1) := by decide +kernel
theorem dX5_readDuty_80 : decode cX5_readDuty 80 = .ok (.iconst 3, 1) := by decide +kernel
theorem dX5_readDuty_81 : decode cX5_readDuty 81 = .ok (.iconst 0, 1) := by decide +kernel
theorem dX5_readDuty_82 : decode cX5_readDuty 82 = .ok (.sipush 600, 3) := by decide +kernel
theorem dX5_readDuty_85 : decode cX5_readDuty 85 = .ok (.invokevirtual 129, 3) := by decide +kernel
theorem dX5_readDuty_88 : decode cX5_readDuty 88 = .ok (.ireturn, 1) := by decide +kernel
theorem dX5_readDuty_89 : decode cX5_readDuty 89 = .ok (.aload_n 0, 1) := by decide +kernel
theorem dX5_readDuty_90 : decode cX5_readDuty 90 = .ok (.iconst 4, 1) := by decide +kernel
theorem dX5_readDuty_91 : decode cX5_readDuty 91 = .ok (.iconst 1, 1) := by decide +kernel
theorem dX5_readDuty_92 : decode cX5_readDuty 92 = .ok (.sipush 1440, 3) := by decide +kernel
theorem dX5_readDuty_95 : decode cX5_readDuty 95 = .ok (.invokevirtual 129, 3) := by decide +kernel
theorem dX5_readDuty_98 : decode cX5_readDuty 98 = .ok (.ireturn, 1) := by decide +kernel
theorem dX5_readDuty_99 : decode cX5_readDuty 99 = .ok (.aload_n 0, 1) := by decide +kernel
theorem dX5_readDuty_100 : decode cX5_readDuty 100 = .ok (.getfield 19, 3) := by decide +kernel
theorem dX5_readDuty_103 : decode cX5_readDuty 103 = .ok (.iload_n 1, 1) := by decide +kernel
theorem dX5_readDuty_104 : decode cX5_readDuty 104 = .ok (.iconst 1, 1) := by decide +kernel
theorem dX5_readDuty_105 : decode cX5_readDuty 105 = .ok (.invokevirtual 136, 3) := by decide +kernel
theorem dX5_readDuty_108 : decode cX5_readDuty 108 = .ok (.iconst 1, 1) := by decide +kernel
theorem dX5_readDuty_109 : decode cX5_readDuty 109 = .ok (.ireturn, 1) := by decide +kernel
theorem dX5_dutyWord_0 : decode cX5_dutyWord 0 = .ok (.aload_n 0, 1) := by decide +kernel
theorem dX5_dutyWord_1 : decode cX5_dutyWord 1 = .ok (.ldc 139, 2) := by decide +kernel
theorem dX5_dutyWord_3 : decode cX5_dutyWord 3 = .ok (.invokevirtual 46, 3) := by decide +kernel
theorem dX5_dutyWord_6 : decode cX5_dutyWord 6 = .ok (.ifCond .eq 5, 3) := by decide +kernel
theorem dX5_dutyWord_9 : decode cX5_dutyWord 9 = .ok (.iconst 0, 1) := by decide +kernel
theorem dX5_dutyWord_10 : decode cX5_dutyWord 10 = .ok (.ireturn, 1) := by decide +kernel
theorem dX5_dutyWord_11 : decode cX5_dutyWord 11 = .ok (.aload_n 0, 1) := by decide +kernel
theorem dX5_dutyWord_12 : decode cX5_dutyWord 12 = .ok (.ldc 141, 2) := by decide +kernel
theorem dX5_dutyWord_14 : decode cX5_dutyWord 14 = .ok (.invokevirtual 46, 3) := by decide +kernel
theorem dX5_dutyWord_17 : decode cX5_dutyWord 17 = .ok (.ifCond .eq 5, 3) := by decide +kernel
theorem dX5_dutyWord_20 : decode cX5_dutyWord 20 = .ok (.iconst 1, 1) := by decide +kernel
theorem dX5_dutyWord_21 : decode cX5_dutyWord 21 = .ok (.ireturn, 1) := by decide +kernel
theorem dX5_dutyWord_22 : decode cX5_dutyWord 22 = .ok (.aload_n 0, 1) := by decide +kernel
theorem dX5_dutyWord_23 : decode cX5_dutyWord 23 = .ok (.ldc 143, 2) := by decide +kernel
theorem dX5_dutyWord_25 : decode cX5_dutyWord 25 = .ok (.invokevirtual 46, 3) := by decide +kernel
theorem dX5_dutyWord_28 : decode cX5_dutyWord 28 = .ok (.ifCond .eq 5, 3) := by decide +kernel
theorem dX5_dutyWord_31 : decode cX5_dutyWord 31 = .ok (.iconst 3, 1) := by decide +kernel
theorem dX5_dutyWord_32 : decode cX5_dutyWord 32 = .ok (.ireturn, 1) := by decide +kernel
theorem dX5_dutyWord_33 : decode cX5_dutyWord 33 = .ok (.aload_n 0, 1) := by decide +kernel
theorem dX5_dutyWord_34 : decode cX5_dutyWord 34 = .ok (.ldc 145, 2) := by decide +kernel
theorem dX5_dutyWord_36 : decode cX5_dutyWord 36 = .ok (.invokevirtual 46, 3) := by decide +kernel
theorem dX5_dutyWord_39 : decode cX5_dutyWord 39 = .ok (.ifCond .eq 5, 3) := by decide +kernel
theorem dX5_dutyWord_42 : decode cX5_dutyWord 42 = .ok (.iconst 4, 1) := by decide +kernel
theorem dX5_dutyWord_43 : decode cX5_dutyWord 43 = .ok (.ireturn, 1) := by decide +kernel
theorem dX5_dutyWord_44 : decode cX5_dutyWord 44 = .ok (.aload_n 0, 1) := by decide +kernel
theorem dX5_dutyWord_45 : decode cX5_dutyWord 45 = .ok (.ldc 147, 2) := by decide +kernel
theorem dX5_dutyWord_47 : decode cX5_dutyWord 47 = .ok (.invokevirtual 46, 3) := by decide +kernel
theorem dX5_dutyWord_50 : decode cX5_dutyWord 50 = .ok (.ifCond .eq 5, 3) := by decide +kernel
theorem dX5_dutyWord_53 : decode cX5_dutyWord 53 = .ok (.iconst 5, 1) := by decide +kernel
theorem dX5_dutyWord_54 : decode cX5_dutyWord 54 = .ok (.ireturn, 1) := by decide +kernel
theorem dX5_dutyWord_55 : decode cX5_dutyWord 55 = .ok (.aload_n 0, 1) := by decide +kernel
theorem dX5_dutyWord_56 : decode cX5_dutyWord 56 = .ok (.ldc 149, 2) := by decide +kernel
theorem dX5_dutyWord_58 : decode cX5_dutyWord 58 = .ok (.invokevirtual 46, 3) := by decide +kernel
theorem dX5_dutyWord_61 : decode cX5_dutyWord 61 = .ok (.ifCond .eq 8, 3) := by decide +kernel
theorem dX5_dutyWord_64 : decode cX5_dutyWord 64 = .ok (.bipush 6, 2) := by decide +kernel
theorem dX5_dutyWord_66 : decode cX5_dutyWord 66 = .ok (.goto 5, 3) := by decide +kernel
theorem dX5_dutyWord_69 : decode cX5_dutyWord 69 = .ok (.bipush (-9), 2) := by decide +kernel
theorem dX5_dutyWord_71 : decode cX5_dutyWord 71 = .ok (.ireturn, 1) := by decide +kernel
theorem dX5_readTold_0 : decode cX5_readTold 0 = .ok (.aload_n 0, 1) := by decide +kernel
theorem dX5_readTold_1 : decode cX5_readTold 1 = .ok (.iload_n 2, 1) := by decide +kernel
theorem dX5_readTold_2 : decode cX5_readTold 2 = .ok (.iload_n 3, 1) := by decide +kernel
theorem dX5_readTold_3 : decode cX5_readTold 3 = .ok (.invokevirtual 90, 3) := by decide +kernel
theorem dX5_readTold_6 : decode cX5_readTold 6 = .ok (.istore 4, 2) := by decide +kernel
theorem dX5_readTold_8 : decode cX5_readTold 8 = .ok (.iload 4, 2) := by decide +kernel
theorem dX5_readTold_10 : decode cX5_readTold 10 = .ok (.bipush (-9), 2) := by decide +kernel
theorem dX5_readTold_12 : decode cX5_readTold 12 = .ok (.if_icmp .ne 5, 3) := by decide +kernel
theorem dX5_readTold_15 : decode cX5_readTold 15 = .ok (.iconst 0, 1) := by decide +kernel
theorem dX5_readTold_16 : decode cX5_readTold 16 = .ok (.ireturn, 1) := by decide +kernel
theorem dX5_readTold_17 : decode cX5_readTold 17 = .ok (.aload_n 0, 1) := by decide +kernel
theorem dX5_readTold_18 : decode cX5_readTold 18 = .ok (.getfield 19, 3) := by decide +kernel
theorem dX5_readTold_21 : decode cX5_readTold 21 = .ok (.iload_n 1, 1) := by decide +kernel
theorem dX5_readTold_22 : decode cX5_readTold 22 = .ok (.iload 4, 2) := by decide +kernel
theorem dX5_readTold_24 : decode cX5_readTold 24 = .ok (.invokevirtual 136, 3) := by decide +kernel
theorem dX5_readTold_27 : decode cX5_readTold 27 = .ok (.iconst 1, 1) := by decide +kernel
theorem dX5_readTold_28 : decode cX5_readTold 28 = .ok (.ireturn, 1) := by decide +kernel
theorem dX5_readSpan_0 : decode cX5_readSpan 0 = .ok (.aload_n 0, 1) := by decide +kernel
theorem dX5_readSpan_1 : decode cX5_readSpan 1 = .ok (.iconst 0, 1) := by decide +kernel
theorem dX5_readSpan_2 : decode cX5_readSpan 2 = .ok (.sipush 1439, 3) := by decide +kernel
theorem dX5_readSpan_5 : decode cX5_readSpan 5 = .ok (.invokevirtual 90, 3) := by decide +kernel
theorem dX5_readSpan_8 : decode cX5_readSpan 8 = .ok (.istore_n 1, 1) := by decide +kernel
theorem dX5_readSpan_9 : decode cX5_readSpan 9 = .ok (.iload_n 1, 1) := by decide +kernel
theorem dX5_readSpan_10 : decode cX5_readSpan 10 = .ok (.bipush (-9), 2) := by decide +kernel
theorem dX5_readSpan_12 : decode cX5_readSpan 12 = .ok (.if_icmp .eq 12, 3) := by decide +kernel
theorem dX5_readSpan_15 : decode cX5_readSpan 15 = .ok (.aload_n 0, 1) := by decide +kernel
theorem dX5_readSpan_16 : decode cX5_readSpan 16 = .ok (.ldc 151, 2) := by decide +kernel
theorem dX5_readSpan_18 : decode cX5_readSpan 18 = .ok (.invokevirtual 95, 3) := by decide +kernel
theorem dX5_readSpan_21 : decode cX5_readSpan 21 = .ok (.ifCond .ne 5, 3) := by decide +kernel
theorem dX5_readSpan_24 : decode cX5_readSpan 24 = .ok (.iconst 0, 1) := by decide +kernel
theorem dX5_readSpan_25 : decode cX5_readSpan 25 = .ok (.ireturn, 1) := by decide +kernel
theorem dX5_readSpan_26 : decode cX5_readSpan 26 = .ok (.aload_n 0, 1) := by decide +kernel
theorem dX5_readSpan_27 : decode cX5_readSpan 27 = .ok (.iload_n 1, 1) := by decide +kernel
theorem dX5_readSpan_28 : decode cX5_readSpan 28 = .ok (.iconst 1, 1) := by decide +kernel
theorem dX5_readSpan_29 : decode cX5_readSpan 29 = .ok (.iadd, 1) := by decide +kernel
theorem dX5_readSpan_30 : decode cX5_readSpan 30 = .ok (.sipush 1439, 3) := by decide +kernel
theorem dX5_readSpan_33 : decode cX5_readSpan 33 = .ok (.invokevirtual 90, 3) := by decide +kernel
theorem dX5_readSpan_36 : decode cX5_readSpan 36 = .ok (.istore_n 2, 1) := by decide +kernel
theorem dX5_readSpan_37 : decode cX5_readSpan 37 = .ok (.iload_n 2, 1) := by decide +kernel
theorem dX5_readSpan_38 : decode cX5_readSpan 38 = .ok (.bipush (-9), 2) := by decide +kernel
theorem dX5_readSpan_40 : decode cX5_readSpan 40 = .ok (.if_icmp .ne 5, 3) := by decide +kernel
theorem dX5_readSpan_43 : decode cX5_readSpan 43 = .ok (.iconst 0, 1) := by decide +kernel
theorem dX5_readSpan_44 : decode cX5_readSpan 44 = .ok (.ireturn, 1) := by decide +kernel
theorem dX5_readSpan_45 : decode cX5_readSpan 45 = .ok (.aload_n 0, 1) := by decide +kernel
theorem dX5_readSpan_46 : decode cX5_readSpan 46 = .ok (.getfield 19, 3) := by decide +kernel
theorem dX5_readSpan_49 : decode cX5_readSpan 49 = .ok (.iconst 1, 1) := by decide +kernel
theorem dX5_readSpan_50 : decode cX5_readSpan 50 = .ok (.iload_n 1, 1) := by decide +kernel
theorem dX5_readSpan_51 : decode cX5_readSpan 51 = .ok (.invokevirtual 136, 3) := by decide +kernel
theorem dX5_readSpan_54 : decode cX5_readSpan 54 = .ok (.aload_n 0, 1) := by decide +kernel
theorem dX5_readSpan_55 : decode cX5_readSpan 55 = .ok (.getfield 19, 3) := by decide +kernel
theorem dX5_readSpan_58 : decode cX5_readSpan 58 = .ok (.iconst 2, 1) := by decide +kernel
theorem dX5_readSpan_59 : decode cX5_readSpan 59 = .ok (.iload_n 2, 1) := by decide +kernel
theorem dX5_readSpan_60 : decode cX5_readSpan 60 = .ok (.invokevirtual 136, 3) := by decide +kernel
theorem dX5_readSpan_63 : decode cX5_readSpan 63 = .ok (.iconst 1, 1) := by decide +kernel
theorem dX5_readSpan_64 : decode cX5_readSpan 64 = .ok (.ireturn, 1) := by decide +kernel
theorem dX5_readCond_0 : decode cX5_readCond 0 = .ok (.iconst 0, 1) := by decide +kernel
theorem dX5_readCond_1 : decode cX5_readCond 1 = .ok (.istore_n 1, 1) := by decide +kernel
theorem dX5_readCond_2 : decode cX5_readCond 2 = .ok (.iconst 0, 1) := by decide +kernel
theorem dX5_readCond_3 : decode cX5_readCond 3 = .ok (.istore_n 2, 1) := by decide +kernel
theorem dX5_readCond_4 : decode cX5_readCond 4 = .ok (.aload_n 0, 1) := by decide +kernel
theorem dX5_readCond_5 : decode cX5_readCond 5 = .ok (.iconst 0, 1) := by decide +kernel
theorem dX5_readCond_6 : decode cX5_readCond 6 = .ok (.putfield 153, 3) := by decide +kernel
theorem dX5_readCond_9 : decode cX5_readCond 9 = .ok (.aload_n 0, 1) := by decide +kernel
theorem dX5_readCond_10 : decode cX5_readCond 10 = .ok (.iconst 0, 1) := by decide +kernel
theorem dX5_readCond_11 : decode cX5_readCond 11 = .ok (.putfield 156, 3) := by decide +kernel
theorem dX5_readCond_14 : decode cX5_readCond 14 = .ok (.iconst 0, 1) := by decide +kernel
theorem dX5_readCond_15 : decode cX5_readCond 15 = .ok (.istore_n 3, 1) := by decide +kernel
theorem dX5_readCond_16 : decode cX5_readCond 16 = .ok (.iload_n 3, 1) := by decide +kernel
theorem dX5_readCond_17 : decode cX5_readCond 17 = .ok (.sipush 900, 3) := by decide +kernel
theorem dX5_readCond_20 : decode cX5_readCond 20 = .ok (.if_icmp .ge 174, 3) := by decide +kernel
theorem dX5_readCond_23 : decode cX5_readCond 23 = .ok (.iload_n 2, 1) := by decide +kernel
theorem dX5_readCond_24 : decode cX5_readCond 24 = .ok (.ifCond .ne 19, 3) := by decide +kernel
theorem dX5_readCond_27 : decode cX5_readCond 27 = .ok (.aload_n 0, 1) := by decide +kernel
theorem dX5_readCond_28 : decode cX5_readCond 28 = .ok (.bipush 33, 2) := by decide +kernel
theorem dX5_readCond_30 : decode cX5_readCond 30 = .ok (.invokevirtual 98, 3) := by decide +kernel
theorem dX5_readCond_33 : decode cX5_readCond 33 = .ok (.ifCond .eq 10, 3) := by decide +kernel
theorem dX5_readCond_36 : decode cX5_readCond 36 = .ok (.aload_n 0, 1) := by decide +kernel
theorem dX5_readCond_37 : decode cX5_readCond 37 = .ok (.invokevirtual 159, 3) := by decide +kernel
theorem dX5_readCond_40 : decode cX5_readCond 40 = .ok (.goto 148, 3) := by decide +kernel
theorem dX5_readCond_43 : decode cX5_readCond 43 = .ok (.iload_n 2, 1) := by decide +kernel
theorem dX5_readCond_44 : decode cX5_readCond 44 = .ok (.ifCond .ne 35, 3) := by decide +kernel
theorem dX5_readCond_47 : decode cX5_readCond 47 = .ok (.aload_n 0, 1) := by decide +kernel
theorem dX5_readCond_48 : decode cX5_readCond 48 = .ok (.getfield 41, 3) := by decide +kernel
theorem dX5_readCond_51 : decode cX5_readCond 51 = .ok (.bipush 40, 2) := by decide +kernel
theorem dX5_readCond_53 : decode cX5_readCond 53 = .ok (.if_icmp .ne 26, 3) := by decide +kernel
theorem dX5_readCond_56 : decode cX5_readCond 56 = .ok (.iinc 1 1, 3) := by decide +kernel
theorem dX5_readCond_59 : decode cX5_readCond 59 = .ok (.iload_n 1, 1) := by decide +kernel
theorem dX5_readCond_60 : decode cX5_readCond 60 = .ok (.bipush 10, 2) := by decide +kernel
theorem dX5_readCond_62 : decode cX5_readCond 62 = .ok (.if_icmp .le 5, 3) := by decide +kernel
theorem dX5_readCond_65 : decode cX5_readCond 65 = .ok (.iconst 0, 1) := by decide +kernel
theorem dX5_readCond_66 : decode cX5_readCond 66 = .ok (.ireturn, 1) := by decide +kernel
theorem dX5_readCond_67 : decode cX5_readCond 67 = .ok (.aload_n 0, 1) := by decide +kernel
theorem dX5_readCond_68 : decode cX5_readCond 68 = .ok (.iconst 0, 1) := by decide +kernel
theorem dX5_readCond_69 : decode cX5_readCond 69 = .ok (.invokevirtual 162, 3) := by decide +kernel
theorem dX5_readCond_72 : decode cX5_readCond 72 = .ok (.aload_n 0, 1) := by decide +kernel
theorem dX5_readCond_73 : decode cX5_readCond 73 = .ok (.invokevirtual 38, 3) := by decide +kernel
theorem dX5_readCond_76 : decode cX5_readCond 76 = .ok (.goto 112, 3) := by decide +kernel
theorem dX5_readCond_79 : decode cX5_readCond 79 = .ok (.iload_n 2, 1) := by decide +kernel
theorem dX5_readCond_80 : decode cX5_readCond 80 = .ok (.ifCond .ne 22, 3) := by decide +kernel
theorem dX5_readCond_83 : decode cX5_readCond 83 = .ok (.aload_n 0, 1) := by decide +kernel
theorem dX5_readCond_84 : decode cX5_readCond 84 = .ok (.invokevirtual 166, 3) := by decide +kernel
theorem dX5_readCond_87 : decode cX5_readCond 87 = .ok (.ifCond .ne 5, 3) := by decide +kernel
theorem dX5_readCond_90 : decode cX5_readCond 90 = .ok (.iconst 0, 1) := by decide +kernel
theorem dX5_readCond_91 : decode cX5_readCond 91 = .ok (.ireturn, 1) := by decide +kernel
theorem dX5_readCond_92 : decode cX5_readCond 92 = .ok (.aload_n 0, 1) := by decide +kernel
theorem dX5_readCond_93 : decode cX5_readCond 93 = .ok (.iconst 3, 1) := by decide +kernel
theorem dX5_readCond_94 : decode cX5_readCond 94 = .ok (.invokevirtual 169, 3) := by decide +kernel
theorem dX5_readCond_97 : decode cX5_readCond 97 = .ok (.iconst 1, 1) := by decide +kernel
theorem dX5_readCond_98 : decode cX5_readCond 98 = .ok (.istore_n 2, 1) := by decide +kernel
theorem dX5_readCond_99 : decode cX5_readCond 99 = .ok (.goto 89, 3) := by decide +kernel
theorem dX5_readCond_102 : decode cX5_readCond 102 = .ok (.iload_n 1, 1) := by decide +kernel
theorem dX5_readCond_103 : decode cX5_readCond 103 = .ok (.ifCond .le 22, 3) := by decide +kernel
theorem dX5_readCond_106 : decode cX5_readCond 106 = .ok (.aload_n 0, 1) := by decide +kernel
theorem dX5_readCond_107 : decode cX5_readCond 107 = .ok (.bipush 41, 2) := by decide +kernel
theorem dX5_readCond_109 : decode cX5_readCond 109 = .ok (.invokevirtual 98, 3) := by decide +kernel
theorem dX5_readCond_112 : decode cX5_readCond 112 = .ok (.ifCond .eq 13, 3) := by decide +kernel
theorem dX5_readCond_115 : decode cX5_readCond 115 = .ok (.iinc 1 (-1), 3) := by decide +kernel
theorem dX5_readCond_118 : decode cX5_readCond 118 = .ok (.aload_n 0, 1) := by decide +kernel
theorem dX5_readCond_119 : decode cX5_readCond 119 = .ok (.invokevirtual 172, 3) := by decide +kernel
theorem dX5_readCond_122 : decode cX5_readCond 122 = .ok (.goto 66, 3) := by decide +kernel
theorem dX5_readCond_125 : decode cX5_readCond 125 = .ok (.aload_n 0, 1) := by decide +kernel
theorem dX5_readCond_126 : decode cX5_readCond 126 = .ok (.bipush 38, 2) := by decide +kernel
theorem dX5_readCond_128 : decode cX5_readCond 128 = .ok (.invokevirtual 98, 3) := by decide +kernel
theorem dX5_readCond_131 : decode cX5_readCond 131 = .ok (.ifCond .eq 18, 3) := by decide +kernel
theorem dX5_readCond_134 : decode cX5_readCond 134 = .ok (.aload_n 0, 1) := by decide +kernel
theorem dX5_readCond_135 : decode cX5_readCond 135 = .ok (.iconst 2, 1) := by decide +kernel
theorem dX5_readCond_136 : decode cX5_readCond 136 = .ok (.invokevirtual 169, 3) := by decide +kernel
theorem dX5_readCond_139 : decode cX5_readCond 139 = .ok (.aload_n 0, 1) := by decide +kernel
theorem dX5_readCond_140 : decode cX5_readCond 140 = .ok (.iconst 2, 1) := by decide +kernel
theorem dX5_readCond_141 : decode cX5_readCond 141 = .ok (.invokevirtual 162, 3) := by decide +kernel
theorem dX5_readCond_144 : decode cX5_readCond 144 = .ok (.iconst 0, 1) := by decide +kernel
theorem dX5_readCond_145 : decode cX5_readCond 145 = .ok (.istore_n 2, 1) := by decide +kernel
theorem dX5_readCond_146 : decode cX5_readCond 146 = .ok (.goto 42, 3) := by decide +kernel
theorem dX5_readCond_149 : decode cX5_readCond 149 = .ok (.aload_n 0, 1) := by decide +kernel
theorem dX5_readCond_150 : decode cX5_readCond 150 = .ok (.bipush 124, 2) := by decide +kernel
theorem dX5_readCond_152 : decode cX5_readCond 152 = .ok (.invokevirtual 98, 3) := by decide +kernel
theorem dX5_readCond_155 : decode cX5_readCond 155 = .ok (.ifCond .eq 18, 3) := by decide +kernel
theorem dX5_readCond_158 : decode cX5_readCond 158 = .ok (.aload_n 0, 1) := by decide +kernel
theorem dX5_readCond_159 : decode cX5_readCond 159 = .ok (.iconst 1, 1) := by decide +kernel
theorem dX5_readCond_160 : decode cX5_readCond 160 = .ok (.invokevirtual 169, 3) := by decide +kernel
theorem dX5_readCond_163 : decode cX5_readCond 163 = .ok (.aload_n 0, 1) := by decide +kernel
theorem dX5_readCond_164 : decode cX5_readCond 164 = .ok (.iconst 1, 1) := by decide +kernel
theorem dX5_readCond_165 : decode cX5_readCond 165 = .ok (.invokevirtual 162, 3) := by decide +kernel
theorem dX5_readCond_168 : decode cX5_readCond 168 = .ok (.iconst 0, 1) := by decide +kernel
theorem dX5_readCond_169 : decode cX5_readCond 169 = .ok (.istore_n 2, 1) := by decide +kernel
theorem dX5_readCond_170 : decode cX5_readCond 170 = .ok (.goto 18, 3) := by decide +kernel
theorem dX5_readCond_173 : decode cX5_readCond 173 = .ok (.aload_n 0, 1) := by decide +kernel
theorem dX5_readCond_174 : decode cX5_readCond 174 = .ok (.iconst 1, 1) := by decide +kernel
theorem dX5_readCond_175 : decode cX5_readCond 175 = .ok (.invokevirtual 169, 3) := by decide +kernel
theorem dX5_readCond_178 : decode cX5_readCond 178 = .ok (.iload_n 1, 1) := by decide +kernel
theorem dX5_readCond_179 : decode cX5_readCond 179 = .ok (.ifCond .ne 7, 3) := by decide +kernel
theorem dX5_readCond_182 : decode cX5_readCond 182 = .ok (.iconst 1, 1) := by decide +kernel
theorem dX5_readCond_183 : decode cX5_readCond 183 = .ok (.goto 4, 3) := by decide +kernel
theorem dX5_readCond_186 : decode cX5_readCond 186 = .ok (.iconst 0, 1) := by decide +kernel
theorem dX5_readCond_187 : decode cX5_readCond 187 = .ok (.ireturn, 1) := by decide +kernel
theorem dX5_readCond_188 : decode cX5_readCond 188 = .ok (.iinc 3 1, 3) := by decide +kernel
theorem dX5_readCond_191 : decode cX5_readCond 191 = .ok (.goto (-175), 3) := by decide +kernel
theorem dX5_readCond_194 : decode cX5_readCond 194 = .ok (.iconst 0, 1) := by decide +kernel
theorem dX5_readCond_195 : decode cX5_readCond 195 = .ok (.ireturn, 1) := by decide +kernel
theorem dX5_waitFor_0 : decode cX5_waitFor 0 = .ok (.aload_n 0, 1) := by decide +kernel
theorem dX5_waitFor_1 : decode cX5_waitFor 1 = .ok (.getfield 156, 3) := by decide +kernel
theorem dX5_waitFor_4 : decode cX5_waitFor 4 = .ok (.aload_n 0, 1) := by decide +kernel
theorem dX5_waitFor_5 : decode cX5_waitFor 5 = .ok (.getfield 15, 3) := by decide +kernel
theorem dX5_waitFor_8 : decode cX5_waitFor 8 = .ok (.arraylength, 1) := by decide +kernel
theorem dX5_waitFor_9 : decode cX5_waitFor 9 = .ok (.if_icmp .ge 23, 3) := by decide +kernel
theorem dX5_waitFor_12 : decode cX5_waitFor 12 = .ok (.aload_n 0, 1) := by decide +kernel
theorem dX5_waitFor_13 : decode cX5_waitFor 13 = .ok (.getfield 15, 3) := by decide +kernel
theorem dX5_waitFor_16 : decode cX5_waitFor 16 = .ok (.aload_n 0, 1) := by decide +kernel
theorem dX5_waitFor_17 : decode cX5_waitFor 17 = .ok (.getfield 156, 3) := by decide +kernel
theorem dX5_waitFor_20 : decode cX5_waitFor 20 = .ok (.iload_n 1, 1) := by decide +kernel
theorem dX5_waitFor_21 : decode cX5_waitFor 21 = .ok (.iastore, 1) := by decide +kernel
theorem dX5_waitFor_22 : decode cX5_waitFor 22 = .ok (.aload_n 0, 1) := by decide +kernel
theorem dX5_waitFor_23 : decode cX5_waitFor 23 = .ok (.dup, 1) := by decide +kernel
theorem dX5_waitFor_24 : decode cX5_waitFor 24 = .ok (.getfield 156, 3) := by decide +kernel
theorem dX5_waitFor_27 : decode cX5_waitFor 27 = .ok (.iconst 1, 1) := by decide +kernel
theorem dX5_waitFor_28 : decode cX5_waitFor 28 = .ok (.iadd, 1) := by decide +kernel
theorem dX5_waitFor_29 : decode cX5_waitFor 29 = .ok (.putfield 156, 3) := by decide +kernel
theorem dX5_waitFor_32 : decode cX5_waitFor 32 = .ok (.return_, 1) := by decide +kernel
theorem dX5_turnNext_0 : decode cX5_turnNext 0 = .ok (.aload_n 0, 1) := by decide +kernel
theorem dX5_turnNext_1 : decode cX5_turnNext 1 = .ok (.getfield 156, 3) := by decide +kernel
theorem dX5_turnNext_4 : decode cX5_turnNext 4 = .ok (.ifCond .le 31, 3) := by decide +kernel
theorem dX5_turnNext_7 : decode cX5_turnNext 7 = .ok (.aload_n 0, 1) := by decide +kernel
theorem dX5_turnNext_8 : decode cX5_turnNext 8 = .ok (.getfield 15, 3) := by decide +kernel
theorem dX5_turnNext_11 : decode cX5_turnNext 11 = .ok (.aload_n 0, 1) := by decide +kernel
theorem dX5_turnNext_12 : decode cX5_turnNext 12 = .ok (.getfield 156, 3) := by decide +kernel
theorem dX5_turnNext_15 : decode cX5_turnNext 15 = .ok (.iconst 1, 1) := by decide +kernel
theorem dX5_turnNext_16 : decode cX5_turnNext 16 = .ok (.isub, 1) := by decide +kernel
theorem dX5_turnNext_17 : decode cX5_turnNext 17 = .ok (.iaload, 1) := by decide +kernel
theorem dX5_turnNext_18 : decode cX5_turnNext 18 = .ok (.iconst 3, 1) := by decide +kernel
theorem dX5_turnNext_19 : decode cX5_turnNext 19 = .ok (.if_icmp .ne 16, 3) := by decide +kernel
theorem dX5_turnNext_22 : decode cX5_turnNext 22 = .ok (.aload_n 0, 1) := by decide +kernel
theorem dX5_turnNext_23 : decode cX5_turnNext 23 = .ok (.dup, 1) := by decide +kernel
theorem dX5_turnNext_24 : decode cX5_turnNext 24 = .ok (.getfield 156, 3) := by decide +kernel
theorem dX5_turnNext_27 : decode cX5_turnNext 27 = .ok (.iconst 1, 1) := by decide +kernel
theorem dX5_turnNext_28 : decode cX5_turnNext 28 = .ok (.isub, 1) := by decide +kernel
theorem dX5_turnNext_29 : decode cX5_turnNext 29 = .ok (.putfield 156, 3) := by decide +kernel
theorem dX5_turnNext_32 : decode cX5_turnNext 32 = .ok (.goto 8, 3) := by decide +kernel
theorem dX5_turnNext_35 : decode cX5_turnNext 35 = .ok (.aload_n 0, 1) := by decide +kernel
theorem dX5_turnNext_36 : decode cX5_turnNext 36 = .ok (.iconst 3, 1) := by decide +kernel
theorem dX5_turnNext_37 : decode cX5_turnNext 37 = .ok (.invokevirtual 162, 3) := by decide +kernel
theorem dX5_turnNext_40 : decode cX5_turnNext 40 = .ok (.return_, 1) := by decide +kernel
theorem dX5_release_0 : decode cX5_release 0 = .ok (.aload_n 0, 1) := by decide +kernel
theorem dX5_release_1 : decode cX5_release 1 = .ok (.getfield 156, 3) := by decide +kernel
theorem dX5_release_4 : decode cX5_release 4 = .ok (.ifCond .le 48, 3) := by decide +kernel
theorem dX5_release_7 : decode cX5_release 7 = .ok (.aload_n 0, 1) := by decide +kernel
theorem dX5_release_8 : decode cX5_release 8 = .ok (.getfield 15, 3) := by decide +kernel
theorem dX5_release_11 : decode cX5_release 11 = .ok (.aload_n 0, 1) := by decide +kernel
theorem dX5_release_12 : decode cX5_release 12 = .ok (.getfield 156, 3) := by decide +kernel
theorem dX5_release_15 : decode cX5_release 15 = .ok (.iconst 1, 1) := by decide +kernel
theorem dX5_release_16 : decode cX5_release 16 = .ok (.isub, 1) := by decide +kernel
theorem dX5_release_17 : decode cX5_release 17 = .ok (.iaload, 1) := by decide +kernel
theorem dX5_release_18 : decode cX5_release 18 = .ok (.iload_n 1, 1) := by decide +kernel
theorem dX5_release_19 : decode cX5_release 19 = .ok (.if_icmp .lt 33, 3) := by decide +kernel
theorem dX5_release_22 : decode cX5_release 22 = .ok (.aload_n 0, 1) := by decide +kernel
theorem dX5_release_23 : decode cX5_release 23 = .ok (.dup, 1) := by decide +kernel
theorem dX5_release_24 : decode cX5_release 24 = .ok (.getfield 156, 3) := by decide +kernel
theorem dX5_release_27 : decode cX5_release 27 = .ok (.iconst 1, 1) := by decide +kernel
theorem dX5_release_28 : decode cX5_release 28 = .ok (.isub, 1) := by decide +kernel
theorem dX5_release_29 : decode cX5_release 29 = .ok (.putfield 156, 3) := by decide +kernel
theorem dX5_release_32 : decode cX5_release 32 = .ok (.aload_n 0, 1) := by decide +kernel
theorem dX5_release_33 : decode cX5_release 33 = .ok (.getfield 19, 3) := by decide +kernel
theorem dX5_release_36 : decode cX5_release 36 = .ok (.aload_n 0, 1) := by decide +kernel
theorem dX5_release_37 : decode cX5_release 37 = .ok (.getfield 15, 3) := by decide +kernel
theorem dX5_release_40 : decode cX5_release 40 = .ok (.aload_n 0, 1) := by decide +kernel
theorem dX5_release_41 : decode cX5_release 41 = .ok (.getfield 156, 3) := by decide +kernel
theorem dX5_release_44 : decode cX5_release 44 = .ok (.iaload, 1) := by decide +kernel
theorem dX5_release_45 : decode cX5_release 45 = .ok (.iconst 0, 1) := by decide +kernel
theorem dX5_release_46 : decode cX5_release 46 = .ok (.invokevirtual 175, 3) := by decide +kernel
theorem dX5_release_49 : decode cX5_release 49 = .ok (.goto (-49), 3) := by decide +kernel
theorem dX5_release_52 : decode cX5_release 52 = .ok (.return_, 1) := by decide +kernel
theorem dX5_close_0 : decode cX5_close 0 = .ok (.aload_n 0, 1) := by decide +kernel
theorem dX5_close_1 : decode cX5_close 1 = .ok (.iconst 1, 1) := by decide +kernel
theorem dX5_close_2 : decode cX5_close 2 = .ok (.invokevirtual 169, 3) := by decide +kernel
theorem dX5_close_5 : decode cX5_close 5 = .ok (.aload_n 0, 1) := by decide +kernel
theorem dX5_close_6 : decode cX5_close 6 = .ok (.getfield 156, 3) := by decide +kernel
theorem dX5_close_9 : decode cX5_close 9 = .ok (.ifCond .le 13, 3) := by decide +kernel
theorem dX5_close_12 : decode cX5_close 12 = .ok (.aload_n 0, 1) := by decide +kernel
theorem dX5_close_13 : decode cX5_close 13 = .ok (.dup, 1) := by decide +kernel
theorem dX5_close_14 : decode cX5_close 14 = .ok (.getfield 156, 3) := by decide +kernel
theorem dX5_close_17 : decode cX5_close 17 = .ok (.iconst 1, 1) := by decide +kernel
theorem dX5_close_18 : decode cX5_close 18 = .ok (.isub, 1) := by decide +kernel
theorem dX5_close_19 : decode cX5_close 19 = .ok (.putfield 156, 3) := by decide +kernel
theorem dX5_close_22 : decode cX5_close 22 = .ok (.aload_n 0, 1) := by decide +kernel
theorem dX5_close_23 : decode cX5_close 23 = .ok (.iconst 3, 1) := by decide +kernel
theorem dX5_close_24 : decode cX5_close 24 = .ok (.invokevirtual 169, 3) := by decide +kernel
theorem dX5_close_27 : decode cX5_close 27 = .ok (.return_, 1) := by decide +kernel
theorem dX5_readTest_0 : decode cX5_readTest 0 = .ok (.aload_n 0, 1) := by decide +kernel
theorem dX5_readTest_1 : decode cX5_readTest 1 = .ok (.invokevirtual 178, 3) := by decide +kernel
theorem dX5_readTest_4 : decode cX5_readTest 4 = .ok (.istore_n 1, 1) := by decide +kernel
theorem dX5_readTest_5 : decode cX5_readTest 5 = .ok (.iload_n 1, 1) := by decide +kernel
theorem dX5_readTest_6 : decode cX5_readTest 6 = .ok (.bipush (-9), 2) := by decide +kernel
theorem dX5_readTest_8 : decode cX5_readTest 8 = .ok (.if_icmp .eq 12, 3) := by decide +kernel
theorem dX5_readTest_11 : decode cX5_readTest 11 = .ok (.aload_n 0, 1) := by decide +kernel
theorem dX5_readTest_12 : decode cX5_readTest 12 = .ok (.getfield 153, 3) := by decide +kernel
theorem dX5_readTest_15 : decode cX5_readTest 15 = .ok (.bipush 30, 2) := by decide +kernel
theorem dX5_readTest_17 : decode cX5_readTest 17 = .ok (.if_icmp .ne 5, 3) := by decide +kernel
theorem dX5_readTest_20 : decode cX5_readTest 20 = .ok (.iconst 0, 1) := by decide +kernel
theorem dX5_readTest_21 : decode cX5_readTest 21 = .ok (.ireturn, 1) := by decide +kernel
theorem dX5_readTest_22 : decode cX5_readTest 22 = .ok (.aload_n 0, 1) := by decide +kernel
theorem dX5_readTest_23 : decode cX5_readTest 23 = .ok (.dup, 1) := by decide +kernel
theorem dX5_readTest_24 : decode cX5_readTest 24 = .ok (.getfield 153, 3) := by decide +kernel
theorem dX5_readTest_27 : decode cX5_readTest 27 = .ok (.iconst 1, 1) := by decide +kernel
theorem dX5_readTest_28 : decode cX5_readTest 28 = .ok (.iadd, 1) := by decide +kernel
theorem dX5_readTest_29 : decode cX5_readTest 29 = .ok (.putfield 153, 3) := by decide +kernel
theorem dX5_readTest_32 : decode cX5_readTest 32 = .ok (.aload_n 0, 1) := by decide +kernel
theorem dX5_readTest_33 : decode cX5_readTest 33 = .ok (.invokevirtual 38, 3) := by decide +kernel
theorem dX5_readTest_36 : decode cX5_readTest 36 = .ok (.iload_n 1, 1) := by decide +kernel
theorem dX5_readTest_37 : decode cX5_readTest 37 = .ok (.bipush 10, 2) := by decide +kernel
theorem dX5_readTest_39 : decode cX5_readTest 39 = .ok (.if_icmp .ne 14, 3) := by decide +kernel
theorem dX5_readTest_42 : decode cX5_readTest 42 = .ok (.aload_n 0, 1) := by decide +kernel
theorem dX5_readTest_43 : decode cX5_readTest 43 = .ok (.getfield 19, 3) := by decide +kernel
theorem dX5_readTest_46 : decode cX5_readTest 46 = .ok (.iload_n 1, 1) := by decide +kernel
theorem dX5_readTest_47 : decode cX5_readTest 47 = .ok (.iconst 0, 1) := by decide +kernel
theorem dX5_readTest_48 : decode cX5_readTest 48 = .ok (.invokevirtual 175, 3) := by decide +kernel
theorem dX5_readTest_51 : decode cX5_readTest 51 = .ok (.iconst 1, 1) := by decide +kernel
theorem dX5_readTest_52 : decode cX5_readTest 52 = .ok (.ireturn, 1) := by decide +kernel
theorem dX5_readTest_53 : decode cX5_readTest 53 = .ok (.iload_n 1, 1) := by decide +kernel
theorem dX5_readTest_54 : decode cX5_readTest 54 = .ok (.bipush 6, 2) := by decide +kernel
theorem dX5_readTest_56 : decode cX5_readTest 56 = .ok (.if_icmp .ne 11, 3) := by decide +kernel
theorem dX5_readTest_59 : decode cX5_readTest 59 = .ok (.aload_n 0, 1) := by decide +kernel
theorem dX5_readTest_60 : decode cX5_readTest 60 = .ok (.invokevirtual 181, 3) := by decide +kernel
theorem dX5_readTest_63 : decode cX5_readTest 63 = .ok (.istore_n 1, 1) := by decide +kernel
theorem dX5_readTest_64 : decode cX5_readTest 64 = .ok (.goto 15, 3) := by decide +kernel
theorem dX5_readTest_67 : decode cX5_readTest 67 = .ok (.aload_n 0, 1) := by decide +kernel
theorem dX5_readTest_68 : decode cX5_readTest 68 = .ok (.getfield 41, 3) := by decide +kernel
theorem dX5_readTest_71 : decode cX5_readTest 71 = .ok (.bipush 61, 2) := by decide +kernel
theorem dX5_readTest_73 : decode cX5_readTest 73 = .ok (.if_icmp .eq 6, 3) := by decide +kernel
