theorem dX8_suit_79 : decode cX8_suit 79 = .ok (.iconst 1, 1) := by decide +kernel
theorem dX8_suit_80 : decode cX8_suit 80 = .ok (.goto 4, 3) := by decide +kernel
theorem dX8_suit_83 : decode cX8_suit 83 = .ok (.iconst 0, 1) := by decide +kernel
theorem dX8_suit_84 : decode cX8_suit 84 = .ok (.ireturn, 1) := by decide +kernel
theorem dX8_suit_85 : decode cX8_suit 85 = .ok (.aload_n 0, 1) := by decide +kernel
theorem dX8_suit_86 : decode cX8_suit 86 = .ok (.getfield 42, 3) := by decide +kernel
theorem dX8_suit_89 : decode cX8_suit 89 = .ok (.getfield 262, 3) := by decide +kernel
theorem dX8_suit_92 : decode cX8_suit 92 = .ok (.iload_n 1, 1) := by decide +kernel
theorem dX8_suit_93 : decode cX8_suit 93 = .ok (.iaload, 1) := by decide +kernel
theorem dX8_suit_94 : decode cX8_suit 94 = .ok (.ireturn, 1) := by decide +kernel
theorem dX8_suit_95 : decode cX8_suit 95 = .ok (.aload_n 0, 1) := by decide +kernel
theorem dX8_suit_96 : decode cX8_suit 96 = .ok (.getfield 42, 3) := by decide +kernel
theorem dX8_suit_99 : decode cX8_suit 99 = .ok (.getfield 265, 3) := by decide +kernel
theorem dX8_suit_102 : decode cX8_suit 102 = .ok (.iload_n 1, 1) := by decide +kernel
theorem dX8_suit_103 : decode cX8_suit 103 = .ok (.iaload, 1) := by decide +kernel
theorem dX8_suit_104 : decode cX8_suit 104 = .ok (.ireturn, 1) := by decide +kernel
theorem dX8_suit_105 : decode cX8_suit 105 = .ok (.iconst (-1), 1) := by decide +kernel
theorem dX8_suit_106 : decode cX8_suit 106 = .ok (.ireturn, 1) := by decide +kernel
theorem dX8_appeal_0 : decode cX8_appeal 0 = .ok (.aload_n 0, 1) := by decide +kernel
theorem dX8_appeal_1 : decode cX8_appeal 1 = .ok (.getfield 42, 3) := by decide +kernel
theorem dX8_appeal_4 : decode cX8_appeal 4 = .ok (.iload_n 1, 1) := by decide +kernel
theorem dX8_appeal_5 : decode cX8_appeal 5 = .ok (.invokevirtual 252, 3) := by decide +kernel
theorem dX8_appeal_8 : decode cX8_appeal 8 = .ok (.ifCond .ne 5, 3) := by decide +kernel
theorem dX8_appeal_11 : decode cX8_appeal 11 = .ok (.iconst (-1), 1) := by decide +kernel
theorem dX8_appeal_12 : decode cX8_appeal 12 = .ok (.ireturn, 1) := by decide +kernel
theorem dX8_appeal_13 : decode cX8_appeal 13 = .ok (.aload_n 0, 1) := by decide +kernel
theorem dX8_appeal_14 : decode cX8_appeal 14 = .ok (.getfield 42, 3) := by decide +kernel
theorem dX8_appeal_17 : decode cX8_appeal 17 = .ok (.getfield 259, 3) := by decide +kernel
theorem dX8_appeal_20 : decode cX8_appeal 20 = .ok (.iload_n 1, 1) := by decide +kernel
theorem dX8_appeal_21 : decode cX8_appeal 21 = .ok (.baload, 1) := by decide +kernel
theorem dX8_appeal_22 : decode cX8_appeal 22 = .ok (.ifCond .eq 14, 3) := by decide +kernel
theorem dX8_appeal_25 : decode cX8_appeal 25 = .ok (.aload_n 0, 1) := by decide +kernel
theorem dX8_appeal_26 : decode cX8_appeal 26 = .ok (.getfield 42, 3) := by decide +kernel
theorem dX8_appeal_29 : decode cX8_appeal 29 = .ok (.iload_n 1, 1) := by decide +kernel
theorem dX8_appeal_30 : decode cX8_appeal 30 = .ok (.invokevirtual 268, 3) := by decide +kernel
theorem dX8_appeal_33 : decode cX8_appeal 33 = .ok (.goto 5, 3) := by decide +kernel
theorem dX8_appeal_36 : decode cX8_appeal 36 = .ok (.bipush (-2), 2) := by decide +kernel
theorem dX8_appeal_38 : decode cX8_appeal 38 = .ok (.ireturn, 1) := by decide +kernel
theorem dX8_fines_0 : decode cX8_fines 0 = .ok (.iload_n 1, 1) := by decide +kernel
theorem dX8_fines_1 : decode cX8_fines 1 = .ok (.bipush (-9), 2) := by decide +kernel
theorem dX8_fines_3 : decode cX8_fines 3 = .ok (.if_icmp .eq 16, 3) := by decide +kernel
theorem dX8_fines_6 : decode cX8_fines 6 = .ok (.aload_n 0, 1) := by decide +kernel
theorem dX8_fines_7 : decode cX8_fines 7 = .ok (.getfield 10, 3) := by decide +kernel
theorem dX8_fines_10 : decode cX8_fines 10 = .ok (.iload_n 1, 1) := by decide +kernel
theorem dX8_fines_11 : decode cX8_fines 11 = .ok (.invokevirtual 178, 3) := by decide +kernel
theorem dX8_fines_14 : decode cX8_fines 14 = .ok (.ifCond .ne 5, 3) := by decide +kernel
theorem dX8_fines_17 : decode cX8_fines 17 = .ok (.iconst (-1), 1) := by decide +kernel
theorem dX8_fines_18 : decode cX8_fines 18 = .ok (.ireturn, 1) := by decide +kernel
theorem dX8_fines_19 : decode cX8_fines 19 = .ok (.aload_n 0, 1) := by decide +kernel
theorem dX8_fines_20 : decode cX8_fines 20 = .ok (.getfield 42, 3) := by decide +kernel
theorem dX8_fines_23 : decode cX8_fines 23 = .ok (.iload_n 1, 1) := by decide +kernel
theorem dX8_fines_24 : decode cX8_fines 24 = .ok (.invokevirtual 271, 3) := by decide +kernel
theorem dX8_fines_27 : decode cX8_fines 27 = .ok (.ireturn, 1) := by decide +kernel
theorem dX8_road_0 : decode cX8_road 0 = .ok (.iload_n 1, 1) := by decide +kernel
theorem dX8_road_1 : decode cX8_road 1 = .ok (.iconst 0, 1) := by decide +kernel
theorem dX8_road_2 : decode cX8_road 2 = .ok (.bipush 8, 2) := by decide +kernel
theorem dX8_road_4 : decode cX8_road 4 = .ok (.invokestatic 74, 3) := by decide +kernel
theorem dX8_road_7 : decode cX8_road 7 = .ok (.ifCond .eq 28, 3) := by decide +kernel
theorem dX8_road_10 : decode cX8_road 10 = .ok (.iload_n 2, 1) := by decide +kernel
theorem dX8_road_11 : decode cX8_road 11 = .ok (.iconst 0, 1) := by decide +kernel
theorem dX8_road_12 : decode cX8_road 12 = .ok (.bipush 8, 2) := by decide +kernel
theorem dX8_road_14 : decode cX8_road 14 = .ok (.invokestatic 74, 3) := by decide +kernel
theorem dX8_road_17 : decode cX8_road 17 = .ok (.ifCond .eq 18, 3) := by decide +kernel
theorem dX8_road_20 : decode cX8_road 20 = .ok (.iload_n 1, 1) := by decide +kernel
theorem dX8_road_21 : decode cX8_road 21 = .ok (.iload_n 2, 1) := by decide +kernel
theorem dX8_road_22 : decode cX8_road 22 = .ok (.if_icmp .eq 13, 3) := by decide +kernel
theorem dX8_road_25 : decode cX8_road 25 = .ok (.iload_n 3, 1) := by decide +kernel
theorem dX8_road_26 : decode cX8_road 26 = .ok (.iconst 1, 1) := by decide +kernel
theorem dX8_road_27 : decode cX8_road 27 = .ok (.bipush 30, 2) := by decide +kernel
theorem dX8_road_29 : decode cX8_road 29 = .ok (.invokestatic 74, 3) := by decide +kernel
theorem dX8_road_32 : decode cX8_road 32 = .ok (.ifCond .ne 5, 3) := by decide +kernel
theorem dX8_road_35 : decode cX8_road 35 = .ok (.iconst (-1), 1) := by decide +kernel
theorem dX8_road_36 : decode cX8_road 36 = .ok (.ireturn, 1) := by decide +kernel
theorem dX8_road_37 : decode cX8_road 37 = .ok (.aload_n 0, 1) := by decide +kernel
theorem dX8_road_38 : decode cX8_road 38 = .ok (.getfield 49, 3) := by decide +kernel
theorem dX8_road_41 : decode cX8_road 41 = .ok (.iload_n 1, 1) := by decide +kernel
theorem dX8_road_42 : decode cX8_road 42 = .ok (.iload_n 2, 1) := by decide +kernel
theorem dX8_road_43 : decode cX8_road 43 = .ok (.iload_n 3, 1) := by decide +kernel
theorem dX8_road_44 : decode cX8_road 44 = .ok (.invokevirtual 274, 3) := by decide +kernel
theorem dX8_road_47 : decode cX8_road 47 = .ok (.ireturn, 1) := by decide +kernel
theorem dX8_doubt_0 : decode cX8_doubt 0 = .ok (.aload_n 0, 1) := by decide +kernel
theorem dX8_doubt_1 : decode cX8_doubt 1 = .ok (.getfield 10, 3) := by decide +kernel
theorem dX8_doubt_4 : decode cX8_doubt 4 = .ok (.iload_n 1, 1) := by decide +kernel
theorem dX8_doubt_5 : decode cX8_doubt 5 = .ok (.invokevirtual 178, 3) := by decide +kernel
theorem dX8_doubt_8 : decode cX8_doubt 8 = .ok (.ifCond .eq 13, 3) := by decide +kernel
theorem dX8_doubt_11 : decode cX8_doubt 11 = .ok (.iload_n 2, 1) := by decide +kernel
theorem dX8_doubt_12 : decode cX8_doubt 12 = .ok (.iconst 0, 1) := by decide +kernel
theorem dX8_doubt_13 : decode cX8_doubt 13 = .ok (.bipush 99, 2) := by decide +kernel
theorem dX8_doubt_15 : decode cX8_doubt 15 = .ok (.invokestatic 74, 3) := by decide +kernel
theorem dX8_doubt_18 : decode cX8_doubt 18 = .ok (.ifCond .ne 5, 3) := by decide +kernel
theorem dX8_doubt_21 : decode cX8_doubt 21 = .ok (.iconst (-1), 1) := by decide +kernel
theorem dX8_doubt_22 : decode cX8_doubt 22 = .ok (.ireturn, 1) := by decide +kernel
theorem dX8_doubt_23 : decode cX8_doubt 23 = .ok (.aload_n 0, 1) := by decide +kernel
theorem dX8_doubt_24 : decode cX8_doubt 24 = .ok (.getfield 10, 3) := by decide +kernel
theorem dX8_doubt_27 : decode cX8_doubt 27 = .ok (.getfield 277, 3) := by decide +kernel
theorem dX8_doubt_30 : decode cX8_doubt 30 = .ok (.iload_n 1, 1) := by decide +kernel
theorem dX8_doubt_31 : decode cX8_doubt 31 = .ok (.iaload, 1) := by decide +kernel
theorem dX8_doubt_32 : decode cX8_doubt 32 = .ok (.istore_n 3, 1) := by decide +kernel
theorem dX8_doubt_33 : decode cX8_doubt 33 = .ok (.aload_n 0, 1) := by decide +kernel
theorem dX8_doubt_34 : decode cX8_doubt 34 = .ok (.getfield 10, 3) := by decide +kernel
theorem dX8_doubt_37 : decode cX8_doubt 37 = .ok (.getfield 277, 3) := by decide +kernel
theorem dX8_doubt_40 : decode cX8_doubt 40 = .ok (.iload_n 1, 1) := by decide +kernel
theorem dX8_doubt_41 : decode cX8_doubt 41 = .ok (.iload_n 2, 1) := by decide +kernel
theorem dX8_doubt_42 : decode cX8_doubt 42 = .ok (.iastore, 1) := by decide +kernel
theorem dX8_doubt_43 : decode cX8_doubt 43 = .ok (.iload_n 3, 1) := by decide +kernel
theorem dX8_doubt_44 : decode cX8_doubt 44 = .ok (.ireturn, 1) := by decide +kernel
theorem dX8_way_0 : decode cX8_way 0 = .ok (.iload_n 1, 1) := by decide +kernel
theorem dX8_way_1 : decode cX8_way 1 = .ok (.iconst 1, 1) := by decide +kernel
theorem dX8_way_2 : decode cX8_way 2 = .ok (.sipush 200, 3) := by decide +kernel
theorem dX8_way_5 : decode cX8_way 5 = .ok (.invokestatic 74, 3) := by decide +kernel
theorem dX8_way_8 : decode cX8_way 8 = .ok (.ifCond .eq 12, 3) := by decide +kernel
theorem dX8_way_11 : decode cX8_way 11 = .ok (.iload_n 2, 1) := by decide +kernel
theorem dX8_way_12 : decode cX8_way 12 = .ok (.iconst 0, 1) := by decide +kernel
theorem dX8_way_13 : decode cX8_way 13 = .ok (.iconst 2, 1) := by decide +kernel
theorem dX8_way_14 : decode cX8_way 14 = .ok (.invokestatic 74, 3) := by decide +kernel
theorem dX8_way_17 : decode cX8_way 17 = .ok (.ifCond .ne 5, 3) := by decide +kernel
theorem dX8_way_20 : decode cX8_way 20 = .ok (.iconst (-1), 1) := by decide +kernel
theorem dX8_way_21 : decode cX8_way 21 = .ok (.ireturn, 1) := by decide +kernel
theorem dX8_way_22 : decode cX8_way 22 = .ok (.aload_n 0, 1) := by decide +kernel
theorem dX8_way_23 : decode cX8_way 23 = .ok (.getfield 49, 3) := by decide +kernel
theorem dX8_way_26 : decode cX8_way 26 = .ok (.aload_n 0, 1) := by decide +kernel
theorem dX8_way_27 : decode cX8_way 27 = .ok (.getfield 10, 3) := by decide +kernel
theorem dX8_way_30 : decode cX8_way 30 = .ok (.iload_n 1, 1) := by decide +kernel
theorem dX8_way_31 : decode cX8_way 31 = .ok (.invokevirtual 280, 3) := by decide +kernel
theorem dX8_way_34 : decode cX8_way 34 = .ok (.iload_n 2, 1) := by decide +kernel
theorem dX8_way_35 : decode cX8_way 35 = .ok (.lookupswitch 41 #[(0, 25), (1, 33)], 25) := by decide +kernel
theorem dX8_way_60 : decode cX8_way 60 = .ok (.aload_n 0, 1) := by decide +kernel
theorem dX8_way_61 : decode cX8_way 61 = .ok (.getfield 49, 3) := by decide +kernel
theorem dX8_way_64 : decode cX8_way 64 = .ok (.getfield 284, 3) := by decide +kernel
theorem dX8_way_67 : decode cX8_way 67 = .ok (.ireturn, 1) := by decide +kernel
theorem dX8_way_68 : decode cX8_way 68 = .ok (.aload_n 0, 1) := by decide +kernel
theorem dX8_way_69 : decode cX8_way 69 = .ok (.getfield 49, 3) := by decide +kernel
theorem dX8_way_72 : decode cX8_way 72 = .ok (.getfield 287, 3) := by decide +kernel
theorem dX8_way_75 : decode cX8_way 75 = .ok (.ireturn, 1) := by decide +kernel
theorem dX8_way_76 : decode cX8_way 76 = .ok (.aload_n 0, 1) := by decide +kernel
theorem dX8_way_77 : decode cX8_way 77 = .ok (.getfield 49, 3) := by decide +kernel
theorem dX8_way_80 : decode cX8_way 80 = .ok (.getfield 290, 3) := by decide +kernel
theorem dX8_way_83 : decode cX8_way 83 = .ok (.ireturn, 1) := by decide +kernel
theorem dX8_count_0 : decode cX8_count 0 = .ok (.iload_n 1, 1) := by decide +kernel
theorem dX8_count_1 : decode cX8_count 1 = .ok (.tableswitch 111 0 7 #[47, 55, 63, 71, 79, 87, 95, 103], 47) := by decide +kernel
theorem dX8_count_48 : decode cX8_count 48 = .ok (.aload_n 0, 1) := by decide +kernel
theorem dX8_count_49 : decode cX8_count 49 = .ok (.getfield 10, 3) := by decide +kernel
theorem dX8_count_52 : decode cX8_count 52 = .ok (.getfield 293, 3) := by decide +kernel
theorem dX8_count_55 : decode cX8_count 55 = .ok (.ireturn, 1) := by decide +kernel
theorem dX8_count_56 : decode cX8_count 56 = .ok (.aload_n 0, 1) := by decide +kernel
theorem dX8_count_57 : decode cX8_count 57 = .ok (.getfield 19, 3) := by decide +kernel
theorem dX8_count_60 : decode cX8_count 60 = .ok (.getfield 296, 3) := by decide +kernel
theorem dX8_count_63 : decode cX8_count 63 = .ok (.ireturn, 1) := by decide +kernel
theorem dX8_count_64 : decode cX8_count 64 = .ok (.aload_n 0, 1) := by decide +kernel
theorem dX8_count_65 : decode cX8_count 65 = .ok (.getfield 58, 3) := by decide +kernel
theorem dX8_count_68 : decode cX8_count 68 = .ok (.getfield 139, 3) := by decide +kernel
theorem dX8_count_71 : decode cX8_count 71 = .ok (.ireturn, 1) := by decide +kernel
theorem dX8_count_72 : decode cX8_count 72 = .ok (.aload_n 0, 1) := by decide +kernel
theorem dX8_count_73 : decode cX8_count 73 = .ok (.getfield 28, 3) := by decide +kernel
theorem dX8_count_76 : decode cX8_count 76 = .ok (.getfield 297, 3) := by decide +kernel
theorem dX8_count_79 : decode cX8_count 79 = .ok (.ireturn, 1) := by decide +kernel
theorem dX8_count_80 : decode cX8_count 80 = .ok (.aload_n 0, 1) := by decide +kernel
theorem dX8_count_81 : decode cX8_count 81 = .ok (.getfield 42, 3) := by decide +kernel
theorem dX8_count_84 : decode cX8_count 84 = .ok (.getfield 298, 3) := by decide +kernel
theorem dX8_count_87 : decode cX8_count 87 = .ok (.ireturn, 1) := by decide +kernel
theorem dX8_count_88 : decode cX8_count 88 = .ok (.aload_n 0, 1) := by decide +kernel
theorem dX8_count_89 : decode cX8_count 89 = .ok (.getfield 42, 3) := by decide +kernel
theorem dX8_count_92 : decode cX8_count 92 = .ok (.getfield 301, 3) := by decide +kernel
theorem dX8_count_95 : decode cX8_count 95 = .ok (.ireturn, 1) := by decide +kernel
theorem dX8_count_96 : decode cX8_count 96 = .ok (.aload_n 0, 1) := by decide +kernel
theorem dX8_count_97 : decode cX8_count 97 = .ok (.getfield 42, 3) := by decide +kernel
theorem dX8_count_100 : decode cX8_count 100 = .ok (.invokevirtual 304, 3) := by decide +kernel
theorem dX8_count_103 : decode cX8_count 103 = .ok (.ireturn, 1) := by decide +kernel
theorem dX8_count_104 : decode cX8_count 104 = .ok (.aload_n 0, 1) := by decide +kernel
theorem dX8_count_105 : decode cX8_count 105 = .ok (.getfield 70, 3) := by decide +kernel
theorem dX8_count_108 : decode cX8_count 108 = .ok (.getfield 307, 3) := by decide +kernel
theorem dX8_count_111 : decode cX8_count 111 = .ok (.ireturn, 1) := by decide +kernel
theorem dX8_count_112 : decode cX8_count 112 = .ok (.iconst (-1), 1) := by decide +kernel
theorem dX8_count_113 : decode cX8_count 113 = .ok (.ireturn, 1) := by decide +kernel
theorem dX8_trace_0 : decode cX8_trace 0 = .ok (.aload_n 0, 1) := by decide +kernel
theorem dX8_trace_1 : decode cX8_trace 1 = .ok (.getfield 89, 3) := by decide +kernel
theorem dX8_trace_4 : decode cX8_trace 4 = .ok (.lreturn, 1) := by decide +kernel
theorem dX8_within_0 : decode cX8_within 0 = .ok (.iload_n 0, 1) := by decide +kernel
theorem dX8_within_1 : decode cX8_within 1 = .ok (.iload_n 1, 1) := by decide +kernel
theorem dX8_within_2 : decode cX8_within 2 = .ok (.if_icmp .lt 12, 3) := by decide +kernel
theorem dX8_within_5 : decode cX8_within 5 = .ok (.iload_n 0, 1) := by decide +kernel
theorem dX8_within_6 : decode cX8_within 6 = .ok (.iload_n 2, 1) := by decide +kernel
theorem dX8_within_7 : decode cX8_within 7 = .ok (.if_icmp .gt 7, 3) := by decide +kernel
theorem dX8_within_10 : decode cX8_within 10 = .ok (.iconst 1, 1) := by decide +kernel
theorem dX8_within_11 : decode cX8_within 11 = .ok (.goto 4, 3) := by decide +kernel
theorem dX8_within_14 : decode cX8_within 14 = .ok (.iconst 0, 1) := by decide +kernel
theorem dX8_within_15 : decode cX8_within 15 = .ok (.ireturn, 1) := by decide +kernel
theorem dX8_isDay_0 : decode cX8_isDay 0 = .ok (.iload_n 0, 1) := by decide +kernel
theorem dX8_isDay_1 : decode cX8_isDay 1 = .ok (.iconst 0, 1) := by decide +kernel
theorem dX8_isDay_2 : decode cX8_isDay 2 = .ok (.sipush 359, 3) := by decide +kernel
theorem dX8_isDay_5 : decode cX8_isDay 5 = .ok (.invokestatic 74, 3) := by decide +kernel
theorem dX8_isDay_8 : decode cX8_isDay 8 = .ok (.ireturn, 1) := by decide +kernel
theorem dX8_isPlaced_0 : decode cX8_isPlaced 0 = .ok (.aload_n 0, 1) := by decide +kernel
theorem dX8_isPlaced_1 : decode cX8_isPlaced 1 = .ok (.getfield 19, 3) := by decide +kernel
theorem dX8_isPlaced_4 : decode cX8_isPlaced 4 = .ok (.iload_n 1, 1) := by decide +kernel
theorem dX8_isPlaced_5 : decode cX8_isPlaced 5 = .ok (.invokevirtual 85, 3) := by decide +kernel
theorem dX8_isPlaced_8 : decode cX8_isPlaced 8 = .ok (.ifCond .eq 25, 3) := by decide +kernel
theorem dX8_isPlaced_11 : decode cX8_isPlaced 11 = .ok (.aload_n 0, 1) := by decide +kernel
theorem dX8_isPlaced_12 : decode cX8_isPlaced 12 = .ok (.getfield 10, 3) := by decide +kernel
theorem dX8_isPlaced_15 : decode cX8_isPlaced 15 = .ok (.iload_n 2, 1) := by decide +kernel
theorem dX8_isPlaced_16 : decode cX8_isPlaced 16 = .ok (.invokevirtual 178, 3) := by decide +kernel
theorem dX8_isPlaced_19 : decode cX8_isPlaced 19 = .ok (.ifCond .eq 14, 3) := by decide +kernel
theorem dX8_isPlaced_22 : decode cX8_isPlaced 22 = .ok (.iload_n 3, 1) := by decide +kernel
theorem dX8_isPlaced_23 : decode cX8_isPlaced 23 = .ok (.invokestatic 103, 3) := by decide +kernel
theorem dX8_isPlaced_26 : decode cX8_isPlaced 26 = .ok (.ifCond .eq 7, 3) := by decide +kernel
theorem dX8_isPlaced_29 : decode cX8_isPlaced 29 = .ok (.iconst 1, 1) := by decide +kernel
theorem dX8_isPlaced_30 : decode cX8_isPlaced 30 = .ok (.goto 4, 3) := by decide +kernel
theorem dX8_isPlaced_33 : decode cX8_isPlaced 33 = .ok (.iconst 0, 1) := by decide +kernel
theorem dX8_isPlaced_34 : decode cX8_isPlaced 34 = .ok (.ireturn, 1) := by decide +kernel
theorem dX8_worstBreach_0 : decode cX8_worstBreach 0 = .ok (.aload_n 0, 1) := by decide +kernel
theorem dX8_worstBreach_1 : decode cX8_worstBreach 1 = .ok (.getfield 28, 3) := by decide +kernel
theorem dX8_worstBreach_4 : decode cX8_worstBreach 4 = .ok (.iload_n 1, 1) := by decide +kernel
theorem dX8_worstBreach_5 : decode cX8_worstBreach 5 = .ok (.iload_n 2, 1) := by decide +kernel
theorem dX8_worstBreach_6 : decode cX8_worstBreach 6 = .ok (.invokevirtual 189, 3) := by decide +kernel
theorem dX8_worstBreach_9 : decode cX8_worstBreach 9 = .ok (.iconst 0, 1) := by decide +kernel
theorem dX8_worstBreach_10 : decode cX8_worstBreach 10 = .ok (.istore 4, 2) := by decide +kernel
theorem dX8_worstBreach_12 : decode cX8_worstBreach 12 = .ok (.iconst 0, 1) := by decide +kernel
theorem dX8_worstBreach_13 : decode cX8_worstBreach 13 = .ok (.istore 5, 2) := by decide +kernel
theorem dX8_worstBreach_15 : decode cX8_worstBreach 15 = .ok (.iload 5, 2) := by decide +kernel
theorem dX8_worstBreach_17 : decode cX8_worstBreach 17 = .ok (.aload_n 0, 1) := by decide +kernel
theorem dX8_worstBreach_18 : decode cX8_worstBreach 18 = .ok (.getfield 10, 3) := by decide +kernel
theorem dX8_worstBreach_21 : decode cX8_worstBreach 21 = .ok (.getfield 293, 3) := by decide +kernel
theorem dX8_worstBreach_24 : decode cX8_worstBreach 24 = .ok (.if_icmp .ge 64, 3) := by decide +kernel
theorem dX8_worstBreach_27 : decode cX8_worstBreach 27 = .ok (.aload_n 0, 1) := by decide +kernel
theorem dX8_worstBreach_28 : decode cX8_worstBreach 28 = .ok (.getfield 28, 3) := by decide +kernel
theorem dX8_worstBreach_31 : decode cX8_worstBreach 31 = .ok (.iload 5, 2) := by decide +kernel
theorem dX8_worstBreach_33 : decode cX8_worstBreach 33 = .ok (.invokevirtual 246, 3) := by decide +kernel
theorem dX8_worstBreach_36 : decode cX8_worstBreach 36 = .ok (.ifCond .ne 6, 3) := by decide +kernel
theorem dX8_worstBreach_39 : decode cX8_worstBreach 39 = .ok (.goto 43, 3) := by decide +kernel
theorem dX8_worstBreach_42 : decode cX8_worstBreach 42 = .ok (.aload_n 0, 1) := by decide +kernel
theorem dX8_worstBreach_43 : decode cX8_worstBreach 43 = .ok (.getfield 58, 3) := by decide +kernel
theorem dX8_worstBreach_46 : decode cX8_worstBreach 46 = .ok (.iload_n 1, 1) := by decide +kernel
theorem dX8_worstBreach_47 : decode cX8_worstBreach 47 = .ok (.iload 5, 2) := by decide +kernel
theorem dX8_worstBreach_49 : decode cX8_worstBreach 49 = .ok (.iload_n 2, 1) := by decide +kernel
theorem dX8_worstBreach_50 : decode cX8_worstBreach 50 = .ok (.invokevirtual 150, 3) := by decide +kernel
theorem dX8_worstBreach_53 : decode cX8_worstBreach 53 = .ok (.aload_n 0, 1) := by decide +kernel
theorem dX8_worstBreach_54 : decode cX8_worstBreach 54 = .ok (.iload_n 1, 1) := by decide +kernel
theorem dX8_worstBreach_55 : decode cX8_worstBreach 55 = .ok (.iload 5, 2) := by decide +kernel
theorem dX8_worstBreach_57 : decode cX8_worstBreach 57 = .ok (.iload_n 3, 1) := by decide +kernel
theorem dX8_worstBreach_58 : decode cX8_worstBreach 58 = .ok (.iconst 2, 1) := by decide +kernel
theorem dX8_worstBreach_59 : decode cX8_worstBreach 59 = .ok (.invokevirtual 310, 3) := by decide +kernel
theorem dX8_worstBreach_62 : decode cX8_worstBreach 62 = .ok (.ifCond .eq 5, 3) := by decide +kernel
theorem dX8_worstBreach_65 : decode cX8_worstBreach 65 = .ok (.iconst 2, 1) := by decide +kernel
theorem dX8_worstBreach_66 : decode cX8_worstBreach 66 = .ok (.ireturn, 1) := by decide +kernel
theorem dX8_worstBreach_67 : decode cX8_worstBreach 67 = .ok (.aload_n 0, 1) := by decide +kernel
theorem dX8_worstBreach_68 : decode cX8_worstBreach 68 = .ok (.iload_n 1, 1) := by decide +kernel
theorem dX8_worstBreach_69 : decode cX8_worstBreach 69 = .ok (.iload 5, 2) := by decide +kernel
theorem dX8_worstBreach_71 : decode cX8_worstBreach 71 = .ok (.iload_n 3, 1) := by decide +kernel
theorem dX8_worstBreach_72 : decode cX8_worstBreach 72 = .ok (.iconst 1, 1) := by decide +kernel
theorem dX8_worstBreach_73 : decode cX8_worstBreach 73 = .ok (.invokevirtual 310, 3) := by decide +kernel
theorem dX8_worstBreach_76 : decode cX8_worstBreach 76 = .ok (.ifCond .eq 6, 3) := by decide +kernel
theorem dX8_worstBreach_79 : decode cX8_worstBreach 79 = .ok (.iconst 1, 1) := by decide +kernel
theorem dX8_worstBreach_80 : decode cX8_worstBreach 80 = .ok (.istore 4, 2) := by decide +kernel
theorem dX8_worstBreach_82 : decode cX8_worstBreach 82 = .ok (.iinc 5 1, 3) := by decide +kernel
theorem dX8_worstBreach_85 : decode cX8_worstBreach 85 = .ok (.goto (-70), 3) := by decide +kernel
theorem dX8_worstBreach_88 : decode cX8_worstBreach 88 = .ok (.iload 4, 2) := by decide +kernel
theorem dX8_worstBreach_90 : decode cX8_worstBreach 90 = .ok (.ireturn, 1) := by decide +kernel
theorem dX8_breaks_0 : decode cX8_breaks 0 = .ok (.iload_n 3, 1) := by decide +kernel
theorem dX8_breaks_1 : decode cX8_breaks 1 = .ok (.tableswitch 206 0 5 #[39, 67, 98, 124, 153, 185], 39) := by decide +kernel
theorem dX8_breaks_40 : decode cX8_breaks 40 = .ok (.aload_n 0, 1) := by decide +kernel
theorem dX8_breaks_41 : decode cX8_breaks 41 = .ok (.getfield 28, 3) := by decide +kernel
theorem dX8_breaks_44 : decode cX8_breaks 44 = .ok (.iload 4, 2) := by decide +kernel
theorem dX8_breaks_46 : decode cX8_breaks 46 = .ok (.invokevirtual 196, 3) := by decide +kernel
theorem dX8_breaks_49 : decode cX8_breaks 49 = .ok (.aload_n 0, 1) := by decide +kernel
theorem dX8_breaks_50 : decode cX8_breaks 50 = .ok (.getfield 58, 3) := by decide +kernel
theorem dX8_breaks_53 : decode cX8_breaks 53 = .ok (.iconst 0, 1) := by decide +kernel
theorem dX8_breaks_54 : decode cX8_breaks 54 = .ok (.iload 4, 2) := by decide +kernel
theorem dX8_breaks_56 : decode cX8_breaks 56 = .ok (.invokevirtual 154, 3) := by decide +kernel
theorem dX8_breaks_59 : decode cX8_breaks 59 = .ok (.if_icmp .le 7, 3) := by decide +kernel
theorem dX8_breaks_62 : decode cX8_breaks 62 = .ok (.iconst 1, 1) := by decide +kernel
theorem dX8_breaks_63 : decode cX8_breaks 63 = .ok (.goto 4, 3) := by decide +kernel
theorem dX8_breaks_66 : decode cX8_breaks 66 = .ok (.iconst 0, 1) := by decide +kernel
theorem dX8_breaks_67 : decode cX8_breaks 67 = .ok (.ireturn, 1) := by decide +kernel
theorem dX8_breaks_68 : decode cX8_breaks 68 = .ok (.aload_n 0, 1) := by decide +kernel
theorem dX8_breaks_69 : decode cX8_breaks 69 = .ok (.getfield 28, 3) := by decide +kernel
theorem dX8_breaks_72 : decode cX8_breaks 72 = .ok (.iload_n 2, 1) := by decide +kernel
theorem dX8_breaks_73 : decode cX8_breaks 73 = .ok (.aload_n 0, 1) := by decide +kernel
theorem dX8_breaks_74 : decode cX8_breaks 74 = .ok (.getfield 58, 3) := by decide +kernel
theorem dX8_breaks_77 : decode cX8_breaks 77 = .ok (.iconst 1, 1) := by decide +kernel
theorem dX8_breaks_78 : decode cX8_breaks 78 = .ok (.iload 4, 2) := by decide +kernel
theorem dX8_breaks_80 : decode cX8_breaks 80 = .ok (.invokevirtual 154, 3) := by decide +kernel
theorem dX8_breaks_83 : decode cX8_breaks 83 = .ok (.aload_n 0, 1) := by decide +kernel
theorem dX8_breaks_84 : decode cX8_breaks 84 = .ok (.getfield 58, 3) := by decide +kernel
theorem dX8_breaks_87 : decode cX8_breaks 87 = .ok (.iconst 2, 1) := by decide +kernel
theorem dX8_breaks_88 : decode cX8_breaks 88 = .ok (.iload 4, 2) := by decide +kernel
theorem dX8_breaks_90 : decode cX8_breaks 90 = .ok (.invokevirtual 154, 3) := by decide +kernel
theorem dX8_breaks_93 : decode cX8_breaks 93 = .ok (.iload 4, 2) := by decide +kernel
theorem dX8_breaks_95 : decode cX8_breaks 95 = .ok (.invokevirtual 314, 3) := by decide +kernel
theorem dX8_breaks_98 : decode cX8_breaks 98 = .ok (.ireturn, 1) := by decide +kernel
theorem dX8_breaks_99 : decode cX8_breaks 99 = .ok (.aload_n 0, 1) := by decide +kernel
theorem dX8_breaks_100 : decode cX8_breaks 100 = .ok (.getfield 28, 3) := by decide +kernel
theorem dX8_breaks_103 : decode cX8_breaks 103 = .ok (.invokevirtual 193, 3) := by decide +kernel
theorem dX8_breaks_106 : decode cX8_breaks 106 = .ok (.aload_n 0, 1) := by decide +kernel
theorem dX8_breaks_107 : decode cX8_breaks 107 = .ok (.getfield 58, 3) := by decide +kernel
theorem dX8_breaks_110 : decode cX8_breaks 110 = .ok (.iconst 3, 1) := by decide +kernel
theorem dX8_breaks_111 : decode cX8_breaks 111 = .ok (.iload 4, 2) := by decide +kernel
theorem dX8_breaks_113 : decode cX8_breaks 113 = .ok (.invokevirtual 154, 3) := by decide +kernel
theorem dX8_breaks_116 : decode cX8_breaks 116 = .ok (.if_icmp .ge 7, 3) := by decide +kernel
theorem dX8_breaks_119 : decode cX8_breaks 119 = .ok (.iconst 1, 1) := by decide +kernel
theorem dX8_breaks_120 : decode cX8_breaks 120 = .ok (.goto 4, 3) := by decide +kernel
theorem dX8_breaks_123 : decode cX8_breaks 123 = .ok (.iconst 0, 1) := by decide +kernel
theorem dX8_breaks_124 : decode cX8_breaks 124 = .ok (.ireturn, 1) := by decide +kernel
theorem dX8_breaks_125 : decode cX8_breaks 125 = .ok (.aload_n 0, 1) := by decide +kernel
theorem dX8_breaks_126 : decode cX8_breaks 126 = .ok (.getfield 28, 3) := by decide +kernel
theorem dX8_breaks_129 : decode cX8_breaks 129 = .ok (.iload_n 2, 1) := by decide +kernel
theorem dX8_breaks_130 : decode cX8_breaks 130 = .ok (.iload 4, 2) := by decide +kernel
theorem dX8_breaks_132 : decode cX8_breaks 132 = .ok (.invokevirtual 317, 3) := by decide +kernel
theorem dX8_breaks_135 : decode cX8_breaks 135 = .ok (.aload_n 0, 1) := by decide +kernel
theorem dX8_breaks_136 : decode cX8_breaks 136 = .ok (.getfield 58, 3) := by decide +kernel
theorem dX8_breaks_139 : decode cX8_breaks 139 = .ok (.iconst 4, 1) := by decide +kernel
theorem dX8_breaks_140 : decode cX8_breaks 140 = .ok (.iload 4, 2) := by decide +kernel
theorem dX8_breaks_142 : decode cX8_breaks 142 = .ok (.invokevirtual 154, 3) := by decide +kernel
theorem dX8_breaks_145 : decode cX8_breaks 145 = .ok (.if_icmp .le 7, 3) := by decide +kernel
theorem dX8_breaks_148 : decode cX8_breaks 148 = .ok (.iconst 1, 1) := by decide +kernel
theorem dX8_breaks_149 : decode cX8_breaks 149 = .ok (.goto 4, 3) := by decide +kernel
theorem dX8_breaks_152 : decode cX8_breaks 152 = .ok (.iconst 0, 1) := by decide +kernel
theorem dX8_breaks_153 : decode cX8_breaks 153 = .ok (.ireturn, 1) := by decide +kernel
theorem dX8_breaks_154 : decode cX8_breaks 154 = .ok (.aload_n 0, 1) := by decide +kernel
theorem dX8_breaks_155 : decode cX8_breaks 155 = .ok (.getfield 19, 3) := by decide +kernel
theorem dX8_breaks_158 : decode cX8_breaks 158 = .ok (.getfield 320, 3) := by decide +kernel
theorem dX8_breaks_161 : decode cX8_breaks 161 = .ok (.iload_n 1, 1) := by decide +kernel
theorem dX8_breaks_162 : decode cX8_breaks 162 = .ok (.iaload, 1) := by decide +kernel
theorem dX8_breaks_163 : decode cX8_breaks 163 = .ok (.ifCond .ne 21, 3) := by decide +kernel
theorem dX8_breaks_166 : decode cX8_breaks 166 = .ok (.aload_n 0, 1) := by decide +kernel
theorem dX8_breaks_167 : decode cX8_breaks 167 = .ok (.getfield 58, 3) := by decide +kernel
theorem dX8_breaks_170 : decode cX8_breaks 170 = .ok (.iconst 5, 1) := by decide +kernel
theorem dX8_breaks_171 : decode cX8_breaks 171 = .ok (.iload 4, 2) := by decide +kernel
theorem dX8_breaks_173 : decode cX8_breaks 173 = .ok (.invokevirtual 154, 3) := by decide +kernel
theorem dX8_breaks_176 : decode cX8_breaks 176 = .ok (.iconst 1, 1) := by decide +kernel
theorem dX8_breaks_177 : decode cX8_breaks 177 = .ok (.if_icmp .ne 7, 3) := by decide +kernel
theorem dX8_breaks_180 : decode cX8_breaks 180 = .ok (.iconst 1, 1) := by decide +kernel
theorem dX8_breaks_181 : decode cX8_breaks 181 = .ok (.goto 4, 3) := by decide +kernel
theorem dX8_breaks_184 : decode cX8_breaks 184 = .ok (.iconst 0, 1) := by decide +kernel
theorem dX8_breaks_185 : decode cX8_breaks 185 = .ok (.ireturn, 1) := by decide +kernel
theorem dX8_breaks_186 : decode cX8_breaks 186 = .ok (.aload_n 0, 1) := by decide +kernel
theorem dX8_breaks_187 : decode cX8_breaks 187 = .ok (.getfield 58, 3) := by decide +kernel
theorem dX8_breaks_190 : decode cX8_breaks 190 = .ok (.bipush 6, 2) := by decide +kernel
theorem dX8_breaks_192 : decode cX8_breaks 192 = .ok (.iload 4, 2) := by decide +kernel
theorem dX8_breaks_194 : decode cX8_breaks 194 = .ok (.invokevirtual 154, 3) := by decide +kernel
theorem dX8_breaks_197 : decode cX8_breaks 197 = .ok (.iconst 1, 1) := by decide +kernel
theorem dX8_breaks_198 : decode cX8_breaks 198 = .ok (.if_icmp .ne 7, 3) := by decide +kernel
theorem dX8_breaks_201 : decode cX8_breaks 201 = .ok (.iconst 1, 1) := by decide +kernel
theorem dX8_breaks_202 : decode cX8_breaks 202 = .ok (.goto 4, 3) := by decide +kernel
theorem dX8_breaks_205 : decode cX8_breaks 205 = .ok (.iconst 0, 1) := by decide +kernel
theorem dX8_breaks_206 : decode cX8_breaks 206 = .ok (.ireturn, 1) := by decide +kernel
theorem dX8_breaks_207 : decode cX8_breaks 207 = .ok (.iconst 0, 1) := by decide +kernel
theorem dX8_breaks_208 : decode cX8_breaks 208 = .ok (.ireturn, 1) := by decide +kernel
theorem dX9_init_0 : decode cX9_init 0 = .ok (.aload_n 0, 1) := by decide +kernel
theorem dX9_init_1 : decode cX9_init 1 = .ok (.invokespecial 1, 3) := by decide +kernel
theorem dX9_init_4 : decode cX9_init 4 = .ok (.aload_n 0, 1) := by decide +kernel
theorem dX9_init_5 : decode cX9_init 5 = .ok (.bipush 16, 2) := by decide +kernel
theorem dX9_init_7 : decode cX9_init 7 = .ok (.newarray .long, 2) := by decide +kernel
theorem dX9_init_9 : decode cX9_init 9 = .ok (.putfield 7, 3) := by decide +kernel
theorem dX9_init_12 : decode cX9_init 12 = .ok (.aload_n 0, 1) := by decide +kernel
theorem dX9_init_13 : decode cX9_init 13 = .ok (.bipush 6, 2) := by decide +kernel
theorem dX9_init_15 : decode cX9_init 15 = .ok (.newarray .int, 2) := by decide +kernel
theorem dX9_init_17 : decode cX9_init 17 = .ok (.putfield 13, 3) := by decide +kernel
theorem dX9_init_20 : decode cX9_init 20 = .ok (.aload_n 0, 1) := by decide +kernel
theorem dX9_init_21 : decode cX9_init 21 = .ok (.bipush 6, 2) := by decide +kernel
theorem dX9_init_23 : decode cX9_init 23 = .ok (.newarray .int, 2) := by decide +kernel
theorem dX9_init_25 : decode cX9_init 25 = .ok (.putfield 17, 3) := by decide +kernel
theorem dX9_init_28 : decode cX9_init 28 = .ok (.aload_n 0, 1) := by decide +kernel
theorem dX9_init_29 : decode cX9_init 29 = .ok (.bipush 6, 2) := by decide +kernel
theorem dX9_init_31 : decode cX9_init 31 = .ok (.newarray .int, 2) := by decide +kernel
theorem dX9_init_33 : decode cX9_init 33 = .ok (.putfield 20, 3) := by decide +kernel
theorem dX9_init_36 : decode cX9_init 36 = .ok (.aload_n 0, 1) := by decide +kernel
theorem dX9_init_37 : decode cX9_init 37 = .ok (.bipush 6, 2) := by decide +kernel
theorem dX9_init_39 : decode cX9_init 39 = .ok (.newarray .int, 2) := by decide +kernel
theorem dX9_init_41 : decode cX9_init 41 = .ok (.putfield 23, 3) := by decide +kernel
theorem dX9_init_44 : decode cX9_init 44 = .ok (.aload_n 0, 1) := by decide +kernel
theorem dX9_init_45 : decode cX9_init 45 = .ok (.bipush 24, 2) := by decide +kernel
theorem dX9_init_47 : decode cX9_init 47 = .ok (.newarray .int, 2) := by decide +kernel
theorem dX9_init_49 : decode cX9_init 49 = .ok (.putfield 26, 3) := by decide +kernel
theorem dX9_init_52 : decode cX9_init 52 = .ok (.aload_n 0, 1) := by decide +kernel
theorem dX9_init_53 : decode cX9_init 53 = .ok (.bipush 24, 2) := by decide +kernel
theorem dX9_init_55 : decode cX9_init 55 = .ok (.newarray .int, 2) := by decide +kernel
theorem dX9_init_57 : decode cX9_init 57 = .ok (.putfield 29, 3) := by decide +kernel
theorem dX9_init_60 : decode cX9_init 60 = .ok (.aload_n 0, 1) := by decide +kernel
theorem dX9_init_61 : decode cX9_init 61 = .ok (.bipush 24, 2) := by decide +kernel
theorem dX9_init_63 : decode cX9_init 63 = .ok (.newarray .int, 2) := by decide +kernel
theorem dX9_init_65 : decode cX9_init 65 = .ok (.putfield 32, 3) := by decide +kernel
theorem dX9_init_68 : decode cX9_init 68 = .ok (.aload_n 0, 1) := by decide +kernel
theorem dX9_init_69 : decode cX9_init 69 = .ok (.sipush 216, 3) := by decide +kernel
theorem dX9_init_72 : decode cX9_init 72 = .ok (.newarray .int, 2) := by decide +kernel
theorem dX9_init_74 : decode cX9_init 74 = .ok (.putfield 35, 3) := by decide +kernel
theorem dX9_init_77 : decode cX9_init 77 = .ok (.aload_n 0, 1) := by decide +kernel
theorem dX9_init_78 : decode cX9_init 78 = .ok (.sipush 900, 3) := by decide +kernel
theorem dX9_init_81 : decode cX9_init 81 = .ok (.newarray .int, 2) := by decide +kernel
theorem dX9_init_83 : decode cX9_init 83 = .ok (.putfield 38, 3) := by decide +kernel
theorem dX9_init_86 : decode cX9_init 86 = .ok (.aload_n 0, 1) := by decide +kernel
theorem dX9_init_87 : decode cX9_init 87 = .ok (.sipush 640, 3) := by decide +kernel
theorem dX9_init_90 : decode cX9_init 90 = .ok (.newarray .int, 2) := by decide +kernel
theorem dX9_init_92 : decode cX9_init 92 = .ok (.putfield 41, 3) := by decide +kernel
theorem dX9_init_95 : decode cX9_init 95 = .ok (.aload_n 0, 1) := by decide +kernel
theorem dX9_init_96 : decode cX9_init 96 = .ok (.sipush 4000, 3) := by decide +kernel
theorem dX9_init_99 : decode cX9_init 99 = .ok (.newarray .int, 2) := by decide +kernel
theorem dX9_init_101 : decode cX9_init 101 = .ok (.putfield 44, 3) := by decide +kernel
theorem dX9_init_104 : decode cX9_init 104 = .ok (.aload_n 0, 1) := by decide +kernel
theorem dX9_init_105 : decode cX9_init 105 = .ok (.sipush 1000, 3) := by decide +kernel
theorem dX9_init_108 : decode cX9_init 108 = .ok (.newarray .int, 2) := by decide +kernel
theorem dX9_init_110 : decode cX9_init 110 = .ok (.putfield 47, 3) := by decide +kernel
theorem dX9_init_113 : decode cX9_init 113 = .ok (.aload_n 0, 1) := by decide +kernel
theorem dX9_init_114 : decode cX9_init 114 = .ok (.bipush 64, 2) := by decide +kernel
theorem dX9_init_116 : decode cX9_init 116 = .ok (.newarray .int, 2) := by decide +kernel
theorem dX9_init_118 : decode cX9_init 118 = .ok (.putfield 50, 3) := by decide +kernel
theorem dX9_init_121 : decode cX9_init 121 = .ok (.aload_n 0, 1) := by decide +kernel
theorem dX9_init_122 : decode cX9_init 122 = .ok (.bipush 60, 2) := by decide +kernel
theorem dX9_init_124 : decode cX9_init 124 = .ok (.newarray .int, 2) := by decide +kernel
theorem dX9_init_126 : decode cX9_init 126 = .ok (.putfield 53, 3) := by decide +kernel
theorem dX9_init_129 : decode cX9_init 129 = .ok (.aload_n 0, 1) := by decide +kernel
theorem dX9_init_130 : decode cX9_init 130 = .ok (.bipush 60, 2) := by decide +kernel
theorem dX9_init_132 : decode cX9_init 132 = .ok (.newarray .int, 2) := by decide +kernel
theorem dX9_init_134 : decode cX9_init 134 = .ok (.putfield 56, 3) := by decide +kernel
theorem dX9_init_137 : decode cX9_init 137 = .ok (.aload_n 0, 1) := by decide +kernel
theorem dX9_init_138 : decode cX9_init 138 = .ok (.bipush 60, 2) := by decide +kernel
theorem dX9_init_140 : decode cX9_init 140 = .ok (.newarray .int, 2) := by decide +kernel
theorem dX9_init_142 : decode cX9_init 142 = .ok (.putfield 59, 3) := by decide +kernel
theorem dX9_init_145 : decode cX9_init 145 = .ok (.aload_n 0, 1) := by decide +kernel
theorem dX9_init_146 : decode cX9_init 146 = .ok (.bipush 60, 2) := by decide +kernel
theorem dX9_init_148 : decode cX9_init 148 = .ok (.newarray .int, 2) := by decide +kernel
theorem dX9_init_150 : decode cX9_init 150 = .ok (.putfield 62, 3) := by decide +kernel
theorem dX9_init_153 : decode cX9_init 153 = .ok (.aload_n 0, 1) := by decide +kernel
theorem dX9_init_154 : decode cX9_init 154 = .ok (.bipush 60, 2) := by decide +kernel
theorem dX9_init_156 : decode cX9_init 156 = .ok (.newarray .int, 2) := by decide +kernel
theorem dX9_init_158 : decode cX9_init 158 = .ok (.putfield 65, 3) := by decide +kernel
theorem dX9_init_161 : decode cX9_init 161 = .ok (.aload_n 0, 1) := by decide +kernel
theorem dX9_init_162 : decode cX9_init 162 = .ok (.bipush 6, 2) := by decide +kernel
theorem dX9_init_164 : decode cX9_init 164 = .ok (.newarray .int, 2) := by decide +kernel
theorem dX9_init_166 : decode cX9_init 166 = .ok (.putfield 68, 3) := by decide +kernel
theorem dX9_init_169 : decode cX9_init 169 = .ok (.aload_n 0, 1) := by decide +kernel
theorem dX9_init_170 : decode cX9_init 170 = .ok (.bipush 24, 2) := by decide +kernel
theorem dX9_init_172 : decode cX9_init 172 = .ok (.newarray .int, 2) := by decide +kernel
theorem dX9_init_174 : decode cX9_init 174 = .ok (.putfield 71, 3) := by decide +kernel
theorem dX9_init_177 : decode cX9_init 177 = .ok (.aload_n 0, 1) := by decide +kernel
theorem dX9_init_178 : decode cX9_init 178 = .ok (.bipush 24, 2) := by decide +kernel
theorem dX9_init_180 : decode cX9_init 180 = .ok (.newarray .int, 2) := by decide +kernel
theorem dX9_init_182 : decode cX9_init 182 = .ok (.putfield 74, 3) := by decide +kernel
theorem dX9_init_185 : decode cX9_init 185 = .ok (.aload_n 0, 1) := by decide +kernel
theorem dX9_init_186 : decode cX9_init 186 = .ok (.bipush 6, 2) := by decide +kernel
theorem dX9_init_188 : decode cX9_init 188 = .ok (.newarray .int, 2) := by decide +kernel
theorem dX9_init_190 : decode cX9_init 190 = .ok (.putfield 77, 3) := by decide +kernel
theorem dX9_init_193 : decode cX9_init 193 = .ok (.aload_n 0, 1) := by decide +kernel
theorem dX9_init_194 : decode cX9_init 194 = .ok (.bipush 6, 2) := by decide +kernel
theorem dX9_init_196 : decode cX9_init 196 = .ok (.newarray .int, 2) := by decide +kernel
theorem dX9_init_198 : decode cX9_init 198 = .ok (.putfield 80, 3) := by decide +kernel
theorem dX9_init_201 : decode cX9_init 201 = .ok (.aload_n 0, 1) := by decide +kernel
theorem dX9_init_202 : decode cX9_init 202 = .ok (.iconst 5, 1) := by decide +kernel
theorem dX9_init_203 : decode cX9_init 203 = .ok (.newarray .int, 2) := by decide +kernel
theorem dX9_init_205 : decode cX9_init 205 = .ok (.putfield 83, 3) := by decide +kernel
theorem dX9_init_208 : decode cX9_init 208 = .ok (.aload_n 0, 1) := by decide +kernel
theorem dX9_init_209 : decode cX9_init 209 = .ok (.bipush 6, 2) := by decide +kernel
theorem dX9_init_211 : decode cX9_init 211 = .ok (.newarray .int, 2) := by decide +kernel
theorem dX9_init_213 : decode cX9_init 213 = .ok (.putfield 86, 3) := by decide +kernel
theorem dX9_init_216 : decode cX9_init 216 = .ok (.aload_n 0, 1) := by decide +kernel
theorem dX9_init_217 : decode cX9_init 217 = .ok (.bipush 20, 2) := by decide +kernel
theorem dX9_init_219 : decode cX9_init 219 = .ok (.newarray .int, 2) := by decide +kernel
theorem dX9_init_221 : decode cX9_init 221 = .ok (.putfield 89, 3) := by decide +kernel
theorem dX9_init_224 : decode cX9_init 224 = .ok (.aload_n 0, 1) := by decide +kernel
theorem dX9_init_225 : decode cX9_init 225 = .ok (.bipush 20, 2) := by decide +kernel
theorem dX9_init_227 : decode cX9_init 227 = .ok (.newarray .int, 2) := by decide +kernel
theorem dX9_init_229 : decode cX9_init 229 = .ok (.putfield 92, 3) := by decide +kernel
theorem dX9_init_232 : decode cX9_init 232 = .ok (.aload_n 0, 1) := by decide +kernel
theorem dX9_init_233 : decode cX9_init 233 = .ok (.bipush 20, 2) := by decide +kernel
theorem dX9_init_235 : decode cX9_init 235 = .ok (.newarray .int, 2) := by decide +kernel
theorem dX9_init_237 : decode cX9_init 237 = .ok (.putfield 95, 3) := by decide +kernel
theorem dX9_init_240 : decode cX9_init 240 = .ok (.aload_n 0, 1) := by decide +kernel
theorem dX9_init_241 : decode cX9_init 241 = .ok (.bipush 20, 2) := by decide +kernel
theorem dX9_init_243 : decode cX9_init 243 = .ok (.newarray .int, 2) := by decide +kernel
theorem dX9_init_245 : decode cX9_init 245 = .ok (.putfield 98, 3) := by decide +kernel
theorem dX9_init_248 : decode cX9_init 248 = .ok (.aload_n 0, 1) := by decide +kernel
theorem dX9_init_249 : decode cX9_init 249 = .ok (.bipush 20, 2) := by decide +kernel
theorem dX9_init_251 : decode cX9_init 251 = .ok (.newarray .boolean, 2) := by decide +kernel
theorem dX9_init_253 : decode cX9_init 253 = .ok (.putfield 101, 3) := by decide +kernel
theorem dX9_init_256 : decode cX9_init 256 = .ok (.aload_n 0, 1) := by decide +kernel
theorem dX9_init_257 : decode cX9_init 257 = .ok (.bipush 81, 2) := by decide +kernel
theorem dX9_init_259 : decode cX9_init 259 = .ok (.newarray .int, 2) := by decide +kernel
theorem dX9_init_261 : decode cX9_init 261 = .ok (.putfield 105, 3) := by decide +kernel
theorem dX9_init_264 : decode cX9_init 264 = .ok (.aload_n 0, 1) := by decide +kernel
theorem dX9_init_265 : decode cX9_init 265 = .ok (.bipush 60, 2) := by decide +kernel
theorem dX9_init_267 : decode cX9_init 267 = .ok (.newarray .int, 2) := by decide +kernel
theorem dX9_init_269 : decode cX9_init 269 = .ok (.putfield 108, 3) := by decide +kernel
theorem dX9_init_272 : decode cX9_init 272 = .ok (.aload_n 0, 1) := by decide +kernel
theorem dX9_init_273 : decode cX9_init 273 = .ok (.sipush 384, 3) := by decide +kernel
theorem dX9_init_276 : decode cX9_init 276 = .ok (.newarray .int, 2) := by decide +kernel
theorem dX9_init_278 : decode cX9_init 278 = .ok (.putfield 111, 3) := by decide +kernel
theorem dX9_init_281 : decode cX9_init 281 = .ok (.aload_n 0, 1) := by decide +kernel
theorem dX9_init_282 : decode cX9_init 282 = .ok (.sipush 140, 3) := by decide +kernel
theorem dX9_init_285 : decode cX9_init 285 = .ok (.newarray .long, 2) := by decide +kernel
theorem dX9_init_287 : decode cX9_init 287 = .ok (.putfield 114, 3) := by decide +kernel
theorem dX9_init_290 : decode cX9_init 290 = .ok (.aload_n 0, 1) := by decide +kernel
theorem dX9_init_291 : decode cX9_init 291 = .ok (.sipush 140, 3) := by decide +kernel
theorem dX9_init_294 : decode cX9_init 294 = .ok (.newarray .long, 2) := by decide +kernel
theorem dX9_init_296 : decode cX9_init 296 = .ok (.putfield 117, 3) := by decide +kernel
theorem dX9_init_299 : decode cX9_init 299 = .ok (.aload_n 0, 1) := by decide +kernel
theorem dX9_init_300 : decode cX9_init 300 = .ok (.getfield 7, 3) := by decide +kernel
theorem dX9_init_303 : decode cX9_init 303 = .ok (.iconst 0, 1) := by decide +kernel
theorem dX9_init_304 : decode cX9_init 304 = .ok (.bipush 114, 2) := by decide +kernel
theorem dX9_init_306 : decode cX9_init 306 = .ok (.bipush 117, 2) := by decide +kernel
theorem dX9_init_308 : decode cX9_init 308 = .ok (.bipush 108, 2) := by decide +kernel
theorem dX9_init_310 : decode cX9_init 310 = .ok (.bipush 101, 2) := by decide +kernel
theorem dX9_init_312 : decode cX9_init 312 = .ok (.iconst 0, 1) := by decide +kernel
theorem dX9_init_313 : decode cX9_init 313 = .ok (.iconst 0, 1) := by decide +kernel
theorem dX9_init_314 : decode cX9_init 314 = .ok (.invokestatic 120, 3) := by decide +kernel
theorem dX9_init_317 : decode cX9_init 317 = .ok (.lastore, 1) := by decide +kernel
theorem dX9_init_318 : decode cX9_init 318 = .ok (.aload_n 0, 1) := by decide +kernel
theorem dX9_init_319 : decode cX9_init 319 = .ok (.getfield 7, 3) := by decide +kernel
theorem dX9_init_322 : decode cX9_init 322 = .ok (.iconst 1, 1) := by decide +kernel
theorem dX9_init_323 : decode cX9_init 323 = .ok (.bipush 111, 2) := by decide +kernel
theorem dX9_init_325 : decode cX9_init 325 = .ok (.bipush 110, 2) := by decide +kernel
theorem dX9_init_327 : decode cX9_init 327 = .ok (.iconst 0, 1) := by decide +kernel
theorem dX9_init_328 : decode cX9_init 328 = .ok (.iconst 0, 1) := by decide +kernel
theorem dX9_init_329 : decode cX9_init 329 = .ok (.iconst 0, 1) := by decide +kernel
theorem dX9_init_330 : decode cX9_init 330 = .ok (.iconst 0, 1) := by decide +kernel
theorem dX9_init_331 : decode cX9_init 331 = .ok (.invokestatic 120, 3) := by decide +kernel
theorem dX9_init_334 : decode cX9_init 334 = .ok (.lastore, 1) := by decide +kernel
theorem dX9_init_335 : decode cX9_init 335 = .ok (.aload_n 0, 1) := by decide +kernel
theorem dX9_init_336 : decode cX9_init 336 = .ok (.getfield 7, 3) := by decide +kernel
theorem dX9_init_339 : decode cX9_init 339 = .ok (.iconst 2, 1) := by decide +kernel
theorem dX9_init_340 : decode cX9_init 340 = .ok (.bipush 105, 2) := by decide +kernel
theorem dX9_init_342 : decode cX9_init 342 = .ok (.bipush 102, 2) := by decide +kernel
theorem dX9_init_344 : decode cX9_init 344 = .ok (.iconst 0, 1) := by decide +kernel
theorem dX9_init_345 : decode cX9_init 345 = .ok (.iconst 0, 1) := by decide +kernel
theorem dX9_init_346 : decode cX9_init 346 = .ok (.iconst 0, 1) := by decide +kernel
theorem dX9_init_347 : decode cX9_init 347 = .ok (.iconst 0, 1) := by decide +kernel
theorem dX9_init_348 : decode cX9_init 348 = .ok (.invokestatic 120, 3) := by decide +kernel
theorem dX9_init_351 : decode cX9_init 351 = .ok (.lastore, 1) := by decide +kernel
theorem dX9_init_352 : decode cX9_init 352 = .ok (.aload_n 0, 1) := by decide +kernel
theorem dX9_init_353 : decode cX9_init 353 = .ok (.getfield 7, 3) := by decide +kernel
theorem dX9_init_356 : decode cX9_init 356 = .ok (.iconst 3, 1) := by decide +kernel
theorem dX9_init_357 : decode cX9_init 357 = .ok (.bipush 116, 2) := by decide +kernel
theorem dX9_init_359 : decode cX9_init 359 = .ok (.bipush 104, 2) := by decide +kernel
theorem dX9_init_361 : decode cX9_init 361 = .ok (.bipush 101, 2) := by decide +kernel
theorem dX9_init_363 : decode cX9_init 363 = .ok (.bipush 110, 2) := by decide +kernel
theorem dX9_init_365 : decode cX9_init 365 = .ok (.iconst 0, 1) := by decide +kernel
theorem dX9_init_366 : decode cX9_init 366 = .ok (.iconst 0, 1) := by decide +kernel
theorem dX9_init_367 : decode cX9_init 367 = .ok (.invokestatic 120, 3) := by decide +kernel
theorem dX9_init_370 : decode cX9_init 370 = .ok (.lastore, 1) := by decide +kernel
theorem dX9_init_371 : decode cX9_init 371 = .ok (.aload_n 0, 1) := by decide +kernel
theorem dX9_init_372 : decode cX9_init 372 = .ok (.getfield 7, 3) := by decide +kernel
theorem dX9_init_375 : decode cX9_init 375 = .ok (.iconst 4, 1) := by decide +kernel
theorem dX9_init_376 : decode cX9_init 376 = .ok (.bipush 115, 2) := by decide +kernel
theorem dX9_init_378 : decode cX9_init 378 = .ok (.bipush 116, 2) := by decide +kernel
theorem dX9_init_380 : decode cX9_init 380 = .ok (.bipush 114, 2) := by decide +kernel
theorem dX9_init_382 : decode cX9_init 382 = .ok (.bipush 105, 2) := by decide +kernel
theorem dX9_init_384 : decode cX9_init 384 = .ok (.bipush 107, 2) := by decide +kernel
theorem dX9_init_386 : decode cX9_init 386 = .ok (.bipush 101, 2) := by decide +kernel
theorem dX9_init_388 : decode cX9_init 388 = .ok (.invokestatic 120, 3) := by decide +kernel
theorem dX9_init_391 : decode cX9_init 391 = .ok (.lastore, 1) := by decide +kernel
theorem dX9_init_392 : decode cX9_init 392 = .ok (.aload_n 0, 1) := by decide +kernel
theorem dX9_init_393 : decode cX9_init 393 = .ok (.getfield 7, 3) := by decide +kernel
theorem dX9_init_396 : decode cX9_init 396 = .ok (.iconst 5, 1) := by decide +kernel
theorem dX9_init_397 : decode cX9_init 397 = .ok (.bipush 104, 2) := by decide +kernel
theorem dX9_init_399 : decode cX9_init 399 = .ok (.bipush 111, 2) := by decide +kernel
theorem dX9_init_401 : decode cX9_init 401 = .ok (.bipush 117, 2) := by decide +kernel
theorem dX9_init_403 : decode cX9_init 403 = .ok (.bipush 114, 2) := by decide +kernel
theorem dX9_init_405 : decode cX9_init 405 = .ok (.bipush 115, 2) := by decide +kernel
theorem dX9_init_407 : decode cX9_init 407 = .ok (.iconst 0, 1) := by decide +kernel
theorem dX9_init_408 : decode cX9_init 408 = .ok (.invokestatic 120, 3) := by decide +kernel
theorem dX9_init_411 : decode cX9_init 411 = .ok (.lastore, 1) := by decide +kernel
theorem dX9_init_412 : decode cX9_init 412 = .ok (.aload_n 0, 1) := by decide +kernel
theorem dX9_init_413 : decode cX9_init 413 = .ok (.getfield 7, 3) := by decide +kernel
theorem dX9_init_416 : decode cX9_init 416 = .ok (.bipush 6, 2) := by decide +kernel
theorem dX9_init_418 : decode cX9_init 418 = .ok (.bipush 102, 2) := by decide +kernel
theorem dX9_init_420 : decode cX9_init 420 = .ok (.bipush 114, 2) := by decide +kernel
theorem dX9_init_422 : decode cX9_init 422 = .ok (.bipush 111, 2) := by decide +kernel
theorem dX9_init_424 : decode cX9_init 424 = .ok (.bipush 109, 2) := by decide +kernel
theorem dX9_init_426 : decode cX9_init 426 = .ok (.iconst 0, 1) := by decide +kernel
theorem dX9_init_427 : decode cX9_init 427 = .ok (.iconst 0, 1) := by decide +kernel
theorem dX9_init_428 : decode cX9_init 428 = .ok (.invokestatic 120, 3) := by decide +kernel
theorem dX9_init_431 : decode cX9_init 431 = .ok (.lastore, 1) := by decide +kernel
theorem dX9_init_432 : decode cX9_init 432 = .ok (.aload_n 0, 1) := by decide +kernel
theorem dX9_init_433 : decode cX9_init 433 = .ok (.getfield 7, 3) := by decide +kernel
theorem dX9_init_436 : decode cX9_init 436 = .ok (.bipush 7, 2) := by decide +kernel
theorem dX9_init_438 : decode cX9_init 438 = .ok (.bipush 116, 2) := by decide +kernel
theorem dX9_init_440 : decode cX9_init 440 = .ok (.bipush 111, 2) := by decide +kernel
theorem dX9_init_442 : decode cX9_init 442 = .ok (.iconst 0, 1) := by decide +kernel
theorem dX9_init_443 : decode cX9_init 443 = .ok (.iconst 0, 1) := by decide +kernel
theorem dX9_init_444 : decode cX9_init 444 = .ok (.iconst 0, 1) := by decide +kernel
theorem dX9_init_445 : decode cX9_init 445 = .ok (.iconst 0, 1) := by decide +kernel
theorem dX9_init_446 : decode cX9_init 446 = .ok (.invokestatic 120, 3) := by decide +kernel
theorem dX9_init_449 : decode cX9_init 449 = .ok (.lastore, 1) := by decide +kernel
theorem dX9_init_450 : decode cX9_init 450 = .ok (.aload_n 0, 1) := by decide +kernel
theorem dX9_init_451 : decode cX9_init 451 = .ok (.getfield 7, 3) := by decide +kernel
theorem dX9_init_454 : decode cX9_init 454 = .ok (.bipush 8, 2) := by decide +kernel
theorem dX9_init_456 : decode cX9_init 456 = .ok (.bipush 115, 2) := by decide +kernel
theorem dX9_init_458 : decode cX9_init 458 = .ok (.bipush 99, 2) := by decide +kernel
theorem dX9_init_460 : decode cX9_init 460 = .ok (.bipush 104, 2) := by decide +kernel
theorem dX9_init_462 : decode cX9_init 462 = .ok (.bipush 111, 2) := by decide +kernel
theorem dX9_init_464 : decode cX9_init 464 = .ok (.bipush 111, 2) := by decide +kernel
theorem dX9_init_466 : decode cX9_init 466 = .ok (.bipush 108, 2) := by decide +kernel
theorem dX9_init_468 : decode cX9_init 468 = .ok (.invokestatic 120, 3) := by decide +kernel
theorem dX9_init_471 : decode cX9_init 471 = .ok (.lastore, 1) := by decide +kernel
theorem dX9_init_472 : decode cX9_init 472 = .ok (.aload_n 0, 1) := by decide +kernel
theorem dX9_init_473 : decode cX9_init 473 = .ok (.getfield 7, 3) := by decide +kernel
theorem dX9_init_476 : decode cX9_init 476 = .ok (.bipush 9, 2) := by decide +kernel
theorem dX9_init_478 : decode cX9_init 478 = .ok (.bipush 114, 2) := by decide +kernel
theorem dX9_init_480 : decode cX9_init 480 = .ok (.bipush 101, 2) := by decide +kernel
theorem dX9_init_482 : decode cX9_init 482 = .ok (.bipush 115, 2) := by decide +kernel
theorem dX9_init_484 : decode cX9_init 484 = .ok (.bipush 116, 2) := by decide +kernel
theorem dX9_init_486 : decode cX9_init 486 = .ok (.iconst 0, 1) := by decide +kernel
theorem dX9_init_487 : decode cX9_init 487 = .ok (.iconst 0, 1) := by decide +kernel
theorem dX9_init_488 : decode cX9_init 488 = .ok (.invokestatic 120, 3) := by decide +kernel
theorem dX9_init_491 : decode cX9_init 491 = .ok (.lastore, 1) := by decide +kernel
theorem dX9_init_492 : decode cX9_init 492 = .ok (.aload_n 0, 1) := by decide +kernel
theorem dX9_init_493 : decode cX9_init 493 = .ok (.getfield 7, 3) := by decide +kernel
theorem dX9_init_496 : decode cX9_init 496 = .ok (.bipush 10, 2) := by decide +kernel
theorem dX9_init_498 : decode cX9_init 498 = .ok (.bipush 112, 2) := by decide +kernel
theorem dX9_init_500 : decode cX9_init 500 = .ok (.bipush 97, 2) := by decide +kernel
theorem dX9_init_502 : decode cX9_init 502 = .ok (.bipush 112, 2) := by decide +kernel
theorem dX9_init_504 : decode cX9_init 504 = .ok (.bipush 101, 2) := by decide +kernel
theorem dX9_init_506 : decode cX9_init 506 = .ok (.bipush 114, 2) := by decide +kernel
theorem dX9_init_508 : decode cX9_init 508 = .ok (.iconst 0, 1) := by decide +kernel
theorem dX9_init_509 : decode cX9_init 509 = .ok (.invokestatic 120, 3) := by decide +kernel
theorem dX9_init_512 : decode cX9_init 512 = .ok (.lastore, 1) := by decide +kernel
theorem dX9_init_513 : decode cX9_init 513 = .ok (.aload_n 0, 1) := by decide +kernel
theorem dX9_init_514 : decode cX9_init 514 = .ok (.getfield 7, 3) := by decide +kernel
theorem dX9_init_517 : decode cX9_init 517 = .ok (.bipush 11, 2) := by decide +kernel
theorem dX9_init_519 : decode cX9_init 519 = .ok (.bipush 98, 2) := by decide +kernel
theorem dX9_init_521 : decode cX9_init 521 = .ok (.bipush 97, 2) := by decide +kernel
theorem dX9_init_523 : decode cX9_init 523 = .ok (.bipush 114, 2) := by decide +kernel
theorem dX9_init_525 : decode cX9_init 525 = .ok (.iconst 0, 1) := by decide +kernel
theorem dX9_init_526 : decode cX9_init 526 = .ok (.iconst 0, 1) := by decide +kernel
theorem dX9_init_527 : decode cX9_init 527 = .ok (.iconst 0, 1) := by decide +kernel
theorem dX9_init_528 : decode cX9_init 528 = .ok (.invokestatic 120, 3) := by decide +kernel
theorem dX9_init_531 : decode cX9_init 531 = .ok (.lastore, 1) := by decide +kernel
theorem dX9_init_532 : decode cX9_init 532 = .ok (.aload_n 0, 1) := by decide +kernel
theorem dX9_init_533 : decode cX9_init 533 = .ok (.getfield 7, 3) := by decide +kernel
theorem dX9_init_536 : decode cX9_init 536 = .ok (.bipush 12, 2) := by decide +kernel
theorem dX9_init_538 : decode cX9_init 538 = .ok (.bipush 97, 2) := by decide +kernel
theorem dX9_init_540 : decode cX9_init 540 = .ok (.bipush 103, 2) := by decide +kernel
theorem dX9_init_542 : decode cX9_init 542 = .ok (.bipush 101, 2) := by decide +kernel
theorem dX9_init_544 : decode cX9_init 544 = .ok (.iconst 0, 1) := by decide +kernel
theorem dX9_init_545 : decode cX9_init 545 = .ok (.iconst 0, 1) := by decide +kernel
theorem dX9_init_546 : decode cX9_init 546 = .ok (.iconst 0, 1) := by decide +kernel
theorem dX9_init_547 : decode cX9_init 547 = .ok (.invokestatic 120, 3) := by decide +kernel
theorem dX9_init_550 : decode cX9_init 550 = .ok (.lastore, 1) := by decide +kernel
theorem dX9_init_551 : decode cX9_init 551 = .ok (.aload_n 0, 1) := by decide +kernel
theorem dX9_init_552 : decode cX9_init 552 = .ok (.getfield 7, 3) := by decide +kernel
theorem dX9_init_555 : decode cX9_init 555 = .ok (.bipush 13, 2) := by decide +kernel
theorem dX9_init_557 : decode cX9_init 557 = .ok (.bipush 107, 2) := by decide +kernel
theorem dX9_init_559 : decode cX9_init 559 = .ok (.bipush 105, 2) := by decide +kernel
theorem dX9_init_561 : decode cX9_init 561 = .ok (.bipush 110, 2) := by decide +kernel
theorem dX9_init_563 : decode cX9_init 563 = .ok (.bipush 100, 2) := by decide +kernel
theorem dX9_init_565 : decode cX9_init 565 = .ok (.iconst 0, 1) := by decide +kernel
theorem dX9_init_566 : decode cX9_init 566 = .ok (.iconst 0, 1) := by decide +kernel
theorem dX9_init_567 : decode cX9_init 567 = .ok (.invokestatic 120, 3) := by decide +kernel
theorem dX9_init_570 : decode cX9_init 570 = .ok (.lastore, 1) := by decide +kernel
theorem dX9_init_571 : decode cX9_init 571 = .ok (.aload_n 0, 1) := by decide +kernel
theorem dX9_init_572 : decode cX9_init 572 = .ok (.getfield 7, 3) := by decide +kernel
theorem dX9_init_575 : decode cX9_init 575 = .ok (.bipush 14, 2) := by decide +kernel
theorem dX9_init_577 : decode cX9_init 577 = .ok (.bipush 116, 2) := by decide +kernel
theorem dX9_init_579 : decode cX9_init 579 = .ok (.bipush 114, 2) := by decide +kernel
theorem dX9_init_581 : decode cX9_init 581 = .ok (.bipush 97, 2) := by decide +kernel
theorem dX9_init_583 : decode cX9_init 583 = .ok (.bipush 100, 2) := by decide +kernel
theorem dX9_init_585 : decode cX9_init 585 = .ok (.bipush 101, 2) := by decide +kernel
theorem dX9_init_587 : decode cX9_init 587 = .ok (.iconst 0, 1) := by decide +kernel
theorem dX9_init_588 : decode cX9_init 588 = .ok (.invokestatic 120, 3) := by decide +kernel
theorem dX9_init_591 : decode cX9_init 591 = .ok (.lastore, 1) := by decide +kernel
theorem dX9_init_592 : decode cX9_init 592 = .ok (.aload_n 0, 1) := by decide +kernel
theorem dX9_init_593 : decode cX9_init 593 = .ok (.getfield 7, 3) := by decide +kernel
theorem dX9_init_596 : decode cX9_init 596 = .ok (.bipush 15, 2) := by decide +kernel
theorem dX9_init_598 : decode cX9_init 598 = .ok (.bipush 109, 2) := by decide +kernel
theorem dX9_init_600 : decode cX9_init 600 = .ok (.bipush 105, 2) := by decide +kernel
theorem dX9_init_602 : decode cX9_init 602 = .ok (.bipush 108, 2) := by decide +kernel
theorem dX9_init_604 : decode cX9_init 604 = .ok (.bipush 108, 2) := by decide +kernel
theorem dX9_init_606 : decode cX9_init 606 = .ok (.iconst 0, 1) := by decide +kernel
theorem dX9_init_607 : decode cX9_init 607 = .ok (.iconst 0, 1) := by decide +kernel
theorem dX9_init_608 : decode cX9_init 608 = .ok (.invokestatic 120, 3) := by decide +kernel
theorem dX9_init_611 : decode cX9_init 611 = .ok (.lastore, 1) := by decide +kernel
theorem dX9_init_612 : decode cX9_init 612 = .ok (.iconst 0, 1) := by decide +kernel
theorem dX9_init_613 : decode cX9_init 613 = .ok (.istore_n 1, 1) := by decide +kernel
theorem dX9_init_614 : decode cX9_init 614 = .ok (.iload_n 1, 1) := by decide +kernel
theorem dX9_init_615 : decode cX9_init 615 = .ok (.bipush 6, 2) := by decide +kernel
theorem dX9_init_617 : decode cX9_init 617 = .ok (.if_icmp .ge 37, 3) := by decide +kernel
theorem dX9_init_620 : decode cX9_init 620 = .ok (.aload_n 0, 1) := by decide +kernel
theorem dX9_init_621 : decode cX9_init 621 = .ok (.getfield 77, 3) := by decide +kernel
theorem dX9_init_624 : decode cX9_init 624 = .ok (.iload_n 1, 1) := by decide +kernel
theorem dX9_init_625 : decode cX9_init 625 = .ok (.bipush 90, 2) := by decide +kernel
theorem dX9_init_627 : decode cX9_init 627 = .ok (.iastore, 1) := by decide +kernel
theorem dX9_init_628 : decode cX9_init 628 = .ok (.aload_n 0, 1) := by decide +kernel
theorem dX9_init_629 : decode cX9_init 629 = .ok (.getfield 80, 3) := by decide +kernel
theorem dX9_init_632 : decode cX9_init 632 = .ok (.iload_n 1, 1) := by decide +kernel
theorem dX9_init_633 : decode cX9_init 633 = .ok (.iconst 1, 1) := by decide +kernel
theorem dX9_init_634 : decode cX9_init 634 = .ok (.iastore, 1) := by decide +kernel
theorem dX9_init_635 : decode cX9_init 635 = .ok (.aload_n 0, 1) := by decide +kernel
theorem dX9_init_636 : decode cX9_init 636 = .ok (.getfield 86, 3) := by decide +kernel
theorem dX9_init_639 : decode cX9_init 639 = .ok (.iload_n 1, 1) := by decide +kernel
theorem dX9_init_640 : decode cX9_init 640 = .ok (.bipush 20, 2) := by decide +kernel
theorem dX9_init_642 : decode cX9_init 642 = .ok (.iload_n 1, 1) := by decide +kernel
theorem dX9_init_643 : decode cX9_init 643 = .ok (.imul, 1) := by decide +kernel
theorem dX9_init_644 : decode cX9_init 644 = .ok (.bipush 20, 2) := by decide +kernel
theorem dX9_init_646 : decode cX9_init 646 = .ok (.iadd, 1) := by decide +kernel
theorem dX9_init_647 : decode cX9_init 647 = .ok (.iastore, 1) := by decide +kernel
theorem dX9_init_648 : decode cX9_init 648 = .ok (.iinc 1 1, 3) := by decide +kernel
theorem dX9_init_651 : decode cX9_init 651 = .ok (.goto (-37), 3) := by decide +kernel
theorem dX9_init_654 : decode cX9_init 654 = .ok (.iconst 0, 1) := by decide +kernel
theorem dX9_init_655 : decode cX9_init 655 = .ok (.istore_n 1, 1) := by decide +kernel
theorem dX9_init_656 : decode cX9_init 656 = .ok (.iload_n 1, 1) := by decide +kernel
theorem dX9_init_657 : decode cX9_init 657 = .ok (.bipush 81, 2) := by decide +kernel
theorem dX9_init_659 : decode cX9_init 659 = .ok (.if_icmp .ge 32, 3) := by decide +kernel
theorem dX9_init_662 : decode cX9_init 662 = .ok (.aload_n 0, 1) := by decide +kernel
theorem dX9_init_663 : decode cX9_init 663 = .ok (.getfield 105, 3) := by decide +kernel
theorem dX9_init_666 : decode cX9_init 666 = .ok (.iload_n 1, 1) := by decide +kernel
theorem dX9_init_667 : decode cX9_init 667 = .ok (.iload_n 1, 1) := by decide +kernel
theorem dX9_init_668 : decode cX9_init 668 = .ok (.bipush 9, 2) := by decide +kernel
theorem dX9_init_670 : decode cX9_init 670 = .ok (.idiv, 1) := by decide +kernel
theorem dX9_init_671 : decode cX9_init 671 = .ok (.iload_n 1, 1) := by decide +kernel
theorem dX9_init_672 : decode cX9_init 672 = .ok (.bipush 9, 2) := by decide +kernel
theorem dX9_init_674 : decode cX9_init 674 = .ok (.irem, 1) := by decide +kernel
theorem dX9_init_675 : decode cX9_init 675 = .ok (.if_icmp .ne 7, 3) := by decide +kernel
theorem dX9_init_678 : decode cX9_init 678 = .ok (.iconst 0, 1) := by decide +kernel
theorem dX9_init_679 : decode cX9_init 679 = .ok (.goto 5, 3) := by decide +kernel
theorem dX9_init_682 : decode cX9_init 682 = .ok (.bipush 10, 2) := by decide +kernel
theorem dX9_init_684 : decode cX9_init 684 = .ok (.iastore, 1) := by decide +kernel
theorem dX9_init_685 : decode cX9_init 685 = .ok (.iinc 1 1, 3) := by decide +kernel
theorem dX9_init_688 : decode cX9_init 688 = .ok (.goto (-32), 3) := by decide +kernel
theorem dX9_init_691 : decode cX9_init 691 = .ok (.return_, 1) := by decide +kernel
theorem dX9_in_0 : decode cX9_in 0 = .ok (.iload_n 0, 1) := by decide +kernel
theorem dX9_in_1 : decode cX9_in 1 = .ok (.iload_n 1, 1) := by decide +kernel
theorem dX9_in_2 : decode cX9_in 2 = .ok (.if_icmp .lt 12, 3) := by decide +kernel
theorem dX9_in_5 : decode cX9_in 5 = .ok (.iload_n 0, 1) := by decide +kernel
theorem dX9_in_6 : decode cX9_in 6 = .ok (.iload_n 2, 1) := by decide +kernel
theorem dX9_in_7 : decode cX9_in 7 = .ok (.if_icmp .gt 7, 3) := by decide +kernel
theorem dX9_in_10 : decode cX9_in 10 = .ok (.iconst 1, 1) := by decide +kernel
theorem dX9_in_11 : decode cX9_in 11 = .ok (.goto 4, 3) := by decide +kernel
theorem dX9_in_14 : decode cX9_in 14 = .ok (.iconst 0, 1) := by decide +kernel
theorem dX9_in_15 : decode cX9_in 15 = .ok (.ireturn, 1) := by decide +kernel
theorem dX9_add_0 : decode cX9_add 0 = .ok (.iload_n 2, 1) := by decide +kernel
theorem dX9_add_1 : decode cX9_add 1 = .ok (.ifCond .ne 7, 3) := by decide +kernel
theorem dX9_add_4 : decode cX9_add 4 = .ok (.lload_n 0, 1) := by decide +kernel
theorem dX9_add_5 : decode cX9_add 5 = .ok (.goto 11, 3) := by decide +kernel
theorem dX9_add_8 : decode cX9_add 8 = .ok (.ldc2_w 128, 3) := by decide +kernel
theorem dX9_add_11 : decode cX9_add 11 = .ok (.lload_n 0, 1) := by decide +kernel
theorem dX9_add_12 : decode cX9_add 12 = .ok (.lmul, 1) := by decide +kernel
theorem dX9_add_13 : decode cX9_add 13 = .ok (.iload_n 2, 1) := by decide +kernel
theorem dX9_add_14 : decode cX9_add 14 = .ok (.i2l, 1) := by decide +kernel
theorem dX9_add_15 : decode cX9_add 15 = .ok (.ladd, 1) := by decide +kernel
theorem dX9_add_16 : decode cX9_add 16 = .ok (.lreturn, 1) := by decide +kernel
theorem dX9_word_0 : decode cX9_word 0 = .ok (.lconst 0, 1) := by decide +kernel
theorem dX9_word_1 : decode cX9_word 1 = .ok (.iload_n 0, 1) := by decide +kernel
theorem dX9_word_2 : decode cX9_word 2 = .ok (.invokestatic 130, 3) := by decide +kernel
theorem dX9_word_5 : decode cX9_word 5 = .ok (.iload_n 1, 1) := by decide +kernel
theorem dX9_word_6 : decode cX9_word 6 = .ok (.invokestatic 130, 3) := by decide +kernel
theorem dX9_word_9 : decode cX9_word 9 = .ok (.iload_n 2, 1) := by decide +kernel
theorem dX9_word_10 : decode cX9_word 10 = .ok (.invokestatic 130, 3) := by decide +kernel
theorem dX9_word_13 : decode cX9_word 13 = .ok (.iload_n 3, 1) := by decide +kernel
theorem dX9_word_14 : decode cX9_word 14 = .ok (.invokestatic 130, 3) := by decide +kernel
theorem dX9_word_17 : decode cX9_word 17 = .ok (.iload 4, 2) := by decide +kernel
theorem dX9_word_19 : decode cX9_word 19 = .ok (.invokestatic 130, 3) := by decide +kernel
theorem dX9_word_22 : decode cX9_word 22 = .ok (.iload 5, 2) := by decide +kernel
theorem dX9_word_24 : decode cX9_word 24 = .ok (.invokestatic 130, 3) := by decide +kernel
theorem dX9_word_27 : decode cX9_word 27 = .ok (.lreturn, 1) := by decide +kernel
theorem dX9_isMill_0 : decode cX9_isMill 0 = .ok (.iload_n 1, 1) := by decide +kernel
theorem dX9_isMill_1 : decode cX9_isMill 1 = .ok (.iconst 0, 1) := by decide +kernel
theorem dX9_isMill_2 : decode cX9_isMill 2 = .ok (.aload_n 0, 1) := by decide +kernel
theorem dX9_isMill_3 : decode cX9_isMill 3 = .ok (.getfield 134, 3) := by decide +kernel
theorem dX9_isMill_6 : decode cX9_isMill 6 = .ok (.iconst 1, 1) := by decide +kernel
theorem dX9_isMill_7 : decode cX9_isMill 7 = .ok (.isub, 1) := by decide +kernel
theorem dX9_isMill_8 : decode cX9_isMill 8 = .ok (.invokestatic 137, 3) := by decide +kernel
theorem dX9_isMill_11 : decode cX9_isMill 11 = .ok (.ireturn, 1) := by decide +kernel
theorem dX9_isHand_0 : decode cX9_isHand 0 = .ok (.iload_n 1, 1) := by decide +kernel
theorem dX9_isHand_1 : decode cX9_isHand 1 = .ok (.iconst 0, 1) := by decide +kernel
theorem dX9_isHand_2 : decode cX9_isHand 2 = .ok (.aload_n 0, 1) := by decide +kernel
theorem dX9_isHand_3 : decode cX9_isHand 3 = .ok (.getfield 141, 3) := by decide +kernel
theorem dX9_isHand_6 : decode cX9_isHand 6 = .ok (.iconst 1, 1) := by decide +kernel
theorem dX9_isHand_7 : decode cX9_isHand 7 = .ok (.isub, 1) := by decide +kernel
theorem dX9_isHand_8 : decode cX9_isHand 8 = .ok (.invokestatic 137, 3) := by decide +kernel
theorem dX9_isHand_11 : decode cX9_isHand 11 = .ok (.ireturn, 1) := by decide +kernel
theorem dX9_isDay_0 : decode cX9_isDay 0 = .ok (.iload_n 0, 1) := by decide +kernel
theorem dX9_isDay_1 : decode cX9_isDay 1 = .ok (.iconst 0, 1) := by decide +kernel
theorem dX9_isDay_2 : decode cX9_isDay 2 = .ok (.sipush 359, 3) := by decide +kernel
theorem dX9_isDay_5 : decode cX9_isDay 5 = .ok (.invokestatic 137, 3) := by decide +kernel
theorem dX9_isDay_8 : decode cX9_isDay 8 = .ok (.ireturn, 1) := by decide +kernel
theorem dX9_mill_0 : decode cX9_mill 0 = .ok (.aload_n 0, 1) := by decide +kernel
theorem dX9_mill_1 : decode cX9_mill 1 = .ok (.iconst 0, 1) := by decide +kernel
theorem dX9_mill_2 : decode cX9_mill 2 = .ok (.putfield 124, 3) := by decide +kernel
theorem dX9_mill_5 : decode cX9_mill 5 = .ok (.iload_n 1, 1) := by decide +kernel
theorem dX9_mill_6 : decode cX9_mill 6 = .ok (.iconst 0, 1) := by decide +kernel
theorem dX9_mill_7 : decode cX9_mill 7 = .ok (.iconst 3, 1) := by decide +kernel
theorem dX9_mill_8 : decode cX9_mill 8 = .ok (.invokestatic 137, 3) := by decide +kernel
theorem dX9_mill_11 : decode cX9_mill 11 = .ok (.ifCond .eq 23, 3) := by decide +kernel
theorem dX9_mill_14 : decode cX9_mill 14 = .ok (.iload_n 2, 1) := by decide +kernel
theorem dX9_mill_15 : decode cX9_mill 15 = .ok (.iconst 1, 1) := by decide +kernel
theorem dX9_mill_16 : decode cX9_mill 16 = .ok (.bipush 9, 2) := by decide +kernel
theorem dX9_mill_18 : decode cX9_mill 18 = .ok (.invokestatic 137, 3) := by decide +kernel
theorem dX9_mill_21 : decode cX9_mill 21 = .ok (.ifCond .eq 13, 3) := by decide +kernel
theorem dX9_mill_24 : decode cX9_mill 24 = .ok (.iload_n 3, 1) := by decide +kernel
theorem dX9_mill_25 : decode cX9_mill 25 = .ok (.iconst 1, 1) := by decide +kernel
theorem dX9_mill_26 : decode cX9_mill 26 = .ok (.bipush 8, 2) := by decide +kernel
theorem dX9_mill_28 : decode cX9_mill 28 = .ok (.invokestatic 137, 3) := by decide +kernel
theorem dX9_mill_31 : decode cX9_mill 31 = .ok (.ifCond .ne 5, 3) := by decide +kernel
theorem dX9_mill_34 : decode cX9_mill 34 = .ok (.iconst (-1), 1) := by decide +kernel
theorem dX9_mill_35 : decode cX9_mill 35 = .ok (.ireturn, 1) := by decide +kernel
theorem dX9_mill_36 : decode cX9_mill 36 = .ok (.aload_n 0, 1) := by decide +kernel
theorem dX9_mill_37 : decode cX9_mill 37 = .ok (.getfield 134, 3) := by decide +kernel
theorem dX9_mill_40 : decode cX9_mill 40 = .ok (.bipush 6, 2) := by decide +kernel
theorem dX9_mill_42 : decode cX9_mill 42 = .ok (.if_icmp .ne 6, 3) := by decide +kernel
theorem dX9_mill_45 : decode cX9_mill 45 = .ok (.bipush (-3), 2) := by decide +kernel
theorem dX9_mill_47 : decode cX9_mill 47 = .ok (.ireturn, 1) := by decide +kernel
theorem dX9_mill_48 : decode cX9_mill 48 = .ok (.aload_n 0, 1) := by decide +kernel
theorem dX9_mill_49 : decode cX9_mill 49 = .ok (.getfield 13, 3) := by decide +kernel
theorem dX9_mill_52 : decode cX9_mill 52 = .ok (.aload_n 0, 1) := by decide +kernel
theorem dX9_mill_53 : decode cX9_mill 53 = .ok (.getfield 134, 3) := by decide +kernel
theorem dX9_mill_56 : decode cX9_mill 56 = .ok (.iload_n 1, 1) := by decide +kernel
theorem dX9_mill_57 : decode cX9_mill 57 = .ok (.iastore, 1) := by decide +kernel
theorem dX9_mill_58 : decode cX9_mill 58 = .ok (.aload_n 0, 1) := by decide +kernel
theorem dX9_mill_59 : decode cX9_mill 59 = .ok (.getfield 17, 3) := by decide +kernel
theorem dX9_mill_62 : decode cX9_mill 62 = .ok (.aload_n 0, 1) := by decide +kernel
theorem dX9_mill_63 : decode cX9_mill 63 = .ok (.getfield 134, 3) := by decide +kernel
theorem dX9_mill_66 : decode cX9_mill 66 = .ok (.iload_n 2, 1) := by decide +kernel
theorem dX9_mill_67 : decode cX9_mill 67 = .ok (.iastore, 1) := by decide +kernel
theorem dX9_mill_68 : decode cX9_mill 68 = .ok (.aload_n 0, 1) := by decide +kernel
theorem dX9_mill_69 : decode cX9_mill 69 = .ok (.getfield 20, 3) := by decide +kernel
theorem dX9_mill_72 : decode cX9_mill 72 = .ok (.aload_n 0, 1) := by decide +kernel
theorem dX9_mill_73 : decode cX9_mill 73 = .ok (.getfield 134, 3) := by decide +kernel
theorem dX9_mill_76 : decode cX9_mill 76 = .ok (.iload_n 3, 1) := by decide +kernel
theorem dX9_mill_77 : decode cX9_mill 77 = .ok (.iastore, 1) := by decide +kernel
theorem dX9_mill_78 : decode cX9_mill 78 = .ok (.aload_n 0, 1) := by decide +kernel
theorem dX9_mill_79 : decode cX9_mill 79 = .ok (.dup, 1) := by decide +kernel
theorem dX9_mill_80 : decode cX9_mill 80 = .ok (.getfield 134, 3) := by decide +kernel
theorem dX9_mill_83 : decode cX9_mill 83 = .ok (.iconst 1, 1) := by decide +kernel
theorem dX9_mill_84 : decode cX9_mill 84 = .ok (.iadd, 1) := by decide +kernel
theorem dX9_mill_85 : decode cX9_mill 85 = .ok (.putfield 134, 3) := by decide +kernel
theorem dX9_mill_88 : decode cX9_mill 88 = .ok (.aload_n 0, 1) := by decide +kernel
theorem dX9_mill_89 : decode cX9_mill 89 = .ok (.getfield 134, 3) := by decide +kernel
theorem dX9_mill_92 : decode cX9_mill 92 = .ok (.iconst 1, 1) := by decide +kernel
theorem dX9_mill_93 : decode cX9_mill 93 = .ok (.isub, 1) := by decide +kernel
theorem dX9_mill_94 : decode cX9_mill 94 = .ok (.ireturn, 1) := by decide +kernel
theorem dX9_hand_0 : decode cX9_hand 0 = .ok (.aload_n 0, 1) := by decide +kernel
theorem dX9_hand_1 : decode cX9_hand 1 = .ok (.iconst 0, 1) := by decide +kernel
theorem dX9_hand_2 : decode cX9_hand 2 = .ok (.putfield 124, 3) := by decide +kernel
theorem dX9_hand_5 : decode cX9_hand 5 = .ok (.iload_n 1, 1) := by decide +kernel
theorem dX9_hand_6 : decode cX9_hand 6 = .ok (.iconst 0, 1) := by decide +kernel
theorem dX9_hand_7 : decode cX9_hand 7 = .ok (.iconst 5, 1) := by decide +kernel
theorem dX9_hand_8 : decode cX9_hand 8 = .ok (.invokestatic 137, 3) := by decide +kernel
theorem dX9_hand_11 : decode cX9_hand 11 = .ok (.ifCond .eq 12, 3) := by decide +kernel
theorem dX9_hand_14 : decode cX9_hand 14 = .ok (.iload_n 2, 1) := by decide +kernel
theorem dX9_hand_15 : decode cX9_hand 15 = .ok (.iconst 0, 1) := by decide +kernel
theorem dX9_hand_16 : decode cX9_hand 16 = .ok (.iconst 3, 1) := by decide +kernel
theorem dX9_hand_17 : decode cX9_hand 17 = .ok (.invokestatic 137, 3) := by decide +kernel
theorem dX9_hand_20 : decode cX9_hand 20 = .ok (.ifCond .ne 5, 3) := by decide +kernel
theorem dX9_hand_23 : decode cX9_hand 23 = .ok (.iconst (-1), 1) := by decide +kernel
theorem dX9_hand_24 : decode cX9_hand 24 = .ok (.ireturn, 1) := by decide +kernel
theorem dX9_hand_25 : decode cX9_hand 25 = .ok (.aload_n 0, 1) := by decide +kernel
theorem dX9_hand_26 : decode cX9_hand 26 = .ok (.getfield 141, 3) := by decide +kernel
theorem dX9_hand_29 : decode cX9_hand 29 = .ok (.bipush 24, 2) := by decide +kernel
theorem dX9_hand_31 : decode cX9_hand 31 = .ok (.if_icmp .ne 6, 3) := by decide +kernel
theorem dX9_hand_34 : decode cX9_hand 34 = .ok (.bipush (-3), 2) := by decide +kernel
theorem dX9_hand_36 : decode cX9_hand 36 = .ok (.ireturn, 1) := by decide +kernel
theorem dX9_hand_37 : decode cX9_hand 37 = .ok (.aload_n 0, 1) := by decide +kernel
theorem dX9_hand_38 : decode cX9_hand 38 = .ok (.getfield 26, 3) := by decide +kernel
theorem dX9_hand_41 : decode cX9_hand 41 = .ok (.aload_n 0, 1) := by decide +kernel
theorem dX9_hand_42 : decode cX9_hand 42 = .ok (.getfield 141, 3) := by decide +kernel
theorem dX9_hand_45 : decode cX9_hand 45 = .ok (.iload_n 1, 1) := by decide +kernel
theorem dX9_hand_46 : decode cX9_hand 46 = .ok (.iastore, 1) := by decide +kernel
theorem dX9_hand_47 : decode cX9_hand 47 = .ok (.aload_n 0, 1) := by decide +kernel
theorem dX9_hand_48 : decode cX9_hand 48 = .ok (.getfield 29, 3) := by decide +kernel
theorem dX9_hand_51 : decode cX9_hand 51 = .ok (.aload_n 0, 1) := by decide +kernel
theorem dX9_hand_52 : decode cX9_hand 52 = .ok (.getfield 141, 3) := by decide +kernel
theorem dX9_hand_55 : decode cX9_hand 55 = .ok (.iload_n 2, 1) := by decide +kernel
theorem dX9_hand_56 : decode cX9_hand 56 = .ok (.iastore, 1) := by decide +kernel
theorem dX9_hand_57 : decode cX9_hand 57 = .ok (.aload_n 0, 1) := by decide +kernel
theorem dX9_hand_58 : decode cX9_hand 58 = .ok (.dup, 1) := by decide +kernel
theorem dX9_hand_59 : decode cX9_hand 59 = .ok (.getfield 141, 3) := by decide +kernel
theorem dX9_hand_62 : decode cX9_hand 62 = .ok (.iconst 1, 1) := by decide +kernel
theorem dX9_hand_63 : decode cX9_hand 63 = .ok (.iadd, 1) := by decide +kernel
theorem dX9_hand_64 : decode cX9_hand 64 = .ok (.putfield 141, 3) := by decide +kernel
theorem dX9_hand_67 : decode cX9_hand 67 = .ok (.aload_n 0, 1) := by decide +kernel
theorem dX9_hand_68 : decode cX9_hand 68 = .ok (.getfield 141, 3) := by decide +kernel
theorem dX9_hand_71 : decode cX9_hand 71 = .ok (.iconst 1, 1) := by decide +kernel
theorem dX9_hand_72 : decode cX9_hand 72 = .ok (.isub, 1) := by decide +kernel
theorem dX9_hand_73 : decode cX9_hand 73 = .ok (.ireturn, 1) := by decide +kernel
theorem dX9_customOf_0 : decode cX9_customOf 0 = .ok (.sipush 900, 3) := by decide +kernel
theorem dX9_customOf_3 : decode cX9_customOf 3 = .ok (.bipush 30, 2) := by decide +kernel
theorem dX9_customOf_5 : decode cX9_customOf 5 = .ok (.aload_n 0, 1) := by decide +kernel
theorem dX9_customOf_6 : decode cX9_customOf 6 = .ok (.getfield 29, 3) := by decide +kernel
theorem dX9_customOf_9 : decode cX9_customOf 9 = .ok (.iload_n 2, 1) := by decide +kernel
theorem dX9_customOf_10 : decode cX9_customOf 10 = .ok (.iaload, 1) := by decide +kernel
theorem dX9_customOf_11 : decode cX9_customOf 11 = .ok (.imul, 1) := by decide +kernel
theorem dX9_customOf_12 : decode cX9_customOf 12 = .ok (.isub, 1) := by decide +kernel
theorem dX9_customOf_13 : decode cX9_customOf 13 = .ok (.istore_n 3, 1) := by decide +kernel
theorem dX9_customOf_14 : decode cX9_customOf 14 = .ok (.iload_n 3, 1) := by decide +kernel
theorem dX9_customOf_15 : decode cX9_customOf 15 = .ok (.iconst 2, 1) := by decide +kernel
theorem dX9_customOf_16 : decode cX9_customOf 16 = .ok (.idiv, 1) := by decide +kernel
theorem dX9_customOf_17 : decode cX9_customOf 17 = .ok (.bipush 30, 2) := by decide +kernel
theorem dX9_customOf_19 : decode cX9_customOf 19 = .ok (.iadd, 1) := by decide +kernel
theorem dX9_customOf_20 : decode cX9_customOf 20 = .ok (.istore 4, 2) := by decide +kernel
theorem dX9_customOf_22 : decode cX9_customOf 22 = .ok (.iload_n 1, 1) := by decide +kernel
theorem dX9_customOf_23 : decode cX9_customOf 23 = .ok (.ifCond .ne 7, 3) := by decide +kernel
theorem dX9_customOf_26 : decode cX9_customOf 26 = .ok (.iload_n 3, 1) := by decide +kernel
theorem dX9_customOf_27 : decode cX9_customOf 27 = .ok (.goto 65, 3) := by decide +kernel
theorem dX9_customOf_30 : decode cX9_customOf 30 = .ok (.iload_n 1, 1) := by decide +kernel
theorem dX9_customOf_31 : decode cX9_customOf 31 = .ok (.iconst 1, 1) := by decide +kernel
theorem dX9_customOf_32 : decode cX9_customOf 32 = .ok (.if_icmp .ne 8, 3) := by decide +kernel
theorem dX9_customOf_35 : decode cX9_customOf 35 = .ok (.iload 4, 2) := by decide +kernel
theorem dX9_customOf_37 : decode cX9_customOf 37 = .ok (.goto 55, 3) := by decide +kernel
theorem dX9_customOf_40 : decode cX9_customOf 40 = .ok (.iload_n 1, 1) := by decide +kernel
theorem dX9_customOf_41 : decode cX9_customOf 41 = .ok (.iconst 2, 1) := by decide +kernel
theorem dX9_customOf_42 : decode cX9_customOf 42 = .ok (.if_icmp .ne 11, 3) := by decide +kernel
theorem dX9_customOf_45 : decode cX9_customOf 45 = .ok (.iload_n 3, 1) := by decide +kernel
theorem dX9_customOf_46 : decode cX9_customOf 46 = .ok (.sipush 150, 3) := by decide +kernel
theorem dX9_customOf_49 : decode cX9_customOf 49 = .ok (.isub, 1) := by decide +kernel
theorem dX9_customOf_50 : decode cX9_customOf 50 = .ok (.goto 42, 3) := by decide +kernel
theorem dX9_customOf_53 : decode cX9_customOf 53 = .ok (.iload_n 1, 1) := by decide +kernel
theorem dX9_customOf_54 : decode cX9_customOf 54 = .ok (.iconst 3, 1) := by decide +kernel
theorem dX9_customOf_55 : decode cX9_customOf 55 = .ok (.if_icmp .ne 11, 3) := by decide +kernel
theorem dX9_customOf_58 : decode cX9_customOf 58 = .ok (.iload 4, 2) := by decide +kernel
theorem dX9_customOf_60 : decode cX9_customOf 60 = .ok (.bipush 45, 2) := by decide +kernel
theorem dX9_customOf_62 : decode cX9_customOf 62 = .ok (.isub, 1) := by decide +kernel
theorem dX9_customOf_63 : decode cX9_customOf 63 = .ok (.goto 29, 3) := by decide +kernel
theorem dX9_customOf_66 : decode cX9_customOf 66 = .ok (.iload_n 1, 1) := by decide +kernel
theorem dX9_customOf_67 : decode cX9_customOf 67 = .ok (.iconst 4, 1) := by decide +kernel
theorem dX9_customOf_68 : decode cX9_customOf 68 = .ok (.if_icmp .ne 12, 3) := by decide +kernel
theorem dX9_customOf_71 : decode cX9_customOf 71 = .ok (.iload_n 3, 1) := by decide +kernel
theorem dX9_customOf_72 : decode cX9_customOf 72 = .ok (.iload_n 3, 1) := by decide +kernel
theorem dX9_customOf_73 : decode cX9_customOf 73 = .ok (.bipush 10, 2) := by decide +kernel
theorem dX9_customOf_75 : decode cX9_customOf 75 = .ok (.idiv, 1) := by decide +kernel
theorem dX9_customOf_76 : decode cX9_customOf 76 = .ok (.isub, 1) := by decide +kernel
theorem dX9_customOf_77 : decode cX9_customOf 77 = .ok (.goto 15, 3) := by decide +kernel
theorem dX9_customOf_80 : decode cX9_customOf 80 = .ok (.iload 4, 2) := by decide +kernel
theorem dX9_customOf_82 : decode cX9_customOf 82 = .ok (.bipush 15, 2) := by decide +kernel
theorem dX9_customOf_84 : decode cX9_customOf 84 = .ok (.aload_n 0, 1) := by decide +kernel
theorem dX9_customOf_85 : decode cX9_customOf 85 = .ok (.getfield 32, 3) := by decide +kernel
theorem dX9_customOf_88 : decode cX9_customOf 88 = .ok (.iload_n 2, 1) := by decide +kernel
theorem dX9_customOf_89 : decode cX9_customOf 89 = .ok (.iaload, 1) := by decide +kernel
theorem dX9_customOf_90 : decode cX9_customOf 90 = .ok (.imul, 1) := by decide +kernel
theorem dX9_customOf_91 : decode cX9_customOf 91 = .ok (.iadd, 1) := by decide +kernel
theorem dX9_customOf_92 : decode cX9_customOf 92 = .ok (.ireturn, 1) := by decide +kernel
theorem dX9_custom_0 : decode cX9_custom 0 = .ok (.aload_n 0, 1) := by decide +kernel
theorem dX9_custom_1 : decode cX9_custom 1 = .ok (.iconst 0, 1) := by decide +kernel
theorem dX9_custom_2 : decode cX9_custom 2 = .ok (.putfield 124, 3) := by decide +kernel
theorem dX9_custom_5 : decode cX9_custom 5 = .ok (.iload_n 1, 1) := by decide +kernel
theorem dX9_custom_6 : decode cX9_custom 6 = .ok (.iconst 0, 1) := by decide +kernel
theorem dX9_custom_7 : decode cX9_custom 7 = .ok (.iconst 5, 1) := by decide +kernel
theorem dX9_custom_8 : decode cX9_custom 8 = .ok (.invokestatic 137, 3) := by decide +kernel
theorem dX9_custom_11 : decode cX9_custom 11 = .ok (.ifCond .eq 11, 3) := by decide +kernel
theorem dX9_custom_14 : decode cX9_custom 14 = .ok (.aload_n 0, 1) := by decide +kernel
theorem dX9_custom_15 : decode cX9_custom 15 = .ok (.iload_n 2, 1) := by decide +kernel
theorem dX9_custom_16 : decode cX9_custom 16 = .ok (.invokevirtual 144, 3) := by decide +kernel
theorem dX9_custom_19 : decode cX9_custom 19 = .ok (.ifCond .ne 5, 3) := by decide +kernel
theorem dX9_custom_22 : decode cX9_custom 22 = .ok (.iconst (-1), 1) := by decide +kernel
theorem dX9_custom_23 : decode cX9_custom 23 = .ok (.ireturn, 1) := by decide +kernel
theorem dX9_custom_24 : decode cX9_custom 24 = .ok (.aload_n 0, 1) := by decide +kernel
theorem dX9_custom_25 : decode cX9_custom 25 = .ok (.dup, 1) := by decide +kernel
theorem dX9_custom_26 : decode cX9_custom 26 = .ok (.getfield 148, 3) := by decide +kernel
theorem dX9_custom_29 : decode cX9_custom 29 = .ok (.iload_n 1, 1) := by decide +kernel
theorem dX9_custom_30 : decode cX9_custom 30 = .ok (.ifCond .ne 7, 3) := by decide +kernel
theorem dX9_custom_33 : decode cX9_custom 33 = .ok (.lconst 1, 1) := by decide +kernel
theorem dX9_custom_34 : decode cX9_custom 34 = .ok (.goto 50, 3) := by decide +kernel
theorem dX9_custom_37 : decode cX9_custom 37 = .ok (.iload_n 1, 1) := by decide +kernel
theorem dX9_custom_38 : decode cX9_custom 38 = .ok (.iconst 1, 1) := by decide +kernel
theorem dX9_custom_39 : decode cX9_custom 39 = .ok (.if_icmp .ne 9, 3) := by decide +kernel
theorem dX9_custom_42 : decode cX9_custom 42 = .ok (.ldc2_w 152, 3) := by decide +kernel
theorem dX9_custom_45 : decode cX9_custom 45 = .ok (.goto 39, 3) := by decide +kernel
theorem dX9_custom_48 : decode cX9_custom 48 = .ok (.iload_n 1, 1) := by decide +kernel
theorem dX9_custom_49 : decode cX9_custom 49 = .ok (.iconst 2, 1) := by decide +kernel
theorem dX9_custom_50 : decode cX9_custom 50 = .ok (.if_icmp .ne 9, 3) := by decide +kernel
theorem dX9_custom_53 : decode cX9_custom 53 = .ok (.ldc2_w 154, 3) := by decide +kernel
theorem dX9_custom_56 : decode cX9_custom 56 = .ok (.goto 28, 3) := by decide +kernel
theorem dX9_custom_59 : decode cX9_custom 59 = .ok (.iload_n 1, 1) := by decide +kernel
theorem dX9_custom_60 : decode cX9_custom 60 = .ok (.iconst 3, 1) := by decide +kernel
theorem dX9_custom_61 : decode cX9_custom 61 = .ok (.if_icmp .ne 9, 3) := by decide +kernel
theorem dX9_custom_64 : decode cX9_custom 64 = .ok (.ldc2_w 156, 3) := by decide +kernel
theorem dX9_custom_67 : decode cX9_custom 67 = .ok (.goto 17, 3) := by decide +kernel
theorem dX9_custom_70 : decode cX9_custom 70 = .ok (.iload_n 1, 1) := by decide +kernel
theorem dX9_custom_71 : decode cX9_custom 71 = .ok (.iconst 4, 1) := by decide +kernel
theorem dX9_custom_72 : decode cX9_custom 72 = .ok (.if_icmp .ne 9, 3) := by decide +kernel
theorem dX9_custom_75 : decode cX9_custom 75 = .ok (.ldc2_w 158, 3) := by decide +kernel
theorem dX9_custom_78 : decode cX9_custom 78 = .ok (.goto 6, 3) := by decide +kernel
theorem dX9_custom_81 : decode cX9_custom 81 = .ok (.ldc2_w 160, 3) := by decide +kernel
theorem dX9_custom_84 : decode cX9_custom 84 = .ok (.ladd, 1) := by decide +kernel
theorem dX9_custom_85 : decode cX9_custom 85 = .ok (.putfield 148, 3) := by decide +kernel
theorem dX9_custom_88 : decode cX9_custom 88 = .ok (.aload_n 0, 1) := by decide +kernel
theorem dX9_custom_89 : decode cX9_custom 89 = .ok (.iload_n 1, 1) := by decide +kernel
theorem dX9_custom_90 : decode cX9_custom 90 = .ok (.iload_n 2, 1) := by decide +kernel
theorem dX9_custom_91 : decode cX9_custom 91 = .ok (.invokevirtual 162, 3) := by decide +kernel
theorem dX9_custom_94 : decode cX9_custom 94 = .ok (.ireturn, 1) := by decide +kernel
theorem dX9_paper_0 : decode cX9_paper 0 = .ok (.aload_n 0, 1) := by decide +kernel
theorem dX9_paper_1 : decode cX9_paper 1 = .ok (.iconst 0, 1) := by decide +kernel
theorem dX9_paper_2 : decode cX9_paper 2 = .ok (.putfield 124, 3) := by decide +kernel
theorem dX9_paper_5 : decode cX9_paper 5 = .ok (.aload_n 0, 1) := by decide +kernel
theorem dX9_paper_6 : decode cX9_paper 6 = .ok (.iload_n 1, 1) := by decide +kernel
theorem dX9_paper_7 : decode cX9_paper 7 = .ok (.invokevirtual 144, 3) := by decide +kernel
theorem dX9_paper_10 : decode cX9_paper 10 = .ok (.ifCond .eq 54, 3) := by decide +kernel
theorem dX9_paper_13 : decode cX9_paper 13 = .ok (.iload_n 2, 1) := by decide +kernel
theorem dX9_paper_14 : decode cX9_paper 14 = .ok (.iconst 0, 1) := by decide +kernel
theorem dX9_paper_15 : decode cX9_paper 15 = .ok (.iconst 2, 1) := by decide +kernel
theorem dX9_paper_16 : decode cX9_paper 16 = .ok (.invokestatic 137, 3) := by decide +kernel
theorem dX9_paper_19 : decode cX9_paper 19 = .ok (.ifCond .eq 45, 3) := by decide +kernel
theorem dX9_paper_22 : decode cX9_paper 22 = .ok (.iload_n 3, 1) := by decide +kernel
theorem dX9_paper_23 : decode cX9_paper 23 = .ok (.iconst 0, 1) := by decide +kernel
theorem dX9_paper_24 : decode cX9_paper 24 = .ok (.iload_n 2, 1) := by decide +kernel
theorem dX9_paper_25 : decode cX9_paper 25 = .ok (.ifCond .ne 9, 3) := by decide +kernel
theorem dX9_paper_28 : decode cX9_paper 28 = .ok (.sipush 9999, 3) := by decide +kernel
theorem dX9_paper_31 : decode cX9_paper 31 = .ok (.goto 15, 3) := by decide +kernel
theorem dX9_paper_34 : decode cX9_paper 34 = .ok (.iload_n 2, 1) := by decide +kernel
theorem dX9_paper_35 : decode cX9_paper 35 = .ok (.iconst 1, 1) := by decide +kernel
theorem dX9_paper_36 : decode cX9_paper 36 = .ok (.if_icmp .ne 8, 3) := by decide +kernel
theorem dX9_paper_39 : decode cX9_paper 39 = .ok (.bipush 32, 2) := by decide +kernel
theorem dX9_paper_41 : decode cX9_paper 41 = .ok (.goto 5, 3) := by decide +kernel
theorem dX9_paper_44 : decode cX9_paper 44 = .ok (.bipush 30, 2) := by decide +kernel
theorem dX9_paper_46 : decode cX9_paper 46 = .ok (.invokestatic 137, 3) := by decide +kernel
theorem dX9_paper_49 : decode cX9_paper 49 = .ok (.ifCond .eq 15, 3) := by decide +kernel
theorem dX9_paper_52 : decode cX9_paper 52 = .ok (.iload_n 2, 1) := by decide +kernel
theorem dX9_paper_53 : decode cX9_paper 53 = .ok (.ifCond .le 13, 3) := by decide +kernel
theorem dX9_paper_56 : decode cX9_paper 56 = .ok (.iload 4, 2) := by decide +kernel
theorem dX9_paper_58 : decode cX9_paper 58 = .ok (.invokestatic 166, 3) := by decide +kernel
theorem dX9_paper_61 : decode cX9_paper 61 = .ok (.ifCond .ne 5, 3) := by decide +kernel
theorem dX9_paper_64 : decode cX9_paper 64 = .ok (.iconst (-1), 1) := by decide +kernel
theorem dX9_paper_65 : decode cX9_paper 65 = .ok (.ireturn, 1) := by decide +kernel
theorem dX9_paper_66 : decode cX9_paper 66 = .ok (.aload_n 0, 1) := by decide +kernel
theorem dX9_paper_67 : decode cX9_paper 67 = .ok (.getfield 32, 3) := by decide +kernel
theorem dX9_paper_70 : decode cX9_paper 70 = .ok (.iload_n 1, 1) := by decide +kernel
theorem dX9_paper_71 : decode cX9_paper 71 = .ok (.iaload, 1) := by decide +kernel
theorem dX9_paper_72 : decode cX9_paper 72 = .ok (.iconst 3, 1) := by decide +kernel
theorem dX9_paper_73 : decode cX9_paper 73 = .ok (.if_icmp .ne 6, 3) := by decide +kernel
theorem dX9_paper_76 : decode cX9_paper 76 = .ok (.bipush (-3), 2) := by decide +kernel
theorem dX9_paper_78 : decode cX9_paper 78 = .ok (.ireturn, 1) := by decide +kernel
theorem dX9_paper_79 : decode cX9_paper 79 = .ok (.bipush 9, 2) := by decide +kernel
theorem dX9_paper_81 : decode cX9_paper 81 = .ok (.iload_n 1, 1) := by decide +kernel
theorem dX9_paper_82 : decode cX9_paper 82 = .ok (.imul, 1) := by decide +kernel
theorem dX9_paper_83 : decode cX9_paper 83 = .ok (.iconst 3, 1) := by decide +kernel
theorem dX9_paper_84 : decode cX9_paper 84 = .ok (.aload_n 0, 1) := by decide +kernel
theorem dX9_paper_85 : decode cX9_paper 85 = .ok (.getfield 32, 3) := by decide +kernel
theorem dX9_paper_88 : decode cX9_paper 88 = .ok (.iload_n 1, 1) := by decide +kernel
theorem dX9_paper_89 : decode cX9_paper 89 = .ok (.iaload, 1) := by decide +kernel
theorem dX9_paper_90 : decode cX9_paper 90 = .ok (.imul, 1) := by decide +kernel
theorem dX9_paper_91 : decode cX9_paper 91 = .ok (.iadd, 1) := by decide +kernel
theorem dX9_paper_92 : decode cX9_paper 92 = .ok (.istore 5, 2) := by decide +kernel
theorem dX9_paper_94 : decode cX9_paper 94 = .ok (.aload_n 0, 1) := by decide +kernel
theorem dX9_paper_95 : decode cX9_paper 95 = .ok (.getfield 35, 3) := by decide +kernel
theorem dX9_paper_98 : decode cX9_paper 98 = .ok (.iload 5, 2) := by decide +kernel
theorem dX9_paper_100 : decode cX9_paper 100 = .ok (.iload_n 2, 1) := by decide +kernel
theorem dX9_paper_101 : decode cX9_paper 101 = .ok (.iastore, 1) := by decide +kernel
theorem dX9_paper_102 : decode cX9_paper 102 = .ok (.aload_n 0, 1) := by decide +kernel
theorem dX9_paper_103 : decode cX9_paper 103 = .ok (.getfield 35, 3) := by decide +kernel
theorem dX9_paper_106 : decode cX9_paper 106 = .ok (.iload 5, 2) := by decide +kernel
theorem dX9_paper_108 : decode cX9_paper 108 = .ok (.iconst 1, 1) := by decide +kernel
theorem dX9_paper_109 : decode cX9_paper 109 = .ok (.iadd, 1) := by decide +kernel
theorem dX9_paper_110 : decode cX9_paper 110 = .ok (.iload_n 3, 1) := by decide +kernel
theorem dX9_paper_111 : decode cX9_paper 111 = .ok (.iastore, 1) := by decide +kernel
theorem dX9_paper_112 : decode cX9_paper 112 = .ok (.aload_n 0, 1) := by decide +kernel
theorem dX9_paper_113 : decode cX9_paper 113 = .ok (.getfield 35, 3) := by decide +kernel
theorem dX9_paper_116 : decode cX9_paper 116 = .ok (.iload 5, 2) := by decide +kernel
theorem dX9_paper_118 : decode cX9_paper 118 = .ok (.iconst 2, 1) := by decide +kernel
theorem dX9_paper_119 : decode cX9_paper 119 = .ok (.iadd, 1) := by decide +kernel
theorem dX9_paper_120 : decode cX9_paper 120 = .ok (.iload 4, 2) := by decide +kernel
theorem dX9_paper_122 : decode cX9_paper 122 = .ok (.iastore, 1) := by decide +kernel
theorem dX9_paper_123 : decode cX9_paper 123 = .ok (.aload_n 0, 1) := by decide +kernel
theorem dX9_paper_124 : decode cX9_paper 124 = .ok (.getfield 32, 3) := by decide +kernel
theorem dX9_paper_127 : decode cX9_paper 127 = .ok (.iload_n 1, 1) := by decide +kernel
theorem dX9_paper_128 : decode cX9_paper 128 = .ok (.dup2, 1) := by decide +kernel
theorem dX9_paper_129 : decode cX9_paper 129 = .ok (.iaload, 1) := by decide +kernel
theorem dX9_paper_130 : decode cX9_paper 130 = .ok (.iconst 1, 1) := by decide +kernel
theorem dX9_paper_131 : decode cX9_paper 131 = .ok (.iadd, 1) := by decide +kernel
theorem dX9_paper_132 : decode cX9_paper 132 = .ok (.iastore, 1) := by decide +kernel
theorem dX9_paper_133 : decode cX9_paper 133 = .ok (.aload_n 0, 1) := by decide +kernel
theorem dX9_paper_134 : decode cX9_paper 134 = .ok (.getfield 32, 3) := by decide +kernel
theorem dX9_paper_137 : decode cX9_paper 137 = .ok (.iload_n 1, 1) := by decide +kernel
theorem dX9_paper_138 : decode cX9_paper 138 = .ok (.iaload, 1) := by decide +kernel
theorem dX9_paper_139 : decode cX9_paper 139 = .ok (.ireturn, 1) := by decide +kernel
theorem dX9_bornOf_0 : decode cX9_bornOf 0 = .ok (.iconst 0, 1) := by decide +kernel
theorem dX9_bornOf_1 : decode cX9_bornOf 1 = .ok (.istore_n 3, 1) := by decide +kernel
theorem dX9_bornOf_2 : decode cX9_bornOf 2 = .ok (.sipush 10799, 3) := by decide +kernel
theorem dX9_bornOf_5 : decode cX9_bornOf 5 = .ok (.istore 4, 2) := by decide +kernel
theorem dX9_bornOf_7 : decode cX9_bornOf 7 = .ok (.iconst 0, 1) := by decide +kernel
theorem dX9_bornOf_8 : decode cX9_bornOf 8 = .ok (.istore 5, 2) := by decide +kernel
theorem dX9_bornOf_10 : decode cX9_bornOf 10 = .ok (.iload 5, 2) := by decide +kernel
theorem dX9_bornOf_12 : decode cX9_bornOf 12 = .ok (.aload_n 0, 1) := by decide +kernel
theorem dX9_bornOf_13 : decode cX9_bornOf 13 = .ok (.getfield 32, 3) := by decide +kernel
theorem dX9_bornOf_16 : decode cX9_bornOf 16 = .ok (.iload_n 1, 1) := by decide +kernel
theorem dX9_bornOf_17 : decode cX9_bornOf 17 = .ok (.iaload, 1) := by decide +kernel
theorem dX9_bornOf_18 : decode cX9_bornOf 18 = .ok (.if_icmp .ge 167, 3) := by decide +kernel
theorem dX9_bornOf_21 : decode cX9_bornOf 21 = .ok (.bipush 9, 2) := by decide +kernel
theorem dX9_bornOf_23 : decode cX9_bornOf 23 = .ok (.iload_n 1, 1) := by decide +kernel
theorem dX9_bornOf_24 : decode cX9_bornOf 24 = .ok (.imul, 1) := by decide +kernel
theorem dX9_bornOf_25 : decode cX9_bornOf 25 = .ok (.iconst 3, 1) := by decide +kernel
theorem dX9_bornOf_26 : decode cX9_bornOf 26 = .ok (.iload 5, 2) := by decide +kernel
theorem dX9_bornOf_28 : decode cX9_bornOf 28 = .ok (.imul, 1) := by decide +kernel
theorem dX9_bornOf_29 : decode cX9_bornOf 29 = .ok (.iadd, 1) := by decide +kernel
theorem dX9_bornOf_30 : decode cX9_bornOf 30 = .ok (.istore 6, 2) := by decide +kernel
theorem dX9_bornOf_32 : decode cX9_bornOf 32 = .ok (.aload_n 0, 1) := by decide +kernel
theorem dX9_bornOf_33 : decode cX9_bornOf 33 = .ok (.getfield 35, 3) := by decide +kernel
theorem dX9_bornOf_36 : decode cX9_bornOf 36 = .ok (.iload 6, 2) := by decide +kernel
theorem dX9_bornOf_38 : decode cX9_bornOf 38 = .ok (.iconst 1, 1) := by decide +kernel
theorem dX9_bornOf_39 : decode cX9_bornOf 39 = .ok (.iadd, 1) := by decide +kernel
theorem dX9_bornOf_40 : decode cX9_bornOf 40 = .ok (.iaload, 1) := by decide +kernel
theorem dX9_bornOf_41 : decode cX9_bornOf 41 = .ok (.istore 7, 2) := by decide +kernel
theorem dX9_bornOf_43 : decode cX9_bornOf 43 = .ok (.aload_n 0, 1) := by decide +kernel
theorem dX9_bornOf_44 : decode cX9_bornOf 44 = .ok (.getfield 35, 3) := by decide +kernel
theorem dX9_bornOf_47 : decode cX9_bornOf 47 = .ok (.iload 6, 2) := by decide +kernel
theorem dX9_bornOf_49 : decode cX9_bornOf 49 = .ok (.iaload, 1) := by decide +kernel
theorem dX9_bornOf_50 : decode cX9_bornOf 50 = .ok (.ifCond .ne 8, 3) := by decide +kernel
theorem dX9_bornOf_53 : decode cX9_bornOf 53 = .ok (.iload 7, 2) := by decide +kernel
theorem dX9_bornOf_55 : decode cX9_bornOf 55 = .ok (.goto 37, 3) := by decide +kernel
theorem dX9_bornOf_58 : decode cX9_bornOf 58 = .ok (.sipush 360, 3) := by decide +kernel
theorem dX9_bornOf_61 : decode cX9_bornOf 61 = .ok (.aload_n 0, 1) := by decide +kernel
theorem dX9_bornOf_62 : decode cX9_bornOf 62 = .ok (.getfield 35, 3) := by decide +kernel
theorem dX9_bornOf_65 : decode cX9_bornOf 65 = .ok (.iload 6, 2) := by decide +kernel
theorem dX9_bornOf_67 : decode cX9_bornOf 67 = .ok (.iaload, 1) := by decide +kernel
theorem dX9_bornOf_68 : decode cX9_bornOf 68 = .ok (.iconst 1, 1) := by decide +kernel
theorem dX9_bornOf_69 : decode cX9_bornOf 69 = .ok (.if_icmp .ne 10, 3) := by decide +kernel
theorem dX9_bornOf_72 : decode cX9_bornOf 72 = .ok (.iload 7, 2) := by decide +kernel
theorem dX9_bornOf_74 : decode cX9_bornOf 74 = .ok (.iconst 3, 1) := by decide +kernel
theorem dX9_bornOf_75 : decode cX9_bornOf 75 = .ok (.idiv, 1) := by decide +kernel
theorem dX9_bornOf_76 : decode cX9_bornOf 76 = .ok (.goto 5, 3) := by decide +kernel
theorem dX9_bornOf_79 : decode cX9_bornOf 79 = .ok (.iload 7, 2) := by decide +kernel
theorem dX9_bornOf_81 : decode cX9_bornOf 81 = .ok (.imul, 1) := by decide +kernel
theorem dX9_bornOf_82 : decode cX9_bornOf 82 = .ok (.aload_n 0, 1) := by decide +kernel
theorem dX9_bornOf_83 : decode cX9_bornOf 83 = .ok (.getfield 35, 3) := by decide +kernel
theorem dX9_bornOf_86 : decode cX9_bornOf 86 = .ok (.iload 6, 2) := by decide +kernel
theorem dX9_bornOf_88 : decode cX9_bornOf 88 = .ok (.iconst 2, 1) := by decide +kernel
theorem dX9_bornOf_89 : decode cX9_bornOf 89 = .ok (.iadd, 1) := by decide +kernel
theorem dX9_bornOf_90 : decode cX9_bornOf 90 = .ok (.iaload, 1) := by decide +kernel
theorem dX9_bornOf_91 : decode cX9_bornOf 91 = .ok (.isub, 1) := by decide +kernel
theorem dX9_bornOf_92 : decode cX9_bornOf 92 = .ok (.istore 8, 2) := by decide +kernel
theorem dX9_bornOf_94 : decode cX9_bornOf 94 = .ok (.aload_n 0, 1) := by decide +kernel
theorem dX9_bornOf_95 : decode cX9_bornOf 95 = .ok (.getfield 35, 3) := by decide +kernel
theorem dX9_bornOf_98 : decode cX9_bornOf 98 = .ok (.iload 6, 2) := by decide +kernel
theorem dX9_bornOf_100 : decode cX9_bornOf 100 = .ok (.iaload, 1) := by decide +kernel
theorem dX9_bornOf_101 : decode cX9_bornOf 101 = .ok (.ifCond .ne 8, 3) := by decide +kernel
theorem dX9_bornOf_104 : decode cX9_bornOf 104 = .ok (.iload 7, 2) := by decide +kernel
theorem dX9_bornOf_106 : decode cX9_bornOf 106 = .ok (.goto 42, 3) := by decide +kernel
theorem dX9_bornOf_109 : decode cX9_bornOf 109 = .ok (.aload_n 0, 1) := by decide +kernel
theorem dX9_bornOf_110 : decode cX9_bornOf 110 = .ok (.getfield 35, 3) := by decide +kernel
theorem dX9_bornOf_113 : decode cX9_bornOf 113 = .ok (.iload 6, 2) := by decide +kernel
theorem dX9_bornOf_115 : decode cX9_bornOf 115 = .ok (.iaload, 1) := by decide +kernel
theorem dX9_bornOf_116 : decode cX9_bornOf 116 = .ok (.iconst 1, 1) := by decide +kernel
theorem dX9_bornOf_117 : decode cX9_bornOf 117 = .ok (.if_icmp .ne 28, 3) := by decide +kernel
theorem dX9_bornOf_120 : decode cX9_bornOf 120 = .ok (.sipush 360, 3) := by decide +kernel
theorem dX9_bornOf_123 : decode cX9_bornOf 123 = .ok (.iload 7, 2) := by decide +kernel
theorem dX9_bornOf_125 : decode cX9_bornOf 125 = .ok (.iconst 2, 1) := by decide +kernel
theorem dX9_bornOf_126 : decode cX9_bornOf 126 = .ok (.idiv, 1) := by decide +kernel
theorem dX9_bornOf_127 : decode cX9_bornOf 127 = .ok (.iconst 5, 1) := by decide +kernel
theorem dX9_bornOf_128 : decode cX9_bornOf 128 = .ok (.iadd, 1) := by decide +kernel
theorem dX9_bornOf_129 : decode cX9_bornOf 129 = .ok (.imul, 1) := by decide +kernel
theorem dX9_bornOf_130 : decode cX9_bornOf 130 = .ok (.aload_n 0, 1) := by decide +kernel
theorem dX9_bornOf_131 : decode cX9_bornOf 131 = .ok (.getfield 35, 3) := by decide +kernel
theorem dX9_bornOf_134 : decode cX9_bornOf 134 = .ok (.iload 6, 2) := by decide +kernel
theorem dX9_bornOf_136 : decode cX9_bornOf 136 = .ok (.iconst 2, 1) := by decide +kernel
theorem dX9_bornOf_137 : decode cX9_bornOf 137 = .ok (.iadd, 1) := by decide +kernel
theorem dX9_bornOf_138 : decode cX9_bornOf 138 = .ok (.iaload, 1) := by decide +kernel
theorem dX9_bornOf_139 : decode cX9_bornOf 139 = .ok (.isub, 1) := by decide +kernel
theorem dX9_bornOf_140 : decode cX9_bornOf 140 = .ok (.iconst 1, 1) := by decide +kernel
theorem dX9_bornOf_141 : decode cX9_bornOf 141 = .ok (.isub, 1) := by decide +kernel
theorem dX9_bornOf_142 : decode cX9_bornOf 142 = .ok (.goto 6, 3) := by decide +kernel
theorem dX9_bornOf_145 : decode cX9_bornOf 145 = .ok (.sipush 10799, 3) := by decide +kernel
theorem dX9_bornOf_148 : decode cX9_bornOf 148 = .ok (.istore 9, 2) := by decide +kernel
theorem dX9_bornOf_150 : decode cX9_bornOf 150 = .ok (.iload 8, 2) := by decide +kernel
theorem dX9_bornOf_152 : decode cX9_bornOf 152 = .ok (.iload_n 3, 1) := by decide +kernel
theorem dX9_bornOf_153 : decode cX9_bornOf 153 = .ok (.if_icmp .le 8, 3) := by decide +kernel
theorem dX9_bornOf_156 : decode cX9_bornOf 156 = .ok (.iload 8, 2) := by decide +kernel
theorem dX9_bornOf_158 : decode cX9_bornOf 158 = .ok (.goto 4, 3) := by decide +kernel
theorem dX9_bornOf_161 : decode cX9_bornOf 161 = .ok (.iload_n 3, 1) := by decide +kernel
theorem dX9_bornOf_162 : decode cX9_bornOf 162 = .ok (.istore_n 3, 1) := by decide +kernel
theorem dX9_bornOf_163 : decode cX9_bornOf 163 = .ok (.iload 9, 2) := by decide +kernel
theorem dX9_bornOf_165 : decode cX9_bornOf 165 = .ok (.iload 4, 2) := by decide +kernel
theorem dX9_bornOf_167 : decode cX9_bornOf 167 = .ok (.if_icmp .ge 8, 3) := by decide +kernel
theorem dX9_bornOf_170 : decode cX9_bornOf 170 = .ok (.iload 9, 2) := by decide +kernel
theorem dX9_bornOf_172 : decode cX9_bornOf 172 = .ok (.goto 5, 3) := by decide +kernel
theorem dX9_bornOf_175 : decode cX9_bornOf 175 = .ok (.iload 4, 2) := by decide +kernel
theorem dX9_bornOf_177 : decode cX9_bornOf 177 = .ok (.istore 4, 2) := by decide +kernel
theorem dX9_bornOf_179 : decode cX9_bornOf 179 = .ok (.iinc 5 1, 3) := by decide +kernel
theorem dX9_bornOf_182 : decode cX9_bornOf 182 = .ok (.goto (-172), 3) := by decide +kernel
theorem dX9_bornOf_185 : decode cX9_bornOf 185 = .ok (.iload_n 3, 1) := by decide +kernel
theorem dX9_bornOf_186 : decode cX9_bornOf 186 = .ok (.iload 4, 2) := by decide +kernel
theorem dX9_bornOf_188 : decode cX9_bornOf 188 = .ok (.if_icmp .le 7, 3) := by decide +kernel
theorem dX9_bornOf_191 : decode cX9_bornOf 191 = .ok (.iconst 1, 1) := by decide +kernel
theorem dX9_bornOf_192 : decode cX9_bornOf 192 = .ok (.goto 4, 3) := by decide +kernel
theorem dX9_bornOf_195 : decode cX9_bornOf 195 = .ok (.iconst 0, 1) := by decide +kernel
theorem dX9_bornOf_196 : decode cX9_bornOf 196 = .ok (.istore 5, 2) := by decide +kernel
theorem dX9_bornOf_198 : decode cX9_bornOf 198 = .ok (.iload_n 2, 1) := by decide +kernel
theorem dX9_bornOf_199 : decode cX9_bornOf 199 = .ok (.iconst 2, 1) := by decide +kernel
theorem dX9_bornOf_200 : decode cX9_bornOf 200 = .ok (.if_icmp .ne 16, 3) := by decide +kernel
theorem dX9_bornOf_203 : decode cX9_bornOf 203 = .ok (.iload 5, 2) := by decide +kernel
theorem dX9_bornOf_205 : decode cX9_bornOf 205 = .ok (.ifCond .eq 7, 3) := by decide +kernel
theorem dX9_bornOf_208 : decode cX9_bornOf 208 = .ok (.iconst 1, 1) := by decide +kernel
theorem dX9_bornOf_209 : decode cX9_bornOf 209 = .ok (.goto 37, 3) := by decide +kernel
theorem dX9_bornOf_212 : decode cX9_bornOf 212 = .ok (.iconst 0, 1) := by decide +kernel
theorem dX9_bornOf_213 : decode cX9_bornOf 213 = .ok (.goto 33, 3) := by decide +kernel
theorem dX9_bornOf_216 : decode cX9_bornOf 216 = .ok (.iload_n 2, 1) := by decide +kernel
theorem dX9_bornOf_217 : decode cX9_bornOf 217 = .ok (.ifCond .ne 16, 3) := by decide +kernel
theorem dX9_bornOf_220 : decode cX9_bornOf 220 = .ok (.iload 5, 2) := by decide +kernel
theorem dX9_bornOf_222 : decode cX9_bornOf 222 = .ok (.ifCond .eq 7, 3) := by decide +kernel
theorem dX9_bornOf_225 : decode cX9_bornOf 225 = .ok (.iconst 0, 1) := by decide +kernel
theorem dX9_bornOf_226 : decode cX9_bornOf 226 = .ok (.goto 20, 3) := by decide +kernel
theorem dX9_bornOf_229 : decode cX9_bornOf 229 = .ok (.iload_n 3, 1) := by decide +kernel
theorem dX9_bornOf_230 : decode cX9_bornOf 230 = .ok (.goto 16, 3) := by decide +kernel
theorem dX9_bornOf_233 : decode cX9_bornOf 233 = .ok (.iload 5, 2) := by decide +kernel
theorem dX9_bornOf_235 : decode cX9_bornOf 235 = .ok (.ifCond .eq 9, 3) := by decide +kernel
theorem dX9_bornOf_238 : decode cX9_bornOf 238 = .ok (.sipush 10799, 3) := by decide +kernel
theorem dX9_bornOf_241 : decode cX9_bornOf 241 = .ok (.goto 5, 3) := by decide +kernel
theorem dX9_bornOf_244 : decode cX9_bornOf 244 = .ok (.iload 4, 2) := by decide +kernel
theorem dX9_bornOf_246 : decode cX9_bornOf 246 = .ok (.ireturn, 1) := by decide +kernel
theorem dX9_born_0 : decode cX9_born 0 = .ok (.aload_n 0, 1) := by decide +kernel
theorem dX9_born_1 : decode cX9_born 1 = .ok (.iconst 0, 1) := by decide +kernel
theorem dX9_born_2 : decode cX9_born 2 = .ok (.putfield 124, 3) := by decide +kernel
theorem dX9_born_5 : decode cX9_born 5 = .ok (.aload_n 0, 1) := by decide +kernel
theorem dX9_born_6 : decode cX9_born 6 = .ok (.iload_n 1, 1) := by decide +kernel
theorem dX9_born_7 : decode cX9_born 7 = .ok (.invokevirtual 144, 3) := by decide +kernel
theorem dX9_born_10 : decode cX9_born 10 = .ok (.ifCond .eq 21, 3) := by decide +kernel
theorem dX9_born_13 : decode cX9_born 13 = .ok (.iload_n 2, 1) := by decide +kernel
theorem dX9_born_14 : decode cX9_born 14 = .ok (.iconst 0, 1) := by decide +kernel
theorem dX9_born_15 : decode cX9_born 15 = .ok (.iconst 2, 1) := by decide +kernel
theorem dX9_born_16 : decode cX9_born 16 = .ok (.invokestatic 137, 3) := by decide +kernel
theorem dX9_born_19 : decode cX9_born 19 = .ok (.ifCond .eq 12, 3) := by decide +kernel
theorem dX9_born_22 : decode cX9_born 22 = .ok (.aload_n 0, 1) := by decide +kernel
theorem dX9_born_23 : decode cX9_born 23 = .ok (.iload_n 1, 1) := by decide +kernel
theorem dX9_born_24 : decode cX9_born 24 = .ok (.iload_n 2, 1) := by decide +kernel
theorem dX9_born_25 : decode cX9_born 25 = .ok (.invokevirtual 169, 3) := by decide +kernel
theorem dX9_born_28 : decode cX9_born 28 = .ok (.goto 4, 3) := by decide +kernel
theorem dX9_born_31 : decode cX9_born 31 = .ok (.iconst (-1), 1) := by decide +kernel
theorem dX9_born_32 : decode cX9_born 32 = .ok (.ireturn, 1) := by decide +kernel
theorem dX9_ageOf_0 : decode cX9_ageOf 0 = .ok (.aload_n 0, 1) := by decide +kernel
theorem dX9_ageOf_1 : decode cX9_ageOf 1 = .ok (.iload_n 1, 1) := by decide +kernel
theorem dX9_ageOf_2 : decode cX9_ageOf 2 = .ok (.iload_n 3, 1) := by decide +kernel
theorem dX9_ageOf_3 : decode cX9_ageOf 3 = .ok (.invokevirtual 169, 3) := by decide +kernel
theorem dX9_ageOf_6 : decode cX9_ageOf 6 = .ok (.iload_n 2, 1) := by decide +kernel
theorem dX9_ageOf_7 : decode cX9_ageOf 7 = .ok (.iadd, 1) := by decide +kernel
theorem dX9_ageOf_8 : decode cX9_ageOf 8 = .ok (.sipush 360, 3) := by decide +kernel
theorem dX9_ageOf_11 : decode cX9_ageOf 11 = .ok (.idiv, 1) := by decide +kernel
theorem dX9_ageOf_12 : decode cX9_ageOf 12 = .ok (.ireturn, 1) := by decide +kernel
theorem dX9_age_0 : decode cX9_age 0 = .ok (.aload_n 0, 1) := by decide +kernel
theorem dX9_age_1 : decode cX9_age 1 = .ok (.iconst 0, 1) := by decide +kernel
theorem dX9_age_2 : decode cX9_age 2 = .ok (.putfield 124, 3) := by decide +kernel
theorem dX9_age_5 : decode cX9_age 5 = .ok (.aload_n 0, 1) := by decide +kernel
theorem dX9_age_6 : decode cX9_age 6 = .ok (.iload_n 1, 1) := by decide +kernel
theorem dX9_age_7 : decode cX9_age 7 = .ok (.invokevirtual 144, 3) := by decide +kernel
theorem dX9_age_10 : decode cX9_age 10 = .ok (.ifCond .eq 29, 3) := by decide +kernel
theorem dX9_age_13 : decode cX9_age 13 = .ok (.iload_n 2, 1) := by decide +kernel
theorem dX9_age_14 : decode cX9_age 14 = .ok (.invokestatic 166, 3) := by decide +kernel
theorem dX9_age_17 : decode cX9_age 17 = .ok (.ifCond .eq 22, 3) := by decide +kernel
theorem dX9_age_20 : decode cX9_age 20 = .ok (.iload_n 3, 1) := by decide +kernel
theorem dX9_age_21 : decode cX9_age 21 = .ok (.iconst 0, 1) := by decide +kernel
theorem dX9_age_22 : decode cX9_age 22 = .ok (.iconst 1, 1) := by decide +kernel
theorem dX9_age_23 : decode cX9_age 23 = .ok (.invokestatic 137, 3) := by decide +kernel
theorem dX9_age_26 : decode cX9_age 26 = .ok (.ifCond .eq 13, 3) := by decide +kernel
theorem dX9_age_29 : decode cX9_age 29 = .ok (.aload_n 0, 1) := by decide +kernel
theorem dX9_age_30 : decode cX9_age 30 = .ok (.iload_n 1, 1) := by decide +kernel
theorem dX9_age_31 : decode cX9_age 31 = .ok (.iload_n 2, 1) := by decide +kernel
theorem dX9_age_32 : decode cX9_age 32 = .ok (.iload_n 3, 1) := by decide +kernel
theorem dX9_age_33 : decode cX9_age 33 = .ok (.invokevirtual 172, 3) := by decide +kernel
theorem dX9_age_36 : decode cX9_age 36 = .ok (.goto 4, 3) := by decide +kernel
theorem dX9_age_39 : decode cX9_age 39 = .ok (.iconst (-1), 1) := by decide +kernel
theorem dX9_age_40 : decode cX9_age 40 = .ok (.ireturn, 1) := by decide +kernel
theorem dX9_type_0 : decode cX9_type 0 = .ok (.aload_n 0, 1) := by decide +kernel
theorem dX9_type_1 : decode cX9_type 1 = .ok (.iconst 0, 1) := by decide +kernel
theorem dX9_type_2 : decode cX9_type 2 = .ok (.putfield 124, 3) := by decide +kernel
theorem dX9_type_5 : decode cX9_type 5 = .ok (.iload_n 3, 1) := by decide +kernel
theorem dX9_type_6 : decode cX9_type 6 = .ok (.iconst 1, 1) := by decide +kernel
theorem dX9_type_7 : decode cX9_type 7 = .ok (.bipush 8, 2) := by decide +kernel
theorem dX9_type_9 : decode cX9_type 9 = .ok (.invokestatic 137, 3) := by decide +kernel
theorem dX9_type_12 : decode cX9_type 12 = .ok (.ifCond .ne 5, 3) := by decide +kernel
theorem dX9_type_15 : decode cX9_type 15 = .ok (.iconst (-1), 1) := by decide +kernel
theorem dX9_type_16 : decode cX9_type 16 = .ok (.ireturn, 1) := by decide +kernel
theorem dX9_type_17 : decode cX9_type 17 = .ok (.aload_n 0, 1) := by decide +kernel
theorem dX9_type_18 : decode cX9_type 18 = .ok (.getfield 176, 3) := by decide +kernel
theorem dX9_type_21 : decode cX9_type 21 = .ok (.iload_n 3, 1) := by decide +kernel
theorem dX9_type_22 : decode cX9_type 22 = .ok (.iadd, 1) := by decide +kernel
theorem dX9_type_23 : decode cX9_type 23 = .ok (.sipush 900, 3) := by decide +kernel
theorem dX9_type_26 : decode cX9_type 26 = .ok (.if_icmp .le 6, 3) := by decide +kernel
theorem dX9_type_29 : decode cX9_type 29 = .ok (.bipush (-3), 2) := by decide +kernel
theorem dX9_type_31 : decode cX9_type 31 = .ok (.ireturn, 1) := by decide +kernel
theorem dX9_type_32 : decode cX9_type 32 = .ok (.iload_n 3, 1) := by decide +kernel
theorem dX9_type_33 : decode cX9_type 33 = .ok (.iconst 1, 1) := by decide +kernel
theorem dX9_type_34 : decode cX9_type 34 = .ok (.isub, 1) := by decide +kernel
theorem dX9_type_35 : decode cX9_type 35 = .ok (.istore 4, 2) := by decide +kernel
theorem dX9_type_37 : decode cX9_type 37 = .ok (.iload 4, 2) := by decide +kernel
theorem dX9_type_39 : decode cX9_type 39 = .ok (.ifCond .lt 40, 3) := by decide +kernel
theorem dX9_type_42 : decode cX9_type 42 = .ok (.aload_n 0, 1) := by decide +kernel
theorem dX9_type_43 : decode cX9_type 43 = .ok (.getfield 38, 3) := by decide +kernel
theorem dX9_type_46 : decode cX9_type 46 = .ok (.aload_n 0, 1) := by decide +kernel
theorem dX9_type_47 : decode cX9_type 47 = .ok (.getfield 176, 3) := by decide +kernel
theorem dX9_type_50 : decode cX9_type 50 = .ok (.lload_n 1, 1) := by decide +kernel
theorem dX9_type_51 : decode cX9_type 51 = .ok (.bipush 8, 2) := by decide +kernel
theorem dX9_type_53 : decode cX9_type 53 = .ok (.iload 4, 2) := by decide +kernel
theorem dX9_type_55 : decode cX9_type 55 = .ok (.imul, 1) := by decide +kernel
theorem dX9_type_56 : decode cX9_type 56 = .ok (.lshr, 1) := by decide +kernel
theorem dX9_type_57 : decode cX9_type 57 = .ok (.ldc2_w 179, 3) := by decide +kernel
theorem dX9_type_60 : decode cX9_type 60 = .ok (.land, 1) := by decide +kernel
theorem dX9_type_61 : decode cX9_type 61 = .ok (.l2i, 1) := by decide +kernel
theorem dX9_type_62 : decode cX9_type 62 = .ok (.iastore, 1) := by decide +kernel
theorem dX9_type_63 : decode cX9_type 63 = .ok (.aload_n 0, 1) := by decide +kernel
theorem dX9_type_64 : decode cX9_type 64 = .ok (.dup, 1) := by decide +kernel
theorem dX9_type_65 : decode cX9_type 65 = .ok (.getfield 176, 3) := by decide +kernel
theorem dX9_type_68 : decode cX9_type 68 = .ok (.iconst 1, 1) := by decide +kernel
theorem dX9_type_69 : decode cX9_type 69 = .ok (.iadd, 1) := by decide +kernel
theorem dX9_type_70 : decode cX9_type 70 = .ok (.putfield 176, 3) := by decide +kernel
theorem dX9_type_73 : decode cX9_type 73 = .ok (.iinc 4 (-1), 3) := by decide +kernel
theorem dX9_type_76 : decode cX9_type 76 = .ok (.goto (-39), 3) := by decide +kernel
theorem dX9_type_79 : decode cX9_type 79 = .ok (.aload_n 0, 1) := by decide +kernel
theorem dX9_type_80 : decode cX9_type 80 = .ok (.getfield 176, 3) := by decide +kernel
theorem dX9_type_83 : decode cX9_type 83 = .ok (.ireturn, 1) := by decide +kernel
theorem dX9_clear_0 : decode cX9_clear 0 = .ok (.aload_n 0, 1) := by decide +kernel
theorem dX9_clear_1 : decode cX9_clear 1 = .ok (.iconst 0, 1) := by decide +kernel
theorem dX9_clear_2 : decode cX9_clear 2 = .ok (.putfield 124, 3) := by decide +kernel
theorem dX9_clear_5 : decode cX9_clear 5 = .ok (.aload_n 0, 1) := by decide +kernel
theorem dX9_clear_6 : decode cX9_clear 6 = .ok (.getfield 176, 3) := by decide +kernel
theorem dX9_clear_9 : decode cX9_clear 9 = .ok (.istore_n 1, 1) := by decide +kernel
theorem dX9_clear_10 : decode cX9_clear 10 = .ok (.aload_n 0, 1) := by decide +kernel
theorem dX9_clear_11 : decode cX9_clear 11 = .ok (.iconst 0, 1) := by decide +kernel
theorem dX9_clear_12 : decode cX9_clear 12 = .ok (.putfield 176, 3) := by decide +kernel
theorem dX9_clear_15 : decode cX9_clear 15 = .ok (.iload_n 1, 1) := by decide +kernel
theorem dX9_clear_16 : decode cX9_clear 16 = .ok (.ireturn, 1) := by decide +kernel
theorem dX9_byteAt_0 : decode cX9_byteAt 0 = .ok (.iload_n 1, 1) := by decide +kernel
theorem dX9_byteAt_1 : decode cX9_byteAt 1 = .ok (.aload_n 0, 1) := by decide +kernel
theorem dX9_byteAt_2 : decode cX9_byteAt 2 = .ok (.getfield 176, 3) := by decide +kernel
theorem dX9_byteAt_5 : decode cX9_byteAt 5 = .ok (.if_icmp .ge 12, 3) := by decide +kernel
theorem dX9_byteAt_8 : decode cX9_byteAt 8 = .ok (.aload_n 0, 1) := by decide +kernel
theorem dX9_byteAt_9 : decode cX9_byteAt 9 = .ok (.getfield 38, 3) := by decide +kernel
theorem dX9_byteAt_12 : decode cX9_byteAt 12 = .ok (.iload_n 1, 1) := by decide +kernel
theorem dX9_byteAt_13 : decode cX9_byteAt 13 = .ok (.iaload, 1) := by decide +kernel
theorem dX9_byteAt_14 : decode cX9_byteAt 14 = .ok (.goto 4, 3) := by decide +kernel
theorem dX9_byteAt_17 : decode cX9_byteAt 17 = .ok (.iconst (-1), 1) := by decide +kernel
theorem dX9_byteAt_18 : decode cX9_byteAt 18 = .ok (.ireturn, 1) := by decide +kernel
theorem dX9_isDigit_0 : decode cX9_isDigit 0 = .ok (.iload_n 0, 1) := by decide +kernel
theorem dX9_isDigit_1 : decode cX9_isDigit 1 = .ok (.bipush 48, 2) := by decide +kernel
theorem dX9_isDigit_3 : decode cX9_isDigit 3 = .ok (.bipush 57, 2) := by decide +kernel
theorem dX9_isDigit_5 : decode cX9_isDigit 5 = .ok (.invokestatic 137, 3) := by decide +kernel
theorem dX9_isDigit_8 : decode cX9_isDigit 8 = .ok (.ireturn, 1) := by decide +kernel
theorem dX9_advances_0 : decode cX9_advances 0 = .ok (.aload_n 0, 1) := by decide +kernel
theorem dX9_advances_1 : decode cX9_advances 1 = .ok (.aload_n 0, 1) := by decide +kernel
theorem dX9_advances_2 : decode cX9_advances 2 = .ok (.getfield 181, 3) := by decide +kernel
theorem dX9_advances_5 : decode cX9_advances 5 = .ok (.invokevirtual 184, 3) := by decide +kernel
theorem dX9_advances_8 : decode cX9_advances 8 = .ok (.bipush 32, 2) := by decide +kernel
theorem dX9_advances_10 : decode cX9_advances 10 = .ok (.if_icmp .eq 16, 3) := by decide +kernel
theorem dX9_advances_13 : decode cX9_advances 13 = .ok (.aload_n 0, 1) := by decide +kernel
theorem dX9_advances_14 : decode cX9_advances 14 = .ok (.aload_n 0, 1) := by decide +kernel
theorem dX9_advances_15 : decode cX9_advances 15 = .ok (.getfield 181, 3) := by decide +kernel
theorem dX9_advances_18 : decode cX9_advances 18 = .ok (.invokevirtual 184, 3) := by decide +kernel
theorem dX9_advances_21 : decode cX9_advances 21 = .ok (.bipush 10, 2) := by decide +kernel
theorem dX9_advances_23 : decode cX9_advances 23 = .ok (.if_icmp .ne 16, 3) := by decide +kernel
theorem dX9_advances_26 : decode cX9_advances 26 = .ok (.aload_n 0, 1) := by decide +kernel
theorem dX9_advances_27 : decode cX9_advances 27 = .ok (.dup, 1) := by decide +kernel
theorem dX9_advances_28 : decode cX9_advances 28 = .ok (.getfield 181, 3) := by decide +kernel
theorem dX9_advances_31 : decode cX9_advances 31 = .ok (.iconst 1, 1) := by decide +kernel
theorem dX9_advances_32 : decode cX9_advances 32 = .ok (.iadd, 1) := by decide +kernel
theorem dX9_advances_33 : decode cX9_advances 33 = .ok (.putfield 181, 3) := by decide +kernel
theorem dX9_advances_36 : decode cX9_advances 36 = .ok (.goto (-36), 3) := by decide +kernel
theorem dX9_advances_39 : decode cX9_advances 39 = .ok (.aload_n 0, 1) := by decide +kernel
theorem dX9_advances_40 : decode cX9_advances 40 = .ok (.aload_n 0, 1) := by decide +kernel
theorem dX9_advances_41 : decode cX9_advances 41 = .ok (.getfield 181, 3) := by decide +kernel
theorem dX9_advances_44 : decode cX9_advances 44 = .ok (.putfield 188, 3) := by decide +kernel
theorem dX9_advances_47 : decode cX9_advances 47 = .ok (.aload_n 0, 1) := by decide +kernel
theorem dX9_advances_48 : decode cX9_advances 48 = .ok (.aload_n 0, 1) := by decide +kernel
theorem dX9_advances_49 : decode cX9_advances 49 = .ok (.getfield 181, 3) := by decide +kernel
theorem dX9_advances_52 : decode cX9_advances 52 = .ok (.invokevirtual 184, 3) := by decide +kernel
theorem dX9_advances_55 : decode cX9_advances 55 = .ok (.istore_n 1, 1) := by decide +kernel
theorem dX9_advances_56 : decode cX9_advances 56 = .ok (.iload_n 1, 1) := by decide +kernel
theorem dX9_advances_57 : decode cX9_advances 57 = .ok (.ifCond .ge 11, 3) := by decide +kernel
theorem dX9_advances_60 : decode cX9_advances 60 = .ok (.aload_n 0, 1) := by decide +kernel
theorem dX9_advances_61 : decode cX9_advances 61 = .ok (.iconst 0, 1) := by decide +kernel
theorem dX9_advances_62 : decode cX9_advances 62 = .ok (.putfield 191, 3) := by decide +kernel
theorem dX9_advances_65 : decode cX9_advances 65 = .ok (.goto 348, 3) := by decide +kernel
theorem dX9_advances_68 : decode cX9_advances 68 = .ok (.iload_n 1, 1) := by decide +kernel
theorem dX9_advances_69 : decode cX9_advances 69 = .ok (.bipush 97, 2) := by decide +kernel
theorem dX9_advances_71 : decode cX9_advances 71 = .ok (.bipush 122, 2) := by decide +kernel
theorem dX9_advances_73 : decode cX9_advances 73 = .ok (.invokestatic 137, 3) := by decide +kernel
theorem dX9_advances_76 : decode cX9_advances 76 = .ok (.ifCond .eq 120, 3) := by decide +kernel
theorem dX9_advances_79 : decode cX9_advances 79 = .ok (.lconst 0, 1) := by decide +kernel
theorem dX9_advances_80 : decode cX9_advances 80 = .ok (.lstore_n 2, 1) := by decide +kernel
theorem dX9_advances_81 : decode cX9_advances 81 = .ok (.iconst 0, 1) := by decide +kernel
theorem dX9_advances_82 : decode cX9_advances 82 = .ok (.istore 4, 2) := by decide +kernel
theorem dX9_advances_84 : decode cX9_advances 84 = .ok (.aload_n 0, 1) := by decide +kernel
theorem dX9_advances_85 : decode cX9_advances 85 = .ok (.aload_n 0, 1) := by decide +kernel
theorem dX9_advances_86 : decode cX9_advances 86 = .ok (.getfield 181, 3) := by decide +kernel
theorem dX9_advances_89 : decode cX9_advances 89 = .ok (.invokevirtual 184, 3) := by decide +kernel
theorem dX9_advances_92 : decode cX9_advances 92 = .ok (.bipush 97, 2) := by decide +kernel
theorem dX9_advances_94 : decode cX9_advances 94 = .ok (.bipush 122, 2) := by decide +kernel
theorem dX9_advances_96 : decode cX9_advances 96 = .ok (.invokestatic 137, 3) := by decide +kernel
theorem dX9_advances_99 : decode cX9_advances 99 = .ok (.ifCond .eq 43, 3) := by decide +kernel
theorem dX9_advances_102 : decode cX9_advances 102 = .ok (.iload 4, 2) := by decide +kernel
theorem dX9_advances_104 : decode cX9_advances 104 = .ok (.bipush 6, 2) := by decide +kernel
theorem dX9_advances_106 : decode cX9_advances 106 = .ok (.if_icmp .ge 18, 3) := by decide +kernel
theorem dX9_advances_109 : decode cX9_advances 109 = .ok (.lload_n 2, 1) := by decide +kernel
theorem dX9_advances_110 : decode cX9_advances 110 = .ok (.aload_n 0, 1) := by decide +kernel
theorem dX9_advances_111 : decode cX9_advances 111 = .ok (.aload_n 0, 1) := by decide +kernel
theorem dX9_advances_112 : decode cX9_advances 112 = .ok (.getfield 181, 3) := by decide +kernel
theorem dX9_advances_115 : decode cX9_advances 115 = .ok (.invokevirtual 184, 3) := by decide +kernel
theorem dX9_advances_118 : decode cX9_advances 118 = .ok (.invokestatic 130, 3) := by decide +kernel
theorem dX9_advances_121 : decode cX9_advances 121 = .ok (.goto 4, 3) := by decide +kernel
theorem dX9_advances_124 : decode cX9_advances 124 = .ok (.lload_n 2, 1) := by decide +kernel
theorem dX9_advances_125 : decode cX9_advances 125 = .ok (.lstore_n 2, 1) := by decide +kernel
theorem dX9_advances_126 : decode cX9_advances 126 = .ok (.iinc 4 1, 3) := by decide +kernel
theorem dX9_advances_129 : decode cX9_advances 129 = .ok (.aload_n 0, 1) := by decide +kernel
theorem dX9_advances_130 : decode cX9_advances 130 = .ok (.dup, 1) := by decide +kernel
theorem dX9_advances_131 : decode cX9_advances 131 = .ok (.getfield 181, 3) := by decide +kernel
theorem dX9_advances_134 : decode cX9_advances 134 = .ok (.iconst 1, 1) := by decide +kernel
theorem dX9_advances_135 : decode cX9_advances 135 = .ok (.iadd, 1) := by decide +kernel
theorem dX9_advances_136 : decode cX9_advances 136 = .ok (.putfield 181, 3) := by decide +kernel
theorem dX9_advances_139 : decode cX9_advances 139 = .ok (.goto (-55), 3) := by decide +kernel
theorem dX9_advances_142 : decode cX9_advances 142 = .ok (.aload_n 0, 1) := by decide +kernel
theorem dX9_advances_143 : decode cX9_advances 143 = .ok (.iconst 4, 1) := by decide +kernel
theorem dX9_advances_144 : decode cX9_advances 144 = .ok (.putfield 191, 3) := by decide +kernel
theorem dX9_advances_147 : decode cX9_advances 147 = .ok (.iconst 0, 1) := by decide +kernel
theorem dX9_advances_148 : decode cX9_advances 148 = .ok (.istore 5, 2) := by decide +kernel
theorem dX9_advances_150 : decode cX9_advances 150 = .ok (.iload 5, 2) := by decide +kernel
theorem dX9_advances_152 : decode cX9_advances 152 = .ok (.bipush 16, 2) := by decide +kernel
theorem dX9_advances_154 : decode cX9_advances 154 = .ok (.if_icmp .ge 39, 3) := by decide +kernel
theorem dX9_advances_157 : decode cX9_advances 157 = .ok (.iload 4, 2) := by decide +kernel
theorem dX9_advances_159 : decode cX9_advances 159 = .ok (.bipush 7, 2) := by decide +kernel
theorem dX9_advances_161 : decode cX9_advances 161 = .ok (.if_icmp .ge 32, 3) := by decide +kernel
theorem dX9_advances_164 : decode cX9_advances 164 = .ok (.aload_n 0, 1) := by decide +kernel
theorem dX9_advances_165 : decode cX9_advances 165 = .ok (.getfield 7, 3) := by decide +kernel
theorem dX9_advances_168 : decode cX9_advances 168 = .ok (.iload 5, 2) := by decide +kernel
theorem dX9_advances_170 : decode cX9_advances 170 = .ok (.laload, 1) := by decide +kernel
theorem dX9_advances_171 : decode cX9_advances 171 = .ok (.lload_n 2, 1) := by decide +kernel
theorem dX9_advances_172 : decode cX9_advances 172 = .ok (.lcmp, 1) := by decide +kernel
theorem dX9_advances_173 : decode cX9_advances 173 = .ok (.ifCond .ne 14, 3) := by decide +kernel
theorem dX9_advances_176 : decode cX9_advances 176 = .ok (.aload_n 0, 1) := by decide +kernel
theorem dX9_advances_177 : decode cX9_advances 177 = .ok (.iconst 1, 1) := by decide +kernel
theorem dX9_advances_178 : decode cX9_advances 178 = .ok (.putfield 191, 3) := by decide +kernel
theorem dX9_advances_181 : decode cX9_advances 181 = .ok (.aload_n 0, 1) := by decide +kernel
theorem dX9_advances_182 : decode cX9_advances 182 = .ok (.iload 5, 2) := by decide +kernel
theorem dX9_advances_184 : decode cX9_advances 184 = .ok (.putfield 194, 3) := by decide +kernel
theorem dX9_advances_187 : decode cX9_advances 187 = .ok (.iinc 5 1, 3) := by decide +kernel
theorem dX9_advances_190 : decode cX9_advances 190 = .ok (.goto (-40), 3) := by decide +kernel
theorem dX9_advances_193 : decode cX9_advances 193 = .ok (.goto 220, 3) := by decide +kernel
theorem dX9_advances_196 : decode cX9_advances 196 = .ok (.iload_n 1, 1) := by decide +kernel
theorem dX9_advances_197 : decode cX9_advances 197 = .ok (.invokestatic 197, 3) := by decide +kernel
theorem dX9_advances_200 : decode cX9_advances 200 = .ok (.ifCond .eq 107, 3) := by decide +kernel
theorem dX9_advances_203 : decode cX9_advances 203 = .ok (.aload_n 0, 1) := by decide +kernel
theorem dX9_advances_204 : decode cX9_advances 204 = .ok (.iconst 0, 1) := by decide +kernel
theorem dX9_advances_205 : decode cX9_advances 205 = .ok (.putfield 194, 3) := by decide +kernel
theorem dX9_advances_208 : decode cX9_advances 208 = .ok (.iconst 0, 1) := by decide +kernel
theorem dX9_advances_209 : decode cX9_advances 209 = .ok (.istore_n 2, 1) := by decide +kernel
theorem dX9_advances_210 : decode cX9_advances 210 = .ok (.aload_n 0, 1) := by decide +kernel
theorem dX9_advances_211 : decode cX9_advances 211 = .ok (.aload_n 0, 1) := by decide +kernel
theorem dX9_advances_212 : decode cX9_advances 212 = .ok (.getfield 181, 3) := by decide +kernel
theorem dX9_advances_215 : decode cX9_advances 215 = .ok (.invokevirtual 184, 3) := by decide +kernel
theorem dX9_advances_218 : decode cX9_advances 218 = .ok (.invokestatic 197, 3) := by decide +kernel
theorem dX9_advances_221 : decode cX9_advances 221 = .ok (.ifCond .eq 53, 3) := by decide +kernel
theorem dX9_advances_224 : decode cX9_advances 224 = .ok (.aload_n 0, 1) := by decide +kernel
theorem dX9_advances_225 : decode cX9_advances 225 = .ok (.iload_n 2, 1) := by decide +kernel
theorem dX9_advances_226 : decode cX9_advances 226 = .ok (.iconst 4, 1) := by decide +kernel
theorem dX9_advances_227 : decode cX9_advances 227 = .ok (.if_icmp .ge 25, 3) := by decide +kernel
theorem dX9_advances_230 : decode cX9_advances 230 = .ok (.bipush 10, 2) := by decide +kernel
theorem dX9_advances_232 : decode cX9_advances 232 = .ok (.aload_n 0, 1) := by decide +kernel
theorem dX9_advances_233 : decode cX9_advances 233 = .ok (.getfield 194, 3) := by decide +kernel
theorem dX9_advances_236 : decode cX9_advances 236 = .ok (.imul, 1) := by decide +kernel
theorem dX9_advances_237 : decode cX9_advances 237 = .ok (.aload_n 0, 1) := by decide +kernel
theorem dX9_advances_238 : decode cX9_advances 238 = .ok (.aload_n 0, 1) := by decide +kernel
theorem dX9_advances_239 : decode cX9_advances 239 = .ok (.getfield 181, 3) := by decide +kernel
theorem dX9_advances_242 : decode cX9_advances 242 = .ok (.invokevirtual 184, 3) := by decide +kernel
theorem dX9_advances_245 : decode cX9_advances 245 = .ok (.iadd, 1) := by decide +kernel
theorem dX9_advances_246 : decode cX9_advances 246 = .ok (.bipush 48, 2) := by decide +kernel
theorem dX9_advances_248 : decode cX9_advances 248 = .ok (.isub, 1) := by decide +kernel
theorem dX9_advances_249 : decode cX9_advances 249 = .ok (.goto 6, 3) := by decide +kernel
theorem dX9_advances_252 : decode cX9_advances 252 = .ok (.sipush 10000, 3) := by decide +kernel
theorem dX9_advances_255 : decode cX9_advances 255 = .ok (.putfield 194, 3) := by decide +kernel
theorem dX9_advances_258 : decode cX9_advances 258 = .ok (.iinc 2 1, 3) := by decide +kernel
theorem dX9_advances_261 : decode cX9_advances 261 = .ok (.aload_n 0, 1) := by decide +kernel
theorem dX9_advances_262 : decode cX9_advances 262 = .ok (.dup, 1) := by decide +kernel
theorem dX9_advances_263 : decode cX9_advances 263 = .ok (.getfield 181, 3) := by decide +kernel
theorem dX9_advances_266 : decode cX9_advances 266 = .ok (.iconst 1, 1) := by decide +kernel
theorem dX9_advances_267 : decode cX9_advances 267 = .ok (.iadd, 1) := by decide +kernel
theorem dX9_advances_268 : decode cX9_advances 268 = .ok (.putfield 181, 3) := by decide +kernel
theorem dX9_advances_271 : decode cX9_advances 271 = .ok (.goto (-61), 3) := by decide +kernel
theorem dX9_advances_274 : decode cX9_advances 274 = .ok (.aload_n 0, 1) := by decide +kernel
theorem dX9_advances_275 : decode cX9_advances 275 = .ok (.aload_n 0, 1) := by decide +kernel
theorem dX9_advances_276 : decode cX9_advances 276 = .ok (.getfield 194, 3) := by decide +kernel
theorem dX9_advances_279 : decode cX9_advances 279 = .ok (.sipush 9999, 3) := by decide +kernel
theorem dX9_advances_282 : decode cX9_advances 282 = .ok (.if_icmp .gt 14, 3) := by decide +kernel
theorem dX9_advances_285 : decode cX9_advances 285 = .ok (.iload_n 1, 1) := by decide +kernel
theorem dX9_advances_286 : decode cX9_advances 286 = .ok (.bipush 48, 2) := by decide +kernel
theorem dX9_advances_288 : decode cX9_advances 288 = .ok (.if_icmp .ne 12, 3) := by decide +kernel
theorem dX9_advances_291 : decode cX9_advances 291 = .ok (.iload_n 2, 1) := by decide +kernel
theorem dX9_advances_292 : decode cX9_advances 292 = .ok (.iconst 1, 1) := by decide +kernel
theorem dX9_advances_293 : decode cX9_advances 293 = .ok (.if_icmp .le 7, 3) := by decide +kernel
theorem dX9_advances_296 : decode cX9_advances 296 = .ok (.iconst 4, 1) := by decide +kernel
theorem dX9_advances_297 : decode cX9_advances 297 = .ok (.goto 4, 3) := by decide +kernel
theorem dX9_advances_300 : decode cX9_advances 300 = .ok (.iconst 2, 1) := by decide +kernel
theorem dX9_advances_301 : decode cX9_advances 301 = .ok (.putfield 191, 3) := by decide +kernel
theorem dX9_advances_304 : decode cX9_advances 304 = .ok (.goto 109, 3) := by decide +kernel
theorem dX9_advances_307 : decode cX9_advances 307 = .ok (.aload_n 0, 1) := by decide +kernel
theorem dX9_advances_308 : decode cX9_advances 308 = .ok (.iload_n 1, 1) := by decide +kernel
theorem dX9_advances_309 : decode cX9_advances 309 = .ok (.putfield 194, 3) := by decide +kernel
theorem dX9_advances_312 : decode cX9_advances 312 = .ok (.aload_n 0, 1) := by decide +kernel
theorem dX9_advances_313 : decode cX9_advances 313 = .ok (.dup, 1) := by decide +kernel
theorem dX9_advances_314 : decode cX9_advances 314 = .ok (.getfield 181, 3) := by decide +kernel
theorem dX9_advances_317 : decode cX9_advances 317 = .ok (.iconst 1, 1) := by decide +kernel
theorem dX9_advances_318 : decode cX9_advances 318 = .ok (.iadd, 1) := by decide +kernel
theorem dX9_advances_319 : decode cX9_advances 319 = .ok (.putfield 181, 3) := by decide +kernel
theorem dX9_advances_322 : decode cX9_advances 322 = .ok (.iload_n 1, 1) := by decide +kernel
theorem dX9_advances_323 : decode cX9_advances 323 = .ok (.bipush 58, 2) := by decide +kernel
theorem dX9_advances_325 : decode cX9_advances 325 = .ok (.if_icmp .eq 69, 3) := by decide +kernel
theorem dX9_advances_328 : decode cX9_advances 328 = .ok (.iload_n 1, 1) := by decide +kernel
theorem dX9_advances_329 : decode cX9_advances 329 = .ok (.bipush 59, 2) := by decide +kernel
theorem dX9_advances_331 : decode cX9_advances 331 = .ok (.if_icmp .eq 63, 3) := by decide +kernel
theorem dX9_advances_334 : decode cX9_advances 334 = .ok (.iload_n 1, 1) := by decide +kernel
theorem dX9_advances_335 : decode cX9_advances 335 = .ok (.bipush 40, 2) := by decide +kernel
theorem dX9_advances_337 : decode cX9_advances 337 = .ok (.if_icmp .eq 57, 3) := by decide +kernel
theorem dX9_advances_340 : decode cX9_advances 340 = .ok (.iload_n 1, 1) := by decide +kernel
theorem dX9_advances_341 : decode cX9_advances 341 = .ok (.bipush 41, 2) := by decide +kernel
theorem dX9_advances_343 : decode cX9_advances 343 = .ok (.if_icmp .eq 51, 3) := by decide +kernel
theorem dX9_advances_346 : decode cX9_advances 346 = .ok (.iload_n 1, 1) := by decide +kernel
theorem dX9_advances_347 : decode cX9_advances 347 = .ok (.bipush 38, 2) := by decide +kernel
theorem dX9_advances_349 : decode cX9_advances 349 = .ok (.if_icmp .eq 45, 3) := by decide +kernel
theorem dX9_advances_352 : decode cX9_advances 352 = .ok (.iload_n 1, 1) := by decide +kernel
theorem dX9_advances_353 : decode cX9_advances 353 = .ok (.bipush 124, 2) := by decide +kernel
theorem dX9_advances_355 : decode cX9_advances 355 = .ok (.if_icmp .eq 39, 3) := by decide +kernel
theorem dX9_advances_358 : decode cX9_advances 358 = .ok (.iload_n 1, 1) := by decide +kernel
theorem dX9_advances_359 : decode cX9_advances 359 = .ok (.bipush 33, 2) := by decide +kernel
theorem dX9_advances_361 : decode cX9_advances 361 = .ok (.if_icmp .eq 33, 3) := by decide +kernel
theorem dX9_advances_364 : decode cX9_advances 364 = .ok (.iload_n 1, 1) := by decide +kernel
theorem dX9_advances_365 : decode cX9_advances 365 = .ok (.bipush 60, 2) := by decide +kernel
theorem dX9_advances_367 : decode cX9_advances 367 = .ok (.if_icmp .eq 27, 3) := by decide +kernel
theorem dX9_advances_370 : decode cX9_advances 370 = .ok (.iload_n 1, 1) := by decide +kernel
theorem dX9_advances_371 : decode cX9_advances 371 = .ok (.bipush 62, 2) := by decide +kernel
theorem dX9_advances_373 : decode cX9_advances 373 = .ok (.if_icmp .eq 21, 3) := by decide +kernel
theorem dX9_advances_376 : decode cX9_advances 376 = .ok (.iload_n 1, 1) := by decide +kernel
theorem dX9_advances_377 : decode cX9_advances 377 = .ok (.bipush 61, 2) := by decide +kernel
theorem dX9_advances_379 : decode cX9_advances 379 = .ok (.if_icmp .eq 15, 3) := by decide +kernel
theorem dX9_advances_382 : decode cX9_advances 382 = .ok (.iload_n 1, 1) := by decide +kernel
theorem dX9_advances_383 : decode cX9_advances 383 = .ok (.bipush 44, 2) := by decide +kernel
theorem dX9_advances_385 : decode cX9_advances 385 = .ok (.if_icmp .eq 9, 3) := by decide +kernel
theorem dX9_advances_388 : decode cX9_advances 388 = .ok (.iload_n 1, 1) := by decide +kernel
theorem dX9_advances_389 : decode cX9_advances 389 = .ok (.bipush 45, 2) := by decide +kernel
theorem dX9_advances_391 : decode cX9_advances 391 = .ok (.if_icmp .ne 7, 3) := by decide +kernel
theorem dX9_advances_394 : decode cX9_advances 394 = .ok (.iconst 1, 1) := by decide +kernel
theorem dX9_advances_395 : decode cX9_advances 395 = .ok (.goto 4, 3) := by decide +kernel
theorem dX9_advances_398 : decode cX9_advances 398 = .ok (.iconst 0, 1) := by decide +kernel
theorem dX9_advances_399 : decode cX9_advances 399 = .ok (.istore_n 2, 1) := by decide +kernel
theorem dX9_advances_400 : decode cX9_advances 400 = .ok (.aload_n 0, 1) := by decide +kernel
theorem dX9_advances_401 : decode cX9_advances 401 = .ok (.iload_n 2, 1) := by decide +kernel
theorem dX9_advances_402 : decode cX9_advances 402 = .ok (.ifCond .eq 7, 3) := by decide +kernel
theorem dX9_advances_405 : decode cX9_advances 405 = .ok (.iconst 3, 1) := by decide +kernel
theorem dX9_advances_406 : decode cX9_advances 406 = .ok (.goto 4, 3) := by decide +kernel
theorem dX9_advances_409 : decode cX9_advances 409 = .ok (.iconst 4, 1) := by decide +kernel
theorem dX9_advances_410 : decode cX9_advances 410 = .ok (.putfield 191, 3) := by decide +kernel
theorem dX9_advances_413 : decode cX9_advances 413 = .ok (.return_, 1) := by decide +kernel
theorem dX9_isWell_0 : decode cX9_isWell 0 = .ok (.aload_n 0, 1) := by decide +kernel
theorem dX9_isWell_1 : decode cX9_isWell 1 = .ok (.getfield 200, 3) := by decide +kernel
theorem dX9_isWell_4 : decode cX9_isWell 4 = .ok (.ifCond .ge 7, 3) := by decide +kernel
theorem dX9_isWell_7 : decode cX9_isWell 7 = .ok (.iconst 1, 1) := by decide +kernel
theorem dX9_isWell_8 : decode cX9_isWell 8 = .ok (.goto 4, 3) := by decide +kernel
theorem dX9_isWell_11 : decode cX9_isWell 11 = .ok (.iconst 0, 1) := by decide +kernel
theorem dX9_isWell_12 : decode cX9_isWell 12 = .ok (.ireturn, 1) := by decide +kernel
theorem dX9_fails_0 : decode cX9_fails 0 = .ok (.aload_n 0, 1) := by decide +kernel
theorem dX9_fails_1 : decode cX9_fails 1 = .ok (.aload_n 0, 1) := by decide +kernel
theorem dX9_fails_2 : decode cX9_fails 2 = .ok (.getfield 200, 3) := by decide +kernel
theorem dX9_fails_5 : decode cX9_fails 5 = .ok (.ifCond .ge 10, 3) := by decide +kernel
theorem dX9_fails_8 : decode cX9_fails 8 = .ok (.aload_n 0, 1) := by decide +kernel
theorem dX9_fails_9 : decode cX9_fails 9 = .ok (.getfield 188, 3) := by decide +kernel
theorem dX9_fails_12 : decode cX9_fails 12 = .ok (.goto 7, 3) := by decide +kernel
theorem dX9_fails_15 : decode cX9_fails 15 = .ok (.aload_n 0, 1) := by decide +kernel
theorem dX9_fails_16 : decode cX9_fails 16 = .ok (.getfield 200, 3) := by decide +kernel
theorem dX9_fails_19 : decode cX9_fails 19 = .ok (.putfield 200, 3) := by decide +kernel
theorem dX9_fails_22 : decode cX9_fails 22 = .ok (.return_, 1) := by decide +kernel
theorem dX9_isSign_0 : decode cX9_isSign 0 = .ok (.aload_n 0, 1) := by decide +kernel
theorem dX9_isSign_1 : decode cX9_isSign 1 = .ok (.invokevirtual 203, 3) := by decide +kernel
theorem dX9_isSign_4 : decode cX9_isSign 4 = .ok (.ifCond .eq 23, 3) := by decide +kernel
theorem dX9_isSign_7 : decode cX9_isSign 7 = .ok (.aload_n 0, 1) := by decide +kernel
theorem dX9_isSign_8 : decode cX9_isSign 8 = .ok (.getfield 191, 3) := by decide +kernel
theorem dX9_isSign_11 : decode cX9_isSign 11 = .ok (.iconst 3, 1) := by decide +kernel
theorem dX9_isSign_12 : decode cX9_isSign 12 = .ok (.if_icmp .ne 15, 3) := by decide +kernel
theorem dX9_isSign_15 : decode cX9_isSign 15 = .ok (.aload_n 0, 1) := by decide +kernel
theorem dX9_isSign_16 : decode cX9_isSign 16 = .ok (.getfield 194, 3) := by decide +kernel
theorem dX9_isSign_19 : decode cX9_isSign 19 = .ok (.iload_n 1, 1) := by decide +kernel
theorem dX9_isSign_20 : decode cX9_isSign 20 = .ok (.if_icmp .ne 7, 3) := by decide +kernel
theorem dX9_isSign_23 : decode cX9_isSign 23 = .ok (.iconst 1, 1) := by decide +kernel
theorem dX9_isSign_24 : decode cX9_isSign 24 = .ok (.goto 4, 3) := by decide +kernel
theorem dX9_isSign_27 : decode cX9_isSign 27 = .ok (.iconst 0, 1) := by decide +kernel
theorem dX9_isSign_28 : decode cX9_isSign 28 = .ok (.ireturn, 1) := by decide +kernel
theorem dX9_isWord_0 : decode cX9_isWord 0 = .ok (.aload_n 0, 1) := by decide +kernel
theorem dX9_isWord_1 : decode cX9_isWord 1 = .ok (.invokevirtual 203, 3) := by decide +kernel
theorem dX9_isWord_4 : decode cX9_isWord 4 = .ok (.ifCond .eq 23, 3) := by decide +kernel
theorem dX9_isWord_7 : decode cX9_isWord 7 = .ok (.aload_n 0, 1) := by decide +kernel
theorem dX9_isWord_8 : decode cX9_isWord 8 = .ok (.getfield 191, 3) := by decide +kernel
theorem dX9_isWord_11 : decode cX9_isWord 11 = .ok (.iconst 1, 1) := by decide +kernel
theorem dX9_isWord_12 : decode cX9_isWord 12 = .ok (.if_icmp .ne 15, 3) := by decide +kernel
theorem dX9_isWord_15 : decode cX9_isWord 15 = .ok (.aload_n 0, 1) := by decide +kernel
theorem dX9_isWord_16 : decode cX9_isWord 16 = .ok (.getfield 194, 3) := by decide +kernel
theorem dX9_isWord_19 : decode cX9_isWord 19 = .ok (.iload_n 1, 1) := by decide +kernel
theorem dX9_isWord_20 : decode cX9_isWord 20 = .ok (.if_icmp .ne 7, 3) := by decide +kernel
theorem dX9_isWord_23 : decode cX9_isWord 23 = .ok (.iconst 1, 1) := by decide +kernel
theorem dX9_isWord_24 : decode cX9_isWord 24 = .ok (.goto 4, 3) := by decide +kernel
theorem dX9_isWord_27 : decode cX9_isWord 27 = .ok (.iconst 0, 1) := by decide +kernel
theorem dX9_isWord_28 : decode cX9_isWord 28 = .ok (.ireturn, 1) := by decide +kernel
theorem dX9_takesSign_0 : decode cX9_takesSign 0 = .ok (.aload_n 0, 1) := by decide +kernel
theorem dX9_takesSign_1 : decode cX9_takesSign 1 = .ok (.iload_n 1, 1) := by decide +kernel
theorem dX9_takesSign_2 : decode cX9_takesSign 2 = .ok (.invokevirtual 207, 3) := by decide +kernel
theorem dX9_takesSign_5 : decode cX9_takesSign 5 = .ok (.ifCond .eq 10, 3) := by decide +kernel
theorem dX9_takesSign_8 : decode cX9_takesSign 8 = .ok (.aload_n 0, 1) := by decide +kernel
theorem dX9_takesSign_9 : decode cX9_takesSign 9 = .ok (.invokevirtual 210, 3) := by decide +kernel
theorem dX9_takesSign_12 : decode cX9_takesSign 12 = .ok (.goto 7, 3) := by decide +kernel
theorem dX9_takesSign_15 : decode cX9_takesSign 15 = .ok (.aload_n 0, 1) := by decide +kernel
theorem dX9_takesSign_16 : decode cX9_takesSign 16 = .ok (.invokevirtual 213, 3) := by decide +kernel
theorem dX9_takesSign_19 : decode cX9_takesSign 19 = .ok (.return_, 1) := by decide +kernel
theorem dX9_takesWord_0 : decode cX9_takesWord 0 = .ok (.aload_n 0, 1) := by decide +kernel
theorem dX9_takesWord_1 : decode cX9_takesWord 1 = .ok (.iload_n 1, 1) := by decide +kernel
theorem dX9_takesWord_2 : decode cX9_takesWord 2 = .ok (.invokevirtual 216, 3) := by decide +kernel
theorem dX9_takesWord_5 : decode cX9_takesWord 5 = .ok (.ifCond .eq 10, 3) := by decide +kernel
theorem dX9_takesWord_8 : decode cX9_takesWord 8 = .ok (.aload_n 0, 1) := by decide +kernel
theorem dX9_takesWord_9 : decode cX9_takesWord 9 = .ok (.invokevirtual 210, 3) := by decide +kernel
theorem dX9_takesWord_12 : decode cX9_takesWord 12 = .ok (.goto 7, 3) := by decide +kernel
theorem dX9_takesWord_15 : decode cX9_takesWord 15 = .ok (.aload_n 0, 1) := by decide +kernel
theorem dX9_takesWord_16 : decode cX9_takesWord 16 = .ok (.invokevirtual 213, 3) := by decide +kernel
theorem dX9_takesWord_19 : decode cX9_takesWord 19 = .ok (.return_, 1) := by decide +kernel
theorem dX9_takesNumber_0 : decode cX9_takesNumber 0 = .ok (.aload_n 0, 1) := by decide +kernel
