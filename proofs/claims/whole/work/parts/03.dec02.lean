theorem dX5_readTest_76 : decode cX5_readTest 76 = .ok (.bipush (-9), 2) := by decide +kernel
theorem dX5_readTest_78 : decode cX5_readTest 78 = .ok (.istore_n 1, 1) := by decide +kernel
theorem dX5_readTest_79 : decode cX5_readTest 79 = .ok (.iload_n 1, 1) := by decide +kernel
theorem dX5_readTest_80 : decode cX5_readTest 80 = .ok (.bipush (-9), 2) := by decide +kernel
theorem dX5_readTest_82 : decode cX5_readTest 82 = .ok (.if_icmp .ne 5, 3) := by decide +kernel
theorem dX5_readTest_85 : decode cX5_readTest 85 = .ok (.iconst 0, 1) := by decide +kernel
theorem dX5_readTest_86 : decode cX5_readTest 86 = .ok (.ireturn, 1) := by decide +kernel
theorem dX5_readTest_87 : decode cX5_readTest 87 = .ok (.aload_n 0, 1) := by decide +kernel
theorem dX5_readTest_88 : decode cX5_readTest 88 = .ok (.invokevirtual 38, 3) := by decide +kernel
theorem dX5_readTest_91 : decode cX5_readTest 91 = .ok (.aload_n 0, 1) := by decide +kernel
theorem dX5_readTest_92 : decode cX5_readTest 92 = .ok (.iconst 0, 1) := by decide +kernel
theorem dX5_readTest_93 : decode cX5_readTest 93 = .ok (.sipush 9999, 3) := by decide +kernel
theorem dX5_readTest_96 : decode cX5_readTest 96 = .ok (.invokevirtual 90, 3) := by decide +kernel
theorem dX5_readTest_99 : decode cX5_readTest 99 = .ok (.istore_n 2, 1) := by decide +kernel
theorem dX5_readTest_100 : decode cX5_readTest 100 = .ok (.iload_n 2, 1) := by decide +kernel
theorem dX5_readTest_101 : decode cX5_readTest 101 = .ok (.bipush (-9), 2) := by decide +kernel
theorem dX5_readTest_103 : decode cX5_readTest 103 = .ok (.if_icmp .ne 5, 3) := by decide +kernel
theorem dX5_readTest_106 : decode cX5_readTest 106 = .ok (.iconst 0, 1) := by decide +kernel
theorem dX5_readTest_107 : decode cX5_readTest 107 = .ok (.ireturn, 1) := by decide +kernel
theorem dX5_readTest_108 : decode cX5_readTest 108 = .ok (.aload_n 0, 1) := by decide +kernel
theorem dX5_readTest_109 : decode cX5_readTest 109 = .ok (.getfield 19, 3) := by decide +kernel
theorem dX5_readTest_112 : decode cX5_readTest 112 = .ok (.iload_n 1, 1) := by decide +kernel
theorem dX5_readTest_113 : decode cX5_readTest 113 = .ok (.iload_n 2, 1) := by decide +kernel
theorem dX5_readTest_114 : decode cX5_readTest 114 = .ok (.invokevirtual 175, 3) := by decide +kernel
theorem dX5_readTest_117 : decode cX5_readTest 117 = .ok (.iconst 1, 1) := by decide +kernel
theorem dX5_readTest_118 : decode cX5_readTest 118 = .ok (.ireturn, 1) := by decide +kernel
theorem dX5_testWord_0 : decode cX5_testWord 0 = .ok (.aload_n 0, 1) := by decide +kernel
theorem dX5_testWord_1 : decode cX5_testWord 1 = .ok (.ldc 184, 2) := by decide +kernel
theorem dX5_testWord_3 : decode cX5_testWord 3 = .ok (.invokevirtual 46, 3) := by decide +kernel
theorem dX5_testWord_6 : decode cX5_testWord 6 = .ok (.ifCond .eq 6, 3) := by decide +kernel
theorem dX5_testWord_9 : decode cX5_testWord 9 = .ok (.bipush 6, 2) := by decide +kernel
theorem dX5_testWord_11 : decode cX5_testWord 11 = .ok (.ireturn, 1) := by decide +kernel
theorem dX5_testWord_12 : decode cX5_testWord 12 = .ok (.aload_n 0, 1) := by decide +kernel
theorem dX5_testWord_13 : decode cX5_testWord 13 = .ok (.ldc 186, 2) := by decide +kernel
theorem dX5_testWord_15 : decode cX5_testWord 15 = .ok (.invokevirtual 46, 3) := by decide +kernel
theorem dX5_testWord_18 : decode cX5_testWord 18 = .ok (.ifCond .eq 6, 3) := by decide +kernel
theorem dX5_testWord_21 : decode cX5_testWord 21 = .ok (.bipush 7, 2) := by decide +kernel
theorem dX5_testWord_23 : decode cX5_testWord 23 = .ok (.ireturn, 1) := by decide +kernel
theorem dX5_testWord_24 : decode cX5_testWord 24 = .ok (.aload_n 0, 1) := by decide +kernel
theorem dX5_testWord_25 : decode cX5_testWord 25 = .ok (.ldc 188, 2) := by decide +kernel
theorem dX5_testWord_27 : decode cX5_testWord 27 = .ok (.invokevirtual 46, 3) := by decide +kernel
theorem dX5_testWord_30 : decode cX5_testWord 30 = .ok (.ifCond .eq 6, 3) := by decide +kernel
theorem dX5_testWord_33 : decode cX5_testWord 33 = .ok (.bipush 8, 2) := by decide +kernel
theorem dX5_testWord_35 : decode cX5_testWord 35 = .ok (.ireturn, 1) := by decide +kernel
theorem dX5_testWord_36 : decode cX5_testWord 36 = .ok (.aload_n 0, 1) := by decide +kernel
theorem dX5_testWord_37 : decode cX5_testWord 37 = .ok (.ldc 190, 2) := by decide +kernel
theorem dX5_testWord_39 : decode cX5_testWord 39 = .ok (.invokevirtual 46, 3) := by decide +kernel
theorem dX5_testWord_42 : decode cX5_testWord 42 = .ok (.ifCond .eq 6, 3) := by decide +kernel
theorem dX5_testWord_45 : decode cX5_testWord 45 = .ok (.bipush 9, 2) := by decide +kernel
theorem dX5_testWord_47 : decode cX5_testWord 47 = .ok (.ireturn, 1) := by decide +kernel
theorem dX5_testWord_48 : decode cX5_testWord 48 = .ok (.aload_n 0, 1) := by decide +kernel
theorem dX5_testWord_49 : decode cX5_testWord 49 = .ok (.ldc 147, 2) := by decide +kernel
theorem dX5_testWord_51 : decode cX5_testWord 51 = .ok (.invokevirtual 46, 3) := by decide +kernel
theorem dX5_testWord_54 : decode cX5_testWord 54 = .ok (.ifCond .eq 8, 3) := by decide +kernel
theorem dX5_testWord_57 : decode cX5_testWord 57 = .ok (.bipush 10, 2) := by decide +kernel
theorem dX5_testWord_59 : decode cX5_testWord 59 = .ok (.goto 5, 3) := by decide +kernel
theorem dX5_testWord_62 : decode cX5_testWord 62 = .ok (.bipush (-9), 2) := by decide +kernel
theorem dX5_testWord_64 : decode cX5_testWord 64 = .ok (.ireturn, 1) := by decide +kernel
theorem dX5_ageSign_0 : decode cX5_ageSign 0 = .ok (.aload_n 0, 1) := by decide +kernel
theorem dX5_ageSign_1 : decode cX5_ageSign 1 = .ok (.getfield 41, 3) := by decide +kernel
theorem dX5_ageSign_4 : decode cX5_ageSign 4 = .ok (.tableswitch 35 60 62 #[28, 32, 30], 28) := by decide +kernel
theorem dX5_ageSign_32 : decode cX5_ageSign 32 = .ok (.iconst 4, 1) := by decide +kernel
theorem dX5_ageSign_33 : decode cX5_ageSign 33 = .ok (.ireturn, 1) := by decide +kernel
theorem dX5_ageSign_34 : decode cX5_ageSign 34 = .ok (.iconst 5, 1) := by decide +kernel
theorem dX5_ageSign_35 : decode cX5_ageSign 35 = .ok (.ireturn, 1) := by decide +kernel
theorem dX5_ageSign_36 : decode cX5_ageSign 36 = .ok (.bipush 6, 2) := by decide +kernel
theorem dX5_ageSign_38 : decode cX5_ageSign 38 = .ok (.ireturn, 1) := by decide +kernel
theorem dX5_ageSign_39 : decode cX5_ageSign 39 = .ok (.bipush (-9), 2) := by decide +kernel
theorem dX5_ageSign_41 : decode cX5_ageSign 41 = .ok (.ireturn, 1) := by decide +kernel
theorem dX6_init_0 : decode cX6_init 0 = .ok (.aload_n 0, 1) := by decide +kernel
theorem dX6_init_1 : decode cX6_init 1 = .ok (.invokespecial 1, 3) := by decide +kernel
theorem dX6_init_4 : decode cX6_init 4 = .ok (.aload_n 0, 1) := by decide +kernel
theorem dX6_init_5 : decode cX6_init 5 = .ok (.bipush 81, 2) := by decide +kernel
theorem dX6_init_7 : decode cX6_init 7 = .ok (.newarray .int, 2) := by decide +kernel
theorem dX6_init_9 : decode cX6_init 9 = .ok (.putfield 9, 3) := by decide +kernel
theorem dX6_init_12 : decode cX6_init 12 = .ok (.aload_n 0, 1) := by decide +kernel
theorem dX6_init_13 : decode cX6_init 13 = .ok (.sipush 384, 3) := by decide +kernel
theorem dX6_init_16 : decode cX6_init 16 = .ok (.newarray .int, 2) := by decide +kernel
theorem dX6_init_18 : decode cX6_init 18 = .ok (.putfield 15, 3) := by decide +kernel
theorem dX6_init_21 : decode cX6_init 21 = .ok (.iconst 0, 1) := by decide +kernel
theorem dX6_init_22 : decode cX6_init 22 = .ok (.istore_n 1, 1) := by decide +kernel
theorem dX6_init_23 : decode cX6_init 23 = .ok (.iload_n 1, 1) := by decide +kernel
theorem dX6_init_24 : decode cX6_init 24 = .ok (.bipush 9, 2) := by decide +kernel
theorem dX6_init_26 : decode cX6_init 26 = .ok (.if_icmp .ge 45, 3) := by decide +kernel
theorem dX6_init_29 : decode cX6_init 29 = .ok (.iconst 0, 1) := by decide +kernel
theorem dX6_init_30 : decode cX6_init 30 = .ok (.istore_n 2, 1) := by decide +kernel
theorem dX6_init_31 : decode cX6_init 31 = .ok (.iload_n 2, 1) := by decide +kernel
theorem dX6_init_32 : decode cX6_init 32 = .ok (.bipush 9, 2) := by decide +kernel
theorem dX6_init_34 : decode cX6_init 34 = .ok (.if_icmp .ge 31, 3) := by decide +kernel
theorem dX6_init_37 : decode cX6_init 37 = .ok (.aload_n 0, 1) := by decide +kernel
theorem dX6_init_38 : decode cX6_init 38 = .ok (.getfield 9, 3) := by decide +kernel
theorem dX6_init_41 : decode cX6_init 41 = .ok (.iload_n 1, 1) := by decide +kernel
theorem dX6_init_42 : decode cX6_init 42 = .ok (.bipush 9, 2) := by decide +kernel
theorem dX6_init_44 : decode cX6_init 44 = .ok (.imul, 1) := by decide +kernel
theorem dX6_init_45 : decode cX6_init 45 = .ok (.iload_n 2, 1) := by decide +kernel
theorem dX6_init_46 : decode cX6_init 46 = .ok (.iadd, 1) := by decide +kernel
theorem dX6_init_47 : decode cX6_init 47 = .ok (.iload_n 1, 1) := by decide +kernel
theorem dX6_init_48 : decode cX6_init 48 = .ok (.iload_n 2, 1) := by decide +kernel
theorem dX6_init_49 : decode cX6_init 49 = .ok (.if_icmp .ne 7, 3) := by decide +kernel
theorem dX6_init_52 : decode cX6_init 52 = .ok (.iconst 0, 1) := by decide +kernel
theorem dX6_init_53 : decode cX6_init 53 = .ok (.goto 5, 3) := by decide +kernel
theorem dX6_init_56 : decode cX6_init 56 = .ok (.bipush 10, 2) := by decide +kernel
theorem dX6_init_58 : decode cX6_init 58 = .ok (.iastore, 1) := by decide +kernel
theorem dX6_init_59 : decode cX6_init 59 = .ok (.iinc 2 1, 3) := by decide +kernel
theorem dX6_init_62 : decode cX6_init 62 = .ok (.goto (-31), 3) := by decide +kernel
theorem dX6_init_65 : decode cX6_init 65 = .ok (.iinc 1 1, 3) := by decide +kernel
theorem dX6_init_68 : decode cX6_init 68 = .ok (.goto (-45), 3) := by decide +kernel
theorem dX6_init_71 : decode cX6_init 71 = .ok (.return_, 1) := by decide +kernel
theorem dX6_setHours_0 : decode cX6_setHours 0 = .ok (.aload_n 0, 1) := by decide +kernel
theorem dX6_setHours_1 : decode cX6_setHours 1 = .ok (.getfield 9, 3) := by decide +kernel
theorem dX6_setHours_4 : decode cX6_setHours 4 = .ok (.iload_n 1, 1) := by decide +kernel
theorem dX6_setHours_5 : decode cX6_setHours 5 = .ok (.bipush 9, 2) := by decide +kernel
theorem dX6_setHours_7 : decode cX6_setHours 7 = .ok (.imul, 1) := by decide +kernel
theorem dX6_setHours_8 : decode cX6_setHours 8 = .ok (.iload_n 2, 1) := by decide +kernel
theorem dX6_setHours_9 : decode cX6_setHours 9 = .ok (.iadd, 1) := by decide +kernel
theorem dX6_setHours_10 : decode cX6_setHours 10 = .ok (.iaload, 1) := by decide +kernel
theorem dX6_setHours_11 : decode cX6_setHours 11 = .ok (.istore 4, 2) := by decide +kernel
theorem dX6_setHours_13 : decode cX6_setHours 13 = .ok (.aload_n 0, 1) := by decide +kernel
theorem dX6_setHours_14 : decode cX6_setHours 14 = .ok (.getfield 9, 3) := by decide +kernel
theorem dX6_setHours_17 : decode cX6_setHours 17 = .ok (.iload_n 1, 1) := by decide +kernel
theorem dX6_setHours_18 : decode cX6_setHours 18 = .ok (.bipush 9, 2) := by decide +kernel
theorem dX6_setHours_20 : decode cX6_setHours 20 = .ok (.imul, 1) := by decide +kernel
theorem dX6_setHours_21 : decode cX6_setHours 21 = .ok (.iload_n 2, 1) := by decide +kernel
theorem dX6_setHours_22 : decode cX6_setHours 22 = .ok (.iadd, 1) := by decide +kernel
theorem dX6_setHours_23 : decode cX6_setHours 23 = .ok (.iload_n 3, 1) := by decide +kernel
theorem dX6_setHours_24 : decode cX6_setHours 24 = .ok (.iastore, 1) := by decide +kernel
theorem dX6_setHours_25 : decode cX6_setHours 25 = .ok (.aload_n 0, 1) := by decide +kernel
theorem dX6_setHours_26 : decode cX6_setHours 26 = .ok (.getfield 9, 3) := by decide +kernel
theorem dX6_setHours_29 : decode cX6_setHours 29 = .ok (.iload_n 2, 1) := by decide +kernel
theorem dX6_setHours_30 : decode cX6_setHours 30 = .ok (.bipush 9, 2) := by decide +kernel
theorem dX6_setHours_32 : decode cX6_setHours 32 = .ok (.imul, 1) := by decide +kernel
theorem dX6_setHours_33 : decode cX6_setHours 33 = .ok (.iload_n 1, 1) := by decide +kernel
theorem dX6_setHours_34 : decode cX6_setHours 34 = .ok (.iadd, 1) := by decide +kernel
theorem dX6_setHours_35 : decode cX6_setHours 35 = .ok (.iload_n 3, 1) := by decide +kernel
theorem dX6_setHours_36 : decode cX6_setHours 36 = .ok (.iastore, 1) := by decide +kernel
theorem dX6_setHours_37 : decode cX6_setHours 37 = .ok (.iload 4, 2) := by decide +kernel
theorem dX6_setHours_39 : decode cX6_setHours 39 = .ok (.ireturn, 1) := by decide +kernel
theorem dX6_seek_0 : decode cX6_seek 0 = .ok (.aload_n 0, 1) := by decide +kernel
theorem dX6_seek_1 : decode cX6_seek 1 = .ok (.iconst 0, 1) := by decide +kernel
theorem dX6_seek_2 : decode cX6_seek 2 = .ok (.putfield 18, 3) := by decide +kernel
theorem dX6_seek_5 : decode cX6_seek 5 = .ok (.aload_n 0, 1) := by decide +kernel
theorem dX6_seek_6 : decode cX6_seek 6 = .ok (.iconst 0, 1) := by decide +kernel
theorem dX6_seek_7 : decode cX6_seek 7 = .ok (.putfield 22, 3) := by decide +kernel
theorem dX6_seek_10 : decode cX6_seek 10 = .ok (.aload_n 0, 1) := by decide +kernel
theorem dX6_seek_11 : decode cX6_seek 11 = .ok (.iconst 0, 1) := by decide +kernel
theorem dX6_seek_12 : decode cX6_seek 12 = .ok (.putfield 25, 3) := by decide +kernel
theorem dX6_seek_15 : decode cX6_seek 15 = .ok (.iconst 1, 1) := by decide +kernel
theorem dX6_seek_16 : decode cX6_seek 16 = .ok (.istore_n 3, 1) := by decide +kernel
theorem dX6_seek_17 : decode cX6_seek 17 = .ok (.iload_n 3, 1) := by decide +kernel
theorem dX6_seek_18 : decode cX6_seek 18 = .ok (.iconst 1, 1) := by decide +kernel
theorem dX6_seek_19 : decode cX6_seek 19 = .ok (.aload_n 1, 1) := by decide +kernel
theorem dX6_seek_20 : decode cX6_seek 20 = .ok (.getfield 28, 3) := by decide +kernel
theorem dX6_seek_23 : decode cX6_seek 23 = .ok (.ishl, 1) := by decide +kernel
theorem dX6_seek_24 : decode cX6_seek 24 = .ok (.if_icmp .ge 139, 3) := by decide +kernel
theorem dX6_seek_27 : decode cX6_seek 27 = .ok (.iconst 0, 1) := by decide +kernel
theorem dX6_seek_28 : decode cX6_seek 28 = .ok (.istore 4, 2) := by decide +kernel
theorem dX6_seek_30 : decode cX6_seek 30 = .ok (.ldc 31, 2) := by decide +kernel
theorem dX6_seek_32 : decode cX6_seek 32 = .ok (.istore 5, 2) := by decide +kernel
theorem dX6_seek_34 : decode cX6_seek 34 = .ok (.iconst 0, 1) := by decide +kernel
theorem dX6_seek_35 : decode cX6_seek 35 = .ok (.istore 6, 2) := by decide +kernel
theorem dX6_seek_37 : decode cX6_seek 37 = .ok (.iload 6, 2) := by decide +kernel
theorem dX6_seek_39 : decode cX6_seek 39 = .ok (.aload_n 1, 1) := by decide +kernel
theorem dX6_seek_40 : decode cX6_seek 40 = .ok (.getfield 28, 3) := by decide +kernel
theorem dX6_seek_43 : decode cX6_seek 43 = .ok (.if_icmp .ge 64, 3) := by decide +kernel
theorem dX6_seek_46 : decode cX6_seek 46 = .ok (.iload_n 3, 1) := by decide +kernel
theorem dX6_seek_47 : decode cX6_seek 47 = .ok (.iload 6, 2) := by decide +kernel
theorem dX6_seek_49 : decode cX6_seek 49 = .ok (.ishr, 1) := by decide +kernel
theorem dX6_seek_50 : decode cX6_seek 50 = .ok (.iconst 1, 1) := by decide +kernel
theorem dX6_seek_51 : decode cX6_seek 51 = .ok (.iand, 1) := by decide +kernel
theorem dX6_seek_52 : decode cX6_seek 52 = .ok (.iconst 1, 1) := by decide +kernel
theorem dX6_seek_53 : decode cX6_seek 53 = .ok (.if_icmp .ne 48, 3) := by decide +kernel
theorem dX6_seek_56 : decode cX6_seek 56 = .ok (.iload 4, 2) := by decide +kernel
theorem dX6_seek_58 : decode cX6_seek 58 = .ok (.aload_n 1, 1) := by decide +kernel
theorem dX6_seek_59 : decode cX6_seek 59 = .ok (.getfield 32, 3) := by decide +kernel
theorem dX6_seek_62 : decode cX6_seek 62 = .ok (.iload 6, 2) := by decide +kernel
theorem dX6_seek_64 : decode cX6_seek 64 = .ok (.iaload, 1) := by decide +kernel
theorem dX6_seek_65 : decode cX6_seek 65 = .ok (.iadd, 1) := by decide +kernel
theorem dX6_seek_66 : decode cX6_seek 66 = .ok (.istore 4, 2) := by decide +kernel
theorem dX6_seek_68 : decode cX6_seek 68 = .ok (.aload_n 0, 1) := by decide +kernel
theorem dX6_seek_69 : decode cX6_seek 69 = .ok (.aload_n 1, 1) := by decide +kernel
theorem dX6_seek_70 : decode cX6_seek 70 = .ok (.iload_n 3, 1) := by decide +kernel
theorem dX6_seek_71 : decode cX6_seek 71 = .ok (.iload 6, 2) := by decide +kernel
theorem dX6_seek_73 : decode cX6_seek 73 = .ok (.invokevirtual 35, 3) := by decide +kernel
theorem dX6_seek_76 : decode cX6_seek 76 = .ok (.istore 7, 2) := by decide +kernel
theorem dX6_seek_78 : decode cX6_seek 78 = .ok (.aload_n 0, 1) := by decide +kernel
theorem dX6_seek_79 : decode cX6_seek 79 = .ok (.getfield 15, 3) := by decide +kernel
theorem dX6_seek_82 : decode cX6_seek 82 = .ok (.iload_n 3, 1) := by decide +kernel
theorem dX6_seek_83 : decode cX6_seek 83 = .ok (.bipush 6, 2) := by decide +kernel
theorem dX6_seek_85 : decode cX6_seek 85 = .ok (.imul, 1) := by decide +kernel
theorem dX6_seek_86 : decode cX6_seek 86 = .ok (.iload 6, 2) := by decide +kernel
theorem dX6_seek_88 : decode cX6_seek 88 = .ok (.iadd, 1) := by decide +kernel
theorem dX6_seek_89 : decode cX6_seek 89 = .ok (.iload 7, 2) := by decide +kernel
theorem dX6_seek_91 : decode cX6_seek 91 = .ok (.iastore, 1) := by decide +kernel
theorem dX6_seek_92 : decode cX6_seek 92 = .ok (.iload 5, 2) := by decide +kernel
theorem dX6_seek_94 : decode cX6_seek 94 = .ok (.iload 7, 2) := by decide +kernel
theorem dX6_seek_96 : decode cX6_seek 96 = .ok (.invokestatic 39, 3) := by decide +kernel
theorem dX6_seek_99 : decode cX6_seek 99 = .ok (.istore 5, 2) := by decide +kernel
theorem dX6_seek_101 : decode cX6_seek 101 = .ok (.iinc 6 1, 3) := by decide +kernel
theorem dX6_seek_104 : decode cX6_seek 104 = .ok (.goto (-67), 3) := by decide +kernel
theorem dX6_seek_107 : decode cX6_seek 107 = .ok (.iload 5, 2) := by decide +kernel
theorem dX6_seek_109 : decode cX6_seek 109 = .ok (.iload_n 2, 1) := by decide +kernel
theorem dX6_seek_110 : decode cX6_seek 110 = .ok (.if_icmp .gt 47, 3) := by decide +kernel
theorem dX6_seek_113 : decode cX6_seek 113 = .ok (.iload 4, 2) := by decide +kernel
theorem dX6_seek_115 : decode cX6_seek 115 = .ok (.aload_n 0, 1) := by decide +kernel
theorem dX6_seek_116 : decode cX6_seek 116 = .ok (.getfield 18, 3) := by decide +kernel
theorem dX6_seek_119 : decode cX6_seek 119 = .ok (.if_icmp .gt 21, 3) := by decide +kernel
theorem dX6_seek_122 : decode cX6_seek 122 = .ok (.iload 4, 2) := by decide +kernel
theorem dX6_seek_124 : decode cX6_seek 124 = .ok (.aload_n 0, 1) := by decide +kernel
theorem dX6_seek_125 : decode cX6_seek 125 = .ok (.getfield 18, 3) := by decide +kernel
theorem dX6_seek_128 : decode cX6_seek 128 = .ok (.if_icmp .ne 29, 3) := by decide +kernel
theorem dX6_seek_131 : decode cX6_seek 131 = .ok (.iload 5, 2) := by decide +kernel
theorem dX6_seek_133 : decode cX6_seek 133 = .ok (.aload_n 0, 1) := by decide +kernel
theorem dX6_seek_134 : decode cX6_seek 134 = .ok (.getfield 25, 3) := by decide +kernel
theorem dX6_seek_137 : decode cX6_seek 137 = .ok (.if_icmp .ge 20, 3) := by decide +kernel
theorem dX6_seek_140 : decode cX6_seek 140 = .ok (.aload_n 0, 1) := by decide +kernel
theorem dX6_seek_141 : decode cX6_seek 141 = .ok (.iload 4, 2) := by decide +kernel
theorem dX6_seek_143 : decode cX6_seek 143 = .ok (.putfield 18, 3) := by decide +kernel
theorem dX6_seek_146 : decode cX6_seek 146 = .ok (.aload_n 0, 1) := by decide +kernel
theorem dX6_seek_147 : decode cX6_seek 147 = .ok (.iload_n 3, 1) := by decide +kernel
theorem dX6_seek_148 : decode cX6_seek 148 = .ok (.putfield 22, 3) := by decide +kernel
theorem dX6_seek_151 : decode cX6_seek 151 = .ok (.aload_n 0, 1) := by decide +kernel
theorem dX6_seek_152 : decode cX6_seek 152 = .ok (.iload 5, 2) := by decide +kernel
theorem dX6_seek_154 : decode cX6_seek 154 = .ok (.putfield 25, 3) := by decide +kernel
theorem dX6_seek_157 : decode cX6_seek 157 = .ok (.iinc 3 1, 3) := by decide +kernel
theorem dX6_seek_160 : decode cX6_seek 160 = .ok (.goto (-143), 3) := by decide +kernel
theorem dX6_seek_163 : decode cX6_seek 163 = .ok (.return_, 1) := by decide +kernel
theorem dX6_fewestTo_0 : decode cX6_fewestTo 0 = .ok (.iload_n 2, 1) := by decide +kernel
theorem dX6_fewestTo_1 : decode cX6_fewestTo 1 = .ok (.iconst 1, 1) := by decide +kernel
theorem dX6_fewestTo_2 : decode cX6_fewestTo 2 = .ok (.iload_n 3, 1) := by decide +kernel
theorem dX6_fewestTo_3 : decode cX6_fewestTo 3 = .ok (.ishl, 1) := by decide +kernel
theorem dX6_fewestTo_4 : decode cX6_fewestTo 4 = .ok (.iconst (-1), 1) := by decide +kernel
theorem dX6_fewestTo_5 : decode cX6_fewestTo 5 = .ok (.ixor, 1) := by decide +kernel
theorem dX6_fewestTo_6 : decode cX6_fewestTo 6 = .ok (.iand, 1) := by decide +kernel
theorem dX6_fewestTo_7 : decode cX6_fewestTo 7 = .ok (.istore 4, 2) := by decide +kernel
theorem dX6_fewestTo_9 : decode cX6_fewestTo 9 = .ok (.iload 4, 2) := by decide +kernel
theorem dX6_fewestTo_11 : decode cX6_fewestTo 11 = .ok (.ifCond .ne 17, 3) := by decide +kernel
theorem dX6_fewestTo_14 : decode cX6_fewestTo 14 = .ok (.aload_n 0, 1) := by decide +kernel
theorem dX6_fewestTo_15 : decode cX6_fewestTo 15 = .ok (.getfield 9, 3) := by decide +kernel
theorem dX6_fewestTo_18 : decode cX6_fewestTo 18 = .ok (.aload_n 1, 1) := by decide +kernel
theorem dX6_fewestTo_19 : decode cX6_fewestTo 19 = .ok (.getfield 45, 3) := by decide +kernel
theorem dX6_fewestTo_22 : decode cX6_fewestTo 22 = .ok (.iload_n 3, 1) := by decide +kernel
theorem dX6_fewestTo_23 : decode cX6_fewestTo 23 = .ok (.iaload, 1) := by decide +kernel
theorem dX6_fewestTo_24 : decode cX6_fewestTo 24 = .ok (.iaload, 1) := by decide +kernel
theorem dX6_fewestTo_25 : decode cX6_fewestTo 25 = .ok (.iconst 2, 1) := by decide +kernel
theorem dX6_fewestTo_26 : decode cX6_fewestTo 26 = .ok (.iadd, 1) := by decide +kernel
theorem dX6_fewestTo_27 : decode cX6_fewestTo 27 = .ok (.ireturn, 1) := by decide +kernel
theorem dX6_fewestTo_28 : decode cX6_fewestTo 28 = .ok (.ldc 31, 2) := by decide +kernel
theorem dX6_fewestTo_30 : decode cX6_fewestTo 30 = .ok (.istore 5, 2) := by decide +kernel
theorem dX6_fewestTo_32 : decode cX6_fewestTo 32 = .ok (.iconst 0, 1) := by decide +kernel
theorem dX6_fewestTo_33 : decode cX6_fewestTo 33 = .ok (.istore 6, 2) := by decide +kernel
theorem dX6_fewestTo_35 : decode cX6_fewestTo 35 = .ok (.iload 6, 2) := by decide +kernel
theorem dX6_fewestTo_37 : decode cX6_fewestTo 37 = .ok (.aload_n 1, 1) := by decide +kernel
theorem dX6_fewestTo_38 : decode cX6_fewestTo 38 = .ok (.getfield 28, 3) := by decide +kernel
theorem dX6_fewestTo_41 : decode cX6_fewestTo 41 = .ok (.if_icmp .ge 69, 3) := by decide +kernel
theorem dX6_fewestTo_44 : decode cX6_fewestTo 44 = .ok (.iload 4, 2) := by decide +kernel
theorem dX6_fewestTo_46 : decode cX6_fewestTo 46 = .ok (.iload 6, 2) := by decide +kernel
theorem dX6_fewestTo_48 : decode cX6_fewestTo 48 = .ok (.ishr, 1) := by decide +kernel
theorem dX6_fewestTo_49 : decode cX6_fewestTo 49 = .ok (.iconst 1, 1) := by decide +kernel
theorem dX6_fewestTo_50 : decode cX6_fewestTo 50 = .ok (.iand, 1) := by decide +kernel
theorem dX6_fewestTo_51 : decode cX6_fewestTo 51 = .ok (.iconst 1, 1) := by decide +kernel
theorem dX6_fewestTo_52 : decode cX6_fewestTo 52 = .ok (.if_icmp .ne 52, 3) := by decide +kernel
theorem dX6_fewestTo_55 : decode cX6_fewestTo 55 = .ok (.aload_n 0, 1) := by decide +kernel
theorem dX6_fewestTo_56 : decode cX6_fewestTo 56 = .ok (.getfield 9, 3) := by decide +kernel
theorem dX6_fewestTo_59 : decode cX6_fewestTo 59 = .ok (.aload_n 1, 1) := by decide +kernel
theorem dX6_fewestTo_60 : decode cX6_fewestTo 60 = .ok (.getfield 45, 3) := by decide +kernel
theorem dX6_fewestTo_63 : decode cX6_fewestTo 63 = .ok (.iload 6, 2) := by decide +kernel
theorem dX6_fewestTo_65 : decode cX6_fewestTo 65 = .ok (.iaload, 1) := by decide +kernel
theorem dX6_fewestTo_66 : decode cX6_fewestTo 66 = .ok (.bipush 9, 2) := by decide +kernel
theorem dX6_fewestTo_68 : decode cX6_fewestTo 68 = .ok (.imul, 1) := by decide +kernel
theorem dX6_fewestTo_69 : decode cX6_fewestTo 69 = .ok (.aload_n 1, 1) := by decide +kernel
theorem dX6_fewestTo_70 : decode cX6_fewestTo 70 = .ok (.getfield 45, 3) := by decide +kernel
theorem dX6_fewestTo_73 : decode cX6_fewestTo 73 = .ok (.iload_n 3, 1) := by decide +kernel
theorem dX6_fewestTo_74 : decode cX6_fewestTo 74 = .ok (.iaload, 1) := by decide +kernel
theorem dX6_fewestTo_75 : decode cX6_fewestTo 75 = .ok (.iadd, 1) := by decide +kernel
theorem dX6_fewestTo_76 : decode cX6_fewestTo 76 = .ok (.iaload, 1) := by decide +kernel
theorem dX6_fewestTo_77 : decode cX6_fewestTo 77 = .ok (.istore 7, 2) := by decide +kernel
theorem dX6_fewestTo_79 : decode cX6_fewestTo 79 = .ok (.iload 5, 2) := by decide +kernel
theorem dX6_fewestTo_81 : decode cX6_fewestTo 81 = .ok (.aload_n 0, 1) := by decide +kernel
theorem dX6_fewestTo_82 : decode cX6_fewestTo 82 = .ok (.getfield 15, 3) := by decide +kernel
theorem dX6_fewestTo_85 : decode cX6_fewestTo 85 = .ok (.iload 4, 2) := by decide +kernel
theorem dX6_fewestTo_87 : decode cX6_fewestTo 87 = .ok (.bipush 6, 2) := by decide +kernel
theorem dX6_fewestTo_89 : decode cX6_fewestTo 89 = .ok (.imul, 1) := by decide +kernel
theorem dX6_fewestTo_90 : decode cX6_fewestTo 90 = .ok (.iload 6, 2) := by decide +kernel
theorem dX6_fewestTo_92 : decode cX6_fewestTo 92 = .ok (.iadd, 1) := by decide +kernel
theorem dX6_fewestTo_93 : decode cX6_fewestTo 93 = .ok (.iaload, 1) := by decide +kernel
theorem dX6_fewestTo_94 : decode cX6_fewestTo 94 = .ok (.iload 7, 2) := by decide +kernel
theorem dX6_fewestTo_96 : decode cX6_fewestTo 96 = .ok (.iadd, 1) := by decide +kernel
theorem dX6_fewestTo_97 : decode cX6_fewestTo 97 = .ok (.iconst 2, 1) := by decide +kernel
theorem dX6_fewestTo_98 : decode cX6_fewestTo 98 = .ok (.iadd, 1) := by decide +kernel
theorem dX6_fewestTo_99 : decode cX6_fewestTo 99 = .ok (.invokestatic 39, 3) := by decide +kernel
theorem dX6_fewestTo_102 : decode cX6_fewestTo 102 = .ok (.istore 5, 2) := by decide +kernel
theorem dX6_fewestTo_104 : decode cX6_fewestTo 104 = .ok (.iinc 6 1, 3) := by decide +kernel
theorem dX6_fewestTo_107 : decode cX6_fewestTo 107 = .ok (.goto (-72), 3) := by decide +kernel
theorem dX6_fewestTo_110 : decode cX6_fewestTo 110 = .ok (.iload 5, 2) := by decide +kernel
theorem dX6_fewestTo_112 : decode cX6_fewestTo 112 = .ok (.ireturn, 1) := by decide +kernel
theorem dX7_init_0 : decode cX7_init 0 = .ok (.aload_n 0, 1) := by decide +kernel
theorem dX7_init_1 : decode cX7_init 1 = .ok (.invokespecial 5, 3) := by decide +kernel
theorem dX7_init_4 : decode cX7_init 4 = .ok (.aload_n 0, 1) := by decide +kernel
theorem dX7_init_5 : decode cX7_init 5 = .ok (.bipush 6, 2) := by decide +kernel
theorem dX7_init_7 : decode cX7_init 7 = .ok (.newarray .int, 2) := by decide +kernel
theorem dX7_init_9 : decode cX7_init 9 = .ok (.putfield 11, 3) := by decide +kernel
theorem dX7_init_12 : decode cX7_init 12 = .ok (.aload_n 0, 1) := by decide +kernel
theorem dX7_init_13 : decode cX7_init 13 = .ok (.bipush 6, 2) := by decide +kernel
theorem dX7_init_15 : decode cX7_init 15 = .ok (.newarray .int, 2) := by decide +kernel
theorem dX7_init_17 : decode cX7_init 17 = .ok (.putfield 15, 3) := by decide +kernel
theorem dX7_init_20 : decode cX7_init 20 = .ok (.aload_n 0, 1) := by decide +kernel
theorem dX7_init_21 : decode cX7_init 21 = .ok (.bipush 64, 2) := by decide +kernel
theorem dX7_init_23 : decode cX7_init 23 = .ok (.newarray .int, 2) := by decide +kernel
theorem dX7_init_25 : decode cX7_init 25 = .ok (.putfield 18, 3) := by decide +kernel
theorem dX7_init_28 : decode cX7_init 28 = .ok (.aload_n 0, 1) := by decide +kernel
theorem dX7_init_29 : decode cX7_init 29 = .ok (.bipush 64, 2) := by decide +kernel
theorem dX7_init_31 : decode cX7_init 31 = .ok (.newarray .int, 2) := by decide +kernel
theorem dX7_init_33 : decode cX7_init 33 = .ok (.putfield 21, 3) := by decide +kernel
theorem dX7_init_36 : decode cX7_init 36 = .ok (.aload_n 0, 1) := by decide +kernel
theorem dX7_init_37 : decode cX7_init 37 = .ok (.bipush 64, 2) := by decide +kernel
theorem dX7_init_39 : decode cX7_init 39 = .ok (.newarray .int, 2) := by decide +kernel
theorem dX7_init_41 : decode cX7_init 41 = .ok (.putfield 24, 3) := by decide +kernel
theorem dX7_init_44 : decode cX7_init 44 = .ok (.aload_n 0, 1) := by decide +kernel
theorem dX7_init_45 : decode cX7_init 45 = .ok (.sipush 135, 3) := by decide +kernel
theorem dX7_init_48 : decode cX7_init 48 = .ok (.newarray .long, 2) := by decide +kernel
theorem dX7_init_50 : decode cX7_init 50 = .ok (.putfield 27, 3) := by decide +kernel
theorem dX7_init_53 : decode cX7_init 53 = .ok (.aload_n 0, 1) := by decide +kernel
theorem dX7_init_54 : decode cX7_init 54 = .ok (.sipush 135, 3) := by decide +kernel
theorem dX7_init_57 : decode cX7_init 57 = .ok (.newarray .long, 2) := by decide +kernel
theorem dX7_init_59 : decode cX7_init 59 = .ok (.putfield 31, 3) := by decide +kernel
theorem dX7_init_62 : decode cX7_init 62 = .ok (.iconst 0, 1) := by decide +kernel
theorem dX7_init_63 : decode cX7_init 63 = .ok (.istore_n 1, 1) := by decide +kernel
theorem dX7_init_64 : decode cX7_init 64 = .ok (.iload_n 1, 1) := by decide +kernel
theorem dX7_init_65 : decode cX7_init 65 = .ok (.bipush 6, 2) := by decide +kernel
theorem dX7_init_67 : decode cX7_init 67 = .ok (.if_icmp .ge 24, 3) := by decide +kernel
theorem dX7_init_70 : decode cX7_init 70 = .ok (.aload_n 0, 1) := by decide +kernel
theorem dX7_init_71 : decode cX7_init 71 = .ok (.getfield 11, 3) := by decide +kernel
theorem dX7_init_74 : decode cX7_init 74 = .ok (.iload_n 1, 1) := by decide +kernel
theorem dX7_init_75 : decode cX7_init 75 = .ok (.bipush 90, 2) := by decide +kernel
theorem dX7_init_77 : decode cX7_init 77 = .ok (.iastore, 1) := by decide +kernel
theorem dX7_init_78 : decode cX7_init 78 = .ok (.aload_n 0, 1) := by decide +kernel
theorem dX7_init_79 : decode cX7_init 79 = .ok (.getfield 15, 3) := by decide +kernel
theorem dX7_init_82 : decode cX7_init 82 = .ok (.iload_n 1, 1) := by decide +kernel
theorem dX7_init_83 : decode cX7_init 83 = .ok (.iconst 1, 1) := by decide +kernel
theorem dX7_init_84 : decode cX7_init 84 = .ok (.iastore, 1) := by decide +kernel
theorem dX7_init_85 : decode cX7_init 85 = .ok (.iinc 1 1, 3) := by decide +kernel
theorem dX7_init_88 : decode cX7_init 88 = .ok (.goto (-24), 3) := by decide +kernel
theorem dX7_init_91 : decode cX7_init 91 = .ok (.return_, 1) := by decide +kernel
theorem dX7_setPeriod_0 : decode cX7_setPeriod 0 = .ok (.aload_n 0, 1) := by decide +kernel
theorem dX7_setPeriod_1 : decode cX7_setPeriod 1 = .ok (.getfield 11, 3) := by decide +kernel
theorem dX7_setPeriod_4 : decode cX7_setPeriod 4 = .ok (.iload_n 1, 1) := by decide +kernel
theorem dX7_setPeriod_5 : decode cX7_setPeriod 5 = .ok (.iload_n 2, 1) := by decide +kernel
theorem dX7_setPeriod_6 : decode cX7_setPeriod 6 = .ok (.iastore, 1) := by decide +kernel
theorem dX7_setPeriod_7 : decode cX7_setPeriod 7 = .ok (.aload_n 0, 1) := by decide +kernel
theorem dX7_setPeriod_8 : decode cX7_setPeriod 8 = .ok (.getfield 15, 3) := by decide +kernel
theorem dX7_setPeriod_11 : decode cX7_setPeriod 11 = .ok (.iload_n 1, 1) := by decide +kernel
theorem dX7_setPeriod_12 : decode cX7_setPeriod 12 = .ok (.iload_n 3, 1) := by decide +kernel
theorem dX7_setPeriod_13 : decode cX7_setPeriod 13 = .ok (.iastore, 1) := by decide +kernel
theorem dX7_setPeriod_14 : decode cX7_setPeriod 14 = .ok (.iconst 1, 1) := by decide +kernel
theorem dX7_setPeriod_15 : decode cX7_setPeriod 15 = .ok (.ireturn, 1) := by decide +kernel
theorem dX7_prepare_0 : decode cX7_prepare 0 = .ok (.aload_n 0, 1) := by decide +kernel
theorem dX7_prepare_1 : decode cX7_prepare 1 = .ok (.aload_n 0, 1) := by decide +kernel
theorem dX7_prepare_2 : decode cX7_prepare 2 = .ok (.iload_n 1, 1) := by decide +kernel
theorem dX7_prepare_3 : decode cX7_prepare 3 = .ok (.iconst 1, 1) := by decide +kernel
theorem dX7_prepare_4 : decode cX7_prepare 4 = .ok (.invokevirtual 34, 3) := by decide +kernel
theorem dX7_prepare_7 : decode cX7_prepare 7 = .ok (.putfield 38, 3) := by decide +kernel
theorem dX7_prepare_10 : decode cX7_prepare 10 = .ok (.aload_n 0, 1) := by decide +kernel
theorem dX7_prepare_11 : decode cX7_prepare 11 = .ok (.aload_n 0, 1) := by decide +kernel
theorem dX7_prepare_12 : decode cX7_prepare 12 = .ok (.iload_n 1, 1) := by decide +kernel
theorem dX7_prepare_13 : decode cX7_prepare 13 = .ok (.iconst 2, 1) := by decide +kernel
theorem dX7_prepare_14 : decode cX7_prepare 14 = .ok (.invokevirtual 34, 3) := by decide +kernel
theorem dX7_prepare_17 : decode cX7_prepare 17 = .ok (.putfield 42, 3) := by decide +kernel
theorem dX7_prepare_20 : decode cX7_prepare 20 = .ok (.aload_n 0, 1) := by decide +kernel
theorem dX7_prepare_21 : decode cX7_prepare 21 = .ok (.aload_n 0, 1) := by decide +kernel
theorem dX7_prepare_22 : decode cX7_prepare 22 = .ok (.iload_n 1, 1) := by decide +kernel
theorem dX7_prepare_23 : decode cX7_prepare 23 = .ok (.iconst 3, 1) := by decide +kernel
theorem dX7_prepare_24 : decode cX7_prepare 24 = .ok (.invokevirtual 34, 3) := by decide +kernel
theorem dX7_prepare_27 : decode cX7_prepare 27 = .ok (.putfield 45, 3) := by decide +kernel
theorem dX7_prepare_30 : decode cX7_prepare 30 = .ok (.aload_n 0, 1) := by decide +kernel
theorem dX7_prepare_31 : decode cX7_prepare 31 = .ok (.iconst 0, 1) := by decide +kernel
theorem dX7_prepare_32 : decode cX7_prepare 32 = .ok (.putfield 48, 3) := by decide +kernel
theorem dX7_prepare_35 : decode cX7_prepare 35 = .ok (.iconst 0, 1) := by decide +kernel
theorem dX7_prepare_36 : decode cX7_prepare 36 = .ok (.istore 4, 2) := by decide +kernel
theorem dX7_prepare_38 : decode cX7_prepare 38 = .ok (.iload 4, 2) := by decide +kernel
theorem dX7_prepare_40 : decode cX7_prepare 40 = .ok (.iconst 1, 1) := by decide +kernel
theorem dX7_prepare_41 : decode cX7_prepare 41 = .ok (.iload_n 1, 1) := by decide +kernel
theorem dX7_prepare_42 : decode cX7_prepare 42 = .ok (.ishl, 1) := by decide +kernel
theorem dX7_prepare_43 : decode cX7_prepare 43 = .ok (.if_icmp .ge 42, 3) := by decide +kernel
theorem dX7_prepare_46 : decode cX7_prepare 46 = .ok (.aload_n 0, 1) := by decide +kernel
theorem dX7_prepare_47 : decode cX7_prepare 47 = .ok (.iload 4, 2) := by decide +kernel
theorem dX7_prepare_49 : decode cX7_prepare 49 = .ok (.iload_n 1, 1) := by decide +kernel
theorem dX7_prepare_50 : decode cX7_prepare 50 = .ok (.iload_n 2, 1) := by decide +kernel
theorem dX7_prepare_51 : decode cX7_prepare 51 = .ok (.iload_n 3, 1) := by decide +kernel
theorem dX7_prepare_52 : decode cX7_prepare 52 = .ok (.invokevirtual 51, 3) := by decide +kernel
theorem dX7_prepare_55 : decode cX7_prepare 55 = .ok (.ifCond .eq 24, 3) := by decide +kernel
theorem dX7_prepare_58 : decode cX7_prepare 58 = .ok (.aload_n 0, 1) := by decide +kernel
theorem dX7_prepare_59 : decode cX7_prepare 59 = .ok (.getfield 18, 3) := by decide +kernel
theorem dX7_prepare_62 : decode cX7_prepare 62 = .ok (.aload_n 0, 1) := by decide +kernel
theorem dX7_prepare_63 : decode cX7_prepare 63 = .ok (.getfield 48, 3) := by decide +kernel
theorem dX7_prepare_66 : decode cX7_prepare 66 = .ok (.iload 4, 2) := by decide +kernel
theorem dX7_prepare_68 : decode cX7_prepare 68 = .ok (.iastore, 1) := by decide +kernel
theorem dX7_prepare_69 : decode cX7_prepare 69 = .ok (.aload_n 0, 1) := by decide +kernel
theorem dX7_prepare_70 : decode cX7_prepare 70 = .ok (.dup, 1) := by decide +kernel
theorem dX7_prepare_71 : decode cX7_prepare 71 = .ok (.getfield 48, 3) := by decide +kernel
theorem dX7_prepare_74 : decode cX7_prepare 74 = .ok (.iconst 1, 1) := by decide +kernel
theorem dX7_prepare_75 : decode cX7_prepare 75 = .ok (.iadd, 1) := by decide +kernel
theorem dX7_prepare_76 : decode cX7_prepare 76 = .ok (.putfield 48, 3) := by decide +kernel
theorem dX7_prepare_79 : decode cX7_prepare 79 = .ok (.iinc 4 1, 3) := by decide +kernel
theorem dX7_prepare_82 : decode cX7_prepare 82 = .ok (.goto (-44), 3) := by decide +kernel
theorem dX7_prepare_85 : decode cX7_prepare 85 = .ok (.iconst 0, 1) := by decide +kernel
theorem dX7_prepare_86 : decode cX7_prepare 86 = .ok (.istore 4, 2) := by decide +kernel
theorem dX7_prepare_88 : decode cX7_prepare 88 = .ok (.iload 4, 2) := by decide +kernel
theorem dX7_prepare_90 : decode cX7_prepare 90 = .ok (.iconst 1, 1) := by decide +kernel
theorem dX7_prepare_91 : decode cX7_prepare 91 = .ok (.iload_n 1, 1) := by decide +kernel
theorem dX7_prepare_92 : decode cX7_prepare 92 = .ok (.ishl, 1) := by decide +kernel
theorem dX7_prepare_93 : decode cX7_prepare 93 = .ok (.if_icmp .ge 76, 3) := by decide +kernel
theorem dX7_prepare_96 : decode cX7_prepare 96 = .ok (.aload_n 0, 1) := by decide +kernel
theorem dX7_prepare_97 : decode cX7_prepare 97 = .ok (.getfield 21, 3) := by decide +kernel
theorem dX7_prepare_100 : decode cX7_prepare 100 = .ok (.iload 4, 2) := by decide +kernel
theorem dX7_prepare_102 : decode cX7_prepare 102 = .ok (.iconst 0, 1) := by decide +kernel
theorem dX7_prepare_103 : decode cX7_prepare 103 = .ok (.iastore, 1) := by decide +kernel
theorem dX7_prepare_104 : decode cX7_prepare 104 = .ok (.aload_n 0, 1) := by decide +kernel
theorem dX7_prepare_105 : decode cX7_prepare 105 = .ok (.getfield 48, 3) := by decide +kernel
theorem dX7_prepare_108 : decode cX7_prepare 108 = .ok (.iconst 1, 1) := by decide +kernel
theorem dX7_prepare_109 : decode cX7_prepare 109 = .ok (.isub, 1) := by decide +kernel
theorem dX7_prepare_110 : decode cX7_prepare 110 = .ok (.istore 5, 2) := by decide +kernel
theorem dX7_prepare_112 : decode cX7_prepare 112 = .ok (.iload 5, 2) := by decide +kernel
theorem dX7_prepare_114 : decode cX7_prepare 114 = .ok (.ifCond .lt 49, 3) := by decide +kernel
theorem dX7_prepare_117 : decode cX7_prepare 117 = .ok (.aload_n 0, 1) := by decide +kernel
theorem dX7_prepare_118 : decode cX7_prepare 118 = .ok (.getfield 18, 3) := by decide +kernel
theorem dX7_prepare_121 : decode cX7_prepare 121 = .ok (.iload 5, 2) := by decide +kernel
theorem dX7_prepare_123 : decode cX7_prepare 123 = .ok (.iaload, 1) := by decide +kernel
theorem dX7_prepare_124 : decode cX7_prepare 124 = .ok (.iload 4, 2) := by decide +kernel
theorem dX7_prepare_126 : decode cX7_prepare 126 = .ok (.iand, 1) := by decide +kernel
theorem dX7_prepare_127 : decode cX7_prepare 127 = .ok (.iload 4, 2) := by decide +kernel
theorem dX7_prepare_129 : decode cX7_prepare 129 = .ok (.if_icmp .ne 28, 3) := by decide +kernel
theorem dX7_prepare_132 : decode cX7_prepare 132 = .ok (.aload_n 0, 1) := by decide +kernel
theorem dX7_prepare_133 : decode cX7_prepare 133 = .ok (.getfield 21, 3) := by decide +kernel
theorem dX7_prepare_136 : decode cX7_prepare 136 = .ok (.iload 4, 2) := by decide +kernel
theorem dX7_prepare_138 : decode cX7_prepare 138 = .ok (.dup2, 1) := by decide +kernel
theorem dX7_prepare_139 : decode cX7_prepare 139 = .ok (.iaload, 1) := by decide +kernel
theorem dX7_prepare_140 : decode cX7_prepare 140 = .ok (.iconst 1, 1) := by decide +kernel
theorem dX7_prepare_141 : decode cX7_prepare 141 = .ok (.iadd, 1) := by decide +kernel
theorem dX7_prepare_142 : decode cX7_prepare 142 = .ok (.iastore, 1) := by decide +kernel
theorem dX7_prepare_143 : decode cX7_prepare 143 = .ok (.aload_n 0, 1) := by decide +kernel
theorem dX7_prepare_144 : decode cX7_prepare 144 = .ok (.getfield 24, 3) := by decide +kernel
theorem dX7_prepare_147 : decode cX7_prepare 147 = .ok (.iload 4, 2) := by decide +kernel
theorem dX7_prepare_149 : decode cX7_prepare 149 = .ok (.aload_n 0, 1) := by decide +kernel
theorem dX7_prepare_150 : decode cX7_prepare 150 = .ok (.getfield 18, 3) := by decide +kernel
theorem dX7_prepare_153 : decode cX7_prepare 153 = .ok (.iload 5, 2) := by decide +kernel
theorem dX7_prepare_155 : decode cX7_prepare 155 = .ok (.iaload, 1) := by decide +kernel
theorem dX7_prepare_156 : decode cX7_prepare 156 = .ok (.iastore, 1) := by decide +kernel
theorem dX7_prepare_157 : decode cX7_prepare 157 = .ok (.iinc 5 (-1), 3) := by decide +kernel
theorem dX7_prepare_160 : decode cX7_prepare 160 = .ok (.goto (-48), 3) := by decide +kernel
theorem dX7_prepare_163 : decode cX7_prepare 163 = .ok (.iinc 4 1, 3) := by decide +kernel
theorem dX7_prepare_166 : decode cX7_prepare 166 = .ok (.goto (-78), 3) := by decide +kernel
theorem dX7_prepare_169 : decode cX7_prepare 169 = .ok (.return_, 1) := by decide +kernel
theorem dX7_needing_0 : decode cX7_needing 0 = .ok (.iconst 0, 1) := by decide +kernel
theorem dX7_needing_1 : decode cX7_needing 1 = .ok (.istore_n 3, 1) := by decide +kernel
theorem dX7_needing_2 : decode cX7_needing 2 = .ok (.iconst 0, 1) := by decide +kernel
theorem dX7_needing_3 : decode cX7_needing 3 = .ok (.istore 4, 2) := by decide +kernel
theorem dX7_needing_5 : decode cX7_needing 5 = .ok (.iload 4, 2) := by decide +kernel
theorem dX7_needing_7 : decode cX7_needing 7 = .ok (.iload_n 1, 1) := by decide +kernel
theorem dX7_needing_8 : decode cX7_needing 8 = .ok (.if_icmp .ge 27, 3) := by decide +kernel
theorem dX7_needing_11 : decode cX7_needing 11 = .ok (.aload_n 0, 1) := by decide +kernel
theorem dX7_needing_12 : decode cX7_needing 12 = .ok (.getfield 15, 3) := by decide +kernel
theorem dX7_needing_15 : decode cX7_needing 15 = .ok (.iload 4, 2) := by decide +kernel
theorem dX7_needing_17 : decode cX7_needing 17 = .ok (.iaload, 1) := by decide +kernel
theorem dX7_needing_18 : decode cX7_needing 18 = .ok (.iload_n 2, 1) := by decide +kernel
theorem dX7_needing_19 : decode cX7_needing 19 = .ok (.if_icmp .lt 10, 3) := by decide +kernel
theorem dX7_needing_22 : decode cX7_needing 22 = .ok (.iload_n 3, 1) := by decide +kernel
theorem dX7_needing_23 : decode cX7_needing 23 = .ok (.iconst 1, 1) := by decide +kernel
theorem dX7_needing_24 : decode cX7_needing 24 = .ok (.iload 4, 2) := by decide +kernel
theorem dX7_needing_26 : decode cX7_needing 26 = .ok (.ishl, 1) := by decide +kernel
theorem dX7_needing_27 : decode cX7_needing 27 = .ok (.ior, 1) := by decide +kernel
theorem dX7_needing_28 : decode cX7_needing 28 = .ok (.istore_n 3, 1) := by decide +kernel
theorem dX7_needing_29 : decode cX7_needing 29 = .ok (.iinc 4 1, 3) := by decide +kernel
theorem dX7_needing_32 : decode cX7_needing 32 = .ok (.goto (-27), 3) := by decide +kernel
theorem dX7_needing_35 : decode cX7_needing 35 = .ok (.iload_n 3, 1) := by decide +kernel
theorem dX7_needing_36 : decode cX7_needing 36 = .ok (.ireturn, 1) := by decide +kernel
theorem dX7_isShift_0 : decode cX7_isShift 0 = .ok (.iconst 0, 1) := by decide +kernel
theorem dX7_isShift_1 : decode cX7_isShift 1 = .ok (.istore 5, 2) := by decide +kernel
theorem dX7_isShift_3 : decode cX7_isShift 3 = .ok (.iconst 0, 1) := by decide +kernel
theorem dX7_isShift_4 : decode cX7_isShift 4 = .ok (.istore 6, 2) := by decide +kernel
theorem dX7_isShift_6 : decode cX7_isShift 6 = .ok (.iconst 0, 1) := by decide +kernel
theorem dX7_isShift_7 : decode cX7_isShift 7 = .ok (.istore 7, 2) := by decide +kernel
theorem dX7_isShift_9 : decode cX7_isShift 9 = .ok (.iconst 0, 1) := by decide +kernel
theorem dX7_isShift_10 : decode cX7_isShift 10 = .ok (.istore 8, 2) := by decide +kernel
theorem dX7_isShift_12 : decode cX7_isShift 12 = .ok (.iload 8, 2) := by decide +kernel
theorem dX7_isShift_14 : decode cX7_isShift 14 = .ok (.iload_n 2, 1) := by decide +kernel
theorem dX7_isShift_15 : decode cX7_isShift 15 = .ok (.if_icmp .ge 49, 3) := by decide +kernel
theorem dX7_isShift_18 : decode cX7_isShift 18 = .ok (.iload_n 1, 1) := by decide +kernel
theorem dX7_isShift_19 : decode cX7_isShift 19 = .ok (.iload 8, 2) := by decide +kernel
theorem dX7_isShift_21 : decode cX7_isShift 21 = .ok (.ishr, 1) := by decide +kernel
theorem dX7_isShift_22 : decode cX7_isShift 22 = .ok (.iconst 1, 1) := by decide +kernel
theorem dX7_isShift_23 : decode cX7_isShift 23 = .ok (.iand, 1) := by decide +kernel
theorem dX7_isShift_24 : decode cX7_isShift 24 = .ok (.iconst 1, 1) := by decide +kernel
theorem dX7_isShift_25 : decode cX7_isShift 25 = .ok (.if_icmp .ne 30, 3) := by decide +kernel
theorem dX7_isShift_28 : decode cX7_isShift 28 = .ok (.iload 5, 2) := by decide +kernel
theorem dX7_isShift_30 : decode cX7_isShift 30 = .ok (.aload_n 0, 1) := by decide +kernel
theorem dX7_isShift_31 : decode cX7_isShift 31 = .ok (.getfield 11, 3) := by decide +kernel
theorem dX7_isShift_34 : decode cX7_isShift 34 = .ok (.iload 8, 2) := by decide +kernel
theorem dX7_isShift_36 : decode cX7_isShift 36 = .ok (.iaload, 1) := by decide +kernel
theorem dX7_isShift_37 : decode cX7_isShift 37 = .ok (.iadd, 1) := by decide +kernel
theorem dX7_isShift_38 : decode cX7_isShift 38 = .ok (.istore 5, 2) := by decide +kernel
theorem dX7_isShift_40 : decode cX7_isShift 40 = .ok (.iinc 6 1, 3) := by decide +kernel
theorem dX7_isShift_43 : decode cX7_isShift 43 = .ok (.iload 7, 2) := by decide +kernel
theorem dX7_isShift_45 : decode cX7_isShift 45 = .ok (.iload 6, 2) := by decide +kernel
theorem dX7_isShift_47 : decode cX7_isShift 47 = .ok (.invokestatic 55, 3) := by decide +kernel
theorem dX7_isShift_50 : decode cX7_isShift 50 = .ok (.istore 7, 2) := by decide +kernel
theorem dX7_isShift_52 : decode cX7_isShift 52 = .ok (.goto 6, 3) := by decide +kernel
theorem dX7_isShift_55 : decode cX7_isShift 55 = .ok (.iconst 0, 1) := by decide +kernel
theorem dX7_isShift_56 : decode cX7_isShift 56 = .ok (.istore 6, 2) := by decide +kernel
theorem dX7_isShift_58 : decode cX7_isShift 58 = .ok (.iinc 8 1, 3) := by decide +kernel
theorem dX7_isShift_61 : decode cX7_isShift 61 = .ok (.goto (-49), 3) := by decide +kernel
theorem dX7_isShift_64 : decode cX7_isShift 64 = .ok (.iload 5, 2) := by decide +kernel
theorem dX7_isShift_66 : decode cX7_isShift 66 = .ok (.iload_n 3, 1) := by decide +kernel
theorem dX7_isShift_67 : decode cX7_isShift 67 = .ok (.if_icmp .gt 14, 3) := by decide +kernel
theorem dX7_isShift_70 : decode cX7_isShift 70 = .ok (.iload 7, 2) := by decide +kernel
theorem dX7_isShift_72 : decode cX7_isShift 72 = .ok (.iload 4, 2) := by decide +kernel
theorem dX7_isShift_74 : decode cX7_isShift 74 = .ok (.if_icmp .gt 7, 3) := by decide +kernel
theorem dX7_isShift_77 : decode cX7_isShift 77 = .ok (.iconst 1, 1) := by decide +kernel
theorem dX7_isShift_78 : decode cX7_isShift 78 = .ok (.goto 4, 3) := by decide +kernel
theorem dX7_isShift_81 : decode cX7_isShift 81 = .ok (.iconst 0, 1) := by decide +kernel
theorem dX7_isShift_82 : decode cX7_isShift 82 = .ok (.ireturn, 1) := by decide +kernel
theorem dX7_wanted_0 : decode cX7_wanted 0 = .ok (.iload_n 1, 1) := by decide +kernel
theorem dX7_wanted_1 : decode cX7_wanted 1 = .ok (.iload_n 2, 1) := by decide +kernel
theorem dX7_wanted_2 : decode cX7_wanted 2 = .ok (.ior, 1) := by decide +kernel
theorem dX7_wanted_3 : decode cX7_wanted 3 = .ok (.istore_n 3, 1) := by decide +kernel
theorem dX7_wanted_4 : decode cX7_wanted 4 = .ok (.iload_n 1, 1) := by decide +kernel
theorem dX7_wanted_5 : decode cX7_wanted 5 = .ok (.iload_n 2, 1) := by decide +kernel
theorem dX7_wanted_6 : decode cX7_wanted 6 = .ok (.iand, 1) := by decide +kernel
theorem dX7_wanted_7 : decode cX7_wanted 7 = .ok (.istore 4, 2) := by decide +kernel
theorem dX7_wanted_9 : decode cX7_wanted 9 = .ok (.aload_n 0, 1) := by decide +kernel
theorem dX7_wanted_10 : decode cX7_wanted 10 = .ok (.getfield 42, 3) := by decide +kernel
theorem dX7_wanted_13 : decode cX7_wanted 13 = .ok (.iload_n 3, 1) := by decide +kernel
theorem dX7_wanted_14 : decode cX7_wanted 14 = .ok (.iconst (-1), 1) := by decide +kernel
theorem dX7_wanted_15 : decode cX7_wanted 15 = .ok (.ixor, 1) := by decide +kernel
theorem dX7_wanted_16 : decode cX7_wanted 16 = .ok (.iand, 1) := by decide +kernel
theorem dX7_wanted_17 : decode cX7_wanted 17 = .ok (.ifCond .ne 15, 3) := by decide +kernel
theorem dX7_wanted_20 : decode cX7_wanted 20 = .ok (.aload_n 0, 1) := by decide +kernel
theorem dX7_wanted_21 : decode cX7_wanted 21 = .ok (.getfield 45, 3) := by decide +kernel
theorem dX7_wanted_24 : decode cX7_wanted 24 = .ok (.iload 4, 2) := by decide +kernel
theorem dX7_wanted_26 : decode cX7_wanted 26 = .ok (.iconst (-1), 1) := by decide +kernel
theorem dX7_wanted_27 : decode cX7_wanted 27 = .ok (.ixor, 1) := by decide +kernel
theorem dX7_wanted_28 : decode cX7_wanted 28 = .ok (.iand, 1) := by decide +kernel
theorem dX7_wanted_29 : decode cX7_wanted 29 = .ok (.ifCond .eq 6, 3) := by decide +kernel
theorem dX7_wanted_32 : decode cX7_wanted 32 = .ok (.bipush (-9), 2) := by decide +kernel
theorem dX7_wanted_34 : decode cX7_wanted 34 = .ok (.ireturn, 1) := by decide +kernel
theorem dX7_wanted_35 : decode cX7_wanted 35 = .ok (.aload_n 0, 1) := by decide +kernel
theorem dX7_wanted_36 : decode cX7_wanted 36 = .ok (.getfield 38, 3) := by decide +kernel
theorem dX7_wanted_39 : decode cX7_wanted 39 = .ok (.iload_n 3, 1) := by decide +kernel
theorem dX7_wanted_40 : decode cX7_wanted 40 = .ok (.iconst (-1), 1) := by decide +kernel
theorem dX7_wanted_41 : decode cX7_wanted 41 = .ok (.ixor, 1) := by decide +kernel
theorem dX7_wanted_42 : decode cX7_wanted 42 = .ok (.iand, 1) := by decide +kernel
theorem dX7_wanted_43 : decode cX7_wanted 43 = .ok (.aload_n 0, 1) := by decide +kernel
theorem dX7_wanted_44 : decode cX7_wanted 44 = .ok (.getfield 42, 3) := by decide +kernel
theorem dX7_wanted_47 : decode cX7_wanted 47 = .ok (.iload 4, 2) := by decide +kernel
theorem dX7_wanted_49 : decode cX7_wanted 49 = .ok (.iconst (-1), 1) := by decide +kernel
theorem dX7_wanted_50 : decode cX7_wanted 50 = .ok (.ixor, 1) := by decide +kernel
theorem dX7_wanted_51 : decode cX7_wanted 51 = .ok (.iand, 1) := by decide +kernel
theorem dX7_wanted_52 : decode cX7_wanted 52 = .ok (.ior, 1) := by decide +kernel
theorem dX7_wanted_53 : decode cX7_wanted 53 = .ok (.aload_n 0, 1) := by decide +kernel
theorem dX7_wanted_54 : decode cX7_wanted 54 = .ok (.getfield 45, 3) := by decide +kernel
theorem dX7_wanted_57 : decode cX7_wanted 57 = .ok (.ior, 1) := by decide +kernel
theorem dX7_wanted_58 : decode cX7_wanted 58 = .ok (.ireturn, 1) := by decide +kernel
theorem dX7_tables_0 : decode cX7_tables 0 = .ok (.iconst 0, 1) := by decide +kernel
theorem dX7_tables_1 : decode cX7_tables 1 = .ok (.istore_n 2, 1) := by decide +kernel
theorem dX7_tables_2 : decode cX7_tables 2 = .ok (.iload_n 1, 1) := by decide +kernel
theorem dX7_tables_3 : decode cX7_tables 3 = .ok (.iconst 2, 1) := by decide +kernel
theorem dX7_tables_4 : decode cX7_tables 4 = .ok (.if_icmp .le 10, 3) := by decide +kernel
theorem dX7_tables_7 : decode cX7_tables 7 = .ok (.aload_n 0, 1) := by decide +kernel
theorem dX7_tables_8 : decode cX7_tables 8 = .ok (.getfield 48, 3) := by decide +kernel
theorem dX7_tables_11 : decode cX7_tables 11 = .ok (.goto 4, 3) := by decide +kernel
theorem dX7_tables_14 : decode cX7_tables 14 = .ok (.iconst 1, 1) := by decide +kernel
theorem dX7_tables_15 : decode cX7_tables 15 = .ok (.istore_n 3, 1) := by decide +kernel
theorem dX7_tables_16 : decode cX7_tables 16 = .ok (.iload_n 1, 1) := by decide +kernel
theorem dX7_tables_17 : decode cX7_tables 17 = .ok (.iconst 1, 1) := by decide +kernel
theorem dX7_tables_18 : decode cX7_tables 18 = .ok (.if_icmp .le 10, 3) := by decide +kernel
theorem dX7_tables_21 : decode cX7_tables 21 = .ok (.aload_n 0, 1) := by decide +kernel
theorem dX7_tables_22 : decode cX7_tables 22 = .ok (.getfield 48, 3) := by decide +kernel
theorem dX7_tables_25 : decode cX7_tables 25 = .ok (.goto 4, 3) := by decide +kernel
theorem dX7_tables_28 : decode cX7_tables 28 = .ok (.iconst 1, 1) := by decide +kernel
theorem dX7_tables_29 : decode cX7_tables 29 = .ok (.istore 4, 2) := by decide +kernel
theorem dX7_tables_31 : decode cX7_tables 31 = .ok (.iconst 0, 1) := by decide +kernel
theorem dX7_tables_32 : decode cX7_tables 32 = .ok (.istore 5, 2) := by decide +kernel
theorem dX7_tables_34 : decode cX7_tables 34 = .ok (.iload 5, 2) := by decide +kernel
theorem dX7_tables_36 : decode cX7_tables 36 = .ok (.iload_n 3, 1) := by decide +kernel
theorem dX7_tables_37 : decode cX7_tables 37 = .ok (.if_icmp .ge 62, 3) := by decide +kernel
theorem dX7_tables_40 : decode cX7_tables 40 = .ok (.iconst 0, 1) := by decide +kernel
theorem dX7_tables_41 : decode cX7_tables 41 = .ok (.istore 6, 2) := by decide +kernel
theorem dX7_tables_43 : decode cX7_tables 43 = .ok (.iload 6, 2) := by decide +kernel
theorem dX7_tables_45 : decode cX7_tables 45 = .ok (.iload 4, 2) := by decide +kernel
theorem dX7_tables_47 : decode cX7_tables 47 = .ok (.if_icmp .ge 46, 3) := by decide +kernel
theorem dX7_tables_50 : decode cX7_tables 50 = .ok (.aload_n 0, 1) := by decide +kernel
theorem dX7_tables_51 : decode cX7_tables 51 = .ok (.aload_n 0, 1) := by decide +kernel
theorem dX7_tables_52 : decode cX7_tables 52 = .ok (.getfield 18, 3) := by decide +kernel
theorem dX7_tables_55 : decode cX7_tables 55 = .ok (.iload 5, 2) := by decide +kernel
theorem dX7_tables_57 : decode cX7_tables 57 = .ok (.iaload, 1) := by decide +kernel
theorem dX7_tables_58 : decode cX7_tables 58 = .ok (.aload_n 0, 1) := by decide +kernel
theorem dX7_tables_59 : decode cX7_tables 59 = .ok (.getfield 18, 3) := by decide +kernel
theorem dX7_tables_62 : decode cX7_tables 62 = .ok (.iload 6, 2) := by decide +kernel
theorem dX7_tables_64 : decode cX7_tables 64 = .ok (.iaload, 1) := by decide +kernel
theorem dX7_tables_65 : decode cX7_tables 65 = .ok (.invokevirtual 60, 3) := by decide +kernel
theorem dX7_tables_68 : decode cX7_tables 68 = .ok (.istore 7, 2) := by decide +kernel
theorem dX7_tables_70 : decode cX7_tables 70 = .ok (.iload 7, 2) := by decide +kernel
theorem dX7_tables_72 : decode cX7_tables 72 = .ok (.bipush (-9), 2) := by decide +kernel
theorem dX7_tables_74 : decode cX7_tables 74 = .ok (.if_icmp .eq 13, 3) := by decide +kernel
theorem dX7_tables_77 : decode cX7_tables 77 = .ok (.iload_n 2, 1) := by decide +kernel
theorem dX7_tables_78 : decode cX7_tables 78 = .ok (.aload_n 0, 1) := by decide +kernel
theorem dX7_tables_79 : decode cX7_tables 79 = .ok (.getfield 21, 3) := by decide +kernel
theorem dX7_tables_82 : decode cX7_tables 82 = .ok (.iload 7, 2) := by decide +kernel
theorem dX7_tables_84 : decode cX7_tables 84 = .ok (.iaload, 1) := by decide +kernel
theorem dX7_tables_85 : decode cX7_tables 85 = .ok (.iadd, 1) := by decide +kernel
theorem dX7_tables_86 : decode cX7_tables 86 = .ok (.istore_n 2, 1) := by decide +kernel
theorem dX7_tables_87 : decode cX7_tables 87 = .ok (.iinc 6 1, 3) := by decide +kernel
theorem dX7_tables_90 : decode cX7_tables 90 = .ok (.goto (-47), 3) := by decide +kernel
theorem dX7_tables_93 : decode cX7_tables 93 = .ok (.iinc 5 1, 3) := by decide +kernel
theorem dX7_tables_96 : decode cX7_tables 96 = .ok (.goto (-62), 3) := by decide +kernel
theorem dX7_tables_99 : decode cX7_tables 99 = .ok (.iload_n 2, 1) := by decide +kernel
theorem dX7_tables_100 : decode cX7_tables 100 = .ok (.ireturn, 1) := by decide +kernel
theorem dX7_leastTable_0 : decode cX7_leastTable 0 = .ok (.iload_n 1, 1) := by decide +kernel
theorem dX7_leastTable_1 : decode cX7_leastTable 1 = .ok (.iconst 2, 1) := by decide +kernel
theorem dX7_leastTable_2 : decode cX7_leastTable 2 = .ok (.if_icmp .le 10, 3) := by decide +kernel
theorem dX7_leastTable_5 : decode cX7_leastTable 5 = .ok (.aload_n 0, 1) := by decide +kernel
theorem dX7_leastTable_6 : decode cX7_leastTable 6 = .ok (.getfield 48, 3) := by decide +kernel
theorem dX7_leastTable_9 : decode cX7_leastTable 9 = .ok (.goto 4, 3) := by decide +kernel
theorem dX7_leastTable_12 : decode cX7_leastTable 12 = .ok (.iconst 1, 1) := by decide +kernel
theorem dX7_leastTable_13 : decode cX7_leastTable 13 = .ok (.istore_n 2, 1) := by decide +kernel
theorem dX7_leastTable_14 : decode cX7_leastTable 14 = .ok (.iload_n 1, 1) := by decide +kernel
theorem dX7_leastTable_15 : decode cX7_leastTable 15 = .ok (.iconst 1, 1) := by decide +kernel
theorem dX7_leastTable_16 : decode cX7_leastTable 16 = .ok (.if_icmp .le 10, 3) := by decide +kernel
theorem dX7_leastTable_19 : decode cX7_leastTable 19 = .ok (.aload_n 0, 1) := by decide +kernel
theorem dX7_leastTable_20 : decode cX7_leastTable 20 = .ok (.getfield 48, 3) := by decide +kernel
theorem dX7_leastTable_23 : decode cX7_leastTable 23 = .ok (.goto 4, 3) := by decide +kernel
theorem dX7_leastTable_26 : decode cX7_leastTable 26 = .ok (.iconst 1, 1) := by decide +kernel
theorem dX7_leastTable_27 : decode cX7_leastTable 27 = .ok (.istore_n 3, 1) := by decide +kernel
theorem dX7_leastTable_28 : decode cX7_leastTable 28 = .ok (.iconst 0, 1) := by decide +kernel
theorem dX7_leastTable_29 : decode cX7_leastTable 29 = .ok (.istore 4, 2) := by decide +kernel
theorem dX7_leastTable_31 : decode cX7_leastTable 31 = .ok (.iload 4, 2) := by decide +kernel
theorem dX7_leastTable_33 : decode cX7_leastTable 33 = .ok (.iload_n 2, 1) := by decide +kernel
theorem dX7_leastTable_34 : decode cX7_leastTable 34 = .ok (.if_icmp .ge 91, 3) := by decide +kernel
theorem dX7_leastTable_37 : decode cX7_leastTable 37 = .ok (.iconst 0, 1) := by decide +kernel
theorem dX7_leastTable_38 : decode cX7_leastTable 38 = .ok (.istore 5, 2) := by decide +kernel
theorem dX7_leastTable_40 : decode cX7_leastTable 40 = .ok (.iload 5, 2) := by decide +kernel
theorem dX7_leastTable_42 : decode cX7_leastTable 42 = .ok (.iload_n 3, 1) := by decide +kernel
theorem dX7_leastTable_43 : decode cX7_leastTable 43 = .ok (.if_icmp .ge 76, 3) := by decide +kernel
theorem dX7_leastTable_46 : decode cX7_leastTable 46 = .ok (.aload_n 0, 1) := by decide +kernel
theorem dX7_leastTable_47 : decode cX7_leastTable 47 = .ok (.aload_n 0, 1) := by decide +kernel
theorem dX7_leastTable_48 : decode cX7_leastTable 48 = .ok (.getfield 18, 3) := by decide +kernel
theorem dX7_leastTable_51 : decode cX7_leastTable 51 = .ok (.iload 4, 2) := by decide +kernel
theorem dX7_leastTable_53 : decode cX7_leastTable 53 = .ok (.iaload, 1) := by decide +kernel
theorem dX7_leastTable_54 : decode cX7_leastTable 54 = .ok (.aload_n 0, 1) := by decide +kernel
theorem dX7_leastTable_55 : decode cX7_leastTable 55 = .ok (.getfield 18, 3) := by decide +kernel
theorem dX7_leastTable_58 : decode cX7_leastTable 58 = .ok (.iload 5, 2) := by decide +kernel
theorem dX7_leastTable_60 : decode cX7_leastTable 60 = .ok (.iaload, 1) := by decide +kernel
theorem dX7_leastTable_61 : decode cX7_leastTable 61 = .ok (.invokevirtual 60, 3) := by decide +kernel
theorem dX7_leastTable_64 : decode cX7_leastTable 64 = .ok (.istore 6, 2) := by decide +kernel
theorem dX7_leastTable_66 : decode cX7_leastTable 66 = .ok (.iload 6, 2) := by decide +kernel
theorem dX7_leastTable_68 : decode cX7_leastTable 68 = .ok (.bipush (-9), 2) := by decide +kernel
theorem dX7_leastTable_70 : decode cX7_leastTable 70 = .ok (.if_icmp .eq 43, 3) := by decide +kernel
theorem dX7_leastTable_73 : decode cX7_leastTable 73 = .ok (.aload_n 0, 1) := by decide +kernel
theorem dX7_leastTable_74 : decode cX7_leastTable 74 = .ok (.getfield 21, 3) := by decide +kernel
theorem dX7_leastTable_77 : decode cX7_leastTable 77 = .ok (.iload 6, 2) := by decide +kernel
theorem dX7_leastTable_79 : decode cX7_leastTable 79 = .ok (.iaload, 1) := by decide +kernel
theorem dX7_leastTable_80 : decode cX7_leastTable 80 = .ok (.ifCond .le 33, 3) := by decide +kernel
theorem dX7_leastTable_83 : decode cX7_leastTable 83 = .ok (.aload_n 0, 1) := by decide +kernel
theorem dX7_leastTable_84 : decode cX7_leastTable 84 = .ok (.getfield 18, 3) := by decide +kernel
theorem dX7_leastTable_87 : decode cX7_leastTable 87 = .ok (.iload 4, 2) := by decide +kernel
theorem dX7_leastTable_89 : decode cX7_leastTable 89 = .ok (.iaload, 1) := by decide +kernel
theorem dX7_leastTable_90 : decode cX7_leastTable 90 = .ok (.bipush 12, 2) := by decide +kernel
theorem dX7_leastTable_92 : decode cX7_leastTable 92 = .ok (.ishl, 1) := by decide +kernel
theorem dX7_leastTable_93 : decode cX7_leastTable 93 = .ok (.aload_n 0, 1) := by decide +kernel
theorem dX7_leastTable_94 : decode cX7_leastTable 94 = .ok (.getfield 18, 3) := by decide +kernel
theorem dX7_leastTable_97 : decode cX7_leastTable 97 = .ok (.iload 5, 2) := by decide +kernel
theorem dX7_leastTable_99 : decode cX7_leastTable 99 = .ok (.iaload, 1) := by decide +kernel
theorem dX7_leastTable_100 : decode cX7_leastTable 100 = .ok (.bipush 6, 2) := by decide +kernel
theorem dX7_leastTable_102 : decode cX7_leastTable 102 = .ok (.ishl, 1) := by decide +kernel
theorem dX7_leastTable_103 : decode cX7_leastTable 103 = .ok (.ior, 1) := by decide +kernel
theorem dX7_leastTable_104 : decode cX7_leastTable 104 = .ok (.aload_n 0, 1) := by decide +kernel
theorem dX7_leastTable_105 : decode cX7_leastTable 105 = .ok (.getfield 24, 3) := by decide +kernel
theorem dX7_leastTable_108 : decode cX7_leastTable 108 = .ok (.iload 6, 2) := by decide +kernel
theorem dX7_leastTable_110 : decode cX7_leastTable 110 = .ok (.iaload, 1) := by decide +kernel
theorem dX7_leastTable_111 : decode cX7_leastTable 111 = .ok (.ior, 1) := by decide +kernel
theorem dX7_leastTable_112 : decode cX7_leastTable 112 = .ok (.ireturn, 1) := by decide +kernel
theorem dX7_leastTable_113 : decode cX7_leastTable 113 = .ok (.iinc 5 1, 3) := by decide +kernel
theorem dX7_leastTable_116 : decode cX7_leastTable 116 = .ok (.goto (-76), 3) := by decide +kernel
theorem dX7_leastTable_119 : decode cX7_leastTable 119 = .ok (.iinc 4 1, 3) := by decide +kernel
theorem dX7_leastTable_122 : decode cX7_leastTable 122 = .ok (.goto (-91), 3) := by decide +kernel
theorem dX7_leastTable_125 : decode cX7_leastTable 125 = .ok (.bipush (-9), 2) := by decide +kernel
theorem dX7_leastTable_127 : decode cX7_leastTable 127 = .ok (.ireturn, 1) := by decide +kernel
theorem dX7_waysToMakeUp_0 : decode cX7_waysToMakeUp 0 = .ok (.iconst 0, 1) := by decide +kernel
theorem dX7_waysToMakeUp_1 : decode cX7_waysToMakeUp 1 = .ok (.iload_n 1, 1) := by decide +kernel
theorem dX7_waysToMakeUp_2 : decode cX7_waysToMakeUp 2 = .ok (.sipush 134, 3) := by decide +kernel
theorem dX7_waysToMakeUp_5 : decode cX7_waysToMakeUp 5 = .ok (.invokestatic 63, 3) := by decide +kernel
theorem dX7_waysToMakeUp_8 : decode cX7_waysToMakeUp 8 = .ok (.invokestatic 55, 3) := by decide +kernel
theorem dX7_waysToMakeUp_11 : decode cX7_waysToMakeUp 11 = .ok (.istore 4, 2) := by decide +kernel
theorem dX7_waysToMakeUp_13 : decode cX7_waysToMakeUp 13 = .ok (.aload_n 0, 1) := by decide +kernel
theorem dX7_waysToMakeUp_14 : decode cX7_waysToMakeUp 14 = .ok (.getfield 27, 3) := by decide +kernel
theorem dX7_waysToMakeUp_17 : decode cX7_waysToMakeUp 17 = .ok (.astore 5, 2) := by decide +kernel
theorem dX7_waysToMakeUp_19 : decode cX7_waysToMakeUp 19 = .ok (.aload_n 0, 1) := by decide +kernel
theorem dX7_waysToMakeUp_20 : decode cX7_waysToMakeUp 20 = .ok (.getfield 31, 3) := by decide +kernel
theorem dX7_waysToMakeUp_23 : decode cX7_waysToMakeUp 23 = .ok (.astore 6, 2) := by decide +kernel
theorem dX7_waysToMakeUp_25 : decode cX7_waysToMakeUp 25 = .ok (.iconst 0, 1) := by decide +kernel
theorem dX7_waysToMakeUp_26 : decode cX7_waysToMakeUp 26 = .ok (.istore 7, 2) := by decide +kernel
theorem dX7_waysToMakeUp_28 : decode cX7_waysToMakeUp 28 = .ok (.iload 7, 2) := by decide +kernel
theorem dX7_waysToMakeUp_30 : decode cX7_waysToMakeUp 30 = .ok (.iload 4, 2) := by decide +kernel
theorem dX7_waysToMakeUp_32 : decode cX7_waysToMakeUp 32 = .ok (.if_icmp .gt 24, 3) := by decide +kernel
theorem dX7_waysToMakeUp_35 : decode cX7_waysToMakeUp 35 = .ok (.aload 5, 2) := by decide +kernel
theorem dX7_waysToMakeUp_37 : decode cX7_waysToMakeUp 37 = .ok (.iload 7, 2) := by decide +kernel
theorem dX7_waysToMakeUp_39 : decode cX7_waysToMakeUp 39 = .ok (.iload 7, 2) := by decide +kernel
theorem dX7_waysToMakeUp_41 : decode cX7_waysToMakeUp 41 = .ok (.ifCond .ne 7, 3) := by decide +kernel
theorem dX7_waysToMakeUp_44 : decode cX7_waysToMakeUp 44 = .ok (.lconst 1, 1) := by decide +kernel
theorem dX7_waysToMakeUp_45 : decode cX7_waysToMakeUp 45 = .ok (.goto 4, 3) := by decide +kernel
theorem dX7_waysToMakeUp_48 : decode cX7_waysToMakeUp 48 = .ok (.lconst 0, 1) := by decide +kernel
theorem dX7_waysToMakeUp_49 : decode cX7_waysToMakeUp 49 = .ok (.lastore, 1) := by decide +kernel
theorem dX7_waysToMakeUp_50 : decode cX7_waysToMakeUp 50 = .ok (.iinc 7 1, 3) := by decide +kernel
theorem dX7_waysToMakeUp_53 : decode cX7_waysToMakeUp 53 = .ok (.goto (-25), 3) := by decide +kernel
theorem dX7_waysToMakeUp_56 : decode cX7_waysToMakeUp 56 = .ok (.iconst 0, 1) := by decide +kernel
theorem dX7_waysToMakeUp_57 : decode cX7_waysToMakeUp 57 = .ok (.istore 7, 2) := by decide +kernel
theorem dX7_waysToMakeUp_59 : decode cX7_waysToMakeUp 59 = .ok (.iload 7, 2) := by decide +kernel
theorem dX7_waysToMakeUp_61 : decode cX7_waysToMakeUp 61 = .ok (.iload_n 2, 1) := by decide +kernel
theorem dX7_waysToMakeUp_62 : decode cX7_waysToMakeUp 62 = .ok (.if_icmp .ge 80, 3) := by decide +kernel
theorem dX7_waysToMakeUp_65 : decode cX7_waysToMakeUp 65 = .ok (.lconst 0, 1) := by decide +kernel
theorem dX7_waysToMakeUp_66 : decode cX7_waysToMakeUp 66 = .ok (.lstore 8, 2) := by decide +kernel
theorem dX7_waysToMakeUp_68 : decode cX7_waysToMakeUp 68 = .ok (.iconst 0, 1) := by decide +kernel
theorem dX7_waysToMakeUp_69 : decode cX7_waysToMakeUp 69 = .ok (.istore 10, 2) := by decide +kernel
theorem dX7_waysToMakeUp_71 : decode cX7_waysToMakeUp 71 = .ok (.iload 10, 2) := by decide +kernel
theorem dX7_waysToMakeUp_73 : decode cX7_waysToMakeUp 73 = .ok (.iload 4, 2) := by decide +kernel
theorem dX7_waysToMakeUp_75 : decode cX7_waysToMakeUp 75 = .ok (.if_icmp .gt 49, 3) := by decide +kernel
theorem dX7_waysToMakeUp_78 : decode cX7_waysToMakeUp 78 = .ok (.lload 8, 2) := by decide +kernel
theorem dX7_waysToMakeUp_80 : decode cX7_waysToMakeUp 80 = .ok (.aload 5, 2) := by decide +kernel
theorem dX7_waysToMakeUp_82 : decode cX7_waysToMakeUp 82 = .ok (.iload 10, 2) := by decide +kernel
theorem dX7_waysToMakeUp_84 : decode cX7_waysToMakeUp 84 = .ok (.laload, 1) := by decide +kernel
theorem dX7_waysToMakeUp_85 : decode cX7_waysToMakeUp 85 = .ok (.ladd, 1) := by decide +kernel
theorem dX7_waysToMakeUp_86 : decode cX7_waysToMakeUp 86 = .ok (.lstore 8, 2) := by decide +kernel
theorem dX7_waysToMakeUp_88 : decode cX7_waysToMakeUp 88 = .ok (.iload 10, 2) := by decide +kernel
theorem dX7_waysToMakeUp_90 : decode cX7_waysToMakeUp 90 = .ok (.iload_n 3, 1) := by decide +kernel
theorem dX7_waysToMakeUp_91 : decode cX7_waysToMakeUp 91 = .ok (.isub, 1) := by decide +kernel
theorem dX7_waysToMakeUp_92 : decode cX7_waysToMakeUp 92 = .ok (.iconst 1, 1) := by decide +kernel
theorem dX7_waysToMakeUp_93 : decode cX7_waysToMakeUp 93 = .ok (.isub, 1) := by decide +kernel
theorem dX7_waysToMakeUp_94 : decode cX7_waysToMakeUp 94 = .ok (.istore 11, 2) := by decide +kernel
theorem dX7_waysToMakeUp_96 : decode cX7_waysToMakeUp 96 = .ok (.iload 11, 2) := by decide +kernel
theorem dX7_waysToMakeUp_98 : decode cX7_waysToMakeUp 98 = .ok (.ifCond .lt 13, 3) := by decide +kernel
theorem dX7_waysToMakeUp_101 : decode cX7_waysToMakeUp 101 = .ok (.lload 8, 2) := by decide +kernel
theorem dX7_waysToMakeUp_103 : decode cX7_waysToMakeUp 103 = .ok (.aload 5, 2) := by decide +kernel
theorem dX7_waysToMakeUp_105 : decode cX7_waysToMakeUp 105 = .ok (.iload 11, 2) := by decide +kernel
theorem dX7_waysToMakeUp_107 : decode cX7_waysToMakeUp 107 = .ok (.laload, 1) := by decide +kernel
theorem dX7_waysToMakeUp_108 : decode cX7_waysToMakeUp 108 = .ok (.lsub, 1) := by decide +kernel
theorem dX7_waysToMakeUp_109 : decode cX7_waysToMakeUp 109 = .ok (.lstore 8, 2) := by decide +kernel
theorem dX7_waysToMakeUp_111 : decode cX7_waysToMakeUp 111 = .ok (.aload 6, 2) := by decide +kernel
theorem dX7_waysToMakeUp_113 : decode cX7_waysToMakeUp 113 = .ok (.iload 10, 2) := by decide +kernel
theorem dX7_waysToMakeUp_115 : decode cX7_waysToMakeUp 115 = .ok (.lload 8, 2) := by decide +kernel
theorem dX7_waysToMakeUp_117 : decode cX7_waysToMakeUp 117 = .ok (.lastore, 1) := by decide +kernel
theorem dX7_waysToMakeUp_118 : decode cX7_waysToMakeUp 118 = .ok (.iinc 10 1, 3) := by decide +kernel
theorem dX7_waysToMakeUp_121 : decode cX7_waysToMakeUp 121 = .ok (.goto (-50), 3) := by decide +kernel
theorem dX7_waysToMakeUp_124 : decode cX7_waysToMakeUp 124 = .ok (.aload 5, 2) := by decide +kernel
theorem dX7_waysToMakeUp_126 : decode cX7_waysToMakeUp 126 = .ok (.astore 10, 2) := by decide +kernel
theorem dX7_waysToMakeUp_128 : decode cX7_waysToMakeUp 128 = .ok (.aload 6, 2) := by decide +kernel
theorem dX7_waysToMakeUp_130 : decode cX7_waysToMakeUp 130 = .ok (.astore 5, 2) := by decide +kernel
theorem dX7_waysToMakeUp_132 : decode cX7_waysToMakeUp 132 = .ok (.aload 10, 2) := by decide +kernel
theorem dX7_waysToMakeUp_134 : decode cX7_waysToMakeUp 134 = .ok (.astore 6, 2) := by decide +kernel
theorem dX7_waysToMakeUp_136 : decode cX7_waysToMakeUp 136 = .ok (.iinc 7 1, 3) := by decide +kernel
theorem dX7_waysToMakeUp_139 : decode cX7_waysToMakeUp 139 = .ok (.goto (-80), 3) := by decide +kernel
theorem dX7_waysToMakeUp_142 : decode cX7_waysToMakeUp 142 = .ok (.aload 5, 2) := by decide +kernel
theorem dX7_waysToMakeUp_144 : decode cX7_waysToMakeUp 144 = .ok (.iload 4, 2) := by decide +kernel
theorem dX7_waysToMakeUp_146 : decode cX7_waysToMakeUp 146 = .ok (.laload, 1) := by decide +kernel
theorem dX7_waysToMakeUp_147 : decode cX7_waysToMakeUp 147 = .ok (.lreturn, 1) := by decide +kernel
theorem dX8_init_0 : decode cX8_init 0 = .ok (.aload_n 0, 1) := by decide +kernel
theorem dX8_init_1 : decode cX8_init 1 = .ok (.invokespecial 1, 3) := by decide +kernel
theorem dX8_init_4 : decode cX8_init 4 = .ok (.aload_n 0, 1) := by decide +kernel
theorem dX8_init_5 : decode cX8_init 5 = .ok (.new 7, 3) := by decide +kernel
theorem dX8_init_8 : decode cX8_init 8 = .ok (.dup, 1) := by decide +kernel
theorem dX8_init_9 : decode cX8_init 9 = .ok (.invokespecial 9, 3) := by decide +kernel
theorem dX8_init_12 : decode cX8_init 12 = .ok (.putfield 10, 3) := by decide +kernel
theorem dX8_init_15 : decode cX8_init 15 = .ok (.aload_n 0, 1) := by decide +kernel
theorem dX8_init_16 : decode cX8_init 16 = .ok (.new 16, 3) := by decide +kernel
theorem dX8_init_19 : decode cX8_init 19 = .ok (.dup, 1) := by decide +kernel
theorem dX8_init_20 : decode cX8_init 20 = .ok (.invokespecial 18, 3) := by decide +kernel
theorem dX8_init_23 : decode cX8_init 23 = .ok (.putfield 19, 3) := by decide +kernel
theorem dX8_init_26 : decode cX8_init 26 = .ok (.aload_n 0, 1) := by decide +kernel
theorem dX8_init_27 : decode cX8_init 27 = .ok (.new 23, 3) := by decide +kernel
theorem dX8_init_30 : decode cX8_init 30 = .ok (.dup, 1) := by decide +kernel
theorem dX8_init_31 : decode cX8_init 31 = .ok (.aload_n 0, 1) := by decide +kernel
theorem dX8_init_32 : decode cX8_init 32 = .ok (.getfield 10, 3) := by decide +kernel
theorem dX8_init_35 : decode cX8_init 35 = .ok (.invokespecial 25, 3) := by decide +kernel
theorem dX8_init_38 : decode cX8_init 38 = .ok (.putfield 28, 3) := by decide +kernel
theorem dX8_init_41 : decode cX8_init 41 = .ok (.aload_n 0, 1) := by decide +kernel
theorem dX8_init_42 : decode cX8_init 42 = .ok (.new 32, 3) := by decide +kernel
theorem dX8_init_45 : decode cX8_init 45 = .ok (.dup, 1) := by decide +kernel
theorem dX8_init_46 : decode cX8_init 46 = .ok (.invokespecial 34, 3) := by decide +kernel
theorem dX8_init_49 : decode cX8_init 49 = .ok (.putfield 35, 3) := by decide +kernel
theorem dX8_init_52 : decode cX8_init 52 = .ok (.aload_n 0, 1) := by decide +kernel
theorem dX8_init_53 : decode cX8_init 53 = .ok (.new 39, 3) := by decide +kernel
theorem dX8_init_56 : decode cX8_init 56 = .ok (.dup, 1) := by decide +kernel
theorem dX8_init_57 : decode cX8_init 57 = .ok (.invokespecial 41, 3) := by decide +kernel
theorem dX8_init_60 : decode cX8_init 60 = .ok (.putfield 42, 3) := by decide +kernel
theorem dX8_init_63 : decode cX8_init 63 = .ok (.aload_n 0, 1) := by decide +kernel
theorem dX8_init_64 : decode cX8_init 64 = .ok (.new 46, 3) := by decide +kernel
theorem dX8_init_67 : decode cX8_init 67 = .ok (.dup, 1) := by decide +kernel
theorem dX8_init_68 : decode cX8_init 68 = .ok (.invokespecial 48, 3) := by decide +kernel
theorem dX8_init_71 : decode cX8_init 71 = .ok (.putfield 49, 3) := by decide +kernel
theorem dX8_init_74 : decode cX8_init 74 = .ok (.aload_n 0, 1) := by decide +kernel
theorem dX8_init_75 : decode cX8_init 75 = .ok (.new 53, 3) := by decide +kernel
theorem dX8_init_78 : decode cX8_init 78 = .ok (.dup, 1) := by decide +kernel
theorem dX8_init_79 : decode cX8_init 79 = .ok (.aload_n 0, 1) := by decide +kernel
theorem dX8_init_80 : decode cX8_init 80 = .ok (.getfield 19, 3) := by decide +kernel
theorem dX8_init_83 : decode cX8_init 83 = .ok (.aload_n 0, 1) := by decide +kernel
theorem dX8_init_84 : decode cX8_init 84 = .ok (.getfield 10, 3) := by decide +kernel
theorem dX8_init_87 : decode cX8_init 87 = .ok (.invokespecial 55, 3) := by decide +kernel
theorem dX8_init_90 : decode cX8_init 90 = .ok (.putfield 58, 3) := by decide +kernel
theorem dX8_init_93 : decode cX8_init 93 = .ok (.aload_n 0, 1) := by decide +kernel
theorem dX8_init_94 : decode cX8_init 94 = .ok (.new 53, 3) := by decide +kernel
theorem dX8_init_97 : decode cX8_init 97 = .ok (.dup, 1) := by decide +kernel
theorem dX8_init_98 : decode cX8_init 98 = .ok (.aload_n 0, 1) := by decide +kernel
theorem dX8_init_99 : decode cX8_init 99 = .ok (.getfield 19, 3) := by decide +kernel
theorem dX8_init_102 : decode cX8_init 102 = .ok (.aload_n 0, 1) := by decide +kernel
theorem dX8_init_103 : decode cX8_init 103 = .ok (.getfield 10, 3) := by decide +kernel
theorem dX8_init_106 : decode cX8_init 106 = .ok (.invokespecial 55, 3) := by decide +kernel
theorem dX8_init_109 : decode cX8_init 109 = .ok (.putfield 62, 3) := by decide +kernel
theorem dX8_init_112 : decode cX8_init 112 = .ok (.aload_n 0, 1) := by decide +kernel
theorem dX8_init_113 : decode cX8_init 113 = .ok (.new 65, 3) := by decide +kernel
theorem dX8_init_116 : decode cX8_init 116 = .ok (.dup, 1) := by decide +kernel
theorem dX8_init_117 : decode cX8_init 117 = .ok (.aload_n 0, 1) := by decide +kernel
theorem dX8_init_118 : decode cX8_init 118 = .ok (.getfield 62, 3) := by decide +kernel
theorem dX8_init_121 : decode cX8_init 121 = .ok (.invokespecial 67, 3) := by decide +kernel
theorem dX8_init_124 : decode cX8_init 124 = .ok (.putfield 70, 3) := by decide +kernel
theorem dX8_init_127 : decode cX8_init 127 = .ok (.return_, 1) := by decide +kernel
theorem dX8_mill_0 : decode cX8_mill 0 = .ok (.iload_n 1, 1) := by decide +kernel
theorem dX8_mill_1 : decode cX8_mill 1 = .ok (.iconst 0, 1) := by decide +kernel
theorem dX8_mill_2 : decode cX8_mill 2 = .ok (.iconst 3, 1) := by decide +kernel
theorem dX8_mill_3 : decode cX8_mill 3 = .ok (.invokestatic 74, 3) := by decide +kernel
theorem dX8_mill_6 : decode cX8_mill 6 = .ok (.ifCond .eq 23, 3) := by decide +kernel
theorem dX8_mill_9 : decode cX8_mill 9 = .ok (.iload_n 2, 1) := by decide +kernel
theorem dX8_mill_10 : decode cX8_mill 10 = .ok (.iconst 1, 1) := by decide +kernel
theorem dX8_mill_11 : decode cX8_mill 11 = .ok (.bipush 9, 2) := by decide +kernel
theorem dX8_mill_13 : decode cX8_mill 13 = .ok (.invokestatic 74, 3) := by decide +kernel
theorem dX8_mill_16 : decode cX8_mill 16 = .ok (.ifCond .eq 13, 3) := by decide +kernel
theorem dX8_mill_19 : decode cX8_mill 19 = .ok (.iload_n 3, 1) := by decide +kernel
theorem dX8_mill_20 : decode cX8_mill 20 = .ok (.iconst 1, 1) := by decide +kernel
theorem dX8_mill_21 : decode cX8_mill 21 = .ok (.bipush 8, 2) := by decide +kernel
theorem dX8_mill_23 : decode cX8_mill 23 = .ok (.invokestatic 74, 3) := by decide +kernel
theorem dX8_mill_26 : decode cX8_mill 26 = .ok (.ifCond .ne 5, 3) := by decide +kernel
theorem dX8_mill_29 : decode cX8_mill 29 = .ok (.iconst (-1), 1) := by decide +kernel
theorem dX8_mill_30 : decode cX8_mill 30 = .ok (.ireturn, 1) := by decide +kernel
theorem dX8_mill_31 : decode cX8_mill 31 = .ok (.aload_n 0, 1) := by decide +kernel
theorem dX8_mill_32 : decode cX8_mill 32 = .ok (.getfield 10, 3) := by decide +kernel
theorem dX8_mill_35 : decode cX8_mill 35 = .ok (.iload_n 1, 1) := by decide +kernel
theorem dX8_mill_36 : decode cX8_mill 36 = .ok (.iload_n 2, 1) := by decide +kernel
theorem dX8_mill_37 : decode cX8_mill 37 = .ok (.iload_n 3, 1) := by decide +kernel
theorem dX8_mill_38 : decode cX8_mill 38 = .ok (.invokevirtual 78, 3) := by decide +kernel
theorem dX8_mill_41 : decode cX8_mill 41 = .ok (.ireturn, 1) := by decide +kernel
theorem dX8_hand_0 : decode cX8_hand 0 = .ok (.iload_n 1, 1) := by decide +kernel
theorem dX8_hand_1 : decode cX8_hand 1 = .ok (.iconst 0, 1) := by decide +kernel
theorem dX8_hand_2 : decode cX8_hand 2 = .ok (.iconst 5, 1) := by decide +kernel
theorem dX8_hand_3 : decode cX8_hand 3 = .ok (.invokestatic 74, 3) := by decide +kernel
theorem dX8_hand_6 : decode cX8_hand 6 = .ok (.ifCond .eq 12, 3) := by decide +kernel
theorem dX8_hand_9 : decode cX8_hand 9 = .ok (.iload_n 2, 1) := by decide +kernel
theorem dX8_hand_10 : decode cX8_hand 10 = .ok (.iconst 0, 1) := by decide +kernel
theorem dX8_hand_11 : decode cX8_hand 11 = .ok (.iconst 3, 1) := by decide +kernel
theorem dX8_hand_12 : decode cX8_hand 12 = .ok (.invokestatic 74, 3) := by decide +kernel
theorem dX8_hand_15 : decode cX8_hand 15 = .ok (.ifCond .ne 5, 3) := by decide +kernel
theorem dX8_hand_18 : decode cX8_hand 18 = .ok (.iconst (-1), 1) := by decide +kernel
theorem dX8_hand_19 : decode cX8_hand 19 = .ok (.ireturn, 1) := by decide +kernel
theorem dX8_hand_20 : decode cX8_hand 20 = .ok (.aload_n 0, 1) := by decide +kernel
theorem dX8_hand_21 : decode cX8_hand 21 = .ok (.getfield 19, 3) := by decide +kernel
theorem dX8_hand_24 : decode cX8_hand 24 = .ok (.iload_n 1, 1) := by decide +kernel
theorem dX8_hand_25 : decode cX8_hand 25 = .ok (.iload_n 2, 1) := by decide +kernel
theorem dX8_hand_26 : decode cX8_hand 26 = .ok (.invokevirtual 82, 3) := by decide +kernel
theorem dX8_hand_29 : decode cX8_hand 29 = .ok (.ireturn, 1) := by decide +kernel
theorem dX8_custom_0 : decode cX8_custom 0 = .ok (.iload_n 1, 1) := by decide +kernel
theorem dX8_custom_1 : decode cX8_custom 1 = .ok (.iconst 0, 1) := by decide +kernel
theorem dX8_custom_2 : decode cX8_custom 2 = .ok (.iconst 5, 1) := by decide +kernel
theorem dX8_custom_3 : decode cX8_custom 3 = .ok (.invokestatic 74, 3) := by decide +kernel
theorem dX8_custom_6 : decode cX8_custom 6 = .ok (.ifCond .eq 14, 3) := by decide +kernel
theorem dX8_custom_9 : decode cX8_custom 9 = .ok (.aload_n 0, 1) := by decide +kernel
theorem dX8_custom_10 : decode cX8_custom 10 = .ok (.getfield 19, 3) := by decide +kernel
theorem dX8_custom_13 : decode cX8_custom 13 = .ok (.iload_n 2, 1) := by decide +kernel
theorem dX8_custom_14 : decode cX8_custom 14 = .ok (.invokevirtual 85, 3) := by decide +kernel
theorem dX8_custom_17 : decode cX8_custom 17 = .ok (.ifCond .ne 5, 3) := by decide +kernel
theorem dX8_custom_20 : decode cX8_custom 20 = .ok (.iconst (-1), 1) := by decide +kernel
theorem dX8_custom_21 : decode cX8_custom 21 = .ok (.ireturn, 1) := by decide +kernel
theorem dX8_custom_22 : decode cX8_custom 22 = .ok (.aload_n 0, 1) := by decide +kernel
theorem dX8_custom_23 : decode cX8_custom 23 = .ok (.dup, 1) := by decide +kernel
theorem dX8_custom_24 : decode cX8_custom 24 = .ok (.getfield 89, 3) := by decide +kernel
theorem dX8_custom_27 : decode cX8_custom 27 = .ok (.iload_n 1, 1) := by decide +kernel
theorem dX8_custom_28 : decode cX8_custom 28 = .ok (.invokestatic 93, 3) := by decide +kernel
theorem dX8_custom_31 : decode cX8_custom 31 = .ok (.i2l, 1) := by decide +kernel
theorem dX8_custom_32 : decode cX8_custom 32 = .ok (.ladd, 1) := by decide +kernel
theorem dX8_custom_33 : decode cX8_custom 33 = .ok (.putfield 89, 3) := by decide +kernel
theorem dX8_custom_36 : decode cX8_custom 36 = .ok (.aload_n 0, 1) := by decide +kernel
theorem dX8_custom_37 : decode cX8_custom 37 = .ok (.getfield 19, 3) := by decide +kernel
theorem dX8_custom_40 : decode cX8_custom 40 = .ok (.iload_n 1, 1) := by decide +kernel
theorem dX8_custom_41 : decode cX8_custom 41 = .ok (.iload_n 2, 1) := by decide +kernel
theorem dX8_custom_42 : decode cX8_custom 42 = .ok (.invokevirtual 97, 3) := by decide +kernel
theorem dX8_custom_45 : decode cX8_custom 45 = .ok (.ireturn, 1) := by decide +kernel
theorem dX8_paper_0 : decode cX8_paper 0 = .ok (.aload_n 0, 1) := by decide +kernel
theorem dX8_paper_1 : decode cX8_paper 1 = .ok (.getfield 19, 3) := by decide +kernel
theorem dX8_paper_4 : decode cX8_paper 4 = .ok (.iload_n 1, 1) := by decide +kernel
theorem dX8_paper_5 : decode cX8_paper 5 = .ok (.invokevirtual 85, 3) := by decide +kernel
theorem dX8_paper_8 : decode cX8_paper 8 = .ok (.ifCond .eq 24, 3) := by decide +kernel
theorem dX8_paper_11 : decode cX8_paper 11 = .ok (.iload_n 2, 1) := by decide +kernel
theorem dX8_paper_12 : decode cX8_paper 12 = .ok (.iconst 0, 1) := by decide +kernel
theorem dX8_paper_13 : decode cX8_paper 13 = .ok (.iconst 2, 1) := by decide +kernel
theorem dX8_paper_14 : decode cX8_paper 14 = .ok (.invokestatic 74, 3) := by decide +kernel
theorem dX8_paper_17 : decode cX8_paper 17 = .ok (.ifCond .eq 15, 3) := by decide +kernel
theorem dX8_paper_20 : decode cX8_paper 20 = .ok (.iload_n 3, 1) := by decide +kernel
theorem dX8_paper_21 : decode cX8_paper 21 = .ok (.iconst 0, 1) := by decide +kernel
theorem dX8_paper_22 : decode cX8_paper 22 = .ok (.iload_n 2, 1) := by decide +kernel
theorem dX8_paper_23 : decode cX8_paper 23 = .ok (.invokestatic 100, 3) := by decide +kernel
theorem dX8_paper_26 : decode cX8_paper 26 = .ok (.invokestatic 74, 3) := by decide +kernel
theorem dX8_paper_29 : decode cX8_paper 29 = .ok (.ifCond .ne 5, 3) := by decide +kernel
theorem dX8_paper_32 : decode cX8_paper 32 = .ok (.iconst (-1), 1) := by decide +kernel
theorem dX8_paper_33 : decode cX8_paper 33 = .ok (.ireturn, 1) := by decide +kernel
theorem dX8_paper_34 : decode cX8_paper 34 = .ok (.iload_n 2, 1) := by decide +kernel
theorem dX8_paper_35 : decode cX8_paper 35 = .ok (.ifCond .eq 13, 3) := by decide +kernel
theorem dX8_paper_38 : decode cX8_paper 38 = .ok (.iload 4, 2) := by decide +kernel
theorem dX8_paper_40 : decode cX8_paper 40 = .ok (.invokestatic 103, 3) := by decide +kernel
theorem dX8_paper_43 : decode cX8_paper 43 = .ok (.ifCond .ne 5, 3) := by decide +kernel
theorem dX8_paper_46 : decode cX8_paper 46 = .ok (.iconst (-1), 1) := by decide +kernel
theorem dX8_paper_47 : decode cX8_paper 47 = .ok (.ireturn, 1) := by decide +kernel
theorem dX8_paper_48 : decode cX8_paper 48 = .ok (.aload_n 0, 1) := by decide +kernel
theorem dX8_paper_49 : decode cX8_paper 49 = .ok (.getfield 19, 3) := by decide +kernel
theorem dX8_paper_52 : decode cX8_paper 52 = .ok (.iload_n 1, 1) := by decide +kernel
theorem dX8_paper_53 : decode cX8_paper 53 = .ok (.iload_n 2, 1) := by decide +kernel
theorem dX8_paper_54 : decode cX8_paper 54 = .ok (.iload_n 3, 1) := by decide +kernel
theorem dX8_paper_55 : decode cX8_paper 55 = .ok (.iload 4, 2) := by decide +kernel
theorem dX8_paper_57 : decode cX8_paper 57 = .ok (.invokevirtual 106, 3) := by decide +kernel
theorem dX8_paper_60 : decode cX8_paper 60 = .ok (.ireturn, 1) := by decide +kernel
theorem dX8_born_0 : decode cX8_born 0 = .ok (.aload_n 0, 1) := by decide +kernel
theorem dX8_born_1 : decode cX8_born 1 = .ok (.getfield 19, 3) := by decide +kernel
theorem dX8_born_4 : decode cX8_born 4 = .ok (.iload_n 1, 1) := by decide +kernel
theorem dX8_born_5 : decode cX8_born 5 = .ok (.invokevirtual 85, 3) := by decide +kernel
theorem dX8_born_8 : decode cX8_born 8 = .ok (.ifCond .eq 12, 3) := by decide +kernel
theorem dX8_born_11 : decode cX8_born 11 = .ok (.iload_n 2, 1) := by decide +kernel
theorem dX8_born_12 : decode cX8_born 12 = .ok (.iconst 0, 1) := by decide +kernel
theorem dX8_born_13 : decode cX8_born 13 = .ok (.iconst 2, 1) := by decide +kernel
theorem dX8_born_14 : decode cX8_born 14 = .ok (.invokestatic 74, 3) := by decide +kernel
theorem dX8_born_17 : decode cX8_born 17 = .ok (.ifCond .ne 5, 3) := by decide +kernel
theorem dX8_born_20 : decode cX8_born 20 = .ok (.iconst (-1), 1) := by decide +kernel
theorem dX8_born_21 : decode cX8_born 21 = .ok (.ireturn, 1) := by decide +kernel
theorem dX8_born_22 : decode cX8_born 22 = .ok (.iload_n 2, 1) := by decide +kernel
theorem dX8_born_23 : decode cX8_born 23 = .ok (.iconst 2, 1) := by decide +kernel
theorem dX8_born_24 : decode cX8_born 24 = .ok (.if_icmp .ne 21, 3) := by decide +kernel
theorem dX8_born_27 : decode cX8_born 27 = .ok (.aload_n 0, 1) := by decide +kernel
theorem dX8_born_28 : decode cX8_born 28 = .ok (.getfield 19, 3) := by decide +kernel
theorem dX8_born_31 : decode cX8_born 31 = .ok (.getfield 110, 3) := by decide +kernel
theorem dX8_born_34 : decode cX8_born 34 = .ok (.iload_n 1, 1) := by decide +kernel
theorem dX8_born_35 : decode cX8_born 35 = .ok (.baload, 1) := by decide +kernel
theorem dX8_born_36 : decode cX8_born 36 = .ok (.ifCond .eq 7, 3) := by decide +kernel
theorem dX8_born_39 : decode cX8_born 39 = .ok (.iconst 1, 1) := by decide +kernel
theorem dX8_born_40 : decode cX8_born 40 = .ok (.goto 4, 3) := by decide +kernel
theorem dX8_born_43 : decode cX8_born 43 = .ok (.iconst 0, 1) := by decide +kernel
theorem dX8_born_44 : decode cX8_born 44 = .ok (.ireturn, 1) := by decide +kernel
theorem dX8_born_45 : decode cX8_born 45 = .ok (.iload_n 2, 1) := by decide +kernel
theorem dX8_born_46 : decode cX8_born 46 = .ok (.ifCond .ne 15, 3) := by decide +kernel
theorem dX8_born_49 : decode cX8_born 49 = .ok (.aload_n 0, 1) := by decide +kernel
theorem dX8_born_50 : decode cX8_born 50 = .ok (.getfield 19, 3) := by decide +kernel
theorem dX8_born_53 : decode cX8_born 53 = .ok (.getfield 114, 3) := by decide +kernel
theorem dX8_born_56 : decode cX8_born 56 = .ok (.iload_n 1, 1) := by decide +kernel
theorem dX8_born_57 : decode cX8_born 57 = .ok (.iaload, 1) := by decide +kernel
theorem dX8_born_58 : decode cX8_born 58 = .ok (.goto 12, 3) := by decide +kernel
theorem dX8_born_61 : decode cX8_born 61 = .ok (.aload_n 0, 1) := by decide +kernel
theorem dX8_born_62 : decode cX8_born 62 = .ok (.getfield 19, 3) := by decide +kernel
theorem dX8_born_65 : decode cX8_born 65 = .ok (.getfield 118, 3) := by decide +kernel
theorem dX8_born_68 : decode cX8_born 68 = .ok (.iload_n 1, 1) := by decide +kernel
theorem dX8_born_69 : decode cX8_born 69 = .ok (.iaload, 1) := by decide +kernel
theorem dX8_born_70 : decode cX8_born 70 = .ok (.ireturn, 1) := by decide +kernel
theorem dX8_age_0 : decode cX8_age 0 = .ok (.aload_n 0, 1) := by decide +kernel
theorem dX8_age_1 : decode cX8_age 1 = .ok (.getfield 19, 3) := by decide +kernel
theorem dX8_age_4 : decode cX8_age 4 = .ok (.iload_n 1, 1) := by decide +kernel
theorem dX8_age_5 : decode cX8_age 5 = .ok (.invokevirtual 85, 3) := by decide +kernel
theorem dX8_age_8 : decode cX8_age 8 = .ok (.ifCond .eq 19, 3) := by decide +kernel
theorem dX8_age_11 : decode cX8_age 11 = .ok (.iload_n 2, 1) := by decide +kernel
theorem dX8_age_12 : decode cX8_age 12 = .ok (.invokestatic 103, 3) := by decide +kernel
theorem dX8_age_15 : decode cX8_age 15 = .ok (.ifCond .eq 12, 3) := by decide +kernel
theorem dX8_age_18 : decode cX8_age 18 = .ok (.iload_n 3, 1) := by decide +kernel
theorem dX8_age_19 : decode cX8_age 19 = .ok (.iconst 0, 1) := by decide +kernel
theorem dX8_age_20 : decode cX8_age 20 = .ok (.iconst 1, 1) := by decide +kernel
theorem dX8_age_21 : decode cX8_age 21 = .ok (.invokestatic 74, 3) := by decide +kernel
theorem dX8_age_24 : decode cX8_age 24 = .ok (.ifCond .ne 5, 3) := by decide +kernel
theorem dX8_age_27 : decode cX8_age 27 = .ok (.iconst (-1), 1) := by decide +kernel
theorem dX8_age_28 : decode cX8_age 28 = .ok (.ireturn, 1) := by decide +kernel
theorem dX8_age_29 : decode cX8_age 29 = .ok (.iload_n 3, 1) := by decide +kernel
theorem dX8_age_30 : decode cX8_age 30 = .ok (.ifCond .ne 15, 3) := by decide +kernel
theorem dX8_age_33 : decode cX8_age 33 = .ok (.aload_n 0, 1) := by decide +kernel
theorem dX8_age_34 : decode cX8_age 34 = .ok (.getfield 19, 3) := by decide +kernel
theorem dX8_age_37 : decode cX8_age 37 = .ok (.iload_n 1, 1) := by decide +kernel
theorem dX8_age_38 : decode cX8_age 38 = .ok (.iload_n 2, 1) := by decide +kernel
theorem dX8_age_39 : decode cX8_age 39 = .ok (.invokevirtual 121, 3) := by decide +kernel
theorem dX8_age_42 : decode cX8_age 42 = .ok (.goto 12, 3) := by decide +kernel
theorem dX8_age_45 : decode cX8_age 45 = .ok (.aload_n 0, 1) := by decide +kernel
theorem dX8_age_46 : decode cX8_age 46 = .ok (.getfield 19, 3) := by decide +kernel
theorem dX8_age_49 : decode cX8_age 49 = .ok (.iload_n 1, 1) := by decide +kernel
theorem dX8_age_50 : decode cX8_age 50 = .ok (.iload_n 2, 1) := by decide +kernel
theorem dX8_age_51 : decode cX8_age 51 = .ok (.invokevirtual 124, 3) := by decide +kernel
theorem dX8_age_54 : decode cX8_age 54 = .ok (.ireturn, 1) := by decide +kernel
theorem dX8_type_0 : decode cX8_type 0 = .ok (.iload_n 3, 1) := by decide +kernel
theorem dX8_type_1 : decode cX8_type 1 = .ok (.iconst 1, 1) := by decide +kernel
theorem dX8_type_2 : decode cX8_type 2 = .ok (.bipush 8, 2) := by decide +kernel
theorem dX8_type_4 : decode cX8_type 4 = .ok (.invokestatic 74, 3) := by decide +kernel
theorem dX8_type_7 : decode cX8_type 7 = .ok (.ifCond .ne 5, 3) := by decide +kernel
theorem dX8_type_10 : decode cX8_type 10 = .ok (.iconst (-1), 1) := by decide +kernel
theorem dX8_type_11 : decode cX8_type 11 = .ok (.ireturn, 1) := by decide +kernel
theorem dX8_type_12 : decode cX8_type 12 = .ok (.aload_n 0, 1) := by decide +kernel
theorem dX8_type_13 : decode cX8_type 13 = .ok (.getfield 70, 3) := by decide +kernel
theorem dX8_type_16 : decode cX8_type 16 = .ok (.lload_n 1, 1) := by decide +kernel
theorem dX8_type_17 : decode cX8_type 17 = .ok (.iload_n 3, 1) := by decide +kernel
theorem dX8_type_18 : decode cX8_type 18 = .ok (.invokevirtual 127, 3) := by decide +kernel
theorem dX8_type_21 : decode cX8_type 21 = .ok (.ireturn, 1) := by decide +kernel
theorem dX8_clear_0 : decode cX8_clear 0 = .ok (.aload_n 0, 1) := by decide +kernel
theorem dX8_clear_1 : decode cX8_clear 1 = .ok (.getfield 70, 3) := by decide +kernel
theorem dX8_clear_4 : decode cX8_clear 4 = .ok (.invokevirtual 131, 3) := by decide +kernel
theorem dX8_clear_7 : decode cX8_clear 7 = .ok (.ireturn, 1) := by decide +kernel
theorem dX8_act_0 : decode cX8_act 0 = .ok (.aload_n 0, 1) := by decide +kernel
theorem dX8_act_1 : decode cX8_act 1 = .ok (.getfield 70, 3) := by decide +kernel
theorem dX8_act_4 : decode cX8_act 4 = .ok (.aload_n 0, 1) := by decide +kernel
theorem dX8_act_5 : decode cX8_act 5 = .ok (.getfield 62, 3) := by decide +kernel
theorem dX8_act_8 : decode cX8_act 8 = .ok (.invokevirtual 135, 3) := by decide +kernel
theorem dX8_act_11 : decode cX8_act 11 = .ok (.istore_n 1, 1) := by decide +kernel
theorem dX8_act_12 : decode cX8_act 12 = .ok (.iload_n 1, 1) := by decide +kernel
theorem dX8_act_13 : decode cX8_act 13 = .ok (.bipush (-9), 2) := by decide +kernel
theorem dX8_act_15 : decode cX8_act 15 = .ok (.if_icmp .eq 8, 3) := by decide +kernel
theorem dX8_act_18 : decode cX8_act 18 = .ok (.bipush (-10), 2) := by decide +kernel
theorem dX8_act_20 : decode cX8_act 20 = .ok (.iload_n 1, 1) := by decide +kernel
theorem dX8_act_21 : decode cX8_act 21 = .ok (.isub, 1) := by decide +kernel
theorem dX8_act_22 : decode cX8_act 22 = .ok (.ireturn, 1) := by decide +kernel
theorem dX8_act_23 : decode cX8_act 23 = .ok (.aload_n 0, 1) := by decide +kernel
theorem dX8_act_24 : decode cX8_act 24 = .ok (.getfield 58, 3) := by decide +kernel
theorem dX8_act_27 : decode cX8_act 27 = .ok (.astore_n 2, 1) := by decide +kernel
theorem dX8_act_28 : decode cX8_act 28 = .ok (.aload_n 0, 1) := by decide +kernel
theorem dX8_act_29 : decode cX8_act 29 = .ok (.aload_n 0, 1) := by decide +kernel
theorem dX8_act_30 : decode cX8_act 30 = .ok (.getfield 62, 3) := by decide +kernel
theorem dX8_act_33 : decode cX8_act 33 = .ok (.putfield 58, 3) := by decide +kernel
theorem dX8_act_36 : decode cX8_act 36 = .ok (.aload_n 0, 1) := by decide +kernel
theorem dX8_act_37 : decode cX8_act 37 = .ok (.aload_n 2, 1) := by decide +kernel
theorem dX8_act_38 : decode cX8_act 38 = .ok (.putfield 62, 3) := by decide +kernel
theorem dX8_act_41 : decode cX8_act 41 = .ok (.aload_n 0, 1) := by decide +kernel
theorem dX8_act_42 : decode cX8_act 42 = .ok (.getfield 70, 3) := by decide +kernel
theorem dX8_act_45 : decode cX8_act 45 = .ok (.invokevirtual 131, 3) := by decide +kernel
theorem dX8_act_48 : decode cX8_act 48 = .ok (.pop, 1) := by decide +kernel
theorem dX8_act_49 : decode cX8_act 49 = .ok (.aload_n 0, 1) := by decide +kernel
theorem dX8_act_50 : decode cX8_act 50 = .ok (.getfield 58, 3) := by decide +kernel
theorem dX8_act_53 : decode cX8_act 53 = .ok (.getfield 139, 3) := by decide +kernel
theorem dX8_act_56 : decode cX8_act 56 = .ok (.ireturn, 1) := by decide +kernel
theorem dX8_binds_0 : decode cX8_binds 0 = .ok (.aload_n 0, 1) := by decide +kernel
theorem dX8_binds_1 : decode cX8_binds 1 = .ok (.getfield 58, 3) := by decide +kernel
theorem dX8_binds_4 : decode cX8_binds 4 = .ok (.iload_n 1, 1) := by decide +kernel
theorem dX8_binds_5 : decode cX8_binds 5 = .ok (.invokevirtual 143, 3) := by decide +kernel
theorem dX8_binds_8 : decode cX8_binds 8 = .ok (.ifCond .eq 14, 3) := by decide +kernel
theorem dX8_binds_11 : decode cX8_binds 11 = .ok (.aload_n 0, 1) := by decide +kernel
theorem dX8_binds_12 : decode cX8_binds 12 = .ok (.iload_n 2, 1) := by decide +kernel
theorem dX8_binds_13 : decode cX8_binds 13 = .ok (.iload_n 3, 1) := by decide +kernel
theorem dX8_binds_14 : decode cX8_binds 14 = .ok (.iload 4, 2) := by decide +kernel
theorem dX8_binds_16 : decode cX8_binds 16 = .ok (.invokevirtual 144, 3) := by decide +kernel
theorem dX8_binds_19 : decode cX8_binds 19 = .ok (.ifCond .ne 5, 3) := by decide +kernel
theorem dX8_binds_22 : decode cX8_binds 22 = .ok (.iconst (-1), 1) := by decide +kernel
theorem dX8_binds_23 : decode cX8_binds 23 = .ok (.ireturn, 1) := by decide +kernel
theorem dX8_binds_24 : decode cX8_binds 24 = .ok (.aload_n 0, 1) := by decide +kernel
theorem dX8_binds_25 : decode cX8_binds 25 = .ok (.getfield 58, 3) := by decide +kernel
theorem dX8_binds_28 : decode cX8_binds 28 = .ok (.iload_n 1, 1) := by decide +kernel
theorem dX8_binds_29 : decode cX8_binds 29 = .ok (.iload_n 2, 1) := by decide +kernel
theorem dX8_binds_30 : decode cX8_binds 30 = .ok (.iload_n 3, 1) := by decide +kernel
theorem dX8_binds_31 : decode cX8_binds 31 = .ok (.iload 4, 2) := by decide +kernel
theorem dX8_binds_33 : decode cX8_binds 33 = .ok (.invokevirtual 147, 3) := by decide +kernel
theorem dX8_binds_36 : decode cX8_binds 36 = .ok (.ireturn, 1) := by decide +kernel
theorem dX8_duty_0 : decode cX8_duty 0 = .ok (.aload_n 0, 1) := by decide +kernel
theorem dX8_duty_1 : decode cX8_duty 1 = .ok (.iload_n 1, 1) := by decide +kernel
theorem dX8_duty_2 : decode cX8_duty 2 = .ok (.iload_n 2, 1) := by decide +kernel
theorem dX8_duty_3 : decode cX8_duty 3 = .ok (.iload_n 3, 1) := by decide +kernel
theorem dX8_duty_4 : decode cX8_duty 4 = .ok (.invokevirtual 144, 3) := by decide +kernel
theorem dX8_duty_7 : decode cX8_duty 7 = .ok (.ifCond .eq 24, 3) := by decide +kernel
theorem dX8_duty_10 : decode cX8_duty 10 = .ok (.iload 4, 2) := by decide +kernel
theorem dX8_duty_12 : decode cX8_duty 12 = .ok (.iconst 0, 1) := by decide +kernel
theorem dX8_duty_13 : decode cX8_duty 13 = .ok (.bipush 6, 2) := by decide +kernel
theorem dX8_duty_15 : decode cX8_duty 15 = .ok (.invokestatic 74, 3) := by decide +kernel
theorem dX8_duty_18 : decode cX8_duty 18 = .ok (.ifCond .eq 13, 3) := by decide +kernel
theorem dX8_duty_21 : decode cX8_duty 21 = .ok (.iload 5, 2) := by decide +kernel
theorem dX8_duty_23 : decode cX8_duty 23 = .ok (.iconst 0, 1) := by decide +kernel
theorem dX8_duty_24 : decode cX8_duty 24 = .ok (.iconst 1, 1) := by decide +kernel
theorem dX8_duty_25 : decode cX8_duty 25 = .ok (.invokestatic 74, 3) := by decide +kernel
theorem dX8_duty_28 : decode cX8_duty 28 = .ok (.ifCond .ne 5, 3) := by decide +kernel
theorem dX8_duty_31 : decode cX8_duty 31 = .ok (.iconst (-1), 1) := by decide +kernel
theorem dX8_duty_32 : decode cX8_duty 32 = .ok (.ireturn, 1) := by decide +kernel
theorem dX8_duty_33 : decode cX8_duty 33 = .ok (.aload_n 0, 1) := by decide +kernel
theorem dX8_duty_34 : decode cX8_duty 34 = .ok (.getfield 58, 3) := by decide +kernel
theorem dX8_duty_37 : decode cX8_duty 37 = .ok (.iload_n 1, 1) := by decide +kernel
theorem dX8_duty_38 : decode cX8_duty 38 = .ok (.iload_n 2, 1) := by decide +kernel
theorem dX8_duty_39 : decode cX8_duty 39 = .ok (.iload_n 3, 1) := by decide +kernel
theorem dX8_duty_40 : decode cX8_duty 40 = .ok (.invokevirtual 150, 3) := by decide +kernel
theorem dX8_duty_43 : decode cX8_duty 43 = .ok (.aload_n 0, 1) := by decide +kernel
theorem dX8_duty_44 : decode cX8_duty 44 = .ok (.getfield 58, 3) := by decide +kernel
theorem dX8_duty_47 : decode cX8_duty 47 = .ok (.iload 4, 2) := by decide +kernel
theorem dX8_duty_49 : decode cX8_duty 49 = .ok (.iload 5, 2) := by decide +kernel
theorem dX8_duty_51 : decode cX8_duty 51 = .ok (.iconst 1, 1) := by decide +kernel
theorem dX8_duty_52 : decode cX8_duty 52 = .ok (.if_icmp .ne 7, 3) := by decide +kernel
theorem dX8_duty_55 : decode cX8_duty 55 = .ok (.iconst 2, 1) := by decide +kernel
theorem dX8_duty_56 : decode cX8_duty 56 = .ok (.goto 4, 3) := by decide +kernel
theorem dX8_duty_59 : decode cX8_duty 59 = .ok (.iconst 1, 1) := by decide +kernel
theorem dX8_duty_60 : decode cX8_duty 60 = .ok (.invokevirtual 154, 3) := by decide +kernel
theorem dX8_duty_63 : decode cX8_duty 63 = .ok (.ireturn, 1) := by decide +kernel
theorem dX8_why_0 : decode cX8_why 0 = .ok (.aload_n 0, 1) := by decide +kernel
theorem dX8_why_1 : decode cX8_why 1 = .ok (.iload_n 1, 1) := by decide +kernel
theorem dX8_why_2 : decode cX8_why 2 = .ok (.iload_n 2, 1) := by decide +kernel
theorem dX8_why_3 : decode cX8_why 3 = .ok (.iload_n 3, 1) := by decide +kernel
theorem dX8_why_4 : decode cX8_why 4 = .ok (.invokevirtual 144, 3) := by decide +kernel
theorem dX8_why_7 : decode cX8_why 7 = .ok (.ifCond .eq 24, 3) := by decide +kernel
theorem dX8_why_10 : decode cX8_why 10 = .ok (.iload 4, 2) := by decide +kernel
theorem dX8_why_12 : decode cX8_why 12 = .ok (.iconst 0, 1) := by decide +kernel
theorem dX8_why_13 : decode cX8_why 13 = .ok (.bipush 6, 2) := by decide +kernel
theorem dX8_why_15 : decode cX8_why 15 = .ok (.invokestatic 74, 3) := by decide +kernel
theorem dX8_why_18 : decode cX8_why 18 = .ok (.ifCond .eq 13, 3) := by decide +kernel
theorem dX8_why_21 : decode cX8_why 21 = .ok (.iload 5, 2) := by decide +kernel
theorem dX8_why_23 : decode cX8_why 23 = .ok (.iconst 0, 1) := by decide +kernel
theorem dX8_why_24 : decode cX8_why 24 = .ok (.iconst 1, 1) := by decide +kernel
theorem dX8_why_25 : decode cX8_why 25 = .ok (.invokestatic 74, 3) := by decide +kernel
theorem dX8_why_28 : decode cX8_why 28 = .ok (.ifCond .ne 5, 3) := by decide +kernel
theorem dX8_why_31 : decode cX8_why 31 = .ok (.iconst (-1), 1) := by decide +kernel
theorem dX8_why_32 : decode cX8_why 32 = .ok (.ireturn, 1) := by decide +kernel
theorem dX8_why_33 : decode cX8_why 33 = .ok (.aload_n 0, 1) := by decide +kernel
theorem dX8_why_34 : decode cX8_why 34 = .ok (.getfield 58, 3) := by decide +kernel
theorem dX8_why_37 : decode cX8_why 37 = .ok (.iload_n 1, 1) := by decide +kernel
theorem dX8_why_38 : decode cX8_why 38 = .ok (.iload_n 2, 1) := by decide +kernel
theorem dX8_why_39 : decode cX8_why 39 = .ok (.iload_n 3, 1) := by decide +kernel
theorem dX8_why_40 : decode cX8_why 40 = .ok (.invokevirtual 150, 3) := by decide +kernel
theorem dX8_why_43 : decode cX8_why 43 = .ok (.aload_n 0, 1) := by decide +kernel
theorem dX8_why_44 : decode cX8_why 44 = .ok (.getfield 58, 3) := by decide +kernel
theorem dX8_why_47 : decode cX8_why 47 = .ok (.iload 4, 2) := by decide +kernel
theorem dX8_why_49 : decode cX8_why 49 = .ok (.iload 5, 2) := by decide +kernel
theorem dX8_why_51 : decode cX8_why 51 = .ok (.iconst 1, 1) := by decide +kernel
theorem dX8_why_52 : decode cX8_why 52 = .ok (.if_icmp .ne 7, 3) := by decide +kernel
theorem dX8_why_55 : decode cX8_why 55 = .ok (.iconst 2, 1) := by decide +kernel
theorem dX8_why_56 : decode cX8_why 56 = .ok (.goto 4, 3) := by decide +kernel
theorem dX8_why_59 : decode cX8_why 59 = .ok (.iconst 1, 1) := by decide +kernel
theorem dX8_why_60 : decode cX8_why 60 = .ok (.invokevirtual 157, 3) := by decide +kernel
theorem dX8_why_63 : decode cX8_why 63 = .ok (.ireturn, 1) := by decide +kernel
theorem dX8_quarrel_0 : decode cX8_quarrel 0 = .ok (.aload_n 0, 1) := by decide +kernel
theorem dX8_quarrel_1 : decode cX8_quarrel 1 = .ok (.iload_n 1, 1) := by decide +kernel
theorem dX8_quarrel_2 : decode cX8_quarrel 2 = .ok (.iload_n 2, 1) := by decide +kernel
theorem dX8_quarrel_3 : decode cX8_quarrel 3 = .ok (.iload_n 3, 1) := by decide +kernel
theorem dX8_quarrel_4 : decode cX8_quarrel 4 = .ok (.invokevirtual 144, 3) := by decide +kernel
theorem dX8_quarrel_7 : decode cX8_quarrel 7 = .ok (.ifCond .ne 5, 3) := by decide +kernel
theorem dX8_quarrel_10 : decode cX8_quarrel 10 = .ok (.iconst (-1), 1) := by decide +kernel
theorem dX8_quarrel_11 : decode cX8_quarrel 11 = .ok (.ireturn, 1) := by decide +kernel
theorem dX8_quarrel_12 : decode cX8_quarrel 12 = .ok (.aload_n 0, 1) := by decide +kernel
theorem dX8_quarrel_13 : decode cX8_quarrel 13 = .ok (.getfield 58, 3) := by decide +kernel
theorem dX8_quarrel_16 : decode cX8_quarrel 16 = .ok (.iload_n 1, 1) := by decide +kernel
theorem dX8_quarrel_17 : decode cX8_quarrel 17 = .ok (.iload_n 2, 1) := by decide +kernel
theorem dX8_quarrel_18 : decode cX8_quarrel 18 = .ok (.iload_n 3, 1) := by decide +kernel
theorem dX8_quarrel_19 : decode cX8_quarrel 19 = .ok (.invokevirtual 150, 3) := by decide +kernel
theorem dX8_quarrel_22 : decode cX8_quarrel 22 = .ok (.aload_n 0, 1) := by decide +kernel
theorem dX8_quarrel_23 : decode cX8_quarrel 23 = .ok (.getfield 58, 3) := by decide +kernel
theorem dX8_quarrel_26 : decode cX8_quarrel 26 = .ok (.invokevirtual 160, 3) := by decide +kernel
theorem dX8_quarrel_29 : decode cX8_quarrel 29 = .ok (.ireturn, 1) := by decide +kernel
theorem dX8_rule_0 : decode cX8_rule 0 = .ok (.aload_n 0, 1) := by decide +kernel
theorem dX8_rule_1 : decode cX8_rule 1 = .ok (.getfield 58, 3) := by decide +kernel
theorem dX8_rule_4 : decode cX8_rule 4 = .ok (.iload_n 1, 1) := by decide +kernel
theorem dX8_rule_5 : decode cX8_rule 5 = .ok (.invokevirtual 143, 3) := by decide +kernel
theorem dX8_rule_8 : decode cX8_rule 8 = .ok (.ifCond .ne 5, 3) := by decide +kernel
theorem dX8_rule_11 : decode cX8_rule 11 = .ok (.iconst (-1), 1) := by decide +kernel
theorem dX8_rule_12 : decode cX8_rule 12 = .ok (.ireturn, 1) := by decide +kernel
theorem dX8_rule_13 : decode cX8_rule 13 = .ok (.iload_n 2, 1) := by decide +kernel
theorem dX8_rule_14 : decode cX8_rule 14 = .ok (.tableswitch 84 0 4 #[34, 44, 54, 64, 74], 34) := by decide +kernel
theorem dX8_rule_48 : decode cX8_rule 48 = .ok (.aload_n 0, 1) := by decide +kernel
theorem dX8_rule_49 : decode cX8_rule 49 = .ok (.getfield 58, 3) := by decide +kernel
theorem dX8_rule_52 : decode cX8_rule 52 = .ok (.getfield 163, 3) := by decide +kernel
theorem dX8_rule_55 : decode cX8_rule 55 = .ok (.iload_n 1, 1) := by decide +kernel
theorem dX8_rule_56 : decode cX8_rule 56 = .ok (.iaload, 1) := by decide +kernel
theorem dX8_rule_57 : decode cX8_rule 57 = .ok (.ireturn, 1) := by decide +kernel
theorem dX8_rule_58 : decode cX8_rule 58 = .ok (.aload_n 0, 1) := by decide +kernel
theorem dX8_rule_59 : decode cX8_rule 59 = .ok (.getfield 58, 3) := by decide +kernel
theorem dX8_rule_62 : decode cX8_rule 62 = .ok (.getfield 166, 3) := by decide +kernel
theorem dX8_rule_65 : decode cX8_rule 65 = .ok (.iload_n 1, 1) := by decide +kernel
theorem dX8_rule_66 : decode cX8_rule 66 = .ok (.iaload, 1) := by decide +kernel
theorem dX8_rule_67 : decode cX8_rule 67 = .ok (.ireturn, 1) := by decide +kernel
theorem dX8_rule_68 : decode cX8_rule 68 = .ok (.aload_n 0, 1) := by decide +kernel
theorem dX8_rule_69 : decode cX8_rule 69 = .ok (.getfield 58, 3) := by decide +kernel
theorem dX8_rule_72 : decode cX8_rule 72 = .ok (.getfield 169, 3) := by decide +kernel
theorem dX8_rule_75 : decode cX8_rule 75 = .ok (.iload_n 1, 1) := by decide +kernel
theorem dX8_rule_76 : decode cX8_rule 76 = .ok (.iaload, 1) := by decide +kernel
theorem dX8_rule_77 : decode cX8_rule 77 = .ok (.ireturn, 1) := by decide +kernel
theorem dX8_rule_78 : decode cX8_rule 78 = .ok (.aload_n 0, 1) := by decide +kernel
theorem dX8_rule_79 : decode cX8_rule 79 = .ok (.getfield 58, 3) := by decide +kernel
theorem dX8_rule_82 : decode cX8_rule 82 = .ok (.getfield 172, 3) := by decide +kernel
theorem dX8_rule_85 : decode cX8_rule 85 = .ok (.iload_n 1, 1) := by decide +kernel
theorem dX8_rule_86 : decode cX8_rule 86 = .ok (.iaload, 1) := by decide +kernel
theorem dX8_rule_87 : decode cX8_rule 87 = .ok (.ireturn, 1) := by decide +kernel
theorem dX8_rule_88 : decode cX8_rule 88 = .ok (.aload_n 0, 1) := by decide +kernel
theorem dX8_rule_89 : decode cX8_rule 89 = .ok (.getfield 58, 3) := by decide +kernel
theorem dX8_rule_92 : decode cX8_rule 92 = .ok (.getfield 175, 3) := by decide +kernel
theorem dX8_rule_95 : decode cX8_rule 95 = .ok (.iload_n 1, 1) := by decide +kernel
theorem dX8_rule_96 : decode cX8_rule 96 = .ok (.iaload, 1) := by decide +kernel
theorem dX8_rule_97 : decode cX8_rule 97 = .ok (.ireturn, 1) := by decide +kernel
theorem dX8_rule_98 : decode cX8_rule 98 = .ok (.iconst (-1), 1) := by decide +kernel
theorem dX8_rule_99 : decode cX8_rule 99 = .ok (.ireturn, 1) := by decide +kernel
theorem dX8_line_0 : decode cX8_line 0 = .ok (.aload_n 0, 1) := by decide +kernel
theorem dX8_line_1 : decode cX8_line 1 = .ok (.getfield 19, 3) := by decide +kernel
theorem dX8_line_4 : decode cX8_line 4 = .ok (.iload_n 1, 1) := by decide +kernel
theorem dX8_line_5 : decode cX8_line 5 = .ok (.invokevirtual 85, 3) := by decide +kernel
theorem dX8_line_8 : decode cX8_line 8 = .ok (.ifCond .eq 27, 3) := by decide +kernel
theorem dX8_line_11 : decode cX8_line 11 = .ok (.iload_n 2, 1) := by decide +kernel
theorem dX8_line_12 : decode cX8_line 12 = .ok (.invokestatic 103, 3) := by decide +kernel
theorem dX8_line_15 : decode cX8_line 15 = .ok (.ifCond .eq 20, 3) := by decide +kernel
theorem dX8_line_18 : decode cX8_line 18 = .ok (.iload_n 3, 1) := by decide +kernel
theorem dX8_line_19 : decode cX8_line 19 = .ok (.bipush (-9), 2) := by decide +kernel
theorem dX8_line_21 : decode cX8_line 21 = .ok (.if_icmp .eq 16, 3) := by decide +kernel
theorem dX8_line_24 : decode cX8_line 24 = .ok (.aload_n 0, 1) := by decide +kernel
theorem dX8_line_25 : decode cX8_line 25 = .ok (.getfield 10, 3) := by decide +kernel
theorem dX8_line_28 : decode cX8_line 28 = .ok (.iload_n 3, 1) := by decide +kernel
theorem dX8_line_29 : decode cX8_line 29 = .ok (.invokevirtual 178, 3) := by decide +kernel
theorem dX8_line_32 : decode cX8_line 32 = .ok (.ifCond .ne 5, 3) := by decide +kernel
theorem dX8_line_35 : decode cX8_line 35 = .ok (.iconst (-1), 1) := by decide +kernel
theorem dX8_line_36 : decode cX8_line 36 = .ok (.ireturn, 1) := by decide +kernel
theorem dX8_line_37 : decode cX8_line 37 = .ok (.iload 4, 2) := by decide +kernel
theorem dX8_line_39 : decode cX8_line 39 = .ok (.ifCond .lt 18, 3) := by decide +kernel
theorem dX8_line_42 : decode cX8_line 42 = .ok (.iload 5, 2) := by decide +kernel
theorem dX8_line_44 : decode cX8_line 44 = .ok (.sipush 1440, 3) := by decide +kernel
theorem dX8_line_47 : decode cX8_line 47 = .ok (.if_icmp .gt 10, 3) := by decide +kernel
theorem dX8_line_50 : decode cX8_line 50 = .ok (.iload 4, 2) := by decide +kernel
theorem dX8_line_52 : decode cX8_line 52 = .ok (.iload 5, 2) := by decide +kernel
theorem dX8_line_54 : decode cX8_line 54 = .ok (.if_icmp .lt 5, 3) := by decide +kernel
theorem dX8_line_57 : decode cX8_line 57 = .ok (.iconst (-1), 1) := by decide +kernel
theorem dX8_line_58 : decode cX8_line 58 = .ok (.ireturn, 1) := by decide +kernel
theorem dX8_line_59 : decode cX8_line 59 = .ok (.aload_n 0, 1) := by decide +kernel
theorem dX8_line_60 : decode cX8_line 60 = .ok (.getfield 28, 3) := by decide +kernel
theorem dX8_line_63 : decode cX8_line 63 = .ok (.iload_n 1, 1) := by decide +kernel
theorem dX8_line_64 : decode cX8_line 64 = .ok (.iload_n 2, 1) := by decide +kernel
theorem dX8_line_65 : decode cX8_line 65 = .ok (.iload_n 3, 1) := by decide +kernel
theorem dX8_line_66 : decode cX8_line 66 = .ok (.iload 4, 2) := by decide +kernel
theorem dX8_line_68 : decode cX8_line 68 = .ok (.iload 5, 2) := by decide +kernel
theorem dX8_line_70 : decode cX8_line 70 = .ok (.invokevirtual 179, 3) := by decide +kernel
theorem dX8_line_73 : decode cX8_line 73 = .ok (.ireturn, 1) := by decide +kernel
theorem dX8_check_0 : decode cX8_check 0 = .ok (.aload_n 0, 1) := by decide +kernel
theorem dX8_check_1 : decode cX8_check 1 = .ok (.getfield 10, 3) := by decide +kernel
theorem dX8_check_4 : decode cX8_check 4 = .ok (.iload_n 1, 1) := by decide +kernel
theorem dX8_check_5 : decode cX8_check 5 = .ok (.invokevirtual 178, 3) := by decide +kernel
theorem dX8_check_8 : decode cX8_check 8 = .ok (.ifCond .eq 25, 3) := by decide +kernel
theorem dX8_check_11 : decode cX8_check 11 = .ok (.iload_n 2, 1) := by decide +kernel
theorem dX8_check_12 : decode cX8_check 12 = .ok (.iconst 0, 1) := by decide +kernel
theorem dX8_check_13 : decode cX8_check 13 = .ok (.sipush 1439, 3) := by decide +kernel
theorem dX8_check_16 : decode cX8_check 16 = .ok (.invokestatic 74, 3) := by decide +kernel
theorem dX8_check_19 : decode cX8_check 19 = .ok (.ifCond .eq 14, 3) := by decide +kernel
theorem dX8_check_22 : decode cX8_check 22 = .ok (.iload_n 3, 1) := by decide +kernel
theorem dX8_check_23 : decode cX8_check 23 = .ok (.bipush (-90), 2) := by decide +kernel
theorem dX8_check_25 : decode cX8_check 25 = .ok (.bipush 90, 2) := by decide +kernel
theorem dX8_check_27 : decode cX8_check 27 = .ok (.invokestatic 74, 3) := by decide +kernel
theorem dX8_check_30 : decode cX8_check 30 = .ok (.ifCond .ne 5, 3) := by decide +kernel
theorem dX8_check_33 : decode cX8_check 33 = .ok (.iconst (-1), 1) := by decide +kernel
theorem dX8_check_34 : decode cX8_check 34 = .ok (.ireturn, 1) := by decide +kernel
theorem dX8_check_35 : decode cX8_check 35 = .ok (.aload_n 0, 1) := by decide +kernel
theorem dX8_check_36 : decode cX8_check 36 = .ok (.getfield 10, 3) := by decide +kernel
theorem dX8_check_39 : decode cX8_check 39 = .ok (.iload_n 1, 1) := by decide +kernel
theorem dX8_check_40 : decode cX8_check 40 = .ok (.iload_n 2, 1) := by decide +kernel
theorem dX8_check_41 : decode cX8_check 41 = .ok (.iload_n 3, 1) := by decide +kernel
theorem dX8_check_42 : decode cX8_check 42 = .ok (.invokevirtual 182, 3) := by decide +kernel
theorem dX8_check_45 : decode cX8_check 45 = .ok (.ireturn, 1) := by decide +kernel
theorem dX8_truth_0 : decode cX8_truth 0 = .ok (.aload_n 0, 1) := by decide +kernel
theorem dX8_truth_1 : decode cX8_truth 1 = .ok (.getfield 10, 3) := by decide +kernel
theorem dX8_truth_4 : decode cX8_truth 4 = .ok (.iload_n 1, 1) := by decide +kernel
theorem dX8_truth_5 : decode cX8_truth 5 = .ok (.invokevirtual 178, 3) := by decide +kernel
theorem dX8_truth_8 : decode cX8_truth 8 = .ok (.ifCond .eq 23, 3) := by decide +kernel
theorem dX8_truth_11 : decode cX8_truth 11 = .ok (.iload_n 2, 1) := by decide +kernel
theorem dX8_truth_12 : decode cX8_truth 12 = .ok (.iconst 0, 1) := by decide +kernel
theorem dX8_truth_13 : decode cX8_truth 13 = .ok (.sipush 1440, 3) := by decide +kernel
theorem dX8_truth_16 : decode cX8_truth 16 = .ok (.invokestatic 74, 3) := by decide +kernel
theorem dX8_truth_19 : decode cX8_truth 19 = .ok (.ifCond .eq 12, 3) := by decide +kernel
theorem dX8_truth_22 : decode cX8_truth 22 = .ok (.iload_n 3, 1) := by decide +kernel
theorem dX8_truth_23 : decode cX8_truth 23 = .ok (.iconst 0, 1) := by decide +kernel
theorem dX8_truth_24 : decode cX8_truth 24 = .ok (.iconst 1, 1) := by decide +kernel
theorem dX8_truth_25 : decode cX8_truth 25 = .ok (.invokestatic 74, 3) := by decide +kernel
theorem dX8_truth_28 : decode cX8_truth 28 = .ok (.ifCond .ne 7, 3) := by decide +kernel
theorem dX8_truth_31 : decode cX8_truth 31 = .ok (.sipush (-999), 3) := by decide +kernel
theorem dX8_truth_34 : decode cX8_truth 34 = .ok (.ireturn, 1) := by decide +kernel
theorem dX8_truth_35 : decode cX8_truth 35 = .ok (.aload_n 0, 1) := by decide +kernel
theorem dX8_truth_36 : decode cX8_truth 36 = .ok (.getfield 10, 3) := by decide +kernel
theorem dX8_truth_39 : decode cX8_truth 39 = .ok (.iload_n 1, 1) := by decide +kernel
theorem dX8_truth_40 : decode cX8_truth 40 = .ok (.iload_n 2, 1) := by decide +kernel
theorem dX8_truth_41 : decode cX8_truth 41 = .ok (.iload_n 3, 1) := by decide +kernel
theorem dX8_truth_42 : decode cX8_truth 42 = .ok (.iconst 1, 1) := by decide +kernel
theorem dX8_truth_43 : decode cX8_truth 43 = .ok (.if_icmp .ne 7, 3) := by decide +kernel
theorem dX8_truth_46 : decode cX8_truth 46 = .ok (.iconst 1, 1) := by decide +kernel
theorem dX8_truth_47 : decode cX8_truth 47 = .ok (.goto 4, 3) := by decide +kernel
theorem dX8_truth_50 : decode cX8_truth 50 = .ok (.iconst 0, 1) := by decide +kernel
theorem dX8_truth_51 : decode cX8_truth 51 = .ok (.invokevirtual 185, 3) := by decide +kernel
theorem dX8_truth_54 : decode cX8_truth 54 = .ok (.ireturn, 1) := by decide +kernel
theorem dX8_work_0 : decode cX8_work 0 = .ok (.aload_n 0, 1) := by decide +kernel
theorem dX8_work_1 : decode cX8_work 1 = .ok (.getfield 19, 3) := by decide +kernel
theorem dX8_work_4 : decode cX8_work 4 = .ok (.iload_n 1, 1) := by decide +kernel
theorem dX8_work_5 : decode cX8_work 5 = .ok (.invokevirtual 85, 3) := by decide +kernel
theorem dX8_work_8 : decode cX8_work 8 = .ok (.ifCond .eq 19, 3) := by decide +kernel
theorem dX8_work_11 : decode cX8_work 11 = .ok (.iload_n 2, 1) := by decide +kernel
theorem dX8_work_12 : decode cX8_work 12 = .ok (.invokestatic 103, 3) := by decide +kernel
theorem dX8_work_15 : decode cX8_work 15 = .ok (.ifCond .eq 12, 3) := by decide +kernel
theorem dX8_work_18 : decode cX8_work 18 = .ok (.iload_n 3, 1) := by decide +kernel
theorem dX8_work_19 : decode cX8_work 19 = .ok (.iconst 0, 1) := by decide +kernel
theorem dX8_work_20 : decode cX8_work 20 = .ok (.iconst 2, 1) := by decide +kernel
theorem dX8_work_21 : decode cX8_work 21 = .ok (.invokestatic 74, 3) := by decide +kernel
theorem dX8_work_24 : decode cX8_work 24 = .ok (.ifCond .ne 5, 3) := by decide +kernel
theorem dX8_work_27 : decode cX8_work 27 = .ok (.iconst (-1), 1) := by decide +kernel
theorem dX8_work_28 : decode cX8_work 28 = .ok (.ireturn, 1) := by decide +kernel
theorem dX8_work_29 : decode cX8_work 29 = .ok (.aload_n 0, 1) := by decide +kernel
theorem dX8_work_30 : decode cX8_work 30 = .ok (.getfield 28, 3) := by decide +kernel
theorem dX8_work_33 : decode cX8_work 33 = .ok (.iload_n 1, 1) := by decide +kernel
theorem dX8_work_34 : decode cX8_work 34 = .ok (.iload_n 2, 1) := by decide +kernel
theorem dX8_work_35 : decode cX8_work 35 = .ok (.invokevirtual 189, 3) := by decide +kernel
theorem dX8_work_38 : decode cX8_work 38 = .ok (.iload_n 3, 1) := by decide +kernel
theorem dX8_work_39 : decode cX8_work 39 = .ok (.iconst 2, 1) := by decide +kernel
theorem dX8_work_40 : decode cX8_work 40 = .ok (.if_icmp .ne 11, 3) := by decide +kernel
theorem dX8_work_43 : decode cX8_work 43 = .ok (.aload_n 0, 1) := by decide +kernel
theorem dX8_work_44 : decode cX8_work 44 = .ok (.getfield 28, 3) := by decide +kernel
theorem dX8_work_47 : decode cX8_work 47 = .ok (.invokevirtual 193, 3) := by decide +kernel
theorem dX8_work_50 : decode cX8_work 50 = .ok (.ireturn, 1) := by decide +kernel
theorem dX8_work_51 : decode cX8_work 51 = .ok (.aload_n 0, 1) := by decide +kernel
theorem dX8_work_52 : decode cX8_work 52 = .ok (.getfield 28, 3) := by decide +kernel
theorem dX8_work_55 : decode cX8_work 55 = .ok (.iload_n 3, 1) := by decide +kernel
theorem dX8_work_56 : decode cX8_work 56 = .ok (.ifCond .ne 7, 3) := by decide +kernel
theorem dX8_work_59 : decode cX8_work 59 = .ok (.iconst 2, 1) := by decide +kernel
theorem dX8_work_60 : decode cX8_work 60 = .ok (.goto 4, 3) := by decide +kernel
theorem dX8_work_63 : decode cX8_work 63 = .ok (.iconst 1, 1) := by decide +kernel
theorem dX8_work_64 : decode cX8_work 64 = .ok (.invokevirtual 196, 3) := by decide +kernel
theorem dX8_work_67 : decode cX8_work 67 = .ok (.ireturn, 1) := by decide +kernel
theorem dX8_breach_0 : decode cX8_breach 0 = .ok (.aload_n 0, 1) := by decide +kernel
theorem dX8_breach_1 : decode cX8_breach 1 = .ok (.getfield 19, 3) := by decide +kernel
theorem dX8_breach_4 : decode cX8_breach 4 = .ok (.iload_n 1, 1) := by decide +kernel
theorem dX8_breach_5 : decode cX8_breach 5 = .ok (.invokevirtual 85, 3) := by decide +kernel
theorem dX8_breach_8 : decode cX8_breach 8 = .ok (.ifCond .eq 19, 3) := by decide +kernel
theorem dX8_breach_11 : decode cX8_breach 11 = .ok (.iload_n 2, 1) := by decide +kernel
theorem dX8_breach_12 : decode cX8_breach 12 = .ok (.invokestatic 103, 3) := by decide +kernel
theorem dX8_breach_15 : decode cX8_breach 15 = .ok (.ifCond .eq 12, 3) := by decide +kernel
theorem dX8_breach_18 : decode cX8_breach 18 = .ok (.iload_n 3, 1) := by decide +kernel
theorem dX8_breach_19 : decode cX8_breach 19 = .ok (.iconst 0, 1) := by decide +kernel
theorem dX8_breach_20 : decode cX8_breach 20 = .ok (.iconst 5, 1) := by decide +kernel
theorem dX8_breach_21 : decode cX8_breach 21 = .ok (.invokestatic 74, 3) := by decide +kernel
theorem dX8_breach_24 : decode cX8_breach 24 = .ok (.ifCond .ne 5, 3) := by decide +kernel
theorem dX8_breach_27 : decode cX8_breach 27 = .ok (.iconst (-1), 1) := by decide +kernel
theorem dX8_breach_28 : decode cX8_breach 28 = .ok (.ireturn, 1) := by decide +kernel
theorem dX8_breach_29 : decode cX8_breach 29 = .ok (.aload_n 0, 1) := by decide +kernel
theorem dX8_breach_30 : decode cX8_breach 30 = .ok (.iload_n 1, 1) := by decide +kernel
theorem dX8_breach_31 : decode cX8_breach 31 = .ok (.iload_n 2, 1) := by decide +kernel
theorem dX8_breach_32 : decode cX8_breach 32 = .ok (.iload_n 3, 1) := by decide +kernel
theorem dX8_breach_33 : decode cX8_breach 33 = .ok (.invokevirtual 199, 3) := by decide +kernel
theorem dX8_breach_36 : decode cX8_breach 36 = .ok (.ireturn, 1) := by decide +kernel
theorem dX8_clash_0 : decode cX8_clash 0 = .ok (.aload_n 0, 1) := by decide +kernel
theorem dX8_clash_1 : decode cX8_clash 1 = .ok (.getfield 19, 3) := by decide +kernel
theorem dX8_clash_4 : decode cX8_clash 4 = .ok (.iload_n 1, 1) := by decide +kernel
theorem dX8_clash_5 : decode cX8_clash 5 = .ok (.invokevirtual 85, 3) := by decide +kernel
theorem dX8_clash_8 : decode cX8_clash 8 = .ok (.ifCond .eq 10, 3) := by decide +kernel
theorem dX8_clash_11 : decode cX8_clash 11 = .ok (.iload_n 2, 1) := by decide +kernel
theorem dX8_clash_12 : decode cX8_clash 12 = .ok (.invokestatic 103, 3) := by decide +kernel
theorem dX8_clash_15 : decode cX8_clash 15 = .ok (.ifCond .ne 5, 3) := by decide +kernel
theorem dX8_clash_18 : decode cX8_clash 18 = .ok (.iconst (-1), 1) := by decide +kernel
theorem dX8_clash_19 : decode cX8_clash 19 = .ok (.ireturn, 1) := by decide +kernel
theorem dX8_clash_20 : decode cX8_clash 20 = .ok (.aload_n 0, 1) := by decide +kernel
theorem dX8_clash_21 : decode cX8_clash 21 = .ok (.getfield 28, 3) := by decide +kernel
theorem dX8_clash_24 : decode cX8_clash 24 = .ok (.iload_n 1, 1) := by decide +kernel
theorem dX8_clash_25 : decode cX8_clash 25 = .ok (.iload_n 2, 1) := by decide +kernel
theorem dX8_clash_26 : decode cX8_clash 26 = .ok (.invokevirtual 189, 3) := by decide +kernel
theorem dX8_clash_29 : decode cX8_clash 29 = .ok (.aload_n 0, 1) := by decide +kernel
theorem dX8_clash_30 : decode cX8_clash 30 = .ok (.getfield 28, 3) := by decide +kernel
theorem dX8_clash_33 : decode cX8_clash 33 = .ok (.invokevirtual 202, 3) := by decide +kernel
theorem dX8_clash_36 : decode cX8_clash 36 = .ok (.ireturn, 1) := by decide +kernel
theorem dX8_doubted_0 : decode cX8_doubted 0 = .ok (.aload_n 0, 1) := by decide +kernel
theorem dX8_doubted_1 : decode cX8_doubted 1 = .ok (.getfield 19, 3) := by decide +kernel
theorem dX8_doubted_4 : decode cX8_doubted 4 = .ok (.iload_n 1, 1) := by decide +kernel
theorem dX8_doubted_5 : decode cX8_doubted 5 = .ok (.invokevirtual 85, 3) := by decide +kernel
theorem dX8_doubted_8 : decode cX8_doubted 8 = .ok (.ifCond .eq 19, 3) := by decide +kernel
theorem dX8_doubted_11 : decode cX8_doubted 11 = .ok (.iload_n 2, 1) := by decide +kernel
theorem dX8_doubted_12 : decode cX8_doubted 12 = .ok (.invokestatic 103, 3) := by decide +kernel
theorem dX8_doubted_15 : decode cX8_doubted 15 = .ok (.ifCond .eq 12, 3) := by decide +kernel
theorem dX8_doubted_18 : decode cX8_doubted 18 = .ok (.iload_n 3, 1) := by decide +kernel
theorem dX8_doubted_19 : decode cX8_doubted 19 = .ok (.iconst 0, 1) := by decide +kernel
theorem dX8_doubted_20 : decode cX8_doubted 20 = .ok (.iconst 1, 1) := by decide +kernel
theorem dX8_doubted_21 : decode cX8_doubted 21 = .ok (.invokestatic 74, 3) := by decide +kernel
theorem dX8_doubted_24 : decode cX8_doubted 24 = .ok (.ifCond .ne 5, 3) := by decide +kernel
theorem dX8_doubted_27 : decode cX8_doubted 27 = .ok (.iconst (-1), 1) := by decide +kernel
theorem dX8_doubted_28 : decode cX8_doubted 28 = .ok (.ireturn, 1) := by decide +kernel
theorem dX8_doubted_29 : decode cX8_doubted 29 = .ok (.aload_n 0, 1) := by decide +kernel
theorem dX8_doubted_30 : decode cX8_doubted 30 = .ok (.getfield 28, 3) := by decide +kernel
theorem dX8_doubted_33 : decode cX8_doubted 33 = .ok (.iload_n 1, 1) := by decide +kernel
theorem dX8_doubted_34 : decode cX8_doubted 34 = .ok (.iload_n 2, 1) := by decide +kernel
theorem dX8_doubted_35 : decode cX8_doubted 35 = .ok (.invokevirtual 189, 3) := by decide +kernel
theorem dX8_doubted_38 : decode cX8_doubted 38 = .ok (.aload_n 0, 1) := by decide +kernel
theorem dX8_doubted_39 : decode cX8_doubted 39 = .ok (.getfield 28, 3) := by decide +kernel
theorem dX8_doubted_42 : decode cX8_doubted 42 = .ok (.getfield 205, 3) := by decide +kernel
theorem dX8_doubted_45 : decode cX8_doubted 45 = .ok (.bipush 12, 2) := by decide +kernel
theorem dX8_doubted_47 : decode cX8_doubted 47 = .ok (.if_icmp .le 6, 3) := by decide +kernel
theorem dX8_doubted_50 : decode cX8_doubted 50 = .ok (.bipush (-2), 2) := by decide +kernel
theorem dX8_doubted_52 : decode cX8_doubted 52 = .ok (.ireturn, 1) := by decide +kernel
theorem dX8_doubted_53 : decode cX8_doubted 53 = .ok (.aload_n 0, 1) := by decide +kernel
theorem dX8_doubted_54 : decode cX8_doubted 54 = .ok (.getfield 28, 3) := by decide +kernel
theorem dX8_doubted_57 : decode cX8_doubted 57 = .ok (.invokevirtual 208, 3) := by decide +kernel
theorem dX8_doubted_60 : decode cX8_doubted 60 = .ok (.istore 4, 2) := by decide +kernel
theorem dX8_doubted_62 : decode cX8_doubted 62 = .ok (.iload_n 3, 1) := by decide +kernel
theorem dX8_doubted_63 : decode cX8_doubted 63 = .ok (.ifCond .ne 11, 3) := by decide +kernel
theorem dX8_doubted_66 : decode cX8_doubted 66 = .ok (.iload 4, 2) := by decide +kernel
theorem dX8_doubted_68 : decode cX8_doubted 68 = .ok (.invokestatic 211, 3) := by decide +kernel
theorem dX8_doubted_71 : decode cX8_doubted 71 = .ok (.goto 5, 3) := by decide +kernel
theorem dX8_doubted_74 : decode cX8_doubted 74 = .ok (.iload 4, 2) := by decide +kernel
theorem dX8_doubted_76 : decode cX8_doubted 76 = .ok (.ireturn, 1) := by decide +kernel
theorem dX8_period_0 : decode cX8_period 0 = .ok (.iload_n 1, 1) := by decide +kernel
theorem dX8_period_1 : decode cX8_period 1 = .ok (.iconst 0, 1) := by decide +kernel
theorem dX8_period_2 : decode cX8_period 2 = .ok (.iconst 5, 1) := by decide +kernel
theorem dX8_period_3 : decode cX8_period 3 = .ok (.invokestatic 74, 3) := by decide +kernel
theorem dX8_period_6 : decode cX8_period 6 = .ok (.ifCond .eq 24, 3) := by decide +kernel
theorem dX8_period_9 : decode cX8_period 9 = .ok (.iload_n 2, 1) := by decide +kernel
theorem dX8_period_10 : decode cX8_period 10 = .ok (.bipush 15, 2) := by decide +kernel
theorem dX8_period_12 : decode cX8_period 12 = .ok (.sipush 300, 3) := by decide +kernel
theorem dX8_period_15 : decode cX8_period 15 = .ok (.invokestatic 74, 3) := by decide +kernel
theorem dX8_period_18 : decode cX8_period 18 = .ok (.ifCond .eq 12, 3) := by decide +kernel
theorem dX8_period_21 : decode cX8_period 21 = .ok (.iload_n 3, 1) := by decide +kernel
theorem dX8_period_22 : decode cX8_period 22 = .ok (.iconst 0, 1) := by decide +kernel
theorem dX8_period_23 : decode cX8_period 23 = .ok (.iconst 3, 1) := by decide +kernel
theorem dX8_period_24 : decode cX8_period 24 = .ok (.invokestatic 74, 3) := by decide +kernel
theorem dX8_period_27 : decode cX8_period 27 = .ok (.ifCond .ne 5, 3) := by decide +kernel
theorem dX8_period_30 : decode cX8_period 30 = .ok (.iconst (-1), 1) := by decide +kernel
theorem dX8_period_31 : decode cX8_period 31 = .ok (.ireturn, 1) := by decide +kernel
theorem dX8_period_32 : decode cX8_period 32 = .ok (.aload_n 0, 1) := by decide +kernel
theorem dX8_period_33 : decode cX8_period 33 = .ok (.getfield 35, 3) := by decide +kernel
theorem dX8_period_36 : decode cX8_period 36 = .ok (.iload_n 1, 1) := by decide +kernel
theorem dX8_period_37 : decode cX8_period 37 = .ok (.iload_n 2, 1) := by decide +kernel
theorem dX8_period_38 : decode cX8_period 38 = .ok (.iload_n 3, 1) := by decide +kernel
theorem dX8_period_39 : decode cX8_period 39 = .ok (.invokevirtual 216, 3) := by decide +kernel
theorem dX8_period_42 : decode cX8_period 42 = .ok (.ireturn, 1) := by decide +kernel
theorem dX8_can_0 : decode cX8_can 0 = .ok (.iload_n 1, 1) := by decide +kernel
theorem dX8_can_1 : decode cX8_can 1 = .ok (.iconst 1, 1) := by decide +kernel
theorem dX8_can_2 : decode cX8_can 2 = .ok (.bipush 6, 2) := by decide +kernel
theorem dX8_can_4 : decode cX8_can 4 = .ok (.invokestatic 74, 3) := by decide +kernel
theorem dX8_can_7 : decode cX8_can 7 = .ok (.ifCond .eq 23, 3) := by decide +kernel
theorem dX8_can_10 : decode cX8_can 10 = .ok (.iload_n 2, 1) := by decide +kernel
theorem dX8_can_11 : decode cX8_can 11 = .ok (.iconst 1, 1) := by decide +kernel
theorem dX8_can_12 : decode cX8_can 12 = .ok (.iconst 3, 1) := by decide +kernel
theorem dX8_can_13 : decode cX8_can 13 = .ok (.invokestatic 74, 3) := by decide +kernel
theorem dX8_can_16 : decode cX8_can 16 = .ok (.ifCond .eq 14, 3) := by decide +kernel
theorem dX8_can_19 : decode cX8_can 19 = .ok (.iload_n 3, 1) := by decide +kernel
theorem dX8_can_20 : decode cX8_can 20 = .ok (.iconst 0, 1) := by decide +kernel
theorem dX8_can_21 : decode cX8_can 21 = .ok (.sipush 1800, 3) := by decide +kernel
theorem dX8_can_24 : decode cX8_can 24 = .ok (.invokestatic 74, 3) := by decide +kernel
theorem dX8_can_27 : decode cX8_can 27 = .ok (.ifCond .ne 5, 3) := by decide +kernel
theorem dX8_can_30 : decode cX8_can 30 = .ok (.iconst (-1), 1) := by decide +kernel
theorem dX8_can_31 : decode cX8_can 31 = .ok (.ireturn, 1) := by decide +kernel
theorem dX8_can_32 : decode cX8_can 32 = .ok (.iload 4, 2) := by decide +kernel
theorem dX8_can_34 : decode cX8_can 34 = .ok (.iconst 1, 1) := by decide +kernel
theorem dX8_can_35 : decode cX8_can 35 = .ok (.bipush 6, 2) := by decide +kernel
theorem dX8_can_37 : decode cX8_can 37 = .ok (.invokestatic 74, 3) := by decide +kernel
theorem dX8_can_40 : decode cX8_can 40 = .ok (.ifCond .eq 13, 3) := by decide +kernel
theorem dX8_can_43 : decode cX8_can 43 = .ok (.iload 5, 2) := by decide +kernel
theorem dX8_can_45 : decode cX8_can 45 = .ok (.iconst 0, 1) := by decide +kernel
theorem dX8_can_46 : decode cX8_can 46 = .ok (.iconst 1, 1) := by decide +kernel
theorem dX8_can_47 : decode cX8_can 47 = .ok (.invokestatic 74, 3) := by decide +kernel
theorem dX8_can_50 : decode cX8_can 50 = .ok (.ifCond .ne 5, 3) := by decide +kernel
theorem dX8_can_53 : decode cX8_can 53 = .ok (.iconst (-1), 1) := by decide +kernel
theorem dX8_can_54 : decode cX8_can 54 = .ok (.ireturn, 1) := by decide +kernel
theorem dX8_can_55 : decode cX8_can 55 = .ok (.aload_n 0, 1) := by decide +kernel
theorem dX8_can_56 : decode cX8_can 56 = .ok (.getfield 35, 3) := by decide +kernel
theorem dX8_can_59 : decode cX8_can 59 = .ok (.iload_n 1, 1) := by decide +kernel
theorem dX8_can_60 : decode cX8_can 60 = .ok (.iload_n 3, 1) := by decide +kernel
theorem dX8_can_61 : decode cX8_can 61 = .ok (.iload 4, 2) := by decide +kernel
theorem dX8_can_63 : decode cX8_can 63 = .ok (.invokevirtual 219, 3) := by decide +kernel
theorem dX8_can_66 : decode cX8_can 66 = .ok (.iload 5, 2) := by decide +kernel
theorem dX8_can_68 : decode cX8_can 68 = .ok (.ifCond .ne 14, 3) := by decide +kernel
theorem dX8_can_71 : decode cX8_can 71 = .ok (.aload_n 0, 1) := by decide +kernel
theorem dX8_can_72 : decode cX8_can 72 = .ok (.getfield 35, 3) := by decide +kernel
theorem dX8_can_75 : decode cX8_can 75 = .ok (.iload_n 2, 1) := by decide +kernel
theorem dX8_can_76 : decode cX8_can 76 = .ok (.invokevirtual 222, 3) := by decide +kernel
theorem dX8_can_79 : decode cX8_can 79 = .ok (.goto 11, 3) := by decide +kernel
theorem dX8_can_82 : decode cX8_can 82 = .ok (.aload_n 0, 1) := by decide +kernel
theorem dX8_can_83 : decode cX8_can 83 = .ok (.getfield 35, 3) := by decide +kernel
theorem dX8_can_86 : decode cX8_can 86 = .ok (.iload_n 2, 1) := by decide +kernel
theorem dX8_can_87 : decode cX8_can 87 = .ok (.invokevirtual 225, 3) := by decide +kernel
theorem dX8_can_90 : decode cX8_can 90 = .ok (.ireturn, 1) := by decide +kernel
theorem dX8_lost_0 : decode cX8_lost 0 = .ok (.iload_n 1, 1) := by decide +kernel
theorem dX8_lost_1 : decode cX8_lost 1 = .ok (.iconst 0, 1) := by decide +kernel
theorem dX8_lost_2 : decode cX8_lost 2 = .ok (.sipush 2000, 3) := by decide +kernel
theorem dX8_lost_5 : decode cX8_lost 5 = .ok (.invokestatic 74, 3) := by decide +kernel
theorem dX8_lost_8 : decode cX8_lost 8 = .ok (.ifCond .eq 24, 3) := by decide +kernel
theorem dX8_lost_11 : decode cX8_lost 11 = .ok (.iload_n 2, 1) := by decide +kernel
theorem dX8_lost_12 : decode cX8_lost 12 = .ok (.iconst 1, 1) := by decide +kernel
theorem dX8_lost_13 : decode cX8_lost 13 = .ok (.bipush 10, 2) := by decide +kernel
theorem dX8_lost_15 : decode cX8_lost 15 = .ok (.invokestatic 74, 3) := by decide +kernel
theorem dX8_lost_18 : decode cX8_lost 18 = .ok (.ifCond .eq 14, 3) := by decide +kernel
theorem dX8_lost_21 : decode cX8_lost 21 = .ok (.iload_n 3, 1) := by decide +kernel
theorem dX8_lost_22 : decode cX8_lost 22 = .ok (.iconst 0, 1) := by decide +kernel
theorem dX8_lost_23 : decode cX8_lost 23 = .ok (.sipush 240, 3) := by decide +kernel
theorem dX8_lost_26 : decode cX8_lost 26 = .ok (.invokestatic 74, 3) := by decide +kernel
theorem dX8_lost_29 : decode cX8_lost 29 = .ok (.ifCond .ne 7, 3) := by decide +kernel
theorem dX8_lost_32 : decode cX8_lost 32 = .ok (.ldc2_w 228, 3) := by decide +kernel
theorem dX8_lost_35 : decode cX8_lost 35 = .ok (.lreturn, 1) := by decide +kernel
theorem dX8_lost_36 : decode cX8_lost 36 = .ok (.aload_n 0, 1) := by decide +kernel
theorem dX8_lost_37 : decode cX8_lost 37 = .ok (.getfield 35, 3) := by decide +kernel
theorem dX8_lost_40 : decode cX8_lost 40 = .ok (.iload_n 1, 1) := by decide +kernel
theorem dX8_lost_41 : decode cX8_lost 41 = .ok (.bipush 15, 2) := by decide +kernel
theorem dX8_lost_43 : decode cX8_lost 43 = .ok (.iadd, 1) := by decide +kernel
theorem dX8_lost_44 : decode cX8_lost 44 = .ok (.iconst 1, 1) := by decide +kernel
theorem dX8_lost_45 : decode cX8_lost 45 = .ok (.isub, 1) := by decide +kernel
theorem dX8_lost_46 : decode cX8_lost 46 = .ok (.bipush 15, 2) := by decide +kernel
theorem dX8_lost_48 : decode cX8_lost 48 = .ok (.idiv, 1) := by decide +kernel
theorem dX8_lost_49 : decode cX8_lost 49 = .ok (.iload_n 2, 1) := by decide +kernel
theorem dX8_lost_50 : decode cX8_lost 50 = .ok (.iload_n 3, 1) := by decide +kernel
theorem dX8_lost_51 : decode cX8_lost 51 = .ok (.bipush 15, 2) := by decide +kernel
theorem dX8_lost_53 : decode cX8_lost 53 = .ok (.idiv, 1) := by decide +kernel
theorem dX8_lost_54 : decode cX8_lost 54 = .ok (.invokevirtual 230, 3) := by decide +kernel
theorem dX8_lost_57 : decode cX8_lost 57 = .ok (.lreturn, 1) := by decide +kernel
theorem dX8_bench_0 : decode cX8_bench 0 = .ok (.iload_n 1, 1) := by decide +kernel
theorem dX8_bench_1 : decode cX8_bench 1 = .ok (.iconst 0, 1) := by decide +kernel
theorem dX8_bench_2 : decode cX8_bench 2 = .ok (.sipush 1023, 3) := by decide +kernel
theorem dX8_bench_5 : decode cX8_bench 5 = .ok (.invokestatic 74, 3) := by decide +kernel
theorem dX8_bench_8 : decode cX8_bench 8 = .ok (.ifCond .ne 5, 3) := by decide +kernel
theorem dX8_bench_11 : decode cX8_bench 11 = .ok (.iconst (-1), 1) := by decide +kernel
theorem dX8_bench_12 : decode cX8_bench 12 = .ok (.ireturn, 1) := by decide +kernel
theorem dX8_bench_13 : decode cX8_bench 13 = .ok (.aload_n 0, 1) := by decide +kernel
theorem dX8_bench_14 : decode cX8_bench 14 = .ok (.getfield 42, 3) := by decide +kernel
theorem dX8_bench_17 : decode cX8_bench 17 = .ok (.iload_n 1, 1) := by decide +kernel
theorem dX8_bench_18 : decode cX8_bench 18 = .ok (.invokevirtual 234, 3) := by decide +kernel
theorem dX8_bench_21 : decode cX8_bench 21 = .ok (.ireturn, 1) := by decide +kernel
theorem dX8_base_0 : decode cX8_base 0 = .ok (.iload_n 1, 1) := by decide +kernel
theorem dX8_base_1 : decode cX8_base 1 = .ok (.iconst 0, 1) := by decide +kernel
theorem dX8_base_2 : decode cX8_base 2 = .ok (.iconst 5, 1) := by decide +kernel
theorem dX8_base_3 : decode cX8_base 3 = .ok (.invokestatic 74, 3) := by decide +kernel
theorem dX8_base_6 : decode cX8_base 6 = .ok (.ifCond .eq 14, 3) := by decide +kernel
theorem dX8_base_9 : decode cX8_base 9 = .ok (.iload_n 2, 1) := by decide +kernel
theorem dX8_base_10 : decode cX8_base 10 = .ok (.iconst 0, 1) := by decide +kernel
theorem dX8_base_11 : decode cX8_base 11 = .ok (.sipush 500, 3) := by decide +kernel
theorem dX8_base_14 : decode cX8_base 14 = .ok (.invokestatic 74, 3) := by decide +kernel
theorem dX8_base_17 : decode cX8_base 17 = .ok (.ifCond .ne 5, 3) := by decide +kernel
theorem dX8_base_20 : decode cX8_base 20 = .ok (.iconst (-1), 1) := by decide +kernel
theorem dX8_base_21 : decode cX8_base 21 = .ok (.ireturn, 1) := by decide +kernel
theorem dX8_base_22 : decode cX8_base 22 = .ok (.aload_n 0, 1) := by decide +kernel
theorem dX8_base_23 : decode cX8_base 23 = .ok (.getfield 42, 3) := by decide +kernel
theorem dX8_base_26 : decode cX8_base 26 = .ok (.iload_n 1, 1) := by decide +kernel
theorem dX8_base_27 : decode cX8_base 27 = .ok (.iload_n 2, 1) := by decide +kernel
theorem dX8_base_28 : decode cX8_base 28 = .ok (.invokevirtual 237, 3) := by decide +kernel
theorem dX8_base_31 : decode cX8_base 31 = .ok (.ireturn, 1) := by decide +kernel
theorem dX8_sue_0 : decode cX8_sue 0 = .ok (.aload_n 0, 1) := by decide +kernel
theorem dX8_sue_1 : decode cX8_sue 1 = .ok (.iload_n 2, 1) := by decide +kernel
theorem dX8_sue_2 : decode cX8_sue 2 = .ok (.iload_n 1, 1) := by decide +kernel
theorem dX8_sue_3 : decode cX8_sue 3 = .ok (.iload_n 3, 1) := by decide +kernel
theorem dX8_sue_4 : decode cX8_sue 4 = .ok (.invokevirtual 144, 3) := by decide +kernel
theorem dX8_sue_7 : decode cX8_sue 7 = .ok (.ifCond .eq 13, 3) := by decide +kernel
theorem dX8_sue_10 : decode cX8_sue 10 = .ok (.iload 4, 2) := by decide +kernel
theorem dX8_sue_12 : decode cX8_sue 12 = .ok (.iconst 0, 1) := by decide +kernel
theorem dX8_sue_13 : decode cX8_sue 13 = .ok (.iconst 5, 1) := by decide +kernel
theorem dX8_sue_14 : decode cX8_sue 14 = .ok (.invokestatic 74, 3) := by decide +kernel
theorem dX8_sue_17 : decode cX8_sue 17 = .ok (.ifCond .ne 5, 3) := by decide +kernel
theorem dX8_sue_20 : decode cX8_sue 20 = .ok (.iconst (-1), 1) := by decide +kernel
theorem dX8_sue_21 : decode cX8_sue 21 = .ok (.ireturn, 1) := by decide +kernel
theorem dX8_sue_22 : decode cX8_sue 22 = .ok (.aload_n 0, 1) := by decide +kernel
theorem dX8_sue_23 : decode cX8_sue 23 = .ok (.getfield 42, 3) := by decide +kernel
theorem dX8_sue_26 : decode cX8_sue 26 = .ok (.aload_n 0, 1) := by decide +kernel
theorem dX8_sue_27 : decode cX8_sue 27 = .ok (.getfield 10, 3) := by decide +kernel
theorem dX8_sue_30 : decode cX8_sue 30 = .ok (.getfield 240, 3) := by decide +kernel
theorem dX8_sue_33 : decode cX8_sue 33 = .ok (.iload_n 1, 1) := by decide +kernel
theorem dX8_sue_34 : decode cX8_sue 34 = .ok (.iaload, 1) := by decide +kernel
theorem dX8_sue_35 : decode cX8_sue 35 = .ok (.invokevirtual 243, 3) := by decide +kernel
theorem dX8_sue_38 : decode cX8_sue 38 = .ok (.istore 5, 2) := by decide +kernel
theorem dX8_sue_40 : decode cX8_sue 40 = .ok (.iload 5, 2) := by decide +kernel
theorem dX8_sue_42 : decode cX8_sue 42 = .ok (.bipush (-9), 2) := by decide +kernel
theorem dX8_sue_44 : decode cX8_sue 44 = .ok (.if_icmp .eq 26, 3) := by decide +kernel
theorem dX8_sue_47 : decode cX8_sue 47 = .ok (.aload_n 0, 1) := by decide +kernel
theorem dX8_sue_48 : decode cX8_sue 48 = .ok (.iload_n 2, 1) := by decide +kernel
theorem dX8_sue_49 : decode cX8_sue 49 = .ok (.iload_n 3, 1) := by decide +kernel
theorem dX8_sue_50 : decode cX8_sue 50 = .ok (.iload 4, 2) := by decide +kernel
theorem dX8_sue_52 : decode cX8_sue 52 = .ok (.invokevirtual 199, 3) := by decide +kernel
theorem dX8_sue_55 : decode cX8_sue 55 = .ok (.iconst 2, 1) := by decide +kernel
theorem dX8_sue_56 : decode cX8_sue 56 = .ok (.if_icmp .ne 14, 3) := by decide +kernel
theorem dX8_sue_59 : decode cX8_sue 59 = .ok (.aload_n 0, 1) := by decide +kernel
theorem dX8_sue_60 : decode cX8_sue 60 = .ok (.getfield 28, 3) := by decide +kernel
theorem dX8_sue_63 : decode cX8_sue 63 = .ok (.iload_n 1, 1) := by decide +kernel
theorem dX8_sue_64 : decode cX8_sue 64 = .ok (.invokevirtual 246, 3) := by decide +kernel
theorem dX8_sue_67 : decode cX8_sue 67 = .ok (.ifCond .ne 6, 3) := by decide +kernel
theorem dX8_sue_70 : decode cX8_sue 70 = .ok (.bipush (-2), 2) := by decide +kernel
theorem dX8_sue_72 : decode cX8_sue 72 = .ok (.ireturn, 1) := by decide +kernel
theorem dX8_sue_73 : decode cX8_sue 73 = .ok (.aload_n 0, 1) := by decide +kernel
theorem dX8_sue_74 : decode cX8_sue 74 = .ok (.getfield 42, 3) := by decide +kernel
theorem dX8_sue_77 : decode cX8_sue 77 = .ok (.iload_n 1, 1) := by decide +kernel
theorem dX8_sue_78 : decode cX8_sue 78 = .ok (.iload_n 2, 1) := by decide +kernel
theorem dX8_sue_79 : decode cX8_sue 79 = .ok (.iload 4, 2) := by decide +kernel
theorem dX8_sue_81 : decode cX8_sue 81 = .ok (.iload 5, 2) := by decide +kernel
theorem dX8_sue_83 : decode cX8_sue 83 = .ok (.invokevirtual 249, 3) := by decide +kernel
theorem dX8_sue_86 : decode cX8_sue 86 = .ok (.ireturn, 1) := by decide +kernel
theorem dX8_suit_0 : decode cX8_suit 0 = .ok (.aload_n 0, 1) := by decide +kernel
theorem dX8_suit_1 : decode cX8_suit 1 = .ok (.getfield 42, 3) := by decide +kernel
theorem dX8_suit_4 : decode cX8_suit 4 = .ok (.iload_n 1, 1) := by decide +kernel
theorem dX8_suit_5 : decode cX8_suit 5 = .ok (.invokevirtual 252, 3) := by decide +kernel
theorem dX8_suit_8 : decode cX8_suit 8 = .ok (.ifCond .ne 5, 3) := by decide +kernel
theorem dX8_suit_11 : decode cX8_suit 11 = .ok (.iconst (-1), 1) := by decide +kernel
theorem dX8_suit_12 : decode cX8_suit 12 = .ok (.ireturn, 1) := by decide +kernel
theorem dX8_suit_13 : decode cX8_suit 13 = .ok (.iload_n 2, 1) := by decide +kernel
theorem dX8_suit_14 : decode cX8_suit 14 = .ok (.tableswitch 91 0 4 #[34, 44, 53, 71, 81], 34) := by decide +kernel
theorem dX8_suit_48 : decode cX8_suit 48 = .ok (.aload_n 0, 1) := by decide +kernel
theorem dX8_suit_49 : decode cX8_suit 49 = .ok (.getfield 42, 3) := by decide +kernel
theorem dX8_suit_52 : decode cX8_suit 52 = .ok (.getfield 253, 3) := by decide +kernel
theorem dX8_suit_55 : decode cX8_suit 55 = .ok (.iload_n 1, 1) := by decide +kernel
theorem dX8_suit_56 : decode cX8_suit 56 = .ok (.iaload, 1) := by decide +kernel
theorem dX8_suit_57 : decode cX8_suit 57 = .ok (.ireturn, 1) := by decide +kernel
theorem dX8_suit_58 : decode cX8_suit 58 = .ok (.aload_n 0, 1) := by decide +kernel
theorem dX8_suit_59 : decode cX8_suit 59 = .ok (.getfield 42, 3) := by decide +kernel
theorem dX8_suit_62 : decode cX8_suit 62 = .ok (.iload_n 1, 1) := by decide +kernel
theorem dX8_suit_63 : decode cX8_suit 63 = .ok (.invokevirtual 256, 3) := by decide +kernel
theorem dX8_suit_66 : decode cX8_suit 66 = .ok (.ireturn, 1) := by decide +kernel
theorem dX8_suit_67 : decode cX8_suit 67 = .ok (.aload_n 0, 1) := by decide +kernel
theorem dX8_suit_68 : decode cX8_suit 68 = .ok (.getfield 42, 3) := by decide +kernel
theorem dX8_suit_71 : decode cX8_suit 71 = .ok (.getfield 259, 3) := by decide +kernel
theorem dX8_suit_74 : decode cX8_suit 74 = .ok (.iload_n 1, 1) := by decide +kernel
theorem dX8_suit_75 : decode cX8_suit 75 = .ok (.baload, 1) := by decide +kernel
theorem dX8_suit_76 : decode cX8_suit 76 = .ok (.ifCond .eq 7, 3) := by decide +kernel
