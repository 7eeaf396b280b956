theorem dX9_line_113 : decode cX9_line 113 = .ok (.iload 4, 2) := by decide +kernel
theorem dX9_line_115 : decode cX9_line 115 = .ok (.iastore, 1) := by decide +kernel
theorem dX9_line_116 : decode cX9_line 116 = .ok (.aload_n 0, 1) := by decide +kernel
theorem dX9_line_117 : decode cX9_line 117 = .ok (.getfield 65, 3) := by decide +kernel
theorem dX9_line_120 : decode cX9_line 120 = .ok (.aload_n 0, 1) := by decide +kernel
theorem dX9_line_121 : decode cX9_line 121 = .ok (.getfield 275, 3) := by decide +kernel
theorem dX9_line_124 : decode cX9_line 124 = .ok (.iload 5, 2) := by decide +kernel
theorem dX9_line_126 : decode cX9_line 126 = .ok (.iastore, 1) := by decide +kernel
theorem dX9_line_127 : decode cX9_line 127 = .ok (.aload_n 0, 1) := by decide +kernel
theorem dX9_line_128 : decode cX9_line 128 = .ok (.dup, 1) := by decide +kernel
theorem dX9_line_129 : decode cX9_line 129 = .ok (.getfield 275, 3) := by decide +kernel
theorem dX9_line_132 : decode cX9_line 132 = .ok (.iconst 1, 1) := by decide +kernel
theorem dX9_line_133 : decode cX9_line 133 = .ok (.iadd, 1) := by decide +kernel
theorem dX9_line_134 : decode cX9_line 134 = .ok (.putfield 275, 3) := by decide +kernel
theorem dX9_line_137 : decode cX9_line 137 = .ok (.aload_n 0, 1) := by decide +kernel
theorem dX9_line_138 : decode cX9_line 138 = .ok (.getfield 275, 3) := by decide +kernel
theorem dX9_line_141 : decode cX9_line 141 = .ok (.ireturn, 1) := by decide +kernel
theorem dX9_check_0 : decode cX9_check 0 = .ok (.aload_n 0, 1) := by decide +kernel
theorem dX9_check_1 : decode cX9_check 1 = .ok (.iconst 0, 1) := by decide +kernel
theorem dX9_check_2 : decode cX9_check 2 = .ok (.putfield 124, 3) := by decide +kernel
theorem dX9_check_5 : decode cX9_check 5 = .ok (.aload_n 0, 1) := by decide +kernel
theorem dX9_check_6 : decode cX9_check 6 = .ok (.iload_n 1, 1) := by decide +kernel
theorem dX9_check_7 : decode cX9_check 7 = .ok (.invokevirtual 262, 3) := by decide +kernel
theorem dX9_check_10 : decode cX9_check 10 = .ok (.ifCond .eq 25, 3) := by decide +kernel
theorem dX9_check_13 : decode cX9_check 13 = .ok (.iload_n 2, 1) := by decide +kernel
theorem dX9_check_14 : decode cX9_check 14 = .ok (.iconst 0, 1) := by decide +kernel
theorem dX9_check_15 : decode cX9_check 15 = .ok (.sipush 1439, 3) := by decide +kernel
theorem dX9_check_18 : decode cX9_check 18 = .ok (.invokestatic 137, 3) := by decide +kernel
theorem dX9_check_21 : decode cX9_check 21 = .ok (.ifCond .eq 14, 3) := by decide +kernel
theorem dX9_check_24 : decode cX9_check 24 = .ok (.iload_n 3, 1) := by decide +kernel
theorem dX9_check_25 : decode cX9_check 25 = .ok (.bipush (-90), 2) := by decide +kernel
theorem dX9_check_27 : decode cX9_check 27 = .ok (.bipush 90, 2) := by decide +kernel
theorem dX9_check_29 : decode cX9_check 29 = .ok (.invokestatic 137, 3) := by decide +kernel
theorem dX9_check_32 : decode cX9_check 32 = .ok (.ifCond .ne 5, 3) := by decide +kernel
theorem dX9_check_35 : decode cX9_check 35 = .ok (.iconst (-1), 1) := by decide +kernel
theorem dX9_check_36 : decode cX9_check 36 = .ok (.ireturn, 1) := by decide +kernel
theorem dX9_check_37 : decode cX9_check 37 = .ok (.aload_n 0, 1) := by decide +kernel
theorem dX9_check_38 : decode cX9_check 38 = .ok (.getfield 68, 3) := by decide +kernel
theorem dX9_check_41 : decode cX9_check 41 = .ok (.iload_n 1, 1) := by decide +kernel
theorem dX9_check_42 : decode cX9_check 42 = .ok (.iaload, 1) := by decide +kernel
theorem dX9_check_43 : decode cX9_check 43 = .ok (.iconst 4, 1) := by decide +kernel
theorem dX9_check_44 : decode cX9_check 44 = .ok (.if_icmp .ne 6, 3) := by decide +kernel
theorem dX9_check_47 : decode cX9_check 47 = .ok (.bipush (-3), 2) := by decide +kernel
theorem dX9_check_49 : decode cX9_check 49 = .ok (.ireturn, 1) := by decide +kernel
theorem dX9_check_50 : decode cX9_check 50 = .ok (.aload_n 0, 1) := by decide +kernel
theorem dX9_check_51 : decode cX9_check 51 = .ok (.getfield 71, 3) := by decide +kernel
theorem dX9_check_54 : decode cX9_check 54 = .ok (.iconst 4, 1) := by decide +kernel
theorem dX9_check_55 : decode cX9_check 55 = .ok (.iload_n 1, 1) := by decide +kernel
theorem dX9_check_56 : decode cX9_check 56 = .ok (.imul, 1) := by decide +kernel
theorem dX9_check_57 : decode cX9_check 57 = .ok (.aload_n 0, 1) := by decide +kernel
theorem dX9_check_58 : decode cX9_check 58 = .ok (.getfield 68, 3) := by decide +kernel
theorem dX9_check_61 : decode cX9_check 61 = .ok (.iload_n 1, 1) := by decide +kernel
theorem dX9_check_62 : decode cX9_check 62 = .ok (.iaload, 1) := by decide +kernel
theorem dX9_check_63 : decode cX9_check 63 = .ok (.iadd, 1) := by decide +kernel
theorem dX9_check_64 : decode cX9_check 64 = .ok (.iload_n 2, 1) := by decide +kernel
theorem dX9_check_65 : decode cX9_check 65 = .ok (.iastore, 1) := by decide +kernel
theorem dX9_check_66 : decode cX9_check 66 = .ok (.aload_n 0, 1) := by decide +kernel
theorem dX9_check_67 : decode cX9_check 67 = .ok (.getfield 74, 3) := by decide +kernel
theorem dX9_check_70 : decode cX9_check 70 = .ok (.iconst 4, 1) := by decide +kernel
theorem dX9_check_71 : decode cX9_check 71 = .ok (.iload_n 1, 1) := by decide +kernel
theorem dX9_check_72 : decode cX9_check 72 = .ok (.imul, 1) := by decide +kernel
theorem dX9_check_73 : decode cX9_check 73 = .ok (.aload_n 0, 1) := by decide +kernel
theorem dX9_check_74 : decode cX9_check 74 = .ok (.getfield 68, 3) := by decide +kernel
theorem dX9_check_77 : decode cX9_check 77 = .ok (.iload_n 1, 1) := by decide +kernel
theorem dX9_check_78 : decode cX9_check 78 = .ok (.iaload, 1) := by decide +kernel
theorem dX9_check_79 : decode cX9_check 79 = .ok (.iadd, 1) := by decide +kernel
theorem dX9_check_80 : decode cX9_check 80 = .ok (.iload_n 3, 1) := by decide +kernel
theorem dX9_check_81 : decode cX9_check 81 = .ok (.iastore, 1) := by decide +kernel
theorem dX9_check_82 : decode cX9_check 82 = .ok (.aload_n 0, 1) := by decide +kernel
theorem dX9_check_83 : decode cX9_check 83 = .ok (.getfield 68, 3) := by decide +kernel
theorem dX9_check_86 : decode cX9_check 86 = .ok (.iload_n 1, 1) := by decide +kernel
theorem dX9_check_87 : decode cX9_check 87 = .ok (.dup2, 1) := by decide +kernel
theorem dX9_check_88 : decode cX9_check 88 = .ok (.iaload, 1) := by decide +kernel
theorem dX9_check_89 : decode cX9_check 89 = .ok (.iconst 1, 1) := by decide +kernel
theorem dX9_check_90 : decode cX9_check 90 = .ok (.iadd, 1) := by decide +kernel
theorem dX9_check_91 : decode cX9_check 91 = .ok (.iastore, 1) := by decide +kernel
theorem dX9_check_92 : decode cX9_check 92 = .ok (.aload_n 0, 1) := by decide +kernel
theorem dX9_check_93 : decode cX9_check 93 = .ok (.getfield 68, 3) := by decide +kernel
theorem dX9_check_96 : decode cX9_check 96 = .ok (.iload_n 1, 1) := by decide +kernel
theorem dX9_check_97 : decode cX9_check 97 = .ok (.iaload, 1) := by decide +kernel
theorem dX9_check_98 : decode cX9_check 98 = .ok (.ireturn, 1) := by decide +kernel
theorem dX9_truthOf_0 : decode cX9_truthOf 0 = .ok (.iload_n 1, 1) := by decide +kernel
theorem dX9_truthOf_1 : decode cX9_truthOf 1 = .ok (.bipush (-9), 2) := by decide +kernel
theorem dX9_truthOf_3 : decode cX9_truthOf 3 = .ok (.if_icmp .ne 5, 3) := by decide +kernel
theorem dX9_truthOf_6 : decode cX9_truthOf 6 = .ok (.iload_n 2, 1) := by decide +kernel
theorem dX9_truthOf_7 : decode cX9_truthOf 7 = .ok (.ireturn, 1) := by decide +kernel
theorem dX9_truthOf_8 : decode cX9_truthOf 8 = .ok (.bipush (-9), 2) := by decide +kernel
theorem dX9_truthOf_10 : decode cX9_truthOf 10 = .ok (.istore 4, 2) := by decide +kernel
theorem dX9_truthOf_12 : decode cX9_truthOf 12 = .ok (.bipush (-9), 2) := by decide +kernel
theorem dX9_truthOf_14 : decode cX9_truthOf 14 = .ok (.istore 5, 2) := by decide +kernel
theorem dX9_truthOf_16 : decode cX9_truthOf 16 = .ok (.iconst 0, 1) := by decide +kernel
theorem dX9_truthOf_17 : decode cX9_truthOf 17 = .ok (.istore 6, 2) := by decide +kernel
theorem dX9_truthOf_19 : decode cX9_truthOf 19 = .ok (.iload 6, 2) := by decide +kernel
theorem dX9_truthOf_21 : decode cX9_truthOf 21 = .ok (.aload_n 0, 1) := by decide +kernel
theorem dX9_truthOf_22 : decode cX9_truthOf 22 = .ok (.getfield 68, 3) := by decide +kernel
theorem dX9_truthOf_25 : decode cX9_truthOf 25 = .ok (.iload_n 1, 1) := by decide +kernel
theorem dX9_truthOf_26 : decode cX9_truthOf 26 = .ok (.iaload, 1) := by decide +kernel
theorem dX9_truthOf_27 : decode cX9_truthOf 27 = .ok (.if_icmp .ge 105, 3) := by decide +kernel
theorem dX9_truthOf_30 : decode cX9_truthOf 30 = .ok (.iconst 4, 1) := by decide +kernel
theorem dX9_truthOf_31 : decode cX9_truthOf 31 = .ok (.iload_n 1, 1) := by decide +kernel
theorem dX9_truthOf_32 : decode cX9_truthOf 32 = .ok (.imul, 1) := by decide +kernel
theorem dX9_truthOf_33 : decode cX9_truthOf 33 = .ok (.iload 6, 2) := by decide +kernel
theorem dX9_truthOf_35 : decode cX9_truthOf 35 = .ok (.iadd, 1) := by decide +kernel
theorem dX9_truthOf_36 : decode cX9_truthOf 36 = .ok (.istore 7, 2) := by decide +kernel
theorem dX9_truthOf_38 : decode cX9_truthOf 38 = .ok (.aload_n 0, 1) := by decide +kernel
theorem dX9_truthOf_39 : decode cX9_truthOf 39 = .ok (.getfield 71, 3) := by decide +kernel
theorem dX9_truthOf_42 : decode cX9_truthOf 42 = .ok (.iload 7, 2) := by decide +kernel
theorem dX9_truthOf_44 : decode cX9_truthOf 44 = .ok (.iaload, 1) := by decide +kernel
theorem dX9_truthOf_45 : decode cX9_truthOf 45 = .ok (.iload_n 2, 1) := by decide +kernel
theorem dX9_truthOf_46 : decode cX9_truthOf 46 = .ok (.if_icmp .gt 32, 3) := by decide +kernel
theorem dX9_truthOf_49 : decode cX9_truthOf 49 = .ok (.iload 4, 2) := by decide +kernel
theorem dX9_truthOf_51 : decode cX9_truthOf 51 = .ok (.bipush (-9), 2) := by decide +kernel
theorem dX9_truthOf_53 : decode cX9_truthOf 53 = .ok (.if_icmp .eq 20, 3) := by decide +kernel
theorem dX9_truthOf_56 : decode cX9_truthOf 56 = .ok (.aload_n 0, 1) := by decide +kernel
theorem dX9_truthOf_57 : decode cX9_truthOf 57 = .ok (.getfield 71, 3) := by decide +kernel
theorem dX9_truthOf_60 : decode cX9_truthOf 60 = .ok (.iload 7, 2) := by decide +kernel
theorem dX9_truthOf_62 : decode cX9_truthOf 62 = .ok (.iaload, 1) := by decide +kernel
theorem dX9_truthOf_63 : decode cX9_truthOf 63 = .ok (.aload_n 0, 1) := by decide +kernel
theorem dX9_truthOf_64 : decode cX9_truthOf 64 = .ok (.getfield 71, 3) := by decide +kernel
theorem dX9_truthOf_67 : decode cX9_truthOf 67 = .ok (.iload 4, 2) := by decide +kernel
theorem dX9_truthOf_69 : decode cX9_truthOf 69 = .ok (.iaload, 1) := by decide +kernel
theorem dX9_truthOf_70 : decode cX9_truthOf 70 = .ok (.if_icmp .lt 8, 3) := by decide +kernel
theorem dX9_truthOf_73 : decode cX9_truthOf 73 = .ok (.iload 7, 2) := by decide +kernel
theorem dX9_truthOf_75 : decode cX9_truthOf 75 = .ok (.goto 5, 3) := by decide +kernel
theorem dX9_truthOf_78 : decode cX9_truthOf 78 = .ok (.iload 4, 2) := by decide +kernel
theorem dX9_truthOf_80 : decode cX9_truthOf 80 = .ok (.istore 4, 2) := by decide +kernel
theorem dX9_truthOf_82 : decode cX9_truthOf 82 = .ok (.aload_n 0, 1) := by decide +kernel
theorem dX9_truthOf_83 : decode cX9_truthOf 83 = .ok (.getfield 71, 3) := by decide +kernel
theorem dX9_truthOf_86 : decode cX9_truthOf 86 = .ok (.iload 7, 2) := by decide +kernel
theorem dX9_truthOf_88 : decode cX9_truthOf 88 = .ok (.iaload, 1) := by decide +kernel
theorem dX9_truthOf_89 : decode cX9_truthOf 89 = .ok (.iload_n 2, 1) := by decide +kernel
theorem dX9_truthOf_90 : decode cX9_truthOf 90 = .ok (.if_icmp .lt 32, 3) := by decide +kernel
theorem dX9_truthOf_93 : decode cX9_truthOf 93 = .ok (.iload 5, 2) := by decide +kernel
theorem dX9_truthOf_95 : decode cX9_truthOf 95 = .ok (.bipush (-9), 2) := by decide +kernel
theorem dX9_truthOf_97 : decode cX9_truthOf 97 = .ok (.if_icmp .eq 20, 3) := by decide +kernel
theorem dX9_truthOf_100 : decode cX9_truthOf 100 = .ok (.aload_n 0, 1) := by decide +kernel
theorem dX9_truthOf_101 : decode cX9_truthOf 101 = .ok (.getfield 71, 3) := by decide +kernel
theorem dX9_truthOf_104 : decode cX9_truthOf 104 = .ok (.iload 7, 2) := by decide +kernel
theorem dX9_truthOf_106 : decode cX9_truthOf 106 = .ok (.iaload, 1) := by decide +kernel
theorem dX9_truthOf_107 : decode cX9_truthOf 107 = .ok (.aload_n 0, 1) := by decide +kernel
theorem dX9_truthOf_108 : decode cX9_truthOf 108 = .ok (.getfield 71, 3) := by decide +kernel
theorem dX9_truthOf_111 : decode cX9_truthOf 111 = .ok (.iload 5, 2) := by decide +kernel
theorem dX9_truthOf_113 : decode cX9_truthOf 113 = .ok (.iaload, 1) := by decide +kernel
theorem dX9_truthOf_114 : decode cX9_truthOf 114 = .ok (.if_icmp .gt 8, 3) := by decide +kernel
theorem dX9_truthOf_117 : decode cX9_truthOf 117 = .ok (.iload 7, 2) := by decide +kernel
theorem dX9_truthOf_119 : decode cX9_truthOf 119 = .ok (.goto 5, 3) := by decide +kernel
theorem dX9_truthOf_122 : decode cX9_truthOf 122 = .ok (.iload 5, 2) := by decide +kernel
theorem dX9_truthOf_124 : decode cX9_truthOf 124 = .ok (.istore 5, 2) := by decide +kernel
theorem dX9_truthOf_126 : decode cX9_truthOf 126 = .ok (.iinc 6 1, 3) := by decide +kernel
theorem dX9_truthOf_129 : decode cX9_truthOf 129 = .ok (.goto (-110), 3) := by decide +kernel
theorem dX9_truthOf_132 : decode cX9_truthOf 132 = .ok (.iload 4, 2) := by decide +kernel
theorem dX9_truthOf_134 : decode cX9_truthOf 134 = .ok (.bipush (-9), 2) := by decide +kernel
theorem dX9_truthOf_136 : decode cX9_truthOf 136 = .ok (.if_icmp .ne 12, 3) := by decide +kernel
theorem dX9_truthOf_139 : decode cX9_truthOf 139 = .ok (.iload 5, 2) := by decide +kernel
theorem dX9_truthOf_141 : decode cX9_truthOf 141 = .ok (.bipush (-9), 2) := by decide +kernel
theorem dX9_truthOf_143 : decode cX9_truthOf 143 = .ok (.if_icmp .ne 5, 3) := by decide +kernel
theorem dX9_truthOf_146 : decode cX9_truthOf 146 = .ok (.iload_n 2, 1) := by decide +kernel
theorem dX9_truthOf_147 : decode cX9_truthOf 147 = .ok (.ireturn, 1) := by decide +kernel
theorem dX9_truthOf_148 : decode cX9_truthOf 148 = .ok (.iload 4, 2) := by decide +kernel
theorem dX9_truthOf_150 : decode cX9_truthOf 150 = .ok (.bipush (-9), 2) := by decide +kernel
theorem dX9_truthOf_152 : decode cX9_truthOf 152 = .ok (.if_icmp .eq 10, 3) := by decide +kernel
theorem dX9_truthOf_155 : decode cX9_truthOf 155 = .ok (.iload 5, 2) := by decide +kernel
theorem dX9_truthOf_157 : decode cX9_truthOf 157 = .ok (.bipush (-9), 2) := by decide +kernel
theorem dX9_truthOf_159 : decode cX9_truthOf 159 = .ok (.if_icmp .ne 37, 3) := by decide +kernel
theorem dX9_truthOf_162 : decode cX9_truthOf 162 = .ok (.iload_n 2, 1) := by decide +kernel
theorem dX9_truthOf_163 : decode cX9_truthOf 163 = .ok (.aload_n 0, 1) := by decide +kernel
theorem dX9_truthOf_164 : decode cX9_truthOf 164 = .ok (.getfield 74, 3) := by decide +kernel
theorem dX9_truthOf_167 : decode cX9_truthOf 167 = .ok (.iload 4, 2) := by decide +kernel
theorem dX9_truthOf_169 : decode cX9_truthOf 169 = .ok (.bipush (-9), 2) := by decide +kernel
theorem dX9_truthOf_171 : decode cX9_truthOf 171 = .ok (.if_icmp .ne 8, 3) := by decide +kernel
theorem dX9_truthOf_174 : decode cX9_truthOf 174 = .ok (.iload 5, 2) := by decide +kernel
theorem dX9_truthOf_176 : decode cX9_truthOf 176 = .ok (.goto 5, 3) := by decide +kernel
theorem dX9_truthOf_179 : decode cX9_truthOf 179 = .ok (.iload 4, 2) := by decide +kernel
theorem dX9_truthOf_181 : decode cX9_truthOf 181 = .ok (.iaload, 1) := by decide +kernel
theorem dX9_truthOf_182 : decode cX9_truthOf 182 = .ok (.iadd, 1) := by decide +kernel
theorem dX9_truthOf_183 : decode cX9_truthOf 183 = .ok (.iload_n 3, 1) := by decide +kernel
theorem dX9_truthOf_184 : decode cX9_truthOf 184 = .ok (.ifCond .ne 8, 3) := by decide +kernel
theorem dX9_truthOf_187 : decode cX9_truthOf 187 = .ok (.bipush (-10), 2) := by decide +kernel
theorem dX9_truthOf_189 : decode cX9_truthOf 189 = .ok (.goto 5, 3) := by decide +kernel
theorem dX9_truthOf_192 : decode cX9_truthOf 192 = .ok (.bipush 10, 2) := by decide +kernel
theorem dX9_truthOf_194 : decode cX9_truthOf 194 = .ok (.iadd, 1) := by decide +kernel
theorem dX9_truthOf_195 : decode cX9_truthOf 195 = .ok (.ireturn, 1) := by decide +kernel
theorem dX9_truthOf_196 : decode cX9_truthOf 196 = .ok (.aload_n 0, 1) := by decide +kernel
theorem dX9_truthOf_197 : decode cX9_truthOf 197 = .ok (.getfield 74, 3) := by decide +kernel
theorem dX9_truthOf_200 : decode cX9_truthOf 200 = .ok (.iload 4, 2) := by decide +kernel
theorem dX9_truthOf_202 : decode cX9_truthOf 202 = .ok (.iaload, 1) := by decide +kernel
theorem dX9_truthOf_203 : decode cX9_truthOf 203 = .ok (.istore 6, 2) := by decide +kernel
theorem dX9_truthOf_205 : decode cX9_truthOf 205 = .ok (.aload_n 0, 1) := by decide +kernel
theorem dX9_truthOf_206 : decode cX9_truthOf 206 = .ok (.getfield 74, 3) := by decide +kernel
theorem dX9_truthOf_209 : decode cX9_truthOf 209 = .ok (.iload 5, 2) := by decide +kernel
theorem dX9_truthOf_211 : decode cX9_truthOf 211 = .ok (.iaload, 1) := by decide +kernel
theorem dX9_truthOf_212 : decode cX9_truthOf 212 = .ok (.istore 7, 2) := by decide +kernel
theorem dX9_truthOf_214 : decode cX9_truthOf 214 = .ok (.iload_n 2, 1) := by decide +kernel
theorem dX9_truthOf_215 : decode cX9_truthOf 215 = .ok (.iload_n 3, 1) := by decide +kernel
theorem dX9_truthOf_216 : decode cX9_truthOf 216 = .ok (.ifCond .ne 20, 3) := by decide +kernel
theorem dX9_truthOf_219 : decode cX9_truthOf 219 = .ok (.iload 6, 2) := by decide +kernel
theorem dX9_truthOf_221 : decode cX9_truthOf 221 = .ok (.iload 7, 2) := by decide +kernel
theorem dX9_truthOf_223 : decode cX9_truthOf 223 = .ok (.if_icmp .ge 8, 3) := by decide +kernel
theorem dX9_truthOf_226 : decode cX9_truthOf 226 = .ok (.iload 6, 2) := by decide +kernel
theorem dX9_truthOf_228 : decode cX9_truthOf 228 = .ok (.goto 22, 3) := by decide +kernel
theorem dX9_truthOf_231 : decode cX9_truthOf 231 = .ok (.iload 7, 2) := by decide +kernel
theorem dX9_truthOf_233 : decode cX9_truthOf 233 = .ok (.goto 17, 3) := by decide +kernel
theorem dX9_truthOf_236 : decode cX9_truthOf 236 = .ok (.iload 6, 2) := by decide +kernel
theorem dX9_truthOf_238 : decode cX9_truthOf 238 = .ok (.iload 7, 2) := by decide +kernel
theorem dX9_truthOf_240 : decode cX9_truthOf 240 = .ok (.if_icmp .le 8, 3) := by decide +kernel
theorem dX9_truthOf_243 : decode cX9_truthOf 243 = .ok (.iload 6, 2) := by decide +kernel
theorem dX9_truthOf_245 : decode cX9_truthOf 245 = .ok (.goto 5, 3) := by decide +kernel
theorem dX9_truthOf_248 : decode cX9_truthOf 248 = .ok (.iload 7, 2) := by decide +kernel
theorem dX9_truthOf_250 : decode cX9_truthOf 250 = .ok (.iadd, 1) := by decide +kernel
theorem dX9_truthOf_251 : decode cX9_truthOf 251 = .ok (.ireturn, 1) := by decide +kernel
theorem dX9_truth_0 : decode cX9_truth 0 = .ok (.aload_n 0, 1) := by decide +kernel
theorem dX9_truth_1 : decode cX9_truth 1 = .ok (.iconst 0, 1) := by decide +kernel
theorem dX9_truth_2 : decode cX9_truth 2 = .ok (.putfield 124, 3) := by decide +kernel
theorem dX9_truth_5 : decode cX9_truth 5 = .ok (.aload_n 0, 1) := by decide +kernel
theorem dX9_truth_6 : decode cX9_truth 6 = .ok (.iload_n 1, 1) := by decide +kernel
theorem dX9_truth_7 : decode cX9_truth 7 = .ok (.invokevirtual 262, 3) := by decide +kernel
theorem dX9_truth_10 : decode cX9_truth 10 = .ok (.ifCond .eq 33, 3) := by decide +kernel
theorem dX9_truth_13 : decode cX9_truth 13 = .ok (.iload_n 2, 1) := by decide +kernel
theorem dX9_truth_14 : decode cX9_truth 14 = .ok (.iconst 0, 1) := by decide +kernel
theorem dX9_truth_15 : decode cX9_truth 15 = .ok (.sipush 1440, 3) := by decide +kernel
theorem dX9_truth_18 : decode cX9_truth 18 = .ok (.invokestatic 137, 3) := by decide +kernel
theorem dX9_truth_21 : decode cX9_truth 21 = .ok (.ifCond .eq 22, 3) := by decide +kernel
theorem dX9_truth_24 : decode cX9_truth 24 = .ok (.iload_n 3, 1) := by decide +kernel
theorem dX9_truth_25 : decode cX9_truth 25 = .ok (.iconst 0, 1) := by decide +kernel
theorem dX9_truth_26 : decode cX9_truth 26 = .ok (.iconst 1, 1) := by decide +kernel
theorem dX9_truth_27 : decode cX9_truth 27 = .ok (.invokestatic 137, 3) := by decide +kernel
theorem dX9_truth_30 : decode cX9_truth 30 = .ok (.ifCond .eq 13, 3) := by decide +kernel
theorem dX9_truth_33 : decode cX9_truth 33 = .ok (.aload_n 0, 1) := by decide +kernel
theorem dX9_truth_34 : decode cX9_truth 34 = .ok (.iload_n 1, 1) := by decide +kernel
theorem dX9_truth_35 : decode cX9_truth 35 = .ok (.iload_n 2, 1) := by decide +kernel
theorem dX9_truth_36 : decode cX9_truth 36 = .ok (.iload_n 3, 1) := by decide +kernel
theorem dX9_truth_37 : decode cX9_truth 37 = .ok (.invokevirtual 278, 3) := by decide +kernel
theorem dX9_truth_40 : decode cX9_truth 40 = .ok (.goto 6, 3) := by decide +kernel
theorem dX9_truth_43 : decode cX9_truth 43 = .ok (.sipush (-999), 3) := by decide +kernel
theorem dX9_truth_46 : decode cX9_truth 46 = .ok (.ireturn, 1) := by decide +kernel
theorem dX9_inOf_0 : decode cX9_inOf 0 = .ok (.aload_n 0, 1) := by decide +kernel
theorem dX9_inOf_1 : decode cX9_inOf 1 = .ok (.aload_n 0, 1) := by decide +kernel
theorem dX9_inOf_2 : decode cX9_inOf 2 = .ok (.getfield 59, 3) := by decide +kernel
theorem dX9_inOf_5 : decode cX9_inOf 5 = .ok (.iload_n 1, 1) := by decide +kernel
theorem dX9_inOf_6 : decode cX9_inOf 6 = .ok (.iaload, 1) := by decide +kernel
theorem dX9_inOf_7 : decode cX9_inOf 7 = .ok (.aload_n 0, 1) := by decide +kernel
theorem dX9_inOf_8 : decode cX9_inOf 8 = .ok (.getfield 62, 3) := by decide +kernel
theorem dX9_inOf_11 : decode cX9_inOf 11 = .ok (.iload_n 1, 1) := by decide +kernel
theorem dX9_inOf_12 : decode cX9_inOf 12 = .ok (.iaload, 1) := by decide +kernel
theorem dX9_inOf_13 : decode cX9_inOf 13 = .ok (.iload_n 2, 1) := by decide +kernel
theorem dX9_inOf_14 : decode cX9_inOf 14 = .ok (.invokevirtual 278, 3) := by decide +kernel
theorem dX9_inOf_17 : decode cX9_inOf 17 = .ok (.ireturn, 1) := by decide +kernel
theorem dX9_outOf_0 : decode cX9_outOf 0 = .ok (.aload_n 0, 1) := by decide +kernel
theorem dX9_outOf_1 : decode cX9_outOf 1 = .ok (.aload_n 0, 1) := by decide +kernel
theorem dX9_outOf_2 : decode cX9_outOf 2 = .ok (.getfield 59, 3) := by decide +kernel
theorem dX9_outOf_5 : decode cX9_outOf 5 = .ok (.iload_n 1, 1) := by decide +kernel
theorem dX9_outOf_6 : decode cX9_outOf 6 = .ok (.iaload, 1) := by decide +kernel
theorem dX9_outOf_7 : decode cX9_outOf 7 = .ok (.aload_n 0, 1) := by decide +kernel
theorem dX9_outOf_8 : decode cX9_outOf 8 = .ok (.getfield 65, 3) := by decide +kernel
theorem dX9_outOf_11 : decode cX9_outOf 11 = .ok (.iload_n 1, 1) := by decide +kernel
theorem dX9_outOf_12 : decode cX9_outOf 12 = .ok (.iaload, 1) := by decide +kernel
theorem dX9_outOf_13 : decode cX9_outOf 13 = .ok (.iload_n 2, 1) := by decide +kernel
theorem dX9_outOf_14 : decode cX9_outOf 14 = .ok (.invokevirtual 278, 3) := by decide +kernel
theorem dX9_outOf_17 : decode cX9_outOf 17 = .ok (.ireturn, 1) := by decide +kernel
theorem dX9_isLine_0 : decode cX9_isLine 0 = .ok (.aload_n 0, 1) := by decide +kernel
theorem dX9_isLine_1 : decode cX9_isLine 1 = .ok (.getfield 53, 3) := by decide +kernel
theorem dX9_isLine_4 : decode cX9_isLine 4 = .ok (.iload_n 1, 1) := by decide +kernel
theorem dX9_isLine_5 : decode cX9_isLine 5 = .ok (.iaload, 1) := by decide +kernel
theorem dX9_isLine_6 : decode cX9_isLine 6 = .ok (.iload_n 2, 1) := by decide +kernel
theorem dX9_isLine_7 : decode cX9_isLine 7 = .ok (.if_icmp .ne 17, 3) := by decide +kernel
theorem dX9_isLine_10 : decode cX9_isLine 10 = .ok (.aload_n 0, 1) := by decide +kernel
theorem dX9_isLine_11 : decode cX9_isLine 11 = .ok (.getfield 56, 3) := by decide +kernel
theorem dX9_isLine_14 : decode cX9_isLine 14 = .ok (.iload_n 1, 1) := by decide +kernel
theorem dX9_isLine_15 : decode cX9_isLine 15 = .ok (.iaload, 1) := by decide +kernel
theorem dX9_isLine_16 : decode cX9_isLine 16 = .ok (.iload_n 3, 1) := by decide +kernel
theorem dX9_isLine_17 : decode cX9_isLine 17 = .ok (.if_icmp .ne 7, 3) := by decide +kernel
theorem dX9_isLine_20 : decode cX9_isLine 20 = .ok (.iconst 1, 1) := by decide +kernel
theorem dX9_isLine_21 : decode cX9_isLine 21 = .ok (.goto 4, 3) := by decide +kernel
theorem dX9_isLine_24 : decode cX9_isLine 24 = .ok (.iconst 0, 1) := by decide +kernel
theorem dX9_isLine_25 : decode cX9_isLine 25 = .ok (.ireturn, 1) := by decide +kernel
theorem dX9_longOf_0 : decode cX9_longOf 0 = .ok (.iload_n 2, 1) := by decide +kernel
theorem dX9_longOf_1 : decode cX9_longOf 1 = .ok (.ifCond .ne 19, 3) := by decide +kernel
theorem dX9_longOf_4 : decode cX9_longOf 4 = .ok (.aload_n 0, 1) := by decide +kernel
theorem dX9_longOf_5 : decode cX9_longOf 5 = .ok (.iload_n 1, 1) := by decide +kernel
theorem dX9_longOf_6 : decode cX9_longOf 6 = .ok (.iconst 0, 1) := by decide +kernel
theorem dX9_longOf_7 : decode cX9_longOf 7 = .ok (.invokevirtual 281, 3) := by decide +kernel
theorem dX9_longOf_10 : decode cX9_longOf 10 = .ok (.aload_n 0, 1) := by decide +kernel
theorem dX9_longOf_11 : decode cX9_longOf 11 = .ok (.iload_n 1, 1) := by decide +kernel
theorem dX9_longOf_12 : decode cX9_longOf 12 = .ok (.iconst 1, 1) := by decide +kernel
theorem dX9_longOf_13 : decode cX9_longOf 13 = .ok (.invokevirtual 284, 3) := by decide +kernel
theorem dX9_longOf_16 : decode cX9_longOf 16 = .ok (.isub, 1) := by decide +kernel
theorem dX9_longOf_17 : decode cX9_longOf 17 = .ok (.goto 16, 3) := by decide +kernel
theorem dX9_longOf_20 : decode cX9_longOf 20 = .ok (.aload_n 0, 1) := by decide +kernel
theorem dX9_longOf_21 : decode cX9_longOf 21 = .ok (.iload_n 1, 1) := by decide +kernel
theorem dX9_longOf_22 : decode cX9_longOf 22 = .ok (.iconst 1, 1) := by decide +kernel
theorem dX9_longOf_23 : decode cX9_longOf 23 = .ok (.invokevirtual 281, 3) := by decide +kernel
theorem dX9_longOf_26 : decode cX9_longOf 26 = .ok (.aload_n 0, 1) := by decide +kernel
theorem dX9_longOf_27 : decode cX9_longOf 27 = .ok (.iload_n 1, 1) := by decide +kernel
theorem dX9_longOf_28 : decode cX9_longOf 28 = .ok (.iconst 0, 1) := by decide +kernel
theorem dX9_longOf_29 : decode cX9_longOf 29 = .ok (.invokevirtual 284, 3) := by decide +kernel
theorem dX9_longOf_32 : decode cX9_longOf 32 = .ok (.isub, 1) := by decide +kernel
theorem dX9_longOf_33 : decode cX9_longOf 33 = .ok (.istore_n 3, 1) := by decide +kernel
theorem dX9_longOf_34 : decode cX9_longOf 34 = .ok (.iload_n 3, 1) := by decide +kernel
theorem dX9_longOf_35 : decode cX9_longOf 35 = .ok (.ifCond .ge 7, 3) := by decide +kernel
theorem dX9_longOf_38 : decode cX9_longOf 38 = .ok (.iconst 0, 1) := by decide +kernel
theorem dX9_longOf_39 : decode cX9_longOf 39 = .ok (.goto 4, 3) := by decide +kernel
theorem dX9_longOf_42 : decode cX9_longOf 42 = .ok (.iload_n 3, 1) := by decide +kernel
theorem dX9_longOf_43 : decode cX9_longOf 43 = .ok (.ireturn, 1) := by decide +kernel
theorem dX9_workOf_0 : decode cX9_workOf 0 = .ok (.iconst 0, 1) := by decide +kernel
theorem dX9_workOf_1 : decode cX9_workOf 1 = .ok (.istore 4, 2) := by decide +kernel
theorem dX9_workOf_3 : decode cX9_workOf 3 = .ok (.iconst 0, 1) := by decide +kernel
theorem dX9_workOf_4 : decode cX9_workOf 4 = .ok (.istore 5, 2) := by decide +kernel
theorem dX9_workOf_6 : decode cX9_workOf 6 = .ok (.iload 5, 2) := by decide +kernel
theorem dX9_workOf_8 : decode cX9_workOf 8 = .ok (.aload_n 0, 1) := by decide +kernel
theorem dX9_workOf_9 : decode cX9_workOf 9 = .ok (.getfield 275, 3) := by decide +kernel
theorem dX9_workOf_12 : decode cX9_workOf 12 = .ok (.if_icmp .ge 93, 3) := by decide +kernel
theorem dX9_workOf_15 : decode cX9_workOf 15 = .ok (.aload_n 0, 1) := by decide +kernel
theorem dX9_workOf_16 : decode cX9_workOf 16 = .ok (.iload 5, 2) := by decide +kernel
theorem dX9_workOf_18 : decode cX9_workOf 18 = .ok (.iload_n 1, 1) := by decide +kernel
theorem dX9_workOf_19 : decode cX9_workOf 19 = .ok (.iload_n 2, 1) := by decide +kernel
theorem dX9_workOf_20 : decode cX9_workOf 20 = .ok (.invokevirtual 287, 3) := by decide +kernel
theorem dX9_workOf_23 : decode cX9_workOf 23 = .ok (.ifCond .eq 76, 3) := by decide +kernel
theorem dX9_workOf_26 : decode cX9_workOf 26 = .ok (.aload_n 0, 1) := by decide +kernel
theorem dX9_workOf_27 : decode cX9_workOf 27 = .ok (.getfield 59, 3) := by decide +kernel
theorem dX9_workOf_30 : decode cX9_workOf 30 = .ok (.iload 5, 2) := by decide +kernel
theorem dX9_workOf_32 : decode cX9_workOf 32 = .ok (.iaload, 1) := by decide +kernel
theorem dX9_workOf_33 : decode cX9_workOf 33 = .ok (.bipush (-9), 2) := by decide +kernel
theorem dX9_workOf_35 : decode cX9_workOf 35 = .ok (.if_icmp .ne 7, 3) := by decide +kernel
theorem dX9_workOf_38 : decode cX9_workOf 38 = .ok (.iconst 1, 1) := by decide +kernel
theorem dX9_workOf_39 : decode cX9_workOf 39 = .ok (.goto 4, 3) := by decide +kernel
theorem dX9_workOf_42 : decode cX9_workOf 42 = .ok (.iconst 0, 1) := by decide +kernel
theorem dX9_workOf_43 : decode cX9_workOf 43 = .ok (.istore 6, 2) := by decide +kernel
theorem dX9_workOf_45 : decode cX9_workOf 45 = .ok (.iload 4, 2) := by decide +kernel
theorem dX9_workOf_47 : decode cX9_workOf 47 = .ok (.iload 6, 2) := by decide +kernel
theorem dX9_workOf_49 : decode cX9_workOf 49 = .ok (.iload_n 3, 1) := by decide +kernel
theorem dX9_workOf_50 : decode cX9_workOf 50 = .ok (.iconst 2, 1) := by decide +kernel
theorem dX9_workOf_51 : decode cX9_workOf 51 = .ok (.if_icmp .ne 7, 3) := by decide +kernel
theorem dX9_workOf_54 : decode cX9_workOf 54 = .ok (.iconst 1, 1) := by decide +kernel
theorem dX9_workOf_55 : decode cX9_workOf 55 = .ok (.goto 4, 3) := by decide +kernel
theorem dX9_workOf_58 : decode cX9_workOf 58 = .ok (.iconst 0, 1) := by decide +kernel
theorem dX9_workOf_59 : decode cX9_workOf 59 = .ok (.if_icmp .eq 7, 3) := by decide +kernel
theorem dX9_workOf_62 : decode cX9_workOf 62 = .ok (.iconst 0, 1) := by decide +kernel
theorem dX9_workOf_63 : decode cX9_workOf 63 = .ok (.goto 33, 3) := by decide +kernel
theorem dX9_workOf_66 : decode cX9_workOf 66 = .ok (.iload 6, 2) := by decide +kernel
theorem dX9_workOf_68 : decode cX9_workOf 68 = .ok (.ifCond .eq 21, 3) := by decide +kernel
theorem dX9_workOf_71 : decode cX9_workOf 71 = .ok (.aload_n 0, 1) := by decide +kernel
theorem dX9_workOf_72 : decode cX9_workOf 72 = .ok (.getfield 65, 3) := by decide +kernel
theorem dX9_workOf_75 : decode cX9_workOf 75 = .ok (.iload 5, 2) := by decide +kernel
theorem dX9_workOf_77 : decode cX9_workOf 77 = .ok (.iaload, 1) := by decide +kernel
theorem dX9_workOf_78 : decode cX9_workOf 78 = .ok (.aload_n 0, 1) := by decide +kernel
theorem dX9_workOf_79 : decode cX9_workOf 79 = .ok (.getfield 62, 3) := by decide +kernel
theorem dX9_workOf_82 : decode cX9_workOf 82 = .ok (.iload 5, 2) := by decide +kernel
theorem dX9_workOf_84 : decode cX9_workOf 84 = .ok (.iaload, 1) := by decide +kernel
theorem dX9_workOf_85 : decode cX9_workOf 85 = .ok (.isub, 1) := by decide +kernel
theorem dX9_workOf_86 : decode cX9_workOf 86 = .ok (.goto 10, 3) := by decide +kernel
theorem dX9_workOf_89 : decode cX9_workOf 89 = .ok (.aload_n 0, 1) := by decide +kernel
theorem dX9_workOf_90 : decode cX9_workOf 90 = .ok (.iload 5, 2) := by decide +kernel
theorem dX9_workOf_92 : decode cX9_workOf 92 = .ok (.iload_n 3, 1) := by decide +kernel
theorem dX9_workOf_93 : decode cX9_workOf 93 = .ok (.invokevirtual 290, 3) := by decide +kernel
theorem dX9_workOf_96 : decode cX9_workOf 96 = .ok (.iadd, 1) := by decide +kernel
theorem dX9_workOf_97 : decode cX9_workOf 97 = .ok (.istore 4, 2) := by decide +kernel
theorem dX9_workOf_99 : decode cX9_workOf 99 = .ok (.iinc 5 1, 3) := by decide +kernel
theorem dX9_workOf_102 : decode cX9_workOf 102 = .ok (.goto (-96), 3) := by decide +kernel
theorem dX9_workOf_105 : decode cX9_workOf 105 = .ok (.iload 4, 2) := by decide +kernel
theorem dX9_workOf_107 : decode cX9_workOf 107 = .ok (.ireturn, 1) := by decide +kernel
theorem dX9_work_0 : decode cX9_work 0 = .ok (.aload_n 0, 1) := by decide +kernel
theorem dX9_work_1 : decode cX9_work 1 = .ok (.iconst 0, 1) := by decide +kernel
theorem dX9_work_2 : decode cX9_work 2 = .ok (.putfield 124, 3) := by decide +kernel
theorem dX9_work_5 : decode cX9_work 5 = .ok (.aload_n 0, 1) := by decide +kernel
theorem dX9_work_6 : decode cX9_work 6 = .ok (.iload_n 1, 1) := by decide +kernel
theorem dX9_work_7 : decode cX9_work 7 = .ok (.invokevirtual 144, 3) := by decide +kernel
theorem dX9_work_10 : decode cX9_work 10 = .ok (.ifCond .eq 29, 3) := by decide +kernel
theorem dX9_work_13 : decode cX9_work 13 = .ok (.iload_n 2, 1) := by decide +kernel
theorem dX9_work_14 : decode cX9_work 14 = .ok (.invokestatic 166, 3) := by decide +kernel
theorem dX9_work_17 : decode cX9_work 17 = .ok (.ifCond .eq 22, 3) := by decide +kernel
theorem dX9_work_20 : decode cX9_work 20 = .ok (.iload_n 3, 1) := by decide +kernel
theorem dX9_work_21 : decode cX9_work 21 = .ok (.iconst 0, 1) := by decide +kernel
theorem dX9_work_22 : decode cX9_work 22 = .ok (.iconst 2, 1) := by decide +kernel
theorem dX9_work_23 : decode cX9_work 23 = .ok (.invokestatic 137, 3) := by decide +kernel
theorem dX9_work_26 : decode cX9_work 26 = .ok (.ifCond .eq 13, 3) := by decide +kernel
theorem dX9_work_29 : decode cX9_work 29 = .ok (.aload_n 0, 1) := by decide +kernel
theorem dX9_work_30 : decode cX9_work 30 = .ok (.iload_n 1, 1) := by decide +kernel
theorem dX9_work_31 : decode cX9_work 31 = .ok (.iload_n 2, 1) := by decide +kernel
theorem dX9_work_32 : decode cX9_work 32 = .ok (.iload_n 3, 1) := by decide +kernel
theorem dX9_work_33 : decode cX9_work 33 = .ok (.invokevirtual 293, 3) := by decide +kernel
theorem dX9_work_36 : decode cX9_work 36 = .ok (.goto 4, 3) := by decide +kernel
theorem dX9_work_39 : decode cX9_work 39 = .ok (.iconst (-1), 1) := by decide +kernel
theorem dX9_work_40 : decode cX9_work 40 = .ok (.ireturn, 1) := by decide +kernel
theorem dX9_isBroken_0 : decode cX9_isBroken 0 = .ok (.aload_n 0, 1) := by decide +kernel
theorem dX9_isBroken_1 : decode cX9_isBroken 1 = .ok (.getfield 53, 3) := by decide +kernel
theorem dX9_isBroken_4 : decode cX9_isBroken 4 = .ok (.iload_n 1, 1) := by decide +kernel
theorem dX9_isBroken_5 : decode cX9_isBroken 5 = .ok (.iaload, 1) := by decide +kernel
theorem dX9_isBroken_6 : decode cX9_isBroken 6 = .ok (.istore 4, 2) := by decide +kernel
theorem dX9_isBroken_8 : decode cX9_isBroken 8 = .ok (.aload_n 0, 1) := by decide +kernel
theorem dX9_isBroken_9 : decode cX9_isBroken 9 = .ok (.getfield 59, 3) := by decide +kernel
theorem dX9_isBroken_12 : decode cX9_isBroken 12 = .ok (.iload_n 1, 1) := by decide +kernel
theorem dX9_isBroken_13 : decode cX9_isBroken 13 = .ok (.iaload, 1) := by decide +kernel
theorem dX9_isBroken_14 : decode cX9_isBroken 14 = .ok (.istore 5, 2) := by decide +kernel
theorem dX9_isBroken_16 : decode cX9_isBroken 16 = .ok (.aload_n 0, 1) := by decide +kernel
theorem dX9_isBroken_17 : decode cX9_isBroken 17 = .ok (.getfield 56, 3) := by decide +kernel
theorem dX9_isBroken_20 : decode cX9_isBroken 20 = .ok (.iload_n 1, 1) := by decide +kernel
theorem dX9_isBroken_21 : decode cX9_isBroken 21 = .ok (.iaload, 1) := by decide +kernel
theorem dX9_isBroken_22 : decode cX9_isBroken 22 = .ok (.istore 6, 2) := by decide +kernel
theorem dX9_isBroken_24 : decode cX9_isBroken 24 = .ok (.iconst 1, 1) := by decide +kernel
theorem dX9_isBroken_25 : decode cX9_isBroken 25 = .ok (.iload_n 3, 1) := by decide +kernel
theorem dX9_isBroken_26 : decode cX9_isBroken 26 = .ok (.isub, 1) := by decide +kernel
theorem dX9_isBroken_27 : decode cX9_isBroken 27 = .ok (.istore 7, 2) := by decide +kernel
theorem dX9_isBroken_29 : decode cX9_isBroken 29 = .ok (.iload_n 2, 1) := by decide +kernel
theorem dX9_isBroken_30 : decode cX9_isBroken 30 = .ok (.tableswitch 204 0 4 #[34, 65, 114, 144, 172], 34) := by decide +kernel
theorem dX9_isBroken_64 : decode cX9_isBroken 64 = .ok (.aload_n 0, 1) := by decide +kernel
theorem dX9_isBroken_65 : decode cX9_isBroken 65 = .ok (.iload 4, 2) := by decide +kernel
theorem dX9_isBroken_67 : decode cX9_isBroken 67 = .ok (.iload 6, 2) := by decide +kernel
theorem dX9_isBroken_69 : decode cX9_isBroken 69 = .ok (.iload 7, 2) := by decide +kernel
theorem dX9_isBroken_71 : decode cX9_isBroken 71 = .ok (.invokevirtual 293, 3) := by decide +kernel
theorem dX9_isBroken_74 : decode cX9_isBroken 74 = .ok (.aload_n 0, 1) := by decide +kernel
theorem dX9_isBroken_75 : decode cX9_isBroken 75 = .ok (.iload 4, 2) := by decide +kernel
theorem dX9_isBroken_77 : decode cX9_isBroken 77 = .ok (.iload 5, 2) := by decide +kernel
theorem dX9_isBroken_79 : decode cX9_isBroken 79 = .ok (.iload 6, 2) := by decide +kernel
theorem dX9_isBroken_81 : decode cX9_isBroken 81 = .ok (.iconst 0, 1) := by decide +kernel
theorem dX9_isBroken_82 : decode cX9_isBroken 82 = .ok (.iload_n 3, 1) := by decide +kernel
theorem dX9_isBroken_83 : decode cX9_isBroken 83 = .ok (.invokevirtual 272, 3) := by decide +kernel
theorem dX9_isBroken_86 : decode cX9_isBroken 86 = .ok (.if_icmp .le 7, 3) := by decide +kernel
theorem dX9_isBroken_89 : decode cX9_isBroken 89 = .ok (.iconst 1, 1) := by decide +kernel
theorem dX9_isBroken_90 : decode cX9_isBroken 90 = .ok (.goto 4, 3) := by decide +kernel
theorem dX9_isBroken_93 : decode cX9_isBroken 93 = .ok (.iconst 0, 1) := by decide +kernel
theorem dX9_isBroken_94 : decode cX9_isBroken 94 = .ok (.ireturn, 1) := by decide +kernel
theorem dX9_isBroken_95 : decode cX9_isBroken 95 = .ok (.aload_n 0, 1) := by decide +kernel
theorem dX9_isBroken_96 : decode cX9_isBroken 96 = .ok (.iload_n 1, 1) := by decide +kernel
theorem dX9_isBroken_97 : decode cX9_isBroken 97 = .ok (.iload_n 3, 1) := by decide +kernel
theorem dX9_isBroken_98 : decode cX9_isBroken 98 = .ok (.invokevirtual 284, 3) := by decide +kernel
theorem dX9_isBroken_101 : decode cX9_isBroken 101 = .ok (.aload_n 0, 1) := by decide +kernel
theorem dX9_isBroken_102 : decode cX9_isBroken 102 = .ok (.iload 4, 2) := by decide +kernel
theorem dX9_isBroken_104 : decode cX9_isBroken 104 = .ok (.iload 5, 2) := by decide +kernel
theorem dX9_isBroken_106 : decode cX9_isBroken 106 = .ok (.iload 6, 2) := by decide +kernel
theorem dX9_isBroken_108 : decode cX9_isBroken 108 = .ok (.iconst 1, 1) := by decide +kernel
theorem dX9_isBroken_109 : decode cX9_isBroken 109 = .ok (.iload_n 3, 1) := by decide +kernel
theorem dX9_isBroken_110 : decode cX9_isBroken 110 = .ok (.invokevirtual 272, 3) := by decide +kernel
theorem dX9_isBroken_113 : decode cX9_isBroken 113 = .ok (.if_icmp .lt 25, 3) := by decide +kernel
theorem dX9_isBroken_116 : decode cX9_isBroken 116 = .ok (.aload_n 0, 1) := by decide +kernel
theorem dX9_isBroken_117 : decode cX9_isBroken 117 = .ok (.iload_n 1, 1) := by decide +kernel
theorem dX9_isBroken_118 : decode cX9_isBroken 118 = .ok (.iload 7, 2) := by decide +kernel
theorem dX9_isBroken_120 : decode cX9_isBroken 120 = .ok (.invokevirtual 281, 3) := by decide +kernel
theorem dX9_isBroken_123 : decode cX9_isBroken 123 = .ok (.aload_n 0, 1) := by decide +kernel
theorem dX9_isBroken_124 : decode cX9_isBroken 124 = .ok (.iload 4, 2) := by decide +kernel
theorem dX9_isBroken_126 : decode cX9_isBroken 126 = .ok (.iload 5, 2) := by decide +kernel
theorem dX9_isBroken_128 : decode cX9_isBroken 128 = .ok (.iload 6, 2) := by decide +kernel
theorem dX9_isBroken_130 : decode cX9_isBroken 130 = .ok (.iconst 2, 1) := by decide +kernel
theorem dX9_isBroken_131 : decode cX9_isBroken 131 = .ok (.iload_n 3, 1) := by decide +kernel
theorem dX9_isBroken_132 : decode cX9_isBroken 132 = .ok (.invokevirtual 272, 3) := by decide +kernel
theorem dX9_isBroken_135 : decode cX9_isBroken 135 = .ok (.if_icmp .le 7, 3) := by decide +kernel
theorem dX9_isBroken_138 : decode cX9_isBroken 138 = .ok (.iconst 1, 1) := by decide +kernel
theorem dX9_isBroken_139 : decode cX9_isBroken 139 = .ok (.goto 4, 3) := by decide +kernel
theorem dX9_isBroken_142 : decode cX9_isBroken 142 = .ok (.iconst 0, 1) := by decide +kernel
theorem dX9_isBroken_143 : decode cX9_isBroken 143 = .ok (.ireturn, 1) := by decide +kernel
theorem dX9_isBroken_144 : decode cX9_isBroken 144 = .ok (.aload_n 0, 1) := by decide +kernel
theorem dX9_isBroken_145 : decode cX9_isBroken 145 = .ok (.iload 4, 2) := by decide +kernel
theorem dX9_isBroken_147 : decode cX9_isBroken 147 = .ok (.iload 6, 2) := by decide +kernel
theorem dX9_isBroken_149 : decode cX9_isBroken 149 = .ok (.iconst 2, 1) := by decide +kernel
theorem dX9_isBroken_150 : decode cX9_isBroken 150 = .ok (.invokevirtual 293, 3) := by decide +kernel
theorem dX9_isBroken_153 : decode cX9_isBroken 153 = .ok (.aload_n 0, 1) := by decide +kernel
theorem dX9_isBroken_154 : decode cX9_isBroken 154 = .ok (.iload 4, 2) := by decide +kernel
theorem dX9_isBroken_156 : decode cX9_isBroken 156 = .ok (.iload 5, 2) := by decide +kernel
theorem dX9_isBroken_158 : decode cX9_isBroken 158 = .ok (.iload 6, 2) := by decide +kernel
theorem dX9_isBroken_160 : decode cX9_isBroken 160 = .ok (.iconst 3, 1) := by decide +kernel
theorem dX9_isBroken_161 : decode cX9_isBroken 161 = .ok (.iload_n 3, 1) := by decide +kernel
theorem dX9_isBroken_162 : decode cX9_isBroken 162 = .ok (.invokevirtual 272, 3) := by decide +kernel
theorem dX9_isBroken_165 : decode cX9_isBroken 165 = .ok (.if_icmp .ge 7, 3) := by decide +kernel
theorem dX9_isBroken_168 : decode cX9_isBroken 168 = .ok (.iconst 1, 1) := by decide +kernel
theorem dX9_isBroken_169 : decode cX9_isBroken 169 = .ok (.goto 4, 3) := by decide +kernel
theorem dX9_isBroken_172 : decode cX9_isBroken 172 = .ok (.iconst 0, 1) := by decide +kernel
theorem dX9_isBroken_173 : decode cX9_isBroken 173 = .ok (.ireturn, 1) := by decide +kernel
theorem dX9_isBroken_174 : decode cX9_isBroken 174 = .ok (.aload_n 0, 1) := by decide +kernel
theorem dX9_isBroken_175 : decode cX9_isBroken 175 = .ok (.iload_n 1, 1) := by decide +kernel
theorem dX9_isBroken_176 : decode cX9_isBroken 176 = .ok (.iload 7, 2) := by decide +kernel
theorem dX9_isBroken_178 : decode cX9_isBroken 178 = .ok (.invokevirtual 290, 3) := by decide +kernel
theorem dX9_isBroken_181 : decode cX9_isBroken 181 = .ok (.aload_n 0, 1) := by decide +kernel
theorem dX9_isBroken_182 : decode cX9_isBroken 182 = .ok (.iload 4, 2) := by decide +kernel
theorem dX9_isBroken_184 : decode cX9_isBroken 184 = .ok (.iload 5, 2) := by decide +kernel
theorem dX9_isBroken_186 : decode cX9_isBroken 186 = .ok (.iload 6, 2) := by decide +kernel
theorem dX9_isBroken_188 : decode cX9_isBroken 188 = .ok (.iconst 4, 1) := by decide +kernel
theorem dX9_isBroken_189 : decode cX9_isBroken 189 = .ok (.iload_n 3, 1) := by decide +kernel
theorem dX9_isBroken_190 : decode cX9_isBroken 190 = .ok (.invokevirtual 272, 3) := by decide +kernel
theorem dX9_isBroken_193 : decode cX9_isBroken 193 = .ok (.if_icmp .le 7, 3) := by decide +kernel
theorem dX9_isBroken_196 : decode cX9_isBroken 196 = .ok (.iconst 1, 1) := by decide +kernel
theorem dX9_isBroken_197 : decode cX9_isBroken 197 = .ok (.goto 4, 3) := by decide +kernel
theorem dX9_isBroken_200 : decode cX9_isBroken 200 = .ok (.iconst 0, 1) := by decide +kernel
theorem dX9_isBroken_201 : decode cX9_isBroken 201 = .ok (.ireturn, 1) := by decide +kernel
theorem dX9_isBroken_202 : decode cX9_isBroken 202 = .ok (.aload_n 0, 1) := by decide +kernel
theorem dX9_isBroken_203 : decode cX9_isBroken 203 = .ok (.iload 4, 2) := by decide +kernel
theorem dX9_isBroken_205 : decode cX9_isBroken 205 = .ok (.iload 5, 2) := by decide +kernel
theorem dX9_isBroken_207 : decode cX9_isBroken 207 = .ok (.iload 6, 2) := by decide +kernel
theorem dX9_isBroken_209 : decode cX9_isBroken 209 = .ok (.iconst 5, 1) := by decide +kernel
theorem dX9_isBroken_210 : decode cX9_isBroken 210 = .ok (.iload_n 3, 1) := by decide +kernel
theorem dX9_isBroken_211 : decode cX9_isBroken 211 = .ok (.invokevirtual 272, 3) := by decide +kernel
theorem dX9_isBroken_214 : decode cX9_isBroken 214 = .ok (.iconst 1, 1) := by decide +kernel
theorem dX9_isBroken_215 : decode cX9_isBroken 215 = .ok (.if_icmp .ne 17, 3) := by decide +kernel
theorem dX9_isBroken_218 : decode cX9_isBroken 218 = .ok (.aload_n 0, 1) := by decide +kernel
theorem dX9_isBroken_219 : decode cX9_isBroken 219 = .ok (.getfield 32, 3) := by decide +kernel
theorem dX9_isBroken_222 : decode cX9_isBroken 222 = .ok (.iload 4, 2) := by decide +kernel
theorem dX9_isBroken_224 : decode cX9_isBroken 224 = .ok (.iaload, 1) := by decide +kernel
theorem dX9_isBroken_225 : decode cX9_isBroken 225 = .ok (.ifCond .ne 7, 3) := by decide +kernel
theorem dX9_isBroken_228 : decode cX9_isBroken 228 = .ok (.iconst 1, 1) := by decide +kernel
theorem dX9_isBroken_229 : decode cX9_isBroken 229 = .ok (.goto 4, 3) := by decide +kernel
theorem dX9_isBroken_232 : decode cX9_isBroken 232 = .ok (.iconst 0, 1) := by decide +kernel
theorem dX9_isBroken_233 : decode cX9_isBroken 233 = .ok (.ireturn, 1) := by decide +kernel
theorem dX9_isBroken_234 : decode cX9_isBroken 234 = .ok (.aload_n 0, 1) := by decide +kernel
theorem dX9_isBroken_235 : decode cX9_isBroken 235 = .ok (.iload 4, 2) := by decide +kernel
theorem dX9_isBroken_237 : decode cX9_isBroken 237 = .ok (.iload 5, 2) := by decide +kernel
theorem dX9_isBroken_239 : decode cX9_isBroken 239 = .ok (.iload 6, 2) := by decide +kernel
theorem dX9_isBroken_241 : decode cX9_isBroken 241 = .ok (.bipush 6, 2) := by decide +kernel
theorem dX9_isBroken_243 : decode cX9_isBroken 243 = .ok (.iload_n 3, 1) := by decide +kernel
theorem dX9_isBroken_244 : decode cX9_isBroken 244 = .ok (.invokevirtual 272, 3) := by decide +kernel
theorem dX9_isBroken_247 : decode cX9_isBroken 247 = .ok (.iconst 1, 1) := by decide +kernel
theorem dX9_isBroken_248 : decode cX9_isBroken 248 = .ok (.if_icmp .ne 7, 3) := by decide +kernel
theorem dX9_isBroken_251 : decode cX9_isBroken 251 = .ok (.iconst 1, 1) := by decide +kernel
theorem dX9_isBroken_252 : decode cX9_isBroken 252 = .ok (.goto 4, 3) := by decide +kernel
theorem dX9_isBroken_255 : decode cX9_isBroken 255 = .ok (.iconst 0, 1) := by decide +kernel
theorem dX9_isBroken_256 : decode cX9_isBroken 256 = .ok (.ireturn, 1) := by decide +kernel
theorem dX9_breachOf_0 : decode cX9_breachOf 0 = .ok (.iconst 0, 1) := by decide +kernel
theorem dX9_breachOf_1 : decode cX9_breachOf 1 = .ok (.istore 4, 2) := by decide +kernel
theorem dX9_breachOf_3 : decode cX9_breachOf 3 = .ok (.iconst 0, 1) := by decide +kernel
theorem dX9_breachOf_4 : decode cX9_breachOf 4 = .ok (.istore 5, 2) := by decide +kernel
theorem dX9_breachOf_6 : decode cX9_breachOf 6 = .ok (.iload 5, 2) := by decide +kernel
theorem dX9_breachOf_8 : decode cX9_breachOf 8 = .ok (.aload_n 0, 1) := by decide +kernel
theorem dX9_breachOf_9 : decode cX9_breachOf 9 = .ok (.getfield 275, 3) := by decide +kernel
theorem dX9_breachOf_12 : decode cX9_breachOf 12 = .ok (.if_icmp .ge 81, 3) := by decide +kernel
theorem dX9_breachOf_15 : decode cX9_breachOf 15 = .ok (.aload_n 0, 1) := by decide +kernel
theorem dX9_breachOf_16 : decode cX9_breachOf 16 = .ok (.iload 5, 2) := by decide +kernel
theorem dX9_breachOf_18 : decode cX9_breachOf 18 = .ok (.iload_n 1, 1) := by decide +kernel
theorem dX9_breachOf_19 : decode cX9_breachOf 19 = .ok (.iload_n 2, 1) := by decide +kernel
theorem dX9_breachOf_20 : decode cX9_breachOf 20 = .ok (.invokevirtual 287, 3) := by decide +kernel
theorem dX9_breachOf_23 : decode cX9_breachOf 23 = .ok (.ifCond .eq 64, 3) := by decide +kernel
theorem dX9_breachOf_26 : decode cX9_breachOf 26 = .ok (.aload_n 0, 1) := by decide +kernel
theorem dX9_breachOf_27 : decode cX9_breachOf 27 = .ok (.getfield 59, 3) := by decide +kernel
theorem dX9_breachOf_30 : decode cX9_breachOf 30 = .ok (.iload 5, 2) := by decide +kernel
theorem dX9_breachOf_32 : decode cX9_breachOf 32 = .ok (.iaload, 1) := by decide +kernel
theorem dX9_breachOf_33 : decode cX9_breachOf 33 = .ok (.bipush (-9), 2) := by decide +kernel
theorem dX9_breachOf_35 : decode cX9_breachOf 35 = .ok (.if_icmp .eq 52, 3) := by decide +kernel
theorem dX9_breachOf_38 : decode cX9_breachOf 38 = .ok (.aload_n 0, 1) := by decide +kernel
theorem dX9_breachOf_39 : decode cX9_breachOf 39 = .ok (.iload 5, 2) := by decide +kernel
theorem dX9_breachOf_41 : decode cX9_breachOf 41 = .ok (.iload_n 3, 1) := by decide +kernel
theorem dX9_breachOf_42 : decode cX9_breachOf 42 = .ok (.iconst 1, 1) := by decide +kernel
theorem dX9_breachOf_43 : decode cX9_breachOf 43 = .ok (.invokevirtual 296, 3) := by decide +kernel
theorem dX9_breachOf_46 : decode cX9_breachOf 46 = .ok (.ifCond .eq 7, 3) := by decide +kernel
theorem dX9_breachOf_49 : decode cX9_breachOf 49 = .ok (.iconst 2, 1) := by decide +kernel
theorem dX9_breachOf_50 : decode cX9_breachOf 50 = .ok (.goto 19, 3) := by decide +kernel
theorem dX9_breachOf_53 : decode cX9_breachOf 53 = .ok (.aload_n 0, 1) := by decide +kernel
theorem dX9_breachOf_54 : decode cX9_breachOf 54 = .ok (.iload 5, 2) := by decide +kernel
theorem dX9_breachOf_56 : decode cX9_breachOf 56 = .ok (.iload_n 3, 1) := by decide +kernel
theorem dX9_breachOf_57 : decode cX9_breachOf 57 = .ok (.iconst 0, 1) := by decide +kernel
theorem dX9_breachOf_58 : decode cX9_breachOf 58 = .ok (.invokevirtual 296, 3) := by decide +kernel
theorem dX9_breachOf_61 : decode cX9_breachOf 61 = .ok (.ifCond .eq 7, 3) := by decide +kernel
theorem dX9_breachOf_64 : decode cX9_breachOf 64 = .ok (.iconst 1, 1) := by decide +kernel
theorem dX9_breachOf_65 : decode cX9_breachOf 65 = .ok (.goto 4, 3) := by decide +kernel
theorem dX9_breachOf_68 : decode cX9_breachOf 68 = .ok (.iconst 0, 1) := by decide +kernel
theorem dX9_breachOf_69 : decode cX9_breachOf 69 = .ok (.istore 6, 2) := by decide +kernel
theorem dX9_breachOf_71 : decode cX9_breachOf 71 = .ok (.iload 6, 2) := by decide +kernel
theorem dX9_breachOf_73 : decode cX9_breachOf 73 = .ok (.iload 4, 2) := by decide +kernel
theorem dX9_breachOf_75 : decode cX9_breachOf 75 = .ok (.if_icmp .le 8, 3) := by decide +kernel
theorem dX9_breachOf_78 : decode cX9_breachOf 78 = .ok (.iload 6, 2) := by decide +kernel
theorem dX9_breachOf_80 : decode cX9_breachOf 80 = .ok (.goto 5, 3) := by decide +kernel
theorem dX9_breachOf_83 : decode cX9_breachOf 83 = .ok (.iload 4, 2) := by decide +kernel
theorem dX9_breachOf_85 : decode cX9_breachOf 85 = .ok (.istore 4, 2) := by decide +kernel
theorem dX9_breachOf_87 : decode cX9_breachOf 87 = .ok (.iinc 5 1, 3) := by decide +kernel
theorem dX9_breachOf_90 : decode cX9_breachOf 90 = .ok (.goto (-84), 3) := by decide +kernel
theorem dX9_breachOf_93 : decode cX9_breachOf 93 = .ok (.iload 4, 2) := by decide +kernel
theorem dX9_breachOf_95 : decode cX9_breachOf 95 = .ok (.ireturn, 1) := by decide +kernel
theorem dX9_breach_0 : decode cX9_breach 0 = .ok (.aload_n 0, 1) := by decide +kernel
theorem dX9_breach_1 : decode cX9_breach 1 = .ok (.iconst 0, 1) := by decide +kernel
theorem dX9_breach_2 : decode cX9_breach 2 = .ok (.putfield 124, 3) := by decide +kernel
theorem dX9_breach_5 : decode cX9_breach 5 = .ok (.aload_n 0, 1) := by decide +kernel
theorem dX9_breach_6 : decode cX9_breach 6 = .ok (.iload_n 1, 1) := by decide +kernel
theorem dX9_breach_7 : decode cX9_breach 7 = .ok (.invokevirtual 144, 3) := by decide +kernel
theorem dX9_breach_10 : decode cX9_breach 10 = .ok (.ifCond .eq 29, 3) := by decide +kernel
theorem dX9_breach_13 : decode cX9_breach 13 = .ok (.iload_n 2, 1) := by decide +kernel
theorem dX9_breach_14 : decode cX9_breach 14 = .ok (.invokestatic 166, 3) := by decide +kernel
theorem dX9_breach_17 : decode cX9_breach 17 = .ok (.ifCond .eq 22, 3) := by decide +kernel
theorem dX9_breach_20 : decode cX9_breach 20 = .ok (.iload_n 3, 1) := by decide +kernel
theorem dX9_breach_21 : decode cX9_breach 21 = .ok (.iconst 0, 1) := by decide +kernel
theorem dX9_breach_22 : decode cX9_breach 22 = .ok (.iconst 5, 1) := by decide +kernel
theorem dX9_breach_23 : decode cX9_breach 23 = .ok (.invokestatic 137, 3) := by decide +kernel
theorem dX9_breach_26 : decode cX9_breach 26 = .ok (.ifCond .eq 13, 3) := by decide +kernel
theorem dX9_breach_29 : decode cX9_breach 29 = .ok (.aload_n 0, 1) := by decide +kernel
theorem dX9_breach_30 : decode cX9_breach 30 = .ok (.iload_n 1, 1) := by decide +kernel
theorem dX9_breach_31 : decode cX9_breach 31 = .ok (.iload_n 2, 1) := by decide +kernel
theorem dX9_breach_32 : decode cX9_breach 32 = .ok (.iload_n 3, 1) := by decide +kernel
theorem dX9_breach_33 : decode cX9_breach 33 = .ok (.invokevirtual 299, 3) := by decide +kernel
theorem dX9_breach_36 : decode cX9_breach 36 = .ok (.goto 4, 3) := by decide +kernel
theorem dX9_breach_39 : decode cX9_breach 39 = .ok (.iconst (-1), 1) := by decide +kernel
theorem dX9_breach_40 : decode cX9_breach 40 = .ok (.ireturn, 1) := by decide +kernel
theorem dX9_least_0 : decode cX9_least 0 = .ok (.iload_n 0, 1) := by decide +kernel
theorem dX9_least_1 : decode cX9_least 1 = .ok (.iload_n 1, 1) := by decide +kernel
theorem dX9_least_2 : decode cX9_least 2 = .ok (.if_icmp .ge 7, 3) := by decide +kernel
theorem dX9_least_5 : decode cX9_least 5 = .ok (.iload_n 0, 1) := by decide +kernel
theorem dX9_least_6 : decode cX9_least 6 = .ok (.goto 4, 3) := by decide +kernel
theorem dX9_least_9 : decode cX9_least 9 = .ok (.iload_n 1, 1) := by decide +kernel
theorem dX9_least_10 : decode cX9_least 10 = .ok (.ireturn, 1) := by decide +kernel
theorem dX9_greatest_0 : decode cX9_greatest 0 = .ok (.iload_n 0, 1) := by decide +kernel
theorem dX9_greatest_1 : decode cX9_greatest 1 = .ok (.iload_n 1, 1) := by decide +kernel
theorem dX9_greatest_2 : decode cX9_greatest 2 = .ok (.if_icmp .le 7, 3) := by decide +kernel
theorem dX9_greatest_5 : decode cX9_greatest 5 = .ok (.iload_n 0, 1) := by decide +kernel
theorem dX9_greatest_6 : decode cX9_greatest 6 = .ok (.goto 4, 3) := by decide +kernel
theorem dX9_greatest_9 : decode cX9_greatest 9 = .ok (.iload_n 1, 1) := by decide +kernel
theorem dX9_greatest_10 : decode cX9_greatest 10 = .ok (.ireturn, 1) := by decide +kernel
theorem dX9_isClash_0 : decode cX9_isClash 0 = .ok (.aload_n 0, 1) := by decide +kernel
theorem dX9_isClash_1 : decode cX9_isClash 1 = .ok (.iload_n 1, 1) := by decide +kernel
theorem dX9_isClash_2 : decode cX9_isClash 2 = .ok (.iconst 1, 1) := by decide +kernel
theorem dX9_isClash_3 : decode cX9_isClash 3 = .ok (.invokevirtual 284, 3) := by decide +kernel
theorem dX9_isClash_6 : decode cX9_isClash 6 = .ok (.aload_n 0, 1) := by decide +kernel
theorem dX9_isClash_7 : decode cX9_isClash 7 = .ok (.iload_n 2, 1) := by decide +kernel
theorem dX9_isClash_8 : decode cX9_isClash 8 = .ok (.iconst 1, 1) := by decide +kernel
theorem dX9_isClash_9 : decode cX9_isClash 9 = .ok (.invokevirtual 284, 3) := by decide +kernel
theorem dX9_isClash_12 : decode cX9_isClash 12 = .ok (.invokestatic 302, 3) := by decide +kernel
theorem dX9_isClash_15 : decode cX9_isClash 15 = .ok (.aload_n 0, 1) := by decide +kernel
theorem dX9_isClash_16 : decode cX9_isClash 16 = .ok (.iload_n 1, 1) := by decide +kernel
theorem dX9_isClash_17 : decode cX9_isClash 17 = .ok (.iconst 0, 1) := by decide +kernel
theorem dX9_isClash_18 : decode cX9_isClash 18 = .ok (.invokevirtual 281, 3) := by decide +kernel
theorem dX9_isClash_21 : decode cX9_isClash 21 = .ok (.aload_n 0, 1) := by decide +kernel
theorem dX9_isClash_22 : decode cX9_isClash 22 = .ok (.iload_n 2, 1) := by decide +kernel
theorem dX9_isClash_23 : decode cX9_isClash 23 = .ok (.iconst 0, 1) := by decide +kernel
theorem dX9_isClash_24 : decode cX9_isClash 24 = .ok (.invokevirtual 281, 3) := by decide +kernel
theorem dX9_isClash_27 : decode cX9_isClash 27 = .ok (.invokestatic 305, 3) := by decide +kernel
theorem dX9_isClash_30 : decode cX9_isClash 30 = .ok (.if_icmp .ge 7, 3) := by decide +kernel
theorem dX9_isClash_33 : decode cX9_isClash 33 = .ok (.iconst 1, 1) := by decide +kernel
theorem dX9_isClash_34 : decode cX9_isClash 34 = .ok (.goto 4, 3) := by decide +kernel
theorem dX9_isClash_37 : decode cX9_isClash 37 = .ok (.iconst 0, 1) := by decide +kernel
theorem dX9_isClash_38 : decode cX9_isClash 38 = .ok (.ireturn, 1) := by decide +kernel
theorem dX9_gathers_0 : decode cX9_gathers 0 = .ok (.iconst 0, 1) := by decide +kernel
theorem dX9_gathers_1 : decode cX9_gathers 1 = .ok (.istore_n 3, 1) := by decide +kernel
theorem dX9_gathers_2 : decode cX9_gathers 2 = .ok (.iconst 0, 1) := by decide +kernel
theorem dX9_gathers_3 : decode cX9_gathers 3 = .ok (.istore 4, 2) := by decide +kernel
theorem dX9_gathers_5 : decode cX9_gathers 5 = .ok (.iload 4, 2) := by decide +kernel
theorem dX9_gathers_7 : decode cX9_gathers 7 = .ok (.aload_n 0, 1) := by decide +kernel
theorem dX9_gathers_8 : decode cX9_gathers 8 = .ok (.getfield 275, 3) := by decide +kernel
theorem dX9_gathers_11 : decode cX9_gathers 11 = .ok (.if_icmp .ge 31, 3) := by decide +kernel
theorem dX9_gathers_14 : decode cX9_gathers 14 = .ok (.aload_n 0, 1) := by decide +kernel
theorem dX9_gathers_15 : decode cX9_gathers 15 = .ok (.iload 4, 2) := by decide +kernel
theorem dX9_gathers_17 : decode cX9_gathers 17 = .ok (.iload_n 1, 1) := by decide +kernel
theorem dX9_gathers_18 : decode cX9_gathers 18 = .ok (.iload_n 2, 1) := by decide +kernel
theorem dX9_gathers_19 : decode cX9_gathers 19 = .ok (.invokevirtual 287, 3) := by decide +kernel
theorem dX9_gathers_22 : decode cX9_gathers 22 = .ok (.ifCond .eq 14, 3) := by decide +kernel
theorem dX9_gathers_25 : decode cX9_gathers 25 = .ok (.aload_n 0, 1) := by decide +kernel
theorem dX9_gathers_26 : decode cX9_gathers 26 = .ok (.getfield 108, 3) := by decide +kernel
theorem dX9_gathers_29 : decode cX9_gathers 29 = .ok (.iload_n 3, 1) := by decide +kernel
theorem dX9_gathers_30 : decode cX9_gathers 30 = .ok (.iload 4, 2) := by decide +kernel
theorem dX9_gathers_32 : decode cX9_gathers 32 = .ok (.iastore, 1) := by decide +kernel
theorem dX9_gathers_33 : decode cX9_gathers 33 = .ok (.iinc 3 1, 3) := by decide +kernel
theorem dX9_gathers_36 : decode cX9_gathers 36 = .ok (.iinc 4 1, 3) := by decide +kernel
theorem dX9_gathers_39 : decode cX9_gathers 39 = .ok (.goto (-34), 3) := by decide +kernel
theorem dX9_gathers_42 : decode cX9_gathers 42 = .ok (.iload_n 3, 1) := by decide +kernel
theorem dX9_gathers_43 : decode cX9_gathers 43 = .ok (.ireturn, 1) := by decide +kernel
theorem dX9_clash_0 : decode cX9_clash 0 = .ok (.aload_n 0, 1) := by decide +kernel
theorem dX9_clash_1 : decode cX9_clash 1 = .ok (.iconst 0, 1) := by decide +kernel
theorem dX9_clash_2 : decode cX9_clash 2 = .ok (.putfield 124, 3) := by decide +kernel
theorem dX9_clash_5 : decode cX9_clash 5 = .ok (.aload_n 0, 1) := by decide +kernel
theorem dX9_clash_6 : decode cX9_clash 6 = .ok (.iload_n 1, 1) := by decide +kernel
theorem dX9_clash_7 : decode cX9_clash 7 = .ok (.invokevirtual 144, 3) := by decide +kernel
theorem dX9_clash_10 : decode cX9_clash 10 = .ok (.ifCond .eq 10, 3) := by decide +kernel
theorem dX9_clash_13 : decode cX9_clash 13 = .ok (.iload_n 2, 1) := by decide +kernel
theorem dX9_clash_14 : decode cX9_clash 14 = .ok (.invokestatic 166, 3) := by decide +kernel
theorem dX9_clash_17 : decode cX9_clash 17 = .ok (.ifCond .ne 5, 3) := by decide +kernel
theorem dX9_clash_20 : decode cX9_clash 20 = .ok (.iconst (-1), 1) := by decide +kernel
theorem dX9_clash_21 : decode cX9_clash 21 = .ok (.ireturn, 1) := by decide +kernel
theorem dX9_clash_22 : decode cX9_clash 22 = .ok (.aload_n 0, 1) := by decide +kernel
theorem dX9_clash_23 : decode cX9_clash 23 = .ok (.iload_n 1, 1) := by decide +kernel
theorem dX9_clash_24 : decode cX9_clash 24 = .ok (.iload_n 2, 1) := by decide +kernel
theorem dX9_clash_25 : decode cX9_clash 25 = .ok (.invokevirtual 308, 3) := by decide +kernel
theorem dX9_clash_28 : decode cX9_clash 28 = .ok (.istore_n 3, 1) := by decide +kernel
theorem dX9_clash_29 : decode cX9_clash 29 = .ok (.iconst 0, 1) := by decide +kernel
theorem dX9_clash_30 : decode cX9_clash 30 = .ok (.istore 4, 2) := by decide +kernel
theorem dX9_clash_32 : decode cX9_clash 32 = .ok (.iconst 0, 1) := by decide +kernel
theorem dX9_clash_33 : decode cX9_clash 33 = .ok (.istore 5, 2) := by decide +kernel
theorem dX9_clash_35 : decode cX9_clash 35 = .ok (.iload 5, 2) := by decide +kernel
theorem dX9_clash_37 : decode cX9_clash 37 = .ok (.iload_n 3, 1) := by decide +kernel
theorem dX9_clash_38 : decode cX9_clash 38 = .ok (.if_icmp .ge 56, 3) := by decide +kernel
theorem dX9_clash_41 : decode cX9_clash 41 = .ok (.iconst 0, 1) := by decide +kernel
theorem dX9_clash_42 : decode cX9_clash 42 = .ok (.istore 6, 2) := by decide +kernel
theorem dX9_clash_44 : decode cX9_clash 44 = .ok (.iload 6, 2) := by decide +kernel
theorem dX9_clash_46 : decode cX9_clash 46 = .ok (.iload 5, 2) := by decide +kernel
theorem dX9_clash_48 : decode cX9_clash 48 = .ok (.if_icmp .ge 40, 3) := by decide +kernel
theorem dX9_clash_51 : decode cX9_clash 51 = .ok (.iload 4, 2) := by decide +kernel
theorem dX9_clash_53 : decode cX9_clash 53 = .ok (.aload_n 0, 1) := by decide +kernel
theorem dX9_clash_54 : decode cX9_clash 54 = .ok (.aload_n 0, 1) := by decide +kernel
theorem dX9_clash_55 : decode cX9_clash 55 = .ok (.getfield 108, 3) := by decide +kernel
theorem dX9_clash_58 : decode cX9_clash 58 = .ok (.iload 5, 2) := by decide +kernel
theorem dX9_clash_60 : decode cX9_clash 60 = .ok (.iaload, 1) := by decide +kernel
theorem dX9_clash_61 : decode cX9_clash 61 = .ok (.aload_n 0, 1) := by decide +kernel
theorem dX9_clash_62 : decode cX9_clash 62 = .ok (.getfield 108, 3) := by decide +kernel
theorem dX9_clash_65 : decode cX9_clash 65 = .ok (.iload 6, 2) := by decide +kernel
theorem dX9_clash_67 : decode cX9_clash 67 = .ok (.iaload, 1) := by decide +kernel
theorem dX9_clash_68 : decode cX9_clash 68 = .ok (.invokevirtual 311, 3) := by decide +kernel
theorem dX9_clash_71 : decode cX9_clash 71 = .ok (.ifCond .eq 7, 3) := by decide +kernel
theorem dX9_clash_74 : decode cX9_clash 74 = .ok (.iconst 1, 1) := by decide +kernel
theorem dX9_clash_75 : decode cX9_clash 75 = .ok (.goto 4, 3) := by decide +kernel
theorem dX9_clash_78 : decode cX9_clash 78 = .ok (.iconst 0, 1) := by decide +kernel
theorem dX9_clash_79 : decode cX9_clash 79 = .ok (.iadd, 1) := by decide +kernel
theorem dX9_clash_80 : decode cX9_clash 80 = .ok (.istore 4, 2) := by decide +kernel
theorem dX9_clash_82 : decode cX9_clash 82 = .ok (.iinc 6 1, 3) := by decide +kernel
theorem dX9_clash_85 : decode cX9_clash 85 = .ok (.goto (-41), 3) := by decide +kernel
theorem dX9_clash_88 : decode cX9_clash 88 = .ok (.iinc 5 1, 3) := by decide +kernel
theorem dX9_clash_91 : decode cX9_clash 91 = .ok (.goto (-56), 3) := by decide +kernel
theorem dX9_clash_94 : decode cX9_clash 94 = .ok (.iload 4, 2) := by decide +kernel
theorem dX9_clash_96 : decode cX9_clash 96 = .ok (.ireturn, 1) := by decide +kernel
theorem dX9_ones_0 : decode cX9_ones 0 = .ok (.iconst 0, 1) := by decide +kernel
theorem dX9_ones_1 : decode cX9_ones 1 = .ok (.istore_n 1, 1) := by decide +kernel
theorem dX9_ones_2 : decode cX9_ones 2 = .ok (.iconst 0, 1) := by decide +kernel
theorem dX9_ones_3 : decode cX9_ones 3 = .ok (.istore_n 2, 1) := by decide +kernel
theorem dX9_ones_4 : decode cX9_ones 4 = .ok (.iload_n 2, 1) := by decide +kernel
theorem dX9_ones_5 : decode cX9_ones 5 = .ok (.bipush 16, 2) := by decide +kernel
theorem dX9_ones_7 : decode cX9_ones 7 = .ok (.if_icmp .ge 17, 3) := by decide +kernel
theorem dX9_ones_10 : decode cX9_ones 10 = .ok (.iload_n 1, 1) := by decide +kernel
theorem dX9_ones_11 : decode cX9_ones 11 = .ok (.iload_n 0, 1) := by decide +kernel
theorem dX9_ones_12 : decode cX9_ones 12 = .ok (.iload_n 2, 1) := by decide +kernel
theorem dX9_ones_13 : decode cX9_ones 13 = .ok (.ishr, 1) := by decide +kernel
theorem dX9_ones_14 : decode cX9_ones 14 = .ok (.iconst 1, 1) := by decide +kernel
theorem dX9_ones_15 : decode cX9_ones 15 = .ok (.iand, 1) := by decide +kernel
theorem dX9_ones_16 : decode cX9_ones 16 = .ok (.iadd, 1) := by decide +kernel
theorem dX9_ones_17 : decode cX9_ones 17 = .ok (.istore_n 1, 1) := by decide +kernel
theorem dX9_ones_18 : decode cX9_ones 18 = .ok (.iinc 2 1, 3) := by decide +kernel
theorem dX9_ones_21 : decode cX9_ones 21 = .ok (.goto (-17), 3) := by decide +kernel
theorem dX9_ones_24 : decode cX9_ones 24 = .ok (.iload_n 1, 1) := by decide +kernel
theorem dX9_ones_25 : decode cX9_ones 25 = .ok (.ireturn, 1) := by decide +kernel
theorem dX9_doubted_0 : decode cX9_doubted 0 = .ok (.aload_n 0, 1) := by decide +kernel
theorem dX9_doubted_1 : decode cX9_doubted 1 = .ok (.iconst 0, 1) := by decide +kernel
theorem dX9_doubted_2 : decode cX9_doubted 2 = .ok (.putfield 124, 3) := by decide +kernel
theorem dX9_doubted_5 : decode cX9_doubted 5 = .ok (.aload_n 0, 1) := by decide +kernel
theorem dX9_doubted_6 : decode cX9_doubted 6 = .ok (.iload_n 1, 1) := by decide +kernel
theorem dX9_doubted_7 : decode cX9_doubted 7 = .ok (.invokevirtual 144, 3) := by decide +kernel
theorem dX9_doubted_10 : decode cX9_doubted 10 = .ok (.ifCond .eq 19, 3) := by decide +kernel
theorem dX9_doubted_13 : decode cX9_doubted 13 = .ok (.iload_n 2, 1) := by decide +kernel
theorem dX9_doubted_14 : decode cX9_doubted 14 = .ok (.invokestatic 166, 3) := by decide +kernel
theorem dX9_doubted_17 : decode cX9_doubted 17 = .ok (.ifCond .eq 12, 3) := by decide +kernel
theorem dX9_doubted_20 : decode cX9_doubted 20 = .ok (.iload_n 3, 1) := by decide +kernel
theorem dX9_doubted_21 : decode cX9_doubted 21 = .ok (.iconst 0, 1) := by decide +kernel
theorem dX9_doubted_22 : decode cX9_doubted 22 = .ok (.iconst 1, 1) := by decide +kernel
theorem dX9_doubted_23 : decode cX9_doubted 23 = .ok (.invokestatic 137, 3) := by decide +kernel
theorem dX9_doubted_26 : decode cX9_doubted 26 = .ok (.ifCond .ne 5, 3) := by decide +kernel
theorem dX9_doubted_29 : decode cX9_doubted 29 = .ok (.iconst (-1), 1) := by decide +kernel
theorem dX9_doubted_30 : decode cX9_doubted 30 = .ok (.ireturn, 1) := by decide +kernel
theorem dX9_doubted_31 : decode cX9_doubted 31 = .ok (.aload_n 0, 1) := by decide +kernel
theorem dX9_doubted_32 : decode cX9_doubted 32 = .ok (.iload_n 1, 1) := by decide +kernel
theorem dX9_doubted_33 : decode cX9_doubted 33 = .ok (.iload_n 2, 1) := by decide +kernel
theorem dX9_doubted_34 : decode cX9_doubted 34 = .ok (.invokevirtual 308, 3) := by decide +kernel
theorem dX9_doubted_37 : decode cX9_doubted 37 = .ok (.istore 4, 2) := by decide +kernel
theorem dX9_doubted_39 : decode cX9_doubted 39 = .ok (.iload 4, 2) := by decide +kernel
theorem dX9_doubted_41 : decode cX9_doubted 41 = .ok (.bipush 12, 2) := by decide +kernel
theorem dX9_doubted_43 : decode cX9_doubted 43 = .ok (.if_icmp .le 6, 3) := by decide +kernel
theorem dX9_doubted_46 : decode cX9_doubted 46 = .ok (.bipush (-2), 2) := by decide +kernel
theorem dX9_doubted_48 : decode cX9_doubted 48 = .ok (.ireturn, 1) := by decide +kernel
theorem dX9_doubted_49 : decode cX9_doubted 49 = .ok (.iconst 1, 1) := by decide +kernel
theorem dX9_doubted_50 : decode cX9_doubted 50 = .ok (.iload 4, 2) := by decide +kernel
theorem dX9_doubted_52 : decode cX9_doubted 52 = .ok (.ishl, 1) := by decide +kernel
theorem dX9_doubted_53 : decode cX9_doubted 53 = .ok (.iconst 1, 1) := by decide +kernel
theorem dX9_doubted_54 : decode cX9_doubted 54 = .ok (.isub, 1) := by decide +kernel
theorem dX9_doubted_55 : decode cX9_doubted 55 = .ok (.istore 5, 2) := by decide +kernel
theorem dX9_doubted_57 : decode cX9_doubted 57 = .ok (.iconst 1, 1) := by decide +kernel
theorem dX9_doubted_58 : decode cX9_doubted 58 = .ok (.iload 4, 2) := by decide +kernel
theorem dX9_doubted_60 : decode cX9_doubted 60 = .ok (.ishl, 1) := by decide +kernel
theorem dX9_doubted_61 : decode cX9_doubted 61 = .ok (.iconst 1, 1) := by decide +kernel
theorem dX9_doubted_62 : decode cX9_doubted 62 = .ok (.isub, 1) := by decide +kernel
theorem dX9_doubted_63 : decode cX9_doubted 63 = .ok (.istore 6, 2) := by decide +kernel
theorem dX9_doubted_65 : decode cX9_doubted 65 = .ok (.iload 6, 2) := by decide +kernel
theorem dX9_doubted_67 : decode cX9_doubted 67 = .ok (.ifCond .lt 135, 3) := by decide +kernel
theorem dX9_doubted_70 : decode cX9_doubted 70 = .ok (.iload 6, 2) := by decide +kernel
theorem dX9_doubted_72 : decode cX9_doubted 72 = .ok (.invokestatic 315, 3) := by decide +kernel
theorem dX9_doubted_75 : decode cX9_doubted 75 = .ok (.iload 5, 2) := by decide +kernel
theorem dX9_doubted_77 : decode cX9_doubted 77 = .ok (.invokestatic 315, 3) := by decide +kernel
theorem dX9_doubted_80 : decode cX9_doubted 80 = .ok (.if_icmp .gt 7, 3) := by decide +kernel
theorem dX9_doubted_83 : decode cX9_doubted 83 = .ok (.iconst 1, 1) := by decide +kernel
theorem dX9_doubted_84 : decode cX9_doubted 84 = .ok (.goto 4, 3) := by decide +kernel
theorem dX9_doubted_87 : decode cX9_doubted 87 = .ok (.iconst 0, 1) := by decide +kernel
theorem dX9_doubted_88 : decode cX9_doubted 88 = .ok (.istore 7, 2) := by decide +kernel
theorem dX9_doubted_90 : decode cX9_doubted 90 = .ok (.iconst 0, 1) := by decide +kernel
theorem dX9_doubted_91 : decode cX9_doubted 91 = .ok (.istore 8, 2) := by decide +kernel
theorem dX9_doubted_93 : decode cX9_doubted 93 = .ok (.iload 8, 2) := by decide +kernel
theorem dX9_doubted_95 : decode cX9_doubted 95 = .ok (.iload 4, 2) := by decide +kernel
theorem dX9_doubted_97 : decode cX9_doubted 97 = .ok (.if_icmp .ge 85, 3) := by decide +kernel
theorem dX9_doubted_100 : decode cX9_doubted 100 = .ok (.iload 7, 2) := by decide +kernel
theorem dX9_doubted_102 : decode cX9_doubted 102 = .ok (.ifCond .eq 80, 3) := by decide +kernel
theorem dX9_doubted_105 : decode cX9_doubted 105 = .ok (.iconst 0, 1) := by decide +kernel
theorem dX9_doubted_106 : decode cX9_doubted 106 = .ok (.istore 9, 2) := by decide +kernel
theorem dX9_doubted_108 : decode cX9_doubted 108 = .ok (.iload 9, 2) := by decide +kernel
theorem dX9_doubted_110 : decode cX9_doubted 110 = .ok (.iload 8, 2) := by decide +kernel
theorem dX9_doubted_112 : decode cX9_doubted 112 = .ok (.if_icmp .ge 64, 3) := by decide +kernel
theorem dX9_doubted_115 : decode cX9_doubted 115 = .ok (.iload 7, 2) := by decide +kernel
theorem dX9_doubted_117 : decode cX9_doubted 117 = .ok (.ifCond .eq 59, 3) := by decide +kernel
theorem dX9_doubted_120 : decode cX9_doubted 120 = .ok (.iload 6, 2) := by decide +kernel
theorem dX9_doubted_122 : decode cX9_doubted 122 = .ok (.iload 8, 2) := by decide +kernel
theorem dX9_doubted_124 : decode cX9_doubted 124 = .ok (.ishr, 1) := by decide +kernel
theorem dX9_doubted_125 : decode cX9_doubted 125 = .ok (.iconst 1, 1) := by decide +kernel
theorem dX9_doubted_126 : decode cX9_doubted 126 = .ok (.iand, 1) := by decide +kernel
theorem dX9_doubted_127 : decode cX9_doubted 127 = .ok (.iconst 1, 1) := by decide +kernel
theorem dX9_doubted_128 : decode cX9_doubted 128 = .ok (.if_icmp .eq 35, 3) := by decide +kernel
theorem dX9_doubted_131 : decode cX9_doubted 131 = .ok (.iload 6, 2) := by decide +kernel
theorem dX9_doubted_133 : decode cX9_doubted 133 = .ok (.iload 9, 2) := by decide +kernel
theorem dX9_doubted_135 : decode cX9_doubted 135 = .ok (.ishr, 1) := by decide +kernel
theorem dX9_doubted_136 : decode cX9_doubted 136 = .ok (.iconst 1, 1) := by decide +kernel
theorem dX9_doubted_137 : decode cX9_doubted 137 = .ok (.iand, 1) := by decide +kernel
theorem dX9_doubted_138 : decode cX9_doubted 138 = .ok (.iconst 1, 1) := by decide +kernel
theorem dX9_doubted_139 : decode cX9_doubted 139 = .ok (.if_icmp .eq 24, 3) := by decide +kernel
theorem dX9_doubted_142 : decode cX9_doubted 142 = .ok (.aload_n 0, 1) := by decide +kernel
theorem dX9_doubted_143 : decode cX9_doubted 143 = .ok (.aload_n 0, 1) := by decide +kernel
theorem dX9_doubted_144 : decode cX9_doubted 144 = .ok (.getfield 108, 3) := by decide +kernel
theorem dX9_doubted_147 : decode cX9_doubted 147 = .ok (.iload 8, 2) := by decide +kernel
theorem dX9_doubted_149 : decode cX9_doubted 149 = .ok (.iaload, 1) := by decide +kernel
theorem dX9_doubted_150 : decode cX9_doubted 150 = .ok (.aload_n 0, 1) := by decide +kernel
theorem dX9_doubted_151 : decode cX9_doubted 151 = .ok (.getfield 108, 3) := by decide +kernel
theorem dX9_doubted_154 : decode cX9_doubted 154 = .ok (.iload 9, 2) := by decide +kernel
theorem dX9_doubted_156 : decode cX9_doubted 156 = .ok (.iaload, 1) := by decide +kernel
theorem dX9_doubted_157 : decode cX9_doubted 157 = .ok (.invokevirtual 311, 3) := by decide +kernel
theorem dX9_doubted_160 : decode cX9_doubted 160 = .ok (.ifCond .ne 7, 3) := by decide +kernel
theorem dX9_doubted_163 : decode cX9_doubted 163 = .ok (.iconst 1, 1) := by decide +kernel
theorem dX9_doubted_164 : decode cX9_doubted 164 = .ok (.goto 4, 3) := by decide +kernel
theorem dX9_doubted_167 : decode cX9_doubted 167 = .ok (.iconst 0, 1) := by decide +kernel
theorem dX9_doubted_168 : decode cX9_doubted 168 = .ok (.istore 7, 2) := by decide +kernel
theorem dX9_doubted_170 : decode cX9_doubted 170 = .ok (.iinc 9 1, 3) := by decide +kernel
theorem dX9_doubted_173 : decode cX9_doubted 173 = .ok (.goto (-65), 3) := by decide +kernel
theorem dX9_doubted_176 : decode cX9_doubted 176 = .ok (.iinc 8 1, 3) := by decide +kernel
theorem dX9_doubted_179 : decode cX9_doubted 179 = .ok (.goto (-86), 3) := by decide +kernel
theorem dX9_doubted_182 : decode cX9_doubted 182 = .ok (.iload 7, 2) := by decide +kernel
theorem dX9_doubted_184 : decode cX9_doubted 184 = .ok (.ifCond .eq 8, 3) := by decide +kernel
theorem dX9_doubted_187 : decode cX9_doubted 187 = .ok (.iload 6, 2) := by decide +kernel
theorem dX9_doubted_189 : decode cX9_doubted 189 = .ok (.goto 5, 3) := by decide +kernel
theorem dX9_doubted_192 : decode cX9_doubted 192 = .ok (.iload 5, 2) := by decide +kernel
theorem dX9_doubted_194 : decode cX9_doubted 194 = .ok (.istore 5, 2) := by decide +kernel
theorem dX9_doubted_196 : decode cX9_doubted 196 = .ok (.iinc 6 (-1), 3) := by decide +kernel
theorem dX9_doubted_199 : decode cX9_doubted 199 = .ok (.goto (-134), 3) := by decide +kernel
theorem dX9_doubted_202 : decode cX9_doubted 202 = .ok (.iload_n 3, 1) := by decide +kernel
theorem dX9_doubted_203 : decode cX9_doubted 203 = .ok (.ifCond .ne 11, 3) := by decide +kernel
theorem dX9_doubted_206 : decode cX9_doubted 206 = .ok (.iload 5, 2) := by decide +kernel
theorem dX9_doubted_208 : decode cX9_doubted 208 = .ok (.invokestatic 315, 3) := by decide +kernel
theorem dX9_doubted_211 : decode cX9_doubted 211 = .ok (.goto 5, 3) := by decide +kernel
theorem dX9_doubted_214 : decode cX9_doubted 214 = .ok (.iload 5, 2) := by decide +kernel
theorem dX9_doubted_216 : decode cX9_doubted 216 = .ok (.ireturn, 1) := by decide +kernel
theorem dX9_period_0 : decode cX9_period 0 = .ok (.aload_n 0, 1) := by decide +kernel
theorem dX9_period_1 : decode cX9_period 1 = .ok (.iconst 0, 1) := by decide +kernel
theorem dX9_period_2 : decode cX9_period 2 = .ok (.putfield 124, 3) := by decide +kernel
theorem dX9_period_5 : decode cX9_period 5 = .ok (.iload_n 1, 1) := by decide +kernel
theorem dX9_period_6 : decode cX9_period 6 = .ok (.iconst 0, 1) := by decide +kernel
theorem dX9_period_7 : decode cX9_period 7 = .ok (.iconst 5, 1) := by decide +kernel
theorem dX9_period_8 : decode cX9_period 8 = .ok (.invokestatic 137, 3) := by decide +kernel
theorem dX9_period_11 : decode cX9_period 11 = .ok (.ifCond .eq 24, 3) := by decide +kernel
theorem dX9_period_14 : decode cX9_period 14 = .ok (.iload_n 2, 1) := by decide +kernel
theorem dX9_period_15 : decode cX9_period 15 = .ok (.bipush 15, 2) := by decide +kernel
theorem dX9_period_17 : decode cX9_period 17 = .ok (.sipush 300, 3) := by decide +kernel
theorem dX9_period_20 : decode cX9_period 20 = .ok (.invokestatic 137, 3) := by decide +kernel
theorem dX9_period_23 : decode cX9_period 23 = .ok (.ifCond .eq 12, 3) := by decide +kernel
theorem dX9_period_26 : decode cX9_period 26 = .ok (.iload_n 3, 1) := by decide +kernel
theorem dX9_period_27 : decode cX9_period 27 = .ok (.iconst 0, 1) := by decide +kernel
theorem dX9_period_28 : decode cX9_period 28 = .ok (.iconst 3, 1) := by decide +kernel
theorem dX9_period_29 : decode cX9_period 29 = .ok (.invokestatic 137, 3) := by decide +kernel
theorem dX9_period_32 : decode cX9_period 32 = .ok (.ifCond .ne 5, 3) := by decide +kernel
theorem dX9_period_35 : decode cX9_period 35 = .ok (.iconst (-1), 1) := by decide +kernel
theorem dX9_period_36 : decode cX9_period 36 = .ok (.ireturn, 1) := by decide +kernel
theorem dX9_period_37 : decode cX9_period 37 = .ok (.aload_n 0, 1) := by decide +kernel
theorem dX9_period_38 : decode cX9_period 38 = .ok (.getfield 77, 3) := by decide +kernel
theorem dX9_period_41 : decode cX9_period 41 = .ok (.iload_n 1, 1) := by decide +kernel
theorem dX9_period_42 : decode cX9_period 42 = .ok (.iload_n 2, 1) := by decide +kernel
theorem dX9_period_43 : decode cX9_period 43 = .ok (.iastore, 1) := by decide +kernel
theorem dX9_period_44 : decode cX9_period 44 = .ok (.aload_n 0, 1) := by decide +kernel
theorem dX9_period_45 : decode cX9_period 45 = .ok (.getfield 80, 3) := by decide +kernel
theorem dX9_period_48 : decode cX9_period 48 = .ok (.iload_n 1, 1) := by decide +kernel
theorem dX9_period_49 : decode cX9_period 49 = .ok (.iload_n 3, 1) := by decide +kernel
theorem dX9_period_50 : decode cX9_period 50 = .ok (.iastore, 1) := by decide +kernel
theorem dX9_period_51 : decode cX9_period 51 = .ok (.iconst 1, 1) := by decide +kernel
theorem dX9_period_52 : decode cX9_period 52 = .ok (.ireturn, 1) := by decide +kernel
theorem dX9_isRow_0 : decode cX9_isRow 0 = .ok (.iconst 0, 1) := by decide +kernel
theorem dX9_isRow_1 : decode cX9_isRow 1 = .ok (.istore 5, 2) := by decide +kernel
theorem dX9_isRow_3 : decode cX9_isRow 3 = .ok (.iconst 0, 1) := by decide +kernel
theorem dX9_isRow_4 : decode cX9_isRow 4 = .ok (.istore 6, 2) := by decide +kernel
theorem dX9_isRow_6 : decode cX9_isRow 6 = .ok (.iconst 1, 1) := by decide +kernel
theorem dX9_isRow_7 : decode cX9_isRow 7 = .ok (.istore 7, 2) := by decide +kernel
theorem dX9_isRow_9 : decode cX9_isRow 9 = .ok (.iconst 0, 1) := by decide +kernel
theorem dX9_isRow_10 : decode cX9_isRow 10 = .ok (.istore 8, 2) := by decide +kernel
theorem dX9_isRow_12 : decode cX9_isRow 12 = .ok (.iload 8, 2) := by decide +kernel
theorem dX9_isRow_14 : decode cX9_isRow 14 = .ok (.iload_n 2, 1) := by decide +kernel
theorem dX9_isRow_15 : decode cX9_isRow 15 = .ok (.if_icmp .ge 79, 3) := by decide +kernel
theorem dX9_isRow_18 : decode cX9_isRow 18 = .ok (.iload_n 1, 1) := by decide +kernel
theorem dX9_isRow_19 : decode cX9_isRow 19 = .ok (.iload 8, 2) := by decide +kernel
theorem dX9_isRow_21 : decode cX9_isRow 21 = .ok (.ishr, 1) := by decide +kernel
theorem dX9_isRow_22 : decode cX9_isRow 22 = .ok (.iconst 1, 1) := by decide +kernel
theorem dX9_isRow_23 : decode cX9_isRow 23 = .ok (.iand, 1) := by decide +kernel
theorem dX9_isRow_24 : decode cX9_isRow 24 = .ok (.iconst 1, 1) := by decide +kernel
theorem dX9_isRow_25 : decode cX9_isRow 25 = .ok (.if_icmp .ne 7, 3) := by decide +kernel
theorem dX9_isRow_28 : decode cX9_isRow 28 = .ok (.iconst 1, 1) := by decide +kernel
theorem dX9_isRow_29 : decode cX9_isRow 29 = .ok (.goto 4, 3) := by decide +kernel
theorem dX9_isRow_32 : decode cX9_isRow 32 = .ok (.iconst 0, 1) := by decide +kernel
theorem dX9_isRow_33 : decode cX9_isRow 33 = .ok (.istore 9, 2) := by decide +kernel
theorem dX9_isRow_35 : decode cX9_isRow 35 = .ok (.iload 5, 2) := by decide +kernel
theorem dX9_isRow_37 : decode cX9_isRow 37 = .ok (.iload 9, 2) := by decide +kernel
theorem dX9_isRow_39 : decode cX9_isRow 39 = .ok (.ifCond .eq 13, 3) := by decide +kernel
theorem dX9_isRow_42 : decode cX9_isRow 42 = .ok (.aload_n 0, 1) := by decide +kernel
theorem dX9_isRow_43 : decode cX9_isRow 43 = .ok (.getfield 77, 3) := by decide +kernel
theorem dX9_isRow_46 : decode cX9_isRow 46 = .ok (.iload 8, 2) := by decide +kernel
theorem dX9_isRow_48 : decode cX9_isRow 48 = .ok (.iaload, 1) := by decide +kernel
theorem dX9_isRow_49 : decode cX9_isRow 49 = .ok (.goto 4, 3) := by decide +kernel
theorem dX9_isRow_52 : decode cX9_isRow 52 = .ok (.iconst 0, 1) := by decide +kernel
theorem dX9_isRow_53 : decode cX9_isRow 53 = .ok (.iadd, 1) := by decide +kernel
theorem dX9_isRow_54 : decode cX9_isRow 54 = .ok (.istore 5, 2) := by decide +kernel
theorem dX9_isRow_56 : decode cX9_isRow 56 = .ok (.iload 9, 2) := by decide +kernel
theorem dX9_isRow_58 : decode cX9_isRow 58 = .ok (.ifCond .eq 10, 3) := by decide +kernel
theorem dX9_isRow_61 : decode cX9_isRow 61 = .ok (.iload 6, 2) := by decide +kernel
theorem dX9_isRow_63 : decode cX9_isRow 63 = .ok (.iconst 1, 1) := by decide +kernel
theorem dX9_isRow_64 : decode cX9_isRow 64 = .ok (.iadd, 1) := by decide +kernel
theorem dX9_isRow_65 : decode cX9_isRow 65 = .ok (.goto 4, 3) := by decide +kernel
theorem dX9_isRow_68 : decode cX9_isRow 68 = .ok (.iconst 0, 1) := by decide +kernel
theorem dX9_isRow_69 : decode cX9_isRow 69 = .ok (.istore 6, 2) := by decide +kernel
theorem dX9_isRow_71 : decode cX9_isRow 71 = .ok (.iload 7, 2) := by decide +kernel
theorem dX9_isRow_73 : decode cX9_isRow 73 = .ok (.iload 6, 2) := by decide +kernel
theorem dX9_isRow_75 : decode cX9_isRow 75 = .ok (.iload 4, 2) := by decide +kernel
theorem dX9_isRow_77 : decode cX9_isRow 77 = .ok (.if_icmp .gt 7, 3) := by decide +kernel
theorem dX9_isRow_80 : decode cX9_isRow 80 = .ok (.iconst 1, 1) := by decide +kernel
theorem dX9_isRow_81 : decode cX9_isRow 81 = .ok (.goto 4, 3) := by decide +kernel
theorem dX9_isRow_84 : decode cX9_isRow 84 = .ok (.iconst 0, 1) := by decide +kernel
theorem dX9_isRow_85 : decode cX9_isRow 85 = .ok (.iand, 1) := by decide +kernel
theorem dX9_isRow_86 : decode cX9_isRow 86 = .ok (.istore 7, 2) := by decide +kernel
theorem dX9_isRow_88 : decode cX9_isRow 88 = .ok (.iinc 8 1, 3) := by decide +kernel
theorem dX9_isRow_91 : decode cX9_isRow 91 = .ok (.goto (-79), 3) := by decide +kernel
theorem dX9_isRow_94 : decode cX9_isRow 94 = .ok (.iload 7, 2) := by decide +kernel
theorem dX9_isRow_96 : decode cX9_isRow 96 = .ok (.ifCond .eq 13, 3) := by decide +kernel
theorem dX9_isRow_99 : decode cX9_isRow 99 = .ok (.iload 5, 2) := by decide +kernel
theorem dX9_isRow_101 : decode cX9_isRow 101 = .ok (.iload_n 3, 1) := by decide +kernel
theorem dX9_isRow_102 : decode cX9_isRow 102 = .ok (.if_icmp .gt 7, 3) := by decide +kernel
theorem dX9_isRow_105 : decode cX9_isRow 105 = .ok (.iconst 1, 1) := by decide +kernel
theorem dX9_isRow_106 : decode cX9_isRow 106 = .ok (.goto 4, 3) := by decide +kernel
theorem dX9_isRow_109 : decode cX9_isRow 109 = .ok (.iconst 0, 1) := by decide +kernel
theorem dX9_isRow_110 : decode cX9_isRow 110 = .ok (.ireturn, 1) := by decide +kernel
theorem dX9_can_0 : decode cX9_can 0 = .ok (.aload_n 0, 1) := by decide +kernel
theorem dX9_can_1 : decode cX9_can 1 = .ok (.iconst 0, 1) := by decide +kernel
theorem dX9_can_2 : decode cX9_can 2 = .ok (.putfield 124, 3) := by decide +kernel
theorem dX9_can_5 : decode cX9_can 5 = .ok (.iload_n 1, 1) := by decide +kernel
theorem dX9_can_6 : decode cX9_can 6 = .ok (.iconst 1, 1) := by decide +kernel
theorem dX9_can_7 : decode cX9_can 7 = .ok (.bipush 6, 2) := by decide +kernel
theorem dX9_can_9 : decode cX9_can 9 = .ok (.invokestatic 137, 3) := by decide +kernel
theorem dX9_can_12 : decode cX9_can 12 = .ok (.ifCond .eq 44, 3) := by decide +kernel
theorem dX9_can_15 : decode cX9_can 15 = .ok (.iload_n 2, 1) := by decide +kernel
theorem dX9_can_16 : decode cX9_can 16 = .ok (.iconst 1, 1) := by decide +kernel
theorem dX9_can_17 : decode cX9_can 17 = .ok (.iconst 3, 1) := by decide +kernel
theorem dX9_can_18 : decode cX9_can 18 = .ok (.invokestatic 137, 3) := by decide +kernel
theorem dX9_can_21 : decode cX9_can 21 = .ok (.ifCond .eq 35, 3) := by decide +kernel
theorem dX9_can_24 : decode cX9_can 24 = .ok (.iload_n 3, 1) := by decide +kernel
theorem dX9_can_25 : decode cX9_can 25 = .ok (.iconst 0, 1) := by decide +kernel
theorem dX9_can_26 : decode cX9_can 26 = .ok (.sipush 1800, 3) := by decide +kernel
theorem dX9_can_29 : decode cX9_can 29 = .ok (.invokestatic 137, 3) := by decide +kernel
theorem dX9_can_32 : decode cX9_can 32 = .ok (.ifCond .eq 24, 3) := by decide +kernel
theorem dX9_can_35 : decode cX9_can 35 = .ok (.iload 4, 2) := by decide +kernel
theorem dX9_can_37 : decode cX9_can 37 = .ok (.iconst 1, 1) := by decide +kernel
theorem dX9_can_38 : decode cX9_can 38 = .ok (.bipush 6, 2) := by decide +kernel
theorem dX9_can_40 : decode cX9_can 40 = .ok (.invokestatic 137, 3) := by decide +kernel
theorem dX9_can_43 : decode cX9_can 43 = .ok (.ifCond .eq 13, 3) := by decide +kernel
theorem dX9_can_46 : decode cX9_can 46 = .ok (.iload 5, 2) := by decide +kernel
theorem dX9_can_48 : decode cX9_can 48 = .ok (.iconst 0, 1) := by decide +kernel
theorem dX9_can_49 : decode cX9_can 49 = .ok (.iconst 1, 1) := by decide +kernel
theorem dX9_can_50 : decode cX9_can 50 = .ok (.invokestatic 137, 3) := by decide +kernel
theorem dX9_can_53 : decode cX9_can 53 = .ok (.ifCond .ne 5, 3) := by decide +kernel
theorem dX9_can_56 : decode cX9_can 56 = .ok (.iconst (-1), 1) := by decide +kernel
theorem dX9_can_57 : decode cX9_can 57 = .ok (.ireturn, 1) := by decide +kernel
theorem dX9_can_58 : decode cX9_can 58 = .ok (.iconst 0, 1) := by decide +kernel
theorem dX9_can_59 : decode cX9_can 59 = .ok (.istore 6, 2) := by decide +kernel
theorem dX9_can_61 : decode cX9_can 61 = .ok (.bipush (-9), 2) := by decide +kernel
theorem dX9_can_63 : decode cX9_can 63 = .ok (.istore 7, 2) := by decide +kernel
theorem dX9_can_65 : decode cX9_can 65 = .ok (.iconst 1, 1) := by decide +kernel
theorem dX9_can_66 : decode cX9_can 66 = .ok (.iload_n 1, 1) := by decide +kernel
theorem dX9_can_67 : decode cX9_can 67 = .ok (.ishl, 1) := by decide +kernel
theorem dX9_can_68 : decode cX9_can 68 = .ok (.istore 8, 2) := by decide +kernel
theorem dX9_can_70 : decode cX9_can 70 = .ok (.iconst 0, 1) := by decide +kernel
theorem dX9_can_71 : decode cX9_can 71 = .ok (.istore 9, 2) := by decide +kernel
theorem dX9_can_73 : decode cX9_can 73 = .ok (.iload 9, 2) := by decide +kernel
theorem dX9_can_75 : decode cX9_can 75 = .ok (.iload_n 2, 1) := by decide +kernel
theorem dX9_can_76 : decode cX9_can 76 = .ok (.iconst 2, 1) := by decide +kernel
theorem dX9_can_77 : decode cX9_can 77 = .ok (.if_icmp .le 8, 3) := by decide +kernel
theorem dX9_can_80 : decode cX9_can 80 = .ok (.iload 8, 2) := by decide +kernel
theorem dX9_can_82 : decode cX9_can 82 = .ok (.goto 4, 3) := by decide +kernel
theorem dX9_can_85 : decode cX9_can 85 = .ok (.iconst 1, 1) := by decide +kernel
theorem dX9_can_86 : decode cX9_can 86 = .ok (.if_icmp .ge 193, 3) := by decide +kernel
theorem dX9_can_89 : decode cX9_can 89 = .ok (.iconst 0, 1) := by decide +kernel
theorem dX9_can_90 : decode cX9_can 90 = .ok (.istore 10, 2) := by decide +kernel
theorem dX9_can_92 : decode cX9_can 92 = .ok (.iload 10, 2) := by decide +kernel
theorem dX9_can_94 : decode cX9_can 94 = .ok (.iload_n 2, 1) := by decide +kernel
theorem dX9_can_95 : decode cX9_can 95 = .ok (.iconst 1, 1) := by decide +kernel
theorem dX9_can_96 : decode cX9_can 96 = .ok (.if_icmp .le 8, 3) := by decide +kernel
theorem dX9_can_99 : decode cX9_can 99 = .ok (.iload 8, 2) := by decide +kernel
theorem dX9_can_101 : decode cX9_can 101 = .ok (.goto 4, 3) := by decide +kernel
theorem dX9_can_104 : decode cX9_can 104 = .ok (.iconst 1, 1) := by decide +kernel
theorem dX9_can_105 : decode cX9_can 105 = .ok (.if_icmp .ge 168, 3) := by decide +kernel
theorem dX9_can_108 : decode cX9_can 108 = .ok (.iconst 0, 1) := by decide +kernel
theorem dX9_can_109 : decode cX9_can 109 = .ok (.istore 11, 2) := by decide +kernel
theorem dX9_can_111 : decode cX9_can 111 = .ok (.iload 11, 2) := by decide +kernel
theorem dX9_can_113 : decode cX9_can 113 = .ok (.iload 8, 2) := by decide +kernel
theorem dX9_can_115 : decode cX9_can 115 = .ok (.if_icmp .ge 152, 3) := by decide +kernel
theorem dX9_can_118 : decode cX9_can 118 = .ok (.aload_n 0, 1) := by decide +kernel
theorem dX9_can_119 : decode cX9_can 119 = .ok (.iload 11, 2) := by decide +kernel
theorem dX9_can_121 : decode cX9_can 121 = .ok (.iload_n 1, 1) := by decide +kernel
theorem dX9_can_122 : decode cX9_can 122 = .ok (.iload_n 3, 1) := by decide +kernel
theorem dX9_can_123 : decode cX9_can 123 = .ok (.iload 4, 2) := by decide +kernel
theorem dX9_can_125 : decode cX9_can 125 = .ok (.invokevirtual 318, 3) := by decide +kernel
theorem dX9_can_128 : decode cX9_can 128 = .ok (.ifCond .eq 33, 3) := by decide +kernel
theorem dX9_can_131 : decode cX9_can 131 = .ok (.aload_n 0, 1) := by decide +kernel
theorem dX9_can_132 : decode cX9_can 132 = .ok (.iload 10, 2) := by decide +kernel
theorem dX9_can_134 : decode cX9_can 134 = .ok (.iload_n 1, 1) := by decide +kernel
theorem dX9_can_135 : decode cX9_can 135 = .ok (.iload_n 3, 1) := by decide +kernel
theorem dX9_can_136 : decode cX9_can 136 = .ok (.iload 4, 2) := by decide +kernel
theorem dX9_can_138 : decode cX9_can 138 = .ok (.invokevirtual 318, 3) := by decide +kernel
theorem dX9_can_141 : decode cX9_can 141 = .ok (.ifCond .eq 20, 3) := by decide +kernel
theorem dX9_can_144 : decode cX9_can 144 = .ok (.aload_n 0, 1) := by decide +kernel
theorem dX9_can_145 : decode cX9_can 145 = .ok (.iload 9, 2) := by decide +kernel
theorem dX9_can_147 : decode cX9_can 147 = .ok (.iload_n 1, 1) := by decide +kernel
theorem dX9_can_148 : decode cX9_can 148 = .ok (.iload_n 3, 1) := by decide +kernel
theorem dX9_can_149 : decode cX9_can 149 = .ok (.iload 4, 2) := by decide +kernel
theorem dX9_can_151 : decode cX9_can 151 = .ok (.invokevirtual 318, 3) := by decide +kernel
theorem dX9_can_154 : decode cX9_can 154 = .ok (.ifCond .eq 7, 3) := by decide +kernel
theorem dX9_can_157 : decode cX9_can 157 = .ok (.iconst 1, 1) := by decide +kernel
theorem dX9_can_158 : decode cX9_can 158 = .ok (.goto 4, 3) := by decide +kernel
theorem dX9_can_161 : decode cX9_can 161 = .ok (.iconst 0, 1) := by decide +kernel
theorem dX9_can_162 : decode cX9_can 162 = .ok (.istore 12, 2) := by decide +kernel
theorem dX9_can_164 : decode cX9_can 164 = .ok (.iconst 0, 1) := by decide +kernel
theorem dX9_can_165 : decode cX9_can 165 = .ok (.istore 13, 2) := by decide +kernel
theorem dX9_can_167 : decode cX9_can 167 = .ok (.iload 13, 2) := by decide +kernel
theorem dX9_can_169 : decode cX9_can 169 = .ok (.iload_n 1, 1) := by decide +kernel
theorem dX9_can_170 : decode cX9_can 170 = .ok (.if_icmp .ge 54, 3) := by decide +kernel
theorem dX9_can_173 : decode cX9_can 173 = .ok (.iload 12, 2) := by decide +kernel
theorem dX9_can_175 : decode cX9_can 175 = .ok (.ifCond .eq 49, 3) := by decide +kernel
theorem dX9_can_178 : decode cX9_can 178 = .ok (.iload 11, 2) := by decide +kernel
theorem dX9_can_180 : decode cX9_can 180 = .ok (.iload 13, 2) := by decide +kernel
theorem dX9_can_182 : decode cX9_can 182 = .ok (.ishr, 1) := by decide +kernel
theorem dX9_can_183 : decode cX9_can 183 = .ok (.iconst 1, 1) := by decide +kernel
theorem dX9_can_184 : decode cX9_can 184 = .ok (.iand, 1) := by decide +kernel
theorem dX9_can_185 : decode cX9_can 185 = .ok (.iload 10, 2) := by decide +kernel
theorem dX9_can_187 : decode cX9_can 187 = .ok (.iload 13, 2) := by decide +kernel
theorem dX9_can_189 : decode cX9_can 189 = .ok (.ishr, 1) := by decide +kernel
theorem dX9_can_190 : decode cX9_can 190 = .ok (.iconst 1, 1) := by decide +kernel
theorem dX9_can_191 : decode cX9_can 191 = .ok (.iand, 1) := by decide +kernel
theorem dX9_can_192 : decode cX9_can 192 = .ok (.iadd, 1) := by decide +kernel
theorem dX9_can_193 : decode cX9_can 193 = .ok (.iload 9, 2) := by decide +kernel
theorem dX9_can_195 : decode cX9_can 195 = .ok (.iload 13, 2) := by decide +kernel
theorem dX9_can_197 : decode cX9_can 197 = .ok (.ishr, 1) := by decide +kernel
theorem dX9_can_198 : decode cX9_can 198 = .ok (.iconst 1, 1) := by decide +kernel
theorem dX9_can_199 : decode cX9_can 199 = .ok (.iand, 1) := by decide +kernel
theorem dX9_can_200 : decode cX9_can 200 = .ok (.iadd, 1) := by decide +kernel
theorem dX9_can_201 : decode cX9_can 201 = .ok (.aload_n 0, 1) := by decide +kernel
theorem dX9_can_202 : decode cX9_can 202 = .ok (.getfield 80, 3) := by decide +kernel
theorem dX9_can_205 : decode cX9_can 205 = .ok (.iload 13, 2) := by decide +kernel
theorem dX9_can_207 : decode cX9_can 207 = .ok (.iaload, 1) := by decide +kernel
theorem dX9_can_208 : decode cX9_can 208 = .ok (.if_icmp .lt 7, 3) := by decide +kernel
theorem dX9_can_211 : decode cX9_can 211 = .ok (.iconst 1, 1) := by decide +kernel
theorem dX9_can_212 : decode cX9_can 212 = .ok (.goto 4, 3) := by decide +kernel
theorem dX9_can_215 : decode cX9_can 215 = .ok (.iconst 0, 1) := by decide +kernel
theorem dX9_can_216 : decode cX9_can 216 = .ok (.istore 12, 2) := by decide +kernel
theorem dX9_can_218 : decode cX9_can 218 = .ok (.iinc 13 1, 3) := by decide +kernel
theorem dX9_can_221 : decode cX9_can 221 = .ok (.goto (-54), 3) := by decide +kernel
theorem dX9_can_224 : decode cX9_can 224 = .ok (.iload 12, 2) := by decide +kernel
theorem dX9_can_226 : decode cX9_can 226 = .ok (.ifCond .eq 35, 3) := by decide +kernel
theorem dX9_can_229 : decode cX9_can 229 = .ok (.iinc 6 1, 3) := by decide +kernel
theorem dX9_can_232 : decode cX9_can 232 = .ok (.iload 7, 2) := by decide +kernel
theorem dX9_can_234 : decode cX9_can 234 = .ok (.bipush (-9), 2) := by decide +kernel
theorem dX9_can_236 : decode cX9_can 236 = .ok (.if_icmp .ne 21, 3) := by decide +kernel
theorem dX9_can_239 : decode cX9_can 239 = .ok (.iload 11, 2) := by decide +kernel
theorem dX9_can_241 : decode cX9_can 241 = .ok (.bipush 64, 2) := by decide +kernel
theorem dX9_can_243 : decode cX9_can 243 = .ok (.iload 10, 2) := by decide +kernel
theorem dX9_can_245 : decode cX9_can 245 = .ok (.imul, 1) := by decide +kernel
theorem dX9_can_246 : decode cX9_can 246 = .ok (.iadd, 1) := by decide +kernel
theorem dX9_can_247 : decode cX9_can 247 = .ok (.sipush 4096, 3) := by decide +kernel
theorem dX9_can_250 : decode cX9_can 250 = .ok (.iload 9, 2) := by decide +kernel
theorem dX9_can_252 : decode cX9_can 252 = .ok (.imul, 1) := by decide +kernel
theorem dX9_can_253 : decode cX9_can 253 = .ok (.iadd, 1) := by decide +kernel
theorem dX9_can_254 : decode cX9_can 254 = .ok (.goto 5, 3) := by decide +kernel
theorem dX9_can_257 : decode cX9_can 257 = .ok (.iload 7, 2) := by decide +kernel
theorem dX9_can_259 : decode cX9_can 259 = .ok (.istore 7, 2) := by decide +kernel
theorem dX9_can_261 : decode cX9_can 261 = .ok (.iinc 11 1, 3) := by decide +kernel
theorem dX9_can_264 : decode cX9_can 264 = .ok (.goto (-153), 3) := by decide +kernel
theorem dX9_can_267 : decode cX9_can 267 = .ok (.iinc 10 1, 3) := by decide +kernel
theorem dX9_can_270 : decode cX9_can 270 = .ok (.goto (-178), 3) := by decide +kernel
theorem dX9_can_273 : decode cX9_can 273 = .ok (.iinc 9 1, 3) := by decide +kernel
theorem dX9_can_276 : decode cX9_can 276 = .ok (.goto (-203), 3) := by decide +kernel
theorem dX9_can_279 : decode cX9_can 279 = .ok (.iload 5, 2) := by decide +kernel
theorem dX9_can_281 : decode cX9_can 281 = .ok (.ifCond .ne 8, 3) := by decide +kernel
theorem dX9_can_284 : decode cX9_can 284 = .ok (.iload 6, 2) := by decide +kernel
theorem dX9_can_286 : decode cX9_can 286 = .ok (.goto 5, 3) := by decide +kernel
theorem dX9_can_289 : decode cX9_can 289 = .ok (.iload 7, 2) := by decide +kernel
theorem dX9_can_291 : decode cX9_can 291 = .ok (.ireturn, 1) := by decide +kernel
theorem dX9_lost_0 : decode cX9_lost 0 = .ok (.aload_n 0, 1) := by decide +kernel
theorem dX9_lost_1 : decode cX9_lost 1 = .ok (.iconst 0, 1) := by decide +kernel
theorem dX9_lost_2 : decode cX9_lost 2 = .ok (.putfield 124, 3) := by decide +kernel
theorem dX9_lost_5 : decode cX9_lost 5 = .ok (.iload_n 1, 1) := by decide +kernel
theorem dX9_lost_6 : decode cX9_lost 6 = .ok (.iconst 0, 1) := by decide +kernel
theorem dX9_lost_7 : decode cX9_lost 7 = .ok (.sipush 2000, 3) := by decide +kernel
theorem dX9_lost_10 : decode cX9_lost 10 = .ok (.invokestatic 137, 3) := by decide +kernel
theorem dX9_lost_13 : decode cX9_lost 13 = .ok (.ifCond .eq 24, 3) := by decide +kernel
theorem dX9_lost_16 : decode cX9_lost 16 = .ok (.iload_n 2, 1) := by decide +kernel
theorem dX9_lost_17 : decode cX9_lost 17 = .ok (.iconst 1, 1) := by decide +kernel
theorem dX9_lost_18 : decode cX9_lost 18 = .ok (.bipush 10, 2) := by decide +kernel
theorem dX9_lost_20 : decode cX9_lost 20 = .ok (.invokestatic 137, 3) := by decide +kernel
theorem dX9_lost_23 : decode cX9_lost 23 = .ok (.ifCond .eq 14, 3) := by decide +kernel
theorem dX9_lost_26 : decode cX9_lost 26 = .ok (.iload_n 3, 1) := by decide +kernel
theorem dX9_lost_27 : decode cX9_lost 27 = .ok (.iconst 0, 1) := by decide +kernel
theorem dX9_lost_28 : decode cX9_lost 28 = .ok (.sipush 240, 3) := by decide +kernel
theorem dX9_lost_31 : decode cX9_lost 31 = .ok (.invokestatic 137, 3) := by decide +kernel
theorem dX9_lost_34 : decode cX9_lost 34 = .ok (.ifCond .ne 7, 3) := by decide +kernel
theorem dX9_lost_37 : decode cX9_lost 37 = .ok (.ldc2_w 322, 3) := by decide +kernel
theorem dX9_lost_40 : decode cX9_lost 40 = .ok (.lreturn, 1) := by decide +kernel
theorem dX9_lost_41 : decode cX9_lost 41 = .ok (.iload_n 1, 1) := by decide +kernel
theorem dX9_lost_42 : decode cX9_lost 42 = .ok (.bipush 14, 2) := by decide +kernel
theorem dX9_lost_44 : decode cX9_lost 44 = .ok (.iadd, 1) := by decide +kernel
theorem dX9_lost_45 : decode cX9_lost 45 = .ok (.bipush 15, 2) := by decide +kernel
theorem dX9_lost_47 : decode cX9_lost 47 = .ok (.idiv, 1) := by decide +kernel
theorem dX9_lost_48 : decode cX9_lost 48 = .ok (.istore 4, 2) := by decide +kernel
theorem dX9_lost_50 : decode cX9_lost 50 = .ok (.iconst 0, 1) := by decide +kernel
theorem dX9_lost_51 : decode cX9_lost 51 = .ok (.istore 5, 2) := by decide +kernel
theorem dX9_lost_53 : decode cX9_lost 53 = .ok (.iload 5, 2) := by decide +kernel
theorem dX9_lost_55 : decode cX9_lost 55 = .ok (.sipush 140, 3) := by decide +kernel
theorem dX9_lost_58 : decode cX9_lost 58 = .ok (.if_icmp .ge 26, 3) := by decide +kernel
theorem dX9_lost_61 : decode cX9_lost 61 = .ok (.aload_n 0, 1) := by decide +kernel
theorem dX9_lost_62 : decode cX9_lost 62 = .ok (.getfield 114, 3) := by decide +kernel
theorem dX9_lost_65 : decode cX9_lost 65 = .ok (.iload 5, 2) := by decide +kernel
theorem dX9_lost_67 : decode cX9_lost 67 = .ok (.iload 5, 2) := by decide +kernel
theorem dX9_lost_69 : decode cX9_lost 69 = .ok (.ifCond .ne 7, 3) := by decide +kernel
theorem dX9_lost_72 : decode cX9_lost 72 = .ok (.lconst 1, 1) := by decide +kernel
theorem dX9_lost_73 : decode cX9_lost 73 = .ok (.goto 4, 3) := by decide +kernel
theorem dX9_lost_76 : decode cX9_lost 76 = .ok (.lconst 0, 1) := by decide +kernel
theorem dX9_lost_77 : decode cX9_lost 77 = .ok (.lastore, 1) := by decide +kernel
theorem dX9_lost_78 : decode cX9_lost 78 = .ok (.iinc 5 1, 3) := by decide +kernel
theorem dX9_lost_81 : decode cX9_lost 81 = .ok (.goto (-28), 3) := by decide +kernel
theorem dX9_lost_84 : decode cX9_lost 84 = .ok (.iconst 0, 1) := by decide +kernel
theorem dX9_lost_85 : decode cX9_lost 85 = .ok (.istore 5, 2) := by decide +kernel
theorem dX9_lost_87 : decode cX9_lost 87 = .ok (.iload 5, 2) := by decide +kernel
theorem dX9_lost_89 : decode cX9_lost 89 = .ok (.iload_n 2, 1) := by decide +kernel
theorem dX9_lost_90 : decode cX9_lost 90 = .ok (.if_icmp .ge 108, 3) := by decide +kernel
theorem dX9_lost_93 : decode cX9_lost 93 = .ok (.iconst 0, 1) := by decide +kernel
theorem dX9_lost_94 : decode cX9_lost 94 = .ok (.istore 6, 2) := by decide +kernel
theorem dX9_lost_96 : decode cX9_lost 96 = .ok (.iload 6, 2) := by decide +kernel
theorem dX9_lost_98 : decode cX9_lost 98 = .ok (.iload 4, 2) := by decide +kernel
theorem dX9_lost_100 : decode cX9_lost 100 = .ok (.if_icmp .gt 62, 3) := by decide +kernel
theorem dX9_lost_103 : decode cX9_lost 103 = .ok (.aload_n 0, 1) := by decide +kernel
theorem dX9_lost_104 : decode cX9_lost 104 = .ok (.getfield 117, 3) := by decide +kernel
theorem dX9_lost_107 : decode cX9_lost 107 = .ok (.iload 6, 2) := by decide +kernel
theorem dX9_lost_109 : decode cX9_lost 109 = .ok (.lconst 0, 1) := by decide +kernel
theorem dX9_lost_110 : decode cX9_lost 110 = .ok (.lastore, 1) := by decide +kernel
theorem dX9_lost_111 : decode cX9_lost 111 = .ok (.iconst 0, 1) := by decide +kernel
theorem dX9_lost_112 : decode cX9_lost 112 = .ok (.istore 7, 2) := by decide +kernel
theorem dX9_lost_114 : decode cX9_lost 114 = .ok (.iload 7, 2) := by decide +kernel
theorem dX9_lost_116 : decode cX9_lost 116 = .ok (.iload_n 3, 1) := by decide +kernel
theorem dX9_lost_117 : decode cX9_lost 117 = .ok (.bipush 15, 2) := by decide +kernel
theorem dX9_lost_119 : decode cX9_lost 119 = .ok (.idiv, 1) := by decide +kernel
theorem dX9_lost_120 : decode cX9_lost 120 = .ok (.if_icmp .gt 36, 3) := by decide +kernel
theorem dX9_lost_123 : decode cX9_lost 123 = .ok (.iload 7, 2) := by decide +kernel
theorem dX9_lost_125 : decode cX9_lost 125 = .ok (.iload 6, 2) := by decide +kernel
theorem dX9_lost_127 : decode cX9_lost 127 = .ok (.if_icmp .gt 29, 3) := by decide +kernel
theorem dX9_lost_130 : decode cX9_lost 130 = .ok (.aload_n 0, 1) := by decide +kernel
theorem dX9_lost_131 : decode cX9_lost 131 = .ok (.getfield 117, 3) := by decide +kernel
theorem dX9_lost_134 : decode cX9_lost 134 = .ok (.iload 6, 2) := by decide +kernel
theorem dX9_lost_136 : decode cX9_lost 136 = .ok (.dup2, 1) := by decide +kernel
theorem dX9_lost_137 : decode cX9_lost 137 = .ok (.laload, 1) := by decide +kernel
theorem dX9_lost_138 : decode cX9_lost 138 = .ok (.aload_n 0, 1) := by decide +kernel
theorem dX9_lost_139 : decode cX9_lost 139 = .ok (.getfield 114, 3) := by decide +kernel
theorem dX9_lost_142 : decode cX9_lost 142 = .ok (.iload 6, 2) := by decide +kernel
theorem dX9_lost_144 : decode cX9_lost 144 = .ok (.iload 7, 2) := by decide +kernel
theorem dX9_lost_146 : decode cX9_lost 146 = .ok (.isub, 1) := by decide +kernel
theorem dX9_lost_147 : decode cX9_lost 147 = .ok (.laload, 1) := by decide +kernel
theorem dX9_lost_148 : decode cX9_lost 148 = .ok (.ladd, 1) := by decide +kernel
theorem dX9_lost_149 : decode cX9_lost 149 = .ok (.lastore, 1) := by decide +kernel
theorem dX9_lost_150 : decode cX9_lost 150 = .ok (.iinc 7 1, 3) := by decide +kernel
theorem dX9_lost_153 : decode cX9_lost 153 = .ok (.goto (-39), 3) := by decide +kernel
theorem dX9_lost_156 : decode cX9_lost 156 = .ok (.iinc 6 1, 3) := by decide +kernel
theorem dX9_lost_159 : decode cX9_lost 159 = .ok (.goto (-63), 3) := by decide +kernel
theorem dX9_lost_162 : decode cX9_lost 162 = .ok (.iconst 0, 1) := by decide +kernel
theorem dX9_lost_163 : decode cX9_lost 163 = .ok (.istore 6, 2) := by decide +kernel
theorem dX9_lost_165 : decode cX9_lost 165 = .ok (.iload 6, 2) := by decide +kernel
theorem dX9_lost_167 : decode cX9_lost 167 = .ok (.iload 4, 2) := by decide +kernel
theorem dX9_lost_169 : decode cX9_lost 169 = .ok (.if_icmp .gt 23, 3) := by decide +kernel
theorem dX9_lost_172 : decode cX9_lost 172 = .ok (.aload_n 0, 1) := by decide +kernel
theorem dX9_lost_173 : decode cX9_lost 173 = .ok (.getfield 114, 3) := by decide +kernel
theorem dX9_lost_176 : decode cX9_lost 176 = .ok (.iload 6, 2) := by decide +kernel
theorem dX9_lost_178 : decode cX9_lost 178 = .ok (.aload_n 0, 1) := by decide +kernel
theorem dX9_lost_179 : decode cX9_lost 179 = .ok (.getfield 117, 3) := by decide +kernel
theorem dX9_lost_182 : decode cX9_lost 182 = .ok (.iload 6, 2) := by decide +kernel
theorem dX9_lost_184 : decode cX9_lost 184 = .ok (.laload, 1) := by decide +kernel
theorem dX9_lost_185 : decode cX9_lost 185 = .ok (.lastore, 1) := by decide +kernel
theorem dX9_lost_186 : decode cX9_lost 186 = .ok (.iinc 6 1, 3) := by decide +kernel
theorem dX9_lost_189 : decode cX9_lost 189 = .ok (.goto (-24), 3) := by decide +kernel
theorem dX9_lost_192 : decode cX9_lost 192 = .ok (.iinc 5 1, 3) := by decide +kernel
theorem dX9_lost_195 : decode cX9_lost 195 = .ok (.goto (-108), 3) := by decide +kernel
theorem dX9_lost_198 : decode cX9_lost 198 = .ok (.aload_n 0, 1) := by decide +kernel
theorem dX9_lost_199 : decode cX9_lost 199 = .ok (.getfield 114, 3) := by decide +kernel
theorem dX9_lost_202 : decode cX9_lost 202 = .ok (.iload 4, 2) := by decide +kernel
theorem dX9_lost_204 : decode cX9_lost 204 = .ok (.laload, 1) := by decide +kernel
theorem dX9_lost_205 : decode cX9_lost 205 = .ok (.lreturn, 1) := by decide +kernel
theorem dX9_bench_0 : decode cX9_bench 0 = .ok (.aload_n 0, 1) := by decide +kernel
theorem dX9_bench_1 : decode cX9_bench 1 = .ok (.iconst 0, 1) := by decide +kernel
theorem dX9_bench_2 : decode cX9_bench 2 = .ok (.putfield 124, 3) := by decide +kernel
theorem dX9_bench_5 : decode cX9_bench 5 = .ok (.iload_n 1, 1) := by decide +kernel
theorem dX9_bench_6 : decode cX9_bench 6 = .ok (.iconst 0, 1) := by decide +kernel
theorem dX9_bench_7 : decode cX9_bench 7 = .ok (.sipush 1023, 3) := by decide +kernel
theorem dX9_bench_10 : decode cX9_bench 10 = .ok (.invokestatic 137, 3) := by decide +kernel
theorem dX9_bench_13 : decode cX9_bench 13 = .ok (.ifCond .ne 5, 3) := by decide +kernel
theorem dX9_bench_16 : decode cX9_bench 16 = .ok (.iconst (-1), 1) := by decide +kernel
theorem dX9_bench_17 : decode cX9_bench 17 = .ok (.ireturn, 1) := by decide +kernel
theorem dX9_bench_18 : decode cX9_bench 18 = .ok (.aload_n 0, 1) := by decide +kernel
theorem dX9_bench_19 : decode cX9_bench 19 = .ok (.getfield 324, 3) := by decide +kernel
theorem dX9_bench_22 : decode cX9_bench 22 = .ok (.iconst 5, 1) := by decide +kernel
theorem dX9_bench_23 : decode cX9_bench 23 = .ok (.if_icmp .ne 6, 3) := by decide +kernel
theorem dX9_bench_26 : decode cX9_bench 26 = .ok (.bipush (-3), 2) := by decide +kernel
theorem dX9_bench_28 : decode cX9_bench 28 = .ok (.ireturn, 1) := by decide +kernel
theorem dX9_bench_29 : decode cX9_bench 29 = .ok (.aload_n 0, 1) := by decide +kernel
theorem dX9_bench_30 : decode cX9_bench 30 = .ok (.getfield 83, 3) := by decide +kernel
theorem dX9_bench_33 : decode cX9_bench 33 = .ok (.aload_n 0, 1) := by decide +kernel
theorem dX9_bench_34 : decode cX9_bench 34 = .ok (.getfield 324, 3) := by decide +kernel
theorem dX9_bench_37 : decode cX9_bench 37 = .ok (.iload_n 1, 1) := by decide +kernel
theorem dX9_bench_38 : decode cX9_bench 38 = .ok (.iastore, 1) := by decide +kernel
theorem dX9_bench_39 : decode cX9_bench 39 = .ok (.aload_n 0, 1) := by decide +kernel
theorem dX9_bench_40 : decode cX9_bench 40 = .ok (.dup, 1) := by decide +kernel
theorem dX9_bench_41 : decode cX9_bench 41 = .ok (.getfield 324, 3) := by decide +kernel
theorem dX9_bench_44 : decode cX9_bench 44 = .ok (.iconst 1, 1) := by decide +kernel
theorem dX9_bench_45 : decode cX9_bench 45 = .ok (.iadd, 1) := by decide +kernel
theorem dX9_bench_46 : decode cX9_bench 46 = .ok (.putfield 324, 3) := by decide +kernel
theorem dX9_bench_49 : decode cX9_bench 49 = .ok (.aload_n 0, 1) := by decide +kernel
theorem dX9_bench_50 : decode cX9_bench 50 = .ok (.getfield 324, 3) := by decide +kernel
theorem dX9_bench_53 : decode cX9_bench 53 = .ok (.iconst 1, 1) := by decide +kernel
theorem dX9_bench_54 : decode cX9_bench 54 = .ok (.isub, 1) := by decide +kernel
theorem dX9_bench_55 : decode cX9_bench 55 = .ok (.ireturn, 1) := by decide +kernel
theorem dX9_base_0 : decode cX9_base 0 = .ok (.aload_n 0, 1) := by decide +kernel
theorem dX9_base_1 : decode cX9_base 1 = .ok (.iconst 0, 1) := by decide +kernel
theorem dX9_base_2 : decode cX9_base 2 = .ok (.putfield 124, 3) := by decide +kernel
theorem dX9_base_5 : decode cX9_base 5 = .ok (.iload_n 1, 1) := by decide +kernel
theorem dX9_base_6 : decode cX9_base 6 = .ok (.iconst 0, 1) := by decide +kernel
theorem dX9_base_7 : decode cX9_base 7 = .ok (.iconst 5, 1) := by decide +kernel
theorem dX9_base_8 : decode cX9_base 8 = .ok (.invokestatic 137, 3) := by decide +kernel
theorem dX9_base_11 : decode cX9_base 11 = .ok (.ifCond .eq 14, 3) := by decide +kernel
theorem dX9_base_14 : decode cX9_base 14 = .ok (.iload_n 2, 1) := by decide +kernel
theorem dX9_base_15 : decode cX9_base 15 = .ok (.iconst 0, 1) := by decide +kernel
theorem dX9_base_16 : decode cX9_base 16 = .ok (.sipush 500, 3) := by decide +kernel
theorem dX9_base_19 : decode cX9_base 19 = .ok (.invokestatic 137, 3) := by decide +kernel
theorem dX9_base_22 : decode cX9_base 22 = .ok (.ifCond .ne 5, 3) := by decide +kernel
theorem dX9_base_25 : decode cX9_base 25 = .ok (.iconst (-1), 1) := by decide +kernel
theorem dX9_base_26 : decode cX9_base 26 = .ok (.ireturn, 1) := by decide +kernel
theorem dX9_base_27 : decode cX9_base 27 = .ok (.aload_n 0, 1) := by decide +kernel
theorem dX9_base_28 : decode cX9_base 28 = .ok (.getfield 86, 3) := by decide +kernel
theorem dX9_base_31 : decode cX9_base 31 = .ok (.iload_n 1, 1) := by decide +kernel
theorem dX9_base_32 : decode cX9_base 32 = .ok (.iaload, 1) := by decide +kernel
theorem dX9_base_33 : decode cX9_base 33 = .ok (.istore_n 3, 1) := by decide +kernel
theorem dX9_base_34 : decode cX9_base 34 = .ok (.aload_n 0, 1) := by decide +kernel
theorem dX9_base_35 : decode cX9_base 35 = .ok (.getfield 86, 3) := by decide +kernel
theorem dX9_base_38 : decode cX9_base 38 = .ok (.iload_n 1, 1) := by decide +kernel
theorem dX9_base_39 : decode cX9_base 39 = .ok (.iload_n 2, 1) := by decide +kernel
theorem dX9_base_40 : decode cX9_base 40 = .ok (.iastore, 1) := by decide +kernel
theorem dX9_base_41 : decode cX9_base 41 = .ok (.iload_n 3, 1) := by decide +kernel
theorem dX9_base_42 : decode cX9_base 42 = .ok (.ireturn, 1) := by decide +kernel
theorem dX9_sue_0 : decode cX9_sue 0 = .ok (.aload_n 0, 1) := by decide +kernel
theorem dX9_sue_1 : decode cX9_sue 1 = .ok (.iconst 0, 1) := by decide +kernel
theorem dX9_sue_2 : decode cX9_sue 2 = .ok (.putfield 124, 3) := by decide +kernel
theorem dX9_sue_5 : decode cX9_sue 5 = .ok (.aload_n 0, 1) := by decide +kernel
theorem dX9_sue_6 : decode cX9_sue 6 = .ok (.iload_n 2, 1) := by decide +kernel
theorem dX9_sue_7 : decode cX9_sue 7 = .ok (.iload_n 1, 1) := by decide +kernel
theorem dX9_sue_8 : decode cX9_sue 8 = .ok (.iload_n 3, 1) := by decide +kernel
theorem dX9_sue_9 : decode cX9_sue 9 = .ok (.invokevirtual 265, 3) := by decide +kernel
theorem dX9_sue_12 : decode cX9_sue 12 = .ok (.ifCond .eq 13, 3) := by decide +kernel
theorem dX9_sue_15 : decode cX9_sue 15 = .ok (.iload 4, 2) := by decide +kernel
theorem dX9_sue_17 : decode cX9_sue 17 = .ok (.iconst 0, 1) := by decide +kernel
theorem dX9_sue_18 : decode cX9_sue 18 = .ok (.iconst 5, 1) := by decide +kernel
theorem dX9_sue_19 : decode cX9_sue 19 = .ok (.invokestatic 137, 3) := by decide +kernel
theorem dX9_sue_22 : decode cX9_sue 22 = .ok (.ifCond .ne 5, 3) := by decide +kernel
theorem dX9_sue_25 : decode cX9_sue 25 = .ok (.iconst (-1), 1) := by decide +kernel
theorem dX9_sue_26 : decode cX9_sue 26 = .ok (.ireturn, 1) := by decide +kernel
theorem dX9_sue_27 : decode cX9_sue 27 = .ok (.iconst 0, 1) := by decide +kernel
theorem dX9_sue_28 : decode cX9_sue 28 = .ok (.istore 5, 2) := by decide +kernel
theorem dX9_sue_30 : decode cX9_sue 30 = .ok (.iconst 0, 1) := by decide +kernel
theorem dX9_sue_31 : decode cX9_sue 31 = .ok (.istore 6, 2) := by decide +kernel
theorem dX9_sue_33 : decode cX9_sue 33 = .ok (.iload 6, 2) := by decide +kernel
theorem dX9_sue_35 : decode cX9_sue 35 = .ok (.aload_n 0, 1) := by decide +kernel
theorem dX9_sue_36 : decode cX9_sue 36 = .ok (.getfield 275, 3) := by decide +kernel
theorem dX9_sue_39 : decode cX9_sue 39 = .ok (.if_icmp .ge 41, 3) := by decide +kernel
theorem dX9_sue_42 : decode cX9_sue 42 = .ok (.iload 5, 2) := by decide +kernel
theorem dX9_sue_44 : decode cX9_sue 44 = .ok (.aload_n 0, 1) := by decide +kernel
theorem dX9_sue_45 : decode cX9_sue 45 = .ok (.iload 6, 2) := by decide +kernel
theorem dX9_sue_47 : decode cX9_sue 47 = .ok (.iload_n 2, 1) := by decide +kernel
theorem dX9_sue_48 : decode cX9_sue 48 = .ok (.iload_n 3, 1) := by decide +kernel
theorem dX9_sue_49 : decode cX9_sue 49 = .ok (.invokevirtual 287, 3) := by decide +kernel
theorem dX9_sue_52 : decode cX9_sue 52 = .ok (.ifCond .eq 18, 3) := by decide +kernel
theorem dX9_sue_55 : decode cX9_sue 55 = .ok (.aload_n 0, 1) := by decide +kernel
theorem dX9_sue_56 : decode cX9_sue 56 = .ok (.getfield 59, 3) := by decide +kernel
theorem dX9_sue_59 : decode cX9_sue 59 = .ok (.iload 6, 2) := by decide +kernel
theorem dX9_sue_61 : decode cX9_sue 61 = .ok (.iaload, 1) := by decide +kernel
theorem dX9_sue_62 : decode cX9_sue 62 = .ok (.iload_n 1, 1) := by decide +kernel
theorem dX9_sue_63 : decode cX9_sue 63 = .ok (.if_icmp .ne 7, 3) := by decide +kernel
theorem dX9_sue_66 : decode cX9_sue 66 = .ok (.iconst 1, 1) := by decide +kernel
theorem dX9_sue_67 : decode cX9_sue 67 = .ok (.goto 4, 3) := by decide +kernel
theorem dX9_sue_70 : decode cX9_sue 70 = .ok (.iconst 0, 1) := by decide +kernel
theorem dX9_sue_71 : decode cX9_sue 71 = .ok (.ior, 1) := by decide +kernel
theorem dX9_sue_72 : decode cX9_sue 72 = .ok (.istore 5, 2) := by decide +kernel
theorem dX9_sue_74 : decode cX9_sue 74 = .ok (.iinc 6 1, 3) := by decide +kernel
theorem dX9_sue_77 : decode cX9_sue 77 = .ok (.goto (-44), 3) := by decide +kernel
theorem dX9_sue_80 : decode cX9_sue 80 = .ok (.iconst 0, 1) := by decide +kernel
theorem dX9_sue_81 : decode cX9_sue 81 = .ok (.istore 6, 2) := by decide +kernel
theorem dX9_sue_83 : decode cX9_sue 83 = .ok (.iload 6, 2) := by decide +kernel
theorem dX9_sue_85 : decode cX9_sue 85 = .ok (.aload_n 0, 1) := by decide +kernel
theorem dX9_sue_86 : decode cX9_sue 86 = .ok (.getfield 324, 3) := by decide +kernel
theorem dX9_sue_89 : decode cX9_sue 89 = .ok (.if_icmp .ge 29, 3) := by decide +kernel
theorem dX9_sue_92 : decode cX9_sue 92 = .ok (.aload_n 0, 1) := by decide +kernel
theorem dX9_sue_93 : decode cX9_sue 93 = .ok (.getfield 83, 3) := by decide +kernel
theorem dX9_sue_96 : decode cX9_sue 96 = .ok (.iload 6, 2) := by decide +kernel
theorem dX9_sue_98 : decode cX9_sue 98 = .ok (.iaload, 1) := by decide +kernel
theorem dX9_sue_99 : decode cX9_sue 99 = .ok (.aload_n 0, 1) := by decide +kernel
theorem dX9_sue_100 : decode cX9_sue 100 = .ok (.getfield 17, 3) := by decide +kernel
theorem dX9_sue_103 : decode cX9_sue 103 = .ok (.iload_n 1, 1) := by decide +kernel
theorem dX9_sue_104 : decode cX9_sue 104 = .ok (.iaload, 1) := by decide +kernel
theorem dX9_sue_105 : decode cX9_sue 105 = .ok (.ishr, 1) := by decide +kernel
theorem dX9_sue_106 : decode cX9_sue 106 = .ok (.iconst 1, 1) := by decide +kernel
theorem dX9_sue_107 : decode cX9_sue 107 = .ok (.iand, 1) := by decide +kernel
theorem dX9_sue_108 : decode cX9_sue 108 = .ok (.iconst 1, 1) := by decide +kernel
theorem dX9_sue_109 : decode cX9_sue 109 = .ok (.if_icmp .ne 9, 3) := by decide +kernel
theorem dX9_sue_112 : decode cX9_sue 112 = .ok (.iinc 6 1, 3) := by decide +kernel
theorem dX9_sue_115 : decode cX9_sue 115 = .ok (.goto (-32), 3) := by decide +kernel
theorem dX9_sue_118 : decode cX9_sue 118 = .ok (.iload 5, 2) := by decide +kernel
theorem dX9_sue_120 : decode cX9_sue 120 = .ok (.ifCond .eq 24, 3) := by decide +kernel
theorem dX9_sue_123 : decode cX9_sue 123 = .ok (.iload 6, 2) := by decide +kernel
theorem dX9_sue_125 : decode cX9_sue 125 = .ok (.aload_n 0, 1) := by decide +kernel
theorem dX9_sue_126 : decode cX9_sue 126 = .ok (.getfield 324, 3) := by decide +kernel
theorem dX9_sue_129 : decode cX9_sue 129 = .ok (.if_icmp .eq 15, 3) := by decide +kernel
theorem dX9_sue_132 : decode cX9_sue 132 = .ok (.aload_n 0, 1) := by decide +kernel
theorem dX9_sue_133 : decode cX9_sue 133 = .ok (.iload_n 2, 1) := by decide +kernel
theorem dX9_sue_134 : decode cX9_sue 134 = .ok (.iload_n 3, 1) := by decide +kernel
theorem dX9_sue_135 : decode cX9_sue 135 = .ok (.iload 4, 2) := by decide +kernel
theorem dX9_sue_137 : decode cX9_sue 137 = .ok (.invokevirtual 299, 3) := by decide +kernel
theorem dX9_sue_140 : decode cX9_sue 140 = .ok (.iconst 2, 1) := by decide +kernel
theorem dX9_sue_141 : decode cX9_sue 141 = .ok (.if_icmp .eq 6, 3) := by decide +kernel
theorem dX9_sue_144 : decode cX9_sue 144 = .ok (.bipush (-2), 2) := by decide +kernel
theorem dX9_sue_146 : decode cX9_sue 146 = .ok (.ireturn, 1) := by decide +kernel
theorem dX9_sue_147 : decode cX9_sue 147 = .ok (.aload_n 0, 1) := by decide +kernel
theorem dX9_sue_148 : decode cX9_sue 148 = .ok (.getfield 327, 3) := by decide +kernel
theorem dX9_sue_151 : decode cX9_sue 151 = .ok (.bipush 20, 2) := by decide +kernel
theorem dX9_sue_153 : decode cX9_sue 153 = .ok (.if_icmp .ne 6, 3) := by decide +kernel
theorem dX9_sue_156 : decode cX9_sue 156 = .ok (.bipush (-3), 2) := by decide +kernel
theorem dX9_sue_158 : decode cX9_sue 158 = .ok (.ireturn, 1) := by decide +kernel
theorem dX9_sue_159 : decode cX9_sue 159 = .ok (.aload_n 0, 1) := by decide +kernel
theorem dX9_sue_160 : decode cX9_sue 160 = .ok (.getfield 89, 3) := by decide +kernel
theorem dX9_sue_163 : decode cX9_sue 163 = .ok (.aload_n 0, 1) := by decide +kernel
theorem dX9_sue_164 : decode cX9_sue 164 = .ok (.getfield 327, 3) := by decide +kernel
theorem dX9_sue_167 : decode cX9_sue 167 = .ok (.iload_n 1, 1) := by decide +kernel
theorem dX9_sue_168 : decode cX9_sue 168 = .ok (.iastore, 1) := by decide +kernel
theorem dX9_sue_169 : decode cX9_sue 169 = .ok (.aload_n 0, 1) := by decide +kernel
theorem dX9_sue_170 : decode cX9_sue 170 = .ok (.getfield 92, 3) := by decide +kernel
theorem dX9_sue_173 : decode cX9_sue 173 = .ok (.aload_n 0, 1) := by decide +kernel
theorem dX9_sue_174 : decode cX9_sue 174 = .ok (.getfield 327, 3) := by decide +kernel
theorem dX9_sue_177 : decode cX9_sue 177 = .ok (.iload_n 2, 1) := by decide +kernel
theorem dX9_sue_178 : decode cX9_sue 178 = .ok (.iastore, 1) := by decide +kernel
theorem dX9_sue_179 : decode cX9_sue 179 = .ok (.aload_n 0, 1) := by decide +kernel
theorem dX9_sue_180 : decode cX9_sue 180 = .ok (.getfield 95, 3) := by decide +kernel
theorem dX9_sue_183 : decode cX9_sue 183 = .ok (.aload_n 0, 1) := by decide +kernel
theorem dX9_sue_184 : decode cX9_sue 184 = .ok (.getfield 327, 3) := by decide +kernel
theorem dX9_sue_187 : decode cX9_sue 187 = .ok (.iload 4, 2) := by decide +kernel
theorem dX9_sue_189 : decode cX9_sue 189 = .ok (.iastore, 1) := by decide +kernel
theorem dX9_sue_190 : decode cX9_sue 190 = .ok (.aload_n 0, 1) := by decide +kernel
theorem dX9_sue_191 : decode cX9_sue 191 = .ok (.getfield 98, 3) := by decide +kernel
theorem dX9_sue_194 : decode cX9_sue 194 = .ok (.aload_n 0, 1) := by decide +kernel
theorem dX9_sue_195 : decode cX9_sue 195 = .ok (.getfield 327, 3) := by decide +kernel
theorem dX9_sue_198 : decode cX9_sue 198 = .ok (.iload 6, 2) := by decide +kernel
theorem dX9_sue_200 : decode cX9_sue 200 = .ok (.iastore, 1) := by decide +kernel
theorem dX9_sue_201 : decode cX9_sue 201 = .ok (.aload_n 0, 1) := by decide +kernel
theorem dX9_sue_202 : decode cX9_sue 202 = .ok (.getfield 101, 3) := by decide +kernel
theorem dX9_sue_205 : decode cX9_sue 205 = .ok (.aload_n 0, 1) := by decide +kernel
theorem dX9_sue_206 : decode cX9_sue 206 = .ok (.getfield 327, 3) := by decide +kernel
theorem dX9_sue_209 : decode cX9_sue 209 = .ok (.iconst 1, 1) := by decide +kernel
theorem dX9_sue_210 : decode cX9_sue 210 = .ok (.bastore, 1) := by decide +kernel
theorem dX9_sue_211 : decode cX9_sue 211 = .ok (.aload_n 0, 1) := by decide +kernel
theorem dX9_sue_212 : decode cX9_sue 212 = .ok (.dup, 1) := by decide +kernel
theorem dX9_sue_213 : decode cX9_sue 213 = .ok (.getfield 327, 3) := by decide +kernel
theorem dX9_sue_216 : decode cX9_sue 216 = .ok (.iconst 1, 1) := by decide +kernel
theorem dX9_sue_217 : decode cX9_sue 217 = .ok (.iadd, 1) := by decide +kernel
theorem dX9_sue_218 : decode cX9_sue 218 = .ok (.putfield 327, 3) := by decide +kernel
theorem dX9_sue_221 : decode cX9_sue 221 = .ok (.aload_n 0, 1) := by decide +kernel
theorem dX9_sue_222 : decode cX9_sue 222 = .ok (.getfield 327, 3) := by decide +kernel
theorem dX9_sue_225 : decode cX9_sue 225 = .ok (.iconst 1, 1) := by decide +kernel
theorem dX9_sue_226 : decode cX9_sue 226 = .ok (.isub, 1) := by decide +kernel
theorem dX9_sue_227 : decode cX9_sue 227 = .ok (.ireturn, 1) := by decide +kernel
theorem dX9_fineOf_0 : decode cX9_fineOf 0 = .ok (.iconst 1, 1) := by decide +kernel
theorem dX9_fineOf_1 : decode cX9_fineOf 1 = .ok (.istore_n 2, 1) := by decide +kernel
theorem dX9_fineOf_2 : decode cX9_fineOf 2 = .ok (.iconst 0, 1) := by decide +kernel
theorem dX9_fineOf_3 : decode cX9_fineOf 3 = .ok (.istore_n 3, 1) := by decide +kernel
theorem dX9_fineOf_4 : decode cX9_fineOf 4 = .ok (.iload_n 3, 1) := by decide +kernel
theorem dX9_fineOf_5 : decode cX9_fineOf 5 = .ok (.iload_n 1, 1) := by decide +kernel
theorem dX9_fineOf_6 : decode cX9_fineOf 6 = .ok (.if_icmp .ge 41, 3) := by decide +kernel
theorem dX9_fineOf_9 : decode cX9_fineOf 9 = .ok (.iload_n 2, 1) := by decide +kernel
theorem dX9_fineOf_10 : decode cX9_fineOf 10 = .ok (.aload_n 0, 1) := by decide +kernel
theorem dX9_fineOf_11 : decode cX9_fineOf 11 = .ok (.getfield 101, 3) := by decide +kernel
theorem dX9_fineOf_14 : decode cX9_fineOf 14 = .ok (.iload_n 3, 1) := by decide +kernel
theorem dX9_fineOf_15 : decode cX9_fineOf 15 = .ok (.baload, 1) := by decide +kernel
theorem dX9_fineOf_16 : decode cX9_fineOf 16 = .ok (.ifCond .eq 22, 3) := by decide +kernel
theorem dX9_fineOf_19 : decode cX9_fineOf 19 = .ok (.aload_n 0, 1) := by decide +kernel
theorem dX9_fineOf_20 : decode cX9_fineOf 20 = .ok (.getfield 89, 3) := by decide +kernel
theorem dX9_fineOf_23 : decode cX9_fineOf 23 = .ok (.iload_n 3, 1) := by decide +kernel
theorem dX9_fineOf_24 : decode cX9_fineOf 24 = .ok (.iaload, 1) := by decide +kernel
theorem dX9_fineOf_25 : decode cX9_fineOf 25 = .ok (.aload_n 0, 1) := by decide +kernel
theorem dX9_fineOf_26 : decode cX9_fineOf 26 = .ok (.getfield 89, 3) := by decide +kernel
theorem dX9_fineOf_29 : decode cX9_fineOf 29 = .ok (.iload_n 1, 1) := by decide +kernel
theorem dX9_fineOf_30 : decode cX9_fineOf 30 = .ok (.iaload, 1) := by decide +kernel
theorem dX9_fineOf_31 : decode cX9_fineOf 31 = .ok (.if_icmp .ne 7, 3) := by decide +kernel
theorem dX9_fineOf_34 : decode cX9_fineOf 34 = .ok (.iconst 1, 1) := by decide +kernel
theorem dX9_fineOf_35 : decode cX9_fineOf 35 = .ok (.goto 4, 3) := by decide +kernel
theorem dX9_fineOf_38 : decode cX9_fineOf 38 = .ok (.iconst 0, 1) := by decide +kernel
theorem dX9_fineOf_39 : decode cX9_fineOf 39 = .ok (.iadd, 1) := by decide +kernel
theorem dX9_fineOf_40 : decode cX9_fineOf 40 = .ok (.istore_n 2, 1) := by decide +kernel
theorem dX9_fineOf_41 : decode cX9_fineOf 41 = .ok (.iinc 3 1, 3) := by decide +kernel
theorem dX9_fineOf_44 : decode cX9_fineOf 44 = .ok (.goto (-40), 3) := by decide +kernel
theorem dX9_fineOf_47 : decode cX9_fineOf 47 = .ok (.aload_n 0, 1) := by decide +kernel
theorem dX9_fineOf_48 : decode cX9_fineOf 48 = .ok (.getfield 101, 3) := by decide +kernel
theorem dX9_fineOf_51 : decode cX9_fineOf 51 = .ok (.iload_n 1, 1) := by decide +kernel
theorem dX9_fineOf_52 : decode cX9_fineOf 52 = .ok (.baload, 1) := by decide +kernel
theorem dX9_fineOf_53 : decode cX9_fineOf 53 = .ok (.ifCond .eq 19, 3) := by decide +kernel
theorem dX9_fineOf_56 : decode cX9_fineOf 56 = .ok (.aload_n 0, 1) := by decide +kernel
theorem dX9_fineOf_57 : decode cX9_fineOf 57 = .ok (.getfield 86, 3) := by decide +kernel
theorem dX9_fineOf_60 : decode cX9_fineOf 60 = .ok (.aload_n 0, 1) := by decide +kernel
theorem dX9_fineOf_61 : decode cX9_fineOf 61 = .ok (.getfield 95, 3) := by decide +kernel
theorem dX9_fineOf_64 : decode cX9_fineOf 64 = .ok (.iload_n 1, 1) := by decide +kernel
theorem dX9_fineOf_65 : decode cX9_fineOf 65 = .ok (.iaload, 1) := by decide +kernel
theorem dX9_fineOf_66 : decode cX9_fineOf 66 = .ok (.iaload, 1) := by decide +kernel
theorem dX9_fineOf_67 : decode cX9_fineOf 67 = .ok (.iload_n 2, 1) := by decide +kernel
theorem dX9_fineOf_68 : decode cX9_fineOf 68 = .ok (.imul, 1) := by decide +kernel
theorem dX9_fineOf_69 : decode cX9_fineOf 69 = .ok (.goto 4, 3) := by decide +kernel
theorem dX9_fineOf_72 : decode cX9_fineOf 72 = .ok (.iconst 0, 1) := by decide +kernel
theorem dX9_fineOf_73 : decode cX9_fineOf 73 = .ok (.ireturn, 1) := by decide +kernel
theorem dX9_suit_0 : decode cX9_suit 0 = .ok (.aload_n 0, 1) := by decide +kernel
theorem dX9_suit_1 : decode cX9_suit 1 = .ok (.iconst 0, 1) := by decide +kernel
theorem dX9_suit_2 : decode cX9_suit 2 = .ok (.putfield 124, 3) := by decide +kernel
theorem dX9_suit_5 : decode cX9_suit 5 = .ok (.iload_n 1, 1) := by decide +kernel
theorem dX9_suit_6 : decode cX9_suit 6 = .ok (.iconst 0, 1) := by decide +kernel
theorem dX9_suit_7 : decode cX9_suit 7 = .ok (.aload_n 0, 1) := by decide +kernel
theorem dX9_suit_8 : decode cX9_suit 8 = .ok (.getfield 327, 3) := by decide +kernel
theorem dX9_suit_11 : decode cX9_suit 11 = .ok (.iconst 1, 1) := by decide +kernel
theorem dX9_suit_12 : decode cX9_suit 12 = .ok (.isub, 1) := by decide +kernel
theorem dX9_suit_13 : decode cX9_suit 13 = .ok (.invokestatic 137, 3) := by decide +kernel
theorem dX9_suit_16 : decode cX9_suit 16 = .ok (.ifCond .eq 12, 3) := by decide +kernel
theorem dX9_suit_19 : decode cX9_suit 19 = .ok (.iload_n 2, 1) := by decide +kernel
theorem dX9_suit_20 : decode cX9_suit 20 = .ok (.iconst 0, 1) := by decide +kernel
theorem dX9_suit_21 : decode cX9_suit 21 = .ok (.iconst 4, 1) := by decide +kernel
theorem dX9_suit_22 : decode cX9_suit 22 = .ok (.invokestatic 137, 3) := by decide +kernel
theorem dX9_suit_25 : decode cX9_suit 25 = .ok (.ifCond .ne 5, 3) := by decide +kernel
theorem dX9_suit_28 : decode cX9_suit 28 = .ok (.iconst (-1), 1) := by decide +kernel
theorem dX9_suit_29 : decode cX9_suit 29 = .ok (.ireturn, 1) := by decide +kernel
theorem dX9_suit_30 : decode cX9_suit 30 = .ok (.iload_n 2, 1) := by decide +kernel
theorem dX9_suit_31 : decode cX9_suit 31 = .ok (.ifCond .ne 12, 3) := by decide +kernel
theorem dX9_suit_34 : decode cX9_suit 34 = .ok (.aload_n 0, 1) := by decide +kernel
theorem dX9_suit_35 : decode cX9_suit 35 = .ok (.getfield 98, 3) := by decide +kernel
theorem dX9_suit_38 : decode cX9_suit 38 = .ok (.iload_n 1, 1) := by decide +kernel
theorem dX9_suit_39 : decode cX9_suit 39 = .ok (.iaload, 1) := by decide +kernel
theorem dX9_suit_40 : decode cX9_suit 40 = .ok (.goto 58, 3) := by decide +kernel
theorem dX9_suit_43 : decode cX9_suit 43 = .ok (.iload_n 2, 1) := by decide +kernel
theorem dX9_suit_44 : decode cX9_suit 44 = .ok (.iconst 1, 1) := by decide +kernel
theorem dX9_suit_45 : decode cX9_suit 45 = .ok (.if_icmp .ne 11, 3) := by decide +kernel
theorem dX9_suit_48 : decode cX9_suit 48 = .ok (.aload_n 0, 1) := by decide +kernel
theorem dX9_suit_49 : decode cX9_suit 49 = .ok (.iload_n 1, 1) := by decide +kernel
theorem dX9_suit_50 : decode cX9_suit 50 = .ok (.invokevirtual 330, 3) := by decide +kernel
theorem dX9_suit_53 : decode cX9_suit 53 = .ok (.goto 45, 3) := by decide +kernel
theorem dX9_suit_56 : decode cX9_suit 56 = .ok (.iload_n 2, 1) := by decide +kernel
theorem dX9_suit_57 : decode cX9_suit 57 = .ok (.iconst 2, 1) := by decide +kernel
theorem dX9_suit_58 : decode cX9_suit 58 = .ok (.if_icmp .ne 20, 3) := by decide +kernel
theorem dX9_suit_61 : decode cX9_suit 61 = .ok (.aload_n 0, 1) := by decide +kernel
theorem dX9_suit_62 : decode cX9_suit 62 = .ok (.getfield 101, 3) := by decide +kernel
theorem dX9_suit_65 : decode cX9_suit 65 = .ok (.iload_n 1, 1) := by decide +kernel
theorem dX9_suit_66 : decode cX9_suit 66 = .ok (.baload, 1) := by decide +kernel
theorem dX9_suit_67 : decode cX9_suit 67 = .ok (.ifCond .eq 7, 3) := by decide +kernel
theorem dX9_suit_70 : decode cX9_suit 70 = .ok (.iconst 1, 1) := by decide +kernel
theorem dX9_suit_71 : decode cX9_suit 71 = .ok (.goto 27, 3) := by decide +kernel
theorem dX9_suit_74 : decode cX9_suit 74 = .ok (.iconst 0, 1) := by decide +kernel
theorem dX9_suit_75 : decode cX9_suit 75 = .ok (.goto 23, 3) := by decide +kernel
theorem dX9_suit_78 : decode cX9_suit 78 = .ok (.iload_n 2, 1) := by decide +kernel
theorem dX9_suit_79 : decode cX9_suit 79 = .ok (.iconst 3, 1) := by decide +kernel
theorem dX9_suit_80 : decode cX9_suit 80 = .ok (.if_icmp .ne 12, 3) := by decide +kernel
theorem dX9_suit_83 : decode cX9_suit 83 = .ok (.aload_n 0, 1) := by decide +kernel
theorem dX9_suit_84 : decode cX9_suit 84 = .ok (.getfield 89, 3) := by decide +kernel
theorem dX9_suit_87 : decode cX9_suit 87 = .ok (.iload_n 1, 1) := by decide +kernel
theorem dX9_suit_88 : decode cX9_suit 88 = .ok (.iaload, 1) := by decide +kernel
theorem dX9_suit_89 : decode cX9_suit 89 = .ok (.goto 9, 3) := by decide +kernel
theorem dX9_suit_92 : decode cX9_suit 92 = .ok (.aload_n 0, 1) := by decide +kernel
theorem dX9_suit_93 : decode cX9_suit 93 = .ok (.getfield 95, 3) := by decide +kernel
theorem dX9_suit_96 : decode cX9_suit 96 = .ok (.iload_n 1, 1) := by decide +kernel
theorem dX9_suit_97 : decode cX9_suit 97 = .ok (.iaload, 1) := by decide +kernel
theorem dX9_suit_98 : decode cX9_suit 98 = .ok (.ireturn, 1) := by decide +kernel
theorem dX9_appeal_0 : decode cX9_appeal 0 = .ok (.aload_n 0, 1) := by decide +kernel
theorem dX9_appeal_1 : decode cX9_appeal 1 = .ok (.iconst 0, 1) := by decide +kernel
theorem dX9_appeal_2 : decode cX9_appeal 2 = .ok (.putfield 124, 3) := by decide +kernel
theorem dX9_appeal_5 : decode cX9_appeal 5 = .ok (.iload_n 1, 1) := by decide +kernel
theorem dX9_appeal_6 : decode cX9_appeal 6 = .ok (.iconst 0, 1) := by decide +kernel
theorem dX9_appeal_7 : decode cX9_appeal 7 = .ok (.aload_n 0, 1) := by decide +kernel
theorem dX9_appeal_8 : decode cX9_appeal 8 = .ok (.getfield 327, 3) := by decide +kernel
theorem dX9_appeal_11 : decode cX9_appeal 11 = .ok (.iconst 1, 1) := by decide +kernel
theorem dX9_appeal_12 : decode cX9_appeal 12 = .ok (.isub, 1) := by decide +kernel
theorem dX9_appeal_13 : decode cX9_appeal 13 = .ok (.invokestatic 137, 3) := by decide +kernel
theorem dX9_appeal_16 : decode cX9_appeal 16 = .ok (.ifCond .ne 5, 3) := by decide +kernel
theorem dX9_appeal_19 : decode cX9_appeal 19 = .ok (.iconst (-1), 1) := by decide +kernel
theorem dX9_appeal_20 : decode cX9_appeal 20 = .ok (.ireturn, 1) := by decide +kernel
theorem dX9_appeal_21 : decode cX9_appeal 21 = .ok (.aload_n 0, 1) := by decide +kernel
theorem dX9_appeal_22 : decode cX9_appeal 22 = .ok (.getfield 101, 3) := by decide +kernel
theorem dX9_appeal_25 : decode cX9_appeal 25 = .ok (.iload_n 1, 1) := by decide +kernel
theorem dX9_appeal_26 : decode cX9_appeal 26 = .ok (.baload, 1) := by decide +kernel
theorem dX9_appeal_27 : decode cX9_appeal 27 = .ok (.ifCond .ne 6, 3) := by decide +kernel
theorem dX9_appeal_30 : decode cX9_appeal 30 = .ok (.bipush (-2), 2) := by decide +kernel
theorem dX9_appeal_32 : decode cX9_appeal 32 = .ok (.ireturn, 1) := by decide +kernel
theorem dX9_appeal_33 : decode cX9_appeal 33 = .ok (.iconst 0, 1) := by decide +kernel
theorem dX9_appeal_34 : decode cX9_appeal 34 = .ok (.istore_n 2, 1) := by decide +kernel
theorem dX9_appeal_35 : decode cX9_appeal 35 = .ok (.iload_n 1, 1) := by decide +kernel
theorem dX9_appeal_36 : decode cX9_appeal 36 = .ok (.istore_n 3, 1) := by decide +kernel
theorem dX9_appeal_37 : decode cX9_appeal 37 = .ok (.iload_n 3, 1) := by decide +kernel
theorem dX9_appeal_38 : decode cX9_appeal 38 = .ok (.aload_n 0, 1) := by decide +kernel
theorem dX9_appeal_39 : decode cX9_appeal 39 = .ok (.getfield 327, 3) := by decide +kernel
theorem dX9_appeal_42 : decode cX9_appeal 42 = .ok (.if_icmp .ge 58, 3) := by decide +kernel
theorem dX9_appeal_45 : decode cX9_appeal 45 = .ok (.aload_n 0, 1) := by decide +kernel
theorem dX9_appeal_46 : decode cX9_appeal 46 = .ok (.getfield 101, 3) := by decide +kernel
theorem dX9_appeal_49 : decode cX9_appeal 49 = .ok (.iload_n 3, 1) := by decide +kernel
theorem dX9_appeal_50 : decode cX9_appeal 50 = .ok (.baload, 1) := by decide +kernel
theorem dX9_appeal_51 : decode cX9_appeal 51 = .ok (.ifCond .eq 43, 3) := by decide +kernel
theorem dX9_appeal_54 : decode cX9_appeal 54 = .ok (.aload_n 0, 1) := by decide +kernel
theorem dX9_appeal_55 : decode cX9_appeal 55 = .ok (.getfield 92, 3) := by decide +kernel
theorem dX9_appeal_58 : decode cX9_appeal 58 = .ok (.iload_n 3, 1) := by decide +kernel
theorem dX9_appeal_59 : decode cX9_appeal 59 = .ok (.iaload, 1) := by decide +kernel
theorem dX9_appeal_60 : decode cX9_appeal 60 = .ok (.aload_n 0, 1) := by decide +kernel
theorem dX9_appeal_61 : decode cX9_appeal 61 = .ok (.getfield 92, 3) := by decide +kernel
theorem dX9_appeal_64 : decode cX9_appeal 64 = .ok (.iload_n 1, 1) := by decide +kernel
theorem dX9_appeal_65 : decode cX9_appeal 65 = .ok (.iaload, 1) := by decide +kernel
theorem dX9_appeal_66 : decode cX9_appeal 66 = .ok (.if_icmp .ne 28, 3) := by decide +kernel
theorem dX9_appeal_69 : decode cX9_appeal 69 = .ok (.aload_n 0, 1) := by decide +kernel
theorem dX9_appeal_70 : decode cX9_appeal 70 = .ok (.getfield 95, 3) := by decide +kernel
theorem dX9_appeal_73 : decode cX9_appeal 73 = .ok (.iload_n 3, 1) := by decide +kernel
theorem dX9_appeal_74 : decode cX9_appeal 74 = .ok (.iaload, 1) := by decide +kernel
theorem dX9_appeal_75 : decode cX9_appeal 75 = .ok (.aload_n 0, 1) := by decide +kernel
theorem dX9_appeal_76 : decode cX9_appeal 76 = .ok (.getfield 95, 3) := by decide +kernel
theorem dX9_appeal_79 : decode cX9_appeal 79 = .ok (.iload_n 1, 1) := by decide +kernel
theorem dX9_appeal_80 : decode cX9_appeal 80 = .ok (.iaload, 1) := by decide +kernel
theorem dX9_appeal_81 : decode cX9_appeal 81 = .ok (.if_icmp .ne 13, 3) := by decide +kernel
theorem dX9_appeal_84 : decode cX9_appeal 84 = .ok (.aload_n 0, 1) := by decide +kernel
theorem dX9_appeal_85 : decode cX9_appeal 85 = .ok (.getfield 101, 3) := by decide +kernel
theorem dX9_appeal_88 : decode cX9_appeal 88 = .ok (.iload_n 3, 1) := by decide +kernel
theorem dX9_appeal_89 : decode cX9_appeal 89 = .ok (.iconst 0, 1) := by decide +kernel
theorem dX9_appeal_90 : decode cX9_appeal 90 = .ok (.bastore, 1) := by decide +kernel
theorem dX9_appeal_91 : decode cX9_appeal 91 = .ok (.iinc 2 1, 3) := by decide +kernel
theorem dX9_appeal_94 : decode cX9_appeal 94 = .ok (.iinc 3 1, 3) := by decide +kernel
theorem dX9_appeal_97 : decode cX9_appeal 97 = .ok (.goto (-60), 3) := by decide +kernel
theorem dX9_appeal_100 : decode cX9_appeal 100 = .ok (.iload_n 2, 1) := by decide +kernel
theorem dX9_appeal_101 : decode cX9_appeal 101 = .ok (.ireturn, 1) := by decide +kernel
theorem dX9_fines_0 : decode cX9_fines 0 = .ok (.aload_n 0, 1) := by decide +kernel
theorem dX9_fines_1 : decode cX9_fines 1 = .ok (.iconst 0, 1) := by decide +kernel
theorem dX9_fines_2 : decode cX9_fines 2 = .ok (.putfield 124, 3) := by decide +kernel
theorem dX9_fines_5 : decode cX9_fines 5 = .ok (.iload_n 1, 1) := by decide +kernel
theorem dX9_fines_6 : decode cX9_fines 6 = .ok (.bipush (-9), 2) := by decide +kernel
theorem dX9_fines_8 : decode cX9_fines 8 = .ok (.if_icmp .eq 13, 3) := by decide +kernel
theorem dX9_fines_11 : decode cX9_fines 11 = .ok (.aload_n 0, 1) := by decide +kernel
theorem dX9_fines_12 : decode cX9_fines 12 = .ok (.iload_n 1, 1) := by decide +kernel
theorem dX9_fines_13 : decode cX9_fines 13 = .ok (.invokevirtual 262, 3) := by decide +kernel
theorem dX9_fines_16 : decode cX9_fines 16 = .ok (.ifCond .ne 5, 3) := by decide +kernel
theorem dX9_fines_19 : decode cX9_fines 19 = .ok (.iconst (-1), 1) := by decide +kernel
theorem dX9_fines_20 : decode cX9_fines 20 = .ok (.ireturn, 1) := by decide +kernel
theorem dX9_fines_21 : decode cX9_fines 21 = .ok (.iconst 0, 1) := by decide +kernel
theorem dX9_fines_22 : decode cX9_fines 22 = .ok (.istore_n 2, 1) := by decide +kernel
theorem dX9_fines_23 : decode cX9_fines 23 = .ok (.iconst 0, 1) := by decide +kernel
theorem dX9_fines_24 : decode cX9_fines 24 = .ok (.istore_n 3, 1) := by decide +kernel
theorem dX9_fines_25 : decode cX9_fines 25 = .ok (.iload_n 3, 1) := by decide +kernel
theorem dX9_fines_26 : decode cX9_fines 26 = .ok (.aload_n 0, 1) := by decide +kernel
theorem dX9_fines_27 : decode cX9_fines 27 = .ok (.getfield 327, 3) := by decide +kernel
theorem dX9_fines_30 : decode cX9_fines 30 = .ok (.if_icmp .ge 37, 3) := by decide +kernel
theorem dX9_fines_33 : decode cX9_fines 33 = .ok (.iload_n 2, 1) := by decide +kernel
theorem dX9_fines_34 : decode cX9_fines 34 = .ok (.iload_n 1, 1) := by decide +kernel
theorem dX9_fines_35 : decode cX9_fines 35 = .ok (.bipush (-9), 2) := by decide +kernel
theorem dX9_fines_37 : decode cX9_fines 37 = .ok (.if_icmp .eq 13, 3) := by decide +kernel
theorem dX9_fines_40 : decode cX9_fines 40 = .ok (.aload_n 0, 1) := by decide +kernel
theorem dX9_fines_41 : decode cX9_fines 41 = .ok (.getfield 89, 3) := by decide +kernel
theorem dX9_fines_44 : decode cX9_fines 44 = .ok (.iload_n 3, 1) := by decide +kernel
theorem dX9_fines_45 : decode cX9_fines 45 = .ok (.iaload, 1) := by decide +kernel
theorem dX9_fines_46 : decode cX9_fines 46 = .ok (.iload_n 1, 1) := by decide +kernel
theorem dX9_fines_47 : decode cX9_fines 47 = .ok (.if_icmp .ne 11, 3) := by decide +kernel
theorem dX9_fines_50 : decode cX9_fines 50 = .ok (.aload_n 0, 1) := by decide +kernel
theorem dX9_fines_51 : decode cX9_fines 51 = .ok (.iload_n 3, 1) := by decide +kernel
theorem dX9_fines_52 : decode cX9_fines 52 = .ok (.invokevirtual 330, 3) := by decide +kernel
theorem dX9_fines_55 : decode cX9_fines 55 = .ok (.goto 4, 3) := by decide +kernel
theorem dX9_fines_58 : decode cX9_fines 58 = .ok (.iconst 0, 1) := by decide +kernel
theorem dX9_fines_59 : decode cX9_fines 59 = .ok (.iadd, 1) := by decide +kernel
theorem dX9_fines_60 : decode cX9_fines 60 = .ok (.istore_n 2, 1) := by decide +kernel
theorem dX9_fines_61 : decode cX9_fines 61 = .ok (.iinc 3 1, 3) := by decide +kernel
theorem dX9_fines_64 : decode cX9_fines 64 = .ok (.goto (-39), 3) := by decide +kernel
theorem dX9_fines_67 : decode cX9_fines 67 = .ok (.iload_n 2, 1) := by decide +kernel
theorem dX9_fines_68 : decode cX9_fines 68 = .ok (.ireturn, 1) := by decide +kernel
theorem dX9_road_0 : decode cX9_road 0 = .ok (.aload_n 0, 1) := by decide +kernel
theorem dX9_road_1 : decode cX9_road 1 = .ok (.iconst 0, 1) := by decide +kernel
theorem dX9_road_2 : decode cX9_road 2 = .ok (.putfield 124, 3) := by decide +kernel
theorem dX9_road_5 : decode cX9_road 5 = .ok (.iload_n 1, 1) := by decide +kernel
theorem dX9_road_6 : decode cX9_road 6 = .ok (.iconst 0, 1) := by decide +kernel
theorem dX9_road_7 : decode cX9_road 7 = .ok (.bipush 8, 2) := by decide +kernel
theorem dX9_road_9 : decode cX9_road 9 = .ok (.invokestatic 137, 3) := by decide +kernel
theorem dX9_road_12 : decode cX9_road 12 = .ok (.ifCond .eq 28, 3) := by decide +kernel
theorem dX9_road_15 : decode cX9_road 15 = .ok (.iload_n 2, 1) := by decide +kernel
theorem dX9_road_16 : decode cX9_road 16 = .ok (.iconst 0, 1) := by decide +kernel
theorem dX9_road_17 : decode cX9_road 17 = .ok (.bipush 8, 2) := by decide +kernel
theorem dX9_road_19 : decode cX9_road 19 = .ok (.invokestatic 137, 3) := by decide +kernel
theorem dX9_road_22 : decode cX9_road 22 = .ok (.ifCond .eq 18, 3) := by decide +kernel
theorem dX9_road_25 : decode cX9_road 25 = .ok (.iload_n 1, 1) := by decide +kernel
theorem dX9_road_26 : decode cX9_road 26 = .ok (.iload_n 2, 1) := by decide +kernel
theorem dX9_road_27 : decode cX9_road 27 = .ok (.if_icmp .eq 13, 3) := by decide +kernel
theorem dX9_road_30 : decode cX9_road 30 = .ok (.iload_n 3, 1) := by decide +kernel
theorem dX9_road_31 : decode cX9_road 31 = .ok (.iconst 1, 1) := by decide +kernel
theorem dX9_road_32 : decode cX9_road 32 = .ok (.bipush 30, 2) := by decide +kernel
theorem dX9_road_34 : decode cX9_road 34 = .ok (.invokestatic 137, 3) := by decide +kernel
theorem dX9_road_37 : decode cX9_road 37 = .ok (.ifCond .ne 5, 3) := by decide +kernel
theorem dX9_road_40 : decode cX9_road 40 = .ok (.iconst (-1), 1) := by decide +kernel
theorem dX9_road_41 : decode cX9_road 41 = .ok (.ireturn, 1) := by decide +kernel
theorem dX9_road_42 : decode cX9_road 42 = .ok (.aload_n 0, 1) := by decide +kernel
theorem dX9_road_43 : decode cX9_road 43 = .ok (.getfield 105, 3) := by decide +kernel
theorem dX9_road_46 : decode cX9_road 46 = .ok (.bipush 9, 2) := by decide +kernel
theorem dX9_road_48 : decode cX9_road 48 = .ok (.iload_n 1, 1) := by decide +kernel
