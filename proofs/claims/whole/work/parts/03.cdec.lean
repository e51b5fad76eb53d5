theorem dX6_ditches_20 : decode cX6_ditches 20 = .ok (.invokestatic 54, 3) := by decide +kernel
theorem dX6_ditches_23 : decode cX6_ditches 23 = .ok (.ifCond .eq 13, 3) := by decide +kernel
theorem dX6_ditches_26 : decode cX6_ditches 26 = .ok (.iload 4, 2) := by decide +kernel
theorem dX6_ditches_28 : decode cX6_ditches 28 = .ok (.iconst (-1), 1) := by decide +kernel
theorem dX6_ditches_29 : decode cX6_ditches 29 = .ok (.iconst 1, 1) := by decide +kernel
theorem dX6_ditches_30 : decode cX6_ditches 30 = .ok (.invokestatic 54, 3) := by decide +kernel
theorem dX6_ditches_33 : decode cX6_ditches 33 = .ok (.ifCond .ne 5, 3) := by decide +kernel
theorem dX6_ditches_36 : decode cX6_ditches 36 = .ok (.iconst (-1), 1) := by decide +kernel
theorem dX6_ditches_37 : decode cX6_ditches 37 = .ok (.ireturn, 1) := by decide +kernel
theorem dX6_ditches_38 : decode cX6_ditches 38 = .ok (.aload_n 0, 1) := by decide +kernel
theorem dX6_ditches_39 : decode cX6_ditches 39 = .ok (.invokevirtual 150, 3) := by decide +kernel
theorem dX6_ditches_42 : decode cX6_ditches 42 = .ok (.aload_n 0, 1) := by decide +kernel
theorem dX6_ditches_43 : decode cX6_ditches 43 = .ok (.iload_n 1, 1) := by decide +kernel
theorem dX6_ditches_44 : decode cX6_ditches 44 = .ok (.iload_n 2, 1) := by decide +kernel
theorem dX6_ditches_45 : decode cX6_ditches 45 = .ok (.iload_n 3, 1) := by decide +kernel
theorem dX6_ditches_46 : decode cX6_ditches 46 = .ok (.iconst (-1), 1) := by decide +kernel
theorem dX6_ditches_47 : decode cX6_ditches 47 = .ok (.iconst (-1), 1) := by decide +kernel
theorem dX6_ditches_48 : decode cX6_ditches 48 = .ok (.invokevirtual 165, 3) := by decide +kernel
theorem dX6_ditches_51 : decode cX6_ditches 51 = .ok (.ifCond .eq 16, 3) := by decide +kernel
theorem dX6_ditches_54 : decode cX6_ditches 54 = .ok (.iload 4, 2) := by decide +kernel
theorem dX6_ditches_56 : decode cX6_ditches 56 = .ok (.iconst (-1), 1) := by decide +kernel
theorem dX6_ditches_57 : decode cX6_ditches 57 = .ok (.if_icmp .ne 7, 3) := by decide +kernel
theorem dX6_ditches_60 : decode cX6_ditches 60 = .ok (.iconst 0, 1) := by decide +kernel
theorem dX6_ditches_61 : decode cX6_ditches 61 = .ok (.goto 5, 3) := by decide +kernel
theorem dX6_ditches_64 : decode cX6_ditches 64 = .ok (.bipush (-4), 2) := by decide +kernel
theorem dX6_ditches_66 : decode cX6_ditches 66 = .ok (.ireturn, 1) := by decide +kernel
theorem dX6_ditches_67 : decode cX6_ditches 67 = .ok (.iconst 0, 1) := by decide +kernel
theorem dX6_ditches_68 : decode cX6_ditches 68 = .ok (.istore 5, 2) := by decide +kernel
theorem dX6_ditches_70 : decode cX6_ditches 70 = .ok (.iload 5, 2) := by decide +kernel
theorem dX6_ditches_72 : decode cX6_ditches 72 = .ok (.aload_n 0, 1) := by decide +kernel
theorem dX6_ditches_73 : decode cX6_ditches 73 = .ok (.getfield 13, 3) := by decide +kernel
theorem dX6_ditches_76 : decode cX6_ditches 76 = .ok (.iconst 0, 1) := by decide +kernel
theorem dX6_ditches_77 : decode cX6_ditches 77 = .ok (.iaload, 1) := by decide +kernel
theorem dX6_ditches_78 : decode cX6_ditches 78 = .ok (.if_icmp .ge 45, 3) := by decide +kernel
theorem dX6_ditches_81 : decode cX6_ditches 81 = .ok (.aload_n 0, 1) := by decide +kernel
theorem dX6_ditches_82 : decode cX6_ditches 82 = .ok (.iload_n 1, 1) := by decide +kernel
theorem dX6_ditches_83 : decode cX6_ditches 83 = .ok (.iload_n 2, 1) := by decide +kernel
theorem dX6_ditches_84 : decode cX6_ditches 84 = .ok (.iload_n 3, 1) := by decide +kernel
theorem dX6_ditches_85 : decode cX6_ditches 85 = .ok (.iload 5, 2) := by decide +kernel
theorem dX6_ditches_87 : decode cX6_ditches 87 = .ok (.iconst (-1), 1) := by decide +kernel
theorem dX6_ditches_88 : decode cX6_ditches 88 = .ok (.invokevirtual 165, 3) := by decide +kernel
theorem dX6_ditches_91 : decode cX6_ditches 91 = .ok (.ifCond .eq 26, 3) := by decide +kernel
theorem dX6_ditches_94 : decode cX6_ditches 94 = .ok (.iload 4, 2) := by decide +kernel
theorem dX6_ditches_96 : decode cX6_ditches 96 = .ok (.iconst (-1), 1) := by decide +kernel
theorem dX6_ditches_97 : decode cX6_ditches 97 = .ok (.if_icmp .ne 7, 3) := by decide +kernel
theorem dX6_ditches_100 : decode cX6_ditches 100 = .ok (.iconst 1, 1) := by decide +kernel
theorem dX6_ditches_101 : decode cX6_ditches 101 = .ok (.goto 15, 3) := by decide +kernel
theorem dX6_ditches_104 : decode cX6_ditches 104 = .ok (.iload 4, 2) := by decide +kernel
theorem dX6_ditches_106 : decode cX6_ditches 106 = .ok (.ifCond .ne 8, 3) := by decide +kernel
theorem dX6_ditches_109 : decode cX6_ditches 109 = .ok (.iload 5, 2) := by decide +kernel
theorem dX6_ditches_111 : decode cX6_ditches 111 = .ok (.goto 5, 3) := by decide +kernel
theorem dX6_ditches_114 : decode cX6_ditches 114 = .ok (.bipush (-4), 2) := by decide +kernel
theorem dX6_ditches_116 : decode cX6_ditches 116 = .ok (.ireturn, 1) := by decide +kernel
theorem dX6_ditches_117 : decode cX6_ditches 117 = .ok (.iinc 5 1, 3) := by decide +kernel
theorem dX6_ditches_120 : decode cX6_ditches 120 = .ok (.goto (-50), 3) := by decide +kernel
theorem dX6_ditches_123 : decode cX6_ditches 123 = .ok (.iconst 0, 1) := by decide +kernel
theorem dX6_ditches_124 : decode cX6_ditches 124 = .ok (.istore 5, 2) := by decide +kernel
theorem dX6_ditches_126 : decode cX6_ditches 126 = .ok (.iload 5, 2) := by decide +kernel
theorem dX6_ditches_128 : decode cX6_ditches 128 = .ok (.aload_n 0, 1) := by decide +kernel
theorem dX6_ditches_129 : decode cX6_ditches 129 = .ok (.getfield 13, 3) := by decide +kernel
theorem dX6_ditches_132 : decode cX6_ditches 132 = .ok (.iconst 0, 1) := by decide +kernel
theorem dX6_ditches_133 : decode cX6_ditches 133 = .ok (.iaload, 1) := by decide +kernel
theorem dX6_ditches_134 : decode cX6_ditches 134 = .ok (.if_icmp .ge 69, 3) := by decide +kernel
theorem dX6_ditches_137 : decode cX6_ditches 137 = .ok (.iload 5, 2) := by decide +kernel
theorem dX6_ditches_139 : decode cX6_ditches 139 = .ok (.iconst 1, 1) := by decide +kernel
theorem dX6_ditches_140 : decode cX6_ditches 140 = .ok (.iadd, 1) := by decide +kernel
theorem dX6_ditches_141 : decode cX6_ditches 141 = .ok (.istore 6, 2) := by decide +kernel
theorem dX6_ditches_143 : decode cX6_ditches 143 = .ok (.iload 6, 2) := by decide +kernel
theorem dX6_ditches_145 : decode cX6_ditches 145 = .ok (.aload_n 0, 1) := by decide +kernel
theorem dX6_ditches_146 : decode cX6_ditches 146 = .ok (.getfield 13, 3) := by decide +kernel
theorem dX6_ditches_149 : decode cX6_ditches 149 = .ok (.iconst 0, 1) := by decide +kernel
theorem dX6_ditches_150 : decode cX6_ditches 150 = .ok (.iaload, 1) := by decide +kernel
theorem dX6_ditches_151 : decode cX6_ditches 151 = .ok (.if_icmp .ge 46, 3) := by decide +kernel
theorem dX6_ditches_154 : decode cX6_ditches 154 = .ok (.aload_n 0, 1) := by decide +kernel
theorem dX6_ditches_155 : decode cX6_ditches 155 = .ok (.iload_n 1, 1) := by decide +kernel
theorem dX6_ditches_156 : decode cX6_ditches 156 = .ok (.iload_n 2, 1) := by decide +kernel
theorem dX6_ditches_157 : decode cX6_ditches 157 = .ok (.iload_n 3, 1) := by decide +kernel
theorem dX6_ditches_158 : decode cX6_ditches 158 = .ok (.iload 5, 2) := by decide +kernel
theorem dX6_ditches_160 : decode cX6_ditches 160 = .ok (.iload 6, 2) := by decide +kernel
theorem dX6_ditches_162 : decode cX6_ditches 162 = .ok (.invokevirtual 165, 3) := by decide +kernel
theorem dX6_ditches_165 : decode cX6_ditches 165 = .ok (.ifCond .eq 26, 3) := by decide +kernel
theorem dX6_ditches_168 : decode cX6_ditches 168 = .ok (.iload 4, 2) := by decide +kernel
theorem dX6_ditches_170 : decode cX6_ditches 170 = .ok (.iconst (-1), 1) := by decide +kernel
theorem dX6_ditches_171 : decode cX6_ditches 171 = .ok (.if_icmp .ne 7, 3) := by decide +kernel
theorem dX6_ditches_174 : decode cX6_ditches 174 = .ok (.iconst 2, 1) := by decide +kernel
theorem dX6_ditches_175 : decode cX6_ditches 175 = .ok (.goto 15, 3) := by decide +kernel
theorem dX6_ditches_178 : decode cX6_ditches 178 = .ok (.iload 4, 2) := by decide +kernel
theorem dX6_ditches_180 : decode cX6_ditches 180 = .ok (.ifCond .ne 8, 3) := by decide +kernel
theorem dX6_ditches_183 : decode cX6_ditches 183 = .ok (.iload 5, 2) := by decide +kernel
theorem dX6_ditches_185 : decode cX6_ditches 185 = .ok (.goto 5, 3) := by decide +kernel
theorem dX6_ditches_188 : decode cX6_ditches 188 = .ok (.iload 6, 2) := by decide +kernel
theorem dX6_ditches_190 : decode cX6_ditches 190 = .ok (.ireturn, 1) := by decide +kernel
theorem dX6_ditches_191 : decode cX6_ditches 191 = .ok (.iinc 6 1, 3) := by decide +kernel
theorem dX6_ditches_194 : decode cX6_ditches 194 = .ok (.goto (-51), 3) := by decide +kernel
theorem dX6_ditches_197 : decode cX6_ditches 197 = .ok (.iinc 5 1, 3) := by decide +kernel
theorem dX6_ditches_200 : decode cX6_ditches 200 = .ok (.goto (-74), 3) := by decide +kernel
theorem dX6_ditches_203 : decode cX6_ditches 203 = .ok (.bipush (-4), 2) := by decide +kernel
theorem dX6_ditches_205 : decode cX6_ditches 205 = .ok (.ireturn, 1) := by decide +kernel
theorem dX6_best_0 : decode cX6_best 0 = .ok (.iload_n 1, 1) := by decide +kernel
theorem dX6_best_1 : decode cX6_best 1 = .ok (.iconst 0, 1) := by decide +kernel
theorem dX6_best_2 : decode cX6_best 2 = .ok (.iconst 3, 1) := by decide +kernel
theorem dX6_best_3 : decode cX6_best 3 = .ok (.invokestatic 54, 3) := by decide +kernel
theorem dX6_best_6 : decode cX6_best 6 = .ok (.ifCond .eq 22, 3) := by decide +kernel
theorem dX6_best_9 : decode cX6_best 9 = .ok (.iload_n 2, 1) := by decide +kernel
theorem dX6_best_10 : decode cX6_best 10 = .ok (.iconst 1, 1) := by decide +kernel
theorem dX6_best_11 : decode cX6_best 11 = .ok (.bipush 20, 2) := by decide +kernel
theorem dX6_best_13 : decode cX6_best 13 = .ok (.invokestatic 54, 3) := by decide +kernel
theorem dX6_best_16 : decode cX6_best 16 = .ok (.ifCond .eq 12, 3) := by decide +kernel
theorem dX6_best_19 : decode cX6_best 19 = .ok (.iload_n 3, 1) := by decide +kernel
theorem dX6_best_20 : decode cX6_best 20 = .ok (.iconst 0, 1) := by decide +kernel
theorem dX6_best_21 : decode cX6_best 21 = .ok (.iconst 1, 1) := by decide +kernel
theorem dX6_best_22 : decode cX6_best 22 = .ok (.invokestatic 54, 3) := by decide +kernel
theorem dX6_best_25 : decode cX6_best 25 = .ok (.ifCond .ne 5, 3) := by decide +kernel
theorem dX6_best_28 : decode cX6_best 28 = .ok (.iconst (-1), 1) := by decide +kernel
theorem dX6_best_29 : decode cX6_best 29 = .ok (.ireturn, 1) := by decide +kernel
theorem dX6_best_30 : decode cX6_best 30 = .ok (.bipush (-4), 2) := by decide +kernel
theorem dX6_best_32 : decode cX6_best 32 = .ok (.istore 4, 2) := by decide +kernel
theorem dX6_best_34 : decode cX6_best 34 = .ok (.bipush (-4), 2) := by decide +kernel
theorem dX6_best_36 : decode cX6_best 36 = .ok (.istore 5, 2) := by decide +kernel
theorem dX6_best_38 : decode cX6_best 38 = .ok (.iconst 0, 1) := by decide +kernel
theorem dX6_best_39 : decode cX6_best 39 = .ok (.istore 6, 2) := by decide +kernel
theorem dX6_best_41 : decode cX6_best 41 = .ok (.iload 6, 2) := by decide +kernel
theorem dX6_best_43 : decode cX6_best 43 = .ok (.aload_n 0, 1) := by decide +kernel
theorem dX6_best_44 : decode cX6_best 44 = .ok (.getfield 13, 3) := by decide +kernel
theorem dX6_best_47 : decode cX6_best 47 = .ok (.iconst 0, 1) := by decide +kernel
theorem dX6_best_48 : decode cX6_best 48 = .ok (.iaload, 1) := by decide +kernel
theorem dX6_best_49 : decode cX6_best 49 = .ok (.if_icmp .ge 82, 3) := by decide +kernel
theorem dX6_best_52 : decode cX6_best 52 = .ok (.aload_n 0, 1) := by decide +kernel
theorem dX6_best_53 : decode cX6_best 53 = .ok (.iload 6, 2) := by decide +kernel
theorem dX6_best_55 : decode cX6_best 55 = .ok (.invokevirtual 141, 3) := by decide +kernel
theorem dX6_best_58 : decode cX6_best 58 = .ok (.ifCond .eq 67, 3) := by decide +kernel
theorem dX6_best_61 : decode cX6_best 61 = .ok (.aload_n 0, 1) := by decide +kernel
theorem dX6_best_62 : decode cX6_best 62 = .ok (.getfield 22, 3) := by decide +kernel
theorem dX6_best_65 : decode cX6_best 65 = .ok (.bipush 23, 2) := by decide +kernel
theorem dX6_best_67 : decode cX6_best 67 = .ok (.iload 6, 2) := by decide +kernel
theorem dX6_best_69 : decode cX6_best 69 = .ok (.iadd, 1) := by decide +kernel
theorem dX6_best_70 : decode cX6_best 70 = .ok (.iconst 1, 1) := by decide +kernel
theorem dX6_best_71 : decode cX6_best 71 = .ok (.iastore, 1) := by decide +kernel
theorem dX6_best_72 : decode cX6_best 72 = .ok (.aload_n 0, 1) := by decide +kernel
theorem dX6_best_73 : decode cX6_best 73 = .ok (.iload_n 2, 1) := by decide +kernel
theorem dX6_best_74 : decode cX6_best 74 = .ok (.iconst 1, 1) := by decide +kernel
theorem dX6_best_75 : decode cX6_best 75 = .ok (.iload_n 1, 1) := by decide +kernel
theorem dX6_best_76 : decode cX6_best 76 = .ok (.iadd, 1) := by decide +kernel
theorem dX6_best_77 : decode cX6_best 77 = .ok (.invokevirtual 156, 3) := by decide +kernel
theorem dX6_best_80 : decode cX6_best 80 = .ok (.istore 7, 2) := by decide +kernel
theorem dX6_best_82 : decode cX6_best 82 = .ok (.aload_n 0, 1) := by decide +kernel
theorem dX6_best_83 : decode cX6_best 83 = .ok (.getfield 22, 3) := by decide +kernel
theorem dX6_best_86 : decode cX6_best 86 = .ok (.bipush 23, 2) := by decide +kernel
theorem dX6_best_88 : decode cX6_best 88 = .ok (.iload 6, 2) := by decide +kernel
theorem dX6_best_90 : decode cX6_best 90 = .ok (.iadd, 1) := by decide +kernel
theorem dX6_best_91 : decode cX6_best 91 = .ok (.iconst 0, 1) := by decide +kernel
theorem dX6_best_92 : decode cX6_best 92 = .ok (.iastore, 1) := by decide +kernel
theorem dX6_best_93 : decode cX6_best 93 = .ok (.iload 7, 2) := by decide +kernel
theorem dX6_best_95 : decode cX6_best 95 = .ok (.iload 4, 2) := by decide +kernel
theorem dX6_best_97 : decode cX6_best 97 = .ok (.if_icmp .le 8, 3) := by decide +kernel
theorem dX6_best_100 : decode cX6_best 100 = .ok (.iload 6, 2) := by decide +kernel
theorem dX6_best_102 : decode cX6_best 102 = .ok (.goto 5, 3) := by decide +kernel
theorem dX6_best_105 : decode cX6_best 105 = .ok (.iload 5, 2) := by decide +kernel
theorem dX6_best_107 : decode cX6_best 107 = .ok (.istore 5, 2) := by decide +kernel
theorem dX6_best_109 : decode cX6_best 109 = .ok (.iload 7, 2) := by decide +kernel
theorem dX6_best_111 : decode cX6_best 111 = .ok (.iload 4, 2) := by decide +kernel
theorem dX6_best_113 : decode cX6_best 113 = .ok (.if_icmp .le 8, 3) := by decide +kernel
theorem dX6_best_116 : decode cX6_best 116 = .ok (.iload 7, 2) := by decide +kernel
theorem dX6_best_118 : decode cX6_best 118 = .ok (.goto 5, 3) := by decide +kernel
theorem dX6_best_121 : decode cX6_best 121 = .ok (.iload 4, 2) := by decide +kernel
theorem dX6_best_123 : decode cX6_best 123 = .ok (.istore 4, 2) := by decide +kernel
theorem dX6_best_125 : decode cX6_best 125 = .ok (.iinc 6 1, 3) := by decide +kernel
theorem dX6_best_128 : decode cX6_best 128 = .ok (.goto (-87), 3) := by decide +kernel
theorem dX6_best_131 : decode cX6_best 131 = .ok (.iload_n 3, 1) := by decide +kernel
theorem dX6_best_132 : decode cX6_best 132 = .ok (.ifCond .ne 8, 3) := by decide +kernel
theorem dX6_best_135 : decode cX6_best 135 = .ok (.iload 5, 2) := by decide +kernel
theorem dX6_best_137 : decode cX6_best 137 = .ok (.goto 5, 3) := by decide +kernel
theorem dX6_best_140 : decode cX6_best 140 = .ok (.iload 4, 2) := by decide +kernel
theorem dX6_best_142 : decode cX6_best 142 = .ok (.ireturn, 1) := by decide +kernel
theorem dX6_see_0 : decode cX6_see 0 = .ok (.aload_n 0, 1) := by decide +kernel
theorem dX6_see_1 : decode cX6_see 1 = .ok (.iload_n 1, 1) := by decide +kernel
theorem dX6_see_2 : decode cX6_see 2 = .ok (.invokevirtual 126, 3) := by decide +kernel
theorem dX6_see_5 : decode cX6_see 5 = .ok (.ifCond .eq 21, 3) := by decide +kernel
theorem dX6_see_8 : decode cX6_see 8 = .ok (.aload_n 0, 1) := by decide +kernel
theorem dX6_see_9 : decode cX6_see 9 = .ok (.iload_n 2, 1) := by decide +kernel
theorem dX6_see_10 : decode cX6_see 10 = .ok (.invokevirtual 110, 3) := by decide +kernel
theorem dX6_see_13 : decode cX6_see 13 = .ok (.ifCond .eq 13, 3) := by decide +kernel
theorem dX6_see_16 : decode cX6_see 16 = .ok (.iload_n 3, 1) := by decide +kernel
theorem dX6_see_17 : decode cX6_see 17 = .ok (.iconst 0, 1) := by decide +kernel
theorem dX6_see_18 : decode cX6_see 18 = .ok (.bipush 20, 2) := by decide +kernel
theorem dX6_see_20 : decode cX6_see 20 = .ok (.invokestatic 54, 3) := by decide +kernel
theorem dX6_see_23 : decode cX6_see 23 = .ok (.ifCond .ne 5, 3) := by decide +kernel
theorem dX6_see_26 : decode cX6_see 26 = .ok (.iconst (-1), 1) := by decide +kernel
theorem dX6_see_27 : decode cX6_see 27 = .ok (.ireturn, 1) := by decide +kernel
theorem dX6_see_28 : decode cX6_see 28 = .ok (.aload_n 0, 1) := by decide +kernel
theorem dX6_see_29 : decode cX6_see 29 = .ok (.getfield 107, 3) := by decide +kernel
theorem dX6_see_32 : decode cX6_see 32 = .ok (.bipush 6, 2) := by decide +kernel
theorem dX6_see_34 : decode cX6_see 34 = .ok (.if_icmp .ne 6, 3) := by decide +kernel
theorem dX6_see_37 : decode cX6_see 37 = .ok (.bipush (-3), 2) := by decide +kernel
theorem dX6_see_39 : decode cX6_see 39 = .ok (.ireturn, 1) := by decide +kernel
theorem dX6_see_40 : decode cX6_see 40 = .ok (.aload_n 0, 1) := by decide +kernel
theorem dX6_see_41 : decode cX6_see 41 = .ok (.getfield 31, 3) := by decide +kernel
theorem dX6_see_44 : decode cX6_see 44 = .ok (.iconst 3, 1) := by decide +kernel
theorem dX6_see_45 : decode cX6_see 45 = .ok (.aload_n 0, 1) := by decide +kernel
theorem dX6_see_46 : decode cX6_see 46 = .ok (.getfield 107, 3) := by decide +kernel
theorem dX6_see_49 : decode cX6_see 49 = .ok (.imul, 1) := by decide +kernel
theorem dX6_see_50 : decode cX6_see 50 = .ok (.iload_n 1, 1) := by decide +kernel
theorem dX6_see_51 : decode cX6_see 51 = .ok (.iastore, 1) := by decide +kernel
theorem dX6_see_52 : decode cX6_see 52 = .ok (.aload_n 0, 1) := by decide +kernel
theorem dX6_see_53 : decode cX6_see 53 = .ok (.getfield 31, 3) := by decide +kernel
theorem dX6_see_56 : decode cX6_see 56 = .ok (.iconst 3, 1) := by decide +kernel
theorem dX6_see_57 : decode cX6_see 57 = .ok (.aload_n 0, 1) := by decide +kernel
theorem dX6_see_58 : decode cX6_see 58 = .ok (.getfield 107, 3) := by decide +kernel
theorem dX6_see_61 : decode cX6_see 61 = .ok (.imul, 1) := by decide +kernel
theorem dX6_see_62 : decode cX6_see 62 = .ok (.iconst 1, 1) := by decide +kernel
theorem dX6_see_63 : decode cX6_see 63 = .ok (.iadd, 1) := by decide +kernel
theorem dX6_see_64 : decode cX6_see 64 = .ok (.iload_n 2, 1) := by decide +kernel
theorem dX6_see_65 : decode cX6_see 65 = .ok (.iastore, 1) := by decide +kernel
theorem dX6_see_66 : decode cX6_see 66 = .ok (.aload_n 0, 1) := by decide +kernel
theorem dX6_see_67 : decode cX6_see 67 = .ok (.getfield 31, 3) := by decide +kernel
theorem dX6_see_70 : decode cX6_see 70 = .ok (.iconst 3, 1) := by decide +kernel
theorem dX6_see_71 : decode cX6_see 71 = .ok (.aload_n 0, 1) := by decide +kernel
theorem dX6_see_72 : decode cX6_see 72 = .ok (.getfield 107, 3) := by decide +kernel
theorem dX6_see_75 : decode cX6_see 75 = .ok (.imul, 1) := by decide +kernel
theorem dX6_see_76 : decode cX6_see 76 = .ok (.iconst 2, 1) := by decide +kernel
theorem dX6_see_77 : decode cX6_see 77 = .ok (.iadd, 1) := by decide +kernel
theorem dX6_see_78 : decode cX6_see 78 = .ok (.iload_n 3, 1) := by decide +kernel
theorem dX6_see_79 : decode cX6_see 79 = .ok (.iastore, 1) := by decide +kernel
theorem dX6_see_80 : decode cX6_see 80 = .ok (.aload_n 0, 1) := by decide +kernel
theorem dX6_see_81 : decode cX6_see 81 = .ok (.dup, 1) := by decide +kernel
theorem dX6_see_82 : decode cX6_see 82 = .ok (.getfield 107, 3) := by decide +kernel
theorem dX6_see_85 : decode cX6_see 85 = .ok (.iconst 1, 1) := by decide +kernel
theorem dX6_see_86 : decode cX6_see 86 = .ok (.iadd, 1) := by decide +kernel
theorem dX6_see_87 : decode cX6_see 87 = .ok (.putfield 107, 3) := by decide +kernel
theorem dX6_see_90 : decode cX6_see 90 = .ok (.aload_n 0, 1) := by decide +kernel
theorem dX6_see_91 : decode cX6_see 91 = .ok (.getfield 107, 3) := by decide +kernel
theorem dX6_see_94 : decode cX6_see 94 = .ok (.ireturn, 1) := by decide +kernel
theorem dX6_forget_0 : decode cX6_forget 0 = .ok (.aload_n 0, 1) := by decide +kernel
theorem dX6_forget_1 : decode cX6_forget 1 = .ok (.getfield 107, 3) := by decide +kernel
theorem dX6_forget_4 : decode cX6_forget 4 = .ok (.istore_n 1, 1) := by decide +kernel
theorem dX6_forget_5 : decode cX6_forget 5 = .ok (.aload_n 0, 1) := by decide +kernel
theorem dX6_forget_6 : decode cX6_forget 6 = .ok (.iconst 0, 1) := by decide +kernel
theorem dX6_forget_7 : decode cX6_forget 7 = .ok (.putfield 107, 3) := by decide +kernel
theorem dX6_forget_10 : decode cX6_forget 10 = .ok (.iload_n 1, 1) := by decide +kernel
theorem dX6_forget_11 : decode cX6_forget 11 = .ok (.ireturn, 1) := by decide +kernel
theorem dX6_isSo_0 : decode cX6_isSo 0 = .ok (.iconst 1, 1) := by decide +kernel
theorem dX6_isSo_1 : decode cX6_isSo 1 = .ok (.istore_n 2, 1) := by decide +kernel
theorem dX6_isSo_2 : decode cX6_isSo 2 = .ok (.iconst 0, 1) := by decide +kernel
theorem dX6_isSo_3 : decode cX6_isSo 3 = .ok (.istore_n 3, 1) := by decide +kernel
theorem dX6_isSo_4 : decode cX6_isSo 4 = .ok (.iload_n 3, 1) := by decide +kernel
theorem dX6_isSo_5 : decode cX6_isSo 5 = .ok (.aload_n 0, 1) := by decide +kernel
theorem dX6_isSo_6 : decode cX6_isSo 6 = .ok (.getfield 107, 3) := by decide +kernel
theorem dX6_isSo_9 : decode cX6_isSo 9 = .ok (.if_icmp .ge 64, 3) := by decide +kernel
theorem dX6_isSo_12 : decode cX6_isSo 12 = .ok (.iload_n 2, 1) := by decide +kernel
theorem dX6_isSo_13 : decode cX6_isSo 13 = .ok (.ifCond .eq 52, 3) := by decide +kernel
theorem dX6_isSo_16 : decode cX6_isSo 16 = .ok (.aload_n 0, 1) := by decide +kernel
theorem dX6_isSo_17 : decode cX6_isSo 17 = .ok (.getfield 31, 3) := by decide +kernel
theorem dX6_isSo_20 : decode cX6_isSo 20 = .ok (.iconst 3, 1) := by decide +kernel
theorem dX6_isSo_21 : decode cX6_isSo 21 = .ok (.iload_n 3, 1) := by decide +kernel
theorem dX6_isSo_22 : decode cX6_isSo 22 = .ok (.imul, 1) := by decide +kernel
theorem dX6_isSo_23 : decode cX6_isSo 23 = .ok (.iaload, 1) := by decide +kernel
theorem dX6_isSo_24 : decode cX6_isSo 24 = .ok (.iload_n 1, 1) := by decide +kernel
theorem dX6_isSo_25 : decode cX6_isSo 25 = .ok (.if_icmp .ne 36, 3) := by decide +kernel
theorem dX6_isSo_28 : decode cX6_isSo 28 = .ok (.aload_n 0, 1) := by decide +kernel
theorem dX6_isSo_29 : decode cX6_isSo 29 = .ok (.aload_n 0, 1) := by decide +kernel
theorem dX6_isSo_30 : decode cX6_isSo 30 = .ok (.getfield 31, 3) := by decide +kernel
theorem dX6_isSo_33 : decode cX6_isSo 33 = .ok (.iconst 3, 1) := by decide +kernel
theorem dX6_isSo_34 : decode cX6_isSo 34 = .ok (.iload_n 3, 1) := by decide +kernel
theorem dX6_isSo_35 : decode cX6_isSo 35 = .ok (.imul, 1) := by decide +kernel
theorem dX6_isSo_36 : decode cX6_isSo 36 = .ok (.iconst 2, 1) := by decide +kernel
theorem dX6_isSo_37 : decode cX6_isSo 37 = .ok (.iadd, 1) := by decide +kernel
theorem dX6_isSo_38 : decode cX6_isSo 38 = .ok (.iaload, 1) := by decide +kernel
theorem dX6_isSo_39 : decode cX6_isSo 39 = .ok (.bipush 11, 2) := by decide +kernel
theorem dX6_isSo_41 : decode cX6_isSo 41 = .ok (.iconst 4, 1) := by decide +kernel
theorem dX6_isSo_42 : decode cX6_isSo 42 = .ok (.iload_n 1, 1) := by decide +kernel
theorem dX6_isSo_43 : decode cX6_isSo 43 = .ok (.imul, 1) := by decide +kernel
theorem dX6_isSo_44 : decode cX6_isSo 44 = .ok (.iadd, 1) := by decide +kernel
theorem dX6_isSo_45 : decode cX6_isSo 45 = .ok (.invokevirtual 156, 3) := by decide +kernel
theorem dX6_isSo_48 : decode cX6_isSo 48 = .ok (.aload_n 0, 1) := by decide +kernel
theorem dX6_isSo_49 : decode cX6_isSo 49 = .ok (.getfield 31, 3) := by decide +kernel
theorem dX6_isSo_52 : decode cX6_isSo 52 = .ok (.iconst 3, 1) := by decide +kernel
theorem dX6_isSo_53 : decode cX6_isSo 53 = .ok (.iload_n 3, 1) := by decide +kernel
theorem dX6_isSo_54 : decode cX6_isSo 54 = .ok (.imul, 1) := by decide +kernel
theorem dX6_isSo_55 : decode cX6_isSo 55 = .ok (.iconst 1, 1) := by decide +kernel
theorem dX6_isSo_56 : decode cX6_isSo 56 = .ok (.iadd, 1) := by decide +kernel
theorem dX6_isSo_57 : decode cX6_isSo 57 = .ok (.iaload, 1) := by decide +kernel
theorem dX6_isSo_58 : decode cX6_isSo 58 = .ok (.if_icmp .ne 7, 3) := by decide +kernel
theorem dX6_isSo_61 : decode cX6_isSo 61 = .ok (.iconst 1, 1) := by decide +kernel
theorem dX6_isSo_62 : decode cX6_isSo 62 = .ok (.goto 4, 3) := by decide +kernel
theorem dX6_isSo_65 : decode cX6_isSo 65 = .ok (.iconst 0, 1) := by decide +kernel
theorem dX6_isSo_66 : decode cX6_isSo 66 = .ok (.istore_n 2, 1) := by decide +kernel
theorem dX6_isSo_67 : decode cX6_isSo 67 = .ok (.iinc 3 1, 3) := by decide +kernel
theorem dX6_isSo_70 : decode cX6_isSo 70 = .ok (.goto (-66), 3) := by decide +kernel
theorem dX6_isSo_73 : decode cX6_isSo 73 = .ok (.iload_n 2, 1) := by decide +kernel
theorem dX6_isSo_74 : decode cX6_isSo 74 = .ok (.ireturn, 1) := by decide +kernel
theorem dX6_fits_0 : decode cX6_fits 0 = .ok (.aload_n 0, 1) := by decide +kernel
theorem dX6_fits_1 : decode cX6_fits 1 = .ok (.iload_n 1, 1) := by decide +kernel
theorem dX6_fits_2 : decode cX6_fits 2 = .ok (.invokevirtual 126, 3) := by decide +kernel
theorem dX6_fits_5 : decode cX6_fits 5 = .ok (.ifCond .eq 12, 3) := by decide +kernel
theorem dX6_fits_8 : decode cX6_fits 8 = .ok (.iload_n 2, 1) := by decide +kernel
theorem dX6_fits_9 : decode cX6_fits 9 = .ok (.iconst 0, 1) := by decide +kernel
theorem dX6_fits_10 : decode cX6_fits 10 = .ok (.iconst 1, 1) := by decide +kernel
theorem dX6_fits_11 : decode cX6_fits 11 = .ok (.invokestatic 54, 3) := by decide +kernel
theorem dX6_fits_14 : decode cX6_fits 14 = .ok (.ifCond .ne 5, 3) := by decide +kernel
theorem dX6_fits_17 : decode cX6_fits 17 = .ok (.iconst (-1), 1) := by decide +kernel
theorem dX6_fits_18 : decode cX6_fits 18 = .ok (.ireturn, 1) := by decide +kernel
theorem dX6_fits_19 : decode cX6_fits 19 = .ok (.aload_n 0, 1) := by decide +kernel
theorem dX6_fits_20 : decode cX6_fits 20 = .ok (.getfield 22, 3) := by decide +kernel
theorem dX6_fits_23 : decode cX6_fits 23 = .ok (.iconst 5, 1) := by decide +kernel
theorem dX6_fits_24 : decode cX6_fits 24 = .ok (.iload_n 1, 1) := by decide +kernel
theorem dX6_fits_25 : decode cX6_fits 25 = .ok (.iadd, 1) := by decide +kernel
theorem dX6_fits_26 : decode cX6_fits 26 = .ok (.iaload, 1) := by decide +kernel
theorem dX6_fits_27 : decode cX6_fits 27 = .ok (.istore_n 3, 1) := by decide +kernel
theorem dX6_fits_28 : decode cX6_fits 28 = .ok (.aload_n 0, 1) := by decide +kernel
theorem dX6_fits_29 : decode cX6_fits 29 = .ok (.getfield 13, 3) := by decide +kernel
theorem dX6_fits_32 : decode cX6_fits 32 = .ok (.bipush 75, 2) := by decide +kernel
theorem dX6_fits_34 : decode cX6_fits 34 = .ok (.iload_n 1, 1) := by decide +kernel
theorem dX6_fits_35 : decode cX6_fits 35 = .ok (.iadd, 1) := by decide +kernel
theorem dX6_fits_36 : decode cX6_fits 36 = .ok (.iaload, 1) := by decide +kernel
theorem dX6_fits_37 : decode cX6_fits 37 = .ok (.istore 4, 2) := by decide +kernel
theorem dX6_fits_39 : decode cX6_fits 39 = .ok (.iconst 0, 1) := by decide +kernel
theorem dX6_fits_40 : decode cX6_fits 40 = .ok (.istore 5, 2) := by decide +kernel
theorem dX6_fits_42 : decode cX6_fits 42 = .ok (.iconst 0, 1) := by decide +kernel
theorem dX6_fits_43 : decode cX6_fits 43 = .ok (.istore 6, 2) := by decide +kernel
theorem dX6_fits_45 : decode cX6_fits 45 = .ok (.iload 6, 2) := by decide +kernel
theorem dX6_fits_47 : decode cX6_fits 47 = .ok (.iconst 4, 1) := by decide +kernel
theorem dX6_fits_48 : decode cX6_fits 48 = .ok (.if_icmp .ge 68, 3) := by decide +kernel
theorem dX6_fits_51 : decode cX6_fits 51 = .ok (.aload_n 0, 1) := by decide +kernel
theorem dX6_fits_52 : decode cX6_fits 52 = .ok (.getfield 22, 3) := by decide +kernel
theorem dX6_fits_55 : decode cX6_fits 55 = .ok (.iconst 5, 1) := by decide +kernel
theorem dX6_fits_56 : decode cX6_fits 56 = .ok (.iload_n 1, 1) := by decide +kernel
theorem dX6_fits_57 : decode cX6_fits 57 = .ok (.iadd, 1) := by decide +kernel
theorem dX6_fits_58 : decode cX6_fits 58 = .ok (.iload_n 2, 1) := by decide +kernel
theorem dX6_fits_59 : decode cX6_fits 59 = .ok (.ifCond .ne 8, 3) := by decide +kernel
theorem dX6_fits_62 : decode cX6_fits 62 = .ok (.iload 6, 2) := by decide +kernel
theorem dX6_fits_64 : decode cX6_fits 64 = .ok (.goto 4, 3) := by decide +kernel
theorem dX6_fits_67 : decode cX6_fits 67 = .ok (.iload_n 3, 1) := by decide +kernel
theorem dX6_fits_68 : decode cX6_fits 68 = .ok (.iastore, 1) := by decide +kernel
theorem dX6_fits_69 : decode cX6_fits 69 = .ok (.aload_n 0, 1) := by decide +kernel
theorem dX6_fits_70 : decode cX6_fits 70 = .ok (.getfield 13, 3) := by decide +kernel
theorem dX6_fits_73 : decode cX6_fits 73 = .ok (.bipush 75, 2) := by decide +kernel
theorem dX6_fits_75 : decode cX6_fits 75 = .ok (.iload_n 1, 1) := by decide +kernel
theorem dX6_fits_76 : decode cX6_fits 76 = .ok (.iadd, 1) := by decide +kernel
theorem dX6_fits_77 : decode cX6_fits 77 = .ok (.iload_n 2, 1) := by decide +kernel
theorem dX6_fits_78 : decode cX6_fits 78 = .ok (.ifCond .ne 8, 3) := by decide +kernel
theorem dX6_fits_81 : decode cX6_fits 81 = .ok (.iload 4, 2) := by decide +kernel
theorem dX6_fits_83 : decode cX6_fits 83 = .ok (.goto 5, 3) := by decide +kernel
theorem dX6_fits_86 : decode cX6_fits 86 = .ok (.iload 6, 2) := by decide +kernel
theorem dX6_fits_88 : decode cX6_fits 88 = .ok (.iastore, 1) := by decide +kernel
theorem dX6_fits_89 : decode cX6_fits 89 = .ok (.iload 5, 2) := by decide +kernel
theorem dX6_fits_91 : decode cX6_fits 91 = .ok (.aload_n 0, 1) := by decide +kernel
theorem dX6_fits_92 : decode cX6_fits 92 = .ok (.iload_n 1, 1) := by decide +kernel
theorem dX6_fits_93 : decode cX6_fits 93 = .ok (.invokevirtual 169, 3) := by decide +kernel
theorem dX6_fits_96 : decode cX6_fits 96 = .ok (.ifCond .eq 10, 3) := by decide +kernel
theorem dX6_fits_99 : decode cX6_fits 99 = .ok (.iconst 1, 1) := by decide +kernel
theorem dX6_fits_100 : decode cX6_fits 100 = .ok (.iload 6, 2) := by decide +kernel
theorem dX6_fits_102 : decode cX6_fits 102 = .ok (.ishl, 1) := by decide +kernel
theorem dX6_fits_103 : decode cX6_fits 103 = .ok (.goto 4, 3) := by decide +kernel
theorem dX6_fits_106 : decode cX6_fits 106 = .ok (.iconst 0, 1) := by decide +kernel
theorem dX6_fits_107 : decode cX6_fits 107 = .ok (.ior, 1) := by decide +kernel
theorem dX6_fits_108 : decode cX6_fits 108 = .ok (.istore 5, 2) := by decide +kernel
theorem dX6_fits_110 : decode cX6_fits 110 = .ok (.iinc 6 1, 3) := by decide +kernel
theorem dX6_fits_113 : decode cX6_fits 113 = .ok (.goto (-68), 3) := by decide +kernel
theorem dX6_fits_116 : decode cX6_fits 116 = .ok (.aload_n 0, 1) := by decide +kernel
theorem dX6_fits_117 : decode cX6_fits 117 = .ok (.getfield 22, 3) := by decide +kernel
theorem dX6_fits_120 : decode cX6_fits 120 = .ok (.iconst 5, 1) := by decide +kernel
theorem dX6_fits_121 : decode cX6_fits 121 = .ok (.iload_n 1, 1) := by decide +kernel
theorem dX6_fits_122 : decode cX6_fits 122 = .ok (.iadd, 1) := by decide +kernel
theorem dX6_fits_123 : decode cX6_fits 123 = .ok (.iload_n 3, 1) := by decide +kernel
theorem dX6_fits_124 : decode cX6_fits 124 = .ok (.iastore, 1) := by decide +kernel
theorem dX6_fits_125 : decode cX6_fits 125 = .ok (.aload_n 0, 1) := by decide +kernel
theorem dX6_fits_126 : decode cX6_fits 126 = .ok (.getfield 13, 3) := by decide +kernel
theorem dX6_fits_129 : decode cX6_fits 129 = .ok (.bipush 75, 2) := by decide +kernel
theorem dX6_fits_131 : decode cX6_fits 131 = .ok (.iload_n 1, 1) := by decide +kernel
theorem dX6_fits_132 : decode cX6_fits 132 = .ok (.iadd, 1) := by decide +kernel
theorem dX6_fits_133 : decode cX6_fits 133 = .ok (.iload 4, 2) := by decide +kernel
theorem dX6_fits_135 : decode cX6_fits 135 = .ok (.iastore, 1) := by decide +kernel
theorem dX6_fits_136 : decode cX6_fits 136 = .ok (.iload 5, 2) := by decide +kernel
theorem dX6_fits_138 : decode cX6_fits 138 = .ok (.ireturn, 1) := by decide +kernel
theorem dX6_frost_0 : decode cX6_frost 0 = .ok (.aload_n 0, 1) := by decide +kernel
theorem dX6_frost_1 : decode cX6_frost 1 = .ok (.iload_n 1, 1) := by decide +kernel
theorem dX6_frost_2 : decode cX6_frost 2 = .ok (.invokevirtual 126, 3) := by decide +kernel
theorem dX6_frost_5 : decode cX6_frost 5 = .ok (.ifCond .eq 42, 3) := by decide +kernel
theorem dX6_frost_8 : decode cX6_frost 8 = .ok (.aload_n 0, 1) := by decide +kernel
theorem dX6_frost_9 : decode cX6_frost 9 = .ok (.iload_n 2, 1) := by decide +kernel
theorem dX6_frost_10 : decode cX6_frost 10 = .ok (.invokevirtual 110, 3) := by decide +kernel
theorem dX6_frost_13 : decode cX6_frost 13 = .ok (.ifCond .eq 34, 3) := by decide +kernel
theorem dX6_frost_16 : decode cX6_frost 16 = .ok (.iload_n 3, 1) := by decide +kernel
theorem dX6_frost_17 : decode cX6_frost 17 = .ok (.iconst 0, 1) := by decide +kernel
theorem dX6_frost_18 : decode cX6_frost 18 = .ok (.bipush 8, 2) := by decide +kernel
theorem dX6_frost_20 : decode cX6_frost 20 = .ok (.invokestatic 54, 3) := by decide +kernel
theorem dX6_frost_23 : decode cX6_frost 23 = .ok (.ifCond .eq 24, 3) := by decide +kernel
theorem dX6_frost_26 : decode cX6_frost 26 = .ok (.iload 4, 2) := by decide +kernel
theorem dX6_frost_28 : decode cX6_frost 28 = .ok (.iconst 0, 1) := by decide +kernel
theorem dX6_frost_29 : decode cX6_frost 29 = .ok (.bipush 10, 2) := by decide +kernel
theorem dX6_frost_31 : decode cX6_frost 31 = .ok (.invokestatic 54, 3) := by decide +kernel
theorem dX6_frost_34 : decode cX6_frost 34 = .ok (.ifCond .eq 13, 3) := by decide +kernel
theorem dX6_frost_37 : decode cX6_frost 37 = .ok (.iload 5, 2) := by decide +kernel
theorem dX6_frost_39 : decode cX6_frost 39 = .ok (.iconst 0, 1) := by decide +kernel
theorem dX6_frost_40 : decode cX6_frost 40 = .ok (.iconst 1, 1) := by decide +kernel
theorem dX6_frost_41 : decode cX6_frost 41 = .ok (.invokestatic 54, 3) := by decide +kernel
theorem dX6_frost_44 : decode cX6_frost 44 = .ok (.ifCond .ne 5, 3) := by decide +kernel
theorem dX6_frost_47 : decode cX6_frost 47 = .ok (.iconst (-1), 1) := by decide +kernel
theorem dX6_frost_48 : decode cX6_frost 48 = .ok (.ireturn, 1) := by decide +kernel
theorem dX6_frost_49 : decode cX6_frost 49 = .ok (.aload_n 0, 1) := by decide +kernel
theorem dX6_frost_50 : decode cX6_frost 50 = .ok (.invokevirtual 150, 3) := by decide +kernel
theorem dX6_frost_53 : decode cX6_frost 53 = .ok (.iconst 0, 1) := by decide +kernel
theorem dX6_frost_54 : decode cX6_frost 54 = .ok (.istore 6, 2) := by decide +kernel
theorem dX6_frost_56 : decode cX6_frost 56 = .ok (.iconst 1, 1) := by decide +kernel
theorem dX6_frost_57 : decode cX6_frost 57 = .ok (.istore 7, 2) := by decide +kernel
theorem dX6_frost_59 : decode cX6_frost 59 = .ok (.iconst 0, 1) := by decide +kernel
theorem dX6_frost_60 : decode cX6_frost 60 = .ok (.istore 8, 2) := by decide +kernel
theorem dX6_frost_62 : decode cX6_frost 62 = .ok (.iload 8, 2) := by decide +kernel
theorem dX6_frost_64 : decode cX6_frost 64 = .ok (.iload_n 3, 1) := by decide +kernel
theorem dX6_frost_65 : decode cX6_frost 65 = .ok (.if_icmp .ge 16, 3) := by decide +kernel
theorem dX6_frost_68 : decode cX6_frost 68 = .ok (.iload 7, 2) := by decide +kernel
theorem dX6_frost_70 : decode cX6_frost 70 = .ok (.bipush 10, 2) := by decide +kernel
theorem dX6_frost_72 : decode cX6_frost 72 = .ok (.imul, 1) := by decide +kernel
theorem dX6_frost_73 : decode cX6_frost 73 = .ok (.istore 7, 2) := by decide +kernel
theorem dX6_frost_75 : decode cX6_frost 75 = .ok (.iinc 8 1, 3) := by decide +kernel
theorem dX6_frost_78 : decode cX6_frost 78 = .ok (.goto (-16), 3) := by decide +kernel
theorem dX6_frost_81 : decode cX6_frost 81 = .ok (.iconst 0, 1) := by decide +kernel
theorem dX6_frost_82 : decode cX6_frost 82 = .ok (.istore 8, 2) := by decide +kernel
theorem dX6_frost_84 : decode cX6_frost 84 = .ok (.iload 8, 2) := by decide +kernel
theorem dX6_frost_86 : decode cX6_frost 86 = .ok (.iconst 1, 1) := by decide +kernel
theorem dX6_frost_87 : decode cX6_frost 87 = .ok (.iload_n 3, 1) := by decide +kernel
theorem dX6_frost_88 : decode cX6_frost 88 = .ok (.ishl, 1) := by decide +kernel
theorem dX6_frost_89 : decode cX6_frost 89 = .ok (.if_icmp .ge 109, 3) := by decide +kernel
theorem dX6_frost_92 : decode cX6_frost 92 = .ok (.iconst 1, 1) := by decide +kernel
theorem dX6_frost_93 : decode cX6_frost 93 = .ok (.istore 9, 2) := by decide +kernel
theorem dX6_frost_95 : decode cX6_frost 95 = .ok (.iconst 0, 1) := by decide +kernel
theorem dX6_frost_96 : decode cX6_frost 96 = .ok (.istore 10, 2) := by decide +kernel
theorem dX6_frost_98 : decode cX6_frost 98 = .ok (.iload 10, 2) := by decide +kernel
theorem dX6_frost_100 : decode cX6_frost 100 = .ok (.iload_n 3, 1) := by decide +kernel
theorem dX6_frost_101 : decode cX6_frost 101 = .ok (.if_icmp .ge 61, 3) := by decide +kernel
theorem dX6_frost_104 : decode cX6_frost 104 = .ok (.iload 8, 2) := by decide +kernel
theorem dX6_frost_106 : decode cX6_frost 106 = .ok (.iload 10, 2) := by decide +kernel
theorem dX6_frost_108 : decode cX6_frost 108 = .ok (.ishr, 1) := by decide +kernel
theorem dX6_frost_109 : decode cX6_frost 109 = .ok (.iconst 1, 1) := by decide +kernel
theorem dX6_frost_110 : decode cX6_frost 110 = .ok (.iand, 1) := by decide +kernel
theorem dX6_frost_111 : decode cX6_frost 111 = .ok (.iconst 1, 1) := by decide +kernel
theorem dX6_frost_112 : decode cX6_frost 112 = .ok (.if_icmp .ne 7, 3) := by decide +kernel
theorem dX6_frost_115 : decode cX6_frost 115 = .ok (.iconst 1, 1) := by decide +kernel
theorem dX6_frost_116 : decode cX6_frost 116 = .ok (.goto 4, 3) := by decide +kernel
theorem dX6_frost_119 : decode cX6_frost 119 = .ok (.iconst 0, 1) := by decide +kernel
theorem dX6_frost_120 : decode cX6_frost 120 = .ok (.istore 11, 2) := by decide +kernel
theorem dX6_frost_122 : decode cX6_frost 122 = .ok (.iload 9, 2) := by decide +kernel
theorem dX6_frost_124 : decode cX6_frost 124 = .ok (.iload 11, 2) := by decide +kernel
theorem dX6_frost_126 : decode cX6_frost 126 = .ok (.ifCond .eq 8, 3) := by decide +kernel
theorem dX6_frost_129 : decode cX6_frost 129 = .ok (.iload 4, 2) := by decide +kernel
theorem dX6_frost_131 : decode cX6_frost 131 = .ok (.goto 8, 3) := by decide +kernel
theorem dX6_frost_134 : decode cX6_frost 134 = .ok (.bipush 10, 2) := by decide +kernel
theorem dX6_frost_136 : decode cX6_frost 136 = .ok (.iload 4, 2) := by decide +kernel
theorem dX6_frost_138 : decode cX6_frost 138 = .ok (.isub, 1) := by decide +kernel
theorem dX6_frost_139 : decode cX6_frost 139 = .ok (.imul, 1) := by decide +kernel
theorem dX6_frost_140 : decode cX6_frost 140 = .ok (.istore 9, 2) := by decide +kernel
theorem dX6_frost_142 : decode cX6_frost 142 = .ok (.aload_n 0, 1) := by decide +kernel
theorem dX6_frost_143 : decode cX6_frost 143 = .ok (.iload 11, 2) := by decide +kernel
theorem dX6_frost_145 : decode cX6_frost 145 = .ok (.ifCond .eq 7, 3) := by decide +kernel
theorem dX6_frost_148 : decode cX6_frost 148 = .ok (.iload_n 1, 1) := by decide +kernel
theorem dX6_frost_149 : decode cX6_frost 149 = .ok (.goto 4, 3) := by decide +kernel
theorem dX6_frost_152 : decode cX6_frost 152 = .ok (.iconst (-1), 1) := by decide +kernel
theorem dX6_frost_153 : decode cX6_frost 153 = .ok (.invokevirtual 138, 3) := by decide +kernel
theorem dX6_frost_156 : decode cX6_frost 156 = .ok (.iinc 10 1, 3) := by decide +kernel
theorem dX6_frost_159 : decode cX6_frost 159 = .ok (.goto (-61), 3) := by decide +kernel
theorem dX6_frost_162 : decode cX6_frost 162 = .ok (.iload 6, 2) := by decide +kernel
theorem dX6_frost_164 : decode cX6_frost 164 = .ok (.aload_n 0, 1) := by decide +kernel
theorem dX6_frost_165 : decode cX6_frost 165 = .ok (.getfield 22, 3) := by decide +kernel
theorem dX6_frost_168 : decode cX6_frost 168 = .ok (.bipush 11, 2) := by decide +kernel
theorem dX6_frost_170 : decode cX6_frost 170 = .ok (.iconst 4, 1) := by decide +kernel
theorem dX6_frost_171 : decode cX6_frost 171 = .ok (.iload_n 1, 1) := by decide +kernel
theorem dX6_frost_172 : decode cX6_frost 172 = .ok (.imul, 1) := by decide +kernel
theorem dX6_frost_173 : decode cX6_frost 173 = .ok (.iadd, 1) := by decide +kernel
theorem dX6_frost_174 : decode cX6_frost 174 = .ok (.iaload, 1) := by decide +kernel
theorem dX6_frost_175 : decode cX6_frost 175 = .ok (.iload_n 2, 1) := by decide +kernel
theorem dX6_frost_176 : decode cX6_frost 176 = .ok (.if_icmp .ne 8, 3) := by decide +kernel
theorem dX6_frost_179 : decode cX6_frost 179 = .ok (.iload 9, 2) := by decide +kernel
theorem dX6_frost_181 : decode cX6_frost 181 = .ok (.goto 4, 3) := by decide +kernel
theorem dX6_frost_184 : decode cX6_frost 184 = .ok (.iconst 0, 1) := by decide +kernel
theorem dX6_frost_185 : decode cX6_frost 185 = .ok (.iadd, 1) := by decide +kernel
theorem dX6_frost_186 : decode cX6_frost 186 = .ok (.istore 6, 2) := by decide +kernel
theorem dX6_frost_188 : decode cX6_frost 188 = .ok (.aload_n 0, 1) := by decide +kernel
theorem dX6_frost_189 : decode cX6_frost 189 = .ok (.invokevirtual 153, 3) := by decide +kernel
theorem dX6_frost_192 : decode cX6_frost 192 = .ok (.iinc 8 1, 3) := by decide +kernel
theorem dX6_frost_195 : decode cX6_frost 195 = .ok (.goto (-111), 3) := by decide +kernel
theorem dX6_frost_198 : decode cX6_frost 198 = .ok (.iload 6, 2) := by decide +kernel
theorem dX6_frost_200 : decode cX6_frost 200 = .ok (.istore 8, 2) := by decide +kernel
theorem dX6_frost_202 : decode cX6_frost 202 = .ok (.iload 7, 2) := by decide +kernel
theorem dX6_frost_204 : decode cX6_frost 204 = .ok (.istore 9, 2) := by decide +kernel
theorem dX6_frost_206 : decode cX6_frost 206 = .ok (.iload 9, 2) := by decide +kernel
theorem dX6_frost_208 : decode cX6_frost 208 = .ok (.ifCond .le 21, 3) := by decide +kernel
theorem dX6_frost_211 : decode cX6_frost 211 = .ok (.iload 8, 2) := by decide +kernel
theorem dX6_frost_213 : decode cX6_frost 213 = .ok (.iload 9, 2) := by decide +kernel
theorem dX6_frost_215 : decode cX6_frost 215 = .ok (.irem, 1) := by decide +kernel
theorem dX6_frost_216 : decode cX6_frost 216 = .ok (.istore 10, 2) := by decide +kernel
theorem dX6_frost_218 : decode cX6_frost 218 = .ok (.iload 9, 2) := by decide +kernel
theorem dX6_frost_220 : decode cX6_frost 220 = .ok (.istore 8, 2) := by decide +kernel
theorem dX6_frost_222 : decode cX6_frost 222 = .ok (.iload 10, 2) := by decide +kernel
theorem dX6_frost_224 : decode cX6_frost 224 = .ok (.istore 9, 2) := by decide +kernel
theorem dX6_frost_226 : decode cX6_frost 226 = .ok (.goto (-20), 3) := by decide +kernel
theorem dX6_frost_229 : decode cX6_frost 229 = .ok (.iload 5, 2) := by decide +kernel
theorem dX6_frost_231 : decode cX6_frost 231 = .ok (.ifCond .ne 11, 3) := by decide +kernel
theorem dX6_frost_234 : decode cX6_frost 234 = .ok (.iload 6, 2) := by decide +kernel
theorem dX6_frost_236 : decode cX6_frost 236 = .ok (.iload 8, 2) := by decide +kernel
theorem dX6_frost_238 : decode cX6_frost 238 = .ok (.idiv, 1) := by decide +kernel
theorem dX6_frost_239 : decode cX6_frost 239 = .ok (.goto 8, 3) := by decide +kernel
theorem dX6_frost_242 : decode cX6_frost 242 = .ok (.iload 7, 2) := by decide +kernel
theorem dX6_frost_244 : decode cX6_frost 244 = .ok (.iload 8, 2) := by decide +kernel
theorem dX6_frost_246 : decode cX6_frost 246 = .ok (.idiv, 1) := by decide +kernel
theorem dX6_frost_247 : decode cX6_frost 247 = .ok (.ireturn, 1) := by decide +kernel
theorem dX6_turn_0 : decode cX6_turn 0 = .ok (.iload_n 1, 1) := by decide +kernel
theorem dX6_turn_1 : decode cX6_turn 1 = .ok (.bipush 8, 2) := by decide +kernel
theorem dX6_turn_3 : decode cX6_turn 3 = .ok (.idiv, 1) := by decide +kernel
theorem dX6_turn_4 : decode cX6_turn 4 = .ok (.aload_n 0, 1) := by decide +kernel
theorem dX6_turn_5 : decode cX6_turn 5 = .ok (.getfield 13, 3) := by decide +kernel
theorem dX6_turn_8 : decode cX6_turn 8 = .ok (.iconst 0, 1) := by decide +kernel
theorem dX6_turn_9 : decode cX6_turn 9 = .ok (.iaload, 1) := by decide +kernel
theorem dX6_turn_10 : decode cX6_turn 10 = .ok (.irem, 1) := by decide +kernel
theorem dX6_turn_11 : decode cX6_turn 11 = .ok (.istore_n 2, 1) := by decide +kernel
theorem dX6_turn_12 : decode cX6_turn 12 = .ok (.iload_n 1, 1) := by decide +kernel
theorem dX6_turn_13 : decode cX6_turn 13 = .ok (.bipush 8, 2) := by decide +kernel
theorem dX6_turn_15 : decode cX6_turn 15 = .ok (.idiv, 1) := by decide +kernel
theorem dX6_turn_16 : decode cX6_turn 16 = .ok (.aload_n 0, 1) := by decide +kernel
theorem dX6_turn_17 : decode cX6_turn 17 = .ok (.getfield 13, 3) := by decide +kernel
theorem dX6_turn_20 : decode cX6_turn 20 = .ok (.iconst 2, 1) := by decide +kernel
theorem dX6_turn_21 : decode cX6_turn 21 = .ok (.iaload, 1) := by decide +kernel
theorem dX6_turn_22 : decode cX6_turn 22 = .ok (.irem, 1) := by decide +kernel
theorem dX6_turn_23 : decode cX6_turn 23 = .ok (.istore_n 3, 1) := by decide +kernel
theorem dX6_turn_24 : decode cX6_turn 24 = .ok (.iload_n 1, 1) := by decide +kernel
theorem dX6_turn_25 : decode cX6_turn 25 = .ok (.bipush 8, 2) := by decide +kernel
theorem dX6_turn_27 : decode cX6_turn 27 = .ok (.irem, 1) := by decide +kernel
theorem dX6_turn_28 : decode cX6_turn 28 = .ok (.istore 4, 2) := by decide +kernel
theorem dX6_turn_30 : decode cX6_turn 30 = .ok (.iload 4, 2) := by decide +kernel
theorem dX6_turn_32 : decode cX6_turn 32 = .ok (.iconst 2, 1) := by decide +kernel
theorem dX6_turn_33 : decode cX6_turn 33 = .ok (.if_icmp .ge 24, 3) := by decide +kernel
theorem dX6_turn_36 : decode cX6_turn 36 = .ok (.aload_n 0, 1) := by decide +kernel
theorem dX6_turn_37 : decode cX6_turn 37 = .ok (.iload_n 2, 1) := by decide +kernel
theorem dX6_turn_38 : decode cX6_turn 38 = .ok (.invokevirtual 141, 3) := by decide +kernel
theorem dX6_turn_41 : decode cX6_turn 41 = .ok (.ifCond .eq 16, 3) := by decide +kernel
theorem dX6_turn_44 : decode cX6_turn 44 = .ok (.aload_n 0, 1) := by decide +kernel
theorem dX6_turn_45 : decode cX6_turn 45 = .ok (.getfield 22, 3) := by decide +kernel
theorem dX6_turn_48 : decode cX6_turn 48 = .ok (.bipush 23, 2) := by decide +kernel
theorem dX6_turn_50 : decode cX6_turn 50 = .ok (.iload_n 2, 1) := by decide +kernel
theorem dX6_turn_51 : decode cX6_turn 51 = .ok (.iadd, 1) := by decide +kernel
theorem dX6_turn_52 : decode cX6_turn 52 = .ok (.iconst 1, 1) := by decide +kernel
theorem dX6_turn_53 : decode cX6_turn 53 = .ok (.iastore, 1) := by decide +kernel
theorem dX6_turn_54 : decode cX6_turn 54 = .ok (.goto 56, 3) := by decide +kernel
theorem dX6_turn_57 : decode cX6_turn 57 = .ok (.iload 4, 2) := by decide +kernel
theorem dX6_turn_59 : decode cX6_turn 59 = .ok (.iconst 2, 1) := by decide +kernel
theorem dX6_turn_60 : decode cX6_turn 60 = .ok (.if_icmp .ne 25, 3) := by decide +kernel
theorem dX6_turn_63 : decode cX6_turn 63 = .ok (.aload_n 0, 1) := by decide +kernel
theorem dX6_turn_64 : decode cX6_turn 64 = .ok (.iload_n 2, 1) := by decide +kernel
theorem dX6_turn_65 : decode cX6_turn 65 = .ok (.invokevirtual 113, 3) := by decide +kernel
theorem dX6_turn_68 : decode cX6_turn 68 = .ok (.iconst 1, 1) := by decide +kernel
theorem dX6_turn_69 : decode cX6_turn 69 = .ok (.if_icmp .ne 16, 3) := by decide +kernel
theorem dX6_turn_72 : decode cX6_turn 72 = .ok (.aload_n 0, 1) := by decide +kernel
theorem dX6_turn_73 : decode cX6_turn 73 = .ok (.getfield 22, 3) := by decide +kernel
theorem dX6_turn_76 : decode cX6_turn 76 = .ok (.bipush 23, 2) := by decide +kernel
theorem dX6_turn_78 : decode cX6_turn 78 = .ok (.iload_n 2, 1) := by decide +kernel
theorem dX6_turn_79 : decode cX6_turn 79 = .ok (.iadd, 1) := by decide +kernel
theorem dX6_turn_80 : decode cX6_turn 80 = .ok (.iconst 0, 1) := by decide +kernel
theorem dX6_turn_81 : decode cX6_turn 81 = .ok (.iastore, 1) := by decide +kernel
theorem dX6_turn_82 : decode cX6_turn 82 = .ok (.goto 28, 3) := by decide +kernel
theorem dX6_turn_85 : decode cX6_turn 85 = .ok (.iload 4, 2) := by decide +kernel
theorem dX6_turn_87 : decode cX6_turn 87 = .ok (.iconst 3, 1) := by decide +kernel
theorem dX6_turn_88 : decode cX6_turn 88 = .ok (.if_icmp .ne 22, 3) := by decide +kernel
theorem dX6_turn_91 : decode cX6_turn 91 = .ok (.aload_n 0, 1) := by decide +kernel
theorem dX6_turn_92 : decode cX6_turn 92 = .ok (.getfield 22, 3) := by decide +kernel
theorem dX6_turn_95 : decode cX6_turn 95 = .ok (.bipush 8, 2) := by decide +kernel
theorem dX6_turn_97 : decode cX6_turn 97 = .ok (.iload_n 3, 1) := by decide +kernel
theorem dX6_turn_98 : decode cX6_turn 98 = .ok (.iadd, 1) := by decide +kernel
theorem dX6_turn_99 : decode cX6_turn 99 = .ok (.iaload, 1) := by decide +kernel
theorem dX6_turn_100 : decode cX6_turn 100 = .ok (.iconst 1, 1) := by decide +kernel
theorem dX6_turn_101 : decode cX6_turn 101 = .ok (.if_icmp .le 9, 3) := by decide +kernel
theorem dX6_turn_104 : decode cX6_turn 104 = .ok (.aload_n 0, 1) := by decide +kernel
theorem dX6_turn_105 : decode cX6_turn 105 = .ok (.iload_n 3, 1) := by decide +kernel
theorem dX6_turn_106 : decode cX6_turn 106 = .ok (.invokevirtual 147, 3) := by decide +kernel
theorem dX6_turn_109 : decode cX6_turn 109 = .ok (.pop, 1) := by decide +kernel
theorem dX6_turn_110 : decode cX6_turn 110 = .ok (.return_, 1) := by decide +kernel
theorem dX6_allHave_0 : decode cX6_allHave 0 = .ok (.aload_n 0, 1) := by decide +kernel
theorem dX6_allHave_1 : decode cX6_allHave 1 = .ok (.getfield 22, 3) := by decide +kernel
theorem dX6_allHave_4 : decode cX6_allHave 4 = .ok (.iconst 1, 1) := by decide +kernel
theorem dX6_allHave_5 : decode cX6_allHave 5 = .ok (.iaload, 1) := by decide +kernel
theorem dX6_allHave_6 : decode cX6_allHave 6 = .ok (.aload_n 0, 1) := by decide +kernel
theorem dX6_allHave_7 : decode cX6_allHave 7 = .ok (.getfield 22, 3) := by decide +kernel
theorem dX6_allHave_10 : decode cX6_allHave 10 = .ok (.iconst 2, 1) := by decide +kernel
theorem dX6_allHave_11 : decode cX6_allHave 11 = .ok (.iaload, 1) := by decide +kernel
theorem dX6_allHave_12 : decode cX6_allHave 12 = .ok (.iadd, 1) := by decide +kernel
theorem dX6_allHave_13 : decode cX6_allHave 13 = .ok (.aload_n 0, 1) := by decide +kernel
theorem dX6_allHave_14 : decode cX6_allHave 14 = .ok (.getfield 22, 3) := by decide +kernel
theorem dX6_allHave_17 : decode cX6_allHave 17 = .ok (.iconst 3, 1) := by decide +kernel
theorem dX6_allHave_18 : decode cX6_allHave 18 = .ok (.iaload, 1) := by decide +kernel
theorem dX6_allHave_19 : decode cX6_allHave 19 = .ok (.iadd, 1) := by decide +kernel
theorem dX6_allHave_20 : decode cX6_allHave 20 = .ok (.aload_n 0, 1) := by decide +kernel
theorem dX6_allHave_21 : decode cX6_allHave 21 = .ok (.getfield 22, 3) := by decide +kernel
theorem dX6_allHave_24 : decode cX6_allHave 24 = .ok (.iconst 4, 1) := by decide +kernel
theorem dX6_allHave_25 : decode cX6_allHave 25 = .ok (.iaload, 1) := by decide +kernel
theorem dX6_allHave_26 : decode cX6_allHave 26 = .ok (.iadd, 1) := by decide +kernel
theorem dX6_allHave_27 : decode cX6_allHave 27 = .ok (.ireturn, 1) := by decide +kernel
theorem dX6_century_0 : decode cX6_century 0 = .ok (.iload_n 1, 1) := by decide +kernel
theorem dX6_century_1 : decode cX6_century 1 = .ok (.iconst 0, 1) := by decide +kernel
theorem dX6_century_2 : decode cX6_century 2 = .ok (.sipush 9999, 3) := by decide +kernel
theorem dX6_century_5 : decode cX6_century 5 = .ok (.invokestatic 54, 3) := by decide +kernel
theorem dX6_century_8 : decode cX6_century 8 = .ok (.ifCond .eq 22, 3) := by decide +kernel
theorem dX6_century_11 : decode cX6_century 11 = .ok (.iload_n 2, 1) := by decide +kernel
theorem dX6_century_12 : decode cX6_century 12 = .ok (.iconst 1, 1) := by decide +kernel
theorem dX6_century_13 : decode cX6_century 13 = .ok (.bipush 60, 2) := by decide +kernel
theorem dX6_century_15 : decode cX6_century 15 = .ok (.invokestatic 54, 3) := by decide +kernel
theorem dX6_century_18 : decode cX6_century 18 = .ok (.ifCond .eq 12, 3) := by decide +kernel
theorem dX6_century_21 : decode cX6_century 21 = .ok (.iload_n 3, 1) := by decide +kernel
theorem dX6_century_22 : decode cX6_century 22 = .ok (.iconst 0, 1) := by decide +kernel
theorem dX6_century_23 : decode cX6_century 23 = .ok (.iconst 1, 1) := by decide +kernel
theorem dX6_century_24 : decode cX6_century 24 = .ok (.invokestatic 54, 3) := by decide +kernel
theorem dX6_century_27 : decode cX6_century 27 = .ok (.ifCond .ne 5, 3) := by decide +kernel
theorem dX6_century_30 : decode cX6_century 30 = .ok (.iconst (-1), 1) := by decide +kernel
theorem dX6_century_31 : decode cX6_century 31 = .ok (.ireturn, 1) := by decide +kernel
theorem dX6_century_32 : decode cX6_century 32 = .ok (.aload_n 0, 1) := by decide +kernel
theorem dX6_century_33 : decode cX6_century 33 = .ok (.invokevirtual 150, 3) := by decide +kernel
theorem dX6_century_36 : decode cX6_century 36 = .ok (.iconst 0, 1) := by decide +kernel
theorem dX6_century_37 : decode cX6_century 37 = .ok (.istore 4, 2) := by decide +kernel
theorem dX6_century_39 : decode cX6_century 39 = .ok (.iload 4, 2) := by decide +kernel
theorem dX6_century_41 : decode cX6_century 41 = .ok (.iload_n 2, 1) := by decide +kernel
theorem dX6_century_42 : decode cX6_century 42 = .ok (.if_icmp .ge 46, 3) := by decide +kernel
theorem dX6_century_45 : decode cX6_century 45 = .ok (.ldc2_w 172, 3) := by decide +kernel
theorem dX6_century_48 : decode cX6_century 48 = .ok (.iload_n 1, 1) := by decide +kernel
theorem dX6_century_49 : decode cX6_century 49 = .ok (.i2l, 1) := by decide +kernel
theorem dX6_century_50 : decode cX6_century 50 = .ok (.lmul, 1) := by decide +kernel
theorem dX6_century_51 : decode cX6_century 51 = .ok (.ldc2_w 174, 3) := by decide +kernel
theorem dX6_century_54 : decode cX6_century 54 = .ok (.iload 4, 2) := by decide +kernel
theorem dX6_century_56 : decode cX6_century 56 = .ok (.i2l, 1) := by decide +kernel
theorem dX6_century_57 : decode cX6_century 57 = .ok (.lmul, 1) := by decide +kernel
theorem dX6_century_58 : decode cX6_century 58 = .ok (.ladd, 1) := by decide +kernel
theorem dX6_century_59 : decode cX6_century 59 = .ok (.lconst 1, 1) := by decide +kernel
theorem dX6_century_60 : decode cX6_century 60 = .ok (.ladd, 1) := by decide +kernel
theorem dX6_century_61 : decode cX6_century 61 = .ok (.lstore 5, 2) := by decide +kernel
theorem dX6_century_63 : decode cX6_century 63 = .ok (.aload_n 0, 1) := by decide +kernel
theorem dX6_century_64 : decode cX6_century 64 = .ok (.lload 5, 2) := by decide +kernel
theorem dX6_century_66 : decode cX6_century 66 = .ok (.lload 5, 2) := by decide +kernel
theorem dX6_century_68 : decode cX6_century 68 = .ok (.lmul, 1) := by decide +kernel
theorem dX6_century_69 : decode cX6_century 69 = .ok (.ldc2_w 176, 3) := by decide +kernel
theorem dX6_century_72 : decode cX6_century 72 = .ok (.lrem, 1) := by decide +kernel
theorem dX6_century_73 : decode cX6_century 73 = .ok (.l2i, 1) := by decide +kernel
theorem dX6_century_74 : decode cX6_century 74 = .ok (.invokevirtual 178, 3) := by decide +kernel
theorem dX6_century_77 : decode cX6_century 77 = .ok (.aload_n 0, 1) := by decide +kernel
theorem dX6_century_78 : decode cX6_century 78 = .ok (.iconst (-1), 1) := by decide +kernel
theorem dX6_century_79 : decode cX6_century 79 = .ok (.invokevirtual 138, 3) := by decide +kernel
theorem dX6_century_82 : decode cX6_century 82 = .ok (.iinc 4 1, 3) := by decide +kernel
theorem dX6_century_85 : decode cX6_century 85 = .ok (.goto (-46), 3) := by decide +kernel
theorem dX6_century_88 : decode cX6_century 88 = .ok (.iload_n 3, 1) := by decide +kernel
theorem dX6_century_89 : decode cX6_century 89 = .ok (.ifCond .ne 10, 3) := by decide +kernel
theorem dX6_century_92 : decode cX6_century 92 = .ok (.aload_n 0, 1) := by decide +kernel
theorem dX6_century_93 : decode cX6_century 93 = .ok (.invokevirtual 181, 3) := by decide +kernel
theorem dX6_century_96 : decode cX6_century 96 = .ok (.goto 8, 3) := by decide +kernel
theorem dX6_century_99 : decode cX6_century 99 = .ok (.aload_n 0, 1) := by decide +kernel
theorem dX6_century_100 : decode cX6_century 100 = .ok (.iconst 1, 1) := by decide +kernel
theorem dX6_century_101 : decode cX6_century 101 = .ok (.invokevirtual 144, 3) := by decide +kernel
theorem dX6_century_104 : decode cX6_century 104 = .ok (.istore 4, 2) := by decide +kernel
theorem dX6_century_106 : decode cX6_century 106 = .ok (.aload_n 0, 1) := by decide +kernel
theorem dX6_century_107 : decode cX6_century 107 = .ok (.invokevirtual 153, 3) := by decide +kernel
theorem dX6_century_110 : decode cX6_century 110 = .ok (.iload 4, 2) := by decide +kernel
theorem dX6_century_112 : decode cX6_century 112 = .ok (.ireturn, 1) := by decide +kernel
theorem dX6_keep_0 : decode cX6_keep 0 = .ok (.aload_n 0, 1) := by decide +kernel
theorem dX6_keep_1 : decode cX6_keep 1 = .ok (.getfield 104, 3) := by decide +kernel
theorem dX6_keep_4 : decode cX6_keep 4 = .ok (.iconst 2, 1) := by decide +kernel
theorem dX6_keep_5 : decode cX6_keep 5 = .ok (.if_icmp .ne 6, 3) := by decide +kernel
theorem dX6_keep_8 : decode cX6_keep 8 = .ok (.bipush (-3), 2) := by decide +kernel
theorem dX6_keep_10 : decode cX6_keep 10 = .ok (.ireturn, 1) := by decide +kernel
theorem dX6_keep_11 : decode cX6_keep 11 = .ok (.iconst 0, 1) := by decide +kernel
theorem dX6_keep_12 : decode cX6_keep 12 = .ok (.istore_n 1, 1) := by decide +kernel
theorem dX6_keep_13 : decode cX6_keep 13 = .ok (.iload_n 1, 1) := by decide +kernel
theorem dX6_keep_14 : decode cX6_keep 14 = .ok (.bipush 59, 2) := by decide +kernel
theorem dX6_keep_16 : decode cX6_keep 16 = .ok (.if_icmp .ge 29, 3) := by decide +kernel
theorem dX6_keep_19 : decode cX6_keep 19 = .ok (.aload_n 0, 1) := by decide +kernel
theorem dX6_keep_20 : decode cX6_keep 20 = .ok (.getfield 28, 3) := by decide +kernel
theorem dX6_keep_23 : decode cX6_keep 23 = .ok (.bipush 59, 2) := by decide +kernel
theorem dX6_keep_25 : decode cX6_keep 25 = .ok (.aload_n 0, 1) := by decide +kernel
theorem dX6_keep_26 : decode cX6_keep 26 = .ok (.getfield 104, 3) := by decide +kernel
theorem dX6_keep_29 : decode cX6_keep 29 = .ok (.imul, 1) := by decide +kernel
theorem dX6_keep_30 : decode cX6_keep 30 = .ok (.iload_n 1, 1) := by decide +kernel
theorem dX6_keep_31 : decode cX6_keep 31 = .ok (.iadd, 1) := by decide +kernel
theorem dX6_keep_32 : decode cX6_keep 32 = .ok (.aload_n 0, 1) := by decide +kernel
theorem dX6_keep_33 : decode cX6_keep 33 = .ok (.getfield 22, 3) := by decide +kernel
theorem dX6_keep_36 : decode cX6_keep 36 = .ok (.iload_n 1, 1) := by decide +kernel
theorem dX6_keep_37 : decode cX6_keep 37 = .ok (.iaload, 1) := by decide +kernel
theorem dX6_keep_38 : decode cX6_keep 38 = .ok (.iastore, 1) := by decide +kernel
theorem dX6_keep_39 : decode cX6_keep 39 = .ok (.iinc 1 1, 3) := by decide +kernel
theorem dX6_keep_42 : decode cX6_keep 42 = .ok (.goto (-29), 3) := by decide +kernel
theorem dX6_keep_45 : decode cX6_keep 45 = .ok (.aload_n 0, 1) := by decide +kernel
theorem dX6_keep_46 : decode cX6_keep 46 = .ok (.dup, 1) := by decide +kernel
theorem dX6_keep_47 : decode cX6_keep 47 = .ok (.getfield 104, 3) := by decide +kernel
theorem dX6_keep_50 : decode cX6_keep 50 = .ok (.iconst 1, 1) := by decide +kernel
theorem dX6_keep_51 : decode cX6_keep 51 = .ok (.iadd, 1) := by decide +kernel
theorem dX6_keep_52 : decode cX6_keep 52 = .ok (.putfield 104, 3) := by decide +kernel
theorem dX6_keep_55 : decode cX6_keep 55 = .ok (.aload_n 0, 1) := by decide +kernel
theorem dX6_keep_56 : decode cX6_keep 56 = .ok (.getfield 104, 3) := by decide +kernel
theorem dX6_keep_59 : decode cX6_keep 59 = .ok (.ireturn, 1) := by decide +kernel
theorem dX6_back_0 : decode cX6_back 0 = .ok (.aload_n 0, 1) := by decide +kernel
theorem dX6_back_1 : decode cX6_back 1 = .ok (.getfield 104, 3) := by decide +kernel
theorem dX6_back_4 : decode cX6_back 4 = .ok (.ifCond .ne 6, 3) := by decide +kernel
theorem dX6_back_7 : decode cX6_back 7 = .ok (.bipush (-2), 2) := by decide +kernel
theorem dX6_back_9 : decode cX6_back 9 = .ok (.ireturn, 1) := by decide +kernel
theorem dX6_back_10 : decode cX6_back 10 = .ok (.aload_n 0, 1) := by decide +kernel
theorem dX6_back_11 : decode cX6_back 11 = .ok (.dup, 1) := by decide +kernel
theorem dX6_back_12 : decode cX6_back 12 = .ok (.getfield 104, 3) := by decide +kernel
theorem dX6_back_15 : decode cX6_back 15 = .ok (.iconst 1, 1) := by decide +kernel
theorem dX6_back_16 : decode cX6_back 16 = .ok (.isub, 1) := by decide +kernel
theorem dX6_back_17 : decode cX6_back 17 = .ok (.putfield 104, 3) := by decide +kernel
theorem dX6_back_20 : decode cX6_back 20 = .ok (.iconst 0, 1) := by decide +kernel
theorem dX6_back_21 : decode cX6_back 21 = .ok (.istore_n 1, 1) := by decide +kernel
theorem dX6_back_22 : decode cX6_back 22 = .ok (.iload_n 1, 1) := by decide +kernel
theorem dX6_back_23 : decode cX6_back 23 = .ok (.bipush 59, 2) := by decide +kernel
theorem dX6_back_25 : decode cX6_back 25 = .ok (.if_icmp .ge 29, 3) := by decide +kernel
theorem dX6_back_28 : decode cX6_back 28 = .ok (.aload_n 0, 1) := by decide +kernel
theorem dX6_back_29 : decode cX6_back 29 = .ok (.getfield 22, 3) := by decide +kernel
theorem dX6_back_32 : decode cX6_back 32 = .ok (.iload_n 1, 1) := by decide +kernel
theorem dX6_back_33 : decode cX6_back 33 = .ok (.aload_n 0, 1) := by decide +kernel
theorem dX6_back_34 : decode cX6_back 34 = .ok (.getfield 28, 3) := by decide +kernel
theorem dX6_back_37 : decode cX6_back 37 = .ok (.bipush 59, 2) := by decide +kernel
theorem dX6_back_39 : decode cX6_back 39 = .ok (.aload_n 0, 1) := by decide +kernel
theorem dX6_back_40 : decode cX6_back 40 = .ok (.getfield 104, 3) := by decide +kernel
theorem dX6_back_43 : decode cX6_back 43 = .ok (.imul, 1) := by decide +kernel
theorem dX6_back_44 : decode cX6_back 44 = .ok (.iload_n 1, 1) := by decide +kernel
theorem dX6_back_45 : decode cX6_back 45 = .ok (.iadd, 1) := by decide +kernel
theorem dX6_back_46 : decode cX6_back 46 = .ok (.iaload, 1) := by decide +kernel
theorem dX6_back_47 : decode cX6_back 47 = .ok (.iastore, 1) := by decide +kernel
theorem dX6_back_48 : decode cX6_back 48 = .ok (.iinc 1 1, 3) := by decide +kernel
theorem dX6_back_51 : decode cX6_back 51 = .ok (.goto (-29), 3) := by decide +kernel
theorem dX6_back_54 : decode cX6_back 54 = .ok (.aload_n 0, 1) := by decide +kernel
theorem dX6_back_55 : decode cX6_back 55 = .ok (.iconst 0, 1) := by decide +kernel
theorem dX6_back_56 : decode cX6_back 56 = .ok (.putfield 101, 3) := by decide +kernel
theorem dX6_back_59 : decode cX6_back 59 = .ok (.aload_n 0, 1) := by decide +kernel
theorem dX6_back_60 : decode cX6_back 60 = .ok (.getfield 104, 3) := by decide +kernel
theorem dX6_back_63 : decode cX6_back 63 = .ok (.ireturn, 1) := by decide +kernel
theorem dX6_count_0 : decode cX6_count 0 = .ok (.iload_n 1, 1) := by decide +kernel
theorem dX6_count_1 : decode cX6_count 1 = .ok (.tableswitch 152 0 11 #[63, 70, 77, 84, 91, 115, 121, 127, 132, 137, 142, 147], 63) := by decide +kernel
theorem dX6_count_64 : decode cX6_count 64 = .ok (.aload_n 0, 1) := by decide +kernel
theorem dX6_count_65 : decode cX6_count 65 = .ok (.getfield 13, 3) := by decide +kernel
theorem dX6_count_68 : decode cX6_count 68 = .ok (.iconst 0, 1) := by decide +kernel
theorem dX6_count_69 : decode cX6_count 69 = .ok (.iaload, 1) := by decide +kernel
theorem dX6_count_70 : decode cX6_count 70 = .ok (.ireturn, 1) := by decide +kernel
theorem dX6_count_71 : decode cX6_count 71 = .ok (.aload_n 0, 1) := by decide +kernel
theorem dX6_count_72 : decode cX6_count 72 = .ok (.getfield 13, 3) := by decide +kernel
theorem dX6_count_75 : decode cX6_count 75 = .ok (.iconst 1, 1) := by decide +kernel
theorem dX6_count_76 : decode cX6_count 76 = .ok (.iaload, 1) := by decide +kernel
theorem dX6_count_77 : decode cX6_count 77 = .ok (.ireturn, 1) := by decide +kernel
theorem dX6_count_78 : decode cX6_count 78 = .ok (.aload_n 0, 1) := by decide +kernel
theorem dX6_count_79 : decode cX6_count 79 = .ok (.getfield 13, 3) := by decide +kernel
theorem dX6_count_82 : decode cX6_count 82 = .ok (.iconst 2, 1) := by decide +kernel
theorem dX6_count_83 : decode cX6_count 83 = .ok (.iaload, 1) := by decide +kernel
theorem dX6_count_84 : decode cX6_count 84 = .ok (.ireturn, 1) := by decide +kernel
theorem dX6_count_85 : decode cX6_count 85 = .ok (.aload_n 0, 1) := by decide +kernel
theorem dX6_count_86 : decode cX6_count 86 = .ok (.getfield 22, 3) := by decide +kernel
theorem dX6_count_89 : decode cX6_count 89 = .ok (.iconst 0, 1) := by decide +kernel
theorem dX6_count_90 : decode cX6_count 90 = .ok (.iaload, 1) := by decide +kernel
theorem dX6_count_91 : decode cX6_count 91 = .ok (.ireturn, 1) := by decide +kernel
theorem dX6_count_92 : decode cX6_count 92 = .ok (.aload_n 0, 1) := by decide +kernel
theorem dX6_count_93 : decode cX6_count 93 = .ok (.getfield 22, 3) := by decide +kernel
theorem dX6_count_96 : decode cX6_count 96 = .ok (.bipush 8, 2) := by decide +kernel
theorem dX6_count_98 : decode cX6_count 98 = .ok (.iaload, 1) := by decide +kernel
theorem dX6_count_99 : decode cX6_count 99 = .ok (.aload_n 0, 1) := by decide +kernel
theorem dX6_count_100 : decode cX6_count 100 = .ok (.getfield 22, 3) := by decide +kernel
theorem dX6_count_103 : decode cX6_count 103 = .ok (.bipush 9, 2) := by decide +kernel
theorem dX6_count_105 : decode cX6_count 105 = .ok (.iaload, 1) := by decide +kernel
theorem dX6_count_106 : decode cX6_count 106 = .ok (.iadd, 1) := by decide +kernel
theorem dX6_count_107 : decode cX6_count 107 = .ok (.aload_n 0, 1) := by decide +kernel
theorem dX6_count_108 : decode cX6_count 108 = .ok (.getfield 22, 3) := by decide +kernel
theorem dX6_count_111 : decode cX6_count 111 = .ok (.bipush 10, 2) := by decide +kernel
theorem dX6_count_113 : decode cX6_count 113 = .ok (.iaload, 1) := by decide +kernel
theorem dX6_count_114 : decode cX6_count 114 = .ok (.iadd, 1) := by decide +kernel
theorem dX6_count_115 : decode cX6_count 115 = .ok (.ireturn, 1) := by decide +kernel
theorem dX6_count_116 : decode cX6_count 116 = .ok (.aload_n 0, 1) := by decide +kernel
theorem dX6_count_117 : decode cX6_count 117 = .ok (.iconst 2, 1) := by decide +kernel
theorem dX6_count_118 : decode cX6_count 118 = .ok (.invokevirtual 144, 3) := by decide +kernel
theorem dX6_count_121 : decode cX6_count 121 = .ok (.ireturn, 1) := by decide +kernel
theorem dX6_count_122 : decode cX6_count 122 = .ok (.aload_n 0, 1) := by decide +kernel
theorem dX6_count_123 : decode cX6_count 123 = .ok (.iconst 1, 1) := by decide +kernel
theorem dX6_count_124 : decode cX6_count 124 = .ok (.invokevirtual 144, 3) := by decide +kernel
theorem dX6_count_127 : decode cX6_count 127 = .ok (.ireturn, 1) := by decide +kernel
theorem dX6_count_128 : decode cX6_count 128 = .ok (.aload_n 0, 1) := by decide +kernel
theorem dX6_count_129 : decode cX6_count 129 = .ok (.invokevirtual 181, 3) := by decide +kernel
theorem dX6_count_132 : decode cX6_count 132 = .ok (.ireturn, 1) := by decide +kernel
theorem dX6_count_133 : decode cX6_count 133 = .ok (.aload_n 0, 1) := by decide +kernel
theorem dX6_count_134 : decode cX6_count 134 = .ok (.getfield 107, 3) := by decide +kernel
theorem dX6_count_137 : decode cX6_count 137 = .ok (.ireturn, 1) := by decide +kernel
theorem dX6_count_138 : decode cX6_count 138 = .ok (.aload_n 0, 1) := by decide +kernel
theorem dX6_count_139 : decode cX6_count 139 = .ok (.getfield 101, 3) := by decide +kernel
theorem dX6_count_142 : decode cX6_count 142 = .ok (.ireturn, 1) := by decide +kernel
theorem dX6_count_143 : decode cX6_count 143 = .ok (.aload_n 0, 1) := by decide +kernel
theorem dX6_count_144 : decode cX6_count 144 = .ok (.getfield 104, 3) := by decide +kernel
theorem dX6_count_147 : decode cX6_count 147 = .ok (.ireturn, 1) := by decide +kernel
theorem dX6_count_148 : decode cX6_count 148 = .ok (.aload_n 0, 1) := by decide +kernel
theorem dX6_count_149 : decode cX6_count 149 = .ok (.getfield 58, 3) := by decide +kernel
theorem dX6_count_152 : decode cX6_count 152 = .ok (.ireturn, 1) := by decide +kernel
theorem dX6_count_153 : decode cX6_count 153 = .ok (.iconst (-1), 1) := by decide +kernel
theorem dX6_count_154 : decode cX6_count 154 = .ok (.ireturn, 1) := by decide +kernel
