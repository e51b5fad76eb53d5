theorem dX6_init_0 : decode cX6_init 0 = .ok (.aload_n 0, 1) := by decide +kernel
theorem dX6_init_1 : decode cX6_init 1 = .ok (.invokespecial 1, 3) := by decide +kernel
theorem dX6_init_4 : decode cX6_init 4 = .ok (.aload_n 0, 1) := by decide +kernel
theorem dX6_init_5 : decode cX6_init 5 = .ok (.sipush 200, 3) := by decide +kernel
theorem dX6_init_8 : decode cX6_init 8 = .ok (.newarray .int, 2) := by decide +kernel
theorem dX6_init_10 : decode cX6_init 10 = .ok (.putfield 7, 3) := by decide +kernel
theorem dX6_init_13 : decode cX6_init 13 = .ok (.aload_n 0, 1) := by decide +kernel
theorem dX6_init_14 : decode cX6_init 14 = .ok (.bipush 81, 2) := by decide +kernel
theorem dX6_init_16 : decode cX6_init 16 = .ok (.newarray .int, 2) := by decide +kernel
theorem dX6_init_18 : decode cX6_init 18 = .ok (.putfield 13, 3) := by decide +kernel
theorem dX6_init_21 : decode cX6_init 21 = .ok (.aload_n 0, 1) := by decide +kernel
theorem dX6_init_22 : decode cX6_init 22 = .ok (.bipush 81, 2) := by decide +kernel
theorem dX6_init_24 : decode cX6_init 24 = .ok (.newarray .int, 2) := by decide +kernel
theorem dX6_init_26 : decode cX6_init 26 = .ok (.putfield 16, 3) := by decide +kernel
theorem dX6_init_29 : decode cX6_init 29 = .ok (.aload_n 0, 1) := by decide +kernel
theorem dX6_init_30 : decode cX6_init 30 = .ok (.bipush 59, 2) := by decide +kernel
theorem dX6_init_32 : decode cX6_init 32 = .ok (.newarray .int, 2) := by decide +kernel
theorem dX6_init_34 : decode cX6_init 34 = .ok (.putfield 19, 3) := by decide +kernel
theorem dX6_init_37 : decode cX6_init 37 = .ok (.aload_n 0, 1) := by decide +kernel
theorem dX6_init_38 : decode cX6_init 38 = .ok (.bipush 59, 2) := by decide +kernel
theorem dX6_init_40 : decode cX6_init 40 = .ok (.newarray .int, 2) := by decide +kernel
theorem dX6_init_42 : decode cX6_init 42 = .ok (.putfield 22, 3) := by decide +kernel
theorem dX6_init_45 : decode cX6_init 45 = .ok (.aload_n 0, 1) := by decide +kernel
theorem dX6_init_46 : decode cX6_init 46 = .ok (.sipush 472, 3) := by decide +kernel
theorem dX6_init_49 : decode cX6_init 49 = .ok (.newarray .int, 2) := by decide +kernel
theorem dX6_init_51 : decode cX6_init 51 = .ok (.putfield 25, 3) := by decide +kernel
theorem dX6_init_54 : decode cX6_init 54 = .ok (.aload_n 0, 1) := by decide +kernel
theorem dX6_init_55 : decode cX6_init 55 = .ok (.bipush 118, 2) := by decide +kernel
theorem dX6_init_57 : decode cX6_init 57 = .ok (.newarray .int, 2) := by decide +kernel
theorem dX6_init_59 : decode cX6_init 59 = .ok (.putfield 28, 3) := by decide +kernel
theorem dX6_init_62 : decode cX6_init 62 = .ok (.aload_n 0, 1) := by decide +kernel
theorem dX6_init_63 : decode cX6_init 63 = .ok (.bipush 18, 2) := by decide +kernel
theorem dX6_init_65 : decode cX6_init 65 = .ok (.newarray .int, 2) := by decide +kernel
theorem dX6_init_67 : decode cX6_init 67 = .ok (.putfield 31, 3) := by decide +kernel
theorem dX6_init_70 : decode cX6_init 70 = .ok (.aload_n 0, 1) := by decide +kernel
theorem dX6_init_71 : decode cX6_init 71 = .ok (.bipush 59, 2) := by decide +kernel
theorem dX6_init_73 : decode cX6_init 73 = .ok (.newarray .int, 2) := by decide +kernel
theorem dX6_init_75 : decode cX6_init 75 = .ok (.putfield 34, 3) := by decide +kernel
theorem dX6_init_78 : decode cX6_init 78 = .ok (.aload_n 0, 1) := by decide +kernel
theorem dX6_init_79 : decode cX6_init 79 = .ok (.invokevirtual 37, 3) := by decide +kernel
theorem dX6_init_82 : decode cX6_init 82 = .ok (.aload_n 0, 1) := by decide +kernel
theorem dX6_init_83 : decode cX6_init 83 = .ok (.getfield 16, 3) := by decide +kernel
theorem dX6_init_86 : decode cX6_init 86 = .ok (.iconst 0, 1) := by decide +kernel
theorem dX6_init_87 : decode cX6_init 87 = .ok (.bipush 30, 2) := by decide +kernel
theorem dX6_init_89 : decode cX6_init 89 = .ok (.iastore, 1) := by decide +kernel
theorem dX6_init_90 : decode cX6_init 90 = .ok (.aload_n 0, 1) := by decide +kernel
theorem dX6_init_91 : decode cX6_init 91 = .ok (.getfield 16, 3) := by decide +kernel
theorem dX6_init_94 : decode cX6_init 94 = .ok (.iconst 1, 1) := by decide +kernel
theorem dX6_init_95 : decode cX6_init 95 = .ok (.bipush 6, 2) := by decide +kernel
theorem dX6_init_97 : decode cX6_init 97 = .ok (.iastore, 1) := by decide +kernel
theorem dX6_init_98 : decode cX6_init 98 = .ok (.aload_n 0, 1) := by decide +kernel
theorem dX6_init_99 : decode cX6_init 99 = .ok (.getfield 16, 3) := by decide +kernel
theorem dX6_init_102 : decode cX6_init 102 = .ok (.bipush 6, 2) := by decide +kernel
theorem dX6_init_104 : decode cX6_init 104 = .ok (.iconst 1, 1) := by decide +kernel
theorem dX6_init_105 : decode cX6_init 105 = .ok (.iastore, 1) := by decide +kernel
theorem dX6_init_106 : decode cX6_init 106 = .ok (.aload_n 0, 1) := by decide +kernel
theorem dX6_init_107 : decode cX6_init 107 = .ok (.getfield 16, 3) := by decide +kernel
theorem dX6_init_110 : decode cX6_init 110 = .ok (.bipush 12, 2) := by decide +kernel
theorem dX6_init_112 : decode cX6_init 112 = .ok (.iconst 1, 1) := by decide +kernel
theorem dX6_init_113 : decode cX6_init 113 = .ok (.iastore, 1) := by decide +kernel
theorem dX6_init_114 : decode cX6_init 114 = .ok (.aload_n 0, 1) := by decide +kernel
theorem dX6_init_115 : decode cX6_init 115 = .ok (.getfield 16, 3) := by decide +kernel
theorem dX6_init_118 : decode cX6_init 118 = .ok (.bipush 16, 2) := by decide +kernel
theorem dX6_init_120 : decode cX6_init 120 = .ok (.iconst 2, 1) := by decide +kernel
theorem dX6_init_121 : decode cX6_init 121 = .ok (.iastore, 1) := by decide +kernel
theorem dX6_init_122 : decode cX6_init 122 = .ok (.aload_n 0, 1) := by decide +kernel
theorem dX6_init_123 : decode cX6_init 123 = .ok (.getfield 16, 3) := by decide +kernel
theorem dX6_init_126 : decode cX6_init 126 = .ok (.bipush 18, 2) := by decide +kernel
theorem dX6_init_128 : decode cX6_init 128 = .ok (.iconst 1, 1) := by decide +kernel
theorem dX6_init_129 : decode cX6_init 129 = .ok (.iastore, 1) := by decide +kernel
theorem dX6_init_130 : decode cX6_init 130 = .ok (.aload_n 0, 1) := by decide +kernel
theorem dX6_init_131 : decode cX6_init 131 = .ok (.getfield 16, 3) := by decide +kernel
theorem dX6_init_134 : decode cX6_init 134 = .ok (.bipush 19, 2) := by decide +kernel
theorem dX6_init_136 : decode cX6_init 136 = .ok (.iconst 1, 1) := by decide +kernel
theorem dX6_init_137 : decode cX6_init 137 = .ok (.iastore, 1) := by decide +kernel
theorem dX6_init_138 : decode cX6_init 138 = .ok (.aload_n 0, 1) := by decide +kernel
theorem dX6_init_139 : decode cX6_init 139 = .ok (.getfield 16, 3) := by decide +kernel
theorem dX6_init_142 : decode cX6_init 142 = .ok (.bipush 28, 2) := by decide +kernel
theorem dX6_init_144 : decode cX6_init 144 = .ok (.iconst 3, 1) := by decide +kernel
theorem dX6_init_145 : decode cX6_init 145 = .ok (.iastore, 1) := by decide +kernel
theorem dX6_init_146 : decode cX6_init 146 = .ok (.aload_n 0, 1) := by decide +kernel
theorem dX6_init_147 : decode cX6_init 147 = .ok (.iconst 0, 1) := by decide +kernel
theorem dX6_init_148 : decode cX6_init 148 = .ok (.iconst 2, 1) := by decide +kernel
theorem dX6_init_149 : decode cX6_init 149 = .ok (.iconst 1, 1) := by decide +kernel
theorem dX6_init_150 : decode cX6_init 150 = .ok (.invokevirtual 40, 3) := by decide +kernel
theorem dX6_init_153 : decode cX6_init 153 = .ok (.aload_n 0, 1) := by decide +kernel
theorem dX6_init_154 : decode cX6_init 154 = .ok (.bipush 18, 2) := by decide +kernel
theorem dX6_init_156 : decode cX6_init 156 = .ok (.bipush 23, 2) := by decide +kernel
theorem dX6_init_158 : decode cX6_init 158 = .ok (.iconst 2, 1) := by decide +kernel
theorem dX6_init_159 : decode cX6_init 159 = .ok (.invokevirtual 40, 3) := by decide +kernel
theorem dX6_init_162 : decode cX6_init 162 = .ok (.aload_n 0, 1) := by decide +kernel
theorem dX6_init_163 : decode cX6_init 163 = .ok (.bipush 24, 2) := by decide +kernel
theorem dX6_init_165 : decode cX6_init 165 = .ok (.bipush 29, 2) := by decide +kernel
theorem dX6_init_167 : decode cX6_init 167 = .ok (.iconst 3, 1) := by decide +kernel
theorem dX6_init_168 : decode cX6_init 168 = .ok (.invokevirtual 40, 3) := by decide +kernel
theorem dX6_init_171 : decode cX6_init 171 = .ok (.aload_n 0, 1) := by decide +kernel
theorem dX6_init_172 : decode cX6_init 172 = .ok (.iconst 0, 1) := by decide +kernel
theorem dX6_init_173 : decode cX6_init 173 = .ok (.iconst 1, 1) := by decide +kernel
theorem dX6_init_174 : decode cX6_init 174 = .ok (.iconst 3, 1) := by decide +kernel
theorem dX6_init_175 : decode cX6_init 175 = .ok (.invokevirtual 44, 3) := by decide +kernel
theorem dX6_init_178 : decode cX6_init 178 = .ok (.aload_n 0, 1) := by decide +kernel
theorem dX6_init_179 : decode cX6_init 179 = .ok (.bipush 7, 2) := by decide +kernel
theorem dX6_init_181 : decode cX6_init 181 = .ok (.invokevirtual 47, 3) := by decide +kernel
theorem dX6_init_184 : decode cX6_init 184 = .ok (.aload_n 0, 1) := by decide +kernel
theorem dX6_init_185 : decode cX6_init 185 = .ok (.bipush 6, 2) := by decide +kernel
theorem dX6_init_187 : decode cX6_init 187 = .ok (.invokevirtual 47, 3) := by decide +kernel
theorem dX6_init_190 : decode cX6_init 190 = .ok (.aload_n 0, 1) := by decide +kernel
theorem dX6_init_191 : decode cX6_init 191 = .ok (.iconst 1, 1) := by decide +kernel
theorem dX6_init_192 : decode cX6_init 192 = .ok (.iconst 0, 1) := by decide +kernel
theorem dX6_init_193 : decode cX6_init 193 = .ok (.iconst 2, 1) := by decide +kernel
theorem dX6_init_194 : decode cX6_init 194 = .ok (.invokevirtual 44, 3) := by decide +kernel
theorem dX6_init_197 : decode cX6_init 197 = .ok (.aload_n 0, 1) := by decide +kernel
theorem dX6_init_198 : decode cX6_init 198 = .ok (.bipush 28, 2) := by decide +kernel
theorem dX6_init_200 : decode cX6_init 200 = .ok (.invokevirtual 47, 3) := by decide +kernel
theorem dX6_init_203 : decode cX6_init 203 = .ok (.aload_n 0, 1) := by decide +kernel
theorem dX6_init_204 : decode cX6_init 204 = .ok (.bipush 27, 2) := by decide +kernel
theorem dX6_init_206 : decode cX6_init 206 = .ok (.invokevirtual 47, 3) := by decide +kernel
theorem dX6_init_209 : decode cX6_init 209 = .ok (.aload_n 0, 1) := by decide +kernel
theorem dX6_init_210 : decode cX6_init 210 = .ok (.bipush 26, 2) := by decide +kernel
theorem dX6_init_212 : decode cX6_init 212 = .ok (.invokevirtual 47, 3) := by decide +kernel
theorem dX6_init_215 : decode cX6_init 215 = .ok (.aload_n 0, 1) := by decide +kernel
theorem dX6_init_216 : decode cX6_init 216 = .ok (.iconst 3, 1) := by decide +kernel
theorem dX6_init_217 : decode cX6_init 217 = .ok (.iconst 2, 1) := by decide +kernel
theorem dX6_init_218 : decode cX6_init 218 = .ok (.iconst 5, 1) := by decide +kernel
theorem dX6_init_219 : decode cX6_init 219 = .ok (.invokevirtual 44, 3) := by decide +kernel
theorem dX6_init_222 : decode cX6_init 222 = .ok (.aload_n 0, 1) := by decide +kernel
theorem dX6_init_223 : decode cX6_init 223 = .ok (.iconst 5, 1) := by decide +kernel
theorem dX6_init_224 : decode cX6_init 224 = .ok (.invokevirtual 47, 3) := by decide +kernel
theorem dX6_init_227 : decode cX6_init 227 = .ok (.aload_n 0, 1) := by decide +kernel
theorem dX6_init_228 : decode cX6_init 228 = .ok (.invokevirtual 51, 3) := by decide +kernel
theorem dX6_init_231 : decode cX6_init 231 = .ok (.return_, 1) := by decide +kernel
theorem dX6_in_0 : decode cX6_in 0 = .ok (.iload_n 0, 1) := by decide +kernel
theorem dX6_in_1 : decode cX6_in 1 = .ok (.iload_n 1, 1) := by decide +kernel
theorem dX6_in_2 : decode cX6_in 2 = .ok (.if_icmp .lt 12, 3) := by decide +kernel
theorem dX6_in_5 : decode cX6_in 5 = .ok (.iload_n 0, 1) := by decide +kernel
theorem dX6_in_6 : decode cX6_in 6 = .ok (.iload_n 2, 1) := by decide +kernel
theorem dX6_in_7 : decode cX6_in 7 = .ok (.if_icmp .gt 7, 3) := by decide +kernel
theorem dX6_in_10 : decode cX6_in 10 = .ok (.iconst 1, 1) := by decide +kernel
theorem dX6_in_11 : decode cX6_in 11 = .ok (.goto 4, 3) := by decide +kernel
theorem dX6_in_14 : decode cX6_in 14 = .ok (.iconst 0, 1) := by decide +kernel
theorem dX6_in_15 : decode cX6_in 15 = .ok (.ireturn, 1) := by decide +kernel
theorem dX6_isCell_0 : decode cX6_isCell 0 = .ok (.iload_n 1, 1) := by decide +kernel
theorem dX6_isCell_1 : decode cX6_isCell 1 = .ok (.iconst 0, 1) := by decide +kernel
theorem dX6_isCell_2 : decode cX6_isCell 2 = .ok (.aload_n 0, 1) := by decide +kernel
theorem dX6_isCell_3 : decode cX6_isCell 3 = .ok (.getfield 13, 3) := by decide +kernel
theorem dX6_isCell_6 : decode cX6_isCell 6 = .ok (.iconst 0, 1) := by decide +kernel
theorem dX6_isCell_7 : decode cX6_isCell 7 = .ok (.iaload, 1) := by decide +kernel
theorem dX6_isCell_8 : decode cX6_isCell 8 = .ok (.iconst 1, 1) := by decide +kernel
theorem dX6_isCell_9 : decode cX6_isCell 9 = .ok (.isub, 1) := by decide +kernel
theorem dX6_isCell_10 : decode cX6_isCell 10 = .ok (.invokestatic 54, 3) := by decide +kernel
theorem dX6_isCell_13 : decode cX6_isCell 13 = .ok (.ireturn, 1) := by decide +kernel
theorem dX6_isRow_0 : decode cX6_isRow 0 = .ok (.iload_n 1, 1) := by decide +kernel
theorem dX6_isRow_1 : decode cX6_isRow 1 = .ok (.iconst 0, 1) := by decide +kernel
theorem dX6_isRow_2 : decode cX6_isRow 2 = .ok (.aload_n 0, 1) := by decide +kernel
theorem dX6_isRow_3 : decode cX6_isRow 3 = .ok (.getfield 13, 3) := by decide +kernel
theorem dX6_isRow_6 : decode cX6_isRow 6 = .ok (.iconst 2, 1) := by decide +kernel
theorem dX6_isRow_7 : decode cX6_isRow 7 = .ok (.iaload, 1) := by decide +kernel
theorem dX6_isRow_8 : decode cX6_isRow 8 = .ok (.iconst 1, 1) := by decide +kernel
theorem dX6_isRow_9 : decode cX6_isRow 9 = .ok (.isub, 1) := by decide +kernel
theorem dX6_isRow_10 : decode cX6_isRow 10 = .ok (.invokestatic 54, 3) := by decide +kernel
theorem dX6_isRow_13 : decode cX6_isRow 13 = .ok (.ireturn, 1) := by decide +kernel
theorem dX6_write_0 : decode cX6_write 0 = .ok (.iload_n 1, 1) := by decide +kernel
theorem dX6_write_1 : decode cX6_write 1 = .ok (.bipush 32, 2) := by decide +kernel
theorem dX6_write_3 : decode cX6_write 3 = .ok (.bipush 126, 2) := by decide +kernel
theorem dX6_write_5 : decode cX6_write 5 = .ok (.invokestatic 54, 3) := by decide +kernel
theorem dX6_write_8 : decode cX6_write 8 = .ok (.ifCond .ne 5, 3) := by decide +kernel
theorem dX6_write_11 : decode cX6_write 11 = .ok (.iconst (-1), 1) := by decide +kernel
theorem dX6_write_12 : decode cX6_write 12 = .ok (.ireturn, 1) := by decide +kernel
theorem dX6_write_13 : decode cX6_write 13 = .ok (.aload_n 0, 1) := by decide +kernel
theorem dX6_write_14 : decode cX6_write 14 = .ok (.getfield 58, 3) := by decide +kernel
theorem dX6_write_17 : decode cX6_write 17 = .ok (.sipush 200, 3) := by decide +kernel
theorem dX6_write_20 : decode cX6_write 20 = .ok (.if_icmp .ne 6, 3) := by decide +kernel
theorem dX6_write_23 : decode cX6_write 23 = .ok (.bipush (-3), 2) := by decide +kernel
theorem dX6_write_25 : decode cX6_write 25 = .ok (.ireturn, 1) := by decide +kernel
theorem dX6_write_26 : decode cX6_write 26 = .ok (.aload_n 0, 1) := by decide +kernel
theorem dX6_write_27 : decode cX6_write 27 = .ok (.getfield 7, 3) := by decide +kernel
theorem dX6_write_30 : decode cX6_write 30 = .ok (.aload_n 0, 1) := by decide +kernel
theorem dX6_write_31 : decode cX6_write 31 = .ok (.getfield 58, 3) := by decide +kernel
theorem dX6_write_34 : decode cX6_write 34 = .ok (.iload_n 1, 1) := by decide +kernel
theorem dX6_write_35 : decode cX6_write 35 = .ok (.iastore, 1) := by decide +kernel
theorem dX6_write_36 : decode cX6_write 36 = .ok (.aload_n 0, 1) := by decide +kernel
theorem dX6_write_37 : decode cX6_write 37 = .ok (.dup, 1) := by decide +kernel
theorem dX6_write_38 : decode cX6_write 38 = .ok (.getfield 58, 3) := by decide +kernel
theorem dX6_write_41 : decode cX6_write 41 = .ok (.iconst 1, 1) := by decide +kernel
theorem dX6_write_42 : decode cX6_write 42 = .ok (.iadd, 1) := by decide +kernel
theorem dX6_write_43 : decode cX6_write 43 = .ok (.putfield 58, 3) := by decide +kernel
theorem dX6_write_46 : decode cX6_write 46 = .ok (.aload_n 0, 1) := by decide +kernel
theorem dX6_write_47 : decode cX6_write 47 = .ok (.getfield 58, 3) := by decide +kernel
theorem dX6_write_50 : decode cX6_write 50 = .ok (.ireturn, 1) := by decide +kernel
theorem dX6_wipe_0 : decode cX6_wipe 0 = .ok (.aload_n 0, 1) := by decide +kernel
theorem dX6_wipe_1 : decode cX6_wipe 1 = .ok (.getfield 58, 3) := by decide +kernel
theorem dX6_wipe_4 : decode cX6_wipe 4 = .ok (.istore_n 1, 1) := by decide +kernel
theorem dX6_wipe_5 : decode cX6_wipe 5 = .ok (.aload_n 0, 1) := by decide +kernel
theorem dX6_wipe_6 : decode cX6_wipe 6 = .ok (.iconst 0, 1) := by decide +kernel
theorem dX6_wipe_7 : decode cX6_wipe 7 = .ok (.putfield 58, 3) := by decide +kernel
theorem dX6_wipe_10 : decode cX6_wipe 10 = .ok (.iload_n 1, 1) := by decide +kernel
theorem dX6_wipe_11 : decode cX6_wipe 11 = .ok (.ireturn, 1) := by decide +kernel
theorem dX6_letterAt_0 : decode cX6_letterAt 0 = .ok (.iload_n 1, 1) := by decide +kernel
theorem dX6_letterAt_1 : decode cX6_letterAt 1 = .ok (.aload_n 0, 1) := by decide +kernel
theorem dX6_letterAt_2 : decode cX6_letterAt 2 = .ok (.getfield 58, 3) := by decide +kernel
theorem dX6_letterAt_5 : decode cX6_letterAt 5 = .ok (.if_icmp .ge 12, 3) := by decide +kernel
theorem dX6_letterAt_8 : decode cX6_letterAt 8 = .ok (.aload_n 0, 1) := by decide +kernel
theorem dX6_letterAt_9 : decode cX6_letterAt 9 = .ok (.getfield 7, 3) := by decide +kernel
theorem dX6_letterAt_12 : decode cX6_letterAt 12 = .ok (.iload_n 1, 1) := by decide +kernel
theorem dX6_letterAt_13 : decode cX6_letterAt 13 = .ok (.iaload, 1) := by decide +kernel
theorem dX6_letterAt_14 : decode cX6_letterAt 14 = .ok (.goto 4, 3) := by decide +kernel
theorem dX6_letterAt_17 : decode cX6_letterAt 17 = .ok (.iconst (-1), 1) := by decide +kernel
theorem dX6_letterAt_18 : decode cX6_letterAt 18 = .ok (.ireturn, 1) := by decide +kernel
theorem dX6_isFigure_0 : decode cX6_isFigure 0 = .ok (.iload_n 0, 1) := by decide +kernel
theorem dX6_isFigure_1 : decode cX6_isFigure 1 = .ok (.bipush 48, 2) := by decide +kernel
theorem dX6_isFigure_3 : decode cX6_isFigure 3 = .ok (.bipush 57, 2) := by decide +kernel
theorem dX6_isFigure_5 : decode cX6_isFigure 5 = .ok (.invokestatic 54, 3) := by decide +kernel
theorem dX6_isFigure_8 : decode cX6_isFigure 8 = .ok (.ireturn, 1) := by decide +kernel
theorem dX6_figures_0 : decode cX6_figures 0 = .ok (.aload_n 0, 1) := by decide +kernel
theorem dX6_figures_1 : decode cX6_figures 1 = .ok (.aload_n 0, 1) := by decide +kernel
theorem dX6_figures_2 : decode cX6_figures 2 = .ok (.getfield 62, 3) := by decide +kernel
theorem dX6_figures_5 : decode cX6_figures 5 = .ok (.invokevirtual 65, 3) := by decide +kernel
theorem dX6_figures_8 : decode cX6_figures 8 = .ok (.invokestatic 69, 3) := by decide +kernel
theorem dX6_figures_11 : decode cX6_figures 11 = .ok (.ifCond .ne 5, 3) := by decide +kernel
theorem dX6_figures_14 : decode cX6_figures 14 = .ok (.iconst (-1), 1) := by decide +kernel
theorem dX6_figures_15 : decode cX6_figures 15 = .ok (.ireturn, 1) := by decide +kernel
theorem dX6_figures_16 : decode cX6_figures 16 = .ok (.aload_n 0, 1) := by decide +kernel
theorem dX6_figures_17 : decode cX6_figures 17 = .ok (.aload_n 0, 1) := by decide +kernel
theorem dX6_figures_18 : decode cX6_figures 18 = .ok (.getfield 62, 3) := by decide +kernel
theorem dX6_figures_21 : decode cX6_figures 21 = .ok (.invokevirtual 65, 3) := by decide +kernel
theorem dX6_figures_24 : decode cX6_figures 24 = .ok (.bipush 48, 2) := by decide +kernel
theorem dX6_figures_26 : decode cX6_figures 26 = .ok (.isub, 1) := by decide +kernel
theorem dX6_figures_27 : decode cX6_figures 27 = .ok (.istore_n 3, 1) := by decide +kernel
theorem dX6_figures_28 : decode cX6_figures 28 = .ok (.aload_n 0, 1) := by decide +kernel
theorem dX6_figures_29 : decode cX6_figures 29 = .ok (.dup, 1) := by decide +kernel
theorem dX6_figures_30 : decode cX6_figures 30 = .ok (.getfield 62, 3) := by decide +kernel
theorem dX6_figures_33 : decode cX6_figures 33 = .ok (.iconst 1, 1) := by decide +kernel
theorem dX6_figures_34 : decode cX6_figures 34 = .ok (.iadd, 1) := by decide +kernel
theorem dX6_figures_35 : decode cX6_figures 35 = .ok (.putfield 62, 3) := by decide +kernel
theorem dX6_figures_38 : decode cX6_figures 38 = .ok (.aload_n 0, 1) := by decide +kernel
theorem dX6_figures_39 : decode cX6_figures 39 = .ok (.aload_n 0, 1) := by decide +kernel
theorem dX6_figures_40 : decode cX6_figures 40 = .ok (.getfield 62, 3) := by decide +kernel
theorem dX6_figures_43 : decode cX6_figures 43 = .ok (.invokevirtual 65, 3) := by decide +kernel
theorem dX6_figures_46 : decode cX6_figures 46 = .ok (.invokestatic 69, 3) := by decide +kernel
theorem dX6_figures_49 : decode cX6_figures 49 = .ok (.ifCond .eq 30, 3) := by decide +kernel
theorem dX6_figures_52 : decode cX6_figures 52 = .ok (.bipush 10, 2) := by decide +kernel
theorem dX6_figures_54 : decode cX6_figures 54 = .ok (.iload_n 3, 1) := by decide +kernel
theorem dX6_figures_55 : decode cX6_figures 55 = .ok (.imul, 1) := by decide +kernel
theorem dX6_figures_56 : decode cX6_figures 56 = .ok (.aload_n 0, 1) := by decide +kernel
theorem dX6_figures_57 : decode cX6_figures 57 = .ok (.aload_n 0, 1) := by decide +kernel
theorem dX6_figures_58 : decode cX6_figures 58 = .ok (.getfield 62, 3) := by decide +kernel
theorem dX6_figures_61 : decode cX6_figures 61 = .ok (.invokevirtual 65, 3) := by decide +kernel
theorem dX6_figures_64 : decode cX6_figures 64 = .ok (.iadd, 1) := by decide +kernel
theorem dX6_figures_65 : decode cX6_figures 65 = .ok (.bipush 48, 2) := by decide +kernel
theorem dX6_figures_67 : decode cX6_figures 67 = .ok (.isub, 1) := by decide +kernel
theorem dX6_figures_68 : decode cX6_figures 68 = .ok (.istore_n 3, 1) := by decide +kernel
theorem dX6_figures_69 : decode cX6_figures 69 = .ok (.aload_n 0, 1) := by decide +kernel
theorem dX6_figures_70 : decode cX6_figures 70 = .ok (.dup, 1) := by decide +kernel
theorem dX6_figures_71 : decode cX6_figures 71 = .ok (.getfield 62, 3) := by decide +kernel
theorem dX6_figures_74 : decode cX6_figures 74 = .ok (.iconst 1, 1) := by decide +kernel
theorem dX6_figures_75 : decode cX6_figures 75 = .ok (.iadd, 1) := by decide +kernel
theorem dX6_figures_76 : decode cX6_figures 76 = .ok (.putfield 62, 3) := by decide +kernel
theorem dX6_figures_79 : decode cX6_figures 79 = .ok (.iload_n 3, 1) := by decide +kernel
theorem dX6_figures_80 : decode cX6_figures 80 = .ok (.iload_n 1, 1) := by decide +kernel
theorem dX6_figures_81 : decode cX6_figures 81 = .ok (.iload_n 2, 1) := by decide +kernel
theorem dX6_figures_82 : decode cX6_figures 82 = .ok (.invokestatic 54, 3) := by decide +kernel
theorem dX6_figures_85 : decode cX6_figures 85 = .ok (.ifCond .eq 7, 3) := by decide +kernel
theorem dX6_figures_88 : decode cX6_figures 88 = .ok (.iload_n 3, 1) := by decide +kernel
theorem dX6_figures_89 : decode cX6_figures 89 = .ok (.goto 4, 3) := by decide +kernel
theorem dX6_figures_92 : decode cX6_figures 92 = .ok (.iconst (-1), 1) := by decide +kernel
theorem dX6_figures_93 : decode cX6_figures 93 = .ok (.ireturn, 1) := by decide +kernel
theorem dX6_number_0 : decode cX6_number 0 = .ok (.aload_n 0, 1) := by decide +kernel
theorem dX6_number_1 : decode cX6_number 1 = .ok (.iload_n 1, 1) := by decide +kernel
theorem dX6_number_2 : decode cX6_number 2 = .ok (.iload_n 2, 1) := by decide +kernel
theorem dX6_number_3 : decode cX6_number 3 = .ok (.invokevirtual 73, 3) := by decide +kernel
theorem dX6_number_6 : decode cX6_number 6 = .ok (.istore 4, 2) := by decide +kernel
theorem dX6_number_8 : decode cX6_number 8 = .ok (.iload 4, 2) := by decide +kernel
theorem dX6_number_10 : decode cX6_number 10 = .ok (.ifCond .lt 19, 3) := by decide +kernel
theorem dX6_number_13 : decode cX6_number 13 = .ok (.aload_n 0, 1) := by decide +kernel
theorem dX6_number_14 : decode cX6_number 14 = .ok (.aload_n 0, 1) := by decide +kernel
theorem dX6_number_15 : decode cX6_number 15 = .ok (.getfield 62, 3) := by decide +kernel
theorem dX6_number_18 : decode cX6_number 18 = .ok (.invokevirtual 65, 3) := by decide +kernel
theorem dX6_number_21 : decode cX6_number 21 = .ok (.iload_n 3, 1) := by decide +kernel
theorem dX6_number_22 : decode cX6_number 22 = .ok (.if_icmp .ne 7, 3) := by decide +kernel
theorem dX6_number_25 : decode cX6_number 25 = .ok (.iconst 1, 1) := by decide +kernel
theorem dX6_number_26 : decode cX6_number 26 = .ok (.goto 4, 3) := by decide +kernel
theorem dX6_number_29 : decode cX6_number 29 = .ok (.iconst 0, 1) := by decide +kernel
theorem dX6_number_30 : decode cX6_number 30 = .ok (.istore 5, 2) := by decide +kernel
theorem dX6_number_32 : decode cX6_number 32 = .ok (.aload_n 0, 1) := by decide +kernel
theorem dX6_number_33 : decode cX6_number 33 = .ok (.dup, 1) := by decide +kernel
theorem dX6_number_34 : decode cX6_number 34 = .ok (.getfield 62, 3) := by decide +kernel
theorem dX6_number_37 : decode cX6_number 37 = .ok (.iconst 1, 1) := by decide +kernel
theorem dX6_number_38 : decode cX6_number 38 = .ok (.iadd, 1) := by decide +kernel
theorem dX6_number_39 : decode cX6_number 39 = .ok (.putfield 62, 3) := by decide +kernel
theorem dX6_number_42 : decode cX6_number 42 = .ok (.iload 5, 2) := by decide +kernel
theorem dX6_number_44 : decode cX6_number 44 = .ok (.ifCond .eq 8, 3) := by decide +kernel
theorem dX6_number_47 : decode cX6_number 47 = .ok (.iload 4, 2) := by decide +kernel
theorem dX6_number_49 : decode cX6_number 49 = .ok (.goto 4, 3) := by decide +kernel
theorem dX6_number_52 : decode cX6_number 52 = .ok (.iconst (-1), 1) := by decide +kernel
theorem dX6_number_53 : decode cX6_number 53 = .ok (.ireturn, 1) := by decide +kernel
theorem dX6_begins_0 : decode cX6_begins 0 = .ok (.iconst 0, 1) := by decide +kernel
theorem dX6_begins_1 : decode cX6_begins 1 = .ok (.istore_n 1, 1) := by decide +kernel
theorem dX6_begins_2 : decode cX6_begins 2 = .ok (.iload_n 1, 1) := by decide +kernel
theorem dX6_begins_3 : decode cX6_begins 3 = .ok (.bipush 81, 2) := by decide +kernel
theorem dX6_begins_5 : decode cX6_begins 5 = .ok (.if_icmp .ge 16, 3) := by decide +kernel
theorem dX6_begins_8 : decode cX6_begins 8 = .ok (.aload_n 0, 1) := by decide +kernel
theorem dX6_begins_9 : decode cX6_begins 9 = .ok (.getfield 16, 3) := by decide +kernel
theorem dX6_begins_12 : decode cX6_begins 12 = .ok (.iload_n 1, 1) := by decide +kernel
theorem dX6_begins_13 : decode cX6_begins 13 = .ok (.iconst 0, 1) := by decide +kernel
theorem dX6_begins_14 : decode cX6_begins 14 = .ok (.iastore, 1) := by decide +kernel
theorem dX6_begins_15 : decode cX6_begins 15 = .ok (.iinc 1 1, 3) := by decide +kernel
theorem dX6_begins_18 : decode cX6_begins 18 = .ok (.goto (-16), 3) := by decide +kernel
theorem dX6_begins_21 : decode cX6_begins 21 = .ok (.iconst 0, 1) := by decide +kernel
theorem dX6_begins_22 : decode cX6_begins 22 = .ok (.istore_n 1, 1) := by decide +kernel
theorem dX6_begins_23 : decode cX6_begins 23 = .ok (.iload_n 1, 1) := by decide +kernel
theorem dX6_begins_24 : decode cX6_begins 24 = .ok (.bipush 59, 2) := by decide +kernel
theorem dX6_begins_26 : decode cX6_begins 26 = .ok (.if_icmp .ge 16, 3) := by decide +kernel
theorem dX6_begins_29 : decode cX6_begins 29 = .ok (.aload_n 0, 1) := by decide +kernel
theorem dX6_begins_30 : decode cX6_begins 30 = .ok (.getfield 19, 3) := by decide +kernel
theorem dX6_begins_33 : decode cX6_begins 33 = .ok (.iload_n 1, 1) := by decide +kernel
theorem dX6_begins_34 : decode cX6_begins 34 = .ok (.iconst 0, 1) := by decide +kernel
theorem dX6_begins_35 : decode cX6_begins 35 = .ok (.iastore, 1) := by decide +kernel
theorem dX6_begins_36 : decode cX6_begins 36 = .ok (.iinc 1 1, 3) := by decide +kernel
theorem dX6_begins_39 : decode cX6_begins 39 = .ok (.goto (-16), 3) := by decide +kernel
theorem dX6_begins_42 : decode cX6_begins 42 = .ok (.return_, 1) := by decide +kernel
theorem dX6_owns_0 : decode cX6_owns 0 = .ok (.iload_n 1, 1) := by decide +kernel
theorem dX6_owns_1 : decode cX6_owns 1 = .ok (.istore 4, 2) := by decide +kernel
theorem dX6_owns_3 : decode cX6_owns 3 = .ok (.iload 4, 2) := by decide +kernel
theorem dX6_owns_5 : decode cX6_owns 5 = .ok (.iload_n 2, 1) := by decide +kernel
theorem dX6_owns_6 : decode cX6_owns 6 = .ok (.if_icmp .gt 20, 3) := by decide +kernel
theorem dX6_owns_9 : decode cX6_owns 9 = .ok (.aload_n 0, 1) := by decide +kernel
theorem dX6_owns_10 : decode cX6_owns 10 = .ok (.getfield 16, 3) := by decide +kernel
theorem dX6_owns_13 : decode cX6_owns 13 = .ok (.bipush 39, 2) := by decide +kernel
theorem dX6_owns_15 : decode cX6_owns 15 = .ok (.iload 4, 2) := by decide +kernel
theorem dX6_owns_17 : decode cX6_owns 17 = .ok (.iadd, 1) := by decide +kernel
theorem dX6_owns_18 : decode cX6_owns 18 = .ok (.iload_n 3, 1) := by decide +kernel
theorem dX6_owns_19 : decode cX6_owns 19 = .ok (.iastore, 1) := by decide +kernel
theorem dX6_owns_20 : decode cX6_owns 20 = .ok (.iinc 4 1, 3) := by decide +kernel
theorem dX6_owns_23 : decode cX6_owns 23 = .ok (.goto (-20), 3) := by decide +kernel
theorem dX6_owns_26 : decode cX6_owns 26 = .ok (.return_, 1) := by decide +kernel
theorem dX6_rowOf_0 : decode cX6_rowOf 0 = .ok (.aload_n 0, 1) := by decide +kernel
theorem dX6_rowOf_1 : decode cX6_rowOf 1 = .ok (.getfield 16, 3) := by decide +kernel
theorem dX6_rowOf_4 : decode cX6_rowOf 4 = .ok (.iconst 2, 1) := by decide +kernel
theorem dX6_rowOf_5 : decode cX6_rowOf 5 = .ok (.iaload, 1) := by decide +kernel
theorem dX6_rowOf_6 : decode cX6_rowOf 6 = .ok (.istore 4, 2) := by decide +kernel
theorem dX6_rowOf_8 : decode cX6_rowOf 8 = .ok (.aload_n 0, 1) := by decide +kernel
theorem dX6_rowOf_9 : decode cX6_rowOf 9 = .ok (.getfield 16, 3) := by decide +kernel
theorem dX6_rowOf_12 : decode cX6_rowOf 12 = .ok (.bipush 75, 2) := by decide +kernel
theorem dX6_rowOf_14 : decode cX6_rowOf 14 = .ok (.iload 4, 2) := by decide +kernel
theorem dX6_rowOf_16 : decode cX6_rowOf 16 = .ok (.iadd, 1) := by decide +kernel
theorem dX6_rowOf_17 : decode cX6_rowOf 17 = .ok (.iload_n 1, 1) := by decide +kernel
theorem dX6_rowOf_18 : decode cX6_rowOf 18 = .ok (.iastore, 1) := by decide +kernel
theorem dX6_rowOf_19 : decode cX6_rowOf 19 = .ok (.aload_n 0, 1) := by decide +kernel
theorem dX6_rowOf_20 : decode cX6_rowOf 20 = .ok (.getfield 16, 3) := by decide +kernel
theorem dX6_rowOf_23 : decode cX6_rowOf 23 = .ok (.bipush 78, 2) := by decide +kernel
theorem dX6_rowOf_25 : decode cX6_rowOf 25 = .ok (.iload 4, 2) := by decide +kernel
theorem dX6_rowOf_27 : decode cX6_rowOf 27 = .ok (.iadd, 1) := by decide +kernel
theorem dX6_rowOf_28 : decode cX6_rowOf 28 = .ok (.iload_n 3, 1) := by decide +kernel
theorem dX6_rowOf_29 : decode cX6_rowOf 29 = .ok (.iastore, 1) := by decide +kernel
theorem dX6_rowOf_30 : decode cX6_rowOf 30 = .ok (.aload_n 0, 1) := by decide +kernel
theorem dX6_rowOf_31 : decode cX6_rowOf 31 = .ok (.getfield 19, 3) := by decide +kernel
theorem dX6_rowOf_34 : decode cX6_rowOf 34 = .ok (.iconst 5, 1) := by decide +kernel
theorem dX6_rowOf_35 : decode cX6_rowOf 35 = .ok (.iload 4, 2) := by decide +kernel
theorem dX6_rowOf_37 : decode cX6_rowOf 37 = .ok (.iadd, 1) := by decide +kernel
theorem dX6_rowOf_38 : decode cX6_rowOf 38 = .ok (.iload_n 2, 1) := by decide +kernel
theorem dX6_rowOf_39 : decode cX6_rowOf 39 = .ok (.iastore, 1) := by decide +kernel
theorem dX6_rowOf_40 : decode cX6_rowOf 40 = .ok (.aload_n 0, 1) := by decide +kernel
theorem dX6_rowOf_41 : decode cX6_rowOf 41 = .ok (.getfield 16, 3) := by decide +kernel
theorem dX6_rowOf_44 : decode cX6_rowOf 44 = .ok (.iconst 2, 1) := by decide +kernel
theorem dX6_rowOf_45 : decode cX6_rowOf 45 = .ok (.dup2, 1) := by decide +kernel
theorem dX6_rowOf_46 : decode cX6_rowOf 46 = .ok (.iaload, 1) := by decide +kernel
theorem dX6_rowOf_47 : decode cX6_rowOf 47 = .ok (.iconst 1, 1) := by decide +kernel
theorem dX6_rowOf_48 : decode cX6_rowOf 48 = .ok (.iadd, 1) := by decide +kernel
theorem dX6_rowOf_49 : decode cX6_rowOf 49 = .ok (.iastore, 1) := by decide +kernel
theorem dX6_rowOf_50 : decode cX6_rowOf 50 = .ok (.return_, 1) := by decide +kernel
theorem dX6_stands_0 : decode cX6_stands 0 = .ok (.aload_n 0, 1) := by decide +kernel
theorem dX6_stands_1 : decode cX6_stands 1 = .ok (.getfield 16, 3) := by decide +kernel
theorem dX6_stands_4 : decode cX6_stands 4 = .ok (.iconst 2, 1) := by decide +kernel
theorem dX6_stands_5 : decode cX6_stands 5 = .ok (.iaload, 1) := by decide +kernel
theorem dX6_stands_6 : decode cX6_stands 6 = .ok (.iconst 1, 1) := by decide +kernel
theorem dX6_stands_7 : decode cX6_stands 7 = .ok (.isub, 1) := by decide +kernel
theorem dX6_stands_8 : decode cX6_stands 8 = .ok (.istore_n 2, 1) := by decide +kernel
theorem dX6_stands_9 : decode cX6_stands 9 = .ok (.aload_n 0, 1) := by decide +kernel
theorem dX6_stands_10 : decode cX6_stands 10 = .ok (.getfield 19, 3) := by decide +kernel
theorem dX6_stands_13 : decode cX6_stands 13 = .ok (.bipush 11, 2) := by decide +kernel
theorem dX6_stands_15 : decode cX6_stands 15 = .ok (.iconst 4, 1) := by decide +kernel
theorem dX6_stands_16 : decode cX6_stands 16 = .ok (.iload_n 2, 1) := by decide +kernel
theorem dX6_stands_17 : decode cX6_stands 17 = .ok (.imul, 1) := by decide +kernel
theorem dX6_stands_18 : decode cX6_stands 18 = .ok (.iadd, 1) := by decide +kernel
theorem dX6_stands_19 : decode cX6_stands 19 = .ok (.aload_n 0, 1) := by decide +kernel
theorem dX6_stands_20 : decode cX6_stands 20 = .ok (.getfield 19, 3) := by decide +kernel
theorem dX6_stands_23 : decode cX6_stands 23 = .ok (.bipush 8, 2) := by decide +kernel
theorem dX6_stands_25 : decode cX6_stands 25 = .ok (.iload_n 2, 1) := by decide +kernel
theorem dX6_stands_26 : decode cX6_stands 26 = .ok (.iadd, 1) := by decide +kernel
theorem dX6_stands_27 : decode cX6_stands 27 = .ok (.iaload, 1) := by decide +kernel
theorem dX6_stands_28 : decode cX6_stands 28 = .ok (.iadd, 1) := by decide +kernel
theorem dX6_stands_29 : decode cX6_stands 29 = .ok (.iload_n 1, 1) := by decide +kernel
theorem dX6_stands_30 : decode cX6_stands 30 = .ok (.iastore, 1) := by decide +kernel
theorem dX6_stands_31 : decode cX6_stands 31 = .ok (.aload_n 0, 1) := by decide +kernel
theorem dX6_stands_32 : decode cX6_stands 32 = .ok (.getfield 19, 3) := by decide +kernel
theorem dX6_stands_35 : decode cX6_stands 35 = .ok (.bipush 8, 2) := by decide +kernel
theorem dX6_stands_37 : decode cX6_stands 37 = .ok (.iload_n 2, 1) := by decide +kernel
theorem dX6_stands_38 : decode cX6_stands 38 = .ok (.iadd, 1) := by decide +kernel
theorem dX6_stands_39 : decode cX6_stands 39 = .ok (.dup2, 1) := by decide +kernel
theorem dX6_stands_40 : decode cX6_stands 40 = .ok (.iaload, 1) := by decide +kernel
theorem dX6_stands_41 : decode cX6_stands 41 = .ok (.iconst 1, 1) := by decide +kernel
theorem dX6_stands_42 : decode cX6_stands 42 = .ok (.iadd, 1) := by decide +kernel
theorem dX6_stands_43 : decode cX6_stands 43 = .ok (.iastore, 1) := by decide +kernel
theorem dX6_stands_44 : decode cX6_stands 44 = .ok (.return_, 1) := by decide +kernel
theorem dX6_readsLine_0 : decode cX6_readsLine 0 = .ok (.iconst 0, 1) := by decide +kernel
theorem dX6_readsLine_1 : decode cX6_readsLine 1 = .ok (.istore_n 1, 1) := by decide +kernel
theorem dX6_readsLine_2 : decode cX6_readsLine 2 = .ok (.aload_n 0, 1) := by decide +kernel
theorem dX6_readsLine_3 : decode cX6_readsLine 3 = .ok (.aload_n 0, 1) := by decide +kernel
theorem dX6_readsLine_4 : decode cX6_readsLine 4 = .ok (.getfield 62, 3) := by decide +kernel
theorem dX6_readsLine_7 : decode cX6_readsLine 7 = .ok (.invokevirtual 65, 3) := by decide +kernel
theorem dX6_readsLine_10 : decode cX6_readsLine 10 = .ok (.bipush 48, 2) := by decide +kernel
theorem dX6_readsLine_12 : decode cX6_readsLine 12 = .ok (.bipush 51, 2) := by decide +kernel
theorem dX6_readsLine_14 : decode cX6_readsLine 14 = .ok (.invokestatic 54, 3) := by decide +kernel
theorem dX6_readsLine_17 : decode cX6_readsLine 17 = .ok (.ifCond .eq 61, 3) := by decide +kernel
theorem dX6_readsLine_20 : decode cX6_readsLine 20 = .ok (.iload_n 1, 1) := by decide +kernel
theorem dX6_readsLine_21 : decode cX6_readsLine 21 = .ok (.bipush 6, 2) := by decide +kernel
theorem dX6_readsLine_23 : decode cX6_readsLine 23 = .ok (.if_icmp .ge 55, 3) := by decide +kernel
theorem dX6_readsLine_26 : decode cX6_readsLine 26 = .ok (.aload_n 0, 1) := by decide +kernel
theorem dX6_readsLine_27 : decode cX6_readsLine 27 = .ok (.getfield 16, 3) := by decide +kernel
theorem dX6_readsLine_30 : decode cX6_readsLine 30 = .ok (.iconst 0, 1) := by decide +kernel
theorem dX6_readsLine_31 : decode cX6_readsLine 31 = .ok (.iaload, 1) := by decide +kernel
theorem dX6_readsLine_32 : decode cX6_readsLine 32 = .ok (.iload_n 1, 1) := by decide +kernel
theorem dX6_readsLine_33 : decode cX6_readsLine 33 = .ok (.iadd, 1) := by decide +kernel
theorem dX6_readsLine_34 : decode cX6_readsLine 34 = .ok (.istore_n 2, 1) := by decide +kernel
theorem dX6_readsLine_35 : decode cX6_readsLine 35 = .ok (.iload_n 2, 1) := by decide +kernel
theorem dX6_readsLine_36 : decode cX6_readsLine 36 = .ok (.bipush 36, 2) := by decide +kernel
theorem dX6_readsLine_38 : decode cX6_readsLine 38 = .ok (.if_icmp .lt 5, 3) := by decide +kernel
theorem dX6_readsLine_41 : decode cX6_readsLine 41 = .ok (.iconst 0, 1) := by decide +kernel
theorem dX6_readsLine_42 : decode cX6_readsLine 42 = .ok (.ireturn, 1) := by decide +kernel
theorem dX6_readsLine_43 : decode cX6_readsLine 43 = .ok (.aload_n 0, 1) := by decide +kernel
theorem dX6_readsLine_44 : decode cX6_readsLine 44 = .ok (.getfield 16, 3) := by decide +kernel
theorem dX6_readsLine_47 : decode cX6_readsLine 47 = .ok (.iconst 3, 1) := by decide +kernel
theorem dX6_readsLine_48 : decode cX6_readsLine 48 = .ok (.iload_n 2, 1) := by decide +kernel
theorem dX6_readsLine_49 : decode cX6_readsLine 49 = .ok (.iadd, 1) := by decide +kernel
theorem dX6_readsLine_50 : decode cX6_readsLine 50 = .ok (.aload_n 0, 1) := by decide +kernel
theorem dX6_readsLine_51 : decode cX6_readsLine 51 = .ok (.aload_n 0, 1) := by decide +kernel
theorem dX6_readsLine_52 : decode cX6_readsLine 52 = .ok (.getfield 62, 3) := by decide +kernel
theorem dX6_readsLine_55 : decode cX6_readsLine 55 = .ok (.invokevirtual 65, 3) := by decide +kernel
theorem dX6_readsLine_58 : decode cX6_readsLine 58 = .ok (.bipush 48, 2) := by decide +kernel
theorem dX6_readsLine_60 : decode cX6_readsLine 60 = .ok (.isub, 1) := by decide +kernel
theorem dX6_readsLine_61 : decode cX6_readsLine 61 = .ok (.iastore, 1) := by decide +kernel
theorem dX6_readsLine_62 : decode cX6_readsLine 62 = .ok (.iinc 1 1, 3) := by decide +kernel
theorem dX6_readsLine_65 : decode cX6_readsLine 65 = .ok (.aload_n 0, 1) := by decide +kernel
theorem dX6_readsLine_66 : decode cX6_readsLine 66 = .ok (.dup, 1) := by decide +kernel
theorem dX6_readsLine_67 : decode cX6_readsLine 67 = .ok (.getfield 62, 3) := by decide +kernel
theorem dX6_readsLine_70 : decode cX6_readsLine 70 = .ok (.iconst 1, 1) := by decide +kernel
theorem dX6_readsLine_71 : decode cX6_readsLine 71 = .ok (.iadd, 1) := by decide +kernel
theorem dX6_readsLine_72 : decode cX6_readsLine 72 = .ok (.putfield 62, 3) := by decide +kernel
theorem dX6_readsLine_75 : decode cX6_readsLine 75 = .ok (.goto (-73), 3) := by decide +kernel
theorem dX6_readsLine_78 : decode cX6_readsLine 78 = .ok (.aload_n 0, 1) := by decide +kernel
theorem dX6_readsLine_79 : decode cX6_readsLine 79 = .ok (.aload_n 0, 1) := by decide +kernel
theorem dX6_readsLine_80 : decode cX6_readsLine 80 = .ok (.getfield 62, 3) := by decide +kernel
theorem dX6_readsLine_83 : decode cX6_readsLine 83 = .ok (.invokevirtual 65, 3) := by decide +kernel
theorem dX6_readsLine_86 : decode cX6_readsLine 86 = .ok (.bipush 59, 2) := by decide +kernel
theorem dX6_readsLine_88 : decode cX6_readsLine 88 = .ok (.if_icmp .ne 39, 3) := by decide +kernel
theorem dX6_readsLine_91 : decode cX6_readsLine 91 = .ok (.iload_n 1, 1) := by decide +kernel
theorem dX6_readsLine_92 : decode cX6_readsLine 92 = .ok (.ifCond .eq 35, 3) := by decide +kernel
theorem dX6_readsLine_95 : decode cX6_readsLine 95 = .ok (.aload_n 0, 1) := by decide +kernel
theorem dX6_readsLine_96 : decode cX6_readsLine 96 = .ok (.getfield 16, 3) := by decide +kernel
theorem dX6_readsLine_99 : decode cX6_readsLine 99 = .ok (.iconst 0, 1) := by decide +kernel
theorem dX6_readsLine_100 : decode cX6_readsLine 100 = .ok (.iaload, 1) := by decide +kernel
theorem dX6_readsLine_101 : decode cX6_readsLine 101 = .ok (.ifCond .le 13, 3) := by decide +kernel
theorem dX6_readsLine_104 : decode cX6_readsLine 104 = .ok (.iload_n 1, 1) := by decide +kernel
theorem dX6_readsLine_105 : decode cX6_readsLine 105 = .ok (.aload_n 0, 1) := by decide +kernel
theorem dX6_readsLine_106 : decode cX6_readsLine 106 = .ok (.getfield 16, 3) := by decide +kernel
theorem dX6_readsLine_109 : decode cX6_readsLine 109 = .ok (.iconst 1, 1) := by decide +kernel
theorem dX6_readsLine_110 : decode cX6_readsLine 110 = .ok (.iaload, 1) := by decide +kernel
theorem dX6_readsLine_111 : decode cX6_readsLine 111 = .ok (.if_icmp .ne 16, 3) := by decide +kernel
theorem dX6_readsLine_114 : decode cX6_readsLine 114 = .ok (.aload_n 0, 1) := by decide +kernel
theorem dX6_readsLine_115 : decode cX6_readsLine 115 = .ok (.getfield 16, 3) := by decide +kernel
theorem dX6_readsLine_118 : decode cX6_readsLine 118 = .ok (.iconst 0, 1) := by decide +kernel
theorem dX6_readsLine_119 : decode cX6_readsLine 119 = .ok (.iaload, 1) := by decide +kernel
theorem dX6_readsLine_120 : decode cX6_readsLine 120 = .ok (.bipush 6, 2) := by decide +kernel
theorem dX6_readsLine_122 : decode cX6_readsLine 122 = .ok (.iload_n 1, 1) := by decide +kernel
theorem dX6_readsLine_123 : decode cX6_readsLine 123 = .ok (.imul, 1) := by decide +kernel
theorem dX6_readsLine_124 : decode cX6_readsLine 124 = .ok (.if_icmp .lt 5, 3) := by decide +kernel
theorem dX6_readsLine_127 : decode cX6_readsLine 127 = .ok (.iconst 0, 1) := by decide +kernel
theorem dX6_readsLine_128 : decode cX6_readsLine 128 = .ok (.ireturn, 1) := by decide +kernel
theorem dX6_readsLine_129 : decode cX6_readsLine 129 = .ok (.aload_n 0, 1) := by decide +kernel
theorem dX6_readsLine_130 : decode cX6_readsLine 130 = .ok (.dup, 1) := by decide +kernel
theorem dX6_readsLine_131 : decode cX6_readsLine 131 = .ok (.getfield 62, 3) := by decide +kernel
theorem dX6_readsLine_134 : decode cX6_readsLine 134 = .ok (.iconst 1, 1) := by decide +kernel
theorem dX6_readsLine_135 : decode cX6_readsLine 135 = .ok (.iadd, 1) := by decide +kernel
theorem dX6_readsLine_136 : decode cX6_readsLine 136 = .ok (.putfield 62, 3) := by decide +kernel
theorem dX6_readsLine_139 : decode cX6_readsLine 139 = .ok (.aload_n 0, 1) := by decide +kernel
theorem dX6_readsLine_140 : decode cX6_readsLine 140 = .ok (.getfield 16, 3) := by decide +kernel
theorem dX6_readsLine_143 : decode cX6_readsLine 143 = .ok (.iconst 1, 1) := by decide +kernel
theorem dX6_readsLine_144 : decode cX6_readsLine 144 = .ok (.iload_n 1, 1) := by decide +kernel
theorem dX6_readsLine_145 : decode cX6_readsLine 145 = .ok (.iastore, 1) := by decide +kernel
theorem dX6_readsLine_146 : decode cX6_readsLine 146 = .ok (.aload_n 0, 1) := by decide +kernel
theorem dX6_readsLine_147 : decode cX6_readsLine 147 = .ok (.getfield 16, 3) := by decide +kernel
theorem dX6_readsLine_150 : decode cX6_readsLine 150 = .ok (.iconst 0, 1) := by decide +kernel
theorem dX6_readsLine_151 : decode cX6_readsLine 151 = .ok (.dup2, 1) := by decide +kernel
theorem dX6_readsLine_152 : decode cX6_readsLine 152 = .ok (.iaload, 1) := by decide +kernel
theorem dX6_readsLine_153 : decode cX6_readsLine 153 = .ok (.iload_n 1, 1) := by decide +kernel
theorem dX6_readsLine_154 : decode cX6_readsLine 154 = .ok (.iadd, 1) := by decide +kernel
theorem dX6_readsLine_155 : decode cX6_readsLine 155 = .ok (.iastore, 1) := by decide +kernel
theorem dX6_readsLine_156 : decode cX6_readsLine 156 = .ok (.iconst 1, 1) := by decide +kernel
theorem dX6_readsLine_157 : decode cX6_readsLine 157 = .ok (.ireturn, 1) := by decide +kernel
theorem dX6_readsOwner_0 : decode cX6_readsOwner 0 = .ok (.aload_n 0, 1) := by decide +kernel
theorem dX6_readsOwner_1 : decode cX6_readsOwner 1 = .ok (.iconst 0, 1) := by decide +kernel
theorem dX6_readsOwner_2 : decode cX6_readsOwner 2 = .ok (.aload_n 0, 1) := by decide +kernel
theorem dX6_readsOwner_3 : decode cX6_readsOwner 3 = .ok (.getfield 16, 3) := by decide +kernel
theorem dX6_readsOwner_6 : decode cX6_readsOwner 6 = .ok (.iconst 0, 1) := by decide +kernel
theorem dX6_readsOwner_7 : decode cX6_readsOwner 7 = .ok (.iaload, 1) := by decide +kernel
theorem dX6_readsOwner_8 : decode cX6_readsOwner 8 = .ok (.iconst 1, 1) := by decide +kernel
theorem dX6_readsOwner_9 : decode cX6_readsOwner 9 = .ok (.isub, 1) := by decide +kernel
theorem dX6_readsOwner_10 : decode cX6_readsOwner 10 = .ok (.bipush 44, 2) := by decide +kernel
theorem dX6_readsOwner_12 : decode cX6_readsOwner 12 = .ok (.invokevirtual 77, 3) := by decide +kernel
theorem dX6_readsOwner_15 : decode cX6_readsOwner 15 = .ok (.istore_n 1, 1) := by decide +kernel
theorem dX6_readsOwner_16 : decode cX6_readsOwner 16 = .ok (.iload_n 1, 1) := by decide +kernel
theorem dX6_readsOwner_17 : decode cX6_readsOwner 17 = .ok (.ifCond .ge 7, 3) := by decide +kernel
theorem dX6_readsOwner_20 : decode cX6_readsOwner 20 = .ok (.iconst (-1), 1) := by decide +kernel
theorem dX6_readsOwner_21 : decode cX6_readsOwner 21 = .ok (.goto 18, 3) := by decide +kernel
theorem dX6_readsOwner_24 : decode cX6_readsOwner 24 = .ok (.aload_n 0, 1) := by decide +kernel
theorem dX6_readsOwner_25 : decode cX6_readsOwner 25 = .ok (.iload_n 1, 1) := by decide +kernel
theorem dX6_readsOwner_26 : decode cX6_readsOwner 26 = .ok (.aload_n 0, 1) := by decide +kernel
theorem dX6_readsOwner_27 : decode cX6_readsOwner 27 = .ok (.getfield 16, 3) := by decide +kernel
theorem dX6_readsOwner_30 : decode cX6_readsOwner 30 = .ok (.iconst 0, 1) := by decide +kernel
theorem dX6_readsOwner_31 : decode cX6_readsOwner 31 = .ok (.iaload, 1) := by decide +kernel
theorem dX6_readsOwner_32 : decode cX6_readsOwner 32 = .ok (.iconst 1, 1) := by decide +kernel
theorem dX6_readsOwner_33 : decode cX6_readsOwner 33 = .ok (.isub, 1) := by decide +kernel
theorem dX6_readsOwner_34 : decode cX6_readsOwner 34 = .ok (.bipush 44, 2) := by decide +kernel
theorem dX6_readsOwner_36 : decode cX6_readsOwner 36 = .ok (.invokevirtual 77, 3) := by decide +kernel
theorem dX6_readsOwner_39 : decode cX6_readsOwner 39 = .ok (.istore_n 2, 1) := by decide +kernel
theorem dX6_readsOwner_40 : decode cX6_readsOwner 40 = .ok (.iload_n 2, 1) := by decide +kernel
theorem dX6_readsOwner_41 : decode cX6_readsOwner 41 = .ok (.ifCond .ge 7, 3) := by decide +kernel
theorem dX6_readsOwner_44 : decode cX6_readsOwner 44 = .ok (.iconst (-1), 1) := by decide +kernel
theorem dX6_readsOwner_45 : decode cX6_readsOwner 45 = .ok (.goto 11, 3) := by decide +kernel
theorem dX6_readsOwner_48 : decode cX6_readsOwner 48 = .ok (.aload_n 0, 1) := by decide +kernel
theorem dX6_readsOwner_49 : decode cX6_readsOwner 49 = .ok (.iconst 0, 1) := by decide +kernel
theorem dX6_readsOwner_50 : decode cX6_readsOwner 50 = .ok (.iconst 3, 1) := by decide +kernel
theorem dX6_readsOwner_51 : decode cX6_readsOwner 51 = .ok (.bipush 59, 2) := by decide +kernel
theorem dX6_readsOwner_53 : decode cX6_readsOwner 53 = .ok (.invokevirtual 77, 3) := by decide +kernel
theorem dX6_readsOwner_56 : decode cX6_readsOwner 56 = .ok (.istore_n 3, 1) := by decide +kernel
theorem dX6_readsOwner_57 : decode cX6_readsOwner 57 = .ok (.iload_n 3, 1) := by decide +kernel
theorem dX6_readsOwner_58 : decode cX6_readsOwner 58 = .ok (.ifCond .ge 5, 3) := by decide +kernel
theorem dX6_readsOwner_61 : decode cX6_readsOwner 61 = .ok (.iconst 0, 1) := by decide +kernel
theorem dX6_readsOwner_62 : decode cX6_readsOwner 62 = .ok (.ireturn, 1) := by decide +kernel
theorem dX6_readsOwner_63 : decode cX6_readsOwner 63 = .ok (.aload_n 0, 1) := by decide +kernel
theorem dX6_readsOwner_64 : decode cX6_readsOwner 64 = .ok (.iload_n 1, 1) := by decide +kernel
theorem dX6_readsOwner_65 : decode cX6_readsOwner 65 = .ok (.iload_n 2, 1) := by decide +kernel
theorem dX6_readsOwner_66 : decode cX6_readsOwner 66 = .ok (.iload_n 3, 1) := by decide +kernel
theorem dX6_readsOwner_67 : decode cX6_readsOwner 67 = .ok (.invokevirtual 40, 3) := by decide +kernel
theorem dX6_readsOwner_70 : decode cX6_readsOwner 70 = .ok (.iconst 1, 1) := by decide +kernel
theorem dX6_readsOwner_71 : decode cX6_readsOwner 71 = .ok (.ireturn, 1) := by decide +kernel
theorem dX6_isNext_0 : decode cX6_isNext 0 = .ok (.iload_n 0, 1) := by decide +kernel
theorem dX6_isNext_1 : decode cX6_isNext 1 = .ok (.iload_n 1, 1) := by decide +kernel
theorem dX6_isNext_2 : decode cX6_isNext 2 = .ok (.if_icmp .le 9, 3) := by decide +kernel
theorem dX6_isNext_5 : decode cX6_isNext 5 = .ok (.iload_n 0, 1) := by decide +kernel
theorem dX6_isNext_6 : decode cX6_isNext 6 = .ok (.iload_n 1, 1) := by decide +kernel
theorem dX6_isNext_7 : decode cX6_isNext 7 = .ok (.isub, 1) := by decide +kernel
theorem dX6_isNext_8 : decode cX6_isNext 8 = .ok (.goto 6, 3) := by decide +kernel
theorem dX6_isNext_11 : decode cX6_isNext 11 = .ok (.iload_n 1, 1) := by decide +kernel
theorem dX6_isNext_12 : decode cX6_isNext 12 = .ok (.iload_n 0, 1) := by decide +kernel
theorem dX6_isNext_13 : decode cX6_isNext 13 = .ok (.isub, 1) := by decide +kernel
theorem dX6_isNext_14 : decode cX6_isNext 14 = .ok (.istore_n 3, 1) := by decide +kernel
theorem dX6_isNext_15 : decode cX6_isNext 15 = .ok (.iload_n 3, 1) := by decide +kernel
theorem dX6_isNext_16 : decode cX6_isNext 16 = .ok (.iload_n 2, 1) := by decide +kernel
theorem dX6_isNext_17 : decode cX6_isNext 17 = .ok (.if_icmp .ne 8, 3) := by decide +kernel
theorem dX6_isNext_20 : decode cX6_isNext 20 = .ok (.iload_n 2, 1) := by decide +kernel
theorem dX6_isNext_21 : decode cX6_isNext 21 = .ok (.iconst 1, 1) := by decide +kernel
theorem dX6_isNext_22 : decode cX6_isNext 22 = .ok (.if_icmp .gt 22, 3) := by decide +kernel
theorem dX6_isNext_25 : decode cX6_isNext 25 = .ok (.iload_n 3, 1) := by decide +kernel
theorem dX6_isNext_26 : decode cX6_isNext 26 = .ok (.iconst 1, 1) := by decide +kernel
theorem dX6_isNext_27 : decode cX6_isNext 27 = .ok (.if_icmp .ne 21, 3) := by decide +kernel
theorem dX6_isNext_30 : decode cX6_isNext 30 = .ok (.iload_n 2, 1) := by decide +kernel
theorem dX6_isNext_31 : decode cX6_isNext 31 = .ok (.iconst 1, 1) := by decide +kernel
theorem dX6_isNext_32 : decode cX6_isNext 32 = .ok (.if_icmp .eq 12, 3) := by decide +kernel
theorem dX6_isNext_35 : decode cX6_isNext 35 = .ok (.iload_n 0, 1) := by decide +kernel
theorem dX6_isNext_36 : decode cX6_isNext 36 = .ok (.iload_n 2, 1) := by decide +kernel
theorem dX6_isNext_37 : decode cX6_isNext 37 = .ok (.idiv, 1) := by decide +kernel
theorem dX6_isNext_38 : decode cX6_isNext 38 = .ok (.iload_n 1, 1) := by decide +kernel
theorem dX6_isNext_39 : decode cX6_isNext 39 = .ok (.iload_n 2, 1) := by decide +kernel
theorem dX6_isNext_40 : decode cX6_isNext 40 = .ok (.idiv, 1) := by decide +kernel
theorem dX6_isNext_41 : decode cX6_isNext 41 = .ok (.if_icmp .ne 7, 3) := by decide +kernel
theorem dX6_isNext_44 : decode cX6_isNext 44 = .ok (.iconst 1, 1) := by decide +kernel
theorem dX6_isNext_45 : decode cX6_isNext 45 = .ok (.goto 4, 3) := by decide +kernel
theorem dX6_isNext_48 : decode cX6_isNext 48 = .ok (.iconst 0, 1) := by decide +kernel
theorem dX6_isNext_49 : decode cX6_isNext 49 = .ok (.ireturn, 1) := by decide +kernel
theorem dX6_isTree_0 : decode cX6_isTree 0 = .ok (.iconst 0, 1) := by decide +kernel
theorem dX6_isTree_1 : decode cX6_isTree 1 = .ok (.istore_n 2, 1) := by decide +kernel
theorem dX6_isTree_2 : decode cX6_isTree 2 = .ok (.iconst 0, 1) := by decide +kernel
theorem dX6_isTree_3 : decode cX6_isTree 3 = .ok (.istore_n 3, 1) := by decide +kernel
theorem dX6_isTree_4 : decode cX6_isTree 4 = .ok (.iload_n 3, 1) := by decide +kernel
theorem dX6_isTree_5 : decode cX6_isTree 5 = .ok (.aload_n 0, 1) := by decide +kernel
theorem dX6_isTree_6 : decode cX6_isTree 6 = .ok (.getfield 16, 3) := by decide +kernel
theorem dX6_isTree_9 : decode cX6_isTree 9 = .ok (.iconst 2, 1) := by decide +kernel
theorem dX6_isTree_10 : decode cX6_isTree 10 = .ok (.iaload, 1) := by decide +kernel
theorem dX6_isTree_11 : decode cX6_isTree 11 = .ok (.if_icmp .ge 60, 3) := by decide +kernel
theorem dX6_isTree_14 : decode cX6_isTree 14 = .ok (.iconst 0, 1) := by decide +kernel
theorem dX6_isTree_15 : decode cX6_isTree 15 = .ok (.istore 4, 2) := by decide +kernel
theorem dX6_isTree_17 : decode cX6_isTree 17 = .ok (.iload 4, 2) := by decide +kernel
theorem dX6_isTree_19 : decode cX6_isTree 19 = .ok (.aload_n 0, 1) := by decide +kernel
theorem dX6_isTree_20 : decode cX6_isTree 20 = .ok (.getfield 19, 3) := by decide +kernel
theorem dX6_isTree_23 : decode cX6_isTree 23 = .ok (.bipush 8, 2) := by decide +kernel
theorem dX6_isTree_25 : decode cX6_isTree 25 = .ok (.iload_n 3, 1) := by decide +kernel
theorem dX6_isTree_26 : decode cX6_isTree 26 = .ok (.iadd, 1) := by decide +kernel
theorem dX6_isTree_27 : decode cX6_isTree 27 = .ok (.iaload, 1) := by decide +kernel
theorem dX6_isTree_28 : decode cX6_isTree 28 = .ok (.if_icmp .ge 37, 3) := by decide +kernel
theorem dX6_isTree_31 : decode cX6_isTree 31 = .ok (.iload_n 2, 1) := by decide +kernel
theorem dX6_isTree_32 : decode cX6_isTree 32 = .ok (.ifCond .ne 21, 3) := by decide +kernel
theorem dX6_isTree_35 : decode cX6_isTree 35 = .ok (.aload_n 0, 1) := by decide +kernel
theorem dX6_isTree_36 : decode cX6_isTree 36 = .ok (.getfield 19, 3) := by decide +kernel
theorem dX6_isTree_39 : decode cX6_isTree 39 = .ok (.bipush 11, 2) := by decide +kernel
theorem dX6_isTree_41 : decode cX6_isTree 41 = .ok (.iconst 4, 1) := by decide +kernel
theorem dX6_isTree_42 : decode cX6_isTree 42 = .ok (.iload_n 3, 1) := by decide +kernel
theorem dX6_isTree_43 : decode cX6_isTree 43 = .ok (.imul, 1) := by decide +kernel
theorem dX6_isTree_44 : decode cX6_isTree 44 = .ok (.iadd, 1) := by decide +kernel
theorem dX6_isTree_45 : decode cX6_isTree 45 = .ok (.iload 4, 2) := by decide +kernel
theorem dX6_isTree_47 : decode cX6_isTree 47 = .ok (.iadd, 1) := by decide +kernel
theorem dX6_isTree_48 : decode cX6_isTree 48 = .ok (.iaload, 1) := by decide +kernel
theorem dX6_isTree_49 : decode cX6_isTree 49 = .ok (.iload_n 1, 1) := by decide +kernel
theorem dX6_isTree_50 : decode cX6_isTree 50 = .ok (.if_icmp .ne 7, 3) := by decide +kernel
theorem dX6_isTree_53 : decode cX6_isTree 53 = .ok (.iconst 1, 1) := by decide +kernel
theorem dX6_isTree_54 : decode cX6_isTree 54 = .ok (.goto 4, 3) := by decide +kernel
theorem dX6_isTree_57 : decode cX6_isTree 57 = .ok (.iconst 0, 1) := by decide +kernel
theorem dX6_isTree_58 : decode cX6_isTree 58 = .ok (.istore_n 2, 1) := by decide +kernel
theorem dX6_isTree_59 : decode cX6_isTree 59 = .ok (.iinc 4 1, 3) := by decide +kernel
theorem dX6_isTree_62 : decode cX6_isTree 62 = .ok (.goto (-45), 3) := by decide +kernel
theorem dX6_isTree_65 : decode cX6_isTree 65 = .ok (.iinc 3 1, 3) := by decide +kernel
theorem dX6_isTree_68 : decode cX6_isTree 68 = .ok (.goto (-64), 3) := by decide +kernel
theorem dX6_isTree_71 : decode cX6_isTree 71 = .ok (.iload_n 2, 1) := by decide +kernel
theorem dX6_isTree_72 : decode cX6_isTree 72 = .ok (.ireturn, 1) := by decide +kernel
theorem dX6_readsRow_0 : decode cX6_readsRow 0 = .ok (.aload_n 0, 1) := by decide +kernel
theorem dX6_readsRow_1 : decode cX6_readsRow 1 = .ok (.iconst 0, 1) := by decide +kernel
theorem dX6_readsRow_2 : decode cX6_readsRow 2 = .ok (.iconst 3, 1) := by decide +kernel
theorem dX6_readsRow_3 : decode cX6_readsRow 3 = .ok (.bipush 44, 2) := by decide +kernel
theorem dX6_readsRow_5 : decode cX6_readsRow 5 = .ok (.invokevirtual 77, 3) := by decide +kernel
theorem dX6_readsRow_8 : decode cX6_readsRow 8 = .ok (.istore_n 1, 1) := by decide +kernel
theorem dX6_readsRow_9 : decode cX6_readsRow 9 = .ok (.iload_n 1, 1) := by decide +kernel
theorem dX6_readsRow_10 : decode cX6_readsRow 10 = .ok (.ifCond .ge 7, 3) := by decide +kernel
theorem dX6_readsRow_13 : decode cX6_readsRow 13 = .ok (.iconst (-1), 1) := by decide +kernel
theorem dX6_readsRow_14 : decode cX6_readsRow 14 = .ok (.goto 11, 3) := by decide +kernel
theorem dX6_readsRow_17 : decode cX6_readsRow 17 = .ok (.aload_n 0, 1) := by decide +kernel
theorem dX6_readsRow_18 : decode cX6_readsRow 18 = .ok (.iconst 0, 1) := by decide +kernel
theorem dX6_readsRow_19 : decode cX6_readsRow 19 = .ok (.iconst 3, 1) := by decide +kernel
theorem dX6_readsRow_20 : decode cX6_readsRow 20 = .ok (.bipush 44, 2) := by decide +kernel
theorem dX6_readsRow_22 : decode cX6_readsRow 22 = .ok (.invokevirtual 77, 3) := by decide +kernel
theorem dX6_readsRow_25 : decode cX6_readsRow 25 = .ok (.istore_n 2, 1) := by decide +kernel
theorem dX6_readsRow_26 : decode cX6_readsRow 26 = .ok (.iload_n 2, 1) := by decide +kernel
theorem dX6_readsRow_27 : decode cX6_readsRow 27 = .ok (.ifCond .ge 7, 3) := by decide +kernel
theorem dX6_readsRow_30 : decode cX6_readsRow 30 = .ok (.iconst (-1), 1) := by decide +kernel
theorem dX6_readsRow_31 : decode cX6_readsRow 31 = .ok (.goto 12, 3) := by decide +kernel
theorem dX6_readsRow_34 : decode cX6_readsRow 34 = .ok (.aload_n 0, 1) := by decide +kernel
theorem dX6_readsRow_35 : decode cX6_readsRow 35 = .ok (.iconst 0, 1) := by decide +kernel
theorem dX6_readsRow_36 : decode cX6_readsRow 36 = .ok (.bipush 9, 2) := by decide +kernel
theorem dX6_readsRow_38 : decode cX6_readsRow 38 = .ok (.bipush 44, 2) := by decide +kernel
theorem dX6_readsRow_40 : decode cX6_readsRow 40 = .ok (.invokevirtual 77, 3) := by decide +kernel
theorem dX6_readsRow_43 : decode cX6_readsRow 43 = .ok (.istore_n 3, 1) := by decide +kernel
theorem dX6_readsRow_44 : decode cX6_readsRow 44 = .ok (.iload_n 3, 1) := by decide +kernel
theorem dX6_readsRow_45 : decode cX6_readsRow 45 = .ok (.ifCond .lt 13, 3) := by decide +kernel
theorem dX6_readsRow_48 : decode cX6_readsRow 48 = .ok (.aload_n 0, 1) := by decide +kernel
theorem dX6_readsRow_49 : decode cX6_readsRow 49 = .ok (.getfield 16, 3) := by decide +kernel
theorem dX6_readsRow_52 : decode cX6_readsRow 52 = .ok (.iconst 2, 1) := by decide +kernel
theorem dX6_readsRow_53 : decode cX6_readsRow 53 = .ok (.iaload, 1) := by decide +kernel
theorem dX6_readsRow_54 : decode cX6_readsRow 54 = .ok (.iconst 3, 1) := by decide +kernel
theorem dX6_readsRow_55 : decode cX6_readsRow 55 = .ok (.if_icmp .ne 5, 3) := by decide +kernel
theorem dX6_readsRow_58 : decode cX6_readsRow 58 = .ok (.iconst 0, 1) := by decide +kernel
theorem dX6_readsRow_59 : decode cX6_readsRow 59 = .ok (.ireturn, 1) := by decide +kernel
theorem dX6_readsRow_60 : decode cX6_readsRow 60 = .ok (.aload_n 0, 1) := by decide +kernel
theorem dX6_readsRow_61 : decode cX6_readsRow 61 = .ok (.iload_n 1, 1) := by decide +kernel
theorem dX6_readsRow_62 : decode cX6_readsRow 62 = .ok (.iload_n 2, 1) := by decide +kernel
theorem dX6_readsRow_63 : decode cX6_readsRow 63 = .ok (.iload_n 3, 1) := by decide +kernel
theorem dX6_readsRow_64 : decode cX6_readsRow 64 = .ok (.invokevirtual 44, 3) := by decide +kernel
theorem dX6_readsRow_67 : decode cX6_readsRow 67 = .ok (.aload_n 0, 1) := by decide +kernel
theorem dX6_readsRow_68 : decode cX6_readsRow 68 = .ok (.getfield 16, 3) := by decide +kernel
theorem dX6_readsRow_71 : decode cX6_readsRow 71 = .ok (.iconst 2, 1) := by decide +kernel
theorem dX6_readsRow_72 : decode cX6_readsRow 72 = .ok (.iaload, 1) := by decide +kernel
theorem dX6_readsRow_73 : decode cX6_readsRow 73 = .ok (.iconst 1, 1) := by decide +kernel
theorem dX6_readsRow_74 : decode cX6_readsRow 74 = .ok (.isub, 1) := by decide +kernel
theorem dX6_readsRow_75 : decode cX6_readsRow 75 = .ok (.istore 4, 2) := by decide +kernel
theorem dX6_readsRow_77 : decode cX6_readsRow 77 = .ok (.iconst 1, 1) := by decide +kernel
theorem dX6_readsRow_78 : decode cX6_readsRow 78 = .ok (.istore 5, 2) := by decide +kernel
theorem dX6_readsRow_80 : decode cX6_readsRow 80 = .ok (.iload 5, 2) := by decide +kernel
theorem dX6_readsRow_82 : decode cX6_readsRow 82 = .ok (.ifCond .eq 160, 3) := by decide +kernel
theorem dX6_readsRow_85 : decode cX6_readsRow 85 = .ok (.aload_n 0, 1) := by decide +kernel
theorem dX6_readsRow_86 : decode cX6_readsRow 86 = .ok (.getfield 19, 3) := by decide +kernel
theorem dX6_readsRow_89 : decode cX6_readsRow 89 = .ok (.bipush 8, 2) := by decide +kernel
theorem dX6_readsRow_91 : decode cX6_readsRow 91 = .ok (.iload 4, 2) := by decide +kernel
theorem dX6_readsRow_93 : decode cX6_readsRow 93 = .ok (.iadd, 1) := by decide +kernel
theorem dX6_readsRow_94 : decode cX6_readsRow 94 = .ok (.iaload, 1) := by decide +kernel
theorem dX6_readsRow_95 : decode cX6_readsRow 95 = .ok (.istore 6, 2) := by decide +kernel
theorem dX6_readsRow_97 : decode cX6_readsRow 97 = .ok (.aload_n 0, 1) := by decide +kernel
theorem dX6_readsRow_98 : decode cX6_readsRow 98 = .ok (.iconst 0, 1) := by decide +kernel
theorem dX6_readsRow_99 : decode cX6_readsRow 99 = .ok (.aload_n 0, 1) := by decide +kernel
theorem dX6_readsRow_100 : decode cX6_readsRow 100 = .ok (.getfield 16, 3) := by decide +kernel
theorem dX6_readsRow_103 : decode cX6_readsRow 103 = .ok (.iconst 0, 1) := by decide +kernel
theorem dX6_readsRow_104 : decode cX6_readsRow 104 = .ok (.iaload, 1) := by decide +kernel
theorem dX6_readsRow_105 : decode cX6_readsRow 105 = .ok (.iconst 1, 1) := by decide +kernel
theorem dX6_readsRow_106 : decode cX6_readsRow 106 = .ok (.isub, 1) := by decide +kernel
theorem dX6_readsRow_107 : decode cX6_readsRow 107 = .ok (.invokevirtual 73, 3) := by decide +kernel
theorem dX6_readsRow_110 : decode cX6_readsRow 110 = .ok (.istore 7, 2) := by decide +kernel
theorem dX6_readsRow_112 : decode cX6_readsRow 112 = .ok (.iload 7, 2) := by decide +kernel
theorem dX6_readsRow_114 : decode cX6_readsRow 114 = .ok (.ifCond .lt 67, 3) := by decide +kernel
theorem dX6_readsRow_117 : decode cX6_readsRow 117 = .ok (.iload 6, 2) := by decide +kernel
theorem dX6_readsRow_119 : decode cX6_readsRow 119 = .ok (.iconst 4, 1) := by decide +kernel
theorem dX6_readsRow_120 : decode cX6_readsRow 120 = .ok (.if_icmp .eq 61, 3) := by decide +kernel
theorem dX6_readsRow_123 : decode cX6_readsRow 123 = .ok (.aload_n 0, 1) := by decide +kernel
theorem dX6_readsRow_124 : decode cX6_readsRow 124 = .ok (.getfield 16, 3) := by decide +kernel
theorem dX6_readsRow_127 : decode cX6_readsRow 127 = .ok (.iconst 3, 1) := by decide +kernel
theorem dX6_readsRow_128 : decode cX6_readsRow 128 = .ok (.iload 7, 2) := by decide +kernel
theorem dX6_readsRow_130 : decode cX6_readsRow 130 = .ok (.iadd, 1) := by decide +kernel
theorem dX6_readsRow_131 : decode cX6_readsRow 131 = .ok (.iaload, 1) := by decide +kernel
theorem dX6_readsRow_132 : decode cX6_readsRow 132 = .ok (.iconst 1, 1) := by decide +kernel
theorem dX6_readsRow_133 : decode cX6_readsRow 133 = .ok (.if_icmp .gt 48, 3) := by decide +kernel
theorem dX6_readsRow_136 : decode cX6_readsRow 136 = .ok (.aload_n 0, 1) := by decide +kernel
theorem dX6_readsRow_137 : decode cX6_readsRow 137 = .ok (.iload 7, 2) := by decide +kernel
theorem dX6_readsRow_139 : decode cX6_readsRow 139 = .ok (.invokevirtual 81, 3) := by decide +kernel
theorem dX6_readsRow_142 : decode cX6_readsRow 142 = .ok (.ifCond .ne 39, 3) := by decide +kernel
theorem dX6_readsRow_145 : decode cX6_readsRow 145 = .ok (.iload 6, 2) := by decide +kernel
theorem dX6_readsRow_147 : decode cX6_readsRow 147 = .ok (.ifCond .le 36, 3) := by decide +kernel
theorem dX6_readsRow_150 : decode cX6_readsRow 150 = .ok (.iload 7, 2) := by decide +kernel
theorem dX6_readsRow_152 : decode cX6_readsRow 152 = .ok (.aload_n 0, 1) := by decide +kernel
theorem dX6_readsRow_153 : decode cX6_readsRow 153 = .ok (.getfield 19, 3) := by decide +kernel
theorem dX6_readsRow_156 : decode cX6_readsRow 156 = .ok (.bipush 11, 2) := by decide +kernel
theorem dX6_readsRow_158 : decode cX6_readsRow 158 = .ok (.iconst 4, 1) := by decide +kernel
theorem dX6_readsRow_159 : decode cX6_readsRow 159 = .ok (.iload 4, 2) := by decide +kernel
theorem dX6_readsRow_161 : decode cX6_readsRow 161 = .ok (.imul, 1) := by decide +kernel
theorem dX6_readsRow_162 : decode cX6_readsRow 162 = .ok (.iadd, 1) := by decide +kernel
theorem dX6_readsRow_163 : decode cX6_readsRow 163 = .ok (.iload 6, 2) := by decide +kernel
theorem dX6_readsRow_165 : decode cX6_readsRow 165 = .ok (.iadd, 1) := by decide +kernel
theorem dX6_readsRow_166 : decode cX6_readsRow 166 = .ok (.iconst 1, 1) := by decide +kernel
theorem dX6_readsRow_167 : decode cX6_readsRow 167 = .ok (.isub, 1) := by decide +kernel
theorem dX6_readsRow_168 : decode cX6_readsRow 168 = .ok (.iaload, 1) := by decide +kernel
theorem dX6_readsRow_169 : decode cX6_readsRow 169 = .ok (.aload_n 0, 1) := by decide +kernel
theorem dX6_readsRow_170 : decode cX6_readsRow 170 = .ok (.getfield 16, 3) := by decide +kernel
theorem dX6_readsRow_173 : decode cX6_readsRow 173 = .ok (.iconst 1, 1) := by decide +kernel
theorem dX6_readsRow_174 : decode cX6_readsRow 174 = .ok (.iaload, 1) := by decide +kernel
theorem dX6_readsRow_175 : decode cX6_readsRow 175 = .ok (.invokestatic 84, 3) := by decide +kernel
theorem dX6_readsRow_178 : decode cX6_readsRow 178 = .ok (.ifCond .ne 5, 3) := by decide +kernel
theorem dX6_readsRow_181 : decode cX6_readsRow 181 = .ok (.iconst 0, 1) := by decide +kernel
theorem dX6_readsRow_182 : decode cX6_readsRow 182 = .ok (.ireturn, 1) := by decide +kernel
theorem dX6_readsRow_183 : decode cX6_readsRow 183 = .ok (.aload_n 0, 1) := by decide +kernel
theorem dX6_readsRow_184 : decode cX6_readsRow 184 = .ok (.iload 7, 2) := by decide +kernel
theorem dX6_readsRow_186 : decode cX6_readsRow 186 = .ok (.invokevirtual 47, 3) := by decide +kernel
theorem dX6_readsRow_189 : decode cX6_readsRow 189 = .ok (.aload_n 0, 1) := by decide +kernel
theorem dX6_readsRow_190 : decode cX6_readsRow 190 = .ok (.aload_n 0, 1) := by decide +kernel
theorem dX6_readsRow_191 : decode cX6_readsRow 191 = .ok (.getfield 62, 3) := by decide +kernel
theorem dX6_readsRow_194 : decode cX6_readsRow 194 = .ok (.invokevirtual 65, 3) := by decide +kernel
theorem dX6_readsRow_197 : decode cX6_readsRow 197 = .ok (.istore 8, 2) := by decide +kernel
theorem dX6_readsRow_199 : decode cX6_readsRow 199 = .ok (.aload_n 0, 1) := by decide +kernel
theorem dX6_readsRow_200 : decode cX6_readsRow 200 = .ok (.dup, 1) := by decide +kernel
theorem dX6_readsRow_201 : decode cX6_readsRow 201 = .ok (.getfield 62, 3) := by decide +kernel
theorem dX6_readsRow_204 : decode cX6_readsRow 204 = .ok (.iconst 1, 1) := by decide +kernel
theorem dX6_readsRow_205 : decode cX6_readsRow 205 = .ok (.iadd, 1) := by decide +kernel
theorem dX6_readsRow_206 : decode cX6_readsRow 206 = .ok (.putfield 62, 3) := by decide +kernel
theorem dX6_readsRow_209 : decode cX6_readsRow 209 = .ok (.iload 8, 2) := by decide +kernel
theorem dX6_readsRow_211 : decode cX6_readsRow 211 = .ok (.bipush 44, 2) := by decide +kernel
theorem dX6_readsRow_213 : decode cX6_readsRow 213 = .ok (.if_icmp .eq 12, 3) := by decide +kernel
theorem dX6_readsRow_216 : decode cX6_readsRow 216 = .ok (.iload 8, 2) := by decide +kernel
theorem dX6_readsRow_218 : decode cX6_readsRow 218 = .ok (.bipush 59, 2) := by decide +kernel
theorem dX6_readsRow_220 : decode cX6_readsRow 220 = .ok (.if_icmp .eq 5, 3) := by decide +kernel
theorem dX6_readsRow_223 : decode cX6_readsRow 223 = .ok (.iconst 0, 1) := by decide +kernel
theorem dX6_readsRow_224 : decode cX6_readsRow 224 = .ok (.ireturn, 1) := by decide +kernel
theorem dX6_readsRow_225 : decode cX6_readsRow 225 = .ok (.iload 8, 2) := by decide +kernel
theorem dX6_readsRow_227 : decode cX6_readsRow 227 = .ok (.bipush 44, 2) := by decide +kernel
theorem dX6_readsRow_229 : decode cX6_readsRow 229 = .ok (.if_icmp .ne 7, 3) := by decide +kernel
theorem dX6_readsRow_232 : decode cX6_readsRow 232 = .ok (.iconst 1, 1) := by decide +kernel
theorem dX6_readsRow_233 : decode cX6_readsRow 233 = .ok (.goto 4, 3) := by decide +kernel
theorem dX6_readsRow_236 : decode cX6_readsRow 236 = .ok (.iconst 0, 1) := by decide +kernel
theorem dX6_readsRow_237 : decode cX6_readsRow 237 = .ok (.istore 5, 2) := by decide +kernel
theorem dX6_readsRow_239 : decode cX6_readsRow 239 = .ok (.goto (-159), 3) := by decide +kernel
theorem dX6_readsRow_242 : decode cX6_readsRow 242 = .ok (.iconst 1, 1) := by decide +kernel
theorem dX6_readsRow_243 : decode cX6_readsRow 243 = .ok (.ireturn, 1) := by decide +kernel
theorem dX6_readsAll_0 : decode cX6_readsAll 0 = .ok (.aload_n 0, 1) := by decide +kernel
theorem dX6_readsAll_1 : decode cX6_readsAll 1 = .ok (.invokevirtual 37, 3) := by decide +kernel
theorem dX6_readsAll_4 : decode cX6_readsAll 4 = .ok (.aload_n 0, 1) := by decide +kernel
theorem dX6_readsAll_5 : decode cX6_readsAll 5 = .ok (.iconst 0, 1) := by decide +kernel
theorem dX6_readsAll_6 : decode cX6_readsAll 6 = .ok (.putfield 62, 3) := by decide +kernel
theorem dX6_readsAll_9 : decode cX6_readsAll 9 = .ok (.aload_n 0, 1) := by decide +kernel
theorem dX6_readsAll_10 : decode cX6_readsAll 10 = .ok (.getfield 62, 3) := by decide +kernel
theorem dX6_readsAll_13 : decode cX6_readsAll 13 = .ok (.aload_n 0, 1) := by decide +kernel
theorem dX6_readsAll_14 : decode cX6_readsAll 14 = .ok (.getfield 58, 3) := by decide +kernel
theorem dX6_readsAll_17 : decode cX6_readsAll 17 = .ok (.if_icmp .ge 79, 3) := by decide +kernel
theorem dX6_readsAll_20 : decode cX6_readsAll 20 = .ok (.aload_n 0, 1) := by decide +kernel
theorem dX6_readsAll_21 : decode cX6_readsAll 21 = .ok (.getfield 62, 3) := by decide +kernel
theorem dX6_readsAll_24 : decode cX6_readsAll 24 = .ok (.istore_n 1, 1) := by decide +kernel
theorem dX6_readsAll_25 : decode cX6_readsAll 25 = .ok (.aload_n 0, 1) := by decide +kernel
theorem dX6_readsAll_26 : decode cX6_readsAll 26 = .ok (.getfield 7, 3) := by decide +kernel
theorem dX6_readsAll_29 : decode cX6_readsAll 29 = .ok (.iload_n 1, 1) := by decide +kernel
theorem dX6_readsAll_30 : decode cX6_readsAll 30 = .ok (.iaload, 1) := by decide +kernel
theorem dX6_readsAll_31 : decode cX6_readsAll 31 = .ok (.istore_n 2, 1) := by decide +kernel
theorem dX6_readsAll_32 : decode cX6_readsAll 32 = .ok (.aload_n 0, 1) := by decide +kernel
theorem dX6_readsAll_33 : decode cX6_readsAll 33 = .ok (.dup, 1) := by decide +kernel
theorem dX6_readsAll_34 : decode cX6_readsAll 34 = .ok (.getfield 62, 3) := by decide +kernel
theorem dX6_readsAll_37 : decode cX6_readsAll 37 = .ok (.iconst 1, 1) := by decide +kernel
theorem dX6_readsAll_38 : decode cX6_readsAll 38 = .ok (.iadd, 1) := by decide +kernel
theorem dX6_readsAll_39 : decode cX6_readsAll 39 = .ok (.putfield 62, 3) := by decide +kernel
theorem dX6_readsAll_42 : decode cX6_readsAll 42 = .ok (.iload_n 2, 1) := by decide +kernel
theorem dX6_readsAll_43 : decode cX6_readsAll 43 = .ok (.bipush 108, 2) := by decide +kernel
theorem dX6_readsAll_45 : decode cX6_readsAll 45 = .ok (.if_icmp .ne 10, 3) := by decide +kernel
theorem dX6_readsAll_48 : decode cX6_readsAll 48 = .ok (.aload_n 0, 1) := by decide +kernel
theorem dX6_readsAll_49 : decode cX6_readsAll 49 = .ok (.invokevirtual 87, 3) := by decide +kernel
theorem dX6_readsAll_52 : decode cX6_readsAll 52 = .ok (.goto 34, 3) := by decide +kernel
theorem dX6_readsAll_55 : decode cX6_readsAll 55 = .ok (.iload_n 2, 1) := by decide +kernel
theorem dX6_readsAll_56 : decode cX6_readsAll 56 = .ok (.bipush 111, 2) := by decide +kernel
theorem dX6_readsAll_58 : decode cX6_readsAll 58 = .ok (.if_icmp .ne 10, 3) := by decide +kernel
theorem dX6_readsAll_61 : decode cX6_readsAll 61 = .ok (.aload_n 0, 1) := by decide +kernel
theorem dX6_readsAll_62 : decode cX6_readsAll 62 = .ok (.invokevirtual 91, 3) := by decide +kernel
theorem dX6_readsAll_65 : decode cX6_readsAll 65 = .ok (.goto 21, 3) := by decide +kernel
theorem dX6_readsAll_68 : decode cX6_readsAll 68 = .ok (.iload_n 2, 1) := by decide +kernel
theorem dX6_readsAll_69 : decode cX6_readsAll 69 = .ok (.bipush 116, 2) := by decide +kernel
theorem dX6_readsAll_71 : decode cX6_readsAll 71 = .ok (.if_icmp .ne 14, 3) := by decide +kernel
theorem dX6_readsAll_74 : decode cX6_readsAll 74 = .ok (.aload_n 0, 1) := by decide +kernel
theorem dX6_readsAll_75 : decode cX6_readsAll 75 = .ok (.invokevirtual 94, 3) := by decide +kernel
theorem dX6_readsAll_78 : decode cX6_readsAll 78 = .ok (.ifCond .eq 7, 3) := by decide +kernel
theorem dX6_readsAll_81 : decode cX6_readsAll 81 = .ok (.iconst 1, 1) := by decide +kernel
theorem dX6_readsAll_82 : decode cX6_readsAll 82 = .ok (.goto 4, 3) := by decide +kernel
theorem dX6_readsAll_85 : decode cX6_readsAll 85 = .ok (.iconst 0, 1) := by decide +kernel
theorem dX6_readsAll_86 : decode cX6_readsAll 86 = .ok (.istore_n 3, 1) := by decide +kernel
theorem dX6_readsAll_87 : decode cX6_readsAll 87 = .ok (.iload_n 3, 1) := by decide +kernel
theorem dX6_readsAll_88 : decode cX6_readsAll 88 = .ok (.ifCond .ne 5, 3) := by decide +kernel
theorem dX6_readsAll_91 : decode cX6_readsAll 91 = .ok (.iload_n 1, 1) := by decide +kernel
theorem dX6_readsAll_92 : decode cX6_readsAll 92 = .ok (.ireturn, 1) := by decide +kernel
theorem dX6_readsAll_93 : decode cX6_readsAll 93 = .ok (.goto (-84), 3) := by decide +kernel
theorem dX6_readsAll_96 : decode cX6_readsAll 96 = .ok (.bipush (-4), 2) := by decide +kernel
theorem dX6_readsAll_98 : decode cX6_readsAll 98 = .ok (.ireturn, 1) := by decide +kernel
theorem dX6_fault_0 : decode cX6_fault 0 = .ok (.aload_n 0, 1) := by decide +kernel
theorem dX6_fault_1 : decode cX6_fault 1 = .ok (.invokevirtual 97, 3) := by decide +kernel
theorem dX6_fault_4 : decode cX6_fault 4 = .ok (.ireturn, 1) := by decide +kernel
theorem dX6_lays_0 : decode cX6_lays 0 = .ok (.iconst 0, 1) := by decide +kernel
theorem dX6_lays_1 : decode cX6_lays 1 = .ok (.istore_n 1, 1) := by decide +kernel
theorem dX6_lays_2 : decode cX6_lays 2 = .ok (.iload_n 1, 1) := by decide +kernel
theorem dX6_lays_3 : decode cX6_lays 3 = .ok (.bipush 81, 2) := by decide +kernel
theorem dX6_lays_5 : decode cX6_lays 5 = .ok (.if_icmp .ge 21, 3) := by decide +kernel
theorem dX6_lays_8 : decode cX6_lays 8 = .ok (.aload_n 0, 1) := by decide +kernel
theorem dX6_lays_9 : decode cX6_lays 9 = .ok (.getfield 13, 3) := by decide +kernel
theorem dX6_lays_12 : decode cX6_lays 12 = .ok (.iload_n 1, 1) := by decide +kernel
theorem dX6_lays_13 : decode cX6_lays 13 = .ok (.aload_n 0, 1) := by decide +kernel
theorem dX6_lays_14 : decode cX6_lays 14 = .ok (.getfield 16, 3) := by decide +kernel
theorem dX6_lays_17 : decode cX6_lays 17 = .ok (.iload_n 1, 1) := by decide +kernel
theorem dX6_lays_18 : decode cX6_lays 18 = .ok (.iaload, 1) := by decide +kernel
theorem dX6_lays_19 : decode cX6_lays 19 = .ok (.iastore, 1) := by decide +kernel
theorem dX6_lays_20 : decode cX6_lays 20 = .ok (.iinc 1 1, 3) := by decide +kernel
theorem dX6_lays_23 : decode cX6_lays 23 = .ok (.goto (-21), 3) := by decide +kernel
theorem dX6_lays_26 : decode cX6_lays 26 = .ok (.iconst 0, 1) := by decide +kernel
theorem dX6_lays_27 : decode cX6_lays 27 = .ok (.istore_n 1, 1) := by decide +kernel
theorem dX6_lays_28 : decode cX6_lays 28 = .ok (.iload_n 1, 1) := by decide +kernel
theorem dX6_lays_29 : decode cX6_lays 29 = .ok (.bipush 59, 2) := by decide +kernel
theorem dX6_lays_31 : decode cX6_lays 31 = .ok (.if_icmp .ge 21, 3) := by decide +kernel
theorem dX6_lays_34 : decode cX6_lays 34 = .ok (.aload_n 0, 1) := by decide +kernel
theorem dX6_lays_35 : decode cX6_lays 35 = .ok (.getfield 22, 3) := by decide +kernel
theorem dX6_lays_38 : decode cX6_lays 38 = .ok (.iload_n 1, 1) := by decide +kernel
theorem dX6_lays_39 : decode cX6_lays 39 = .ok (.aload_n 0, 1) := by decide +kernel
theorem dX6_lays_40 : decode cX6_lays 40 = .ok (.getfield 19, 3) := by decide +kernel
theorem dX6_lays_43 : decode cX6_lays 43 = .ok (.iload_n 1, 1) := by decide +kernel
theorem dX6_lays_44 : decode cX6_lays 44 = .ok (.iaload, 1) := by decide +kernel
theorem dX6_lays_45 : decode cX6_lays 45 = .ok (.iastore, 1) := by decide +kernel
theorem dX6_lays_46 : decode cX6_lays 46 = .ok (.iinc 1 1, 3) := by decide +kernel
theorem dX6_lays_49 : decode cX6_lays 49 = .ok (.goto (-21), 3) := by decide +kernel
theorem dX6_lays_52 : decode cX6_lays 52 = .ok (.aload_n 0, 1) := by decide +kernel
theorem dX6_lays_53 : decode cX6_lays 53 = .ok (.iconst 0, 1) := by decide +kernel
theorem dX6_lays_54 : decode cX6_lays 54 = .ok (.putfield 101, 3) := by decide +kernel
theorem dX6_lays_57 : decode cX6_lays 57 = .ok (.aload_n 0, 1) := by decide +kernel
theorem dX6_lays_58 : decode cX6_lays 58 = .ok (.iconst 0, 1) := by decide +kernel
theorem dX6_lays_59 : decode cX6_lays 59 = .ok (.putfield 104, 3) := by decide +kernel
theorem dX6_lays_62 : decode cX6_lays 62 = .ok (.aload_n 0, 1) := by decide +kernel
theorem dX6_lays_63 : decode cX6_lays 63 = .ok (.iconst 0, 1) := by decide +kernel
theorem dX6_lays_64 : decode cX6_lays 64 = .ok (.putfield 107, 3) := by decide +kernel
theorem dX6_lays_67 : decode cX6_lays 67 = .ok (.return_, 1) := by decide +kernel
theorem dX6_lay_0 : decode cX6_lay 0 = .ok (.aload_n 0, 1) := by decide +kernel
theorem dX6_lay_1 : decode cX6_lay 1 = .ok (.invokevirtual 97, 3) := by decide +kernel
theorem dX6_lay_4 : decode cX6_lay 4 = .ok (.bipush (-4), 2) := by decide +kernel
theorem dX6_lay_6 : decode cX6_lay 6 = .ok (.if_icmp .ne 12, 3) := by decide +kernel
theorem dX6_lay_9 : decode cX6_lay 9 = .ok (.aload_n 0, 1) := by decide +kernel
theorem dX6_lay_10 : decode cX6_lay 10 = .ok (.getfield 16, 3) := by decide +kernel
theorem dX6_lay_13 : decode cX6_lay 13 = .ok (.iconst 2, 1) := by decide +kernel
theorem dX6_lay_14 : decode cX6_lay 14 = .ok (.iaload, 1) := by decide +kernel
theorem dX6_lay_15 : decode cX6_lay 15 = .ok (.ifCond .ne 6, 3) := by decide +kernel
theorem dX6_lay_18 : decode cX6_lay 18 = .ok (.bipush (-2), 2) := by decide +kernel
theorem dX6_lay_20 : decode cX6_lay 20 = .ok (.ireturn, 1) := by decide +kernel
theorem dX6_lay_21 : decode cX6_lay 21 = .ok (.aload_n 0, 1) := by decide +kernel
theorem dX6_lay_22 : decode cX6_lay 22 = .ok (.invokevirtual 51, 3) := by decide +kernel
theorem dX6_lay_25 : decode cX6_lay 25 = .ok (.aload_n 0, 1) := by decide +kernel
theorem dX6_lay_26 : decode cX6_lay 26 = .ok (.getfield 13, 3) := by decide +kernel
theorem dX6_lay_29 : decode cX6_lay 29 = .ok (.iconst 2, 1) := by decide +kernel
theorem dX6_lay_30 : decode cX6_lay 30 = .ok (.iaload, 1) := by decide +kernel
theorem dX6_lay_31 : decode cX6_lay 31 = .ok (.ireturn, 1) := by decide +kernel
theorem dX6_treeIn_0 : decode cX6_treeIn 0 = .ok (.bipush (-4), 2) := by decide +kernel
theorem dX6_treeIn_2 : decode cX6_treeIn 2 = .ok (.istore_n 2, 1) := by decide +kernel
theorem dX6_treeIn_3 : decode cX6_treeIn 3 = .ok (.iconst 0, 1) := by decide +kernel
theorem dX6_treeIn_4 : decode cX6_treeIn 4 = .ok (.istore_n 3, 1) := by decide +kernel
theorem dX6_treeIn_5 : decode cX6_treeIn 5 = .ok (.iload_n 3, 1) := by decide +kernel
theorem dX6_treeIn_6 : decode cX6_treeIn 6 = .ok (.aload_n 0, 1) := by decide +kernel
theorem dX6_treeIn_7 : decode cX6_treeIn 7 = .ok (.getfield 13, 3) := by decide +kernel
theorem dX6_treeIn_10 : decode cX6_treeIn 10 = .ok (.iconst 2, 1) := by decide +kernel
theorem dX6_treeIn_11 : decode cX6_treeIn 11 = .ok (.iaload, 1) := by decide +kernel
theorem dX6_treeIn_12 : decode cX6_treeIn 12 = .ok (.if_icmp .ge 56, 3) := by decide +kernel
theorem dX6_treeIn_15 : decode cX6_treeIn 15 = .ok (.iconst 0, 1) := by decide +kernel
theorem dX6_treeIn_16 : decode cX6_treeIn 16 = .ok (.istore 4, 2) := by decide +kernel
theorem dX6_treeIn_18 : decode cX6_treeIn 18 = .ok (.iload 4, 2) := by decide +kernel
theorem dX6_treeIn_20 : decode cX6_treeIn 20 = .ok (.aload_n 0, 1) := by decide +kernel
theorem dX6_treeIn_21 : decode cX6_treeIn 21 = .ok (.getfield 22, 3) := by decide +kernel
theorem dX6_treeIn_24 : decode cX6_treeIn 24 = .ok (.bipush 8, 2) := by decide +kernel
theorem dX6_treeIn_26 : decode cX6_treeIn 26 = .ok (.iload_n 3, 1) := by decide +kernel
theorem dX6_treeIn_27 : decode cX6_treeIn 27 = .ok (.iadd, 1) := by decide +kernel
theorem dX6_treeIn_28 : decode cX6_treeIn 28 = .ok (.iaload, 1) := by decide +kernel
theorem dX6_treeIn_29 : decode cX6_treeIn 29 = .ok (.if_icmp .ge 33, 3) := by decide +kernel
theorem dX6_treeIn_32 : decode cX6_treeIn 32 = .ok (.aload_n 0, 1) := by decide +kernel
theorem dX6_treeIn_33 : decode cX6_treeIn 33 = .ok (.getfield 22, 3) := by decide +kernel
theorem dX6_treeIn_36 : decode cX6_treeIn 36 = .ok (.bipush 11, 2) := by decide +kernel
theorem dX6_treeIn_38 : decode cX6_treeIn 38 = .ok (.iconst 4, 1) := by decide +kernel
theorem dX6_treeIn_39 : decode cX6_treeIn 39 = .ok (.iload_n 3, 1) := by decide +kernel
theorem dX6_treeIn_40 : decode cX6_treeIn 40 = .ok (.imul, 1) := by decide +kernel
theorem dX6_treeIn_41 : decode cX6_treeIn 41 = .ok (.iadd, 1) := by decide +kernel
theorem dX6_treeIn_42 : decode cX6_treeIn 42 = .ok (.iload 4, 2) := by decide +kernel
theorem dX6_treeIn_44 : decode cX6_treeIn 44 = .ok (.iadd, 1) := by decide +kernel
theorem dX6_treeIn_45 : decode cX6_treeIn 45 = .ok (.iaload, 1) := by decide +kernel
theorem dX6_treeIn_46 : decode cX6_treeIn 46 = .ok (.iload_n 1, 1) := by decide +kernel
theorem dX6_treeIn_47 : decode cX6_treeIn 47 = .ok (.if_icmp .ne 7, 3) := by decide +kernel
theorem dX6_treeIn_50 : decode cX6_treeIn 50 = .ok (.iload_n 3, 1) := by decide +kernel
theorem dX6_treeIn_51 : decode cX6_treeIn 51 = .ok (.goto 4, 3) := by decide +kernel
theorem dX6_treeIn_54 : decode cX6_treeIn 54 = .ok (.iload_n 2, 1) := by decide +kernel
theorem dX6_treeIn_55 : decode cX6_treeIn 55 = .ok (.istore_n 2, 1) := by decide +kernel
theorem dX6_treeIn_56 : decode cX6_treeIn 56 = .ok (.iinc 4 1, 3) := by decide +kernel
theorem dX6_treeIn_59 : decode cX6_treeIn 59 = .ok (.goto (-41), 3) := by decide +kernel
theorem dX6_treeIn_62 : decode cX6_treeIn 62 = .ok (.iinc 3 1, 3) := by decide +kernel
theorem dX6_treeIn_65 : decode cX6_treeIn 65 = .ok (.goto (-60), 3) := by decide +kernel
theorem dX6_treeIn_68 : decode cX6_treeIn 68 = .ok (.iload_n 2, 1) := by decide +kernel
theorem dX6_treeIn_69 : decode cX6_treeIn 69 = .ok (.ireturn, 1) := by decide +kernel
theorem dX6_lies_0 : decode cX6_lies 0 = .ok (.aload_n 0, 1) := by decide +kernel
theorem dX6_lies_1 : decode cX6_lies 1 = .ok (.getfield 22, 3) := by decide +kernel
theorem dX6_lies_4 : decode cX6_lies 4 = .ok (.bipush 23, 2) := by decide +kernel
theorem dX6_lies_6 : decode cX6_lies 6 = .ok (.iload_n 1, 1) := by decide +kernel
theorem dX6_lies_7 : decode cX6_lies 7 = .ok (.iadd, 1) := by decide +kernel
theorem dX6_lies_8 : decode cX6_lies 8 = .ok (.iaload, 1) := by decide +kernel
theorem dX6_lies_9 : decode cX6_lies 9 = .ok (.ireturn, 1) := by decide +kernel
theorem dX6_cell_0 : decode cX6_cell 0 = .ok (.aload_n 0, 1) := by decide +kernel
theorem dX6_cell_1 : decode cX6_cell 1 = .ok (.iload_n 1, 1) := by decide +kernel
theorem dX6_cell_2 : decode cX6_cell 2 = .ok (.invokevirtual 110, 3) := by decide +kernel
theorem dX6_cell_5 : decode cX6_cell 5 = .ok (.ifCond .ne 5, 3) := by decide +kernel
theorem dX6_cell_8 : decode cX6_cell 8 = .ok (.iconst (-1), 1) := by decide +kernel
theorem dX6_cell_9 : decode cX6_cell 9 = .ok (.ireturn, 1) := by decide +kernel
theorem dX6_cell_10 : decode cX6_cell 10 = .ok (.iload_n 2, 1) := by decide +kernel
theorem dX6_cell_11 : decode cX6_cell 11 = .ok (.tableswitch 83 0 3 #[29, 38, 48, 63], 29) := by decide +kernel
theorem dX6_cell_40 : decode cX6_cell 40 = .ok (.aload_n 0, 1) := by decide +kernel
theorem dX6_cell_41 : decode cX6_cell 41 = .ok (.getfield 13, 3) := by decide +kernel
theorem dX6_cell_44 : decode cX6_cell 44 = .ok (.iconst 3, 1) := by decide +kernel
theorem dX6_cell_45 : decode cX6_cell 45 = .ok (.iload_n 1, 1) := by decide +kernel
theorem dX6_cell_46 : decode cX6_cell 46 = .ok (.iadd, 1) := by decide +kernel
theorem dX6_cell_47 : decode cX6_cell 47 = .ok (.iaload, 1) := by decide +kernel
theorem dX6_cell_48 : decode cX6_cell 48 = .ok (.ireturn, 1) := by decide +kernel
theorem dX6_cell_49 : decode cX6_cell 49 = .ok (.aload_n 0, 1) := by decide +kernel
theorem dX6_cell_50 : decode cX6_cell 50 = .ok (.getfield 13, 3) := by decide +kernel
theorem dX6_cell_53 : decode cX6_cell 53 = .ok (.bipush 39, 2) := by decide +kernel
theorem dX6_cell_55 : decode cX6_cell 55 = .ok (.iload_n 1, 1) := by decide +kernel
theorem dX6_cell_56 : decode cX6_cell 56 = .ok (.iadd, 1) := by decide +kernel
theorem dX6_cell_57 : decode cX6_cell 57 = .ok (.iaload, 1) := by decide +kernel
theorem dX6_cell_58 : decode cX6_cell 58 = .ok (.ireturn, 1) := by decide +kernel
theorem dX6_cell_59 : decode cX6_cell 59 = .ok (.aload_n 0, 1) := by decide +kernel
theorem dX6_cell_60 : decode cX6_cell 60 = .ok (.iload_n 1, 1) := by decide +kernel
theorem dX6_cell_61 : decode cX6_cell 61 = .ok (.invokevirtual 113, 3) := by decide +kernel
theorem dX6_cell_64 : decode cX6_cell 64 = .ok (.iconst 1, 1) := by decide +kernel
theorem dX6_cell_65 : decode cX6_cell 65 = .ok (.if_icmp .ne 7, 3) := by decide +kernel
theorem dX6_cell_68 : decode cX6_cell 68 = .ok (.iconst 1, 1) := by decide +kernel
theorem dX6_cell_69 : decode cX6_cell 69 = .ok (.goto 4, 3) := by decide +kernel
theorem dX6_cell_72 : decode cX6_cell 72 = .ok (.iconst 0, 1) := by decide +kernel
theorem dX6_cell_73 : decode cX6_cell 73 = .ok (.ireturn, 1) := by decide +kernel
theorem dX6_cell_74 : decode cX6_cell 74 = .ok (.aload_n 0, 1) := by decide +kernel
theorem dX6_cell_75 : decode cX6_cell 75 = .ok (.iload_n 1, 1) := by decide +kernel
theorem dX6_cell_76 : decode cX6_cell 76 = .ok (.invokevirtual 113, 3) := by decide +kernel
theorem dX6_cell_79 : decode cX6_cell 79 = .ok (.iconst 2, 1) := by decide +kernel
theorem dX6_cell_80 : decode cX6_cell 80 = .ok (.if_icmp .ne 8, 3) := by decide +kernel
theorem dX6_cell_83 : decode cX6_cell 83 = .ok (.bipush 9, 2) := by decide +kernel
theorem dX6_cell_85 : decode cX6_cell 85 = .ok (.goto 8, 3) := by decide +kernel
theorem dX6_cell_88 : decode cX6_cell 88 = .ok (.aload_n 0, 1) := by decide +kernel
theorem dX6_cell_89 : decode cX6_cell 89 = .ok (.iload_n 1, 1) := by decide +kernel
theorem dX6_cell_90 : decode cX6_cell 90 = .ok (.invokevirtual 116, 3) := by decide +kernel
theorem dX6_cell_93 : decode cX6_cell 93 = .ok (.ireturn, 1) := by decide +kernel
theorem dX6_cell_94 : decode cX6_cell 94 = .ok (.iconst (-1), 1) := by decide +kernel
theorem dX6_cell_95 : decode cX6_cell 95 = .ok (.ireturn, 1) := by decide +kernel
theorem dX6_beside_0 : decode cX6_beside 0 = .ok (.aload_n 0, 1) := by decide +kernel
theorem dX6_beside_1 : decode cX6_beside 1 = .ok (.getfield 13, 3) := by decide +kernel
theorem dX6_beside_4 : decode cX6_beside 4 = .ok (.iconst 1, 1) := by decide +kernel
theorem dX6_beside_5 : decode cX6_beside 5 = .ok (.iaload, 1) := by decide +kernel
theorem dX6_beside_6 : decode cX6_beside 6 = .ok (.istore_n 3, 1) := by decide +kernel
theorem dX6_beside_7 : decode cX6_beside 7 = .ok (.iload_n 2, 1) := by decide +kernel
theorem dX6_beside_8 : decode cX6_beside 8 = .ok (.tableswitch 82 0 2 #[28, 43, 61], 28) := by decide +kernel
theorem dX6_beside_36 : decode cX6_beside 36 = .ok (.iload_n 1, 1) := by decide +kernel
theorem dX6_beside_37 : decode cX6_beside 37 = .ok (.iload_n 3, 1) := by decide +kernel
theorem dX6_beside_38 : decode cX6_beside 38 = .ok (.isub, 1) := by decide +kernel
theorem dX6_beside_39 : decode cX6_beside 39 = .ok (.ifCond .lt 9, 3) := by decide +kernel
theorem dX6_beside_42 : decode cX6_beside 42 = .ok (.iload_n 1, 1) := by decide +kernel
theorem dX6_beside_43 : decode cX6_beside 43 = .ok (.iload_n 3, 1) := by decide +kernel
theorem dX6_beside_44 : decode cX6_beside 44 = .ok (.isub, 1) := by decide +kernel
theorem dX6_beside_45 : decode cX6_beside 45 = .ok (.goto 5, 3) := by decide +kernel
theorem dX6_beside_48 : decode cX6_beside 48 = .ok (.bipush (-4), 2) := by decide +kernel
theorem dX6_beside_50 : decode cX6_beside 50 = .ok (.ireturn, 1) := by decide +kernel
theorem dX6_beside_51 : decode cX6_beside 51 = .ok (.iload_n 1, 1) := by decide +kernel
theorem dX6_beside_52 : decode cX6_beside 52 = .ok (.iload_n 3, 1) := by decide +kernel
theorem dX6_beside_53 : decode cX6_beside 53 = .ok (.irem, 1) := by decide +kernel
theorem dX6_beside_54 : decode cX6_beside 54 = .ok (.iload_n 3, 1) := by decide +kernel
theorem dX6_beside_55 : decode cX6_beside 55 = .ok (.iconst 1, 1) := by decide +kernel
theorem dX6_beside_56 : decode cX6_beside 56 = .ok (.isub, 1) := by decide +kernel
theorem dX6_beside_57 : decode cX6_beside 57 = .ok (.if_icmp .ge 9, 3) := by decide +kernel
theorem dX6_beside_60 : decode cX6_beside 60 = .ok (.iload_n 1, 1) := by decide +kernel
theorem dX6_beside_61 : decode cX6_beside 61 = .ok (.iconst 1, 1) := by decide +kernel
theorem dX6_beside_62 : decode cX6_beside 62 = .ok (.iadd, 1) := by decide +kernel
theorem dX6_beside_63 : decode cX6_beside 63 = .ok (.goto 5, 3) := by decide +kernel
theorem dX6_beside_66 : decode cX6_beside 66 = .ok (.bipush (-4), 2) := by decide +kernel
theorem dX6_beside_68 : decode cX6_beside 68 = .ok (.ireturn, 1) := by decide +kernel
theorem dX6_beside_69 : decode cX6_beside 69 = .ok (.iload_n 1, 1) := by decide +kernel
theorem dX6_beside_70 : decode cX6_beside 70 = .ok (.iload_n 3, 1) := by decide +kernel
theorem dX6_beside_71 : decode cX6_beside 71 = .ok (.iadd, 1) := by decide +kernel
theorem dX6_beside_72 : decode cX6_beside 72 = .ok (.aload_n 0, 1) := by decide +kernel
theorem dX6_beside_73 : decode cX6_beside 73 = .ok (.getfield 13, 3) := by decide +kernel
theorem dX6_beside_76 : decode cX6_beside 76 = .ok (.iconst 0, 1) := by decide +kernel
theorem dX6_beside_77 : decode cX6_beside 77 = .ok (.iaload, 1) := by decide +kernel
theorem dX6_beside_78 : decode cX6_beside 78 = .ok (.if_icmp .ge 9, 3) := by decide +kernel
theorem dX6_beside_81 : decode cX6_beside 81 = .ok (.iload_n 1, 1) := by decide +kernel
theorem dX6_beside_82 : decode cX6_beside 82 = .ok (.iload_n 3, 1) := by decide +kernel
theorem dX6_beside_83 : decode cX6_beside 83 = .ok (.iadd, 1) := by decide +kernel
theorem dX6_beside_84 : decode cX6_beside 84 = .ok (.goto 5, 3) := by decide +kernel
theorem dX6_beside_87 : decode cX6_beside 87 = .ok (.bipush (-4), 2) := by decide +kernel
theorem dX6_beside_89 : decode cX6_beside 89 = .ok (.ireturn, 1) := by decide +kernel
theorem dX6_beside_90 : decode cX6_beside 90 = .ok (.iload_n 1, 1) := by decide +kernel
theorem dX6_beside_91 : decode cX6_beside 91 = .ok (.iload_n 3, 1) := by decide +kernel
theorem dX6_beside_92 : decode cX6_beside 92 = .ok (.irem, 1) := by decide +kernel
theorem dX6_beside_93 : decode cX6_beside 93 = .ok (.ifCond .le 9, 3) := by decide +kernel
theorem dX6_beside_96 : decode cX6_beside 96 = .ok (.iload_n 1, 1) := by decide +kernel
theorem dX6_beside_97 : decode cX6_beside 97 = .ok (.iconst 1, 1) := by decide +kernel
theorem dX6_beside_98 : decode cX6_beside 98 = .ok (.isub, 1) := by decide +kernel
theorem dX6_beside_99 : decode cX6_beside 99 = .ok (.goto 5, 3) := by decide +kernel
theorem dX6_beside_102 : decode cX6_beside 102 = .ok (.bipush (-4), 2) := by decide +kernel
theorem dX6_beside_104 : decode cX6_beside 104 = .ok (.ireturn, 1) := by decide +kernel
theorem dX6_isOpen_0 : decode cX6_isOpen 0 = .ok (.iload_n 2, 1) := by decide +kernel
theorem dX6_isOpen_1 : decode cX6_isOpen 1 = .ok (.bipush (-4), 2) := by decide +kernel
theorem dX6_isOpen_3 : decode cX6_isOpen 3 = .ok (.if_icmp .ne 7, 3) := by decide +kernel
theorem dX6_isOpen_6 : decode cX6_isOpen 6 = .ok (.iconst 3, 1) := by decide +kernel
theorem dX6_isOpen_7 : decode cX6_isOpen 7 = .ok (.goto 11, 3) := by decide +kernel
theorem dX6_isOpen_10 : decode cX6_isOpen 10 = .ok (.aload_n 0, 1) := by decide +kernel
theorem dX6_isOpen_11 : decode cX6_isOpen 11 = .ok (.getfield 13, 3) := by decide +kernel
theorem dX6_isOpen_14 : decode cX6_isOpen 14 = .ok (.iconst 3, 1) := by decide +kernel
theorem dX6_isOpen_15 : decode cX6_isOpen 15 = .ok (.iload_n 2, 1) := by decide +kernel
theorem dX6_isOpen_16 : decode cX6_isOpen 16 = .ok (.iadd, 1) := by decide +kernel
theorem dX6_isOpen_17 : decode cX6_isOpen 17 = .ok (.iaload, 1) := by decide +kernel
theorem dX6_isOpen_18 : decode cX6_isOpen 18 = .ok (.istore_n 3, 1) := by decide +kernel
theorem dX6_isOpen_19 : decode cX6_isOpen 19 = .ok (.iload_n 3, 1) := by decide +kernel
theorem dX6_isOpen_20 : decode cX6_isOpen 20 = .ok (.ifCond .eq 26, 3) := by decide +kernel
theorem dX6_isOpen_23 : decode cX6_isOpen 23 = .ok (.iload_n 3, 1) := by decide +kernel
theorem dX6_isOpen_24 : decode cX6_isOpen 24 = .ok (.iconst 1, 1) := by decide +kernel
theorem dX6_isOpen_25 : decode cX6_isOpen 25 = .ok (.if_icmp .eq 21, 3) := by decide +kernel
theorem dX6_isOpen_28 : decode cX6_isOpen 28 = .ok (.iload_n 3, 1) := by decide +kernel
theorem dX6_isOpen_29 : decode cX6_isOpen 29 = .ok (.iconst 2, 1) := by decide +kernel
theorem dX6_isOpen_30 : decode cX6_isOpen 30 = .ok (.if_icmp .ne 20, 3) := by decide +kernel
theorem dX6_isOpen_33 : decode cX6_isOpen 33 = .ok (.aload_n 0, 1) := by decide +kernel
theorem dX6_isOpen_34 : decode cX6_isOpen 34 = .ok (.getfield 13, 3) := by decide +kernel
theorem dX6_isOpen_37 : decode cX6_isOpen 37 = .ok (.bipush 75, 2) := by decide +kernel
theorem dX6_isOpen_39 : decode cX6_isOpen 39 = .ok (.iload_n 1, 1) := by decide +kernel
theorem dX6_isOpen_40 : decode cX6_isOpen 40 = .ok (.iadd, 1) := by decide +kernel
theorem dX6_isOpen_41 : decode cX6_isOpen 41 = .ok (.iaload, 1) := by decide +kernel
theorem dX6_isOpen_42 : decode cX6_isOpen 42 = .ok (.iconst 3, 1) := by decide +kernel
theorem dX6_isOpen_43 : decode cX6_isOpen 43 = .ok (.if_icmp .ne 7, 3) := by decide +kernel
theorem dX6_isOpen_46 : decode cX6_isOpen 46 = .ok (.iconst 1, 1) := by decide +kernel
theorem dX6_isOpen_47 : decode cX6_isOpen 47 = .ok (.goto 4, 3) := by decide +kernel
theorem dX6_isOpen_50 : decode cX6_isOpen 50 = .ok (.iconst 0, 1) := by decide +kernel
theorem dX6_isOpen_51 : decode cX6_isOpen 51 = .ok (.istore 4, 2) := by decide +kernel
theorem dX6_isOpen_53 : decode cX6_isOpen 53 = .ok (.iload 4, 2) := by decide +kernel
theorem dX6_isOpen_55 : decode cX6_isOpen 55 = .ok (.ifCond .eq 25, 3) := by decide +kernel
theorem dX6_isOpen_58 : decode cX6_isOpen 58 = .ok (.aload_n 0, 1) := by decide +kernel
theorem dX6_isOpen_59 : decode cX6_isOpen 59 = .ok (.iload_n 2, 1) := by decide +kernel
theorem dX6_isOpen_60 : decode cX6_isOpen 60 = .ok (.invokevirtual 113, 3) := by decide +kernel
theorem dX6_isOpen_63 : decode cX6_isOpen 63 = .ok (.ifCond .ne 17, 3) := by decide +kernel
theorem dX6_isOpen_66 : decode cX6_isOpen 66 = .ok (.aload_n 0, 1) := by decide +kernel
theorem dX6_isOpen_67 : decode cX6_isOpen 67 = .ok (.iload_n 2, 1) := by decide +kernel
theorem dX6_isOpen_68 : decode cX6_isOpen 68 = .ok (.invokevirtual 116, 3) := by decide +kernel
theorem dX6_isOpen_71 : decode cX6_isOpen 71 = .ok (.bipush (-4), 2) := by decide +kernel
theorem dX6_isOpen_73 : decode cX6_isOpen 73 = .ok (.if_icmp .ne 7, 3) := by decide +kernel
theorem dX6_isOpen_76 : decode cX6_isOpen 76 = .ok (.iconst 1, 1) := by decide +kernel
theorem dX6_isOpen_77 : decode cX6_isOpen 77 = .ok (.goto 4, 3) := by decide +kernel
theorem dX6_isOpen_80 : decode cX6_isOpen 80 = .ok (.iconst 0, 1) := by decide +kernel
theorem dX6_isOpen_81 : decode cX6_isOpen 81 = .ok (.ireturn, 1) := by decide +kernel
theorem dX6_headsFor_0 : decode cX6_headsFor 0 = .ok (.aload_n 0, 1) := by decide +kernel
theorem dX6_headsFor_1 : decode cX6_headsFor 1 = .ok (.getfield 22, 3) := by decide +kernel
theorem dX6_headsFor_4 : decode cX6_headsFor 4 = .ok (.iconst 5, 1) := by decide +kernel
theorem dX6_headsFor_5 : decode cX6_headsFor 5 = .ok (.iload_n 1, 1) := by decide +kernel
theorem dX6_headsFor_6 : decode cX6_headsFor 6 = .ok (.iadd, 1) := by decide +kernel
theorem dX6_headsFor_7 : decode cX6_headsFor 7 = .ok (.iaload, 1) := by decide +kernel
theorem dX6_headsFor_8 : decode cX6_headsFor 8 = .ok (.istore_n 2, 1) := by decide +kernel
theorem dX6_headsFor_9 : decode cX6_headsFor 9 = .ok (.aload_n 0, 1) := by decide +kernel
theorem dX6_headsFor_10 : decode cX6_headsFor 10 = .ok (.getfield 13, 3) := by decide +kernel
theorem dX6_headsFor_13 : decode cX6_headsFor 13 = .ok (.bipush 75, 2) := by decide +kernel
theorem dX6_headsFor_15 : decode cX6_headsFor 15 = .ok (.iload_n 1, 1) := by decide +kernel
theorem dX6_headsFor_16 : decode cX6_headsFor 16 = .ok (.iadd, 1) := by decide +kernel
theorem dX6_headsFor_17 : decode cX6_headsFor 17 = .ok (.iaload, 1) := by decide +kernel
theorem dX6_headsFor_18 : decode cX6_headsFor 18 = .ok (.iconst 1, 1) := by decide +kernel
theorem dX6_headsFor_19 : decode cX6_headsFor 19 = .ok (.if_icmp .ne 7, 3) := by decide +kernel
theorem dX6_headsFor_22 : decode cX6_headsFor 22 = .ok (.iconst 3, 1) := by decide +kernel
theorem dX6_headsFor_23 : decode cX6_headsFor 23 = .ok (.goto 4, 3) := by decide +kernel
theorem dX6_headsFor_26 : decode cX6_headsFor 26 = .ok (.iconst 1, 1) := by decide +kernel
theorem dX6_headsFor_27 : decode cX6_headsFor 27 = .ok (.istore_n 3, 1) := by decide +kernel
theorem dX6_headsFor_28 : decode cX6_headsFor 28 = .ok (.aload_n 0, 1) := by decide +kernel
theorem dX6_headsFor_29 : decode cX6_headsFor 29 = .ok (.getfield 22, 3) := by decide +kernel
theorem dX6_headsFor_32 : decode cX6_headsFor 32 = .ok (.bipush 11, 2) := by decide +kernel
theorem dX6_headsFor_34 : decode cX6_headsFor 34 = .ok (.iconst 4, 1) := by decide +kernel
theorem dX6_headsFor_35 : decode cX6_headsFor 35 = .ok (.iload_n 1, 1) := by decide +kernel
theorem dX6_headsFor_36 : decode cX6_headsFor 36 = .ok (.imul, 1) := by decide +kernel
theorem dX6_headsFor_37 : decode cX6_headsFor 37 = .ok (.iadd, 1) := by decide +kernel
theorem dX6_headsFor_38 : decode cX6_headsFor 38 = .ok (.iaload, 1) := by decide +kernel
