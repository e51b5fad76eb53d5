theorem dX6_headsFor_39 : decode cX6_headsFor 39 = .ok (.istore 4, 2) := by decide +kernel
theorem dX6_headsFor_41 : decode cX6_headsFor 41 = .ok (.iload_n 2, 1) := by decide +kernel
theorem dX6_headsFor_42 : decode cX6_headsFor 42 = .ok (.iload_n 3, 1) := by decide +kernel
theorem dX6_headsFor_43 : decode cX6_headsFor 43 = .ok (.iadd, 1) := by decide +kernel
theorem dX6_headsFor_44 : decode cX6_headsFor 44 = .ok (.iconst 4, 1) := by decide +kernel
theorem dX6_headsFor_45 : decode cX6_headsFor 45 = .ok (.irem, 1) := by decide +kernel
theorem dX6_headsFor_46 : decode cX6_headsFor 46 = .ok (.istore 5, 2) := by decide +kernel
theorem dX6_headsFor_48 : decode cX6_headsFor 48 = .ok (.iload_n 2, 1) := by decide +kernel
theorem dX6_headsFor_49 : decode cX6_headsFor 49 = .ok (.iconst 4, 1) := by decide +kernel
theorem dX6_headsFor_50 : decode cX6_headsFor 50 = .ok (.iadd, 1) := by decide +kernel
theorem dX6_headsFor_51 : decode cX6_headsFor 51 = .ok (.iload_n 3, 1) := by decide +kernel
theorem dX6_headsFor_52 : decode cX6_headsFor 52 = .ok (.isub, 1) := by decide +kernel
theorem dX6_headsFor_53 : decode cX6_headsFor 53 = .ok (.iconst 4, 1) := by decide +kernel
theorem dX6_headsFor_54 : decode cX6_headsFor 54 = .ok (.irem, 1) := by decide +kernel
theorem dX6_headsFor_55 : decode cX6_headsFor 55 = .ok (.istore 6, 2) := by decide +kernel
theorem dX6_headsFor_57 : decode cX6_headsFor 57 = .ok (.aload_n 0, 1) := by decide +kernel
theorem dX6_headsFor_58 : decode cX6_headsFor 58 = .ok (.getfield 13, 3) := by decide +kernel
theorem dX6_headsFor_61 : decode cX6_headsFor 61 = .ok (.bipush 75, 2) := by decide +kernel
theorem dX6_headsFor_63 : decode cX6_headsFor 63 = .ok (.iload_n 1, 1) := by decide +kernel
theorem dX6_headsFor_64 : decode cX6_headsFor 64 = .ok (.iadd, 1) := by decide +kernel
theorem dX6_headsFor_65 : decode cX6_headsFor 65 = .ok (.iaload, 1) := by decide +kernel
theorem dX6_headsFor_66 : decode cX6_headsFor 66 = .ok (.iconst 2, 1) := by decide +kernel
theorem dX6_headsFor_67 : decode cX6_headsFor 67 = .ok (.if_icmp .ne 18, 3) := by decide +kernel
theorem dX6_headsFor_70 : decode cX6_headsFor 70 = .ok (.aload_n 0, 1) := by decide +kernel
theorem dX6_headsFor_71 : decode cX6_headsFor 71 = .ok (.getfield 22, 3) := by decide +kernel
theorem dX6_headsFor_74 : decode cX6_headsFor 74 = .ok (.iconst 0, 1) := by decide +kernel
theorem dX6_headsFor_75 : decode cX6_headsFor 75 = .ok (.iaload, 1) := by decide +kernel
theorem dX6_headsFor_76 : decode cX6_headsFor 76 = .ok (.iconst 2, 1) := by decide +kernel
theorem dX6_headsFor_77 : decode cX6_headsFor 77 = .ok (.irem, 1) := by decide +kernel
theorem dX6_headsFor_78 : decode cX6_headsFor 78 = .ok (.iconst 1, 1) := by decide +kernel
theorem dX6_headsFor_79 : decode cX6_headsFor 79 = .ok (.if_icmp .ne 6, 3) := by decide +kernel
theorem dX6_headsFor_82 : decode cX6_headsFor 82 = .ok (.bipush (-4), 2) := by decide +kernel
theorem dX6_headsFor_84 : decode cX6_headsFor 84 = .ok (.ireturn, 1) := by decide +kernel
theorem dX6_headsFor_85 : decode cX6_headsFor 85 = .ok (.aload_n 0, 1) := by decide +kernel
theorem dX6_headsFor_86 : decode cX6_headsFor 86 = .ok (.iload_n 1, 1) := by decide +kernel
theorem dX6_headsFor_87 : decode cX6_headsFor 87 = .ok (.aload_n 0, 1) := by decide +kernel
theorem dX6_headsFor_88 : decode cX6_headsFor 88 = .ok (.iload 4, 2) := by decide +kernel
theorem dX6_headsFor_90 : decode cX6_headsFor 90 = .ok (.iload_n 2, 1) := by decide +kernel
theorem dX6_headsFor_91 : decode cX6_headsFor 91 = .ok (.invokevirtual 119, 3) := by decide +kernel
theorem dX6_headsFor_94 : decode cX6_headsFor 94 = .ok (.invokevirtual 122, 3) := by decide +kernel
theorem dX6_headsFor_97 : decode cX6_headsFor 97 = .ok (.ifCond .eq 7, 3) := by decide +kernel
theorem dX6_headsFor_100 : decode cX6_headsFor 100 = .ok (.iload_n 2, 1) := by decide +kernel
theorem dX6_headsFor_101 : decode cX6_headsFor 101 = .ok (.goto 47, 3) := by decide +kernel
theorem dX6_headsFor_104 : decode cX6_headsFor 104 = .ok (.aload_n 0, 1) := by decide +kernel
theorem dX6_headsFor_105 : decode cX6_headsFor 105 = .ok (.iload_n 1, 1) := by decide +kernel
theorem dX6_headsFor_106 : decode cX6_headsFor 106 = .ok (.aload_n 0, 1) := by decide +kernel
theorem dX6_headsFor_107 : decode cX6_headsFor 107 = .ok (.iload 4, 2) := by decide +kernel
theorem dX6_headsFor_109 : decode cX6_headsFor 109 = .ok (.iload 5, 2) := by decide +kernel
theorem dX6_headsFor_111 : decode cX6_headsFor 111 = .ok (.invokevirtual 119, 3) := by decide +kernel
theorem dX6_headsFor_114 : decode cX6_headsFor 114 = .ok (.invokevirtual 122, 3) := by decide +kernel
theorem dX6_headsFor_117 : decode cX6_headsFor 117 = .ok (.ifCond .eq 8, 3) := by decide +kernel
theorem dX6_headsFor_120 : decode cX6_headsFor 120 = .ok (.iload 5, 2) := by decide +kernel
theorem dX6_headsFor_122 : decode cX6_headsFor 122 = .ok (.goto 26, 3) := by decide +kernel
theorem dX6_headsFor_125 : decode cX6_headsFor 125 = .ok (.aload_n 0, 1) := by decide +kernel
theorem dX6_headsFor_126 : decode cX6_headsFor 126 = .ok (.iload_n 1, 1) := by decide +kernel
theorem dX6_headsFor_127 : decode cX6_headsFor 127 = .ok (.aload_n 0, 1) := by decide +kernel
theorem dX6_headsFor_128 : decode cX6_headsFor 128 = .ok (.iload 4, 2) := by decide +kernel
theorem dX6_headsFor_130 : decode cX6_headsFor 130 = .ok (.iload 6, 2) := by decide +kernel
theorem dX6_headsFor_132 : decode cX6_headsFor 132 = .ok (.invokevirtual 119, 3) := by decide +kernel
theorem dX6_headsFor_135 : decode cX6_headsFor 135 = .ok (.invokevirtual 122, 3) := by decide +kernel
theorem dX6_headsFor_138 : decode cX6_headsFor 138 = .ok (.ifCond .eq 8, 3) := by decide +kernel
theorem dX6_headsFor_141 : decode cX6_headsFor 141 = .ok (.iload 6, 2) := by decide +kernel
theorem dX6_headsFor_143 : decode cX6_headsFor 143 = .ok (.goto 5, 3) := by decide +kernel
theorem dX6_headsFor_146 : decode cX6_headsFor 146 = .ok (.bipush (-4), 2) := by decide +kernel
theorem dX6_headsFor_148 : decode cX6_headsFor 148 = .ok (.ireturn, 1) := by decide +kernel
theorem dX6_row_0 : decode cX6_row 0 = .ok (.aload_n 0, 1) := by decide +kernel
theorem dX6_row_1 : decode cX6_row 1 = .ok (.iload_n 1, 1) := by decide +kernel
theorem dX6_row_2 : decode cX6_row 2 = .ok (.invokevirtual 126, 3) := by decide +kernel
theorem dX6_row_5 : decode cX6_row 5 = .ok (.ifCond .eq 12, 3) := by decide +kernel
theorem dX6_row_8 : decode cX6_row 8 = .ok (.iload_n 2, 1) := by decide +kernel
theorem dX6_row_9 : decode cX6_row 9 = .ok (.iconst 0, 1) := by decide +kernel
theorem dX6_row_10 : decode cX6_row 10 = .ok (.iconst 4, 1) := by decide +kernel
theorem dX6_row_11 : decode cX6_row 11 = .ok (.invokestatic 54, 3) := by decide +kernel
theorem dX6_row_14 : decode cX6_row 14 = .ok (.ifCond .ne 5, 3) := by decide +kernel
theorem dX6_row_17 : decode cX6_row 17 = .ok (.iconst (-1), 1) := by decide +kernel
theorem dX6_row_18 : decode cX6_row 18 = .ok (.ireturn, 1) := by decide +kernel
theorem dX6_row_19 : decode cX6_row 19 = .ok (.iload_n 2, 1) := by decide +kernel
theorem dX6_row_20 : decode cX6_row 20 = .ok (.tableswitch 71 0 3 #[32, 42, 51, 61], 32) := by decide +kernel
theorem dX6_row_52 : decode cX6_row 52 = .ok (.aload_n 0, 1) := by decide +kernel
theorem dX6_row_53 : decode cX6_row 53 = .ok (.getfield 13, 3) := by decide +kernel
theorem dX6_row_56 : decode cX6_row 56 = .ok (.bipush 75, 2) := by decide +kernel
theorem dX6_row_58 : decode cX6_row 58 = .ok (.iload_n 1, 1) := by decide +kernel
theorem dX6_row_59 : decode cX6_row 59 = .ok (.iadd, 1) := by decide +kernel
theorem dX6_row_60 : decode cX6_row 60 = .ok (.iaload, 1) := by decide +kernel
theorem dX6_row_61 : decode cX6_row 61 = .ok (.ireturn, 1) := by decide +kernel
theorem dX6_row_62 : decode cX6_row 62 = .ok (.aload_n 0, 1) := by decide +kernel
theorem dX6_row_63 : decode cX6_row 63 = .ok (.getfield 22, 3) := by decide +kernel
theorem dX6_row_66 : decode cX6_row 66 = .ok (.iconst 5, 1) := by decide +kernel
theorem dX6_row_67 : decode cX6_row 67 = .ok (.iload_n 1, 1) := by decide +kernel
theorem dX6_row_68 : decode cX6_row 68 = .ok (.iadd, 1) := by decide +kernel
theorem dX6_row_69 : decode cX6_row 69 = .ok (.iaload, 1) := by decide +kernel
theorem dX6_row_70 : decode cX6_row 70 = .ok (.ireturn, 1) := by decide +kernel
theorem dX6_row_71 : decode cX6_row 71 = .ok (.aload_n 0, 1) := by decide +kernel
theorem dX6_row_72 : decode cX6_row 72 = .ok (.getfield 13, 3) := by decide +kernel
theorem dX6_row_75 : decode cX6_row 75 = .ok (.bipush 78, 2) := by decide +kernel
theorem dX6_row_77 : decode cX6_row 77 = .ok (.iload_n 1, 1) := by decide +kernel
theorem dX6_row_78 : decode cX6_row 78 = .ok (.iadd, 1) := by decide +kernel
theorem dX6_row_79 : decode cX6_row 79 = .ok (.iaload, 1) := by decide +kernel
theorem dX6_row_80 : decode cX6_row 80 = .ok (.ireturn, 1) := by decide +kernel
theorem dX6_row_81 : decode cX6_row 81 = .ok (.aload_n 0, 1) := by decide +kernel
theorem dX6_row_82 : decode cX6_row 82 = .ok (.getfield 22, 3) := by decide +kernel
theorem dX6_row_85 : decode cX6_row 85 = .ok (.bipush 8, 2) := by decide +kernel
theorem dX6_row_87 : decode cX6_row 87 = .ok (.iload_n 1, 1) := by decide +kernel
theorem dX6_row_88 : decode cX6_row 88 = .ok (.iadd, 1) := by decide +kernel
theorem dX6_row_89 : decode cX6_row 89 = .ok (.iaload, 1) := by decide +kernel
theorem dX6_row_90 : decode cX6_row 90 = .ok (.ireturn, 1) := by decide +kernel
theorem dX6_row_91 : decode cX6_row 91 = .ok (.aload_n 0, 1) := by decide +kernel
theorem dX6_row_92 : decode cX6_row 92 = .ok (.iload_n 1, 1) := by decide +kernel
theorem dX6_row_93 : decode cX6_row 93 = .ok (.invokevirtual 129, 3) := by decide +kernel
theorem dX6_row_96 : decode cX6_row 96 = .ok (.bipush (-4), 2) := by decide +kernel
theorem dX6_row_98 : decode cX6_row 98 = .ok (.if_icmp .ne 8, 3) := by decide +kernel
theorem dX6_row_101 : decode cX6_row 101 = .ok (.bipush (-4), 2) := by decide +kernel
theorem dX6_row_103 : decode cX6_row 103 = .ok (.goto 23, 3) := by decide +kernel
theorem dX6_row_106 : decode cX6_row 106 = .ok (.aload_n 0, 1) := by decide +kernel
theorem dX6_row_107 : decode cX6_row 107 = .ok (.aload_n 0, 1) := by decide +kernel
theorem dX6_row_108 : decode cX6_row 108 = .ok (.getfield 22, 3) := by decide +kernel
theorem dX6_row_111 : decode cX6_row 111 = .ok (.bipush 11, 2) := by decide +kernel
theorem dX6_row_113 : decode cX6_row 113 = .ok (.iconst 4, 1) := by decide +kernel
theorem dX6_row_114 : decode cX6_row 114 = .ok (.iload_n 1, 1) := by decide +kernel
theorem dX6_row_115 : decode cX6_row 115 = .ok (.imul, 1) := by decide +kernel
theorem dX6_row_116 : decode cX6_row 116 = .ok (.iadd, 1) := by decide +kernel
theorem dX6_row_117 : decode cX6_row 117 = .ok (.iaload, 1) := by decide +kernel
theorem dX6_row_118 : decode cX6_row 118 = .ok (.aload_n 0, 1) := by decide +kernel
theorem dX6_row_119 : decode cX6_row 119 = .ok (.iload_n 1, 1) := by decide +kernel
theorem dX6_row_120 : decode cX6_row 120 = .ok (.invokevirtual 129, 3) := by decide +kernel
theorem dX6_row_123 : decode cX6_row 123 = .ok (.invokevirtual 119, 3) := by decide +kernel
theorem dX6_row_126 : decode cX6_row 126 = .ok (.ireturn, 1) := by decide +kernel
theorem dX6_tree_0 : decode cX6_tree 0 = .ok (.aload_n 0, 1) := by decide +kernel
theorem dX6_tree_1 : decode cX6_tree 1 = .ok (.iload_n 1, 1) := by decide +kernel
theorem dX6_tree_2 : decode cX6_tree 2 = .ok (.invokevirtual 126, 3) := by decide +kernel
theorem dX6_tree_5 : decode cX6_tree 5 = .ok (.ifCond .eq 12, 3) := by decide +kernel
theorem dX6_tree_8 : decode cX6_tree 8 = .ok (.iload_n 2, 1) := by decide +kernel
theorem dX6_tree_9 : decode cX6_tree 9 = .ok (.iconst 0, 1) := by decide +kernel
theorem dX6_tree_10 : decode cX6_tree 10 = .ok (.iconst 3, 1) := by decide +kernel
theorem dX6_tree_11 : decode cX6_tree 11 = .ok (.invokestatic 54, 3) := by decide +kernel
theorem dX6_tree_14 : decode cX6_tree 14 = .ok (.ifCond .ne 5, 3) := by decide +kernel
theorem dX6_tree_17 : decode cX6_tree 17 = .ok (.iconst (-1), 1) := by decide +kernel
theorem dX6_tree_18 : decode cX6_tree 18 = .ok (.ireturn, 1) := by decide +kernel
theorem dX6_tree_19 : decode cX6_tree 19 = .ok (.iload_n 2, 1) := by decide +kernel
theorem dX6_tree_20 : decode cX6_tree 20 = .ok (.aload_n 0, 1) := by decide +kernel
theorem dX6_tree_21 : decode cX6_tree 21 = .ok (.getfield 22, 3) := by decide +kernel
theorem dX6_tree_24 : decode cX6_tree 24 = .ok (.bipush 8, 2) := by decide +kernel
theorem dX6_tree_26 : decode cX6_tree 26 = .ok (.iload_n 1, 1) := by decide +kernel
theorem dX6_tree_27 : decode cX6_tree 27 = .ok (.iadd, 1) := by decide +kernel
theorem dX6_tree_28 : decode cX6_tree 28 = .ok (.iaload, 1) := by decide +kernel
theorem dX6_tree_29 : decode cX6_tree 29 = .ok (.if_icmp .ge 19, 3) := by decide +kernel
theorem dX6_tree_32 : decode cX6_tree 32 = .ok (.aload_n 0, 1) := by decide +kernel
theorem dX6_tree_33 : decode cX6_tree 33 = .ok (.getfield 22, 3) := by decide +kernel
theorem dX6_tree_36 : decode cX6_tree 36 = .ok (.bipush 11, 2) := by decide +kernel
theorem dX6_tree_38 : decode cX6_tree 38 = .ok (.iconst 4, 1) := by decide +kernel
theorem dX6_tree_39 : decode cX6_tree 39 = .ok (.iload_n 1, 1) := by decide +kernel
theorem dX6_tree_40 : decode cX6_tree 40 = .ok (.imul, 1) := by decide +kernel
theorem dX6_tree_41 : decode cX6_tree 41 = .ok (.iadd, 1) := by decide +kernel
theorem dX6_tree_42 : decode cX6_tree 42 = .ok (.iload_n 2, 1) := by decide +kernel
theorem dX6_tree_43 : decode cX6_tree 43 = .ok (.iadd, 1) := by decide +kernel
theorem dX6_tree_44 : decode cX6_tree 44 = .ok (.iaload, 1) := by decide +kernel
theorem dX6_tree_45 : decode cX6_tree 45 = .ok (.goto 5, 3) := by decide +kernel
theorem dX6_tree_48 : decode cX6_tree 48 = .ok (.bipush (-4), 2) := by decide +kernel
theorem dX6_tree_50 : decode cX6_tree 50 = .ok (.ireturn, 1) := by decide +kernel
theorem dX6_has_0 : decode cX6_has 0 = .ok (.iload_n 1, 1) := by decide +kernel
theorem dX6_has_1 : decode cX6_has 1 = .ok (.iconst 0, 1) := by decide +kernel
theorem dX6_has_2 : decode cX6_has 2 = .ok (.iconst 3, 1) := by decide +kernel
theorem dX6_has_3 : decode cX6_has 3 = .ok (.invokestatic 54, 3) := by decide +kernel
theorem dX6_has_6 : decode cX6_has 6 = .ok (.ifCond .eq 14, 3) := by decide +kernel
theorem dX6_has_9 : decode cX6_has 9 = .ok (.aload_n 0, 1) := by decide +kernel
theorem dX6_has_10 : decode cX6_has 10 = .ok (.getfield 22, 3) := by decide +kernel
theorem dX6_has_13 : decode cX6_has 13 = .ok (.iconst 1, 1) := by decide +kernel
theorem dX6_has_14 : decode cX6_has 14 = .ok (.iload_n 1, 1) := by decide +kernel
theorem dX6_has_15 : decode cX6_has 15 = .ok (.iadd, 1) := by decide +kernel
theorem dX6_has_16 : decode cX6_has 16 = .ok (.iaload, 1) := by decide +kernel
theorem dX6_has_17 : decode cX6_has 17 = .ok (.goto 4, 3) := by decide +kernel
theorem dX6_has_20 : decode cX6_has 20 = .ok (.iconst (-1), 1) := by decide +kernel
theorem dX6_has_21 : decode cX6_has 21 = .ok (.ireturn, 1) := by decide +kernel
theorem dX6_hasMate_0 : decode cX6_hasMate 0 = .ok (.iconst 0, 1) := by decide +kernel
theorem dX6_hasMate_1 : decode cX6_hasMate 1 = .ok (.istore_n 3, 1) := by decide +kernel
theorem dX6_hasMate_2 : decode cX6_hasMate 2 = .ok (.iconst 0, 1) := by decide +kernel
theorem dX6_hasMate_3 : decode cX6_hasMate 3 = .ok (.istore 4, 2) := by decide +kernel
theorem dX6_hasMate_5 : decode cX6_hasMate 5 = .ok (.iload 4, 2) := by decide +kernel
theorem dX6_hasMate_7 : decode cX6_hasMate 7 = .ok (.iconst 4, 1) := by decide +kernel
theorem dX6_hasMate_8 : decode cX6_hasMate 8 = .ok (.if_icmp .ge 62, 3) := by decide +kernel
theorem dX6_hasMate_11 : decode cX6_hasMate 11 = .ok (.aload_n 0, 1) := by decide +kernel
theorem dX6_hasMate_12 : decode cX6_hasMate 12 = .ok (.iload_n 2, 1) := by decide +kernel
theorem dX6_hasMate_13 : decode cX6_hasMate 13 = .ok (.iload 4, 2) := by decide +kernel
theorem dX6_hasMate_15 : decode cX6_hasMate 15 = .ok (.invokevirtual 119, 3) := by decide +kernel
theorem dX6_hasMate_18 : decode cX6_hasMate 18 = .ok (.bipush (-4), 2) := by decide +kernel
theorem dX6_hasMate_20 : decode cX6_hasMate 20 = .ok (.if_icmp .ne 8, 3) := by decide +kernel
theorem dX6_hasMate_23 : decode cX6_hasMate 23 = .ok (.bipush (-4), 2) := by decide +kernel
theorem dX6_hasMate_25 : decode cX6_hasMate 25 = .ok (.goto 14, 3) := by decide +kernel
theorem dX6_hasMate_28 : decode cX6_hasMate 28 = .ok (.aload_n 0, 1) := by decide +kernel
theorem dX6_hasMate_29 : decode cX6_hasMate 29 = .ok (.aload_n 0, 1) := by decide +kernel
theorem dX6_hasMate_30 : decode cX6_hasMate 30 = .ok (.iload_n 2, 1) := by decide +kernel
theorem dX6_hasMate_31 : decode cX6_hasMate 31 = .ok (.iload 4, 2) := by decide +kernel
theorem dX6_hasMate_33 : decode cX6_hasMate 33 = .ok (.invokevirtual 119, 3) := by decide +kernel
theorem dX6_hasMate_36 : decode cX6_hasMate 36 = .ok (.invokevirtual 116, 3) := by decide +kernel
theorem dX6_hasMate_39 : decode cX6_hasMate 39 = .ok (.istore 5, 2) := by decide +kernel
theorem dX6_hasMate_41 : decode cX6_hasMate 41 = .ok (.iload_n 3, 1) := by decide +kernel
theorem dX6_hasMate_42 : decode cX6_hasMate 42 = .ok (.ifCond .ne 16, 3) := by decide +kernel
theorem dX6_hasMate_45 : decode cX6_hasMate 45 = .ok (.iload 5, 2) := by decide +kernel
theorem dX6_hasMate_47 : decode cX6_hasMate 47 = .ok (.bipush (-4), 2) := by decide +kernel
theorem dX6_hasMate_49 : decode cX6_hasMate 49 = .ok (.if_icmp .eq 13, 3) := by decide +kernel
theorem dX6_hasMate_52 : decode cX6_hasMate 52 = .ok (.iload 5, 2) := by decide +kernel
theorem dX6_hasMate_54 : decode cX6_hasMate 54 = .ok (.iload_n 1, 1) := by decide +kernel
theorem dX6_hasMate_55 : decode cX6_hasMate 55 = .ok (.if_icmp .eq 7, 3) := by decide +kernel
theorem dX6_hasMate_58 : decode cX6_hasMate 58 = .ok (.iconst 1, 1) := by decide +kernel
theorem dX6_hasMate_59 : decode cX6_hasMate 59 = .ok (.goto 4, 3) := by decide +kernel
theorem dX6_hasMate_62 : decode cX6_hasMate 62 = .ok (.iconst 0, 1) := by decide +kernel
theorem dX6_hasMate_63 : decode cX6_hasMate 63 = .ok (.istore_n 3, 1) := by decide +kernel
theorem dX6_hasMate_64 : decode cX6_hasMate 64 = .ok (.iinc 4 1, 3) := by decide +kernel
theorem dX6_hasMate_67 : decode cX6_hasMate 67 = .ok (.goto (-62), 3) := by decide +kernel
theorem dX6_hasMate_70 : decode cX6_hasMate 70 = .ok (.iload_n 3, 1) := by decide +kernel
theorem dX6_hasMate_71 : decode cX6_hasMate 71 = .ok (.ireturn, 1) := by decide +kernel
theorem dX6_passes_0 : decode cX6_passes 0 = .ok (.iconst 0, 1) := by decide +kernel
theorem dX6_passes_1 : decode cX6_passes 1 = .ok (.istore_n 2, 1) := by decide +kernel
theorem dX6_passes_2 : decode cX6_passes 2 = .ok (.iload_n 2, 1) := by decide +kernel
theorem dX6_passes_3 : decode cX6_passes 3 = .ok (.aload_n 0, 1) := by decide +kernel
theorem dX6_passes_4 : decode cX6_passes 4 = .ok (.getfield 13, 3) := by decide +kernel
theorem dX6_passes_7 : decode cX6_passes 7 = .ok (.iconst 2, 1) := by decide +kernel
theorem dX6_passes_8 : decode cX6_passes 8 = .ok (.iaload, 1) := by decide +kernel
theorem dX6_passes_9 : decode cX6_passes 9 = .ok (.if_icmp .ge 163, 3) := by decide +kernel
theorem dX6_passes_12 : decode cX6_passes 12 = .ok (.iload_n 2, 1) := by decide +kernel
theorem dX6_passes_13 : decode cX6_passes 13 = .ok (.iload_n 1, 1) := by decide +kernel
theorem dX6_passes_14 : decode cX6_passes 14 = .ok (.if_icmp .ne 8, 3) := by decide +kernel
theorem dX6_passes_17 : decode cX6_passes 17 = .ok (.bipush (-4), 2) := by decide +kernel
theorem dX6_passes_19 : decode cX6_passes 19 = .ok (.goto 8, 3) := by decide +kernel
theorem dX6_passes_22 : decode cX6_passes 22 = .ok (.aload_n 0, 1) := by decide +kernel
theorem dX6_passes_23 : decode cX6_passes 23 = .ok (.iload_n 2, 1) := by decide +kernel
theorem dX6_passes_24 : decode cX6_passes 24 = .ok (.invokevirtual 129, 3) := by decide +kernel
theorem dX6_passes_27 : decode cX6_passes 27 = .ok (.istore_n 3, 1) := by decide +kernel
theorem dX6_passes_28 : decode cX6_passes 28 = .ok (.iload_n 3, 1) := by decide +kernel
theorem dX6_passes_29 : decode cX6_passes 29 = .ok (.bipush (-4), 2) := by decide +kernel
theorem dX6_passes_31 : decode cX6_passes 31 = .ok (.if_icmp .eq 135, 3) := by decide +kernel
theorem dX6_passes_34 : decode cX6_passes 34 = .ok (.aload_n 0, 1) := by decide +kernel
theorem dX6_passes_35 : decode cX6_passes 35 = .ok (.aload_n 0, 1) := by decide +kernel
theorem dX6_passes_36 : decode cX6_passes 36 = .ok (.getfield 22, 3) := by decide +kernel
theorem dX6_passes_39 : decode cX6_passes 39 = .ok (.bipush 11, 2) := by decide +kernel
theorem dX6_passes_41 : decode cX6_passes 41 = .ok (.iconst 4, 1) := by decide +kernel
theorem dX6_passes_42 : decode cX6_passes 42 = .ok (.iload_n 2, 1) := by decide +kernel
theorem dX6_passes_43 : decode cX6_passes 43 = .ok (.imul, 1) := by decide +kernel
theorem dX6_passes_44 : decode cX6_passes 44 = .ok (.iadd, 1) := by decide +kernel
theorem dX6_passes_45 : decode cX6_passes 45 = .ok (.iaload, 1) := by decide +kernel
theorem dX6_passes_46 : decode cX6_passes 46 = .ok (.iload_n 3, 1) := by decide +kernel
theorem dX6_passes_47 : decode cX6_passes 47 = .ok (.invokevirtual 119, 3) := by decide +kernel
theorem dX6_passes_50 : decode cX6_passes 50 = .ok (.istore 4, 2) := by decide +kernel
theorem dX6_passes_52 : decode cX6_passes 52 = .ok (.aload_n 0, 1) := by decide +kernel
theorem dX6_passes_53 : decode cX6_passes 53 = .ok (.getfield 22, 3) := by decide +kernel
theorem dX6_passes_56 : decode cX6_passes 56 = .ok (.bipush 8, 2) := by decide +kernel
theorem dX6_passes_58 : decode cX6_passes 58 = .ok (.iload_n 2, 1) := by decide +kernel
theorem dX6_passes_59 : decode cX6_passes 59 = .ok (.iadd, 1) := by decide +kernel
theorem dX6_passes_60 : decode cX6_passes 60 = .ok (.iaload, 1) := by decide +kernel
theorem dX6_passes_61 : decode cX6_passes 61 = .ok (.iconst 1, 1) := by decide +kernel
theorem dX6_passes_62 : decode cX6_passes 62 = .ok (.isub, 1) := by decide +kernel
theorem dX6_passes_63 : decode cX6_passes 63 = .ok (.istore 5, 2) := by decide +kernel
theorem dX6_passes_65 : decode cX6_passes 65 = .ok (.iload 5, 2) := by decide +kernel
theorem dX6_passes_67 : decode cX6_passes 67 = .ok (.ifCond .le 39, 3) := by decide +kernel
theorem dX6_passes_70 : decode cX6_passes 70 = .ok (.aload_n 0, 1) := by decide +kernel
theorem dX6_passes_71 : decode cX6_passes 71 = .ok (.getfield 22, 3) := by decide +kernel
theorem dX6_passes_74 : decode cX6_passes 74 = .ok (.bipush 11, 2) := by decide +kernel
theorem dX6_passes_76 : decode cX6_passes 76 = .ok (.iconst 4, 1) := by decide +kernel
theorem dX6_passes_77 : decode cX6_passes 77 = .ok (.iload_n 2, 1) := by decide +kernel
theorem dX6_passes_78 : decode cX6_passes 78 = .ok (.imul, 1) := by decide +kernel
theorem dX6_passes_79 : decode cX6_passes 79 = .ok (.iadd, 1) := by decide +kernel
theorem dX6_passes_80 : decode cX6_passes 80 = .ok (.iload 5, 2) := by decide +kernel
theorem dX6_passes_82 : decode cX6_passes 82 = .ok (.iadd, 1) := by decide +kernel
theorem dX6_passes_83 : decode cX6_passes 83 = .ok (.aload_n 0, 1) := by decide +kernel
theorem dX6_passes_84 : decode cX6_passes 84 = .ok (.getfield 22, 3) := by decide +kernel
theorem dX6_passes_87 : decode cX6_passes 87 = .ok (.bipush 11, 2) := by decide +kernel
theorem dX6_passes_89 : decode cX6_passes 89 = .ok (.iconst 4, 1) := by decide +kernel
theorem dX6_passes_90 : decode cX6_passes 90 = .ok (.iload_n 2, 1) := by decide +kernel
theorem dX6_passes_91 : decode cX6_passes 91 = .ok (.imul, 1) := by decide +kernel
theorem dX6_passes_92 : decode cX6_passes 92 = .ok (.iadd, 1) := by decide +kernel
theorem dX6_passes_93 : decode cX6_passes 93 = .ok (.iload 5, 2) := by decide +kernel
theorem dX6_passes_95 : decode cX6_passes 95 = .ok (.iadd, 1) := by decide +kernel
theorem dX6_passes_96 : decode cX6_passes 96 = .ok (.iconst 1, 1) := by decide +kernel
theorem dX6_passes_97 : decode cX6_passes 97 = .ok (.isub, 1) := by decide +kernel
theorem dX6_passes_98 : decode cX6_passes 98 = .ok (.iaload, 1) := by decide +kernel
theorem dX6_passes_99 : decode cX6_passes 99 = .ok (.iastore, 1) := by decide +kernel
theorem dX6_passes_100 : decode cX6_passes 100 = .ok (.iinc 5 (-1), 3) := by decide +kernel
theorem dX6_passes_103 : decode cX6_passes 103 = .ok (.goto (-38), 3) := by decide +kernel
theorem dX6_passes_106 : decode cX6_passes 106 = .ok (.aload_n 0, 1) := by decide +kernel
theorem dX6_passes_107 : decode cX6_passes 107 = .ok (.getfield 22, 3) := by decide +kernel
theorem dX6_passes_110 : decode cX6_passes 110 = .ok (.bipush 11, 2) := by decide +kernel
theorem dX6_passes_112 : decode cX6_passes 112 = .ok (.iconst 4, 1) := by decide +kernel
theorem dX6_passes_113 : decode cX6_passes 113 = .ok (.iload_n 2, 1) := by decide +kernel
theorem dX6_passes_114 : decode cX6_passes 114 = .ok (.imul, 1) := by decide +kernel
theorem dX6_passes_115 : decode cX6_passes 115 = .ok (.iadd, 1) := by decide +kernel
theorem dX6_passes_116 : decode cX6_passes 116 = .ok (.iload 4, 2) := by decide +kernel
theorem dX6_passes_118 : decode cX6_passes 118 = .ok (.iastore, 1) := by decide +kernel
theorem dX6_passes_119 : decode cX6_passes 119 = .ok (.aload_n 0, 1) := by decide +kernel
theorem dX6_passes_120 : decode cX6_passes 120 = .ok (.getfield 22, 3) := by decide +kernel
theorem dX6_passes_123 : decode cX6_passes 123 = .ok (.iconst 5, 1) := by decide +kernel
theorem dX6_passes_124 : decode cX6_passes 124 = .ok (.iload_n 2, 1) := by decide +kernel
theorem dX6_passes_125 : decode cX6_passes 125 = .ok (.iadd, 1) := by decide +kernel
theorem dX6_passes_126 : decode cX6_passes 126 = .ok (.iload_n 3, 1) := by decide +kernel
theorem dX6_passes_127 : decode cX6_passes 127 = .ok (.iastore, 1) := by decide +kernel
theorem dX6_passes_128 : decode cX6_passes 128 = .ok (.aload_n 0, 1) := by decide +kernel
theorem dX6_passes_129 : decode cX6_passes 129 = .ok (.getfield 22, 3) := by decide +kernel
theorem dX6_passes_132 : decode cX6_passes 132 = .ok (.iconst 1, 1) := by decide +kernel
theorem dX6_passes_133 : decode cX6_passes 133 = .ok (.aload_n 0, 1) := by decide +kernel
theorem dX6_passes_134 : decode cX6_passes 134 = .ok (.getfield 13, 3) := by decide +kernel
theorem dX6_passes_137 : decode cX6_passes 137 = .ok (.bipush 39, 2) := by decide +kernel
theorem dX6_passes_139 : decode cX6_passes 139 = .ok (.iload 4, 2) := by decide +kernel
theorem dX6_passes_141 : decode cX6_passes 141 = .ok (.iadd, 1) := by decide +kernel
theorem dX6_passes_142 : decode cX6_passes 142 = .ok (.iaload, 1) := by decide +kernel
theorem dX6_passes_143 : decode cX6_passes 143 = .ok (.iadd, 1) := by decide +kernel
theorem dX6_passes_144 : decode cX6_passes 144 = .ok (.dup2, 1) := by decide +kernel
theorem dX6_passes_145 : decode cX6_passes 145 = .ok (.iaload, 1) := by decide +kernel
theorem dX6_passes_146 : decode cX6_passes 146 = .ok (.aload_n 0, 1) := by decide +kernel
theorem dX6_passes_147 : decode cX6_passes 147 = .ok (.getfield 13, 3) := by decide +kernel
theorem dX6_passes_150 : decode cX6_passes 150 = .ok (.iconst 3, 1) := by decide +kernel
theorem dX6_passes_151 : decode cX6_passes 151 = .ok (.iload 4, 2) := by decide +kernel
theorem dX6_passes_153 : decode cX6_passes 153 = .ok (.iadd, 1) := by decide +kernel
theorem dX6_passes_154 : decode cX6_passes 154 = .ok (.iaload, 1) := by decide +kernel
theorem dX6_passes_155 : decode cX6_passes 155 = .ok (.iconst 1, 1) := by decide +kernel
theorem dX6_passes_156 : decode cX6_passes 156 = .ok (.if_icmp .ne 7, 3) := by decide +kernel
theorem dX6_passes_159 : decode cX6_passes 159 = .ok (.iconst 1, 1) := by decide +kernel
theorem dX6_passes_160 : decode cX6_passes 160 = .ok (.goto 4, 3) := by decide +kernel
theorem dX6_passes_163 : decode cX6_passes 163 = .ok (.iconst 0, 1) := by decide +kernel
theorem dX6_passes_164 : decode cX6_passes 164 = .ok (.iadd, 1) := by decide +kernel
theorem dX6_passes_165 : decode cX6_passes 165 = .ok (.iastore, 1) := by decide +kernel
theorem dX6_passes_166 : decode cX6_passes 166 = .ok (.iinc 2 1, 3) := by decide +kernel
theorem dX6_passes_169 : decode cX6_passes 169 = .ok (.goto (-167), 3) := by decide +kernel
theorem dX6_passes_172 : decode cX6_passes 172 = .ok (.iconst 0, 1) := by decide +kernel
theorem dX6_passes_173 : decode cX6_passes 173 = .ok (.istore_n 2, 1) := by decide +kernel
theorem dX6_passes_174 : decode cX6_passes 174 = .ok (.iload_n 2, 1) := by decide +kernel
theorem dX6_passes_175 : decode cX6_passes 175 = .ok (.aload_n 0, 1) := by decide +kernel
theorem dX6_passes_176 : decode cX6_passes 176 = .ok (.getfield 13, 3) := by decide +kernel
theorem dX6_passes_179 : decode cX6_passes 179 = .ok (.iconst 2, 1) := by decide +kernel
theorem dX6_passes_180 : decode cX6_passes 180 = .ok (.iaload, 1) := by decide +kernel
theorem dX6_passes_181 : decode cX6_passes 181 = .ok (.if_icmp .ge 90, 3) := by decide +kernel
theorem dX6_passes_184 : decode cX6_passes 184 = .ok (.iconst 0, 1) := by decide +kernel
theorem dX6_passes_185 : decode cX6_passes 185 = .ok (.istore_n 3, 1) := by decide +kernel
theorem dX6_passes_186 : decode cX6_passes 186 = .ok (.iload_n 3, 1) := by decide +kernel
theorem dX6_passes_187 : decode cX6_passes 187 = .ok (.aload_n 0, 1) := by decide +kernel
theorem dX6_passes_188 : decode cX6_passes 188 = .ok (.getfield 22, 3) := by decide +kernel
theorem dX6_passes_191 : decode cX6_passes 191 = .ok (.bipush 8, 2) := by decide +kernel
theorem dX6_passes_193 : decode cX6_passes 193 = .ok (.iload_n 2, 1) := by decide +kernel
theorem dX6_passes_194 : decode cX6_passes 194 = .ok (.iadd, 1) := by decide +kernel
theorem dX6_passes_195 : decode cX6_passes 195 = .ok (.iaload, 1) := by decide +kernel
theorem dX6_passes_196 : decode cX6_passes 196 = .ok (.if_icmp .ge 69, 3) := by decide +kernel
theorem dX6_passes_199 : decode cX6_passes 199 = .ok (.aload_n 0, 1) := by decide +kernel
theorem dX6_passes_200 : decode cX6_passes 200 = .ok (.getfield 22, 3) := by decide +kernel
theorem dX6_passes_203 : decode cX6_passes 203 = .ok (.bipush 11, 2) := by decide +kernel
theorem dX6_passes_205 : decode cX6_passes 205 = .ok (.iconst 4, 1) := by decide +kernel
theorem dX6_passes_206 : decode cX6_passes 206 = .ok (.iload_n 2, 1) := by decide +kernel
theorem dX6_passes_207 : decode cX6_passes 207 = .ok (.imul, 1) := by decide +kernel
theorem dX6_passes_208 : decode cX6_passes 208 = .ok (.iadd, 1) := by decide +kernel
theorem dX6_passes_209 : decode cX6_passes 209 = .ok (.iload_n 3, 1) := by decide +kernel
theorem dX6_passes_210 : decode cX6_passes 210 = .ok (.iadd, 1) := by decide +kernel
theorem dX6_passes_211 : decode cX6_passes 211 = .ok (.iaload, 1) := by decide +kernel
theorem dX6_passes_212 : decode cX6_passes 212 = .ok (.istore 4, 2) := by decide +kernel
theorem dX6_passes_214 : decode cX6_passes 214 = .ok (.aload_n 0, 1) := by decide +kernel
theorem dX6_passes_215 : decode cX6_passes 215 = .ok (.getfield 22, 3) := by decide +kernel
theorem dX6_passes_218 : decode cX6_passes 218 = .ok (.iconst 1, 1) := by decide +kernel
theorem dX6_passes_219 : decode cX6_passes 219 = .ok (.aload_n 0, 1) := by decide +kernel
theorem dX6_passes_220 : decode cX6_passes 220 = .ok (.getfield 13, 3) := by decide +kernel
theorem dX6_passes_223 : decode cX6_passes 223 = .ok (.bipush 39, 2) := by decide +kernel
theorem dX6_passes_225 : decode cX6_passes 225 = .ok (.iload 4, 2) := by decide +kernel
theorem dX6_passes_227 : decode cX6_passes 227 = .ok (.iadd, 1) := by decide +kernel
theorem dX6_passes_228 : decode cX6_passes 228 = .ok (.iaload, 1) := by decide +kernel
theorem dX6_passes_229 : decode cX6_passes 229 = .ok (.iadd, 1) := by decide +kernel
theorem dX6_passes_230 : decode cX6_passes 230 = .ok (.dup2, 1) := by decide +kernel
theorem dX6_passes_231 : decode cX6_passes 231 = .ok (.iaload, 1) := by decide +kernel
theorem dX6_passes_232 : decode cX6_passes 232 = .ok (.aload_n 0, 1) := by decide +kernel
theorem dX6_passes_233 : decode cX6_passes 233 = .ok (.getfield 13, 3) := by decide +kernel
theorem dX6_passes_236 : decode cX6_passes 236 = .ok (.bipush 78, 2) := by decide +kernel
theorem dX6_passes_238 : decode cX6_passes 238 = .ok (.iload_n 2, 1) := by decide +kernel
theorem dX6_passes_239 : decode cX6_passes 239 = .ok (.iadd, 1) := by decide +kernel
theorem dX6_passes_240 : decode cX6_passes 240 = .ok (.iaload, 1) := by decide +kernel
theorem dX6_passes_241 : decode cX6_passes 241 = .ok (.aload_n 0, 1) := by decide +kernel
theorem dX6_passes_242 : decode cX6_passes 242 = .ok (.iload_n 2, 1) := by decide +kernel
theorem dX6_passes_243 : decode cX6_passes 243 = .ok (.iload 4, 2) := by decide +kernel
theorem dX6_passes_245 : decode cX6_passes 245 = .ok (.invokevirtual 132, 3) := by decide +kernel
theorem dX6_passes_248 : decode cX6_passes 248 = .ok (.ifCond .eq 7, 3) := by decide +kernel
theorem dX6_passes_251 : decode cX6_passes 251 = .ok (.iconst 1, 1) := by decide +kernel
theorem dX6_passes_252 : decode cX6_passes 252 = .ok (.goto 4, 3) := by decide +kernel
theorem dX6_passes_255 : decode cX6_passes 255 = .ok (.iconst 0, 1) := by decide +kernel
theorem dX6_passes_256 : decode cX6_passes 256 = .ok (.iadd, 1) := by decide +kernel
theorem dX6_passes_257 : decode cX6_passes 257 = .ok (.iadd, 1) := by decide +kernel
theorem dX6_passes_258 : decode cX6_passes 258 = .ok (.iastore, 1) := by decide +kernel
theorem dX6_passes_259 : decode cX6_passes 259 = .ok (.iinc 3 1, 3) := by decide +kernel
theorem dX6_passes_262 : decode cX6_passes 262 = .ok (.goto (-76), 3) := by decide +kernel
theorem dX6_passes_265 : decode cX6_passes 265 = .ok (.iinc 2 1, 3) := by decide +kernel
theorem dX6_passes_268 : decode cX6_passes 268 = .ok (.goto (-94), 3) := by decide +kernel
theorem dX6_passes_271 : decode cX6_passes 271 = .ok (.aload_n 0, 1) := by decide +kernel
theorem dX6_passes_272 : decode cX6_passes 272 = .ok (.getfield 22, 3) := by decide +kernel
theorem dX6_passes_275 : decode cX6_passes 275 = .ok (.iconst 0, 1) := by decide +kernel
theorem dX6_passes_276 : decode cX6_passes 276 = .ok (.dup2, 1) := by decide +kernel
theorem dX6_passes_277 : decode cX6_passes 277 = .ok (.iaload, 1) := by decide +kernel
theorem dX6_passes_278 : decode cX6_passes 278 = .ok (.iconst 1, 1) := by decide +kernel
theorem dX6_passes_279 : decode cX6_passes 279 = .ok (.iadd, 1) := by decide +kernel
theorem dX6_passes_280 : decode cX6_passes 280 = .ok (.iastore, 1) := by decide +kernel
theorem dX6_passes_281 : decode cX6_passes 281 = .ok (.return_, 1) := by decide +kernel
theorem dX6_keeps_0 : decode cX6_keeps 0 = .ok (.aload_n 0, 1) := by decide +kernel
theorem dX6_keeps_1 : decode cX6_keeps 1 = .ok (.getfield 101, 3) := by decide +kernel
theorem dX6_keeps_4 : decode cX6_keeps 4 = .ok (.bipush 8, 2) := by decide +kernel
theorem dX6_keeps_6 : decode cX6_keeps 6 = .ok (.if_icmp .ne 43, 3) := by decide +kernel
theorem dX6_keeps_9 : decode cX6_keeps 9 = .ok (.iconst 0, 1) := by decide +kernel
theorem dX6_keeps_10 : decode cX6_keeps 10 = .ok (.istore_n 1, 1) := by decide +kernel
theorem dX6_keeps_11 : decode cX6_keeps 11 = .ok (.iload_n 1, 1) := by decide +kernel
theorem dX6_keeps_12 : decode cX6_keeps 12 = .ok (.sipush 413, 3) := by decide +kernel
theorem dX6_keeps_15 : decode cX6_keeps 15 = .ok (.if_icmp .ge 24, 3) := by decide +kernel
theorem dX6_keeps_18 : decode cX6_keeps 18 = .ok (.aload_n 0, 1) := by decide +kernel
theorem dX6_keeps_19 : decode cX6_keeps 19 = .ok (.getfield 25, 3) := by decide +kernel
theorem dX6_keeps_22 : decode cX6_keeps 22 = .ok (.iload_n 1, 1) := by decide +kernel
theorem dX6_keeps_23 : decode cX6_keeps 23 = .ok (.aload_n 0, 1) := by decide +kernel
theorem dX6_keeps_24 : decode cX6_keeps 24 = .ok (.getfield 25, 3) := by decide +kernel
theorem dX6_keeps_27 : decode cX6_keeps 27 = .ok (.iload_n 1, 1) := by decide +kernel
theorem dX6_keeps_28 : decode cX6_keeps 28 = .ok (.bipush 59, 2) := by decide +kernel
theorem dX6_keeps_30 : decode cX6_keeps 30 = .ok (.iadd, 1) := by decide +kernel
theorem dX6_keeps_31 : decode cX6_keeps 31 = .ok (.iaload, 1) := by decide +kernel
theorem dX6_keeps_32 : decode cX6_keeps 32 = .ok (.iastore, 1) := by decide +kernel
theorem dX6_keeps_33 : decode cX6_keeps 33 = .ok (.iinc 1 1, 3) := by decide +kernel
theorem dX6_keeps_36 : decode cX6_keeps 36 = .ok (.goto (-25), 3) := by decide +kernel
theorem dX6_keeps_39 : decode cX6_keeps 39 = .ok (.aload_n 0, 1) := by decide +kernel
theorem dX6_keeps_40 : decode cX6_keeps 40 = .ok (.dup, 1) := by decide +kernel
theorem dX6_keeps_41 : decode cX6_keeps 41 = .ok (.getfield 101, 3) := by decide +kernel
theorem dX6_keeps_44 : decode cX6_keeps 44 = .ok (.iconst 1, 1) := by decide +kernel
theorem dX6_keeps_45 : decode cX6_keeps 45 = .ok (.isub, 1) := by decide +kernel
theorem dX6_keeps_46 : decode cX6_keeps 46 = .ok (.putfield 101, 3) := by decide +kernel
theorem dX6_keeps_49 : decode cX6_keeps 49 = .ok (.iconst 0, 1) := by decide +kernel
theorem dX6_keeps_50 : decode cX6_keeps 50 = .ok (.istore_n 1, 1) := by decide +kernel
theorem dX6_keeps_51 : decode cX6_keeps 51 = .ok (.iload_n 1, 1) := by decide +kernel
theorem dX6_keeps_52 : decode cX6_keeps 52 = .ok (.bipush 59, 2) := by decide +kernel
theorem dX6_keeps_54 : decode cX6_keeps 54 = .ok (.if_icmp .ge 29, 3) := by decide +kernel
theorem dX6_keeps_57 : decode cX6_keeps 57 = .ok (.aload_n 0, 1) := by decide +kernel
theorem dX6_keeps_58 : decode cX6_keeps 58 = .ok (.getfield 25, 3) := by decide +kernel
theorem dX6_keeps_61 : decode cX6_keeps 61 = .ok (.bipush 59, 2) := by decide +kernel
theorem dX6_keeps_63 : decode cX6_keeps 63 = .ok (.aload_n 0, 1) := by decide +kernel
theorem dX6_keeps_64 : decode cX6_keeps 64 = .ok (.getfield 101, 3) := by decide +kernel
theorem dX6_keeps_67 : decode cX6_keeps 67 = .ok (.imul, 1) := by decide +kernel
theorem dX6_keeps_68 : decode cX6_keeps 68 = .ok (.iload_n 1, 1) := by decide +kernel
theorem dX6_keeps_69 : decode cX6_keeps 69 = .ok (.iadd, 1) := by decide +kernel
theorem dX6_keeps_70 : decode cX6_keeps 70 = .ok (.aload_n 0, 1) := by decide +kernel
theorem dX6_keeps_71 : decode cX6_keeps 71 = .ok (.getfield 22, 3) := by decide +kernel
theorem dX6_keeps_74 : decode cX6_keeps 74 = .ok (.iload_n 1, 1) := by decide +kernel
theorem dX6_keeps_75 : decode cX6_keeps 75 = .ok (.iaload, 1) := by decide +kernel
theorem dX6_keeps_76 : decode cX6_keeps 76 = .ok (.iastore, 1) := by decide +kernel
theorem dX6_keeps_77 : decode cX6_keeps 77 = .ok (.iinc 1 1, 3) := by decide +kernel
theorem dX6_keeps_80 : decode cX6_keeps 80 = .ok (.goto (-29), 3) := by decide +kernel
theorem dX6_keeps_83 : decode cX6_keeps 83 = .ok (.aload_n 0, 1) := by decide +kernel
theorem dX6_keeps_84 : decode cX6_keeps 84 = .ok (.dup, 1) := by decide +kernel
theorem dX6_keeps_85 : decode cX6_keeps 85 = .ok (.getfield 101, 3) := by decide +kernel
theorem dX6_keeps_88 : decode cX6_keeps 88 = .ok (.iconst 1, 1) := by decide +kernel
theorem dX6_keeps_89 : decode cX6_keeps 89 = .ok (.iadd, 1) := by decide +kernel
theorem dX6_keeps_90 : decode cX6_keeps 90 = .ok (.putfield 101, 3) := by decide +kernel
theorem dX6_keeps_93 : decode cX6_keeps 93 = .ok (.return_, 1) := by decide +kernel
theorem dX6_pass_0 : decode cX6_pass 0 = .ok (.iload_n 1, 1) := by decide +kernel
theorem dX6_pass_1 : decode cX6_pass 1 = .ok (.iconst 1, 1) := by decide +kernel
theorem dX6_pass_2 : decode cX6_pass 2 = .ok (.bipush 20, 2) := by decide +kernel
theorem dX6_pass_4 : decode cX6_pass 4 = .ok (.invokestatic 54, 3) := by decide +kernel
theorem dX6_pass_7 : decode cX6_pass 7 = .ok (.ifCond .ne 5, 3) := by decide +kernel
theorem dX6_pass_10 : decode cX6_pass 10 = .ok (.iconst (-1), 1) := by decide +kernel
theorem dX6_pass_11 : decode cX6_pass 11 = .ok (.ireturn, 1) := by decide +kernel
theorem dX6_pass_12 : decode cX6_pass 12 = .ok (.aload_n 0, 1) := by decide +kernel
theorem dX6_pass_13 : decode cX6_pass 13 = .ok (.invokevirtual 135, 3) := by decide +kernel
theorem dX6_pass_16 : decode cX6_pass 16 = .ok (.iconst 0, 1) := by decide +kernel
theorem dX6_pass_17 : decode cX6_pass 17 = .ok (.istore_n 2, 1) := by decide +kernel
theorem dX6_pass_18 : decode cX6_pass 18 = .ok (.iload_n 2, 1) := by decide +kernel
theorem dX6_pass_19 : decode cX6_pass 19 = .ok (.iload_n 1, 1) := by decide +kernel
theorem dX6_pass_20 : decode cX6_pass 20 = .ok (.if_icmp .ge 14, 3) := by decide +kernel
theorem dX6_pass_23 : decode cX6_pass 23 = .ok (.aload_n 0, 1) := by decide +kernel
theorem dX6_pass_24 : decode cX6_pass 24 = .ok (.iconst (-1), 1) := by decide +kernel
theorem dX6_pass_25 : decode cX6_pass 25 = .ok (.invokevirtual 138, 3) := by decide +kernel
theorem dX6_pass_28 : decode cX6_pass 28 = .ok (.iinc 2 1, 3) := by decide +kernel
theorem dX6_pass_31 : decode cX6_pass 31 = .ok (.goto (-13), 3) := by decide +kernel
theorem dX6_pass_34 : decode cX6_pass 34 = .ok (.aload_n 0, 1) := by decide +kernel
theorem dX6_pass_35 : decode cX6_pass 35 = .ok (.getfield 22, 3) := by decide +kernel
theorem dX6_pass_38 : decode cX6_pass 38 = .ok (.iconst 0, 1) := by decide +kernel
theorem dX6_pass_39 : decode cX6_pass 39 = .ok (.iaload, 1) := by decide +kernel
theorem dX6_pass_40 : decode cX6_pass 40 = .ok (.ireturn, 1) := by decide +kernel
theorem dX6_countOf_0 : decode cX6_countOf 0 = .ok (.iconst 0, 1) := by decide +kernel
theorem dX6_countOf_1 : decode cX6_countOf 1 = .ok (.istore_n 2, 1) := by decide +kernel
theorem dX6_countOf_2 : decode cX6_countOf 2 = .ok (.iconst 0, 1) := by decide +kernel
theorem dX6_countOf_3 : decode cX6_countOf 3 = .ok (.istore_n 3, 1) := by decide +kernel
theorem dX6_countOf_4 : decode cX6_countOf 4 = .ok (.iload_n 3, 1) := by decide +kernel
theorem dX6_countOf_5 : decode cX6_countOf 5 = .ok (.aload_n 0, 1) := by decide +kernel
theorem dX6_countOf_6 : decode cX6_countOf 6 = .ok (.getfield 13, 3) := by decide +kernel
theorem dX6_countOf_9 : decode cX6_countOf 9 = .ok (.iconst 0, 1) := by decide +kernel
theorem dX6_countOf_10 : decode cX6_countOf 10 = .ok (.iaload, 1) := by decide +kernel
theorem dX6_countOf_11 : decode cX6_countOf 11 = .ok (.if_icmp .ge 26, 3) := by decide +kernel
theorem dX6_countOf_14 : decode cX6_countOf 14 = .ok (.iload_n 2, 1) := by decide +kernel
theorem dX6_countOf_15 : decode cX6_countOf 15 = .ok (.aload_n 0, 1) := by decide +kernel
theorem dX6_countOf_16 : decode cX6_countOf 16 = .ok (.iload_n 3, 1) := by decide +kernel
theorem dX6_countOf_17 : decode cX6_countOf 17 = .ok (.invokevirtual 113, 3) := by decide +kernel
theorem dX6_countOf_20 : decode cX6_countOf 20 = .ok (.iload_n 1, 1) := by decide +kernel
theorem dX6_countOf_21 : decode cX6_countOf 21 = .ok (.if_icmp .ne 7, 3) := by decide +kernel
theorem dX6_countOf_24 : decode cX6_countOf 24 = .ok (.iconst 1, 1) := by decide +kernel
theorem dX6_countOf_25 : decode cX6_countOf 25 = .ok (.goto 4, 3) := by decide +kernel
theorem dX6_countOf_28 : decode cX6_countOf 28 = .ok (.iconst 0, 1) := by decide +kernel
theorem dX6_countOf_29 : decode cX6_countOf 29 = .ok (.iadd, 1) := by decide +kernel
theorem dX6_countOf_30 : decode cX6_countOf 30 = .ok (.istore_n 2, 1) := by decide +kernel
theorem dX6_countOf_31 : decode cX6_countOf 31 = .ok (.iinc 3 1, 3) := by decide +kernel
theorem dX6_countOf_34 : decode cX6_countOf 34 = .ok (.goto (-30), 3) := by decide +kernel
theorem dX6_countOf_37 : decode cX6_countOf 37 = .ok (.iload_n 2, 1) := by decide +kernel
theorem dX6_countOf_38 : decode cX6_countOf 38 = .ok (.ireturn, 1) := by decide +kernel
theorem dX6_mayDig_0 : decode cX6_mayDig 0 = .ok (.aload_n 0, 1) := by decide +kernel
theorem dX6_mayDig_1 : decode cX6_mayDig 1 = .ok (.getfield 13, 3) := by decide +kernel
theorem dX6_mayDig_4 : decode cX6_mayDig 4 = .ok (.iconst 3, 1) := by decide +kernel
theorem dX6_mayDig_5 : decode cX6_mayDig 5 = .ok (.iload_n 1, 1) := by decide +kernel
theorem dX6_mayDig_6 : decode cX6_mayDig 6 = .ok (.iadd, 1) := by decide +kernel
theorem dX6_mayDig_7 : decode cX6_mayDig 7 = .ok (.iaload, 1) := by decide +kernel
theorem dX6_mayDig_8 : decode cX6_mayDig 8 = .ok (.ifCond .ne 25, 3) := by decide +kernel
theorem dX6_mayDig_11 : decode cX6_mayDig 11 = .ok (.aload_n 0, 1) := by decide +kernel
theorem dX6_mayDig_12 : decode cX6_mayDig 12 = .ok (.iload_n 1, 1) := by decide +kernel
theorem dX6_mayDig_13 : decode cX6_mayDig 13 = .ok (.invokevirtual 113, 3) := by decide +kernel
theorem dX6_mayDig_16 : decode cX6_mayDig 16 = .ok (.ifCond .ne 17, 3) := by decide +kernel
theorem dX6_mayDig_19 : decode cX6_mayDig 19 = .ok (.aload_n 0, 1) := by decide +kernel
theorem dX6_mayDig_20 : decode cX6_mayDig 20 = .ok (.iload_n 1, 1) := by decide +kernel
theorem dX6_mayDig_21 : decode cX6_mayDig 21 = .ok (.invokevirtual 116, 3) := by decide +kernel
theorem dX6_mayDig_24 : decode cX6_mayDig 24 = .ok (.bipush (-4), 2) := by decide +kernel
theorem dX6_mayDig_26 : decode cX6_mayDig 26 = .ok (.if_icmp .ne 7, 3) := by decide +kernel
theorem dX6_mayDig_29 : decode cX6_mayDig 29 = .ok (.iconst 1, 1) := by decide +kernel
theorem dX6_mayDig_30 : decode cX6_mayDig 30 = .ok (.goto 4, 3) := by decide +kernel
theorem dX6_mayDig_33 : decode cX6_mayDig 33 = .ok (.iconst 0, 1) := by decide +kernel
theorem dX6_mayDig_34 : decode cX6_mayDig 34 = .ok (.ireturn, 1) := by decide +kernel
theorem dX6_dig_0 : decode cX6_dig 0 = .ok (.aload_n 0, 1) := by decide +kernel
theorem dX6_dig_1 : decode cX6_dig 1 = .ok (.iload_n 1, 1) := by decide +kernel
theorem dX6_dig_2 : decode cX6_dig 2 = .ok (.invokevirtual 110, 3) := by decide +kernel
theorem dX6_dig_5 : decode cX6_dig 5 = .ok (.ifCond .ne 5, 3) := by decide +kernel
theorem dX6_dig_8 : decode cX6_dig 8 = .ok (.iconst (-1), 1) := by decide +kernel
theorem dX6_dig_9 : decode cX6_dig 9 = .ok (.ireturn, 1) := by decide +kernel
theorem dX6_dig_10 : decode cX6_dig 10 = .ok (.aload_n 0, 1) := by decide +kernel
theorem dX6_dig_11 : decode cX6_dig 11 = .ok (.iload_n 1, 1) := by decide +kernel
theorem dX6_dig_12 : decode cX6_dig 12 = .ok (.invokevirtual 141, 3) := by decide +kernel
theorem dX6_dig_15 : decode cX6_dig 15 = .ok (.ifCond .ne 6, 3) := by decide +kernel
theorem dX6_dig_18 : decode cX6_dig 18 = .ok (.bipush (-2), 2) := by decide +kernel
theorem dX6_dig_20 : decode cX6_dig 20 = .ok (.ireturn, 1) := by decide +kernel
theorem dX6_dig_21 : decode cX6_dig 21 = .ok (.aload_n 0, 1) := by decide +kernel
theorem dX6_dig_22 : decode cX6_dig 22 = .ok (.invokevirtual 135, 3) := by decide +kernel
theorem dX6_dig_25 : decode cX6_dig 25 = .ok (.aload_n 0, 1) := by decide +kernel
theorem dX6_dig_26 : decode cX6_dig 26 = .ok (.getfield 22, 3) := by decide +kernel
theorem dX6_dig_29 : decode cX6_dig 29 = .ok (.bipush 23, 2) := by decide +kernel
theorem dX6_dig_31 : decode cX6_dig 31 = .ok (.iload_n 1, 1) := by decide +kernel
theorem dX6_dig_32 : decode cX6_dig 32 = .ok (.iadd, 1) := by decide +kernel
theorem dX6_dig_33 : decode cX6_dig 33 = .ok (.iconst 1, 1) := by decide +kernel
theorem dX6_dig_34 : decode cX6_dig 34 = .ok (.iastore, 1) := by decide +kernel
theorem dX6_dig_35 : decode cX6_dig 35 = .ok (.aload_n 0, 1) := by decide +kernel
theorem dX6_dig_36 : decode cX6_dig 36 = .ok (.iconst 1, 1) := by decide +kernel
theorem dX6_dig_37 : decode cX6_dig 37 = .ok (.invokevirtual 144, 3) := by decide +kernel
theorem dX6_dig_40 : decode cX6_dig 40 = .ok (.ireturn, 1) := by decide +kernel
theorem dX6_fill_0 : decode cX6_fill 0 = .ok (.aload_n 0, 1) := by decide +kernel
theorem dX6_fill_1 : decode cX6_fill 1 = .ok (.iload_n 1, 1) := by decide +kernel
theorem dX6_fill_2 : decode cX6_fill 2 = .ok (.invokevirtual 110, 3) := by decide +kernel
theorem dX6_fill_5 : decode cX6_fill 5 = .ok (.ifCond .ne 5, 3) := by decide +kernel
theorem dX6_fill_8 : decode cX6_fill 8 = .ok (.iconst (-1), 1) := by decide +kernel
theorem dX6_fill_9 : decode cX6_fill 9 = .ok (.ireturn, 1) := by decide +kernel
theorem dX6_fill_10 : decode cX6_fill 10 = .ok (.aload_n 0, 1) := by decide +kernel
theorem dX6_fill_11 : decode cX6_fill 11 = .ok (.iload_n 1, 1) := by decide +kernel
theorem dX6_fill_12 : decode cX6_fill 12 = .ok (.invokevirtual 113, 3) := by decide +kernel
theorem dX6_fill_15 : decode cX6_fill 15 = .ok (.iconst 1, 1) := by decide +kernel
theorem dX6_fill_16 : decode cX6_fill 16 = .ok (.if_icmp .eq 6, 3) := by decide +kernel
theorem dX6_fill_19 : decode cX6_fill 19 = .ok (.bipush (-2), 2) := by decide +kernel
theorem dX6_fill_21 : decode cX6_fill 21 = .ok (.ireturn, 1) := by decide +kernel
theorem dX6_fill_22 : decode cX6_fill 22 = .ok (.aload_n 0, 1) := by decide +kernel
theorem dX6_fill_23 : decode cX6_fill 23 = .ok (.invokevirtual 135, 3) := by decide +kernel
theorem dX6_fill_26 : decode cX6_fill 26 = .ok (.aload_n 0, 1) := by decide +kernel
theorem dX6_fill_27 : decode cX6_fill 27 = .ok (.getfield 22, 3) := by decide +kernel
theorem dX6_fill_30 : decode cX6_fill 30 = .ok (.bipush 23, 2) := by decide +kernel
theorem dX6_fill_32 : decode cX6_fill 32 = .ok (.iload_n 1, 1) := by decide +kernel
theorem dX6_fill_33 : decode cX6_fill 33 = .ok (.iadd, 1) := by decide +kernel
theorem dX6_fill_34 : decode cX6_fill 34 = .ok (.iconst 0, 1) := by decide +kernel
theorem dX6_fill_35 : decode cX6_fill 35 = .ok (.iastore, 1) := by decide +kernel
theorem dX6_fill_36 : decode cX6_fill 36 = .ok (.aload_n 0, 1) := by decide +kernel
theorem dX6_fill_37 : decode cX6_fill 37 = .ok (.iconst 1, 1) := by decide +kernel
theorem dX6_fill_38 : decode cX6_fill 38 = .ok (.invokevirtual 144, 3) := by decide +kernel
theorem dX6_fill_41 : decode cX6_fill 41 = .ok (.ireturn, 1) := by decide +kernel
theorem dX6_leaves_0 : decode cX6_leaves 0 = .ok (.aload_n 0, 1) := by decide +kernel
theorem dX6_leaves_1 : decode cX6_leaves 1 = .ok (.getfield 22, 3) := by decide +kernel
theorem dX6_leaves_4 : decode cX6_leaves 4 = .ok (.bipush 8, 2) := by decide +kernel
theorem dX6_leaves_6 : decode cX6_leaves 6 = .ok (.iload_n 1, 1) := by decide +kernel
theorem dX6_leaves_7 : decode cX6_leaves 7 = .ok (.iadd, 1) := by decide +kernel
theorem dX6_leaves_8 : decode cX6_leaves 8 = .ok (.dup2, 1) := by decide +kernel
theorem dX6_leaves_9 : decode cX6_leaves 9 = .ok (.iaload, 1) := by decide +kernel
theorem dX6_leaves_10 : decode cX6_leaves 10 = .ok (.iconst 1, 1) := by decide +kernel
theorem dX6_leaves_11 : decode cX6_leaves 11 = .ok (.isub, 1) := by decide +kernel
theorem dX6_leaves_12 : decode cX6_leaves 12 = .ok (.iastore, 1) := by decide +kernel
theorem dX6_leaves_13 : decode cX6_leaves 13 = .ok (.aload_n 0, 1) := by decide +kernel
theorem dX6_leaves_14 : decode cX6_leaves 14 = .ok (.getfield 22, 3) := by decide +kernel
theorem dX6_leaves_17 : decode cX6_leaves 17 = .ok (.bipush 11, 2) := by decide +kernel
theorem dX6_leaves_19 : decode cX6_leaves 19 = .ok (.iconst 4, 1) := by decide +kernel
theorem dX6_leaves_20 : decode cX6_leaves 20 = .ok (.iload_n 1, 1) := by decide +kernel
theorem dX6_leaves_21 : decode cX6_leaves 21 = .ok (.imul, 1) := by decide +kernel
theorem dX6_leaves_22 : decode cX6_leaves 22 = .ok (.iadd, 1) := by decide +kernel
theorem dX6_leaves_23 : decode cX6_leaves 23 = .ok (.aload_n 0, 1) := by decide +kernel
theorem dX6_leaves_24 : decode cX6_leaves 24 = .ok (.getfield 22, 3) := by decide +kernel
theorem dX6_leaves_27 : decode cX6_leaves 27 = .ok (.bipush 8, 2) := by decide +kernel
theorem dX6_leaves_29 : decode cX6_leaves 29 = .ok (.iload_n 1, 1) := by decide +kernel
theorem dX6_leaves_30 : decode cX6_leaves 30 = .ok (.iadd, 1) := by decide +kernel
theorem dX6_leaves_31 : decode cX6_leaves 31 = .ok (.iaload, 1) := by decide +kernel
theorem dX6_leaves_32 : decode cX6_leaves 32 = .ok (.iadd, 1) := by decide +kernel
theorem dX6_leaves_33 : decode cX6_leaves 33 = .ok (.iaload, 1) := by decide +kernel
theorem dX6_leaves_34 : decode cX6_leaves 34 = .ok (.istore_n 2, 1) := by decide +kernel
theorem dX6_leaves_35 : decode cX6_leaves 35 = .ok (.aload_n 0, 1) := by decide +kernel
theorem dX6_leaves_36 : decode cX6_leaves 36 = .ok (.getfield 22, 3) := by decide +kernel
theorem dX6_leaves_39 : decode cX6_leaves 39 = .ok (.bipush 23, 2) := by decide +kernel
theorem dX6_leaves_41 : decode cX6_leaves 41 = .ok (.iload_n 2, 1) := by decide +kernel
theorem dX6_leaves_42 : decode cX6_leaves 42 = .ok (.iadd, 1) := by decide +kernel
theorem dX6_leaves_43 : decode cX6_leaves 43 = .ok (.iconst 2, 1) := by decide +kernel
theorem dX6_leaves_44 : decode cX6_leaves 44 = .ok (.iastore, 1) := by decide +kernel
theorem dX6_leaves_45 : decode cX6_leaves 45 = .ok (.iload_n 2, 1) := by decide +kernel
theorem dX6_leaves_46 : decode cX6_leaves 46 = .ok (.ireturn, 1) := by decide +kernel
theorem dX6_leave_0 : decode cX6_leave 0 = .ok (.aload_n 0, 1) := by decide +kernel
theorem dX6_leave_1 : decode cX6_leave 1 = .ok (.iload_n 1, 1) := by decide +kernel
theorem dX6_leave_2 : decode cX6_leave 2 = .ok (.invokevirtual 126, 3) := by decide +kernel
theorem dX6_leave_5 : decode cX6_leave 5 = .ok (.ifCond .ne 5, 3) := by decide +kernel
theorem dX6_leave_8 : decode cX6_leave 8 = .ok (.iconst (-1), 1) := by decide +kernel
theorem dX6_leave_9 : decode cX6_leave 9 = .ok (.ireturn, 1) := by decide +kernel
theorem dX6_leave_10 : decode cX6_leave 10 = .ok (.aload_n 0, 1) := by decide +kernel
theorem dX6_leave_11 : decode cX6_leave 11 = .ok (.getfield 22, 3) := by decide +kernel
theorem dX6_leave_14 : decode cX6_leave 14 = .ok (.bipush 8, 2) := by decide +kernel
theorem dX6_leave_16 : decode cX6_leave 16 = .ok (.iload_n 1, 1) := by decide +kernel
theorem dX6_leave_17 : decode cX6_leave 17 = .ok (.iadd, 1) := by decide +kernel
theorem dX6_leave_18 : decode cX6_leave 18 = .ok (.iaload, 1) := by decide +kernel
theorem dX6_leave_19 : decode cX6_leave 19 = .ok (.iconst 1, 1) := by decide +kernel
theorem dX6_leave_20 : decode cX6_leave 20 = .ok (.if_icmp .ne 6, 3) := by decide +kernel
theorem dX6_leave_23 : decode cX6_leave 23 = .ok (.bipush (-2), 2) := by decide +kernel
theorem dX6_leave_25 : decode cX6_leave 25 = .ok (.ireturn, 1) := by decide +kernel
theorem dX6_leave_26 : decode cX6_leave 26 = .ok (.aload_n 0, 1) := by decide +kernel
theorem dX6_leave_27 : decode cX6_leave 27 = .ok (.invokevirtual 135, 3) := by decide +kernel
theorem dX6_leave_30 : decode cX6_leave 30 = .ok (.aload_n 0, 1) := by decide +kernel
theorem dX6_leave_31 : decode cX6_leave 31 = .ok (.iload_n 1, 1) := by decide +kernel
theorem dX6_leave_32 : decode cX6_leave 32 = .ok (.invokevirtual 147, 3) := by decide +kernel
theorem dX6_leave_35 : decode cX6_leave 35 = .ok (.ireturn, 1) := by decide +kernel
theorem dX6_undo_0 : decode cX6_undo 0 = .ok (.aload_n 0, 1) := by decide +kernel
theorem dX6_undo_1 : decode cX6_undo 1 = .ok (.getfield 101, 3) := by decide +kernel
theorem dX6_undo_4 : decode cX6_undo 4 = .ok (.ifCond .ne 6, 3) := by decide +kernel
theorem dX6_undo_7 : decode cX6_undo 7 = .ok (.bipush (-2), 2) := by decide +kernel
theorem dX6_undo_9 : decode cX6_undo 9 = .ok (.ireturn, 1) := by decide +kernel
theorem dX6_undo_10 : decode cX6_undo 10 = .ok (.aload_n 0, 1) := by decide +kernel
theorem dX6_undo_11 : decode cX6_undo 11 = .ok (.dup, 1) := by decide +kernel
theorem dX6_undo_12 : decode cX6_undo 12 = .ok (.getfield 101, 3) := by decide +kernel
theorem dX6_undo_15 : decode cX6_undo 15 = .ok (.iconst 1, 1) := by decide +kernel
theorem dX6_undo_16 : decode cX6_undo 16 = .ok (.isub, 1) := by decide +kernel
theorem dX6_undo_17 : decode cX6_undo 17 = .ok (.putfield 101, 3) := by decide +kernel
theorem dX6_undo_20 : decode cX6_undo 20 = .ok (.iconst 0, 1) := by decide +kernel
theorem dX6_undo_21 : decode cX6_undo 21 = .ok (.istore_n 1, 1) := by decide +kernel
theorem dX6_undo_22 : decode cX6_undo 22 = .ok (.iload_n 1, 1) := by decide +kernel
theorem dX6_undo_23 : decode cX6_undo 23 = .ok (.bipush 59, 2) := by decide +kernel
theorem dX6_undo_25 : decode cX6_undo 25 = .ok (.if_icmp .ge 29, 3) := by decide +kernel
theorem dX6_undo_28 : decode cX6_undo 28 = .ok (.aload_n 0, 1) := by decide +kernel
theorem dX6_undo_29 : decode cX6_undo 29 = .ok (.getfield 22, 3) := by decide +kernel
theorem dX6_undo_32 : decode cX6_undo 32 = .ok (.iload_n 1, 1) := by decide +kernel
theorem dX6_undo_33 : decode cX6_undo 33 = .ok (.aload_n 0, 1) := by decide +kernel
theorem dX6_undo_34 : decode cX6_undo 34 = .ok (.getfield 25, 3) := by decide +kernel
theorem dX6_undo_37 : decode cX6_undo 37 = .ok (.bipush 59, 2) := by decide +kernel
theorem dX6_undo_39 : decode cX6_undo 39 = .ok (.aload_n 0, 1) := by decide +kernel
theorem dX6_undo_40 : decode cX6_undo 40 = .ok (.getfield 101, 3) := by decide +kernel
theorem dX6_undo_43 : decode cX6_undo 43 = .ok (.imul, 1) := by decide +kernel
theorem dX6_undo_44 : decode cX6_undo 44 = .ok (.iload_n 1, 1) := by decide +kernel
theorem dX6_undo_45 : decode cX6_undo 45 = .ok (.iadd, 1) := by decide +kernel
theorem dX6_undo_46 : decode cX6_undo 46 = .ok (.iaload, 1) := by decide +kernel
theorem dX6_undo_47 : decode cX6_undo 47 = .ok (.iastore, 1) := by decide +kernel
theorem dX6_undo_48 : decode cX6_undo 48 = .ok (.iinc 1 1, 3) := by decide +kernel
theorem dX6_undo_51 : decode cX6_undo 51 = .ok (.goto (-29), 3) := by decide +kernel
theorem dX6_undo_54 : decode cX6_undo 54 = .ok (.aload_n 0, 1) := by decide +kernel
theorem dX6_undo_55 : decode cX6_undo 55 = .ok (.getfield 101, 3) := by decide +kernel
theorem dX6_undo_58 : decode cX6_undo 58 = .ok (.ireturn, 1) := by decide +kernel
theorem dX6_holds_0 : decode cX6_holds 0 = .ok (.iconst 0, 1) := by decide +kernel
theorem dX6_holds_1 : decode cX6_holds 1 = .ok (.istore_n 1, 1) := by decide +kernel
theorem dX6_holds_2 : decode cX6_holds 2 = .ok (.iload_n 1, 1) := by decide +kernel
theorem dX6_holds_3 : decode cX6_holds 3 = .ok (.bipush 59, 2) := by decide +kernel
theorem dX6_holds_5 : decode cX6_holds 5 = .ok (.if_icmp .ge 21, 3) := by decide +kernel
theorem dX6_holds_8 : decode cX6_holds 8 = .ok (.aload_n 0, 1) := by decide +kernel
theorem dX6_holds_9 : decode cX6_holds 9 = .ok (.getfield 34, 3) := by decide +kernel
theorem dX6_holds_12 : decode cX6_holds 12 = .ok (.iload_n 1, 1) := by decide +kernel
theorem dX6_holds_13 : decode cX6_holds 13 = .ok (.aload_n 0, 1) := by decide +kernel
theorem dX6_holds_14 : decode cX6_holds 14 = .ok (.getfield 22, 3) := by decide +kernel
theorem dX6_holds_17 : decode cX6_holds 17 = .ok (.iload_n 1, 1) := by decide +kernel
theorem dX6_holds_18 : decode cX6_holds 18 = .ok (.iaload, 1) := by decide +kernel
theorem dX6_holds_19 : decode cX6_holds 19 = .ok (.iastore, 1) := by decide +kernel
theorem dX6_holds_20 : decode cX6_holds 20 = .ok (.iinc 1 1, 3) := by decide +kernel
theorem dX6_holds_23 : decode cX6_holds 23 = .ok (.goto (-21), 3) := by decide +kernel
theorem dX6_holds_26 : decode cX6_holds 26 = .ok (.return_, 1) := by decide +kernel
theorem dX6_lets_0 : decode cX6_lets 0 = .ok (.iconst 0, 1) := by decide +kernel
theorem dX6_lets_1 : decode cX6_lets 1 = .ok (.istore_n 1, 1) := by decide +kernel
theorem dX6_lets_2 : decode cX6_lets 2 = .ok (.iload_n 1, 1) := by decide +kernel
theorem dX6_lets_3 : decode cX6_lets 3 = .ok (.bipush 59, 2) := by decide +kernel
theorem dX6_lets_5 : decode cX6_lets 5 = .ok (.if_icmp .ge 21, 3) := by decide +kernel
theorem dX6_lets_8 : decode cX6_lets 8 = .ok (.aload_n 0, 1) := by decide +kernel
theorem dX6_lets_9 : decode cX6_lets 9 = .ok (.getfield 22, 3) := by decide +kernel
theorem dX6_lets_12 : decode cX6_lets 12 = .ok (.iload_n 1, 1) := by decide +kernel
theorem dX6_lets_13 : decode cX6_lets 13 = .ok (.aload_n 0, 1) := by decide +kernel
theorem dX6_lets_14 : decode cX6_lets 14 = .ok (.getfield 34, 3) := by decide +kernel
theorem dX6_lets_17 : decode cX6_lets 17 = .ok (.iload_n 1, 1) := by decide +kernel
theorem dX6_lets_18 : decode cX6_lets 18 = .ok (.iaload, 1) := by decide +kernel
theorem dX6_lets_19 : decode cX6_lets 19 = .ok (.iastore, 1) := by decide +kernel
theorem dX6_lets_20 : decode cX6_lets 20 = .ok (.iinc 1 1, 3) := by decide +kernel
theorem dX6_lets_23 : decode cX6_lets 23 = .ok (.goto (-21), 3) := by decide +kernel
theorem dX6_lets_26 : decode cX6_lets 26 = .ok (.return_, 1) := by decide +kernel
theorem dX6_behindOf_0 : decode cX6_behindOf 0 = .ok (.aload_n 0, 1) := by decide +kernel
theorem dX6_behindOf_1 : decode cX6_behindOf 1 = .ok (.invokevirtual 150, 3) := by decide +kernel
theorem dX6_behindOf_4 : decode cX6_behindOf 4 = .ok (.iconst 0, 1) := by decide +kernel
theorem dX6_behindOf_5 : decode cX6_behindOf 5 = .ok (.istore_n 3, 1) := by decide +kernel
theorem dX6_behindOf_6 : decode cX6_behindOf 6 = .ok (.iload_n 3, 1) := by decide +kernel
theorem dX6_behindOf_7 : decode cX6_behindOf 7 = .ok (.iload_n 1, 1) := by decide +kernel
theorem dX6_behindOf_8 : decode cX6_behindOf 8 = .ok (.if_icmp .ge 14, 3) := by decide +kernel
theorem dX6_behindOf_11 : decode cX6_behindOf 11 = .ok (.aload_n 0, 1) := by decide +kernel
theorem dX6_behindOf_12 : decode cX6_behindOf 12 = .ok (.iconst (-1), 1) := by decide +kernel
theorem dX6_behindOf_13 : decode cX6_behindOf 13 = .ok (.invokevirtual 138, 3) := by decide +kernel
theorem dX6_behindOf_16 : decode cX6_behindOf 16 = .ok (.iinc 3 1, 3) := by decide +kernel
theorem dX6_behindOf_19 : decode cX6_behindOf 19 = .ok (.goto (-13), 3) := by decide +kernel
theorem dX6_behindOf_22 : decode cX6_behindOf 22 = .ok (.aload_n 0, 1) := by decide +kernel
theorem dX6_behindOf_23 : decode cX6_behindOf 23 = .ok (.getfield 22, 3) := by decide +kernel
theorem dX6_behindOf_26 : decode cX6_behindOf 26 = .ok (.iload_n 2, 1) := by decide +kernel
theorem dX6_behindOf_27 : decode cX6_behindOf 27 = .ok (.iaload, 1) := by decide +kernel
theorem dX6_behindOf_28 : decode cX6_behindOf 28 = .ok (.istore_n 3, 1) := by decide +kernel
theorem dX6_behindOf_29 : decode cX6_behindOf 29 = .ok (.aload_n 0, 1) := by decide +kernel
theorem dX6_behindOf_30 : decode cX6_behindOf 30 = .ok (.invokevirtual 153, 3) := by decide +kernel
theorem dX6_behindOf_33 : decode cX6_behindOf 33 = .ok (.iload_n 3, 1) := by decide +kernel
theorem dX6_behindOf_34 : decode cX6_behindOf 34 = .ok (.ireturn, 1) := by decide +kernel
theorem dX6_behind_0 : decode cX6_behind 0 = .ok (.iload_n 1, 1) := by decide +kernel
theorem dX6_behind_1 : decode cX6_behind 1 = .ok (.iconst 0, 1) := by decide +kernel
theorem dX6_behind_2 : decode cX6_behind 2 = .ok (.bipush 60, 2) := by decide +kernel
theorem dX6_behind_4 : decode cX6_behind 4 = .ok (.invokestatic 54, 3) := by decide +kernel
theorem dX6_behind_7 : decode cX6_behind 7 = .ok (.ifCond .eq 25, 3) := by decide +kernel
theorem dX6_behind_10 : decode cX6_behind 10 = .ok (.aload_n 0, 1) := by decide +kernel
theorem dX6_behind_11 : decode cX6_behind 11 = .ok (.iload_n 2, 1) := by decide +kernel
theorem dX6_behind_12 : decode cX6_behind 12 = .ok (.invokevirtual 126, 3) := by decide +kernel
theorem dX6_behind_15 : decode cX6_behind 15 = .ok (.ifCond .eq 17, 3) := by decide +kernel
theorem dX6_behind_18 : decode cX6_behind 18 = .ok (.aload_n 0, 1) := by decide +kernel
theorem dX6_behind_19 : decode cX6_behind 19 = .ok (.iload_n 1, 1) := by decide +kernel
theorem dX6_behind_20 : decode cX6_behind 20 = .ok (.bipush 11, 2) := by decide +kernel
theorem dX6_behind_22 : decode cX6_behind 22 = .ok (.iconst 4, 1) := by decide +kernel
theorem dX6_behind_23 : decode cX6_behind 23 = .ok (.iload_n 2, 1) := by decide +kernel
theorem dX6_behind_24 : decode cX6_behind 24 = .ok (.imul, 1) := by decide +kernel
theorem dX6_behind_25 : decode cX6_behind 25 = .ok (.iadd, 1) := by decide +kernel
theorem dX6_behind_26 : decode cX6_behind 26 = .ok (.invokevirtual 156, 3) := by decide +kernel
theorem dX6_behind_29 : decode cX6_behind 29 = .ok (.goto 4, 3) := by decide +kernel
theorem dX6_behind_32 : decode cX6_behind 32 = .ok (.iconst (-1), 1) := by decide +kernel
theorem dX6_behind_33 : decode cX6_behind 33 = .ok (.ireturn, 1) := by decide +kernel
theorem dX6_wealth_0 : decode cX6_wealth 0 = .ok (.iload_n 1, 1) := by decide +kernel
theorem dX6_wealth_1 : decode cX6_wealth 1 = .ok (.iconst 0, 1) := by decide +kernel
theorem dX6_wealth_2 : decode cX6_wealth 2 = .ok (.bipush 60, 2) := by decide +kernel
theorem dX6_wealth_4 : decode cX6_wealth 4 = .ok (.invokestatic 54, 3) := by decide +kernel
theorem dX6_wealth_7 : decode cX6_wealth 7 = .ok (.ifCond .eq 23, 3) := by decide +kernel
theorem dX6_wealth_10 : decode cX6_wealth 10 = .ok (.iload_n 2, 1) := by decide +kernel
theorem dX6_wealth_11 : decode cX6_wealth 11 = .ok (.iconst 0, 1) := by decide +kernel
theorem dX6_wealth_12 : decode cX6_wealth 12 = .ok (.iconst 3, 1) := by decide +kernel
theorem dX6_wealth_13 : decode cX6_wealth 13 = .ok (.invokestatic 54, 3) := by decide +kernel
theorem dX6_wealth_16 : decode cX6_wealth 16 = .ok (.ifCond .eq 14, 3) := by decide +kernel
theorem dX6_wealth_19 : decode cX6_wealth 19 = .ok (.aload_n 0, 1) := by decide +kernel
theorem dX6_wealth_20 : decode cX6_wealth 20 = .ok (.iload_n 1, 1) := by decide +kernel
theorem dX6_wealth_21 : decode cX6_wealth 21 = .ok (.iconst 1, 1) := by decide +kernel
theorem dX6_wealth_22 : decode cX6_wealth 22 = .ok (.iload_n 2, 1) := by decide +kernel
theorem dX6_wealth_23 : decode cX6_wealth 23 = .ok (.iadd, 1) := by decide +kernel
theorem dX6_wealth_24 : decode cX6_wealth 24 = .ok (.invokevirtual 156, 3) := by decide +kernel
theorem dX6_wealth_27 : decode cX6_wealth 27 = .ok (.goto 4, 3) := by decide +kernel
theorem dX6_wealth_30 : decode cX6_wealth 30 = .ok (.iconst (-1), 1) := by decide +kernel
theorem dX6_wealth_31 : decode cX6_wealth 31 = .ok (.ireturn, 1) := by decide +kernel
theorem dX6_comes_0 : decode cX6_comes 0 = .ok (.aload_n 0, 1) := by decide +kernel
theorem dX6_comes_1 : decode cX6_comes 1 = .ok (.iload_n 1, 1) := by decide +kernel
theorem dX6_comes_2 : decode cX6_comes 2 = .ok (.invokevirtual 126, 3) := by decide +kernel
theorem dX6_comes_5 : decode cX6_comes 5 = .ok (.ifCond .eq 11, 3) := by decide +kernel
theorem dX6_comes_8 : decode cX6_comes 8 = .ok (.aload_n 0, 1) := by decide +kernel
theorem dX6_comes_9 : decode cX6_comes 9 = .ok (.iload_n 2, 1) := by decide +kernel
theorem dX6_comes_10 : decode cX6_comes 10 = .ok (.invokevirtual 110, 3) := by decide +kernel
theorem dX6_comes_13 : decode cX6_comes 13 = .ok (.ifCond .ne 5, 3) := by decide +kernel
theorem dX6_comes_16 : decode cX6_comes 16 = .ok (.iconst (-1), 1) := by decide +kernel
theorem dX6_comes_17 : decode cX6_comes 17 = .ok (.ireturn, 1) := by decide +kernel
theorem dX6_comes_18 : decode cX6_comes 18 = .ok (.aload_n 0, 1) := by decide +kernel
theorem dX6_comes_19 : decode cX6_comes 19 = .ok (.invokevirtual 150, 3) := by decide +kernel
theorem dX6_comes_22 : decode cX6_comes 22 = .ok (.iconst 0, 1) := by decide +kernel
theorem dX6_comes_23 : decode cX6_comes 23 = .ok (.istore_n 3, 1) := by decide +kernel
theorem dX6_comes_24 : decode cX6_comes 24 = .ok (.iload_n 3, 1) := by decide +kernel
theorem dX6_comes_25 : decode cX6_comes 25 = .ok (.bipush 60, 2) := by decide +kernel
theorem dX6_comes_27 : decode cX6_comes 27 = .ok (.if_icmp .gt 29, 3) := by decide +kernel
theorem dX6_comes_30 : decode cX6_comes 30 = .ok (.aload_n 0, 1) := by decide +kernel
theorem dX6_comes_31 : decode cX6_comes 31 = .ok (.getfield 22, 3) := by decide +kernel
theorem dX6_comes_34 : decode cX6_comes 34 = .ok (.bipush 11, 2) := by decide +kernel
theorem dX6_comes_36 : decode cX6_comes 36 = .ok (.iconst 4, 1) := by decide +kernel
theorem dX6_comes_37 : decode cX6_comes 37 = .ok (.iload_n 1, 1) := by decide +kernel
theorem dX6_comes_38 : decode cX6_comes 38 = .ok (.imul, 1) := by decide +kernel
theorem dX6_comes_39 : decode cX6_comes 39 = .ok (.iadd, 1) := by decide +kernel
theorem dX6_comes_40 : decode cX6_comes 40 = .ok (.iaload, 1) := by decide +kernel
theorem dX6_comes_41 : decode cX6_comes 41 = .ok (.iload_n 2, 1) := by decide +kernel
theorem dX6_comes_42 : decode cX6_comes 42 = .ok (.if_icmp .eq 14, 3) := by decide +kernel
theorem dX6_comes_45 : decode cX6_comes 45 = .ok (.aload_n 0, 1) := by decide +kernel
theorem dX6_comes_46 : decode cX6_comes 46 = .ok (.iconst (-1), 1) := by decide +kernel
theorem dX6_comes_47 : decode cX6_comes 47 = .ok (.invokevirtual 138, 3) := by decide +kernel
theorem dX6_comes_50 : decode cX6_comes 50 = .ok (.iinc 3 1, 3) := by decide +kernel
theorem dX6_comes_53 : decode cX6_comes 53 = .ok (.goto (-29), 3) := by decide +kernel
theorem dX6_comes_56 : decode cX6_comes 56 = .ok (.aload_n 0, 1) := by decide +kernel
theorem dX6_comes_57 : decode cX6_comes 57 = .ok (.invokevirtual 153, 3) := by decide +kernel
theorem dX6_comes_60 : decode cX6_comes 60 = .ok (.iload_n 3, 1) := by decide +kernel
theorem dX6_comes_61 : decode cX6_comes 61 = .ok (.bipush 60, 2) := by decide +kernel
theorem dX6_comes_63 : decode cX6_comes 63 = .ok (.if_icmp .le 8, 3) := by decide +kernel
theorem dX6_comes_66 : decode cX6_comes 66 = .ok (.bipush (-4), 2) := by decide +kernel
theorem dX6_comes_68 : decode cX6_comes 68 = .ok (.goto 4, 3) := by decide +kernel
theorem dX6_comes_71 : decode cX6_comes 71 = .ok (.iload_n 3, 1) := by decide +kernel
theorem dX6_comes_72 : decode cX6_comes 72 = .ok (.ireturn, 1) := by decide +kernel
theorem dX6_areBeside_0 : decode cX6_areBeside 0 = .ok (.iconst 0, 1) := by decide +kernel
theorem dX6_areBeside_1 : decode cX6_areBeside 1 = .ok (.istore_n 3, 1) := by decide +kernel
theorem dX6_areBeside_2 : decode cX6_areBeside 2 = .ok (.iconst 0, 1) := by decide +kernel
theorem dX6_areBeside_3 : decode cX6_areBeside 3 = .ok (.istore 4, 2) := by decide +kernel
theorem dX6_areBeside_5 : decode cX6_areBeside 5 = .ok (.iload 4, 2) := by decide +kernel
theorem dX6_areBeside_7 : decode cX6_areBeside 7 = .ok (.aload_n 0, 1) := by decide +kernel
theorem dX6_areBeside_8 : decode cX6_areBeside 8 = .ok (.getfield 22, 3) := by decide +kernel
theorem dX6_areBeside_11 : decode cX6_areBeside 11 = .ok (.bipush 8, 2) := by decide +kernel
theorem dX6_areBeside_13 : decode cX6_areBeside 13 = .ok (.iload_n 1, 1) := by decide +kernel
theorem dX6_areBeside_14 : decode cX6_areBeside 14 = .ok (.iadd, 1) := by decide +kernel
theorem dX6_areBeside_15 : decode cX6_areBeside 15 = .ok (.iaload, 1) := by decide +kernel
theorem dX6_areBeside_16 : decode cX6_areBeside 16 = .ok (.if_icmp .ge 73, 3) := by decide +kernel
theorem dX6_areBeside_19 : decode cX6_areBeside 19 = .ok (.iconst 0, 1) := by decide +kernel
theorem dX6_areBeside_20 : decode cX6_areBeside 20 = .ok (.istore 5, 2) := by decide +kernel
theorem dX6_areBeside_22 : decode cX6_areBeside 22 = .ok (.iload 5, 2) := by decide +kernel
theorem dX6_areBeside_24 : decode cX6_areBeside 24 = .ok (.iconst 4, 1) := by decide +kernel
theorem dX6_areBeside_25 : decode cX6_areBeside 25 = .ok (.if_icmp .ge 58, 3) := by decide +kernel
theorem dX6_areBeside_28 : decode cX6_areBeside 28 = .ok (.aload_n 0, 1) := by decide +kernel
theorem dX6_areBeside_29 : decode cX6_areBeside 29 = .ok (.aload_n 0, 1) := by decide +kernel
theorem dX6_areBeside_30 : decode cX6_areBeside 30 = .ok (.getfield 22, 3) := by decide +kernel
theorem dX6_areBeside_33 : decode cX6_areBeside 33 = .ok (.bipush 11, 2) := by decide +kernel
theorem dX6_areBeside_35 : decode cX6_areBeside 35 = .ok (.iconst 4, 1) := by decide +kernel
theorem dX6_areBeside_36 : decode cX6_areBeside 36 = .ok (.iload_n 1, 1) := by decide +kernel
theorem dX6_areBeside_37 : decode cX6_areBeside 37 = .ok (.imul, 1) := by decide +kernel
theorem dX6_areBeside_38 : decode cX6_areBeside 38 = .ok (.iadd, 1) := by decide +kernel
theorem dX6_areBeside_39 : decode cX6_areBeside 39 = .ok (.iload 4, 2) := by decide +kernel
theorem dX6_areBeside_41 : decode cX6_areBeside 41 = .ok (.iadd, 1) := by decide +kernel
theorem dX6_areBeside_42 : decode cX6_areBeside 42 = .ok (.iaload, 1) := by decide +kernel
theorem dX6_areBeside_43 : decode cX6_areBeside 43 = .ok (.iload 5, 2) := by decide +kernel
theorem dX6_areBeside_45 : decode cX6_areBeside 45 = .ok (.invokevirtual 119, 3) := by decide +kernel
theorem dX6_areBeside_48 : decode cX6_areBeside 48 = .ok (.istore 6, 2) := by decide +kernel
theorem dX6_areBeside_50 : decode cX6_areBeside 50 = .ok (.iload_n 3, 1) := by decide +kernel
theorem dX6_areBeside_51 : decode cX6_areBeside 51 = .ok (.ifCond .ne 20, 3) := by decide +kernel
theorem dX6_areBeside_54 : decode cX6_areBeside 54 = .ok (.iload 6, 2) := by decide +kernel
theorem dX6_areBeside_56 : decode cX6_areBeside 56 = .ok (.bipush (-4), 2) := by decide +kernel
theorem dX6_areBeside_58 : decode cX6_areBeside 58 = .ok (.if_icmp .eq 17, 3) := by decide +kernel
theorem dX6_areBeside_61 : decode cX6_areBeside 61 = .ok (.aload_n 0, 1) := by decide +kernel
theorem dX6_areBeside_62 : decode cX6_areBeside 62 = .ok (.iload 6, 2) := by decide +kernel
theorem dX6_areBeside_64 : decode cX6_areBeside 64 = .ok (.invokevirtual 116, 3) := by decide +kernel
theorem dX6_areBeside_67 : decode cX6_areBeside 67 = .ok (.iload_n 2, 1) := by decide +kernel
theorem dX6_areBeside_68 : decode cX6_areBeside 68 = .ok (.if_icmp .ne 7, 3) := by decide +kernel
theorem dX6_areBeside_71 : decode cX6_areBeside 71 = .ok (.iconst 1, 1) := by decide +kernel
theorem dX6_areBeside_72 : decode cX6_areBeside 72 = .ok (.goto 4, 3) := by decide +kernel
theorem dX6_areBeside_75 : decode cX6_areBeside 75 = .ok (.iconst 0, 1) := by decide +kernel
theorem dX6_areBeside_76 : decode cX6_areBeside 76 = .ok (.istore_n 3, 1) := by decide +kernel
theorem dX6_areBeside_77 : decode cX6_areBeside 77 = .ok (.iinc 5 1, 3) := by decide +kernel
theorem dX6_areBeside_80 : decode cX6_areBeside 80 = .ok (.goto (-58), 3) := by decide +kernel
theorem dX6_areBeside_83 : decode cX6_areBeside 83 = .ok (.iinc 4 1, 3) := by decide +kernel
theorem dX6_areBeside_86 : decode cX6_areBeside 86 = .ok (.goto (-81), 3) := by decide +kernel
theorem dX6_areBeside_89 : decode cX6_areBeside 89 = .ok (.iload_n 3, 1) := by decide +kernel
theorem dX6_areBeside_90 : decode cX6_areBeside 90 = .ok (.ireturn, 1) := by decide +kernel
theorem dX6_meet_0 : decode cX6_meet 0 = .ok (.aload_n 0, 1) := by decide +kernel
theorem dX6_meet_1 : decode cX6_meet 1 = .ok (.iload_n 1, 1) := by decide +kernel
theorem dX6_meet_2 : decode cX6_meet 2 = .ok (.invokevirtual 126, 3) := by decide +kernel
theorem dX6_meet_5 : decode cX6_meet 5 = .ok (.ifCond .eq 16, 3) := by decide +kernel
theorem dX6_meet_8 : decode cX6_meet 8 = .ok (.aload_n 0, 1) := by decide +kernel
theorem dX6_meet_9 : decode cX6_meet 9 = .ok (.iload_n 2, 1) := by decide +kernel
theorem dX6_meet_10 : decode cX6_meet 10 = .ok (.invokevirtual 126, 3) := by decide +kernel
theorem dX6_meet_13 : decode cX6_meet 13 = .ok (.ifCond .eq 8, 3) := by decide +kernel
theorem dX6_meet_16 : decode cX6_meet 16 = .ok (.iload_n 1, 1) := by decide +kernel
theorem dX6_meet_17 : decode cX6_meet 17 = .ok (.iload_n 2, 1) := by decide +kernel
theorem dX6_meet_18 : decode cX6_meet 18 = .ok (.if_icmp .ne 5, 3) := by decide +kernel
theorem dX6_meet_21 : decode cX6_meet 21 = .ok (.iconst (-1), 1) := by decide +kernel
theorem dX6_meet_22 : decode cX6_meet 22 = .ok (.ireturn, 1) := by decide +kernel
theorem dX6_meet_23 : decode cX6_meet 23 = .ok (.aload_n 0, 1) := by decide +kernel
theorem dX6_meet_24 : decode cX6_meet 24 = .ok (.invokevirtual 150, 3) := by decide +kernel
theorem dX6_meet_27 : decode cX6_meet 27 = .ok (.iconst 0, 1) := by decide +kernel
theorem dX6_meet_28 : decode cX6_meet 28 = .ok (.istore_n 3, 1) := by decide +kernel
theorem dX6_meet_29 : decode cX6_meet 29 = .ok (.iload_n 3, 1) := by decide +kernel
theorem dX6_meet_30 : decode cX6_meet 30 = .ok (.bipush 60, 2) := by decide +kernel
theorem dX6_meet_32 : decode cX6_meet 32 = .ok (.if_icmp .gt 23, 3) := by decide +kernel
theorem dX6_meet_35 : decode cX6_meet 35 = .ok (.aload_n 0, 1) := by decide +kernel
theorem dX6_meet_36 : decode cX6_meet 36 = .ok (.iload_n 1, 1) := by decide +kernel
theorem dX6_meet_37 : decode cX6_meet 37 = .ok (.iload_n 2, 1) := by decide +kernel
theorem dX6_meet_38 : decode cX6_meet 38 = .ok (.invokevirtual 159, 3) := by decide +kernel
theorem dX6_meet_41 : decode cX6_meet 41 = .ok (.ifCond .ne 14, 3) := by decide +kernel
theorem dX6_meet_44 : decode cX6_meet 44 = .ok (.aload_n 0, 1) := by decide +kernel
theorem dX6_meet_45 : decode cX6_meet 45 = .ok (.iconst (-1), 1) := by decide +kernel
theorem dX6_meet_46 : decode cX6_meet 46 = .ok (.invokevirtual 138, 3) := by decide +kernel
theorem dX6_meet_49 : decode cX6_meet 49 = .ok (.iinc 3 1, 3) := by decide +kernel
theorem dX6_meet_52 : decode cX6_meet 52 = .ok (.goto (-23), 3) := by decide +kernel
theorem dX6_meet_55 : decode cX6_meet 55 = .ok (.aload_n 0, 1) := by decide +kernel
theorem dX6_meet_56 : decode cX6_meet 56 = .ok (.invokevirtual 153, 3) := by decide +kernel
theorem dX6_meet_59 : decode cX6_meet 59 = .ok (.iload_n 3, 1) := by decide +kernel
theorem dX6_meet_60 : decode cX6_meet 60 = .ok (.bipush 60, 2) := by decide +kernel
theorem dX6_meet_62 : decode cX6_meet 62 = .ok (.if_icmp .le 8, 3) := by decide +kernel
theorem dX6_meet_65 : decode cX6_meet 65 = .ok (.bipush (-4), 2) := by decide +kernel
theorem dX6_meet_67 : decode cX6_meet 67 = .ok (.goto 4, 3) := by decide +kernel
theorem dX6_meet_70 : decode cX6_meet 70 = .ok (.iload_n 3, 1) := by decide +kernel
theorem dX6_meet_71 : decode cX6_meet 71 = .ok (.ireturn, 1) := by decide +kernel
theorem dX6_isAgain_0 : decode cX6_isAgain 0 = .ok (.iconst 1, 1) := by decide +kernel
theorem dX6_isAgain_1 : decode cX6_isAgain 1 = .ok (.istore_n 1, 1) := by decide +kernel
theorem dX6_isAgain_2 : decode cX6_isAgain 2 = .ok (.iconst 0, 1) := by decide +kernel
theorem dX6_isAgain_3 : decode cX6_isAgain 3 = .ok (.istore_n 2, 1) := by decide +kernel
theorem dX6_isAgain_4 : decode cX6_isAgain 4 = .ok (.iconst 0, 1) := by decide +kernel
theorem dX6_isAgain_5 : decode cX6_isAgain 5 = .ok (.istore_n 3, 1) := by decide +kernel
theorem dX6_isAgain_6 : decode cX6_isAgain 6 = .ok (.iload_n 3, 1) := by decide +kernel
theorem dX6_isAgain_7 : decode cX6_isAgain 7 = .ok (.aload_n 0, 1) := by decide +kernel
theorem dX6_isAgain_8 : decode cX6_isAgain 8 = .ok (.getfield 13, 3) := by decide +kernel
theorem dX6_isAgain_11 : decode cX6_isAgain 11 = .ok (.iconst 2, 1) := by decide +kernel
theorem dX6_isAgain_12 : decode cX6_isAgain 12 = .ok (.iaload, 1) := by decide +kernel
theorem dX6_isAgain_13 : decode cX6_isAgain 13 = .ok (.if_icmp .ge 125, 3) := by decide +kernel
theorem dX6_isAgain_16 : decode cX6_isAgain 16 = .ok (.iload_n 1, 1) := by decide +kernel
theorem dX6_isAgain_17 : decode cX6_isAgain 17 = .ok (.ifCond .eq 26, 3) := by decide +kernel
theorem dX6_isAgain_20 : decode cX6_isAgain 20 = .ok (.aload_n 0, 1) := by decide +kernel
theorem dX6_isAgain_21 : decode cX6_isAgain 21 = .ok (.getfield 22, 3) := by decide +kernel
theorem dX6_isAgain_24 : decode cX6_isAgain 24 = .ok (.iconst 5, 1) := by decide +kernel
theorem dX6_isAgain_25 : decode cX6_isAgain 25 = .ok (.iload_n 3, 1) := by decide +kernel
theorem dX6_isAgain_26 : decode cX6_isAgain 26 = .ok (.iadd, 1) := by decide +kernel
theorem dX6_isAgain_27 : decode cX6_isAgain 27 = .ok (.iaload, 1) := by decide +kernel
theorem dX6_isAgain_28 : decode cX6_isAgain 28 = .ok (.aload_n 0, 1) := by decide +kernel
theorem dX6_isAgain_29 : decode cX6_isAgain 29 = .ok (.getfield 34, 3) := by decide +kernel
theorem dX6_isAgain_32 : decode cX6_isAgain 32 = .ok (.iconst 5, 1) := by decide +kernel
theorem dX6_isAgain_33 : decode cX6_isAgain 33 = .ok (.iload_n 3, 1) := by decide +kernel
theorem dX6_isAgain_34 : decode cX6_isAgain 34 = .ok (.iadd, 1) := by decide +kernel
theorem dX6_isAgain_35 : decode cX6_isAgain 35 = .ok (.iaload, 1) := by decide +kernel
theorem dX6_isAgain_36 : decode cX6_isAgain 36 = .ok (.if_icmp .ne 7, 3) := by decide +kernel
theorem dX6_isAgain_39 : decode cX6_isAgain 39 = .ok (.iconst 1, 1) := by decide +kernel
theorem dX6_isAgain_40 : decode cX6_isAgain 40 = .ok (.goto 4, 3) := by decide +kernel
theorem dX6_isAgain_43 : decode cX6_isAgain 43 = .ok (.iconst 0, 1) := by decide +kernel
theorem dX6_isAgain_44 : decode cX6_isAgain 44 = .ok (.istore_n 1, 1) := by decide +kernel
theorem dX6_isAgain_45 : decode cX6_isAgain 45 = .ok (.iload_n 2, 1) := by decide +kernel
theorem dX6_isAgain_46 : decode cX6_isAgain 46 = .ok (.ifCond .ne 16, 3) := by decide +kernel
theorem dX6_isAgain_49 : decode cX6_isAgain 49 = .ok (.aload_n 0, 1) := by decide +kernel
theorem dX6_isAgain_50 : decode cX6_isAgain 50 = .ok (.getfield 13, 3) := by decide +kernel
theorem dX6_isAgain_53 : decode cX6_isAgain 53 = .ok (.bipush 75, 2) := by decide +kernel
theorem dX6_isAgain_55 : decode cX6_isAgain 55 = .ok (.iload_n 3, 1) := by decide +kernel
theorem dX6_isAgain_56 : decode cX6_isAgain 56 = .ok (.iadd, 1) := by decide +kernel
theorem dX6_isAgain_57 : decode cX6_isAgain 57 = .ok (.iaload, 1) := by decide +kernel
theorem dX6_isAgain_58 : decode cX6_isAgain 58 = .ok (.iconst 2, 1) := by decide +kernel
theorem dX6_isAgain_59 : decode cX6_isAgain 59 = .ok (.if_icmp .ne 7, 3) := by decide +kernel
theorem dX6_isAgain_62 : decode cX6_isAgain 62 = .ok (.iconst 1, 1) := by decide +kernel
theorem dX6_isAgain_63 : decode cX6_isAgain 63 = .ok (.goto 4, 3) := by decide +kernel
theorem dX6_isAgain_66 : decode cX6_isAgain 66 = .ok (.iconst 0, 1) := by decide +kernel
theorem dX6_isAgain_67 : decode cX6_isAgain 67 = .ok (.istore_n 2, 1) := by decide +kernel
theorem dX6_isAgain_68 : decode cX6_isAgain 68 = .ok (.iconst 0, 1) := by decide +kernel
theorem dX6_isAgain_69 : decode cX6_isAgain 69 = .ok (.istore 4, 2) := by decide +kernel
theorem dX6_isAgain_71 : decode cX6_isAgain 71 = .ok (.iload 4, 2) := by decide +kernel
theorem dX6_isAgain_73 : decode cX6_isAgain 73 = .ok (.aload_n 0, 1) := by decide +kernel
theorem dX6_isAgain_74 : decode cX6_isAgain 74 = .ok (.getfield 22, 3) := by decide +kernel
theorem dX6_isAgain_77 : decode cX6_isAgain 77 = .ok (.bipush 8, 2) := by decide +kernel
theorem dX6_isAgain_79 : decode cX6_isAgain 79 = .ok (.iload_n 3, 1) := by decide +kernel
theorem dX6_isAgain_80 : decode cX6_isAgain 80 = .ok (.iadd, 1) := by decide +kernel
theorem dX6_isAgain_81 : decode cX6_isAgain 81 = .ok (.iaload, 1) := by decide +kernel
theorem dX6_isAgain_82 : decode cX6_isAgain 82 = .ok (.if_icmp .ge 50, 3) := by decide +kernel
theorem dX6_isAgain_85 : decode cX6_isAgain 85 = .ok (.iload_n 1, 1) := by decide +kernel
theorem dX6_isAgain_86 : decode cX6_isAgain 86 = .ok (.ifCond .eq 38, 3) := by decide +kernel
theorem dX6_isAgain_89 : decode cX6_isAgain 89 = .ok (.aload_n 0, 1) := by decide +kernel
theorem dX6_isAgain_90 : decode cX6_isAgain 90 = .ok (.getfield 22, 3) := by decide +kernel
theorem dX6_isAgain_93 : decode cX6_isAgain 93 = .ok (.bipush 11, 2) := by decide +kernel
theorem dX6_isAgain_95 : decode cX6_isAgain 95 = .ok (.iconst 4, 1) := by decide +kernel
theorem dX6_isAgain_96 : decode cX6_isAgain 96 = .ok (.iload_n 3, 1) := by decide +kernel
theorem dX6_isAgain_97 : decode cX6_isAgain 97 = .ok (.imul, 1) := by decide +kernel
theorem dX6_isAgain_98 : decode cX6_isAgain 98 = .ok (.iadd, 1) := by decide +kernel
theorem dX6_isAgain_99 : decode cX6_isAgain 99 = .ok (.iload 4, 2) := by decide +kernel
theorem dX6_isAgain_101 : decode cX6_isAgain 101 = .ok (.iadd, 1) := by decide +kernel
theorem dX6_isAgain_102 : decode cX6_isAgain 102 = .ok (.iaload, 1) := by decide +kernel
theorem dX6_isAgain_103 : decode cX6_isAgain 103 = .ok (.aload_n 0, 1) := by decide +kernel
theorem dX6_isAgain_104 : decode cX6_isAgain 104 = .ok (.getfield 34, 3) := by decide +kernel
theorem dX6_isAgain_107 : decode cX6_isAgain 107 = .ok (.bipush 11, 2) := by decide +kernel
theorem dX6_isAgain_109 : decode cX6_isAgain 109 = .ok (.iconst 4, 1) := by decide +kernel
theorem dX6_isAgain_110 : decode cX6_isAgain 110 = .ok (.iload_n 3, 1) := by decide +kernel
theorem dX6_isAgain_111 : decode cX6_isAgain 111 = .ok (.imul, 1) := by decide +kernel
theorem dX6_isAgain_112 : decode cX6_isAgain 112 = .ok (.iadd, 1) := by decide +kernel
theorem dX6_isAgain_113 : decode cX6_isAgain 113 = .ok (.iload 4, 2) := by decide +kernel
theorem dX6_isAgain_115 : decode cX6_isAgain 115 = .ok (.iadd, 1) := by decide +kernel
theorem dX6_isAgain_116 : decode cX6_isAgain 116 = .ok (.iaload, 1) := by decide +kernel
theorem dX6_isAgain_117 : decode cX6_isAgain 117 = .ok (.if_icmp .ne 7, 3) := by decide +kernel
theorem dX6_isAgain_120 : decode cX6_isAgain 120 = .ok (.iconst 1, 1) := by decide +kernel
theorem dX6_isAgain_121 : decode cX6_isAgain 121 = .ok (.goto 4, 3) := by decide +kernel
theorem dX6_isAgain_124 : decode cX6_isAgain 124 = .ok (.iconst 0, 1) := by decide +kernel
theorem dX6_isAgain_125 : decode cX6_isAgain 125 = .ok (.istore_n 1, 1) := by decide +kernel
theorem dX6_isAgain_126 : decode cX6_isAgain 126 = .ok (.iinc 4 1, 3) := by decide +kernel
theorem dX6_isAgain_129 : decode cX6_isAgain 129 = .ok (.goto (-58), 3) := by decide +kernel
theorem dX6_isAgain_132 : decode cX6_isAgain 132 = .ok (.iinc 3 1, 3) := by decide +kernel
theorem dX6_isAgain_135 : decode cX6_isAgain 135 = .ok (.goto (-129), 3) := by decide +kernel
theorem dX6_isAgain_138 : decode cX6_isAgain 138 = .ok (.iload_n 1, 1) := by decide +kernel
theorem dX6_isAgain_139 : decode cX6_isAgain 139 = .ok (.ifCond .eq 29, 3) := by decide +kernel
theorem dX6_isAgain_142 : decode cX6_isAgain 142 = .ok (.iload_n 2, 1) := by decide +kernel
theorem dX6_isAgain_143 : decode cX6_isAgain 143 = .ok (.ifCond .eq 21, 3) := by decide +kernel
theorem dX6_isAgain_146 : decode cX6_isAgain 146 = .ok (.aload_n 0, 1) := by decide +kernel
theorem dX6_isAgain_147 : decode cX6_isAgain 147 = .ok (.getfield 22, 3) := by decide +kernel
theorem dX6_isAgain_150 : decode cX6_isAgain 150 = .ok (.iconst 0, 1) := by decide +kernel
theorem dX6_isAgain_151 : decode cX6_isAgain 151 = .ok (.iaload, 1) := by decide +kernel
theorem dX6_isAgain_152 : decode cX6_isAgain 152 = .ok (.aload_n 0, 1) := by decide +kernel
theorem dX6_isAgain_153 : decode cX6_isAgain 153 = .ok (.getfield 34, 3) := by decide +kernel
theorem dX6_isAgain_156 : decode cX6_isAgain 156 = .ok (.iconst 0, 1) := by decide +kernel
theorem dX6_isAgain_157 : decode cX6_isAgain 157 = .ok (.iaload, 1) := by decide +kernel
theorem dX6_isAgain_158 : decode cX6_isAgain 158 = .ok (.isub, 1) := by decide +kernel
theorem dX6_isAgain_159 : decode cX6_isAgain 159 = .ok (.iconst 2, 1) := by decide +kernel
theorem dX6_isAgain_160 : decode cX6_isAgain 160 = .ok (.irem, 1) := by decide +kernel
theorem dX6_isAgain_161 : decode cX6_isAgain 161 = .ok (.ifCond .ne 7, 3) := by decide +kernel
theorem dX6_isAgain_164 : decode cX6_isAgain 164 = .ok (.iconst 1, 1) := by decide +kernel
theorem dX6_isAgain_165 : decode cX6_isAgain 165 = .ok (.goto 4, 3) := by decide +kernel
theorem dX6_isAgain_168 : decode cX6_isAgain 168 = .ok (.iconst 0, 1) := by decide +kernel
theorem dX6_isAgain_169 : decode cX6_isAgain 169 = .ok (.ireturn, 1) := by decide +kernel
theorem dX6_again_0 : decode cX6_again 0 = .ok (.aload_n 0, 1) := by decide +kernel
theorem dX6_again_1 : decode cX6_again 1 = .ok (.invokevirtual 150, 3) := by decide +kernel
theorem dX6_again_4 : decode cX6_again 4 = .ok (.iconst 1, 1) := by decide +kernel
theorem dX6_again_5 : decode cX6_again 5 = .ok (.istore_n 1, 1) := by decide +kernel
theorem dX6_again_6 : decode cX6_again 6 = .ok (.aload_n 0, 1) := by decide +kernel
theorem dX6_again_7 : decode cX6_again 7 = .ok (.iconst (-1), 1) := by decide +kernel
theorem dX6_again_8 : decode cX6_again 8 = .ok (.invokevirtual 138, 3) := by decide +kernel
theorem dX6_again_11 : decode cX6_again 11 = .ok (.iload_n 1, 1) := by decide +kernel
theorem dX6_again_12 : decode cX6_again 12 = .ok (.sipush 200, 3) := by decide +kernel
theorem dX6_again_15 : decode cX6_again 15 = .ok (.if_icmp .gt 21, 3) := by decide +kernel
theorem dX6_again_18 : decode cX6_again 18 = .ok (.aload_n 0, 1) := by decide +kernel
theorem dX6_again_19 : decode cX6_again 19 = .ok (.invokevirtual 162, 3) := by decide +kernel
theorem dX6_again_22 : decode cX6_again 22 = .ok (.ifCond .ne 14, 3) := by decide +kernel
theorem dX6_again_25 : decode cX6_again 25 = .ok (.aload_n 0, 1) := by decide +kernel
theorem dX6_again_26 : decode cX6_again 26 = .ok (.iconst (-1), 1) := by decide +kernel
theorem dX6_again_27 : decode cX6_again 27 = .ok (.invokevirtual 138, 3) := by decide +kernel
theorem dX6_again_30 : decode cX6_again 30 = .ok (.iinc 1 1, 3) := by decide +kernel
theorem dX6_again_33 : decode cX6_again 33 = .ok (.goto (-22), 3) := by decide +kernel
theorem dX6_again_36 : decode cX6_again 36 = .ok (.aload_n 0, 1) := by decide +kernel
theorem dX6_again_37 : decode cX6_again 37 = .ok (.invokevirtual 153, 3) := by decide +kernel
theorem dX6_again_40 : decode cX6_again 40 = .ok (.iload_n 1, 1) := by decide +kernel
theorem dX6_again_41 : decode cX6_again 41 = .ok (.sipush 200, 3) := by decide +kernel
theorem dX6_again_44 : decode cX6_again 44 = .ok (.if_icmp .le 8, 3) := by decide +kernel
theorem dX6_again_47 : decode cX6_again 47 = .ok (.bipush (-4), 2) := by decide +kernel
theorem dX6_again_49 : decode cX6_again 49 = .ok (.goto 4, 3) := by decide +kernel
theorem dX6_again_52 : decode cX6_again 52 = .ok (.iload_n 1, 1) := by decide +kernel
theorem dX6_again_53 : decode cX6_again 53 = .ok (.ireturn, 1) := by decide +kernel
theorem dX6_brings_0 : decode cX6_brings 0 = .ok (.iload 4, 2) := by decide +kernel
theorem dX6_brings_2 : decode cX6_brings 2 = .ok (.ifCond .lt 12, 3) := by decide +kernel
theorem dX6_brings_5 : decode cX6_brings 5 = .ok (.aload_n 0, 1) := by decide +kernel
theorem dX6_brings_6 : decode cX6_brings 6 = .ok (.iload 4, 2) := by decide +kernel
theorem dX6_brings_8 : decode cX6_brings 8 = .ok (.invokevirtual 141, 3) := by decide +kernel
theorem dX6_brings_11 : decode cX6_brings 11 = .ok (.ifCond .eq 17, 3) := by decide +kernel
theorem dX6_brings_14 : decode cX6_brings 14 = .ok (.iload 5, 2) := by decide +kernel
theorem dX6_brings_16 : decode cX6_brings 16 = .ok (.ifCond .lt 14, 3) := by decide +kernel
theorem dX6_brings_19 : decode cX6_brings 19 = .ok (.aload_n 0, 1) := by decide +kernel
theorem dX6_brings_20 : decode cX6_brings 20 = .ok (.iload 5, 2) := by decide +kernel
theorem dX6_brings_22 : decode cX6_brings 22 = .ok (.invokevirtual 141, 3) := by decide +kernel
theorem dX6_brings_25 : decode cX6_brings 25 = .ok (.ifCond .ne 5, 3) := by decide +kernel
theorem dX6_brings_28 : decode cX6_brings 28 = .ok (.iconst 0, 1) := by decide +kernel
theorem dX6_brings_29 : decode cX6_brings 29 = .ok (.ireturn, 1) := by decide +kernel
theorem dX6_brings_30 : decode cX6_brings 30 = .ok (.aload_n 0, 1) := by decide +kernel
theorem dX6_brings_31 : decode cX6_brings 31 = .ok (.getfield 22, 3) := by decide +kernel
theorem dX6_brings_34 : decode cX6_brings 34 = .ok (.bipush 23, 2) := by decide +kernel
theorem dX6_brings_36 : decode cX6_brings 36 = .ok (.iload 4, 2) := by decide +kernel
theorem dX6_brings_38 : decode cX6_brings 38 = .ok (.ifCond .ge 7, 3) := by decide +kernel
theorem dX6_brings_41 : decode cX6_brings 41 = .ok (.iconst 0, 1) := by decide +kernel
theorem dX6_brings_42 : decode cX6_brings 42 = .ok (.goto 5, 3) := by decide +kernel
theorem dX6_brings_45 : decode cX6_brings 45 = .ok (.iload 4, 2) := by decide +kernel
theorem dX6_brings_47 : decode cX6_brings 47 = .ok (.iadd, 1) := by decide +kernel
theorem dX6_brings_48 : decode cX6_brings 48 = .ok (.iload 4, 2) := by decide +kernel
theorem dX6_brings_50 : decode cX6_brings 50 = .ok (.ifCond .ge 11, 3) := by decide +kernel
theorem dX6_brings_53 : decode cX6_brings 53 = .ok (.aload_n 0, 1) := by decide +kernel
theorem dX6_brings_54 : decode cX6_brings 54 = .ok (.iconst 0, 1) := by decide +kernel
theorem dX6_brings_55 : decode cX6_brings 55 = .ok (.invokevirtual 113, 3) := by decide +kernel
theorem dX6_brings_58 : decode cX6_brings 58 = .ok (.goto 4, 3) := by decide +kernel
theorem dX6_brings_61 : decode cX6_brings 61 = .ok (.iconst 1, 1) := by decide +kernel
theorem dX6_brings_62 : decode cX6_brings 62 = .ok (.iastore, 1) := by decide +kernel
theorem dX6_brings_63 : decode cX6_brings 63 = .ok (.aload_n 0, 1) := by decide +kernel
theorem dX6_brings_64 : decode cX6_brings 64 = .ok (.getfield 22, 3) := by decide +kernel
theorem dX6_brings_67 : decode cX6_brings 67 = .ok (.bipush 23, 2) := by decide +kernel
theorem dX6_brings_69 : decode cX6_brings 69 = .ok (.iload 5, 2) := by decide +kernel
theorem dX6_brings_71 : decode cX6_brings 71 = .ok (.ifCond .ge 7, 3) := by decide +kernel
theorem dX6_brings_74 : decode cX6_brings 74 = .ok (.iconst 0, 1) := by decide +kernel
theorem dX6_brings_75 : decode cX6_brings 75 = .ok (.goto 5, 3) := by decide +kernel
theorem dX6_brings_78 : decode cX6_brings 78 = .ok (.iload 5, 2) := by decide +kernel
theorem dX6_brings_80 : decode cX6_brings 80 = .ok (.iadd, 1) := by decide +kernel
theorem dX6_brings_81 : decode cX6_brings 81 = .ok (.iload 5, 2) := by decide +kernel
theorem dX6_brings_83 : decode cX6_brings 83 = .ok (.ifCond .ge 11, 3) := by decide +kernel
theorem dX6_brings_86 : decode cX6_brings 86 = .ok (.aload_n 0, 1) := by decide +kernel
theorem dX6_brings_87 : decode cX6_brings 87 = .ok (.iconst 0, 1) := by decide +kernel
theorem dX6_brings_88 : decode cX6_brings 88 = .ok (.invokevirtual 113, 3) := by decide +kernel
theorem dX6_brings_91 : decode cX6_brings 91 = .ok (.goto 4, 3) := by decide +kernel
theorem dX6_brings_94 : decode cX6_brings 94 = .ok (.iconst 1, 1) := by decide +kernel
theorem dX6_brings_95 : decode cX6_brings 95 = .ok (.iastore, 1) := by decide +kernel
theorem dX6_brings_96 : decode cX6_brings 96 = .ok (.iconst 0, 1) := by decide +kernel
theorem dX6_brings_97 : decode cX6_brings 97 = .ok (.istore 6, 2) := by decide +kernel
theorem dX6_brings_99 : decode cX6_brings 99 = .ok (.iload 6, 2) := by decide +kernel
theorem dX6_brings_101 : decode cX6_brings 101 = .ok (.iload_n 3, 1) := by decide +kernel
theorem dX6_brings_102 : decode cX6_brings 102 = .ok (.if_icmp .ge 14, 3) := by decide +kernel
theorem dX6_brings_105 : decode cX6_brings 105 = .ok (.aload_n 0, 1) := by decide +kernel
theorem dX6_brings_106 : decode cX6_brings 106 = .ok (.iconst (-1), 1) := by decide +kernel
theorem dX6_brings_107 : decode cX6_brings 107 = .ok (.invokevirtual 138, 3) := by decide +kernel
theorem dX6_brings_110 : decode cX6_brings 110 = .ok (.iinc 6 1, 3) := by decide +kernel
theorem dX6_brings_113 : decode cX6_brings 113 = .ok (.goto (-14), 3) := by decide +kernel
theorem dX6_brings_116 : decode cX6_brings 116 = .ok (.aload_n 0, 1) := by decide +kernel
theorem dX6_brings_117 : decode cX6_brings 117 = .ok (.getfield 22, 3) := by decide +kernel
theorem dX6_brings_120 : decode cX6_brings 120 = .ok (.bipush 11, 2) := by decide +kernel
theorem dX6_brings_122 : decode cX6_brings 122 = .ok (.iconst 4, 1) := by decide +kernel
theorem dX6_brings_123 : decode cX6_brings 123 = .ok (.iload_n 1, 1) := by decide +kernel
theorem dX6_brings_124 : decode cX6_brings 124 = .ok (.imul, 1) := by decide +kernel
theorem dX6_brings_125 : decode cX6_brings 125 = .ok (.iadd, 1) := by decide +kernel
theorem dX6_brings_126 : decode cX6_brings 126 = .ok (.iaload, 1) := by decide +kernel
theorem dX6_brings_127 : decode cX6_brings 127 = .ok (.iload_n 2, 1) := by decide +kernel
theorem dX6_brings_128 : decode cX6_brings 128 = .ok (.if_icmp .ne 7, 3) := by decide +kernel
theorem dX6_brings_131 : decode cX6_brings 131 = .ok (.iconst 1, 1) := by decide +kernel
theorem dX6_brings_132 : decode cX6_brings 132 = .ok (.goto 4, 3) := by decide +kernel
theorem dX6_brings_135 : decode cX6_brings 135 = .ok (.iconst 0, 1) := by decide +kernel
theorem dX6_brings_136 : decode cX6_brings 136 = .ok (.istore 6, 2) := by decide +kernel
theorem dX6_brings_138 : decode cX6_brings 138 = .ok (.aload_n 0, 1) := by decide +kernel
theorem dX6_brings_139 : decode cX6_brings 139 = .ok (.invokevirtual 153, 3) := by decide +kernel
theorem dX6_brings_142 : decode cX6_brings 142 = .ok (.iload 6, 2) := by decide +kernel
theorem dX6_brings_144 : decode cX6_brings 144 = .ok (.ireturn, 1) := by decide +kernel
theorem dX6_ditches_0 : decode cX6_ditches 0 = .ok (.aload_n 0, 1) := by decide +kernel
theorem dX6_ditches_1 : decode cX6_ditches 1 = .ok (.iload_n 1, 1) := by decide +kernel
theorem dX6_ditches_2 : decode cX6_ditches 2 = .ok (.invokevirtual 126, 3) := by decide +kernel
theorem dX6_ditches_5 : decode cX6_ditches 5 = .ok (.ifCond .eq 31, 3) := by decide +kernel
theorem dX6_ditches_8 : decode cX6_ditches 8 = .ok (.aload_n 0, 1) := by decide +kernel
theorem dX6_ditches_9 : decode cX6_ditches 9 = .ok (.iload_n 2, 1) := by decide +kernel
theorem dX6_ditches_10 : decode cX6_ditches 10 = .ok (.invokevirtual 110, 3) := by decide +kernel
theorem dX6_ditches_13 : decode cX6_ditches 13 = .ok (.ifCond .eq 23, 3) := by decide +kernel
theorem dX6_ditches_16 : decode cX6_ditches 16 = .ok (.iload_n 3, 1) := by decide +kernel
theorem dX6_ditches_17 : decode cX6_ditches 17 = .ok (.iconst 1, 1) := by decide +kernel
theorem dX6_ditches_18 : decode cX6_ditches 18 = .ok (.bipush 20, 2) := by decide +kernel
