theorem dX5_ditches_8 : decode cX5_ditches 8 = .ok (.ifCond .eq 34, 3) := by decide +kernel
theorem dX5_ditches_11 : decode cX5_ditches 11 = .ok (.aload_n 0, 1) := by decide +kernel
theorem dX5_ditches_12 : decode cX5_ditches 12 = .ok (.getfield 16, 3) := by decide +kernel
theorem dX5_ditches_15 : decode cX5_ditches 15 = .ok (.iload_n 2, 1) := by decide +kernel
theorem dX5_ditches_16 : decode cX5_ditches 16 = .ok (.invokevirtual 103, 3) := by decide +kernel
theorem dX5_ditches_19 : decode cX5_ditches 19 = .ok (.ifCond .eq 23, 3) := by decide +kernel
theorem dX5_ditches_22 : decode cX5_ditches 22 = .ok (.iload_n 3, 1) := by decide +kernel
theorem dX5_ditches_23 : decode cX5_ditches 23 = .ok (.iconst 1, 1) := by decide +kernel
theorem dX5_ditches_24 : decode cX5_ditches 24 = .ok (.bipush 20, 2) := by decide +kernel
theorem dX5_ditches_26 : decode cX5_ditches 26 = .ok (.invokestatic 165, 3) := by decide +kernel
theorem dX5_ditches_29 : decode cX5_ditches 29 = .ok (.ifCond .eq 13, 3) := by decide +kernel
theorem dX5_ditches_32 : decode cX5_ditches 32 = .ok (.iload 4, 2) := by decide +kernel
theorem dX5_ditches_34 : decode cX5_ditches 34 = .ok (.iconst (-1), 1) := by decide +kernel
theorem dX5_ditches_35 : decode cX5_ditches 35 = .ok (.iconst 1, 1) := by decide +kernel
theorem dX5_ditches_36 : decode cX5_ditches 36 = .ok (.invokestatic 165, 3) := by decide +kernel
theorem dX5_ditches_39 : decode cX5_ditches 39 = .ok (.ifCond .ne 5, 3) := by decide +kernel
theorem dX5_ditches_42 : decode cX5_ditches 42 = .ok (.iconst (-1), 1) := by decide +kernel
theorem dX5_ditches_43 : decode cX5_ditches 43 = .ok (.ireturn, 1) := by decide +kernel
theorem dX5_ditches_44 : decode cX5_ditches 44 = .ok (.aload_n 0, 1) := by decide +kernel
theorem dX5_ditches_45 : decode cX5_ditches 45 = .ok (.iload_n 1, 1) := by decide +kernel
theorem dX5_ditches_46 : decode cX5_ditches 46 = .ok (.iload_n 2, 1) := by decide +kernel
theorem dX5_ditches_47 : decode cX5_ditches 47 = .ok (.iload_n 3, 1) := by decide +kernel
theorem dX5_ditches_48 : decode cX5_ditches 48 = .ok (.invokevirtual 221, 3) := by decide +kernel
theorem dX5_ditches_51 : decode cX5_ditches 51 = .ok (.istore 5, 2) := by decide +kernel
theorem dX5_ditches_53 : decode cX5_ditches 53 = .ok (.iload 5, 2) := by decide +kernel
theorem dX5_ditches_55 : decode cX5_ditches 55 = .ok (.bipush (-4), 2) := by decide +kernel
theorem dX5_ditches_57 : decode cX5_ditches 57 = .ok (.if_icmp .ne 12, 3) := by decide +kernel
theorem dX5_ditches_60 : decode cX5_ditches 60 = .ok (.aload_n 0, 1) := by decide +kernel
theorem dX5_ditches_61 : decode cX5_ditches 61 = .ok (.iload_n 1, 1) := by decide +kernel
theorem dX5_ditches_62 : decode cX5_ditches 62 = .ok (.iload_n 2, 1) := by decide +kernel
theorem dX5_ditches_63 : decode cX5_ditches 63 = .ok (.iload_n 3, 1) := by decide +kernel
theorem dX5_ditches_64 : decode cX5_ditches 64 = .ok (.invokevirtual 225, 3) := by decide +kernel
theorem dX5_ditches_67 : decode cX5_ditches 67 = .ok (.istore 5, 2) := by decide +kernel
theorem dX5_ditches_69 : decode cX5_ditches 69 = .ok (.iload 4, 2) := by decide +kernel
theorem dX5_ditches_71 : decode cX5_ditches 71 = .ok (.iconst (-1), 1) := by decide +kernel
theorem dX5_ditches_72 : decode cX5_ditches 72 = .ok (.if_icmp .eq 10, 3) := by decide +kernel
theorem dX5_ditches_75 : decode cX5_ditches 75 = .ok (.iload 5, 2) := by decide +kernel
theorem dX5_ditches_77 : decode cX5_ditches 77 = .ok (.bipush (-4), 2) := by decide +kernel
theorem dX5_ditches_79 : decode cX5_ditches 79 = .ok (.if_icmp .ne 6, 3) := by decide +kernel
theorem dX5_ditches_82 : decode cX5_ditches 82 = .ok (.iload 5, 2) := by decide +kernel
theorem dX5_ditches_84 : decode cX5_ditches 84 = .ok (.ireturn, 1) := by decide +kernel
theorem dX5_ditches_85 : decode cX5_ditches 85 = .ok (.iload 4, 2) := by decide +kernel
theorem dX5_ditches_87 : decode cX5_ditches 87 = .ok (.ifCond .lt 30, 3) := by decide +kernel
theorem dX5_ditches_90 : decode cX5_ditches 90 = .ok (.iload 4, 2) := by decide +kernel
theorem dX5_ditches_92 : decode cX5_ditches 92 = .ok (.iload 5, 2) := by decide +kernel
theorem dX5_ditches_94 : decode cX5_ditches 94 = .ok (.if_icmp .ge 23, 3) := by decide +kernel
theorem dX5_ditches_97 : decode cX5_ditches 97 = .ok (.iload 4, 2) := by decide +kernel
theorem dX5_ditches_99 : decode cX5_ditches 99 = .ok (.aload_n 0, 1) := by decide +kernel
theorem dX5_ditches_100 : decode cX5_ditches 100 = .ok (.getfield 61, 3) := by decide +kernel
theorem dX5_ditches_103 : decode cX5_ditches 103 = .ok (.arraylength, 1) := by decide +kernel
theorem dX5_ditches_104 : decode cX5_ditches 104 = .ok (.if_icmp .ge 13, 3) := by decide +kernel
theorem dX5_ditches_107 : decode cX5_ditches 107 = .ok (.aload_n 0, 1) := by decide +kernel
theorem dX5_ditches_108 : decode cX5_ditches 108 = .ok (.getfield 61, 3) := by decide +kernel
theorem dX5_ditches_111 : decode cX5_ditches 111 = .ok (.iload 4, 2) := by decide +kernel
theorem dX5_ditches_113 : decode cX5_ditches 113 = .ok (.iaload, 1) := by decide +kernel
theorem dX5_ditches_114 : decode cX5_ditches 114 = .ok (.goto 5, 3) := by decide +kernel
theorem dX5_ditches_117 : decode cX5_ditches 117 = .ok (.bipush (-4), 2) := by decide +kernel
theorem dX5_ditches_119 : decode cX5_ditches 119 = .ok (.ireturn, 1) := by decide +kernel
theorem dX5_best_0 : decode cX5_best 0 = .ok (.iload_n 1, 1) := by decide +kernel
theorem dX5_best_1 : decode cX5_best 1 = .ok (.invokestatic 159, 3) := by decide +kernel
theorem dX5_best_4 : decode cX5_best 4 = .ok (.ifCond .eq 22, 3) := by decide +kernel
theorem dX5_best_7 : decode cX5_best 7 = .ok (.iload_n 2, 1) := by decide +kernel
theorem dX5_best_8 : decode cX5_best 8 = .ok (.iconst 1, 1) := by decide +kernel
theorem dX5_best_9 : decode cX5_best 9 = .ok (.bipush 20, 2) := by decide +kernel
theorem dX5_best_11 : decode cX5_best 11 = .ok (.invokestatic 165, 3) := by decide +kernel
theorem dX5_best_14 : decode cX5_best 14 = .ok (.ifCond .eq 12, 3) := by decide +kernel
theorem dX5_best_17 : decode cX5_best 17 = .ok (.iload_n 3, 1) := by decide +kernel
theorem dX5_best_18 : decode cX5_best 18 = .ok (.iconst 0, 1) := by decide +kernel
theorem dX5_best_19 : decode cX5_best 19 = .ok (.iconst 1, 1) := by decide +kernel
theorem dX5_best_20 : decode cX5_best 20 = .ok (.invokestatic 165, 3) := by decide +kernel
theorem dX5_best_23 : decode cX5_best 23 = .ok (.ifCond .ne 5, 3) := by decide +kernel
theorem dX5_best_26 : decode cX5_best 26 = .ok (.iconst (-1), 1) := by decide +kernel
theorem dX5_best_27 : decode cX5_best 27 = .ok (.ireturn, 1) := by decide +kernel
theorem dX5_best_28 : decode cX5_best 28 = .ok (.bipush (-4), 2) := by decide +kernel
theorem dX5_best_30 : decode cX5_best 30 = .ok (.istore 4, 2) := by decide +kernel
theorem dX5_best_32 : decode cX5_best 32 = .ok (.bipush (-4), 2) := by decide +kernel
theorem dX5_best_34 : decode cX5_best 34 = .ok (.istore 5, 2) := by decide +kernel
theorem dX5_best_36 : decode cX5_best 36 = .ok (.iconst 0, 1) := by decide +kernel
theorem dX5_best_37 : decode cX5_best 37 = .ok (.istore 6, 2) := by decide +kernel
theorem dX5_best_39 : decode cX5_best 39 = .ok (.iload 6, 2) := by decide +kernel
theorem dX5_best_41 : decode cX5_best 41 = .ok (.aload_n 0, 1) := by decide +kernel
theorem dX5_best_42 : decode cX5_best 42 = .ok (.getfield 16, 3) := by decide +kernel
theorem dX5_best_45 : decode cX5_best 45 = .ok (.invokevirtual 228, 3) := by decide +kernel
theorem dX5_best_48 : decode cX5_best 48 = .ok (.if_icmp .ge 59, 3) := by decide +kernel
theorem dX5_best_51 : decode cX5_best 51 = .ok (.aload_n 0, 1) := by decide +kernel
theorem dX5_best_52 : decode cX5_best 52 = .ok (.getfield 25, 3) := by decide +kernel
theorem dX5_best_55 : decode cX5_best 55 = .ok (.iload 6, 2) := by decide +kernel
theorem dX5_best_57 : decode cX5_best 57 = .ok (.invokevirtual 179, 3) := by decide +kernel
theorem dX5_best_60 : decode cX5_best 60 = .ok (.ifCond .ne 6, 3) := by decide +kernel
theorem dX5_best_63 : decode cX5_best 63 = .ok (.goto 38, 3) := by decide +kernel
theorem dX5_best_66 : decode cX5_best 66 = .ok (.aload_n 0, 1) := by decide +kernel
theorem dX5_best_67 : decode cX5_best 67 = .ok (.iload_n 2, 1) := by decide +kernel
theorem dX5_best_68 : decode cX5_best 68 = .ok (.iload_n 1, 1) := by decide +kernel
theorem dX5_best_69 : decode cX5_best 69 = .ok (.iload 6, 2) := by decide +kernel
theorem dX5_best_71 : decode cX5_best 71 = .ok (.invokestatic 231, 3) := by decide +kernel
theorem dX5_best_74 : decode cX5_best 74 = .ok (.invokevirtual 207, 3) := by decide +kernel
theorem dX5_best_77 : decode cX5_best 77 = .ok (.istore 7, 2) := by decide +kernel
theorem dX5_best_79 : decode cX5_best 79 = .ok (.iload 4, 2) := by decide +kernel
theorem dX5_best_81 : decode cX5_best 81 = .ok (.bipush (-4), 2) := by decide +kernel
theorem dX5_best_83 : decode cX5_best 83 = .ok (.if_icmp .eq 10, 3) := by decide +kernel
theorem dX5_best_86 : decode cX5_best 86 = .ok (.iload 7, 2) := by decide +kernel
theorem dX5_best_88 : decode cX5_best 88 = .ok (.iload 5, 2) := by decide +kernel
theorem dX5_best_90 : decode cX5_best 90 = .ok (.if_icmp .le 11, 3) := by decide +kernel
theorem dX5_best_93 : decode cX5_best 93 = .ok (.iload 6, 2) := by decide +kernel
theorem dX5_best_95 : decode cX5_best 95 = .ok (.istore 4, 2) := by decide +kernel
theorem dX5_best_97 : decode cX5_best 97 = .ok (.iload 7, 2) := by decide +kernel
theorem dX5_best_99 : decode cX5_best 99 = .ok (.istore 5, 2) := by decide +kernel
theorem dX5_best_101 : decode cX5_best 101 = .ok (.iinc 6 1, 3) := by decide +kernel
theorem dX5_best_104 : decode cX5_best 104 = .ok (.goto (-65), 3) := by decide +kernel
theorem dX5_best_107 : decode cX5_best 107 = .ok (.iload_n 3, 1) := by decide +kernel
theorem dX5_best_108 : decode cX5_best 108 = .ok (.ifCond .ne 8, 3) := by decide +kernel
theorem dX5_best_111 : decode cX5_best 111 = .ok (.iload 4, 2) := by decide +kernel
theorem dX5_best_113 : decode cX5_best 113 = .ok (.goto 5, 3) := by decide +kernel
theorem dX5_best_116 : decode cX5_best 116 = .ok (.iload 5, 2) := by decide +kernel
theorem dX5_best_118 : decode cX5_best 118 = .ok (.ireturn, 1) := by decide +kernel
theorem dX5_see_0 : decode cX5_see 0 = .ok (.aload_n 0, 1) := by decide +kernel
theorem dX5_see_1 : decode cX5_see 1 = .ok (.getfield 25, 3) := by decide +kernel
theorem dX5_see_4 : decode cX5_see 4 = .ok (.iload_n 1, 1) := by decide +kernel
theorem dX5_see_5 : decode cX5_see 5 = .ok (.invokevirtual 125, 3) := by decide +kernel
theorem dX5_see_8 : decode cX5_see 8 = .ok (.ifCond .eq 24, 3) := by decide +kernel
theorem dX5_see_11 : decode cX5_see 11 = .ok (.aload_n 0, 1) := by decide +kernel
theorem dX5_see_12 : decode cX5_see 12 = .ok (.getfield 16, 3) := by decide +kernel
theorem dX5_see_15 : decode cX5_see 15 = .ok (.iload_n 2, 1) := by decide +kernel
theorem dX5_see_16 : decode cX5_see 16 = .ok (.invokevirtual 103, 3) := by decide +kernel
theorem dX5_see_19 : decode cX5_see 19 = .ok (.ifCond .eq 13, 3) := by decide +kernel
theorem dX5_see_22 : decode cX5_see 22 = .ok (.iload_n 3, 1) := by decide +kernel
theorem dX5_see_23 : decode cX5_see 23 = .ok (.iconst 0, 1) := by decide +kernel
theorem dX5_see_24 : decode cX5_see 24 = .ok (.bipush 20, 2) := by decide +kernel
theorem dX5_see_26 : decode cX5_see 26 = .ok (.invokestatic 165, 3) := by decide +kernel
theorem dX5_see_29 : decode cX5_see 29 = .ok (.ifCond .ne 5, 3) := by decide +kernel
theorem dX5_see_32 : decode cX5_see 32 = .ok (.iconst (-1), 1) := by decide +kernel
theorem dX5_see_33 : decode cX5_see 33 = .ok (.ireturn, 1) := by decide +kernel
theorem dX5_see_34 : decode cX5_see 34 = .ok (.aload_n 0, 1) := by decide +kernel
theorem dX5_see_35 : decode cX5_see 35 = .ok (.getfield 97, 3) := by decide +kernel
theorem dX5_see_38 : decode cX5_see 38 = .ok (.ifCond .lt 12, 3) := by decide +kernel
theorem dX5_see_41 : decode cX5_see 41 = .ok (.aload_n 0, 1) := by decide +kernel
theorem dX5_see_42 : decode cX5_see 42 = .ok (.getfield 97, 3) := by decide +kernel
theorem dX5_see_45 : decode cX5_see 45 = .ok (.bipush 6, 2) := by decide +kernel
theorem dX5_see_47 : decode cX5_see 47 = .ok (.if_icmp .lt 6, 3) := by decide +kernel
theorem dX5_see_50 : decode cX5_see 50 = .ok (.bipush (-3), 2) := by decide +kernel
theorem dX5_see_52 : decode cX5_see 52 = .ok (.ireturn, 1) := by decide +kernel
theorem dX5_see_53 : decode cX5_see 53 = .ok (.aload_n 0, 1) := by decide +kernel
theorem dX5_see_54 : decode cX5_see 54 = .ok (.getfield 51, 3) := by decide +kernel
theorem dX5_see_57 : decode cX5_see 57 = .ok (.aload_n 0, 1) := by decide +kernel
theorem dX5_see_58 : decode cX5_see 58 = .ok (.getfield 97, 3) := by decide +kernel
theorem dX5_see_61 : decode cX5_see 61 = .ok (.iload_n 1, 1) := by decide +kernel
theorem dX5_see_62 : decode cX5_see 62 = .ok (.iastore, 1) := by decide +kernel
theorem dX5_see_63 : decode cX5_see 63 = .ok (.aload_n 0, 1) := by decide +kernel
theorem dX5_see_64 : decode cX5_see 64 = .ok (.getfield 55, 3) := by decide +kernel
theorem dX5_see_67 : decode cX5_see 67 = .ok (.aload_n 0, 1) := by decide +kernel
theorem dX5_see_68 : decode cX5_see 68 = .ok (.getfield 97, 3) := by decide +kernel
theorem dX5_see_71 : decode cX5_see 71 = .ok (.iload_n 2, 1) := by decide +kernel
theorem dX5_see_72 : decode cX5_see 72 = .ok (.iastore, 1) := by decide +kernel
theorem dX5_see_73 : decode cX5_see 73 = .ok (.aload_n 0, 1) := by decide +kernel
theorem dX5_see_74 : decode cX5_see 74 = .ok (.getfield 58, 3) := by decide +kernel
theorem dX5_see_77 : decode cX5_see 77 = .ok (.aload_n 0, 1) := by decide +kernel
theorem dX5_see_78 : decode cX5_see 78 = .ok (.getfield 97, 3) := by decide +kernel
theorem dX5_see_81 : decode cX5_see 81 = .ok (.iload_n 3, 1) := by decide +kernel
theorem dX5_see_82 : decode cX5_see 82 = .ok (.iastore, 1) := by decide +kernel
theorem dX5_see_83 : decode cX5_see 83 = .ok (.aload_n 0, 1) := by decide +kernel
theorem dX5_see_84 : decode cX5_see 84 = .ok (.dup, 1) := by decide +kernel
theorem dX5_see_85 : decode cX5_see 85 = .ok (.getfield 97, 3) := by decide +kernel
theorem dX5_see_88 : decode cX5_see 88 = .ok (.iconst 1, 1) := by decide +kernel
theorem dX5_see_89 : decode cX5_see 89 = .ok (.iadd, 1) := by decide +kernel
theorem dX5_see_90 : decode cX5_see 90 = .ok (.putfield 97, 3) := by decide +kernel
theorem dX5_see_93 : decode cX5_see 93 = .ok (.aload_n 0, 1) := by decide +kernel
theorem dX5_see_94 : decode cX5_see 94 = .ok (.getfield 97, 3) := by decide +kernel
theorem dX5_see_97 : decode cX5_see 97 = .ok (.ireturn, 1) := by decide +kernel
theorem dX5_forget_0 : decode cX5_forget 0 = .ok (.aload_n 0, 1) := by decide +kernel
theorem dX5_forget_1 : decode cX5_forget 1 = .ok (.getfield 97, 3) := by decide +kernel
theorem dX5_forget_4 : decode cX5_forget 4 = .ok (.istore_n 1, 1) := by decide +kernel
theorem dX5_forget_5 : decode cX5_forget 5 = .ok (.aload_n 0, 1) := by decide +kernel
theorem dX5_forget_6 : decode cX5_forget 6 = .ok (.iconst 0, 1) := by decide +kernel
theorem dX5_forget_7 : decode cX5_forget 7 = .ok (.putfield 97, 3) := by decide +kernel
theorem dX5_forget_10 : decode cX5_forget 10 = .ok (.iload_n 1, 1) := by decide +kernel
theorem dX5_forget_11 : decode cX5_forget 11 = .ok (.ireturn, 1) := by decide +kernel
theorem dX5_fits_0 : decode cX5_fits 0 = .ok (.aload_n 0, 1) := by decide +kernel
theorem dX5_fits_1 : decode cX5_fits 1 = .ok (.getfield 25, 3) := by decide +kernel
theorem dX5_fits_4 : decode cX5_fits 4 = .ok (.iload_n 1, 1) := by decide +kernel
theorem dX5_fits_5 : decode cX5_fits 5 = .ok (.invokevirtual 125, 3) := by decide +kernel
theorem dX5_fits_8 : decode cX5_fits 8 = .ok (.ifCond .eq 12, 3) := by decide +kernel
theorem dX5_fits_11 : decode cX5_fits 11 = .ok (.iload_n 2, 1) := by decide +kernel
theorem dX5_fits_12 : decode cX5_fits 12 = .ok (.iconst 0, 1) := by decide +kernel
theorem dX5_fits_13 : decode cX5_fits 13 = .ok (.iconst 1, 1) := by decide +kernel
theorem dX5_fits_14 : decode cX5_fits 14 = .ok (.invokestatic 165, 3) := by decide +kernel
theorem dX5_fits_17 : decode cX5_fits 17 = .ok (.ifCond .ne 5, 3) := by decide +kernel
theorem dX5_fits_20 : decode cX5_fits 20 = .ok (.iconst (-1), 1) := by decide +kernel
theorem dX5_fits_21 : decode cX5_fits 21 = .ok (.ireturn, 1) := by decide +kernel
theorem dX5_fits_22 : decode cX5_fits 22 = .ok (.iconst 0, 1) := by decide +kernel
theorem dX5_fits_23 : decode cX5_fits 23 = .ok (.istore_n 3, 1) := by decide +kernel
theorem dX5_fits_24 : decode cX5_fits 24 = .ok (.iconst 0, 1) := by decide +kernel
theorem dX5_fits_25 : decode cX5_fits 25 = .ok (.istore 4, 2) := by decide +kernel
theorem dX5_fits_27 : decode cX5_fits 27 = .ok (.iload 4, 2) := by decide +kernel
theorem dX5_fits_29 : decode cX5_fits 29 = .ok (.iconst 4, 1) := by decide +kernel
theorem dX5_fits_30 : decode cX5_fits 30 = .ok (.if_icmp .ge 70, 3) := by decide +kernel
theorem dX5_fits_33 : decode cX5_fits 33 = .ok (.aload_n 0, 1) := by decide +kernel
theorem dX5_fits_34 : decode cX5_fits 34 = .ok (.getfield 29, 3) := by decide +kernel
theorem dX5_fits_37 : decode cX5_fits 37 = .ok (.aload_n 0, 1) := by decide +kernel
theorem dX5_fits_38 : decode cX5_fits 38 = .ok (.getfield 25, 3) := by decide +kernel
theorem dX5_fits_41 : decode cX5_fits 41 = .ok (.invokevirtual 87, 3) := by decide +kernel
theorem dX5_fits_44 : decode cX5_fits 44 = .ok (.iload_n 2, 1) := by decide +kernel
theorem dX5_fits_45 : decode cX5_fits 45 = .ok (.ifCond .ne 20, 3) := by decide +kernel
theorem dX5_fits_48 : decode cX5_fits 48 = .ok (.aload_n 0, 1) := by decide +kernel
theorem dX5_fits_49 : decode cX5_fits 49 = .ok (.getfield 29, 3) := by decide +kernel
theorem dX5_fits_52 : decode cX5_fits 52 = .ok (.getfield 126, 3) := by decide +kernel
theorem dX5_fits_55 : decode cX5_fits 55 = .ok (.iload_n 1, 1) := by decide +kernel
theorem dX5_fits_56 : decode cX5_fits 56 = .ok (.aaload, 1) := by decide +kernel
theorem dX5_fits_57 : decode cX5_fits 57 = .ok (.iload 4, 2) := by decide +kernel
theorem dX5_fits_59 : decode cX5_fits 59 = .ok (.putfield 135, 3) := by decide +kernel
theorem dX5_fits_62 : decode cX5_fits 62 = .ok (.goto 17, 3) := by decide +kernel
theorem dX5_fits_65 : decode cX5_fits 65 = .ok (.aload_n 0, 1) := by decide +kernel
theorem dX5_fits_66 : decode cX5_fits 66 = .ok (.getfield 29, 3) := by decide +kernel
theorem dX5_fits_69 : decode cX5_fits 69 = .ok (.getfield 126, 3) := by decide +kernel
theorem dX5_fits_72 : decode cX5_fits 72 = .ok (.iload_n 1, 1) := by decide +kernel
theorem dX5_fits_73 : decode cX5_fits 73 = .ok (.aaload, 1) := by decide +kernel
theorem dX5_fits_74 : decode cX5_fits 74 = .ok (.iload 4, 2) := by decide +kernel
theorem dX5_fits_76 : decode cX5_fits 76 = .ok (.putfield 130, 3) := by decide +kernel
theorem dX5_fits_79 : decode cX5_fits 79 = .ok (.aload_n 0, 1) := by decide +kernel
theorem dX5_fits_80 : decode cX5_fits 80 = .ok (.iload_n 1, 1) := by decide +kernel
theorem dX5_fits_81 : decode cX5_fits 81 = .ok (.invokevirtual 235, 3) := by decide +kernel
theorem dX5_fits_84 : decode cX5_fits 84 = .ok (.ifCond .eq 10, 3) := by decide +kernel
theorem dX5_fits_87 : decode cX5_fits 87 = .ok (.iload_n 3, 1) := by decide +kernel
theorem dX5_fits_88 : decode cX5_fits 88 = .ok (.iconst 1, 1) := by decide +kernel
theorem dX5_fits_89 : decode cX5_fits 89 = .ok (.iload 4, 2) := by decide +kernel
theorem dX5_fits_91 : decode cX5_fits 91 = .ok (.ishl, 1) := by decide +kernel
theorem dX5_fits_92 : decode cX5_fits 92 = .ok (.ior, 1) := by decide +kernel
theorem dX5_fits_93 : decode cX5_fits 93 = .ok (.istore_n 3, 1) := by decide +kernel
theorem dX5_fits_94 : decode cX5_fits 94 = .ok (.iinc 4 1, 3) := by decide +kernel
theorem dX5_fits_97 : decode cX5_fits 97 = .ok (.goto (-70), 3) := by decide +kernel
theorem dX5_fits_100 : decode cX5_fits 100 = .ok (.iload_n 3, 1) := by decide +kernel
theorem dX5_fits_101 : decode cX5_fits 101 = .ok (.ireturn, 1) := by decide +kernel
theorem dX5_frost_0 : decode cX5_frost 0 = .ok (.aload_n 0, 1) := by decide +kernel
theorem dX5_frost_1 : decode cX5_frost 1 = .ok (.getfield 25, 3) := by decide +kernel
theorem dX5_frost_4 : decode cX5_frost 4 = .ok (.iload_n 1, 1) := by decide +kernel
theorem dX5_frost_5 : decode cX5_frost 5 = .ok (.invokevirtual 125, 3) := by decide +kernel
theorem dX5_frost_8 : decode cX5_frost 8 = .ok (.ifCond .eq 45, 3) := by decide +kernel
theorem dX5_frost_11 : decode cX5_frost 11 = .ok (.aload_n 0, 1) := by decide +kernel
theorem dX5_frost_12 : decode cX5_frost 12 = .ok (.getfield 16, 3) := by decide +kernel
theorem dX5_frost_15 : decode cX5_frost 15 = .ok (.iload_n 2, 1) := by decide +kernel
theorem dX5_frost_16 : decode cX5_frost 16 = .ok (.invokevirtual 103, 3) := by decide +kernel
theorem dX5_frost_19 : decode cX5_frost 19 = .ok (.ifCond .eq 34, 3) := by decide +kernel
theorem dX5_frost_22 : decode cX5_frost 22 = .ok (.iload_n 3, 1) := by decide +kernel
theorem dX5_frost_23 : decode cX5_frost 23 = .ok (.iconst 0, 1) := by decide +kernel
theorem dX5_frost_24 : decode cX5_frost 24 = .ok (.bipush 8, 2) := by decide +kernel
theorem dX5_frost_26 : decode cX5_frost 26 = .ok (.invokestatic 165, 3) := by decide +kernel
theorem dX5_frost_29 : decode cX5_frost 29 = .ok (.ifCond .eq 24, 3) := by decide +kernel
theorem dX5_frost_32 : decode cX5_frost 32 = .ok (.iload 4, 2) := by decide +kernel
theorem dX5_frost_34 : decode cX5_frost 34 = .ok (.iconst 0, 1) := by decide +kernel
theorem dX5_frost_35 : decode cX5_frost 35 = .ok (.bipush 10, 2) := by decide +kernel
theorem dX5_frost_37 : decode cX5_frost 37 = .ok (.invokestatic 165, 3) := by decide +kernel
theorem dX5_frost_40 : decode cX5_frost 40 = .ok (.ifCond .eq 13, 3) := by decide +kernel
theorem dX5_frost_43 : decode cX5_frost 43 = .ok (.iload 5, 2) := by decide +kernel
theorem dX5_frost_45 : decode cX5_frost 45 = .ok (.iconst 0, 1) := by decide +kernel
theorem dX5_frost_46 : decode cX5_frost 46 = .ok (.iconst 1, 1) := by decide +kernel
theorem dX5_frost_47 : decode cX5_frost 47 = .ok (.invokestatic 165, 3) := by decide +kernel
theorem dX5_frost_50 : decode cX5_frost 50 = .ok (.ifCond .ne 5, 3) := by decide +kernel
theorem dX5_frost_53 : decode cX5_frost 53 = .ok (.iconst (-1), 1) := by decide +kernel
theorem dX5_frost_54 : decode cX5_frost 54 = .ok (.ireturn, 1) := by decide +kernel
theorem dX5_frost_55 : decode cX5_frost 55 = .ok (.aload_n 0, 1) := by decide +kernel
theorem dX5_frost_56 : decode cX5_frost 56 = .ok (.iload_n 1, 1) := by decide +kernel
theorem dX5_frost_57 : decode cX5_frost 57 = .ok (.iload_n 2, 1) := by decide +kernel
theorem dX5_frost_58 : decode cX5_frost 58 = .ok (.iload_n 3, 1) := by decide +kernel
theorem dX5_frost_59 : decode cX5_frost 59 = .ok (.iload 4, 2) := by decide +kernel
theorem dX5_frost_61 : decode cX5_frost 61 = .ok (.invokevirtual 238, 3) := by decide +kernel
theorem dX5_frost_64 : decode cX5_frost 64 = .ok (.lstore 6, 2) := by decide +kernel
theorem dX5_frost_66 : decode cX5_frost 66 = .ok (.lconst 1, 1) := by decide +kernel
theorem dX5_frost_67 : decode cX5_frost 67 = .ok (.lstore 8, 2) := by decide +kernel
theorem dX5_frost_69 : decode cX5_frost 69 = .ok (.iconst 0, 1) := by decide +kernel
theorem dX5_frost_70 : decode cX5_frost 70 = .ok (.istore 10, 2) := by decide +kernel
theorem dX5_frost_72 : decode cX5_frost 72 = .ok (.iload 10, 2) := by decide +kernel
theorem dX5_frost_74 : decode cX5_frost 74 = .ok (.iload_n 3, 1) := by decide +kernel
theorem dX5_frost_75 : decode cX5_frost 75 = .ok (.if_icmp .ge 17, 3) := by decide +kernel
theorem dX5_frost_78 : decode cX5_frost 78 = .ok (.lload 8, 2) := by decide +kernel
theorem dX5_frost_80 : decode cX5_frost 80 = .ok (.ldc2_w 242, 3) := by decide +kernel
theorem dX5_frost_83 : decode cX5_frost 83 = .ok (.lmul, 1) := by decide +kernel
theorem dX5_frost_84 : decode cX5_frost 84 = .ok (.lstore 8, 2) := by decide +kernel
theorem dX5_frost_86 : decode cX5_frost 86 = .ok (.iinc 10 1, 3) := by decide +kernel
theorem dX5_frost_89 : decode cX5_frost 89 = .ok (.goto (-17), 3) := by decide +kernel
theorem dX5_frost_92 : decode cX5_frost 92 = .ok (.iconst 0, 1) := by decide +kernel
theorem dX5_frost_93 : decode cX5_frost 93 = .ok (.istore 10, 2) := by decide +kernel
theorem dX5_frost_95 : decode cX5_frost 95 = .ok (.iload 10, 2) := by decide +kernel
theorem dX5_frost_97 : decode cX5_frost 97 = .ok (.iload_n 3, 1) := by decide +kernel
theorem dX5_frost_98 : decode cX5_frost 98 = .ok (.if_icmp .ge 85, 3) := by decide +kernel
theorem dX5_frost_101 : decode cX5_frost 101 = .ok (.lload 6, 2) := by decide +kernel
theorem dX5_frost_103 : decode cX5_frost 103 = .ok (.ldc2_w 244, 3) := by decide +kernel
theorem dX5_frost_106 : decode cX5_frost 106 = .ok (.lrem, 1) := by decide +kernel
theorem dX5_frost_107 : decode cX5_frost 107 = .ok (.lconst 0, 1) := by decide +kernel
theorem dX5_frost_108 : decode cX5_frost 108 = .ok (.lcmp, 1) := by decide +kernel
theorem dX5_frost_109 : decode cX5_frost 109 = .ok (.ifCond .ne 30, 3) := by decide +kernel
theorem dX5_frost_112 : decode cX5_frost 112 = .ok (.lload 8, 2) := by decide +kernel
theorem dX5_frost_114 : decode cX5_frost 114 = .ok (.ldc2_w 244, 3) := by decide +kernel
theorem dX5_frost_117 : decode cX5_frost 117 = .ok (.lrem, 1) := by decide +kernel
theorem dX5_frost_118 : decode cX5_frost 118 = .ok (.lconst 0, 1) := by decide +kernel
theorem dX5_frost_119 : decode cX5_frost 119 = .ok (.lcmp, 1) := by decide +kernel
theorem dX5_frost_120 : decode cX5_frost 120 = .ok (.ifCond .ne 19, 3) := by decide +kernel
theorem dX5_frost_123 : decode cX5_frost 123 = .ok (.lload 6, 2) := by decide +kernel
theorem dX5_frost_125 : decode cX5_frost 125 = .ok (.ldc2_w 244, 3) := by decide +kernel
theorem dX5_frost_128 : decode cX5_frost 128 = .ok (.ldiv, 1) := by decide +kernel
theorem dX5_frost_129 : decode cX5_frost 129 = .ok (.lstore 6, 2) := by decide +kernel
theorem dX5_frost_131 : decode cX5_frost 131 = .ok (.lload 8, 2) := by decide +kernel
theorem dX5_frost_133 : decode cX5_frost 133 = .ok (.ldc2_w 244, 3) := by decide +kernel
theorem dX5_frost_136 : decode cX5_frost 136 = .ok (.ldiv, 1) := by decide +kernel
theorem dX5_frost_137 : decode cX5_frost 137 = .ok (.lstore 8, 2) := by decide +kernel
theorem dX5_frost_139 : decode cX5_frost 139 = .ok (.lload 6, 2) := by decide +kernel
theorem dX5_frost_141 : decode cX5_frost 141 = .ok (.ldc2_w 246, 3) := by decide +kernel
theorem dX5_frost_144 : decode cX5_frost 144 = .ok (.lrem, 1) := by decide +kernel
theorem dX5_frost_145 : decode cX5_frost 145 = .ok (.lconst 0, 1) := by decide +kernel
theorem dX5_frost_146 : decode cX5_frost 146 = .ok (.lcmp, 1) := by decide +kernel
theorem dX5_frost_147 : decode cX5_frost 147 = .ok (.ifCond .ne 30, 3) := by decide +kernel
theorem dX5_frost_150 : decode cX5_frost 150 = .ok (.lload 8, 2) := by decide +kernel
theorem dX5_frost_152 : decode cX5_frost 152 = .ok (.ldc2_w 246, 3) := by decide +kernel
theorem dX5_frost_155 : decode cX5_frost 155 = .ok (.lrem, 1) := by decide +kernel
theorem dX5_frost_156 : decode cX5_frost 156 = .ok (.lconst 0, 1) := by decide +kernel
theorem dX5_frost_157 : decode cX5_frost 157 = .ok (.lcmp, 1) := by decide +kernel
theorem dX5_frost_158 : decode cX5_frost 158 = .ok (.ifCond .ne 19, 3) := by decide +kernel
theorem dX5_frost_161 : decode cX5_frost 161 = .ok (.lload 6, 2) := by decide +kernel
theorem dX5_frost_163 : decode cX5_frost 163 = .ok (.ldc2_w 246, 3) := by decide +kernel
theorem dX5_frost_166 : decode cX5_frost 166 = .ok (.ldiv, 1) := by decide +kernel
theorem dX5_frost_167 : decode cX5_frost 167 = .ok (.lstore 6, 2) := by decide +kernel
theorem dX5_frost_169 : decode cX5_frost 169 = .ok (.lload 8, 2) := by decide +kernel
theorem dX5_frost_171 : decode cX5_frost 171 = .ok (.ldc2_w 246, 3) := by decide +kernel
theorem dX5_frost_174 : decode cX5_frost 174 = .ok (.ldiv, 1) := by decide +kernel
theorem dX5_frost_175 : decode cX5_frost 175 = .ok (.lstore 8, 2) := by decide +kernel
theorem dX5_frost_177 : decode cX5_frost 177 = .ok (.iinc 10 1, 3) := by decide +kernel
theorem dX5_frost_180 : decode cX5_frost 180 = .ok (.goto (-85), 3) := by decide +kernel
theorem dX5_frost_183 : decode cX5_frost 183 = .ok (.iload 5, 2) := by decide +kernel
theorem dX5_frost_185 : decode cX5_frost 185 = .ok (.ifCond .ne 8, 3) := by decide +kernel
theorem dX5_frost_188 : decode cX5_frost 188 = .ok (.lload 6, 2) := by decide +kernel
theorem dX5_frost_190 : decode cX5_frost 190 = .ok (.goto 5, 3) := by decide +kernel
theorem dX5_frost_193 : decode cX5_frost 193 = .ok (.lload 8, 2) := by decide +kernel
theorem dX5_frost_195 : decode cX5_frost 195 = .ok (.l2i, 1) := by decide +kernel
theorem dX5_frost_196 : decode cX5_frost 196 = .ok (.ireturn, 1) := by decide +kernel
theorem dX5_century_0 : decode cX5_century 0 = .ok (.iload_n 1, 1) := by decide +kernel
theorem dX5_century_1 : decode cX5_century 1 = .ok (.iconst 0, 1) := by decide +kernel
theorem dX5_century_2 : decode cX5_century 2 = .ok (.sipush 9999, 3) := by decide +kernel
theorem dX5_century_5 : decode cX5_century 5 = .ok (.invokestatic 165, 3) := by decide +kernel
theorem dX5_century_8 : decode cX5_century 8 = .ok (.ifCond .eq 22, 3) := by decide +kernel
theorem dX5_century_11 : decode cX5_century 11 = .ok (.iload_n 2, 1) := by decide +kernel
theorem dX5_century_12 : decode cX5_century 12 = .ok (.iconst 1, 1) := by decide +kernel
theorem dX5_century_13 : decode cX5_century 13 = .ok (.bipush 60, 2) := by decide +kernel
theorem dX5_century_15 : decode cX5_century 15 = .ok (.invokestatic 165, 3) := by decide +kernel
theorem dX5_century_18 : decode cX5_century 18 = .ok (.ifCond .eq 12, 3) := by decide +kernel
theorem dX5_century_21 : decode cX5_century 21 = .ok (.iload_n 3, 1) := by decide +kernel
theorem dX5_century_22 : decode cX5_century 22 = .ok (.iconst 0, 1) := by decide +kernel
theorem dX5_century_23 : decode cX5_century 23 = .ok (.iconst 1, 1) := by decide +kernel
theorem dX5_century_24 : decode cX5_century 24 = .ok (.invokestatic 165, 3) := by decide +kernel
theorem dX5_century_27 : decode cX5_century 27 = .ok (.ifCond .ne 5, 3) := by decide +kernel
theorem dX5_century_30 : decode cX5_century 30 = .ok (.iconst (-1), 1) := by decide +kernel
theorem dX5_century_31 : decode cX5_century 31 = .ok (.ireturn, 1) := by decide +kernel
theorem dX5_century_32 : decode cX5_century 32 = .ok (.aload_n 0, 1) := by decide +kernel
theorem dX5_century_33 : decode cX5_century 33 = .ok (.getfield 29, 3) := by decide +kernel
theorem dX5_century_36 : decode cX5_century 36 = .ok (.aload_n 0, 1) := by decide +kernel
theorem dX5_century_37 : decode cX5_century 37 = .ok (.getfield 25, 3) := by decide +kernel
theorem dX5_century_40 : decode cX5_century 40 = .ok (.invokevirtual 87, 3) := by decide +kernel
theorem dX5_century_43 : decode cX5_century 43 = .ok (.iconst 0, 1) := by decide +kernel
theorem dX5_century_44 : decode cX5_century 44 = .ok (.istore 4, 2) := by decide +kernel
theorem dX5_century_46 : decode cX5_century 46 = .ok (.iload 4, 2) := by decide +kernel
theorem dX5_century_48 : decode cX5_century 48 = .ok (.iload_n 2, 1) := by decide +kernel
theorem dX5_century_49 : decode cX5_century 49 = .ok (.if_icmp .ge 27, 3) := by decide +kernel
theorem dX5_century_52 : decode cX5_century 52 = .ok (.aload_n 0, 1) := by decide +kernel
theorem dX5_century_53 : decode cX5_century 53 = .ok (.iload_n 1, 1) := by decide +kernel
theorem dX5_century_54 : decode cX5_century 54 = .ok (.iload 4, 2) := by decide +kernel
theorem dX5_century_56 : decode cX5_century 56 = .ok (.invokestatic 248, 3) := by decide +kernel
theorem dX5_century_59 : decode cX5_century 59 = .ok (.invokevirtual 251, 3) := by decide +kernel
theorem dX5_century_62 : decode cX5_century 62 = .ok (.aload_n 0, 1) := by decide +kernel
theorem dX5_century_63 : decode cX5_century 63 = .ok (.getfield 29, 3) := by decide +kernel
theorem dX5_century_66 : decode cX5_century 66 = .ok (.iconst 1, 1) := by decide +kernel
theorem dX5_century_67 : decode cX5_century 67 = .ok (.invokevirtual 172, 3) := by decide +kernel
theorem dX5_century_70 : decode cX5_century 70 = .ok (.iinc 4 1, 3) := by decide +kernel
theorem dX5_century_73 : decode cX5_century 73 = .ok (.goto (-27), 3) := by decide +kernel
theorem dX5_century_76 : decode cX5_century 76 = .ok (.iload_n 3, 1) := by decide +kernel
theorem dX5_century_77 : decode cX5_century 77 = .ok (.ifCond .ne 13, 3) := by decide +kernel
theorem dX5_century_80 : decode cX5_century 80 = .ok (.aload_n 0, 1) := by decide +kernel
theorem dX5_century_81 : decode cX5_century 81 = .ok (.getfield 29, 3) := by decide +kernel
theorem dX5_century_84 : decode cX5_century 84 = .ok (.invokevirtual 254, 3) := by decide +kernel
theorem dX5_century_87 : decode cX5_century 87 = .ok (.goto 13, 3) := by decide +kernel
theorem dX5_century_90 : decode cX5_century 90 = .ok (.aload_n 0, 1) := by decide +kernel
theorem dX5_century_91 : decode cX5_century 91 = .ok (.getfield 29, 3) := by decide +kernel
theorem dX5_century_94 : decode cX5_century 94 = .ok (.getfield 114, 3) := by decide +kernel
theorem dX5_century_97 : decode cX5_century 97 = .ok (.invokestatic 185, 3) := by decide +kernel
theorem dX5_century_100 : decode cX5_century 100 = .ok (.ireturn, 1) := by decide +kernel
theorem dX5_keep_0 : decode cX5_keep 0 = .ok (.aload_n 0, 1) := by decide +kernel
theorem dX5_keep_1 : decode cX5_keep 1 = .ok (.getfield 48, 3) := by decide +kernel
theorem dX5_keep_4 : decode cX5_keep 4 = .ok (.getfield 197, 3) := by decide +kernel
theorem dX5_keep_7 : decode cX5_keep 7 = .ok (.iconst 2, 1) := by decide +kernel
theorem dX5_keep_8 : decode cX5_keep 8 = .ok (.if_icmp .lt 6, 3) := by decide +kernel
theorem dX5_keep_11 : decode cX5_keep 11 = .ok (.bipush (-3), 2) := by decide +kernel
theorem dX5_keep_13 : decode cX5_keep 13 = .ok (.ireturn, 1) := by decide +kernel
theorem dX5_keep_14 : decode cX5_keep 14 = .ok (.aload_n 0, 1) := by decide +kernel
theorem dX5_keep_15 : decode cX5_keep 15 = .ok (.getfield 48, 3) := by decide +kernel
theorem dX5_keep_18 : decode cX5_keep 18 = .ok (.aload_n 0, 1) := by decide +kernel
theorem dX5_keep_19 : decode cX5_keep 19 = .ok (.getfield 25, 3) := by decide +kernel
theorem dX5_keep_22 : decode cX5_keep 22 = .ok (.invokevirtual 169, 3) := by decide +kernel
theorem dX5_keep_25 : decode cX5_keep 25 = .ok (.aload_n 0, 1) := by decide +kernel
theorem dX5_keep_26 : decode cX5_keep 26 = .ok (.getfield 48, 3) := by decide +kernel
theorem dX5_keep_29 : decode cX5_keep 29 = .ok (.getfield 197, 3) := by decide +kernel
theorem dX5_keep_32 : decode cX5_keep 32 = .ok (.ireturn, 1) := by decide +kernel
theorem dX5_back_0 : decode cX5_back 0 = .ok (.aload_n 0, 1) := by decide +kernel
theorem dX5_back_1 : decode cX5_back 1 = .ok (.getfield 48, 3) := by decide +kernel
theorem dX5_back_4 : decode cX5_back 4 = .ok (.getfield 197, 3) := by decide +kernel
theorem dX5_back_7 : decode cX5_back 7 = .ok (.ifCond .ne 6, 3) := by decide +kernel
theorem dX5_back_10 : decode cX5_back 10 = .ok (.bipush (-2), 2) := by decide +kernel
theorem dX5_back_12 : decode cX5_back 12 = .ok (.ireturn, 1) := by decide +kernel
theorem dX5_back_13 : decode cX5_back 13 = .ok (.aload_n 0, 1) := by decide +kernel
theorem dX5_back_14 : decode cX5_back 14 = .ok (.getfield 48, 3) := by decide +kernel
theorem dX5_back_17 : decode cX5_back 17 = .ok (.aload_n 0, 1) := by decide +kernel
theorem dX5_back_18 : decode cX5_back 18 = .ok (.getfield 25, 3) := by decide +kernel
theorem dX5_back_21 : decode cX5_back 21 = .ok (.invokevirtual 200, 3) := by decide +kernel
theorem dX5_back_24 : decode cX5_back 24 = .ok (.aload_n 0, 1) := by decide +kernel
theorem dX5_back_25 : decode cX5_back 25 = .ok (.getfield 44, 3) := by decide +kernel
theorem dX5_back_28 : decode cX5_back 28 = .ok (.invokevirtual 100, 3) := by decide +kernel
theorem dX5_back_31 : decode cX5_back 31 = .ok (.aload_n 0, 1) := by decide +kernel
theorem dX5_back_32 : decode cX5_back 32 = .ok (.getfield 48, 3) := by decide +kernel
theorem dX5_back_35 : decode cX5_back 35 = .ok (.getfield 197, 3) := by decide +kernel
theorem dX5_back_38 : decode cX5_back 38 = .ok (.ireturn, 1) := by decide +kernel
theorem dX5_count_0 : decode cX5_count 0 = .ok (.iload_n 1, 1) := by decide +kernel
theorem dX5_count_1 : decode cX5_count 1 = .ok (.tableswitch 174 0 11 #[63, 71, 79, 87, 95, 118, 129, 140, 148, 153, 161, 169], 63) := by decide +kernel
theorem dX5_count_64 : decode cX5_count 64 = .ok (.aload_n 0, 1) := by decide +kernel
theorem dX5_count_65 : decode cX5_count 65 = .ok (.getfield 16, 3) := by decide +kernel
theorem dX5_count_68 : decode cX5_count 68 = .ok (.invokevirtual 228, 3) := by decide +kernel
theorem dX5_count_71 : decode cX5_count 71 = .ok (.ireturn, 1) := by decide +kernel
theorem dX5_count_72 : decode cX5_count 72 = .ok (.aload_n 0, 1) := by decide +kernel
theorem dX5_count_73 : decode cX5_count 73 = .ok (.getfield 16, 3) := by decide +kernel
theorem dX5_count_76 : decode cX5_count 76 = .ok (.getfield 257, 3) := by decide +kernel
theorem dX5_count_79 : decode cX5_count 79 = .ok (.ireturn, 1) := by decide +kernel
theorem dX5_count_80 : decode cX5_count 80 = .ok (.aload_n 0, 1) := by decide +kernel
theorem dX5_count_81 : decode cX5_count 81 = .ok (.getfield 25, 3) := by decide +kernel
theorem dX5_count_84 : decode cX5_count 84 = .ok (.getfield 94, 3) := by decide +kernel
theorem dX5_count_87 : decode cX5_count 87 = .ok (.ireturn, 1) := by decide +kernel
theorem dX5_count_88 : decode cX5_count 88 = .ok (.aload_n 0, 1) := by decide +kernel
theorem dX5_count_89 : decode cX5_count 89 = .ok (.getfield 25, 3) := by decide +kernel
theorem dX5_count_92 : decode cX5_count 92 = .ok (.getfield 176, 3) := by decide +kernel
theorem dX5_count_95 : decode cX5_count 95 = .ok (.ireturn, 1) := by decide +kernel
theorem dX5_count_96 : decode cX5_count 96 = .ok (.aload_n 0, 1) := by decide +kernel
theorem dX5_count_97 : decode cX5_count 97 = .ok (.getfield 25, 3) := by decide +kernel
theorem dX5_count_100 : decode cX5_count 100 = .ok (.getfield 260, 3) := by decide +kernel
theorem dX5_count_103 : decode cX5_count 103 = .ok (.aload_n 0, 1) := by decide +kernel
theorem dX5_count_104 : decode cX5_count 104 = .ok (.getfield 25, 3) := by decide +kernel
theorem dX5_count_107 : decode cX5_count 107 = .ok (.getfield 263, 3) := by decide +kernel
theorem dX5_count_110 : decode cX5_count 110 = .ok (.ldc2_w 266, 3) := by decide +kernel
theorem dX5_count_113 : decode cX5_count 113 = .ok (.lxor, 1) := by decide +kernel
theorem dX5_count_114 : decode cX5_count 114 = .ok (.land, 1) := by decide +kernel
theorem dX5_count_115 : decode cX5_count 115 = .ok (.invokestatic 185, 3) := by decide +kernel
theorem dX5_count_118 : decode cX5_count 118 = .ok (.ireturn, 1) := by decide +kernel
theorem dX5_count_119 : decode cX5_count 119 = .ok (.aload_n 0, 1) := by decide +kernel
theorem dX5_count_120 : decode cX5_count 120 = .ok (.getfield 25, 3) := by decide +kernel
theorem dX5_count_123 : decode cX5_count 123 = .ok (.getfield 263, 3) := by decide +kernel
theorem dX5_count_126 : decode cX5_count 126 = .ok (.invokestatic 185, 3) := by decide +kernel
theorem dX5_count_129 : decode cX5_count 129 = .ok (.ireturn, 1) := by decide +kernel
theorem dX5_count_130 : decode cX5_count 130 = .ok (.aload_n 0, 1) := by decide +kernel
theorem dX5_count_131 : decode cX5_count 131 = .ok (.getfield 25, 3) := by decide +kernel
theorem dX5_count_134 : decode cX5_count 134 = .ok (.getfield 114, 3) := by decide +kernel
theorem dX5_count_137 : decode cX5_count 137 = .ok (.invokestatic 185, 3) := by decide +kernel
theorem dX5_count_140 : decode cX5_count 140 = .ok (.ireturn, 1) := by decide +kernel
theorem dX5_count_141 : decode cX5_count 141 = .ok (.aload_n 0, 1) := by decide +kernel
theorem dX5_count_142 : decode cX5_count 142 = .ok (.getfield 25, 3) := by decide +kernel
theorem dX5_count_145 : decode cX5_count 145 = .ok (.invokevirtual 254, 3) := by decide +kernel
theorem dX5_count_148 : decode cX5_count 148 = .ok (.ireturn, 1) := by decide +kernel
theorem dX5_count_149 : decode cX5_count 149 = .ok (.aload_n 0, 1) := by decide +kernel
theorem dX5_count_150 : decode cX5_count 150 = .ok (.getfield 97, 3) := by decide +kernel
theorem dX5_count_153 : decode cX5_count 153 = .ok (.ireturn, 1) := by decide +kernel
theorem dX5_count_154 : decode cX5_count 154 = .ok (.aload_n 0, 1) := by decide +kernel
theorem dX5_count_155 : decode cX5_count 155 = .ok (.getfield 44, 3) := by decide +kernel
theorem dX5_count_158 : decode cX5_count 158 = .ok (.getfield 197, 3) := by decide +kernel
theorem dX5_count_161 : decode cX5_count 161 = .ok (.ireturn, 1) := by decide +kernel
theorem dX5_count_162 : decode cX5_count 162 = .ok (.aload_n 0, 1) := by decide +kernel
theorem dX5_count_163 : decode cX5_count 163 = .ok (.getfield 48, 3) := by decide +kernel
theorem dX5_count_166 : decode cX5_count 166 = .ok (.getfield 197, 3) := by decide +kernel
theorem dX5_count_169 : decode cX5_count 169 = .ok (.ireturn, 1) := by decide +kernel
theorem dX5_count_170 : decode cX5_count 170 = .ok (.aload_n 0, 1) := by decide +kernel
theorem dX5_count_171 : decode cX5_count 171 = .ok (.getfield 90, 3) := by decide +kernel
theorem dX5_count_174 : decode cX5_count 174 = .ok (.ireturn, 1) := by decide +kernel
theorem dX5_count_175 : decode cX5_count 175 = .ok (.iconst (-1), 1) := by decide +kernel
theorem dX5_count_176 : decode cX5_count 176 = .ok (.ireturn, 1) := by decide +kernel
theorem dX5_isWithin_0 : decode cX5_isWithin 0 = .ok (.iload_n 0, 1) := by decide +kernel
theorem dX5_isWithin_1 : decode cX5_isWithin 1 = .ok (.iload_n 1, 1) := by decide +kernel
theorem dX5_isWithin_2 : decode cX5_isWithin 2 = .ok (.if_icmp .lt 12, 3) := by decide +kernel
theorem dX5_isWithin_5 : decode cX5_isWithin 5 = .ok (.iload_n 0, 1) := by decide +kernel
theorem dX5_isWithin_6 : decode cX5_isWithin 6 = .ok (.iload_n 2, 1) := by decide +kernel
theorem dX5_isWithin_7 : decode cX5_isWithin 7 = .ok (.if_icmp .gt 7, 3) := by decide +kernel
theorem dX5_isWithin_10 : decode cX5_isWithin 10 = .ok (.iconst 1, 1) := by decide +kernel
theorem dX5_isWithin_11 : decode cX5_isWithin 11 = .ok (.goto 4, 3) := by decide +kernel
theorem dX5_isWithin_14 : decode cX5_isWithin 14 = .ok (.iconst 0, 1) := by decide +kernel
theorem dX5_isWithin_15 : decode cX5_isWithin 15 = .ok (.ireturn, 1) := by decide +kernel
theorem dX5_isOwner_0 : decode cX5_isOwner 0 = .ok (.iload_n 0, 1) := by decide +kernel
theorem dX5_isOwner_1 : decode cX5_isOwner 1 = .ok (.ifCond .lt 12, 3) := by decide +kernel
theorem dX5_isOwner_4 : decode cX5_isOwner 4 = .ok (.iload_n 0, 1) := by decide +kernel
theorem dX5_isOwner_5 : decode cX5_isOwner 5 = .ok (.iconst 4, 1) := by decide +kernel
theorem dX5_isOwner_6 : decode cX5_isOwner 6 = .ok (.if_icmp .ge 7, 3) := by decide +kernel
theorem dX5_isOwner_9 : decode cX5_isOwner 9 = .ok (.iconst 1, 1) := by decide +kernel
theorem dX5_isOwner_10 : decode cX5_isOwner 10 = .ok (.goto 4, 3) := by decide +kernel
theorem dX5_isOwner_13 : decode cX5_isOwner 13 = .ok (.iconst 0, 1) := by decide +kernel
theorem dX5_isOwner_14 : decode cX5_isOwner 14 = .ok (.ireturn, 1) := by decide +kernel
theorem dX5_bit_0 : decode cX5_bit 0 = .ok (.iload_n 0, 1) := by decide +kernel
theorem dX5_bit_1 : decode cX5_bit 1 = .ok (.ifCond .lt 15, 3) := by decide +kernel
theorem dX5_bit_4 : decode cX5_bit 4 = .ok (.iload_n 0, 1) := by decide +kernel
theorem dX5_bit_5 : decode cX5_bit 5 = .ok (.bipush 36, 2) := by decide +kernel
theorem dX5_bit_7 : decode cX5_bit 7 = .ok (.if_icmp .ge 9, 3) := by decide +kernel
theorem dX5_bit_10 : decode cX5_bit 10 = .ok (.lconst 1, 1) := by decide +kernel
theorem dX5_bit_11 : decode cX5_bit 11 = .ok (.iload_n 0, 1) := by decide +kernel
theorem dX5_bit_12 : decode cX5_bit 12 = .ok (.lshl, 1) := by decide +kernel
theorem dX5_bit_13 : decode cX5_bit 13 = .ok (.goto 4, 3) := by decide +kernel
theorem dX5_bit_16 : decode cX5_bit 16 = .ok (.lconst 0, 1) := by decide +kernel
theorem dX5_bit_17 : decode cX5_bit 17 = .ok (.lreturn, 1) := by decide +kernel
theorem dX5_contains_0 : decode cX5_contains 0 = .ok (.iload_n 2, 1) := by decide +kernel
theorem dX5_contains_1 : decode cX5_contains 1 = .ok (.ifCond .lt 23, 3) := by decide +kernel
theorem dX5_contains_4 : decode cX5_contains 4 = .ok (.iload_n 2, 1) := by decide +kernel
theorem dX5_contains_5 : decode cX5_contains 5 = .ok (.bipush 36, 2) := by decide +kernel
theorem dX5_contains_7 : decode cX5_contains 7 = .ok (.if_icmp .ge 17, 3) := by decide +kernel
theorem dX5_contains_10 : decode cX5_contains 10 = .ok (.lload_n 0, 1) := by decide +kernel
theorem dX5_contains_11 : decode cX5_contains 11 = .ok (.iload_n 2, 1) := by decide +kernel
theorem dX5_contains_12 : decode cX5_contains 12 = .ok (.lushr, 1) := by decide +kernel
theorem dX5_contains_13 : decode cX5_contains 13 = .ok (.lconst 1, 1) := by decide +kernel
theorem dX5_contains_14 : decode cX5_contains 14 = .ok (.land, 1) := by decide +kernel
theorem dX5_contains_15 : decode cX5_contains 15 = .ok (.lconst 0, 1) := by decide +kernel
theorem dX5_contains_16 : decode cX5_contains 16 = .ok (.lcmp, 1) := by decide +kernel
theorem dX5_contains_17 : decode cX5_contains 17 = .ok (.ifCond .eq 7, 3) := by decide +kernel
theorem dX5_contains_20 : decode cX5_contains 20 = .ok (.iconst 1, 1) := by decide +kernel
theorem dX5_contains_21 : decode cX5_contains 21 = .ok (.goto 4, 3) := by decide +kernel
theorem dX5_contains_24 : decode cX5_contains 24 = .ok (.iconst 0, 1) := by decide +kernel
theorem dX5_contains_25 : decode cX5_contains 25 = .ok (.ireturn, 1) := by decide +kernel
theorem dX5_firstTreeBehind_0 : decode cX5_firstTreeBehind 0 = .ok (.aload_n 0, 1) := by decide +kernel
theorem dX5_firstTreeBehind_1 : decode cX5_firstTreeBehind 1 = .ok (.getfield 29, 3) := by decide +kernel
theorem dX5_firstTreeBehind_4 : decode cX5_firstTreeBehind 4 = .ok (.aload_n 0, 1) := by decide +kernel
theorem dX5_firstTreeBehind_5 : decode cX5_firstTreeBehind 5 = .ok (.getfield 25, 3) := by decide +kernel
theorem dX5_firstTreeBehind_8 : decode cX5_firstTreeBehind 8 = .ok (.invokevirtual 87, 3) := by decide +kernel
theorem dX5_firstTreeBehind_11 : decode cX5_firstTreeBehind 11 = .ok (.aload_n 0, 1) := by decide +kernel
theorem dX5_firstTreeBehind_12 : decode cX5_firstTreeBehind 12 = .ok (.getfield 29, 3) := by decide +kernel
theorem dX5_firstTreeBehind_15 : decode cX5_firstTreeBehind 15 = .ok (.dup, 1) := by decide +kernel
theorem dX5_firstTreeBehind_16 : decode cX5_firstTreeBehind 16 = .ok (.getfield 114, 3) := by decide +kernel
theorem dX5_firstTreeBehind_19 : decode cX5_firstTreeBehind 19 = .ok (.lload_n 3, 1) := by decide +kernel
theorem dX5_firstTreeBehind_20 : decode cX5_firstTreeBehind 20 = .ok (.lor, 1) := by decide +kernel
theorem dX5_firstTreeBehind_21 : decode cX5_firstTreeBehind 21 = .ok (.putfield 114, 3) := by decide +kernel
theorem dX5_firstTreeBehind_24 : decode cX5_firstTreeBehind 24 = .ok (.iconst 0, 1) := by decide +kernel
theorem dX5_firstTreeBehind_25 : decode cX5_firstTreeBehind 25 = .ok (.istore 5, 2) := by decide +kernel
theorem dX5_firstTreeBehind_27 : decode cX5_firstTreeBehind 27 = .ok (.iload 5, 2) := by decide +kernel
theorem dX5_firstTreeBehind_29 : decode cX5_firstTreeBehind 29 = .ok (.iload_n 1, 1) := by decide +kernel
theorem dX5_firstTreeBehind_30 : decode cX5_firstTreeBehind 30 = .ok (.if_icmp .ge 18, 3) := by decide +kernel
theorem dX5_firstTreeBehind_33 : decode cX5_firstTreeBehind 33 = .ok (.aload_n 0, 1) := by decide +kernel
theorem dX5_firstTreeBehind_34 : decode cX5_firstTreeBehind 34 = .ok (.getfield 29, 3) := by decide +kernel
theorem dX5_firstTreeBehind_37 : decode cX5_firstTreeBehind 37 = .ok (.bipush (-4), 2) := by decide +kernel
theorem dX5_firstTreeBehind_39 : decode cX5_firstTreeBehind 39 = .ok (.invokevirtual 210, 3) := by decide +kernel
theorem dX5_firstTreeBehind_42 : decode cX5_firstTreeBehind 42 = .ok (.iinc 5 1, 3) := by decide +kernel
theorem dX5_firstTreeBehind_45 : decode cX5_firstTreeBehind 45 = .ok (.goto (-18), 3) := by decide +kernel
theorem dX5_firstTreeBehind_48 : decode cX5_firstTreeBehind 48 = .ok (.aload_n 0, 1) := by decide +kernel
theorem dX5_firstTreeBehind_49 : decode cX5_firstTreeBehind 49 = .ok (.getfield 29, 3) := by decide +kernel
theorem dX5_firstTreeBehind_52 : decode cX5_firstTreeBehind 52 = .ok (.iload_n 2, 1) := by decide +kernel
theorem dX5_firstTreeBehind_53 : decode cX5_firstTreeBehind 53 = .ok (.invokevirtual 125, 3) := by decide +kernel
theorem dX5_firstTreeBehind_56 : decode cX5_firstTreeBehind 56 = .ok (.ifCond .eq 18, 3) := by decide +kernel
theorem dX5_firstTreeBehind_59 : decode cX5_firstTreeBehind 59 = .ok (.aload_n 0, 1) := by decide +kernel
theorem dX5_firstTreeBehind_60 : decode cX5_firstTreeBehind 60 = .ok (.getfield 29, 3) := by decide +kernel
theorem dX5_firstTreeBehind_63 : decode cX5_firstTreeBehind 63 = .ok (.getfield 126, 3) := by decide +kernel
theorem dX5_firstTreeBehind_66 : decode cX5_firstTreeBehind 66 = .ok (.iload_n 2, 1) := by decide +kernel
theorem dX5_firstTreeBehind_67 : decode cX5_firstTreeBehind 67 = .ok (.aaload, 1) := by decide +kernel
theorem dX5_firstTreeBehind_68 : decode cX5_firstTreeBehind 68 = .ok (.invokevirtual 144, 3) := by decide +kernel
theorem dX5_firstTreeBehind_71 : decode cX5_firstTreeBehind 71 = .ok (.goto 5, 3) := by decide +kernel
theorem dX5_firstTreeBehind_74 : decode cX5_firstTreeBehind 74 = .ok (.bipush (-4), 2) := by decide +kernel
theorem dX5_firstTreeBehind_76 : decode cX5_firstTreeBehind 76 = .ok (.ireturn, 1) := by decide +kernel
theorem dX5_ownedBehind_0 : decode cX5_ownedBehind 0 = .ok (.aload_n 0, 1) := by decide +kernel
theorem dX5_ownedBehind_1 : decode cX5_ownedBehind 1 = .ok (.getfield 29, 3) := by decide +kernel
theorem dX5_ownedBehind_4 : decode cX5_ownedBehind 4 = .ok (.aload_n 0, 1) := by decide +kernel
theorem dX5_ownedBehind_5 : decode cX5_ownedBehind 5 = .ok (.getfield 25, 3) := by decide +kernel
theorem dX5_ownedBehind_8 : decode cX5_ownedBehind 8 = .ok (.invokevirtual 87, 3) := by decide +kernel
theorem dX5_ownedBehind_11 : decode cX5_ownedBehind 11 = .ok (.aload_n 0, 1) := by decide +kernel
theorem dX5_ownedBehind_12 : decode cX5_ownedBehind 12 = .ok (.getfield 29, 3) := by decide +kernel
theorem dX5_ownedBehind_15 : decode cX5_ownedBehind 15 = .ok (.dup, 1) := by decide +kernel
theorem dX5_ownedBehind_16 : decode cX5_ownedBehind 16 = .ok (.getfield 114, 3) := by decide +kernel
theorem dX5_ownedBehind_19 : decode cX5_ownedBehind 19 = .ok (.lload_n 3, 1) := by decide +kernel
theorem dX5_ownedBehind_20 : decode cX5_ownedBehind 20 = .ok (.lor, 1) := by decide +kernel
theorem dX5_ownedBehind_21 : decode cX5_ownedBehind 21 = .ok (.putfield 114, 3) := by decide +kernel
theorem dX5_ownedBehind_24 : decode cX5_ownedBehind 24 = .ok (.aload_n 0, 1) := by decide +kernel
theorem dX5_ownedBehind_25 : decode cX5_ownedBehind 25 = .ok (.getfield 29, 3) := by decide +kernel
theorem dX5_ownedBehind_28 : decode cX5_ownedBehind 28 = .ok (.iload_n 1, 1) := by decide +kernel
theorem dX5_ownedBehind_29 : decode cX5_ownedBehind 29 = .ok (.invokevirtual 172, 3) := by decide +kernel
theorem dX5_ownedBehind_32 : decode cX5_ownedBehind 32 = .ok (.iload_n 2, 1) := by decide +kernel
theorem dX5_ownedBehind_33 : decode cX5_ownedBehind 33 = .ok (.invokestatic 159, 3) := by decide +kernel
theorem dX5_ownedBehind_36 : decode cX5_ownedBehind 36 = .ok (.ifCond .eq 15, 3) := by decide +kernel
theorem dX5_ownedBehind_39 : decode cX5_ownedBehind 39 = .ok (.aload_n 0, 1) := by decide +kernel
theorem dX5_ownedBehind_40 : decode cX5_ownedBehind 40 = .ok (.getfield 29, 3) := by decide +kernel
theorem dX5_ownedBehind_43 : decode cX5_ownedBehind 43 = .ok (.getfield 162, 3) := by decide +kernel
theorem dX5_ownedBehind_46 : decode cX5_ownedBehind 46 = .ok (.iload_n 2, 1) := by decide +kernel
theorem dX5_ownedBehind_47 : decode cX5_ownedBehind 47 = .ok (.iaload, 1) := by decide +kernel
theorem dX5_ownedBehind_48 : decode cX5_ownedBehind 48 = .ok (.goto 4, 3) := by decide +kernel
theorem dX5_ownedBehind_51 : decode cX5_ownedBehind 51 = .ok (.iconst 0, 1) := by decide +kernel
theorem dX5_ownedBehind_52 : decode cX5_ownedBehind 52 = .ok (.ireturn, 1) := by decide +kernel
theorem dX5_noneOrOneDitch_0 : decode cX5_noneOrOneDitch 0 = .ok (.aload_n 0, 1) := by decide +kernel
theorem dX5_noneOrOneDitch_1 : decode cX5_noneOrOneDitch 1 = .ok (.iload_n 3, 1) := by decide +kernel
theorem dX5_noneOrOneDitch_2 : decode cX5_noneOrOneDitch 2 = .ok (.iload_n 1, 1) := by decide +kernel
theorem dX5_noneOrOneDitch_3 : decode cX5_noneOrOneDitch 3 = .ok (.lconst 0, 1) := by decide +kernel
theorem dX5_noneOrOneDitch_4 : decode cX5_noneOrOneDitch 4 = .ok (.invokevirtual 203, 3) := by decide +kernel
theorem dX5_noneOrOneDitch_7 : decode cX5_noneOrOneDitch 7 = .ok (.iload_n 2, 1) := by decide +kernel
theorem dX5_noneOrOneDitch_8 : decode cX5_noneOrOneDitch 8 = .ok (.if_icmp .ne 5, 3) := by decide +kernel
theorem dX5_noneOrOneDitch_11 : decode cX5_noneOrOneDitch 11 = .ok (.iconst 0, 1) := by decide +kernel
theorem dX5_noneOrOneDitch_12 : decode cX5_noneOrOneDitch 12 = .ok (.ireturn, 1) := by decide +kernel
theorem dX5_noneOrOneDitch_13 : decode cX5_noneOrOneDitch 13 = .ok (.aload_n 0, 1) := by decide +kernel
theorem dX5_noneOrOneDitch_14 : decode cX5_noneOrOneDitch 14 = .ok (.getfield 29, 3) := by decide +kernel
theorem dX5_noneOrOneDitch_17 : decode cX5_noneOrOneDitch 17 = .ok (.getfield 268, 3) := by decide +kernel
theorem dX5_noneOrOneDitch_20 : decode cX5_noneOrOneDitch 20 = .ok (.lstore 4, 2) := by decide +kernel
theorem dX5_noneOrOneDitch_22 : decode cX5_noneOrOneDitch 22 = .ok (.iconst 0, 1) := by decide +kernel
theorem dX5_noneOrOneDitch_23 : decode cX5_noneOrOneDitch 23 = .ok (.istore 6, 2) := by decide +kernel
theorem dX5_noneOrOneDitch_25 : decode cX5_noneOrOneDitch 25 = .ok (.iload 6, 2) := by decide +kernel
theorem dX5_noneOrOneDitch_27 : decode cX5_noneOrOneDitch 27 = .ok (.aload_n 0, 1) := by decide +kernel
theorem dX5_noneOrOneDitch_28 : decode cX5_noneOrOneDitch 28 = .ok (.getfield 16, 3) := by decide +kernel
theorem dX5_noneOrOneDitch_31 : decode cX5_noneOrOneDitch 31 = .ok (.invokevirtual 228, 3) := by decide +kernel
theorem dX5_noneOrOneDitch_34 : decode cX5_noneOrOneDitch 34 = .ok (.if_icmp .ge 86, 3) := by decide +kernel
theorem dX5_noneOrOneDitch_37 : decode cX5_noneOrOneDitch 37 = .ok (.iload 6, 2) := by decide +kernel
theorem dX5_noneOrOneDitch_39 : decode cX5_noneOrOneDitch 39 = .ok (.bipush 36, 2) := by decide +kernel
theorem dX5_noneOrOneDitch_41 : decode cX5_noneOrOneDitch 41 = .ok (.if_icmp .ge 79, 3) := by decide +kernel
theorem dX5_noneOrOneDitch_44 : decode cX5_noneOrOneDitch 44 = .ok (.aload_n 0, 1) := by decide +kernel
theorem dX5_noneOrOneDitch_45 : decode cX5_noneOrOneDitch 45 = .ok (.getfield 64, 3) := by decide +kernel
theorem dX5_noneOrOneDitch_48 : decode cX5_noneOrOneDitch 48 = .ok (.iload 6, 2) := by decide +kernel
theorem dX5_noneOrOneDitch_50 : decode cX5_noneOrOneDitch 50 = .ok (.lload 4, 2) := by decide +kernel
theorem dX5_noneOrOneDitch_52 : decode cX5_noneOrOneDitch 52 = .ok (.lastore, 1) := by decide +kernel
theorem dX5_noneOrOneDitch_53 : decode cX5_noneOrOneDitch 53 = .ok (.aload_n 0, 1) := by decide +kernel
theorem dX5_noneOrOneDitch_54 : decode cX5_noneOrOneDitch 54 = .ok (.getfield 25, 3) := by decide +kernel
theorem dX5_noneOrOneDitch_57 : decode cX5_noneOrOneDitch 57 = .ok (.iload 6, 2) := by decide +kernel
theorem dX5_noneOrOneDitch_59 : decode cX5_noneOrOneDitch 59 = .ok (.invokevirtual 179, 3) := by decide +kernel
theorem dX5_noneOrOneDitch_62 : decode cX5_noneOrOneDitch 62 = .ok (.ifCond .eq 52, 3) := by decide +kernel
theorem dX5_noneOrOneDitch_65 : decode cX5_noneOrOneDitch 65 = .ok (.lload 4, 2) := by decide +kernel
theorem dX5_noneOrOneDitch_67 : decode cX5_noneOrOneDitch 67 = .ok (.iload 6, 2) := by decide +kernel
theorem dX5_noneOrOneDitch_69 : decode cX5_noneOrOneDitch 69 = .ok (.invokestatic 118, 3) := by decide +kernel
theorem dX5_noneOrOneDitch_72 : decode cX5_noneOrOneDitch 72 = .ok (.ifCond .eq 42, 3) := by decide +kernel
theorem dX5_noneOrOneDitch_75 : decode cX5_noneOrOneDitch 75 = .ok (.aload_n 0, 1) := by decide +kernel
theorem dX5_noneOrOneDitch_76 : decode cX5_noneOrOneDitch 76 = .ok (.iload_n 3, 1) := by decide +kernel
theorem dX5_noneOrOneDitch_77 : decode cX5_noneOrOneDitch 77 = .ok (.iload_n 1, 1) := by decide +kernel
theorem dX5_noneOrOneDitch_78 : decode cX5_noneOrOneDitch 78 = .ok (.iload 6, 2) := by decide +kernel
theorem dX5_noneOrOneDitch_80 : decode cX5_noneOrOneDitch 80 = .ok (.invokestatic 231, 3) := by decide +kernel
theorem dX5_noneOrOneDitch_83 : decode cX5_noneOrOneDitch 83 = .ok (.invokevirtual 203, 3) := by decide +kernel
theorem dX5_noneOrOneDitch_86 : decode cX5_noneOrOneDitch 86 = .ok (.iload_n 2, 1) := by decide +kernel
theorem dX5_noneOrOneDitch_87 : decode cX5_noneOrOneDitch 87 = .ok (.if_icmp .ne 13, 3) := by decide +kernel
theorem dX5_noneOrOneDitch_90 : decode cX5_noneOrOneDitch 90 = .ok (.aload_n 0, 1) := by decide +kernel
theorem dX5_noneOrOneDitch_91 : decode cX5_noneOrOneDitch 91 = .ok (.getfield 61, 3) := by decide +kernel
theorem dX5_noneOrOneDitch_94 : decode cX5_noneOrOneDitch 94 = .ok (.iconst 0, 1) := by decide +kernel
theorem dX5_noneOrOneDitch_95 : decode cX5_noneOrOneDitch 95 = .ok (.iload 6, 2) := by decide +kernel
theorem dX5_noneOrOneDitch_97 : decode cX5_noneOrOneDitch 97 = .ok (.iastore, 1) := by decide +kernel
theorem dX5_noneOrOneDitch_98 : decode cX5_noneOrOneDitch 98 = .ok (.iconst 1, 1) := by decide +kernel
theorem dX5_noneOrOneDitch_99 : decode cX5_noneOrOneDitch 99 = .ok (.ireturn, 1) := by decide +kernel
theorem dX5_noneOrOneDitch_100 : decode cX5_noneOrOneDitch 100 = .ok (.aload_n 0, 1) := by decide +kernel
theorem dX5_noneOrOneDitch_101 : decode cX5_noneOrOneDitch 101 = .ok (.getfield 64, 3) := by decide +kernel
theorem dX5_noneOrOneDitch_104 : decode cX5_noneOrOneDitch 104 = .ok (.iload 6, 2) := by decide +kernel
theorem dX5_noneOrOneDitch_106 : decode cX5_noneOrOneDitch 106 = .ok (.aload_n 0, 1) := by decide +kernel
theorem dX5_noneOrOneDitch_107 : decode cX5_noneOrOneDitch 107 = .ok (.getfield 29, 3) := by decide +kernel
theorem dX5_noneOrOneDitch_110 : decode cX5_noneOrOneDitch 110 = .ok (.getfield 268, 3) := by decide +kernel
theorem dX5_noneOrOneDitch_113 : decode cX5_noneOrOneDitch 113 = .ok (.lastore, 1) := by decide +kernel
theorem dX5_noneOrOneDitch_114 : decode cX5_noneOrOneDitch 114 = .ok (.iinc 6 1, 3) := by decide +kernel
theorem dX5_noneOrOneDitch_117 : decode cX5_noneOrOneDitch 117 = .ok (.goto (-92), 3) := by decide +kernel
theorem dX5_noneOrOneDitch_120 : decode cX5_noneOrOneDitch 120 = .ok (.bipush (-4), 2) := by decide +kernel
theorem dX5_noneOrOneDitch_122 : decode cX5_noneOrOneDitch 122 = .ok (.ireturn, 1) := by decide +kernel
theorem dX5_twoDitches_0 : decode cX5_twoDitches 0 = .ok (.iconst 0, 1) := by decide +kernel
theorem dX5_twoDitches_1 : decode cX5_twoDitches 1 = .ok (.istore 4, 2) := by decide +kernel
theorem dX5_twoDitches_3 : decode cX5_twoDitches 3 = .ok (.iload 4, 2) := by decide +kernel
theorem dX5_twoDitches_5 : decode cX5_twoDitches 5 = .ok (.aload_n 0, 1) := by decide +kernel
theorem dX5_twoDitches_6 : decode cX5_twoDitches 6 = .ok (.getfield 16, 3) := by decide +kernel
theorem dX5_twoDitches_9 : decode cX5_twoDitches 9 = .ok (.invokevirtual 228, 3) := by decide +kernel
theorem dX5_twoDitches_12 : decode cX5_twoDitches 12 = .ok (.if_icmp .ge 143, 3) := by decide +kernel
theorem dX5_twoDitches_15 : decode cX5_twoDitches 15 = .ok (.iload 4, 2) := by decide +kernel
theorem dX5_twoDitches_17 : decode cX5_twoDitches 17 = .ok (.bipush 36, 2) := by decide +kernel
theorem dX5_twoDitches_19 : decode cX5_twoDitches 19 = .ok (.if_icmp .ge 136, 3) := by decide +kernel
theorem dX5_twoDitches_22 : decode cX5_twoDitches 22 = .ok (.aload_n 0, 1) := by decide +kernel
theorem dX5_twoDitches_23 : decode cX5_twoDitches 23 = .ok (.getfield 25, 3) := by decide +kernel
theorem dX5_twoDitches_26 : decode cX5_twoDitches 26 = .ok (.iload 4, 2) := by decide +kernel
theorem dX5_twoDitches_28 : decode cX5_twoDitches 28 = .ok (.invokevirtual 179, 3) := by decide +kernel
theorem dX5_twoDitches_31 : decode cX5_twoDitches 31 = .ok (.ifCond .ne 6, 3) := by decide +kernel
theorem dX5_twoDitches_34 : decode cX5_twoDitches 34 = .ok (.goto 115, 3) := by decide +kernel
theorem dX5_twoDitches_37 : decode cX5_twoDitches 37 = .ok (.iload 4, 2) := by decide +kernel
theorem dX5_twoDitches_39 : decode cX5_twoDitches 39 = .ok (.iconst 1, 1) := by decide +kernel
theorem dX5_twoDitches_40 : decode cX5_twoDitches 40 = .ok (.iadd, 1) := by decide +kernel
theorem dX5_twoDitches_41 : decode cX5_twoDitches 41 = .ok (.istore 5, 2) := by decide +kernel
theorem dX5_twoDitches_43 : decode cX5_twoDitches 43 = .ok (.iload 5, 2) := by decide +kernel
theorem dX5_twoDitches_45 : decode cX5_twoDitches 45 = .ok (.aload_n 0, 1) := by decide +kernel
theorem dX5_twoDitches_46 : decode cX5_twoDitches 46 = .ok (.getfield 16, 3) := by decide +kernel
theorem dX5_twoDitches_49 : decode cX5_twoDitches 49 = .ok (.invokevirtual 228, 3) := by decide +kernel
theorem dX5_twoDitches_52 : decode cX5_twoDitches 52 = .ok (.if_icmp .ge 97, 3) := by decide +kernel
theorem dX5_twoDitches_55 : decode cX5_twoDitches 55 = .ok (.iload 5, 2) := by decide +kernel
theorem dX5_twoDitches_57 : decode cX5_twoDitches 57 = .ok (.bipush 36, 2) := by decide +kernel
theorem dX5_twoDitches_59 : decode cX5_twoDitches 59 = .ok (.if_icmp .ge 90, 3) := by decide +kernel
theorem dX5_twoDitches_62 : decode cX5_twoDitches 62 = .ok (.aload_n 0, 1) := by decide +kernel
theorem dX5_twoDitches_63 : decode cX5_twoDitches 63 = .ok (.getfield 64, 3) := by decide +kernel
theorem dX5_twoDitches_66 : decode cX5_twoDitches 66 = .ok (.iload 4, 2) := by decide +kernel
theorem dX5_twoDitches_68 : decode cX5_twoDitches 68 = .ok (.laload, 1) := by decide +kernel
theorem dX5_twoDitches_69 : decode cX5_twoDitches 69 = .ok (.iload 5, 2) := by decide +kernel
theorem dX5_twoDitches_71 : decode cX5_twoDitches 71 = .ok (.invokestatic 118, 3) := by decide +kernel
theorem dX5_twoDitches_74 : decode cX5_twoDitches 74 = .ok (.ifCond .eq 69, 3) := by decide +kernel
theorem dX5_twoDitches_77 : decode cX5_twoDitches 77 = .ok (.aload_n 0, 1) := by decide +kernel
theorem dX5_twoDitches_78 : decode cX5_twoDitches 78 = .ok (.getfield 64, 3) := by decide +kernel
theorem dX5_twoDitches_81 : decode cX5_twoDitches 81 = .ok (.iload 5, 2) := by decide +kernel
theorem dX5_twoDitches_83 : decode cX5_twoDitches 83 = .ok (.laload, 1) := by decide +kernel
theorem dX5_twoDitches_84 : decode cX5_twoDitches 84 = .ok (.iload 4, 2) := by decide +kernel
theorem dX5_twoDitches_86 : decode cX5_twoDitches 86 = .ok (.invokestatic 118, 3) := by decide +kernel
theorem dX5_twoDitches_89 : decode cX5_twoDitches 89 = .ok (.ifCond .eq 54, 3) := by decide +kernel
theorem dX5_twoDitches_92 : decode cX5_twoDitches 92 = .ok (.aload_n 0, 1) := by decide +kernel
theorem dX5_twoDitches_93 : decode cX5_twoDitches 93 = .ok (.getfield 25, 3) := by decide +kernel
theorem dX5_twoDitches_96 : decode cX5_twoDitches 96 = .ok (.iload 5, 2) := by decide +kernel
theorem dX5_twoDitches_98 : decode cX5_twoDitches 98 = .ok (.invokevirtual 179, 3) := by decide +kernel
theorem dX5_twoDitches_101 : decode cX5_twoDitches 101 = .ok (.ifCond .eq 42, 3) := by decide +kernel
theorem dX5_twoDitches_104 : decode cX5_twoDitches 104 = .ok (.aload_n 0, 1) := by decide +kernel
theorem dX5_twoDitches_105 : decode cX5_twoDitches 105 = .ok (.iload_n 3, 1) := by decide +kernel
theorem dX5_twoDitches_106 : decode cX5_twoDitches 106 = .ok (.iload_n 1, 1) := by decide +kernel
theorem dX5_twoDitches_107 : decode cX5_twoDitches 107 = .ok (.iload 4, 2) := by decide +kernel
theorem dX5_twoDitches_109 : decode cX5_twoDitches 109 = .ok (.invokestatic 231, 3) := by decide +kernel
theorem dX5_twoDitches_112 : decode cX5_twoDitches 112 = .ok (.iload 5, 2) := by decide +kernel
theorem dX5_twoDitches_114 : decode cX5_twoDitches 114 = .ok (.invokestatic 231, 3) := by decide +kernel
theorem dX5_twoDitches_117 : decode cX5_twoDitches 117 = .ok (.lor, 1) := by decide +kernel
theorem dX5_twoDitches_118 : decode cX5_twoDitches 118 = .ok (.invokevirtual 203, 3) := by decide +kernel
theorem dX5_twoDitches_121 : decode cX5_twoDitches 121 = .ok (.iload_n 2, 1) := by decide +kernel
theorem dX5_twoDitches_122 : decode cX5_twoDitches 122 = .ok (.if_icmp .ne 21, 3) := by decide +kernel
theorem dX5_twoDitches_125 : decode cX5_twoDitches 125 = .ok (.aload_n 0, 1) := by decide +kernel
theorem dX5_twoDitches_126 : decode cX5_twoDitches 126 = .ok (.getfield 61, 3) := by decide +kernel
theorem dX5_twoDitches_129 : decode cX5_twoDitches 129 = .ok (.iconst 0, 1) := by decide +kernel
theorem dX5_twoDitches_130 : decode cX5_twoDitches 130 = .ok (.iload 4, 2) := by decide +kernel
theorem dX5_twoDitches_132 : decode cX5_twoDitches 132 = .ok (.iastore, 1) := by decide +kernel
theorem dX5_twoDitches_133 : decode cX5_twoDitches 133 = .ok (.aload_n 0, 1) := by decide +kernel
theorem dX5_twoDitches_134 : decode cX5_twoDitches 134 = .ok (.getfield 61, 3) := by decide +kernel
theorem dX5_twoDitches_137 : decode cX5_twoDitches 137 = .ok (.iconst 1, 1) := by decide +kernel
theorem dX5_twoDitches_138 : decode cX5_twoDitches 138 = .ok (.iload 5, 2) := by decide +kernel
theorem dX5_twoDitches_140 : decode cX5_twoDitches 140 = .ok (.iastore, 1) := by decide +kernel
theorem dX5_twoDitches_141 : decode cX5_twoDitches 141 = .ok (.iconst 2, 1) := by decide +kernel
theorem dX5_twoDitches_142 : decode cX5_twoDitches 142 = .ok (.ireturn, 1) := by decide +kernel
theorem dX5_twoDitches_143 : decode cX5_twoDitches 143 = .ok (.iinc 5 1, 3) := by decide +kernel
theorem dX5_twoDitches_146 : decode cX5_twoDitches 146 = .ok (.goto (-103), 3) := by decide +kernel
theorem dX5_twoDitches_149 : decode cX5_twoDitches 149 = .ok (.iinc 4 1, 3) := by decide +kernel
theorem dX5_twoDitches_152 : decode cX5_twoDitches 152 = .ok (.goto (-149), 3) := by decide +kernel
theorem dX5_twoDitches_155 : decode cX5_twoDitches 155 = .ok (.bipush (-4), 2) := by decide +kernel
theorem dX5_twoDitches_157 : decode cX5_twoDitches 157 = .ok (.ireturn, 1) := by decide +kernel
theorem dX5_allSeenComes_0 : decode cX5_allSeenComes 0 = .ok (.iconst 0, 1) := by decide +kernel
theorem dX5_allSeenComes_1 : decode cX5_allSeenComes 1 = .ok (.istore_n 2, 1) := by decide +kernel
theorem dX5_allSeenComes_2 : decode cX5_allSeenComes 2 = .ok (.iload_n 2, 1) := by decide +kernel
theorem dX5_allSeenComes_3 : decode cX5_allSeenComes 3 = .ok (.bipush 20, 2) := by decide +kernel
theorem dX5_allSeenComes_5 : decode cX5_allSeenComes 5 = .ok (.if_icmp .gt 107, 3) := by decide +kernel
theorem dX5_allSeenComes_8 : decode cX5_allSeenComes 8 = .ok (.aload_n 0, 1) := by decide +kernel
theorem dX5_allSeenComes_9 : decode cX5_allSeenComes 9 = .ok (.getfield 29, 3) := by decide +kernel
theorem dX5_allSeenComes_12 : decode cX5_allSeenComes 12 = .ok (.iload_n 1, 1) := by decide +kernel
theorem dX5_allSeenComes_13 : decode cX5_allSeenComes 13 = .ok (.invokevirtual 125, 3) := by decide +kernel
theorem dX5_allSeenComes_16 : decode cX5_allSeenComes 16 = .ok (.ifCond .eq 18, 3) := by decide +kernel
theorem dX5_allSeenComes_19 : decode cX5_allSeenComes 19 = .ok (.aload_n 0, 1) := by decide +kernel
theorem dX5_allSeenComes_20 : decode cX5_allSeenComes 20 = .ok (.getfield 29, 3) := by decide +kernel
theorem dX5_allSeenComes_23 : decode cX5_allSeenComes 23 = .ok (.getfield 126, 3) := by decide +kernel
theorem dX5_allSeenComes_26 : decode cX5_allSeenComes 26 = .ok (.iload_n 1, 1) := by decide +kernel
theorem dX5_allSeenComes_27 : decode cX5_allSeenComes 27 = .ok (.aaload, 1) := by decide +kernel
theorem dX5_allSeenComes_28 : decode cX5_allSeenComes 28 = .ok (.invokevirtual 144, 3) := by decide +kernel
theorem dX5_allSeenComes_31 : decode cX5_allSeenComes 31 = .ok (.goto 5, 3) := by decide +kernel
theorem dX5_allSeenComes_34 : decode cX5_allSeenComes 34 = .ok (.bipush (-4), 2) := by decide +kernel
theorem dX5_allSeenComes_36 : decode cX5_allSeenComes 36 = .ok (.istore_n 3, 1) := by decide +kernel
theorem dX5_allSeenComes_37 : decode cX5_allSeenComes 37 = .ok (.iconst 0, 1) := by decide +kernel
theorem dX5_allSeenComes_38 : decode cX5_allSeenComes 38 = .ok (.istore 4, 2) := by decide +kernel
theorem dX5_allSeenComes_40 : decode cX5_allSeenComes 40 = .ok (.iload 4, 2) := by decide +kernel
theorem dX5_allSeenComes_42 : decode cX5_allSeenComes 42 = .ok (.aload_n 0, 1) := by decide +kernel
theorem dX5_allSeenComes_43 : decode cX5_allSeenComes 43 = .ok (.getfield 97, 3) := by decide +kernel
theorem dX5_allSeenComes_46 : decode cX5_allSeenComes 46 = .ok (.if_icmp .ge 51, 3) := by decide +kernel
theorem dX5_allSeenComes_49 : decode cX5_allSeenComes 49 = .ok (.iload 4, 2) := by decide +kernel
theorem dX5_allSeenComes_51 : decode cX5_allSeenComes 51 = .ok (.bipush 6, 2) := by decide +kernel
theorem dX5_allSeenComes_53 : decode cX5_allSeenComes 53 = .ok (.if_icmp .ge 44, 3) := by decide +kernel
theorem dX5_allSeenComes_56 : decode cX5_allSeenComes 56 = .ok (.aload_n 0, 1) := by decide +kernel
theorem dX5_allSeenComes_57 : decode cX5_allSeenComes 57 = .ok (.getfield 51, 3) := by decide +kernel
theorem dX5_allSeenComes_60 : decode cX5_allSeenComes 60 = .ok (.iload 4, 2) := by decide +kernel
theorem dX5_allSeenComes_62 : decode cX5_allSeenComes 62 = .ok (.iaload, 1) := by decide +kernel
theorem dX5_allSeenComes_63 : decode cX5_allSeenComes 63 = .ok (.iload_n 1, 1) := by decide +kernel
theorem dX5_allSeenComes_64 : decode cX5_allSeenComes 64 = .ok (.if_icmp .ne 27, 3) := by decide +kernel
theorem dX5_allSeenComes_67 : decode cX5_allSeenComes 67 = .ok (.aload_n 0, 1) := by decide +kernel
theorem dX5_allSeenComes_68 : decode cX5_allSeenComes 68 = .ok (.getfield 58, 3) := by decide +kernel
theorem dX5_allSeenComes_71 : decode cX5_allSeenComes 71 = .ok (.iload 4, 2) := by decide +kernel
theorem dX5_allSeenComes_73 : decode cX5_allSeenComes 73 = .ok (.iaload, 1) := by decide +kernel
theorem dX5_allSeenComes_74 : decode cX5_allSeenComes 74 = .ok (.iload_n 2, 1) := by decide +kernel
theorem dX5_allSeenComes_75 : decode cX5_allSeenComes 75 = .ok (.if_icmp .ne 16, 3) := by decide +kernel
theorem dX5_allSeenComes_78 : decode cX5_allSeenComes 78 = .ok (.aload_n 0, 1) := by decide +kernel
theorem dX5_allSeenComes_79 : decode cX5_allSeenComes 79 = .ok (.getfield 55, 3) := by decide +kernel
theorem dX5_allSeenComes_82 : decode cX5_allSeenComes 82 = .ok (.iload 4, 2) := by decide +kernel
theorem dX5_allSeenComes_84 : decode cX5_allSeenComes 84 = .ok (.iaload, 1) := by decide +kernel
theorem dX5_allSeenComes_85 : decode cX5_allSeenComes 85 = .ok (.iload_n 3, 1) := by decide +kernel
theorem dX5_allSeenComes_86 : decode cX5_allSeenComes 86 = .ok (.if_icmp .eq 5, 3) := by decide +kernel
theorem dX5_allSeenComes_89 : decode cX5_allSeenComes 89 = .ok (.iconst 0, 1) := by decide +kernel
theorem dX5_allSeenComes_90 : decode cX5_allSeenComes 90 = .ok (.ireturn, 1) := by decide +kernel
theorem dX5_allSeenComes_91 : decode cX5_allSeenComes 91 = .ok (.iinc 4 1, 3) := by decide +kernel
theorem dX5_allSeenComes_94 : decode cX5_allSeenComes 94 = .ok (.goto (-54), 3) := by decide +kernel
theorem dX5_allSeenComes_97 : decode cX5_allSeenComes 97 = .ok (.aload_n 0, 1) := by decide +kernel
theorem dX5_allSeenComes_98 : decode cX5_allSeenComes 98 = .ok (.getfield 29, 3) := by decide +kernel
theorem dX5_allSeenComes_101 : decode cX5_allSeenComes 101 = .ok (.bipush (-4), 2) := by decide +kernel
theorem dX5_allSeenComes_103 : decode cX5_allSeenComes 103 = .ok (.invokevirtual 210, 3) := by decide +kernel
theorem dX5_allSeenComes_106 : decode cX5_allSeenComes 106 = .ok (.iinc 2 1, 3) := by decide +kernel
theorem dX5_allSeenComes_109 : decode cX5_allSeenComes 109 = .ok (.goto (-107), 3) := by decide +kernel
theorem dX5_allSeenComes_112 : decode cX5_allSeenComes 112 = .ok (.iconst 1, 1) := by decide +kernel
theorem dX5_allSeenComes_113 : decode cX5_allSeenComes 113 = .ok (.ireturn, 1) := by decide +kernel
theorem dX5_casesOfFrost_0 : decode cX5_casesOfFrost 0 = .ok (.lconst 0, 1) := by decide +kernel
theorem dX5_casesOfFrost_1 : decode cX5_casesOfFrost 1 = .ok (.lstore 5, 2) := by decide +kernel
theorem dX5_casesOfFrost_3 : decode cX5_casesOfFrost 3 = .ok (.iconst 0, 1) := by decide +kernel
theorem dX5_casesOfFrost_4 : decode cX5_casesOfFrost 4 = .ok (.istore 7, 2) := by decide +kernel
theorem dX5_casesOfFrost_6 : decode cX5_casesOfFrost 6 = .ok (.iload 7, 2) := by decide +kernel
theorem dX5_casesOfFrost_8 : decode cX5_casesOfFrost 8 = .ok (.iconst 1, 1) := by decide +kernel
theorem dX5_casesOfFrost_9 : decode cX5_casesOfFrost 9 = .ok (.iload_n 3, 1) := by decide +kernel
theorem dX5_casesOfFrost_10 : decode cX5_casesOfFrost 10 = .ok (.ishl, 1) := by decide +kernel
theorem dX5_casesOfFrost_11 : decode cX5_casesOfFrost 11 = .ok (.if_icmp .ge 81, 3) := by decide +kernel
theorem dX5_casesOfFrost_14 : decode cX5_casesOfFrost 14 = .ok (.lconst 1, 1) := by decide +kernel
theorem dX5_casesOfFrost_15 : decode cX5_casesOfFrost 15 = .ok (.lstore 8, 2) := by decide +kernel
theorem dX5_casesOfFrost_17 : decode cX5_casesOfFrost 17 = .ok (.iconst 0, 1) := by decide +kernel
theorem dX5_casesOfFrost_18 : decode cX5_casesOfFrost 18 = .ok (.istore 10, 2) := by decide +kernel
theorem dX5_casesOfFrost_20 : decode cX5_casesOfFrost 20 = .ok (.iload 10, 2) := by decide +kernel
theorem dX5_casesOfFrost_22 : decode cX5_casesOfFrost 22 = .ok (.iload_n 3, 1) := by decide +kernel
theorem dX5_casesOfFrost_23 : decode cX5_casesOfFrost 23 = .ok (.if_icmp .ge 37, 3) := by decide +kernel
theorem dX5_casesOfFrost_26 : decode cX5_casesOfFrost 26 = .ok (.lload 8, 2) := by decide +kernel
theorem dX5_casesOfFrost_28 : decode cX5_casesOfFrost 28 = .ok (.iload 7, 2) := by decide +kernel
theorem dX5_casesOfFrost_30 : decode cX5_casesOfFrost 30 = .ok (.i2l, 1) := by decide +kernel
theorem dX5_casesOfFrost_31 : decode cX5_casesOfFrost 31 = .ok (.iload 10, 2) := by decide +kernel
theorem dX5_casesOfFrost_33 : decode cX5_casesOfFrost 33 = .ok (.invokestatic 118, 3) := by decide +kernel
theorem dX5_casesOfFrost_36 : decode cX5_casesOfFrost 36 = .ok (.ifCond .eq 9, 3) := by decide +kernel
theorem dX5_casesOfFrost_39 : decode cX5_casesOfFrost 39 = .ok (.iload 4, 2) := by decide +kernel
theorem dX5_casesOfFrost_41 : decode cX5_casesOfFrost 41 = .ok (.i2l, 1) := by decide +kernel
theorem dX5_casesOfFrost_42 : decode cX5_casesOfFrost 42 = .ok (.goto 9, 3) := by decide +kernel
theorem dX5_casesOfFrost_45 : decode cX5_casesOfFrost 45 = .ok (.bipush 10, 2) := by decide +kernel
theorem dX5_casesOfFrost_47 : decode cX5_casesOfFrost 47 = .ok (.iload 4, 2) := by decide +kernel
theorem dX5_casesOfFrost_49 : decode cX5_casesOfFrost 49 = .ok (.isub, 1) := by decide +kernel
theorem dX5_casesOfFrost_50 : decode cX5_casesOfFrost 50 = .ok (.i2l, 1) := by decide +kernel
theorem dX5_casesOfFrost_51 : decode cX5_casesOfFrost 51 = .ok (.lmul, 1) := by decide +kernel
theorem dX5_casesOfFrost_52 : decode cX5_casesOfFrost 52 = .ok (.lstore 8, 2) := by decide +kernel
theorem dX5_casesOfFrost_54 : decode cX5_casesOfFrost 54 = .ok (.iinc 10 1, 3) := by decide +kernel
theorem dX5_casesOfFrost_57 : decode cX5_casesOfFrost 57 = .ok (.goto (-37), 3) := by decide +kernel
theorem dX5_casesOfFrost_60 : decode cX5_casesOfFrost 60 = .ok (.lload 8, 2) := by decide +kernel
theorem dX5_casesOfFrost_62 : decode cX5_casesOfFrost 62 = .ok (.lconst 0, 1) := by decide +kernel
theorem dX5_casesOfFrost_63 : decode cX5_casesOfFrost 63 = .ok (.lcmp, 1) := by decide +kernel
theorem dX5_casesOfFrost_64 : decode cX5_casesOfFrost 64 = .ok (.ifCond .le 22, 3) := by decide +kernel
theorem dX5_casesOfFrost_67 : decode cX5_casesOfFrost 67 = .ok (.aload_n 0, 1) := by decide +kernel
theorem dX5_casesOfFrost_68 : decode cX5_casesOfFrost 68 = .ok (.iload_n 1, 1) := by decide +kernel
theorem dX5_casesOfFrost_69 : decode cX5_casesOfFrost 69 = .ok (.iload_n 3, 1) := by decide +kernel
theorem dX5_casesOfFrost_70 : decode cX5_casesOfFrost 70 = .ok (.iload 7, 2) := by decide +kernel
theorem dX5_casesOfFrost_72 : decode cX5_casesOfFrost 72 = .ok (.invokevirtual 271, 3) := by decide +kernel
theorem dX5_casesOfFrost_75 : decode cX5_casesOfFrost 75 = .ok (.iload_n 2, 1) := by decide +kernel
theorem dX5_casesOfFrost_76 : decode cX5_casesOfFrost 76 = .ok (.if_icmp .ne 10, 3) := by decide +kernel
theorem dX5_casesOfFrost_79 : decode cX5_casesOfFrost 79 = .ok (.lload 5, 2) := by decide +kernel
theorem dX5_casesOfFrost_81 : decode cX5_casesOfFrost 81 = .ok (.lload 8, 2) := by decide +kernel
theorem dX5_casesOfFrost_83 : decode cX5_casesOfFrost 83 = .ok (.ladd, 1) := by decide +kernel
theorem dX5_casesOfFrost_84 : decode cX5_casesOfFrost 84 = .ok (.lstore 5, 2) := by decide +kernel
theorem dX5_casesOfFrost_86 : decode cX5_casesOfFrost 86 = .ok (.iinc 7 1, 3) := by decide +kernel
theorem dX5_casesOfFrost_89 : decode cX5_casesOfFrost 89 = .ok (.goto (-83), 3) := by decide +kernel
theorem dX5_casesOfFrost_92 : decode cX5_casesOfFrost 92 = .ok (.lload 5, 2) := by decide +kernel
theorem dX5_casesOfFrost_94 : decode cX5_casesOfFrost 94 = .ok (.lreturn, 1) := by decide +kernel
theorem dX5_firstTreeOfFrost_0 : decode cX5_firstTreeOfFrost 0 = .ok (.aload_n 0, 1) := by decide +kernel
theorem dX5_firstTreeOfFrost_1 : decode cX5_firstTreeOfFrost 1 = .ok (.getfield 29, 3) := by decide +kernel
theorem dX5_firstTreeOfFrost_4 : decode cX5_firstTreeOfFrost 4 = .ok (.aload_n 0, 1) := by decide +kernel
theorem dX5_firstTreeOfFrost_5 : decode cX5_firstTreeOfFrost 5 = .ok (.getfield 25, 3) := by decide +kernel
theorem dX5_firstTreeOfFrost_8 : decode cX5_firstTreeOfFrost 8 = .ok (.invokevirtual 87, 3) := by decide +kernel
theorem dX5_firstTreeOfFrost_11 : decode cX5_firstTreeOfFrost 11 = .ok (.iconst 0, 1) := by decide +kernel
theorem dX5_firstTreeOfFrost_12 : decode cX5_firstTreeOfFrost 12 = .ok (.istore 4, 2) := by decide +kernel
theorem dX5_firstTreeOfFrost_14 : decode cX5_firstTreeOfFrost 14 = .ok (.iload 4, 2) := by decide +kernel
theorem dX5_firstTreeOfFrost_16 : decode cX5_firstTreeOfFrost 16 = .ok (.iload_n 2, 1) := by decide +kernel
theorem dX5_firstTreeOfFrost_17 : decode cX5_firstTreeOfFrost 17 = .ok (.if_icmp .ge 32, 3) := by decide +kernel
theorem dX5_firstTreeOfFrost_20 : decode cX5_firstTreeOfFrost 20 = .ok (.aload_n 0, 1) := by decide +kernel
theorem dX5_firstTreeOfFrost_21 : decode cX5_firstTreeOfFrost 21 = .ok (.getfield 29, 3) := by decide +kernel
theorem dX5_firstTreeOfFrost_24 : decode cX5_firstTreeOfFrost 24 = .ok (.iload_n 3, 1) := by decide +kernel
theorem dX5_firstTreeOfFrost_25 : decode cX5_firstTreeOfFrost 25 = .ok (.i2l, 1) := by decide +kernel
theorem dX5_firstTreeOfFrost_26 : decode cX5_firstTreeOfFrost 26 = .ok (.iload 4, 2) := by decide +kernel
theorem dX5_firstTreeOfFrost_28 : decode cX5_firstTreeOfFrost 28 = .ok (.invokestatic 118, 3) := by decide +kernel
theorem dX5_firstTreeOfFrost_31 : decode cX5_firstTreeOfFrost 31 = .ok (.ifCond .eq 7, 3) := by decide +kernel
theorem dX5_firstTreeOfFrost_34 : decode cX5_firstTreeOfFrost 34 = .ok (.iload_n 1, 1) := by decide +kernel
theorem dX5_firstTreeOfFrost_35 : decode cX5_firstTreeOfFrost 35 = .ok (.goto 5, 3) := by decide +kernel
theorem dX5_firstTreeOfFrost_38 : decode cX5_firstTreeOfFrost 38 = .ok (.bipush (-4), 2) := by decide +kernel
theorem dX5_firstTreeOfFrost_40 : decode cX5_firstTreeOfFrost 40 = .ok (.invokevirtual 210, 3) := by decide +kernel
theorem dX5_firstTreeOfFrost_43 : decode cX5_firstTreeOfFrost 43 = .ok (.iinc 4 1, 3) := by decide +kernel
theorem dX5_firstTreeOfFrost_46 : decode cX5_firstTreeOfFrost 46 = .ok (.goto (-32), 3) := by decide +kernel
theorem dX5_firstTreeOfFrost_49 : decode cX5_firstTreeOfFrost 49 = .ok (.aload_n 0, 1) := by decide +kernel
theorem dX5_firstTreeOfFrost_50 : decode cX5_firstTreeOfFrost 50 = .ok (.getfield 29, 3) := by decide +kernel
theorem dX5_firstTreeOfFrost_53 : decode cX5_firstTreeOfFrost 53 = .ok (.iload_n 1, 1) := by decide +kernel
theorem dX5_firstTreeOfFrost_54 : decode cX5_firstTreeOfFrost 54 = .ok (.invokevirtual 125, 3) := by decide +kernel
theorem dX5_firstTreeOfFrost_57 : decode cX5_firstTreeOfFrost 57 = .ok (.ifCond .eq 18, 3) := by decide +kernel
theorem dX5_firstTreeOfFrost_60 : decode cX5_firstTreeOfFrost 60 = .ok (.aload_n 0, 1) := by decide +kernel
theorem dX5_firstTreeOfFrost_61 : decode cX5_firstTreeOfFrost 61 = .ok (.getfield 29, 3) := by decide +kernel
theorem dX5_firstTreeOfFrost_64 : decode cX5_firstTreeOfFrost 64 = .ok (.getfield 126, 3) := by decide +kernel
theorem dX5_firstTreeOfFrost_67 : decode cX5_firstTreeOfFrost 67 = .ok (.iload_n 1, 1) := by decide +kernel
theorem dX5_firstTreeOfFrost_68 : decode cX5_firstTreeOfFrost 68 = .ok (.aaload, 1) := by decide +kernel
theorem dX5_firstTreeOfFrost_69 : decode cX5_firstTreeOfFrost 69 = .ok (.invokevirtual 144, 3) := by decide +kernel
theorem dX5_firstTreeOfFrost_72 : decode cX5_firstTreeOfFrost 72 = .ok (.goto 5, 3) := by decide +kernel
theorem dX5_firstTreeOfFrost_75 : decode cX5_firstTreeOfFrost 75 = .ok (.bipush (-4), 2) := by decide +kernel
theorem dX5_firstTreeOfFrost_77 : decode cX5_firstTreeOfFrost 77 = .ok (.ireturn, 1) := by decide +kernel
theorem dX5_drawOf_0 : decode cX5_drawOf 0 = .ok (.ldc2_w 274, 3) := by decide +kernel
theorem dX5_drawOf_3 : decode cX5_drawOf 3 = .ok (.iload_n 0, 1) := by decide +kernel
theorem dX5_drawOf_4 : decode cX5_drawOf 4 = .ok (.i2l, 1) := by decide +kernel
theorem dX5_drawOf_5 : decode cX5_drawOf 5 = .ok (.lmul, 1) := by decide +kernel
theorem dX5_drawOf_6 : decode cX5_drawOf 6 = .ok (.ldc2_w 276, 3) := by decide +kernel
theorem dX5_drawOf_9 : decode cX5_drawOf 9 = .ok (.iload_n 1, 1) := by decide +kernel
theorem dX5_drawOf_10 : decode cX5_drawOf 10 = .ok (.i2l, 1) := by decide +kernel
theorem dX5_drawOf_11 : decode cX5_drawOf 11 = .ok (.lmul, 1) := by decide +kernel
theorem dX5_drawOf_12 : decode cX5_drawOf 12 = .ok (.ladd, 1) := by decide +kernel
theorem dX5_drawOf_13 : decode cX5_drawOf 13 = .ok (.lconst 1, 1) := by decide +kernel
theorem dX5_drawOf_14 : decode cX5_drawOf 14 = .ok (.ladd, 1) := by decide +kernel
theorem dX5_drawOf_15 : decode cX5_drawOf 15 = .ok (.lstore_n 2, 1) := by decide +kernel
theorem dX5_drawOf_16 : decode cX5_drawOf 16 = .ok (.lload_n 2, 1) := by decide +kernel
theorem dX5_drawOf_17 : decode cX5_drawOf 17 = .ok (.lload_n 2, 1) := by decide +kernel
theorem dX5_drawOf_18 : decode cX5_drawOf 18 = .ok (.lmul, 1) := by decide +kernel
theorem dX5_drawOf_19 : decode cX5_drawOf 19 = .ok (.ldc2_w 278, 3) := by decide +kernel
theorem dX5_drawOf_22 : decode cX5_drawOf 22 = .ok (.lrem, 1) := by decide +kernel
theorem dX5_drawOf_23 : decode cX5_drawOf 23 = .ok (.l2i, 1) := by decide +kernel
theorem dX5_drawOf_24 : decode cX5_drawOf 24 = .ok (.ireturn, 1) := by decide +kernel
theorem dX5_disturbAhead_0 : decode cX5_disturbAhead 0 = .ok (.aload_n 0, 1) := by decide +kernel
theorem dX5_disturbAhead_1 : decode cX5_disturbAhead 1 = .ok (.getfield 16, 3) := by decide +kernel
theorem dX5_disturbAhead_4 : decode cX5_disturbAhead 4 = .ok (.invokevirtual 228, 3) := by decide +kernel
theorem dX5_disturbAhead_7 : decode cX5_disturbAhead 7 = .ok (.istore_n 2, 1) := by decide +kernel
theorem dX5_disturbAhead_8 : decode cX5_disturbAhead 8 = .ok (.aload_n 0, 1) := by decide +kernel
theorem dX5_disturbAhead_9 : decode cX5_disturbAhead 9 = .ok (.getfield 29, 3) := by decide +kernel
theorem dX5_disturbAhead_12 : decode cX5_disturbAhead 12 = .ok (.getfield 94, 3) := by decide +kernel
theorem dX5_disturbAhead_15 : decode cX5_disturbAhead 15 = .ok (.istore_n 3, 1) := by decide +kernel
theorem dX5_disturbAhead_16 : decode cX5_disturbAhead 16 = .ok (.iload_n 2, 1) := by decide +kernel
theorem dX5_disturbAhead_17 : decode cX5_disturbAhead 17 = .ok (.iconst 1, 1) := by decide +kernel
theorem dX5_disturbAhead_18 : decode cX5_disturbAhead 18 = .ok (.if_icmp .lt 12, 3) := by decide +kernel
theorem dX5_disturbAhead_21 : decode cX5_disturbAhead 21 = .ok (.iload_n 3, 1) := by decide +kernel
theorem dX5_disturbAhead_22 : decode cX5_disturbAhead 22 = .ok (.iconst 1, 1) := by decide +kernel
theorem dX5_disturbAhead_23 : decode cX5_disturbAhead 23 = .ok (.if_icmp .lt 7, 3) := by decide +kernel
theorem dX5_disturbAhead_26 : decode cX5_disturbAhead 26 = .ok (.iload_n 1, 1) := by decide +kernel
theorem dX5_disturbAhead_27 : decode cX5_disturbAhead 27 = .ok (.ifCond .ge 4, 3) := by decide +kernel
theorem dX5_disturbAhead_30 : decode cX5_disturbAhead 30 = .ok (.return_, 1) := by decide +kernel
theorem dX5_disturbAhead_31 : decode cX5_disturbAhead 31 = .ok (.iload_n 1, 1) := by decide +kernel
theorem dX5_disturbAhead_32 : decode cX5_disturbAhead 32 = .ok (.bipush 8, 2) := by decide +kernel
theorem dX5_disturbAhead_34 : decode cX5_disturbAhead 34 = .ok (.idiv, 1) := by decide +kernel
theorem dX5_disturbAhead_35 : decode cX5_disturbAhead 35 = .ok (.istore 4, 2) := by decide +kernel
theorem dX5_disturbAhead_37 : decode cX5_disturbAhead 37 = .ok (.iload_n 1, 1) := by decide +kernel
theorem dX5_disturbAhead_38 : decode cX5_disturbAhead 38 = .ok (.bipush 8, 2) := by decide +kernel
theorem dX5_disturbAhead_40 : decode cX5_disturbAhead 40 = .ok (.irem, 1) := by decide +kernel
theorem dX5_disturbAhead_41 : decode cX5_disturbAhead 41 = .ok (.tableswitch 86 0 3 #[31, 31, 45, 59], 31) := by decide +kernel
theorem dX5_disturbAhead_72 : decode cX5_disturbAhead 72 = .ok (.aload_n 0, 1) := by decide +kernel
theorem dX5_disturbAhead_73 : decode cX5_disturbAhead 73 = .ok (.getfield 29, 3) := by decide +kernel
theorem dX5_disturbAhead_76 : decode cX5_disturbAhead 76 = .ok (.iload 4, 2) := by decide +kernel
theorem dX5_disturbAhead_78 : decode cX5_disturbAhead 78 = .ok (.iload_n 2, 1) := by decide +kernel
theorem dX5_disturbAhead_79 : decode cX5_disturbAhead 79 = .ok (.irem, 1) := by decide +kernel
theorem dX5_disturbAhead_80 : decode cX5_disturbAhead 80 = .ok (.invokevirtual 182, 3) := by decide +kernel
theorem dX5_disturbAhead_83 : decode cX5_disturbAhead 83 = .ok (.goto 44, 3) := by decide +kernel
theorem dX5_disturbAhead_86 : decode cX5_disturbAhead 86 = .ok (.aload_n 0, 1) := by decide +kernel
theorem dX5_disturbAhead_87 : decode cX5_disturbAhead 87 = .ok (.getfield 29, 3) := by decide +kernel
theorem dX5_disturbAhead_90 : decode cX5_disturbAhead 90 = .ok (.iload 4, 2) := by decide +kernel
theorem dX5_disturbAhead_92 : decode cX5_disturbAhead 92 = .ok (.iload_n 2, 1) := by decide +kernel
theorem dX5_disturbAhead_93 : decode cX5_disturbAhead 93 = .ok (.irem, 1) := by decide +kernel
theorem dX5_disturbAhead_94 : decode cX5_disturbAhead 94 = .ok (.invokevirtual 191, 3) := by decide +kernel
theorem dX5_disturbAhead_97 : decode cX5_disturbAhead 97 = .ok (.goto 30, 3) := by decide +kernel
theorem dX5_disturbAhead_100 : decode cX5_disturbAhead 100 = .ok (.aload_n 0, 1) := by decide +kernel
theorem dX5_disturbAhead_101 : decode cX5_disturbAhead 101 = .ok (.getfield 29, 3) := by decide +kernel
theorem dX5_disturbAhead_104 : decode cX5_disturbAhead 104 = .ok (.aload_n 0, 1) := by decide +kernel
theorem dX5_disturbAhead_105 : decode cX5_disturbAhead 105 = .ok (.getfield 29, 3) := by decide +kernel
theorem dX5_disturbAhead_108 : decode cX5_disturbAhead 108 = .ok (.getfield 126, 3) := by decide +kernel
theorem dX5_disturbAhead_111 : decode cX5_disturbAhead 111 = .ok (.iload 4, 2) := by decide +kernel
theorem dX5_disturbAhead_113 : decode cX5_disturbAhead 113 = .ok (.iload_n 3, 1) := by decide +kernel
theorem dX5_disturbAhead_114 : decode cX5_disturbAhead 114 = .ok (.irem, 1) := by decide +kernel
theorem dX5_disturbAhead_115 : decode cX5_disturbAhead 115 = .ok (.iconst 2, 1) := by decide +kernel
theorem dX5_disturbAhead_116 : decode cX5_disturbAhead 116 = .ok (.invokestatic 280, 3) := by decide +kernel
theorem dX5_disturbAhead_119 : decode cX5_disturbAhead 119 = .ok (.aaload, 1) := by decide +kernel
theorem dX5_disturbAhead_120 : decode cX5_disturbAhead 120 = .ok (.invokevirtual 194, 3) := by decide +kernel
theorem dX5_disturbAhead_123 : decode cX5_disturbAhead 123 = .ok (.pop, 1) := by decide +kernel
theorem dX5_disturbAhead_124 : decode cX5_disturbAhead 124 = .ok (.goto 3, 3) := by decide +kernel
theorem dX5_disturbAhead_127 : decode cX5_disturbAhead 127 = .ok (.return_, 1) := by decide +kernel
