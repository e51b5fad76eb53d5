theorem dX3_readLine_14 : decode cX3_readLine 14 = .ok (.aload_n 0, 1) := by decide +kernel
theorem dX3_readLine_15 : decode cX3_readLine 15 = .ok (.getfield 12, 3) := by decide +kernel
theorem dX3_readLine_18 : decode cX3_readLine 18 = .ok (.getfield 72, 3) := by decide +kernel
theorem dX3_readLine_21 : decode cX3_readLine 21 = .ok (.aload_n 0, 1) := by decide +kernel
theorem dX3_readLine_22 : decode cX3_readLine 22 = .ok (.getfield 12, 3) := by decide +kernel
theorem dX3_readLine_25 : decode cX3_readLine 25 = .ok (.getfield 75, 3) := by decide +kernel
theorem dX3_readLine_28 : decode cX3_readLine 28 = .ok (.imul, 1) := by decide +kernel
theorem dX3_readLine_29 : decode cX3_readLine 29 = .ok (.istore_n 1, 1) := by decide +kernel
theorem dX3_readLine_30 : decode cX3_readLine 30 = .ok (.iconst 0, 1) := by decide +kernel
theorem dX3_readLine_31 : decode cX3_readLine 31 = .ok (.istore_n 2, 1) := by decide +kernel
theorem dX3_readLine_32 : decode cX3_readLine 32 = .ok (.aload_n 0, 1) := by decide +kernel
theorem dX3_readLine_33 : decode cX3_readLine 33 = .ok (.invokevirtual 56, 3) := by decide +kernel
theorem dX3_readLine_36 : decode cX3_readLine 36 = .ok (.istore_n 3, 1) := by decide +kernel
theorem dX3_readLine_37 : decode cX3_readLine 37 = .ok (.iload_n 2, 1) := by decide +kernel
theorem dX3_readLine_38 : decode cX3_readLine 38 = .ok (.bipush 6, 2) := by decide +kernel
theorem dX3_readLine_40 : decode cX3_readLine 40 = .ok (.if_icmp .ge 37, 3) := by decide +kernel
theorem dX3_readLine_43 : decode cX3_readLine 43 = .ok (.iload_n 3, 1) := by decide +kernel
theorem dX3_readLine_44 : decode cX3_readLine 44 = .ok (.bipush 48, 2) := by decide +kernel
theorem dX3_readLine_46 : decode cX3_readLine 46 = .ok (.if_icmp .lt 31, 3) := by decide +kernel
theorem dX3_readLine_49 : decode cX3_readLine 49 = .ok (.iload_n 3, 1) := by decide +kernel
theorem dX3_readLine_50 : decode cX3_readLine 50 = .ok (.bipush 51, 2) := by decide +kernel
theorem dX3_readLine_52 : decode cX3_readLine 52 = .ok (.if_icmp .gt 25, 3) := by decide +kernel
theorem dX3_readLine_55 : decode cX3_readLine 55 = .ok (.aload_n 0, 1) := by decide +kernel
theorem dX3_readLine_56 : decode cX3_readLine 56 = .ok (.iload_n 1, 1) := by decide +kernel
theorem dX3_readLine_57 : decode cX3_readLine 57 = .ok (.iload_n 2, 1) := by decide +kernel
theorem dX3_readLine_58 : decode cX3_readLine 58 = .ok (.iadd, 1) := by decide +kernel
theorem dX3_readLine_59 : decode cX3_readLine 59 = .ok (.iload_n 3, 1) := by decide +kernel
theorem dX3_readLine_60 : decode cX3_readLine 60 = .ok (.bipush 48, 2) := by decide +kernel
theorem dX3_readLine_62 : decode cX3_readLine 62 = .ok (.isub, 1) := by decide +kernel
theorem dX3_readLine_63 : decode cX3_readLine 63 = .ok (.invokevirtual 78, 3) := by decide +kernel
theorem dX3_readLine_66 : decode cX3_readLine 66 = .ok (.iinc 2 1, 3) := by decide +kernel
theorem dX3_readLine_69 : decode cX3_readLine 69 = .ok (.aload_n 0, 1) := by decide +kernel
theorem dX3_readLine_70 : decode cX3_readLine 70 = .ok (.invokevirtual 56, 3) := by decide +kernel
theorem dX3_readLine_73 : decode cX3_readLine 73 = .ok (.istore_n 3, 1) := by decide +kernel
theorem dX3_readLine_74 : decode cX3_readLine 74 = .ok (.goto (-37), 3) := by decide +kernel
theorem dX3_readLine_77 : decode cX3_readLine 77 = .ok (.iload_n 3, 1) := by decide +kernel
theorem dX3_readLine_78 : decode cX3_readLine 78 = .ok (.bipush 59, 2) := by decide +kernel
theorem dX3_readLine_80 : decode cX3_readLine 80 = .ok (.if_icmp .ne 28, 3) := by decide +kernel
theorem dX3_readLine_83 : decode cX3_readLine 83 = .ok (.iload_n 2, 1) := by decide +kernel
theorem dX3_readLine_84 : decode cX3_readLine 84 = .ok (.ifCond .eq 24, 3) := by decide +kernel
theorem dX3_readLine_87 : decode cX3_readLine 87 = .ok (.aload_n 0, 1) := by decide +kernel
theorem dX3_readLine_88 : decode cX3_readLine 88 = .ok (.getfield 12, 3) := by decide +kernel
theorem dX3_readLine_91 : decode cX3_readLine 91 = .ok (.getfield 72, 3) := by decide +kernel
theorem dX3_readLine_94 : decode cX3_readLine 94 = .ok (.ifCond .le 16, 3) := by decide +kernel
theorem dX3_readLine_97 : decode cX3_readLine 97 = .ok (.iload_n 2, 1) := by decide +kernel
theorem dX3_readLine_98 : decode cX3_readLine 98 = .ok (.aload_n 0, 1) := by decide +kernel
theorem dX3_readLine_99 : decode cX3_readLine 99 = .ok (.getfield 12, 3) := by decide +kernel
theorem dX3_readLine_102 : decode cX3_readLine 102 = .ok (.getfield 75, 3) := by decide +kernel
theorem dX3_readLine_105 : decode cX3_readLine 105 = .ok (.if_icmp .eq 5, 3) := by decide +kernel
theorem dX3_readLine_108 : decode cX3_readLine 108 = .ok (.iconst 0, 1) := by decide +kernel
theorem dX3_readLine_109 : decode cX3_readLine 109 = .ok (.ireturn, 1) := by decide +kernel
theorem dX3_readLine_110 : decode cX3_readLine 110 = .ok (.aload_n 0, 1) := by decide +kernel
theorem dX3_readLine_111 : decode cX3_readLine 111 = .ok (.getfield 12, 3) := by decide +kernel
theorem dX3_readLine_114 : decode cX3_readLine 114 = .ok (.iload_n 2, 1) := by decide +kernel
theorem dX3_readLine_115 : decode cX3_readLine 115 = .ok (.putfield 75, 3) := by decide +kernel
theorem dX3_readLine_118 : decode cX3_readLine 118 = .ok (.aload_n 0, 1) := by decide +kernel
theorem dX3_readLine_119 : decode cX3_readLine 119 = .ok (.getfield 12, 3) := by decide +kernel
theorem dX3_readLine_122 : decode cX3_readLine 122 = .ok (.dup, 1) := by decide +kernel
theorem dX3_readLine_123 : decode cX3_readLine 123 = .ok (.getfield 72, 3) := by decide +kernel
theorem dX3_readLine_126 : decode cX3_readLine 126 = .ok (.iconst 1, 1) := by decide +kernel
theorem dX3_readLine_127 : decode cX3_readLine 127 = .ok (.iadd, 1) := by decide +kernel
theorem dX3_readLine_128 : decode cX3_readLine 128 = .ok (.putfield 72, 3) := by decide +kernel
theorem dX3_readLine_131 : decode cX3_readLine 131 = .ok (.iconst 1, 1) := by decide +kernel
theorem dX3_readLine_132 : decode cX3_readLine 132 = .ok (.ireturn, 1) := by decide +kernel
theorem dX3_tellGround_0 : decode cX3_tellGround 0 = .ok (.iload_n 2, 1) := by decide +kernel
theorem dX3_tellGround_1 : decode cX3_tellGround 1 = .ok (.tableswitch 84 0 2 #[27, 46, 65], 27) := by decide +kernel
theorem dX3_tellGround_28 : decode cX3_tellGround 28 = .ok (.aload_n 0, 1) := by decide +kernel
theorem dX3_tellGround_29 : decode cX3_tellGround 29 = .ok (.getfield 12, 3) := by decide +kernel
theorem dX3_tellGround_32 : decode cX3_tellGround 32 = .ok (.dup, 1) := by decide +kernel
theorem dX3_tellGround_33 : decode cX3_tellGround 33 = .ok (.getfield 82, 3) := by decide +kernel
theorem dX3_tellGround_36 : decode cX3_tellGround 36 = .ok (.iload_n 1, 1) := by decide +kernel
theorem dX3_tellGround_37 : decode cX3_tellGround 37 = .ok (.invokestatic 86, 3) := by decide +kernel
theorem dX3_tellGround_40 : decode cX3_tellGround 40 = .ok (.lor, 1) := by decide +kernel
theorem dX3_tellGround_41 : decode cX3_tellGround 41 = .ok (.putfield 82, 3) := by decide +kernel
theorem dX3_tellGround_44 : decode cX3_tellGround 44 = .ok (.goto 41, 3) := by decide +kernel
theorem dX3_tellGround_47 : decode cX3_tellGround 47 = .ok (.aload_n 0, 1) := by decide +kernel
theorem dX3_tellGround_48 : decode cX3_tellGround 48 = .ok (.getfield 12, 3) := by decide +kernel
theorem dX3_tellGround_51 : decode cX3_tellGround 51 = .ok (.dup, 1) := by decide +kernel
theorem dX3_tellGround_52 : decode cX3_tellGround 52 = .ok (.getfield 90, 3) := by decide +kernel
theorem dX3_tellGround_55 : decode cX3_tellGround 55 = .ok (.iload_n 1, 1) := by decide +kernel
theorem dX3_tellGround_56 : decode cX3_tellGround 56 = .ok (.invokestatic 86, 3) := by decide +kernel
theorem dX3_tellGround_59 : decode cX3_tellGround 59 = .ok (.lor, 1) := by decide +kernel
theorem dX3_tellGround_60 : decode cX3_tellGround 60 = .ok (.putfield 90, 3) := by decide +kernel
theorem dX3_tellGround_63 : decode cX3_tellGround 63 = .ok (.goto 22, 3) := by decide +kernel
theorem dX3_tellGround_66 : decode cX3_tellGround 66 = .ok (.aload_n 0, 1) := by decide +kernel
theorem dX3_tellGround_67 : decode cX3_tellGround 67 = .ok (.getfield 12, 3) := by decide +kernel
theorem dX3_tellGround_70 : decode cX3_tellGround 70 = .ok (.dup, 1) := by decide +kernel
theorem dX3_tellGround_71 : decode cX3_tellGround 71 = .ok (.getfield 93, 3) := by decide +kernel
theorem dX3_tellGround_74 : decode cX3_tellGround 74 = .ok (.iload_n 1, 1) := by decide +kernel
theorem dX3_tellGround_75 : decode cX3_tellGround 75 = .ok (.invokestatic 86, 3) := by decide +kernel
theorem dX3_tellGround_78 : decode cX3_tellGround 78 = .ok (.lor, 1) := by decide +kernel
theorem dX3_tellGround_79 : decode cX3_tellGround 79 = .ok (.putfield 93, 3) := by decide +kernel
theorem dX3_tellGround_82 : decode cX3_tellGround 82 = .ok (.goto 3, 3) := by decide +kernel
theorem dX3_tellGround_85 : decode cX3_tellGround 85 = .ok (.return_, 1) := by decide +kernel
theorem dX3_readNumbers_0 : decode cX3_readNumbers 0 = .ok (.aload_n 0, 1) := by decide +kernel
theorem dX3_readNumbers_1 : decode cX3_readNumbers 1 = .ok (.iconst 0, 1) := by decide +kernel
theorem dX3_readNumbers_2 : decode cX3_readNumbers 2 = .ok (.putfield 96, 3) := by decide +kernel
theorem dX3_readNumbers_5 : decode cX3_readNumbers 5 = .ok (.iconst 0, 1) := by decide +kernel
theorem dX3_readNumbers_6 : decode cX3_readNumbers 6 = .ok (.istore_n 1, 1) := by decide +kernel
theorem dX3_readNumbers_7 : decode cX3_readNumbers 7 = .ok (.iload_n 1, 1) := by decide +kernel
theorem dX3_readNumbers_8 : decode cX3_readNumbers 8 = .ok (.bipush 7, 2) := by decide +kernel
theorem dX3_readNumbers_10 : decode cX3_readNumbers 10 = .ok (.if_icmp .ge 62, 3) := by decide +kernel
theorem dX3_readNumbers_13 : decode cX3_readNumbers 13 = .ok (.aload_n 0, 1) := by decide +kernel
theorem dX3_readNumbers_14 : decode cX3_readNumbers 14 = .ok (.invokevirtual 99, 3) := by decide +kernel
theorem dX3_readNumbers_17 : decode cX3_readNumbers 17 = .ok (.istore_n 2, 1) := by decide +kernel
theorem dX3_readNumbers_18 : decode cX3_readNumbers 18 = .ok (.iload_n 2, 1) := by decide +kernel
theorem dX3_readNumbers_19 : decode cX3_readNumbers 19 = .ok (.bipush (-4), 2) := by decide +kernel
theorem dX3_readNumbers_21 : decode cX3_readNumbers 21 = .ok (.if_icmp .ne 5, 3) := by decide +kernel
theorem dX3_readNumbers_24 : decode cX3_readNumbers 24 = .ok (.iconst 0, 1) := by decide +kernel
theorem dX3_readNumbers_25 : decode cX3_readNumbers 25 = .ok (.ireturn, 1) := by decide +kernel
theorem dX3_readNumbers_26 : decode cX3_readNumbers 26 = .ok (.aload_n 0, 1) := by decide +kernel
theorem dX3_readNumbers_27 : decode cX3_readNumbers 27 = .ok (.getfield 27, 3) := by decide +kernel
theorem dX3_readNumbers_30 : decode cX3_readNumbers 30 = .ok (.iload_n 1, 1) := by decide +kernel
theorem dX3_readNumbers_31 : decode cX3_readNumbers 31 = .ok (.iload_n 2, 1) := by decide +kernel
theorem dX3_readNumbers_32 : decode cX3_readNumbers 32 = .ok (.iastore, 1) := by decide +kernel
theorem dX3_readNumbers_33 : decode cX3_readNumbers 33 = .ok (.aload_n 0, 1) := by decide +kernel
theorem dX3_readNumbers_34 : decode cX3_readNumbers 34 = .ok (.dup, 1) := by decide +kernel
theorem dX3_readNumbers_35 : decode cX3_readNumbers 35 = .ok (.getfield 96, 3) := by decide +kernel
theorem dX3_readNumbers_38 : decode cX3_readNumbers 38 = .ok (.iconst 1, 1) := by decide +kernel
theorem dX3_readNumbers_39 : decode cX3_readNumbers 39 = .ok (.iadd, 1) := by decide +kernel
theorem dX3_readNumbers_40 : decode cX3_readNumbers 40 = .ok (.putfield 96, 3) := by decide +kernel
theorem dX3_readNumbers_43 : decode cX3_readNumbers 43 = .ok (.aload_n 0, 1) := by decide +kernel
theorem dX3_readNumbers_44 : decode cX3_readNumbers 44 = .ok (.invokevirtual 56, 3) := by decide +kernel
theorem dX3_readNumbers_47 : decode cX3_readNumbers 47 = .ok (.istore_n 3, 1) := by decide +kernel
theorem dX3_readNumbers_48 : decode cX3_readNumbers 48 = .ok (.iload_n 3, 1) := by decide +kernel
theorem dX3_readNumbers_49 : decode cX3_readNumbers 49 = .ok (.bipush 44, 2) := by decide +kernel
theorem dX3_readNumbers_51 : decode cX3_readNumbers 51 = .ok (.if_icmp .eq 15, 3) := by decide +kernel
theorem dX3_readNumbers_54 : decode cX3_readNumbers 54 = .ok (.iload_n 3, 1) := by decide +kernel
theorem dX3_readNumbers_55 : decode cX3_readNumbers 55 = .ok (.bipush 59, 2) := by decide +kernel
theorem dX3_readNumbers_57 : decode cX3_readNumbers 57 = .ok (.if_icmp .ne 7, 3) := by decide +kernel
theorem dX3_readNumbers_60 : decode cX3_readNumbers 60 = .ok (.iconst 1, 1) := by decide +kernel
theorem dX3_readNumbers_61 : decode cX3_readNumbers 61 = .ok (.goto 4, 3) := by decide +kernel
theorem dX3_readNumbers_64 : decode cX3_readNumbers 64 = .ok (.iconst 0, 1) := by decide +kernel
theorem dX3_readNumbers_65 : decode cX3_readNumbers 65 = .ok (.ireturn, 1) := by decide +kernel
theorem dX3_readNumbers_66 : decode cX3_readNumbers 66 = .ok (.iinc 1 1, 3) := by decide +kernel
theorem dX3_readNumbers_69 : decode cX3_readNumbers 69 = .ok (.goto (-62), 3) := by decide +kernel
theorem dX3_readNumbers_72 : decode cX3_readNumbers 72 = .ok (.iconst 0, 1) := by decide +kernel
theorem dX3_readNumbers_73 : decode cX3_readNumbers 73 = .ok (.ireturn, 1) := by decide +kernel
theorem dX3_readNumber_0 : decode cX3_readNumber 0 = .ok (.aload_n 0, 1) := by decide +kernel
theorem dX3_readNumber_1 : decode cX3_readNumber 1 = .ok (.invokevirtual 103, 3) := by decide +kernel
theorem dX3_readNumber_4 : decode cX3_readNumber 4 = .ok (.ifCond .ne 6, 3) := by decide +kernel
theorem dX3_readNumber_7 : decode cX3_readNumber 7 = .ok (.bipush (-4), 2) := by decide +kernel
theorem dX3_readNumber_9 : decode cX3_readNumber 9 = .ok (.ireturn, 1) := by decide +kernel
theorem dX3_readNumber_10 : decode cX3_readNumber 10 = .ok (.aload_n 0, 1) := by decide +kernel
theorem dX3_readNumber_11 : decode cX3_readNumber 11 = .ok (.invokevirtual 56, 3) := by decide +kernel
theorem dX3_readNumber_14 : decode cX3_readNumber 14 = .ok (.bipush 48, 2) := by decide +kernel
theorem dX3_readNumber_16 : decode cX3_readNumber 16 = .ok (.isub, 1) := by decide +kernel
theorem dX3_readNumber_17 : decode cX3_readNumber 17 = .ok (.istore_n 1, 1) := by decide +kernel
theorem dX3_readNumber_18 : decode cX3_readNumber 18 = .ok (.aload_n 0, 1) := by decide +kernel
theorem dX3_readNumber_19 : decode cX3_readNumber 19 = .ok (.invokevirtual 103, 3) := by decide +kernel
theorem dX3_readNumber_22 : decode cX3_readNumber 22 = .ok (.ifCond .eq 18, 3) := by decide +kernel
theorem dX3_readNumber_25 : decode cX3_readNumber 25 = .ok (.iload_n 1, 1) := by decide +kernel
theorem dX3_readNumber_26 : decode cX3_readNumber 26 = .ok (.bipush 10, 2) := by decide +kernel
theorem dX3_readNumber_28 : decode cX3_readNumber 28 = .ok (.imul, 1) := by decide +kernel
theorem dX3_readNumber_29 : decode cX3_readNumber 29 = .ok (.aload_n 0, 1) := by decide +kernel
theorem dX3_readNumber_30 : decode cX3_readNumber 30 = .ok (.invokevirtual 56, 3) := by decide +kernel
theorem dX3_readNumber_33 : decode cX3_readNumber 33 = .ok (.bipush 48, 2) := by decide +kernel
theorem dX3_readNumber_35 : decode cX3_readNumber 35 = .ok (.isub, 1) := by decide +kernel
theorem dX3_readNumber_36 : decode cX3_readNumber 36 = .ok (.iadd, 1) := by decide +kernel
theorem dX3_readNumber_37 : decode cX3_readNumber 37 = .ok (.goto 4, 3) := by decide +kernel
theorem dX3_readNumber_40 : decode cX3_readNumber 40 = .ok (.iload_n 1, 1) := by decide +kernel
theorem dX3_readNumber_41 : decode cX3_readNumber 41 = .ok (.ireturn, 1) := by decide +kernel
theorem dX3_isFigureNext_0 : decode cX3_isFigureNext 0 = .ok (.aload_n 0, 1) := by decide +kernel
theorem dX3_isFigureNext_1 : decode cX3_isFigureNext 1 = .ok (.getfield 45, 3) := by decide +kernel
theorem dX3_isFigureNext_4 : decode cX3_isFigureNext 4 = .ok (.ifCond .lt 58, 3) := by decide +kernel
theorem dX3_isFigureNext_7 : decode cX3_isFigureNext 7 = .ok (.aload_n 0, 1) := by decide +kernel
theorem dX3_isFigureNext_8 : decode cX3_isFigureNext 8 = .ok (.getfield 45, 3) := by decide +kernel
theorem dX3_isFigureNext_11 : decode cX3_isFigureNext 11 = .ok (.aload_n 0, 1) := by decide +kernel
theorem dX3_isFigureNext_12 : decode cX3_isFigureNext 12 = .ok (.getfield 41, 3) := by decide +kernel
theorem dX3_isFigureNext_15 : decode cX3_isFigureNext 15 = .ok (.if_icmp .ge 47, 3) := by decide +kernel
theorem dX3_isFigureNext_18 : decode cX3_isFigureNext 18 = .ok (.aload_n 0, 1) := by decide +kernel
theorem dX3_isFigureNext_19 : decode cX3_isFigureNext 19 = .ok (.getfield 45, 3) := by decide +kernel
theorem dX3_isFigureNext_22 : decode cX3_isFigureNext 22 = .ok (.aload_n 0, 1) := by decide +kernel
theorem dX3_isFigureNext_23 : decode cX3_isFigureNext 23 = .ok (.getfield 31, 3) := by decide +kernel
theorem dX3_isFigureNext_26 : decode cX3_isFigureNext 26 = .ok (.arraylength, 1) := by decide +kernel
theorem dX3_isFigureNext_27 : decode cX3_isFigureNext 27 = .ok (.if_icmp .ge 35, 3) := by decide +kernel
theorem dX3_isFigureNext_30 : decode cX3_isFigureNext 30 = .ok (.aload_n 0, 1) := by decide +kernel
theorem dX3_isFigureNext_31 : decode cX3_isFigureNext 31 = .ok (.getfield 31, 3) := by decide +kernel
theorem dX3_isFigureNext_34 : decode cX3_isFigureNext 34 = .ok (.aload_n 0, 1) := by decide +kernel
theorem dX3_isFigureNext_35 : decode cX3_isFigureNext 35 = .ok (.getfield 45, 3) := by decide +kernel
theorem dX3_isFigureNext_38 : decode cX3_isFigureNext 38 = .ok (.caload, 1) := by decide +kernel
theorem dX3_isFigureNext_39 : decode cX3_isFigureNext 39 = .ok (.bipush 48, 2) := by decide +kernel
theorem dX3_isFigureNext_41 : decode cX3_isFigureNext 41 = .ok (.if_icmp .lt 21, 3) := by decide +kernel
theorem dX3_isFigureNext_44 : decode cX3_isFigureNext 44 = .ok (.aload_n 0, 1) := by decide +kernel
theorem dX3_isFigureNext_45 : decode cX3_isFigureNext 45 = .ok (.getfield 31, 3) := by decide +kernel
theorem dX3_isFigureNext_48 : decode cX3_isFigureNext 48 = .ok (.aload_n 0, 1) := by decide +kernel
theorem dX3_isFigureNext_49 : decode cX3_isFigureNext 49 = .ok (.getfield 45, 3) := by decide +kernel
theorem dX3_isFigureNext_52 : decode cX3_isFigureNext 52 = .ok (.caload, 1) := by decide +kernel
theorem dX3_isFigureNext_53 : decode cX3_isFigureNext 53 = .ok (.bipush 57, 2) := by decide +kernel
theorem dX3_isFigureNext_55 : decode cX3_isFigureNext 55 = .ok (.if_icmp .gt 7, 3) := by decide +kernel
theorem dX3_isFigureNext_58 : decode cX3_isFigureNext 58 = .ok (.iconst 1, 1) := by decide +kernel
theorem dX3_isFigureNext_59 : decode cX3_isFigureNext 59 = .ok (.goto 4, 3) := by decide +kernel
theorem dX3_isFigureNext_62 : decode cX3_isFigureNext 62 = .ok (.iconst 0, 1) := by decide +kernel
theorem dX3_isFigureNext_63 : decode cX3_isFigureNext 63 = .ok (.ireturn, 1) := by decide +kernel
theorem dX3_giveCells_0 : decode cX3_giveCells 0 = .ok (.aload_n 0, 1) := by decide +kernel
theorem dX3_giveCells_1 : decode cX3_giveCells 1 = .ok (.getfield 96, 3) := by decide +kernel
theorem dX3_giveCells_4 : decode cX3_giveCells 4 = .ok (.iconst 3, 1) := by decide +kernel
theorem dX3_giveCells_5 : decode cX3_giveCells 5 = .ok (.if_icmp .ne 60, 3) := by decide +kernel
theorem dX3_giveCells_8 : decode cX3_giveCells 8 = .ok (.aload_n 0, 1) := by decide +kernel
theorem dX3_giveCells_9 : decode cX3_giveCells 9 = .ok (.getfield 12, 3) := by decide +kernel
theorem dX3_giveCells_12 : decode cX3_giveCells 12 = .ok (.aload_n 0, 1) := by decide +kernel
theorem dX3_giveCells_13 : decode cX3_giveCells 13 = .ok (.getfield 27, 3) := by decide +kernel
theorem dX3_giveCells_16 : decode cX3_giveCells 16 = .ok (.iconst 0, 1) := by decide +kernel
theorem dX3_giveCells_17 : decode cX3_giveCells 17 = .ok (.iaload, 1) := by decide +kernel
theorem dX3_giveCells_18 : decode cX3_giveCells 18 = .ok (.invokevirtual 106, 3) := by decide +kernel
theorem dX3_giveCells_21 : decode cX3_giveCells 21 = .ok (.ifCond .eq 44, 3) := by decide +kernel
theorem dX3_giveCells_24 : decode cX3_giveCells 24 = .ok (.aload_n 0, 1) := by decide +kernel
theorem dX3_giveCells_25 : decode cX3_giveCells 25 = .ok (.getfield 12, 3) := by decide +kernel
theorem dX3_giveCells_28 : decode cX3_giveCells 28 = .ok (.aload_n 0, 1) := by decide +kernel
theorem dX3_giveCells_29 : decode cX3_giveCells 29 = .ok (.getfield 27, 3) := by decide +kernel
theorem dX3_giveCells_32 : decode cX3_giveCells 32 = .ok (.iconst 1, 1) := by decide +kernel
theorem dX3_giveCells_33 : decode cX3_giveCells 33 = .ok (.iaload, 1) := by decide +kernel
theorem dX3_giveCells_34 : decode cX3_giveCells 34 = .ok (.invokevirtual 106, 3) := by decide +kernel
theorem dX3_giveCells_37 : decode cX3_giveCells 37 = .ok (.ifCond .eq 28, 3) := by decide +kernel
theorem dX3_giveCells_40 : decode cX3_giveCells 40 = .ok (.aload_n 0, 1) := by decide +kernel
theorem dX3_giveCells_41 : decode cX3_giveCells 41 = .ok (.getfield 27, 3) := by decide +kernel
theorem dX3_giveCells_44 : decode cX3_giveCells 44 = .ok (.iconst 1, 1) := by decide +kernel
theorem dX3_giveCells_45 : decode cX3_giveCells 45 = .ok (.iaload, 1) := by decide +kernel
theorem dX3_giveCells_46 : decode cX3_giveCells 46 = .ok (.aload_n 0, 1) := by decide +kernel
theorem dX3_giveCells_47 : decode cX3_giveCells 47 = .ok (.getfield 27, 3) := by decide +kernel
theorem dX3_giveCells_50 : decode cX3_giveCells 50 = .ok (.iconst 0, 1) := by decide +kernel
theorem dX3_giveCells_51 : decode cX3_giveCells 51 = .ok (.iaload, 1) := by decide +kernel
theorem dX3_giveCells_52 : decode cX3_giveCells 52 = .ok (.if_icmp .lt 13, 3) := by decide +kernel
theorem dX3_giveCells_55 : decode cX3_giveCells 55 = .ok (.aload_n 0, 1) := by decide +kernel
theorem dX3_giveCells_56 : decode cX3_giveCells 56 = .ok (.getfield 27, 3) := by decide +kernel
theorem dX3_giveCells_59 : decode cX3_giveCells 59 = .ok (.iconst 2, 1) := by decide +kernel
theorem dX3_giveCells_60 : decode cX3_giveCells 60 = .ok (.iaload, 1) := by decide +kernel
theorem dX3_giveCells_61 : decode cX3_giveCells 61 = .ok (.iconst 4, 1) := by decide +kernel
theorem dX3_giveCells_62 : decode cX3_giveCells 62 = .ok (.if_icmp .lt 5, 3) := by decide +kernel
theorem dX3_giveCells_65 : decode cX3_giveCells 65 = .ok (.iconst 0, 1) := by decide +kernel
theorem dX3_giveCells_66 : decode cX3_giveCells 66 = .ok (.ireturn, 1) := by decide +kernel
theorem dX3_giveCells_67 : decode cX3_giveCells 67 = .ok (.aload_n 0, 1) := by decide +kernel
theorem dX3_giveCells_68 : decode cX3_giveCells 68 = .ok (.getfield 27, 3) := by decide +kernel
theorem dX3_giveCells_71 : decode cX3_giveCells 71 = .ok (.iconst 0, 1) := by decide +kernel
theorem dX3_giveCells_72 : decode cX3_giveCells 72 = .ok (.iaload, 1) := by decide +kernel
theorem dX3_giveCells_73 : decode cX3_giveCells 73 = .ok (.istore_n 1, 1) := by decide +kernel
theorem dX3_giveCells_74 : decode cX3_giveCells 74 = .ok (.iload_n 1, 1) := by decide +kernel
theorem dX3_giveCells_75 : decode cX3_giveCells 75 = .ok (.aload_n 0, 1) := by decide +kernel
theorem dX3_giveCells_76 : decode cX3_giveCells 76 = .ok (.getfield 27, 3) := by decide +kernel
theorem dX3_giveCells_79 : decode cX3_giveCells 79 = .ok (.iconst 1, 1) := by decide +kernel
theorem dX3_giveCells_80 : decode cX3_giveCells 80 = .ok (.iaload, 1) := by decide +kernel
theorem dX3_giveCells_81 : decode cX3_giveCells 81 = .ok (.if_icmp .gt 30, 3) := by decide +kernel
theorem dX3_giveCells_84 : decode cX3_giveCells 84 = .ok (.iload_n 1, 1) := by decide +kernel
theorem dX3_giveCells_85 : decode cX3_giveCells 85 = .ok (.bipush 36, 2) := by decide +kernel
theorem dX3_giveCells_87 : decode cX3_giveCells 87 = .ok (.if_icmp .ge 24, 3) := by decide +kernel
theorem dX3_giveCells_90 : decode cX3_giveCells 90 = .ok (.aload_n 0, 1) := by decide +kernel
theorem dX3_giveCells_91 : decode cX3_giveCells 91 = .ok (.getfield 12, 3) := by decide +kernel
theorem dX3_giveCells_94 : decode cX3_giveCells 94 = .ok (.getfield 110, 3) := by decide +kernel
theorem dX3_giveCells_97 : decode cX3_giveCells 97 = .ok (.iload_n 1, 1) := by decide +kernel
theorem dX3_giveCells_98 : decode cX3_giveCells 98 = .ok (.aload_n 0, 1) := by decide +kernel
theorem dX3_giveCells_99 : decode cX3_giveCells 99 = .ok (.getfield 27, 3) := by decide +kernel
theorem dX3_giveCells_102 : decode cX3_giveCells 102 = .ok (.iconst 2, 1) := by decide +kernel
theorem dX3_giveCells_103 : decode cX3_giveCells 103 = .ok (.iaload, 1) := by decide +kernel
theorem dX3_giveCells_104 : decode cX3_giveCells 104 = .ok (.iastore, 1) := by decide +kernel
theorem dX3_giveCells_105 : decode cX3_giveCells 105 = .ok (.iinc 1 1, 3) := by decide +kernel
theorem dX3_giveCells_108 : decode cX3_giveCells 108 = .ok (.goto (-34), 3) := by decide +kernel
theorem dX3_giveCells_111 : decode cX3_giveCells 111 = .ok (.iconst 1, 1) := by decide +kernel
theorem dX3_giveCells_112 : decode cX3_giveCells 112 = .ok (.ireturn, 1) := by decide +kernel
theorem dX3_plantRow_0 : decode cX3_plantRow 0 = .ok (.aload_n 0, 1) := by decide +kernel
theorem dX3_plantRow_1 : decode cX3_plantRow 1 = .ok (.getfield 96, 3) := by decide +kernel
theorem dX3_plantRow_4 : decode cX3_plantRow 4 = .ok (.iconst 4, 1) := by decide +kernel
theorem dX3_plantRow_5 : decode cX3_plantRow 5 = .ok (.if_icmp .lt 55, 3) := by decide +kernel
theorem dX3_plantRow_8 : decode cX3_plantRow 8 = .ok (.aload_n 0, 1) := by decide +kernel
theorem dX3_plantRow_9 : decode cX3_plantRow 9 = .ok (.getfield 23, 3) := by decide +kernel
theorem dX3_plantRow_12 : decode cX3_plantRow 12 = .ok (.getfield 113, 3) := by decide +kernel
theorem dX3_plantRow_15 : decode cX3_plantRow 15 = .ok (.ifCond .lt 45, 3) := by decide +kernel
theorem dX3_plantRow_18 : decode cX3_plantRow 18 = .ok (.aload_n 0, 1) := by decide +kernel
theorem dX3_plantRow_19 : decode cX3_plantRow 19 = .ok (.getfield 23, 3) := by decide +kernel
theorem dX3_plantRow_22 : decode cX3_plantRow 22 = .ok (.getfield 113, 3) := by decide +kernel
theorem dX3_plantRow_25 : decode cX3_plantRow 25 = .ok (.iconst 3, 1) := by decide +kernel
theorem dX3_plantRow_26 : decode cX3_plantRow 26 = .ok (.if_icmp .ge 34, 3) := by decide +kernel
theorem dX3_plantRow_29 : decode cX3_plantRow 29 = .ok (.aload_n 0, 1) := by decide +kernel
theorem dX3_plantRow_30 : decode cX3_plantRow 30 = .ok (.getfield 27, 3) := by decide +kernel
theorem dX3_plantRow_33 : decode cX3_plantRow 33 = .ok (.iconst 0, 1) := by decide +kernel
theorem dX3_plantRow_34 : decode cX3_plantRow 34 = .ok (.iaload, 1) := by decide +kernel
theorem dX3_plantRow_35 : decode cX3_plantRow 35 = .ok (.iconst 4, 1) := by decide +kernel
theorem dX3_plantRow_36 : decode cX3_plantRow 36 = .ok (.if_icmp .ge 24, 3) := by decide +kernel
theorem dX3_plantRow_39 : decode cX3_plantRow 39 = .ok (.aload_n 0, 1) := by decide +kernel
theorem dX3_plantRow_40 : decode cX3_plantRow 40 = .ok (.getfield 27, 3) := by decide +kernel
theorem dX3_plantRow_43 : decode cX3_plantRow 43 = .ok (.iconst 1, 1) := by decide +kernel
theorem dX3_plantRow_44 : decode cX3_plantRow 44 = .ok (.iaload, 1) := by decide +kernel
theorem dX3_plantRow_45 : decode cX3_plantRow 45 = .ok (.iconst 4, 1) := by decide +kernel
theorem dX3_plantRow_46 : decode cX3_plantRow 46 = .ok (.if_icmp .ge 14, 3) := by decide +kernel
theorem dX3_plantRow_49 : decode cX3_plantRow 49 = .ok (.aload_n 0, 1) := by decide +kernel
theorem dX3_plantRow_50 : decode cX3_plantRow 50 = .ok (.getfield 27, 3) := by decide +kernel
theorem dX3_plantRow_53 : decode cX3_plantRow 53 = .ok (.iconst 2, 1) := by decide +kernel
theorem dX3_plantRow_54 : decode cX3_plantRow 54 = .ok (.iaload, 1) := by decide +kernel
theorem dX3_plantRow_55 : decode cX3_plantRow 55 = .ok (.bipush 9, 2) := by decide +kernel
theorem dX3_plantRow_57 : decode cX3_plantRow 57 = .ok (.if_icmp .le 5, 3) := by decide +kernel
theorem dX3_plantRow_60 : decode cX3_plantRow 60 = .ok (.iconst 0, 1) := by decide +kernel
theorem dX3_plantRow_61 : decode cX3_plantRow 61 = .ok (.ireturn, 1) := by decide +kernel
theorem dX3_plantRow_62 : decode cX3_plantRow 62 = .ok (.aload_n 0, 1) := by decide +kernel
theorem dX3_plantRow_63 : decode cX3_plantRow 63 = .ok (.getfield 23, 3) := by decide +kernel
theorem dX3_plantRow_66 : decode cX3_plantRow 66 = .ok (.getfield 116, 3) := by decide +kernel
theorem dX3_plantRow_69 : decode cX3_plantRow 69 = .ok (.aload_n 0, 1) := by decide +kernel
theorem dX3_plantRow_70 : decode cX3_plantRow 70 = .ok (.getfield 23, 3) := by decide +kernel
theorem dX3_plantRow_73 : decode cX3_plantRow 73 = .ok (.getfield 113, 3) := by decide +kernel
theorem dX3_plantRow_76 : decode cX3_plantRow 76 = .ok (.aaload, 1) := by decide +kernel
theorem dX3_plantRow_77 : decode cX3_plantRow 77 = .ok (.astore_n 1, 1) := by decide +kernel
theorem dX3_plantRow_78 : decode cX3_plantRow 78 = .ok (.aload_n 1, 1) := by decide +kernel
theorem dX3_plantRow_79 : decode cX3_plantRow 79 = .ok (.iconst 0, 1) := by decide +kernel
theorem dX3_plantRow_80 : decode cX3_plantRow 80 = .ok (.putfield 120, 3) := by decide +kernel
theorem dX3_plantRow_83 : decode cX3_plantRow 83 = .ok (.aload_n 1, 1) := by decide +kernel
theorem dX3_plantRow_84 : decode cX3_plantRow 84 = .ok (.aload_n 0, 1) := by decide +kernel
theorem dX3_plantRow_85 : decode cX3_plantRow 85 = .ok (.getfield 27, 3) := by decide +kernel
theorem dX3_plantRow_88 : decode cX3_plantRow 88 = .ok (.iconst 0, 1) := by decide +kernel
theorem dX3_plantRow_89 : decode cX3_plantRow 89 = .ok (.iaload, 1) := by decide +kernel
theorem dX3_plantRow_90 : decode cX3_plantRow 90 = .ok (.putfield 125, 3) := by decide +kernel
theorem dX3_plantRow_93 : decode cX3_plantRow 93 = .ok (.aload_n 1, 1) := by decide +kernel
theorem dX3_plantRow_94 : decode cX3_plantRow 94 = .ok (.aload_n 0, 1) := by decide +kernel
theorem dX3_plantRow_95 : decode cX3_plantRow 95 = .ok (.getfield 27, 3) := by decide +kernel
theorem dX3_plantRow_98 : decode cX3_plantRow 98 = .ok (.iconst 1, 1) := by decide +kernel
theorem dX3_plantRow_99 : decode cX3_plantRow 99 = .ok (.iaload, 1) := by decide +kernel
theorem dX3_plantRow_100 : decode cX3_plantRow 100 = .ok (.putfield 128, 3) := by decide +kernel
theorem dX3_plantRow_103 : decode cX3_plantRow 103 = .ok (.aload_n 1, 1) := by decide +kernel
theorem dX3_plantRow_104 : decode cX3_plantRow 104 = .ok (.aload_n 0, 1) := by decide +kernel
theorem dX3_plantRow_105 : decode cX3_plantRow 105 = .ok (.getfield 27, 3) := by decide +kernel
theorem dX3_plantRow_108 : decode cX3_plantRow 108 = .ok (.iconst 2, 1) := by decide +kernel
theorem dX3_plantRow_109 : decode cX3_plantRow 109 = .ok (.iaload, 1) := by decide +kernel
theorem dX3_plantRow_110 : decode cX3_plantRow 110 = .ok (.putfield 131, 3) := by decide +kernel
theorem dX3_plantRow_113 : decode cX3_plantRow 113 = .ok (.iconst 3, 1) := by decide +kernel
theorem dX3_plantRow_114 : decode cX3_plantRow 114 = .ok (.istore_n 2, 1) := by decide +kernel
theorem dX3_plantRow_115 : decode cX3_plantRow 115 = .ok (.iload_n 2, 1) := by decide +kernel
theorem dX3_plantRow_116 : decode cX3_plantRow 116 = .ok (.aload_n 0, 1) := by decide +kernel
theorem dX3_plantRow_117 : decode cX3_plantRow 117 = .ok (.getfield 96, 3) := by decide +kernel
theorem dX3_plantRow_120 : decode cX3_plantRow 120 = .ok (.if_icmp .ge 31, 3) := by decide +kernel
theorem dX3_plantRow_123 : decode cX3_plantRow 123 = .ok (.iload_n 2, 1) := by decide +kernel
theorem dX3_plantRow_124 : decode cX3_plantRow 124 = .ok (.bipush 7, 2) := by decide +kernel
theorem dX3_plantRow_126 : decode cX3_plantRow 126 = .ok (.if_icmp .ge 25, 3) := by decide +kernel
theorem dX3_plantRow_129 : decode cX3_plantRow 129 = .ok (.aload_n 0, 1) := by decide +kernel
theorem dX3_plantRow_130 : decode cX3_plantRow 130 = .ok (.aload_n 1, 1) := by decide +kernel
theorem dX3_plantRow_131 : decode cX3_plantRow 131 = .ok (.aload_n 0, 1) := by decide +kernel
theorem dX3_plantRow_132 : decode cX3_plantRow 132 = .ok (.getfield 27, 3) := by decide +kernel
theorem dX3_plantRow_135 : decode cX3_plantRow 135 = .ok (.iload_n 2, 1) := by decide +kernel
theorem dX3_plantRow_136 : decode cX3_plantRow 136 = .ok (.iaload, 1) := by decide +kernel
theorem dX3_plantRow_137 : decode cX3_plantRow 137 = .ok (.invokevirtual 134, 3) := by decide +kernel
theorem dX3_plantRow_140 : decode cX3_plantRow 140 = .ok (.ifCond .ne 5, 3) := by decide +kernel
theorem dX3_plantRow_143 : decode cX3_plantRow 143 = .ok (.iconst 0, 1) := by decide +kernel
theorem dX3_plantRow_144 : decode cX3_plantRow 144 = .ok (.ireturn, 1) := by decide +kernel
theorem dX3_plantRow_145 : decode cX3_plantRow 145 = .ok (.iinc 2 1, 3) := by decide +kernel
theorem dX3_plantRow_148 : decode cX3_plantRow 148 = .ok (.goto (-33), 3) := by decide +kernel
theorem dX3_plantRow_151 : decode cX3_plantRow 151 = .ok (.aload_n 0, 1) := by decide +kernel
theorem dX3_plantRow_152 : decode cX3_plantRow 152 = .ok (.getfield 23, 3) := by decide +kernel
theorem dX3_plantRow_155 : decode cX3_plantRow 155 = .ok (.dup, 1) := by decide +kernel
theorem dX3_plantRow_156 : decode cX3_plantRow 156 = .ok (.getfield 113, 3) := by decide +kernel
theorem dX3_plantRow_159 : decode cX3_plantRow 159 = .ok (.iconst 1, 1) := by decide +kernel
theorem dX3_plantRow_160 : decode cX3_plantRow 160 = .ok (.iadd, 1) := by decide +kernel
theorem dX3_plantRow_161 : decode cX3_plantRow 161 = .ok (.putfield 113, 3) := by decide +kernel
theorem dX3_plantRow_164 : decode cX3_plantRow 164 = .ok (.iconst 1, 1) := by decide +kernel
theorem dX3_plantRow_165 : decode cX3_plantRow 165 = .ok (.ireturn, 1) := by decide +kernel
theorem dX3_plantTree_0 : decode cX3_plantTree 0 = .ok (.aload_n 0, 1) := by decide +kernel
theorem dX3_plantTree_1 : decode cX3_plantTree 1 = .ok (.getfield 12, 3) := by decide +kernel
theorem dX3_plantTree_4 : decode cX3_plantTree 4 = .ok (.getfield 82, 3) := by decide +kernel
theorem dX3_plantTree_7 : decode cX3_plantTree 7 = .ok (.aload_n 0, 1) := by decide +kernel
theorem dX3_plantTree_8 : decode cX3_plantTree 8 = .ok (.getfield 12, 3) := by decide +kernel
theorem dX3_plantTree_11 : decode cX3_plantTree 11 = .ok (.getfield 90, 3) := by decide +kernel
theorem dX3_plantTree_14 : decode cX3_plantTree 14 = .ok (.lor, 1) := by decide +kernel
theorem dX3_plantTree_15 : decode cX3_plantTree 15 = .ok (.aload_n 0, 1) := by decide +kernel
theorem dX3_plantTree_16 : decode cX3_plantTree 16 = .ok (.getfield 23, 3) := by decide +kernel
theorem dX3_plantTree_19 : decode cX3_plantTree 19 = .ok (.getfield 138, 3) := by decide +kernel
theorem dX3_plantTree_22 : decode cX3_plantTree 22 = .ok (.ldc2_w 141, 3) := by decide +kernel
theorem dX3_plantTree_25 : decode cX3_plantTree 25 = .ok (.lxor, 1) := by decide +kernel
theorem dX3_plantTree_26 : decode cX3_plantTree 26 = .ok (.land, 1) := by decide +kernel
theorem dX3_plantTree_27 : decode cX3_plantTree 27 = .ok (.iload_n 2, 1) := by decide +kernel
theorem dX3_plantTree_28 : decode cX3_plantTree 28 = .ok (.invokestatic 143, 3) := by decide +kernel
theorem dX3_plantTree_31 : decode cX3_plantTree 31 = .ok (.ifCond .ne 5, 3) := by decide +kernel
theorem dX3_plantTree_34 : decode cX3_plantTree 34 = .ok (.iconst 0, 1) := by decide +kernel
theorem dX3_plantTree_35 : decode cX3_plantTree 35 = .ok (.ireturn, 1) := by decide +kernel
theorem dX3_plantTree_36 : decode cX3_plantTree 36 = .ok (.aload_n 1, 1) := by decide +kernel
theorem dX3_plantTree_37 : decode cX3_plantTree 37 = .ok (.getfield 120, 3) := by decide +kernel
theorem dX3_plantTree_40 : decode cX3_plantTree 40 = .ok (.ifCond .le 29, 3) := by decide +kernel
theorem dX3_plantTree_43 : decode cX3_plantTree 43 = .ok (.aload_n 0, 1) := by decide +kernel
theorem dX3_plantTree_44 : decode cX3_plantTree 44 = .ok (.getfield 12, 3) := by decide +kernel
theorem dX3_plantTree_47 : decode cX3_plantTree 47 = .ok (.iload_n 2, 1) := by decide +kernel
theorem dX3_plantTree_48 : decode cX3_plantTree 48 = .ok (.aload_n 1, 1) := by decide +kernel
theorem dX3_plantTree_49 : decode cX3_plantTree 49 = .ok (.aload_n 1, 1) := by decide +kernel
theorem dX3_plantTree_50 : decode cX3_plantTree 50 = .ok (.getfield 120, 3) := by decide +kernel
theorem dX3_plantTree_53 : decode cX3_plantTree 53 = .ok (.iconst 1, 1) := by decide +kernel
theorem dX3_plantTree_54 : decode cX3_plantTree 54 = .ok (.isub, 1) := by decide +kernel
theorem dX3_plantTree_55 : decode cX3_plantTree 55 = .ok (.invokevirtual 147, 3) := by decide +kernel
theorem dX3_plantTree_58 : decode cX3_plantTree 58 = .ok (.invokestatic 86, 3) := by decide +kernel
theorem dX3_plantTree_61 : decode cX3_plantTree 61 = .ok (.invokevirtual 151, 3) := by decide +kernel
theorem dX3_plantTree_64 : decode cX3_plantTree 64 = .ok (.ifCond .ne 5, 3) := by decide +kernel
theorem dX3_plantTree_67 : decode cX3_plantTree 67 = .ok (.iconst 0, 1) := by decide +kernel
theorem dX3_plantTree_68 : decode cX3_plantTree 68 = .ok (.ireturn, 1) := by decide +kernel
theorem dX3_plantTree_69 : decode cX3_plantTree 69 = .ok (.aload_n 1, 1) := by decide +kernel
theorem dX3_plantTree_70 : decode cX3_plantTree 70 = .ok (.iload_n 2, 1) := by decide +kernel
theorem dX3_plantTree_71 : decode cX3_plantTree 71 = .ok (.invokevirtual 155, 3) := by decide +kernel
theorem dX3_plantTree_74 : decode cX3_plantTree 74 = .ok (.aload_n 0, 1) := by decide +kernel
theorem dX3_plantTree_75 : decode cX3_plantTree 75 = .ok (.getfield 23, 3) := by decide +kernel
theorem dX3_plantTree_78 : decode cX3_plantTree 78 = .ok (.dup, 1) := by decide +kernel
theorem dX3_plantTree_79 : decode cX3_plantTree 79 = .ok (.getfield 138, 3) := by decide +kernel
theorem dX3_plantTree_82 : decode cX3_plantTree 82 = .ok (.iload_n 2, 1) := by decide +kernel
theorem dX3_plantTree_83 : decode cX3_plantTree 83 = .ok (.invokestatic 86, 3) := by decide +kernel
theorem dX3_plantTree_86 : decode cX3_plantTree 86 = .ok (.lor, 1) := by decide +kernel
theorem dX3_plantTree_87 : decode cX3_plantTree 87 = .ok (.putfield 138, 3) := by decide +kernel
theorem dX3_plantTree_90 : decode cX3_plantTree 90 = .ok (.iconst 1, 1) := by decide +kernel
theorem dX3_plantTree_91 : decode cX3_plantTree 91 = .ok (.ireturn, 1) := by decide +kernel
theorem dX4_init_0 : decode cX4_init 0 = .ok (.aload_n 0, 1) := by decide +kernel
theorem dX4_init_1 : decode cX4_init 1 = .ok (.invokespecial 3, 3) := by decide +kernel
theorem dX4_init_4 : decode cX4_init 4 = .ok (.aload_n 0, 1) := by decide +kernel
theorem dX4_init_5 : decode cX4_init 5 = .ok (.iconst 4, 1) := by decide +kernel
theorem dX4_init_6 : decode cX4_init 6 = .ok (.newarray .int, 2) := by decide +kernel
theorem dX4_init_8 : decode cX4_init 8 = .ok (.putfield 9, 3) := by decide +kernel
theorem dX4_init_11 : decode cX4_init 11 = .ok (.return_, 1) := by decide +kernel
theorem dX4_copyFrom_0 : decode cX4_copyFrom 0 = .ok (.aload_n 0, 1) := by decide +kernel
theorem dX4_copyFrom_1 : decode cX4_copyFrom 1 = .ok (.aload_n 1, 1) := by decide +kernel
theorem dX4_copyFrom_2 : decode cX4_copyFrom 2 = .ok (.getfield 15, 3) := by decide +kernel
theorem dX4_copyFrom_5 : decode cX4_copyFrom 5 = .ok (.putfield 15, 3) := by decide +kernel
theorem dX4_copyFrom_8 : decode cX4_copyFrom 8 = .ok (.aload_n 0, 1) := by decide +kernel
theorem dX4_copyFrom_9 : decode cX4_copyFrom 9 = .ok (.aload_n 1, 1) := by decide +kernel
theorem dX4_copyFrom_10 : decode cX4_copyFrom 10 = .ok (.getfield 19, 3) := by decide +kernel
theorem dX4_copyFrom_13 : decode cX4_copyFrom 13 = .ok (.putfield 19, 3) := by decide +kernel
theorem dX4_copyFrom_16 : decode cX4_copyFrom 16 = .ok (.aload_n 0, 1) := by decide +kernel
theorem dX4_copyFrom_17 : decode cX4_copyFrom 17 = .ok (.aload_n 1, 1) := by decide +kernel
theorem dX4_copyFrom_18 : decode cX4_copyFrom 18 = .ok (.getfield 22, 3) := by decide +kernel
theorem dX4_copyFrom_21 : decode cX4_copyFrom 21 = .ok (.putfield 22, 3) := by decide +kernel
theorem dX4_copyFrom_24 : decode cX4_copyFrom 24 = .ok (.aload_n 0, 1) := by decide +kernel
theorem dX4_copyFrom_25 : decode cX4_copyFrom 25 = .ok (.aload_n 1, 1) := by decide +kernel
theorem dX4_copyFrom_26 : decode cX4_copyFrom 26 = .ok (.getfield 25, 3) := by decide +kernel
theorem dX4_copyFrom_29 : decode cX4_copyFrom 29 = .ok (.putfield 25, 3) := by decide +kernel
theorem dX4_copyFrom_32 : decode cX4_copyFrom 32 = .ok (.iconst 0, 1) := by decide +kernel
theorem dX4_copyFrom_33 : decode cX4_copyFrom 33 = .ok (.istore_n 2, 1) := by decide +kernel
theorem dX4_copyFrom_34 : decode cX4_copyFrom 34 = .ok (.iload_n 2, 1) := by decide +kernel
theorem dX4_copyFrom_35 : decode cX4_copyFrom 35 = .ok (.iconst 4, 1) := by decide +kernel
theorem dX4_copyFrom_36 : decode cX4_copyFrom 36 = .ok (.if_icmp .ge 21, 3) := by decide +kernel
theorem dX4_copyFrom_39 : decode cX4_copyFrom 39 = .ok (.aload_n 0, 1) := by decide +kernel
theorem dX4_copyFrom_40 : decode cX4_copyFrom 40 = .ok (.getfield 9, 3) := by decide +kernel
theorem dX4_copyFrom_43 : decode cX4_copyFrom 43 = .ok (.iload_n 2, 1) := by decide +kernel
theorem dX4_copyFrom_44 : decode cX4_copyFrom 44 = .ok (.aload_n 1, 1) := by decide +kernel
theorem dX4_copyFrom_45 : decode cX4_copyFrom 45 = .ok (.getfield 9, 3) := by decide +kernel
theorem dX4_copyFrom_48 : decode cX4_copyFrom 48 = .ok (.iload_n 2, 1) := by decide +kernel
theorem dX4_copyFrom_49 : decode cX4_copyFrom 49 = .ok (.iaload, 1) := by decide +kernel
theorem dX4_copyFrom_50 : decode cX4_copyFrom 50 = .ok (.iastore, 1) := by decide +kernel
theorem dX4_copyFrom_51 : decode cX4_copyFrom 51 = .ok (.iinc 2 1, 3) := by decide +kernel
theorem dX4_copyFrom_54 : decode cX4_copyFrom 54 = .ok (.goto (-20), 3) := by decide +kernel
theorem dX4_copyFrom_57 : decode cX4_copyFrom 57 = .ok (.return_, 1) := by decide +kernel
theorem dX4_first_0 : decode cX4_first 0 = .ok (.aload_n 0, 1) := by decide +kernel
theorem dX4_first_1 : decode cX4_first 1 = .ok (.getfield 9, 3) := by decide +kernel
theorem dX4_first_4 : decode cX4_first 4 = .ok (.iconst 0, 1) := by decide +kernel
theorem dX4_first_5 : decode cX4_first 5 = .ok (.iaload, 1) := by decide +kernel
theorem dX4_first_6 : decode cX4_first 6 = .ok (.ireturn, 1) := by decide +kernel
theorem dX4_treeAt_0 : decode cX4_treeAt 0 = .ok (.iload_n 1, 1) := by decide +kernel
theorem dX4_treeAt_1 : decode cX4_treeAt 1 = .ok (.ifCond .lt 25, 3) := by decide +kernel
theorem dX4_treeAt_4 : decode cX4_treeAt 4 = .ok (.iload_n 1, 1) := by decide +kernel
theorem dX4_treeAt_5 : decode cX4_treeAt 5 = .ok (.aload_n 0, 1) := by decide +kernel
theorem dX4_treeAt_6 : decode cX4_treeAt 6 = .ok (.getfield 15, 3) := by decide +kernel
theorem dX4_treeAt_9 : decode cX4_treeAt 9 = .ok (.if_icmp .ge 17, 3) := by decide +kernel
theorem dX4_treeAt_12 : decode cX4_treeAt 12 = .ok (.iload_n 1, 1) := by decide +kernel
theorem dX4_treeAt_13 : decode cX4_treeAt 13 = .ok (.iconst 4, 1) := by decide +kernel
theorem dX4_treeAt_14 : decode cX4_treeAt 14 = .ok (.if_icmp .ge 12, 3) := by decide +kernel
theorem dX4_treeAt_17 : decode cX4_treeAt 17 = .ok (.aload_n 0, 1) := by decide +kernel
theorem dX4_treeAt_18 : decode cX4_treeAt 18 = .ok (.getfield 9, 3) := by decide +kernel
theorem dX4_treeAt_21 : decode cX4_treeAt 21 = .ok (.iload_n 1, 1) := by decide +kernel
theorem dX4_treeAt_22 : decode cX4_treeAt 22 = .ok (.iaload, 1) := by decide +kernel
theorem dX4_treeAt_23 : decode cX4_treeAt 23 = .ok (.goto 5, 3) := by decide +kernel
theorem dX4_treeAt_26 : decode cX4_treeAt 26 = .ok (.bipush (-4), 2) := by decide +kernel
theorem dX4_treeAt_28 : decode cX4_treeAt 28 = .ok (.ireturn, 1) := by decide +kernel
theorem dX4_cells_0 : decode cX4_cells 0 = .ok (.lconst 0, 1) := by decide +kernel
theorem dX4_cells_1 : decode cX4_cells 1 = .ok (.lstore_n 1, 1) := by decide +kernel
theorem dX4_cells_2 : decode cX4_cells 2 = .ok (.iconst 0, 1) := by decide +kernel
theorem dX4_cells_3 : decode cX4_cells 3 = .ok (.istore_n 3, 1) := by decide +kernel
theorem dX4_cells_4 : decode cX4_cells 4 = .ok (.iload_n 3, 1) := by decide +kernel
theorem dX4_cells_5 : decode cX4_cells 5 = .ok (.aload_n 0, 1) := by decide +kernel
theorem dX4_cells_6 : decode cX4_cells 6 = .ok (.getfield 15, 3) := by decide +kernel
theorem dX4_cells_9 : decode cX4_cells 9 = .ok (.if_icmp .ge 26, 3) := by decide +kernel
theorem dX4_cells_12 : decode cX4_cells 12 = .ok (.iload_n 3, 1) := by decide +kernel
theorem dX4_cells_13 : decode cX4_cells 13 = .ok (.iconst 4, 1) := by decide +kernel
theorem dX4_cells_14 : decode cX4_cells 14 = .ok (.if_icmp .ge 21, 3) := by decide +kernel
theorem dX4_cells_17 : decode cX4_cells 17 = .ok (.lload_n 1, 1) := by decide +kernel
theorem dX4_cells_18 : decode cX4_cells 18 = .ok (.aload_n 0, 1) := by decide +kernel
theorem dX4_cells_19 : decode cX4_cells 19 = .ok (.getfield 9, 3) := by decide +kernel
theorem dX4_cells_22 : decode cX4_cells 22 = .ok (.iload_n 3, 1) := by decide +kernel
theorem dX4_cells_23 : decode cX4_cells 23 = .ok (.iaload, 1) := by decide +kernel
theorem dX4_cells_24 : decode cX4_cells 24 = .ok (.invokestatic 28, 3) := by decide +kernel
theorem dX4_cells_27 : decode cX4_cells 27 = .ok (.lor, 1) := by decide +kernel
theorem dX4_cells_28 : decode cX4_cells 28 = .ok (.lstore_n 1, 1) := by decide +kernel
theorem dX4_cells_29 : decode cX4_cells 29 = .ok (.iinc 3 1, 3) := by decide +kernel
theorem dX4_cells_32 : decode cX4_cells 32 = .ok (.goto (-28), 3) := by decide +kernel
theorem dX4_cells_35 : decode cX4_cells 35 = .ok (.lload_n 1, 1) := by decide +kernel
theorem dX4_cells_36 : decode cX4_cells 36 = .ok (.lreturn, 1) := by decide +kernel
theorem dX4_plant_0 : decode cX4_plant 0 = .ok (.aload_n 0, 1) := by decide +kernel
theorem dX4_plant_1 : decode cX4_plant 1 = .ok (.getfield 15, 3) := by decide +kernel
theorem dX4_plant_4 : decode cX4_plant 4 = .ok (.ifCond .lt 31, 3) := by decide +kernel
theorem dX4_plant_7 : decode cX4_plant 7 = .ok (.aload_n 0, 1) := by decide +kernel
theorem dX4_plant_8 : decode cX4_plant 8 = .ok (.getfield 15, 3) := by decide +kernel
theorem dX4_plant_11 : decode cX4_plant 11 = .ok (.iconst 4, 1) := by decide +kernel
theorem dX4_plant_12 : decode cX4_plant 12 = .ok (.if_icmp .ge 23, 3) := by decide +kernel
theorem dX4_plant_15 : decode cX4_plant 15 = .ok (.aload_n 0, 1) := by decide +kernel
theorem dX4_plant_16 : decode cX4_plant 16 = .ok (.getfield 9, 3) := by decide +kernel
theorem dX4_plant_19 : decode cX4_plant 19 = .ok (.aload_n 0, 1) := by decide +kernel
theorem dX4_plant_20 : decode cX4_plant 20 = .ok (.getfield 15, 3) := by decide +kernel
theorem dX4_plant_23 : decode cX4_plant 23 = .ok (.iload_n 1, 1) := by decide +kernel
theorem dX4_plant_24 : decode cX4_plant 24 = .ok (.iastore, 1) := by decide +kernel
theorem dX4_plant_25 : decode cX4_plant 25 = .ok (.aload_n 0, 1) := by decide +kernel
theorem dX4_plant_26 : decode cX4_plant 26 = .ok (.dup, 1) := by decide +kernel
theorem dX4_plant_27 : decode cX4_plant 27 = .ok (.getfield 15, 3) := by decide +kernel
theorem dX4_plant_30 : decode cX4_plant 30 = .ok (.iconst 1, 1) := by decide +kernel
theorem dX4_plant_31 : decode cX4_plant 31 = .ok (.iadd, 1) := by decide +kernel
theorem dX4_plant_32 : decode cX4_plant 32 = .ok (.putfield 15, 3) := by decide +kernel
theorem dX4_plant_35 : decode cX4_plant 35 = .ok (.return_, 1) := by decide +kernel
theorem dX4_standsAs_0 : decode cX4_standsAs 0 = .ok (.aload_n 0, 1) := by decide +kernel
theorem dX4_standsAs_1 : decode cX4_standsAs 1 = .ok (.getfield 22, 3) := by decide +kernel
theorem dX4_standsAs_4 : decode cX4_standsAs 4 = .ok (.aload_n 1, 1) := by decide +kernel
theorem dX4_standsAs_5 : decode cX4_standsAs 5 = .ok (.getfield 22, 3) := by decide +kernel
theorem dX4_standsAs_8 : decode cX4_standsAs 8 = .ok (.if_icmp .ne 14, 3) := by decide +kernel
theorem dX4_standsAs_11 : decode cX4_standsAs 11 = .ok (.aload_n 0, 1) := by decide +kernel
theorem dX4_standsAs_12 : decode cX4_standsAs 12 = .ok (.getfield 15, 3) := by decide +kernel
theorem dX4_standsAs_15 : decode cX4_standsAs 15 = .ok (.aload_n 1, 1) := by decide +kernel
theorem dX4_standsAs_16 : decode cX4_standsAs 16 = .ok (.getfield 15, 3) := by decide +kernel
theorem dX4_standsAs_19 : decode cX4_standsAs 19 = .ok (.if_icmp .eq 5, 3) := by decide +kernel
theorem dX4_standsAs_22 : decode cX4_standsAs 22 = .ok (.iconst 0, 1) := by decide +kernel
theorem dX4_standsAs_23 : decode cX4_standsAs 23 = .ok (.ireturn, 1) := by decide +kernel
theorem dX4_standsAs_24 : decode cX4_standsAs 24 = .ok (.iconst 0, 1) := by decide +kernel
theorem dX4_standsAs_25 : decode cX4_standsAs 25 = .ok (.istore_n 2, 1) := by decide +kernel
theorem dX4_standsAs_26 : decode cX4_standsAs 26 = .ok (.iload_n 2, 1) := by decide +kernel
theorem dX4_standsAs_27 : decode cX4_standsAs 27 = .ok (.aload_n 0, 1) := by decide +kernel
theorem dX4_standsAs_28 : decode cX4_standsAs 28 = .ok (.getfield 15, 3) := by decide +kernel
theorem dX4_standsAs_31 : decode cX4_standsAs 31 = .ok (.if_icmp .ge 31, 3) := by decide +kernel
theorem dX4_standsAs_34 : decode cX4_standsAs 34 = .ok (.iload_n 2, 1) := by decide +kernel
theorem dX4_standsAs_35 : decode cX4_standsAs 35 = .ok (.iconst 4, 1) := by decide +kernel
theorem dX4_standsAs_36 : decode cX4_standsAs 36 = .ok (.if_icmp .ge 26, 3) := by decide +kernel
theorem dX4_standsAs_39 : decode cX4_standsAs 39 = .ok (.aload_n 0, 1) := by decide +kernel
theorem dX4_standsAs_40 : decode cX4_standsAs 40 = .ok (.getfield 9, 3) := by decide +kernel
theorem dX4_standsAs_43 : decode cX4_standsAs 43 = .ok (.iload_n 2, 1) := by decide +kernel
theorem dX4_standsAs_44 : decode cX4_standsAs 44 = .ok (.iaload, 1) := by decide +kernel
theorem dX4_standsAs_45 : decode cX4_standsAs 45 = .ok (.aload_n 1, 1) := by decide +kernel
theorem dX4_standsAs_46 : decode cX4_standsAs 46 = .ok (.getfield 9, 3) := by decide +kernel
theorem dX4_standsAs_49 : decode cX4_standsAs 49 = .ok (.iload_n 2, 1) := by decide +kernel
theorem dX4_standsAs_50 : decode cX4_standsAs 50 = .ok (.iaload, 1) := by decide +kernel
theorem dX4_standsAs_51 : decode cX4_standsAs 51 = .ok (.if_icmp .eq 5, 3) := by decide +kernel
theorem dX4_standsAs_54 : decode cX4_standsAs 54 = .ok (.iconst 0, 1) := by decide +kernel
theorem dX4_standsAs_55 : decode cX4_standsAs 55 = .ok (.ireturn, 1) := by decide +kernel
theorem dX4_standsAs_56 : decode cX4_standsAs 56 = .ok (.iinc 2 1, 3) := by decide +kernel
theorem dX4_standsAs_59 : decode cX4_standsAs 59 = .ok (.goto (-33), 3) := by decide +kernel
theorem dX4_standsAs_62 : decode cX4_standsAs 62 = .ok (.iconst 1, 1) := by decide +kernel
theorem dX4_standsAs_63 : decode cX4_standsAs 63 = .ok (.ireturn, 1) := by decide +kernel
theorem dX5_init_0 : decode cX5_init 0 = .ok (.aload_n 0, 1) := by decide +kernel
theorem dX5_init_1 : decode cX5_init 1 = .ok (.invokespecial 1, 3) := by decide +kernel
theorem dX5_init_4 : decode cX5_init 4 = .ok (.aload_n 0, 1) := by decide +kernel
theorem dX5_init_5 : decode cX5_init 5 = .ok (.sipush 200, 3) := by decide +kernel
theorem dX5_init_8 : decode cX5_init 8 = .ok (.newarray .char, 2) := by decide +kernel
theorem dX5_init_10 : decode cX5_init 10 = .ok (.putfield 9, 3) := by decide +kernel
theorem dX5_init_13 : decode cX5_init 13 = .ok (.aload_n 0, 1) := by decide +kernel
theorem dX5_init_14 : decode cX5_init 14 = .ok (.new 13, 3) := by decide +kernel
theorem dX5_init_17 : decode cX5_init 17 = .ok (.dup, 1) := by decide +kernel
theorem dX5_init_18 : decode cX5_init 18 = .ok (.invokespecial 15, 3) := by decide +kernel
theorem dX5_init_21 : decode cX5_init 21 = .ok (.putfield 16, 3) := by decide +kernel
theorem dX5_init_24 : decode cX5_init 24 = .ok (.aload_n 0, 1) := by decide +kernel
theorem dX5_init_25 : decode cX5_init 25 = .ok (.new 20, 3) := by decide +kernel
theorem dX5_init_28 : decode cX5_init 28 = .ok (.dup, 1) := by decide +kernel
theorem dX5_init_29 : decode cX5_init 29 = .ok (.aload_n 0, 1) := by decide +kernel
theorem dX5_init_30 : decode cX5_init 30 = .ok (.getfield 16, 3) := by decide +kernel
theorem dX5_init_33 : decode cX5_init 33 = .ok (.invokespecial 22, 3) := by decide +kernel
theorem dX5_init_36 : decode cX5_init 36 = .ok (.putfield 25, 3) := by decide +kernel
theorem dX5_init_39 : decode cX5_init 39 = .ok (.aload_n 0, 1) := by decide +kernel
theorem dX5_init_40 : decode cX5_init 40 = .ok (.new 20, 3) := by decide +kernel
theorem dX5_init_43 : decode cX5_init 43 = .ok (.dup, 1) := by decide +kernel
theorem dX5_init_44 : decode cX5_init 44 = .ok (.aload_n 0, 1) := by decide +kernel
theorem dX5_init_45 : decode cX5_init 45 = .ok (.getfield 16, 3) := by decide +kernel
theorem dX5_init_48 : decode cX5_init 48 = .ok (.invokespecial 22, 3) := by decide +kernel
theorem dX5_init_51 : decode cX5_init 51 = .ok (.putfield 29, 3) := by decide +kernel
theorem dX5_init_54 : decode cX5_init 54 = .ok (.aload_n 0, 1) := by decide +kernel
theorem dX5_init_55 : decode cX5_init 55 = .ok (.new 32, 3) := by decide +kernel
theorem dX5_init_58 : decode cX5_init 58 = .ok (.dup, 1) := by decide +kernel
theorem dX5_init_59 : decode cX5_init 59 = .ok (.invokespecial 34, 3) := by decide +kernel
theorem dX5_init_62 : decode cX5_init 62 = .ok (.putfield 35, 3) := by decide +kernel
theorem dX5_init_65 : decode cX5_init 65 = .ok (.aload_n 0, 1) := by decide +kernel
theorem dX5_init_66 : decode cX5_init 66 = .ok (.new 39, 3) := by decide +kernel
theorem dX5_init_69 : decode cX5_init 69 = .ok (.dup, 1) := by decide +kernel
theorem dX5_init_70 : decode cX5_init 70 = .ok (.bipush 8, 2) := by decide +kernel
theorem dX5_init_72 : decode cX5_init 72 = .ok (.aload_n 0, 1) := by decide +kernel
theorem dX5_init_73 : decode cX5_init 73 = .ok (.getfield 16, 3) := by decide +kernel
theorem dX5_init_76 : decode cX5_init 76 = .ok (.invokespecial 41, 3) := by decide +kernel
theorem dX5_init_79 : decode cX5_init 79 = .ok (.putfield 44, 3) := by decide +kernel
theorem dX5_init_82 : decode cX5_init 82 = .ok (.aload_n 0, 1) := by decide +kernel
theorem dX5_init_83 : decode cX5_init 83 = .ok (.new 39, 3) := by decide +kernel
theorem dX5_init_86 : decode cX5_init 86 = .ok (.dup, 1) := by decide +kernel
theorem dX5_init_87 : decode cX5_init 87 = .ok (.iconst 2, 1) := by decide +kernel
theorem dX5_init_88 : decode cX5_init 88 = .ok (.aload_n 0, 1) := by decide +kernel
theorem dX5_init_89 : decode cX5_init 89 = .ok (.getfield 16, 3) := by decide +kernel
theorem dX5_init_92 : decode cX5_init 92 = .ok (.invokespecial 41, 3) := by decide +kernel
theorem dX5_init_95 : decode cX5_init 95 = .ok (.putfield 48, 3) := by decide +kernel
theorem dX5_init_98 : decode cX5_init 98 = .ok (.aload_n 0, 1) := by decide +kernel
theorem dX5_init_99 : decode cX5_init 99 = .ok (.bipush 6, 2) := by decide +kernel
theorem dX5_init_101 : decode cX5_init 101 = .ok (.newarray .int, 2) := by decide +kernel
theorem dX5_init_103 : decode cX5_init 103 = .ok (.putfield 51, 3) := by decide +kernel
theorem dX5_init_106 : decode cX5_init 106 = .ok (.aload_n 0, 1) := by decide +kernel
theorem dX5_init_107 : decode cX5_init 107 = .ok (.bipush 6, 2) := by decide +kernel
theorem dX5_init_109 : decode cX5_init 109 = .ok (.newarray .int, 2) := by decide +kernel
theorem dX5_init_111 : decode cX5_init 111 = .ok (.putfield 55, 3) := by decide +kernel
theorem dX5_init_114 : decode cX5_init 114 = .ok (.aload_n 0, 1) := by decide +kernel
theorem dX5_init_115 : decode cX5_init 115 = .ok (.bipush 6, 2) := by decide +kernel
theorem dX5_init_117 : decode cX5_init 117 = .ok (.newarray .int, 2) := by decide +kernel
theorem dX5_init_119 : decode cX5_init 119 = .ok (.putfield 58, 3) := by decide +kernel
theorem dX5_init_122 : decode cX5_init 122 = .ok (.aload_n 0, 1) := by decide +kernel
theorem dX5_init_123 : decode cX5_init 123 = .ok (.iconst 2, 1) := by decide +kernel
theorem dX5_init_124 : decode cX5_init 124 = .ok (.newarray .int, 2) := by decide +kernel
theorem dX5_init_126 : decode cX5_init 126 = .ok (.putfield 61, 3) := by decide +kernel
theorem dX5_init_129 : decode cX5_init 129 = .ok (.aload_n 0, 1) := by decide +kernel
theorem dX5_init_130 : decode cX5_init 130 = .ok (.bipush 36, 2) := by decide +kernel
theorem dX5_init_132 : decode cX5_init 132 = .ok (.newarray .long, 2) := by decide +kernel
theorem dX5_init_134 : decode cX5_init 134 = .ok (.putfield 64, 3) := by decide +kernel
theorem dX5_init_137 : decode cX5_init 137 = .ok (.ldc 68, 2) := by decide +kernel
theorem dX5_init_139 : decode cX5_init 139 = .ok (.invokevirtual 70, 3) := by decide +kernel
theorem dX5_init_142 : decode cX5_init 142 = .ok (.astore_n 1, 1) := by decide +kernel
theorem dX5_init_143 : decode cX5_init 143 = .ok (.aload_n 0, 1) := by decide +kernel
theorem dX5_init_144 : decode cX5_init 144 = .ok (.getfield 35, 3) := by decide +kernel
theorem dX5_init_147 : decode cX5_init 147 = .ok (.aload_n 1, 1) := by decide +kernel
theorem dX5_init_148 : decode cX5_init 148 = .ok (.aload_n 1, 1) := by decide +kernel
theorem dX5_init_149 : decode cX5_init 149 = .ok (.arraylength, 1) := by decide +kernel
theorem dX5_init_150 : decode cX5_init 150 = .ok (.invokevirtual 76, 3) := by decide +kernel
theorem dX5_init_153 : decode cX5_init 153 = .ok (.pop, 1) := by decide +kernel
theorem dX5_init_154 : decode cX5_init 154 = .ok (.aload_n 0, 1) := by decide +kernel
theorem dX5_init_155 : decode cX5_init 155 = .ok (.getfield 16, 3) := by decide +kernel
theorem dX5_init_158 : decode cX5_init 158 = .ok (.aload_n 0, 1) := by decide +kernel
theorem dX5_init_159 : decode cX5_init 159 = .ok (.getfield 35, 3) := by decide +kernel
theorem dX5_init_162 : decode cX5_init 162 = .ok (.getfield 80, 3) := by decide +kernel
theorem dX5_init_165 : decode cX5_init 165 = .ok (.invokevirtual 81, 3) := by decide +kernel
theorem dX5_init_168 : decode cX5_init 168 = .ok (.aload_n 0, 1) := by decide +kernel
theorem dX5_init_169 : decode cX5_init 169 = .ok (.getfield 25, 3) := by decide +kernel
theorem dX5_init_172 : decode cX5_init 172 = .ok (.aload_n 0, 1) := by decide +kernel
theorem dX5_init_173 : decode cX5_init 173 = .ok (.getfield 35, 3) := by decide +kernel
theorem dX5_init_176 : decode cX5_init 176 = .ok (.getfield 84, 3) := by decide +kernel
theorem dX5_init_179 : decode cX5_init 179 = .ok (.invokevirtual 87, 3) := by decide +kernel
theorem dX5_init_182 : decode cX5_init 182 = .ok (.return_, 1) := by decide +kernel
theorem dX5_write_0 : decode cX5_write 0 = .ok (.iload_n 1, 1) := by decide +kernel
theorem dX5_write_1 : decode cX5_write 1 = .ok (.bipush 32, 2) := by decide +kernel
theorem dX5_write_3 : decode cX5_write 3 = .ok (.if_icmp .lt 9, 3) := by decide +kernel
theorem dX5_write_6 : decode cX5_write 6 = .ok (.iload_n 1, 1) := by decide +kernel
theorem dX5_write_7 : decode cX5_write 7 = .ok (.bipush 126, 2) := by decide +kernel
theorem dX5_write_9 : decode cX5_write 9 = .ok (.if_icmp .le 5, 3) := by decide +kernel
theorem dX5_write_12 : decode cX5_write 12 = .ok (.iconst (-1), 1) := by decide +kernel
theorem dX5_write_13 : decode cX5_write 13 = .ok (.ireturn, 1) := by decide +kernel
theorem dX5_write_14 : decode cX5_write 14 = .ok (.aload_n 0, 1) := by decide +kernel
theorem dX5_write_15 : decode cX5_write 15 = .ok (.getfield 90, 3) := by decide +kernel
theorem dX5_write_18 : decode cX5_write 18 = .ok (.ifCond .lt 15, 3) := by decide +kernel
theorem dX5_write_21 : decode cX5_write 21 = .ok (.aload_n 0, 1) := by decide +kernel
theorem dX5_write_22 : decode cX5_write 22 = .ok (.getfield 90, 3) := by decide +kernel
theorem dX5_write_25 : decode cX5_write 25 = .ok (.aload_n 0, 1) := by decide +kernel
theorem dX5_write_26 : decode cX5_write 26 = .ok (.getfield 9, 3) := by decide +kernel
theorem dX5_write_29 : decode cX5_write 29 = .ok (.arraylength, 1) := by decide +kernel
theorem dX5_write_30 : decode cX5_write 30 = .ok (.if_icmp .lt 6, 3) := by decide +kernel
theorem dX5_write_33 : decode cX5_write 33 = .ok (.bipush (-3), 2) := by decide +kernel
theorem dX5_write_35 : decode cX5_write 35 = .ok (.ireturn, 1) := by decide +kernel
theorem dX5_write_36 : decode cX5_write 36 = .ok (.aload_n 0, 1) := by decide +kernel
theorem dX5_write_37 : decode cX5_write 37 = .ok (.getfield 9, 3) := by decide +kernel
theorem dX5_write_40 : decode cX5_write 40 = .ok (.aload_n 0, 1) := by decide +kernel
theorem dX5_write_41 : decode cX5_write 41 = .ok (.getfield 90, 3) := by decide +kernel
theorem dX5_write_44 : decode cX5_write 44 = .ok (.iload_n 1, 1) := by decide +kernel
theorem dX5_write_45 : decode cX5_write 45 = .ok (.i2c, 1) := by decide +kernel
theorem dX5_write_46 : decode cX5_write 46 = .ok (.castore, 1) := by decide +kernel
theorem dX5_write_47 : decode cX5_write 47 = .ok (.aload_n 0, 1) := by decide +kernel
theorem dX5_write_48 : decode cX5_write 48 = .ok (.dup, 1) := by decide +kernel
theorem dX5_write_49 : decode cX5_write 49 = .ok (.getfield 90, 3) := by decide +kernel
theorem dX5_write_52 : decode cX5_write 52 = .ok (.iconst 1, 1) := by decide +kernel
theorem dX5_write_53 : decode cX5_write 53 = .ok (.iadd, 1) := by decide +kernel
theorem dX5_write_54 : decode cX5_write 54 = .ok (.putfield 90, 3) := by decide +kernel
theorem dX5_write_57 : decode cX5_write 57 = .ok (.aload_n 0, 1) := by decide +kernel
theorem dX5_write_58 : decode cX5_write 58 = .ok (.getfield 90, 3) := by decide +kernel
theorem dX5_write_61 : decode cX5_write 61 = .ok (.ireturn, 1) := by decide +kernel
theorem dX5_wipe_0 : decode cX5_wipe 0 = .ok (.aload_n 0, 1) := by decide +kernel
theorem dX5_wipe_1 : decode cX5_wipe 1 = .ok (.getfield 90, 3) := by decide +kernel
theorem dX5_wipe_4 : decode cX5_wipe 4 = .ok (.istore_n 1, 1) := by decide +kernel
theorem dX5_wipe_5 : decode cX5_wipe 5 = .ok (.aload_n 0, 1) := by decide +kernel
theorem dX5_wipe_6 : decode cX5_wipe 6 = .ok (.iconst 0, 1) := by decide +kernel
theorem dX5_wipe_7 : decode cX5_wipe 7 = .ok (.putfield 90, 3) := by decide +kernel
theorem dX5_wipe_10 : decode cX5_wipe 10 = .ok (.iload_n 1, 1) := by decide +kernel
theorem dX5_wipe_11 : decode cX5_wipe 11 = .ok (.ireturn, 1) := by decide +kernel
theorem dX5_fault_0 : decode cX5_fault 0 = .ok (.aload_n 0, 1) := by decide +kernel
theorem dX5_fault_1 : decode cX5_fault 1 = .ok (.getfield 35, 3) := by decide +kernel
theorem dX5_fault_4 : decode cX5_fault 4 = .ok (.aload_n 0, 1) := by decide +kernel
theorem dX5_fault_5 : decode cX5_fault 5 = .ok (.getfield 9, 3) := by decide +kernel
theorem dX5_fault_8 : decode cX5_fault 8 = .ok (.aload_n 0, 1) := by decide +kernel
theorem dX5_fault_9 : decode cX5_fault 9 = .ok (.getfield 90, 3) := by decide +kernel
theorem dX5_fault_12 : decode cX5_fault 12 = .ok (.invokevirtual 76, 3) := by decide +kernel
theorem dX5_fault_15 : decode cX5_fault 15 = .ok (.ireturn, 1) := by decide +kernel
theorem dX5_lay_0 : decode cX5_lay 0 = .ok (.aload_n 0, 1) := by decide +kernel
theorem dX5_lay_1 : decode cX5_lay 1 = .ok (.getfield 35, 3) := by decide +kernel
theorem dX5_lay_4 : decode cX5_lay 4 = .ok (.aload_n 0, 1) := by decide +kernel
theorem dX5_lay_5 : decode cX5_lay 5 = .ok (.getfield 9, 3) := by decide +kernel
theorem dX5_lay_8 : decode cX5_lay 8 = .ok (.aload_n 0, 1) := by decide +kernel
theorem dX5_lay_9 : decode cX5_lay 9 = .ok (.getfield 90, 3) := by decide +kernel
theorem dX5_lay_12 : decode cX5_lay 12 = .ok (.invokevirtual 76, 3) := by decide +kernel
theorem dX5_lay_15 : decode cX5_lay 15 = .ok (.bipush (-4), 2) := by decide +kernel
theorem dX5_lay_17 : decode cX5_lay 17 = .ok (.if_icmp .ne 16, 3) := by decide +kernel
theorem dX5_lay_20 : decode cX5_lay 20 = .ok (.aload_n 0, 1) := by decide +kernel
theorem dX5_lay_21 : decode cX5_lay 21 = .ok (.getfield 35, 3) := by decide +kernel
theorem dX5_lay_24 : decode cX5_lay 24 = .ok (.getfield 84, 3) := by decide +kernel
theorem dX5_lay_27 : decode cX5_lay 27 = .ok (.getfield 94, 3) := by decide +kernel
theorem dX5_lay_30 : decode cX5_lay 30 = .ok (.ifCond .ne 6, 3) := by decide +kernel
theorem dX5_lay_33 : decode cX5_lay 33 = .ok (.bipush (-2), 2) := by decide +kernel
theorem dX5_lay_35 : decode cX5_lay 35 = .ok (.ireturn, 1) := by decide +kernel
theorem dX5_lay_36 : decode cX5_lay 36 = .ok (.aload_n 0, 1) := by decide +kernel
theorem dX5_lay_37 : decode cX5_lay 37 = .ok (.getfield 16, 3) := by decide +kernel
theorem dX5_lay_40 : decode cX5_lay 40 = .ok (.aload_n 0, 1) := by decide +kernel
theorem dX5_lay_41 : decode cX5_lay 41 = .ok (.getfield 35, 3) := by decide +kernel
theorem dX5_lay_44 : decode cX5_lay 44 = .ok (.getfield 80, 3) := by decide +kernel
theorem dX5_lay_47 : decode cX5_lay 47 = .ok (.invokevirtual 81, 3) := by decide +kernel
theorem dX5_lay_50 : decode cX5_lay 50 = .ok (.aload_n 0, 1) := by decide +kernel
theorem dX5_lay_51 : decode cX5_lay 51 = .ok (.getfield 25, 3) := by decide +kernel
theorem dX5_lay_54 : decode cX5_lay 54 = .ok (.aload_n 0, 1) := by decide +kernel
theorem dX5_lay_55 : decode cX5_lay 55 = .ok (.getfield 35, 3) := by decide +kernel
theorem dX5_lay_58 : decode cX5_lay 58 = .ok (.getfield 84, 3) := by decide +kernel
theorem dX5_lay_61 : decode cX5_lay 61 = .ok (.invokevirtual 87, 3) := by decide +kernel
theorem dX5_lay_64 : decode cX5_lay 64 = .ok (.aload_n 0, 1) := by decide +kernel
theorem dX5_lay_65 : decode cX5_lay 65 = .ok (.iconst 0, 1) := by decide +kernel
theorem dX5_lay_66 : decode cX5_lay 66 = .ok (.putfield 97, 3) := by decide +kernel
theorem dX5_lay_69 : decode cX5_lay 69 = .ok (.aload_n 0, 1) := by decide +kernel
theorem dX5_lay_70 : decode cX5_lay 70 = .ok (.getfield 44, 3) := by decide +kernel
theorem dX5_lay_73 : decode cX5_lay 73 = .ok (.invokevirtual 100, 3) := by decide +kernel
theorem dX5_lay_76 : decode cX5_lay 76 = .ok (.aload_n 0, 1) := by decide +kernel
theorem dX5_lay_77 : decode cX5_lay 77 = .ok (.getfield 48, 3) := by decide +kernel
theorem dX5_lay_80 : decode cX5_lay 80 = .ok (.invokevirtual 100, 3) := by decide +kernel
theorem dX5_lay_83 : decode cX5_lay 83 = .ok (.aload_n 0, 1) := by decide +kernel
theorem dX5_lay_84 : decode cX5_lay 84 = .ok (.getfield 25, 3) := by decide +kernel
theorem dX5_lay_87 : decode cX5_lay 87 = .ok (.getfield 94, 3) := by decide +kernel
theorem dX5_lay_90 : decode cX5_lay 90 = .ok (.ireturn, 1) := by decide +kernel
theorem dX5_cell_0 : decode cX5_cell 0 = .ok (.aload_n 0, 1) := by decide +kernel
theorem dX5_cell_1 : decode cX5_cell 1 = .ok (.getfield 16, 3) := by decide +kernel
theorem dX5_cell_4 : decode cX5_cell 4 = .ok (.iload_n 1, 1) := by decide +kernel
theorem dX5_cell_5 : decode cX5_cell 5 = .ok (.invokevirtual 103, 3) := by decide +kernel
theorem dX5_cell_8 : decode cX5_cell 8 = .ok (.ifCond .ne 5, 3) := by decide +kernel
theorem dX5_cell_11 : decode cX5_cell 11 = .ok (.iconst (-1), 1) := by decide +kernel
theorem dX5_cell_12 : decode cX5_cell 12 = .ok (.ireturn, 1) := by decide +kernel
theorem dX5_cell_13 : decode cX5_cell 13 = .ok (.iload_n 2, 1) := by decide +kernel
theorem dX5_cell_14 : decode cX5_cell 14 = .ok (.tableswitch 77 0 3 #[30, 39, 48, 68], 30) := by decide +kernel
theorem dX5_cell_44 : decode cX5_cell 44 = .ok (.aload_n 0, 1) := by decide +kernel
theorem dX5_cell_45 : decode cX5_cell 45 = .ok (.getfield 16, 3) := by decide +kernel
theorem dX5_cell_48 : decode cX5_cell 48 = .ok (.iload_n 1, 1) := by decide +kernel
theorem dX5_cell_49 : decode cX5_cell 49 = .ok (.invokevirtual 107, 3) := by decide +kernel
theorem dX5_cell_52 : decode cX5_cell 52 = .ok (.ireturn, 1) := by decide +kernel
theorem dX5_cell_53 : decode cX5_cell 53 = .ok (.aload_n 0, 1) := by decide +kernel
theorem dX5_cell_54 : decode cX5_cell 54 = .ok (.getfield 16, 3) := by decide +kernel
theorem dX5_cell_57 : decode cX5_cell 57 = .ok (.iload_n 1, 1) := by decide +kernel
theorem dX5_cell_58 : decode cX5_cell 58 = .ok (.invokevirtual 111, 3) := by decide +kernel
theorem dX5_cell_61 : decode cX5_cell 61 = .ok (.ireturn, 1) := by decide +kernel
theorem dX5_cell_62 : decode cX5_cell 62 = .ok (.aload_n 0, 1) := by decide +kernel
theorem dX5_cell_63 : decode cX5_cell 63 = .ok (.getfield 25, 3) := by decide +kernel
theorem dX5_cell_66 : decode cX5_cell 66 = .ok (.getfield 114, 3) := by decide +kernel
theorem dX5_cell_69 : decode cX5_cell 69 = .ok (.iload_n 1, 1) := by decide +kernel
theorem dX5_cell_70 : decode cX5_cell 70 = .ok (.invokestatic 118, 3) := by decide +kernel
theorem dX5_cell_73 : decode cX5_cell 73 = .ok (.ifCond .eq 7, 3) := by decide +kernel
theorem dX5_cell_76 : decode cX5_cell 76 = .ok (.iconst 1, 1) := by decide +kernel
theorem dX5_cell_77 : decode cX5_cell 77 = .ok (.goto 4, 3) := by decide +kernel
theorem dX5_cell_80 : decode cX5_cell 80 = .ok (.iconst 0, 1) := by decide +kernel
theorem dX5_cell_81 : decode cX5_cell 81 = .ok (.ireturn, 1) := by decide +kernel
theorem dX5_cell_82 : decode cX5_cell 82 = .ok (.aload_n 0, 1) := by decide +kernel
theorem dX5_cell_83 : decode cX5_cell 83 = .ok (.getfield 25, 3) := by decide +kernel
theorem dX5_cell_86 : decode cX5_cell 86 = .ok (.iload_n 1, 1) := by decide +kernel
theorem dX5_cell_87 : decode cX5_cell 87 = .ok (.invokevirtual 122, 3) := by decide +kernel
theorem dX5_cell_90 : decode cX5_cell 90 = .ok (.ireturn, 1) := by decide +kernel
theorem dX5_cell_91 : decode cX5_cell 91 = .ok (.iconst (-1), 1) := by decide +kernel
theorem dX5_cell_92 : decode cX5_cell 92 = .ok (.ireturn, 1) := by decide +kernel
theorem dX5_row_0 : decode cX5_row 0 = .ok (.aload_n 0, 1) := by decide +kernel
theorem dX5_row_1 : decode cX5_row 1 = .ok (.getfield 25, 3) := by decide +kernel
theorem dX5_row_4 : decode cX5_row 4 = .ok (.iload_n 1, 1) := by decide +kernel
theorem dX5_row_5 : decode cX5_row 5 = .ok (.invokevirtual 125, 3) := by decide +kernel
theorem dX5_row_8 : decode cX5_row 8 = .ok (.ifCond .ne 5, 3) := by decide +kernel
theorem dX5_row_11 : decode cX5_row 11 = .ok (.iconst (-1), 1) := by decide +kernel
theorem dX5_row_12 : decode cX5_row 12 = .ok (.ireturn, 1) := by decide +kernel
theorem dX5_row_13 : decode cX5_row 13 = .ok (.aload_n 0, 1) := by decide +kernel
theorem dX5_row_14 : decode cX5_row 14 = .ok (.getfield 25, 3) := by decide +kernel
theorem dX5_row_17 : decode cX5_row 17 = .ok (.getfield 126, 3) := by decide +kernel
theorem dX5_row_20 : decode cX5_row 20 = .ok (.iload_n 1, 1) := by decide +kernel
theorem dX5_row_21 : decode cX5_row 21 = .ok (.aaload, 1) := by decide +kernel
theorem dX5_row_22 : decode cX5_row 22 = .ok (.astore_n 3, 1) := by decide +kernel
theorem dX5_row_23 : decode cX5_row 23 = .ok (.iload_n 2, 1) := by decide +kernel
theorem dX5_row_24 : decode cX5_row 24 = .ok (.tableswitch 76 0 4 #[36, 41, 46, 51, 56], 36) := by decide +kernel
theorem dX5_row_60 : decode cX5_row 60 = .ok (.aload_n 3, 1) := by decide +kernel
theorem dX5_row_61 : decode cX5_row 61 = .ok (.getfield 130, 3) := by decide +kernel
theorem dX5_row_64 : decode cX5_row 64 = .ok (.ireturn, 1) := by decide +kernel
theorem dX5_row_65 : decode cX5_row 65 = .ok (.aload_n 3, 1) := by decide +kernel
theorem dX5_row_66 : decode cX5_row 66 = .ok (.getfield 135, 3) := by decide +kernel
theorem dX5_row_69 : decode cX5_row 69 = .ok (.ireturn, 1) := by decide +kernel
theorem dX5_row_70 : decode cX5_row 70 = .ok (.aload_n 3, 1) := by decide +kernel
theorem dX5_row_71 : decode cX5_row 71 = .ok (.getfield 138, 3) := by decide +kernel
theorem dX5_row_74 : decode cX5_row 74 = .ok (.ireturn, 1) := by decide +kernel
theorem dX5_row_75 : decode cX5_row 75 = .ok (.aload_n 3, 1) := by decide +kernel
theorem dX5_row_76 : decode cX5_row 76 = .ok (.getfield 141, 3) := by decide +kernel
theorem dX5_row_79 : decode cX5_row 79 = .ok (.ireturn, 1) := by decide +kernel
theorem dX5_row_80 : decode cX5_row 80 = .ok (.aload_n 0, 1) := by decide +kernel
theorem dX5_row_81 : decode cX5_row 81 = .ok (.getfield 16, 3) := by decide +kernel
theorem dX5_row_84 : decode cX5_row 84 = .ok (.aload_n 3, 1) := by decide +kernel
theorem dX5_row_85 : decode cX5_row 85 = .ok (.invokevirtual 144, 3) := by decide +kernel
theorem dX5_row_88 : decode cX5_row 88 = .ok (.aload_n 0, 1) := by decide +kernel
theorem dX5_row_89 : decode cX5_row 89 = .ok (.getfield 25, 3) := by decide +kernel
theorem dX5_row_92 : decode cX5_row 92 = .ok (.aload_n 3, 1) := by decide +kernel
theorem dX5_row_93 : decode cX5_row 93 = .ok (.invokevirtual 148, 3) := by decide +kernel
theorem dX5_row_96 : decode cX5_row 96 = .ok (.invokevirtual 152, 3) := by decide +kernel
theorem dX5_row_99 : decode cX5_row 99 = .ok (.ireturn, 1) := by decide +kernel
theorem dX5_row_100 : decode cX5_row 100 = .ok (.iconst (-1), 1) := by decide +kernel
theorem dX5_row_101 : decode cX5_row 101 = .ok (.ireturn, 1) := by decide +kernel
theorem dX5_tree_0 : decode cX5_tree 0 = .ok (.aload_n 0, 1) := by decide +kernel
theorem dX5_tree_1 : decode cX5_tree 1 = .ok (.getfield 25, 3) := by decide +kernel
theorem dX5_tree_4 : decode cX5_tree 4 = .ok (.iload_n 1, 1) := by decide +kernel
theorem dX5_tree_5 : decode cX5_tree 5 = .ok (.invokevirtual 125, 3) := by decide +kernel
theorem dX5_tree_8 : decode cX5_tree 8 = .ok (.ifCond .eq 12, 3) := by decide +kernel
theorem dX5_tree_11 : decode cX5_tree 11 = .ok (.iload_n 2, 1) := by decide +kernel
theorem dX5_tree_12 : decode cX5_tree 12 = .ok (.ifCond .lt 8, 3) := by decide +kernel
theorem dX5_tree_15 : decode cX5_tree 15 = .ok (.iload_n 2, 1) := by decide +kernel
theorem dX5_tree_16 : decode cX5_tree 16 = .ok (.iconst 4, 1) := by decide +kernel
theorem dX5_tree_17 : decode cX5_tree 17 = .ok (.if_icmp .lt 5, 3) := by decide +kernel
theorem dX5_tree_20 : decode cX5_tree 20 = .ok (.iconst (-1), 1) := by decide +kernel
theorem dX5_tree_21 : decode cX5_tree 21 = .ok (.ireturn, 1) := by decide +kernel
theorem dX5_tree_22 : decode cX5_tree 22 = .ok (.aload_n 0, 1) := by decide +kernel
theorem dX5_tree_23 : decode cX5_tree 23 = .ok (.getfield 25, 3) := by decide +kernel
theorem dX5_tree_26 : decode cX5_tree 26 = .ok (.getfield 126, 3) := by decide +kernel
theorem dX5_tree_29 : decode cX5_tree 29 = .ok (.iload_n 1, 1) := by decide +kernel
theorem dX5_tree_30 : decode cX5_tree 30 = .ok (.aaload, 1) := by decide +kernel
theorem dX5_tree_31 : decode cX5_tree 31 = .ok (.iload_n 2, 1) := by decide +kernel
theorem dX5_tree_32 : decode cX5_tree 32 = .ok (.invokevirtual 156, 3) := by decide +kernel
theorem dX5_tree_35 : decode cX5_tree 35 = .ok (.ireturn, 1) := by decide +kernel
theorem dX5_has_0 : decode cX5_has 0 = .ok (.iload_n 1, 1) := by decide +kernel
theorem dX5_has_1 : decode cX5_has 1 = .ok (.invokestatic 159, 3) := by decide +kernel
theorem dX5_has_4 : decode cX5_has 4 = .ok (.ifCond .ne 5, 3) := by decide +kernel
theorem dX5_has_7 : decode cX5_has 7 = .ok (.iconst (-1), 1) := by decide +kernel
theorem dX5_has_8 : decode cX5_has 8 = .ok (.ireturn, 1) := by decide +kernel
theorem dX5_has_9 : decode cX5_has 9 = .ok (.aload_n 0, 1) := by decide +kernel
theorem dX5_has_10 : decode cX5_has 10 = .ok (.getfield 25, 3) := by decide +kernel
theorem dX5_has_13 : decode cX5_has 13 = .ok (.getfield 162, 3) := by decide +kernel
theorem dX5_has_16 : decode cX5_has 16 = .ok (.iload_n 1, 1) := by decide +kernel
theorem dX5_has_17 : decode cX5_has 17 = .ok (.iaload, 1) := by decide +kernel
theorem dX5_has_18 : decode cX5_has 18 = .ok (.ireturn, 1) := by decide +kernel
theorem dX5_pass_0 : decode cX5_pass 0 = .ok (.iload_n 1, 1) := by decide +kernel
theorem dX5_pass_1 : decode cX5_pass 1 = .ok (.iconst 1, 1) := by decide +kernel
theorem dX5_pass_2 : decode cX5_pass 2 = .ok (.bipush 20, 2) := by decide +kernel
theorem dX5_pass_4 : decode cX5_pass 4 = .ok (.invokestatic 165, 3) := by decide +kernel
theorem dX5_pass_7 : decode cX5_pass 7 = .ok (.ifCond .ne 5, 3) := by decide +kernel
theorem dX5_pass_10 : decode cX5_pass 10 = .ok (.iconst (-1), 1) := by decide +kernel
theorem dX5_pass_11 : decode cX5_pass 11 = .ok (.ireturn, 1) := by decide +kernel
theorem dX5_pass_12 : decode cX5_pass 12 = .ok (.aload_n 0, 1) := by decide +kernel
theorem dX5_pass_13 : decode cX5_pass 13 = .ok (.getfield 44, 3) := by decide +kernel
theorem dX5_pass_16 : decode cX5_pass 16 = .ok (.aload_n 0, 1) := by decide +kernel
theorem dX5_pass_17 : decode cX5_pass 17 = .ok (.getfield 25, 3) := by decide +kernel
theorem dX5_pass_20 : decode cX5_pass 20 = .ok (.invokevirtual 169, 3) := by decide +kernel
theorem dX5_pass_23 : decode cX5_pass 23 = .ok (.aload_n 0, 1) := by decide +kernel
theorem dX5_pass_24 : decode cX5_pass 24 = .ok (.getfield 25, 3) := by decide +kernel
theorem dX5_pass_27 : decode cX5_pass 27 = .ok (.iload_n 1, 1) := by decide +kernel
theorem dX5_pass_28 : decode cX5_pass 28 = .ok (.invokevirtual 172, 3) := by decide +kernel
theorem dX5_pass_31 : decode cX5_pass 31 = .ok (.aload_n 0, 1) := by decide +kernel
theorem dX5_pass_32 : decode cX5_pass 32 = .ok (.getfield 25, 3) := by decide +kernel
theorem dX5_pass_35 : decode cX5_pass 35 = .ok (.getfield 176, 3) := by decide +kernel
theorem dX5_pass_38 : decode cX5_pass 38 = .ok (.ireturn, 1) := by decide +kernel
theorem dX5_dig_0 : decode cX5_dig 0 = .ok (.aload_n 0, 1) := by decide +kernel
theorem dX5_dig_1 : decode cX5_dig 1 = .ok (.getfield 16, 3) := by decide +kernel
theorem dX5_dig_4 : decode cX5_dig 4 = .ok (.iload_n 1, 1) := by decide +kernel
theorem dX5_dig_5 : decode cX5_dig 5 = .ok (.invokevirtual 103, 3) := by decide +kernel
theorem dX5_dig_8 : decode cX5_dig 8 = .ok (.ifCond .ne 5, 3) := by decide +kernel
theorem dX5_dig_11 : decode cX5_dig 11 = .ok (.iconst (-1), 1) := by decide +kernel
theorem dX5_dig_12 : decode cX5_dig 12 = .ok (.ireturn, 1) := by decide +kernel
theorem dX5_dig_13 : decode cX5_dig 13 = .ok (.aload_n 0, 1) := by decide +kernel
theorem dX5_dig_14 : decode cX5_dig 14 = .ok (.getfield 25, 3) := by decide +kernel
theorem dX5_dig_17 : decode cX5_dig 17 = .ok (.iload_n 1, 1) := by decide +kernel
theorem dX5_dig_18 : decode cX5_dig 18 = .ok (.invokevirtual 179, 3) := by decide +kernel
theorem dX5_dig_21 : decode cX5_dig 21 = .ok (.ifCond .ne 6, 3) := by decide +kernel
theorem dX5_dig_24 : decode cX5_dig 24 = .ok (.bipush (-2), 2) := by decide +kernel
theorem dX5_dig_26 : decode cX5_dig 26 = .ok (.ireturn, 1) := by decide +kernel
theorem dX5_dig_27 : decode cX5_dig 27 = .ok (.aload_n 0, 1) := by decide +kernel
theorem dX5_dig_28 : decode cX5_dig 28 = .ok (.getfield 44, 3) := by decide +kernel
theorem dX5_dig_31 : decode cX5_dig 31 = .ok (.aload_n 0, 1) := by decide +kernel
theorem dX5_dig_32 : decode cX5_dig 32 = .ok (.getfield 25, 3) := by decide +kernel
theorem dX5_dig_35 : decode cX5_dig 35 = .ok (.invokevirtual 169, 3) := by decide +kernel
theorem dX5_dig_38 : decode cX5_dig 38 = .ok (.aload_n 0, 1) := by decide +kernel
theorem dX5_dig_39 : decode cX5_dig 39 = .ok (.getfield 25, 3) := by decide +kernel
theorem dX5_dig_42 : decode cX5_dig 42 = .ok (.iload_n 1, 1) := by decide +kernel
theorem dX5_dig_43 : decode cX5_dig 43 = .ok (.invokevirtual 182, 3) := by decide +kernel
theorem dX5_dig_46 : decode cX5_dig 46 = .ok (.aload_n 0, 1) := by decide +kernel
theorem dX5_dig_47 : decode cX5_dig 47 = .ok (.getfield 25, 3) := by decide +kernel
theorem dX5_dig_50 : decode cX5_dig 50 = .ok (.getfield 114, 3) := by decide +kernel
theorem dX5_dig_53 : decode cX5_dig 53 = .ok (.invokestatic 185, 3) := by decide +kernel
theorem dX5_dig_56 : decode cX5_dig 56 = .ok (.ireturn, 1) := by decide +kernel
theorem dX5_fill_0 : decode cX5_fill 0 = .ok (.aload_n 0, 1) := by decide +kernel
theorem dX5_fill_1 : decode cX5_fill 1 = .ok (.getfield 16, 3) := by decide +kernel
theorem dX5_fill_4 : decode cX5_fill 4 = .ok (.iload_n 1, 1) := by decide +kernel
theorem dX5_fill_5 : decode cX5_fill 5 = .ok (.invokevirtual 103, 3) := by decide +kernel
theorem dX5_fill_8 : decode cX5_fill 8 = .ok (.ifCond .ne 5, 3) := by decide +kernel
theorem dX5_fill_11 : decode cX5_fill 11 = .ok (.iconst (-1), 1) := by decide +kernel
theorem dX5_fill_12 : decode cX5_fill 12 = .ok (.ireturn, 1) := by decide +kernel
theorem dX5_fill_13 : decode cX5_fill 13 = .ok (.aload_n 0, 1) := by decide +kernel
theorem dX5_fill_14 : decode cX5_fill 14 = .ok (.getfield 25, 3) := by decide +kernel
theorem dX5_fill_17 : decode cX5_fill 17 = .ok (.getfield 114, 3) := by decide +kernel
theorem dX5_fill_20 : decode cX5_fill 20 = .ok (.iload_n 1, 1) := by decide +kernel
theorem dX5_fill_21 : decode cX5_fill 21 = .ok (.invokestatic 118, 3) := by decide +kernel
theorem dX5_fill_24 : decode cX5_fill 24 = .ok (.ifCond .ne 6, 3) := by decide +kernel
theorem dX5_fill_27 : decode cX5_fill 27 = .ok (.bipush (-2), 2) := by decide +kernel
theorem dX5_fill_29 : decode cX5_fill 29 = .ok (.ireturn, 1) := by decide +kernel
theorem dX5_fill_30 : decode cX5_fill 30 = .ok (.aload_n 0, 1) := by decide +kernel
theorem dX5_fill_31 : decode cX5_fill 31 = .ok (.getfield 44, 3) := by decide +kernel
theorem dX5_fill_34 : decode cX5_fill 34 = .ok (.aload_n 0, 1) := by decide +kernel
theorem dX5_fill_35 : decode cX5_fill 35 = .ok (.getfield 25, 3) := by decide +kernel
theorem dX5_fill_38 : decode cX5_fill 38 = .ok (.invokevirtual 169, 3) := by decide +kernel
theorem dX5_fill_41 : decode cX5_fill 41 = .ok (.aload_n 0, 1) := by decide +kernel
theorem dX5_fill_42 : decode cX5_fill 42 = .ok (.getfield 25, 3) := by decide +kernel
theorem dX5_fill_45 : decode cX5_fill 45 = .ok (.iload_n 1, 1) := by decide +kernel
theorem dX5_fill_46 : decode cX5_fill 46 = .ok (.invokevirtual 191, 3) := by decide +kernel
theorem dX5_fill_49 : decode cX5_fill 49 = .ok (.aload_n 0, 1) := by decide +kernel
theorem dX5_fill_50 : decode cX5_fill 50 = .ok (.getfield 25, 3) := by decide +kernel
theorem dX5_fill_53 : decode cX5_fill 53 = .ok (.getfield 114, 3) := by decide +kernel
theorem dX5_fill_56 : decode cX5_fill 56 = .ok (.invokestatic 185, 3) := by decide +kernel
theorem dX5_fill_59 : decode cX5_fill 59 = .ok (.ireturn, 1) := by decide +kernel
theorem dX5_leave_0 : decode cX5_leave 0 = .ok (.aload_n 0, 1) := by decide +kernel
theorem dX5_leave_1 : decode cX5_leave 1 = .ok (.getfield 25, 3) := by decide +kernel
theorem dX5_leave_4 : decode cX5_leave 4 = .ok (.iload_n 1, 1) := by decide +kernel
theorem dX5_leave_5 : decode cX5_leave 5 = .ok (.invokevirtual 125, 3) := by decide +kernel
theorem dX5_leave_8 : decode cX5_leave 8 = .ok (.ifCond .ne 5, 3) := by decide +kernel
theorem dX5_leave_11 : decode cX5_leave 11 = .ok (.iconst (-1), 1) := by decide +kernel
theorem dX5_leave_12 : decode cX5_leave 12 = .ok (.ireturn, 1) := by decide +kernel
theorem dX5_leave_13 : decode cX5_leave 13 = .ok (.aload_n 0, 1) := by decide +kernel
theorem dX5_leave_14 : decode cX5_leave 14 = .ok (.getfield 25, 3) := by decide +kernel
theorem dX5_leave_17 : decode cX5_leave 17 = .ok (.getfield 126, 3) := by decide +kernel
theorem dX5_leave_20 : decode cX5_leave 20 = .ok (.iload_n 1, 1) := by decide +kernel
theorem dX5_leave_21 : decode cX5_leave 21 = .ok (.aaload, 1) := by decide +kernel
theorem dX5_leave_22 : decode cX5_leave 22 = .ok (.getfield 141, 3) := by decide +kernel
theorem dX5_leave_25 : decode cX5_leave 25 = .ok (.iconst 2, 1) := by decide +kernel
theorem dX5_leave_26 : decode cX5_leave 26 = .ok (.if_icmp .ge 6, 3) := by decide +kernel
theorem dX5_leave_29 : decode cX5_leave 29 = .ok (.bipush (-2), 2) := by decide +kernel
theorem dX5_leave_31 : decode cX5_leave 31 = .ok (.ireturn, 1) := by decide +kernel
theorem dX5_leave_32 : decode cX5_leave 32 = .ok (.aload_n 0, 1) := by decide +kernel
theorem dX5_leave_33 : decode cX5_leave 33 = .ok (.getfield 44, 3) := by decide +kernel
theorem dX5_leave_36 : decode cX5_leave 36 = .ok (.aload_n 0, 1) := by decide +kernel
theorem dX5_leave_37 : decode cX5_leave 37 = .ok (.getfield 25, 3) := by decide +kernel
theorem dX5_leave_40 : decode cX5_leave 40 = .ok (.invokevirtual 169, 3) := by decide +kernel
theorem dX5_leave_43 : decode cX5_leave 43 = .ok (.aload_n 0, 1) := by decide +kernel
theorem dX5_leave_44 : decode cX5_leave 44 = .ok (.getfield 25, 3) := by decide +kernel
theorem dX5_leave_47 : decode cX5_leave 47 = .ok (.aload_n 0, 1) := by decide +kernel
theorem dX5_leave_48 : decode cX5_leave 48 = .ok (.getfield 25, 3) := by decide +kernel
theorem dX5_leave_51 : decode cX5_leave 51 = .ok (.getfield 126, 3) := by decide +kernel
theorem dX5_leave_54 : decode cX5_leave 54 = .ok (.iload_n 1, 1) := by decide +kernel
theorem dX5_leave_55 : decode cX5_leave 55 = .ok (.aaload, 1) := by decide +kernel
theorem dX5_leave_56 : decode cX5_leave 56 = .ok (.invokevirtual 194, 3) := by decide +kernel
theorem dX5_leave_59 : decode cX5_leave 59 = .ok (.ireturn, 1) := by decide +kernel
theorem dX5_undo_0 : decode cX5_undo 0 = .ok (.aload_n 0, 1) := by decide +kernel
theorem dX5_undo_1 : decode cX5_undo 1 = .ok (.getfield 44, 3) := by decide +kernel
theorem dX5_undo_4 : decode cX5_undo 4 = .ok (.getfield 197, 3) := by decide +kernel
theorem dX5_undo_7 : decode cX5_undo 7 = .ok (.ifCond .ne 6, 3) := by decide +kernel
theorem dX5_undo_10 : decode cX5_undo 10 = .ok (.bipush (-2), 2) := by decide +kernel
theorem dX5_undo_12 : decode cX5_undo 12 = .ok (.ireturn, 1) := by decide +kernel
theorem dX5_undo_13 : decode cX5_undo 13 = .ok (.aload_n 0, 1) := by decide +kernel
theorem dX5_undo_14 : decode cX5_undo 14 = .ok (.getfield 44, 3) := by decide +kernel
theorem dX5_undo_17 : decode cX5_undo 17 = .ok (.aload_n 0, 1) := by decide +kernel
theorem dX5_undo_18 : decode cX5_undo 18 = .ok (.getfield 25, 3) := by decide +kernel
theorem dX5_undo_21 : decode cX5_undo 21 = .ok (.invokevirtual 200, 3) := by decide +kernel
theorem dX5_undo_24 : decode cX5_undo 24 = .ok (.aload_n 0, 1) := by decide +kernel
theorem dX5_undo_25 : decode cX5_undo 25 = .ok (.getfield 44, 3) := by decide +kernel
theorem dX5_undo_28 : decode cX5_undo 28 = .ok (.getfield 197, 3) := by decide +kernel
theorem dX5_undo_31 : decode cX5_undo 31 = .ok (.ireturn, 1) := by decide +kernel
theorem dX5_behind_0 : decode cX5_behind 0 = .ok (.iload_n 1, 1) := by decide +kernel
theorem dX5_behind_1 : decode cX5_behind 1 = .ok (.iconst 0, 1) := by decide +kernel
theorem dX5_behind_2 : decode cX5_behind 2 = .ok (.bipush 60, 2) := by decide +kernel
theorem dX5_behind_4 : decode cX5_behind 4 = .ok (.invokestatic 165, 3) := by decide +kernel
theorem dX5_behind_7 : decode cX5_behind 7 = .ok (.ifCond .eq 14, 3) := by decide +kernel
theorem dX5_behind_10 : decode cX5_behind 10 = .ok (.aload_n 0, 1) := by decide +kernel
theorem dX5_behind_11 : decode cX5_behind 11 = .ok (.getfield 25, 3) := by decide +kernel
theorem dX5_behind_14 : decode cX5_behind 14 = .ok (.iload_n 2, 1) := by decide +kernel
theorem dX5_behind_15 : decode cX5_behind 15 = .ok (.invokevirtual 125, 3) := by decide +kernel
theorem dX5_behind_18 : decode cX5_behind 18 = .ok (.ifCond .ne 5, 3) := by decide +kernel
theorem dX5_behind_21 : decode cX5_behind 21 = .ok (.iconst (-1), 1) := by decide +kernel
theorem dX5_behind_22 : decode cX5_behind 22 = .ok (.ireturn, 1) := by decide +kernel
theorem dX5_behind_23 : decode cX5_behind 23 = .ok (.aload_n 0, 1) := by decide +kernel
theorem dX5_behind_24 : decode cX5_behind 24 = .ok (.iload_n 1, 1) := by decide +kernel
theorem dX5_behind_25 : decode cX5_behind 25 = .ok (.iload_n 2, 1) := by decide +kernel
theorem dX5_behind_26 : decode cX5_behind 26 = .ok (.lconst 0, 1) := by decide +kernel
theorem dX5_behind_27 : decode cX5_behind 27 = .ok (.invokevirtual 203, 3) := by decide +kernel
theorem dX5_behind_30 : decode cX5_behind 30 = .ok (.ireturn, 1) := by decide +kernel
theorem dX5_wealth_0 : decode cX5_wealth 0 = .ok (.iload_n 1, 1) := by decide +kernel
theorem dX5_wealth_1 : decode cX5_wealth 1 = .ok (.iconst 0, 1) := by decide +kernel
theorem dX5_wealth_2 : decode cX5_wealth 2 = .ok (.bipush 60, 2) := by decide +kernel
theorem dX5_wealth_4 : decode cX5_wealth 4 = .ok (.invokestatic 165, 3) := by decide +kernel
theorem dX5_wealth_7 : decode cX5_wealth 7 = .ok (.ifCond .eq 10, 3) := by decide +kernel
theorem dX5_wealth_10 : decode cX5_wealth 10 = .ok (.iload_n 2, 1) := by decide +kernel
theorem dX5_wealth_11 : decode cX5_wealth 11 = .ok (.invokestatic 159, 3) := by decide +kernel
theorem dX5_wealth_14 : decode cX5_wealth 14 = .ok (.ifCond .ne 5, 3) := by decide +kernel
theorem dX5_wealth_17 : decode cX5_wealth 17 = .ok (.iconst (-1), 1) := by decide +kernel
theorem dX5_wealth_18 : decode cX5_wealth 18 = .ok (.ireturn, 1) := by decide +kernel
theorem dX5_wealth_19 : decode cX5_wealth 19 = .ok (.aload_n 0, 1) := by decide +kernel
theorem dX5_wealth_20 : decode cX5_wealth 20 = .ok (.iload_n 1, 1) := by decide +kernel
theorem dX5_wealth_21 : decode cX5_wealth 21 = .ok (.iload_n 2, 1) := by decide +kernel
theorem dX5_wealth_22 : decode cX5_wealth 22 = .ok (.lconst 0, 1) := by decide +kernel
theorem dX5_wealth_23 : decode cX5_wealth 23 = .ok (.invokevirtual 207, 3) := by decide +kernel
theorem dX5_wealth_26 : decode cX5_wealth 26 = .ok (.ireturn, 1) := by decide +kernel
theorem dX5_comes_0 : decode cX5_comes 0 = .ok (.aload_n 0, 1) := by decide +kernel
theorem dX5_comes_1 : decode cX5_comes 1 = .ok (.getfield 25, 3) := by decide +kernel
theorem dX5_comes_4 : decode cX5_comes 4 = .ok (.iload_n 1, 1) := by decide +kernel
theorem dX5_comes_5 : decode cX5_comes 5 = .ok (.invokevirtual 125, 3) := by decide +kernel
theorem dX5_comes_8 : decode cX5_comes 8 = .ok (.ifCond .eq 14, 3) := by decide +kernel
theorem dX5_comes_11 : decode cX5_comes 11 = .ok (.aload_n 0, 1) := by decide +kernel
theorem dX5_comes_12 : decode cX5_comes 12 = .ok (.getfield 16, 3) := by decide +kernel
theorem dX5_comes_15 : decode cX5_comes 15 = .ok (.iload_n 2, 1) := by decide +kernel
theorem dX5_comes_16 : decode cX5_comes 16 = .ok (.invokevirtual 103, 3) := by decide +kernel
theorem dX5_comes_19 : decode cX5_comes 19 = .ok (.ifCond .ne 5, 3) := by decide +kernel
theorem dX5_comes_22 : decode cX5_comes 22 = .ok (.iconst (-1), 1) := by decide +kernel
theorem dX5_comes_23 : decode cX5_comes 23 = .ok (.ireturn, 1) := by decide +kernel
theorem dX5_comes_24 : decode cX5_comes 24 = .ok (.aload_n 0, 1) := by decide +kernel
theorem dX5_comes_25 : decode cX5_comes 25 = .ok (.getfield 29, 3) := by decide +kernel
theorem dX5_comes_28 : decode cX5_comes 28 = .ok (.aload_n 0, 1) := by decide +kernel
theorem dX5_comes_29 : decode cX5_comes 29 = .ok (.getfield 25, 3) := by decide +kernel
theorem dX5_comes_32 : decode cX5_comes 32 = .ok (.invokevirtual 87, 3) := by decide +kernel
theorem dX5_comes_35 : decode cX5_comes 35 = .ok (.iconst 0, 1) := by decide +kernel
theorem dX5_comes_36 : decode cX5_comes 36 = .ok (.istore_n 3, 1) := by decide +kernel
theorem dX5_comes_37 : decode cX5_comes 37 = .ok (.iload_n 3, 1) := by decide +kernel
theorem dX5_comes_38 : decode cX5_comes 38 = .ok (.bipush 60, 2) := by decide +kernel
theorem dX5_comes_40 : decode cX5_comes 40 = .ok (.if_icmp .gt 36, 3) := by decide +kernel
theorem dX5_comes_43 : decode cX5_comes 43 = .ok (.aload_n 0, 1) := by decide +kernel
theorem dX5_comes_44 : decode cX5_comes 44 = .ok (.getfield 29, 3) := by decide +kernel
theorem dX5_comes_47 : decode cX5_comes 47 = .ok (.getfield 126, 3) := by decide +kernel
theorem dX5_comes_50 : decode cX5_comes 50 = .ok (.iload_n 1, 1) := by decide +kernel
theorem dX5_comes_51 : decode cX5_comes 51 = .ok (.aaload, 1) := by decide +kernel
theorem dX5_comes_52 : decode cX5_comes 52 = .ok (.invokevirtual 144, 3) := by decide +kernel
theorem dX5_comes_55 : decode cX5_comes 55 = .ok (.iload_n 2, 1) := by decide +kernel
theorem dX5_comes_56 : decode cX5_comes 56 = .ok (.if_icmp .ne 5, 3) := by decide +kernel
theorem dX5_comes_59 : decode cX5_comes 59 = .ok (.iload_n 3, 1) := by decide +kernel
theorem dX5_comes_60 : decode cX5_comes 60 = .ok (.ireturn, 1) := by decide +kernel
theorem dX5_comes_61 : decode cX5_comes 61 = .ok (.aload_n 0, 1) := by decide +kernel
theorem dX5_comes_62 : decode cX5_comes 62 = .ok (.getfield 29, 3) := by decide +kernel
theorem dX5_comes_65 : decode cX5_comes 65 = .ok (.bipush (-4), 2) := by decide +kernel
theorem dX5_comes_67 : decode cX5_comes 67 = .ok (.invokevirtual 210, 3) := by decide +kernel
theorem dX5_comes_70 : decode cX5_comes 70 = .ok (.iinc 3 1, 3) := by decide +kernel
theorem dX5_comes_73 : decode cX5_comes 73 = .ok (.goto (-36), 3) := by decide +kernel
theorem dX5_comes_76 : decode cX5_comes 76 = .ok (.bipush (-4), 2) := by decide +kernel
theorem dX5_comes_78 : decode cX5_comes 78 = .ok (.ireturn, 1) := by decide +kernel
theorem dX5_meet_0 : decode cX5_meet 0 = .ok (.aload_n 0, 1) := by decide +kernel
theorem dX5_meet_1 : decode cX5_meet 1 = .ok (.getfield 25, 3) := by decide +kernel
theorem dX5_meet_4 : decode cX5_meet 4 = .ok (.iload_n 1, 1) := by decide +kernel
theorem dX5_meet_5 : decode cX5_meet 5 = .ok (.invokevirtual 125, 3) := by decide +kernel
theorem dX5_meet_8 : decode cX5_meet 8 = .ok (.ifCond .eq 19, 3) := by decide +kernel
theorem dX5_meet_11 : decode cX5_meet 11 = .ok (.aload_n 0, 1) := by decide +kernel
theorem dX5_meet_12 : decode cX5_meet 12 = .ok (.getfield 25, 3) := by decide +kernel
theorem dX5_meet_15 : decode cX5_meet 15 = .ok (.iload_n 2, 1) := by decide +kernel
theorem dX5_meet_16 : decode cX5_meet 16 = .ok (.invokevirtual 125, 3) := by decide +kernel
theorem dX5_meet_19 : decode cX5_meet 19 = .ok (.ifCond .eq 8, 3) := by decide +kernel
theorem dX5_meet_22 : decode cX5_meet 22 = .ok (.iload_n 1, 1) := by decide +kernel
theorem dX5_meet_23 : decode cX5_meet 23 = .ok (.iload_n 2, 1) := by decide +kernel
theorem dX5_meet_24 : decode cX5_meet 24 = .ok (.if_icmp .ne 5, 3) := by decide +kernel
theorem dX5_meet_27 : decode cX5_meet 27 = .ok (.iconst (-1), 1) := by decide +kernel
theorem dX5_meet_28 : decode cX5_meet 28 = .ok (.ireturn, 1) := by decide +kernel
theorem dX5_meet_29 : decode cX5_meet 29 = .ok (.aload_n 0, 1) := by decide +kernel
theorem dX5_meet_30 : decode cX5_meet 30 = .ok (.getfield 29, 3) := by decide +kernel
theorem dX5_meet_33 : decode cX5_meet 33 = .ok (.aload_n 0, 1) := by decide +kernel
theorem dX5_meet_34 : decode cX5_meet 34 = .ok (.getfield 25, 3) := by decide +kernel
theorem dX5_meet_37 : decode cX5_meet 37 = .ok (.invokevirtual 87, 3) := by decide +kernel
theorem dX5_meet_40 : decode cX5_meet 40 = .ok (.iconst 0, 1) := by decide +kernel
theorem dX5_meet_41 : decode cX5_meet 41 = .ok (.istore_n 3, 1) := by decide +kernel
theorem dX5_meet_42 : decode cX5_meet 42 = .ok (.iload_n 3, 1) := by decide +kernel
theorem dX5_meet_43 : decode cX5_meet 43 = .ok (.bipush 60, 2) := by decide +kernel
theorem dX5_meet_45 : decode cX5_meet 45 = .ok (.if_icmp .gt 48, 3) := by decide +kernel
theorem dX5_meet_48 : decode cX5_meet 48 = .ok (.aload_n 0, 1) := by decide +kernel
theorem dX5_meet_49 : decode cX5_meet 49 = .ok (.getfield 29, 3) := by decide +kernel
theorem dX5_meet_52 : decode cX5_meet 52 = .ok (.aload_n 0, 1) := by decide +kernel
theorem dX5_meet_53 : decode cX5_meet 53 = .ok (.getfield 29, 3) := by decide +kernel
theorem dX5_meet_56 : decode cX5_meet 56 = .ok (.getfield 126, 3) := by decide +kernel
theorem dX5_meet_59 : decode cX5_meet 59 = .ok (.iload_n 1, 1) := by decide +kernel
theorem dX5_meet_60 : decode cX5_meet 60 = .ok (.aaload, 1) := by decide +kernel
theorem dX5_meet_61 : decode cX5_meet 61 = .ok (.aload_n 0, 1) := by decide +kernel
theorem dX5_meet_62 : decode cX5_meet 62 = .ok (.getfield 29, 3) := by decide +kernel
theorem dX5_meet_65 : decode cX5_meet 65 = .ok (.getfield 126, 3) := by decide +kernel
theorem dX5_meet_68 : decode cX5_meet 68 = .ok (.iload_n 2, 1) := by decide +kernel
theorem dX5_meet_69 : decode cX5_meet 69 = .ok (.aaload, 1) := by decide +kernel
theorem dX5_meet_70 : decode cX5_meet 70 = .ok (.invokevirtual 213, 3) := by decide +kernel
theorem dX5_meet_73 : decode cX5_meet 73 = .ok (.ifCond .eq 5, 3) := by decide +kernel
theorem dX5_meet_76 : decode cX5_meet 76 = .ok (.iload_n 3, 1) := by decide +kernel
theorem dX5_meet_77 : decode cX5_meet 77 = .ok (.ireturn, 1) := by decide +kernel
theorem dX5_meet_78 : decode cX5_meet 78 = .ok (.aload_n 0, 1) := by decide +kernel
theorem dX5_meet_79 : decode cX5_meet 79 = .ok (.getfield 29, 3) := by decide +kernel
theorem dX5_meet_82 : decode cX5_meet 82 = .ok (.bipush (-4), 2) := by decide +kernel
theorem dX5_meet_84 : decode cX5_meet 84 = .ok (.invokevirtual 210, 3) := by decide +kernel
theorem dX5_meet_87 : decode cX5_meet 87 = .ok (.iinc 3 1, 3) := by decide +kernel
theorem dX5_meet_90 : decode cX5_meet 90 = .ok (.goto (-48), 3) := by decide +kernel
theorem dX5_meet_93 : decode cX5_meet 93 = .ok (.bipush (-4), 2) := by decide +kernel
theorem dX5_meet_95 : decode cX5_meet 95 = .ok (.ireturn, 1) := by decide +kernel
theorem dX5_again_0 : decode cX5_again 0 = .ok (.aload_n 0, 1) := by decide +kernel
theorem dX5_again_1 : decode cX5_again 1 = .ok (.getfield 29, 3) := by decide +kernel
theorem dX5_again_4 : decode cX5_again 4 = .ok (.aload_n 0, 1) := by decide +kernel
theorem dX5_again_5 : decode cX5_again 5 = .ok (.getfield 25, 3) := by decide +kernel
theorem dX5_again_8 : decode cX5_again 8 = .ok (.invokevirtual 87, 3) := by decide +kernel
theorem dX5_again_11 : decode cX5_again 11 = .ok (.iconst 1, 1) := by decide +kernel
theorem dX5_again_12 : decode cX5_again 12 = .ok (.istore_n 1, 1) := by decide +kernel
theorem dX5_again_13 : decode cX5_again 13 = .ok (.iload_n 1, 1) := by decide +kernel
theorem dX5_again_14 : decode cX5_again 14 = .ok (.sipush 200, 3) := by decide +kernel
theorem dX5_again_17 : decode cX5_again 17 = .ok (.if_icmp .gt 34, 3) := by decide +kernel
theorem dX5_again_20 : decode cX5_again 20 = .ok (.aload_n 0, 1) := by decide +kernel
theorem dX5_again_21 : decode cX5_again 21 = .ok (.getfield 29, 3) := by decide +kernel
theorem dX5_again_24 : decode cX5_again 24 = .ok (.bipush (-4), 2) := by decide +kernel
theorem dX5_again_26 : decode cX5_again 26 = .ok (.invokevirtual 210, 3) := by decide +kernel
theorem dX5_again_29 : decode cX5_again 29 = .ok (.aload_n 0, 1) := by decide +kernel
theorem dX5_again_30 : decode cX5_again 30 = .ok (.getfield 29, 3) := by decide +kernel
theorem dX5_again_33 : decode cX5_again 33 = .ok (.aload_n 0, 1) := by decide +kernel
theorem dX5_again_34 : decode cX5_again 34 = .ok (.getfield 25, 3) := by decide +kernel
theorem dX5_again_37 : decode cX5_again 37 = .ok (.invokevirtual 217, 3) := by decide +kernel
theorem dX5_again_40 : decode cX5_again 40 = .ok (.ifCond .eq 5, 3) := by decide +kernel
theorem dX5_again_43 : decode cX5_again 43 = .ok (.iload_n 1, 1) := by decide +kernel
theorem dX5_again_44 : decode cX5_again 44 = .ok (.ireturn, 1) := by decide +kernel
theorem dX5_again_45 : decode cX5_again 45 = .ok (.iinc 1 1, 3) := by decide +kernel
theorem dX5_again_48 : decode cX5_again 48 = .ok (.goto (-35), 3) := by decide +kernel
theorem dX5_again_51 : decode cX5_again 51 = .ok (.bipush (-4), 2) := by decide +kernel
theorem dX5_again_53 : decode cX5_again 53 = .ok (.ireturn, 1) := by decide +kernel
theorem dX5_ditches_0 : decode cX5_ditches 0 = .ok (.aload_n 0, 1) := by decide +kernel
theorem dX5_ditches_1 : decode cX5_ditches 1 = .ok (.getfield 25, 3) := by decide +kernel
theorem dX5_ditches_4 : decode cX5_ditches 4 = .ok (.iload_n 1, 1) := by decide +kernel
theorem dX5_ditches_5 : decode cX5_ditches 5 = .ok (.invokevirtual 125, 3) := by decide +kernel
