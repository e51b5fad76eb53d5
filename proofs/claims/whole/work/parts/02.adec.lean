theorem dX0_init_0 : decode cX0_init 0 = .ok (.aload_n 0, 1) := by decide +kernel
theorem dX0_init_1 : decode cX0_init 1 = .ok (.invokespecial 3, 3) := by decide +kernel
theorem dX0_init_4 : decode cX0_init 4 = .ok (.aload_n 0, 1) := by decide +kernel
theorem dX0_init_5 : decode cX0_init 5 = .ok (.bipush 36, 2) := by decide +kernel
theorem dX0_init_7 : decode cX0_init 7 = .ok (.newarray .int, 2) := by decide +kernel
theorem dX0_init_9 : decode cX0_init 9 = .ok (.putfield 9, 3) := by decide +kernel
theorem dX0_init_12 : decode cX0_init 12 = .ok (.return_, 1) := by decide +kernel
theorem dX0_clear_0 : decode cX0_clear 0 = .ok (.aload_n 0, 1) := by decide +kernel
theorem dX0_clear_1 : decode cX0_clear 1 = .ok (.lconst 0, 1) := by decide +kernel
theorem dX0_clear_2 : decode cX0_clear 2 = .ok (.putfield 15, 3) := by decide +kernel
theorem dX0_clear_5 : decode cX0_clear 5 = .ok (.aload_n 0, 1) := by decide +kernel
theorem dX0_clear_6 : decode cX0_clear 6 = .ok (.lconst 0, 1) := by decide +kernel
theorem dX0_clear_7 : decode cX0_clear 7 = .ok (.putfield 19, 3) := by decide +kernel
theorem dX0_clear_10 : decode cX0_clear 10 = .ok (.aload_n 0, 1) := by decide +kernel
theorem dX0_clear_11 : decode cX0_clear 11 = .ok (.lconst 0, 1) := by decide +kernel
theorem dX0_clear_12 : decode cX0_clear 12 = .ok (.putfield 22, 3) := by decide +kernel
theorem dX0_clear_15 : decode cX0_clear 15 = .ok (.aload_n 0, 1) := by decide +kernel
theorem dX0_clear_16 : decode cX0_clear 16 = .ok (.iconst 0, 1) := by decide +kernel
theorem dX0_clear_17 : decode cX0_clear 17 = .ok (.putfield 25, 3) := by decide +kernel
theorem dX0_clear_20 : decode cX0_clear 20 = .ok (.aload_n 0, 1) := by decide +kernel
theorem dX0_clear_21 : decode cX0_clear 21 = .ok (.iconst 0, 1) := by decide +kernel
theorem dX0_clear_22 : decode cX0_clear 22 = .ok (.putfield 29, 3) := by decide +kernel
theorem dX0_clear_25 : decode cX0_clear 25 = .ok (.iconst 0, 1) := by decide +kernel
theorem dX0_clear_26 : decode cX0_clear 26 = .ok (.istore_n 1, 1) := by decide +kernel
theorem dX0_clear_27 : decode cX0_clear 27 = .ok (.iload_n 1, 1) := by decide +kernel
theorem dX0_clear_28 : decode cX0_clear 28 = .ok (.bipush 36, 2) := by decide +kernel
theorem dX0_clear_30 : decode cX0_clear 30 = .ok (.if_icmp .ge 16, 3) := by decide +kernel
theorem dX0_clear_33 : decode cX0_clear 33 = .ok (.aload_n 0, 1) := by decide +kernel
theorem dX0_clear_34 : decode cX0_clear 34 = .ok (.getfield 9, 3) := by decide +kernel
theorem dX0_clear_37 : decode cX0_clear 37 = .ok (.iload_n 1, 1) := by decide +kernel
theorem dX0_clear_38 : decode cX0_clear 38 = .ok (.iconst 0, 1) := by decide +kernel
theorem dX0_clear_39 : decode cX0_clear 39 = .ok (.iastore, 1) := by decide +kernel
theorem dX0_clear_40 : decode cX0_clear 40 = .ok (.iinc 1 1, 3) := by decide +kernel
theorem dX0_clear_43 : decode cX0_clear 43 = .ok (.goto (-16), 3) := by decide +kernel
theorem dX0_clear_46 : decode cX0_clear 46 = .ok (.return_, 1) := by decide +kernel
theorem dX0_copyFrom_0 : decode cX0_copyFrom 0 = .ok (.aload_n 0, 1) := by decide +kernel
theorem dX0_copyFrom_1 : decode cX0_copyFrom 1 = .ok (.aload_n 1, 1) := by decide +kernel
theorem dX0_copyFrom_2 : decode cX0_copyFrom 2 = .ok (.getfield 15, 3) := by decide +kernel
theorem dX0_copyFrom_5 : decode cX0_copyFrom 5 = .ok (.putfield 15, 3) := by decide +kernel
theorem dX0_copyFrom_8 : decode cX0_copyFrom 8 = .ok (.aload_n 0, 1) := by decide +kernel
theorem dX0_copyFrom_9 : decode cX0_copyFrom 9 = .ok (.aload_n 1, 1) := by decide +kernel
theorem dX0_copyFrom_10 : decode cX0_copyFrom 10 = .ok (.getfield 19, 3) := by decide +kernel
theorem dX0_copyFrom_13 : decode cX0_copyFrom 13 = .ok (.putfield 19, 3) := by decide +kernel
theorem dX0_copyFrom_16 : decode cX0_copyFrom 16 = .ok (.aload_n 0, 1) := by decide +kernel
theorem dX0_copyFrom_17 : decode cX0_copyFrom 17 = .ok (.aload_n 1, 1) := by decide +kernel
theorem dX0_copyFrom_18 : decode cX0_copyFrom 18 = .ok (.getfield 22, 3) := by decide +kernel
theorem dX0_copyFrom_21 : decode cX0_copyFrom 21 = .ok (.putfield 22, 3) := by decide +kernel
theorem dX0_copyFrom_24 : decode cX0_copyFrom 24 = .ok (.aload_n 0, 1) := by decide +kernel
theorem dX0_copyFrom_25 : decode cX0_copyFrom 25 = .ok (.aload_n 1, 1) := by decide +kernel
theorem dX0_copyFrom_26 : decode cX0_copyFrom 26 = .ok (.getfield 25, 3) := by decide +kernel
theorem dX0_copyFrom_29 : decode cX0_copyFrom 29 = .ok (.putfield 25, 3) := by decide +kernel
theorem dX0_copyFrom_32 : decode cX0_copyFrom 32 = .ok (.aload_n 0, 1) := by decide +kernel
theorem dX0_copyFrom_33 : decode cX0_copyFrom 33 = .ok (.aload_n 1, 1) := by decide +kernel
theorem dX0_copyFrom_34 : decode cX0_copyFrom 34 = .ok (.getfield 29, 3) := by decide +kernel
theorem dX0_copyFrom_37 : decode cX0_copyFrom 37 = .ok (.putfield 29, 3) := by decide +kernel
theorem dX0_copyFrom_40 : decode cX0_copyFrom 40 = .ok (.iconst 0, 1) := by decide +kernel
theorem dX0_copyFrom_41 : decode cX0_copyFrom 41 = .ok (.istore_n 2, 1) := by decide +kernel
theorem dX0_copyFrom_42 : decode cX0_copyFrom 42 = .ok (.iload_n 2, 1) := by decide +kernel
theorem dX0_copyFrom_43 : decode cX0_copyFrom 43 = .ok (.bipush 36, 2) := by decide +kernel
theorem dX0_copyFrom_45 : decode cX0_copyFrom 45 = .ok (.if_icmp .ge 21, 3) := by decide +kernel
theorem dX0_copyFrom_48 : decode cX0_copyFrom 48 = .ok (.aload_n 0, 1) := by decide +kernel
theorem dX0_copyFrom_49 : decode cX0_copyFrom 49 = .ok (.getfield 9, 3) := by decide +kernel
theorem dX0_copyFrom_52 : decode cX0_copyFrom 52 = .ok (.iload_n 2, 1) := by decide +kernel
theorem dX0_copyFrom_53 : decode cX0_copyFrom 53 = .ok (.aload_n 1, 1) := by decide +kernel
theorem dX0_copyFrom_54 : decode cX0_copyFrom 54 = .ok (.getfield 9, 3) := by decide +kernel
theorem dX0_copyFrom_57 : decode cX0_copyFrom 57 = .ok (.iload_n 2, 1) := by decide +kernel
theorem dX0_copyFrom_58 : decode cX0_copyFrom 58 = .ok (.iaload, 1) := by decide +kernel
theorem dX0_copyFrom_59 : decode cX0_copyFrom 59 = .ok (.iastore, 1) := by decide +kernel
theorem dX0_copyFrom_60 : decode cX0_copyFrom 60 = .ok (.iinc 2 1, 3) := by decide +kernel
theorem dX0_copyFrom_63 : decode cX0_copyFrom 63 = .ok (.goto (-21), 3) := by decide +kernel
theorem dX0_copyFrom_66 : decode cX0_copyFrom 66 = .ok (.return_, 1) := by decide +kernel
theorem dX0_cells_0 : decode cX0_cells 0 = .ok (.aload_n 0, 1) := by decide +kernel
theorem dX0_cells_1 : decode cX0_cells 1 = .ok (.getfield 25, 3) := by decide +kernel
theorem dX0_cells_4 : decode cX0_cells 4 = .ok (.aload_n 0, 1) := by decide +kernel
theorem dX0_cells_5 : decode cX0_cells 5 = .ok (.getfield 29, 3) := by decide +kernel
theorem dX0_cells_8 : decode cX0_cells 8 = .ok (.imul, 1) := by decide +kernel
theorem dX0_cells_9 : decode cX0_cells 9 = .ok (.ireturn, 1) := by decide +kernel
theorem dX0_holds_0 : decode cX0_holds 0 = .ok (.iload_n 1, 1) := by decide +kernel
theorem dX0_holds_1 : decode cX0_holds 1 = .ok (.ifCond .lt 26, 3) := by decide +kernel
theorem dX0_holds_4 : decode cX0_holds 4 = .ok (.iload_n 1, 1) := by decide +kernel
theorem dX0_holds_5 : decode cX0_holds 5 = .ok (.aload_n 0, 1) := by decide +kernel
theorem dX0_holds_6 : decode cX0_holds 6 = .ok (.getfield 25, 3) := by decide +kernel
theorem dX0_holds_9 : decode cX0_holds 9 = .ok (.aload_n 0, 1) := by decide +kernel
theorem dX0_holds_10 : decode cX0_holds 10 = .ok (.getfield 29, 3) := by decide +kernel
theorem dX0_holds_13 : decode cX0_holds 13 = .ok (.imul, 1) := by decide +kernel
theorem dX0_holds_14 : decode cX0_holds 14 = .ok (.if_icmp .ge 13, 3) := by decide +kernel
theorem dX0_holds_17 : decode cX0_holds 17 = .ok (.iload_n 1, 1) := by decide +kernel
theorem dX0_holds_18 : decode cX0_holds 18 = .ok (.bipush 36, 2) := by decide +kernel
theorem dX0_holds_20 : decode cX0_holds 20 = .ok (.if_icmp .ge 7, 3) := by decide +kernel
theorem dX0_holds_23 : decode cX0_holds 23 = .ok (.iconst 1, 1) := by decide +kernel
theorem dX0_holds_24 : decode cX0_holds 24 = .ok (.goto 4, 3) := by decide +kernel
theorem dX0_holds_27 : decode cX0_holds 27 = .ok (.iconst 0, 1) := by decide +kernel
theorem dX0_holds_28 : decode cX0_holds 28 = .ok (.ireturn, 1) := by decide +kernel
theorem dX0_groundOf_0 : decode cX0_groundOf 0 = .ok (.aload_n 0, 1) := by decide +kernel
theorem dX0_groundOf_1 : decode cX0_groundOf 1 = .ok (.getfield 15, 3) := by decide +kernel
theorem dX0_groundOf_4 : decode cX0_groundOf 4 = .ok (.iload_n 1, 1) := by decide +kernel
theorem dX0_groundOf_5 : decode cX0_groundOf 5 = .ok (.invokestatic 32, 3) := by decide +kernel
theorem dX0_groundOf_8 : decode cX0_groundOf 8 = .ok (.ifCond .eq 5, 3) := by decide +kernel
theorem dX0_groundOf_11 : decode cX0_groundOf 11 = .ok (.iconst 0, 1) := by decide +kernel
theorem dX0_groundOf_12 : decode cX0_groundOf 12 = .ok (.ireturn, 1) := by decide +kernel
theorem dX0_groundOf_13 : decode cX0_groundOf 13 = .ok (.aload_n 0, 1) := by decide +kernel
theorem dX0_groundOf_14 : decode cX0_groundOf 14 = .ok (.getfield 19, 3) := by decide +kernel
theorem dX0_groundOf_17 : decode cX0_groundOf 17 = .ok (.iload_n 1, 1) := by decide +kernel
theorem dX0_groundOf_18 : decode cX0_groundOf 18 = .ok (.invokestatic 32, 3) := by decide +kernel
theorem dX0_groundOf_21 : decode cX0_groundOf 21 = .ok (.ifCond .eq 5, 3) := by decide +kernel
theorem dX0_groundOf_24 : decode cX0_groundOf 24 = .ok (.iconst 1, 1) := by decide +kernel
theorem dX0_groundOf_25 : decode cX0_groundOf 25 = .ok (.ireturn, 1) := by decide +kernel
theorem dX0_groundOf_26 : decode cX0_groundOf 26 = .ok (.aload_n 0, 1) := by decide +kernel
theorem dX0_groundOf_27 : decode cX0_groundOf 27 = .ok (.getfield 22, 3) := by decide +kernel
theorem dX0_groundOf_30 : decode cX0_groundOf 30 = .ok (.iload_n 1, 1) := by decide +kernel
theorem dX0_groundOf_31 : decode cX0_groundOf 31 = .ok (.invokestatic 32, 3) := by decide +kernel
theorem dX0_groundOf_34 : decode cX0_groundOf 34 = .ok (.ifCond .eq 7, 3) := by decide +kernel
theorem dX0_groundOf_37 : decode cX0_groundOf 37 = .ok (.iconst 2, 1) := by decide +kernel
theorem dX0_groundOf_38 : decode cX0_groundOf 38 = .ok (.goto 4, 3) := by decide +kernel
theorem dX0_groundOf_41 : decode cX0_groundOf 41 = .ok (.iconst 3, 1) := by decide +kernel
theorem dX0_groundOf_42 : decode cX0_groundOf 42 = .ok (.ireturn, 1) := by decide +kernel
theorem dX0_ownerOf_0 : decode cX0_ownerOf 0 = .ok (.iload_n 1, 1) := by decide +kernel
theorem dX0_ownerOf_1 : decode cX0_ownerOf 1 = .ok (.ifCond .lt 18, 3) := by decide +kernel
theorem dX0_ownerOf_4 : decode cX0_ownerOf 4 = .ok (.iload_n 1, 1) := by decide +kernel
theorem dX0_ownerOf_5 : decode cX0_ownerOf 5 = .ok (.bipush 36, 2) := by decide +kernel
theorem dX0_ownerOf_7 : decode cX0_ownerOf 7 = .ok (.if_icmp .ge 12, 3) := by decide +kernel
theorem dX0_ownerOf_10 : decode cX0_ownerOf 10 = .ok (.aload_n 0, 1) := by decide +kernel
theorem dX0_ownerOf_11 : decode cX0_ownerOf 11 = .ok (.getfield 9, 3) := by decide +kernel
theorem dX0_ownerOf_14 : decode cX0_ownerOf 14 = .ok (.iload_n 1, 1) := by decide +kernel
theorem dX0_ownerOf_15 : decode cX0_ownerOf 15 = .ok (.iaload, 1) := by decide +kernel
theorem dX0_ownerOf_16 : decode cX0_ownerOf 16 = .ok (.goto 4, 3) := by decide +kernel
theorem dX0_ownerOf_19 : decode cX0_ownerOf 19 = .ok (.iconst 0, 1) := by decide +kernel
theorem dX0_ownerOf_20 : decode cX0_ownerOf 20 = .ok (.ireturn, 1) := by decide +kernel
theorem dX0_nextBy_0 : decode cX0_nextBy 0 = .ok (.aload_n 0, 1) := by decide +kernel
theorem dX0_nextBy_1 : decode cX0_nextBy 1 = .ok (.getfield 29, 3) := by decide +kernel
theorem dX0_nextBy_4 : decode cX0_nextBy 4 = .ok (.iconst 1, 1) := by decide +kernel
theorem dX0_nextBy_5 : decode cX0_nextBy 5 = .ok (.if_icmp .lt 24, 3) := by decide +kernel
theorem dX0_nextBy_8 : decode cX0_nextBy 8 = .ok (.iload_n 1, 1) := by decide +kernel
theorem dX0_nextBy_9 : decode cX0_nextBy 9 = .ok (.ifCond .lt 20, 3) := by decide +kernel
theorem dX0_nextBy_12 : decode cX0_nextBy 12 = .ok (.iload_n 1, 1) := by decide +kernel
theorem dX0_nextBy_13 : decode cX0_nextBy 13 = .ok (.aload_n 0, 1) := by decide +kernel
theorem dX0_nextBy_14 : decode cX0_nextBy 14 = .ok (.getfield 25, 3) := by decide +kernel
theorem dX0_nextBy_17 : decode cX0_nextBy 17 = .ok (.aload_n 0, 1) := by decide +kernel
theorem dX0_nextBy_18 : decode cX0_nextBy 18 = .ok (.getfield 29, 3) := by decide +kernel
theorem dX0_nextBy_21 : decode cX0_nextBy 21 = .ok (.imul, 1) := by decide +kernel
theorem dX0_nextBy_22 : decode cX0_nextBy 22 = .ok (.if_icmp .ge 7, 3) := by decide +kernel
theorem dX0_nextBy_25 : decode cX0_nextBy 25 = .ok (.iload_n 2, 1) := by decide +kernel
theorem dX0_nextBy_26 : decode cX0_nextBy 26 = .ok (.ifCond .ge 6, 3) := by decide +kernel
theorem dX0_nextBy_29 : decode cX0_nextBy 29 = .ok (.bipush (-4), 2) := by decide +kernel
theorem dX0_nextBy_31 : decode cX0_nextBy 31 = .ok (.ireturn, 1) := by decide +kernel
theorem dX0_nextBy_32 : decode cX0_nextBy 32 = .ok (.iload_n 1, 1) := by decide +kernel
theorem dX0_nextBy_33 : decode cX0_nextBy 33 = .ok (.aload_n 0, 1) := by decide +kernel
theorem dX0_nextBy_34 : decode cX0_nextBy 34 = .ok (.getfield 29, 3) := by decide +kernel
theorem dX0_nextBy_37 : decode cX0_nextBy 37 = .ok (.irem, 1) := by decide +kernel
theorem dX0_nextBy_38 : decode cX0_nextBy 38 = .ok (.istore_n 3, 1) := by decide +kernel
theorem dX0_nextBy_39 : decode cX0_nextBy 39 = .ok (.iload_n 2, 1) := by decide +kernel
theorem dX0_nextBy_40 : decode cX0_nextBy 40 = .ok (.tableswitch 97 0 2 #[28, 48, 67], 28) := by decide +kernel
theorem dX0_nextBy_68 : decode cX0_nextBy 68 = .ok (.iload_n 1, 1) := by decide +kernel
theorem dX0_nextBy_69 : decode cX0_nextBy 69 = .ok (.aload_n 0, 1) := by decide +kernel
theorem dX0_nextBy_70 : decode cX0_nextBy 70 = .ok (.getfield 29, 3) := by decide +kernel
theorem dX0_nextBy_73 : decode cX0_nextBy 73 = .ok (.if_icmp .lt 12, 3) := by decide +kernel
theorem dX0_nextBy_76 : decode cX0_nextBy 76 = .ok (.iload_n 1, 1) := by decide +kernel
theorem dX0_nextBy_77 : decode cX0_nextBy 77 = .ok (.aload_n 0, 1) := by decide +kernel
theorem dX0_nextBy_78 : decode cX0_nextBy 78 = .ok (.getfield 29, 3) := by decide +kernel
theorem dX0_nextBy_81 : decode cX0_nextBy 81 = .ok (.isub, 1) := by decide +kernel
theorem dX0_nextBy_82 : decode cX0_nextBy 82 = .ok (.goto 5, 3) := by decide +kernel
theorem dX0_nextBy_85 : decode cX0_nextBy 85 = .ok (.bipush (-4), 2) := by decide +kernel
theorem dX0_nextBy_87 : decode cX0_nextBy 87 = .ok (.ireturn, 1) := by decide +kernel
theorem dX0_nextBy_88 : decode cX0_nextBy 88 = .ok (.iload_n 3, 1) := by decide +kernel
theorem dX0_nextBy_89 : decode cX0_nextBy 89 = .ok (.iconst 1, 1) := by decide +kernel
theorem dX0_nextBy_90 : decode cX0_nextBy 90 = .ok (.iadd, 1) := by decide +kernel
theorem dX0_nextBy_91 : decode cX0_nextBy 91 = .ok (.aload_n 0, 1) := by decide +kernel
theorem dX0_nextBy_92 : decode cX0_nextBy 92 = .ok (.getfield 29, 3) := by decide +kernel
theorem dX0_nextBy_95 : decode cX0_nextBy 95 = .ok (.if_icmp .ge 9, 3) := by decide +kernel
theorem dX0_nextBy_98 : decode cX0_nextBy 98 = .ok (.iload_n 1, 1) := by decide +kernel
theorem dX0_nextBy_99 : decode cX0_nextBy 99 = .ok (.iconst 1, 1) := by decide +kernel
theorem dX0_nextBy_100 : decode cX0_nextBy 100 = .ok (.iadd, 1) := by decide +kernel
theorem dX0_nextBy_101 : decode cX0_nextBy 101 = .ok (.goto 5, 3) := by decide +kernel
theorem dX0_nextBy_104 : decode cX0_nextBy 104 = .ok (.bipush (-4), 2) := by decide +kernel
theorem dX0_nextBy_106 : decode cX0_nextBy 106 = .ok (.ireturn, 1) := by decide +kernel
theorem dX0_nextBy_107 : decode cX0_nextBy 107 = .ok (.iload_n 1, 1) := by decide +kernel
theorem dX0_nextBy_108 : decode cX0_nextBy 108 = .ok (.aload_n 0, 1) := by decide +kernel
theorem dX0_nextBy_109 : decode cX0_nextBy 109 = .ok (.getfield 29, 3) := by decide +kernel
theorem dX0_nextBy_112 : decode cX0_nextBy 112 = .ok (.iadd, 1) := by decide +kernel
theorem dX0_nextBy_113 : decode cX0_nextBy 113 = .ok (.aload_n 0, 1) := by decide +kernel
theorem dX0_nextBy_114 : decode cX0_nextBy 114 = .ok (.getfield 25, 3) := by decide +kernel
theorem dX0_nextBy_117 : decode cX0_nextBy 117 = .ok (.aload_n 0, 1) := by decide +kernel
theorem dX0_nextBy_118 : decode cX0_nextBy 118 = .ok (.getfield 29, 3) := by decide +kernel
theorem dX0_nextBy_121 : decode cX0_nextBy 121 = .ok (.imul, 1) := by decide +kernel
theorem dX0_nextBy_122 : decode cX0_nextBy 122 = .ok (.if_icmp .ge 12, 3) := by decide +kernel
theorem dX0_nextBy_125 : decode cX0_nextBy 125 = .ok (.iload_n 1, 1) := by decide +kernel
theorem dX0_nextBy_126 : decode cX0_nextBy 126 = .ok (.aload_n 0, 1) := by decide +kernel
theorem dX0_nextBy_127 : decode cX0_nextBy 127 = .ok (.getfield 29, 3) := by decide +kernel
theorem dX0_nextBy_130 : decode cX0_nextBy 130 = .ok (.iadd, 1) := by decide +kernel
theorem dX0_nextBy_131 : decode cX0_nextBy 131 = .ok (.goto 5, 3) := by decide +kernel
theorem dX0_nextBy_134 : decode cX0_nextBy 134 = .ok (.bipush (-4), 2) := by decide +kernel
theorem dX0_nextBy_136 : decode cX0_nextBy 136 = .ok (.ireturn, 1) := by decide +kernel
theorem dX0_nextBy_137 : decode cX0_nextBy 137 = .ok (.iload_n 3, 1) := by decide +kernel
theorem dX0_nextBy_138 : decode cX0_nextBy 138 = .ok (.ifCond .le 9, 3) := by decide +kernel
theorem dX0_nextBy_141 : decode cX0_nextBy 141 = .ok (.iload_n 1, 1) := by decide +kernel
theorem dX0_nextBy_142 : decode cX0_nextBy 142 = .ok (.iconst 1, 1) := by decide +kernel
theorem dX0_nextBy_143 : decode cX0_nextBy 143 = .ok (.isub, 1) := by decide +kernel
theorem dX0_nextBy_144 : decode cX0_nextBy 144 = .ok (.goto 5, 3) := by decide +kernel
theorem dX0_nextBy_147 : decode cX0_nextBy 147 = .ok (.bipush (-4), 2) := by decide +kernel
theorem dX0_nextBy_149 : decode cX0_nextBy 149 = .ok (.ireturn, 1) := by decide +kernel
theorem dX0_isBesideOne_0 : decode cX0_isBesideOne 0 = .ok (.iconst 0, 1) := by decide +kernel
theorem dX0_isBesideOne_1 : decode cX0_isBesideOne 1 = .ok (.istore 4, 2) := by decide +kernel
theorem dX0_isBesideOne_3 : decode cX0_isBesideOne 3 = .ok (.iload 4, 2) := by decide +kernel
theorem dX0_isBesideOne_5 : decode cX0_isBesideOne 5 = .ok (.iconst 4, 1) := by decide +kernel
theorem dX0_isBesideOne_6 : decode cX0_isBesideOne 6 = .ok (.if_icmp .ge 25, 3) := by decide +kernel
theorem dX0_isBesideOne_9 : decode cX0_isBesideOne 9 = .ok (.lload_n 2, 1) := by decide +kernel
theorem dX0_isBesideOne_10 : decode cX0_isBesideOne 10 = .ok (.aload_n 0, 1) := by decide +kernel
theorem dX0_isBesideOne_11 : decode cX0_isBesideOne 11 = .ok (.iload_n 1, 1) := by decide +kernel
theorem dX0_isBesideOne_12 : decode cX0_isBesideOne 12 = .ok (.iload 4, 2) := by decide +kernel
theorem dX0_isBesideOne_14 : decode cX0_isBesideOne 14 = .ok (.invokevirtual 36, 3) := by decide +kernel
theorem dX0_isBesideOne_17 : decode cX0_isBesideOne 17 = .ok (.invokestatic 32, 3) := by decide +kernel
theorem dX0_isBesideOne_20 : decode cX0_isBesideOne 20 = .ok (.ifCond .eq 5, 3) := by decide +kernel
theorem dX0_isBesideOne_23 : decode cX0_isBesideOne 23 = .ok (.iconst 1, 1) := by decide +kernel
theorem dX0_isBesideOne_24 : decode cX0_isBesideOne 24 = .ok (.ireturn, 1) := by decide +kernel
theorem dX0_isBesideOne_25 : decode cX0_isBesideOne 25 = .ok (.iinc 4 1, 3) := by decide +kernel
theorem dX0_isBesideOne_28 : decode cX0_isBesideOne 28 = .ok (.goto (-25), 3) := by decide +kernel
theorem dX0_isBesideOne_31 : decode cX0_isBesideOne 31 = .ok (.iconst 0, 1) := by decide +kernel
theorem dX0_isBesideOne_32 : decode cX0_isBesideOne 32 = .ok (.ireturn, 1) := by decide +kernel
theorem dX1_init_0 : decode cX1_init 0 = .ok (.aload_n 0, 1) := by decide +kernel
theorem dX1_init_1 : decode cX1_init 1 = .ok (.invokespecial 3, 3) := by decide +kernel
theorem dX1_init_4 : decode cX1_init 4 = .ok (.aload_n 0, 1) := by decide +kernel
theorem dX1_init_5 : decode cX1_init 5 = .ok (.iconst 3, 1) := by decide +kernel
theorem dX1_init_6 : decode cX1_init 6 = .ok (.anewarray 9, 3) := by decide +kernel
theorem dX1_init_9 : decode cX1_init 9 = .ok (.putfield 11, 3) := by decide +kernel
theorem dX1_init_12 : decode cX1_init 12 = .ok (.aload_n 0, 1) := by decide +kernel
theorem dX1_init_13 : decode cX1_init 13 = .ok (.iconst 4, 1) := by decide +kernel
theorem dX1_init_14 : decode cX1_init 14 = .ok (.newarray .int, 2) := by decide +kernel
theorem dX1_init_16 : decode cX1_init 16 = .ok (.putfield 17, 3) := by decide +kernel
theorem dX1_init_19 : decode cX1_init 19 = .ok (.aload_n 0, 1) := by decide +kernel
theorem dX1_init_20 : decode cX1_init 20 = .ok (.aload_n 1, 1) := by decide +kernel
theorem dX1_init_21 : decode cX1_init 21 = .ok (.putfield 21, 3) := by decide +kernel
theorem dX1_init_24 : decode cX1_init 24 = .ok (.iconst 0, 1) := by decide +kernel
theorem dX1_init_25 : decode cX1_init 25 = .ok (.istore_n 2, 1) := by decide +kernel
theorem dX1_init_26 : decode cX1_init 26 = .ok (.iload_n 2, 1) := by decide +kernel
theorem dX1_init_27 : decode cX1_init 27 = .ok (.iconst 3, 1) := by decide +kernel
theorem dX1_init_28 : decode cX1_init 28 = .ok (.if_icmp .ge 22, 3) := by decide +kernel
theorem dX1_init_31 : decode cX1_init 31 = .ok (.aload_n 0, 1) := by decide +kernel
theorem dX1_init_32 : decode cX1_init 32 = .ok (.getfield 11, 3) := by decide +kernel
theorem dX1_init_35 : decode cX1_init 35 = .ok (.iload_n 2, 1) := by decide +kernel
theorem dX1_init_36 : decode cX1_init 36 = .ok (.new 9, 3) := by decide +kernel
theorem dX1_init_39 : decode cX1_init 39 = .ok (.dup, 1) := by decide +kernel
theorem dX1_init_40 : decode cX1_init 40 = .ok (.invokespecial 25, 3) := by decide +kernel
theorem dX1_init_43 : decode cX1_init 43 = .ok (.aastore, 1) := by decide +kernel
theorem dX1_init_44 : decode cX1_init 44 = .ok (.iinc 2 1, 3) := by decide +kernel
theorem dX1_init_47 : decode cX1_init 47 = .ok (.goto (-21), 3) := by decide +kernel
theorem dX1_init_50 : decode cX1_init 50 = .ok (.return_, 1) := by decide +kernel
theorem dX1_clear_0 : decode cX1_clear 0 = .ok (.aload_n 0, 1) := by decide +kernel
theorem dX1_clear_1 : decode cX1_clear 1 = .ok (.iconst 0, 1) := by decide +kernel
theorem dX1_clear_2 : decode cX1_clear 2 = .ok (.putfield 26, 3) := by decide +kernel
theorem dX1_clear_5 : decode cX1_clear 5 = .ok (.aload_n 0, 1) := by decide +kernel
theorem dX1_clear_6 : decode cX1_clear 6 = .ok (.iconst 0, 1) := by decide +kernel
theorem dX1_clear_7 : decode cX1_clear 7 = .ok (.putfield 30, 3) := by decide +kernel
theorem dX1_clear_10 : decode cX1_clear 10 = .ok (.aload_n 0, 1) := by decide +kernel
theorem dX1_clear_11 : decode cX1_clear 11 = .ok (.lconst 0, 1) := by decide +kernel
theorem dX1_clear_12 : decode cX1_clear 12 = .ok (.putfield 33, 3) := by decide +kernel
theorem dX1_clear_15 : decode cX1_clear 15 = .ok (.aload_n 0, 1) := by decide +kernel
theorem dX1_clear_16 : decode cX1_clear 16 = .ok (.lconst 0, 1) := by decide +kernel
theorem dX1_clear_17 : decode cX1_clear 17 = .ok (.putfield 37, 3) := by decide +kernel
theorem dX1_clear_20 : decode cX1_clear 20 = .ok (.aload_n 0, 1) := by decide +kernel
theorem dX1_clear_21 : decode cX1_clear 21 = .ok (.lconst 0, 1) := by decide +kernel
theorem dX1_clear_22 : decode cX1_clear 22 = .ok (.putfield 40, 3) := by decide +kernel
theorem dX1_clear_25 : decode cX1_clear 25 = .ok (.aload_n 0, 1) := by decide +kernel
theorem dX1_clear_26 : decode cX1_clear 26 = .ok (.lconst 0, 1) := by decide +kernel
theorem dX1_clear_27 : decode cX1_clear 27 = .ok (.putfield 43, 3) := by decide +kernel
theorem dX1_clear_30 : decode cX1_clear 30 = .ok (.iconst 0, 1) := by decide +kernel
theorem dX1_clear_31 : decode cX1_clear 31 = .ok (.istore_n 1, 1) := by decide +kernel
theorem dX1_clear_32 : decode cX1_clear 32 = .ok (.iload_n 1, 1) := by decide +kernel
theorem dX1_clear_33 : decode cX1_clear 33 = .ok (.iconst 4, 1) := by decide +kernel
theorem dX1_clear_34 : decode cX1_clear 34 = .ok (.if_icmp .ge 16, 3) := by decide +kernel
theorem dX1_clear_37 : decode cX1_clear 37 = .ok (.aload_n 0, 1) := by decide +kernel
theorem dX1_clear_38 : decode cX1_clear 38 = .ok (.getfield 17, 3) := by decide +kernel
theorem dX1_clear_41 : decode cX1_clear 41 = .ok (.iload_n 1, 1) := by decide +kernel
theorem dX1_clear_42 : decode cX1_clear 42 = .ok (.iconst 0, 1) := by decide +kernel
theorem dX1_clear_43 : decode cX1_clear 43 = .ok (.iastore, 1) := by decide +kernel
theorem dX1_clear_44 : decode cX1_clear 44 = .ok (.iinc 1 1, 3) := by decide +kernel
theorem dX1_clear_47 : decode cX1_clear 47 = .ok (.goto (-15), 3) := by decide +kernel
theorem dX1_clear_50 : decode cX1_clear 50 = .ok (.return_, 1) := by decide +kernel
theorem dX1_copyFrom_0 : decode cX1_copyFrom 0 = .ok (.aload_n 0, 1) := by decide +kernel
theorem dX1_copyFrom_1 : decode cX1_copyFrom 1 = .ok (.aload_n 1, 1) := by decide +kernel
theorem dX1_copyFrom_2 : decode cX1_copyFrom 2 = .ok (.getfield 26, 3) := by decide +kernel
theorem dX1_copyFrom_5 : decode cX1_copyFrom 5 = .ok (.putfield 26, 3) := by decide +kernel
theorem dX1_copyFrom_8 : decode cX1_copyFrom 8 = .ok (.aload_n 0, 1) := by decide +kernel
theorem dX1_copyFrom_9 : decode cX1_copyFrom 9 = .ok (.aload_n 1, 1) := by decide +kernel
theorem dX1_copyFrom_10 : decode cX1_copyFrom 10 = .ok (.getfield 30, 3) := by decide +kernel
theorem dX1_copyFrom_13 : decode cX1_copyFrom 13 = .ok (.putfield 30, 3) := by decide +kernel
theorem dX1_copyFrom_16 : decode cX1_copyFrom 16 = .ok (.aload_n 0, 1) := by decide +kernel
theorem dX1_copyFrom_17 : decode cX1_copyFrom 17 = .ok (.aload_n 1, 1) := by decide +kernel
theorem dX1_copyFrom_18 : decode cX1_copyFrom 18 = .ok (.getfield 33, 3) := by decide +kernel
theorem dX1_copyFrom_21 : decode cX1_copyFrom 21 = .ok (.putfield 33, 3) := by decide +kernel
theorem dX1_copyFrom_24 : decode cX1_copyFrom 24 = .ok (.aload_n 0, 1) := by decide +kernel
theorem dX1_copyFrom_25 : decode cX1_copyFrom 25 = .ok (.aload_n 1, 1) := by decide +kernel
theorem dX1_copyFrom_26 : decode cX1_copyFrom 26 = .ok (.getfield 37, 3) := by decide +kernel
theorem dX1_copyFrom_29 : decode cX1_copyFrom 29 = .ok (.putfield 37, 3) := by decide +kernel
theorem dX1_copyFrom_32 : decode cX1_copyFrom 32 = .ok (.aload_n 0, 1) := by decide +kernel
theorem dX1_copyFrom_33 : decode cX1_copyFrom 33 = .ok (.aload_n 1, 1) := by decide +kernel
theorem dX1_copyFrom_34 : decode cX1_copyFrom 34 = .ok (.getfield 40, 3) := by decide +kernel
theorem dX1_copyFrom_37 : decode cX1_copyFrom 37 = .ok (.putfield 40, 3) := by decide +kernel
theorem dX1_copyFrom_40 : decode cX1_copyFrom 40 = .ok (.aload_n 0, 1) := by decide +kernel
theorem dX1_copyFrom_41 : decode cX1_copyFrom 41 = .ok (.lconst 0, 1) := by decide +kernel
theorem dX1_copyFrom_42 : decode cX1_copyFrom 42 = .ok (.putfield 43, 3) := by decide +kernel
theorem dX1_copyFrom_45 : decode cX1_copyFrom 45 = .ok (.iconst 0, 1) := by decide +kernel
theorem dX1_copyFrom_46 : decode cX1_copyFrom 46 = .ok (.istore_n 2, 1) := by decide +kernel
theorem dX1_copyFrom_47 : decode cX1_copyFrom 47 = .ok (.iload_n 2, 1) := by decide +kernel
theorem dX1_copyFrom_48 : decode cX1_copyFrom 48 = .ok (.iconst 4, 1) := by decide +kernel
theorem dX1_copyFrom_49 : decode cX1_copyFrom 49 = .ok (.if_icmp .ge 21, 3) := by decide +kernel
theorem dX1_copyFrom_52 : decode cX1_copyFrom 52 = .ok (.aload_n 0, 1) := by decide +kernel
theorem dX1_copyFrom_53 : decode cX1_copyFrom 53 = .ok (.getfield 17, 3) := by decide +kernel
theorem dX1_copyFrom_56 : decode cX1_copyFrom 56 = .ok (.iload_n 2, 1) := by decide +kernel
theorem dX1_copyFrom_57 : decode cX1_copyFrom 57 = .ok (.aload_n 1, 1) := by decide +kernel
theorem dX1_copyFrom_58 : decode cX1_copyFrom 58 = .ok (.getfield 17, 3) := by decide +kernel
theorem dX1_copyFrom_61 : decode cX1_copyFrom 61 = .ok (.iload_n 2, 1) := by decide +kernel
theorem dX1_copyFrom_62 : decode cX1_copyFrom 62 = .ok (.iaload, 1) := by decide +kernel
theorem dX1_copyFrom_63 : decode cX1_copyFrom 63 = .ok (.iastore, 1) := by decide +kernel
theorem dX1_copyFrom_64 : decode cX1_copyFrom 64 = .ok (.iinc 2 1, 3) := by decide +kernel
theorem dX1_copyFrom_67 : decode cX1_copyFrom 67 = .ok (.goto (-20), 3) := by decide +kernel
theorem dX1_copyFrom_70 : decode cX1_copyFrom 70 = .ok (.iconst 0, 1) := by decide +kernel
theorem dX1_copyFrom_71 : decode cX1_copyFrom 71 = .ok (.istore_n 2, 1) := by decide +kernel
theorem dX1_copyFrom_72 : decode cX1_copyFrom 72 = .ok (.iload_n 2, 1) := by decide +kernel
theorem dX1_copyFrom_73 : decode cX1_copyFrom 73 = .ok (.aload_n 0, 1) := by decide +kernel
theorem dX1_copyFrom_74 : decode cX1_copyFrom 74 = .ok (.getfield 26, 3) := by decide +kernel
theorem dX1_copyFrom_77 : decode cX1_copyFrom 77 = .ok (.if_icmp .ge 29, 3) := by decide +kernel
theorem dX1_copyFrom_80 : decode cX1_copyFrom 80 = .ok (.iload_n 2, 1) := by decide +kernel
theorem dX1_copyFrom_81 : decode cX1_copyFrom 81 = .ok (.iconst 3, 1) := by decide +kernel
theorem dX1_copyFrom_82 : decode cX1_copyFrom 82 = .ok (.if_icmp .ge 24, 3) := by decide +kernel
theorem dX1_copyFrom_85 : decode cX1_copyFrom 85 = .ok (.aload_n 0, 1) := by decide +kernel
theorem dX1_copyFrom_86 : decode cX1_copyFrom 86 = .ok (.getfield 11, 3) := by decide +kernel
theorem dX1_copyFrom_89 : decode cX1_copyFrom 89 = .ok (.iload_n 2, 1) := by decide +kernel
theorem dX1_copyFrom_90 : decode cX1_copyFrom 90 = .ok (.aaload, 1) := by decide +kernel
theorem dX1_copyFrom_91 : decode cX1_copyFrom 91 = .ok (.aload_n 1, 1) := by decide +kernel
theorem dX1_copyFrom_92 : decode cX1_copyFrom 92 = .ok (.getfield 11, 3) := by decide +kernel
theorem dX1_copyFrom_95 : decode cX1_copyFrom 95 = .ok (.iload_n 2, 1) := by decide +kernel
theorem dX1_copyFrom_96 : decode cX1_copyFrom 96 = .ok (.aaload, 1) := by decide +kernel
theorem dX1_copyFrom_97 : decode cX1_copyFrom 97 = .ok (.invokevirtual 46, 3) := by decide +kernel
theorem dX1_copyFrom_100 : decode cX1_copyFrom 100 = .ok (.iinc 2 1, 3) := by decide +kernel
theorem dX1_copyFrom_103 : decode cX1_copyFrom 103 = .ok (.goto (-31), 3) := by decide +kernel
theorem dX1_copyFrom_106 : decode cX1_copyFrom 106 = .ok (.return_, 1) := by decide +kernel
theorem dX1_holds_0 : decode cX1_holds 0 = .ok (.iload_n 1, 1) := by decide +kernel
theorem dX1_holds_1 : decode cX1_holds 1 = .ok (.ifCond .lt 20, 3) := by decide +kernel
theorem dX1_holds_4 : decode cX1_holds 4 = .ok (.iload_n 1, 1) := by decide +kernel
theorem dX1_holds_5 : decode cX1_holds 5 = .ok (.aload_n 0, 1) := by decide +kernel
theorem dX1_holds_6 : decode cX1_holds 6 = .ok (.getfield 26, 3) := by decide +kernel
theorem dX1_holds_9 : decode cX1_holds 9 = .ok (.if_icmp .ge 12, 3) := by decide +kernel
theorem dX1_holds_12 : decode cX1_holds 12 = .ok (.iload_n 1, 1) := by decide +kernel
theorem dX1_holds_13 : decode cX1_holds 13 = .ok (.iconst 3, 1) := by decide +kernel
theorem dX1_holds_14 : decode cX1_holds 14 = .ok (.if_icmp .ge 7, 3) := by decide +kernel
theorem dX1_holds_17 : decode cX1_holds 17 = .ok (.iconst 1, 1) := by decide +kernel
theorem dX1_holds_18 : decode cX1_holds 18 = .ok (.goto 4, 3) := by decide +kernel
theorem dX1_holds_21 : decode cX1_holds 21 = .ok (.iconst 0, 1) := by decide +kernel
theorem dX1_holds_22 : decode cX1_holds 22 = .ok (.ireturn, 1) := by decide +kernel
theorem dX1_standsIn_0 : decode cX1_standsIn 0 = .ok (.aload_n 0, 1) := by decide +kernel
theorem dX1_standsIn_1 : decode cX1_standsIn 1 = .ok (.getfield 37, 3) := by decide +kernel
theorem dX1_standsIn_4 : decode cX1_standsIn 4 = .ok (.iload_n 1, 1) := by decide +kernel
theorem dX1_standsIn_5 : decode cX1_standsIn 5 = .ok (.invokestatic 50, 3) := by decide +kernel
theorem dX1_standsIn_8 : decode cX1_standsIn 8 = .ok (.ifCond .eq 6, 3) := by decide +kernel
theorem dX1_standsIn_11 : decode cX1_standsIn 11 = .ok (.bipush 9, 2) := by decide +kernel
theorem dX1_standsIn_13 : decode cX1_standsIn 13 = .ok (.ireturn, 1) := by decide +kernel
theorem dX1_standsIn_14 : decode cX1_standsIn 14 = .ok (.iconst 0, 1) := by decide +kernel
theorem dX1_standsIn_15 : decode cX1_standsIn 15 = .ok (.istore_n 2, 1) := by decide +kernel
theorem dX1_standsIn_16 : decode cX1_standsIn 16 = .ok (.iload_n 2, 1) := by decide +kernel
theorem dX1_standsIn_17 : decode cX1_standsIn 17 = .ok (.aload_n 0, 1) := by decide +kernel
theorem dX1_standsIn_18 : decode cX1_standsIn 18 = .ok (.getfield 26, 3) := by decide +kernel
theorem dX1_standsIn_21 : decode cX1_standsIn 21 = .ok (.if_icmp .ge 32, 3) := by decide +kernel
theorem dX1_standsIn_24 : decode cX1_standsIn 24 = .ok (.iload_n 2, 1) := by decide +kernel
theorem dX1_standsIn_25 : decode cX1_standsIn 25 = .ok (.iconst 3, 1) := by decide +kernel
theorem dX1_standsIn_26 : decode cX1_standsIn 26 = .ok (.if_icmp .ge 27, 3) := by decide +kernel
theorem dX1_standsIn_29 : decode cX1_standsIn 29 = .ok (.aload_n 0, 1) := by decide +kernel
theorem dX1_standsIn_30 : decode cX1_standsIn 30 = .ok (.getfield 11, 3) := by decide +kernel
theorem dX1_standsIn_33 : decode cX1_standsIn 33 = .ok (.iload_n 2, 1) := by decide +kernel
theorem dX1_standsIn_34 : decode cX1_standsIn 34 = .ok (.aaload, 1) := by decide +kernel
theorem dX1_standsIn_35 : decode cX1_standsIn 35 = .ok (.invokevirtual 54, 3) := by decide +kernel
theorem dX1_standsIn_38 : decode cX1_standsIn 38 = .ok (.iload_n 1, 1) := by decide +kernel
theorem dX1_standsIn_39 : decode cX1_standsIn 39 = .ok (.invokestatic 50, 3) := by decide +kernel
theorem dX1_standsIn_42 : decode cX1_standsIn 42 = .ok (.ifCond .eq 5, 3) := by decide +kernel
theorem dX1_standsIn_45 : decode cX1_standsIn 45 = .ok (.iload_n 2, 1) := by decide +kernel
theorem dX1_standsIn_46 : decode cX1_standsIn 46 = .ok (.ireturn, 1) := by decide +kernel
theorem dX1_standsIn_47 : decode cX1_standsIn 47 = .ok (.iinc 2 1, 3) := by decide +kernel
theorem dX1_standsIn_50 : decode cX1_standsIn 50 = .ok (.goto (-34), 3) := by decide +kernel
theorem dX1_standsIn_53 : decode cX1_standsIn 53 = .ok (.bipush (-4), 2) := by decide +kernel
theorem dX1_standsIn_55 : decode cX1_standsIn 55 = .ok (.ireturn, 1) := by decide +kernel
theorem dX1_canDig_0 : decode cX1_canDig 0 = .ok (.aload_n 0, 1) := by decide +kernel
theorem dX1_canDig_1 : decode cX1_canDig 1 = .ok (.getfield 21, 3) := by decide +kernel
theorem dX1_canDig_4 : decode cX1_canDig 4 = .ok (.getfield 58, 3) := by decide +kernel
theorem dX1_canDig_7 : decode cX1_canDig 7 = .ok (.aload_n 0, 1) := by decide +kernel
theorem dX1_canDig_8 : decode cX1_canDig 8 = .ok (.getfield 33, 3) := by decide +kernel
theorem dX1_canDig_11 : decode cX1_canDig 11 = .ok (.ldc2_w 63, 3) := by decide +kernel
theorem dX1_canDig_14 : decode cX1_canDig 14 = .ok (.lxor, 1) := by decide +kernel
theorem dX1_canDig_15 : decode cX1_canDig 15 = .ok (.land, 1) := by decide +kernel
theorem dX1_canDig_16 : decode cX1_canDig 16 = .ok (.aload_n 0, 1) := by decide +kernel
theorem dX1_canDig_17 : decode cX1_canDig 17 = .ok (.getfield 40, 3) := by decide +kernel
theorem dX1_canDig_20 : decode cX1_canDig 20 = .ok (.ldc2_w 63, 3) := by decide +kernel
theorem dX1_canDig_23 : decode cX1_canDig 23 = .ok (.lxor, 1) := by decide +kernel
theorem dX1_canDig_24 : decode cX1_canDig 24 = .ok (.land, 1) := by decide +kernel
theorem dX1_canDig_25 : decode cX1_canDig 25 = .ok (.iload_n 1, 1) := by decide +kernel
theorem dX1_canDig_26 : decode cX1_canDig 26 = .ok (.invokestatic 50, 3) := by decide +kernel
theorem dX1_canDig_29 : decode cX1_canDig 29 = .ok (.ireturn, 1) := by decide +kernel
theorem dX1_digIn_0 : decode cX1_digIn 0 = .ok (.aload_n 0, 1) := by decide +kernel
theorem dX1_digIn_1 : decode cX1_digIn 1 = .ok (.iload_n 1, 1) := by decide +kernel
theorem dX1_digIn_2 : decode cX1_digIn 2 = .ok (.invokevirtual 65, 3) := by decide +kernel
theorem dX1_digIn_5 : decode cX1_digIn 5 = .ok (.ifCond .eq 16, 3) := by decide +kernel
theorem dX1_digIn_8 : decode cX1_digIn 8 = .ok (.aload_n 0, 1) := by decide +kernel
theorem dX1_digIn_9 : decode cX1_digIn 9 = .ok (.dup, 1) := by decide +kernel
theorem dX1_digIn_10 : decode cX1_digIn 10 = .ok (.getfield 33, 3) := by decide +kernel
theorem dX1_digIn_13 : decode cX1_digIn 13 = .ok (.iload_n 1, 1) := by decide +kernel
theorem dX1_digIn_14 : decode cX1_digIn 14 = .ok (.invokestatic 69, 3) := by decide +kernel
theorem dX1_digIn_17 : decode cX1_digIn 17 = .ok (.lor, 1) := by decide +kernel
theorem dX1_digIn_18 : decode cX1_digIn 18 = .ok (.putfield 33, 3) := by decide +kernel
theorem dX1_digIn_21 : decode cX1_digIn 21 = .ok (.return_, 1) := by decide +kernel
theorem dX1_fillIn_0 : decode cX1_fillIn 0 = .ok (.aload_n 0, 1) := by decide +kernel
theorem dX1_fillIn_1 : decode cX1_fillIn 1 = .ok (.dup, 1) := by decide +kernel
theorem dX1_fillIn_2 : decode cX1_fillIn 2 = .ok (.getfield 33, 3) := by decide +kernel
theorem dX1_fillIn_5 : decode cX1_fillIn 5 = .ok (.iload_n 1, 1) := by decide +kernel
theorem dX1_fillIn_6 : decode cX1_fillIn 6 = .ok (.invokestatic 69, 3) := by decide +kernel
theorem dX1_fillIn_9 : decode cX1_fillIn 9 = .ok (.ldc2_w 63, 3) := by decide +kernel
theorem dX1_fillIn_12 : decode cX1_fillIn 12 = .ok (.lxor, 1) := by decide +kernel
theorem dX1_fillIn_13 : decode cX1_fillIn 13 = .ok (.land, 1) := by decide +kernel
theorem dX1_fillIn_14 : decode cX1_fillIn 14 = .ok (.putfield 33, 3) := by decide +kernel
theorem dX1_fillIn_17 : decode cX1_fillIn 17 = .ok (.return_, 1) := by decide +kernel
theorem dX1_leaveLast_0 : decode cX1_leaveLast 0 = .ok (.aload_n 1, 1) := by decide +kernel
theorem dX1_leaveLast_1 : decode cX1_leaveLast 1 = .ok (.getfield 73, 3) := by decide +kernel
theorem dX1_leaveLast_4 : decode cX1_leaveLast 4 = .ok (.iconst 2, 1) := by decide +kernel
theorem dX1_leaveLast_5 : decode cX1_leaveLast 5 = .ok (.if_icmp .ge 6, 3) := by decide +kernel
theorem dX1_leaveLast_8 : decode cX1_leaveLast 8 = .ok (.bipush (-4), 2) := by decide +kernel
theorem dX1_leaveLast_10 : decode cX1_leaveLast 10 = .ok (.ireturn, 1) := by decide +kernel
theorem dX1_leaveLast_11 : decode cX1_leaveLast 11 = .ok (.aload_n 1, 1) := by decide +kernel
theorem dX1_leaveLast_12 : decode cX1_leaveLast 12 = .ok (.aload_n 1, 1) := by decide +kernel
theorem dX1_leaveLast_13 : decode cX1_leaveLast 13 = .ok (.getfield 73, 3) := by decide +kernel
theorem dX1_leaveLast_16 : decode cX1_leaveLast 16 = .ok (.iconst 1, 1) := by decide +kernel
theorem dX1_leaveLast_17 : decode cX1_leaveLast 17 = .ok (.isub, 1) := by decide +kernel
theorem dX1_leaveLast_18 : decode cX1_leaveLast 18 = .ok (.invokevirtual 76, 3) := by decide +kernel
theorem dX1_leaveLast_21 : decode cX1_leaveLast 21 = .ok (.istore_n 2, 1) := by decide +kernel
theorem dX1_leaveLast_22 : decode cX1_leaveLast 22 = .ok (.aload_n 1, 1) := by decide +kernel
theorem dX1_leaveLast_23 : decode cX1_leaveLast 23 = .ok (.dup, 1) := by decide +kernel
theorem dX1_leaveLast_24 : decode cX1_leaveLast 24 = .ok (.getfield 73, 3) := by decide +kernel
theorem dX1_leaveLast_27 : decode cX1_leaveLast 27 = .ok (.iconst 1, 1) := by decide +kernel
theorem dX1_leaveLast_28 : decode cX1_leaveLast 28 = .ok (.isub, 1) := by decide +kernel
theorem dX1_leaveLast_29 : decode cX1_leaveLast 29 = .ok (.putfield 73, 3) := by decide +kernel
theorem dX1_leaveLast_32 : decode cX1_leaveLast 32 = .ok (.aload_n 0, 1) := by decide +kernel
theorem dX1_leaveLast_33 : decode cX1_leaveLast 33 = .ok (.dup, 1) := by decide +kernel
theorem dX1_leaveLast_34 : decode cX1_leaveLast 34 = .ok (.getfield 37, 3) := by decide +kernel
theorem dX1_leaveLast_37 : decode cX1_leaveLast 37 = .ok (.iload_n 2, 1) := by decide +kernel
theorem dX1_leaveLast_38 : decode cX1_leaveLast 38 = .ok (.invokestatic 69, 3) := by decide +kernel
theorem dX1_leaveLast_41 : decode cX1_leaveLast 41 = .ok (.lor, 1) := by decide +kernel
theorem dX1_leaveLast_42 : decode cX1_leaveLast 42 = .ok (.putfield 37, 3) := by decide +kernel
theorem dX1_leaveLast_45 : decode cX1_leaveLast 45 = .ok (.iload_n 2, 1) := by decide +kernel
theorem dX1_leaveLast_46 : decode cX1_leaveLast 46 = .ok (.ireturn, 1) := by decide +kernel
theorem dX1_wayOf_0 : decode cX1_wayOf 0 = .ok (.aload_n 1, 1) := by decide +kernel
theorem dX1_wayOf_1 : decode cX1_wayOf 1 = .ok (.getfield 80, 3) := by decide +kernel
theorem dX1_wayOf_4 : decode cX1_wayOf 4 = .ok (.iconst 2, 1) := by decide +kernel
theorem dX1_wayOf_5 : decode cX1_wayOf 5 = .ok (.if_icmp .ne 15, 3) := by decide +kernel
theorem dX1_wayOf_8 : decode cX1_wayOf 8 = .ok (.aload_n 0, 1) := by decide +kernel
theorem dX1_wayOf_9 : decode cX1_wayOf 9 = .ok (.getfield 30, 3) := by decide +kernel
theorem dX1_wayOf_12 : decode cX1_wayOf 12 = .ok (.iconst 2, 1) := by decide +kernel
theorem dX1_wayOf_13 : decode cX1_wayOf 13 = .ok (.irem, 1) := by decide +kernel
theorem dX1_wayOf_14 : decode cX1_wayOf 14 = .ok (.ifCond .eq 6, 3) := by decide +kernel
theorem dX1_wayOf_17 : decode cX1_wayOf 17 = .ok (.bipush (-4), 2) := by decide +kernel
theorem dX1_wayOf_19 : decode cX1_wayOf 19 = .ok (.ireturn, 1) := by decide +kernel
theorem dX1_wayOf_20 : decode cX1_wayOf 20 = .ok (.aload_n 0, 1) := by decide +kernel
theorem dX1_wayOf_21 : decode cX1_wayOf 21 = .ok (.getfield 21, 3) := by decide +kernel
theorem dX1_wayOf_24 : decode cX1_wayOf 24 = .ok (.getfield 58, 3) := by decide +kernel
theorem dX1_wayOf_27 : decode cX1_wayOf 27 = .ok (.aload_n 0, 1) := by decide +kernel
theorem dX1_wayOf_28 : decode cX1_wayOf 28 = .ok (.getfield 21, 3) := by decide +kernel
theorem dX1_wayOf_31 : decode cX1_wayOf 31 = .ok (.getfield 83, 3) := by decide +kernel
theorem dX1_wayOf_34 : decode cX1_wayOf 34 = .ok (.lor, 1) := by decide +kernel
theorem dX1_wayOf_35 : decode cX1_wayOf 35 = .ok (.aload_n 1, 1) := by decide +kernel
theorem dX1_wayOf_36 : decode cX1_wayOf 36 = .ok (.getfield 80, 3) := by decide +kernel
theorem dX1_wayOf_39 : decode cX1_wayOf 39 = .ok (.iconst 3, 1) := by decide +kernel
theorem dX1_wayOf_40 : decode cX1_wayOf 40 = .ok (.if_icmp .ne 13, 3) := by decide +kernel
theorem dX1_wayOf_43 : decode cX1_wayOf 43 = .ok (.aload_n 0, 1) := by decide +kernel
theorem dX1_wayOf_44 : decode cX1_wayOf 44 = .ok (.getfield 21, 3) := by decide +kernel
theorem dX1_wayOf_47 : decode cX1_wayOf 47 = .ok (.getfield 86, 3) := by decide +kernel
theorem dX1_wayOf_50 : decode cX1_wayOf 50 = .ok (.goto 4, 3) := by decide +kernel
theorem dX1_wayOf_53 : decode cX1_wayOf 53 = .ok (.lconst 0, 1) := by decide +kernel
theorem dX1_wayOf_54 : decode cX1_wayOf 54 = .ok (.lor, 1) := by decide +kernel
theorem dX1_wayOf_55 : decode cX1_wayOf 55 = .ok (.lstore_n 2, 1) := by decide +kernel
theorem dX1_wayOf_56 : decode cX1_wayOf 56 = .ok (.lload_n 2, 1) := by decide +kernel
theorem dX1_wayOf_57 : decode cX1_wayOf 57 = .ok (.aload_n 0, 1) := by decide +kernel
theorem dX1_wayOf_58 : decode cX1_wayOf 58 = .ok (.getfield 33, 3) := by decide +kernel
theorem dX1_wayOf_61 : decode cX1_wayOf 61 = .ok (.ldc2_w 63, 3) := by decide +kernel
theorem dX1_wayOf_64 : decode cX1_wayOf 64 = .ok (.lxor, 1) := by decide +kernel
theorem dX1_wayOf_65 : decode cX1_wayOf 65 = .ok (.land, 1) := by decide +kernel
theorem dX1_wayOf_66 : decode cX1_wayOf 66 = .ok (.aload_n 0, 1) := by decide +kernel
theorem dX1_wayOf_67 : decode cX1_wayOf 67 = .ok (.getfield 40, 3) := by decide +kernel
theorem dX1_wayOf_70 : decode cX1_wayOf 70 = .ok (.ldc2_w 63, 3) := by decide +kernel
theorem dX1_wayOf_73 : decode cX1_wayOf 73 = .ok (.lxor, 1) := by decide +kernel
theorem dX1_wayOf_74 : decode cX1_wayOf 74 = .ok (.land, 1) := by decide +kernel
theorem dX1_wayOf_75 : decode cX1_wayOf 75 = .ok (.lstore 4, 2) := by decide +kernel
theorem dX1_wayOf_77 : decode cX1_wayOf 77 = .ok (.aload_n 1, 1) := by decide +kernel
theorem dX1_wayOf_78 : decode cX1_wayOf 78 = .ok (.getfield 80, 3) := by decide +kernel
theorem dX1_wayOf_81 : decode cX1_wayOf 81 = .ok (.iconst 1, 1) := by decide +kernel
theorem dX1_wayOf_82 : decode cX1_wayOf 82 = .ok (.if_icmp .ne 7, 3) := by decide +kernel
theorem dX1_wayOf_85 : decode cX1_wayOf 85 = .ok (.iconst 3, 1) := by decide +kernel
theorem dX1_wayOf_86 : decode cX1_wayOf 86 = .ok (.goto 4, 3) := by decide +kernel
theorem dX1_wayOf_89 : decode cX1_wayOf 89 = .ok (.iconst 1, 1) := by decide +kernel
theorem dX1_wayOf_90 : decode cX1_wayOf 90 = .ok (.istore 6, 2) := by decide +kernel
theorem dX1_wayOf_92 : decode cX1_wayOf 92 = .ok (.aload_n 1, 1) := by decide +kernel
theorem dX1_wayOf_93 : decode cX1_wayOf 93 = .ok (.getfield 89, 3) := by decide +kernel
theorem dX1_wayOf_96 : decode cX1_wayOf 96 = .ok (.istore 7, 2) := by decide +kernel
theorem dX1_wayOf_98 : decode cX1_wayOf 98 = .ok (.iload 7, 2) := by decide +kernel
theorem dX1_wayOf_100 : decode cX1_wayOf 100 = .ok (.iload 6, 2) := by decide +kernel
theorem dX1_wayOf_102 : decode cX1_wayOf 102 = .ok (.iadd, 1) := by decide +kernel
theorem dX1_wayOf_103 : decode cX1_wayOf 103 = .ok (.iconst 4, 1) := by decide +kernel
theorem dX1_wayOf_104 : decode cX1_wayOf 104 = .ok (.irem, 1) := by decide +kernel
theorem dX1_wayOf_105 : decode cX1_wayOf 105 = .ok (.istore 8, 2) := by decide +kernel
theorem dX1_wayOf_107 : decode cX1_wayOf 107 = .ok (.iload 7, 2) := by decide +kernel
theorem dX1_wayOf_109 : decode cX1_wayOf 109 = .ok (.iconst 4, 1) := by decide +kernel
theorem dX1_wayOf_110 : decode cX1_wayOf 110 = .ok (.iadd, 1) := by decide +kernel
theorem dX1_wayOf_111 : decode cX1_wayOf 111 = .ok (.iload 6, 2) := by decide +kernel
theorem dX1_wayOf_113 : decode cX1_wayOf 113 = .ok (.isub, 1) := by decide +kernel
theorem dX1_wayOf_114 : decode cX1_wayOf 114 = .ok (.iconst 4, 1) := by decide +kernel
theorem dX1_wayOf_115 : decode cX1_wayOf 115 = .ok (.irem, 1) := by decide +kernel
theorem dX1_wayOf_116 : decode cX1_wayOf 116 = .ok (.istore 9, 2) := by decide +kernel
theorem dX1_wayOf_118 : decode cX1_wayOf 118 = .ok (.lload 4, 2) := by decide +kernel
theorem dX1_wayOf_120 : decode cX1_wayOf 120 = .ok (.aload_n 0, 1) := by decide +kernel
theorem dX1_wayOf_121 : decode cX1_wayOf 121 = .ok (.getfield 21, 3) := by decide +kernel
theorem dX1_wayOf_124 : decode cX1_wayOf 124 = .ok (.aload_n 1, 1) := by decide +kernel
theorem dX1_wayOf_125 : decode cX1_wayOf 125 = .ok (.invokevirtual 92, 3) := by decide +kernel
theorem dX1_wayOf_128 : decode cX1_wayOf 128 = .ok (.iload 7, 2) := by decide +kernel
theorem dX1_wayOf_130 : decode cX1_wayOf 130 = .ok (.invokevirtual 96, 3) := by decide +kernel
theorem dX1_wayOf_133 : decode cX1_wayOf 133 = .ok (.invokestatic 50, 3) := by decide +kernel
theorem dX1_wayOf_136 : decode cX1_wayOf 136 = .ok (.ifCond .eq 6, 3) := by decide +kernel
theorem dX1_wayOf_139 : decode cX1_wayOf 139 = .ok (.iload 7, 2) := by decide +kernel
theorem dX1_wayOf_141 : decode cX1_wayOf 141 = .ok (.ireturn, 1) := by decide +kernel
theorem dX1_wayOf_142 : decode cX1_wayOf 142 = .ok (.lload 4, 2) := by decide +kernel
theorem dX1_wayOf_144 : decode cX1_wayOf 144 = .ok (.aload_n 0, 1) := by decide +kernel
theorem dX1_wayOf_145 : decode cX1_wayOf 145 = .ok (.getfield 21, 3) := by decide +kernel
theorem dX1_wayOf_148 : decode cX1_wayOf 148 = .ok (.aload_n 1, 1) := by decide +kernel
theorem dX1_wayOf_149 : decode cX1_wayOf 149 = .ok (.invokevirtual 92, 3) := by decide +kernel
theorem dX1_wayOf_152 : decode cX1_wayOf 152 = .ok (.iload 8, 2) := by decide +kernel
theorem dX1_wayOf_154 : decode cX1_wayOf 154 = .ok (.invokevirtual 96, 3) := by decide +kernel
theorem dX1_wayOf_157 : decode cX1_wayOf 157 = .ok (.invokestatic 50, 3) := by decide +kernel
theorem dX1_wayOf_160 : decode cX1_wayOf 160 = .ok (.ifCond .eq 6, 3) := by decide +kernel
theorem dX1_wayOf_163 : decode cX1_wayOf 163 = .ok (.iload 8, 2) := by decide +kernel
theorem dX1_wayOf_165 : decode cX1_wayOf 165 = .ok (.ireturn, 1) := by decide +kernel
theorem dX1_wayOf_166 : decode cX1_wayOf 166 = .ok (.lload 4, 2) := by decide +kernel
theorem dX1_wayOf_168 : decode cX1_wayOf 168 = .ok (.aload_n 0, 1) := by decide +kernel
theorem dX1_wayOf_169 : decode cX1_wayOf 169 = .ok (.getfield 21, 3) := by decide +kernel
theorem dX1_wayOf_172 : decode cX1_wayOf 172 = .ok (.aload_n 1, 1) := by decide +kernel
theorem dX1_wayOf_173 : decode cX1_wayOf 173 = .ok (.invokevirtual 92, 3) := by decide +kernel
theorem dX1_wayOf_176 : decode cX1_wayOf 176 = .ok (.iload 9, 2) := by decide +kernel
theorem dX1_wayOf_178 : decode cX1_wayOf 178 = .ok (.invokevirtual 96, 3) := by decide +kernel
theorem dX1_wayOf_181 : decode cX1_wayOf 181 = .ok (.invokestatic 50, 3) := by decide +kernel
theorem dX1_wayOf_184 : decode cX1_wayOf 184 = .ok (.ifCond .eq 8, 3) := by decide +kernel
theorem dX1_wayOf_187 : decode cX1_wayOf 187 = .ok (.iload 9, 2) := by decide +kernel
theorem dX1_wayOf_189 : decode cX1_wayOf 189 = .ok (.goto 5, 3) := by decide +kernel
theorem dX1_wayOf_192 : decode cX1_wayOf 192 = .ok (.bipush (-4), 2) := by decide +kernel
theorem dX1_wayOf_194 : decode cX1_wayOf 194 = .ok (.ireturn, 1) := by decide +kernel
theorem dX1_goRow_0 : decode cX1_goRow 0 = .ok (.aload_n 0, 1) := by decide +kernel
theorem dX1_goRow_1 : decode cX1_goRow 1 = .ok (.aload_n 1, 1) := by decide +kernel
theorem dX1_goRow_2 : decode cX1_goRow 2 = .ok (.invokevirtual 100, 3) := by decide +kernel
theorem dX1_goRow_5 : decode cX1_goRow 5 = .ok (.istore_n 2, 1) := by decide +kernel
theorem dX1_goRow_6 : decode cX1_goRow 6 = .ok (.iload_n 2, 1) := by decide +kernel
theorem dX1_goRow_7 : decode cX1_goRow 7 = .ok (.bipush (-4), 2) := by decide +kernel
theorem dX1_goRow_9 : decode cX1_goRow 9 = .ok (.if_icmp .ne 4, 3) := by decide +kernel
theorem dX1_goRow_12 : decode cX1_goRow 12 = .ok (.return_, 1) := by decide +kernel
theorem dX1_goRow_13 : decode cX1_goRow 13 = .ok (.aload_n 0, 1) := by decide +kernel
theorem dX1_goRow_14 : decode cX1_goRow 14 = .ok (.getfield 21, 3) := by decide +kernel
theorem dX1_goRow_17 : decode cX1_goRow 17 = .ok (.aload_n 1, 1) := by decide +kernel
theorem dX1_goRow_18 : decode cX1_goRow 18 = .ok (.invokevirtual 92, 3) := by decide +kernel
theorem dX1_goRow_21 : decode cX1_goRow 21 = .ok (.iload_n 2, 1) := by decide +kernel
theorem dX1_goRow_22 : decode cX1_goRow 22 = .ok (.invokevirtual 96, 3) := by decide +kernel
theorem dX1_goRow_25 : decode cX1_goRow 25 = .ok (.istore_n 3, 1) := by decide +kernel
theorem dX1_goRow_26 : decode cX1_goRow 26 = .ok (.aload_n 0, 1) := by decide +kernel
theorem dX1_goRow_27 : decode cX1_goRow 27 = .ok (.dup, 1) := by decide +kernel
theorem dX1_goRow_28 : decode cX1_goRow 28 = .ok (.getfield 40, 3) := by decide +kernel
theorem dX1_goRow_31 : decode cX1_goRow 31 = .ok (.aload_n 1, 1) := by decide +kernel
theorem dX1_goRow_32 : decode cX1_goRow 32 = .ok (.aload_n 1, 1) := by decide +kernel
theorem dX1_goRow_33 : decode cX1_goRow 33 = .ok (.getfield 73, 3) := by decide +kernel
theorem dX1_goRow_36 : decode cX1_goRow 36 = .ok (.iconst 1, 1) := by decide +kernel
theorem dX1_goRow_37 : decode cX1_goRow 37 = .ok (.isub, 1) := by decide +kernel
theorem dX1_goRow_38 : decode cX1_goRow 38 = .ok (.invokevirtual 76, 3) := by decide +kernel
theorem dX1_goRow_41 : decode cX1_goRow 41 = .ok (.invokestatic 69, 3) := by decide +kernel
theorem dX1_goRow_44 : decode cX1_goRow 44 = .ok (.ldc2_w 63, 3) := by decide +kernel
theorem dX1_goRow_47 : decode cX1_goRow 47 = .ok (.lxor, 1) := by decide +kernel
theorem dX1_goRow_48 : decode cX1_goRow 48 = .ok (.land, 1) := by decide +kernel
theorem dX1_goRow_49 : decode cX1_goRow 49 = .ok (.putfield 40, 3) := by decide +kernel
theorem dX1_goRow_52 : decode cX1_goRow 52 = .ok (.aload_n 0, 1) := by decide +kernel
theorem dX1_goRow_53 : decode cX1_goRow 53 = .ok (.dup, 1) := by decide +kernel
theorem dX1_goRow_54 : decode cX1_goRow 54 = .ok (.getfield 40, 3) := by decide +kernel
theorem dX1_goRow_57 : decode cX1_goRow 57 = .ok (.iload_n 3, 1) := by decide +kernel
theorem dX1_goRow_58 : decode cX1_goRow 58 = .ok (.invokestatic 69, 3) := by decide +kernel
theorem dX1_goRow_61 : decode cX1_goRow 61 = .ok (.lor, 1) := by decide +kernel
theorem dX1_goRow_62 : decode cX1_goRow 62 = .ok (.putfield 40, 3) := by decide +kernel
theorem dX1_goRow_65 : decode cX1_goRow 65 = .ok (.aload_n 0, 1) := by decide +kernel
theorem dX1_goRow_66 : decode cX1_goRow 66 = .ok (.dup, 1) := by decide +kernel
theorem dX1_goRow_67 : decode cX1_goRow 67 = .ok (.getfield 43, 3) := by decide +kernel
theorem dX1_goRow_70 : decode cX1_goRow 70 = .ok (.iload_n 3, 1) := by decide +kernel
theorem dX1_goRow_71 : decode cX1_goRow 71 = .ok (.invokestatic 69, 3) := by decide +kernel
theorem dX1_goRow_74 : decode cX1_goRow 74 = .ok (.lor, 1) := by decide +kernel
theorem dX1_goRow_75 : decode cX1_goRow 75 = .ok (.putfield 43, 3) := by decide +kernel
theorem dX1_goRow_78 : decode cX1_goRow 78 = .ok (.aload_n 1, 1) := by decide +kernel
theorem dX1_goRow_79 : decode cX1_goRow 79 = .ok (.iload_n 2, 1) := by decide +kernel
theorem dX1_goRow_80 : decode cX1_goRow 80 = .ok (.putfield 89, 3) := by decide +kernel
theorem dX1_goRow_83 : decode cX1_goRow 83 = .ok (.iconst 3, 1) := by decide +kernel
theorem dX1_goRow_84 : decode cX1_goRow 84 = .ok (.istore 4, 2) := by decide +kernel
theorem dX1_goRow_86 : decode cX1_goRow 86 = .ok (.iload 4, 2) := by decide +kernel
theorem dX1_goRow_88 : decode cX1_goRow 88 = .ok (.ifCond .le 25, 3) := by decide +kernel
theorem dX1_goRow_91 : decode cX1_goRow 91 = .ok (.aload_n 1, 1) := by decide +kernel
theorem dX1_goRow_92 : decode cX1_goRow 92 = .ok (.getfield 104, 3) := by decide +kernel
theorem dX1_goRow_95 : decode cX1_goRow 95 = .ok (.iload 4, 2) := by decide +kernel
theorem dX1_goRow_97 : decode cX1_goRow 97 = .ok (.aload_n 1, 1) := by decide +kernel
theorem dX1_goRow_98 : decode cX1_goRow 98 = .ok (.getfield 104, 3) := by decide +kernel
theorem dX1_goRow_101 : decode cX1_goRow 101 = .ok (.iload 4, 2) := by decide +kernel
theorem dX1_goRow_103 : decode cX1_goRow 103 = .ok (.iconst 1, 1) := by decide +kernel
theorem dX1_goRow_104 : decode cX1_goRow 104 = .ok (.isub, 1) := by decide +kernel
theorem dX1_goRow_105 : decode cX1_goRow 105 = .ok (.iaload, 1) := by decide +kernel
theorem dX1_goRow_106 : decode cX1_goRow 106 = .ok (.iastore, 1) := by decide +kernel
theorem dX1_goRow_107 : decode cX1_goRow 107 = .ok (.iinc 4 (-1), 3) := by decide +kernel
theorem dX1_goRow_110 : decode cX1_goRow 110 = .ok (.goto (-24), 3) := by decide +kernel
theorem dX1_goRow_113 : decode cX1_goRow 113 = .ok (.aload_n 1, 1) := by decide +kernel
theorem dX1_goRow_114 : decode cX1_goRow 114 = .ok (.getfield 104, 3) := by decide +kernel
theorem dX1_goRow_117 : decode cX1_goRow 117 = .ok (.iconst 0, 1) := by decide +kernel
theorem dX1_goRow_118 : decode cX1_goRow 118 = .ok (.iload_n 3, 1) := by decide +kernel
theorem dX1_goRow_119 : decode cX1_goRow 119 = .ok (.iastore, 1) := by decide +kernel
theorem dX1_goRow_120 : decode cX1_goRow 120 = .ok (.aload_n 0, 1) := by decide +kernel
theorem dX1_goRow_121 : decode cX1_goRow 121 = .ok (.getfield 21, 3) := by decide +kernel
theorem dX1_goRow_124 : decode cX1_goRow 124 = .ok (.getfield 83, 3) := by decide +kernel
theorem dX1_goRow_127 : decode cX1_goRow 127 = .ok (.iload_n 3, 1) := by decide +kernel
theorem dX1_goRow_128 : decode cX1_goRow 128 = .ok (.invokestatic 50, 3) := by decide +kernel
theorem dX1_goRow_131 : decode cX1_goRow 131 = .ok (.ifCond .eq 9, 3) := by decide +kernel
theorem dX1_goRow_134 : decode cX1_goRow 134 = .ok (.aload_n 0, 1) := by decide +kernel
theorem dX1_goRow_135 : decode cX1_goRow 135 = .ok (.iload_n 3, 1) := by decide +kernel
theorem dX1_goRow_136 : decode cX1_goRow 136 = .ok (.iconst 1, 1) := by decide +kernel
theorem dX1_goRow_137 : decode cX1_goRow 137 = .ok (.invokevirtual 107, 3) := by decide +kernel
theorem dX1_goRow_140 : decode cX1_goRow 140 = .ok (.return_, 1) := by decide +kernel
theorem dX1_goYear_0 : decode cX1_goYear 0 = .ok (.iconst 0, 1) := by decide +kernel
theorem dX1_goYear_1 : decode cX1_goYear 1 = .ok (.istore_n 2, 1) := by decide +kernel
theorem dX1_goYear_2 : decode cX1_goYear 2 = .ok (.iload_n 2, 1) := by decide +kernel
theorem dX1_goYear_3 : decode cX1_goYear 3 = .ok (.aload_n 0, 1) := by decide +kernel
theorem dX1_goYear_4 : decode cX1_goYear 4 = .ok (.getfield 26, 3) := by decide +kernel
theorem dX1_goYear_7 : decode cX1_goYear 7 = .ok (.if_icmp .ge 29, 3) := by decide +kernel
theorem dX1_goYear_10 : decode cX1_goYear 10 = .ok (.iload_n 2, 1) := by decide +kernel
theorem dX1_goYear_11 : decode cX1_goYear 11 = .ok (.iconst 3, 1) := by decide +kernel
theorem dX1_goYear_12 : decode cX1_goYear 12 = .ok (.if_icmp .ge 24, 3) := by decide +kernel
theorem dX1_goYear_15 : decode cX1_goYear 15 = .ok (.iload_n 2, 1) := by decide +kernel
theorem dX1_goYear_16 : decode cX1_goYear 16 = .ok (.iload_n 1, 1) := by decide +kernel
theorem dX1_goYear_17 : decode cX1_goYear 17 = .ok (.if_icmp .eq 13, 3) := by decide +kernel
theorem dX1_goYear_20 : decode cX1_goYear 20 = .ok (.aload_n 0, 1) := by decide +kernel
theorem dX1_goYear_21 : decode cX1_goYear 21 = .ok (.aload_n 0, 1) := by decide +kernel
theorem dX1_goYear_22 : decode cX1_goYear 22 = .ok (.getfield 11, 3) := by decide +kernel
theorem dX1_goYear_25 : decode cX1_goYear 25 = .ok (.iload_n 2, 1) := by decide +kernel
theorem dX1_goYear_26 : decode cX1_goYear 26 = .ok (.aaload, 1) := by decide +kernel
theorem dX1_goYear_27 : decode cX1_goYear 27 = .ok (.invokevirtual 111, 3) := by decide +kernel
theorem dX1_goYear_30 : decode cX1_goYear 30 = .ok (.iinc 2 1, 3) := by decide +kernel
theorem dX1_goYear_33 : decode cX1_goYear 33 = .ok (.goto (-31), 3) := by decide +kernel
theorem dX1_goYear_36 : decode cX1_goYear 36 = .ok (.aload_n 0, 1) := by decide +kernel
theorem dX1_goYear_37 : decode cX1_goYear 37 = .ok (.dup, 1) := by decide +kernel
theorem dX1_goYear_38 : decode cX1_goYear 38 = .ok (.getfield 30, 3) := by decide +kernel
theorem dX1_goYear_41 : decode cX1_goYear 41 = .ok (.iconst 1, 1) := by decide +kernel
theorem dX1_goYear_42 : decode cX1_goYear 42 = .ok (.iadd, 1) := by decide +kernel
theorem dX1_goYear_43 : decode cX1_goYear 43 = .ok (.putfield 30, 3) := by decide +kernel
theorem dX1_goYear_46 : decode cX1_goYear 46 = .ok (.return_, 1) := by decide +kernel
theorem dX1_passYears_0 : decode cX1_passYears 0 = .ok (.iconst 0, 1) := by decide +kernel
theorem dX1_passYears_1 : decode cX1_passYears 1 = .ok (.istore_n 2, 1) := by decide +kernel
theorem dX1_passYears_2 : decode cX1_passYears 2 = .ok (.iload_n 2, 1) := by decide +kernel
theorem dX1_passYears_3 : decode cX1_passYears 3 = .ok (.iload_n 1, 1) := by decide +kernel
theorem dX1_passYears_4 : decode cX1_passYears 4 = .ok (.if_icmp .ge 46, 3) := by decide +kernel
theorem dX1_passYears_7 : decode cX1_passYears 7 = .ok (.aload_n 0, 1) := by decide +kernel
theorem dX1_passYears_8 : decode cX1_passYears 8 = .ok (.bipush (-4), 2) := by decide +kernel
theorem dX1_passYears_10 : decode cX1_passYears 10 = .ok (.invokevirtual 114, 3) := by decide +kernel
theorem dX1_passYears_13 : decode cX1_passYears 13 = .ok (.iconst 0, 1) := by decide +kernel
theorem dX1_passYears_14 : decode cX1_passYears 14 = .ok (.istore_n 3, 1) := by decide +kernel
theorem dX1_passYears_15 : decode cX1_passYears 15 = .ok (.iload_n 3, 1) := by decide +kernel
theorem dX1_passYears_16 : decode cX1_passYears 16 = .ok (.aload_n 0, 1) := by decide +kernel
theorem dX1_passYears_17 : decode cX1_passYears 17 = .ok (.getfield 26, 3) := by decide +kernel
theorem dX1_passYears_20 : decode cX1_passYears 20 = .ok (.if_icmp .ge 24, 3) := by decide +kernel
theorem dX1_passYears_23 : decode cX1_passYears 23 = .ok (.iload_n 3, 1) := by decide +kernel
theorem dX1_passYears_24 : decode cX1_passYears 24 = .ok (.iconst 3, 1) := by decide +kernel
theorem dX1_passYears_25 : decode cX1_passYears 25 = .ok (.if_icmp .ge 19, 3) := by decide +kernel
theorem dX1_passYears_28 : decode cX1_passYears 28 = .ok (.aload_n 0, 1) := by decide +kernel
theorem dX1_passYears_29 : decode cX1_passYears 29 = .ok (.aload_n 0, 1) := by decide +kernel
theorem dX1_passYears_30 : decode cX1_passYears 30 = .ok (.getfield 11, 3) := by decide +kernel
theorem dX1_passYears_33 : decode cX1_passYears 33 = .ok (.iload_n 3, 1) := by decide +kernel
theorem dX1_passYears_34 : decode cX1_passYears 34 = .ok (.aaload, 1) := by decide +kernel
theorem dX1_passYears_35 : decode cX1_passYears 35 = .ok (.invokevirtual 118, 3) := by decide +kernel
theorem dX1_passYears_38 : decode cX1_passYears 38 = .ok (.iinc 3 1, 3) := by decide +kernel
theorem dX1_passYears_41 : decode cX1_passYears 41 = .ok (.goto (-26), 3) := by decide +kernel
theorem dX1_passYears_44 : decode cX1_passYears 44 = .ok (.iinc 2 1, 3) := by decide +kernel
theorem dX1_passYears_47 : decode cX1_passYears 47 = .ok (.goto (-45), 3) := by decide +kernel
theorem dX1_passYears_50 : decode cX1_passYears 50 = .ok (.return_, 1) := by decide +kernel
theorem dX1_bearRow_0 : decode cX1_bearRow 0 = .ok (.aload_n 0, 1) := by decide +kernel
theorem dX1_bearRow_1 : decode cX1_bearRow 1 = .ok (.getfield 40, 3) := by decide +kernel
theorem dX1_bearRow_4 : decode cX1_bearRow 4 = .ok (.aload_n 0, 1) := by decide +kernel
theorem dX1_bearRow_5 : decode cX1_bearRow 5 = .ok (.getfield 37, 3) := by decide +kernel
theorem dX1_bearRow_8 : decode cX1_bearRow 8 = .ok (.ldc2_w 63, 3) := by decide +kernel
theorem dX1_bearRow_11 : decode cX1_bearRow 11 = .ok (.lxor, 1) := by decide +kernel
theorem dX1_bearRow_12 : decode cX1_bearRow 12 = .ok (.land, 1) := by decide +kernel
theorem dX1_bearRow_13 : decode cX1_bearRow 13 = .ok (.aload_n 1, 1) := by decide +kernel
theorem dX1_bearRow_14 : decode cX1_bearRow 14 = .ok (.invokevirtual 54, 3) := by decide +kernel
theorem dX1_bearRow_17 : decode cX1_bearRow 17 = .ok (.ldc2_w 63, 3) := by decide +kernel
theorem dX1_bearRow_20 : decode cX1_bearRow 20 = .ok (.lxor, 1) := by decide +kernel
theorem dX1_bearRow_21 : decode cX1_bearRow 21 = .ok (.land, 1) := by decide +kernel
theorem dX1_bearRow_22 : decode cX1_bearRow 22 = .ok (.lstore_n 2, 1) := by decide +kernel
theorem dX1_bearRow_23 : decode cX1_bearRow 23 = .ok (.iconst 0, 1) := by decide +kernel
theorem dX1_bearRow_24 : decode cX1_bearRow 24 = .ok (.istore 4, 2) := by decide +kernel
theorem dX1_bearRow_26 : decode cX1_bearRow 26 = .ok (.iload 4, 2) := by decide +kernel
theorem dX1_bearRow_28 : decode cX1_bearRow 28 = .ok (.aload_n 1, 1) := by decide +kernel
theorem dX1_bearRow_29 : decode cX1_bearRow 29 = .ok (.getfield 73, 3) := by decide +kernel
theorem dX1_bearRow_32 : decode cX1_bearRow 32 = .ok (.if_icmp .ge 53, 3) := by decide +kernel
theorem dX1_bearRow_35 : decode cX1_bearRow 35 = .ok (.iload 4, 2) := by decide +kernel
theorem dX1_bearRow_37 : decode cX1_bearRow 37 = .ok (.iconst 4, 1) := by decide +kernel
theorem dX1_bearRow_38 : decode cX1_bearRow 38 = .ok (.if_icmp .ge 47, 3) := by decide +kernel
theorem dX1_bearRow_41 : decode cX1_bearRow 41 = .ok (.aload_n 1, 1) := by decide +kernel
theorem dX1_bearRow_42 : decode cX1_bearRow 42 = .ok (.getfield 104, 3) := by decide +kernel
theorem dX1_bearRow_45 : decode cX1_bearRow 45 = .ok (.iload 4, 2) := by decide +kernel
theorem dX1_bearRow_47 : decode cX1_bearRow 47 = .ok (.iaload, 1) := by decide +kernel
theorem dX1_bearRow_48 : decode cX1_bearRow 48 = .ok (.istore 5, 2) := by decide +kernel
theorem dX1_bearRow_50 : decode cX1_bearRow 50 = .ok (.aload_n 0, 1) := by decide +kernel
theorem dX1_bearRow_51 : decode cX1_bearRow 51 = .ok (.iload 5, 2) := by decide +kernel
theorem dX1_bearRow_53 : decode cX1_bearRow 53 = .ok (.aload_n 1, 1) := by decide +kernel
theorem dX1_bearRow_54 : decode cX1_bearRow 54 = .ok (.getfield 121, 3) := by decide +kernel
theorem dX1_bearRow_57 : decode cX1_bearRow 57 = .ok (.aload_n 0, 1) := by decide +kernel
theorem dX1_bearRow_58 : decode cX1_bearRow 58 = .ok (.getfield 21, 3) := by decide +kernel
theorem dX1_bearRow_61 : decode cX1_bearRow 61 = .ok (.iload 5, 2) := by decide +kernel
theorem dX1_bearRow_63 : decode cX1_bearRow 63 = .ok (.lload_n 2, 1) := by decide +kernel
theorem dX1_bearRow_64 : decode cX1_bearRow 64 = .ok (.invokevirtual 124, 3) := by decide +kernel
theorem dX1_bearRow_67 : decode cX1_bearRow 67 = .ok (.ifCond .eq 7, 3) := by decide +kernel
theorem dX1_bearRow_70 : decode cX1_bearRow 70 = .ok (.iconst 1, 1) := by decide +kernel
theorem dX1_bearRow_71 : decode cX1_bearRow 71 = .ok (.goto 4, 3) := by decide +kernel
theorem dX1_bearRow_74 : decode cX1_bearRow 74 = .ok (.iconst 0, 1) := by decide +kernel
theorem dX1_bearRow_75 : decode cX1_bearRow 75 = .ok (.iadd, 1) := by decide +kernel
theorem dX1_bearRow_76 : decode cX1_bearRow 76 = .ok (.invokevirtual 107, 3) := by decide +kernel
theorem dX1_bearRow_79 : decode cX1_bearRow 79 = .ok (.iinc 4 1, 3) := by decide +kernel
theorem dX1_bearRow_82 : decode cX1_bearRow 82 = .ok (.goto (-56), 3) := by decide +kernel
theorem dX1_bearRow_85 : decode cX1_bearRow 85 = .ok (.return_, 1) := by decide +kernel
theorem dX1_give_0 : decode cX1_give 0 = .ok (.aload_n 0, 1) := by decide +kernel
theorem dX1_give_1 : decode cX1_give 1 = .ok (.getfield 21, 3) := by decide +kernel
theorem dX1_give_4 : decode cX1_give 4 = .ok (.iload_n 1, 1) := by decide +kernel
theorem dX1_give_5 : decode cX1_give 5 = .ok (.invokevirtual 128, 3) := by decide +kernel
theorem dX1_give_8 : decode cX1_give 8 = .ok (.istore_n 3, 1) := by decide +kernel
theorem dX1_give_9 : decode cX1_give 9 = .ok (.iload_n 3, 1) := by decide +kernel
theorem dX1_give_10 : decode cX1_give 10 = .ok (.ifCond .lt 18, 3) := by decide +kernel
theorem dX1_give_13 : decode cX1_give 13 = .ok (.iload_n 3, 1) := by decide +kernel
theorem dX1_give_14 : decode cX1_give 14 = .ok (.iconst 4, 1) := by decide +kernel
theorem dX1_give_15 : decode cX1_give 15 = .ok (.if_icmp .ge 13, 3) := by decide +kernel
theorem dX1_give_18 : decode cX1_give 18 = .ok (.aload_n 0, 1) := by decide +kernel
theorem dX1_give_19 : decode cX1_give 19 = .ok (.getfield 17, 3) := by decide +kernel
theorem dX1_give_22 : decode cX1_give 22 = .ok (.iload_n 3, 1) := by decide +kernel
theorem dX1_give_23 : decode cX1_give 23 = .ok (.dup2, 1) := by decide +kernel
theorem dX1_give_24 : decode cX1_give 24 = .ok (.iaload, 1) := by decide +kernel
theorem dX1_give_25 : decode cX1_give 25 = .ok (.iload_n 2, 1) := by decide +kernel
theorem dX1_give_26 : decode cX1_give 26 = .ok (.iadd, 1) := by decide +kernel
theorem dX1_give_27 : decode cX1_give 27 = .ok (.iastore, 1) := by decide +kernel
theorem dX1_give_28 : decode cX1_give 28 = .ok (.return_, 1) := by decide +kernel
theorem dX1_ownedByAll_0 : decode cX1_ownedByAll 0 = .ok (.iconst 0, 1) := by decide +kernel
theorem dX1_ownedByAll_1 : decode cX1_ownedByAll 1 = .ok (.istore_n 1, 1) := by decide +kernel
theorem dX1_ownedByAll_2 : decode cX1_ownedByAll 2 = .ok (.iconst 0, 1) := by decide +kernel
theorem dX1_ownedByAll_3 : decode cX1_ownedByAll 3 = .ok (.istore_n 2, 1) := by decide +kernel
theorem dX1_ownedByAll_4 : decode cX1_ownedByAll 4 = .ok (.iload_n 2, 1) := by decide +kernel
theorem dX1_ownedByAll_5 : decode cX1_ownedByAll 5 = .ok (.iconst 4, 1) := by decide +kernel
theorem dX1_ownedByAll_6 : decode cX1_ownedByAll 6 = .ok (.if_icmp .ge 18, 3) := by decide +kernel
theorem dX1_ownedByAll_9 : decode cX1_ownedByAll 9 = .ok (.iload_n 1, 1) := by decide +kernel
theorem dX1_ownedByAll_10 : decode cX1_ownedByAll 10 = .ok (.aload_n 0, 1) := by decide +kernel
theorem dX1_ownedByAll_11 : decode cX1_ownedByAll 11 = .ok (.getfield 17, 3) := by decide +kernel
theorem dX1_ownedByAll_14 : decode cX1_ownedByAll 14 = .ok (.iload_n 2, 1) := by decide +kernel
theorem dX1_ownedByAll_15 : decode cX1_ownedByAll 15 = .ok (.iaload, 1) := by decide +kernel
theorem dX1_ownedByAll_16 : decode cX1_ownedByAll 16 = .ok (.iadd, 1) := by decide +kernel
theorem dX1_ownedByAll_17 : decode cX1_ownedByAll 17 = .ok (.istore_n 1, 1) := by decide +kernel
theorem dX1_ownedByAll_18 : decode cX1_ownedByAll 18 = .ok (.iinc 2 1, 3) := by decide +kernel
theorem dX1_ownedByAll_21 : decode cX1_ownedByAll 21 = .ok (.goto (-17), 3) := by decide +kernel
theorem dX1_ownedByAll_24 : decode cX1_ownedByAll 24 = .ok (.iload_n 1, 1) := by decide +kernel
theorem dX1_ownedByAll_25 : decode cX1_ownedByAll 25 = .ok (.ireturn, 1) := by decide +kernel
theorem dX1_areSideBySide_0 : decode cX1_areSideBySide 0 = .ok (.aload_n 2, 1) := by decide +kernel
theorem dX1_areSideBySide_1 : decode cX1_areSideBySide 1 = .ok (.invokevirtual 54, 3) := by decide +kernel
theorem dX1_areSideBySide_4 : decode cX1_areSideBySide 4 = .ok (.lstore_n 3, 1) := by decide +kernel
theorem dX1_areSideBySide_5 : decode cX1_areSideBySide 5 = .ok (.iconst 0, 1) := by decide +kernel
theorem dX1_areSideBySide_6 : decode cX1_areSideBySide 6 = .ok (.istore 5, 2) := by decide +kernel
theorem dX1_areSideBySide_8 : decode cX1_areSideBySide 8 = .ok (.iload 5, 2) := by decide +kernel
theorem dX1_areSideBySide_10 : decode cX1_areSideBySide 10 = .ok (.aload_n 1, 1) := by decide +kernel
theorem dX1_areSideBySide_11 : decode cX1_areSideBySide 11 = .ok (.getfield 73, 3) := by decide +kernel
theorem dX1_areSideBySide_14 : decode cX1_areSideBySide 14 = .ok (.if_icmp .ge 35, 3) := by decide +kernel
theorem dX1_areSideBySide_17 : decode cX1_areSideBySide 17 = .ok (.iload 5, 2) := by decide +kernel
theorem dX1_areSideBySide_19 : decode cX1_areSideBySide 19 = .ok (.iconst 4, 1) := by decide +kernel
theorem dX1_areSideBySide_20 : decode cX1_areSideBySide 20 = .ok (.if_icmp .ge 29, 3) := by decide +kernel
theorem dX1_areSideBySide_23 : decode cX1_areSideBySide 23 = .ok (.aload_n 0, 1) := by decide +kernel
theorem dX1_areSideBySide_24 : decode cX1_areSideBySide 24 = .ok (.getfield 21, 3) := by decide +kernel
theorem dX1_areSideBySide_27 : decode cX1_areSideBySide 27 = .ok (.aload_n 1, 1) := by decide +kernel
theorem dX1_areSideBySide_28 : decode cX1_areSideBySide 28 = .ok (.getfield 104, 3) := by decide +kernel
theorem dX1_areSideBySide_31 : decode cX1_areSideBySide 31 = .ok (.iload 5, 2) := by decide +kernel
theorem dX1_areSideBySide_33 : decode cX1_areSideBySide 33 = .ok (.iaload, 1) := by decide +kernel
theorem dX1_areSideBySide_34 : decode cX1_areSideBySide 34 = .ok (.lload_n 3, 1) := by decide +kernel
theorem dX1_areSideBySide_35 : decode cX1_areSideBySide 35 = .ok (.invokevirtual 124, 3) := by decide +kernel
theorem dX1_areSideBySide_38 : decode cX1_areSideBySide 38 = .ok (.ifCond .eq 5, 3) := by decide +kernel
theorem dX1_areSideBySide_41 : decode cX1_areSideBySide 41 = .ok (.iconst 1, 1) := by decide +kernel
theorem dX1_areSideBySide_42 : decode cX1_areSideBySide 42 = .ok (.ireturn, 1) := by decide +kernel
theorem dX1_areSideBySide_43 : decode cX1_areSideBySide 43 = .ok (.iinc 5 1, 3) := by decide +kernel
theorem dX1_areSideBySide_46 : decode cX1_areSideBySide 46 = .ok (.goto (-38), 3) := by decide +kernel
theorem dX1_areSideBySide_49 : decode cX1_areSideBySide 49 = .ok (.iconst 0, 1) := by decide +kernel
theorem dX1_areSideBySide_50 : decode cX1_areSideBySide 50 = .ok (.ireturn, 1) := by decide +kernel
theorem dX1_standsAs_0 : decode cX1_standsAs 0 = .ok (.iconst 0, 1) := by decide +kernel
theorem dX1_standsAs_1 : decode cX1_standsAs 1 = .ok (.istore_n 2, 1) := by decide +kernel
theorem dX1_standsAs_2 : decode cX1_standsAs 2 = .ok (.iconst 0, 1) := by decide +kernel
theorem dX1_standsAs_3 : decode cX1_standsAs 3 = .ok (.istore_n 3, 1) := by decide +kernel
theorem dX1_standsAs_4 : decode cX1_standsAs 4 = .ok (.iload_n 3, 1) := by decide +kernel
theorem dX1_standsAs_5 : decode cX1_standsAs 5 = .ok (.aload_n 0, 1) := by decide +kernel
theorem dX1_standsAs_6 : decode cX1_standsAs 6 = .ok (.getfield 26, 3) := by decide +kernel
theorem dX1_standsAs_9 : decode cX1_standsAs 9 = .ok (.if_icmp .ge 57, 3) := by decide +kernel
theorem dX1_standsAs_12 : decode cX1_standsAs 12 = .ok (.iload_n 3, 1) := by decide +kernel
theorem dX1_standsAs_13 : decode cX1_standsAs 13 = .ok (.iconst 3, 1) := by decide +kernel
theorem dX1_standsAs_14 : decode cX1_standsAs 14 = .ok (.if_icmp .ge 52, 3) := by decide +kernel
theorem dX1_standsAs_17 : decode cX1_standsAs 17 = .ok (.aload_n 0, 1) := by decide +kernel
theorem dX1_standsAs_18 : decode cX1_standsAs 18 = .ok (.getfield 11, 3) := by decide +kernel
theorem dX1_standsAs_21 : decode cX1_standsAs 21 = .ok (.iload_n 3, 1) := by decide +kernel
theorem dX1_standsAs_22 : decode cX1_standsAs 22 = .ok (.aaload, 1) := by decide +kernel
theorem dX1_standsAs_23 : decode cX1_standsAs 23 = .ok (.aload_n 1, 1) := by decide +kernel
theorem dX1_standsAs_24 : decode cX1_standsAs 24 = .ok (.getfield 11, 3) := by decide +kernel
theorem dX1_standsAs_27 : decode cX1_standsAs 27 = .ok (.iload_n 3, 1) := by decide +kernel
theorem dX1_standsAs_28 : decode cX1_standsAs 28 = .ok (.aaload, 1) := by decide +kernel
theorem dX1_standsAs_29 : decode cX1_standsAs 29 = .ok (.invokevirtual 131, 3) := by decide +kernel
theorem dX1_standsAs_32 : decode cX1_standsAs 32 = .ok (.ifCond .ne 5, 3) := by decide +kernel
theorem dX1_standsAs_35 : decode cX1_standsAs 35 = .ok (.iconst 0, 1) := by decide +kernel
theorem dX1_standsAs_36 : decode cX1_standsAs 36 = .ok (.ireturn, 1) := by decide +kernel
theorem dX1_standsAs_37 : decode cX1_standsAs 37 = .ok (.iload_n 2, 1) := by decide +kernel
theorem dX1_standsAs_38 : decode cX1_standsAs 38 = .ok (.ifCond .ne 16, 3) := by decide +kernel
theorem dX1_standsAs_41 : decode cX1_standsAs 41 = .ok (.aload_n 0, 1) := by decide +kernel
theorem dX1_standsAs_42 : decode cX1_standsAs 42 = .ok (.getfield 11, 3) := by decide +kernel
theorem dX1_standsAs_45 : decode cX1_standsAs 45 = .ok (.iload_n 3, 1) := by decide +kernel
theorem dX1_standsAs_46 : decode cX1_standsAs 46 = .ok (.aaload, 1) := by decide +kernel
theorem dX1_standsAs_47 : decode cX1_standsAs 47 = .ok (.getfield 80, 3) := by decide +kernel
theorem dX1_standsAs_50 : decode cX1_standsAs 50 = .ok (.iconst 2, 1) := by decide +kernel
theorem dX1_standsAs_51 : decode cX1_standsAs 51 = .ok (.if_icmp .ne 7, 3) := by decide +kernel
theorem dX1_standsAs_54 : decode cX1_standsAs 54 = .ok (.iconst 1, 1) := by decide +kernel
theorem dX1_standsAs_55 : decode cX1_standsAs 55 = .ok (.goto 4, 3) := by decide +kernel
theorem dX1_standsAs_58 : decode cX1_standsAs 58 = .ok (.iconst 0, 1) := by decide +kernel
theorem dX1_standsAs_59 : decode cX1_standsAs 59 = .ok (.istore_n 2, 1) := by decide +kernel
theorem dX1_standsAs_60 : decode cX1_standsAs 60 = .ok (.iinc 3 1, 3) := by decide +kernel
theorem dX1_standsAs_63 : decode cX1_standsAs 63 = .ok (.goto (-59), 3) := by decide +kernel
theorem dX1_standsAs_66 : decode cX1_standsAs 66 = .ok (.iload_n 2, 1) := by decide +kernel
theorem dX1_standsAs_67 : decode cX1_standsAs 67 = .ok (.ifCond .eq 17, 3) := by decide +kernel
theorem dX1_standsAs_70 : decode cX1_standsAs 70 = .ok (.aload_n 0, 1) := by decide +kernel
theorem dX1_standsAs_71 : decode cX1_standsAs 71 = .ok (.getfield 30, 3) := by decide +kernel
theorem dX1_standsAs_74 : decode cX1_standsAs 74 = .ok (.aload_n 1, 1) := by decide +kernel
theorem dX1_standsAs_75 : decode cX1_standsAs 75 = .ok (.getfield 30, 3) := by decide +kernel
theorem dX1_standsAs_78 : decode cX1_standsAs 78 = .ok (.isub, 1) := by decide +kernel
theorem dX1_standsAs_79 : decode cX1_standsAs 79 = .ok (.iconst 2, 1) := by decide +kernel
theorem dX1_standsAs_80 : decode cX1_standsAs 80 = .ok (.irem, 1) := by decide +kernel
theorem dX1_standsAs_81 : decode cX1_standsAs 81 = .ok (.ifCond .ne 7, 3) := by decide +kernel
theorem dX1_standsAs_84 : decode cX1_standsAs 84 = .ok (.iconst 1, 1) := by decide +kernel
theorem dX1_standsAs_85 : decode cX1_standsAs 85 = .ok (.goto 4, 3) := by decide +kernel
theorem dX1_standsAs_88 : decode cX1_standsAs 88 = .ok (.iconst 0, 1) := by decide +kernel
theorem dX1_standsAs_89 : decode cX1_standsAs 89 = .ok (.ireturn, 1) := by decide +kernel
theorem dX2_init_0 : decode cX2_init 0 = .ok (.aload_n 0, 1) := by decide +kernel
theorem dX2_init_1 : decode cX2_init 1 = .ok (.invokespecial 1, 3) := by decide +kernel
theorem dX2_init_4 : decode cX2_init 4 = .ok (.aload_n 0, 1) := by decide +kernel
theorem dX2_init_5 : decode cX2_init 5 = .ok (.iload_n 1, 1) := by decide +kernel
theorem dX2_init_6 : decode cX2_init 6 = .ok (.ifCond .le 7, 3) := by decide +kernel
theorem dX2_init_9 : decode cX2_init 9 = .ok (.iload_n 1, 1) := by decide +kernel
theorem dX2_init_10 : decode cX2_init 10 = .ok (.goto 4, 3) := by decide +kernel
theorem dX2_init_13 : decode cX2_init 13 = .ok (.iconst 0, 1) := by decide +kernel
theorem dX2_init_14 : decode cX2_init 14 = .ok (.anewarray 7, 3) := by decide +kernel
theorem dX2_init_17 : decode cX2_init 17 = .ok (.putfield 9, 3) := by decide +kernel
theorem dX2_init_20 : decode cX2_init 20 = .ok (.iconst 0, 1) := by decide +kernel
theorem dX2_init_21 : decode cX2_init 21 = .ok (.istore_n 3, 1) := by decide +kernel
theorem dX2_init_22 : decode cX2_init 22 = .ok (.iload_n 3, 1) := by decide +kernel
theorem dX2_init_23 : decode cX2_init 23 = .ok (.aload_n 0, 1) := by decide +kernel
theorem dX2_init_24 : decode cX2_init 24 = .ok (.getfield 9, 3) := by decide +kernel
theorem dX2_init_27 : decode cX2_init 27 = .ok (.arraylength, 1) := by decide +kernel
theorem dX2_init_28 : decode cX2_init 28 = .ok (.if_icmp .ge 23, 3) := by decide +kernel
theorem dX2_init_31 : decode cX2_init 31 = .ok (.aload_n 0, 1) := by decide +kernel
theorem dX2_init_32 : decode cX2_init 32 = .ok (.getfield 9, 3) := by decide +kernel
theorem dX2_init_35 : decode cX2_init 35 = .ok (.iload_n 3, 1) := by decide +kernel
theorem dX2_init_36 : decode cX2_init 36 = .ok (.new 7, 3) := by decide +kernel
theorem dX2_init_39 : decode cX2_init 39 = .ok (.dup, 1) := by decide +kernel
theorem dX2_init_40 : decode cX2_init 40 = .ok (.aload_n 2, 1) := by decide +kernel
theorem dX2_init_41 : decode cX2_init 41 = .ok (.invokespecial 15, 3) := by decide +kernel
theorem dX2_init_44 : decode cX2_init 44 = .ok (.aastore, 1) := by decide +kernel
theorem dX2_init_45 : decode cX2_init 45 = .ok (.iinc 3 1, 3) := by decide +kernel
theorem dX2_init_48 : decode cX2_init 48 = .ok (.goto (-26), 3) := by decide +kernel
theorem dX2_init_51 : decode cX2_init 51 = .ok (.return_, 1) := by decide +kernel
theorem dX2_clear_0 : decode cX2_clear 0 = .ok (.aload_n 0, 1) := by decide +kernel
theorem dX2_clear_1 : decode cX2_clear 1 = .ok (.iconst 0, 1) := by decide +kernel
theorem dX2_clear_2 : decode cX2_clear 2 = .ok (.putfield 18, 3) := by decide +kernel
theorem dX2_clear_5 : decode cX2_clear 5 = .ok (.return_, 1) := by decide +kernel
theorem dX2_push_0 : decode cX2_push 0 = .ok (.aload_n 0, 1) := by decide +kernel
theorem dX2_push_1 : decode cX2_push 1 = .ok (.getfield 18, 3) := by decide +kernel
theorem dX2_push_4 : decode cX2_push 4 = .ok (.aload_n 0, 1) := by decide +kernel
theorem dX2_push_5 : decode cX2_push 5 = .ok (.getfield 9, 3) := by decide +kernel
theorem dX2_push_8 : decode cX2_push 8 = .ok (.arraylength, 1) := by decide +kernel
theorem dX2_push_9 : decode cX2_push 9 = .ok (.if_icmp .lt 7, 3) := by decide +kernel
theorem dX2_push_12 : decode cX2_push 12 = .ok (.aload_n 0, 1) := by decide +kernel
theorem dX2_push_13 : decode cX2_push 13 = .ok (.invokevirtual 22, 3) := by decide +kernel
theorem dX2_push_16 : decode cX2_push 16 = .ok (.aload_n 0, 1) := by decide +kernel
theorem dX2_push_17 : decode cX2_push 17 = .ok (.getfield 18, 3) := by decide +kernel
theorem dX2_push_20 : decode cX2_push 20 = .ok (.ifCond .lt 38, 3) := by decide +kernel
theorem dX2_push_23 : decode cX2_push 23 = .ok (.aload_n 0, 1) := by decide +kernel
theorem dX2_push_24 : decode cX2_push 24 = .ok (.getfield 18, 3) := by decide +kernel
theorem dX2_push_27 : decode cX2_push 27 = .ok (.aload_n 0, 1) := by decide +kernel
theorem dX2_push_28 : decode cX2_push 28 = .ok (.getfield 9, 3) := by decide +kernel
theorem dX2_push_31 : decode cX2_push 31 = .ok (.arraylength, 1) := by decide +kernel
theorem dX2_push_32 : decode cX2_push 32 = .ok (.if_icmp .ge 26, 3) := by decide +kernel
theorem dX2_push_35 : decode cX2_push 35 = .ok (.aload_n 0, 1) := by decide +kernel
theorem dX2_push_36 : decode cX2_push 36 = .ok (.getfield 9, 3) := by decide +kernel
theorem dX2_push_39 : decode cX2_push 39 = .ok (.aload_n 0, 1) := by decide +kernel
theorem dX2_push_40 : decode cX2_push 40 = .ok (.getfield 18, 3) := by decide +kernel
theorem dX2_push_43 : decode cX2_push 43 = .ok (.aaload, 1) := by decide +kernel
theorem dX2_push_44 : decode cX2_push 44 = .ok (.aload_n 1, 1) := by decide +kernel
theorem dX2_push_45 : decode cX2_push 45 = .ok (.invokevirtual 25, 3) := by decide +kernel
theorem dX2_push_48 : decode cX2_push 48 = .ok (.aload_n 0, 1) := by decide +kernel
theorem dX2_push_49 : decode cX2_push 49 = .ok (.dup, 1) := by decide +kernel
theorem dX2_push_50 : decode cX2_push 50 = .ok (.getfield 18, 3) := by decide +kernel
theorem dX2_push_53 : decode cX2_push 53 = .ok (.iconst 1, 1) := by decide +kernel
theorem dX2_push_54 : decode cX2_push 54 = .ok (.iadd, 1) := by decide +kernel
theorem dX2_push_55 : decode cX2_push 55 = .ok (.putfield 18, 3) := by decide +kernel
theorem dX2_push_58 : decode cX2_push 58 = .ok (.return_, 1) := by decide +kernel
theorem dX2_pop_0 : decode cX2_pop 0 = .ok (.aload_n 0, 1) := by decide +kernel
theorem dX2_pop_1 : decode cX2_pop 1 = .ok (.getfield 18, 3) := by decide +kernel
theorem dX2_pop_4 : decode cX2_pop 4 = .ok (.ifCond .le 38, 3) := by decide +kernel
theorem dX2_pop_7 : decode cX2_pop 7 = .ok (.aload_n 0, 1) := by decide +kernel
theorem dX2_pop_8 : decode cX2_pop 8 = .ok (.getfield 18, 3) := by decide +kernel
theorem dX2_pop_11 : decode cX2_pop 11 = .ok (.aload_n 0, 1) := by decide +kernel
theorem dX2_pop_12 : decode cX2_pop 12 = .ok (.getfield 9, 3) := by decide +kernel
theorem dX2_pop_15 : decode cX2_pop 15 = .ok (.arraylength, 1) := by decide +kernel
theorem dX2_pop_16 : decode cX2_pop 16 = .ok (.if_icmp .gt 26, 3) := by decide +kernel
theorem dX2_pop_19 : decode cX2_pop 19 = .ok (.aload_n 0, 1) := by decide +kernel
theorem dX2_pop_20 : decode cX2_pop 20 = .ok (.dup, 1) := by decide +kernel
theorem dX2_pop_21 : decode cX2_pop 21 = .ok (.getfield 18, 3) := by decide +kernel
theorem dX2_pop_24 : decode cX2_pop 24 = .ok (.iconst 1, 1) := by decide +kernel
theorem dX2_pop_25 : decode cX2_pop 25 = .ok (.isub, 1) := by decide +kernel
theorem dX2_pop_26 : decode cX2_pop 26 = .ok (.putfield 18, 3) := by decide +kernel
theorem dX2_pop_29 : decode cX2_pop 29 = .ok (.aload_n 1, 1) := by decide +kernel
theorem dX2_pop_30 : decode cX2_pop 30 = .ok (.aload_n 0, 1) := by decide +kernel
theorem dX2_pop_31 : decode cX2_pop 31 = .ok (.getfield 9, 3) := by decide +kernel
theorem dX2_pop_34 : decode cX2_pop 34 = .ok (.aload_n 0, 1) := by decide +kernel
theorem dX2_pop_35 : decode cX2_pop 35 = .ok (.getfield 18, 3) := by decide +kernel
theorem dX2_pop_38 : decode cX2_pop 38 = .ok (.aaload, 1) := by decide +kernel
theorem dX2_pop_39 : decode cX2_pop 39 = .ok (.invokevirtual 25, 3) := by decide +kernel
theorem dX2_pop_42 : decode cX2_pop 42 = .ok (.return_, 1) := by decide +kernel
theorem dX2_dropOldest_0 : decode cX2_dropOldest 0 = .ok (.aload_n 0, 1) := by decide +kernel
theorem dX2_dropOldest_1 : decode cX2_dropOldest 1 = .ok (.getfield 9, 3) := by decide +kernel
theorem dX2_dropOldest_4 : decode cX2_dropOldest 4 = .ok (.arraylength, 1) := by decide +kernel
theorem dX2_dropOldest_5 : decode cX2_dropOldest 5 = .ok (.ifCond .ne 4, 3) := by decide +kernel
theorem dX2_dropOldest_8 : decode cX2_dropOldest 8 = .ok (.return_, 1) := by decide +kernel
theorem dX2_dropOldest_9 : decode cX2_dropOldest 9 = .ok (.aload_n 0, 1) := by decide +kernel
theorem dX2_dropOldest_10 : decode cX2_dropOldest 10 = .ok (.getfield 9, 3) := by decide +kernel
theorem dX2_dropOldest_13 : decode cX2_dropOldest 13 = .ok (.iconst 0, 1) := by decide +kernel
theorem dX2_dropOldest_14 : decode cX2_dropOldest 14 = .ok (.aaload, 1) := by decide +kernel
theorem dX2_dropOldest_15 : decode cX2_dropOldest 15 = .ok (.astore_n 1, 1) := by decide +kernel
theorem dX2_dropOldest_16 : decode cX2_dropOldest 16 = .ok (.iconst 1, 1) := by decide +kernel
theorem dX2_dropOldest_17 : decode cX2_dropOldest 17 = .ok (.istore_n 2, 1) := by decide +kernel
theorem dX2_dropOldest_18 : decode cX2_dropOldest 18 = .ok (.iload_n 2, 1) := by decide +kernel
theorem dX2_dropOldest_19 : decode cX2_dropOldest 19 = .ok (.aload_n 0, 1) := by decide +kernel
theorem dX2_dropOldest_20 : decode cX2_dropOldest 20 = .ok (.getfield 9, 3) := by decide +kernel
theorem dX2_dropOldest_23 : decode cX2_dropOldest 23 = .ok (.arraylength, 1) := by decide +kernel
theorem dX2_dropOldest_24 : decode cX2_dropOldest 24 = .ok (.if_icmp .ge 23, 3) := by decide +kernel
theorem dX2_dropOldest_27 : decode cX2_dropOldest 27 = .ok (.aload_n 0, 1) := by decide +kernel
theorem dX2_dropOldest_28 : decode cX2_dropOldest 28 = .ok (.getfield 9, 3) := by decide +kernel
theorem dX2_dropOldest_31 : decode cX2_dropOldest 31 = .ok (.iload_n 2, 1) := by decide +kernel
theorem dX2_dropOldest_32 : decode cX2_dropOldest 32 = .ok (.iconst 1, 1) := by decide +kernel
theorem dX2_dropOldest_33 : decode cX2_dropOldest 33 = .ok (.isub, 1) := by decide +kernel
theorem dX2_dropOldest_34 : decode cX2_dropOldest 34 = .ok (.aload_n 0, 1) := by decide +kernel
theorem dX2_dropOldest_35 : decode cX2_dropOldest 35 = .ok (.getfield 9, 3) := by decide +kernel
theorem dX2_dropOldest_38 : decode cX2_dropOldest 38 = .ok (.iload_n 2, 1) := by decide +kernel
theorem dX2_dropOldest_39 : decode cX2_dropOldest 39 = .ok (.aaload, 1) := by decide +kernel
theorem dX2_dropOldest_40 : decode cX2_dropOldest 40 = .ok (.aastore, 1) := by decide +kernel
theorem dX2_dropOldest_41 : decode cX2_dropOldest 41 = .ok (.iinc 2 1, 3) := by decide +kernel
theorem dX2_dropOldest_44 : decode cX2_dropOldest 44 = .ok (.goto (-26), 3) := by decide +kernel
theorem dX2_dropOldest_47 : decode cX2_dropOldest 47 = .ok (.aload_n 0, 1) := by decide +kernel
theorem dX2_dropOldest_48 : decode cX2_dropOldest 48 = .ok (.getfield 9, 3) := by decide +kernel
theorem dX2_dropOldest_51 : decode cX2_dropOldest 51 = .ok (.aload_n 0, 1) := by decide +kernel
theorem dX2_dropOldest_52 : decode cX2_dropOldest 52 = .ok (.getfield 9, 3) := by decide +kernel
theorem dX2_dropOldest_55 : decode cX2_dropOldest 55 = .ok (.arraylength, 1) := by decide +kernel
theorem dX2_dropOldest_56 : decode cX2_dropOldest 56 = .ok (.iconst 1, 1) := by decide +kernel
theorem dX2_dropOldest_57 : decode cX2_dropOldest 57 = .ok (.isub, 1) := by decide +kernel
theorem dX2_dropOldest_58 : decode cX2_dropOldest 58 = .ok (.aload_n 1, 1) := by decide +kernel
theorem dX2_dropOldest_59 : decode cX2_dropOldest 59 = .ok (.aastore, 1) := by decide +kernel
theorem dX2_dropOldest_60 : decode cX2_dropOldest 60 = .ok (.aload_n 0, 1) := by decide +kernel
theorem dX2_dropOldest_61 : decode cX2_dropOldest 61 = .ok (.aload_n 0, 1) := by decide +kernel
theorem dX2_dropOldest_62 : decode cX2_dropOldest 62 = .ok (.getfield 9, 3) := by decide +kernel
theorem dX2_dropOldest_65 : decode cX2_dropOldest 65 = .ok (.arraylength, 1) := by decide +kernel
theorem dX2_dropOldest_66 : decode cX2_dropOldest 66 = .ok (.iconst 1, 1) := by decide +kernel
theorem dX2_dropOldest_67 : decode cX2_dropOldest 67 = .ok (.isub, 1) := by decide +kernel
theorem dX2_dropOldest_68 : decode cX2_dropOldest 68 = .ok (.putfield 18, 3) := by decide +kernel
theorem dX2_dropOldest_71 : decode cX2_dropOldest 71 = .ok (.return_, 1) := by decide +kernel
theorem dX3_init_0 : decode cX3_init 0 = .ok (.aload_n 0, 1) := by decide +kernel
theorem dX3_init_1 : decode cX3_init 1 = .ok (.invokespecial 3, 3) := by decide +kernel
theorem dX3_init_4 : decode cX3_init 4 = .ok (.aload_n 0, 1) := by decide +kernel
theorem dX3_init_5 : decode cX3_init 5 = .ok (.new 9, 3) := by decide +kernel
theorem dX3_init_8 : decode cX3_init 8 = .ok (.dup, 1) := by decide +kernel
theorem dX3_init_9 : decode cX3_init 9 = .ok (.invokespecial 11, 3) := by decide +kernel
theorem dX3_init_12 : decode cX3_init 12 = .ok (.putfield 12, 3) := by decide +kernel
theorem dX3_init_15 : decode cX3_init 15 = .ok (.aload_n 0, 1) := by decide +kernel
theorem dX3_init_16 : decode cX3_init 16 = .ok (.new 18, 3) := by decide +kernel
theorem dX3_init_19 : decode cX3_init 19 = .ok (.dup, 1) := by decide +kernel
theorem dX3_init_20 : decode cX3_init 20 = .ok (.aload_n 0, 1) := by decide +kernel
theorem dX3_init_21 : decode cX3_init 21 = .ok (.getfield 12, 3) := by decide +kernel
theorem dX3_init_24 : decode cX3_init 24 = .ok (.invokespecial 20, 3) := by decide +kernel
theorem dX3_init_27 : decode cX3_init 27 = .ok (.putfield 23, 3) := by decide +kernel
theorem dX3_init_30 : decode cX3_init 30 = .ok (.aload_n 0, 1) := by decide +kernel
theorem dX3_init_31 : decode cX3_init 31 = .ok (.bipush 7, 2) := by decide +kernel
theorem dX3_init_33 : decode cX3_init 33 = .ok (.newarray .int, 2) := by decide +kernel
theorem dX3_init_35 : decode cX3_init 35 = .ok (.putfield 27, 3) := by decide +kernel
theorem dX3_init_38 : decode cX3_init 38 = .ok (.aload_n 0, 1) := by decide +kernel
theorem dX3_init_39 : decode cX3_init 39 = .ok (.iconst 0, 1) := by decide +kernel
theorem dX3_init_40 : decode cX3_init 40 = .ok (.newarray .char, 2) := by decide +kernel
theorem dX3_init_42 : decode cX3_init 42 = .ok (.putfield 31, 3) := by decide +kernel
theorem dX3_init_45 : decode cX3_init 45 = .ok (.return_, 1) := by decide +kernel
theorem dX3_readText_0 : decode cX3_readText 0 = .ok (.aload_n 0, 1) := by decide +kernel
theorem dX3_readText_1 : decode cX3_readText 1 = .ok (.aload_n 1, 1) := by decide +kernel
theorem dX3_readText_2 : decode cX3_readText 2 = .ok (.putfield 31, 3) := by decide +kernel
theorem dX3_readText_5 : decode cX3_readText 5 = .ok (.aload_n 0, 1) := by decide +kernel
theorem dX3_readText_6 : decode cX3_readText 6 = .ok (.iload_n 2, 1) := by decide +kernel
theorem dX3_readText_7 : decode cX3_readText 7 = .ok (.aload_n 1, 1) := by decide +kernel
theorem dX3_readText_8 : decode cX3_readText 8 = .ok (.arraylength, 1) := by decide +kernel
theorem dX3_readText_9 : decode cX3_readText 9 = .ok (.invokestatic 35, 3) := by decide +kernel
theorem dX3_readText_12 : decode cX3_readText 12 = .ok (.putfield 41, 3) := by decide +kernel
theorem dX3_readText_15 : decode cX3_readText 15 = .ok (.aload_n 0, 1) := by decide +kernel
theorem dX3_readText_16 : decode cX3_readText 16 = .ok (.iconst 0, 1) := by decide +kernel
theorem dX3_readText_17 : decode cX3_readText 17 = .ok (.putfield 45, 3) := by decide +kernel
theorem dX3_readText_20 : decode cX3_readText 20 = .ok (.aload_n 0, 1) := by decide +kernel
theorem dX3_readText_21 : decode cX3_readText 21 = .ok (.getfield 12, 3) := by decide +kernel
theorem dX3_readText_24 : decode cX3_readText 24 = .ok (.invokevirtual 48, 3) := by decide +kernel
theorem dX3_readText_27 : decode cX3_readText 27 = .ok (.aload_n 0, 1) := by decide +kernel
theorem dX3_readText_28 : decode cX3_readText 28 = .ok (.getfield 23, 3) := by decide +kernel
theorem dX3_readText_31 : decode cX3_readText 31 = .ok (.invokevirtual 51, 3) := by decide +kernel
theorem dX3_readText_34 : decode cX3_readText 34 = .ok (.iconst 0, 1) := by decide +kernel
theorem dX3_readText_35 : decode cX3_readText 35 = .ok (.istore_n 3, 1) := by decide +kernel
theorem dX3_readText_36 : decode cX3_readText 36 = .ok (.iload_n 3, 1) := by decide +kernel
theorem dX3_readText_37 : decode cX3_readText 37 = .ok (.sipush 200, 3) := by decide +kernel
theorem dX3_readText_40 : decode cX3_readText 40 = .ok (.if_icmp .ge 36, 3) := by decide +kernel
theorem dX3_readText_43 : decode cX3_readText 43 = .ok (.aload_n 0, 1) := by decide +kernel
theorem dX3_readText_44 : decode cX3_readText 44 = .ok (.getfield 45, 3) := by decide +kernel
theorem dX3_readText_47 : decode cX3_readText 47 = .ok (.aload_n 0, 1) := by decide +kernel
theorem dX3_readText_48 : decode cX3_readText 48 = .ok (.getfield 41, 3) := by decide +kernel
theorem dX3_readText_51 : decode cX3_readText 51 = .ok (.if_icmp .ge 25, 3) := by decide +kernel
theorem dX3_readText_54 : decode cX3_readText 54 = .ok (.aload_n 0, 1) := by decide +kernel
theorem dX3_readText_55 : decode cX3_readText 55 = .ok (.getfield 45, 3) := by decide +kernel
theorem dX3_readText_58 : decode cX3_readText 58 = .ok (.istore 4, 2) := by decide +kernel
theorem dX3_readText_60 : decode cX3_readText 60 = .ok (.aload_n 0, 1) := by decide +kernel
theorem dX3_readText_61 : decode cX3_readText 61 = .ok (.invokevirtual 52, 3) := by decide +kernel
theorem dX3_readText_64 : decode cX3_readText 64 = .ok (.ifCond .ne 6, 3) := by decide +kernel
theorem dX3_readText_67 : decode cX3_readText 67 = .ok (.iload 4, 2) := by decide +kernel
theorem dX3_readText_69 : decode cX3_readText 69 = .ok (.ireturn, 1) := by decide +kernel
theorem dX3_readText_70 : decode cX3_readText 70 = .ok (.iinc 3 1, 3) := by decide +kernel
theorem dX3_readText_73 : decode cX3_readText 73 = .ok (.goto (-37), 3) := by decide +kernel
theorem dX3_readText_76 : decode cX3_readText 76 = .ok (.bipush (-4), 2) := by decide +kernel
theorem dX3_readText_78 : decode cX3_readText 78 = .ok (.ireturn, 1) := by decide +kernel
theorem dX3_readItem_0 : decode cX3_readItem 0 = .ok (.aload_n 0, 1) := by decide +kernel
theorem dX3_readItem_1 : decode cX3_readItem 1 = .ok (.invokevirtual 56, 3) := by decide +kernel
theorem dX3_readItem_4 : decode cX3_readItem 4 = .ok (.lookupswitch 81 #[(108, 36), (111, 41), (116, 61)], 36) := by decide +kernel
theorem dX3_readItem_40 : decode cX3_readItem 40 = .ok (.aload_n 0, 1) := by decide +kernel
theorem dX3_readItem_41 : decode cX3_readItem 41 = .ok (.invokevirtual 60, 3) := by decide +kernel
theorem dX3_readItem_44 : decode cX3_readItem 44 = .ok (.ireturn, 1) := by decide +kernel
theorem dX3_readItem_45 : decode cX3_readItem 45 = .ok (.aload_n 0, 1) := by decide +kernel
theorem dX3_readItem_46 : decode cX3_readItem 46 = .ok (.invokevirtual 63, 3) := by decide +kernel
theorem dX3_readItem_49 : decode cX3_readItem 49 = .ok (.ifCond .eq 14, 3) := by decide +kernel
theorem dX3_readItem_52 : decode cX3_readItem 52 = .ok (.aload_n 0, 1) := by decide +kernel
theorem dX3_readItem_53 : decode cX3_readItem 53 = .ok (.invokevirtual 66, 3) := by decide +kernel
theorem dX3_readItem_56 : decode cX3_readItem 56 = .ok (.ifCond .eq 7, 3) := by decide +kernel
theorem dX3_readItem_59 : decode cX3_readItem 59 = .ok (.iconst 1, 1) := by decide +kernel
theorem dX3_readItem_60 : decode cX3_readItem 60 = .ok (.goto 4, 3) := by decide +kernel
theorem dX3_readItem_63 : decode cX3_readItem 63 = .ok (.iconst 0, 1) := by decide +kernel
theorem dX3_readItem_64 : decode cX3_readItem 64 = .ok (.ireturn, 1) := by decide +kernel
theorem dX3_readItem_65 : decode cX3_readItem 65 = .ok (.aload_n 0, 1) := by decide +kernel
theorem dX3_readItem_66 : decode cX3_readItem 66 = .ok (.invokevirtual 63, 3) := by decide +kernel
theorem dX3_readItem_69 : decode cX3_readItem 69 = .ok (.ifCond .eq 14, 3) := by decide +kernel
theorem dX3_readItem_72 : decode cX3_readItem 72 = .ok (.aload_n 0, 1) := by decide +kernel
theorem dX3_readItem_73 : decode cX3_readItem 73 = .ok (.invokevirtual 69, 3) := by decide +kernel
theorem dX3_readItem_76 : decode cX3_readItem 76 = .ok (.ifCond .eq 7, 3) := by decide +kernel
theorem dX3_readItem_79 : decode cX3_readItem 79 = .ok (.iconst 1, 1) := by decide +kernel
theorem dX3_readItem_80 : decode cX3_readItem 80 = .ok (.goto 4, 3) := by decide +kernel
theorem dX3_readItem_83 : decode cX3_readItem 83 = .ok (.iconst 0, 1) := by decide +kernel
theorem dX3_readItem_84 : decode cX3_readItem 84 = .ok (.ireturn, 1) := by decide +kernel
theorem dX3_readItem_85 : decode cX3_readItem 85 = .ok (.iconst 0, 1) := by decide +kernel
theorem dX3_readItem_86 : decode cX3_readItem 86 = .ok (.ireturn, 1) := by decide +kernel
theorem dX3_nextLetter_0 : decode cX3_nextLetter 0 = .ok (.aload_n 0, 1) := by decide +kernel
theorem dX3_nextLetter_1 : decode cX3_nextLetter 1 = .ok (.getfield 45, 3) := by decide +kernel
theorem dX3_nextLetter_4 : decode cX3_nextLetter 4 = .ok (.ifCond .lt 26, 3) := by decide +kernel
theorem dX3_nextLetter_7 : decode cX3_nextLetter 7 = .ok (.aload_n 0, 1) := by decide +kernel
theorem dX3_nextLetter_8 : decode cX3_nextLetter 8 = .ok (.getfield 45, 3) := by decide +kernel
theorem dX3_nextLetter_11 : decode cX3_nextLetter 11 = .ok (.aload_n 0, 1) := by decide +kernel
theorem dX3_nextLetter_12 : decode cX3_nextLetter 12 = .ok (.getfield 41, 3) := by decide +kernel
theorem dX3_nextLetter_15 : decode cX3_nextLetter 15 = .ok (.if_icmp .ge 15, 3) := by decide +kernel
theorem dX3_nextLetter_18 : decode cX3_nextLetter 18 = .ok (.aload_n 0, 1) := by decide +kernel
theorem dX3_nextLetter_19 : decode cX3_nextLetter 19 = .ok (.getfield 45, 3) := by decide +kernel
theorem dX3_nextLetter_22 : decode cX3_nextLetter 22 = .ok (.aload_n 0, 1) := by decide +kernel
theorem dX3_nextLetter_23 : decode cX3_nextLetter 23 = .ok (.getfield 31, 3) := by decide +kernel
theorem dX3_nextLetter_26 : decode cX3_nextLetter 26 = .ok (.arraylength, 1) := by decide +kernel
theorem dX3_nextLetter_27 : decode cX3_nextLetter 27 = .ok (.if_icmp .lt 5, 3) := by decide +kernel
theorem dX3_nextLetter_30 : decode cX3_nextLetter 30 = .ok (.iconst 0, 1) := by decide +kernel
theorem dX3_nextLetter_31 : decode cX3_nextLetter 31 = .ok (.ireturn, 1) := by decide +kernel
theorem dX3_nextLetter_32 : decode cX3_nextLetter 32 = .ok (.aload_n 0, 1) := by decide +kernel
theorem dX3_nextLetter_33 : decode cX3_nextLetter 33 = .ok (.getfield 31, 3) := by decide +kernel
theorem dX3_nextLetter_36 : decode cX3_nextLetter 36 = .ok (.aload_n 0, 1) := by decide +kernel
theorem dX3_nextLetter_37 : decode cX3_nextLetter 37 = .ok (.getfield 45, 3) := by decide +kernel
theorem dX3_nextLetter_40 : decode cX3_nextLetter 40 = .ok (.caload, 1) := by decide +kernel
theorem dX3_nextLetter_41 : decode cX3_nextLetter 41 = .ok (.istore_n 1, 1) := by decide +kernel
theorem dX3_nextLetter_42 : decode cX3_nextLetter 42 = .ok (.aload_n 0, 1) := by decide +kernel
theorem dX3_nextLetter_43 : decode cX3_nextLetter 43 = .ok (.dup, 1) := by decide +kernel
theorem dX3_nextLetter_44 : decode cX3_nextLetter 44 = .ok (.getfield 45, 3) := by decide +kernel
theorem dX3_nextLetter_47 : decode cX3_nextLetter 47 = .ok (.iconst 1, 1) := by decide +kernel
theorem dX3_nextLetter_48 : decode cX3_nextLetter 48 = .ok (.iadd, 1) := by decide +kernel
theorem dX3_nextLetter_49 : decode cX3_nextLetter 49 = .ok (.putfield 45, 3) := by decide +kernel
theorem dX3_nextLetter_52 : decode cX3_nextLetter 52 = .ok (.iload_n 1, 1) := by decide +kernel
theorem dX3_nextLetter_53 : decode cX3_nextLetter 53 = .ok (.ireturn, 1) := by decide +kernel
theorem dX3_readLine_0 : decode cX3_readLine 0 = .ok (.aload_n 0, 1) := by decide +kernel
theorem dX3_readLine_1 : decode cX3_readLine 1 = .ok (.getfield 12, 3) := by decide +kernel
theorem dX3_readLine_4 : decode cX3_readLine 4 = .ok (.getfield 72, 3) := by decide +kernel
theorem dX3_readLine_7 : decode cX3_readLine 7 = .ok (.bipush 6, 2) := by decide +kernel
theorem dX3_readLine_9 : decode cX3_readLine 9 = .ok (.if_icmp .lt 5, 3) := by decide +kernel
theorem dX3_readLine_12 : decode cX3_readLine 12 = .ok (.iconst 0, 1) := by decide +kernel
theorem dX3_readLine_13 : decode cX3_readLine 13 = .ok (.ireturn, 1) := by decide +kernel
