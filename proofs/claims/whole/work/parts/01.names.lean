-- ===== PART A: goes FIRST, ahead of the names: the tables' words, and 'selects' of the private methods out of them =====
/-- a private method of a class that the tables say can be made, by its rows of tables_1 -/
def lw_okq (q : MethodName × Nat) : Prop := (q.1.cls ≠ "java/lang/invoke/MethodHandle" ∧ q.1.cls ≠ "java/lang/invoke/VarHandle") ∧ Cond.instantiable q.1.cls q.2 ∈ tables_1 ∧ Cond.privateMethod q.1 ∈ tables_1 ∧ Cond.instanceMethod q.1 ∈ tables_1
theorem lw_p0 : lw_okq (⟨"WalkingOrchard", "firstTreeBehind", "(IIJ)I"⟩, 14) := ⟨⟨by decide +kernel, by decide +kernel⟩, List.mem_of_getElem? (i := 15) (by decide +kernel), List.mem_of_getElem? (i := 542) (by decide +kernel), List.mem_of_getElem? (i := 543) (by decide +kernel)⟩
theorem lw_p1 : lw_okq (⟨"WalkingOrchard", "ownedBehind", "(IIJ)I"⟩, 14) := ⟨⟨by decide +kernel, by decide +kernel⟩, List.mem_of_getElem? (i := 15) (by decide +kernel), List.mem_of_getElem? (i := 551) (by decide +kernel), List.mem_of_getElem? (i := 552) (by decide +kernel)⟩
theorem lw_p2 : lw_okq (⟨"WalkingOrchard", "noneOrOneDitch", "(III)I"⟩, 14) := ⟨⟨by decide +kernel, by decide +kernel⟩, List.mem_of_getElem? (i := 15) (by decide +kernel), List.mem_of_getElem? (i := 583) (by decide +kernel), List.mem_of_getElem? (i := 584) (by decide +kernel)⟩
theorem lw_p3 : lw_okq (⟨"WalkingOrchard", "twoDitches", "(III)I"⟩, 14) := ⟨⟨by decide +kernel, by decide +kernel⟩, List.mem_of_getElem? (i := 15) (by decide +kernel), List.mem_of_getElem? (i := 592) (by decide +kernel), List.mem_of_getElem? (i := 593) (by decide +kernel)⟩
theorem lw_p4 : lw_okq (⟨"WalkingOrchard", "allSeenComes", "(I)Z"⟩, 14) := ⟨⟨by decide +kernel, by decide +kernel⟩, List.mem_of_getElem? (i := 15) (by decide +kernel), List.mem_of_getElem? (i := 612) (by decide +kernel), List.mem_of_getElem? (i := 613) (by decide +kernel)⟩
theorem lw_p5 : lw_okq (⟨"WalkingOrchard", "casesOfFrost", "(IIII)J"⟩, 14) := ⟨⟨by decide +kernel, by decide +kernel⟩, List.mem_of_getElem? (i := 15) (by decide +kernel), List.mem_of_getElem? (i := 620) (by decide +kernel), List.mem_of_getElem? (i := 621) (by decide +kernel)⟩
theorem lw_p6 : lw_okq (⟨"WalkingOrchard", "firstTreeOfFrost", "(III)I"⟩, 14) := ⟨⟨by decide +kernel, by decide +kernel⟩, List.mem_of_getElem? (i := 15) (by decide +kernel), List.mem_of_getElem? (i := 624) (by decide +kernel), List.mem_of_getElem? (i := 625) (by decide +kernel)⟩
theorem lw_p7 : lw_okq (⟨"WalkingOrchard", "disturbAhead", "(I)V"⟩, 14) := ⟨⟨by decide +kernel, by decide +kernel⟩, List.mem_of_getElem? (i := 15) (by decide +kernel), List.mem_of_getElem? (i := 641) (by decide +kernel), List.mem_of_getElem? (i := 642) (by decide +kernel)⟩
theorem lw_p8 : lw_okq (⟨"WalkingOrchardModel", "begins", "()V"⟩, 14) := ⟨⟨by decide +kernel, by decide +kernel⟩, List.mem_of_getElem? (i := 663) (by decide +kernel), List.mem_of_getElem? (i := 669) (by decide +kernel), List.mem_of_getElem? (i := 670) (by decide +kernel)⟩
theorem lw_p9 : lw_okq (⟨"WalkingOrchardModel", "owns", "(III)V"⟩, 14) := ⟨⟨by decide +kernel, by decide +kernel⟩, List.mem_of_getElem? (i := 663) (by decide +kernel), List.mem_of_getElem? (i := 673) (by decide +kernel), List.mem_of_getElem? (i := 674) (by decide +kernel)⟩
theorem lw_p10 : lw_okq (⟨"WalkingOrchardModel", "rowOf", "(III)V"⟩, 14) := ⟨⟨by decide +kernel, by decide +kernel⟩, List.mem_of_getElem? (i := 663) (by decide +kernel), List.mem_of_getElem? (i := 677) (by decide +kernel), List.mem_of_getElem? (i := 678) (by decide +kernel)⟩
theorem lw_p11 : lw_okq (⟨"WalkingOrchardModel", "stands", "(I)V"⟩, 14) := ⟨⟨by decide +kernel, by decide +kernel⟩, List.mem_of_getElem? (i := 663) (by decide +kernel), List.mem_of_getElem? (i := 681) (by decide +kernel), List.mem_of_getElem? (i := 682) (by decide +kernel)⟩
theorem lw_p12 : lw_okq (⟨"WalkingOrchardModel", "lays", "()V"⟩, 14) := ⟨⟨by decide +kernel, by decide +kernel⟩, List.mem_of_getElem? (i := 663) (by decide +kernel), List.mem_of_getElem? (i := 685) (by decide +kernel), List.mem_of_getElem? (i := 686) (by decide +kernel)⟩
theorem lw_p13 : lw_okq (⟨"WalkingOrchardModel", "readsAll", "()I"⟩, 14) := ⟨⟨by decide +kernel, by decide +kernel⟩, List.mem_of_getElem? (i := 663) (by decide +kernel), List.mem_of_getElem? (i := 747) (by decide +kernel), List.mem_of_getElem? (i := 748) (by decide +kernel)⟩
theorem lw_p14 : lw_okq (⟨"WalkingOrchardModel", "readsLine", "()Z"⟩, 14) := ⟨⟨by decide +kernel, by decide +kernel⟩, List.mem_of_getElem? (i := 663) (by decide +kernel), List.mem_of_getElem? (i := 751) (by decide +kernel), List.mem_of_getElem? (i := 752) (by decide +kernel)⟩
theorem lw_p15 : lw_okq (⟨"WalkingOrchardModel", "letterAt", "(I)I"⟩, 14) := ⟨⟨by decide +kernel, by decide +kernel⟩, List.mem_of_getElem? (i := 663) (by decide +kernel), List.mem_of_getElem? (i := 755) (by decide +kernel), List.mem_of_getElem? (i := 756) (by decide +kernel)⟩
def lw_privs_1 : List (MethodName × Nat) := [(⟨"WalkingOrchard", "firstTreeBehind", "(IIJ)I"⟩, 14), (⟨"WalkingOrchard", "ownedBehind", "(IIJ)I"⟩, 14), (⟨"WalkingOrchard", "noneOrOneDitch", "(III)I"⟩, 14), (⟨"WalkingOrchard", "twoDitches", "(III)I"⟩, 14), (⟨"WalkingOrchard", "allSeenComes", "(I)Z"⟩, 14), (⟨"WalkingOrchard", "casesOfFrost", "(IIII)J"⟩, 14), (⟨"WalkingOrchard", "firstTreeOfFrost", "(III)I"⟩, 14), (⟨"WalkingOrchard", "disturbAhead", "(I)V"⟩, 14), (⟨"WalkingOrchardModel", "begins", "()V"⟩, 14), (⟨"WalkingOrchardModel", "owns", "(III)V"⟩, 14), (⟨"WalkingOrchardModel", "rowOf", "(III)V"⟩, 14), (⟨"WalkingOrchardModel", "stands", "(I)V"⟩, 14), (⟨"WalkingOrchardModel", "lays", "()V"⟩, 14), (⟨"WalkingOrchardModel", "readsAll", "()I"⟩, 14), (⟨"WalkingOrchardModel", "readsLine", "()Z"⟩, 14), (⟨"WalkingOrchardModel", "letterAt", "(I)I"⟩, 14)]
theorem lw_r1 : ∀ q ∈ lw_privs_1, lw_okq q := List.forall_mem_cons.mpr ⟨lw_p0, List.forall_mem_cons.mpr ⟨lw_p1, List.forall_mem_cons.mpr ⟨lw_p2, List.forall_mem_cons.mpr ⟨lw_p3, List.forall_mem_cons.mpr ⟨lw_p4, List.forall_mem_cons.mpr ⟨lw_p5, List.forall_mem_cons.mpr ⟨lw_p6, List.forall_mem_cons.mpr ⟨lw_p7, List.forall_mem_cons.mpr ⟨lw_p8, List.forall_mem_cons.mpr ⟨lw_p9, List.forall_mem_cons.mpr ⟨lw_p10, List.forall_mem_cons.mpr ⟨lw_p11, List.forall_mem_cons.mpr ⟨lw_p12, List.forall_mem_cons.mpr ⟨lw_p13, List.forall_mem_cons.mpr ⟨lw_p14, List.forall_mem_cons.mpr ⟨lw_p15, fun _ h => absurd h List.not_mem_nil⟩⟩⟩⟩⟩⟩⟩⟩⟩⟩⟩⟩⟩⟩⟩⟩
theorem lw_p16 : lw_okq (⟨"WalkingOrchardModel", "readsOwner", "()Z"⟩, 14) := ⟨⟨by decide +kernel, by decide +kernel⟩, List.mem_of_getElem? (i := 663) (by decide +kernel), List.mem_of_getElem? (i := 759) (by decide +kernel), List.mem_of_getElem? (i := 760) (by decide +kernel)⟩
theorem lw_p17 : lw_okq (⟨"WalkingOrchardModel", "number", "(III)I"⟩, 14) := ⟨⟨by decide +kernel, by decide +kernel⟩, List.mem_of_getElem? (i := 663) (by decide +kernel), List.mem_of_getElem? (i := 763) (by decide +kernel), List.mem_of_getElem? (i := 764) (by decide +kernel)⟩
theorem lw_p18 : lw_okq (⟨"WalkingOrchardModel", "figures", "(II)I"⟩, 14) := ⟨⟨by decide +kernel, by decide +kernel⟩, List.mem_of_getElem? (i := 663) (by decide +kernel), List.mem_of_getElem? (i := 767) (by decide +kernel), List.mem_of_getElem? (i := 768) (by decide +kernel)⟩
theorem lw_p19 : lw_okq (⟨"WalkingOrchardModel", "readsRow", "()Z"⟩, 14) := ⟨⟨by decide +kernel, by decide +kernel⟩, List.mem_of_getElem? (i := 663) (by decide +kernel), List.mem_of_getElem? (i := 774) (by decide +kernel), List.mem_of_getElem? (i := 775) (by decide +kernel)⟩
theorem lw_p20 : lw_okq (⟨"WalkingOrchardModel", "isTree", "(I)Z"⟩, 14) := ⟨⟨by decide +kernel, by decide +kernel⟩, List.mem_of_getElem? (i := 663) (by decide +kernel), List.mem_of_getElem? (i := 778) (by decide +kernel), List.mem_of_getElem? (i := 779) (by decide +kernel)⟩
theorem lw_p21 : lw_okq (⟨"WalkingOrchardModel", "isCell", "(I)Z"⟩, 14) := ⟨⟨by decide +kernel, by decide +kernel⟩, List.mem_of_getElem? (i := 663) (by decide +kernel), List.mem_of_getElem? (i := 793) (by decide +kernel), List.mem_of_getElem? (i := 794) (by decide +kernel)⟩
theorem lw_p22 : lw_okq (⟨"WalkingOrchardModel", "lies", "(I)I"⟩, 14) := ⟨⟨by decide +kernel, by decide +kernel⟩, List.mem_of_getElem? (i := 663) (by decide +kernel), List.mem_of_getElem? (i := 797) (by decide +kernel), List.mem_of_getElem? (i := 798) (by decide +kernel)⟩
theorem lw_p23 : lw_okq (⟨"WalkingOrchardModel", "treeIn", "(I)I"⟩, 14) := ⟨⟨by decide +kernel, by decide +kernel⟩, List.mem_of_getElem? (i := 663) (by decide +kernel), List.mem_of_getElem? (i := 801) (by decide +kernel), List.mem_of_getElem? (i := 802) (by decide +kernel)⟩
theorem lw_p24 : lw_okq (⟨"WalkingOrchardModel", "isRow", "(I)Z"⟩, 14) := ⟨⟨by decide +kernel, by decide +kernel⟩, List.mem_of_getElem? (i := 663) (by decide +kernel), List.mem_of_getElem? (i := 809) (by decide +kernel), List.mem_of_getElem? (i := 810) (by decide +kernel)⟩
theorem lw_p25 : lw_okq (⟨"WalkingOrchardModel", "headsFor", "(I)I"⟩, 14) := ⟨⟨by decide +kernel, by decide +kernel⟩, List.mem_of_getElem? (i := 663) (by decide +kernel), List.mem_of_getElem? (i := 813) (by decide +kernel), List.mem_of_getElem? (i := 814) (by decide +kernel)⟩
theorem lw_p26 : lw_okq (⟨"WalkingOrchardModel", "beside", "(II)I"⟩, 14) := ⟨⟨by decide +kernel, by decide +kernel⟩, List.mem_of_getElem? (i := 663) (by decide +kernel), List.mem_of_getElem? (i := 817) (by decide +kernel), List.mem_of_getElem? (i := 818) (by decide +kernel)⟩
theorem lw_p27 : lw_okq (⟨"WalkingOrchardModel", "isOpen", "(II)Z"⟩, 14) := ⟨⟨by decide +kernel, by decide +kernel⟩, List.mem_of_getElem? (i := 663) (by decide +kernel), List.mem_of_getElem? (i := 821) (by decide +kernel), List.mem_of_getElem? (i := 822) (by decide +kernel)⟩
theorem lw_p28 : lw_okq (⟨"WalkingOrchardModel", "keeps", "()V"⟩, 14) := ⟨⟨by decide +kernel, by decide +kernel⟩, List.mem_of_getElem? (i := 663) (by decide +kernel), List.mem_of_getElem? (i := 837) (by decide +kernel), List.mem_of_getElem? (i := 838) (by decide +kernel)⟩
theorem lw_p29 : lw_okq (⟨"WalkingOrchardModel", "passes", "(I)V"⟩, 14) := ⟨⟨by decide +kernel, by decide +kernel⟩, List.mem_of_getElem? (i := 663) (by decide +kernel), List.mem_of_getElem? (i := 841) (by decide +kernel), List.mem_of_getElem? (i := 842) (by decide +kernel)⟩
theorem lw_p30 : lw_okq (⟨"WalkingOrchardModel", "hasMate", "(II)Z"⟩, 14) := ⟨⟨by decide +kernel, by decide +kernel⟩, List.mem_of_getElem? (i := 663) (by decide +kernel), List.mem_of_getElem? (i := 845) (by decide +kernel), List.mem_of_getElem? (i := 846) (by decide +kernel)⟩
theorem lw_p31 : lw_okq (⟨"WalkingOrchardModel", "mayDig", "(I)Z"⟩, 14) := ⟨⟨by decide +kernel, by decide +kernel⟩, List.mem_of_getElem? (i := 663) (by decide +kernel), List.mem_of_getElem? (i := 853) (by decide +kernel), List.mem_of_getElem? (i := 854) (by decide +kernel)⟩
def lw_privs_2 : List (MethodName × Nat) := [(⟨"WalkingOrchardModel", "readsOwner", "()Z"⟩, 14), (⟨"WalkingOrchardModel", "number", "(III)I"⟩, 14), (⟨"WalkingOrchardModel", "figures", "(II)I"⟩, 14), (⟨"WalkingOrchardModel", "readsRow", "()Z"⟩, 14), (⟨"WalkingOrchardModel", "isTree", "(I)Z"⟩, 14), (⟨"WalkingOrchardModel", "isCell", "(I)Z"⟩, 14), (⟨"WalkingOrchardModel", "lies", "(I)I"⟩, 14), (⟨"WalkingOrchardModel", "treeIn", "(I)I"⟩, 14), (⟨"WalkingOrchardModel", "isRow", "(I)Z"⟩, 14), (⟨"WalkingOrchardModel", "headsFor", "(I)I"⟩, 14), (⟨"WalkingOrchardModel", "beside", "(II)I"⟩, 14), (⟨"WalkingOrchardModel", "isOpen", "(II)Z"⟩, 14), (⟨"WalkingOrchardModel", "keeps", "()V"⟩, 14), (⟨"WalkingOrchardModel", "passes", "(I)V"⟩, 14), (⟨"WalkingOrchardModel", "hasMate", "(II)Z"⟩, 14), (⟨"WalkingOrchardModel", "mayDig", "(I)Z"⟩, 14)]
theorem lw_r2 : ∀ q ∈ lw_privs_2, lw_okq q := List.forall_mem_cons.mpr ⟨lw_p16, List.forall_mem_cons.mpr ⟨lw_p17, List.forall_mem_cons.mpr ⟨lw_p18, List.forall_mem_cons.mpr ⟨lw_p19, List.forall_mem_cons.mpr ⟨lw_p20, List.forall_mem_cons.mpr ⟨lw_p21, List.forall_mem_cons.mpr ⟨lw_p22, List.forall_mem_cons.mpr ⟨lw_p23, List.forall_mem_cons.mpr ⟨lw_p24, List.forall_mem_cons.mpr ⟨lw_p25, List.forall_mem_cons.mpr ⟨lw_p26, List.forall_mem_cons.mpr ⟨lw_p27, List.forall_mem_cons.mpr ⟨lw_p28, List.forall_mem_cons.mpr ⟨lw_p29, List.forall_mem_cons.mpr ⟨lw_p30, List.forall_mem_cons.mpr ⟨lw_p31, fun _ h => absurd h List.not_mem_nil⟩⟩⟩⟩⟩⟩⟩⟩⟩⟩⟩⟩⟩⟩⟩⟩
theorem lw_p32 : lw_okq (⟨"WalkingOrchardModel", "countOf", "(I)I"⟩, 14) := ⟨⟨by decide +kernel, by decide +kernel⟩, List.mem_of_getElem? (i := 663) (by decide +kernel), List.mem_of_getElem? (i := 857) (by decide +kernel), List.mem_of_getElem? (i := 858) (by decide +kernel)⟩
theorem lw_p33 : lw_okq (⟨"WalkingOrchardModel", "leaves", "(I)I"⟩, 14) := ⟨⟨by decide +kernel, by decide +kernel⟩, List.mem_of_getElem? (i := 663) (by decide +kernel), List.mem_of_getElem? (i := 869) (by decide +kernel), List.mem_of_getElem? (i := 870) (by decide +kernel)⟩
theorem lw_p34 : lw_okq (⟨"WalkingOrchardModel", "behindOf", "(II)I"⟩, 14) := ⟨⟨by decide +kernel, by decide +kernel⟩, List.mem_of_getElem? (i := 663) (by decide +kernel), List.mem_of_getElem? (i := 881) (by decide +kernel), List.mem_of_getElem? (i := 882) (by decide +kernel)⟩
theorem lw_p35 : lw_okq (⟨"WalkingOrchardModel", "holds", "()V"⟩, 14) := ⟨⟨by decide +kernel, by decide +kernel⟩, List.mem_of_getElem? (i := 663) (by decide +kernel), List.mem_of_getElem? (i := 885) (by decide +kernel), List.mem_of_getElem? (i := 886) (by decide +kernel)⟩
theorem lw_p36 : lw_okq (⟨"WalkingOrchardModel", "lets", "()V"⟩, 14) := ⟨⟨by decide +kernel, by decide +kernel⟩, List.mem_of_getElem? (i := 663) (by decide +kernel), List.mem_of_getElem? (i := 889) (by decide +kernel), List.mem_of_getElem? (i := 890) (by decide +kernel)⟩
theorem lw_p37 : lw_okq (⟨"WalkingOrchardModel", "areBeside", "(II)Z"⟩, 14) := ⟨⟨by decide +kernel, by decide +kernel⟩, List.mem_of_getElem? (i := 663) (by decide +kernel), List.mem_of_getElem? (i := 905) (by decide +kernel), List.mem_of_getElem? (i := 906) (by decide +kernel)⟩
theorem lw_p38 : lw_okq (⟨"WalkingOrchardModel", "isAgain", "()Z"⟩, 14) := ⟨⟨by decide +kernel, by decide +kernel⟩, List.mem_of_getElem? (i := 663) (by decide +kernel), List.mem_of_getElem? (i := 913) (by decide +kernel), List.mem_of_getElem? (i := 914) (by decide +kernel)⟩
theorem lw_p39 : lw_okq (⟨"WalkingOrchardModel", "brings", "(IIIII)Z"⟩, 14) := ⟨⟨by decide +kernel, by decide +kernel⟩, List.mem_of_getElem? (i := 663) (by decide +kernel), List.mem_of_getElem? (i := 921) (by decide +kernel), List.mem_of_getElem? (i := 922) (by decide +kernel)⟩
theorem lw_p40 : lw_okq (⟨"WalkingOrchardModel", "isSo", "(I)Z"⟩, 14) := ⟨⟨by decide +kernel, by decide +kernel⟩, List.mem_of_getElem? (i := 663) (by decide +kernel), List.mem_of_getElem? (i := 941) (by decide +kernel), List.mem_of_getElem? (i := 942) (by decide +kernel)⟩
theorem lw_p41 : lw_okq (⟨"WalkingOrchardModel", "turn", "(I)V"⟩, 14) := ⟨⟨by decide +kernel, by decide +kernel⟩, List.mem_of_getElem? (i := 663) (by decide +kernel), List.mem_of_getElem? (i := 956) (by decide +kernel), List.mem_of_getElem? (i := 957) (by decide +kernel)⟩
theorem lw_p42 : lw_okq (⟨"WalkingOrchardModel", "allHave", "()I"⟩, 14) := ⟨⟨by decide +kernel, by decide +kernel⟩, List.mem_of_getElem? (i := 663) (by decide +kernel), List.mem_of_getElem? (i := 960) (by decide +kernel), List.mem_of_getElem? (i := 961) (by decide +kernel)⟩
def lw_privs_3 : List (MethodName × Nat) := [(⟨"WalkingOrchardModel", "countOf", "(I)I"⟩, 14), (⟨"WalkingOrchardModel", "leaves", "(I)I"⟩, 14), (⟨"WalkingOrchardModel", "behindOf", "(II)I"⟩, 14), (⟨"WalkingOrchardModel", "holds", "()V"⟩, 14), (⟨"WalkingOrchardModel", "lets", "()V"⟩, 14), (⟨"WalkingOrchardModel", "areBeside", "(II)Z"⟩, 14), (⟨"WalkingOrchardModel", "isAgain", "()Z"⟩, 14), (⟨"WalkingOrchardModel", "brings", "(IIIII)Z"⟩, 14), (⟨"WalkingOrchardModel", "isSo", "(I)Z"⟩, 14), (⟨"WalkingOrchardModel", "turn", "(I)V"⟩, 14), (⟨"WalkingOrchardModel", "allHave", "()I"⟩, 14)]
theorem lw_r3 : ∀ q ∈ lw_privs_3, lw_okq q := List.forall_mem_cons.mpr ⟨lw_p32, List.forall_mem_cons.mpr ⟨lw_p33, List.forall_mem_cons.mpr ⟨lw_p34, List.forall_mem_cons.mpr ⟨lw_p35, List.forall_mem_cons.mpr ⟨lw_p36, List.forall_mem_cons.mpr ⟨lw_p37, List.forall_mem_cons.mpr ⟨lw_p38, List.forall_mem_cons.mpr ⟨lw_p39, List.forall_mem_cons.mpr ⟨lw_p40, List.forall_mem_cons.mpr ⟨lw_p41, List.forall_mem_cons.mpr ⟨lw_p42, fun _ h => absurd h List.not_mem_nil⟩⟩⟩⟩⟩⟩⟩⟩⟩⟩⟩
def lw_privs : List (MethodName × Nat) := lw_privs_1 ++ (lw_privs_2 ++ (lw_privs_3))
def lw_tbl : List Cond := k2_sels lw_privs ++ tables_1
theorem lw_privs_ok : ∀ q ∈ lw_privs, lw_okq q := by
  show ∀ q ∈ lw_privs_1 ++ (lw_privs_2 ++ (lw_privs_3)), lw_okq q
  exact List.forall_mem_append.mpr ⟨lw_r1, List.forall_mem_append.mpr ⟨lw_r2, lw_r3⟩⟩
-- ===== end of PART A; then your names; then what follows =====
/-! ===== BEGIN words of one list among another's, by their places ===== -/
/-! ===== END ===== -/

/-! ===== BEGIN printed: names, fields, word lists, decode rows ===== -/
def RX0 : String := "WalkingOrchard$Land"
def TX0 : u_T := fun k => match k with
  | 0 => ("WalkingOrchard$Land", "owners", "[I", true)
  | 1 => ("WalkingOrchard$Land", "fields", "J", false)
  | 2 => ("WalkingOrchard$Land", "hedges", "J", false)
  | 3 => ("WalkingOrchard$Land", "brooks", "J", false)
  | 4 => ("WalkingOrchard$Land", "lines", "I", false)
  | _ => ("WalkingOrchard$Land", "width", "I", false)
def tyX0 : Nat → FieldType := fun k => match k with
  | 0 => .array .int
  | 1 => .long
  | 2 => .long
  | 3 => .long
  | 4 => .int
  | _ => .int
abbrev wsX00 : List Cond := u_ws RX0 TX0 6
theorem nmX0 : ∀ a, a < 6 → ∀ b, b < 6 → a ≠ b → (TX0 a).2.1 ≠ (TX0 b).2.1 := by decide +kernel
theorem tyX0_ok : ∀ k, k < 6 → parseFieldDescriptor (TX0 k).2.2.1 = some (tyX0 k) := by decide +kernel
abbrev cX0_init : ByteArray := prog_2_method_1_code
def yX0_init : MethodName := ⟨RX0, "<init>", "()V"⟩
abbrev cX0_clear : ByteArray := prog_2_method_2_code
def yX0_clear : MethodName := ⟨RX0, "clear", "()V"⟩
abbrev cX0_copyFrom : ByteArray := prog_2_method_3_code
def yX0_copyFrom : MethodName := ⟨RX0, "copyFrom", "(LWalkingOrchard$Land;)V"⟩
abbrev cX0_cells : ByteArray := prog_2_method_4_code
def yX0_cells : MethodName := ⟨RX0, "cells", "()I"⟩
abbrev cX0_holds : ByteArray := prog_2_method_5_code
def yX0_holds : MethodName := ⟨RX0, "holds", "(I)Z"⟩
abbrev cX0_groundOf : ByteArray := prog_2_method_6_code
def yX0_groundOf : MethodName := ⟨RX0, "groundOf", "(I)I"⟩
abbrev cX0_ownerOf : ByteArray := prog_2_method_7_code
def yX0_ownerOf : MethodName := ⟨RX0, "ownerOf", "(I)I"⟩
abbrev cX0_nextBy : ByteArray := prog_2_method_8_code
def yX0_nextBy : MethodName := ⟨RX0, "nextBy", "(II)I"⟩
abbrev cX0_isBesideOne : ByteArray := prog_2_method_9_code
def yX0_isBesideOne : MethodName := ⟨RX0, "isBesideOne", "(IJ)Z"⟩
def RX1 : String := "WalkingOrchard$Orchard"
def TX1 : u_T := fun k => match k with
  | 0 => ("WalkingOrchard$Orchard", "land", "LWalkingOrchard$Land;", true)
  | 1 => ("WalkingOrchard$Orchard", "rows", "[LWalkingOrchard$Row;", true)
  | 2 => ("WalkingOrchard$Orchard", "owned", "[I", true)
  | 3 => ("WalkingOrchard$Orchard", "rowCount", "I", false)
  | 4 => ("WalkingOrchard$Orchard", "year", "I", false)
  | 5 => ("WalkingOrchard$Orchard", "ditches", "J", false)
  | 6 => ("WalkingOrchard$Orchard", "leftBehind", "J", false)
  | 7 => ("WalkingOrchard$Orchard", "taken", "J", false)
  | _ => ("WalkingOrchard$Orchard", "entered", "J", false)
def tyX1 : Nat → FieldType := fun k => match k with
  | 0 => .object "WalkingOrchard$Land"
  | 1 => .array (.object "WalkingOrchard$Row")
  | 2 => .array .int
  | 3 => .int
  | 4 => .int
  | 5 => .long
  | 6 => .long
  | 7 => .long
  | _ => .long
abbrev wsX10 : List Cond := u_ws RX1 TX1 9
theorem nmX1 : ∀ a, a < 9 → ∀ b, b < 9 → a ≠ b → (TX1 a).2.1 ≠ (TX1 b).2.1 := by decide +kernel
theorem tyX1_ok : ∀ k, k < 9 → parseFieldDescriptor (TX1 k).2.2.1 = some (tyX1 k) := by decide +kernel
abbrev cX1_init : ByteArray := prog_3_method_1_code
def yX1_init : MethodName := ⟨RX1, "<init>", "(LWalkingOrchard$Land;)V"⟩
abbrev cX1_clear : ByteArray := prog_3_method_2_code
def yX1_clear : MethodName := ⟨RX1, "clear", "()V"⟩
abbrev cX1_copyFrom : ByteArray := prog_3_method_3_code
def yX1_copyFrom : MethodName := ⟨RX1, "copyFrom", "(LWalkingOrchard$Orchard;)V"⟩
abbrev cX1_holds : ByteArray := prog_3_method_4_code
def yX1_holds : MethodName := ⟨RX1, "holds", "(I)Z"⟩
abbrev cX1_standsIn : ByteArray := prog_3_method_5_code
def yX1_standsIn : MethodName := ⟨RX1, "standsIn", "(I)I"⟩
abbrev cX1_canDig : ByteArray := prog_3_method_6_code
def yX1_canDig : MethodName := ⟨RX1, "canDig", "(I)Z"⟩
abbrev cX1_digIn : ByteArray := prog_3_method_7_code
def yX1_digIn : MethodName := ⟨RX1, "digIn", "(I)V"⟩
abbrev cX1_fillIn : ByteArray := prog_3_method_8_code
def yX1_fillIn : MethodName := ⟨RX1, "fillIn", "(I)V"⟩
abbrev cX1_leaveLast : ByteArray := prog_3_method_9_code
def yX1_leaveLast : MethodName := ⟨RX1, "leaveLast", "(LWalkingOrchard$Row;)I"⟩
abbrev cX1_wayOf : ByteArray := prog_3_method_10_code
def yX1_wayOf : MethodName := ⟨RX1, "wayOf", "(LWalkingOrchard$Row;)I"⟩
abbrev cX1_goRow : ByteArray := prog_3_method_11_code
def yX1_goRow : MethodName := ⟨RX1, "goRow", "(LWalkingOrchard$Row;)V"⟩
abbrev cX1_goYear : ByteArray := prog_3_method_12_code
def yX1_goYear : MethodName := ⟨RX1, "goYear", "(I)V"⟩
abbrev cX1_passYears : ByteArray := prog_3_method_13_code
def yX1_passYears : MethodName := ⟨RX1, "passYears", "(I)V"⟩
abbrev cX1_bearRow : ByteArray := prog_3_method_14_code
def yX1_bearRow : MethodName := ⟨RX1, "bearRow", "(LWalkingOrchard$Row;)V"⟩
abbrev cX1_give : ByteArray := prog_3_method_15_code
def yX1_give : MethodName := ⟨RX1, "give", "(II)V"⟩
abbrev cX1_ownedByAll : ByteArray := prog_3_method_16_code
def yX1_ownedByAll : MethodName := ⟨RX1, "ownedByAll", "()I"⟩
abbrev cX1_areSideBySide : ByteArray := prog_3_method_17_code
def yX1_areSideBySide : MethodName := ⟨RX1, "areSideBySide", "(LWalkingOrchard$Row;LWalkingOrchard$Row;)Z"⟩
abbrev cX1_standsAs : ByteArray := prog_3_method_18_code
def yX1_standsAs : MethodName := ⟨RX1, "standsAs", "(LWalkingOrchard$Orchard;)Z"⟩
def RX2 : String := "WalkingOrchard$Past"
def TX2 : u_T := fun k => match k with
  | 0 => ("WalkingOrchard$Past", "orchards", "[LWalkingOrchard$Orchard;", true)
  | _ => ("WalkingOrchard$Past", "count", "I", false)
def tyX2 : Nat → FieldType := fun k => match k with
  | 0 => .array (.object "WalkingOrchard$Orchard")
  | _ => .int
abbrev wsX20 : List Cond := u_ws RX2 TX2 2
theorem nmX2 : ∀ a, a < 2 → ∀ b, b < 2 → a ≠ b → (TX2 a).2.1 ≠ (TX2 b).2.1 := by decide +kernel
theorem tyX2_ok : ∀ k, k < 2 → parseFieldDescriptor (TX2 k).2.2.1 = some (tyX2 k) := by decide +kernel
abbrev cX2_init : ByteArray := prog_4_method_1_code
def yX2_init : MethodName := ⟨RX2, "<init>", "(ILWalkingOrchard$Land;)V"⟩
abbrev cX2_clear : ByteArray := prog_4_method_2_code
def yX2_clear : MethodName := ⟨RX2, "clear", "()V"⟩
abbrev cX2_push : ByteArray := prog_4_method_3_code
def yX2_push : MethodName := ⟨RX2, "push", "(LWalkingOrchard$Orchard;)V"⟩
abbrev cX2_pop : ByteArray := prog_4_method_4_code
def yX2_pop : MethodName := ⟨RX2, "pop", "(LWalkingOrchard$Orchard;)V"⟩
abbrev cX2_dropOldest : ByteArray := prog_4_method_5_code
def yX2_dropOldest : MethodName := ⟨RX2, "dropOldest", "()V"⟩
def RX3 : String := "WalkingOrchard$Reader"
def TX3 : u_T := fun k => match k with
  | 0 => ("WalkingOrchard$Reader", "land", "LWalkingOrchard$Land;", true)
  | 1 => ("WalkingOrchard$Reader", "orchard", "LWalkingOrchard$Orchard;", true)
  | 2 => ("WalkingOrchard$Reader", "numbers", "[I", true)
  | 3 => ("WalkingOrchard$Reader", "told", "I", false)
  | 4 => ("WalkingOrchard$Reader", "letters", "[C", false)
  | 5 => ("WalkingOrchard$Reader", "length", "I", false)
  | _ => ("WalkingOrchard$Reader", "at", "I", false)
def tyX3 : Nat → FieldType := fun k => match k with
  | 0 => .object "WalkingOrchard$Land"
  | 1 => .object "WalkingOrchard$Orchard"
  | 2 => .array .int
  | 3 => .int
  | 4 => .array .char
  | 5 => .int
  | _ => .int
abbrev wsX30 : List Cond := u_ws RX3 TX3 7
theorem nmX3 : ∀ a, a < 7 → ∀ b, b < 7 → a ≠ b → (TX3 a).2.1 ≠ (TX3 b).2.1 := by decide +kernel
theorem tyX3_ok : ∀ k, k < 7 → parseFieldDescriptor (TX3 k).2.2.1 = some (tyX3 k) := by decide +kernel
abbrev cX3_init : ByteArray := prog_5_method_1_code
def yX3_init : MethodName := ⟨RX3, "<init>", "()V"⟩
abbrev cX3_readText : ByteArray := prog_5_method_2_code
def yX3_readText : MethodName := ⟨RX3, "readText", "([CI)I"⟩
abbrev cX3_readItem : ByteArray := prog_5_method_3_code
def yX3_readItem : MethodName := ⟨RX3, "readItem", "()Z"⟩
abbrev cX3_nextLetter : ByteArray := prog_5_method_4_code
def yX3_nextLetter : MethodName := ⟨RX3, "nextLetter", "()C"⟩
abbrev cX3_readLine : ByteArray := prog_5_method_5_code
def yX3_readLine : MethodName := ⟨RX3, "readLine", "()Z"⟩
abbrev cX3_tellGround : ByteArray := prog_5_method_6_code
def yX3_tellGround : MethodName := ⟨RX3, "tellGround", "(II)V"⟩
abbrev cX3_readNumbers : ByteArray := prog_5_method_7_code
def yX3_readNumbers : MethodName := ⟨RX3, "readNumbers", "()Z"⟩
abbrev cX3_readNumber : ByteArray := prog_5_method_8_code
def yX3_readNumber : MethodName := ⟨RX3, "readNumber", "()I"⟩
abbrev cX3_isFigureNext : ByteArray := prog_5_method_9_code
def yX3_isFigureNext : MethodName := ⟨RX3, "isFigureNext", "()Z"⟩
abbrev cX3_giveCells : ByteArray := prog_5_method_10_code
def yX3_giveCells : MethodName := ⟨RX3, "giveCells", "()Z"⟩
abbrev cX3_plantRow : ByteArray := prog_5_method_11_code
def yX3_plantRow : MethodName := ⟨RX3, "plantRow", "()Z"⟩
abbrev cX3_plantTree : ByteArray := prog_5_method_12_code
def yX3_plantTree : MethodName := ⟨RX3, "plantTree", "(LWalkingOrchard$Row;I)Z"⟩
def RX4 : String := "WalkingOrchard$Row"
def TX4 : u_T := fun k => match k with
  | 0 => ("WalkingOrchard$Row", "trees", "[I", true)
  | 1 => ("WalkingOrchard$Row", "size", "I", false)
  | 2 => ("WalkingOrchard$Row", "kind", "I", false)
  | 3 => ("WalkingOrchard$Row", "heading", "I", false)
  | _ => ("WalkingOrchard$Row", "bears", "I", false)
def tyX4 : Nat → FieldType := fun k => match k with
  | 0 => .array .int
  | 1 => .int
  | 2 => .int
  | 3 => .int
  | _ => .int
abbrev wsX40 : List Cond := u_ws RX4 TX4 5
theorem nmX4 : ∀ a, a < 5 → ∀ b, b < 5 → a ≠ b → (TX4 a).2.1 ≠ (TX4 b).2.1 := by decide +kernel
theorem tyX4_ok : ∀ k, k < 5 → parseFieldDescriptor (TX4 k).2.2.1 = some (tyX4 k) := by decide +kernel
abbrev cX4_init : ByteArray := prog_6_method_1_code
def yX4_init : MethodName := ⟨RX4, "<init>", "()V"⟩
abbrev cX4_copyFrom : ByteArray := prog_6_method_2_code
def yX4_copyFrom : MethodName := ⟨RX4, "copyFrom", "(LWalkingOrchard$Row;)V"⟩
abbrev cX4_first : ByteArray := prog_6_method_3_code
def yX4_first : MethodName := ⟨RX4, "first", "()I"⟩
abbrev cX4_treeAt : ByteArray := prog_6_method_4_code
def yX4_treeAt : MethodName := ⟨RX4, "treeAt", "(I)I"⟩
abbrev cX4_cells : ByteArray := prog_6_method_5_code
def yX4_cells : MethodName := ⟨RX4, "cells", "()J"⟩
abbrev cX4_plant : ByteArray := prog_6_method_6_code
def yX4_plant : MethodName := ⟨RX4, "plant", "(I)V"⟩
abbrev cX4_standsAs : ByteArray := prog_6_method_7_code
def yX4_standsAs : MethodName := ⟨RX4, "standsAs", "(LWalkingOrchard$Row;)Z"⟩
def RX5 : String := "WalkingOrchard"
def TX5 : u_T := fun k => match k with
  | 0 => ("WalkingOrchard", "text", "[C", true)
  | 1 => ("WalkingOrchard", "textLength", "I", false)
  | 2 => ("WalkingOrchard", "land", "LWalkingOrchard$Land;", true)
  | 3 => ("WalkingOrchard", "now", "LWalkingOrchard$Orchard;", true)
  | 4 => ("WalkingOrchard", "ahead", "LWalkingOrchard$Orchard;", true)
  | 5 => ("WalkingOrchard", "reader", "LWalkingOrchard$Reader;", true)
  | 6 => ("WalkingOrchard", "undoable", "LWalkingOrchard$Past;", true)
  | 7 => ("WalkingOrchard", "kept", "LWalkingOrchard$Past;", true)
  | 8 => ("WalkingOrchard", "seenRows", "[I", true)
  | 9 => ("WalkingOrchard", "seenCells", "[I", true)
  | 10 => ("WalkingOrchard", "seenYears", "[I", true)
  | 11 => ("WalkingOrchard", "seenCount", "I", false)
  | 12 => ("WalkingOrchard", "found", "[I", true)
  | _ => ("WalkingOrchard", "enteredBy", "[J", true)
def tyX5 : Nat → FieldType := fun k => match k with
  | 0 => .array .char
  | 1 => .int
  | 2 => .object "WalkingOrchard$Land"
  | 3 => .object "WalkingOrchard$Orchard"
  | 4 => .object "WalkingOrchard$Orchard"
  | 5 => .object "WalkingOrchard$Reader"
  | 6 => .object "WalkingOrchard$Past"
  | 7 => .object "WalkingOrchard$Past"
  | 8 => .array .int
  | 9 => .array .int
  | 10 => .array .int
  | 11 => .int
  | 12 => .array .int
  | _ => .array .long
abbrev wsX50 : List Cond := u_ws RX5 TX5 14
theorem nmX5 : ∀ a, a < 14 → ∀ b, b < 14 → a ≠ b → (TX5 a).2.1 ≠ (TX5 b).2.1 := by decide +kernel
theorem tyX5_ok : ∀ k, k < 14 → parseFieldDescriptor (TX5 k).2.2.1 = some (tyX5 k) := by decide +kernel
abbrev cX5_init : ByteArray := prog_1_method_1_code
def yX5_init : MethodName := ⟨RX5, "<init>", "()V"⟩
abbrev cX5_write : ByteArray := prog_1_method_2_code
def yX5_write : MethodName := ⟨RX5, "write", "(I)I"⟩
abbrev cX5_wipe : ByteArray := prog_1_method_3_code
def yX5_wipe : MethodName := ⟨RX5, "wipe", "()I"⟩
abbrev cX5_fault : ByteArray := prog_1_method_4_code
def yX5_fault : MethodName := ⟨RX5, "fault", "()I"⟩
abbrev cX5_lay : ByteArray := prog_1_method_5_code
def yX5_lay : MethodName := ⟨RX5, "lay", "()I"⟩
abbrev cX5_cell : ByteArray := prog_1_method_6_code
def yX5_cell : MethodName := ⟨RX5, "cell", "(II)I"⟩
abbrev cX5_row : ByteArray := prog_1_method_7_code
def yX5_row : MethodName := ⟨RX5, "row", "(II)I"⟩
abbrev cX5_tree : ByteArray := prog_1_method_8_code
def yX5_tree : MethodName := ⟨RX5, "tree", "(II)I"⟩
abbrev cX5_has : ByteArray := prog_1_method_9_code
def yX5_has : MethodName := ⟨RX5, "has", "(I)I"⟩
abbrev cX5_pass : ByteArray := prog_1_method_10_code
def yX5_pass : MethodName := ⟨RX5, "pass", "(I)I"⟩
abbrev cX5_dig : ByteArray := prog_1_method_11_code
def yX5_dig : MethodName := ⟨RX5, "dig", "(I)I"⟩
abbrev cX5_fill : ByteArray := prog_1_method_12_code
def yX5_fill : MethodName := ⟨RX5, "fill", "(I)I"⟩
abbrev cX5_leave : ByteArray := prog_1_method_13_code
def yX5_leave : MethodName := ⟨RX5, "leave", "(I)I"⟩
abbrev cX5_undo : ByteArray := prog_1_method_14_code
def yX5_undo : MethodName := ⟨RX5, "undo", "()I"⟩
abbrev cX5_behind : ByteArray := prog_1_method_15_code
def yX5_behind : MethodName := ⟨RX5, "behind", "(II)I"⟩
abbrev cX5_wealth : ByteArray := prog_1_method_16_code
def yX5_wealth : MethodName := ⟨RX5, "wealth", "(II)I"⟩
abbrev cX5_comes : ByteArray := prog_1_method_17_code
def yX5_comes : MethodName := ⟨RX5, "comes", "(II)I"⟩
abbrev cX5_meet : ByteArray := prog_1_method_18_code
def yX5_meet : MethodName := ⟨RX5, "meet", "(II)I"⟩
abbrev cX5_again : ByteArray := prog_1_method_19_code
def yX5_again : MethodName := ⟨RX5, "again", "()I"⟩
abbrev cX5_ditches : ByteArray := prog_1_method_20_code
def yX5_ditches : MethodName := ⟨RX5, "ditches", "(IIII)I"⟩
abbrev cX5_best : ByteArray := prog_1_method_21_code
def yX5_best : MethodName := ⟨RX5, "best", "(III)I"⟩
abbrev cX5_see : ByteArray := prog_1_method_22_code
def yX5_see : MethodName := ⟨RX5, "see", "(III)I"⟩
abbrev cX5_forget : ByteArray := prog_1_method_23_code
def yX5_forget : MethodName := ⟨RX5, "forget", "()I"⟩
abbrev cX5_fits : ByteArray := prog_1_method_24_code
def yX5_fits : MethodName := ⟨RX5, "fits", "(II)I"⟩
abbrev cX5_frost : ByteArray := prog_1_method_25_code
def yX5_frost : MethodName := ⟨RX5, "frost", "(IIIII)I"⟩
abbrev cX5_century : ByteArray := prog_1_method_26_code
def yX5_century : MethodName := ⟨RX5, "century", "(III)I"⟩
abbrev cX5_keep : ByteArray := prog_1_method_27_code
def yX5_keep : MethodName := ⟨RX5, "keep", "()I"⟩
abbrev cX5_back : ByteArray := prog_1_method_28_code
def yX5_back : MethodName := ⟨RX5, "back", "()I"⟩
abbrev cX5_count : ByteArray := prog_1_method_29_code
def yX5_count : MethodName := ⟨RX5, "count", "(I)I"⟩
abbrev cX5_isWithin : ByteArray := prog_1_method_30_code
def yX5_isWithin : MethodName := ⟨RX5, "isWithin", "(III)Z"⟩
abbrev cX5_isOwner : ByteArray := prog_1_method_31_code
def yX5_isOwner : MethodName := ⟨RX5, "isOwner", "(I)Z"⟩
abbrev cX5_bit : ByteArray := prog_1_method_32_code
def yX5_bit : MethodName := ⟨RX5, "bit", "(I)J"⟩
abbrev cX5_contains : ByteArray := prog_1_method_33_code
def yX5_contains : MethodName := ⟨RX5, "contains", "(JI)Z"⟩
abbrev cX5_firstTreeBehind : ByteArray := prog_1_method_34_code
def yX5_firstTreeBehind : MethodName := ⟨RX5, "firstTreeBehind", "(IIJ)I"⟩
abbrev cX5_ownedBehind : ByteArray := prog_1_method_35_code
def yX5_ownedBehind : MethodName := ⟨RX5, "ownedBehind", "(IIJ)I"⟩
abbrev cX5_noneOrOneDitch : ByteArray := prog_1_method_36_code
def yX5_noneOrOneDitch : MethodName := ⟨RX5, "noneOrOneDitch", "(III)I"⟩
abbrev cX5_twoDitches : ByteArray := prog_1_method_37_code
def yX5_twoDitches : MethodName := ⟨RX5, "twoDitches", "(III)I"⟩
abbrev cX5_allSeenComes : ByteArray := prog_1_method_38_code
def yX5_allSeenComes : MethodName := ⟨RX5, "allSeenComes", "(I)Z"⟩
abbrev cX5_casesOfFrost : ByteArray := prog_1_method_39_code
def yX5_casesOfFrost : MethodName := ⟨RX5, "casesOfFrost", "(IIII)J"⟩
abbrev cX5_firstTreeOfFrost : ByteArray := prog_1_method_40_code
def yX5_firstTreeOfFrost : MethodName := ⟨RX5, "firstTreeOfFrost", "(III)I"⟩
abbrev cX5_drawOf : ByteArray := prog_1_method_41_code
def yX5_drawOf : MethodName := ⟨RX5, "drawOf", "(II)I"⟩
abbrev cX5_disturbAhead : ByteArray := prog_1_method_42_code
def yX5_disturbAhead : MethodName := ⟨RX5, "disturbAhead", "(I)V"⟩
def RX6 : String := "WalkingOrchardModel"
def TX6 : u_T := fun k => match k with
  | 0 => ("WalkingOrchardModel", "text", "[I", true)
  | 1 => ("WalkingOrchardModel", "typed", "I", false)
  | 2 => ("WalkingOrchardModel", "told", "[I", true)
  | 3 => ("WalkingOrchardModel", "draft", "[I", true)
  | 4 => ("WalkingOrchardModel", "begun", "[I", true)
  | 5 => ("WalkingOrchardModel", "s", "[I", true)
  | 6 => ("WalkingOrchardModel", "past", "[I", true)
  | 7 => ("WalkingOrchardModel", "known", "I", false)
  | 8 => ("WalkingOrchardModel", "images", "[I", true)
  | 9 => ("WalkingOrchardModel", "kept", "I", false)
  | 10 => ("WalkingOrchardModel", "notes", "[I", true)
  | 11 => ("WalkingOrchardModel", "noted", "I", false)
  | 12 => ("WalkingOrchardModel", "at", "I", false)
  | _ => ("WalkingOrchardModel", "aside", "[I", true)
def tyX6 : Nat → FieldType := fun k => match k with
  | 0 => .array .int
  | 1 => .int
  | 2 => .array .int
  | 3 => .array .int
  | 4 => .array .int
  | 5 => .array .int
  | 6 => .array .int
  | 7 => .int
  | 8 => .array .int
  | 9 => .int
  | 10 => .array .int
  | 11 => .int
  | 12 => .int
  | _ => .array .int
abbrev wsX60 : List Cond := u_ws RX6 TX6 14
theorem nmX6 : ∀ a, a < 14 → ∀ b, b < 14 → a ≠ b → (TX6 a).2.1 ≠ (TX6 b).2.1 := by decide +kernel
theorem tyX6_ok : ∀ k, k < 14 → parseFieldDescriptor (TX6 k).2.2.1 = some (tyX6 k) := by decide +kernel
abbrev cX6_init : ByteArray := prog_8_method_1_code
def yX6_init : MethodName := ⟨RX6, "<init>", "()V"⟩
abbrev cX6_in : ByteArray := prog_8_method_3_code
def yX6_in : MethodName := ⟨RX6, "in", "(III)Z"⟩
abbrev cX6_isCell : ByteArray := prog_8_method_4_code
def yX6_isCell : MethodName := ⟨RX6, "isCell", "(I)Z"⟩
abbrev cX6_isRow : ByteArray := prog_8_method_5_code
def yX6_isRow : MethodName := ⟨RX6, "isRow", "(I)Z"⟩
abbrev cX6_write : ByteArray := prog_8_method_6_code
def yX6_write : MethodName := ⟨RX6, "write", "(I)I"⟩
abbrev cX6_wipe : ByteArray := prog_8_method_7_code
def yX6_wipe : MethodName := ⟨RX6, "wipe", "()I"⟩
abbrev cX6_letterAt : ByteArray := prog_8_method_8_code
def yX6_letterAt : MethodName := ⟨RX6, "letterAt", "(I)I"⟩
abbrev cX6_isFigure : ByteArray := prog_8_method_9_code
def yX6_isFigure : MethodName := ⟨RX6, "isFigure", "(I)Z"⟩
abbrev cX6_figures : ByteArray := prog_8_method_10_code
def yX6_figures : MethodName := ⟨RX6, "figures", "(II)I"⟩
abbrev cX6_number : ByteArray := prog_8_method_11_code
def yX6_number : MethodName := ⟨RX6, "number", "(III)I"⟩
abbrev cX6_begins : ByteArray := prog_8_method_12_code
def yX6_begins : MethodName := ⟨RX6, "begins", "()V"⟩
abbrev cX6_owns : ByteArray := prog_8_method_13_code
def yX6_owns : MethodName := ⟨RX6, "owns", "(III)V"⟩
abbrev cX6_rowOf : ByteArray := prog_8_method_14_code
def yX6_rowOf : MethodName := ⟨RX6, "rowOf", "(III)V"⟩
abbrev cX6_stands : ByteArray := prog_8_method_15_code
def yX6_stands : MethodName := ⟨RX6, "stands", "(I)V"⟩
abbrev cX6_readsLine : ByteArray := prog_8_method_16_code
def yX6_readsLine : MethodName := ⟨RX6, "readsLine", "()Z"⟩
abbrev cX6_readsOwner : ByteArray := prog_8_method_17_code
def yX6_readsOwner : MethodName := ⟨RX6, "readsOwner", "()Z"⟩
abbrev cX6_isNext : ByteArray := prog_8_method_18_code
def yX6_isNext : MethodName := ⟨RX6, "isNext", "(III)Z"⟩
abbrev cX6_isTree : ByteArray := prog_8_method_19_code
def yX6_isTree : MethodName := ⟨RX6, "isTree", "(I)Z"⟩
abbrev cX6_readsRow : ByteArray := prog_8_method_20_code
def yX6_readsRow : MethodName := ⟨RX6, "readsRow", "()Z"⟩
abbrev cX6_readsAll : ByteArray := prog_8_method_21_code
def yX6_readsAll : MethodName := ⟨RX6, "readsAll", "()I"⟩
abbrev cX6_fault : ByteArray := prog_8_method_22_code
def yX6_fault : MethodName := ⟨RX6, "fault", "()I"⟩
abbrev cX6_lays : ByteArray := prog_8_method_23_code
def yX6_lays : MethodName := ⟨RX6, "lays", "()V"⟩
abbrev cX6_lay : ByteArray := prog_8_method_24_code
def yX6_lay : MethodName := ⟨RX6, "lay", "()I"⟩
abbrev cX6_treeIn : ByteArray := prog_8_method_25_code
def yX6_treeIn : MethodName := ⟨RX6, "treeIn", "(I)I"⟩
abbrev cX6_lies : ByteArray := prog_8_method_26_code
def yX6_lies : MethodName := ⟨RX6, "lies", "(I)I"⟩
abbrev cX6_cell : ByteArray := prog_8_method_27_code
def yX6_cell : MethodName := ⟨RX6, "cell", "(II)I"⟩
abbrev cX6_beside : ByteArray := prog_8_method_28_code
def yX6_beside : MethodName := ⟨RX6, "beside", "(II)I"⟩
abbrev cX6_isOpen : ByteArray := prog_8_method_29_code
def yX6_isOpen : MethodName := ⟨RX6, "isOpen", "(II)Z"⟩
abbrev cX6_headsFor : ByteArray := prog_8_method_30_code
def yX6_headsFor : MethodName := ⟨RX6, "headsFor", "(I)I"⟩
abbrev cX6_row : ByteArray := prog_8_method_31_code
def yX6_row : MethodName := ⟨RX6, "row", "(II)I"⟩
abbrev cX6_tree : ByteArray := prog_8_method_32_code
def yX6_tree : MethodName := ⟨RX6, "tree", "(II)I"⟩
abbrev cX6_has : ByteArray := prog_8_method_33_code
def yX6_has : MethodName := ⟨RX6, "has", "(I)I"⟩
abbrev cX6_hasMate : ByteArray := prog_8_method_34_code
def yX6_hasMate : MethodName := ⟨RX6, "hasMate", "(II)Z"⟩
abbrev cX6_passes : ByteArray := prog_8_method_35_code
def yX6_passes : MethodName := ⟨RX6, "passes", "(I)V"⟩
abbrev cX6_keeps : ByteArray := prog_8_method_36_code
def yX6_keeps : MethodName := ⟨RX6, "keeps", "()V"⟩
abbrev cX6_pass : ByteArray := prog_8_method_37_code
def yX6_pass : MethodName := ⟨RX6, "pass", "(I)I"⟩
abbrev cX6_countOf : ByteArray := prog_8_method_38_code
def yX6_countOf : MethodName := ⟨RX6, "countOf", "(I)I"⟩
abbrev cX6_mayDig : ByteArray := prog_8_method_39_code
def yX6_mayDig : MethodName := ⟨RX6, "mayDig", "(I)Z"⟩
abbrev cX6_dig : ByteArray := prog_8_method_40_code
def yX6_dig : MethodName := ⟨RX6, "dig", "(I)I"⟩
abbrev cX6_fill : ByteArray := prog_8_method_41_code
def yX6_fill : MethodName := ⟨RX6, "fill", "(I)I"⟩
abbrev cX6_leaves : ByteArray := prog_8_method_42_code
def yX6_leaves : MethodName := ⟨RX6, "leaves", "(I)I"⟩
abbrev cX6_leave : ByteArray := prog_8_method_43_code
def yX6_leave : MethodName := ⟨RX6, "leave", "(I)I"⟩
abbrev cX6_undo : ByteArray := prog_8_method_44_code
def yX6_undo : MethodName := ⟨RX6, "undo", "()I"⟩
abbrev cX6_holds : ByteArray := prog_8_method_45_code
def yX6_holds : MethodName := ⟨RX6, "holds", "()V"⟩
abbrev cX6_lets : ByteArray := prog_8_method_46_code
def yX6_lets : MethodName := ⟨RX6, "lets", "()V"⟩
abbrev cX6_behindOf : ByteArray := prog_8_method_47_code
def yX6_behindOf : MethodName := ⟨RX6, "behindOf", "(II)I"⟩
abbrev cX6_behind : ByteArray := prog_8_method_48_code
def yX6_behind : MethodName := ⟨RX6, "behind", "(II)I"⟩
abbrev cX6_wealth : ByteArray := prog_8_method_49_code
def yX6_wealth : MethodName := ⟨RX6, "wealth", "(II)I"⟩
abbrev cX6_comes : ByteArray := prog_8_method_50_code
def yX6_comes : MethodName := ⟨RX6, "comes", "(II)I"⟩
abbrev cX6_areBeside : ByteArray := prog_8_method_51_code
def yX6_areBeside : MethodName := ⟨RX6, "areBeside", "(II)Z"⟩
abbrev cX6_meet : ByteArray := prog_8_method_52_code
def yX6_meet : MethodName := ⟨RX6, "meet", "(II)I"⟩
abbrev cX6_isAgain : ByteArray := prog_8_method_53_code
def yX6_isAgain : MethodName := ⟨RX6, "isAgain", "()Z"⟩
abbrev cX6_again : ByteArray := prog_8_method_54_code
def yX6_again : MethodName := ⟨RX6, "again", "()I"⟩
abbrev cX6_brings : ByteArray := prog_8_method_55_code
def yX6_brings : MethodName := ⟨RX6, "brings", "(IIIII)Z"⟩
abbrev cX6_ditches : ByteArray := prog_8_method_56_code
def yX6_ditches : MethodName := ⟨RX6, "ditches", "(IIII)I"⟩
abbrev cX6_best : ByteArray := prog_8_method_57_code
def yX6_best : MethodName := ⟨RX6, "best", "(III)I"⟩
abbrev cX6_see : ByteArray := prog_8_method_58_code
def yX6_see : MethodName := ⟨RX6, "see", "(III)I"⟩
abbrev cX6_forget : ByteArray := prog_8_method_59_code
def yX6_forget : MethodName := ⟨RX6, "forget", "()I"⟩
abbrev cX6_isSo : ByteArray := prog_8_method_60_code
def yX6_isSo : MethodName := ⟨RX6, "isSo", "(I)Z"⟩
abbrev cX6_fits : ByteArray := prog_8_method_61_code
def yX6_fits : MethodName := ⟨RX6, "fits", "(II)I"⟩
abbrev cX6_frost : ByteArray := prog_8_method_62_code
def yX6_frost : MethodName := ⟨RX6, "frost", "(IIIII)I"⟩
abbrev cX6_turn : ByteArray := prog_8_method_63_code
def yX6_turn : MethodName := ⟨RX6, "turn", "(I)V"⟩
abbrev cX6_allHave : ByteArray := prog_8_method_64_code
def yX6_allHave : MethodName := ⟨RX6, "allHave", "()I"⟩
abbrev cX6_century : ByteArray := prog_8_method_65_code
def yX6_century : MethodName := ⟨RX6, "century", "(III)I"⟩
abbrev cX6_keep : ByteArray := prog_8_method_66_code
def yX6_keep : MethodName := ⟨RX6, "keep", "()I"⟩
abbrev cX6_back : ByteArray := prog_8_method_67_code
def yX6_back : MethodName := ⟨RX6, "back", "()I"⟩
abbrev cX6_count : ByteArray := prog_8_method_68_code
def yX6_count : MethodName := ⟨RX6, "count", "(I)I"⟩
def RJ13 : String := "java/lang/Long"
def TJ13 : u_T := fun k => match k with
  | _ => ("", "", "", false)
def tyJ13 : Nat → FieldType := fun k => match k with
  | _ => .int
abbrev wsJ130 : List Cond := u_ws RJ13 TJ13 0
theorem nmJ13 : ∀ a, a < 0 → ∀ b, b < 0 → a ≠ b → (TJ13 a).2.1 ≠ (TJ13 b).2.1 := by decide +kernel
theorem tyJ13_ok : ∀ k, k < 0 → parseFieldDescriptor (TJ13 k).2.2.1 = some (tyJ13 k) := by decide +kernel
abbrev cJ13_bitCount_95d88 : ByteArray := prog_9_method_50_code
def yJ13_bitCount_95d88 : MethodName := ⟨RJ13, "bitCount", "(J)I"⟩
def RJ9 : String := "java/lang/Math"
def TJ9 : u_T := fun k => match k with
  | _ => ("", "", "", false)
def tyJ9 : Nat → FieldType := fun k => match k with
  | _ => .int
abbrev wsJ90 : List Cond := u_ws RJ9 TJ9 0
theorem nmJ9 : ∀ a, a < 0 → ∀ b, b < 0 → a ≠ b → (TJ9 a).2.1 ≠ (TJ9 b).2.1 := by decide +kernel
theorem tyJ9_ok : ∀ k, k < 0 → parseFieldDescriptor (TJ9 k).2.2.1 = some (tyJ9 k) := by decide +kernel
abbrev cJ9_min_7cf53 : ByteArray := prog_10_method_69_code
def yJ9_min_7cf53 : MethodName := ⟨RJ9, "min", "(II)I"⟩
def RJ0 : String := "java/lang/String"
def TJ0 : u_T := fun k => match k with
  | _ => ("", "", "", false)
def tyJ0 : Nat → FieldType := fun k => match k with
  | _ => .int
abbrev wsJ00 : List Cond := u_ws RJ0 TJ0 0
theorem nmJ0 : ∀ a, a < 0 → ∀ b, b < 0 → a ≠ b → (TJ0 a).2.1 ≠ (TJ0 b).2.1 := by decide +kernel
theorem tyJ0_ok : ∀ k, k < 0 → parseFieldDescriptor (TJ0 k).2.2.1 = some (tyJ0 k) := by decide +kernel
abbrev cJ0_toCharArray_70df3 : ByteArray := prog_11_method_129_code
def yJ0_toCharArray_70df3 : MethodName := ⟨RJ0, "toCharArray", "()[C"⟩
abbrev cJ0_isLatin1_aae02 : ByteArray := prog_11_method_154_code
def yJ0_isLatin1_aae02 : MethodName := ⟨RJ0, "isLatin1", "()Z"⟩
abbrev cJ0_checkBoundsOffCount_cabcc : ByteArray := prog_11_method_157_code
def yJ0_checkBoundsOffCount_cabcc : MethodName := ⟨RJ0, "checkBoundsOffCount", "(III)I"⟩
def RJ1 : String := "java/lang/StringLatin1"
def TJ1 : u_T := fun k => match k with
  | _ => ("", "", "", false)
def tyJ1 : Nat → FieldType := fun k => match k with
  | _ => .int
abbrev wsJ10 : List Cond := u_ws RJ1 TJ1 0
theorem nmJ1 : ∀ a, a < 0 → ∀ b, b < 0 → a ≠ b → (TJ1 a).2.1 ≠ (TJ1 b).2.1 := by decide +kernel
theorem tyJ1_ok : ∀ k, k < 0 → parseFieldDescriptor (TJ1 k).2.2.1 = some (tyJ1 k) := by decide +kernel
abbrev cJ1_toChars_9d188 : ByteArray := prog_12_method_9_code
def yJ1_toChars_9d188 : MethodName := ⟨RJ1, "toChars", "([B)[C"⟩
abbrev cJ1_inflate_03870 : ByteArray := prog_12_method_49_code
def yJ1_inflate_03870 : MethodName := ⟨RJ1, "inflate", "([BI[CII)V"⟩
def RJ2 : String := "java/lang/StringUTF16"
def TJ2 : u_T := fun k => match k with
  | _ => ("", "", "", false)
def tyJ2 : Nat → FieldType := fun k => match k with
  | _ => .int
abbrev wsJ20 : List Cond := u_ws RJ2 TJ2 0
theorem nmJ2 : ∀ a, a < 0 → ∀ b, b < 0 → a ≠ b → (TJ2 a).2.1 ≠ (TJ2 b).2.1 := by decide +kernel
theorem tyJ2_ok : ∀ k, k < 0 → parseFieldDescriptor (TJ2 k).2.2.1 = some (tyJ2 k) := by decide +kernel
abbrev cJ2_getChar_3b067 : ByteArray := prog_13_method_5_code
def yJ2_getChar_3b067 : MethodName := ⟨RJ2, "getChar", "([BI)C"⟩
abbrev cJ2_length_9d52b : ByteArray := prog_13_method_6_code
def yJ2_length_9d52b : MethodName := ⟨RJ2, "length", "([B)I"⟩
abbrev cJ2_toChars_9d188 : ByteArray := prog_13_method_13_code
def yJ2_toChars_9d188 : MethodName := ⟨RJ2, "toChars", "([B)[C"⟩
abbrev cJ2_getChars_a1a8b : ByteArray := prog_13_method_26_code
def yJ2_getChars_a1a8b : MethodName := ⟨RJ2, "getChars", "([BII[CI)V"⟩
abbrev cJ2_checkBoundsOffCount_d044e : ByteArray := prog_13_method_94_code
def yJ2_checkBoundsOffCount_d044e : MethodName := ⟨RJ2, "checkBoundsOffCount", "(II[B)V"⟩
def RJ3 : String := "jdk/internal/util/Preconditions"
def TJ3 : u_T := fun k => match k with
  | _ => ("", "", "", false)
def tyJ3 : Nat → FieldType := fun k => match k with
  | _ => .int
abbrev wsJ30 : List Cond := u_ws RJ3 TJ3 0
theorem nmJ3 : ∀ a, a < 0 → ∀ b, b < 0 → a ≠ b → (TJ3 a).2.1 ≠ (TJ3 b).2.1 := by decide +kernel
theorem tyJ3_ok : ∀ k, k < 0 → parseFieldDescriptor (TJ3 k).2.2.1 = some (tyJ3 k) := by decide +kernel
abbrev cJ3_checkFromIndexSize_8c36e : ByteArray := prog_14_method_13_code
def yJ3_checkFromIndexSize_8c36e : MethodName := ⟨RJ3, "checkFromIndexSize", "(IIILjava/util/function/BiFunction;)I"⟩
def RL : String := "WalkingOrchardLaw"
abbrev cL_law : ByteArray := code
def yL_law : MethodName := ⟨RL, "law", "([I)Z"⟩
abbrev vwCl : List vw_C := [(RX0, TX0, 6), (RX1, TX1, 9), (RX2, TX2, 2), (RX3, TX3, 7), (RX4, TX4, 5), (RX5, TX5, 14), (RX6, TX6, 14)]
