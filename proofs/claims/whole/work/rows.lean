section
-- ===== PART A: goes FIRST, ahead of the names: the tables' words, and 'selects' of the private methods out of them =====
/-- a private method of a class that the tables say can be made, by its rows of tables_1 -/
def lw_okq (q : MethodName × Nat) : Prop := (q.1.cls ≠ "java/lang/invoke/MethodHandle" ∧ q.1.cls ≠ "java/lang/invoke/VarHandle") ∧ Cond.instantiable q.1.cls q.2 ∈ tables_1 ∧ Cond.privateMethod q.1 ∈ tables_1 ∧ Cond.instanceMethod q.1 ∈ tables_1
theorem lw_p0 : lw_okq (⟨"WalkingOrchard", "firstTreeBehind", "(IIJ)I"⟩, 14) := ⟨⟨by decide +kernel, by decide +kernel⟩, List.mem_of_getElem? (i := 15) (by decide +kernel), List.mem_of_getElem? (i := 542) (by decide +kernel), List.mem_of_getElem? (i := 543) (by decide +kernel)⟩
theorem lw_p1 : lw_okq (⟨"WalkingOrchard", "ownedBehind", "(IIJ)I"⟩, 14) := ⟨⟨by decide +kernel, by decide +kernel⟩, List.mem_of_getElem? (i := 15) (by decide +kernel), List.mem_of_getElem? (i := 551) (by decide +kernel), List.mem_of_getElem? (i := 552) (by decide +kernel)⟩
theorem lw_p2 : lw_okq (⟨"WalkingOrchard", "noneOrOneDitch", "(III)I"⟩, 14) := ⟨⟨by decide +kernel, by decide +kernel⟩, List.mem_of_getElem? (i := 15) (by decide +kernel), List.mem_of_getElem? (i := 583) (by decide +kernel), List.mem_of_getElem? (i := 584) (by decide +kernel)⟩
theorem lw_p3 : lw_okq (⟨"WalkingOrchard", "twoDitches", "(III)I"⟩, 14) := ⟨⟨by decide +kernel, by decide +kernel⟩, List.mem_of_getElem? (i := 15) (by decide +kernel), List.mem_of_getElem? (i := 592) (by decide +kernel), List.mem_of_getElem? (i := 593) (by decide +kernel)⟩
theorem lw_p4 : lw_okq (⟨"WalkingOrchard", "allSeenComes", "(I)Z"⟩, 14) := ⟨⟨by decide +kernel, by decide +kernel⟩, List.mem_of_getElem? (i := 15) (by decide +kernel), List.mem_of_getElem? (i := 612) (by decide +kernel), List.mem_of_getElem? (i := 613) (by decide +kernel)⟩
theorem lw_p5 : lw_okq (⟨"WalkingOrchard", "casesOfFrost", "(IIII)J"⟩, 14) := ⟨⟨by decide +kernel, by decide +kernel⟩, List.mem_of_getElem? (i := 15) (by decide +kernel), List.mem_of_getElem? (i := 620) (by decide +kernel), List.mem_of_getElem? (i := 621) (by decide +kernel)⟩
theorem lw_p6 : lw_okq (⟨"WalkingOrchard", "firstTreeOfFrost", "(III)I"⟩, 14) := ⟨⟨by decide +kernel, by decide +kernel⟩, List.mem_of_getElem? (i := 15) (by decide +kernel), List.mem_of_getElem? (i := 624) (by decide +kernel), List.mem_of_getElem? (i := 625) (by decide +kernel)⟩
theorem lw_p7 : lw_okq (⟨"WalkingOrchard", "disturbAhead", "(I)V"⟩, 14) := ⟨⟨by decide +kernel, by decide +kernel⟩, List.mem_of_getElem? (i := 15) (by decide +kernel), List.mem_of_getElem? (i := 641) (by decide +kernel), List.mem_of_getElem? (i := 642) (by decide +kernel)⟩
theorem lw_p8 : lw_okq (⟨"WalkingOrchardModel", "begins", "()V"⟩, 14) := ⟨⟨by decide +kernel, by decide +kernel⟩, List.mem_of_getElem? (i := 663) (by decide +kernel), List.mem_of_getElem? (i := 669) (by decide +kernel), List.mem_of_getElem? (i := 670) (by decide +kernel)⟩
theorem lw_p9 : lw_okq (⟨"WalkingOrchardModel", "owns", "(III)V"⟩, 14) := ⟨⟨by decide +kernel, by decide +kernel⟩, List.mem_of_getElem? (i := 663) (by decide +kernel), List.mem_of_getElem? (i := 673) (by decide +kernel), List.mem_of_getElem? (i := 674) (by decide +kernel)⟩
theorem lw_p10 : lw_okq (⟨"WalkingOrchardModel", "rowOf", "(III)V"⟩, 14) := ⟨⟨by decide +kernel, by decide +kernel⟩, List.mem_of_getElem? (i := 663) (by decide +kernel), List.mem_of_getElem? (i := 677) (by decide +kernel), List.mem_of_getElem? (i := 678) (by decide +kernel)⟩
theorem lw_p11 : lw_okq (⟨"WalkingOrchardModel", "stands", "(I)V"⟩, 14) := ⟨⟨by decide +kernel, by decide +kernel⟩, List.mem_of_getElem? (i := 663) (by decide +kernel), List.mem_of_getElem? (i := 681) (by decide +kernel), List.mem_of_getElem? (i := 682) (by decide +kernel)⟩
theorem lw_p12 : lw_okq (⟨"WalkingOrchardModel", "lays", "()V"⟩, 14) := ⟨⟨by decide +kernel, by decide +kernel⟩, List.mem_of_getElem? (i := 663) (by decide +kernel), List.mem_of_getElem? (i := 685) (by decide +kernel), List.mem_of_getElem? (i := 686) (by decide +kernel)⟩
theorem lw_p13 : lw_okq (⟨"WalkingOrchardModel", "readsAll", "()I"⟩, 14) := ⟨⟨by decide +kernel, by decide +kernel⟩, List.mem_of_getElem? (i := 663) (by decide +kernel), List.mem_of_getElem? (i := 747) (by decide +kernel), List.mem_of_getElem? (i := 748) (by decide +kernel)⟩
theorem lw_p14 : lw_okq (⟨"WalkingOrchardModel", "readsLine", "()Z"⟩, 14) := ⟨⟨by decide +kernel, by decide +kernel⟩, List.mem_of_getElem? (i := 663) (by decide +kernel), List.mem_of_getElem? (i := 751) (by decide +kernel), List.mem_of_getElem? (i := 752) (by decide +kernel)⟩
theorem lw_p15 : lw_okq (⟨"WalkingOrchardModel", "letterAt", "(I)I"⟩, 14) := ⟨⟨by decide +kernel, by decide +kernel⟩, List.mem_of_getElem? (i := 663) (by decide +kernel), List.mem_of_getElem? (i := 755) (by decide +kernel), List.mem_of_getElem? (i := 756) (by decide +kernel)⟩
def lw_privs_1 : List (MethodName × Nat) := [(⟨"WalkingOrchard", "firstTreeBehind", "(IIJ)I"⟩, 14), (⟨"WalkingOrchard", "ownedBehind", "(IIJ)I"⟩, 14), (⟨"WalkingOrchard", "noneOrOneDitch", "(III)I"⟩, 14), (⟨"WalkingOrchard", "twoDitches", "(III)I"⟩, 14), (⟨"WalkingOrchard", "allSeenComes", "(I)Z"⟩, 14), (⟨"WalkingOrchard", "casesOfFrost", "(IIII)J"⟩, 14), (⟨"WalkingOrchard", "firstTreeOfFrost", "(III)I"⟩, 14), (⟨"WalkingOrchard", "disturbAhead", "(I)V"⟩, 14), (⟨"WalkingOrchardModel", "begins", "()V"⟩, 14), (⟨"WalkingOrchardModel", "owns", "(III)V"⟩, 14), (⟨"WalkingOrchardModel", "rowOf", "(III)V"⟩, 14), (⟨"WalkingOrchardModel", "stands", "(I)V"⟩, 14), (⟨"WalkingOrchardModel", "lays", "()V"⟩, 14), (⟨"WalkingOrchardModel", "readsAll", "()I"⟩, 14), (⟨"WalkingOrchardModel", "readsLine", "()Z"⟩, 14), (⟨"WalkingOrchardModel", "letterAt", "(I)I"⟩, 14)]
theorem lw_r1 : ∀ q ∈ lw_privs_1, lw_okq q := List.forall_mem_cons.mpr ⟨lw_p0, List.forall_mem_cons.mpr ⟨lw_p1, List.forall_mem_cons.mpr ⟨lw_p2, List.forall_mem_cons.mpr ⟨lw_p3, List.forall_mem_cons.mpr ⟨lw_p4, List.forall_mem_cons.mpr ⟨lw_p5, List.forall_mem_cons.mpr ⟨lw_p6, List.forall_mem_cons.mpr ⟨lw_p7, List.forall_mem_cons.mpr ⟨lw_p8, List.forall_mem_cons.mpr ⟨lw_p9, List.forall_mem_cons.mpr ⟨lw_p10, List.forall_mem_cons.mpr ⟨lw_p11, List.forall_mem_cons.mpr ⟨lw_p12, List.forall_mem_cons.mpr ⟨lw_p13, List.forall_mem_cons.mpr ⟨lw_p14, List.forall_mem_cons.mpr ⟨lw_p15, fun _ h => absurd h List.not_mem_nil⟩⟩⟩⟩⟩⟩⟩⟩⟩⟩⟩⟩⟩⟩⟩⟩
theorem lw_p16 : lw_okq (⟨"WalkingOrchardModel", "readsOwner", "()Z"⟩, 14) := ⟨⟨by decide +kernel, by decide +kernel⟩, List.mem_of_getElem? (i := 663) (by decide +kernel), List.mem_of_getElem? (i := 759) (by decide +kernel), List.mem_of_getElem? (i := 760) (by decide +kernel)⟩
theorem lw_p17 : lw_okq (⟨"WalkingOrchardModel", "number", "(III)I"⟩, 14) := ⟨⟨by decide +kernel, by decide +kernel⟩, List.mem_of_getElem? (i := 663) (by decide +kernel), List.mem_of_getElem? (i := 763) (by decide +kernel), List.mem_of_getElem? (i := 764) (by decide +kernel)⟩
theorem lw_p18 : lw_okq (⟨"WalkingOrchardModel", "figures", "(II)I"⟩, 14) := ⟨⟨by decide +kernel, by decide +kernel⟩, List.mem_of_getElem? (i := 663) (by decide +kernel), List.mem_of_getElem? (i := 767) (by decide +kernel), List.mem_of_getElem? (i := 768) (by decide +kernel)⟩
theorem lw_p19 : lw_okq (⟨"WalkingOrchardModel", "readsRow", "()Z"⟩, 14) := ⟨⟨by decide +kernel, by decide +kernel⟩, List.mem_of_getElem? (i := 663) (by decide +kernel), List.mem_of_getElem? (i := 774) (by decide +kernel), List.mem_of_getElem? (i := 775) (by decide +kernel)⟩
theorem lw_p20 : lw_okq (⟨"WalkingOrchardModel", "isTree", "(I)Z"⟩, 14) := ⟨⟨by decide +kernel, by decide +kernel⟩, List.mem_of_getElem? (i := 663) (by decide +kernel), List.mem_of_getElem? (i := 778) (by decide +kernel), List.mem_of_getElem? (i := 779) (by decide +kernel)⟩
theorem lw_p21 : lw_okq (⟨"WalkingOrchardModel", "isCell", "(I)Z"⟩, 14) := ⟨⟨by decide +kernel, by decide +kernel⟩, List.mem_of_getElem? (i := 663) (by decide +kernel), List.mem_of_getElem? (i := 793) (by decide +kernel), List.mem_of_getElem? (i := 794) (by decide +kernel)⟩
theorem lw_p22 : lw_okq (⟨"WalkingOrchardModel", "lies", "(I)I"⟩, 14) := ⟨⟨by decide +kernel, by decide +kernel⟩, List.mem_of_getElem? (i := 663) (by decide +kernel), List.mem_of_getElem? (i := 797) (by decide +kernel), List.mem_of_getElem? (i := 798) (by decide +kernel)⟩
theorem lw_p23 : lw_okq (⟨"WalkingOrchardModel", "treeIn", "(I)I"⟩, 14) := ⟨⟨by decide +kernel, by decide +kernel⟩, List.mem_of_getElem? (i := 663) (by decide +kernel), List.mem_of_getElem? (i := 801) (by decide +kernel), List.mem_of_getElem? (i := 802) (by decide +kernel)⟩
theorem lw_p24 : lw_okq (⟨"WalkingOrchardModel", "isRow", "(I)Z"⟩, 14) := ⟨⟨by decide +kernel, by decide +kernel⟩, List.mem_of_getElem? (i := 663) (by decide +kernel), List.mem_of_getElem? (i := 809) (by decide +kernel), List.mem_of_getElem? (i := 810) (by decide +kernel)⟩
theorem lw_p25 : lw_okq (⟨"WalkingOrchardModel", "headsFor", "(I)I"⟩, 14) := ⟨⟨by decide +kernel, by decide +kernel⟩, List.mem_of_getElem? (i := 663) (by decide +kernel), List.mem_of_getElem? (i := 813) (by decide +kernel), List.mem_of_getElem? (i := 814) (by decide +kernel)⟩
theorem lw_p26 : lw_okq (⟨"WalkingOrchardModel", "beside", "(II)I"⟩, 14) := ⟨⟨by decide +kernel, by decide +kernel⟩, List.mem_of_getElem? (i := 663) (by decide +kernel), List.mem_of_getElem? (i := 817) (by decide +kernel), List.mem_of_getElem? (i := 818) (by decide +kernel)⟩
theorem lw_p27 : lw_okq (⟨"WalkingOrchardModel", "isOpen", "(II)Z"⟩, 14) := ⟨⟨by decide +kernel, by decide +kernel⟩, List.mem_of_getElem? (i := 663) (by decide +kernel), List.mem_of_getElem? (i := 821) (by decide +kernel), List.mem_of_getElem? (i := 822) (by decide +kernel)⟩
theorem lw_p28 : lw_okq (⟨"WalkingOrchardModel", "keeps", "()V"⟩, 14) := ⟨⟨by decide +kernel, by decide +kernel⟩, List.mem_of_getElem? (i := 663) (by decide +kernel), List.mem_of_getElem? (i := 837) (by decide +kernel), List.mem_of_getElem? (i := 838) (by decide +kernel)⟩
theorem lw_p29 : lw_okq (⟨"WalkingOrchardModel", "passes", "(I)V"⟩, 14) := ⟨⟨by decide +kernel, by decide +kernel⟩, List.mem_of_getElem? (i := 663) (by decide +kernel), List.mem_of_getElem? (i := 841) (by decide +kernel), List.mem_of_getElem? (i := 842) (by decide +kernel)⟩
theorem lw_p30 : lw_okq (⟨"WalkingOrchardModel", "hasMate", "(II)Z"⟩, 14) := ⟨⟨by decide +kernel, by decide +kernel⟩, List.mem_of_getElem? (i := 663) (by decide +kernel), List.mem_of_getElem? (i := 845) (by decide +kernel), List.mem_of_getElem? (i := 846) (by decide +kernel)⟩
theorem lw_p31 : lw_okq (⟨"WalkingOrchardModel", "mayDig", "(I)Z"⟩, 14) := ⟨⟨by decide +kernel, by decide +kernel⟩, List.mem_of_getElem? (i := 663) (by decide +kernel), List.mem_of_getElem? (i := 853) (by decide +kernel), List.mem_of_getElem? (i := 854) (by decide +kernel)⟩
def lw_privs_2 : List (MethodName × Nat) := [(⟨"WalkingOrchardModel", "readsOwner", "()Z"⟩, 14), (⟨"WalkingOrchardModel", "number", "(III)I"⟩, 14), (⟨"WalkingOrchardModel", "figures", "(II)I"⟩, 14), (⟨"WalkingOrchardModel", "readsRow", "()Z"⟩, 14), (⟨"WalkingOrchardModel", "isTree", "(I)Z"⟩, 14), (⟨"WalkingOrchardModel", "isCell", "(I)Z"⟩, 14), (⟨"WalkingOrchardModel", "lies", "(I)I"⟩, 14), (⟨"WalkingOrchardModel", "treeIn", "(I)I"⟩, 14), (⟨"WalkingOrchardModel", "isRow", "(I)Z"⟩, 14), (⟨"WalkingOrchardModel", "headsFor", "(I)I"⟩, 14), (⟨"WalkingOrchardModel", "beside", "(II)I"⟩, 14), (⟨"WalkingOrchardModel", "isOpen", "(II)Z"⟩, 14), (⟨"WalkingOrchardModel", "keeps", "()V"⟩, 14), (⟨"WalkingOrchardModel", "passes", "(I)V"⟩, 14), (⟨"WalkingOrchardModel", "hasMate", "(II)Z"⟩, 14), (⟨"WalkingOrchardModel", "mayDig", "(I)Z"⟩, 14)]
theorem lw_r2 : ∀ q ∈ lw_privs_2, lw_okq q := List.forall_mem_cons.mpr ⟨lw_p16, List.forall_mem_cons.mpr ⟨lw_p17, List.forall_mem_cons.mpr ⟨lw_p18, List.forall_mem_cons.mpr ⟨lw_p19, List.forall_mem_cons.mpr ⟨lw_p20, List.forall_mem_cons.mpr ⟨lw_p21, List.forall_mem_cons.mpr ⟨lw_p22, List.forall_mem_cons.mpr ⟨lw_p23, List.forall_mem_cons.mpr ⟨lw_p24, List.forall_mem_cons.mpr ⟨lw_p25, List.forall_mem_cons.mpr ⟨lw_p26, List.forall_mem_cons.mpr ⟨lw_p27, List.forall_mem_cons.mpr ⟨lw_p28, List.forall_mem_cons.mpr ⟨lw_p29, List.forall_mem_cons.mpr ⟨lw_p30, List.forall_mem_cons.mpr ⟨lw_p31, fun _ h => absurd h List.not_mem_nil⟩⟩⟩⟩⟩⟩⟩⟩⟩⟩⟩⟩⟩⟩⟩⟩
theorem lw_p32 : lw_okq (⟨"WalkingOrchardModel", "countOf", "(I)I"⟩, 14) := ⟨⟨by decide +kernel, by decide +kernel⟩, List.mem_of_getElem? (i := 663) (by decide +kernel), List.mem_of_getElem? (i := 857) (by decide +kernel), List.mem_of_getElem? (i := 858) (by decide +kernel)⟩
theorem lw_p33 : lw_okq (⟨"WalkingOrchardModel", "leaves", "(I)I"⟩, 14) := ⟨⟨by decide +kernel, by decide +kernel⟩, List.mem_of_getElem? (i := 663) (by decide +kernel), List.mem_of_getElem? (i := 869) (by decide +kernel), List.mem_of_getElem? (i := 870) (by decide +kernel)⟩
theorem lw_p34 : lw_okq (⟨"WalkingOrchardModel", "behindOf", "(II)I"⟩, 14) := ⟨⟨by decide +kernel, by decide +kernel⟩, List.mem_of_getElem? (i := 663) (by decide +kernel), List.mem_of_getElem? (i := 881) (by decide +kernel), List.mem_of_getElem? (i := 882) (by decide +kernel)⟩
theorem lw_p35 : lw_okq (⟨"WalkingOrchardModel", "holds", "()V"⟩, 14) := ⟨⟨by decide +kernel, by decide +kernel⟩, List.mem_of_getElem? (i := 663) (by decide +kernel), List.mem_of_getElem? (i := 885) (by decide +kernel), List.mem_of_getElem? (i := 886) (by decide +kernel)⟩
theorem lw_p36 : lw_okq (⟨"WalkingOrchardModel", "lets", "()V"⟩, 14) := ⟨⟨by decide +kernel, by decide +kernel⟩, List.mem_of_getElem? (i := 663) (by decide +kernel), List.mem_of_getElem? (i := 889) (by decide +kernel), List.mem_of_getElem? (i := 890) (by decide +kernel)⟩
theorem lw_p37 : lw_okq (⟨"WalkingOrchardModel", "areBeside", "(II)Z"⟩, 14) := ⟨⟨by decide +kernel, by decide +kernel⟩, List.mem_of_getElem? (i := 663) (by decide +kernel), List.mem_of_getElem? (i := 905) (by decide +kernel), List.mem_of_getElem? (i := 906) (by decide +kernel)⟩
theorem lw_p38 : lw_okq (⟨"WalkingOrchardModel", "isAgain", "()Z"⟩, 14) := ⟨⟨by decide +kernel, by decide +kernel⟩, List.mem_of_getElem? (i := 663) (by decide +kernel), List.mem_of_getElem? (i := 913) (by decide +kernel), List.mem_of_getElem? (i := 914) (by decide +kernel)⟩
theorem lw_p39 : lw_okq (⟨"WalkingOrchardModel", "brings", "(IIIII)Z"⟩, 14) := ⟨⟨by decide +kernel, by decide +kernel⟩, List.mem_of_getElem? (i := 663) (by decide +kernel), List.mem_of_getElem? (i := 921) (by decide +kernel), List.mem_of_getElem? (i := 922) (by decide +kernel)⟩
theorem lw_p40 : lw_okq (⟨"WalkingOrchardModel", "isSo", "(I)Z"⟩, 14) := ⟨⟨by decide +kernel, by decide +kernel⟩, List.mem_of_getElem? (i := 663) (by decide +kernel), List.mem_of_getElem? (i := 941) (by decide +kernel), List.mem_of_getElem? (i := 942) (by decide +kernel)⟩
theorem lw_p41 : lw_okq (⟨"WalkingOrchardModel", "turn", "(I)V"⟩, 14) := ⟨⟨by decide +kernel, by decide +kernel⟩, List.mem_of_getElem? (i := 663) (by decide +kernel), List.mem_of_getElem? (i := 956) (by decide +kernel), List.mem_of_getElem? (i := 957) (by decide +kernel)⟩
theorem lw_p42 : lw_okq (⟨"WalkingOrchardModel", "allHave", "()I"⟩, 14) := ⟨⟨by decide +kernel, by decide +kernel⟩, List.mem_of_getElem? (i := 663) (by decide +kernel), List.mem_of_getElem? (i := 960) (by decide +kernel), List.mem_of_getElem? (i := 961) (by decide +kernel)⟩
def lw_privs_3 : List (MethodName × Nat) := [(⟨"WalkingOrchardModel", "countOf", "(I)I"⟩, 14), (⟨"WalkingOrchardModel", "leaves", "(I)I"⟩, 14), (⟨"WalkingOrchardModel", "behindOf", "(II)I"⟩, 14), (⟨"WalkingOrchardModel", "holds", "()V"⟩, 14), (⟨"WalkingOrchardModel", "lets", "()V"⟩, 14), (⟨"WalkingOrchardModel", "areBeside", "(II)Z"⟩, 14), (⟨"WalkingOrchardModel", "isAgain", "()Z"⟩, 14), (⟨"WalkingOrchardModel", "brings", "(IIIII)Z"⟩, 14), (⟨"WalkingOrchardModel", "isSo", "(I)Z"⟩, 14), (⟨"WalkingOrchardModel", "turn", "(I)V"⟩, 14), (⟨"WalkingOrchardModel", "allHave", "()I"⟩, 14)]
theorem lw_r3 : ∀ q ∈ lw_privs_3, lw_okq q := List.forall_mem_cons.mpr ⟨lw_p32, List.forall_mem_cons.mpr ⟨lw_p33, List.forall_mem_cons.mpr ⟨lw_p34, List.forall_mem_cons.mpr ⟨lw_p35, List.forall_mem_cons.mpr ⟨lw_p36, List.forall_mem_cons.mpr ⟨lw_p37, List.forall_mem_cons.mpr ⟨lw_p38, List.forall_mem_cons.mpr ⟨lw_p39, List.forall_mem_cons.mpr ⟨lw_p40, List.forall_mem_cons.mpr ⟨lw_p41, List.forall_mem_cons.mpr ⟨lw_p42, fun _ h => absurd h List.not_mem_nil⟩⟩⟩⟩⟩⟩⟩⟩⟩⟩⟩
def lw_privs : List (MethodName × Nat) := lw_privs_1 ++ (lw_privs_2 ++ (lw_privs_3))
def lw_tbl : List Cond := k2_sels lw_privs ++ tables_1
theorem lw_privs_ok : ∀ q ∈ lw_privs, lw_okq q := by
  show ∀ q ∈ lw_privs_1 ++ (lw_privs_2 ++ (lw_privs_3)), lw_okq q
  exact List.forall_mem_append.mpr ⟨lw_r1, List.forall_mem_append.mpr ⟨lw_r2, lw_r3⟩⟩
-- ===== end of PART A; then your names; then what follows =====
/-! ===== BEGIN words of one list among another's, by their places ===== -/
/-! ===== END ===== -/

/-! ===== BEGIN printed: names, fields, word lists, decode rows ===== -/
def RX0 : String := "WalkingOrchard$Land"
def TX0 : u_T := fun k => match k with
  | 0 => ("WalkingOrchard$Land", "owners", "[I", true)
  | 1 => ("WalkingOrchard$Land", "fields", "J", false)
  | 2 => ("WalkingOrchard$Land", "hedges", "J", false)
  | 3 => ("WalkingOrchard$Land", "brooks", "J", false)
  | 4 => ("WalkingOrchard$Land", "lines", "I", false)
  | _ => ("WalkingOrchard$Land", "width", "I", false)
def tyX0 : Nat → FieldType := fun k => match k with
  | 0 => .array .int
  | 1 => .long
  | 2 => .long
  | 3 => .long
  | 4 => .int
  | _ => .int
abbrev wsX00 : List Cond := u_ws RX0 TX0 6
theorem nmX0 : ∀ a, a < 6 → ∀ b, b < 6 → a ≠ b → (TX0 a).2.1 ≠ (TX0 b).2.1 := by decide +kernel
theorem tyX0_ok : ∀ k, k < 6 → parseFieldDescriptor (TX0 k).2.2.1 = some (tyX0 k) := by decide +kernel
abbrev cX0_init : ByteArray := prog_2_method_1_code
def yX0_init : MethodName := ⟨RX0, "<init>", "()V"⟩
abbrev cX0_clear : ByteArray := prog_2_method_2_code
def yX0_clear : MethodName := ⟨RX0, "clear", "()V"⟩
abbrev cX0_copyFrom : ByteArray := prog_2_method_3_code
def yX0_copyFrom : MethodName := ⟨RX0, "copyFrom", "(LWalkingOrchard$Land;)V"⟩
abbrev cX0_cells : ByteArray := prog_2_method_4_code
def yX0_cells : MethodName := ⟨RX0, "cells", "()I"⟩
abbrev cX0_holds : ByteArray := prog_2_method_5_code
def yX0_holds : MethodName := ⟨RX0, "holds", "(I)Z"⟩
abbrev cX0_groundOf : ByteArray := prog_2_method_6_code
def yX0_groundOf : MethodName := ⟨RX0, "groundOf", "(I)I"⟩
abbrev cX0_ownerOf : ByteArray := prog_2_method_7_code
def yX0_ownerOf : MethodName := ⟨RX0, "ownerOf", "(I)I"⟩
abbrev cX0_nextBy : ByteArray := prog_2_method_8_code
def yX0_nextBy : MethodName := ⟨RX0, "nextBy", "(II)I"⟩
abbrev cX0_isBesideOne : ByteArray := prog_2_method_9_code
def yX0_isBesideOne : MethodName := ⟨RX0, "isBesideOne", "(IJ)Z"⟩
def RX1 : String := "WalkingOrchard$Orchard"
def TX1 : u_T := fun k => match k with
  | 0 => ("WalkingOrchard$Orchard", "land", "LWalkingOrchard$Land;", true)
  | 1 => ("WalkingOrchard$Orchard", "rows", "[LWalkingOrchard$Row;", true)
  | 2 => ("WalkingOrchard$Orchard", "owned", "[I", true)
  | 3 => ("WalkingOrchard$Orchard", "rowCount", "I", false)
  | 4 => ("WalkingOrchard$Orchard", "year", "I", false)
  | 5 => ("WalkingOrchard$Orchard", "ditches", "J", false)
  | 6 => ("WalkingOrchard$Orchard", "leftBehind", "J", false)
  | 7 => ("WalkingOrchard$Orchard", "taken", "J", false)
  | _ => ("WalkingOrchard$Orchard", "entered", "J", false)
def tyX1 : Nat → FieldType := fun k => match k with
  | 0 => .object "WalkingOrchard$Land"
  | 1 => .array (.object "WalkingOrchard$Row")
  | 2 => .array .int
  | 3 => .int
  | 4 => .int
  | 5 => .long
  | 6 => .long
  | 7 => .long
  | _ => .long
abbrev wsX10 : List Cond := u_ws RX1 TX1 9
theorem nmX1 : ∀ a, a < 9 → ∀ b, b < 9 → a ≠ b → (TX1 a).2.1 ≠ (TX1 b).2.1 := by decide +kernel
theorem tyX1_ok : ∀ k, k < 9 → parseFieldDescriptor (TX1 k).2.2.1 = some (tyX1 k) := by decide +kernel
abbrev cX1_init : ByteArray := prog_3_method_1_code
def yX1_init : MethodName := ⟨RX1, "<init>", "(LWalkingOrchard$Land;)V"⟩
abbrev cX1_clear : ByteArray := prog_3_method_2_code
def yX1_clear : MethodName := ⟨RX1, "clear", "()V"⟩
abbrev cX1_copyFrom : ByteArray := prog_3_method_3_code
def yX1_copyFrom : MethodName := ⟨RX1, "copyFrom", "(LWalkingOrchard$Orchard;)V"⟩
abbrev cX1_holds : ByteArray := prog_3_method_4_code
def yX1_holds : MethodName := ⟨RX1, "holds", "(I)Z"⟩
abbrev cX1_standsIn : ByteArray := prog_3_method_5_code
def yX1_standsIn : MethodName := ⟨RX1, "standsIn", "(I)I"⟩
abbrev cX1_canDig : ByteArray := prog_3_method_6_code
def yX1_canDig : MethodName := ⟨RX1, "canDig", "(I)Z"⟩
abbrev cX1_digIn : ByteArray := prog_3_method_7_code
def yX1_digIn : MethodName := ⟨RX1, "digIn", "(I)V"⟩
abbrev cX1_fillIn : ByteArray := prog_3_method_8_code
def yX1_fillIn : MethodName := ⟨RX1, "fillIn", "(I)V"⟩
abbrev cX1_leaveLast : ByteArray := prog_3_method_9_code
def yX1_leaveLast : MethodName := ⟨RX1, "leaveLast", "(LWalkingOrchard$Row;)I"⟩
abbrev cX1_wayOf : ByteArray := prog_3_method_10_code
def yX1_wayOf : MethodName := ⟨RX1, "wayOf", "(LWalkingOrchard$Row;)I"⟩
abbrev cX1_goRow : ByteArray := prog_3_method_11_code
def yX1_goRow : MethodName := ⟨RX1, "goRow", "(LWalkingOrchard$Row;)V"⟩
abbrev cX1_goYear : ByteArray := prog_3_method_12_code
def yX1_goYear : MethodName := ⟨RX1, "goYear", "(I)V"⟩
abbrev cX1_passYears : ByteArray := prog_3_method_13_code
def yX1_passYears : MethodName := ⟨RX1, "passYears", "(I)V"⟩
abbrev cX1_bearRow : ByteArray := prog_3_method_14_code
def yX1_bearRow : MethodName := ⟨RX1, "bearRow", "(LWalkingOrchard$Row;)V"⟩
abbrev cX1_give : ByteArray := prog_3_method_15_code
def yX1_give : MethodName := ⟨RX1, "give", "(II)V"⟩
abbrev cX1_ownedByAll : ByteArray := prog_3_method_16_code
def yX1_ownedByAll : MethodName := ⟨RX1, "ownedByAll", "()I"⟩
abbrev cX1_areSideBySide : ByteArray := prog_3_method_17_code
def yX1_areSideBySide : MethodName := ⟨RX1, "areSideBySide", "(LWalkingOrchard$Row;LWalkingOrchard$Row;)Z"⟩
abbrev cX1_standsAs : ByteArray := prog_3_method_18_code
def yX1_standsAs : MethodName := ⟨RX1, "standsAs", "(LWalkingOrchard$Orchard;)Z"⟩
def RX2 : String := "WalkingOrchard$Past"
def TX2 : u_T := fun k => match k with
  | 0 => ("WalkingOrchard$Past", "orchards", "[LWalkingOrchard$Orchard;", true)
  | _ => ("WalkingOrchard$Past", "count", "I", false)
def tyX2 : Nat → FieldType := fun k => match k with
  | 0 => .array (.object "WalkingOrchard$Orchard")
  | _ => .int
abbrev wsX20 : List Cond := u_ws RX2 TX2 2
theorem nmX2 : ∀ a, a < 2 → ∀ b, b < 2 → a ≠ b → (TX2 a).2.1 ≠ (TX2 b).2.1 := by decide +kernel
theorem tyX2_ok : ∀ k, k < 2 → parseFieldDescriptor (TX2 k).2.2.1 = some (tyX2 k) := by decide +kernel
abbrev cX2_init : ByteArray := prog_4_method_1_code
def yX2_init : MethodName := ⟨RX2, "<init>", "(ILWalkingOrchard$Land;)V"⟩
abbrev cX2_clear : ByteArray := prog_4_method_2_code
def yX2_clear : MethodName := ⟨RX2, "clear", "()V"⟩
abbrev cX2_push : ByteArray := prog_4_method_3_code
def yX2_push : MethodName := ⟨RX2, "push", "(LWalkingOrchard$Orchard;)V"⟩
abbrev cX2_pop : ByteArray := prog_4_method_4_code
def yX2_pop : MethodName := ⟨RX2, "pop", "(LWalkingOrchard$Orchard;)V"⟩
abbrev cX2_dropOldest : ByteArray := prog_4_method_5_code
def yX2_dropOldest : MethodName := ⟨RX2, "dropOldest", "()V"⟩
def RX3 : String := "WalkingOrchard$Reader"
def TX3 : u_T := fun k => match k with
  | 0 => ("WalkingOrchard$Reader", "land", "LWalkingOrchard$Land;", true)
  | 1 => ("WalkingOrchard$Reader", "orchard", "LWalkingOrchard$Orchard;", true)
  | 2 => ("WalkingOrchard$Reader", "numbers", "[I", true)
  | 3 => ("WalkingOrchard$Reader", "told", "I", false)
  | 4 => ("WalkingOrchard$Reader", "letters", "[C", false)
  | 5 => ("WalkingOrchard$Reader", "length", "I", false)
  | _ => ("WalkingOrchard$Reader", "at", "I", false)
def tyX3 : Nat → FieldType := fun k => match k with
  | 0 => .object "WalkingOrchard$Land"
  | 1 => .object "WalkingOrchard$Orchard"
  | 2 => .array .int
  | 3 => .int
  | 4 => .array .char
  | 5 => .int
  | _ => .int
abbrev wsX30 : List Cond := u_ws RX3 TX3 7
theorem nmX3 : ∀ a, a < 7 → ∀ b, b < 7 → a ≠ b → (TX3 a).2.1 ≠ (TX3 b).2.1 := by decide +kernel
theorem tyX3_ok : ∀ k, k < 7 → parseFieldDescriptor (TX3 k).2.2.1 = some (tyX3 k) := by decide +kernel
abbrev cX3_init : ByteArray := prog_5_method_1_code
def yX3_init : MethodName := ⟨RX3, "<init>", "()V"⟩
abbrev cX3_readText : ByteArray := prog_5_method_2_code
def yX3_readText : MethodName := ⟨RX3, "readText", "([CI)I"⟩
abbrev cX3_readItem : ByteArray := prog_5_method_3_code
def yX3_readItem : MethodName := ⟨RX3, "readItem", "()Z"⟩
abbrev cX3_nextLetter : ByteArray := prog_5_method_4_code
def yX3_nextLetter : MethodName := ⟨RX3, "nextLetter", "()C"⟩
abbrev cX3_readLine : ByteArray := prog_5_method_5_code
def yX3_readLine : MethodName := ⟨RX3, "readLine", "()Z"⟩
abbrev cX3_tellGround : ByteArray := prog_5_method_6_code
def yX3_tellGround : MethodName := ⟨RX3, "tellGround", "(II)V"⟩
abbrev cX3_readNumbers : ByteArray := prog_5_method_7_code
def yX3_readNumbers : MethodName := ⟨RX3, "readNumbers", "()Z"⟩
abbrev cX3_readNumber : ByteArray := prog_5_method_8_code
def yX3_readNumber : MethodName := ⟨RX3, "readNumber", "()I"⟩
abbrev cX3_isFigureNext : ByteArray := prog_5_method_9_code
def yX3_isFigureNext : MethodName := ⟨RX3, "isFigureNext", "()Z"⟩
abbrev cX3_giveCells : ByteArray := prog_5_method_10_code
def yX3_giveCells : MethodName := ⟨RX3, "giveCells", "()Z"⟩
abbrev cX3_plantRow : ByteArray := prog_5_method_11_code
def yX3_plantRow : MethodName := ⟨RX3, "plantRow", "()Z"⟩
abbrev cX3_plantTree : ByteArray := prog_5_method_12_code
def yX3_plantTree : MethodName := ⟨RX3, "plantTree", "(LWalkingOrchard$Row;I)Z"⟩
def RX4 : String := "WalkingOrchard$Row"
def TX4 : u_T := fun k => match k with
  | 0 => ("WalkingOrchard$Row", "trees", "[I", true)
  | 1 => ("WalkingOrchard$Row", "size", "I", false)
  | 2 => ("WalkingOrchard$Row", "kind", "I", false)
  | 3 => ("WalkingOrchard$Row", "heading", "I", false)
  | _ => ("WalkingOrchard$Row", "bears", "I", false)
def tyX4 : Nat → FieldType := fun k => match k with
  | 0 => .array .int
  | 1 => .int
  | 2 => .int
  | 3 => .int
  | _ => .int
abbrev wsX40 : List Cond := u_ws RX4 TX4 5
theorem nmX4 : ∀ a, a < 5 → ∀ b, b < 5 → a ≠ b → (TX4 a).2.1 ≠ (TX4 b).2.1 := by decide +kernel
theorem tyX4_ok : ∀ k, k < 5 → parseFieldDescriptor (TX4 k).2.2.1 = some (tyX4 k) := by decide +kernel
abbrev cX4_init : ByteArray := prog_6_method_1_code
def yX4_init : MethodName := ⟨RX4, "<init>", "()V"⟩
abbrev cX4_copyFrom : ByteArray := prog_6_method_2_code
def yX4_copyFrom : MethodName := ⟨RX4, "copyFrom", "(LWalkingOrchard$Row;)V"⟩
abbrev cX4_first : ByteArray := prog_6_method_3_code
def yX4_first : MethodName := ⟨RX4, "first", "()I"⟩
abbrev cX4_treeAt : ByteArray := prog_6_method_4_code
def yX4_treeAt : MethodName := ⟨RX4, "treeAt", "(I)I"⟩
abbrev cX4_cells : ByteArray := prog_6_method_5_code
def yX4_cells : MethodName := ⟨RX4, "cells", "()J"⟩
abbrev cX4_plant : ByteArray := prog_6_method_6_code
def yX4_plant : MethodName := ⟨RX4, "plant", "(I)V"⟩
abbrev cX4_standsAs : ByteArray := prog_6_method_7_code
def yX4_standsAs : MethodName := ⟨RX4, "standsAs", "(LWalkingOrchard$Row;)Z"⟩
def RX5 : String := "WalkingOrchard"
def TX5 : u_T := fun k => match k with
  | 0 => ("WalkingOrchard", "text", "[C", true)
  | 1 => ("WalkingOrchard", "textLength", "I", false)
  | 2 => ("WalkingOrchard", "land", "LWalkingOrchard$Land;", true)
  | 3 => ("WalkingOrchard", "now", "LWalkingOrchard$Orchard;", true)
  | 4 => ("WalkingOrchard", "ahead", "LWalkingOrchard$Orchard;", true)
  | 5 => ("WalkingOrchard", "reader", "LWalkingOrchard$Reader;", true)
  | 6 => ("WalkingOrchard", "undoable", "LWalkingOrchard$Past;", true)
  | 7 => ("WalkingOrchard", "kept", "LWalkingOrchard$Past;", true)
  | 8 => ("WalkingOrchard", "seenRows", "[I", true)
  | 9 => ("WalkingOrchard", "seenCells", "[I", true)
  | 10 => ("WalkingOrchard", "seenYears", "[I", true)
  | 11 => ("WalkingOrchard", "seenCount", "I", false)
  | 12 => ("WalkingOrchard", "found", "[I", true)
  | _ => ("WalkingOrchard", "enteredBy", "[J", true)
def tyX5 : Nat → FieldType := fun k => match k with
  | 0 => .array .char
  | 1 => .int
  | 2 => .object "WalkingOrchard$Land"
  | 3 => .object "WalkingOrchard$Orchard"
  | 4 => .object "WalkingOrchard$Orchard"
  | 5 => .object "WalkingOrchard$Reader"
  | 6 => .object "WalkingOrchard$Past"
  | 7 => .object "WalkingOrchard$Past"
  | 8 => .array .int
  | 9 => .array .int
  | 10 => .array .int
  | 11 => .int
  | 12 => .array .int
  | _ => .array .long
abbrev wsX50 : List Cond := u_ws RX5 TX5 14
theorem nmX5 : ∀ a, a < 14 → ∀ b, b < 14 → a ≠ b → (TX5 a).2.1 ≠ (TX5 b).2.1 := by decide +kernel
theorem tyX5_ok : ∀ k, k < 14 → parseFieldDescriptor (TX5 k).2.2.1 = some (tyX5 k) := by decide +kernel
abbrev cX5_init : ByteArray := prog_1_method_1_code
def yX5_init : MethodName := ⟨RX5, "<init>", "()V"⟩
abbrev cX5_write : ByteArray := prog_1_method_2_code
def yX5_write : MethodName := ⟨RX5, "write", "(I)I"⟩
abbrev cX5_wipe : ByteArray := prog_1_method_3_code
def yX5_wipe : MethodName := ⟨RX5, "wipe", "()I"⟩
abbrev cX5_fault : ByteArray := prog_1_method_4_code
def yX5_fault : MethodName := ⟨RX5, "fault", "()I"⟩
abbrev cX5_lay : ByteArray := prog_1_method_5_code
def yX5_lay : MethodName := ⟨RX5, "lay", "()I"⟩
abbrev cX5_cell : ByteArray := prog_1_method_6_code
def yX5_cell : MethodName := ⟨RX5, "cell", "(II)I"⟩
abbrev cX5_row : ByteArray := prog_1_method_7_code
def yX5_row : MethodName := ⟨RX5, "row", "(II)I"⟩
abbrev cX5_tree : ByteArray := prog_1_method_8_code
def yX5_tree : MethodName := ⟨RX5, "tree", "(II)I"⟩
abbrev cX5_has : ByteArray := prog_1_method_9_code
def yX5_has : MethodName := ⟨RX5, "has", "(I)I"⟩
abbrev cX5_pass : ByteArray := prog_1_method_10_code
def yX5_pass : MethodName := ⟨RX5, "pass", "(I)I"⟩
abbrev cX5_dig : ByteArray := prog_1_method_11_code
def yX5_dig : MethodName := ⟨RX5, "dig", "(I)I"⟩
abbrev cX5_fill : ByteArray := prog_1_method_12_code
def yX5_fill : MethodName := ⟨RX5, "fill", "(I)I"⟩
abbrev cX5_leave : ByteArray := prog_1_method_13_code
def yX5_leave : MethodName := ⟨RX5, "leave", "(I)I"⟩
abbrev cX5_undo : ByteArray := prog_1_method_14_code
def yX5_undo : MethodName := ⟨RX5, "undo", "()I"⟩
abbrev cX5_behind : ByteArray := prog_1_method_15_code
def yX5_behind : MethodName := ⟨RX5, "behind", "(II)I"⟩
abbrev cX5_wealth : ByteArray := prog_1_method_16_code
def yX5_wealth : MethodName := ⟨RX5, "wealth", "(II)I"⟩
abbrev cX5_comes : ByteArray := prog_1_method_17_code
def yX5_comes : MethodName := ⟨RX5, "comes", "(II)I"⟩
abbrev cX5_meet : ByteArray := prog_1_method_18_code
def yX5_meet : MethodName := ⟨RX5, "meet", "(II)I"⟩
abbrev cX5_again : ByteArray := prog_1_method_19_code
def yX5_again : MethodName := ⟨RX5, "again", "()I"⟩
abbrev cX5_ditches : ByteArray := prog_1_method_20_code
def yX5_ditches : MethodName := ⟨RX5, "ditches", "(IIII)I"⟩
abbrev cX5_best : ByteArray := prog_1_method_21_code
def yX5_best : MethodName := ⟨RX5, "best", "(III)I"⟩
abbrev cX5_see : ByteArray := prog_1_method_22_code
def yX5_see : MethodName := ⟨RX5, "see", "(III)I"⟩
abbrev cX5_forget : ByteArray := prog_1_method_23_code
def yX5_forget : MethodName := ⟨RX5, "forget", "()I"⟩
abbrev cX5_fits : ByteArray := prog_1_method_24_code
def yX5_fits : MethodName := ⟨RX5, "fits", "(II)I"⟩
abbrev cX5_frost : ByteArray := prog_1_method_25_code
def yX5_frost : MethodName := ⟨RX5, "frost", "(IIIII)I"⟩
abbrev cX5_century : ByteArray := prog_1_method_26_code
def yX5_century : MethodName := ⟨RX5, "century", "(III)I"⟩
abbrev cX5_keep : ByteArray := prog_1_method_27_code
def yX5_keep : MethodName := ⟨RX5, "keep", "()I"⟩
abbrev cX5_back : ByteArray := prog_1_method_28_code
def yX5_back : MethodName := ⟨RX5, "back", "()I"⟩
abbrev cX5_count : ByteArray := prog_1_method_29_code
def yX5_count : MethodName := ⟨RX5, "count", "(I)I"⟩
abbrev cX5_isWithin : ByteArray := prog_1_method_30_code
def yX5_isWithin : MethodName := ⟨RX5, "isWithin", "(III)Z"⟩
abbrev cX5_isOwner : ByteArray := prog_1_method_31_code
def yX5_isOwner : MethodName := ⟨RX5, "isOwner", "(I)Z"⟩
abbrev cX5_bit : ByteArray := prog_1_method_32_code
def yX5_bit : MethodName := ⟨RX5, "bit", "(I)J"⟩
abbrev cX5_contains : ByteArray := prog_1_method_33_code
def yX5_contains : MethodName := ⟨RX5, "contains", "(JI)Z"⟩
abbrev cX5_firstTreeBehind : ByteArray := prog_1_method_34_code
def yX5_firstTreeBehind : MethodName := ⟨RX5, "firstTreeBehind", "(IIJ)I"⟩
abbrev cX5_ownedBehind : ByteArray := prog_1_method_35_code
def yX5_ownedBehind : MethodName := ⟨RX5, "ownedBehind", "(IIJ)I"⟩
abbrev cX5_noneOrOneDitch : ByteArray := prog_1_method_36_code
def yX5_noneOrOneDitch : MethodName := ⟨RX5, "noneOrOneDitch", "(III)I"⟩
abbrev cX5_twoDitches : ByteArray := prog_1_method_37_code
def yX5_twoDitches : MethodName := ⟨RX5, "twoDitches", "(III)I"⟩
abbrev cX5_allSeenComes : ByteArray := prog_1_method_38_code
def yX5_allSeenComes : MethodName := ⟨RX5, "allSeenComes", "(I)Z"⟩
abbrev cX5_casesOfFrost : ByteArray := prog_1_method_39_code
def yX5_casesOfFrost : MethodName := ⟨RX5, "casesOfFrost", "(IIII)J"⟩
abbrev cX5_firstTreeOfFrost : ByteArray := prog_1_method_40_code
def yX5_firstTreeOfFrost : MethodName := ⟨RX5, "firstTreeOfFrost", "(III)I"⟩
abbrev cX5_drawOf : ByteArray := prog_1_method_41_code
def yX5_drawOf : MethodName := ⟨RX5, "drawOf", "(II)I"⟩
abbrev cX5_disturbAhead : ByteArray := prog_1_method_42_code
def yX5_disturbAhead : MethodName := ⟨RX5, "disturbAhead", "(I)V"⟩
def RX6 : String := "WalkingOrchardModel"
def TX6 : u_T := fun k => match k with
  | 0 => ("WalkingOrchardModel", "text", "[I", true)
  | 1 => ("WalkingOrchardModel", "typed", "I", false)
  | 2 => ("WalkingOrchardModel", "told", "[I", true)
  | 3 => ("WalkingOrchardModel", "draft", "[I", true)
  | 4 => ("WalkingOrchardModel", "begun", "[I", true)
  | 5 => ("WalkingOrchardModel", "s", "[I", true)
  | 6 => ("WalkingOrchardModel", "past", "[I", true)
  | 7 => ("WalkingOrchardModel", "known", "I", false)
  | 8 => ("WalkingOrchardModel", "images", "[I", true)
  | 9 => ("WalkingOrchardModel", "kept", "I", false)
  | 10 => ("WalkingOrchardModel", "notes", "[I", true)
  | 11 => ("WalkingOrchardModel", "noted", "I", false)
  | 12 => ("WalkingOrchardModel", "at", "I", false)
  | _ => ("WalkingOrchardModel", "aside", "[I", true)
def tyX6 : Nat → FieldType := fun k => match k with
  | 0 => .array .int
  | 1 => .int
  | 2 => .array .int
  | 3 => .array .int
  | 4 => .array .int
  | 5 => .array .int
  | 6 => .array .int
  | 7 => .int
  | 8 => .array .int
  | 9 => .int
  | 10 => .array .int
  | 11 => .int
  | 12 => .int
  | _ => .array .int
abbrev wsX60 : List Cond := u_ws RX6 TX6 14
theorem nmX6 : ∀ a, a < 14 → ∀ b, b < 14 → a ≠ b → (TX6 a).2.1 ≠ (TX6 b).2.1 := by decide +kernel
theorem tyX6_ok : ∀ k, k < 14 → parseFieldDescriptor (TX6 k).2.2.1 = some (tyX6 k) := by decide +kernel
abbrev cX6_init : ByteArray := prog_8_method_1_code
def yX6_init : MethodName := ⟨RX6, "<init>", "()V"⟩
abbrev cX6_in : ByteArray := prog_8_method_3_code
def yX6_in : MethodName := ⟨RX6, "in", "(III)Z"⟩
abbrev cX6_isCell : ByteArray := prog_8_method_4_code
def yX6_isCell : MethodName := ⟨RX6, "isCell", "(I)Z"⟩
abbrev cX6_isRow : ByteArray := prog_8_method_5_code
def yX6_isRow : MethodName := ⟨RX6, "isRow", "(I)Z"⟩
abbrev cX6_write : ByteArray := prog_8_method_6_code
def yX6_write : MethodName := ⟨RX6, "write", "(I)I"⟩
abbrev cX6_wipe : ByteArray := prog_8_method_7_code
def yX6_wipe : MethodName := ⟨RX6, "wipe", "()I"⟩
abbrev cX6_letterAt : ByteArray := prog_8_method_8_code
def yX6_letterAt : MethodName := ⟨RX6, "letterAt", "(I)I"⟩
abbrev cX6_isFigure : ByteArray := prog_8_method_9_code
def yX6_isFigure : MethodName := ⟨RX6, "isFigure", "(I)Z"⟩
abbrev cX6_figures : ByteArray := prog_8_method_10_code
def yX6_figures : MethodName := ⟨RX6, "figures", "(II)I"⟩
abbrev cX6_number : ByteArray := prog_8_method_11_code
def yX6_number : MethodName := ⟨RX6, "number", "(III)I"⟩
abbrev cX6_begins : ByteArray := prog_8_method_12_code
def yX6_begins : MethodName := ⟨RX6, "begins", "()V"⟩
abbrev cX6_owns : ByteArray := prog_8_method_13_code
def yX6_owns : MethodName := ⟨RX6, "owns", "(III)V"⟩
abbrev cX6_rowOf : ByteArray := prog_8_method_14_code
def yX6_rowOf : MethodName := ⟨RX6, "rowOf", "(III)V"⟩
abbrev cX6_stands : ByteArray := prog_8_method_15_code
def yX6_stands : MethodName := ⟨RX6, "stands", "(I)V"⟩
abbrev cX6_readsLine : ByteArray := prog_8_method_16_code
def yX6_readsLine : MethodName := ⟨RX6, "readsLine", "()Z"⟩
abbrev cX6_readsOwner : ByteArray := prog_8_method_17_code
def yX6_readsOwner : MethodName := ⟨RX6, "readsOwner", "()Z"⟩
abbrev cX6_isNext : ByteArray := prog_8_method_18_code
def yX6_isNext : MethodName := ⟨RX6, "isNext", "(III)Z"⟩
abbrev cX6_isTree : ByteArray := prog_8_method_19_code
def yX6_isTree : MethodName := ⟨RX6, "isTree", "(I)Z"⟩
abbrev cX6_readsRow : ByteArray := prog_8_method_20_code
def yX6_readsRow : MethodName := ⟨RX6, "readsRow", "()Z"⟩
abbrev cX6_readsAll : ByteArray := prog_8_method_21_code
def yX6_readsAll : MethodName := ⟨RX6, "readsAll", "()I"⟩
abbrev cX6_fault : ByteArray := prog_8_method_22_code
def yX6_fault : MethodName := ⟨RX6, "fault", "()I"⟩
abbrev cX6_lays : ByteArray := prog_8_method_23_code
def yX6_lays : MethodName := ⟨RX6, "lays", "()V"⟩
abbrev cX6_lay : ByteArray := prog_8_method_24_code
def yX6_lay : MethodName := ⟨RX6, "lay", "()I"⟩
abbrev cX6_treeIn : ByteArray := prog_8_method_25_code
def yX6_treeIn : MethodName := ⟨RX6, "treeIn", "(I)I"⟩
abbrev cX6_lies : ByteArray := prog_8_method_26_code
def yX6_lies : MethodName := ⟨RX6, "lies", "(I)I"⟩
abbrev cX6_cell : ByteArray := prog_8_method_27_code
def yX6_cell : MethodName := ⟨RX6, "cell", "(II)I"⟩
abbrev cX6_beside : ByteArray := prog_8_method_28_code
def yX6_beside : MethodName := ⟨RX6, "beside", "(II)I"⟩
abbrev cX6_isOpen : ByteArray := prog_8_method_29_code
def yX6_isOpen : MethodName := ⟨RX6, "isOpen", "(II)Z"⟩
abbrev cX6_headsFor : ByteArray := prog_8_method_30_code
def yX6_headsFor : MethodName := ⟨RX6, "headsFor", "(I)I"⟩
abbrev cX6_row : ByteArray := prog_8_method_31_code
def yX6_row : MethodName := ⟨RX6, "row", "(II)I"⟩
abbrev cX6_tree : ByteArray := prog_8_method_32_code
def yX6_tree : MethodName := ⟨RX6, "tree", "(II)I"⟩
abbrev cX6_has : ByteArray := prog_8_method_33_code
def yX6_has : MethodName := ⟨RX6, "has", "(I)I"⟩
abbrev cX6_hasMate : ByteArray := prog_8_method_34_code
def yX6_hasMate : MethodName := ⟨RX6, "hasMate", "(II)Z"⟩
abbrev cX6_passes : ByteArray := prog_8_method_35_code
def yX6_passes : MethodName := ⟨RX6, "passes", "(I)V"⟩
abbrev cX6_keeps : ByteArray := prog_8_method_36_code
def yX6_keeps : MethodName := ⟨RX6, "keeps", "()V"⟩
abbrev cX6_pass : ByteArray := prog_8_method_37_code
def yX6_pass : MethodName := ⟨RX6, "pass", "(I)I"⟩
abbrev cX6_countOf : ByteArray := prog_8_method_38_code
def yX6_countOf : MethodName := ⟨RX6, "countOf", "(I)I"⟩
abbrev cX6_mayDig : ByteArray := prog_8_method_39_code
def yX6_mayDig : MethodName := ⟨RX6, "mayDig", "(I)Z"⟩
abbrev cX6_dig : ByteArray := prog_8_method_40_code
def yX6_dig : MethodName := ⟨RX6, "dig", "(I)I"⟩
abbrev cX6_fill : ByteArray := prog_8_method_41_code
def yX6_fill : MethodName := ⟨RX6, "fill", "(I)I"⟩
abbrev cX6_leaves : ByteArray := prog_8_method_42_code
def yX6_leaves : MethodName := ⟨RX6, "leaves", "(I)I"⟩
abbrev cX6_leave : ByteArray := prog_8_method_43_code
def yX6_leave : MethodName := ⟨RX6, "leave", "(I)I"⟩
abbrev cX6_undo : ByteArray := prog_8_method_44_code
def yX6_undo : MethodName := ⟨RX6, "undo", "()I"⟩
abbrev cX6_holds : ByteArray := prog_8_method_45_code
def yX6_holds : MethodName := ⟨RX6, "holds", "()V"⟩
abbrev cX6_lets : ByteArray := prog_8_method_46_code
def yX6_lets : MethodName := ⟨RX6, "lets", "()V"⟩
abbrev cX6_behindOf : ByteArray := prog_8_method_47_code
def yX6_behindOf : MethodName := ⟨RX6, "behindOf", "(II)I"⟩
abbrev cX6_behind : ByteArray := prog_8_method_48_code
def yX6_behind : MethodName := ⟨RX6, "behind", "(II)I"⟩
abbrev cX6_wealth : ByteArray := prog_8_method_49_code
def yX6_wealth : MethodName := ⟨RX6, "wealth", "(II)I"⟩
abbrev cX6_comes : ByteArray := prog_8_method_50_code
def yX6_comes : MethodName := ⟨RX6, "comes", "(II)I"⟩
abbrev cX6_areBeside : ByteArray := prog_8_method_51_code
def yX6_areBeside : MethodName := ⟨RX6, "areBeside", "(II)Z"⟩
abbrev cX6_meet : ByteArray := prog_8_method_52_code
def yX6_meet : MethodName := ⟨RX6, "meet", "(II)I"⟩
abbrev cX6_isAgain : ByteArray := prog_8_method_53_code
def yX6_isAgain : MethodName := ⟨RX6, "isAgain", "()Z"⟩
abbrev cX6_again : ByteArray := prog_8_method_54_code
def yX6_again : MethodName := ⟨RX6, "again", "()I"⟩
abbrev cX6_brings : ByteArray := prog_8_method_55_code
def yX6_brings : MethodName := ⟨RX6, "brings", "(IIIII)Z"⟩
abbrev cX6_ditches : ByteArray := prog_8_method_56_code
def yX6_ditches : MethodName := ⟨RX6, "ditches", "(IIII)I"⟩
abbrev cX6_best : ByteArray := prog_8_method_57_code
def yX6_best : MethodName := ⟨RX6, "best", "(III)I"⟩
abbrev cX6_see : ByteArray := prog_8_method_58_code
def yX6_see : MethodName := ⟨RX6, "see", "(III)I"⟩
abbrev cX6_forget : ByteArray := prog_8_method_59_code
def yX6_forget : MethodName := ⟨RX6, "forget", "()I"⟩
abbrev cX6_isSo : ByteArray := prog_8_method_60_code
def yX6_isSo : MethodName := ⟨RX6, "isSo", "(I)Z"⟩
abbrev cX6_fits : ByteArray := prog_8_method_61_code
def yX6_fits : MethodName := ⟨RX6, "fits", "(II)I"⟩
abbrev cX6_frost : ByteArray := prog_8_method_62_code
def yX6_frost : MethodName := ⟨RX6, "frost", "(IIIII)I"⟩
abbrev cX6_turn : ByteArray := prog_8_method_63_code
def yX6_turn : MethodName := ⟨RX6, "turn", "(I)V"⟩
abbrev cX6_allHave : ByteArray := prog_8_method_64_code
def yX6_allHave : MethodName := ⟨RX6, "allHave", "()I"⟩
abbrev cX6_century : ByteArray := prog_8_method_65_code
def yX6_century : MethodName := ⟨RX6, "century", "(III)I"⟩
abbrev cX6_keep : ByteArray := prog_8_method_66_code
def yX6_keep : MethodName := ⟨RX6, "keep", "()I"⟩
abbrev cX6_back : ByteArray := prog_8_method_67_code
def yX6_back : MethodName := ⟨RX6, "back", "()I"⟩
abbrev cX6_count : ByteArray := prog_8_method_68_code
def yX6_count : MethodName := ⟨RX6, "count", "(I)I"⟩
def RJ13 : String := "java/lang/Long"
def TJ13 : u_T := fun k => match k with
  | _ => ("", "", "", false)
def tyJ13 : Nat → FieldType := fun k => match k with
  | _ => .int
abbrev wsJ130 : List Cond := u_ws RJ13 TJ13 0
theorem nmJ13 : ∀ a, a < 0 → ∀ b, b < 0 → a ≠ b → (TJ13 a).2.1 ≠ (TJ13 b).2.1 := by decide +kernel
theorem tyJ13_ok : ∀ k, k < 0 → parseFieldDescriptor (TJ13 k).2.2.1 = some (tyJ13 k) := by decide +kernel
abbrev cJ13_bitCount_95d88 : ByteArray := prog_9_method_50_code
def yJ13_bitCount_95d88 : MethodName := ⟨RJ13, "bitCount", "(J)I"⟩
def RJ9 : String := "java/lang/Math"
def TJ9 : u_T := fun k => match k with
  | _ => ("", "", "", false)
def tyJ9 : Nat → FieldType := fun k => match k with
  | _ => .int
abbrev wsJ90 : List Cond := u_ws RJ9 TJ9 0
theorem nmJ9 : ∀ a, a < 0 → ∀ b, b < 0 → a ≠ b → (TJ9 a).2.1 ≠ (TJ9 b).2.1 := by decide +kernel
theorem tyJ9_ok : ∀ k, k < 0 → parseFieldDescriptor (TJ9 k).2.2.1 = some (tyJ9 k) := by decide +kernel
abbrev cJ9_min_7cf53 : ByteArray := prog_10_method_69_code
def yJ9_min_7cf53 : MethodName := ⟨RJ9, "min", "(II)I"⟩
def RJ0 : String := "java/lang/String"
def TJ0 : u_T := fun k => match k with
  | _ => ("", "", "", false)
def tyJ0 : Nat → FieldType := fun k => match k with
  | _ => .int
abbrev wsJ00 : List Cond := u_ws RJ0 TJ0 0
theorem nmJ0 : ∀ a, a < 0 → ∀ b, b < 0 → a ≠ b → (TJ0 a).2.1 ≠ (TJ0 b).2.1 := by decide +kernel
theorem tyJ0_ok : ∀ k, k < 0 → parseFieldDescriptor (TJ0 k).2.2.1 = some (tyJ0 k) := by decide +kernel
abbrev cJ0_toCharArray_70df3 : ByteArray := prog_11_method_129_code
def yJ0_toCharArray_70df3 : MethodName := ⟨RJ0, "toCharArray", "()[C"⟩
abbrev cJ0_isLatin1_aae02 : ByteArray := prog_11_method_154_code
def yJ0_isLatin1_aae02 : MethodName := ⟨RJ0, "isLatin1", "()Z"⟩
abbrev cJ0_checkBoundsOffCount_cabcc : ByteArray := prog_11_method_157_code
def yJ0_checkBoundsOffCount_cabcc : MethodName := ⟨RJ0, "checkBoundsOffCount", "(III)I"⟩
def RJ1 : String := "java/lang/StringLatin1"
def TJ1 : u_T := fun k => match k with
  | _ => ("", "", "", false)
def tyJ1 : Nat → FieldType := fun k => match k with
  | _ => .int
abbrev wsJ10 : List Cond := u_ws RJ1 TJ1 0
theorem nmJ1 : ∀ a, a < 0 → ∀ b, b < 0 → a ≠ b → (TJ1 a).2.1 ≠ (TJ1 b).2.1 := by decide +kernel
theorem tyJ1_ok : ∀ k, k < 0 → parseFieldDescriptor (TJ1 k).2.2.1 = some (tyJ1 k) := by decide +kernel
abbrev cJ1_toChars_9d188 : ByteArray := prog_12_method_9_code
def yJ1_toChars_9d188 : MethodName := ⟨RJ1, "toChars", "([B)[C"⟩
abbrev cJ1_inflate_03870 : ByteArray := prog_12_method_49_code
def yJ1_inflate_03870 : MethodName := ⟨RJ1, "inflate", "([BI[CII)V"⟩
def RJ2 : String := "java/lang/StringUTF16"
def TJ2 : u_T := fun k => match k with
  | _ => ("", "", "", false)
def tyJ2 : Nat → FieldType := fun k => match k with
  | _ => .int
abbrev wsJ20 : List Cond := u_ws RJ2 TJ2 0
theorem nmJ2 : ∀ a, a < 0 → ∀ b, b < 0 → a ≠ b → (TJ2 a).2.1 ≠ (TJ2 b).2.1 := by decide +kernel
theorem tyJ2_ok : ∀ k, k < 0 → parseFieldDescriptor (TJ2 k).2.2.1 = some (tyJ2 k) := by decide +kernel
abbrev cJ2_getChar_3b067 : ByteArray := prog_13_method_5_code
def yJ2_getChar_3b067 : MethodName := ⟨RJ2, "getChar", "([BI)C"⟩
abbrev cJ2_length_9d52b : ByteArray := prog_13_method_6_code
def yJ2_length_9d52b : MethodName := ⟨RJ2, "length", "([B)I"⟩
abbrev cJ2_toChars_9d188 : ByteArray := prog_13_method_13_code
def yJ2_toChars_9d188 : MethodName := ⟨RJ2, "toChars", "([B)[C"⟩
abbrev cJ2_getChars_a1a8b : ByteArray := prog_13_method_26_code
def yJ2_getChars_a1a8b : MethodName := ⟨RJ2, "getChars", "([BII[CI)V"⟩
abbrev cJ2_checkBoundsOffCount_d044e : ByteArray := prog_13_method_94_code
def yJ2_checkBoundsOffCount_d044e : MethodName := ⟨RJ2, "checkBoundsOffCount", "(II[B)V"⟩
def RJ3 : String := "jdk/internal/util/Preconditions"
def TJ3 : u_T := fun k => match k with
  | _ => ("", "", "", false)
def tyJ3 : Nat → FieldType := fun k => match k with
  | _ => .int
abbrev wsJ30 : List Cond := u_ws RJ3 TJ3 0
theorem nmJ3 : ∀ a, a < 0 → ∀ b, b < 0 → a ≠ b → (TJ3 a).2.1 ≠ (TJ3 b).2.1 := by decide +kernel
theorem tyJ3_ok : ∀ k, k < 0 → parseFieldDescriptor (TJ3 k).2.2.1 = some (tyJ3 k) := by decide +kernel
abbrev cJ3_checkFromIndexSize_8c36e : ByteArray := prog_14_method_13_code
def yJ3_checkFromIndexSize_8c36e : MethodName := ⟨RJ3, "checkFromIndexSize", "(IIILjava/util/function/BiFunction;)I"⟩
def RL : String := "WalkingOrchardLaw"
abbrev cL_law : ByteArray := code
def yL_law : MethodName := ⟨RL, "law", "([I)Z"⟩
abbrev vwCl : List vw_C := [(RX0, TX0, 6), (RX1, TX1, 9), (RX2, TX2, 2), (RX3, TX3, 7), (RX4, TX4, 5), (RX5, TX5, 14), (RX6, TX6, 14)]
end
section
theorem dX0_init_0 : decode cX0_init 0 = .ok (.aload_n 0, 1) := by decide +kernel
theorem dX0_init_1 : decode cX0_init 1 = .ok (.invokespecial 3, 3) := by decide +kernel
theorem dX0_init_4 : decode cX0_init 4 = .ok (.aload_n 0, 1) := by decide +kernel
theorem dX0_init_5 : decode cX0_init 5 = .ok (.bipush 36, 2) := by decide +kernel
theorem dX0_init_7 : decode cX0_init 7 = .ok (.newarray .int, 2) := by decide +kernel
theorem dX0_init_9 : decode cX0_init 9 = .ok (.putfield 9, 3) := by decide +kernel
theorem dX0_init_12 : decode cX0_init 12 = .ok (.return_, 1) := by decide +kernel
theorem dX0_clear_0 : decode cX0_clear 0 = .ok (.aload_n 0, 1) := by decide +kernel
theorem dX0_clear_1 : decode cX0_clear 1 = .ok (.lconst 0, 1) := by decide +kernel
theorem dX0_clear_2 : decode cX0_clear 2 = .ok (.putfield 15, 3) := by decide +kernel
theorem dX0_clear_5 : decode cX0_clear 5 = .ok (.aload_n 0, 1) := by decide +kernel
theorem dX0_clear_6 : decode cX0_clear 6 = .ok (.lconst 0, 1) := by decide +kernel
theorem dX0_clear_7 : decode cX0_clear 7 = .ok (.putfield 19, 3) := by decide +kernel
theorem dX0_clear_10 : decode cX0_clear 10 = .ok (.aload_n 0, 1) := by decide +kernel
theorem dX0_clear_11 : decode cX0_clear 11 = .ok (.lconst 0, 1) := by decide +kernel
theorem dX0_clear_12 : decode cX0_clear 12 = .ok (.putfield 22, 3) := by decide +kernel
theorem dX0_clear_15 : decode cX0_clear 15 = .ok (.aload_n 0, 1) := by decide +kernel
theorem dX0_clear_16 : decode cX0_clear 16 = .ok (.iconst 0, 1) := by decide +kernel
theorem dX0_clear_17 : decode cX0_clear 17 = .ok (.putfield 25, 3) := by decide +kernel
theorem dX0_clear_20 : decode cX0_clear 20 = .ok (.aload_n 0, 1) := by decide +kernel
theorem dX0_clear_21 : decode cX0_clear 21 = .ok (.iconst 0, 1) := by decide +kernel
theorem dX0_clear_22 : decode cX0_clear 22 = .ok (.putfield 29, 3) := by decide +kernel
theorem dX0_clear_25 : decode cX0_clear 25 = .ok (.iconst 0, 1) := by decide +kernel
theorem dX0_clear_26 : decode cX0_clear 26 = .ok (.istore_n 1, 1) := by decide +kernel
theorem dX0_clear_27 : decode cX0_clear 27 = .ok (.iload_n 1, 1) := by decide +kernel
theorem dX0_clear_28 : decode cX0_clear 28 = .ok (.bipush 36, 2) := by decide +kernel
theorem dX0_clear_30 : decode cX0_clear 30 = .ok (.if_icmp .ge 16, 3) := by decide +kernel
theorem dX0_clear_33 : decode cX0_clear 33 = .ok (.aload_n 0, 1) := by decide +kernel
theorem dX0_clear_34 : decode cX0_clear 34 = .ok (.getfield 9, 3) := by decide +kernel
theorem dX0_clear_37 : decode cX0_clear 37 = .ok (.iload_n 1, 1) := by decide +kernel
theorem dX0_clear_38 : decode cX0_clear 38 = .ok (.iconst 0, 1) := by decide +kernel
theorem dX0_clear_39 : decode cX0_clear 39 = .ok (.iastore, 1) := by decide +kernel
theorem dX0_clear_40 : decode cX0_clear 40 = .ok (.iinc 1 1, 3) := by decide +kernel
theorem dX0_clear_43 : decode cX0_clear 43 = .ok (.goto (-16), 3) := by decide +kernel
theorem dX0_clear_46 : decode cX0_clear 46 = .ok (.return_, 1) := by decide +kernel
theorem dX0_copyFrom_0 : decode cX0_copyFrom 0 = .ok (.aload_n 0, 1) := by decide +kernel
theorem dX0_copyFrom_1 : decode cX0_copyFrom 1 = .ok (.aload_n 1, 1) := by decide +kernel
theorem dX0_copyFrom_2 : decode cX0_copyFrom 2 = .ok (.getfield 15, 3) := by decide +kernel
theorem dX0_copyFrom_5 : decode cX0_copyFrom 5 = .ok (.putfield 15, 3) := by decide +kernel
theorem dX0_copyFrom_8 : decode cX0_copyFrom 8 = .ok (.aload_n 0, 1) := by decide +kernel
theorem dX0_copyFrom_9 : decode cX0_copyFrom 9 = .ok (.aload_n 1, 1) := by decide +kernel
theorem dX0_copyFrom_10 : decode cX0_copyFrom 10 = .ok (.getfield 19, 3) := by decide +kernel
theorem dX0_copyFrom_13 : decode cX0_copyFrom 13 = .ok (.putfield 19, 3) := by decide +kernel
theorem dX0_copyFrom_16 : decode cX0_copyFrom 16 = .ok (.aload_n 0, 1) := by decide +kernel
theorem dX0_copyFrom_17 : decode cX0_copyFrom 17 = .ok (.aload_n 1, 1) := by decide +kernel
theorem dX0_copyFrom_18 : decode cX0_copyFrom 18 = .ok (.getfield 22, 3) := by decide +kernel
theorem dX0_copyFrom_21 : decode cX0_copyFrom 21 = .ok (.putfield 22, 3) := by decide +kernel
theorem dX0_copyFrom_24 : decode cX0_copyFrom 24 = .ok (.aload_n 0, 1) := by decide +kernel
theorem dX0_copyFrom_25 : decode cX0_copyFrom 25 = .ok (.aload_n 1, 1) := by decide +kernel
theorem dX0_copyFrom_26 : decode cX0_copyFrom 26 = .ok (.getfield 25, 3) := by decide +kernel
theorem dX0_copyFrom_29 : decode cX0_copyFrom 29 = .ok (.putfield 25, 3) := by decide +kernel
theorem dX0_copyFrom_32 : decode cX0_copyFrom 32 = .ok (.aload_n 0, 1) := by decide +kernel
theorem dX0_copyFrom_33 : decode cX0_copyFrom 33 = .ok (.aload_n 1, 1) := by decide +kernel
theorem dX0_copyFrom_34 : decode cX0_copyFrom 34 = .ok (.getfield 29, 3) := by decide +kernel
theorem dX0_copyFrom_37 : decode cX0_copyFrom 37 = .ok (.putfield 29, 3) := by decide +kernel
theorem dX0_copyFrom_40 : decode cX0_copyFrom 40 = .ok (.iconst 0, 1) := by decide +kernel
theorem dX0_copyFrom_41 : decode cX0_copyFrom 41 = .ok (.istore_n 2, 1) := by decide +kernel
theorem dX0_copyFrom_42 : decode cX0_copyFrom 42 = .ok (.iload_n 2, 1) := by decide +kernel
theorem dX0_copyFrom_43 : decode cX0_copyFrom 43 = .ok (.bipush 36, 2) := by decide +kernel
theorem dX0_copyFrom_45 : decode cX0_copyFrom 45 = .ok (.if_icmp .ge 21, 3) := by decide +kernel
theorem dX0_copyFrom_48 : decode cX0_copyFrom 48 = .ok (.aload_n 0, 1) := by decide +kernel
theorem dX0_copyFrom_49 : decode cX0_copyFrom 49 = .ok (.getfield 9, 3) := by decide +kernel
theorem dX0_copyFrom_52 : decode cX0_copyFrom 52 = .ok (.iload_n 2, 1) := by decide +kernel
theorem dX0_copyFrom_53 : decode cX0_copyFrom 53 = .ok (.aload_n 1, 1) := by decide +kernel
theorem dX0_copyFrom_54 : decode cX0_copyFrom 54 = .ok (.getfield 9, 3) := by decide +kernel
theorem dX0_copyFrom_57 : decode cX0_copyFrom 57 = .ok (.iload_n 2, 1) := by decide +kernel
theorem dX0_copyFrom_58 : decode cX0_copyFrom 58 = .ok (.iaload, 1) := by decide +kernel
theorem dX0_copyFrom_59 : decode cX0_copyFrom 59 = .ok (.iastore, 1) := by decide +kernel
theorem dX0_copyFrom_60 : decode cX0_copyFrom 60 = .ok (.iinc 2 1, 3) := by decide +kernel
theorem dX0_copyFrom_63 : decode cX0_copyFrom 63 = .ok (.goto (-21), 3) := by decide +kernel
theorem dX0_copyFrom_66 : decode cX0_copyFrom 66 = .ok (.return_, 1) := by decide +kernel
theorem dX0_cells_0 : decode cX0_cells 0 = .ok (.aload_n 0, 1) := by decide +kernel
theorem dX0_cells_1 : decode cX0_cells 1 = .ok (.getfield 25, 3) := by decide +kernel
theorem dX0_cells_4 : decode cX0_cells 4 = .ok (.aload_n 0, 1) := by decide +kernel
theorem dX0_cells_5 : decode cX0_cells 5 = .ok (.getfield 29, 3) := by decide +kernel
theorem dX0_cells_8 : decode cX0_cells 8 = .ok (.imul, 1) := by decide +kernel
theorem dX0_cells_9 : decode cX0_cells 9 = .ok (.ireturn, 1) := by decide +kernel
theorem dX0_holds_0 : decode cX0_holds 0 = .ok (.iload_n 1, 1) := by decide +kernel
theorem dX0_holds_1 : decode cX0_holds 1 = .ok (.ifCond .lt 26, 3) := by decide +kernel
theorem dX0_holds_4 : decode cX0_holds 4 = .ok (.iload_n 1, 1) := by decide +kernel
theorem dX0_holds_5 : decode cX0_holds 5 = .ok (.aload_n 0, 1) := by decide +kernel
theorem dX0_holds_6 : decode cX0_holds 6 = .ok (.getfield 25, 3) := by decide +kernel
theorem dX0_holds_9 : decode cX0_holds 9 = .ok (.aload_n 0, 1) := by decide +kernel
theorem dX0_holds_10 : decode cX0_holds 10 = .ok (.getfield 29, 3) := by decide +kernel
theorem dX0_holds_13 : decode cX0_holds 13 = .ok (.imul, 1) := by decide +kernel
theorem dX0_holds_14 : decode cX0_holds 14 = .ok (.if_icmp .ge 13, 3) := by decide +kernel
theorem dX0_holds_17 : decode cX0_holds 17 = .ok (.iload_n 1, 1) := by decide +kernel
theorem dX0_holds_18 : decode cX0_holds 18 = .ok (.bipush 36, 2) := by decide +kernel
theorem dX0_holds_20 : decode cX0_holds 20 = .ok (.if_icmp .ge 7, 3) := by decide +kernel
theorem dX0_holds_23 : decode cX0_holds 23 = .ok (.iconst 1, 1) := by decide +kernel
theorem dX0_holds_24 : decode cX0_holds 24 = .ok (.goto 4, 3) := by decide +kernel
theorem dX0_holds_27 : decode cX0_holds 27 = .ok (.iconst 0, 1) := by decide +kernel
theorem dX0_holds_28 : decode cX0_holds 28 = .ok (.ireturn, 1) := by decide +kernel
theorem dX0_groundOf_0 : decode cX0_groundOf 0 = .ok (.aload_n 0, 1) := by decide +kernel
theorem dX0_groundOf_1 : decode cX0_groundOf 1 = .ok (.getfield 15, 3) := by decide +kernel
theorem dX0_groundOf_4 : decode cX0_groundOf 4 = .ok (.iload_n 1, 1) := by decide +kernel
theorem dX0_groundOf_5 : decode cX0_groundOf 5 = .ok (.invokestatic 32, 3) := by decide +kernel
theorem dX0_groundOf_8 : decode cX0_groundOf 8 = .ok (.ifCond .eq 5, 3) := by decide +kernel
theorem dX0_groundOf_11 : decode cX0_groundOf 11 = .ok (.iconst 0, 1) := by decide +kernel
theorem dX0_groundOf_12 : decode cX0_groundOf 12 = .ok (.ireturn, 1) := by decide +kernel
theorem dX0_groundOf_13 : decode cX0_groundOf 13 = .ok (.aload_n 0, 1) := by decide +kernel
theorem dX0_groundOf_14 : decode cX0_groundOf 14 = .ok (.getfield 19, 3) := by decide +kernel
theorem dX0_groundOf_17 : decode cX0_groundOf 17 = .ok (.iload_n 1, 1) := by decide +kernel
theorem dX0_groundOf_18 : decode cX0_groundOf 18 = .ok (.invokestatic 32, 3) := by decide +kernel
theorem dX0_groundOf_21 : decode cX0_groundOf 21 = .ok (.ifCond .eq 5, 3) := by decide +kernel
theorem dX0_groundOf_24 : decode cX0_groundOf 24 = .ok (.iconst 1, 1) := by decide +kernel
theorem dX0_groundOf_25 : decode cX0_groundOf 25 = .ok (.ireturn, 1) := by decide +kernel
theorem dX0_groundOf_26 : decode cX0_groundOf 26 = .ok (.aload_n 0, 1) := by decide +kernel
theorem dX0_groundOf_27 : decode cX0_groundOf 27 = .ok (.getfield 22, 3) := by decide +kernel
theorem dX0_groundOf_30 : decode cX0_groundOf 30 = .ok (.iload_n 1, 1) := by decide +kernel
theorem dX0_groundOf_31 : decode cX0_groundOf 31 = .ok (.invokestatic 32, 3) := by decide +kernel
theorem dX0_groundOf_34 : decode cX0_groundOf 34 = .ok (.ifCond .eq 7, 3) := by decide +kernel
theorem dX0_groundOf_37 : decode cX0_groundOf 37 = .ok (.iconst 2, 1) := by decide +kernel
theorem dX0_groundOf_38 : decode cX0_groundOf 38 = .ok (.goto 4, 3) := by decide +kernel
theorem dX0_groundOf_41 : decode cX0_groundOf 41 = .ok (.iconst 3, 1) := by decide +kernel
theorem dX0_groundOf_42 : decode cX0_groundOf 42 = .ok (.ireturn, 1) := by decide +kernel
theorem dX0_ownerOf_0 : decode cX0_ownerOf 0 = .ok (.iload_n 1, 1) := by decide +kernel
theorem dX0_ownerOf_1 : decode cX0_ownerOf 1 = .ok (.ifCond .lt 18, 3) := by decide +kernel
theorem dX0_ownerOf_4 : decode cX0_ownerOf 4 = .ok (.iload_n 1, 1) := by decide +kernel
theorem dX0_ownerOf_5 : decode cX0_ownerOf 5 = .ok (.bipush 36, 2) := by decide +kernel
theorem dX0_ownerOf_7 : decode cX0_ownerOf 7 = .ok (.if_icmp .ge 12, 3) := by decide +kernel
theorem dX0_ownerOf_10 : decode cX0_ownerOf 10 = .ok (.aload_n 0, 1) := by decide +kernel
theorem dX0_ownerOf_11 : decode cX0_ownerOf 11 = .ok (.getfield 9, 3) := by decide +kernel
theorem dX0_ownerOf_14 : decode cX0_ownerOf 14 = .ok (.iload_n 1, 1) := by decide +kernel
theorem dX0_ownerOf_15 : decode cX0_ownerOf 15 = .ok (.iaload, 1) := by decide +kernel
theorem dX0_ownerOf_16 : decode cX0_ownerOf 16 = .ok (.goto 4, 3) := by decide +kernel
theorem dX0_ownerOf_19 : decode cX0_ownerOf 19 = .ok (.iconst 0, 1) := by decide +kernel
theorem dX0_ownerOf_20 : decode cX0_ownerOf 20 = .ok (.ireturn, 1) := by decide +kernel
theorem dX0_nextBy_0 : decode cX0_nextBy 0 = .ok (.aload_n 0, 1) := by decide +kernel
theorem dX0_nextBy_1 : decode cX0_nextBy 1 = .ok (.getfield 29, 3) := by decide +kernel
theorem dX0_nextBy_4 : decode cX0_nextBy 4 = .ok (.iconst 1, 1) := by decide +kernel
theorem dX0_nextBy_5 : decode cX0_nextBy 5 = .ok (.if_icmp .lt 24, 3) := by decide +kernel
theorem dX0_nextBy_8 : decode cX0_nextBy 8 = .ok (.iload_n 1, 1) := by decide +kernel
theorem dX0_nextBy_9 : decode cX0_nextBy 9 = .ok (.ifCond .lt 20, 3) := by decide +kernel
theorem dX0_nextBy_12 : decode cX0_nextBy 12 = .ok (.iload_n 1, 1) := by decide +kernel
theorem dX0_nextBy_13 : decode cX0_nextBy 13 = .ok (.aload_n 0, 1) := by decide +kernel
theorem dX0_nextBy_14 : decode cX0_nextBy 14 = .ok (.getfield 25, 3) := by decide +kernel
theorem dX0_nextBy_17 : decode cX0_nextBy 17 = .ok (.aload_n 0, 1) := by decide +kernel
theorem dX0_nextBy_18 : decode cX0_nextBy 18 = .ok (.getfield 29, 3) := by decide +kernel
theorem dX0_nextBy_21 : decode cX0_nextBy 21 = .ok (.imul, 1) := by decide +kernel
theorem dX0_nextBy_22 : decode cX0_nextBy 22 = .ok (.if_icmp .ge 7, 3) := by decide +kernel
theorem dX0_nextBy_25 : decode cX0_nextBy 25 = .ok (.iload_n 2, 1) := by decide +kernel
theorem dX0_nextBy_26 : decode cX0_nextBy 26 = .ok (.ifCond .ge 6, 3) := by decide +kernel
theorem dX0_nextBy_29 : decode cX0_nextBy 29 = .ok (.bipush (-4), 2) := by decide +kernel
theorem dX0_nextBy_31 : decode cX0_nextBy 31 = .ok (.ireturn, 1) := by decide +kernel
theorem dX0_nextBy_32 : decode cX0_nextBy 32 = .ok (.iload_n 1, 1) := by decide +kernel
theorem dX0_nextBy_33 : decode cX0_nextBy 33 = .ok (.aload_n 0, 1) := by decide +kernel
theorem dX0_nextBy_34 : decode cX0_nextBy 34 = .ok (.getfield 29, 3) := by decide +kernel
theorem dX0_nextBy_37 : decode cX0_nextBy 37 = .ok (.irem, 1) := by decide +kernel
theorem dX0_nextBy_38 : decode cX0_nextBy 38 = .ok (.istore_n 3, 1) := by decide +kernel
theorem dX0_nextBy_39 : decode cX0_nextBy 39 = .ok (.iload_n 2, 1) := by decide +kernel
theorem dX0_nextBy_40 : decode cX0_nextBy 40 = .ok (.tableswitch 97 0 2 #[28, 48, 67], 28) := by decide +kernel
theorem dX0_nextBy_68 : decode cX0_nextBy 68 = .ok (.iload_n 1, 1) := by decide +kernel
theorem dX0_nextBy_69 : decode cX0_nextBy 69 = .ok (.aload_n 0, 1) := by decide +kernel
theorem dX0_nextBy_70 : decode cX0_nextBy 70 = .ok (.getfield 29, 3) := by decide +kernel
theorem dX0_nextBy_73 : decode cX0_nextBy 73 = .ok (.if_icmp .lt 12, 3) := by decide +kernel
theorem dX0_nextBy_76 : decode cX0_nextBy 76 = .ok (.iload_n 1, 1) := by decide +kernel
theorem dX0_nextBy_77 : decode cX0_nextBy 77 = .ok (.aload_n 0, 1) := by decide +kernel
theorem dX0_nextBy_78 : decode cX0_nextBy 78 = .ok (.getfield 29, 3) := by decide +kernel
theorem dX0_nextBy_81 : decode cX0_nextBy 81 = .ok (.isub, 1) := by decide +kernel
theorem dX0_nextBy_82 : decode cX0_nextBy 82 = .ok (.goto 5, 3) := by decide +kernel
theorem dX0_nextBy_85 : decode cX0_nextBy 85 = .ok (.bipush (-4), 2) := by decide +kernel
theorem dX0_nextBy_87 : decode cX0_nextBy 87 = .ok (.ireturn, 1) := by decide +kernel
theorem dX0_nextBy_88 : decode cX0_nextBy 88 = .ok (.iload_n 3, 1) := by decide +kernel
theorem dX0_nextBy_89 : decode cX0_nextBy 89 = .ok (.iconst 1, 1) := by decide +kernel
theorem dX0_nextBy_90 : decode cX0_nextBy 90 = .ok (.iadd, 1) := by decide +kernel
theorem dX0_nextBy_91 : decode cX0_nextBy 91 = .ok (.aload_n 0, 1) := by decide +kernel
theorem dX0_nextBy_92 : decode cX0_nextBy 92 = .ok (.getfield 29, 3) := by decide +kernel
theorem dX0_nextBy_95 : decode cX0_nextBy 95 = .ok (.if_icmp .ge 9, 3) := by decide +kernel
theorem dX0_nextBy_98 : decode cX0_nextBy 98 = .ok (.iload_n 1, 1) := by decide +kernel
theorem dX0_nextBy_99 : decode cX0_nextBy 99 = .ok (.iconst 1, 1) := by decide +kernel
theorem dX0_nextBy_100 : decode cX0_nextBy 100 = .ok (.iadd, 1) := by decide +kernel
theorem dX0_nextBy_101 : decode cX0_nextBy 101 = .ok (.goto 5, 3) := by decide +kernel
theorem dX0_nextBy_104 : decode cX0_nextBy 104 = .ok (.bipush (-4), 2) := by decide +kernel
theorem dX0_nextBy_106 : decode cX0_nextBy 106 = .ok (.ireturn, 1) := by decide +kernel
theorem dX0_nextBy_107 : decode cX0_nextBy 107 = .ok (.iload_n 1, 1) := by decide +kernel
theorem dX0_nextBy_108 : decode cX0_nextBy 108 = .ok (.aload_n 0, 1) := by decide +kernel
theorem dX0_nextBy_109 : decode cX0_nextBy 109 = .ok (.getfield 29, 3) := by decide +kernel
theorem dX0_nextBy_112 : decode cX0_nextBy 112 = .ok (.iadd, 1) := by decide +kernel
theorem dX0_nextBy_113 : decode cX0_nextBy 113 = .ok (.aload_n 0, 1) := by decide +kernel
theorem dX0_nextBy_114 : decode cX0_nextBy 114 = .ok (.getfield 25, 3) := by decide +kernel
theorem dX0_nextBy_117 : decode cX0_nextBy 117 = .ok (.aload_n 0, 1) := by decide +kernel
theorem dX0_nextBy_118 : decode cX0_nextBy 118 = .ok (.getfield 29, 3) := by decide +kernel
theorem dX0_nextBy_121 : decode cX0_nextBy 121 = .ok (.imul, 1) := by decide +kernel
theorem dX0_nextBy_122 : decode cX0_nextBy 122 = .ok (.if_icmp .ge 12, 3) := by decide +kernel
theorem dX0_nextBy_125 : decode cX0_nextBy 125 = .ok (.iload_n 1, 1) := by decide +kernel
theorem dX0_nextBy_126 : decode cX0_nextBy 126 = .ok (.aload_n 0, 1) := by decide +kernel
theorem dX0_nextBy_127 : decode cX0_nextBy 127 = .ok (.getfield 29, 3) := by decide +kernel
theorem dX0_nextBy_130 : decode cX0_nextBy 130 = .ok (.iadd, 1) := by decide +kernel
theorem dX0_nextBy_131 : decode cX0_nextBy 131 = .ok (.goto 5, 3) := by decide +kernel
theorem dX0_nextBy_134 : decode cX0_nextBy 134 = .ok (.bipush (-4), 2) := by decide +kernel
theorem dX0_nextBy_136 : decode cX0_nextBy 136 = .ok (.ireturn, 1) := by decide +kernel
theorem dX0_nextBy_137 : decode cX0_nextBy 137 = .ok (.iload_n 3, 1) := by decide +kernel
theorem dX0_nextBy_138 : decode cX0_nextBy 138 = .ok (.ifCond .le 9, 3) := by decide +kernel
theorem dX0_nextBy_141 : decode cX0_nextBy 141 = .ok (.iload_n 1, 1) := by decide +kernel
theorem dX0_nextBy_142 : decode cX0_nextBy 142 = .ok (.iconst 1, 1) := by decide +kernel
theorem dX0_nextBy_143 : decode cX0_nextBy 143 = .ok (.isub, 1) := by decide +kernel
theorem dX0_nextBy_144 : decode cX0_nextBy 144 = .ok (.goto 5, 3) := by decide +kernel
theorem dX0_nextBy_147 : decode cX0_nextBy 147 = .ok (.bipush (-4), 2) := by decide +kernel
theorem dX0_nextBy_149 : decode cX0_nextBy 149 = .ok (.ireturn, 1) := by decide +kernel
theorem dX0_isBesideOne_0 : decode cX0_isBesideOne 0 = .ok (.iconst 0, 1) := by decide +kernel
theorem dX0_isBesideOne_1 : decode cX0_isBesideOne 1 = .ok (.istore 4, 2) := by decide +kernel
theorem dX0_isBesideOne_3 : decode cX0_isBesideOne 3 = .ok (.iload 4, 2) := by decide +kernel
theorem dX0_isBesideOne_5 : decode cX0_isBesideOne 5 = .ok (.iconst 4, 1) := by decide +kernel
theorem dX0_isBesideOne_6 : decode cX0_isBesideOne 6 = .ok (.if_icmp .ge 25, 3) := by decide +kernel
theorem dX0_isBesideOne_9 : decode cX0_isBesideOne 9 = .ok (.lload_n 2, 1) := by decide +kernel
theorem dX0_isBesideOne_10 : decode cX0_isBesideOne 10 = .ok (.aload_n 0, 1) := by decide +kernel
theorem dX0_isBesideOne_11 : decode cX0_isBesideOne 11 = .ok (.iload_n 1, 1) := by decide +kernel
theorem dX0_isBesideOne_12 : decode cX0_isBesideOne 12 = .ok (.iload 4, 2) := by decide +kernel
theorem dX0_isBesideOne_14 : decode cX0_isBesideOne 14 = .ok (.invokevirtual 36, 3) := by decide +kernel
theorem dX0_isBesideOne_17 : decode cX0_isBesideOne 17 = .ok (.invokestatic 32, 3) := by decide +kernel
theorem dX0_isBesideOne_20 : decode cX0_isBesideOne 20 = .ok (.ifCond .eq 5, 3) := by decide +kernel
theorem dX0_isBesideOne_23 : decode cX0_isBesideOne 23 = .ok (.iconst 1, 1) := by decide +kernel
theorem dX0_isBesideOne_24 : decode cX0_isBesideOne 24 = .ok (.ireturn, 1) := by decide +kernel
theorem dX0_isBesideOne_25 : decode cX0_isBesideOne 25 = .ok (.iinc 4 1, 3) := by decide +kernel
theorem dX0_isBesideOne_28 : decode cX0_isBesideOne 28 = .ok (.goto (-25), 3) := by decide +kernel
theorem dX0_isBesideOne_31 : decode cX0_isBesideOne 31 = .ok (.iconst 0, 1) := by decide +kernel
theorem dX0_isBesideOne_32 : decode cX0_isBesideOne 32 = .ok (.ireturn, 1) := by decide +kernel
theorem dX1_init_0 : decode cX1_init 0 = .ok (.aload_n 0, 1) := by decide +kernel
theorem dX1_init_1 : decode cX1_init 1 = .ok (.invokespecial 3, 3) := by decide +kernel
theorem dX1_init_4 : decode cX1_init 4 = .ok (.aload_n 0, 1) := by decide +kernel
theorem dX1_init_5 : decode cX1_init 5 = .ok (.iconst 3, 1) := by decide +kernel
theorem dX1_init_6 : decode cX1_init 6 = .ok (.anewarray 9, 3) := by decide +kernel
theorem dX1_init_9 : decode cX1_init 9 = .ok (.putfield 11, 3) := by decide +kernel
theorem dX1_init_12 : decode cX1_init 12 = .ok (.aload_n 0, 1) := by decide +kernel
theorem dX1_init_13 : decode cX1_init 13 = .ok (.iconst 4, 1) := by decide +kernel
theorem dX1_init_14 : decode cX1_init 14 = .ok (.newarray .int, 2) := by decide +kernel
theorem dX1_init_16 : decode cX1_init 16 = .ok (.putfield 17, 3) := by decide +kernel
theorem dX1_init_19 : decode cX1_init 19 = .ok (.aload_n 0, 1) := by decide +kernel
theorem dX1_init_20 : decode cX1_init 20 = .ok (.aload_n 1, 1) := by decide +kernel
theorem dX1_init_21 : decode cX1_init 21 = .ok (.putfield 21, 3) := by decide +kernel
theorem dX1_init_24 : decode cX1_init 24 = .ok (.iconst 0, 1) := by decide +kernel
theorem dX1_init_25 : decode cX1_init 25 = .ok (.istore_n 2, 1) := by decide +kernel
theorem dX1_init_26 : decode cX1_init 26 = .ok (.iload_n 2, 1) := by decide +kernel
theorem dX1_init_27 : decode cX1_init 27 = .ok (.iconst 3, 1) := by decide +kernel
theorem dX1_init_28 : decode cX1_init 28 = .ok (.if_icmp .ge 22, 3) := by decide +kernel
theorem dX1_init_31 : decode cX1_init 31 = .ok (.aload_n 0, 1) := by decide +kernel
theorem dX1_init_32 : decode cX1_init 32 = .ok (.getfield 11, 3) := by decide +kernel
theorem dX1_init_35 : decode cX1_init 35 = .ok (.iload_n 2, 1) := by decide +kernel
theorem dX1_init_36 : decode cX1_init 36 = .ok (.new 9, 3) := by decide +kernel
theorem dX1_init_39 : decode cX1_init 39 = .ok (.dup, 1) := by decide +kernel
theorem dX1_init_40 : decode cX1_init 40 = .ok (.invokespecial 25, 3) := by decide +kernel
theorem dX1_init_43 : decode cX1_init 43 = .ok (.aastore, 1) := by decide +kernel
theorem dX1_init_44 : decode cX1_init 44 = .ok (.iinc 2 1, 3) := by decide +kernel
theorem dX1_init_47 : decode cX1_init 47 = .ok (.goto (-21), 3) := by decide +kernel
theorem dX1_init_50 : decode cX1_init 50 = .ok (.return_, 1) := by decide +kernel
theorem dX1_clear_0 : decode cX1_clear 0 = .ok (.aload_n 0, 1) := by decide +kernel
theorem dX1_clear_1 : decode cX1_clear 1 = .ok (.iconst 0, 1) := by decide +kernel
theorem dX1_clear_2 : decode cX1_clear 2 = .ok (.putfield 26, 3) := by decide +kernel
theorem dX1_clear_5 : decode cX1_clear 5 = .ok (.aload_n 0, 1) := by decide +kernel
theorem dX1_clear_6 : decode cX1_clear 6 = .ok (.iconst 0, 1) := by decide +kernel
theorem dX1_clear_7 : decode cX1_clear 7 = .ok (.putfield 30, 3) := by decide +kernel
theorem dX1_clear_10 : decode cX1_clear 10 = .ok (.aload_n 0, 1) := by decide +kernel
theorem dX1_clear_11 : decode cX1_clear 11 = .ok (.lconst 0, 1) := by decide +kernel
theorem dX1_clear_12 : decode cX1_clear 12 = .ok (.putfield 33, 3) := by decide +kernel
theorem dX1_clear_15 : decode cX1_clear 15 = .ok (.aload_n 0, 1) := by decide +kernel
theorem dX1_clear_16 : decode cX1_clear 16 = .ok (.lconst 0, 1) := by decide +kernel
theorem dX1_clear_17 : decode cX1_clear 17 = .ok (.putfield 37, 3) := by decide +kernel
theorem dX1_clear_20 : decode cX1_clear 20 = .ok (.aload_n 0, 1) := by decide +kernel
theorem dX1_clear_21 : decode cX1_clear 21 = .ok (.lconst 0, 1) := by decide +kernel
theorem dX1_clear_22 : decode cX1_clear 22 = .ok (.putfield 40, 3) := by decide +kernel
theorem dX1_clear_25 : decode cX1_clear 25 = .ok (.aload_n 0, 1) := by decide +kernel
theorem dX1_clear_26 : decode cX1_clear 26 = .ok (.lconst 0, 1) := by decide +kernel
theorem dX1_clear_27 : decode cX1_clear 27 = .ok (.putfield 43, 3) := by decide +kernel
theorem dX1_clear_30 : decode cX1_clear 30 = .ok (.iconst 0, 1) := by decide +kernel
theorem dX1_clear_31 : decode cX1_clear 31 = .ok (.istore_n 1, 1) := by decide +kernel
theorem dX1_clear_32 : decode cX1_clear 32 = .ok (.iload_n 1, 1) := by decide +kernel
theorem dX1_clear_33 : decode cX1_clear 33 = .ok (.iconst 4, 1) := by decide +kernel
theorem dX1_clear_34 : decode cX1_clear 34 = .ok (.if_icmp .ge 16, 3) := by decide +kernel
theorem dX1_clear_37 : decode cX1_clear 37 = .ok (.aload_n 0, 1) := by decide +kernel
theorem dX1_clear_38 : decode cX1_clear 38 = .ok (.getfield 17, 3) := by decide +kernel
theorem dX1_clear_41 : decode cX1_clear 41 = .ok (.iload_n 1, 1) := by decide +kernel
theorem dX1_clear_42 : decode cX1_clear 42 = .ok (.iconst 0, 1) := by decide +kernel
theorem dX1_clear_43 : decode cX1_clear 43 = .ok (.iastore, 1) := by decide +kernel
theorem dX1_clear_44 : decode cX1_clear 44 = .ok (.iinc 1 1, 3) := by decide +kernel
theorem dX1_clear_47 : decode cX1_clear 47 = .ok (.goto (-15), 3) := by decide +kernel
theorem dX1_clear_50 : decode cX1_clear 50 = .ok (.return_, 1) := by decide +kernel
theorem dX1_copyFrom_0 : decode cX1_copyFrom 0 = .ok (.aload_n 0, 1) := by decide +kernel
theorem dX1_copyFrom_1 : decode cX1_copyFrom 1 = .ok (.aload_n 1, 1) := by decide +kernel
theorem dX1_copyFrom_2 : decode cX1_copyFrom 2 = .ok (.getfield 26, 3) := by decide +kernel
theorem dX1_copyFrom_5 : decode cX1_copyFrom 5 = .ok (.putfield 26, 3) := by decide +kernel
theorem dX1_copyFrom_8 : decode cX1_copyFrom 8 = .ok (.aload_n 0, 1) := by decide +kernel
theorem dX1_copyFrom_9 : decode cX1_copyFrom 9 = .ok (.aload_n 1, 1) := by decide +kernel
theorem dX1_copyFrom_10 : decode cX1_copyFrom 10 = .ok (.getfield 30, 3) := by decide +kernel
theorem dX1_copyFrom_13 : decode cX1_copyFrom 13 = .ok (.putfield 30, 3) := by decide +kernel
theorem dX1_copyFrom_16 : decode cX1_copyFrom 16 = .ok (.aload_n 0, 1) := by decide +kernel
theorem dX1_copyFrom_17 : decode cX1_copyFrom 17 = .ok (.aload_n 1, 1) := by decide +kernel
theorem dX1_copyFrom_18 : decode cX1_copyFrom 18 = .ok (.getfield 33, 3) := by decide +kernel
theorem dX1_copyFrom_21 : decode cX1_copyFrom 21 = .ok (.putfield 33, 3) := by decide +kernel
theorem dX1_copyFrom_24 : decode cX1_copyFrom 24 = .ok (.aload_n 0, 1) := by decide +kernel
theorem dX1_copyFrom_25 : decode cX1_copyFrom 25 = .ok (.aload_n 1, 1) := by decide +kernel
theorem dX1_copyFrom_26 : decode cX1_copyFrom 26 = .ok (.getfield 37, 3) := by decide +kernel
theorem dX1_copyFrom_29 : decode cX1_copyFrom 29 = .ok (.putfield 37, 3) := by decide +kernel
theorem dX1_copyFrom_32 : decode cX1_copyFrom 32 = .ok (.aload_n 0, 1) := by decide +kernel
theorem dX1_copyFrom_33 : decode cX1_copyFrom 33 = .ok (.aload_n 1, 1) := by decide +kernel
theorem dX1_copyFrom_34 : decode cX1_copyFrom 34 = .ok (.getfield 40, 3) := by decide +kernel
theorem dX1_copyFrom_37 : decode cX1_copyFrom 37 = .ok (.putfield 40, 3) := by decide +kernel
theorem dX1_copyFrom_40 : decode cX1_copyFrom 40 = .ok (.aload_n 0, 1) := by decide +kernel
theorem dX1_copyFrom_41 : decode cX1_copyFrom 41 = .ok (.lconst 0, 1) := by decide +kernel
theorem dX1_copyFrom_42 : decode cX1_copyFrom 42 = .ok (.putfield 43, 3) := by decide +kernel
theorem dX1_copyFrom_45 : decode cX1_copyFrom 45 = .ok (.iconst 0, 1) := by decide +kernel
theorem dX1_copyFrom_46 : decode cX1_copyFrom 46 = .ok (.istore_n 2, 1) := by decide +kernel
theorem dX1_copyFrom_47 : decode cX1_copyFrom 47 = .ok (.iload_n 2, 1) := by decide +kernel
theorem dX1_copyFrom_48 : decode cX1_copyFrom 48 = .ok (.iconst 4, 1) := by decide +kernel
theorem dX1_copyFrom_49 : decode cX1_copyFrom 49 = .ok (.if_icmp .ge 21, 3) := by decide +kernel
theorem dX1_copyFrom_52 : decode cX1_copyFrom 52 = .ok (.aload_n 0, 1) := by decide +kernel
theorem dX1_copyFrom_53 : decode cX1_copyFrom 53 = .ok (.getfield 17, 3) := by decide +kernel
theorem dX1_copyFrom_56 : decode cX1_copyFrom 56 = .ok (.iload_n 2, 1) := by decide +kernel
theorem dX1_copyFrom_57 : decode cX1_copyFrom 57 = .ok (.aload_n 1, 1) := by decide +kernel
theorem dX1_copyFrom_58 : decode cX1_copyFrom 58 = .ok (.getfield 17, 3) := by decide +kernel
theorem dX1_copyFrom_61 : decode cX1_copyFrom 61 = .ok (.iload_n 2, 1) := by decide +kernel
theorem dX1_copyFrom_62 : decode cX1_copyFrom 62 = .ok (.iaload, 1) := by decide +kernel
theorem dX1_copyFrom_63 : decode cX1_copyFrom 63 = .ok (.iastore, 1) := by decide +kernel
theorem dX1_copyFrom_64 : decode cX1_copyFrom 64 = .ok (.iinc 2 1, 3) := by decide +kernel
theorem dX1_copyFrom_67 : decode cX1_copyFrom 67 = .ok (.goto (-20), 3) := by decide +kernel
theorem dX1_copyFrom_70 : decode cX1_copyFrom 70 = .ok (.iconst 0, 1) := by decide +kernel
theorem dX1_copyFrom_71 : decode cX1_copyFrom 71 = .ok (.istore_n 2, 1) := by decide +kernel
theorem dX1_copyFrom_72 : decode cX1_copyFrom 72 = .ok (.iload_n 2, 1) := by decide +kernel
theorem dX1_copyFrom_73 : decode cX1_copyFrom 73 = .ok (.aload_n 0, 1) := by decide +kernel
theorem dX1_copyFrom_74 : decode cX1_copyFrom 74 = .ok (.getfield 26, 3) := by decide +kernel
theorem dX1_copyFrom_77 : decode cX1_copyFrom 77 = .ok (.if_icmp .ge 29, 3) := by decide +kernel
theorem dX1_copyFrom_80 : decode cX1_copyFrom 80 = .ok (.iload_n 2, 1) := by decide +kernel
theorem dX1_copyFrom_81 : decode cX1_copyFrom 81 = .ok (.iconst 3, 1) := by decide +kernel
theorem dX1_copyFrom_82 : decode cX1_copyFrom 82 = .ok (.if_icmp .ge 24, 3) := by decide +kernel
theorem dX1_copyFrom_85 : decode cX1_copyFrom 85 = .ok (.aload_n 0, 1) := by decide +kernel
theorem dX1_copyFrom_86 : decode cX1_copyFrom 86 = .ok (.getfield 11, 3) := by decide +kernel
theorem dX1_copyFrom_89 : decode cX1_copyFrom 89 = .ok (.iload_n 2, 1) := by decide +kernel
theorem dX1_copyFrom_90 : decode cX1_copyFrom 90 = .ok (.aaload, 1) := by decide +kernel
theorem dX1_copyFrom_91 : decode cX1_copyFrom 91 = .ok (.aload_n 1, 1) := by decide +kernel
theorem dX1_copyFrom_92 : decode cX1_copyFrom 92 = .ok (.getfield 11, 3) := by decide +kernel
theorem dX1_copyFrom_95 : decode cX1_copyFrom 95 = .ok (.iload_n 2, 1) := by decide +kernel
theorem dX1_copyFrom_96 : decode cX1_copyFrom 96 = .ok (.aaload, 1) := by decide +kernel
theorem dX1_copyFrom_97 : decode cX1_copyFrom 97 = .ok (.invokevirtual 46, 3) := by decide +kernel
theorem dX1_copyFrom_100 : decode cX1_copyFrom 100 = .ok (.iinc 2 1, 3) := by decide +kernel
theorem dX1_copyFrom_103 : decode cX1_copyFrom 103 = .ok (.goto (-31), 3) := by decide +kernel
theorem dX1_copyFrom_106 : decode cX1_copyFrom 106 = .ok (.return_, 1) := by decide +kernel
theorem dX1_holds_0 : decode cX1_holds 0 = .ok (.iload_n 1, 1) := by decide +kernel
theorem dX1_holds_1 : decode cX1_holds 1 = .ok (.ifCond .lt 20, 3) := by decide +kernel
theorem dX1_holds_4 : decode cX1_holds 4 = .ok (.iload_n 1, 1) := by decide +kernel
theorem dX1_holds_5 : decode cX1_holds 5 = .ok (.aload_n 0, 1) := by decide +kernel
theorem dX1_holds_6 : decode cX1_holds 6 = .ok (.getfield 26, 3) := by decide +kernel
theorem dX1_holds_9 : decode cX1_holds 9 = .ok (.if_icmp .ge 12, 3) := by decide +kernel
theorem dX1_holds_12 : decode cX1_holds 12 = .ok (.iload_n 1, 1) := by decide +kernel
theorem dX1_holds_13 : decode cX1_holds 13 = .ok (.iconst 3, 1) := by decide +kernel
theorem dX1_holds_14 : decode cX1_holds 14 = .ok (.if_icmp .ge 7, 3) := by decide +kernel
theorem dX1_holds_17 : decode cX1_holds 17 = .ok (.iconst 1, 1) := by decide +kernel
theorem dX1_holds_18 : decode cX1_holds 18 = .ok (.goto 4, 3) := by decide +kernel
theorem dX1_holds_21 : decode cX1_holds 21 = .ok (.iconst 0, 1) := by decide +kernel
theorem dX1_holds_22 : decode cX1_holds 22 = .ok (.ireturn, 1) := by decide +kernel
theorem dX1_standsIn_0 : decode cX1_standsIn 0 = .ok (.aload_n 0, 1) := by decide +kernel
theorem dX1_standsIn_1 : decode cX1_standsIn 1 = .ok (.getfield 37, 3) := by decide +kernel
theorem dX1_standsIn_4 : decode cX1_standsIn 4 = .ok (.iload_n 1, 1) := by decide +kernel
theorem dX1_standsIn_5 : decode cX1_standsIn 5 = .ok (.invokestatic 50, 3) := by decide +kernel
theorem dX1_standsIn_8 : decode cX1_standsIn 8 = .ok (.ifCond .eq 6, 3) := by decide +kernel
theorem dX1_standsIn_11 : decode cX1_standsIn 11 = .ok (.bipush 9, 2) := by decide +kernel
theorem dX1_standsIn_13 : decode cX1_standsIn 13 = .ok (.ireturn, 1) := by decide +kernel
theorem dX1_standsIn_14 : decode cX1_standsIn 14 = .ok (.iconst 0, 1) := by decide +kernel
theorem dX1_standsIn_15 : decode cX1_standsIn 15 = .ok (.istore_n 2, 1) := by decide +kernel
theorem dX1_standsIn_16 : decode cX1_standsIn 16 = .ok (.iload_n 2, 1) := by decide +kernel
theorem dX1_standsIn_17 : decode cX1_standsIn 17 = .ok (.aload_n 0, 1) := by decide +kernel
theorem dX1_standsIn_18 : decode cX1_standsIn 18 = .ok (.getfield 26, 3) := by decide +kernel
theorem dX1_standsIn_21 : decode cX1_standsIn 21 = .ok (.if_icmp .ge 32, 3) := by decide +kernel
theorem dX1_standsIn_24 : decode cX1_standsIn 24 = .ok (.iload_n 2, 1) := by decide +kernel
theorem dX1_standsIn_25 : decode cX1_standsIn 25 = .ok (.iconst 3, 1) := by decide +kernel
theorem dX1_standsIn_26 : decode cX1_standsIn 26 = .ok (.if_icmp .ge 27, 3) := by decide +kernel
theorem dX1_standsIn_29 : decode cX1_standsIn 29 = .ok (.aload_n 0, 1) := by decide +kernel
theorem dX1_standsIn_30 : decode cX1_standsIn 30 = .ok (.getfield 11, 3) := by decide +kernel
theorem dX1_standsIn_33 : decode cX1_standsIn 33 = .ok (.iload_n 2, 1) := by decide +kernel
theorem dX1_standsIn_34 : decode cX1_standsIn 34 = .ok (.aaload, 1) := by decide +kernel
theorem dX1_standsIn_35 : decode cX1_standsIn 35 = .ok (.invokevirtual 54, 3) := by decide +kernel
theorem dX1_standsIn_38 : decode cX1_standsIn 38 = .ok (.iload_n 1, 1) := by decide +kernel
theorem dX1_standsIn_39 : decode cX1_standsIn 39 = .ok (.invokestatic 50, 3) := by decide +kernel
theorem dX1_standsIn_42 : decode cX1_standsIn 42 = .ok (.ifCond .eq 5, 3) := by decide +kernel
theorem dX1_standsIn_45 : decode cX1_standsIn 45 = .ok (.iload_n 2, 1) := by decide +kernel
theorem dX1_standsIn_46 : decode cX1_standsIn 46 = .ok (.ireturn, 1) := by decide +kernel
theorem dX1_standsIn_47 : decode cX1_standsIn 47 = .ok (.iinc 2 1, 3) := by decide +kernel
theorem dX1_standsIn_50 : decode cX1_standsIn 50 = .ok (.goto (-34), 3) := by decide +kernel
theorem dX1_standsIn_53 : decode cX1_standsIn 53 = .ok (.bipush (-4), 2) := by decide +kernel
theorem dX1_standsIn_55 : decode cX1_standsIn 55 = .ok (.ireturn, 1) := by decide +kernel
theorem dX1_canDig_0 : decode cX1_canDig 0 = .ok (.aload_n 0, 1) := by decide +kernel
theorem dX1_canDig_1 : decode cX1_canDig 1 = .ok (.getfield 21, 3) := by decide +kernel
theorem dX1_canDig_4 : decode cX1_canDig 4 = .ok (.getfield 58, 3) := by decide +kernel
theorem dX1_canDig_7 : decode cX1_canDig 7 = .ok (.aload_n 0, 1) := by decide +kernel
theorem dX1_canDig_8 : decode cX1_canDig 8 = .ok (.getfield 33, 3) := by decide +kernel
theorem dX1_canDig_11 : decode cX1_canDig 11 = .ok (.ldc2_w 63, 3) := by decide +kernel
theorem dX1_canDig_14 : decode cX1_canDig 14 = .ok (.lxor, 1) := by decide +kernel
theorem dX1_canDig_15 : decode cX1_canDig 15 = .ok (.land, 1) := by decide +kernel
theorem dX1_canDig_16 : decode cX1_canDig 16 = .ok (.aload_n 0, 1) := by decide +kernel
theorem dX1_canDig_17 : decode cX1_canDig 17 = .ok (.getfield 40, 3) := by decide +kernel
theorem dX1_canDig_20 : decode cX1_canDig 20 = .ok (.ldc2_w 63, 3) := by decide +kernel
theorem dX1_canDig_23 : decode cX1_canDig 23 = .ok (.lxor, 1) := by decide +kernel
theorem dX1_canDig_24 : decode cX1_canDig 24 = .ok (.land, 1) := by decide +kernel
theorem dX1_canDig_25 : decode cX1_canDig 25 = .ok (.iload_n 1, 1) := by decide +kernel
theorem dX1_canDig_26 : decode cX1_canDig 26 = .ok (.invokestatic 50, 3) := by decide +kernel
theorem dX1_canDig_29 : decode cX1_canDig 29 = .ok (.ireturn, 1) := by decide +kernel
theorem dX1_digIn_0 : decode cX1_digIn 0 = .ok (.aload_n 0, 1) := by decide +kernel
theorem dX1_digIn_1 : decode cX1_digIn 1 = .ok (.iload_n 1, 1) := by decide +kernel
theorem dX1_digIn_2 : decode cX1_digIn 2 = .ok (.invokevirtual 65, 3) := by decide +kernel
theorem dX1_digIn_5 : decode cX1_digIn 5 = .ok (.ifCond .eq 16, 3) := by decide +kernel
theorem dX1_digIn_8 : decode cX1_digIn 8 = .ok (.aload_n 0, 1) := by decide +kernel
theorem dX1_digIn_9 : decode cX1_digIn 9 = .ok (.dup, 1) := by decide +kernel
theorem dX1_digIn_10 : decode cX1_digIn 10 = .ok (.getfield 33, 3) := by decide +kernel
theorem dX1_digIn_13 : decode cX1_digIn 13 = .ok (.iload_n 1, 1) := by decide +kernel
theorem dX1_digIn_14 : decode cX1_digIn 14 = .ok (.invokestatic 69, 3) := by decide +kernel
theorem dX1_digIn_17 : decode cX1_digIn 17 = .ok (.lor, 1) := by decide +kernel
theorem dX1_digIn_18 : decode cX1_digIn 18 = .ok (.putfield 33, 3) := by decide +kernel
theorem dX1_digIn_21 : decode cX1_digIn 21 = .ok (.return_, 1) := by decide +kernel
theorem dX1_fillIn_0 : decode cX1_fillIn 0 = .ok (.aload_n 0, 1) := by decide +kernel
theorem dX1_fillIn_1 : decode cX1_fillIn 1 = .ok (.dup, 1) := by decide +kernel
theorem dX1_fillIn_2 : decode cX1_fillIn 2 = .ok (.getfield 33, 3) := by decide +kernel
theorem dX1_fillIn_5 : decode cX1_fillIn 5 = .ok (.iload_n 1, 1) := by decide +kernel
theorem dX1_fillIn_6 : decode cX1_fillIn 6 = .ok (.invokestatic 69, 3) := by decide +kernel
theorem dX1_fillIn_9 : decode cX1_fillIn 9 = .ok (.ldc2_w 63, 3) := by decide +kernel
theorem dX1_fillIn_12 : decode cX1_fillIn 12 = .ok (.lxor, 1) := by decide +kernel
theorem dX1_fillIn_13 : decode cX1_fillIn 13 = .ok (.land, 1) := by decide +kernel
theorem dX1_fillIn_14 : decode cX1_fillIn 14 = .ok (.putfield 33, 3) := by decide +kernel
theorem dX1_fillIn_17 : decode cX1_fillIn 17 = .ok (.return_, 1) := by decide +kernel
theorem dX1_leaveLast_0 : decode cX1_leaveLast 0 = .ok (.aload_n 1, 1) := by decide +kernel
theorem dX1_leaveLast_1 : decode cX1_leaveLast 1 = .ok (.getfield 73, 3) := by decide +kernel
theorem dX1_leaveLast_4 : decode cX1_leaveLast 4 = .ok (.iconst 2, 1) := by decide +kernel
theorem dX1_leaveLast_5 : decode cX1_leaveLast 5 = .ok (.if_icmp .ge 6, 3) := by decide +kernel
theorem dX1_leaveLast_8 : decode cX1_leaveLast 8 = .ok (.bipush (-4), 2) := by decide +kernel
theorem dX1_leaveLast_10 : decode cX1_leaveLast 10 = .ok (.ireturn, 1) := by decide +kernel
theorem dX1_leaveLast_11 : decode cX1_leaveLast 11 = .ok (.aload_n 1, 1) := by decide +kernel
theorem dX1_leaveLast_12 : decode cX1_leaveLast 12 = .ok (.aload_n 1, 1) := by decide +kernel
theorem dX1_leaveLast_13 : decode cX1_leaveLast 13 = .ok (.getfield 73, 3) := by decide +kernel
theorem dX1_leaveLast_16 : decode cX1_leaveLast 16 = .ok (.iconst 1, 1) := by decide +kernel
theorem dX1_leaveLast_17 : decode cX1_leaveLast 17 = .ok (.isub, 1) := by decide +kernel
theorem dX1_leaveLast_18 : decode cX1_leaveLast 18 = .ok (.invokevirtual 76, 3) := by decide +kernel
theorem dX1_leaveLast_21 : decode cX1_leaveLast 21 = .ok (.istore_n 2, 1) := by decide +kernel
theorem dX1_leaveLast_22 : decode cX1_leaveLast 22 = .ok (.aload_n 1, 1) := by decide +kernel
theorem dX1_leaveLast_23 : decode cX1_leaveLast 23 = .ok (.dup, 1) := by decide +kernel
theorem dX1_leaveLast_24 : decode cX1_leaveLast 24 = .ok (.getfield 73, 3) := by decide +kernel
theorem dX1_leaveLast_27 : decode cX1_leaveLast 27 = .ok (.iconst 1, 1) := by decide +kernel
theorem dX1_leaveLast_28 : decode cX1_leaveLast 28 = .ok (.isub, 1) := by decide +kernel
theorem dX1_leaveLast_29 : decode cX1_leaveLast 29 = .ok (.putfield 73, 3) := by decide +kernel
theorem dX1_leaveLast_32 : decode cX1_leaveLast 32 = .ok (.aload_n 0, 1) := by decide +kernel
theorem dX1_leaveLast_33 : decode cX1_leaveLast 33 = .ok (.dup, 1) := by decide +kernel
theorem dX1_leaveLast_34 : decode cX1_leaveLast 34 = .ok (.getfield 37, 3) := by decide +kernel
theorem dX1_leaveLast_37 : decode cX1_leaveLast 37 = .ok (.iload_n 2, 1) := by decide +kernel
theorem dX1_leaveLast_38 : decode cX1_leaveLast 38 = .ok (.invokestatic 69, 3) := by decide +kernel
theorem dX1_leaveLast_41 : decode cX1_leaveLast 41 = .ok (.lor, 1) := by decide +kernel
theorem dX1_leaveLast_42 : decode cX1_leaveLast 42 = .ok (.putfield 37, 3) := by decide +kernel
theorem dX1_leaveLast_45 : decode cX1_leaveLast 45 = .ok (.iload_n 2, 1) := by decide +kernel
theorem dX1_leaveLast_46 : decode cX1_leaveLast 46 = .ok (.ireturn, 1) := by decide +kernel
theorem dX1_wayOf_0 : decode cX1_wayOf 0 = .ok (.aload_n 1, 1) := by decide +kernel
theorem dX1_wayOf_1 : decode cX1_wayOf 1 = .ok (.getfield 80, 3) := by decide +kernel
theorem dX1_wayOf_4 : decode cX1_wayOf 4 = .ok (.iconst 2, 1) := by decide +kernel
theorem dX1_wayOf_5 : decode cX1_wayOf 5 = .ok (.if_icmp .ne 15, 3) := by decide +kernel
theorem dX1_wayOf_8 : decode cX1_wayOf 8 = .ok (.aload_n 0, 1) := by decide +kernel
theorem dX1_wayOf_9 : decode cX1_wayOf 9 = .ok (.getfield 30, 3) := by decide +kernel
theorem dX1_wayOf_12 : decode cX1_wayOf 12 = .ok (.iconst 2, 1) := by decide +kernel
theorem dX1_wayOf_13 : decode cX1_wayOf 13 = .ok (.irem, 1) := by decide +kernel
theorem dX1_wayOf_14 : decode cX1_wayOf 14 = .ok (.ifCond .eq 6, 3) := by decide +kernel
theorem dX1_wayOf_17 : decode cX1_wayOf 17 = .ok (.bipush (-4), 2) := by decide +kernel
theorem dX1_wayOf_19 : decode cX1_wayOf 19 = .ok (.ireturn, 1) := by decide +kernel
theorem dX1_wayOf_20 : decode cX1_wayOf 20 = .ok (.aload_n 0, 1) := by decide +kernel
theorem dX1_wayOf_21 : decode cX1_wayOf 21 = .ok (.getfield 21, 3) := by decide +kernel
theorem dX1_wayOf_24 : decode cX1_wayOf 24 = .ok (.getfield 58, 3) := by decide +kernel
theorem dX1_wayOf_27 : decode cX1_wayOf 27 = .ok (.aload_n 0, 1) := by decide +kernel
theorem dX1_wayOf_28 : decode cX1_wayOf 28 = .ok (.getfield 21, 3) := by decide +kernel
theorem dX1_wayOf_31 : decode cX1_wayOf 31 = .ok (.getfield 83, 3) := by decide +kernel
theorem dX1_wayOf_34 : decode cX1_wayOf 34 = .ok (.lor, 1) := by decide +kernel
theorem dX1_wayOf_35 : decode cX1_wayOf 35 = .ok (.aload_n 1, 1) := by decide +kernel
theorem dX1_wayOf_36 : decode cX1_wayOf 36 = .ok (.getfield 80, 3) := by decide +kernel
theorem dX1_wayOf_39 : decode cX1_wayOf 39 = .ok (.iconst 3, 1) := by decide +kernel
theorem dX1_wayOf_40 : decode cX1_wayOf 40 = .ok (.if_icmp .ne 13, 3) := by decide +kernel
theorem dX1_wayOf_43 : decode cX1_wayOf 43 = .ok (.aload_n 0, 1) := by decide +kernel
theorem dX1_wayOf_44 : decode cX1_wayOf 44 = .ok (.getfield 21, 3) := by decide +kernel
theorem dX1_wayOf_47 : decode cX1_wayOf 47 = .ok (.getfield 86, 3) := by decide +kernel
theorem dX1_wayOf_50 : decode cX1_wayOf 50 = .ok (.goto 4, 3) := by decide +kernel
theorem dX1_wayOf_53 : decode cX1_wayOf 53 = .ok (.lconst 0, 1) := by decide +kernel
theorem dX1_wayOf_54 : decode cX1_wayOf 54 = .ok (.lor, 1) := by decide +kernel
theorem dX1_wayOf_55 : decode cX1_wayOf 55 = .ok (.lstore_n 2, 1) := by decide +kernel
theorem dX1_wayOf_56 : decode cX1_wayOf 56 = .ok (.lload_n 2, 1) := by decide +kernel
theorem dX1_wayOf_57 : decode cX1_wayOf 57 = .ok (.aload_n 0, 1) := by decide +kernel
theorem dX1_wayOf_58 : decode cX1_wayOf 58 = .ok (.getfield 33, 3) := by decide +kernel
theorem dX1_wayOf_61 : decode cX1_wayOf 61 = .ok (.ldc2_w 63, 3) := by decide +kernel
theorem dX1_wayOf_64 : decode cX1_wayOf 64 = .ok (.lxor, 1) := by decide +kernel
theorem dX1_wayOf_65 : decode cX1_wayOf 65 = .ok (.land, 1) := by decide +kernel
theorem dX1_wayOf_66 : decode cX1_wayOf 66 = .ok (.aload_n 0, 1) := by decide +kernel
theorem dX1_wayOf_67 : decode cX1_wayOf 67 = .ok (.getfield 40, 3) := by decide +kernel
theorem dX1_wayOf_70 : decode cX1_wayOf 70 = .ok (.ldc2_w 63, 3) := by decide +kernel
theorem dX1_wayOf_73 : decode cX1_wayOf 73 = .ok (.lxor, 1) := by decide +kernel
theorem dX1_wayOf_74 : decode cX1_wayOf 74 = .ok (.land, 1) := by decide +kernel
theorem dX1_wayOf_75 : decode cX1_wayOf 75 = .ok (.lstore 4, 2) := by decide +kernel
theorem dX1_wayOf_77 : decode cX1_wayOf 77 = .ok (.aload_n 1, 1) := by decide +kernel
theorem dX1_wayOf_78 : decode cX1_wayOf 78 = .ok (.getfield 80, 3) := by decide +kernel
theorem dX1_wayOf_81 : decode cX1_wayOf 81 = .ok (.iconst 1, 1) := by decide +kernel
theorem dX1_wayOf_82 : decode cX1_wayOf 82 = .ok (.if_icmp .ne 7, 3) := by decide +kernel
theorem dX1_wayOf_85 : decode cX1_wayOf 85 = .ok (.iconst 3, 1) := by decide +kernel
theorem dX1_wayOf_86 : decode cX1_wayOf 86 = .ok (.goto 4, 3) := by decide +kernel
theorem dX1_wayOf_89 : decode cX1_wayOf 89 = .ok (.iconst 1, 1) := by decide +kernel
theorem dX1_wayOf_90 : decode cX1_wayOf 90 = .ok (.istore 6, 2) := by decide +kernel
theorem dX1_wayOf_92 : decode cX1_wayOf 92 = .ok (.aload_n 1, 1) := by decide +kernel
theorem dX1_wayOf_93 : decode cX1_wayOf 93 = .ok (.getfield 89, 3) := by decide +kernel
theorem dX1_wayOf_96 : decode cX1_wayOf 96 = .ok (.istore 7, 2) := by decide +kernel
theorem dX1_wayOf_98 : decode cX1_wayOf 98 = .ok (.iload 7, 2) := by decide +kernel
theorem dX1_wayOf_100 : decode cX1_wayOf 100 = .ok (.iload 6, 2) := by decide +kernel
theorem dX1_wayOf_102 : decode cX1_wayOf 102 = .ok (.iadd, 1) := by decide +kernel
theorem dX1_wayOf_103 : decode cX1_wayOf 103 = .ok (.iconst 4, 1) := by decide +kernel
theorem dX1_wayOf_104 : decode cX1_wayOf 104 = .ok (.irem, 1) := by decide +kernel
theorem dX1_wayOf_105 : decode cX1_wayOf 105 = .ok (.istore 8, 2) := by decide +kernel
theorem dX1_wayOf_107 : decode cX1_wayOf 107 = .ok (.iload 7, 2) := by decide +kernel
theorem dX1_wayOf_109 : decode cX1_wayOf 109 = .ok (.iconst 4, 1) := by decide +kernel
theorem dX1_wayOf_110 : decode cX1_wayOf 110 = .ok (.iadd, 1) := by decide +kernel
theorem dX1_wayOf_111 : decode cX1_wayOf 111 = .ok (.iload 6, 2) := by decide +kernel
theorem dX1_wayOf_113 : decode cX1_wayOf 113 = .ok (.isub, 1) := by decide +kernel
theorem dX1_wayOf_114 : decode cX1_wayOf 114 = .ok (.iconst 4, 1) := by decide +kernel
theorem dX1_wayOf_115 : decode cX1_wayOf 115 = .ok (.irem, 1) := by decide +kernel
theorem dX1_wayOf_116 : decode cX1_wayOf 116 = .ok (.istore 9, 2) := by decide +kernel
theorem dX1_wayOf_118 : decode cX1_wayOf 118 = .ok (.lload 4, 2) := by decide +kernel
theorem dX1_wayOf_120 : decode cX1_wayOf 120 = .ok (.aload_n 0, 1) := by decide +kernel
theorem dX1_wayOf_121 : decode cX1_wayOf 121 = .ok (.getfield 21, 3) := by decide +kernel
theorem dX1_wayOf_124 : decode cX1_wayOf 124 = .ok (.aload_n 1, 1) := by decide +kernel
theorem dX1_wayOf_125 : decode cX1_wayOf 125 = .ok (.invokevirtual 92, 3) := by decide +kernel
theorem dX1_wayOf_128 : decode cX1_wayOf 128 = .ok (.iload 7, 2) := by decide +kernel
theorem dX1_wayOf_130 : decode cX1_wayOf 130 = .ok (.invokevirtual 96, 3) := by decide +kernel
theorem dX1_wayOf_133 : decode cX1_wayOf 133 = .ok (.invokestatic 50, 3) := by decide +kernel
theorem dX1_wayOf_136 : decode cX1_wayOf 136 = .ok (.ifCond .eq 6, 3) := by decide +kernel
theorem dX1_wayOf_139 : decode cX1_wayOf 139 = .ok (.iload 7, 2) := by decide +kernel
theorem dX1_wayOf_141 : decode cX1_wayOf 141 = .ok (.ireturn, 1) := by decide +kernel
theorem dX1_wayOf_142 : decode cX1_wayOf 142 = .ok (.lload 4, 2) := by decide +kernel
theorem dX1_wayOf_144 : decode cX1_wayOf 144 = .ok (.aload_n 0, 1) := by decide +kernel
theorem dX1_wayOf_145 : decode cX1_wayOf 145 = .ok (.getfield 21, 3) := by decide +kernel
theorem dX1_wayOf_148 : decode cX1_wayOf 148 = .ok (.aload_n 1, 1) := by decide +kernel
theorem dX1_wayOf_149 : decode cX1_wayOf 149 = .ok (.invokevirtual 92, 3) := by decide +kernel
theorem dX1_wayOf_152 : decode cX1_wayOf 152 = .ok (.iload 8, 2) := by decide +kernel
theorem dX1_wayOf_154 : decode cX1_wayOf 154 = .ok (.invokevirtual 96, 3) := by decide +kernel
theorem dX1_wayOf_157 : decode cX1_wayOf 157 = .ok (.invokestatic 50, 3) := by decide +kernel
theorem dX1_wayOf_160 : decode cX1_wayOf 160 = .ok (.ifCond .eq 6, 3) := by decide +kernel
theorem dX1_wayOf_163 : decode cX1_wayOf 163 = .ok (.iload 8, 2) := by decide +kernel
theorem dX1_wayOf_165 : decode cX1_wayOf 165 = .ok (.ireturn, 1) := by decide +kernel
theorem dX1_wayOf_166 : decode cX1_wayOf 166 = .ok (.lload 4, 2) := by decide +kernel
theorem dX1_wayOf_168 : decode cX1_wayOf 168 = .ok (.aload_n 0, 1) := by decide +kernel
theorem dX1_wayOf_169 : decode cX1_wayOf 169 = .ok (.getfield 21, 3) := by decide +kernel
theorem dX1_wayOf_172 : decode cX1_wayOf 172 = .ok (.aload_n 1, 1) := by decide +kernel
theorem dX1_wayOf_173 : decode cX1_wayOf 173 = .ok (.invokevirtual 92, 3) := by decide +kernel
theorem dX1_wayOf_176 : decode cX1_wayOf 176 = .ok (.iload 9, 2) := by decide +kernel
theorem dX1_wayOf_178 : decode cX1_wayOf 178 = .ok (.invokevirtual 96, 3) := by decide +kernel
theorem dX1_wayOf_181 : decode cX1_wayOf 181 = .ok (.invokestatic 50, 3) := by decide +kernel
theorem dX1_wayOf_184 : decode cX1_wayOf 184 = .ok (.ifCond .eq 8, 3) := by decide +kernel
theorem dX1_wayOf_187 : decode cX1_wayOf 187 = .ok (.iload 9, 2) := by decide +kernel
theorem dX1_wayOf_189 : decode cX1_wayOf 189 = .ok (.goto 5, 3) := by decide +kernel
theorem dX1_wayOf_192 : decode cX1_wayOf 192 = .ok (.bipush (-4), 2) := by decide +kernel
theorem dX1_wayOf_194 : decode cX1_wayOf 194 = .ok (.ireturn, 1) := by decide +kernel
theorem dX1_goRow_0 : decode cX1_goRow 0 = .ok (.aload_n 0, 1) := by decide +kernel
theorem dX1_goRow_1 : decode cX1_goRow 1 = .ok (.aload_n 1, 1) := by decide +kernel
theorem dX1_goRow_2 : decode cX1_goRow 2 = .ok (.invokevirtual 100, 3) := by decide +kernel
theorem dX1_goRow_5 : decode cX1_goRow 5 = .ok (.istore_n 2, 1) := by decide +kernel
theorem dX1_goRow_6 : decode cX1_goRow 6 = .ok (.iload_n 2, 1) := by decide +kernel
theorem dX1_goRow_7 : decode cX1_goRow 7 = .ok (.bipush (-4), 2) := by decide +kernel
theorem dX1_goRow_9 : decode cX1_goRow 9 = .ok (.if_icmp .ne 4, 3) := by decide +kernel
theorem dX1_goRow_12 : decode cX1_goRow 12 = .ok (.return_, 1) := by decide +kernel
theorem dX1_goRow_13 : decode cX1_goRow 13 = .ok (.aload_n 0, 1) := by decide +kernel
theorem dX1_goRow_14 : decode cX1_goRow 14 = .ok (.getfield 21, 3) := by decide +kernel
theorem dX1_goRow_17 : decode cX1_goRow 17 = .ok (.aload_n 1, 1) := by decide +kernel
theorem dX1_goRow_18 : decode cX1_goRow 18 = .ok (.invokevirtual 92, 3) := by decide +kernel
theorem dX1_goRow_21 : decode cX1_goRow 21 = .ok (.iload_n 2, 1) := by decide +kernel
theorem dX1_goRow_22 : decode cX1_goRow 22 = .ok (.invokevirtual 96, 3) := by decide +kernel
theorem dX1_goRow_25 : decode cX1_goRow 25 = .ok (.istore_n 3, 1) := by decide +kernel
theorem dX1_goRow_26 : decode cX1_goRow 26 = .ok (.aload_n 0, 1) := by decide +kernel
theorem dX1_goRow_27 : decode cX1_goRow 27 = .ok (.dup, 1) := by decide +kernel
theorem dX1_goRow_28 : decode cX1_goRow 28 = .ok (.getfield 40, 3) := by decide +kernel
theorem dX1_goRow_31 : decode cX1_goRow 31 = .ok (.aload_n 1, 1) := by decide +kernel
theorem dX1_goRow_32 : decode cX1_goRow 32 = .ok (.aload_n 1, 1) := by decide +kernel
theorem dX1_goRow_33 : decode cX1_goRow 33 = .ok (.getfield 73, 3) := by decide +kernel
theorem dX1_goRow_36 : decode cX1_goRow 36 = .ok (.iconst 1, 1) := by decide +kernel
theorem dX1_goRow_37 : decode cX1_goRow 37 = .ok (.isub, 1) := by decide +kernel
theorem dX1_goRow_38 : decode cX1_goRow 38 = .ok (.invokevirtual 76, 3) := by decide +kernel
theorem dX1_goRow_41 : decode cX1_goRow 41 = .ok (.invokestatic 69, 3) := by decide +kernel
theorem dX1_goRow_44 : decode cX1_goRow 44 = .ok (.ldc2_w 63, 3) := by decide +kernel
theorem dX1_goRow_47 : decode cX1_goRow 47 = .ok (.lxor, 1) := by decide +kernel
theorem dX1_goRow_48 : decode cX1_goRow 48 = .ok (.land, 1) := by decide +kernel
theorem dX1_goRow_49 : decode cX1_goRow 49 = .ok (.putfield 40, 3) := by decide +kernel
theorem dX1_goRow_52 : decode cX1_goRow 52 = .ok (.aload_n 0, 1) := by decide +kernel
theorem dX1_goRow_53 : decode cX1_goRow 53 = .ok (.dup, 1) := by decide +kernel
theorem dX1_goRow_54 : decode cX1_goRow 54 = .ok (.getfield 40, 3) := by decide +kernel
theorem dX1_goRow_57 : decode cX1_goRow 57 = .ok (.iload_n 3, 1) := by decide +kernel
theorem dX1_goRow_58 : decode cX1_goRow 58 = .ok (.invokestatic 69, 3) := by decide +kernel
theorem dX1_goRow_61 : decode cX1_goRow 61 = .ok (.lor, 1) := by decide +kernel
theorem dX1_goRow_62 : decode cX1_goRow 62 = .ok (.putfield 40, 3) := by decide +kernel
theorem dX1_goRow_65 : decode cX1_goRow 65 = .ok (.aload_n 0, 1) := by decide +kernel
theorem dX1_goRow_66 : decode cX1_goRow 66 = .ok (.dup, 1) := by decide +kernel
theorem dX1_goRow_67 : decode cX1_goRow 67 = .ok (.getfield 43, 3) := by decide +kernel
theorem dX1_goRow_70 : decode cX1_goRow 70 = .ok (.iload_n 3, 1) := by decide +kernel
theorem dX1_goRow_71 : decode cX1_goRow 71 = .ok (.invokestatic 69, 3) := by decide +kernel
theorem dX1_goRow_74 : decode cX1_goRow 74 = .ok (.lor, 1) := by decide +kernel
theorem dX1_goRow_75 : decode cX1_goRow 75 = .ok (.putfield 43, 3) := by decide +kernel
theorem dX1_goRow_78 : decode cX1_goRow 78 = .ok (.aload_n 1, 1) := by decide +kernel
theorem dX1_goRow_79 : decode cX1_goRow 79 = .ok (.iload_n 2, 1) := by decide +kernel
theorem dX1_goRow_80 : decode cX1_goRow 80 = .ok (.putfield 89, 3) := by decide +kernel
theorem dX1_goRow_83 : decode cX1_goRow 83 = .ok (.iconst 3, 1) := by decide +kernel
theorem dX1_goRow_84 : decode cX1_goRow 84 = .ok (.istore 4, 2) := by decide +kernel
theorem dX1_goRow_86 : decode cX1_goRow 86 = .ok (.iload 4, 2) := by decide +kernel
theorem dX1_goRow_88 : decode cX1_goRow 88 = .ok (.ifCond .le 25, 3) := by decide +kernel
theorem dX1_goRow_91 : decode cX1_goRow 91 = .ok (.aload_n 1, 1) := by decide +kernel
theorem dX1_goRow_92 : decode cX1_goRow 92 = .ok (.getfield 104, 3) := by decide +kernel
theorem dX1_goRow_95 : decode cX1_goRow 95 = .ok (.iload 4, 2) := by decide +kernel
theorem dX1_goRow_97 : decode cX1_goRow 97 = .ok (.aload_n 1, 1) := by decide +kernel
theorem dX1_goRow_98 : decode cX1_goRow 98 = .ok (.getfield 104, 3) := by decide +kernel
theorem dX1_goRow_101 : decode cX1_goRow 101 = .ok (.iload 4, 2) := by decide +kernel
theorem dX1_goRow_103 : decode cX1_goRow 103 = .ok (.iconst 1, 1) := by decide +kernel
theorem dX1_goRow_104 : decode cX1_goRow 104 = .ok (.isub, 1) := by decide +kernel
theorem dX1_goRow_105 : decode cX1_goRow 105 = .ok (.iaload, 1) := by decide +kernel
theorem dX1_goRow_106 : decode cX1_goRow 106 = .ok (.iastore, 1) := by decide +kernel
theorem dX1_goRow_107 : decode cX1_goRow 107 = .ok (.iinc 4 (-1), 3) := by decide +kernel
theorem dX1_goRow_110 : decode cX1_goRow 110 = .ok (.goto (-24), 3) := by decide +kernel
theorem dX1_goRow_113 : decode cX1_goRow 113 = .ok (.aload_n 1, 1) := by decide +kernel
theorem dX1_goRow_114 : decode cX1_goRow 114 = .ok (.getfield 104, 3) := by decide +kernel
theorem dX1_goRow_117 : decode cX1_goRow 117 = .ok (.iconst 0, 1) := by decide +kernel
theorem dX1_goRow_118 : decode cX1_goRow 118 = .ok (.iload_n 3, 1) := by decide +kernel
theorem dX1_goRow_119 : decode cX1_goRow 119 = .ok (.iastore, 1) := by decide +kernel
theorem dX1_goRow_120 : decode cX1_goRow 120 = .ok (.aload_n 0, 1) := by decide +kernel
theorem dX1_goRow_121 : decode cX1_goRow 121 = .ok (.getfield 21, 3) := by decide +kernel
theorem dX1_goRow_124 : decode cX1_goRow 124 = .ok (.getfield 83, 3) := by decide +kernel
theorem dX1_goRow_127 : decode cX1_goRow 127 = .ok (.iload_n 3, 1) := by decide +kernel
theorem dX1_goRow_128 : decode cX1_goRow 128 = .ok (.invokestatic 50, 3) := by decide +kernel
theorem dX1_goRow_131 : decode cX1_goRow 131 = .ok (.ifCond .eq 9, 3) := by decide +kernel
theorem dX1_goRow_134 : decode cX1_goRow 134 = .ok (.aload_n 0, 1) := by decide +kernel
theorem dX1_goRow_135 : decode cX1_goRow 135 = .ok (.iload_n 3, 1) := by decide +kernel
theorem dX1_goRow_136 : decode cX1_goRow 136 = .ok (.iconst 1, 1) := by decide +kernel
theorem dX1_goRow_137 : decode cX1_goRow 137 = .ok (.invokevirtual 107, 3) := by decide +kernel
theorem dX1_goRow_140 : decode cX1_goRow 140 = .ok (.return_, 1) := by decide +kernel
theorem dX1_goYear_0 : decode cX1_goYear 0 = .ok (.iconst 0, 1) := by decide +kernel
theorem dX1_goYear_1 : decode cX1_goYear 1 = .ok (.istore_n 2, 1) := by decide +kernel
theorem dX1_goYear_2 : decode cX1_goYear 2 = .ok (.iload_n 2, 1) := by decide +kernel
theorem dX1_goYear_3 : decode cX1_goYear 3 = .ok (.aload_n 0, 1) := by decide +kernel
theorem dX1_goYear_4 : decode cX1_goYear 4 = .ok (.getfield 26, 3) := by decide +kernel
theorem dX1_goYear_7 : decode cX1_goYear 7 = .ok (.if_icmp .ge 29, 3) := by decide +kernel
theorem dX1_goYear_10 : decode cX1_goYear 10 = .ok (.iload_n 2, 1) := by decide +kernel
theorem dX1_goYear_11 : decode cX1_goYear 11 = .ok (.iconst 3, 1) := by decide +kernel
theorem dX1_goYear_12 : decode cX1_goYear 12 = .ok (.if_icmp .ge 24, 3) := by decide +kernel
theorem dX1_goYear_15 : decode cX1_goYear 15 = .ok (.iload_n 2, 1) := by decide +kernel
theorem dX1_goYear_16 : decode cX1_goYear 16 = .ok (.iload_n 1, 1) := by decide +kernel
theorem dX1_goYear_17 : decode cX1_goYear 17 = .ok (.if_icmp .eq 13, 3) := by decide +kernel
theorem dX1_goYear_20 : decode cX1_goYear 20 = .ok (.aload_n 0, 1) := by decide +kernel
theorem dX1_goYear_21 : decode cX1_goYear 21 = .ok (.aload_n 0, 1) := by decide +kernel
theorem dX1_goYear_22 : decode cX1_goYear 22 = .ok (.getfield 11, 3) := by decide +kernel
theorem dX1_goYear_25 : decode cX1_goYear 25 = .ok (.iload_n 2, 1) := by decide +kernel
theorem dX1_goYear_26 : decode cX1_goYear 26 = .ok (.aaload, 1) := by decide +kernel
theorem dX1_goYear_27 : decode cX1_goYear 27 = .ok (.invokevirtual 111, 3) := by decide +kernel
theorem dX1_goYear_30 : decode cX1_goYear 30 = .ok (.iinc 2 1, 3) := by decide +kernel
theorem dX1_goYear_33 : decode cX1_goYear 33 = .ok (.goto (-31), 3) := by decide +kernel
theorem dX1_goYear_36 : decode cX1_goYear 36 = .ok (.aload_n 0, 1) := by decide +kernel
theorem dX1_goYear_37 : decode cX1_goYear 37 = .ok (.dup, 1) := by decide +kernel
theorem dX1_goYear_38 : decode cX1_goYear 38 = .ok (.getfield 30, 3) := by decide +kernel
theorem dX1_goYear_41 : decode cX1_goYear 41 = .ok (.iconst 1, 1) := by decide +kernel
theorem dX1_goYear_42 : decode cX1_goYear 42 = .ok (.iadd, 1) := by decide +kernel
theorem dX1_goYear_43 : decode cX1_goYear 43 = .ok (.putfield 30, 3) := by decide +kernel
theorem dX1_goYear_46 : decode cX1_goYear 46 = .ok (.return_, 1) := by decide +kernel
theorem dX1_passYears_0 : decode cX1_passYears 0 = .ok (.iconst 0, 1) := by decide +kernel
theorem dX1_passYears_1 : decode cX1_passYears 1 = .ok (.istore_n 2, 1) := by decide +kernel
theorem dX1_passYears_2 : decode cX1_passYears 2 = .ok (.iload_n 2, 1) := by decide +kernel
theorem dX1_passYears_3 : decode cX1_passYears 3 = .ok (.iload_n 1, 1) := by decide +kernel
theorem dX1_passYears_4 : decode cX1_passYears 4 = .ok (.if_icmp .ge 46, 3) := by decide +kernel
theorem dX1_passYears_7 : decode cX1_passYears 7 = .ok (.aload_n 0, 1) := by decide +kernel
theorem dX1_passYears_8 : decode cX1_passYears 8 = .ok (.bipush (-4), 2) := by decide +kernel
theorem dX1_passYears_10 : decode cX1_passYears 10 = .ok (.invokevirtual 114, 3) := by decide +kernel
theorem dX1_passYears_13 : decode cX1_passYears 13 = .ok (.iconst 0, 1) := by decide +kernel
theorem dX1_passYears_14 : decode cX1_passYears 14 = .ok (.istore_n 3, 1) := by decide +kernel
theorem dX1_passYears_15 : decode cX1_passYears 15 = .ok (.iload_n 3, 1) := by decide +kernel
theorem dX1_passYears_16 : decode cX1_passYears 16 = .ok (.aload_n 0, 1) := by decide +kernel
theorem dX1_passYears_17 : decode cX1_passYears 17 = .ok (.getfield 26, 3) := by decide +kernel
theorem dX1_passYears_20 : decode cX1_passYears 20 = .ok (.if_icmp .ge 24, 3) := by decide +kernel
theorem dX1_passYears_23 : decode cX1_passYears 23 = .ok (.iload_n 3, 1) := by decide +kernel
theorem dX1_passYears_24 : decode cX1_passYears 24 = .ok (.iconst 3, 1) := by decide +kernel
theorem dX1_passYears_25 : decode cX1_passYears 25 = .ok (.if_icmp .ge 19, 3) := by decide +kernel
theorem dX1_passYears_28 : decode cX1_passYears 28 = .ok (.aload_n 0, 1) := by decide +kernel
theorem dX1_passYears_29 : decode cX1_passYears 29 = .ok (.aload_n 0, 1) := by decide +kernel
theorem dX1_passYears_30 : decode cX1_passYears 30 = .ok (.getfield 11, 3) := by decide +kernel
theorem dX1_passYears_33 : decode cX1_passYears 33 = .ok (.iload_n 3, 1) := by decide +kernel
theorem dX1_passYears_34 : decode cX1_passYears 34 = .ok (.aaload, 1) := by decide +kernel
theorem dX1_passYears_35 : decode cX1_passYears 35 = .ok (.invokevirtual 118, 3) := by decide +kernel
theorem dX1_passYears_38 : decode cX1_passYears 38 = .ok (.iinc 3 1, 3) := by decide +kernel
theorem dX1_passYears_41 : decode cX1_passYears 41 = .ok (.goto (-26), 3) := by decide +kernel
theorem dX1_passYears_44 : decode cX1_passYears 44 = .ok (.iinc 2 1, 3) := by decide +kernel
theorem dX1_passYears_47 : decode cX1_passYears 47 = .ok (.goto (-45), 3) := by decide +kernel
theorem dX1_passYears_50 : decode cX1_passYears 50 = .ok (.return_, 1) := by decide +kernel
theorem dX1_bearRow_0 : decode cX1_bearRow 0 = .ok (.aload_n 0, 1) := by decide +kernel
theorem dX1_bearRow_1 : decode cX1_bearRow 1 = .ok (.getfield 40, 3) := by decide +kernel
theorem dX1_bearRow_4 : decode cX1_bearRow 4 = .ok (.aload_n 0, 1) := by decide +kernel
theorem dX1_bearRow_5 : decode cX1_bearRow 5 = .ok (.getfield 37, 3) := by decide +kernel
theorem dX1_bearRow_8 : decode cX1_bearRow 8 = .ok (.ldc2_w 63, 3) := by decide +kernel
theorem dX1_bearRow_11 : decode cX1_bearRow 11 = .ok (.lxor, 1) := by decide +kernel
theorem dX1_bearRow_12 : decode cX1_bearRow 12 = .ok (.land, 1) := by decide +kernel
theorem dX1_bearRow_13 : decode cX1_bearRow 13 = .ok (.aload_n 1, 1) := by decide +kernel
theorem dX1_bearRow_14 : decode cX1_bearRow 14 = .ok (.invokevirtual 54, 3) := by decide +kernel
theorem dX1_bearRow_17 : decode cX1_bearRow 17 = .ok (.ldc2_w 63, 3) := by decide +kernel
theorem dX1_bearRow_20 : decode cX1_bearRow 20 = .ok (.lxor, 1) := by decide +kernel
theorem dX1_bearRow_21 : decode cX1_bearRow 21 = .ok (.land, 1) := by decide +kernel
theorem dX1_bearRow_22 : decode cX1_bearRow 22 = .ok (.lstore_n 2, 1) := by decide +kernel
theorem dX1_bearRow_23 : decode cX1_bearRow 23 = .ok (.iconst 0, 1) := by decide +kernel
theorem dX1_bearRow_24 : decode cX1_bearRow 24 = .ok (.istore 4, 2) := by decide +kernel
theorem dX1_bearRow_26 : decode cX1_bearRow 26 = .ok (.iload 4, 2) := by decide +kernel
theorem dX1_bearRow_28 : decode cX1_bearRow 28 = .ok (.aload_n 1, 1) := by decide +kernel
theorem dX1_bearRow_29 : decode cX1_bearRow 29 = .ok (.getfield 73, 3) := by decide +kernel
theorem dX1_bearRow_32 : decode cX1_bearRow 32 = .ok (.if_icmp .ge 53, 3) := by decide +kernel
theorem dX1_bearRow_35 : decode cX1_bearRow 35 = .ok (.iload 4, 2) := by decide +kernel
theorem dX1_bearRow_37 : decode cX1_bearRow 37 = .ok (.iconst 4, 1) := by decide +kernel
theorem dX1_bearRow_38 : decode cX1_bearRow 38 = .ok (.if_icmp .ge 47, 3) := by decide +kernel
theorem dX1_bearRow_41 : decode cX1_bearRow 41 = .ok (.aload_n 1, 1) := by decide +kernel
theorem dX1_bearRow_42 : decode cX1_bearRow 42 = .ok (.getfield 104, 3) := by decide +kernel
theorem dX1_bearRow_45 : decode cX1_bearRow 45 = .ok (.iload 4, 2) := by decide +kernel
theorem dX1_bearRow_47 : decode cX1_bearRow 47 = .ok (.iaload, 1) := by decide +kernel
theorem dX1_bearRow_48 : decode cX1_bearRow 48 = .ok (.istore 5, 2) := by decide +kernel
theorem dX1_bearRow_50 : decode cX1_bearRow 50 = .ok (.aload_n 0, 1) := by decide +kernel
theorem dX1_bearRow_51 : decode cX1_bearRow 51 = .ok (.iload 5, 2) := by decide +kernel
theorem dX1_bearRow_53 : decode cX1_bearRow 53 = .ok (.aload_n 1, 1) := by decide +kernel
theorem dX1_bearRow_54 : decode cX1_bearRow 54 = .ok (.getfield 121, 3) := by decide +kernel
theorem dX1_bearRow_57 : decode cX1_bearRow 57 = .ok (.aload_n 0, 1) := by decide +kernel
theorem dX1_bearRow_58 : decode cX1_bearRow 58 = .ok (.getfield 21, 3) := by decide +kernel
theorem dX1_bearRow_61 : decode cX1_bearRow 61 = .ok (.iload 5, 2) := by decide +kernel
theorem dX1_bearRow_63 : decode cX1_bearRow 63 = .ok (.lload_n 2, 1) := by decide +kernel
theorem dX1_bearRow_64 : decode cX1_bearRow 64 = .ok (.invokevirtual 124, 3) := by decide +kernel
theorem dX1_bearRow_67 : decode cX1_bearRow 67 = .ok (.ifCond .eq 7, 3) := by decide +kernel
theorem dX1_bearRow_70 : decode cX1_bearRow 70 = .ok (.iconst 1, 1) := by decide +kernel
theorem dX1_bearRow_71 : decode cX1_bearRow 71 = .ok (.goto 4, 3) := by decide +kernel
theorem dX1_bearRow_74 : decode cX1_bearRow 74 = .ok (.iconst 0, 1) := by decide +kernel
theorem dX1_bearRow_75 : decode cX1_bearRow 75 = .ok (.iadd, 1) := by decide +kernel
theorem dX1_bearRow_76 : decode cX1_bearRow 76 = .ok (.invokevirtual 107, 3) := by decide +kernel
theorem dX1_bearRow_79 : decode cX1_bearRow 79 = .ok (.iinc 4 1, 3) := by decide +kernel
theorem dX1_bearRow_82 : decode cX1_bearRow 82 = .ok (.goto (-56), 3) := by decide +kernel
theorem dX1_bearRow_85 : decode cX1_bearRow 85 = .ok (.return_, 1) := by decide +kernel
theorem dX1_give_0 : decode cX1_give 0 = .ok (.aload_n 0, 1) := by decide +kernel
theorem dX1_give_1 : decode cX1_give 1 = .ok (.getfield 21, 3) := by decide +kernel
theorem dX1_give_4 : decode cX1_give 4 = .ok (.iload_n 1, 1) := by decide +kernel
theorem dX1_give_5 : decode cX1_give 5 = .ok (.invokevirtual 128, 3) := by decide +kernel
theorem dX1_give_8 : decode cX1_give 8 = .ok (.istore_n 3, 1) := by decide +kernel
theorem dX1_give_9 : decode cX1_give 9 = .ok (.iload_n 3, 1) := by decide +kernel
theorem dX1_give_10 : decode cX1_give 10 = .ok (.ifCond .lt 18, 3) := by decide +kernel
theorem dX1_give_13 : decode cX1_give 13 = .ok (.iload_n 3, 1) := by decide +kernel
theorem dX1_give_14 : decode cX1_give 14 = .ok (.iconst 4, 1) := by decide +kernel
theorem dX1_give_15 : decode cX1_give 15 = .ok (.if_icmp .ge 13, 3) := by decide +kernel
theorem dX1_give_18 : decode cX1_give 18 = .ok (.aload_n 0, 1) := by decide +kernel
theorem dX1_give_19 : decode cX1_give 19 = .ok (.getfield 17, 3) := by decide +kernel
theorem dX1_give_22 : decode cX1_give 22 = .ok (.iload_n 3, 1) := by decide +kernel
theorem dX1_give_23 : decode cX1_give 23 = .ok (.dup2, 1) := by decide +kernel
theorem dX1_give_24 : decode cX1_give 24 = .ok (.iaload, 1) := by decide +kernel
theorem dX1_give_25 : decode cX1_give 25 = .ok (.iload_n 2, 1) := by decide +kernel
theorem dX1_give_26 : decode cX1_give 26 = .ok (.iadd, 1) := by decide +kernel
theorem dX1_give_27 : decode cX1_give 27 = .ok (.iastore, 1) := by decide +kernel
theorem dX1_give_28 : decode cX1_give 28 = .ok (.return_, 1) := by decide +kernel
theorem dX1_ownedByAll_0 : decode cX1_ownedByAll 0 = .ok (.iconst 0, 1) := by decide +kernel
theorem dX1_ownedByAll_1 : decode cX1_ownedByAll 1 = .ok (.istore_n 1, 1) := by decide +kernel
theorem dX1_ownedByAll_2 : decode cX1_ownedByAll 2 = .ok (.iconst 0, 1) := by decide +kernel
theorem dX1_ownedByAll_3 : decode cX1_ownedByAll 3 = .ok (.istore_n 2, 1) := by decide +kernel
theorem dX1_ownedByAll_4 : decode cX1_ownedByAll 4 = .ok (.iload_n 2, 1) := by decide +kernel
theorem dX1_ownedByAll_5 : decode cX1_ownedByAll 5 = .ok (.iconst 4, 1) := by decide +kernel
theorem dX1_ownedByAll_6 : decode cX1_ownedByAll 6 = .ok (.if_icmp .ge 18, 3) := by decide +kernel
theorem dX1_ownedByAll_9 : decode cX1_ownedByAll 9 = .ok (.iload_n 1, 1) := by decide +kernel
theorem dX1_ownedByAll_10 : decode cX1_ownedByAll 10 = .ok (.aload_n 0, 1) := by decide +kernel
theorem dX1_ownedByAll_11 : decode cX1_ownedByAll 11 = .ok (.getfield 17, 3) := by decide +kernel
theorem dX1_ownedByAll_14 : decode cX1_ownedByAll 14 = .ok (.iload_n 2, 1) := by decide +kernel
theorem dX1_ownedByAll_15 : decode cX1_ownedByAll 15 = .ok (.iaload, 1) := by decide +kernel
theorem dX1_ownedByAll_16 : decode cX1_ownedByAll 16 = .ok (.iadd, 1) := by decide +kernel
theorem dX1_ownedByAll_17 : decode cX1_ownedByAll 17 = .ok (.istore_n 1, 1) := by decide +kernel
theorem dX1_ownedByAll_18 : decode cX1_ownedByAll 18 = .ok (.iinc 2 1, 3) := by decide +kernel
theorem dX1_ownedByAll_21 : decode cX1_ownedByAll 21 = .ok (.goto (-17), 3) := by decide +kernel
theorem dX1_ownedByAll_24 : decode cX1_ownedByAll 24 = .ok (.iload_n 1, 1) := by decide +kernel
theorem dX1_ownedByAll_25 : decode cX1_ownedByAll 25 = .ok (.ireturn, 1) := by decide +kernel
theorem dX1_areSideBySide_0 : decode cX1_areSideBySide 0 = .ok (.aload_n 2, 1) := by decide +kernel
theorem dX1_areSideBySide_1 : decode cX1_areSideBySide 1 = .ok (.invokevirtual 54, 3) := by decide +kernel
theorem dX1_areSideBySide_4 : decode cX1_areSideBySide 4 = .ok (.lstore_n 3, 1) := by decide +kernel
theorem dX1_areSideBySide_5 : decode cX1_areSideBySide 5 = .ok (.iconst 0, 1) := by decide +kernel
theorem dX1_areSideBySide_6 : decode cX1_areSideBySide 6 = .ok (.istore 5, 2) := by decide +kernel
theorem dX1_areSideBySide_8 : decode cX1_areSideBySide 8 = .ok (.iload 5, 2) := by decide +kernel
theorem dX1_areSideBySide_10 : decode cX1_areSideBySide 10 = .ok (.aload_n 1, 1) := by decide +kernel
theorem dX1_areSideBySide_11 : decode cX1_areSideBySide 11 = .ok (.getfield 73, 3) := by decide +kernel
theorem dX1_areSideBySide_14 : decode cX1_areSideBySide 14 = .ok (.if_icmp .ge 35, 3) := by decide +kernel
theorem dX1_areSideBySide_17 : decode cX1_areSideBySide 17 = .ok (.iload 5, 2) := by decide +kernel
theorem dX1_areSideBySide_19 : decode cX1_areSideBySide 19 = .ok (.iconst 4, 1) := by decide +kernel
theorem dX1_areSideBySide_20 : decode cX1_areSideBySide 20 = .ok (.if_icmp .ge 29, 3) := by decide +kernel
theorem dX1_areSideBySide_23 : decode cX1_areSideBySide 23 = .ok (.aload_n 0, 1) := by decide +kernel
theorem dX1_areSideBySide_24 : decode cX1_areSideBySide 24 = .ok (.getfield 21, 3) := by decide +kernel
theorem dX1_areSideBySide_27 : decode cX1_areSideBySide 27 = .ok (.aload_n 1, 1) := by decide +kernel
theorem dX1_areSideBySide_28 : decode cX1_areSideBySide 28 = .ok (.getfield 104, 3) := by decide +kernel
theorem dX1_areSideBySide_31 : decode cX1_areSideBySide 31 = .ok (.iload 5, 2) := by decide +kernel
theorem dX1_areSideBySide_33 : decode cX1_areSideBySide 33 = .ok (.iaload, 1) := by decide +kernel
theorem dX1_areSideBySide_34 : decode cX1_areSideBySide 34 = .ok (.lload_n 3, 1) := by decide +kernel
theorem dX1_areSideBySide_35 : decode cX1_areSideBySide 35 = .ok (.invokevirtual 124, 3) := by decide +kernel
theorem dX1_areSideBySide_38 : decode cX1_areSideBySide 38 = .ok (.ifCond .eq 5, 3) := by decide +kernel
theorem dX1_areSideBySide_41 : decode cX1_areSideBySide 41 = .ok (.iconst 1, 1) := by decide +kernel
theorem dX1_areSideBySide_42 : decode cX1_areSideBySide 42 = .ok (.ireturn, 1) := by decide +kernel
theorem dX1_areSideBySide_43 : decode cX1_areSideBySide 43 = .ok (.iinc 5 1, 3) := by decide +kernel
theorem dX1_areSideBySide_46 : decode cX1_areSideBySide 46 = .ok (.goto (-38), 3) := by decide +kernel
theorem dX1_areSideBySide_49 : decode cX1_areSideBySide 49 = .ok (.iconst 0, 1) := by decide +kernel
theorem dX1_areSideBySide_50 : decode cX1_areSideBySide 50 = .ok (.ireturn, 1) := by decide +kernel
theorem dX1_standsAs_0 : decode cX1_standsAs 0 = .ok (.iconst 0, 1) := by decide +kernel
theorem dX1_standsAs_1 : decode cX1_standsAs 1 = .ok (.istore_n 2, 1) := by decide +kernel
theorem dX1_standsAs_2 : decode cX1_standsAs 2 = .ok (.iconst 0, 1) := by decide +kernel
theorem dX1_standsAs_3 : decode cX1_standsAs 3 = .ok (.istore_n 3, 1) := by decide +kernel
theorem dX1_standsAs_4 : decode cX1_standsAs 4 = .ok (.iload_n 3, 1) := by decide +kernel
theorem dX1_standsAs_5 : decode cX1_standsAs 5 = .ok (.aload_n 0, 1) := by decide +kernel
theorem dX1_standsAs_6 : decode cX1_standsAs 6 = .ok (.getfield 26, 3) := by decide +kernel
theorem dX1_standsAs_9 : decode cX1_standsAs 9 = .ok (.if_icmp .ge 57, 3) := by decide +kernel
theorem dX1_standsAs_12 : decode cX1_standsAs 12 = .ok (.iload_n 3, 1) := by decide +kernel
theorem dX1_standsAs_13 : decode cX1_standsAs 13 = .ok (.iconst 3, 1) := by decide +kernel
theorem dX1_standsAs_14 : decode cX1_standsAs 14 = .ok (.if_icmp .ge 52, 3) := by decide +kernel
theorem dX1_standsAs_17 : decode cX1_standsAs 17 = .ok (.aload_n 0, 1) := by decide +kernel
theorem dX1_standsAs_18 : decode cX1_standsAs 18 = .ok (.getfield 11, 3) := by decide +kernel
theorem dX1_standsAs_21 : decode cX1_standsAs 21 = .ok (.iload_n 3, 1) := by decide +kernel
theorem dX1_standsAs_22 : decode cX1_standsAs 22 = .ok (.aaload, 1) := by decide +kernel
theorem dX1_standsAs_23 : decode cX1_standsAs 23 = .ok (.aload_n 1, 1) := by decide +kernel
theorem dX1_standsAs_24 : decode cX1_standsAs 24 = .ok (.getfield 11, 3) := by decide +kernel
theorem dX1_standsAs_27 : decode cX1_standsAs 27 = .ok (.iload_n 3, 1) := by decide +kernel
theorem dX1_standsAs_28 : decode cX1_standsAs 28 = .ok (.aaload, 1) := by decide +kernel
theorem dX1_standsAs_29 : decode cX1_standsAs 29 = .ok (.invokevirtual 131, 3) := by decide +kernel
theorem dX1_standsAs_32 : decode cX1_standsAs 32 = .ok (.ifCond .ne 5, 3) := by decide +kernel
theorem dX1_standsAs_35 : decode cX1_standsAs 35 = .ok (.iconst 0, 1) := by decide +kernel
theorem dX1_standsAs_36 : decode cX1_standsAs 36 = .ok (.ireturn, 1) := by decide +kernel
theorem dX1_standsAs_37 : decode cX1_standsAs 37 = .ok (.iload_n 2, 1) := by decide +kernel
theorem dX1_standsAs_38 : decode cX1_standsAs 38 = .ok (.ifCond .ne 16, 3) := by decide +kernel
theorem dX1_standsAs_41 : decode cX1_standsAs 41 = .ok (.aload_n 0, 1) := by decide +kernel
theorem dX1_standsAs_42 : decode cX1_standsAs 42 = .ok (.getfield 11, 3) := by decide +kernel
theorem dX1_standsAs_45 : decode cX1_standsAs 45 = .ok (.iload_n 3, 1) := by decide +kernel
theorem dX1_standsAs_46 : decode cX1_standsAs 46 = .ok (.aaload, 1) := by decide +kernel
theorem dX1_standsAs_47 : decode cX1_standsAs 47 = .ok (.getfield 80, 3) := by decide +kernel
theorem dX1_standsAs_50 : decode cX1_standsAs 50 = .ok (.iconst 2, 1) := by decide +kernel
theorem dX1_standsAs_51 : decode cX1_standsAs 51 = .ok (.if_icmp .ne 7, 3) := by decide +kernel
theorem dX1_standsAs_54 : decode cX1_standsAs 54 = .ok (.iconst 1, 1) := by decide +kernel
theorem dX1_standsAs_55 : decode cX1_standsAs 55 = .ok (.goto 4, 3) := by decide +kernel
theorem dX1_standsAs_58 : decode cX1_standsAs 58 = .ok (.iconst 0, 1) := by decide +kernel
theorem dX1_standsAs_59 : decode cX1_standsAs 59 = .ok (.istore_n 2, 1) := by decide +kernel
theorem dX1_standsAs_60 : decode cX1_standsAs 60 = .ok (.iinc 3 1, 3) := by decide +kernel
theorem dX1_standsAs_63 : decode cX1_standsAs 63 = .ok (.goto (-59), 3) := by decide +kernel
theorem dX1_standsAs_66 : decode cX1_standsAs 66 = .ok (.iload_n 2, 1) := by decide +kernel
theorem dX1_standsAs_67 : decode cX1_standsAs 67 = .ok (.ifCond .eq 17, 3) := by decide +kernel
theorem dX1_standsAs_70 : decode cX1_standsAs 70 = .ok (.aload_n 0, 1) := by decide +kernel
theorem dX1_standsAs_71 : decode cX1_standsAs 71 = .ok (.getfield 30, 3) := by decide +kernel
theorem dX1_standsAs_74 : decode cX1_standsAs 74 = .ok (.aload_n 1, 1) := by decide +kernel
theorem dX1_standsAs_75 : decode cX1_standsAs 75 = .ok (.getfield 30, 3) := by decide +kernel
theorem dX1_standsAs_78 : decode cX1_standsAs 78 = .ok (.isub, 1) := by decide +kernel
theorem dX1_standsAs_79 : decode cX1_standsAs 79 = .ok (.iconst 2, 1) := by decide +kernel
theorem dX1_standsAs_80 : decode cX1_standsAs 80 = .ok (.irem, 1) := by decide +kernel
theorem dX1_standsAs_81 : decode cX1_standsAs 81 = .ok (.ifCond .ne 7, 3) := by decide +kernel
theorem dX1_standsAs_84 : decode cX1_standsAs 84 = .ok (.iconst 1, 1) := by decide +kernel
theorem dX1_standsAs_85 : decode cX1_standsAs 85 = .ok (.goto 4, 3) := by decide +kernel
theorem dX1_standsAs_88 : decode cX1_standsAs 88 = .ok (.iconst 0, 1) := by decide +kernel
theorem dX1_standsAs_89 : decode cX1_standsAs 89 = .ok (.ireturn, 1) := by decide +kernel
theorem dX2_init_0 : decode cX2_init 0 = .ok (.aload_n 0, 1) := by decide +kernel
theorem dX2_init_1 : decode cX2_init 1 = .ok (.invokespecial 1, 3) := by decide +kernel
theorem dX2_init_4 : decode cX2_init 4 = .ok (.aload_n 0, 1) := by decide +kernel
theorem dX2_init_5 : decode cX2_init 5 = .ok (.iload_n 1, 1) := by decide +kernel
theorem dX2_init_6 : decode cX2_init 6 = .ok (.ifCond .le 7, 3) := by decide +kernel
theorem dX2_init_9 : decode cX2_init 9 = .ok (.iload_n 1, 1) := by decide +kernel
theorem dX2_init_10 : decode cX2_init 10 = .ok (.goto 4, 3) := by decide +kernel
theorem dX2_init_13 : decode cX2_init 13 = .ok (.iconst 0, 1) := by decide +kernel
theorem dX2_init_14 : decode cX2_init 14 = .ok (.anewarray 7, 3) := by decide +kernel
theorem dX2_init_17 : decode cX2_init 17 = .ok (.putfield 9, 3) := by decide +kernel
theorem dX2_init_20 : decode cX2_init 20 = .ok (.iconst 0, 1) := by decide +kernel
theorem dX2_init_21 : decode cX2_init 21 = .ok (.istore_n 3, 1) := by decide +kernel
theorem dX2_init_22 : decode cX2_init 22 = .ok (.iload_n 3, 1) := by decide +kernel
theorem dX2_init_23 : decode cX2_init 23 = .ok (.aload_n 0, 1) := by decide +kernel
theorem dX2_init_24 : decode cX2_init 24 = .ok (.getfield 9, 3) := by decide +kernel
theorem dX2_init_27 : decode cX2_init 27 = .ok (.arraylength, 1) := by decide +kernel
theorem dX2_init_28 : decode cX2_init 28 = .ok (.if_icmp .ge 23, 3) := by decide +kernel
theorem dX2_init_31 : decode cX2_init 31 = .ok (.aload_n 0, 1) := by decide +kernel
theorem dX2_init_32 : decode cX2_init 32 = .ok (.getfield 9, 3) := by decide +kernel
theorem dX2_init_35 : decode cX2_init 35 = .ok (.iload_n 3, 1) := by decide +kernel
theorem dX2_init_36 : decode cX2_init 36 = .ok (.new 7, 3) := by decide +kernel
theorem dX2_init_39 : decode cX2_init 39 = .ok (.dup, 1) := by decide +kernel
theorem dX2_init_40 : decode cX2_init 40 = .ok (.aload_n 2, 1) := by decide +kernel
theorem dX2_init_41 : decode cX2_init 41 = .ok (.invokespecial 15, 3) := by decide +kernel
theorem dX2_init_44 : decode cX2_init 44 = .ok (.aastore, 1) := by decide +kernel
theorem dX2_init_45 : decode cX2_init 45 = .ok (.iinc 3 1, 3) := by decide +kernel
theorem dX2_init_48 : decode cX2_init 48 = .ok (.goto (-26), 3) := by decide +kernel
theorem dX2_init_51 : decode cX2_init 51 = .ok (.return_, 1) := by decide +kernel
theorem dX2_clear_0 : decode cX2_clear 0 = .ok (.aload_n 0, 1) := by decide +kernel
theorem dX2_clear_1 : decode cX2_clear 1 = .ok (.iconst 0, 1) := by decide +kernel
theorem dX2_clear_2 : decode cX2_clear 2 = .ok (.putfield 18, 3) := by decide +kernel
theorem dX2_clear_5 : decode cX2_clear 5 = .ok (.return_, 1) := by decide +kernel
theorem dX2_push_0 : decode cX2_push 0 = .ok (.aload_n 0, 1) := by decide +kernel
theorem dX2_push_1 : decode cX2_push 1 = .ok (.getfield 18, 3) := by decide +kernel
theorem dX2_push_4 : decode cX2_push 4 = .ok (.aload_n 0, 1) := by decide +kernel
theorem dX2_push_5 : decode cX2_push 5 = .ok (.getfield 9, 3) := by decide +kernel
theorem dX2_push_8 : decode cX2_push 8 = .ok (.arraylength, 1) := by decide +kernel
theorem dX2_push_9 : decode cX2_push 9 = .ok (.if_icmp .lt 7, 3) := by decide +kernel
theorem dX2_push_12 : decode cX2_push 12 = .ok (.aload_n 0, 1) := by decide +kernel
theorem dX2_push_13 : decode cX2_push 13 = .ok (.invokevirtual 22, 3) := by decide +kernel
theorem dX2_push_16 : decode cX2_push 16 = .ok (.aload_n 0, 1) := by decide +kernel
theorem dX2_push_17 : decode cX2_push 17 = .ok (.getfield 18, 3) := by decide +kernel
theorem dX2_push_20 : decode cX2_push 20 = .ok (.ifCond .lt 38, 3) := by decide +kernel
theorem dX2_push_23 : decode cX2_push 23 = .ok (.aload_n 0, 1) := by decide +kernel
theorem dX2_push_24 : decode cX2_push 24 = .ok (.getfield 18, 3) := by decide +kernel
theorem dX2_push_27 : decode cX2_push 27 = .ok (.aload_n 0, 1) := by decide +kernel
theorem dX2_push_28 : decode cX2_push 28 = .ok (.getfield 9, 3) := by decide +kernel
theorem dX2_push_31 : decode cX2_push 31 = .ok (.arraylength, 1) := by decide +kernel
theorem dX2_push_32 : decode cX2_push 32 = .ok (.if_icmp .ge 26, 3) := by decide +kernel
theorem dX2_push_35 : decode cX2_push 35 = .ok (.aload_n 0, 1) := by decide +kernel
theorem dX2_push_36 : decode cX2_push 36 = .ok (.getfield 9, 3) := by decide +kernel
theorem dX2_push_39 : decode cX2_push 39 = .ok (.aload_n 0, 1) := by decide +kernel
theorem dX2_push_40 : decode cX2_push 40 = .ok (.getfield 18, 3) := by decide +kernel
theorem dX2_push_43 : decode cX2_push 43 = .ok (.aaload, 1) := by decide +kernel
theorem dX2_push_44 : decode cX2_push 44 = .ok (.aload_n 1, 1) := by decide +kernel
theorem dX2_push_45 : decode cX2_push 45 = .ok (.invokevirtual 25, 3) := by decide +kernel
theorem dX2_push_48 : decode cX2_push 48 = .ok (.aload_n 0, 1) := by decide +kernel
theorem dX2_push_49 : decode cX2_push 49 = .ok (.dup, 1) := by decide +kernel
theorem dX2_push_50 : decode cX2_push 50 = .ok (.getfield 18, 3) := by decide +kernel
theorem dX2_push_53 : decode cX2_push 53 = .ok (.iconst 1, 1) := by decide +kernel
theorem dX2_push_54 : decode cX2_push 54 = .ok (.iadd, 1) := by decide +kernel
theorem dX2_push_55 : decode cX2_push 55 = .ok (.putfield 18, 3) := by decide +kernel
theorem dX2_push_58 : decode cX2_push 58 = .ok (.return_, 1) := by decide +kernel
theorem dX2_pop_0 : decode cX2_pop 0 = .ok (.aload_n 0, 1) := by decide +kernel
theorem dX2_pop_1 : decode cX2_pop 1 = .ok (.getfield 18, 3) := by decide +kernel
theorem dX2_pop_4 : decode cX2_pop 4 = .ok (.ifCond .le 38, 3) := by decide +kernel
theorem dX2_pop_7 : decode cX2_pop 7 = .ok (.aload_n 0, 1) := by decide +kernel
theorem dX2_pop_8 : decode cX2_pop 8 = .ok (.getfield 18, 3) := by decide +kernel
theorem dX2_pop_11 : decode cX2_pop 11 = .ok (.aload_n 0, 1) := by decide +kernel
theorem dX2_pop_12 : decode cX2_pop 12 = .ok (.getfield 9, 3) := by decide +kernel
theorem dX2_pop_15 : decode cX2_pop 15 = .ok (.arraylength, 1) := by decide +kernel
theorem dX2_pop_16 : decode cX2_pop 16 = .ok (.if_icmp .gt 26, 3) := by decide +kernel
theorem dX2_pop_19 : decode cX2_pop 19 = .ok (.aload_n 0, 1) := by decide +kernel
theorem dX2_pop_20 : decode cX2_pop 20 = .ok (.dup, 1) := by decide +kernel
theorem dX2_pop_21 : decode cX2_pop 21 = .ok (.getfield 18, 3) := by decide +kernel
theorem dX2_pop_24 : decode cX2_pop 24 = .ok (.iconst 1, 1) := by decide +kernel
theorem dX2_pop_25 : decode cX2_pop 25 = .ok (.isub, 1) := by decide +kernel
theorem dX2_pop_26 : decode cX2_pop 26 = .ok (.putfield 18, 3) := by decide +kernel
theorem dX2_pop_29 : decode cX2_pop 29 = .ok (.aload_n 1, 1) := by decide +kernel
theorem dX2_pop_30 : decode cX2_pop 30 = .ok (.aload_n 0, 1) := by decide +kernel
theorem dX2_pop_31 : decode cX2_pop 31 = .ok (.getfield 9, 3) := by decide +kernel
theorem dX2_pop_34 : decode cX2_pop 34 = .ok (.aload_n 0, 1) := by decide +kernel
theorem dX2_pop_35 : decode cX2_pop 35 = .ok (.getfield 18, 3) := by decide +kernel
theorem dX2_pop_38 : decode cX2_pop 38 = .ok (.aaload, 1) := by decide +kernel
theorem dX2_pop_39 : decode cX2_pop 39 = .ok (.invokevirtual 25, 3) := by decide +kernel
theorem dX2_pop_42 : decode cX2_pop 42 = .ok (.return_, 1) := by decide +kernel
theorem dX2_dropOldest_0 : decode cX2_dropOldest 0 = .ok (.aload_n 0, 1) := by decide +kernel
theorem dX2_dropOldest_1 : decode cX2_dropOldest 1 = .ok (.getfield 9, 3) := by decide +kernel
theorem dX2_dropOldest_4 : decode cX2_dropOldest 4 = .ok (.arraylength, 1) := by decide +kernel
theorem dX2_dropOldest_5 : decode cX2_dropOldest 5 = .ok (.ifCond .ne 4, 3) := by decide +kernel
theorem dX2_dropOldest_8 : decode cX2_dropOldest 8 = .ok (.return_, 1) := by decide +kernel
theorem dX2_dropOldest_9 : decode cX2_dropOldest 9 = .ok (.aload_n 0, 1) := by decide +kernel
theorem dX2_dropOldest_10 : decode cX2_dropOldest 10 = .ok (.getfield 9, 3) := by decide +kernel
theorem dX2_dropOldest_13 : decode cX2_dropOldest 13 = .ok (.iconst 0, 1) := by decide +kernel
theorem dX2_dropOldest_14 : decode cX2_dropOldest 14 = .ok (.aaload, 1) := by decide +kernel
theorem dX2_dropOldest_15 : decode cX2_dropOldest 15 = .ok (.astore_n 1, 1) := by decide +kernel
theorem dX2_dropOldest_16 : decode cX2_dropOldest 16 = .ok (.iconst 1, 1) := by decide +kernel
theorem dX2_dropOldest_17 : decode cX2_dropOldest 17 = .ok (.istore_n 2, 1) := by decide +kernel
theorem dX2_dropOldest_18 : decode cX2_dropOldest 18 = .ok (.iload_n 2, 1) := by decide +kernel
theorem dX2_dropOldest_19 : decode cX2_dropOldest 19 = .ok (.aload_n 0, 1) := by decide +kernel
theorem dX2_dropOldest_20 : decode cX2_dropOldest 20 = .ok (.getfield 9, 3) := by decide +kernel
theorem dX2_dropOldest_23 : decode cX2_dropOldest 23 = .ok (.arraylength, 1) := by decide +kernel
theorem dX2_dropOldest_24 : decode cX2_dropOldest 24 = .ok (.if_icmp .ge 23, 3) := by decide +kernel
theorem dX2_dropOldest_27 : decode cX2_dropOldest 27 = .ok (.aload_n 0, 1) := by decide +kernel
theorem dX2_dropOldest_28 : decode cX2_dropOldest 28 = .ok (.getfield 9, 3) := by decide +kernel
theorem dX2_dropOldest_31 : decode cX2_dropOldest 31 = .ok (.iload_n 2, 1) := by decide +kernel
theorem dX2_dropOldest_32 : decode cX2_dropOldest 32 = .ok (.iconst 1, 1) := by decide +kernel
theorem dX2_dropOldest_33 : decode cX2_dropOldest 33 = .ok (.isub, 1) := by decide +kernel
theorem dX2_dropOldest_34 : decode cX2_dropOldest 34 = .ok (.aload_n 0, 1) := by decide +kernel
theorem dX2_dropOldest_35 : decode cX2_dropOldest 35 = .ok (.getfield 9, 3) := by decide +kernel
theorem dX2_dropOldest_38 : decode cX2_dropOldest 38 = .ok (.iload_n 2, 1) := by decide +kernel
theorem dX2_dropOldest_39 : decode cX2_dropOldest 39 = .ok (.aaload, 1) := by decide +kernel
theorem dX2_dropOldest_40 : decode cX2_dropOldest 40 = .ok (.aastore, 1) := by decide +kernel
theorem dX2_dropOldest_41 : decode cX2_dropOldest 41 = .ok (.iinc 2 1, 3) := by decide +kernel
theorem dX2_dropOldest_44 : decode cX2_dropOldest 44 = .ok (.goto (-26), 3) := by decide +kernel
theorem dX2_dropOldest_47 : decode cX2_dropOldest 47 = .ok (.aload_n 0, 1) := by decide +kernel
theorem dX2_dropOldest_48 : decode cX2_dropOldest 48 = .ok (.getfield 9, 3) := by decide +kernel
theorem dX2_dropOldest_51 : decode cX2_dropOldest 51 = .ok (.aload_n 0, 1) := by decide +kernel
theorem dX2_dropOldest_52 : decode cX2_dropOldest 52 = .ok (.getfield 9, 3) := by decide +kernel
theorem dX2_dropOldest_55 : decode cX2_dropOldest 55 = .ok (.arraylength, 1) := by decide +kernel
theorem dX2_dropOldest_56 : decode cX2_dropOldest 56 = .ok (.iconst 1, 1) := by decide +kernel
theorem dX2_dropOldest_57 : decode cX2_dropOldest 57 = .ok (.isub, 1) := by decide +kernel
theorem dX2_dropOldest_58 : decode cX2_dropOldest 58 = .ok (.aload_n 1, 1) := by decide +kernel
theorem dX2_dropOldest_59 : decode cX2_dropOldest 59 = .ok (.aastore, 1) := by decide +kernel
theorem dX2_dropOldest_60 : decode cX2_dropOldest 60 = .ok (.aload_n 0, 1) := by decide +kernel
theorem dX2_dropOldest_61 : decode cX2_dropOldest 61 = .ok (.aload_n 0, 1) := by decide +kernel
theorem dX2_dropOldest_62 : decode cX2_dropOldest 62 = .ok (.getfield 9, 3) := by decide +kernel
theorem dX2_dropOldest_65 : decode cX2_dropOldest 65 = .ok (.arraylength, 1) := by decide +kernel
theorem dX2_dropOldest_66 : decode cX2_dropOldest 66 = .ok (.iconst 1, 1) := by decide +kernel
theorem dX2_dropOldest_67 : decode cX2_dropOldest 67 = .ok (.isub, 1) := by decide +kernel
theorem dX2_dropOldest_68 : decode cX2_dropOldest 68 = .ok (.putfield 18, 3) := by decide +kernel
theorem dX2_dropOldest_71 : decode cX2_dropOldest 71 = .ok (.return_, 1) := by decide +kernel
theorem dX3_init_0 : decode cX3_init 0 = .ok (.aload_n 0, 1) := by decide +kernel
theorem dX3_init_1 : decode cX3_init 1 = .ok (.invokespecial 3, 3) := by decide +kernel
theorem dX3_init_4 : decode cX3_init 4 = .ok (.aload_n 0, 1) := by decide +kernel
theorem dX3_init_5 : decode cX3_init 5 = .ok (.new 9, 3) := by decide +kernel
theorem dX3_init_8 : decode cX3_init 8 = .ok (.dup, 1) := by decide +kernel
theorem dX3_init_9 : decode cX3_init 9 = .ok (.invokespecial 11, 3) := by decide +kernel
theorem dX3_init_12 : decode cX3_init 12 = .ok (.putfield 12, 3) := by decide +kernel
theorem dX3_init_15 : decode cX3_init 15 = .ok (.aload_n 0, 1) := by decide +kernel
theorem dX3_init_16 : decode cX3_init 16 = .ok (.new 18, 3) := by decide +kernel
theorem dX3_init_19 : decode cX3_init 19 = .ok (.dup, 1) := by decide +kernel
theorem dX3_init_20 : decode cX3_init 20 = .ok (.aload_n 0, 1) := by decide +kernel
theorem dX3_init_21 : decode cX3_init 21 = .ok (.getfield 12, 3) := by decide +kernel
theorem dX3_init_24 : decode cX3_init 24 = .ok (.invokespecial 20, 3) := by decide +kernel
theorem dX3_init_27 : decode cX3_init 27 = .ok (.putfield 23, 3) := by decide +kernel
theorem dX3_init_30 : decode cX3_init 30 = .ok (.aload_n 0, 1) := by decide +kernel
theorem dX3_init_31 : decode cX3_init 31 = .ok (.bipush 7, 2) := by decide +kernel
theorem dX3_init_33 : decode cX3_init 33 = .ok (.newarray .int, 2) := by decide +kernel
theorem dX3_init_35 : decode cX3_init 35 = .ok (.putfield 27, 3) := by decide +kernel
theorem dX3_init_38 : decode cX3_init 38 = .ok (.aload_n 0, 1) := by decide +kernel
theorem dX3_init_39 : decode cX3_init 39 = .ok (.iconst 0, 1) := by decide +kernel
theorem dX3_init_40 : decode cX3_init 40 = .ok (.newarray .char, 2) := by decide +kernel
theorem dX3_init_42 : decode cX3_init 42 = .ok (.putfield 31, 3) := by decide +kernel
theorem dX3_init_45 : decode cX3_init 45 = .ok (.return_, 1) := by decide +kernel
theorem dX3_readText_0 : decode cX3_readText 0 = .ok (.aload_n 0, 1) := by decide +kernel
theorem dX3_readText_1 : decode cX3_readText 1 = .ok (.aload_n 1, 1) := by decide +kernel
theorem dX3_readText_2 : decode cX3_readText 2 = .ok (.putfield 31, 3) := by decide +kernel
theorem dX3_readText_5 : decode cX3_readText 5 = .ok (.aload_n 0, 1) := by decide +kernel
theorem dX3_readText_6 : decode cX3_readText 6 = .ok (.iload_n 2, 1) := by decide +kernel
theorem dX3_readText_7 : decode cX3_readText 7 = .ok (.aload_n 1, 1) := by decide +kernel
theorem dX3_readText_8 : decode cX3_readText 8 = .ok (.arraylength, 1) := by decide +kernel
theorem dX3_readText_9 : decode cX3_readText 9 = .ok (.invokestatic 35, 3) := by decide +kernel
theorem dX3_readText_12 : decode cX3_readText 12 = .ok (.putfield 41, 3) := by decide +kernel
theorem dX3_readText_15 : decode cX3_readText 15 = .ok (.aload_n 0, 1) := by decide +kernel
theorem dX3_readText_16 : decode cX3_readText 16 = .ok (.iconst 0, 1) := by decide +kernel
theorem dX3_readText_17 : decode cX3_readText 17 = .ok (.putfield 45, 3) := by decide +kernel
theorem dX3_readText_20 : decode cX3_readText 20 = .ok (.aload_n 0, 1) := by decide +kernel
theorem dX3_readText_21 : decode cX3_readText 21 = .ok (.getfield 12, 3) := by decide +kernel
theorem dX3_readText_24 : decode cX3_readText 24 = .ok (.invokevirtual 48, 3) := by decide +kernel
theorem dX3_readText_27 : decode cX3_readText 27 = .ok (.aload_n 0, 1) := by decide +kernel
theorem dX3_readText_28 : decode cX3_readText 28 = .ok (.getfield 23, 3) := by decide +kernel
theorem dX3_readText_31 : decode cX3_readText 31 = .ok (.invokevirtual 51, 3) := by decide +kernel
theorem dX3_readText_34 : decode cX3_readText 34 = .ok (.iconst 0, 1) := by decide +kernel
theorem dX3_readText_35 : decode cX3_readText 35 = .ok (.istore_n 3, 1) := by decide +kernel
theorem dX3_readText_36 : decode cX3_readText 36 = .ok (.iload_n 3, 1) := by decide +kernel
theorem dX3_readText_37 : decode cX3_readText 37 = .ok (.sipush 200, 3) := by decide +kernel
theorem dX3_readText_40 : decode cX3_readText 40 = .ok (.if_icmp .ge 36, 3) := by decide +kernel
theorem dX3_readText_43 : decode cX3_readText 43 = .ok (.aload_n 0, 1) := by decide +kernel
theorem dX3_readText_44 : decode cX3_readText 44 = .ok (.getfield 45, 3) := by decide +kernel
theorem dX3_readText_47 : decode cX3_readText 47 = .ok (.aload_n 0, 1) := by decide +kernel
theorem dX3_readText_48 : decode cX3_readText 48 = .ok (.getfield 41, 3) := by decide +kernel
theorem dX3_readText_51 : decode cX3_readText 51 = .ok (.if_icmp .ge 25, 3) := by decide +kernel
theorem dX3_readText_54 : decode cX3_readText 54 = .ok (.aload_n 0, 1) := by decide +kernel
theorem dX3_readText_55 : decode cX3_readText 55 = .ok (.getfield 45, 3) := by decide +kernel
theorem dX3_readText_58 : decode cX3_readText 58 = .ok (.istore 4, 2) := by decide +kernel
theorem dX3_readText_60 : decode cX3_readText 60 = .ok (.aload_n 0, 1) := by decide +kernel
theorem dX3_readText_61 : decode cX3_readText 61 = .ok (.invokevirtual 52, 3) := by decide +kernel
theorem dX3_readText_64 : decode cX3_readText 64 = .ok (.ifCond .ne 6, 3) := by decide +kernel
theorem dX3_readText_67 : decode cX3_readText 67 = .ok (.iload 4, 2) := by decide +kernel
theorem dX3_readText_69 : decode cX3_readText 69 = .ok (.ireturn, 1) := by decide +kernel
theorem dX3_readText_70 : decode cX3_readText 70 = .ok (.iinc 3 1, 3) := by decide +kernel
theorem dX3_readText_73 : decode cX3_readText 73 = .ok (.goto (-37), 3) := by decide +kernel
theorem dX3_readText_76 : decode cX3_readText 76 = .ok (.bipush (-4), 2) := by decide +kernel
theorem dX3_readText_78 : decode cX3_readText 78 = .ok (.ireturn, 1) := by decide +kernel
theorem dX3_readItem_0 : decode cX3_readItem 0 = .ok (.aload_n 0, 1) := by decide +kernel
theorem dX3_readItem_1 : decode cX3_readItem 1 = .ok (.invokevirtual 56, 3) := by decide +kernel
theorem dX3_readItem_4 : decode cX3_readItem 4 = .ok (.lookupswitch 81 #[(108, 36), (111, 41), (116, 61)], 36) := by decide +kernel
theorem dX3_readItem_40 : decode cX3_readItem 40 = .ok (.aload_n 0, 1) := by decide +kernel
theorem dX3_readItem_41 : decode cX3_readItem 41 = .ok (.invokevirtual 60, 3) := by decide +kernel
theorem dX3_readItem_44 : decode cX3_readItem 44 = .ok (.ireturn, 1) := by decide +kernel
theorem dX3_readItem_45 : decode cX3_readItem 45 = .ok (.aload_n 0, 1) := by decide +kernel
theorem dX3_readItem_46 : decode cX3_readItem 46 = .ok (.invokevirtual 63, 3) := by decide +kernel
theorem dX3_readItem_49 : decode cX3_readItem 49 = .ok (.ifCond .eq 14, 3) := by decide +kernel
theorem dX3_readItem_52 : decode cX3_readItem 52 = .ok (.aload_n 0, 1) := by decide +kernel
theorem dX3_readItem_53 : decode cX3_readItem 53 = .ok (.invokevirtual 66, 3) := by decide +kernel
theorem dX3_readItem_56 : decode cX3_readItem 56 = .ok (.ifCond .eq 7, 3) := by decide +kernel
theorem dX3_readItem_59 : decode cX3_readItem 59 = .ok (.iconst 1, 1) := by decide +kernel
theorem dX3_readItem_60 : decode cX3_readItem 60 = .ok (.goto 4, 3) := by decide +kernel
theorem dX3_readItem_63 : decode cX3_readItem 63 = .ok (.iconst 0, 1) := by decide +kernel
theorem dX3_readItem_64 : decode cX3_readItem 64 = .ok (.ireturn, 1) := by decide +kernel
theorem dX3_readItem_65 : decode cX3_readItem 65 = .ok (.aload_n 0, 1) := by decide +kernel
theorem dX3_readItem_66 : decode cX3_readItem 66 = .ok (.invokevirtual 63, 3) := by decide +kernel
theorem dX3_readItem_69 : decode cX3_readItem 69 = .ok (.ifCond .eq 14, 3) := by decide +kernel
theorem dX3_readItem_72 : decode cX3_readItem 72 = .ok (.aload_n 0, 1) := by decide +kernel
theorem dX3_readItem_73 : decode cX3_readItem 73 = .ok (.invokevirtual 69, 3) := by decide +kernel
theorem dX3_readItem_76 : decode cX3_readItem 76 = .ok (.ifCond .eq 7, 3) := by decide +kernel
theorem dX3_readItem_79 : decode cX3_readItem 79 = .ok (.iconst 1, 1) := by decide +kernel
theorem dX3_readItem_80 : decode cX3_readItem 80 = .ok (.goto 4, 3) := by decide +kernel
theorem dX3_readItem_83 : decode cX3_readItem 83 = .ok (.iconst 0, 1) := by decide +kernel
theorem dX3_readItem_84 : decode cX3_readItem 84 = .ok (.ireturn, 1) := by decide +kernel
theorem dX3_readItem_85 : decode cX3_readItem 85 = .ok (.iconst 0, 1) := by decide +kernel
theorem dX3_readItem_86 : decode cX3_readItem 86 = .ok (.ireturn, 1) := by decide +kernel
theorem dX3_nextLetter_0 : decode cX3_nextLetter 0 = .ok (.aload_n 0, 1) := by decide +kernel
theorem dX3_nextLetter_1 : decode cX3_nextLetter 1 = .ok (.getfield 45, 3) := by decide +kernel
theorem dX3_nextLetter_4 : decode cX3_nextLetter 4 = .ok (.ifCond .lt 26, 3) := by decide +kernel
theorem dX3_nextLetter_7 : decode cX3_nextLetter 7 = .ok (.aload_n 0, 1) := by decide +kernel
theorem dX3_nextLetter_8 : decode cX3_nextLetter 8 = .ok (.getfield 45, 3) := by decide +kernel
theorem dX3_nextLetter_11 : decode cX3_nextLetter 11 = .ok (.aload_n 0, 1) := by decide +kernel
theorem dX3_nextLetter_12 : decode cX3_nextLetter 12 = .ok (.getfield 41, 3) := by decide +kernel
theorem dX3_nextLetter_15 : decode cX3_nextLetter 15 = .ok (.if_icmp .ge 15, 3) := by decide +kernel
theorem dX3_nextLetter_18 : decode cX3_nextLetter 18 = .ok (.aload_n 0, 1) := by decide +kernel
theorem dX3_nextLetter_19 : decode cX3_nextLetter 19 = .ok (.getfield 45, 3) := by decide +kernel
theorem dX3_nextLetter_22 : decode cX3_nextLetter 22 = .ok (.aload_n 0, 1) := by decide +kernel
theorem dX3_nextLetter_23 : decode cX3_nextLetter 23 = .ok (.getfield 31, 3) := by decide +kernel
theorem dX3_nextLetter_26 : decode cX3_nextLetter 26 = .ok (.arraylength, 1) := by decide +kernel
theorem dX3_nextLetter_27 : decode cX3_nextLetter 27 = .ok (.if_icmp .lt 5, 3) := by decide +kernel
theorem dX3_nextLetter_30 : decode cX3_nextLetter 30 = .ok (.iconst 0, 1) := by decide +kernel
theorem dX3_nextLetter_31 : decode cX3_nextLetter 31 = .ok (.ireturn, 1) := by decide +kernel
theorem dX3_nextLetter_32 : decode cX3_nextLetter 32 = .ok (.aload_n 0, 1) := by decide +kernel
theorem dX3_nextLetter_33 : decode cX3_nextLetter 33 = .ok (.getfield 31, 3) := by decide +kernel
theorem dX3_nextLetter_36 : decode cX3_nextLetter 36 = .ok (.aload_n 0, 1) := by decide +kernel
theorem dX3_nextLetter_37 : decode cX3_nextLetter 37 = .ok (.getfield 45, 3) := by decide +kernel
theorem dX3_nextLetter_40 : decode cX3_nextLetter 40 = .ok (.caload, 1) := by decide +kernel
theorem dX3_nextLetter_41 : decode cX3_nextLetter 41 = .ok (.istore_n 1, 1) := by decide +kernel
theorem dX3_nextLetter_42 : decode cX3_nextLetter 42 = .ok (.aload_n 0, 1) := by decide +kernel
theorem dX3_nextLetter_43 : decode cX3_nextLetter 43 = .ok (.dup, 1) := by decide +kernel
theorem dX3_nextLetter_44 : decode cX3_nextLetter 44 = .ok (.getfield 45, 3) := by decide +kernel
theorem dX3_nextLetter_47 : decode cX3_nextLetter 47 = .ok (.iconst 1, 1) := by decide +kernel
theorem dX3_nextLetter_48 : decode cX3_nextLetter 48 = .ok (.iadd, 1) := by decide +kernel
theorem dX3_nextLetter_49 : decode cX3_nextLetter 49 = .ok (.putfield 45, 3) := by decide +kernel
theorem dX3_nextLetter_52 : decode cX3_nextLetter 52 = .ok (.iload_n 1, 1) := by decide +kernel
theorem dX3_nextLetter_53 : decode cX3_nextLetter 53 = .ok (.ireturn, 1) := by decide +kernel
theorem dX3_readLine_0 : decode cX3_readLine 0 = .ok (.aload_n 0, 1) := by decide +kernel
theorem dX3_readLine_1 : decode cX3_readLine 1 = .ok (.getfield 12, 3) := by decide +kernel
theorem dX3_readLine_4 : decode cX3_readLine 4 = .ok (.getfield 72, 3) := by decide +kernel
theorem dX3_readLine_7 : decode cX3_readLine 7 = .ok (.bipush 6, 2) := by decide +kernel
theorem dX3_readLine_9 : decode cX3_readLine 9 = .ok (.if_icmp .lt 5, 3) := by decide +kernel
theorem dX3_readLine_12 : decode cX3_readLine 12 = .ok (.iconst 0, 1) := by decide +kernel
theorem dX3_readLine_13 : decode cX3_readLine 13 = .ok (.ireturn, 1) := by decide +kernel
end
section
theorem dX3_readLine_14 : decode cX3_readLine 14 = .ok (.aload_n 0, 1) := by decide +kernel
theorem dX3_readLine_15 : decode cX3_readLine 15 = .ok (.getfield 12, 3) := by decide +kernel
theorem dX3_readLine_18 : decode cX3_readLine 18 = .ok (.getfield 72, 3) := by decide +kernel
theorem dX3_readLine_21 : decode cX3_readLine 21 = .ok (.aload_n 0, 1) := by decide +kernel
theorem dX3_readLine_22 : decode cX3_readLine 22 = .ok (.getfield 12, 3) := by decide +kernel
theorem dX3_readLine_25 : decode cX3_readLine 25 = .ok (.getfield 75, 3) := by decide +kernel
theorem dX3_readLine_28 : decode cX3_readLine 28 = .ok (.imul, 1) := by decide +kernel
theorem dX3_readLine_29 : decode cX3_readLine 29 = .ok (.istore_n 1, 1) := by decide +kernel
theorem dX3_readLine_30 : decode cX3_readLine 30 = .ok (.iconst 0, 1) := by decide +kernel
theorem dX3_readLine_31 : decode cX3_readLine 31 = .ok (.istore_n 2, 1) := by decide +kernel
theorem dX3_readLine_32 : decode cX3_readLine 32 = .ok (.aload_n 0, 1) := by decide +kernel
theorem dX3_readLine_33 : decode cX3_readLine 33 = .ok (.invokevirtual 56, 3) := by decide +kernel
theorem dX3_readLine_36 : decode cX3_readLine 36 = .ok (.istore_n 3, 1) := by decide +kernel
theorem dX3_readLine_37 : decode cX3_readLine 37 = .ok (.iload_n 2, 1) := by decide +kernel
theorem dX3_readLine_38 : decode cX3_readLine 38 = .ok (.bipush 6, 2) := by decide +kernel
theorem dX3_readLine_40 : decode cX3_readLine 40 = .ok (.if_icmp .ge 37, 3) := by decide +kernel
theorem dX3_readLine_43 : decode cX3_readLine 43 = .ok (.iload_n 3, 1) := by decide +kernel
theorem dX3_readLine_44 : decode cX3_readLine 44 = .ok (.bipush 48, 2) := by decide +kernel
theorem dX3_readLine_46 : decode cX3_readLine 46 = .ok (.if_icmp .lt 31, 3) := by decide +kernel
theorem dX3_readLine_49 : decode cX3_readLine 49 = .ok (.iload_n 3, 1) := by decide +kernel
theorem dX3_readLine_50 : decode cX3_readLine 50 = .ok (.bipush 51, 2) := by decide +kernel
theorem dX3_readLine_52 : decode cX3_readLine 52 = .ok (.if_icmp .gt 25, 3) := by decide +kernel
theorem dX3_readLine_55 : decode cX3_readLine 55 = .ok (.aload_n 0, 1) := by decide +kernel
theorem dX3_readLine_56 : decode cX3_readLine 56 = .ok (.iload_n 1, 1) := by decide +kernel
theorem dX3_readLine_57 : decode cX3_readLine 57 = .ok (.iload_n 2, 1) := by decide +kernel
theorem dX3_readLine_58 : decode cX3_readLine 58 = .ok (.iadd, 1) := by decide +kernel
theorem dX3_readLine_59 : decode cX3_readLine 59 = .ok (.iload_n 3, 1) := by decide +kernel
theorem dX3_readLine_60 : decode cX3_readLine 60 = .ok (.bipush 48, 2) := by decide +kernel
theorem dX3_readLine_62 : decode cX3_readLine 62 = .ok (.isub, 1) := by decide +kernel
theorem dX3_readLine_63 : decode cX3_readLine 63 = .ok (.invokevirtual 78, 3) := by decide +kernel
theorem dX3_readLine_66 : decode cX3_readLine 66 = .ok (.iinc 2 1, 3) := by decide +kernel
theorem dX3_readLine_69 : decode cX3_readLine 69 = .ok (.aload_n 0, 1) := by decide +kernel
theorem dX3_readLine_70 : decode cX3_readLine 70 = .ok (.invokevirtual 56, 3) := by decide +kernel
theorem dX3_readLine_73 : decode cX3_readLine 73 = .ok (.istore_n 3, 1) := by decide +kernel
theorem dX3_readLine_74 : decode cX3_readLine 74 = .ok (.goto (-37), 3) := by decide +kernel
theorem dX3_readLine_77 : decode cX3_readLine 77 = .ok (.iload_n 3, 1) := by decide +kernel
theorem dX3_readLine_78 : decode cX3_readLine 78 = .ok (.bipush 59, 2) := by decide +kernel
theorem dX3_readLine_80 : decode cX3_readLine 80 = .ok (.if_icmp .ne 28, 3) := by decide +kernel
theorem dX3_readLine_83 : decode cX3_readLine 83 = .ok (.iload_n 2, 1) := by decide +kernel
theorem dX3_readLine_84 : decode cX3_readLine 84 = .ok (.ifCond .eq 24, 3) := by decide +kernel
theorem dX3_readLine_87 : decode cX3_readLine 87 = .ok (.aload_n 0, 1) := by decide +kernel
theorem dX3_readLine_88 : decode cX3_readLine 88 = .ok (.getfield 12, 3) := by decide +kernel
theorem dX3_readLine_91 : decode cX3_readLine 91 = .ok (.getfield 72, 3) := by decide +kernel
theorem dX3_readLine_94 : decode cX3_readLine 94 = .ok (.ifCond .le 16, 3) := by decide +kernel
theorem dX3_readLine_97 : decode cX3_readLine 97 = .ok (.iload_n 2, 1) := by decide +kernel
theorem dX3_readLine_98 : decode cX3_readLine 98 = .ok (.aload_n 0, 1) := by decide +kernel
theorem dX3_readLine_99 : decode cX3_readLine 99 = .ok (.getfield 12, 3) := by decide +kernel
theorem dX3_readLine_102 : decode cX3_readLine 102 = .ok (.getfield 75, 3) := by decide +kernel
theorem dX3_readLine_105 : decode cX3_readLine 105 = .ok (.if_icmp .eq 5, 3) := by decide +kernel
theorem dX3_readLine_108 : decode cX3_readLine 108 = .ok (.iconst 0, 1) := by decide +kernel
theorem dX3_readLine_109 : decode cX3_readLine 109 = .ok (.ireturn, 1) := by decide +kernel
theorem dX3_readLine_110 : decode cX3_readLine 110 = .ok (.aload_n 0, 1) := by decide +kernel
theorem dX3_readLine_111 : decode cX3_readLine 111 = .ok (.getfield 12, 3) := by decide +kernel
theorem dX3_readLine_114 : decode cX3_readLine 114 = .ok (.iload_n 2, 1) := by decide +kernel
theorem dX3_readLine_115 : decode cX3_readLine 115 = .ok (.putfield 75, 3) := by decide +kernel
theorem dX3_readLine_118 : decode cX3_readLine 118 = .ok (.aload_n 0, 1) := by decide +kernel
theorem dX3_readLine_119 : decode cX3_readLine 119 = .ok (.getfield 12, 3) := by decide +kernel
theorem dX3_readLine_122 : decode cX3_readLine 122 = .ok (.dup, 1) := by decide +kernel
theorem dX3_readLine_123 : decode cX3_readLine 123 = .ok (.getfield 72, 3) := by decide +kernel
theorem dX3_readLine_126 : decode cX3_readLine 126 = .ok (.iconst 1, 1) := by decide +kernel
theorem dX3_readLine_127 : decode cX3_readLine 127 = .ok (.iadd, 1) := by decide +kernel
theorem dX3_readLine_128 : decode cX3_readLine 128 = .ok (.putfield 72, 3) := by decide +kernel
theorem dX3_readLine_131 : decode cX3_readLine 131 = .ok (.iconst 1, 1) := by decide +kernel
theorem dX3_readLine_132 : decode cX3_readLine 132 = .ok (.ireturn, 1) := by decide +kernel
theorem dX3_tellGround_0 : decode cX3_tellGround 0 = .ok (.iload_n 2, 1) := by decide +kernel
theorem dX3_tellGround_1 : decode cX3_tellGround 1 = .ok (.tableswitch 84 0 2 #[27, 46, 65], 27) := by decide +kernel
theorem dX3_tellGround_28 : decode cX3_tellGround 28 = .ok (.aload_n 0, 1) := by decide +kernel
theorem dX3_tellGround_29 : decode cX3_tellGround 29 = .ok (.getfield 12, 3) := by decide +kernel
theorem dX3_tellGround_32 : decode cX3_tellGround 32 = .ok (.dup, 1) := by decide +kernel
theorem dX3_tellGround_33 : decode cX3_tellGround 33 = .ok (.getfield 82, 3) := by decide +kernel
theorem dX3_tellGround_36 : decode cX3_tellGround 36 = .ok (.iload_n 1, 1) := by decide +kernel
theorem dX3_tellGround_37 : decode cX3_tellGround 37 = .ok (.invokestatic 86, 3) := by decide +kernel
theorem dX3_tellGround_40 : decode cX3_tellGround 40 = .ok (.lor, 1) := by decide +kernel
theorem dX3_tellGround_41 : decode cX3_tellGround 41 = .ok (.putfield 82, 3) := by decide +kernel
theorem dX3_tellGround_44 : decode cX3_tellGround 44 = .ok (.goto 41, 3) := by decide +kernel
theorem dX3_tellGround_47 : decode cX3_tellGround 47 = .ok (.aload_n 0, 1) := by decide +kernel
theorem dX3_tellGround_48 : decode cX3_tellGround 48 = .ok (.getfield 12, 3) := by decide +kernel
theorem dX3_tellGround_51 : decode cX3_tellGround 51 = .ok (.dup, 1) := by decide +kernel
theorem dX3_tellGround_52 : decode cX3_tellGround 52 = .ok (.getfield 90, 3) := by decide +kernel
theorem dX3_tellGround_55 : decode cX3_tellGround 55 = .ok (.iload_n 1, 1) := by decide +kernel
theorem dX3_tellGround_56 : decode cX3_tellGround 56 = .ok (.invokestatic 86, 3) := by decide +kernel
theorem dX3_tellGround_59 : decode cX3_tellGround 59 = .ok (.lor, 1) := by decide +kernel
theorem dX3_tellGround_60 : decode cX3_tellGround 60 = .ok (.putfield 90, 3) := by decide +kernel
theorem dX3_tellGround_63 : decode cX3_tellGround 63 = .ok (.goto 22, 3) := by decide +kernel
theorem dX3_tellGround_66 : decode cX3_tellGround 66 = .ok (.aload_n 0, 1) := by decide +kernel
theorem dX3_tellGround_67 : decode cX3_tellGround 67 = .ok (.getfield 12, 3) := by decide +kernel
theorem dX3_tellGround_70 : decode cX3_tellGround 70 = .ok (.dup, 1) := by decide +kernel
theorem dX3_tellGround_71 : decode cX3_tellGround 71 = .ok (.getfield 93, 3) := by decide +kernel
theorem dX3_tellGround_74 : decode cX3_tellGround 74 = .ok (.iload_n 1, 1) := by decide +kernel
theorem dX3_tellGround_75 : decode cX3_tellGround 75 = .ok (.invokestatic 86, 3) := by decide +kernel
theorem dX3_tellGround_78 : decode cX3_tellGround 78 = .ok (.lor, 1) := by decide +kernel
theorem dX3_tellGround_79 : decode cX3_tellGround 79 = .ok (.putfield 93, 3) := by decide +kernel
theorem dX3_tellGround_82 : decode cX3_tellGround 82 = .ok (.goto 3, 3) := by decide +kernel
theorem dX3_tellGround_85 : decode cX3_tellGround 85 = .ok (.return_, 1) := by decide +kernel
theorem dX3_readNumbers_0 : decode cX3_readNumbers 0 = .ok (.aload_n 0, 1) := by decide +kernel
theorem dX3_readNumbers_1 : decode cX3_readNumbers 1 = .ok (.iconst 0, 1) := by decide +kernel
theorem dX3_readNumbers_2 : decode cX3_readNumbers 2 = .ok (.putfield 96, 3) := by decide +kernel
theorem dX3_readNumbers_5 : decode cX3_readNumbers 5 = .ok (.iconst 0, 1) := by decide +kernel
theorem dX3_readNumbers_6 : decode cX3_readNumbers 6 = .ok (.istore_n 1, 1) := by decide +kernel
theorem dX3_readNumbers_7 : decode cX3_readNumbers 7 = .ok (.iload_n 1, 1) := by decide +kernel
theorem dX3_readNumbers_8 : decode cX3_readNumbers 8 = .ok (.bipush 7, 2) := by decide +kernel
theorem dX3_readNumbers_10 : decode cX3_readNumbers 10 = .ok (.if_icmp .ge 62, 3) := by decide +kernel
theorem dX3_readNumbers_13 : decode cX3_readNumbers 13 = .ok (.aload_n 0, 1) := by decide +kernel
theorem dX3_readNumbers_14 : decode cX3_readNumbers 14 = .ok (.invokevirtual 99, 3) := by decide +kernel
theorem dX3_readNumbers_17 : decode cX3_readNumbers 17 = .ok (.istore_n 2, 1) := by decide +kernel
theorem dX3_readNumbers_18 : decode cX3_readNumbers 18 = .ok (.iload_n 2, 1) := by decide +kernel
theorem dX3_readNumbers_19 : decode cX3_readNumbers 19 = .ok (.bipush (-4), 2) := by decide +kernel
theorem dX3_readNumbers_21 : decode cX3_readNumbers 21 = .ok (.if_icmp .ne 5, 3) := by decide +kernel
theorem dX3_readNumbers_24 : decode cX3_readNumbers 24 = .ok (.iconst 0, 1) := by decide +kernel
theorem dX3_readNumbers_25 : decode cX3_readNumbers 25 = .ok (.ireturn, 1) := by decide +kernel
theorem dX3_readNumbers_26 : decode cX3_readNumbers 26 = .ok (.aload_n 0, 1) := by decide +kernel
theorem dX3_readNumbers_27 : decode cX3_readNumbers 27 = .ok (.getfield 27, 3) := by decide +kernel
theorem dX3_readNumbers_30 : decode cX3_readNumbers 30 = .ok (.iload_n 1, 1) := by decide +kernel
theorem dX3_readNumbers_31 : decode cX3_readNumbers 31 = .ok (.iload_n 2, 1) := by decide +kernel
theorem dX3_readNumbers_32 : decode cX3_readNumbers 32 = .ok (.iastore, 1) := by decide +kernel
theorem dX3_readNumbers_33 : decode cX3_readNumbers 33 = .ok (.aload_n 0, 1) := by decide +kernel
theorem dX3_readNumbers_34 : decode cX3_readNumbers 34 = .ok (.dup, 1) := by decide +kernel
theorem dX3_readNumbers_35 : decode cX3_readNumbers 35 = .ok (.getfield 96, 3) := by decide +kernel
theorem dX3_readNumbers_38 : decode cX3_readNumbers 38 = .ok (.iconst 1, 1) := by decide +kernel
theorem dX3_readNumbers_39 : decode cX3_readNumbers 39 = .ok (.iadd, 1) := by decide +kernel
theorem dX3_readNumbers_40 : decode cX3_readNumbers 40 = .ok (.putfield 96, 3) := by decide +kernel
theorem dX3_readNumbers_43 : decode cX3_readNumbers 43 = .ok (.aload_n 0, 1) := by decide +kernel
theorem dX3_readNumbers_44 : decode cX3_readNumbers 44 = .ok (.invokevirtual 56, 3) := by decide +kernel
theorem dX3_readNumbers_47 : decode cX3_readNumbers 47 = .ok (.istore_n 3, 1) := by decide +kernel
theorem dX3_readNumbers_48 : decode cX3_readNumbers 48 = .ok (.iload_n 3, 1) := by decide +kernel
theorem dX3_readNumbers_49 : decode cX3_readNumbers 49 = .ok (.bipush 44, 2) := by decide +kernel
theorem dX3_readNumbers_51 : decode cX3_readNumbers 51 = .ok (.if_icmp .eq 15, 3) := by decide +kernel
theorem dX3_readNumbers_54 : decode cX3_readNumbers 54 = .ok (.iload_n 3, 1) := by decide +kernel
theorem dX3_readNumbers_55 : decode cX3_readNumbers 55 = .ok (.bipush 59, 2) := by decide +kernel
theorem dX3_readNumbers_57 : decode cX3_readNumbers 57 = .ok (.if_icmp .ne 7, 3) := by decide +kernel
theorem dX3_readNumbers_60 : decode cX3_readNumbers 60 = .ok (.iconst 1, 1) := by decide +kernel
theorem dX3_readNumbers_61 : decode cX3_readNumbers 61 = .ok (.goto 4, 3) := by decide +kernel
theorem dX3_readNumbers_64 : decode cX3_readNumbers 64 = .ok (.iconst 0, 1) := by decide +kernel
theorem dX3_readNumbers_65 : decode cX3_readNumbers 65 = .ok (.ireturn, 1) := by decide +kernel
theorem dX3_readNumbers_66 : decode cX3_readNumbers 66 = .ok (.iinc 1 1, 3) := by decide +kernel
theorem dX3_readNumbers_69 : decode cX3_readNumbers 69 = .ok (.goto (-62), 3) := by decide +kernel
theorem dX3_readNumbers_72 : decode cX3_readNumbers 72 = .ok (.iconst 0, 1) := by decide +kernel
theorem dX3_readNumbers_73 : decode cX3_readNumbers 73 = .ok (.ireturn, 1) := by decide +kernel
theorem dX3_readNumber_0 : decode cX3_readNumber 0 = .ok (.aload_n 0, 1) := by decide +kernel
theorem dX3_readNumber_1 : decode cX3_readNumber 1 = .ok (.invokevirtual 103, 3) := by decide +kernel
theorem dX3_readNumber_4 : decode cX3_readNumber 4 = .ok (.ifCond .ne 6, 3) := by decide +kernel
theorem dX3_readNumber_7 : decode cX3_readNumber 7 = .ok (.bipush (-4), 2) := by decide +kernel
theorem dX3_readNumber_9 : decode cX3_readNumber 9 = .ok (.ireturn, 1) := by decide +kernel
theorem dX3_readNumber_10 : decode cX3_readNumber 10 = .ok (.aload_n 0, 1) := by decide +kernel
theorem dX3_readNumber_11 : decode cX3_readNumber 11 = .ok (.invokevirtual 56, 3) := by decide +kernel
theorem dX3_readNumber_14 : decode cX3_readNumber 14 = .ok (.bipush 48, 2) := by decide +kernel
theorem dX3_readNumber_16 : decode cX3_readNumber 16 = .ok (.isub, 1) := by decide +kernel
theorem dX3_readNumber_17 : decode cX3_readNumber 17 = .ok (.istore_n 1, 1) := by decide +kernel
theorem dX3_readNumber_18 : decode cX3_readNumber 18 = .ok (.aload_n 0, 1) := by decide +kernel
theorem dX3_readNumber_19 : decode cX3_readNumber 19 = .ok (.invokevirtual 103, 3) := by decide +kernel
theorem dX3_readNumber_22 : decode cX3_readNumber 22 = .ok (.ifCond .eq 18, 3) := by decide +kernel
theorem dX3_readNumber_25 : decode cX3_readNumber 25 = .ok (.iload_n 1, 1) := by decide +kernel
theorem dX3_readNumber_26 : decode cX3_readNumber 26 = .ok (.bipush 10, 2) := by decide +kernel
theorem dX3_readNumber_28 : decode cX3_readNumber 28 = .ok (.imul, 1) := by decide +kernel
theorem dX3_readNumber_29 : decode cX3_readNumber 29 = .ok (.aload_n 0, 1) := by decide +kernel
theorem dX3_readNumber_30 : decode cX3_readNumber 30 = .ok (.invokevirtual 56, 3) := by decide +kernel
theorem dX3_readNumber_33 : decode cX3_readNumber 33 = .ok (.bipush 48, 2) := by decide +kernel
theorem dX3_readNumber_35 : decode cX3_readNumber 35 = .ok (.isub, 1) := by decide +kernel
theorem dX3_readNumber_36 : decode cX3_readNumber 36 = .ok (.iadd, 1) := by decide +kernel
theorem dX3_readNumber_37 : decode cX3_readNumber 37 = .ok (.goto 4, 3) := by decide +kernel
theorem dX3_readNumber_40 : decode cX3_readNumber 40 = .ok (.iload_n 1, 1) := by decide +kernel
theorem dX3_readNumber_41 : decode cX3_readNumber 41 = .ok (.ireturn, 1) := by decide +kernel
theorem dX3_isFigureNext_0 : decode cX3_isFigureNext 0 = .ok (.aload_n 0, 1) := by decide +kernel
theorem dX3_isFigureNext_1 : decode cX3_isFigureNext 1 = .ok (.getfield 45, 3) := by decide +kernel
theorem dX3_isFigureNext_4 : decode cX3_isFigureNext 4 = .ok (.ifCond .lt 58, 3) := by decide +kernel
theorem dX3_isFigureNext_7 : decode cX3_isFigureNext 7 = .ok (.aload_n 0, 1) := by decide +kernel
theorem dX3_isFigureNext_8 : decode cX3_isFigureNext 8 = .ok (.getfield 45, 3) := by decide +kernel
theorem dX3_isFigureNext_11 : decode cX3_isFigureNext 11 = .ok (.aload_n 0, 1) := by decide +kernel
theorem dX3_isFigureNext_12 : decode cX3_isFigureNext 12 = .ok (.getfield 41, 3) := by decide +kernel
theorem dX3_isFigureNext_15 : decode cX3_isFigureNext 15 = .ok (.if_icmp .ge 47, 3) := by decide +kernel
theorem dX3_isFigureNext_18 : decode cX3_isFigureNext 18 = .ok (.aload_n 0, 1) := by decide +kernel
theorem dX3_isFigureNext_19 : decode cX3_isFigureNext 19 = .ok (.getfield 45, 3) := by decide +kernel
theorem dX3_isFigureNext_22 : decode cX3_isFigureNext 22 = .ok (.aload_n 0, 1) := by decide +kernel
theorem dX3_isFigureNext_23 : decode cX3_isFigureNext 23 = .ok (.getfield 31, 3) := by decide +kernel
theorem dX3_isFigureNext_26 : decode cX3_isFigureNext 26 = .ok (.arraylength, 1) := by decide +kernel
theorem dX3_isFigureNext_27 : decode cX3_isFigureNext 27 = .ok (.if_icmp .ge 35, 3) := by decide +kernel
theorem dX3_isFigureNext_30 : decode cX3_isFigureNext 30 = .ok (.aload_n 0, 1) := by decide +kernel
theorem dX3_isFigureNext_31 : decode cX3_isFigureNext 31 = .ok (.getfield 31, 3) := by decide +kernel
theorem dX3_isFigureNext_34 : decode cX3_isFigureNext 34 = .ok (.aload_n 0, 1) := by decide +kernel
theorem dX3_isFigureNext_35 : decode cX3_isFigureNext 35 = .ok (.getfield 45, 3) := by decide +kernel
theorem dX3_isFigureNext_38 : decode cX3_isFigureNext 38 = .ok (.caload, 1) := by decide +kernel
theorem dX3_isFigureNext_39 : decode cX3_isFigureNext 39 = .ok (.bipush 48, 2) := by decide +kernel
theorem dX3_isFigureNext_41 : decode cX3_isFigureNext 41 = .ok (.if_icmp .lt 21, 3) := by decide +kernel
theorem dX3_isFigureNext_44 : decode cX3_isFigureNext 44 = .ok (.aload_n 0, 1) := by decide +kernel
theorem dX3_isFigureNext_45 : decode cX3_isFigureNext 45 = .ok (.getfield 31, 3) := by decide +kernel
theorem dX3_isFigureNext_48 : decode cX3_isFigureNext 48 = .ok (.aload_n 0, 1) := by decide +kernel
theorem dX3_isFigureNext_49 : decode cX3_isFigureNext 49 = .ok (.getfield 45, 3) := by decide +kernel
theorem dX3_isFigureNext_52 : decode cX3_isFigureNext 52 = .ok (.caload, 1) := by decide +kernel
theorem dX3_isFigureNext_53 : decode cX3_isFigureNext 53 = .ok (.bipush 57, 2) := by decide +kernel
theorem dX3_isFigureNext_55 : decode cX3_isFigureNext 55 = .ok (.if_icmp .gt 7, 3) := by decide +kernel
theorem dX3_isFigureNext_58 : decode cX3_isFigureNext 58 = .ok (.iconst 1, 1) := by decide +kernel
theorem dX3_isFigureNext_59 : decode cX3_isFigureNext 59 = .ok (.goto 4, 3) := by decide +kernel
theorem dX3_isFigureNext_62 : decode cX3_isFigureNext 62 = .ok (.iconst 0, 1) := by decide +kernel
theorem dX3_isFigureNext_63 : decode cX3_isFigureNext 63 = .ok (.ireturn, 1) := by decide +kernel
theorem dX3_giveCells_0 : decode cX3_giveCells 0 = .ok (.aload_n 0, 1) := by decide +kernel
theorem dX3_giveCells_1 : decode cX3_giveCells 1 = .ok (.getfield 96, 3) := by decide +kernel
theorem dX3_giveCells_4 : decode cX3_giveCells 4 = .ok (.iconst 3, 1) := by decide +kernel
theorem dX3_giveCells_5 : decode cX3_giveCells 5 = .ok (.if_icmp .ne 60, 3) := by decide +kernel
theorem dX3_giveCells_8 : decode cX3_giveCells 8 = .ok (.aload_n 0, 1) := by decide +kernel
theorem dX3_giveCells_9 : decode cX3_giveCells 9 = .ok (.getfield 12, 3) := by decide +kernel
theorem dX3_giveCells_12 : decode cX3_giveCells 12 = .ok (.aload_n 0, 1) := by decide +kernel
theorem dX3_giveCells_13 : decode cX3_giveCells 13 = .ok (.getfield 27, 3) := by decide +kernel
theorem dX3_giveCells_16 : decode cX3_giveCells 16 = .ok (.iconst 0, 1) := by decide +kernel
theorem dX3_giveCells_17 : decode cX3_giveCells 17 = .ok (.iaload, 1) := by decide +kernel
theorem dX3_giveCells_18 : decode cX3_giveCells 18 = .ok (.invokevirtual 106, 3) := by decide +kernel
theorem dX3_giveCells_21 : decode cX3_giveCells 21 = .ok (.ifCond .eq 44, 3) := by decide +kernel
theorem dX3_giveCells_24 : decode cX3_giveCells 24 = .ok (.aload_n 0, 1) := by decide +kernel
theorem dX3_giveCells_25 : decode cX3_giveCells 25 = .ok (.getfield 12, 3) := by decide +kernel
theorem dX3_giveCells_28 : decode cX3_giveCells 28 = .ok (.aload_n 0, 1) := by decide +kernel
theorem dX3_giveCells_29 : decode cX3_giveCells 29 = .ok (.getfield 27, 3) := by decide +kernel
theorem dX3_giveCells_32 : decode cX3_giveCells 32 = .ok (.iconst 1, 1) := by decide +kernel
theorem dX3_giveCells_33 : decode cX3_giveCells 33 = .ok (.iaload, 1) := by decide +kernel
theorem dX3_giveCells_34 : decode cX3_giveCells 34 = .ok (.invokevirtual 106, 3) := by decide +kernel
theorem dX3_giveCells_37 : decode cX3_giveCells 37 = .ok (.ifCond .eq 28, 3) := by decide +kernel
theorem dX3_giveCells_40 : decode cX3_giveCells 40 = .ok (.aload_n 0, 1) := by decide +kernel
theorem dX3_giveCells_41 : decode cX3_giveCells 41 = .ok (.getfield 27, 3) := by decide +kernel
theorem dX3_giveCells_44 : decode cX3_giveCells 44 = .ok (.iconst 1, 1) := by decide +kernel
theorem dX3_giveCells_45 : decode cX3_giveCells 45 = .ok (.iaload, 1) := by decide +kernel
theorem dX3_giveCells_46 : decode cX3_giveCells 46 = .ok (.aload_n 0, 1) := by decide +kernel
theorem dX3_giveCells_47 : decode cX3_giveCells 47 = .ok (.getfield 27, 3) := by decide +kernel
theorem dX3_giveCells_50 : decode cX3_giveCells 50 = .ok (.iconst 0, 1) := by decide +kernel
theorem dX3_giveCells_51 : decode cX3_giveCells 51 = .ok (.iaload, 1) := by decide +kernel
theorem dX3_giveCells_52 : decode cX3_giveCells 52 = .ok (.if_icmp .lt 13, 3) := by decide +kernel
theorem dX3_giveCells_55 : decode cX3_giveCells 55 = .ok (.aload_n 0, 1) := by decide +kernel
theorem dX3_giveCells_56 : decode cX3_giveCells 56 = .ok (.getfield 27, 3) := by decide +kernel
theorem dX3_giveCells_59 : decode cX3_giveCells 59 = .ok (.iconst 2, 1) := by decide +kernel
theorem dX3_giveCells_60 : decode cX3_giveCells 60 = .ok (.iaload, 1) := by decide +kernel
theorem dX3_giveCells_61 : decode cX3_giveCells 61 = .ok (.iconst 4, 1) := by decide +kernel
theorem dX3_giveCells_62 : decode cX3_giveCells 62 = .ok (.if_icmp .lt 5, 3) := by decide +kernel
theorem dX3_giveCells_65 : decode cX3_giveCells 65 = .ok (.iconst 0, 1) := by decide +kernel
theorem dX3_giveCells_66 : decode cX3_giveCells 66 = .ok (.ireturn, 1) := by decide +kernel
theorem dX3_giveCells_67 : decode cX3_giveCells 67 = .ok (.aload_n 0, 1) := by decide +kernel
theorem dX3_giveCells_68 : decode cX3_giveCells 68 = .ok (.getfield 27, 3) := by decide +kernel
theorem dX3_giveCells_71 : decode cX3_giveCells 71 = .ok (.iconst 0, 1) := by decide +kernel
theorem dX3_giveCells_72 : decode cX3_giveCells 72 = .ok (.iaload, 1) := by decide +kernel
theorem dX3_giveCells_73 : decode cX3_giveCells 73 = .ok (.istore_n 1, 1) := by decide +kernel
theorem dX3_giveCells_74 : decode cX3_giveCells 74 = .ok (.iload_n 1, 1) := by decide +kernel
theorem dX3_giveCells_75 : decode cX3_giveCells 75 = .ok (.aload_n 0, 1) := by decide +kernel
theorem dX3_giveCells_76 : decode cX3_giveCells 76 = .ok (.getfield 27, 3) := by decide +kernel
theorem dX3_giveCells_79 : decode cX3_giveCells 79 = .ok (.iconst 1, 1) := by decide +kernel
theorem dX3_giveCells_80 : decode cX3_giveCells 80 = .ok (.iaload, 1) := by decide +kernel
theorem dX3_giveCells_81 : decode cX3_giveCells 81 = .ok (.if_icmp .gt 30, 3) := by decide +kernel
theorem dX3_giveCells_84 : decode cX3_giveCells 84 = .ok (.iload_n 1, 1) := by decide +kernel
theorem dX3_giveCells_85 : decode cX3_giveCells 85 = .ok (.bipush 36, 2) := by decide +kernel
theorem dX3_giveCells_87 : decode cX3_giveCells 87 = .ok (.if_icmp .ge 24, 3) := by decide +kernel
theorem dX3_giveCells_90 : decode cX3_giveCells 90 = .ok (.aload_n 0, 1) := by decide +kernel
theorem dX3_giveCells_91 : decode cX3_giveCells 91 = .ok (.getfield 12, 3) := by decide +kernel
theorem dX3_giveCells_94 : decode cX3_giveCells 94 = .ok (.getfield 110, 3) := by decide +kernel
theorem dX3_giveCells_97 : decode cX3_giveCells 97 = .ok (.iload_n 1, 1) := by decide +kernel
theorem dX3_giveCells_98 : decode cX3_giveCells 98 = .ok (.aload_n 0, 1) := by decide +kernel
theorem dX3_giveCells_99 : decode cX3_giveCells 99 = .ok (.getfield 27, 3) := by decide +kernel
theorem dX3_giveCells_102 : decode cX3_giveCells 102 = .ok (.iconst 2, 1) := by decide +kernel
theorem dX3_giveCells_103 : decode cX3_giveCells 103 = .ok (.iaload, 1) := by decide +kernel
theorem dX3_giveCells_104 : decode cX3_giveCells 104 = .ok (.iastore, 1) := by decide +kernel
theorem dX3_giveCells_105 : decode cX3_giveCells 105 = .ok (.iinc 1 1, 3) := by decide +kernel
theorem dX3_giveCells_108 : decode cX3_giveCells 108 = .ok (.goto (-34), 3) := by decide +kernel
theorem dX3_giveCells_111 : decode cX3_giveCells 111 = .ok (.iconst 1, 1) := by decide +kernel
theorem dX3_giveCells_112 : decode cX3_giveCells 112 = .ok (.ireturn, 1) := by decide +kernel
theorem dX3_plantRow_0 : decode cX3_plantRow 0 = .ok (.aload_n 0, 1) := by decide +kernel
theorem dX3_plantRow_1 : decode cX3_plantRow 1 = .ok (.getfield 96, 3) := by decide +kernel
theorem dX3_plantRow_4 : decode cX3_plantRow 4 = .ok (.iconst 4, 1) := by decide +kernel
theorem dX3_plantRow_5 : decode cX3_plantRow 5 = .ok (.if_icmp .lt 55, 3) := by decide +kernel
theorem dX3_plantRow_8 : decode cX3_plantRow 8 = .ok (.aload_n 0, 1) := by decide +kernel
theorem dX3_plantRow_9 : decode cX3_plantRow 9 = .ok (.getfield 23, 3) := by decide +kernel
theorem dX3_plantRow_12 : decode cX3_plantRow 12 = .ok (.getfield 113, 3) := by decide +kernel
theorem dX3_plantRow_15 : decode cX3_plantRow 15 = .ok (.ifCond .lt 45, 3) := by decide +kernel
theorem dX3_plantRow_18 : decode cX3_plantRow 18 = .ok (.aload_n 0, 1) := by decide +kernel
theorem dX3_plantRow_19 : decode cX3_plantRow 19 = .ok (.getfield 23, 3) := by decide +kernel
theorem dX3_plantRow_22 : decode cX3_plantRow 22 = .ok (.getfield 113, 3) := by decide +kernel
theorem dX3_plantRow_25 : decode cX3_plantRow 25 = .ok (.iconst 3, 1) := by decide +kernel
theorem dX3_plantRow_26 : decode cX3_plantRow 26 = .ok (.if_icmp .ge 34, 3) := by decide +kernel
theorem dX3_plantRow_29 : decode cX3_plantRow 29 = .ok (.aload_n 0, 1) := by decide +kernel
theorem dX3_plantRow_30 : decode cX3_plantRow 30 = .ok (.getfield 27, 3) := by decide +kernel
theorem dX3_plantRow_33 : decode cX3_plantRow 33 = .ok (.iconst 0, 1) := by decide +kernel
theorem dX3_plantRow_34 : decode cX3_plantRow 34 = .ok (.iaload, 1) := by decide +kernel
theorem dX3_plantRow_35 : decode cX3_plantRow 35 = .ok (.iconst 4, 1) := by decide +kernel
theorem dX3_plantRow_36 : decode cX3_plantRow 36 = .ok (.if_icmp .ge 24, 3) := by decide +kernel
theorem dX3_plantRow_39 : decode cX3_plantRow 39 = .ok (.aload_n 0, 1) := by decide +kernel
theorem dX3_plantRow_40 : decode cX3_plantRow 40 = .ok (.getfield 27, 3) := by decide +kernel
theorem dX3_plantRow_43 : decode cX3_plantRow 43 = .ok (.iconst 1, 1) := by decide +kernel
theorem dX3_plantRow_44 : decode cX3_plantRow 44 = .ok (.iaload, 1) := by decide +kernel
theorem dX3_plantRow_45 : decode cX3_plantRow 45 = .ok (.iconst 4, 1) := by decide +kernel
theorem dX3_plantRow_46 : decode cX3_plantRow 46 = .ok (.if_icmp .ge 14, 3) := by decide +kernel
theorem dX3_plantRow_49 : decode cX3_plantRow 49 = .ok (.aload_n 0, 1) := by decide +kernel
theorem dX3_plantRow_50 : decode cX3_plantRow 50 = .ok (.getfield 27, 3) := by decide +kernel
theorem dX3_plantRow_53 : decode cX3_plantRow 53 = .ok (.iconst 2, 1) := by decide +kernel
theorem dX3_plantRow_54 : decode cX3_plantRow 54 = .ok (.iaload, 1) := by decide +kernel
theorem dX3_plantRow_55 : decode cX3_plantRow 55 = .ok (.bipush 9, 2) := by decide +kernel
theorem dX3_plantRow_57 : decode cX3_plantRow 57 = .ok (.if_icmp .le 5, 3) := by decide +kernel
theorem dX3_plantRow_60 : decode cX3_plantRow 60 = .ok (.iconst 0, 1) := by decide +kernel
theorem dX3_plantRow_61 : decode cX3_plantRow 61 = .ok (.ireturn, 1) := by decide +kernel
theorem dX3_plantRow_62 : decode cX3_plantRow 62 = .ok (.aload_n 0, 1) := by decide +kernel
theorem dX3_plantRow_63 : decode cX3_plantRow 63 = .ok (.getfield 23, 3) := by decide +kernel
theorem dX3_plantRow_66 : decode cX3_plantRow 66 = .ok (.getfield 116, 3) := by decide +kernel
theorem dX3_plantRow_69 : decode cX3_plantRow 69 = .ok (.aload_n 0, 1) := by decide +kernel
theorem dX3_plantRow_70 : decode cX3_plantRow 70 = .ok (.getfield 23, 3) := by decide +kernel
theorem dX3_plantRow_73 : decode cX3_plantRow 73 = .ok (.getfield 113, 3) := by decide +kernel
theorem dX3_plantRow_76 : decode cX3_plantRow 76 = .ok (.aaload, 1) := by decide +kernel
theorem dX3_plantRow_77 : decode cX3_plantRow 77 = .ok (.astore_n 1, 1) := by decide +kernel
theorem dX3_plantRow_78 : decode cX3_plantRow 78 = .ok (.aload_n 1, 1) := by decide +kernel
theorem dX3_plantRow_79 : decode cX3_plantRow 79 = .ok (.iconst 0, 1) := by decide +kernel
theorem dX3_plantRow_80 : decode cX3_plantRow 80 = .ok (.putfield 120, 3) := by decide +kernel
theorem dX3_plantRow_83 : decode cX3_plantRow 83 = .ok (.aload_n 1, 1) := by decide +kernel
theorem dX3_plantRow_84 : decode cX3_plantRow 84 = .ok (.aload_n 0, 1) := by decide +kernel
theorem dX3_plantRow_85 : decode cX3_plantRow 85 = .ok (.getfield 27, 3) := by decide +kernel
theorem dX3_plantRow_88 : decode cX3_plantRow 88 = .ok (.iconst 0, 1) := by decide +kernel
theorem dX3_plantRow_89 : decode cX3_plantRow 89 = .ok (.iaload, 1) := by decide +kernel
theorem dX3_plantRow_90 : decode cX3_plantRow 90 = .ok (.putfield 125, 3) := by decide +kernel
theorem dX3_plantRow_93 : decode cX3_plantRow 93 = .ok (.aload_n 1, 1) := by decide +kernel
theorem dX3_plantRow_94 : decode cX3_plantRow 94 = .ok (.aload_n 0, 1) := by decide +kernel
theorem dX3_plantRow_95 : decode cX3_plantRow 95 = .ok (.getfield 27, 3) := by decide +kernel
theorem dX3_plantRow_98 : decode cX3_plantRow 98 = .ok (.iconst 1, 1) := by decide +kernel
theorem dX3_plantRow_99 : decode cX3_plantRow 99 = .ok (.iaload, 1) := by decide +kernel
theorem dX3_plantRow_100 : decode cX3_plantRow 100 = .ok (.putfield 128, 3) := by decide +kernel
theorem dX3_plantRow_103 : decode cX3_plantRow 103 = .ok (.aload_n 1, 1) := by decide +kernel
theorem dX3_plantRow_104 : decode cX3_plantRow 104 = .ok (.aload_n 0, 1) := by decide +kernel
theorem dX3_plantRow_105 : decode cX3_plantRow 105 = .ok (.getfield 27, 3) := by decide +kernel
theorem dX3_plantRow_108 : decode cX3_plantRow 108 = .ok (.iconst 2, 1) := by decide +kernel
theorem dX3_plantRow_109 : decode cX3_plantRow 109 = .ok (.iaload, 1) := by decide +kernel
theorem dX3_plantRow_110 : decode cX3_plantRow 110 = .ok (.putfield 131, 3) := by decide +kernel
theorem dX3_plantRow_113 : decode cX3_plantRow 113 = .ok (.iconst 3, 1) := by decide +kernel
theorem dX3_plantRow_114 : decode cX3_plantRow 114 = .ok (.istore_n 2, 1) := by decide +kernel
theorem dX3_plantRow_115 : decode cX3_plantRow 115 = .ok (.iload_n 2, 1) := by decide +kernel
theorem dX3_plantRow_116 : decode cX3_plantRow 116 = .ok (.aload_n 0, 1) := by decide +kernel
theorem dX3_plantRow_117 : decode cX3_plantRow 117 = .ok (.getfield 96, 3) := by decide +kernel
theorem dX3_plantRow_120 : decode cX3_plantRow 120 = .ok (.if_icmp .ge 31, 3) := by decide +kernel
theorem dX3_plantRow_123 : decode cX3_plantRow 123 = .ok (.iload_n 2, 1) := by decide +kernel
theorem dX3_plantRow_124 : decode cX3_plantRow 124 = .ok (.bipush 7, 2) := by decide +kernel
theorem dX3_plantRow_126 : decode cX3_plantRow 126 = .ok (.if_icmp .ge 25, 3) := by decide +kernel
theorem dX3_plantRow_129 : decode cX3_plantRow 129 = .ok (.aload_n 0, 1) := by decide +kernel
theorem dX3_plantRow_130 : decode cX3_plantRow 130 = .ok (.aload_n 1, 1) := by decide +kernel
theorem dX3_plantRow_131 : decode cX3_plantRow 131 = .ok (.aload_n 0, 1) := by decide +kernel
theorem dX3_plantRow_132 : decode cX3_plantRow 132 = .ok (.getfield 27, 3) := by decide +kernel
theorem dX3_plantRow_135 : decode cX3_plantRow 135 = .ok (.iload_n 2, 1) := by decide +kernel
theorem dX3_plantRow_136 : decode cX3_plantRow 136 = .ok (.iaload, 1) := by decide +kernel
theorem dX3_plantRow_137 : decode cX3_plantRow 137 = .ok (.invokevirtual 134, 3) := by decide +kernel
theorem dX3_plantRow_140 : decode cX3_plantRow 140 = .ok (.ifCond .ne 5, 3) := by decide +kernel
theorem dX3_plantRow_143 : decode cX3_plantRow 143 = .ok (.iconst 0, 1) := by decide +kernel
theorem dX3_plantRow_144 : decode cX3_plantRow 144 = .ok (.ireturn, 1) := by decide +kernel
theorem dX3_plantRow_145 : decode cX3_plantRow 145 = .ok (.iinc 2 1, 3) := by decide +kernel
theorem dX3_plantRow_148 : decode cX3_plantRow 148 = .ok (.goto (-33), 3) := by decide +kernel
theorem dX3_plantRow_151 : decode cX3_plantRow 151 = .ok (.aload_n 0, 1) := by decide +kernel
theorem dX3_plantRow_152 : decode cX3_plantRow 152 = .ok (.getfield 23, 3) := by decide +kernel
theorem dX3_plantRow_155 : decode cX3_plantRow 155 = .ok (.dup, 1) := by decide +kernel
theorem dX3_plantRow_156 : decode cX3_plantRow 156 = .ok (.getfield 113, 3) := by decide +kernel
theorem dX3_plantRow_159 : decode cX3_plantRow 159 = .ok (.iconst 1, 1) := by decide +kernel
theorem dX3_plantRow_160 : decode cX3_plantRow 160 = .ok (.iadd, 1) := by decide +kernel
theorem dX3_plantRow_161 : decode cX3_plantRow 161 = .ok (.putfield 113, 3) := by decide +kernel
theorem dX3_plantRow_164 : decode cX3_plantRow 164 = .ok (.iconst 1, 1) := by decide +kernel
theorem dX3_plantRow_165 : decode cX3_plantRow 165 = .ok (.ireturn, 1) := by decide +kernel
theorem dX3_plantTree_0 : decode cX3_plantTree 0 = .ok (.aload_n 0, 1) := by decide +kernel
theorem dX3_plantTree_1 : decode cX3_plantTree 1 = .ok (.getfield 12, 3) := by decide +kernel
theorem dX3_plantTree_4 : decode cX3_plantTree 4 = .ok (.getfield 82, 3) := by decide +kernel
theorem dX3_plantTree_7 : decode cX3_plantTree 7 = .ok (.aload_n 0, 1) := by decide +kernel
theorem dX3_plantTree_8 : decode cX3_plantTree 8 = .ok (.getfield 12, 3) := by decide +kernel
theorem dX3_plantTree_11 : decode cX3_plantTree 11 = .ok (.getfield 90, 3) := by decide +kernel
theorem dX3_plantTree_14 : decode cX3_plantTree 14 = .ok (.lor, 1) := by decide +kernel
theorem dX3_plantTree_15 : decode cX3_plantTree 15 = .ok (.aload_n 0, 1) := by decide +kernel
theorem dX3_plantTree_16 : decode cX3_plantTree 16 = .ok (.getfield 23, 3) := by decide +kernel
theorem dX3_plantTree_19 : decode cX3_plantTree 19 = .ok (.getfield 138, 3) := by decide +kernel
theorem dX3_plantTree_22 : decode cX3_plantTree 22 = .ok (.ldc2_w 141, 3) := by decide +kernel
theorem dX3_plantTree_25 : decode cX3_plantTree 25 = .ok (.lxor, 1) := by decide +kernel
theorem dX3_plantTree_26 : decode cX3_plantTree 26 = .ok (.land, 1) := by decide +kernel
theorem dX3_plantTree_27 : decode cX3_plantTree 27 = .ok (.iload_n 2, 1) := by decide +kernel
theorem dX3_plantTree_28 : decode cX3_plantTree 28 = .ok (.invokestatic 143, 3) := by decide +kernel
theorem dX3_plantTree_31 : decode cX3_plantTree 31 = .ok (.ifCond .ne 5, 3) := by decide +kernel
theorem dX3_plantTree_34 : decode cX3_plantTree 34 = .ok (.iconst 0, 1) := by decide +kernel
theorem dX3_plantTree_35 : decode cX3_plantTree 35 = .ok (.ireturn, 1) := by decide +kernel
theorem dX3_plantTree_36 : decode cX3_plantTree 36 = .ok (.aload_n 1, 1) := by decide +kernel
theorem dX3_plantTree_37 : decode cX3_plantTree 37 = .ok (.getfield 120, 3) := by decide +kernel
theorem dX3_plantTree_40 : decode cX3_plantTree 40 = .ok (.ifCond .le 29, 3) := by decide +kernel
theorem dX3_plantTree_43 : decode cX3_plantTree 43 = .ok (.aload_n 0, 1) := by decide +kernel
theorem dX3_plantTree_44 : decode cX3_plantTree 44 = .ok (.getfield 12, 3) := by decide +kernel
theorem dX3_plantTree_47 : decode cX3_plantTree 47 = .ok (.iload_n 2, 1) := by decide +kernel
theorem dX3_plantTree_48 : decode cX3_plantTree 48 = .ok (.aload_n 1, 1) := by decide +kernel
theorem dX3_plantTree_49 : decode cX3_plantTree 49 = .ok (.aload_n 1, 1) := by decide +kernel
theorem dX3_plantTree_50 : decode cX3_plantTree 50 = .ok (.getfield 120, 3) := by decide +kernel
theorem dX3_plantTree_53 : decode cX3_plantTree 53 = .ok (.iconst 1, 1) := by decide +kernel
theorem dX3_plantTree_54 : decode cX3_plantTree 54 = .ok (.isub, 1) := by decide +kernel
theorem dX3_plantTree_55 : decode cX3_plantTree 55 = .ok (.invokevirtual 147, 3) := by decide +kernel
theorem dX3_plantTree_58 : decode cX3_plantTree 58 = .ok (.invokestatic 86, 3) := by decide +kernel
theorem dX3_plantTree_61 : decode cX3_plantTree 61 = .ok (.invokevirtual 151, 3) := by decide +kernel
theorem dX3_plantTree_64 : decode cX3_plantTree 64 = .ok (.ifCond .ne 5, 3) := by decide +kernel
theorem dX3_plantTree_67 : decode cX3_plantTree 67 = .ok (.iconst 0, 1) := by decide +kernel
theorem dX3_plantTree_68 : decode cX3_plantTree 68 = .ok (.ireturn, 1) := by decide +kernel
theorem dX3_plantTree_69 : decode cX3_plantTree 69 = .ok (.aload_n 1, 1) := by decide +kernel
theorem dX3_plantTree_70 : decode cX3_plantTree 70 = .ok (.iload_n 2, 1) := by decide +kernel
theorem dX3_plantTree_71 : decode cX3_plantTree 71 = .ok (.invokevirtual 155, 3) := by decide +kernel
theorem dX3_plantTree_74 : decode cX3_plantTree 74 = .ok (.aload_n 0, 1) := by decide +kernel
theorem dX3_plantTree_75 : decode cX3_plantTree 75 = .ok (.getfield 23, 3) := by decide +kernel
theorem dX3_plantTree_78 : decode cX3_plantTree 78 = .ok (.dup, 1) := by decide +kernel
theorem dX3_plantTree_79 : decode cX3_plantTree 79 = .ok (.getfield 138, 3) := by decide +kernel
theorem dX3_plantTree_82 : decode cX3_plantTree 82 = .ok (.iload_n 2, 1) := by decide +kernel
theorem dX3_plantTree_83 : decode cX3_plantTree 83 = .ok (.invokestatic 86, 3) := by decide +kernel
theorem dX3_plantTree_86 : decode cX3_plantTree 86 = .ok (.lor, 1) := by decide +kernel
theorem dX3_plantTree_87 : decode cX3_plantTree 87 = .ok (.putfield 138, 3) := by decide +kernel
theorem dX3_plantTree_90 : decode cX3_plantTree 90 = .ok (.iconst 1, 1) := by decide +kernel
theorem dX3_plantTree_91 : decode cX3_plantTree 91 = .ok (.ireturn, 1) := by decide +kernel
theorem dX4_init_0 : decode cX4_init 0 = .ok (.aload_n 0, 1) := by decide +kernel
theorem dX4_init_1 : decode cX4_init 1 = .ok (.invokespecial 3, 3) := by decide +kernel
theorem dX4_init_4 : decode cX4_init 4 = .ok (.aload_n 0, 1) := by decide +kernel
theorem dX4_init_5 : decode cX4_init 5 = .ok (.iconst 4, 1) := by decide +kernel
theorem dX4_init_6 : decode cX4_init 6 = .ok (.newarray .int, 2) := by decide +kernel
theorem dX4_init_8 : decode cX4_init 8 = .ok (.putfield 9, 3) := by decide +kernel
theorem dX4_init_11 : decode cX4_init 11 = .ok (.return_, 1) := by decide +kernel
theorem dX4_copyFrom_0 : decode cX4_copyFrom 0 = .ok (.aload_n 0, 1) := by decide +kernel
theorem dX4_copyFrom_1 : decode cX4_copyFrom 1 = .ok (.aload_n 1, 1) := by decide +kernel
theorem dX4_copyFrom_2 : decode cX4_copyFrom 2 = .ok (.getfield 15, 3) := by decide +kernel
theorem dX4_copyFrom_5 : decode cX4_copyFrom 5 = .ok (.putfield 15, 3) := by decide +kernel
theorem dX4_copyFrom_8 : decode cX4_copyFrom 8 = .ok (.aload_n 0, 1) := by decide +kernel
theorem dX4_copyFrom_9 : decode cX4_copyFrom 9 = .ok (.aload_n 1, 1) := by decide +kernel
theorem dX4_copyFrom_10 : decode cX4_copyFrom 10 = .ok (.getfield 19, 3) := by decide +kernel
theorem dX4_copyFrom_13 : decode cX4_copyFrom 13 = .ok (.putfield 19, 3) := by decide +kernel
theorem dX4_copyFrom_16 : decode cX4_copyFrom 16 = .ok (.aload_n 0, 1) := by decide +kernel
theorem dX4_copyFrom_17 : decode cX4_copyFrom 17 = .ok (.aload_n 1, 1) := by decide +kernel
theorem dX4_copyFrom_18 : decode cX4_copyFrom 18 = .ok (.getfield 22, 3) := by decide +kernel
theorem dX4_copyFrom_21 : decode cX4_copyFrom 21 = .ok (.putfield 22, 3) := by decide +kernel
theorem dX4_copyFrom_24 : decode cX4_copyFrom 24 = .ok (.aload_n 0, 1) := by decide +kernel
theorem dX4_copyFrom_25 : decode cX4_copyFrom 25 = .ok (.aload_n 1, 1) := by decide +kernel
theorem dX4_copyFrom_26 : decode cX4_copyFrom 26 = .ok (.getfield 25, 3) := by decide +kernel
theorem dX4_copyFrom_29 : decode cX4_copyFrom 29 = .ok (.putfield 25, 3) := by decide +kernel
theorem dX4_copyFrom_32 : decode cX4_copyFrom 32 = .ok (.iconst 0, 1) := by decide +kernel
theorem dX4_copyFrom_33 : decode cX4_copyFrom 33 = .ok (.istore_n 2, 1) := by decide +kernel
theorem dX4_copyFrom_34 : decode cX4_copyFrom 34 = .ok (.iload_n 2, 1) := by decide +kernel
theorem dX4_copyFrom_35 : decode cX4_copyFrom 35 = .ok (.iconst 4, 1) := by decide +kernel
theorem dX4_copyFrom_36 : decode cX4_copyFrom 36 = .ok (.if_icmp .ge 21, 3) := by decide +kernel
theorem dX4_copyFrom_39 : decode cX4_copyFrom 39 = .ok (.aload_n 0, 1) := by decide +kernel
theorem dX4_copyFrom_40 : decode cX4_copyFrom 40 = .ok (.getfield 9, 3) := by decide +kernel
theorem dX4_copyFrom_43 : decode cX4_copyFrom 43 = .ok (.iload_n 2, 1) := by decide +kernel
theorem dX4_copyFrom_44 : decode cX4_copyFrom 44 = .ok (.aload_n 1, 1) := by decide +kernel
theorem dX4_copyFrom_45 : decode cX4_copyFrom 45 = .ok (.getfield 9, 3) := by decide +kernel
theorem dX4_copyFrom_48 : decode cX4_copyFrom 48 = .ok (.iload_n 2, 1) := by decide +kernel
theorem dX4_copyFrom_49 : decode cX4_copyFrom 49 = .ok (.iaload, 1) := by decide +kernel
theorem dX4_copyFrom_50 : decode cX4_copyFrom 50 = .ok (.iastore, 1) := by decide +kernel
theorem dX4_copyFrom_51 : decode cX4_copyFrom 51 = .ok (.iinc 2 1, 3) := by decide +kernel
theorem dX4_copyFrom_54 : decode cX4_copyFrom 54 = .ok (.goto (-20), 3) := by decide +kernel
theorem dX4_copyFrom_57 : decode cX4_copyFrom 57 = .ok (.return_, 1) := by decide +kernel
theorem dX4_first_0 : decode cX4_first 0 = .ok (.aload_n 0, 1) := by decide +kernel
theorem dX4_first_1 : decode cX4_first 1 = .ok (.getfield 9, 3) := by decide +kernel
theorem dX4_first_4 : decode cX4_first 4 = .ok (.iconst 0, 1) := by decide +kernel
theorem dX4_first_5 : decode cX4_first 5 = .ok (.iaload, 1) := by decide +kernel
theorem dX4_first_6 : decode cX4_first 6 = .ok (.ireturn, 1) := by decide +kernel
theorem dX4_treeAt_0 : decode cX4_treeAt 0 = .ok (.iload_n 1, 1) := by decide +kernel
theorem dX4_treeAt_1 : decode cX4_treeAt 1 = .ok (.ifCond .lt 25, 3) := by decide +kernel
theorem dX4_treeAt_4 : decode cX4_treeAt 4 = .ok (.iload_n 1, 1) := by decide +kernel
theorem dX4_treeAt_5 : decode cX4_treeAt 5 = .ok (.aload_n 0, 1) := by decide +kernel
theorem dX4_treeAt_6 : decode cX4_treeAt 6 = .ok (.getfield 15, 3) := by decide +kernel
theorem dX4_treeAt_9 : decode cX4_treeAt 9 = .ok (.if_icmp .ge 17, 3) := by decide +kernel
theorem dX4_treeAt_12 : decode cX4_treeAt 12 = .ok (.iload_n 1, 1) := by decide +kernel
theorem dX4_treeAt_13 : decode cX4_treeAt 13 = .ok (.iconst 4, 1) := by decide +kernel
theorem dX4_treeAt_14 : decode cX4_treeAt 14 = .ok (.if_icmp .ge 12, 3) := by decide +kernel
theorem dX4_treeAt_17 : decode cX4_treeAt 17 = .ok (.aload_n 0, 1) := by decide +kernel
theorem dX4_treeAt_18 : decode cX4_treeAt 18 = .ok (.getfield 9, 3) := by decide +kernel
theorem dX4_treeAt_21 : decode cX4_treeAt 21 = .ok (.iload_n 1, 1) := by decide +kernel
theorem dX4_treeAt_22 : decode cX4_treeAt 22 = .ok (.iaload, 1) := by decide +kernel
theorem dX4_treeAt_23 : decode cX4_treeAt 23 = .ok (.goto 5, 3) := by decide +kernel
theorem dX4_treeAt_26 : decode cX4_treeAt 26 = .ok (.bipush (-4), 2) := by decide +kernel
theorem dX4_treeAt_28 : decode cX4_treeAt 28 = .ok (.ireturn, 1) := by decide +kernel
theorem dX4_cells_0 : decode cX4_cells 0 = .ok (.lconst 0, 1) := by decide +kernel
theorem dX4_cells_1 : decode cX4_cells 1 = .ok (.lstore_n 1, 1) := by decide +kernel
theorem dX4_cells_2 : decode cX4_cells 2 = .ok (.iconst 0, 1) := by decide +kernel
theorem dX4_cells_3 : decode cX4_cells 3 = .ok (.istore_n 3, 1) := by decide +kernel
theorem dX4_cells_4 : decode cX4_cells 4 = .ok (.iload_n 3, 1) := by decide +kernel
theorem dX4_cells_5 : decode cX4_cells 5 = .ok (.aload_n 0, 1) := by decide +kernel
theorem dX4_cells_6 : decode cX4_cells 6 = .ok (.getfield 15, 3) := by decide +kernel
theorem dX4_cells_9 : decode cX4_cells 9 = .ok (.if_icmp .ge 26, 3) := by decide +kernel
theorem dX4_cells_12 : decode cX4_cells 12 = .ok (.iload_n 3, 1) := by decide +kernel
theorem dX4_cells_13 : decode cX4_cells 13 = .ok (.iconst 4, 1) := by decide +kernel
theorem dX4_cells_14 : decode cX4_cells 14 = .ok (.if_icmp .ge 21, 3) := by decide +kernel
theorem dX4_cells_17 : decode cX4_cells 17 = .ok (.lload_n 1, 1) := by decide +kernel
theorem dX4_cells_18 : decode cX4_cells 18 = .ok (.aload_n 0, 1) := by decide +kernel
theorem dX4_cells_19 : decode cX4_cells 19 = .ok (.getfield 9, 3) := by decide +kernel
theorem dX4_cells_22 : decode cX4_cells 22 = .ok (.iload_n 3, 1) := by decide +kernel
theorem dX4_cells_23 : decode cX4_cells 23 = .ok (.iaload, 1) := by decide +kernel
theorem dX4_cells_24 : decode cX4_cells 24 = .ok (.invokestatic 28, 3) := by decide +kernel
theorem dX4_cells_27 : decode cX4_cells 27 = .ok (.lor, 1) := by decide +kernel
theorem dX4_cells_28 : decode cX4_cells 28 = .ok (.lstore_n 1, 1) := by decide +kernel
theorem dX4_cells_29 : decode cX4_cells 29 = .ok (.iinc 3 1, 3) := by decide +kernel
theorem dX4_cells_32 : decode cX4_cells 32 = .ok (.goto (-28), 3) := by decide +kernel
theorem dX4_cells_35 : decode cX4_cells 35 = .ok (.lload_n 1, 1) := by decide +kernel
theorem dX4_cells_36 : decode cX4_cells 36 = .ok (.lreturn, 1) := by decide +kernel
theorem dX4_plant_0 : decode cX4_plant 0 = .ok (.aload_n 0, 1) := by decide +kernel
theorem dX4_plant_1 : decode cX4_plant 1 = .ok (.getfield 15, 3) := by decide +kernel
theorem dX4_plant_4 : decode cX4_plant 4 = .ok (.ifCond .lt 31, 3) := by decide +kernel
theorem dX4_plant_7 : decode cX4_plant 7 = .ok (.aload_n 0, 1) := by decide +kernel
theorem dX4_plant_8 : decode cX4_plant 8 = .ok (.getfield 15, 3) := by decide +kernel
theorem dX4_plant_11 : decode cX4_plant 11 = .ok (.iconst 4, 1) := by decide +kernel
theorem dX4_plant_12 : decode cX4_plant 12 = .ok (.if_icmp .ge 23, 3) := by decide +kernel
theorem dX4_plant_15 : decode cX4_plant 15 = .ok (.aload_n 0, 1) := by decide +kernel
theorem dX4_plant_16 : decode cX4_plant 16 = .ok (.getfield 9, 3) := by decide +kernel
theorem dX4_plant_19 : decode cX4_plant 19 = .ok (.aload_n 0, 1) := by decide +kernel
theorem dX4_plant_20 : decode cX4_plant 20 = .ok (.getfield 15, 3) := by decide +kernel
theorem dX4_plant_23 : decode cX4_plant 23 = .ok (.iload_n 1, 1) := by decide +kernel
theorem dX4_plant_24 : decode cX4_plant 24 = .ok (.iastore, 1) := by decide +kernel
theorem dX4_plant_25 : decode cX4_plant 25 = .ok (.aload_n 0, 1) := by decide +kernel
theorem dX4_plant_26 : decode cX4_plant 26 = .ok (.dup, 1) := by decide +kernel
theorem dX4_plant_27 : decode cX4_plant 27 = .ok (.getfield 15, 3) := by decide +kernel
theorem dX4_plant_30 : decode cX4_plant 30 = .ok (.iconst 1, 1) := by decide +kernel
theorem dX4_plant_31 : decode cX4_plant 31 = .ok (.iadd, 1) := by decide +kernel
theorem dX4_plant_32 : decode cX4_plant 32 = .ok (.putfield 15, 3) := by decide +kernel
theorem dX4_plant_35 : decode cX4_plant 35 = .ok (.return_, 1) := by decide +kernel
theorem dX4_standsAs_0 : decode cX4_standsAs 0 = .ok (.aload_n 0, 1) := by decide +kernel
theorem dX4_standsAs_1 : decode cX4_standsAs 1 = .ok (.getfield 22, 3) := by decide +kernel
theorem dX4_standsAs_4 : decode cX4_standsAs 4 = .ok (.aload_n 1, 1) := by decide +kernel
theorem dX4_standsAs_5 : decode cX4_standsAs 5 = .ok (.getfield 22, 3) := by decide +kernel
theorem dX4_standsAs_8 : decode cX4_standsAs 8 = .ok (.if_icmp .ne 14, 3) := by decide +kernel
theorem dX4_standsAs_11 : decode cX4_standsAs 11 = .ok (.aload_n 0, 1) := by decide +kernel
theorem dX4_standsAs_12 : decode cX4_standsAs 12 = .ok (.getfield 15, 3) := by decide +kernel
theorem dX4_standsAs_15 : decode cX4_standsAs 15 = .ok (.aload_n 1, 1) := by decide +kernel
theorem dX4_standsAs_16 : decode cX4_standsAs 16 = .ok (.getfield 15, 3) := by decide +kernel
theorem dX4_standsAs_19 : decode cX4_standsAs 19 = .ok (.if_icmp .eq 5, 3) := by decide +kernel
theorem dX4_standsAs_22 : decode cX4_standsAs 22 = .ok (.iconst 0, 1) := by decide +kernel
theorem dX4_standsAs_23 : decode cX4_standsAs 23 = .ok (.ireturn, 1) := by decide +kernel
theorem dX4_standsAs_24 : decode cX4_standsAs 24 = .ok (.iconst 0, 1) := by decide +kernel
theorem dX4_standsAs_25 : decode cX4_standsAs 25 = .ok (.istore_n 2, 1) := by decide +kernel
theorem dX4_standsAs_26 : decode cX4_standsAs 26 = .ok (.iload_n 2, 1) := by decide +kernel
theorem dX4_standsAs_27 : decode cX4_standsAs 27 = .ok (.aload_n 0, 1) := by decide +kernel
theorem dX4_standsAs_28 : decode cX4_standsAs 28 = .ok (.getfield 15, 3) := by decide +kernel
theorem dX4_standsAs_31 : decode cX4_standsAs 31 = .ok (.if_icmp .ge 31, 3) := by decide +kernel
theorem dX4_standsAs_34 : decode cX4_standsAs 34 = .ok (.iload_n 2, 1) := by decide +kernel
theorem dX4_standsAs_35 : decode cX4_standsAs 35 = .ok (.iconst 4, 1) := by decide +kernel
theorem dX4_standsAs_36 : decode cX4_standsAs 36 = .ok (.if_icmp .ge 26, 3) := by decide +kernel
theorem dX4_standsAs_39 : decode cX4_standsAs 39 = .ok (.aload_n 0, 1) := by decide +kernel
theorem dX4_standsAs_40 : decode cX4_standsAs 40 = .ok (.getfield 9, 3) := by decide +kernel
theorem dX4_standsAs_43 : decode cX4_standsAs 43 = .ok (.iload_n 2, 1) := by decide +kernel
theorem dX4_standsAs_44 : decode cX4_standsAs 44 = .ok (.iaload, 1) := by decide +kernel
theorem dX4_standsAs_45 : decode cX4_standsAs 45 = .ok (.aload_n 1, 1) := by decide +kernel
theorem dX4_standsAs_46 : decode cX4_standsAs 46 = .ok (.getfield 9, 3) := by decide +kernel
theorem dX4_standsAs_49 : decode cX4_standsAs 49 = .ok (.iload_n 2, 1) := by decide +kernel
theorem dX4_standsAs_50 : decode cX4_standsAs 50 = .ok (.iaload, 1) := by decide +kernel
theorem dX4_standsAs_51 : decode cX4_standsAs 51 = .ok (.if_icmp .eq 5, 3) := by decide +kernel
theorem dX4_standsAs_54 : decode cX4_standsAs 54 = .ok (.iconst 0, 1) := by decide +kernel
theorem dX4_standsAs_55 : decode cX4_standsAs 55 = .ok (.ireturn, 1) := by decide +kernel
theorem dX4_standsAs_56 : decode cX4_standsAs 56 = .ok (.iinc 2 1, 3) := by decide +kernel
theorem dX4_standsAs_59 : decode cX4_standsAs 59 = .ok (.goto (-33), 3) := by decide +kernel
theorem dX4_standsAs_62 : decode cX4_standsAs 62 = .ok (.iconst 1, 1) := by decide +kernel
theorem dX4_standsAs_63 : decode cX4_standsAs 63 = .ok (.ireturn, 1) := by decide +kernel
theorem dX5_init_0 : decode cX5_init 0 = .ok (.aload_n 0, 1) := by decide +kernel
theorem dX5_init_1 : decode cX5_init 1 = .ok (.invokespecial 1, 3) := by decide +kernel
theorem dX5_init_4 : decode cX5_init 4 = .ok (.aload_n 0, 1) := by decide +kernel
theorem dX5_init_5 : decode cX5_init 5 = .ok (.sipush 200, 3) := by decide +kernel
theorem dX5_init_8 : decode cX5_init 8 = .ok (.newarray .char, 2) := by decide +kernel
theorem dX5_init_10 : decode cX5_init 10 = .ok (.putfield 9, 3) := by decide +kernel
theorem dX5_init_13 : decode cX5_init 13 = .ok (.aload_n 0, 1) := by decide +kernel
theorem dX5_init_14 : decode cX5_init 14 = .ok (.new 13, 3) := by decide +kernel
theorem dX5_init_17 : decode cX5_init 17 = .ok (.dup, 1) := by decide +kernel
theorem dX5_init_18 : decode cX5_init 18 = .ok (.invokespecial 15, 3) := by decide +kernel
theorem dX5_init_21 : decode cX5_init 21 = .ok (.putfield 16, 3) := by decide +kernel
theorem dX5_init_24 : decode cX5_init 24 = .ok (.aload_n 0, 1) := by decide +kernel
theorem dX5_init_25 : decode cX5_init 25 = .ok (.new 20, 3) := by decide +kernel
theorem dX5_init_28 : decode cX5_init 28 = .ok (.dup, 1) := by decide +kernel
theorem dX5_init_29 : decode cX5_init 29 = .ok (.aload_n 0, 1) := by decide +kernel
theorem dX5_init_30 : decode cX5_init 30 = .ok (.getfield 16, 3) := by decide +kernel
theorem dX5_init_33 : decode cX5_init 33 = .ok (.invokespecial 22, 3) := by decide +kernel
theorem dX5_init_36 : decode cX5_init 36 = .ok (.putfield 25, 3) := by decide +kernel
theorem dX5_init_39 : decode cX5_init 39 = .ok (.aload_n 0, 1) := by decide +kernel
theorem dX5_init_40 : decode cX5_init 40 = .ok (.new 20, 3) := by decide +kernel
theorem dX5_init_43 : decode cX5_init 43 = .ok (.dup, 1) := by decide +kernel
theorem dX5_init_44 : decode cX5_init 44 = .ok (.aload_n 0, 1) := by decide +kernel
theorem dX5_init_45 : decode cX5_init 45 = .ok (.getfield 16, 3) := by decide +kernel
theorem dX5_init_48 : decode cX5_init 48 = .ok (.invokespecial 22, 3) := by decide +kernel
theorem dX5_init_51 : decode cX5_init 51 = .ok (.putfield 29, 3) := by decide +kernel
theorem dX5_init_54 : decode cX5_init 54 = .ok (.aload_n 0, 1) := by decide +kernel
theorem dX5_init_55 : decode cX5_init 55 = .ok (.new 32, 3) := by decide +kernel
theorem dX5_init_58 : decode cX5_init 58 = .ok (.dup, 1) := by decide +kernel
theorem dX5_init_59 : decode cX5_init 59 = .ok (.invokespecial 34, 3) := by decide +kernel
theorem dX5_init_62 : decode cX5_init 62 = .ok (.putfield 35, 3) := by decide +kernel
theorem dX5_init_65 : decode cX5_init 65 = .ok (.aload_n 0, 1) := by decide +kernel
theorem dX5_init_66 : decode cX5_init 66 = .ok (.new 39, 3) := by decide +kernel
theorem dX5_init_69 : decode cX5_init 69 = .ok (.dup, 1) := by decide +kernel
theorem dX5_init_70 : decode cX5_init 70 = .ok (.bipush 8, 2) := by decide +kernel
theorem dX5_init_72 : decode cX5_init 72 = .ok (.aload_n 0, 1) := by decide +kernel
theorem dX5_init_73 : decode cX5_init 73 = .ok (.getfield 16, 3) := by decide +kernel
theorem dX5_init_76 : decode cX5_init 76 = .ok (.invokespecial 41, 3) := by decide +kernel
theorem dX5_init_79 : decode cX5_init 79 = .ok (.putfield 44, 3) := by decide +kernel
theorem dX5_init_82 : decode cX5_init 82 = .ok (.aload_n 0, 1) := by decide +kernel
theorem dX5_init_83 : decode cX5_init 83 = .ok (.new 39, 3) := by decide +kernel
theorem dX5_init_86 : decode cX5_init 86 = .ok (.dup, 1) := by decide +kernel
theorem dX5_init_87 : decode cX5_init 87 = .ok (.iconst 2, 1) := by decide +kernel
theorem dX5_init_88 : decode cX5_init 88 = .ok (.aload_n 0, 1) := by decide +kernel
theorem dX5_init_89 : decode cX5_init 89 = .ok (.getfield 16, 3) := by decide +kernel
theorem dX5_init_92 : decode cX5_init 92 = .ok (.invokespecial 41, 3) := by decide +kernel
theorem dX5_init_95 : decode cX5_init 95 = .ok (.putfield 48, 3) := by decide +kernel
theorem dX5_init_98 : decode cX5_init 98 = .ok (.aload_n 0, 1) := by decide +kernel
theorem dX5_init_99 : decode cX5_init 99 = .ok (.bipush 6, 2) := by decide +kernel
theorem dX5_init_101 : decode cX5_init 101 = .ok (.newarray .int, 2) := by decide +kernel
theorem dX5_init_103 : decode cX5_init 103 = .ok (.putfield 51, 3) := by decide +kernel
theorem dX5_init_106 : decode cX5_init 106 = .ok (.aload_n 0, 1) := by decide +kernel
theorem dX5_init_107 : decode cX5_init 107 = .ok (.bipush 6, 2) := by decide +kernel
theorem dX5_init_109 : decode cX5_init 109 = .ok (.newarray .int, 2) := by decide +kernel
theorem dX5_init_111 : decode cX5_init 111 = .ok (.putfield 55, 3) := by decide +kernel
theorem dX5_init_114 : decode cX5_init 114 = .ok (.aload_n 0, 1) := by decide +kernel
theorem dX5_init_115 : decode cX5_init 115 = .ok (.bipush 6, 2) := by decide +kernel
theorem dX5_init_117 : decode cX5_init 117 = .ok (.newarray .int, 2) := by decide +kernel
theorem dX5_init_119 : decode cX5_init 119 = .ok (.putfield 58, 3) := by decide +kernel
theorem dX5_init_122 : decode cX5_init 122 = .ok (.aload_n 0, 1) := by decide +kernel
theorem dX5_init_123 : decode cX5_init 123 = .ok (.iconst 2, 1) := by decide +kernel
theorem dX5_init_124 : decode cX5_init 124 = .ok (.newarray .int, 2) := by decide +kernel
theorem dX5_init_126 : decode cX5_init 126 = .ok (.putfield 61, 3) := by decide +kernel
theorem dX5_init_129 : decode cX5_init 129 = .ok (.aload_n 0, 1) := by decide +kernel
theorem dX5_init_130 : decode cX5_init 130 = .ok (.bipush 36, 2) := by decide +kernel
theorem dX5_init_132 : decode cX5_init 132 = .ok (.newarray .long, 2) := by decide +kernel
theorem dX5_init_134 : decode cX5_init 134 = .ok (.putfield 64, 3) := by decide +kernel
theorem dX5_init_137 : decode cX5_init 137 = .ok (.ldc 68, 2) := by decide +kernel
theorem dX5_init_139 : decode cX5_init 139 = .ok (.invokevirtual 70, 3) := by decide +kernel
theorem dX5_init_142 : decode cX5_init 142 = .ok (.astore_n 1, 1) := by decide +kernel
theorem dX5_init_143 : decode cX5_init 143 = .ok (.aload_n 0, 1) := by decide +kernel
theorem dX5_init_144 : decode cX5_init 144 = .ok (.getfield 35, 3) := by decide +kernel
theorem dX5_init_147 : decode cX5_init 147 = .ok (.aload_n 1, 1) := by decide +kernel
theorem dX5_init_148 : decode cX5_init 148 = .ok (.aload_n 1, 1) := by decide +kernel
theorem dX5_init_149 : decode cX5_init 149 = .ok (.arraylength, 1) := by decide +kernel
theorem dX5_init_150 : decode cX5_init 150 = .ok (.invokevirtual 76, 3) := by decide +kernel
theorem dX5_init_153 : decode cX5_init 153 = .ok (.pop, 1) := by decide +kernel
theorem dX5_init_154 : decode cX5_init 154 = .ok (.aload_n 0, 1) := by decide +kernel
theorem dX5_init_155 : decode cX5_init 155 = .ok (.getfield 16, 3) := by decide +kernel
theorem dX5_init_158 : decode cX5_init 158 = .ok (.aload_n 0, 1) := by decide +kernel
theorem dX5_init_159 : decode cX5_init 159 = .ok (.getfield 35, 3) := by decide +kernel
theorem dX5_init_162 : decode cX5_init 162 = .ok (.getfield 80, 3) := by decide +kernel
theorem dX5_init_165 : decode cX5_init 165 = .ok (.invokevirtual 81, 3) := by decide +kernel
theorem dX5_init_168 : decode cX5_init 168 = .ok (.aload_n 0, 1) := by decide +kernel
theorem dX5_init_169 : decode cX5_init 169 = .ok (.getfield 25, 3) := by decide +kernel
theorem dX5_init_172 : decode cX5_init 172 = .ok (.aload_n 0, 1) := by decide +kernel
theorem dX5_init_173 : decode cX5_init 173 = .ok (.getfield 35, 3) := by decide +kernel
theorem dX5_init_176 : decode cX5_init 176 = .ok (.getfield 84, 3) := by decide +kernel
theorem dX5_init_179 : decode cX5_init 179 = .ok (.invokevirtual 87, 3) := by decide +kernel
theorem dX5_init_182 : decode cX5_init 182 = .ok (.return_, 1) := by decide +kernel
theorem dX5_write_0 : decode cX5_write 0 = .ok (.iload_n 1, 1) := by decide +kernel
theorem dX5_write_1 : decode cX5_write 1 = .ok (.bipush 32, 2) := by decide +kernel
theorem dX5_write_3 : decode cX5_write 3 = .ok (.if_icmp .lt 9, 3) := by decide +kernel
theorem dX5_write_6 : decode cX5_write 6 = .ok (.iload_n 1, 1) := by decide +kernel
theorem dX5_write_7 : decode cX5_write 7 = .ok (.bipush 126, 2) := by decide +kernel
theorem dX5_write_9 : decode cX5_write 9 = .ok (.if_icmp .le 5, 3) := by decide +kernel
theorem dX5_write_12 : decode cX5_write 12 = .ok (.iconst (-1), 1) := by decide +kernel
theorem dX5_write_13 : decode cX5_write 13 = .ok (.ireturn, 1) := by decide +kernel
theorem dX5_write_14 : decode cX5_write 14 = .ok (.aload_n 0, 1) := by decide +kernel
theorem dX5_write_15 : decode cX5_write 15 = .ok (.getfield 90, 3) := by decide +kernel
theorem dX5_write_18 : decode cX5_write 18 = .ok (.ifCond .lt 15, 3) := by decide +kernel
theorem dX5_write_21 : decode cX5_write 21 = .ok (.aload_n 0, 1) := by decide +kernel
theorem dX5_write_22 : decode cX5_write 22 = .ok (.getfield 90, 3) := by decide +kernel
theorem dX5_write_25 : decode cX5_write 25 = .ok (.aload_n 0, 1) := by decide +kernel
theorem dX5_write_26 : decode cX5_write 26 = .ok (.getfield 9, 3) := by decide +kernel
theorem dX5_write_29 : decode cX5_write 29 = .ok (.arraylength, 1) := by decide +kernel
theorem dX5_write_30 : decode cX5_write 30 = .ok (.if_icmp .lt 6, 3) := by decide +kernel
theorem dX5_write_33 : decode cX5_write 33 = .ok (.bipush (-3), 2) := by decide +kernel
theorem dX5_write_35 : decode cX5_write 35 = .ok (.ireturn, 1) := by decide +kernel
theorem dX5_write_36 : decode cX5_write 36 = .ok (.aload_n 0, 1) := by decide +kernel
theorem dX5_write_37 : decode cX5_write 37 = .ok (.getfield 9, 3) := by decide +kernel
theorem dX5_write_40 : decode cX5_write 40 = .ok (.aload_n 0, 1) := by decide +kernel
theorem dX5_write_41 : decode cX5_write 41 = .ok (.getfield 90, 3) := by decide +kernel
theorem dX5_write_44 : decode cX5_write 44 = .ok (.iload_n 1, 1) := by decide +kernel
theorem dX5_write_45 : decode cX5_write 45 = .ok (.i2c, 1) := by decide +kernel
theorem dX5_write_46 : decode cX5_write 46 = .ok (.castore, 1) := by decide +kernel
theorem dX5_write_47 : decode cX5_write 47 = .ok (.aload_n 0, 1) := by decide +kernel
theorem dX5_write_48 : decode cX5_write 48 = .ok (.dup, 1) := by decide +kernel
theorem dX5_write_49 : decode cX5_write 49 = .ok (.getfield 90, 3) := by decide +kernel
theorem dX5_write_52 : decode cX5_write 52 = .ok (.iconst 1, 1) := by decide +kernel
theorem dX5_write_53 : decode cX5_write 53 = .ok (.iadd, 1) := by decide +kernel
theorem dX5_write_54 : decode cX5_write 54 = .ok (.putfield 90, 3) := by decide +kernel
theorem dX5_write_57 : decode cX5_write 57 = .ok (.aload_n 0, 1) := by decide +kernel
theorem dX5_write_58 : decode cX5_write 58 = .ok (.getfield 90, 3) := by decide +kernel
theorem dX5_write_61 : decode cX5_write 61 = .ok (.ireturn, 1) := by decide +kernel
theorem dX5_wipe_0 : decode cX5_wipe 0 = .ok (.aload_n 0, 1) := by decide +kernel
theorem dX5_wipe_1 : decode cX5_wipe 1 = .ok (.getfield 90, 3) := by decide +kernel
theorem dX5_wipe_4 : decode cX5_wipe 4 = .ok (.istore_n 1, 1) := by decide +kernel
theorem dX5_wipe_5 : decode cX5_wipe 5 = .ok (.aload_n 0, 1) := by decide +kernel
theorem dX5_wipe_6 : decode cX5_wipe 6 = .ok (.iconst 0, 1) := by decide +kernel
theorem dX5_wipe_7 : decode cX5_wipe 7 = .ok (.putfield 90, 3) := by decide +kernel
theorem dX5_wipe_10 : decode cX5_wipe 10 = .ok (.iload_n 1, 1) := by decide +kernel
theorem dX5_wipe_11 : decode cX5_wipe 11 = .ok (.ireturn, 1) := by decide +kernel
theorem dX5_fault_0 : decode cX5_fault 0 = .ok (.aload_n 0, 1) := by decide +kernel
theorem dX5_fault_1 : decode cX5_fault 1 = .ok (.getfield 35, 3) := by decide +kernel
theorem dX5_fault_4 : decode cX5_fault 4 = .ok (.aload_n 0, 1) := by decide +kernel
theorem dX5_fault_5 : decode cX5_fault 5 = .ok (.getfield 9, 3) := by decide +kernel
theorem dX5_fault_8 : decode cX5_fault 8 = .ok (.aload_n 0, 1) := by decide +kernel
theorem dX5_fault_9 : decode cX5_fault 9 = .ok (.getfield 90, 3) := by decide +kernel
theorem dX5_fault_12 : decode cX5_fault 12 = .ok (.invokevirtual 76, 3) := by decide +kernel
theorem dX5_fault_15 : decode cX5_fault 15 = .ok (.ireturn, 1) := by decide +kernel
theorem dX5_lay_0 : decode cX5_lay 0 = .ok (.aload_n 0, 1) := by decide +kernel
theorem dX5_lay_1 : decode cX5_lay 1 = .ok (.getfield 35, 3) := by decide +kernel
theorem dX5_lay_4 : decode cX5_lay 4 = .ok (.aload_n 0, 1) := by decide +kernel
theorem dX5_lay_5 : decode cX5_lay 5 = .ok (.getfield 9, 3) := by decide +kernel
theorem dX5_lay_8 : decode cX5_lay 8 = .ok (.aload_n 0, 1) := by decide +kernel
theorem dX5_lay_9 : decode cX5_lay 9 = .ok (.getfield 90, 3) := by decide +kernel
theorem dX5_lay_12 : decode cX5_lay 12 = .ok (.invokevirtual 76, 3) := by decide +kernel
theorem dX5_lay_15 : decode cX5_lay 15 = .ok (.bipush (-4), 2) := by decide +kernel
theorem dX5_lay_17 : decode cX5_lay 17 = .ok (.if_icmp .ne 16, 3) := by decide +kernel
theorem dX5_lay_20 : decode cX5_lay 20 = .ok (.aload_n 0, 1) := by decide +kernel
theorem dX5_lay_21 : decode cX5_lay 21 = .ok (.getfield 35, 3) := by decide +kernel
theorem dX5_lay_24 : decode cX5_lay 24 = .ok (.getfield 84, 3) := by decide +kernel
theorem dX5_lay_27 : decode cX5_lay 27 = .ok (.getfield 94, 3) := by decide +kernel
theorem dX5_lay_30 : decode cX5_lay 30 = .ok (.ifCond .ne 6, 3) := by decide +kernel
theorem dX5_lay_33 : decode cX5_lay 33 = .ok (.bipush (-2), 2) := by decide +kernel
theorem dX5_lay_35 : decode cX5_lay 35 = .ok (.ireturn, 1) := by decide +kernel
theorem dX5_lay_36 : decode cX5_lay 36 = .ok (.aload_n 0, 1) := by decide +kernel
theorem dX5_lay_37 : decode cX5_lay 37 = .ok (.getfield 16, 3) := by decide +kernel
theorem dX5_lay_40 : decode cX5_lay 40 = .ok (.aload_n 0, 1) := by decide +kernel
theorem dX5_lay_41 : decode cX5_lay 41 = .ok (.getfield 35, 3) := by decide +kernel
theorem dX5_lay_44 : decode cX5_lay 44 = .ok (.getfield 80, 3) := by decide +kernel
theorem dX5_lay_47 : decode cX5_lay 47 = .ok (.invokevirtual 81, 3) := by decide +kernel
theorem dX5_lay_50 : decode cX5_lay 50 = .ok (.aload_n 0, 1) := by decide +kernel
theorem dX5_lay_51 : decode cX5_lay 51 = .ok (.getfield 25, 3) := by decide +kernel
theorem dX5_lay_54 : decode cX5_lay 54 = .ok (.aload_n 0, 1) := by decide +kernel
theorem dX5_lay_55 : decode cX5_lay 55 = .ok (.getfield 35, 3) := by decide +kernel
theorem dX5_lay_58 : decode cX5_lay 58 = .ok (.getfield 84, 3) := by decide +kernel
theorem dX5_lay_61 : decode cX5_lay 61 = .ok (.invokevirtual 87, 3) := by decide +kernel
theorem dX5_lay_64 : decode cX5_lay 64 = .ok (.aload_n 0, 1) := by decide +kernel
theorem dX5_lay_65 : decode cX5_lay 65 = .ok (.iconst 0, 1) := by decide +kernel
theorem dX5_lay_66 : decode cX5_lay 66 = .ok (.putfield 97, 3) := by decide +kernel
theorem dX5_lay_69 : decode cX5_lay 69 = .ok (.aload_n 0, 1) := by decide +kernel
theorem dX5_lay_70 : decode cX5_lay 70 = .ok (.getfield 44, 3) := by decide +kernel
theorem dX5_lay_73 : decode cX5_lay 73 = .ok (.invokevirtual 100, 3) := by decide +kernel
theorem dX5_lay_76 : decode cX5_lay 76 = .ok (.aload_n 0, 1) := by decide +kernel
theorem dX5_lay_77 : decode cX5_lay 77 = .ok (.getfield 48, 3) := by decide +kernel
theorem dX5_lay_80 : decode cX5_lay 80 = .ok (.invokevirtual 100, 3) := by decide +kernel
theorem dX5_lay_83 : decode cX5_lay 83 = .ok (.aload_n 0, 1) := by decide +kernel
theorem dX5_lay_84 : decode cX5_lay 84 = .ok (.getfield 25, 3) := by decide +kernel
theorem dX5_lay_87 : decode cX5_lay 87 = .ok (.getfield 94, 3) := by decide +kernel
theorem dX5_lay_90 : decode cX5_lay 90 = .ok (.ireturn, 1) := by decide +kernel
theorem dX5_cell_0 : decode cX5_cell 0 = .ok (.aload_n 0, 1) := by decide +kernel
theorem dX5_cell_1 : decode cX5_cell 1 = .ok (.getfield 16, 3) := by decide +kernel
theorem dX5_cell_4 : decode cX5_cell 4 = .ok (.iload_n 1, 1) := by decide +kernel
theorem dX5_cell_5 : decode cX5_cell 5 = .ok (.invokevirtual 103, 3) := by decide +kernel
theorem dX5_cell_8 : decode cX5_cell 8 = .ok (.ifCond .ne 5, 3) := by decide +kernel
theorem dX5_cell_11 : decode cX5_cell 11 = .ok (.iconst (-1), 1) := by decide +kernel
theorem dX5_cell_12 : decode cX5_cell 12 = .ok (.ireturn, 1) := by decide +kernel
theorem dX5_cell_13 : decode cX5_cell 13 = .ok (.iload_n 2, 1) := by decide +kernel
theorem dX5_cell_14 : decode cX5_cell 14 = .ok (.tableswitch 77 0 3 #[30, 39, 48, 68], 30) := by decide +kernel
theorem dX5_cell_44 : decode cX5_cell 44 = .ok (.aload_n 0, 1) := by decide +kernel
theorem dX5_cell_45 : decode cX5_cell 45 = .ok (.getfield 16, 3) := by decide +kernel
theorem dX5_cell_48 : decode cX5_cell 48 = .ok (.iload_n 1, 1) := by decide +kernel
theorem dX5_cell_49 : decode cX5_cell 49 = .ok (.invokevirtual 107, 3) := by decide +kernel
theorem dX5_cell_52 : decode cX5_cell 52 = .ok (.ireturn, 1) := by decide +kernel
theorem dX5_cell_53 : decode cX5_cell 53 = .ok (.aload_n 0, 1) := by decide +kernel
theorem dX5_cell_54 : decode cX5_cell 54 = .ok (.getfield 16, 3) := by decide +kernel
theorem dX5_cell_57 : decode cX5_cell 57 = .ok (.iload_n 1, 1) := by decide +kernel
theorem dX5_cell_58 : decode cX5_cell 58 = .ok (.invokevirtual 111, 3) := by decide +kernel
theorem dX5_cell_61 : decode cX5_cell 61 = .ok (.ireturn, 1) := by decide +kernel
theorem dX5_cell_62 : decode cX5_cell 62 = .ok (.aload_n 0, 1) := by decide +kernel
theorem dX5_cell_63 : decode cX5_cell 63 = .ok (.getfield 25, 3) := by decide +kernel
theorem dX5_cell_66 : decode cX5_cell 66 = .ok (.getfield 114, 3) := by decide +kernel
theorem dX5_cell_69 : decode cX5_cell 69 = .ok (.iload_n 1, 1) := by decide +kernel
theorem dX5_cell_70 : decode cX5_cell 70 = .ok (.invokestatic 118, 3) := by decide +kernel
theorem dX5_cell_73 : decode cX5_cell 73 = .ok (.ifCond .eq 7, 3) := by decide +kernel
theorem dX5_cell_76 : decode cX5_cell 76 = .ok (.iconst 1, 1) := by decide +kernel
theorem dX5_cell_77 : decode cX5_cell 77 = .ok (.goto 4, 3) := by decide +kernel
theorem dX5_cell_80 : decode cX5_cell 80 = .ok (.iconst 0, 1) := by decide +kernel
theorem dX5_cell_81 : decode cX5_cell 81 = .ok (.ireturn, 1) := by decide +kernel
theorem dX5_cell_82 : decode cX5_cell 82 = .ok (.aload_n 0, 1) := by decide +kernel
theorem dX5_cell_83 : decode cX5_cell 83 = .ok (.getfield 25, 3) := by decide +kernel
theorem dX5_cell_86 : decode cX5_cell 86 = .ok (.iload_n 1, 1) := by decide +kernel
theorem dX5_cell_87 : decode cX5_cell 87 = .ok (.invokevirtual 122, 3) := by decide +kernel
theorem dX5_cell_90 : decode cX5_cell 90 = .ok (.ireturn, 1) := by decide +kernel
theorem dX5_cell_91 : decode cX5_cell 91 = .ok (.iconst (-1), 1) := by decide +kernel
theorem dX5_cell_92 : decode cX5_cell 92 = .ok (.ireturn, 1) := by decide +kernel
theorem dX5_row_0 : decode cX5_row 0 = .ok (.aload_n 0, 1) := by decide +kernel
theorem dX5_row_1 : decode cX5_row 1 = .ok (.getfield 25, 3) := by decide +kernel
theorem dX5_row_4 : decode cX5_row 4 = .ok (.iload_n 1, 1) := by decide +kernel
theorem dX5_row_5 : decode cX5_row 5 = .ok (.invokevirtual 125, 3) := by decide +kernel
theorem dX5_row_8 : decode cX5_row 8 = .ok (.ifCond .ne 5, 3) := by decide +kernel
theorem dX5_row_11 : decode cX5_row 11 = .ok (.iconst (-1), 1) := by decide +kernel
theorem dX5_row_12 : decode cX5_row 12 = .ok (.ireturn, 1) := by decide +kernel
theorem dX5_row_13 : decode cX5_row 13 = .ok (.aload_n 0, 1) := by decide +kernel
theorem dX5_row_14 : decode cX5_row 14 = .ok (.getfield 25, 3) := by decide +kernel
theorem dX5_row_17 : decode cX5_row 17 = .ok (.getfield 126, 3) := by decide +kernel
theorem dX5_row_20 : decode cX5_row 20 = .ok (.iload_n 1, 1) := by decide +kernel
theorem dX5_row_21 : decode cX5_row 21 = .ok (.aaload, 1) := by decide +kernel
theorem dX5_row_22 : decode cX5_row 22 = .ok (.astore_n 3, 1) := by decide +kernel
theorem dX5_row_23 : decode cX5_row 23 = .ok (.iload_n 2, 1) := by decide +kernel
theorem dX5_row_24 : decode cX5_row 24 = .ok (.tableswitch 76 0 4 #[36, 41, 46, 51, 56], 36) := by decide +kernel
theorem dX5_row_60 : decode cX5_row 60 = .ok (.aload_n 3, 1) := by decide +kernel
theorem dX5_row_61 : decode cX5_row 61 = .ok (.getfield 130, 3) := by decide +kernel
theorem dX5_row_64 : decode cX5_row 64 = .ok (.ireturn, 1) := by decide +kernel
theorem dX5_row_65 : decode cX5_row 65 = .ok (.aload_n 3, 1) := by decide +kernel
theorem dX5_row_66 : decode cX5_row 66 = .ok (.getfield 135, 3) := by decide +kernel
theorem dX5_row_69 : decode cX5_row 69 = .ok (.ireturn, 1) := by decide +kernel
theorem dX5_row_70 : decode cX5_row 70 = .ok (.aload_n 3, 1) := by decide +kernel
theorem dX5_row_71 : decode cX5_row 71 = .ok (.getfield 138, 3) := by decide +kernel
theorem dX5_row_74 : decode cX5_row 74 = .ok (.ireturn, 1) := by decide +kernel
theorem dX5_row_75 : decode cX5_row 75 = .ok (.aload_n 3, 1) := by decide +kernel
theorem dX5_row_76 : decode cX5_row 76 = .ok (.getfield 141, 3) := by decide +kernel
theorem dX5_row_79 : decode cX5_row 79 = .ok (.ireturn, 1) := by decide +kernel
theorem dX5_row_80 : decode cX5_row 80 = .ok (.aload_n 0, 1) := by decide +kernel
theorem dX5_row_81 : decode cX5_row 81 = .ok (.getfield 16, 3) := by decide +kernel
theorem dX5_row_84 : decode cX5_row 84 = .ok (.aload_n 3, 1) := by decide +kernel
theorem dX5_row_85 : decode cX5_row 85 = .ok (.invokevirtual 144, 3) := by decide +kernel
theorem dX5_row_88 : decode cX5_row 88 = .ok (.aload_n 0, 1) := by decide +kernel
theorem dX5_row_89 : decode cX5_row 89 = .ok (.getfield 25, 3) := by decide +kernel
theorem dX5_row_92 : decode cX5_row 92 = .ok (.aload_n 3, 1) := by decide +kernel
theorem dX5_row_93 : decode cX5_row 93 = .ok (.invokevirtual 148, 3) := by decide +kernel
theorem dX5_row_96 : decode cX5_row 96 = .ok (.invokevirtual 152, 3) := by decide +kernel
theorem dX5_row_99 : decode cX5_row 99 = .ok (.ireturn, 1) := by decide +kernel
theorem dX5_row_100 : decode cX5_row 100 = .ok (.iconst (-1), 1) := by decide +kernel
theorem dX5_row_101 : decode cX5_row 101 = .ok (.ireturn, 1) := by decide +kernel
theorem dX5_tree_0 : decode cX5_tree 0 = .ok (.aload_n 0, 1) := by decide +kernel
theorem dX5_tree_1 : decode cX5_tree 1 = .ok (.getfield 25, 3) := by decide +kernel
theorem dX5_tree_4 : decode cX5_tree 4 = .ok (.iload_n 1, 1) := by decide +kernel
theorem dX5_tree_5 : decode cX5_tree 5 = .ok (.invokevirtual 125, 3) := by decide +kernel
theorem dX5_tree_8 : decode cX5_tree 8 = .ok (.ifCond .eq 12, 3) := by decide +kernel
theorem dX5_tree_11 : decode cX5_tree 11 = .ok (.iload_n 2, 1) := by decide +kernel
theorem dX5_tree_12 : decode cX5_tree 12 = .ok (.ifCond .lt 8, 3) := by decide +kernel
theorem dX5_tree_15 : decode cX5_tree 15 = .ok (.iload_n 2, 1) := by decide +kernel
theorem dX5_tree_16 : decode cX5_tree 16 = .ok (.iconst 4, 1) := by decide +kernel
theorem dX5_tree_17 : decode cX5_tree 17 = .ok (.if_icmp .lt 5, 3) := by decide +kernel
theorem dX5_tree_20 : decode cX5_tree 20 = .ok (.iconst (-1), 1) := by decide +kernel
theorem dX5_tree_21 : decode cX5_tree 21 = .ok (.ireturn, 1) := by decide +kernel
theorem dX5_tree_22 : decode cX5_tree 22 = .ok (.aload_n 0, 1) := by decide +kernel
theorem dX5_tree_23 : decode cX5_tree 23 = .ok (.getfield 25, 3) := by decide +kernel
theorem dX5_tree_26 : decode cX5_tree 26 = .ok (.getfield 126, 3) := by decide +kernel
theorem dX5_tree_29 : decode cX5_tree 29 = .ok (.iload_n 1, 1) := by decide +kernel
theorem dX5_tree_30 : decode cX5_tree 30 = .ok (.aaload, 1) := by decide +kernel
theorem dX5_tree_31 : decode cX5_tree 31 = .ok (.iload_n 2, 1) := by decide +kernel
theorem dX5_tree_32 : decode cX5_tree 32 = .ok (.invokevirtual 156, 3) := by decide +kernel
theorem dX5_tree_35 : decode cX5_tree 35 = .ok (.ireturn, 1) := by decide +kernel
theorem dX5_has_0 : decode cX5_has 0 = .ok (.iload_n 1, 1) := by decide +kernel
theorem dX5_has_1 : decode cX5_has 1 = .ok (.invokestatic 159, 3) := by decide +kernel
theorem dX5_has_4 : decode cX5_has 4 = .ok (.ifCond .ne 5, 3) := by decide +kernel
theorem dX5_has_7 : decode cX5_has 7 = .ok (.iconst (-1), 1) := by decide +kernel
theorem dX5_has_8 : decode cX5_has 8 = .ok (.ireturn, 1) := by decide +kernel
theorem dX5_has_9 : decode cX5_has 9 = .ok (.aload_n 0, 1) := by decide +kernel
theorem dX5_has_10 : decode cX5_has 10 = .ok (.getfield 25, 3) := by decide +kernel
theorem dX5_has_13 : decode cX5_has 13 = .ok (.getfield 162, 3) := by decide +kernel
theorem dX5_has_16 : decode cX5_has 16 = .ok (.iload_n 1, 1) := by decide +kernel
theorem dX5_has_17 : decode cX5_has 17 = .ok (.iaload, 1) := by decide +kernel
theorem dX5_has_18 : decode cX5_has 18 = .ok (.ireturn, 1) := by decide +kernel
theorem dX5_pass_0 : decode cX5_pass 0 = .ok (.iload_n 1, 1) := by decide +kernel
theorem dX5_pass_1 : decode cX5_pass 1 = .ok (.iconst 1, 1) := by decide +kernel
theorem dX5_pass_2 : decode cX5_pass 2 = .ok (.bipush 20, 2) := by decide +kernel
theorem dX5_pass_4 : decode cX5_pass 4 = .ok (.invokestatic 165, 3) := by decide +kernel
theorem dX5_pass_7 : decode cX5_pass 7 = .ok (.ifCond .ne 5, 3) := by decide +kernel
theorem dX5_pass_10 : decode cX5_pass 10 = .ok (.iconst (-1), 1) := by decide +kernel
theorem dX5_pass_11 : decode cX5_pass 11 = .ok (.ireturn, 1) := by decide +kernel
theorem dX5_pass_12 : decode cX5_pass 12 = .ok (.aload_n 0, 1) := by decide +kernel
theorem dX5_pass_13 : decode cX5_pass 13 = .ok (.getfield 44, 3) := by decide +kernel
theorem dX5_pass_16 : decode cX5_pass 16 = .ok (.aload_n 0, 1) := by decide +kernel
theorem dX5_pass_17 : decode cX5_pass 17 = .ok (.getfield 25, 3) := by decide +kernel
theorem dX5_pass_20 : decode cX5_pass 20 = .ok (.invokevirtual 169, 3) := by decide +kernel
theorem dX5_pass_23 : decode cX5_pass 23 = .ok (.aload_n 0, 1) := by decide +kernel
theorem dX5_pass_24 : decode cX5_pass 24 = .ok (.getfield 25, 3) := by decide +kernel
theorem dX5_pass_27 : decode cX5_pass 27 = .ok (.iload_n 1, 1) := by decide +kernel
theorem dX5_pass_28 : decode cX5_pass 28 = .ok (.invokevirtual 172, 3) := by decide +kernel
theorem dX5_pass_31 : decode cX5_pass 31 = .ok (.aload_n 0, 1) := by decide +kernel
theorem dX5_pass_32 : decode cX5_pass 32 = .ok (.getfield 25, 3) := by decide +kernel
theorem dX5_pass_35 : decode cX5_pass 35 = .ok (.getfield 176, 3) := by decide +kernel
theorem dX5_pass_38 : decode cX5_pass 38 = .ok (.ireturn, 1) := by decide +kernel
theorem dX5_dig_0 : decode cX5_dig 0 = .ok (.aload_n 0, 1) := by decide +kernel
theorem dX5_dig_1 : decode cX5_dig 1 = .ok (.getfield 16, 3) := by decide +kernel
theorem dX5_dig_4 : decode cX5_dig 4 = .ok (.iload_n 1, 1) := by decide +kernel
theorem dX5_dig_5 : decode cX5_dig 5 = .ok (.invokevirtual 103, 3) := by decide +kernel
theorem dX5_dig_8 : decode cX5_dig 8 = .ok (.ifCond .ne 5, 3) := by decide +kernel
theorem dX5_dig_11 : decode cX5_dig 11 = .ok (.iconst (-1), 1) := by decide +kernel
theorem dX5_dig_12 : decode cX5_dig 12 = .ok (.ireturn, 1) := by decide +kernel
theorem dX5_dig_13 : decode cX5_dig 13 = .ok (.aload_n 0, 1) := by decide +kernel
theorem dX5_dig_14 : decode cX5_dig 14 = .ok (.getfield 25, 3) := by decide +kernel
theorem dX5_dig_17 : decode cX5_dig 17 = .ok (.iload_n 1, 1) := by decide +kernel
theorem dX5_dig_18 : decode cX5_dig 18 = .ok (.invokevirtual 179, 3) := by decide +kernel
theorem dX5_dig_21 : decode cX5_dig 21 = .ok (.ifCond .ne 6, 3) := by decide +kernel
theorem dX5_dig_24 : decode cX5_dig 24 = .ok (.bipush (-2), 2) := by decide +kernel
theorem dX5_dig_26 : decode cX5_dig 26 = .ok (.ireturn, 1) := by decide +kernel
theorem dX5_dig_27 : decode cX5_dig 27 = .ok (.aload_n 0, 1) := by decide +kernel
theorem dX5_dig_28 : decode cX5_dig 28 = .ok (.getfield 44, 3) := by decide +kernel
theorem dX5_dig_31 : decode cX5_dig 31 = .ok (.aload_n 0, 1) := by decide +kernel
theorem dX5_dig_32 : decode cX5_dig 32 = .ok (.getfield 25, 3) := by decide +kernel
theorem dX5_dig_35 : decode cX5_dig 35 = .ok (.invokevirtual 169, 3) := by decide +kernel
theorem dX5_dig_38 : decode cX5_dig 38 = .ok (.aload_n 0, 1) := by decide +kernel
theorem dX5_dig_39 : decode cX5_dig 39 = .ok (.getfield 25, 3) := by decide +kernel
theorem dX5_dig_42 : decode cX5_dig 42 = .ok (.iload_n 1, 1) := by decide +kernel
theorem dX5_dig_43 : decode cX5_dig 43 = .ok (.invokevirtual 182, 3) := by decide +kernel
theorem dX5_dig_46 : decode cX5_dig 46 = .ok (.aload_n 0, 1) := by decide +kernel
theorem dX5_dig_47 : decode cX5_dig 47 = .ok (.getfield 25, 3) := by decide +kernel
theorem dX5_dig_50 : decode cX5_dig 50 = .ok (.getfield 114, 3) := by decide +kernel
theorem dX5_dig_53 : decode cX5_dig 53 = .ok (.invokestatic 185, 3) := by decide +kernel
theorem dX5_dig_56 : decode cX5_dig 56 = .ok (.ireturn, 1) := by decide +kernel
theorem dX5_fill_0 : decode cX5_fill 0 = .ok (.aload_n 0, 1) := by decide +kernel
theorem dX5_fill_1 : decode cX5_fill 1 = .ok (.getfield 16, 3) := by decide +kernel
theorem dX5_fill_4 : decode cX5_fill 4 = .ok (.iload_n 1, 1) := by decide +kernel
theorem dX5_fill_5 : decode cX5_fill 5 = .ok (.invokevirtual 103, 3) := by decide +kernel
theorem dX5_fill_8 : decode cX5_fill 8 = .ok (.ifCond .ne 5, 3) := by decide +kernel
theorem dX5_fill_11 : decode cX5_fill 11 = .ok (.iconst (-1), 1) := by decide +kernel
theorem dX5_fill_12 : decode cX5_fill 12 = .ok (.ireturn, 1) := by decide +kernel
theorem dX5_fill_13 : decode cX5_fill 13 = .ok (.aload_n 0, 1) := by decide +kernel
theorem dX5_fill_14 : decode cX5_fill 14 = .ok (.getfield 25, 3) := by decide +kernel
theorem dX5_fill_17 : decode cX5_fill 17 = .ok (.getfield 114, 3) := by decide +kernel
theorem dX5_fill_20 : decode cX5_fill 20 = .ok (.iload_n 1, 1) := by decide +kernel
theorem dX5_fill_21 : decode cX5_fill 21 = .ok (.invokestatic 118, 3) := by decide +kernel
theorem dX5_fill_24 : decode cX5_fill 24 = .ok (.ifCond .ne 6, 3) := by decide +kernel
theorem dX5_fill_27 : decode cX5_fill 27 = .ok (.bipush (-2), 2) := by decide +kernel
theorem dX5_fill_29 : decode cX5_fill 29 = .ok (.ireturn, 1) := by decide +kernel
theorem dX5_fill_30 : decode cX5_fill 30 = .ok (.aload_n 0, 1) := by decide +kernel
theorem dX5_fill_31 : decode cX5_fill 31 = .ok (.getfield 44, 3) := by decide +kernel
theorem dX5_fill_34 : decode cX5_fill 34 = .ok (.aload_n 0, 1) := by decide +kernel
theorem dX5_fill_35 : decode cX5_fill 35 = .ok (.getfield 25, 3) := by decide +kernel
theorem dX5_fill_38 : decode cX5_fill 38 = .ok (.invokevirtual 169, 3) := by decide +kernel
theorem dX5_fill_41 : decode cX5_fill 41 = .ok (.aload_n 0, 1) := by decide +kernel
theorem dX5_fill_42 : decode cX5_fill 42 = .ok (.getfield 25, 3) := by decide +kernel
theorem dX5_fill_45 : decode cX5_fill 45 = .ok (.iload_n 1, 1) := by decide +kernel
theorem dX5_fill_46 : decode cX5_fill 46 = .ok (.invokevirtual 191, 3) := by decide +kernel
theorem dX5_fill_49 : decode cX5_fill 49 = .ok (.aload_n 0, 1) := by decide +kernel
theorem dX5_fill_50 : decode cX5_fill 50 = .ok (.getfield 25, 3) := by decide +kernel
theorem dX5_fill_53 : decode cX5_fill 53 = .ok (.getfield 114, 3) := by decide +kernel
theorem dX5_fill_56 : decode cX5_fill 56 = .ok (.invokestatic 185, 3) := by decide +kernel
theorem dX5_fill_59 : decode cX5_fill 59 = .ok (.ireturn, 1) := by decide +kernel
theorem dX5_leave_0 : decode cX5_leave 0 = .ok (.aload_n 0, 1) := by decide +kernel
theorem dX5_leave_1 : decode cX5_leave 1 = .ok (.getfield 25, 3) := by decide +kernel
theorem dX5_leave_4 : decode cX5_leave 4 = .ok (.iload_n 1, 1) := by decide +kernel
theorem dX5_leave_5 : decode cX5_leave 5 = .ok (.invokevirtual 125, 3) := by decide +kernel
theorem dX5_leave_8 : decode cX5_leave 8 = .ok (.ifCond .ne 5, 3) := by decide +kernel
theorem dX5_leave_11 : decode cX5_leave 11 = .ok (.iconst (-1), 1) := by decide +kernel
theorem dX5_leave_12 : decode cX5_leave 12 = .ok (.ireturn, 1) := by decide +kernel
theorem dX5_leave_13 : decode cX5_leave 13 = .ok (.aload_n 0, 1) := by decide +kernel
theorem dX5_leave_14 : decode cX5_leave 14 = .ok (.getfield 25, 3) := by decide +kernel
theorem dX5_leave_17 : decode cX5_leave 17 = .ok (.getfield 126, 3) := by decide +kernel
theorem dX5_leave_20 : decode cX5_leave 20 = .ok (.iload_n 1, 1) := by decide +kernel
theorem dX5_leave_21 : decode cX5_leave 21 = .ok (.aaload, 1) := by decide +kernel
theorem dX5_leave_22 : decode cX5_leave 22 = .ok (.getfield 141, 3) := by decide +kernel
theorem dX5_leave_25 : decode cX5_leave 25 = .ok (.iconst 2, 1) := by decide +kernel
theorem dX5_leave_26 : decode cX5_leave 26 = .ok (.if_icmp .ge 6, 3) := by decide +kernel
theorem dX5_leave_29 : decode cX5_leave 29 = .ok (.bipush (-2), 2) := by decide +kernel
theorem dX5_leave_31 : decode cX5_leave 31 = .ok (.ireturn, 1) := by decide +kernel
theorem dX5_leave_32 : decode cX5_leave 32 = .ok (.aload_n 0, 1) := by decide +kernel
theorem dX5_leave_33 : decode cX5_leave 33 = .ok (.getfield 44, 3) := by decide +kernel
theorem dX5_leave_36 : decode cX5_leave 36 = .ok (.aload_n 0, 1) := by decide +kernel
theorem dX5_leave_37 : decode cX5_leave 37 = .ok (.getfield 25, 3) := by decide +kernel
theorem dX5_leave_40 : decode cX5_leave 40 = .ok (.invokevirtual 169, 3) := by decide +kernel
theorem dX5_leave_43 : decode cX5_leave 43 = .ok (.aload_n 0, 1) := by decide +kernel
theorem dX5_leave_44 : decode cX5_leave 44 = .ok (.getfield 25, 3) := by decide +kernel
theorem dX5_leave_47 : decode cX5_leave 47 = .ok (.aload_n 0, 1) := by decide +kernel
theorem dX5_leave_48 : decode cX5_leave 48 = .ok (.getfield 25, 3) := by decide +kernel
theorem dX5_leave_51 : decode cX5_leave 51 = .ok (.getfield 126, 3) := by decide +kernel
theorem dX5_leave_54 : decode cX5_leave 54 = .ok (.iload_n 1, 1) := by decide +kernel
theorem dX5_leave_55 : decode cX5_leave 55 = .ok (.aaload, 1) := by decide +kernel
theorem dX5_leave_56 : decode cX5_leave 56 = .ok (.invokevirtual 194, 3) := by decide +kernel
theorem dX5_leave_59 : decode cX5_leave 59 = .ok (.ireturn, 1) := by decide +kernel
theorem dX5_undo_0 : decode cX5_undo 0 = .ok (.aload_n 0, 1) := by decide +kernel
theorem dX5_undo_1 : decode cX5_undo 1 = .ok (.getfield 44, 3) := by decide +kernel
theorem dX5_undo_4 : decode cX5_undo 4 = .ok (.getfield 197, 3) := by decide +kernel
theorem dX5_undo_7 : decode cX5_undo 7 = .ok (.ifCond .ne 6, 3) := by decide +kernel
theorem dX5_undo_10 : decode cX5_undo 10 = .ok (.bipush (-2), 2) := by decide +kernel
theorem dX5_undo_12 : decode cX5_undo 12 = .ok (.ireturn, 1) := by decide +kernel
theorem dX5_undo_13 : decode cX5_undo 13 = .ok (.aload_n 0, 1) := by decide +kernel
theorem dX5_undo_14 : decode cX5_undo 14 = .ok (.getfield 44, 3) := by decide +kernel
theorem dX5_undo_17 : decode cX5_undo 17 = .ok (.aload_n 0, 1) := by decide +kernel
theorem dX5_undo_18 : decode cX5_undo 18 = .ok (.getfield 25, 3) := by decide +kernel
theorem dX5_undo_21 : decode cX5_undo 21 = .ok (.invokevirtual 200, 3) := by decide +kernel
theorem dX5_undo_24 : decode cX5_undo 24 = .ok (.aload_n 0, 1) := by decide +kernel
theorem dX5_undo_25 : decode cX5_undo 25 = .ok (.getfield 44, 3) := by decide +kernel
theorem dX5_undo_28 : decode cX5_undo 28 = .ok (.getfield 197, 3) := by decide +kernel
theorem dX5_undo_31 : decode cX5_undo 31 = .ok (.ireturn, 1) := by decide +kernel
theorem dX5_behind_0 : decode cX5_behind 0 = .ok (.iload_n 1, 1) := by decide +kernel
theorem dX5_behind_1 : decode cX5_behind 1 = .ok (.iconst 0, 1) := by decide +kernel
theorem dX5_behind_2 : decode cX5_behind 2 = .ok (.bipush 60, 2) := by decide +kernel
theorem dX5_behind_4 : decode cX5_behind 4 = .ok (.invokestatic 165, 3) := by decide +kernel
theorem dX5_behind_7 : decode cX5_behind 7 = .ok (.ifCond .eq 14, 3) := by decide +kernel
theorem dX5_behind_10 : decode cX5_behind 10 = .ok (.aload_n 0, 1) := by decide +kernel
theorem dX5_behind_11 : decode cX5_behind 11 = .ok (.getfield 25, 3) := by decide +kernel
theorem dX5_behind_14 : decode cX5_behind 14 = .ok (.iload_n 2, 1) := by decide +kernel
theorem dX5_behind_15 : decode cX5_behind 15 = .ok (.invokevirtual 125, 3) := by decide +kernel
theorem dX5_behind_18 : decode cX5_behind 18 = .ok (.ifCond .ne 5, 3) := by decide +kernel
theorem dX5_behind_21 : decode cX5_behind 21 = .ok (.iconst (-1), 1) := by decide +kernel
theorem dX5_behind_22 : decode cX5_behind 22 = .ok (.ireturn, 1) := by decide +kernel
theorem dX5_behind_23 : decode cX5_behind 23 = .ok (.aload_n 0, 1) := by decide +kernel
theorem dX5_behind_24 : decode cX5_behind 24 = .ok (.iload_n 1, 1) := by decide +kernel
theorem dX5_behind_25 : decode cX5_behind 25 = .ok (.iload_n 2, 1) := by decide +kernel
theorem dX5_behind_26 : decode cX5_behind 26 = .ok (.lconst 0, 1) := by decide +kernel
theorem dX5_behind_27 : decode cX5_behind 27 = .ok (.invokevirtual 203, 3) := by decide +kernel
theorem dX5_behind_30 : decode cX5_behind 30 = .ok (.ireturn, 1) := by decide +kernel
theorem dX5_wealth_0 : decode cX5_wealth 0 = .ok (.iload_n 1, 1) := by decide +kernel
theorem dX5_wealth_1 : decode cX5_wealth 1 = .ok (.iconst 0, 1) := by decide +kernel
theorem dX5_wealth_2 : decode cX5_wealth 2 = .ok (.bipush 60, 2) := by decide +kernel
theorem dX5_wealth_4 : decode cX5_wealth 4 = .ok (.invokestatic 165, 3) := by decide +kernel
theorem dX5_wealth_7 : decode cX5_wealth 7 = .ok (.ifCond .eq 10, 3) := by decide +kernel
theorem dX5_wealth_10 : decode cX5_wealth 10 = .ok (.iload_n 2, 1) := by decide +kernel
theorem dX5_wealth_11 : decode cX5_wealth 11 = .ok (.invokestatic 159, 3) := by decide +kernel
theorem dX5_wealth_14 : decode cX5_wealth 14 = .ok (.ifCond .ne 5, 3) := by decide +kernel
theorem dX5_wealth_17 : decode cX5_wealth 17 = .ok (.iconst (-1), 1) := by decide +kernel
theorem dX5_wealth_18 : decode cX5_wealth 18 = .ok (.ireturn, 1) := by decide +kernel
theorem dX5_wealth_19 : decode cX5_wealth 19 = .ok (.aload_n 0, 1) := by decide +kernel
theorem dX5_wealth_20 : decode cX5_wealth 20 = .ok (.iload_n 1, 1) := by decide +kernel
theorem dX5_wealth_21 : decode cX5_wealth 21 = .ok (.iload_n 2, 1) := by decide +kernel
theorem dX5_wealth_22 : decode cX5_wealth 22 = .ok (.lconst 0, 1) := by decide +kernel
theorem dX5_wealth_23 : decode cX5_wealth 23 = .ok (.invokevirtual 207, 3) := by decide +kernel
theorem dX5_wealth_26 : decode cX5_wealth 26 = .ok (.ireturn, 1) := by decide +kernel
theorem dX5_comes_0 : decode cX5_comes 0 = .ok (.aload_n 0, 1) := by decide +kernel
theorem dX5_comes_1 : decode cX5_comes 1 = .ok (.getfield 25, 3) := by decide +kernel
theorem dX5_comes_4 : decode cX5_comes 4 = .ok (.iload_n 1, 1) := by decide +kernel
theorem dX5_comes_5 : decode cX5_comes 5 = .ok (.invokevirtual 125, 3) := by decide +kernel
theorem dX5_comes_8 : decode cX5_comes 8 = .ok (.ifCond .eq 14, 3) := by decide +kernel
theorem dX5_comes_11 : decode cX5_comes 11 = .ok (.aload_n 0, 1) := by decide +kernel
theorem dX5_comes_12 : decode cX5_comes 12 = .ok (.getfield 16, 3) := by decide +kernel
theorem dX5_comes_15 : decode cX5_comes 15 = .ok (.iload_n 2, 1) := by decide +kernel
theorem dX5_comes_16 : decode cX5_comes 16 = .ok (.invokevirtual 103, 3) := by decide +kernel
theorem dX5_comes_19 : decode cX5_comes 19 = .ok (.ifCond .ne 5, 3) := by decide +kernel
theorem dX5_comes_22 : decode cX5_comes 22 = .ok (.iconst (-1), 1) := by decide +kernel
theorem dX5_comes_23 : decode cX5_comes 23 = .ok (.ireturn, 1) := by decide +kernel
theorem dX5_comes_24 : decode cX5_comes 24 = .ok (.aload_n 0, 1) := by decide +kernel
theorem dX5_comes_25 : decode cX5_comes 25 = .ok (.getfield 29, 3) := by decide +kernel
theorem dX5_comes_28 : decode cX5_comes 28 = .ok (.aload_n 0, 1) := by decide +kernel
theorem dX5_comes_29 : decode cX5_comes 29 = .ok (.getfield 25, 3) := by decide +kernel
theorem dX5_comes_32 : decode cX5_comes 32 = .ok (.invokevirtual 87, 3) := by decide +kernel
theorem dX5_comes_35 : decode cX5_comes 35 = .ok (.iconst 0, 1) := by decide +kernel
theorem dX5_comes_36 : decode cX5_comes 36 = .ok (.istore_n 3, 1) := by decide +kernel
theorem dX5_comes_37 : decode cX5_comes 37 = .ok (.iload_n 3, 1) := by decide +kernel
theorem dX5_comes_38 : decode cX5_comes 38 = .ok (.bipush 60, 2) := by decide +kernel
theorem dX5_comes_40 : decode cX5_comes 40 = .ok (.if_icmp .gt 36, 3) := by decide +kernel
theorem dX5_comes_43 : decode cX5_comes 43 = .ok (.aload_n 0, 1) := by decide +kernel
theorem dX5_comes_44 : decode cX5_comes 44 = .ok (.getfield 29, 3) := by decide +kernel
theorem dX5_comes_47 : decode cX5_comes 47 = .ok (.getfield 126, 3) := by decide +kernel
theorem dX5_comes_50 : decode cX5_comes 50 = .ok (.iload_n 1, 1) := by decide +kernel
theorem dX5_comes_51 : decode cX5_comes 51 = .ok (.aaload, 1) := by decide +kernel
theorem dX5_comes_52 : decode cX5_comes 52 = .ok (.invokevirtual 144, 3) := by decide +kernel
theorem dX5_comes_55 : decode cX5_comes 55 = .ok (.iload_n 2, 1) := by decide +kernel
theorem dX5_comes_56 : decode cX5_comes 56 = .ok (.if_icmp .ne 5, 3) := by decide +kernel
theorem dX5_comes_59 : decode cX5_comes 59 = .ok (.iload_n 3, 1) := by decide +kernel
theorem dX5_comes_60 : decode cX5_comes 60 = .ok (.ireturn, 1) := by decide +kernel
theorem dX5_comes_61 : decode cX5_comes 61 = .ok (.aload_n 0, 1) := by decide +kernel
theorem dX5_comes_62 : decode cX5_comes 62 = .ok (.getfield 29, 3) := by decide +kernel
theorem dX5_comes_65 : decode cX5_comes 65 = .ok (.bipush (-4), 2) := by decide +kernel
theorem dX5_comes_67 : decode cX5_comes 67 = .ok (.invokevirtual 210, 3) := by decide +kernel
theorem dX5_comes_70 : decode cX5_comes 70 = .ok (.iinc 3 1, 3) := by decide +kernel
theorem dX5_comes_73 : decode cX5_comes 73 = .ok (.goto (-36), 3) := by decide +kernel
theorem dX5_comes_76 : decode cX5_comes 76 = .ok (.bipush (-4), 2) := by decide +kernel
theorem dX5_comes_78 : decode cX5_comes 78 = .ok (.ireturn, 1) := by decide +kernel
theorem dX5_meet_0 : decode cX5_meet 0 = .ok (.aload_n 0, 1) := by decide +kernel
theorem dX5_meet_1 : decode cX5_meet 1 = .ok (.getfield 25, 3) := by decide +kernel
theorem dX5_meet_4 : decode cX5_meet 4 = .ok (.iload_n 1, 1) := by decide +kernel
theorem dX5_meet_5 : decode cX5_meet 5 = .ok (.invokevirtual 125, 3) := by decide +kernel
theorem dX5_meet_8 : decode cX5_meet 8 = .ok (.ifCond .eq 19, 3) := by decide +kernel
theorem dX5_meet_11 : decode cX5_meet 11 = .ok (.aload_n 0, 1) := by decide +kernel
theorem dX5_meet_12 : decode cX5_meet 12 = .ok (.getfield 25, 3) := by decide +kernel
theorem dX5_meet_15 : decode cX5_meet 15 = .ok (.iload_n 2, 1) := by decide +kernel
theorem dX5_meet_16 : decode cX5_meet 16 = .ok (.invokevirtual 125, 3) := by decide +kernel
theorem dX5_meet_19 : decode cX5_meet 19 = .ok (.ifCond .eq 8, 3) := by decide +kernel
theorem dX5_meet_22 : decode cX5_meet 22 = .ok (.iload_n 1, 1) := by decide +kernel
theorem dX5_meet_23 : decode cX5_meet 23 = .ok (.iload_n 2, 1) := by decide +kernel
theorem dX5_meet_24 : decode cX5_meet 24 = .ok (.if_icmp .ne 5, 3) := by decide +kernel
theorem dX5_meet_27 : decode cX5_meet 27 = .ok (.iconst (-1), 1) := by decide +kernel
theorem dX5_meet_28 : decode cX5_meet 28 = .ok (.ireturn, 1) := by decide +kernel
theorem dX5_meet_29 : decode cX5_meet 29 = .ok (.aload_n 0, 1) := by decide +kernel
theorem dX5_meet_30 : decode cX5_meet 30 = .ok (.getfield 29, 3) := by decide +kernel
theorem dX5_meet_33 : decode cX5_meet 33 = .ok (.aload_n 0, 1) := by decide +kernel
theorem dX5_meet_34 : decode cX5_meet 34 = .ok (.getfield 25, 3) := by decide +kernel
theorem dX5_meet_37 : decode cX5_meet 37 = .ok (.invokevirtual 87, 3) := by decide +kernel
theorem dX5_meet_40 : decode cX5_meet 40 = .ok (.iconst 0, 1) := by decide +kernel
theorem dX5_meet_41 : decode cX5_meet 41 = .ok (.istore_n 3, 1) := by decide +kernel
theorem dX5_meet_42 : decode cX5_meet 42 = .ok (.iload_n 3, 1) := by decide +kernel
theorem dX5_meet_43 : decode cX5_meet 43 = .ok (.bipush 60, 2) := by decide +kernel
theorem dX5_meet_45 : decode cX5_meet 45 = .ok (.if_icmp .gt 48, 3) := by decide +kernel
theorem dX5_meet_48 : decode cX5_meet 48 = .ok (.aload_n 0, 1) := by decide +kernel
theorem dX5_meet_49 : decode cX5_meet 49 = .ok (.getfield 29, 3) := by decide +kernel
theorem dX5_meet_52 : decode cX5_meet 52 = .ok (.aload_n 0, 1) := by decide +kernel
theorem dX5_meet_53 : decode cX5_meet 53 = .ok (.getfield 29, 3) := by decide +kernel
theorem dX5_meet_56 : decode cX5_meet 56 = .ok (.getfield 126, 3) := by decide +kernel
theorem dX5_meet_59 : decode cX5_meet 59 = .ok (.iload_n 1, 1) := by decide +kernel
theorem dX5_meet_60 : decode cX5_meet 60 = .ok (.aaload, 1) := by decide +kernel
theorem dX5_meet_61 : decode cX5_meet 61 = .ok (.aload_n 0, 1) := by decide +kernel
theorem dX5_meet_62 : decode cX5_meet 62 = .ok (.getfield 29, 3) := by decide +kernel
theorem dX5_meet_65 : decode cX5_meet 65 = .ok (.getfield 126, 3) := by decide +kernel
theorem dX5_meet_68 : decode cX5_meet 68 = .ok (.iload_n 2, 1) := by decide +kernel
theorem dX5_meet_69 : decode cX5_meet 69 = .ok (.aaload, 1) := by decide +kernel
theorem dX5_meet_70 : decode cX5_meet 70 = .ok (.invokevirtual 213, 3) := by decide +kernel
theorem dX5_meet_73 : decode cX5_meet 73 = .ok (.ifCond .eq 5, 3) := by decide +kernel
theorem dX5_meet_76 : decode cX5_meet 76 = .ok (.iload_n 3, 1) := by decide +kernel
theorem dX5_meet_77 : decode cX5_meet 77 = .ok (.ireturn, 1) := by decide +kernel
theorem dX5_meet_78 : decode cX5_meet 78 = .ok (.aload_n 0, 1) := by decide +kernel
theorem dX5_meet_79 : decode cX5_meet 79 = .ok (.getfield 29, 3) := by decide +kernel
theorem dX5_meet_82 : decode cX5_meet 82 = .ok (.bipush (-4), 2) := by decide +kernel
theorem dX5_meet_84 : decode cX5_meet 84 = .ok (.invokevirtual 210, 3) := by decide +kernel
theorem dX5_meet_87 : decode cX5_meet 87 = .ok (.iinc 3 1, 3) := by decide +kernel
theorem dX5_meet_90 : decode cX5_meet 90 = .ok (.goto (-48), 3) := by decide +kernel
theorem dX5_meet_93 : decode cX5_meet 93 = .ok (.bipush (-4), 2) := by decide +kernel
theorem dX5_meet_95 : decode cX5_meet 95 = .ok (.ireturn, 1) := by decide +kernel
theorem dX5_again_0 : decode cX5_again 0 = .ok (.aload_n 0, 1) := by decide +kernel
theorem dX5_again_1 : decode cX5_again 1 = .ok (.getfield 29, 3) := by decide +kernel
theorem dX5_again_4 : decode cX5_again 4 = .ok (.aload_n 0, 1) := by decide +kernel
theorem dX5_again_5 : decode cX5_again 5 = .ok (.getfield 25, 3) := by decide +kernel
theorem dX5_again_8 : decode cX5_again 8 = .ok (.invokevirtual 87, 3) := by decide +kernel
theorem dX5_again_11 : decode cX5_again 11 = .ok (.iconst 1, 1) := by decide +kernel
theorem dX5_again_12 : decode cX5_again 12 = .ok (.istore_n 1, 1) := by decide +kernel
theorem dX5_again_13 : decode cX5_again 13 = .ok (.iload_n 1, 1) := by decide +kernel
theorem dX5_again_14 : decode cX5_again 14 = .ok (.sipush 200, 3) := by decide +kernel
theorem dX5_again_17 : decode cX5_again 17 = .ok (.if_icmp .gt 34, 3) := by decide +kernel
theorem dX5_again_20 : decode cX5_again 20 = .ok (.aload_n 0, 1) := by decide +kernel
theorem dX5_again_21 : decode cX5_again 21 = .ok (.getfield 29, 3) := by decide +kernel
theorem dX5_again_24 : decode cX5_again 24 = .ok (.bipush (-4), 2) := by decide +kernel
theorem dX5_again_26 : decode cX5_again 26 = .ok (.invokevirtual 210, 3) := by decide +kernel
theorem dX5_again_29 : decode cX5_again 29 = .ok (.aload_n 0, 1) := by decide +kernel
theorem dX5_again_30 : decode cX5_again 30 = .ok (.getfield 29, 3) := by decide +kernel
theorem dX5_again_33 : decode cX5_again 33 = .ok (.aload_n 0, 1) := by decide +kernel
theorem dX5_again_34 : decode cX5_again 34 = .ok (.getfield 25, 3) := by decide +kernel
theorem dX5_again_37 : decode cX5_again 37 = .ok (.invokevirtual 217, 3) := by decide +kernel
theorem dX5_again_40 : decode cX5_again 40 = .ok (.ifCond .eq 5, 3) := by decide +kernel
theorem dX5_again_43 : decode cX5_again 43 = .ok (.iload_n 1, 1) := by decide +kernel
theorem dX5_again_44 : decode cX5_again 44 = .ok (.ireturn, 1) := by decide +kernel
theorem dX5_again_45 : decode cX5_again 45 = .ok (.iinc 1 1, 3) := by decide +kernel
theorem dX5_again_48 : decode cX5_again 48 = .ok (.goto (-35), 3) := by decide +kernel
theorem dX5_again_51 : decode cX5_again 51 = .ok (.bipush (-4), 2) := by decide +kernel
theorem dX5_again_53 : decode cX5_again 53 = .ok (.ireturn, 1) := by decide +kernel
theorem dX5_ditches_0 : decode cX5_ditches 0 = .ok (.aload_n 0, 1) := by decide +kernel
theorem dX5_ditches_1 : decode cX5_ditches 1 = .ok (.getfield 25, 3) := by decide +kernel
theorem dX5_ditches_4 : decode cX5_ditches 4 = .ok (.iload_n 1, 1) := by decide +kernel
theorem dX5_ditches_5 : decode cX5_ditches 5 = .ok (.invokevirtual 125, 3) := by decide +kernel
end
section
theorem dX5_ditches_8 : decode cX5_ditches 8 = .ok (.ifCond .eq 34, 3) := by decide +kernel
theorem dX5_ditches_11 : decode cX5_ditches 11 = .ok (.aload_n 0, 1) := by decide +kernel
theorem dX5_ditches_12 : decode cX5_ditches 12 = .ok (.getfield 16, 3) := by decide +kernel
theorem dX5_ditches_15 : decode cX5_ditches 15 = .ok (.iload_n 2, 1) := by decide +kernel
theorem dX5_ditches_16 : decode cX5_ditches 16 = .ok (.invokevirtual 103, 3) := by decide +kernel
theorem dX5_ditches_19 : decode cX5_ditches 19 = .ok (.ifCond .eq 23, 3) := by decide +kernel
theorem dX5_ditches_22 : decode cX5_ditches 22 = .ok (.iload_n 3, 1) := by decide +kernel
theorem dX5_ditches_23 : decode cX5_ditches 23 = .ok (.iconst 1, 1) := by decide +kernel
theorem dX5_ditches_24 : decode cX5_ditches 24 = .ok (.bipush 20, 2) := by decide +kernel
theorem dX5_ditches_26 : decode cX5_ditches 26 = .ok (.invokestatic 165, 3) := by decide +kernel
theorem dX5_ditches_29 : decode cX5_ditches 29 = .ok (.ifCond .eq 13, 3) := by decide +kernel
theorem dX5_ditches_32 : decode cX5_ditches 32 = .ok (.iload 4, 2) := by decide +kernel
theorem dX5_ditches_34 : decode cX5_ditches 34 = .ok (.iconst (-1), 1) := by decide +kernel
theorem dX5_ditches_35 : decode cX5_ditches 35 = .ok (.iconst 1, 1) := by decide +kernel
theorem dX5_ditches_36 : decode cX5_ditches 36 = .ok (.invokestatic 165, 3) := by decide +kernel
theorem dX5_ditches_39 : decode cX5_ditches 39 = .ok (.ifCond .ne 5, 3) := by decide +kernel
theorem dX5_ditches_42 : decode cX5_ditches 42 = .ok (.iconst (-1), 1) := by decide +kernel
theorem dX5_ditches_43 : decode cX5_ditches 43 = .ok (.ireturn, 1) := by decide +kernel
theorem dX5_ditches_44 : decode cX5_ditches 44 = .ok (.aload_n 0, 1) := by decide +kernel
theorem dX5_ditches_45 : decode cX5_ditches 45 = .ok (.iload_n 1, 1) := by decide +kernel
theorem dX5_ditches_46 : decode cX5_ditches 46 = .ok (.iload_n 2, 1) := by decide +kernel
theorem dX5_ditches_47 : decode cX5_ditches 47 = .ok (.iload_n 3, 1) := by decide +kernel
theorem dX5_ditches_48 : decode cX5_ditches 48 = .ok (.invokevirtual 221, 3) := by decide +kernel
theorem dX5_ditches_51 : decode cX5_ditches 51 = .ok (.istore 5, 2) := by decide +kernel
theorem dX5_ditches_53 : decode cX5_ditches 53 = .ok (.iload 5, 2) := by decide +kernel
theorem dX5_ditches_55 : decode cX5_ditches 55 = .ok (.bipush (-4), 2) := by decide +kernel
theorem dX5_ditches_57 : decode cX5_ditches 57 = .ok (.if_icmp .ne 12, 3) := by decide +kernel
theorem dX5_ditches_60 : decode cX5_ditches 60 = .ok (.aload_n 0, 1) := by decide +kernel
theorem dX5_ditches_61 : decode cX5_ditches 61 = .ok (.iload_n 1, 1) := by decide +kernel
theorem dX5_ditches_62 : decode cX5_ditches 62 = .ok (.iload_n 2, 1) := by decide +kernel
theorem dX5_ditches_63 : decode cX5_ditches 63 = .ok (.iload_n 3, 1) := by decide +kernel
theorem dX5_ditches_64 : decode cX5_ditches 64 = .ok (.invokevirtual 225, 3) := by decide +kernel
theorem dX5_ditches_67 : decode cX5_ditches 67 = .ok (.istore 5, 2) := by decide +kernel
theorem dX5_ditches_69 : decode cX5_ditches 69 = .ok (.iload 4, 2) := by decide +kernel
theorem dX5_ditches_71 : decode cX5_ditches 71 = .ok (.iconst (-1), 1) := by decide +kernel
theorem dX5_ditches_72 : decode cX5_ditches 72 = .ok (.if_icmp .eq 10, 3) := by decide +kernel
theorem dX5_ditches_75 : decode cX5_ditches 75 = .ok (.iload 5, 2) := by decide +kernel
theorem dX5_ditches_77 : decode cX5_ditches 77 = .ok (.bipush (-4), 2) := by decide +kernel
theorem dX5_ditches_79 : decode cX5_ditches 79 = .ok (.if_icmp .ne 6, 3) := by decide +kernel
theorem dX5_ditches_82 : decode cX5_ditches 82 = .ok (.iload 5, 2) := by decide +kernel
theorem dX5_ditches_84 : decode cX5_ditches 84 = .ok (.ireturn, 1) := by decide +kernel
theorem dX5_ditches_85 : decode cX5_ditches 85 = .ok (.iload 4, 2) := by decide +kernel
theorem dX5_ditches_87 : decode cX5_ditches 87 = .ok (.ifCond .lt 30, 3) := by decide +kernel
theorem dX5_ditches_90 : decode cX5_ditches 90 = .ok (.iload 4, 2) := by decide +kernel
theorem dX5_ditches_92 : decode cX5_ditches 92 = .ok (.iload 5, 2) := by decide +kernel
theorem dX5_ditches_94 : decode cX5_ditches 94 = .ok (.if_icmp .ge 23, 3) := by decide +kernel
theorem dX5_ditches_97 : decode cX5_ditches 97 = .ok (.iload 4, 2) := by decide +kernel
theorem dX5_ditches_99 : decode cX5_ditches 99 = .ok (.aload_n 0, 1) := by decide +kernel
theorem dX5_ditches_100 : decode cX5_ditches 100 = .ok (.getfield 61, 3) := by decide +kernel
theorem dX5_ditches_103 : decode cX5_ditches 103 = .ok (.arraylength, 1) := by decide +kernel
theorem dX5_ditches_104 : decode cX5_ditches 104 = .ok (.if_icmp .ge 13, 3) := by decide +kernel
theorem dX5_ditches_107 : decode cX5_ditches 107 = .ok (.aload_n 0, 1) := by decide +kernel
theorem dX5_ditches_108 : decode cX5_ditches 108 = .ok (.getfield 61, 3) := by decide +kernel
theorem dX5_ditches_111 : decode cX5_ditches 111 = .ok (.iload 4, 2) := by decide +kernel
theorem dX5_ditches_113 : decode cX5_ditches 113 = .ok (.iaload, 1) := by decide +kernel
theorem dX5_ditches_114 : decode cX5_ditches 114 = .ok (.goto 5, 3) := by decide +kernel
theorem dX5_ditches_117 : decode cX5_ditches 117 = .ok (.bipush (-4), 2) := by decide +kernel
theorem dX5_ditches_119 : decode cX5_ditches 119 = .ok (.ireturn, 1) := by decide +kernel
theorem dX5_best_0 : decode cX5_best 0 = .ok (.iload_n 1, 1) := by decide +kernel
theorem dX5_best_1 : decode cX5_best 1 = .ok (.invokestatic 159, 3) := by decide +kernel
theorem dX5_best_4 : decode cX5_best 4 = .ok (.ifCond .eq 22, 3) := by decide +kernel
theorem dX5_best_7 : decode cX5_best 7 = .ok (.iload_n 2, 1) := by decide +kernel
theorem dX5_best_8 : decode cX5_best 8 = .ok (.iconst 1, 1) := by decide +kernel
theorem dX5_best_9 : decode cX5_best 9 = .ok (.bipush 20, 2) := by decide +kernel
theorem dX5_best_11 : decode cX5_best 11 = .ok (.invokestatic 165, 3) := by decide +kernel
theorem dX5_best_14 : decode cX5_best 14 = .ok (.ifCond .eq 12, 3) := by decide +kernel
theorem dX5_best_17 : decode cX5_best 17 = .ok (.iload_n 3, 1) := by decide +kernel
theorem dX5_best_18 : decode cX5_best 18 = .ok (.iconst 0, 1) := by decide +kernel
theorem dX5_best_19 : decode cX5_best 19 = .ok (.iconst 1, 1) := by decide +kernel
theorem dX5_best_20 : decode cX5_best 20 = .ok (.invokestatic 165, 3) := by decide +kernel
theorem dX5_best_23 : decode cX5_best 23 = .ok (.ifCond .ne 5, 3) := by decide +kernel
theorem dX5_best_26 : decode cX5_best 26 = .ok (.iconst (-1), 1) := by decide +kernel
theorem dX5_best_27 : decode cX5_best 27 = .ok (.ireturn, 1) := by decide +kernel
theorem dX5_best_28 : decode cX5_best 28 = .ok (.bipush (-4), 2) := by decide +kernel
theorem dX5_best_30 : decode cX5_best 30 = .ok (.istore 4, 2) := by decide +kernel
theorem dX5_best_32 : decode cX5_best 32 = .ok (.bipush (-4), 2) := by decide +kernel
theorem dX5_best_34 : decode cX5_best 34 = .ok (.istore 5, 2) := by decide +kernel
theorem dX5_best_36 : decode cX5_best 36 = .ok (.iconst 0, 1) := by decide +kernel
theorem dX5_best_37 : decode cX5_best 37 = .ok (.istore 6, 2) := by decide +kernel
theorem dX5_best_39 : decode cX5_best 39 = .ok (.iload 6, 2) := by decide +kernel
theorem dX5_best_41 : decode cX5_best 41 = .ok (.aload_n 0, 1) := by decide +kernel
theorem dX5_best_42 : decode cX5_best 42 = .ok (.getfield 16, 3) := by decide +kernel
theorem dX5_best_45 : decode cX5_best 45 = .ok (.invokevirtual 228, 3) := by decide +kernel
theorem dX5_best_48 : decode cX5_best 48 = .ok (.if_icmp .ge 59, 3) := by decide +kernel
theorem dX5_best_51 : decode cX5_best 51 = .ok (.aload_n 0, 1) := by decide +kernel
theorem dX5_best_52 : decode cX5_best 52 = .ok (.getfield 25, 3) := by decide +kernel
theorem dX5_best_55 : decode cX5_best 55 = .ok (.iload 6, 2) := by decide +kernel
theorem dX5_best_57 : decode cX5_best 57 = .ok (.invokevirtual 179, 3) := by decide +kernel
theorem dX5_best_60 : decode cX5_best 60 = .ok (.ifCond .ne 6, 3) := by decide +kernel
theorem dX5_best_63 : decode cX5_best 63 = .ok (.goto 38, 3) := by decide +kernel
theorem dX5_best_66 : decode cX5_best 66 = .ok (.aload_n 0, 1) := by decide +kernel
theorem dX5_best_67 : decode cX5_best 67 = .ok (.iload_n 2, 1) := by decide +kernel
theorem dX5_best_68 : decode cX5_best 68 = .ok (.iload_n 1, 1) := by decide +kernel
theorem dX5_best_69 : decode cX5_best 69 = .ok (.iload 6, 2) := by decide +kernel
theorem dX5_best_71 : decode cX5_best 71 = .ok (.invokestatic 231, 3) := by decide +kernel
theorem dX5_best_74 : decode cX5_best 74 = .ok (.invokevirtual 207, 3) := by decide +kernel
theorem dX5_best_77 : decode cX5_best 77 = .ok (.istore 7, 2) := by decide +kernel
theorem dX5_best_79 : decode cX5_best 79 = .ok (.iload 4, 2) := by decide +kernel
theorem dX5_best_81 : decode cX5_best 81 = .ok (.bipush (-4), 2) := by decide +kernel
theorem dX5_best_83 : decode cX5_best 83 = .ok (.if_icmp .eq 10, 3) := by decide +kernel
theorem dX5_best_86 : decode cX5_best 86 = .ok (.iload 7, 2) := by decide +kernel
theorem dX5_best_88 : decode cX5_best 88 = .ok (.iload 5, 2) := by decide +kernel
theorem dX5_best_90 : decode cX5_best 90 = .ok (.if_icmp .le 11, 3) := by decide +kernel
theorem dX5_best_93 : decode cX5_best 93 = .ok (.iload 6, 2) := by decide +kernel
theorem dX5_best_95 : decode cX5_best 95 = .ok (.istore 4, 2) := by decide +kernel
theorem dX5_best_97 : decode cX5_best 97 = .ok (.iload 7, 2) := by decide +kernel
theorem dX5_best_99 : decode cX5_best 99 = .ok (.istore 5, 2) := by decide +kernel
theorem dX5_best_101 : decode cX5_best 101 = .ok (.iinc 6 1, 3) := by decide +kernel
theorem dX5_best_104 : decode cX5_best 104 = .ok (.goto (-65), 3) := by decide +kernel
theorem dX5_best_107 : decode cX5_best 107 = .ok (.iload_n 3, 1) := by decide +kernel
theorem dX5_best_108 : decode cX5_best 108 = .ok (.ifCond .ne 8, 3) := by decide +kernel
theorem dX5_best_111 : decode cX5_best 111 = .ok (.iload 4, 2) := by decide +kernel
theorem dX5_best_113 : decode cX5_best 113 = .ok (.goto 5, 3) := by decide +kernel
theorem dX5_best_116 : decode cX5_best 116 = .ok (.iload 5, 2) := by decide +kernel
theorem dX5_best_118 : decode cX5_best 118 = .ok (.ireturn, 1) := by decide +kernel
theorem dX5_see_0 : decode cX5_see 0 = .ok (.aload_n 0, 1) := by decide +kernel
theorem dX5_see_1 : decode cX5_see 1 = .ok (.getfield 25, 3) := by decide +kernel
theorem dX5_see_4 : decode cX5_see 4 = .ok (.iload_n 1, 1) := by decide +kernel
theorem dX5_see_5 : decode cX5_see 5 = .ok (.invokevirtual 125, 3) := by decide +kernel
theorem dX5_see_8 : decode cX5_see 8 = .ok (.ifCond .eq 24, 3) := by decide +kernel
theorem dX5_see_11 : decode cX5_see 11 = .ok (.aload_n 0, 1) := by decide +kernel
theorem dX5_see_12 : decode cX5_see 12 = .ok (.getfield 16, 3) := by decide +kernel
theorem dX5_see_15 : decode cX5_see 15 = .ok (.iload_n 2, 1) := by decide +kernel
theorem dX5_see_16 : decode cX5_see 16 = .ok (.invokevirtual 103, 3) := by decide +kernel
theorem dX5_see_19 : decode cX5_see 19 = .ok (.ifCond .eq 13, 3) := by decide +kernel
theorem dX5_see_22 : decode cX5_see 22 = .ok (.iload_n 3, 1) := by decide +kernel
theorem dX5_see_23 : decode cX5_see 23 = .ok (.iconst 0, 1) := by decide +kernel
theorem dX5_see_24 : decode cX5_see 24 = .ok (.bipush 20, 2) := by decide +kernel
theorem dX5_see_26 : decode cX5_see 26 = .ok (.invokestatic 165, 3) := by decide +kernel
theorem dX5_see_29 : decode cX5_see 29 = .ok (.ifCond .ne 5, 3) := by decide +kernel
theorem dX5_see_32 : decode cX5_see 32 = .ok (.iconst (-1), 1) := by decide +kernel
theorem dX5_see_33 : decode cX5_see 33 = .ok (.ireturn, 1) := by decide +kernel
theorem dX5_see_34 : decode cX5_see 34 = .ok (.aload_n 0, 1) := by decide +kernel
theorem dX5_see_35 : decode cX5_see 35 = .ok (.getfield 97, 3) := by decide +kernel
theorem dX5_see_38 : decode cX5_see 38 = .ok (.ifCond .lt 12, 3) := by decide +kernel
theorem dX5_see_41 : decode cX5_see 41 = .ok (.aload_n 0, 1) := by decide +kernel
theorem dX5_see_42 : decode cX5_see 42 = .ok (.getfield 97, 3) := by decide +kernel
theorem dX5_see_45 : decode cX5_see 45 = .ok (.bipush 6, 2) := by decide +kernel
theorem dX5_see_47 : decode cX5_see 47 = .ok (.if_icmp .lt 6, 3) := by decide +kernel
theorem dX5_see_50 : decode cX5_see 50 = .ok (.bipush (-3), 2) := by decide +kernel
theorem dX5_see_52 : decode cX5_see 52 = .ok (.ireturn, 1) := by decide +kernel
theorem dX5_see_53 : decode cX5_see 53 = .ok (.aload_n 0, 1) := by decide +kernel
theorem dX5_see_54 : decode cX5_see 54 = .ok (.getfield 51, 3) := by decide +kernel
theorem dX5_see_57 : decode cX5_see 57 = .ok (.aload_n 0, 1) := by decide +kernel
theorem dX5_see_58 : decode cX5_see 58 = .ok (.getfield 97, 3) := by decide +kernel
theorem dX5_see_61 : decode cX5_see 61 = .ok (.iload_n 1, 1) := by decide +kernel
theorem dX5_see_62 : decode cX5_see 62 = .ok (.iastore, 1) := by decide +kernel
theorem dX5_see_63 : decode cX5_see 63 = .ok (.aload_n 0, 1) := by decide +kernel
theorem dX5_see_64 : decode cX5_see 64 = .ok (.getfield 55, 3) := by decide +kernel
theorem dX5_see_67 : decode cX5_see 67 = .ok (.aload_n 0, 1) := by decide +kernel
theorem dX5_see_68 : decode cX5_see 68 = .ok (.getfield 97, 3) := by decide +kernel
theorem dX5_see_71 : decode cX5_see 71 = .ok (.iload_n 2, 1) := by decide +kernel
theorem dX5_see_72 : decode cX5_see 72 = .ok (.iastore, 1) := by decide +kernel
theorem dX5_see_73 : decode cX5_see 73 = .ok (.aload_n 0, 1) := by decide +kernel
theorem dX5_see_74 : decode cX5_see 74 = .ok (.getfield 58, 3) := by decide +kernel
theorem dX5_see_77 : decode cX5_see 77 = .ok (.aload_n 0, 1) := by decide +kernel
theorem dX5_see_78 : decode cX5_see 78 = .ok (.getfield 97, 3) := by decide +kernel
theorem dX5_see_81 : decode cX5_see 81 = .ok (.iload_n 3, 1) := by decide +kernel
theorem dX5_see_82 : decode cX5_see 82 = .ok (.iastore, 1) := by decide +kernel
theorem dX5_see_83 : decode cX5_see 83 = .ok (.aload_n 0, 1) := by decide +kernel
theorem dX5_see_84 : decode cX5_see 84 = .ok (.dup, 1) := by decide +kernel
theorem dX5_see_85 : decode cX5_see 85 = .ok (.getfield 97, 3) := by decide +kernel
theorem dX5_see_88 : decode cX5_see 88 = .ok (.iconst 1, 1) := by decide +kernel
theorem dX5_see_89 : decode cX5_see 89 = .ok (.iadd, 1) := by decide +kernel
theorem dX5_see_90 : decode cX5_see 90 = .ok (.putfield 97, 3) := by decide +kernel
theorem dX5_see_93 : decode cX5_see 93 = .ok (.aload_n 0, 1) := by decide +kernel
theorem dX5_see_94 : decode cX5_see 94 = .ok (.getfield 97, 3) := by decide +kernel
theorem dX5_see_97 : decode cX5_see 97 = .ok (.ireturn, 1) := by decide +kernel
theorem dX5_forget_0 : decode cX5_forget 0 = .ok (.aload_n 0, 1) := by decide +kernel
theorem dX5_forget_1 : decode cX5_forget 1 = .ok (.getfield 97, 3) := by decide +kernel
theorem dX5_forget_4 : decode cX5_forget 4 = .ok (.istore_n 1, 1) := by decide +kernel
theorem dX5_forget_5 : decode cX5_forget 5 = .ok (.aload_n 0, 1) := by decide +kernel
theorem dX5_forget_6 : decode cX5_forget 6 = .ok (.iconst 0, 1) := by decide +kernel
theorem dX5_forget_7 : decode cX5_forget 7 = .ok (.putfield 97, 3) := by decide +kernel
theorem dX5_forget_10 : decode cX5_forget 10 = .ok (.iload_n 1, 1) := by decide +kernel
theorem dX5_forget_11 : decode cX5_forget 11 = .ok (.ireturn, 1) := by decide +kernel
theorem dX5_fits_0 : decode cX5_fits 0 = .ok (.aload_n 0, 1) := by decide +kernel
theorem dX5_fits_1 : decode cX5_fits 1 = .ok (.getfield 25, 3) := by decide +kernel
theorem dX5_fits_4 : decode cX5_fits 4 = .ok (.iload_n 1, 1) := by decide +kernel
theorem dX5_fits_5 : decode cX5_fits 5 = .ok (.invokevirtual 125, 3) := by decide +kernel
theorem dX5_fits_8 : decode cX5_fits 8 = .ok (.ifCond .eq 12, 3) := by decide +kernel
theorem dX5_fits_11 : decode cX5_fits 11 = .ok (.iload_n 2, 1) := by decide +kernel
theorem dX5_fits_12 : decode cX5_fits 12 = .ok (.iconst 0, 1) := by decide +kernel
theorem dX5_fits_13 : decode cX5_fits 13 = .ok (.iconst 1, 1) := by decide +kernel
theorem dX5_fits_14 : decode cX5_fits 14 = .ok (.invokestatic 165, 3) := by decide +kernel
theorem dX5_fits_17 : decode cX5_fits 17 = .ok (.ifCond .ne 5, 3) := by decide +kernel
theorem dX5_fits_20 : decode cX5_fits 20 = .ok (.iconst (-1), 1) := by decide +kernel
theorem dX5_fits_21 : decode cX5_fits 21 = .ok (.ireturn, 1) := by decide +kernel
theorem dX5_fits_22 : decode cX5_fits 22 = .ok (.iconst 0, 1) := by decide +kernel
theorem dX5_fits_23 : decode cX5_fits 23 = .ok (.istore_n 3, 1) := by decide +kernel
theorem dX5_fits_24 : decode cX5_fits 24 = .ok (.iconst 0, 1) := by decide +kernel
theorem dX5_fits_25 : decode cX5_fits 25 = .ok (.istore 4, 2) := by decide +kernel
theorem dX5_fits_27 : decode cX5_fits 27 = .ok (.iload 4, 2) := by decide +kernel
theorem dX5_fits_29 : decode cX5_fits 29 = .ok (.iconst 4, 1) := by decide +kernel
theorem dX5_fits_30 : decode cX5_fits 30 = .ok (.if_icmp .ge 70, 3) := by decide +kernel
theorem dX5_fits_33 : decode cX5_fits 33 = .ok (.aload_n 0, 1) := by decide +kernel
theorem dX5_fits_34 : decode cX5_fits 34 = .ok (.getfield 29, 3) := by decide +kernel
theorem dX5_fits_37 : decode cX5_fits 37 = .ok (.aload_n 0, 1) := by decide +kernel
theorem dX5_fits_38 : decode cX5_fits 38 = .ok (.getfield 25, 3) := by decide +kernel
theorem dX5_fits_41 : decode cX5_fits 41 = .ok (.invokevirtual 87, 3) := by decide +kernel
theorem dX5_fits_44 : decode cX5_fits 44 = .ok (.iload_n 2, 1) := by decide +kernel
theorem dX5_fits_45 : decode cX5_fits 45 = .ok (.ifCond .ne 20, 3) := by decide +kernel
theorem dX5_fits_48 : decode cX5_fits 48 = .ok (.aload_n 0, 1) := by decide +kernel
theorem dX5_fits_49 : decode cX5_fits 49 = .ok (.getfield 29, 3) := by decide +kernel
theorem dX5_fits_52 : decode cX5_fits 52 = .ok (.getfield 126, 3) := by decide +kernel
theorem dX5_fits_55 : decode cX5_fits 55 = .ok (.iload_n 1, 1) := by decide +kernel
theorem dX5_fits_56 : decode cX5_fits 56 = .ok (.aaload, 1) := by decide +kernel
theorem dX5_fits_57 : decode cX5_fits 57 = .ok (.iload 4, 2) := by decide +kernel
theorem dX5_fits_59 : decode cX5_fits 59 = .ok (.putfield 135, 3) := by decide +kernel
theorem dX5_fits_62 : decode cX5_fits 62 = .ok (.goto 17, 3) := by decide +kernel
theorem dX5_fits_65 : decode cX5_fits 65 = .ok (.aload_n 0, 1) := by decide +kernel
theorem dX5_fits_66 : decode cX5_fits 66 = .ok (.getfield 29, 3) := by decide +kernel
theorem dX5_fits_69 : decode cX5_fits 69 = .ok (.getfield 126, 3) := by decide +kernel
theorem dX5_fits_72 : decode cX5_fits 72 = .ok (.iload_n 1, 1) := by decide +kernel
theorem dX5_fits_73 : decode cX5_fits 73 = .ok (.aaload, 1) := by decide +kernel
theorem dX5_fits_74 : decode cX5_fits 74 = .ok (.iload 4, 2) := by decide +kernel
theorem dX5_fits_76 : decode cX5_fits 76 = .ok (.putfield 130, 3) := by decide +kernel
theorem dX5_fits_79 : decode cX5_fits 79 = .ok (.aload_n 0, 1) := by decide +kernel
theorem dX5_fits_80 : decode cX5_fits 80 = .ok (.iload_n 1, 1) := by decide +kernel
theorem dX5_fits_81 : decode cX5_fits 81 = .ok (.invokevirtual 235, 3) := by decide +kernel
theorem dX5_fits_84 : decode cX5_fits 84 = .ok (.ifCond .eq 10, 3) := by decide +kernel
theorem dX5_fits_87 : decode cX5_fits 87 = .ok (.iload_n 3, 1) := by decide +kernel
theorem dX5_fits_88 : decode cX5_fits 88 = .ok (.iconst 1, 1) := by decide +kernel
theorem dX5_fits_89 : decode cX5_fits 89 = .ok (.iload 4, 2) := by decide +kernel
theorem dX5_fits_91 : decode cX5_fits 91 = .ok (.ishl, 1) := by decide +kernel
theorem dX5_fits_92 : decode cX5_fits 92 = .ok (.ior, 1) := by decide +kernel
theorem dX5_fits_93 : decode cX5_fits 93 = .ok (.istore_n 3, 1) := by decide +kernel
theorem dX5_fits_94 : decode cX5_fits 94 = .ok (.iinc 4 1, 3) := by decide +kernel
theorem dX5_fits_97 : decode cX5_fits 97 = .ok (.goto (-70), 3) := by decide +kernel
theorem dX5_fits_100 : decode cX5_fits 100 = .ok (.iload_n 3, 1) := by decide +kernel
theorem dX5_fits_101 : decode cX5_fits 101 = .ok (.ireturn, 1) := by decide +kernel
theorem dX5_frost_0 : decode cX5_frost 0 = .ok (.aload_n 0, 1) := by decide +kernel
theorem dX5_frost_1 : decode cX5_frost 1 = .ok (.getfield 25, 3) := by decide +kernel
theorem dX5_frost_4 : decode cX5_frost 4 = .ok (.iload_n 1, 1) := by decide +kernel
theorem dX5_frost_5 : decode cX5_frost 5 = .ok (.invokevirtual 125, 3) := by decide +kernel
theorem dX5_frost_8 : decode cX5_frost 8 = .ok (.ifCond .eq 45, 3) := by decide +kernel
theorem dX5_frost_11 : decode cX5_frost 11 = .ok (.aload_n 0, 1) := by decide +kernel
theorem dX5_frost_12 : decode cX5_frost 12 = .ok (.getfield 16, 3) := by decide +kernel
theorem dX5_frost_15 : decode cX5_frost 15 = .ok (.iload_n 2, 1) := by decide +kernel
theorem dX5_frost_16 : decode cX5_frost 16 = .ok (.invokevirtual 103, 3) := by decide +kernel
theorem dX5_frost_19 : decode cX5_frost 19 = .ok (.ifCond .eq 34, 3) := by decide +kernel
theorem dX5_frost_22 : decode cX5_frost 22 = .ok (.iload_n 3, 1) := by decide +kernel
theorem dX5_frost_23 : decode cX5_frost 23 = .ok (.iconst 0, 1) := by decide +kernel
theorem dX5_frost_24 : decode cX5_frost 24 = .ok (.bipush 8, 2) := by decide +kernel
theorem dX5_frost_26 : decode cX5_frost 26 = .ok (.invokestatic 165, 3) := by decide +kernel
theorem dX5_frost_29 : decode cX5_frost 29 = .ok (.ifCond .eq 24, 3) := by decide +kernel
theorem dX5_frost_32 : decode cX5_frost 32 = .ok (.iload 4, 2) := by decide +kernel
theorem dX5_frost_34 : decode cX5_frost 34 = .ok (.iconst 0, 1) := by decide +kernel
theorem dX5_frost_35 : decode cX5_frost 35 = .ok (.bipush 10, 2) := by decide +kernel
theorem dX5_frost_37 : decode cX5_frost 37 = .ok (.invokestatic 165, 3) := by decide +kernel
theorem dX5_frost_40 : decode cX5_frost 40 = .ok (.ifCond .eq 13, 3) := by decide +kernel
theorem dX5_frost_43 : decode cX5_frost 43 = .ok (.iload 5, 2) := by decide +kernel
theorem dX5_frost_45 : decode cX5_frost 45 = .ok (.iconst 0, 1) := by decide +kernel
theorem dX5_frost_46 : decode cX5_frost 46 = .ok (.iconst 1, 1) := by decide +kernel
theorem dX5_frost_47 : decode cX5_frost 47 = .ok (.invokestatic 165, 3) := by decide +kernel
theorem dX5_frost_50 : decode cX5_frost 50 = .ok (.ifCond .ne 5, 3) := by decide +kernel
theorem dX5_frost_53 : decode cX5_frost 53 = .ok (.iconst (-1), 1) := by decide +kernel
theorem dX5_frost_54 : decode cX5_frost 54 = .ok (.ireturn, 1) := by decide +kernel
theorem dX5_frost_55 : decode cX5_frost 55 = .ok (.aload_n 0, 1) := by decide +kernel
theorem dX5_frost_56 : decode cX5_frost 56 = .ok (.iload_n 1, 1) := by decide +kernel
theorem dX5_frost_57 : decode cX5_frost 57 = .ok (.iload_n 2, 1) := by decide +kernel
theorem dX5_frost_58 : decode cX5_frost 58 = .ok (.iload_n 3, 1) := by decide +kernel
theorem dX5_frost_59 : decode cX5_frost 59 = .ok (.iload 4, 2) := by decide +kernel
theorem dX5_frost_61 : decode cX5_frost 61 = .ok (.invokevirtual 238, 3) := by decide +kernel
theorem dX5_frost_64 : decode cX5_frost 64 = .ok (.lstore 6, 2) := by decide +kernel
theorem dX5_frost_66 : decode cX5_frost 66 = .ok (.lconst 1, 1) := by decide +kernel
theorem dX5_frost_67 : decode cX5_frost 67 = .ok (.lstore 8, 2) := by decide +kernel
theorem dX5_frost_69 : decode cX5_frost 69 = .ok (.iconst 0, 1) := by decide +kernel
theorem dX5_frost_70 : decode cX5_frost 70 = .ok (.istore 10, 2) := by decide +kernel
theorem dX5_frost_72 : decode cX5_frost 72 = .ok (.iload 10, 2) := by decide +kernel
theorem dX5_frost_74 : decode cX5_frost 74 = .ok (.iload_n 3, 1) := by decide +kernel
theorem dX5_frost_75 : decode cX5_frost 75 = .ok (.if_icmp .ge 17, 3) := by decide +kernel
theorem dX5_frost_78 : decode cX5_frost 78 = .ok (.lload 8, 2) := by decide +kernel
theorem dX5_frost_80 : decode cX5_frost 80 = .ok (.ldc2_w 242, 3) := by decide +kernel
theorem dX5_frost_83 : decode cX5_frost 83 = .ok (.lmul, 1) := by decide +kernel
theorem dX5_frost_84 : decode cX5_frost 84 = .ok (.lstore 8, 2) := by decide +kernel
theorem dX5_frost_86 : decode cX5_frost 86 = .ok (.iinc 10 1, 3) := by decide +kernel
theorem dX5_frost_89 : decode cX5_frost 89 = .ok (.goto (-17), 3) := by decide +kernel
theorem dX5_frost_92 : decode cX5_frost 92 = .ok (.iconst 0, 1) := by decide +kernel
theorem dX5_frost_93 : decode cX5_frost 93 = .ok (.istore 10, 2) := by decide +kernel
theorem dX5_frost_95 : decode cX5_frost 95 = .ok (.iload 10, 2) := by decide +kernel
theorem dX5_frost_97 : decode cX5_frost 97 = .ok (.iload_n 3, 1) := by decide +kernel
theorem dX5_frost_98 : decode cX5_frost 98 = .ok (.if_icmp .ge 85, 3) := by decide +kernel
theorem dX5_frost_101 : decode cX5_frost 101 = .ok (.lload 6, 2) := by decide +kernel
theorem dX5_frost_103 : decode cX5_frost 103 = .ok (.ldc2_w 244, 3) := by decide +kernel
theorem dX5_frost_106 : decode cX5_frost 106 = .ok (.lrem, 1) := by decide +kernel
theorem dX5_frost_107 : decode cX5_frost 107 = .ok (.lconst 0, 1) := by decide +kernel
theorem dX5_frost_108 : decode cX5_frost 108 = .ok (.lcmp, 1) := by decide +kernel
theorem dX5_frost_109 : decode cX5_frost 109 = .ok (.ifCond .ne 30, 3) := by decide +kernel
theorem dX5_frost_112 : decode cX5_frost 112 = .ok (.lload 8, 2) := by decide +kernel
theorem dX5_frost_114 : decode cX5_frost 114 = .ok (.ldc2_w 244, 3) := by decide +kernel
theorem dX5_frost_117 : decode cX5_frost 117 = .ok (.lrem, 1) := by decide +kernel
theorem dX5_frost_118 : decode cX5_frost 118 = .ok (.lconst 0, 1) := by decide +kernel
theorem dX5_frost_119 : decode cX5_frost 119 = .ok (.lcmp, 1) := by decide +kernel
theorem dX5_frost_120 : decode cX5_frost 120 = .ok (.ifCond .ne 19, 3) := by decide +kernel
theorem dX5_frost_123 : decode cX5_frost 123 = .ok (.lload 6, 2) := by decide +kernel
theorem dX5_frost_125 : decode cX5_frost 125 = .ok (.ldc2_w 244, 3) := by decide +kernel
theorem dX5_frost_128 : decode cX5_frost 128 = .ok (.ldiv, 1) := by decide +kernel
theorem dX5_frost_129 : decode cX5_frost 129 = .ok (.lstore 6, 2) := by decide +kernel
theorem dX5_frost_131 : decode cX5_frost 131 = .ok (.lload 8, 2) := by decide +kernel
theorem dX5_frost_133 : decode cX5_frost 133 = .ok (.ldc2_w 244, 3) := by decide +kernel
theorem dX5_frost_136 : decode cX5_frost 136 = .ok (.ldiv, 1) := by decide +kernel
theorem dX5_frost_137 : decode cX5_frost 137 = .ok (.lstore 8, 2) := by decide +kernel
theorem dX5_frost_139 : decode cX5_frost 139 = .ok (.lload 6, 2) := by decide +kernel
theorem dX5_frost_141 : decode cX5_frost 141 = .ok (.ldc2_w 246, 3) := by decide +kernel
theorem dX5_frost_144 : decode cX5_frost 144 = .ok (.lrem, 1) := by decide +kernel
theorem dX5_frost_145 : decode cX5_frost 145 = .ok (.lconst 0, 1) := by decide +kernel
theorem dX5_frost_146 : decode cX5_frost 146 = .ok (.lcmp, 1) := by decide +kernel
theorem dX5_frost_147 : decode cX5_frost 147 = .ok (.ifCond .ne 30, 3) := by decide +kernel
theorem dX5_frost_150 : decode cX5_frost 150 = .ok (.lload 8, 2) := by decide +kernel
theorem dX5_frost_152 : decode cX5_frost 152 = .ok (.ldc2_w 246, 3) := by decide +kernel
theorem dX5_frost_155 : decode cX5_frost 155 = .ok (.lrem, 1) := by decide +kernel
theorem dX5_frost_156 : decode cX5_frost 156 = .ok (.lconst 0, 1) := by decide +kernel
theorem dX5_frost_157 : decode cX5_frost 157 = .ok (.lcmp, 1) := by decide +kernel
theorem dX5_frost_158 : decode cX5_frost 158 = .ok (.ifCond .ne 19, 3) := by decide +kernel
theorem dX5_frost_161 : decode cX5_frost 161 = .ok (.lload 6, 2) := by decide +kernel
theorem dX5_frost_163 : decode cX5_frost 163 = .ok (.ldc2_w 246, 3) := by decide +kernel
theorem dX5_frost_166 : decode cX5_frost 166 = .ok (.ldiv, 1) := by decide +kernel
theorem dX5_frost_167 : decode cX5_frost 167 = .ok (.lstore 6, 2) := by decide +kernel
theorem dX5_frost_169 : decode cX5_frost 169 = .ok (.lload 8, 2) := by decide +kernel
theorem dX5_frost_171 : decode cX5_frost 171 = .ok (.ldc2_w 246, 3) := by decide +kernel
theorem dX5_frost_174 : decode cX5_frost 174 = .ok (.ldiv, 1) := by decide +kernel
theorem dX5_frost_175 : decode cX5_frost 175 = .ok (.lstore 8, 2) := by decide +kernel
theorem dX5_frost_177 : decode cX5_frost 177 = .ok (.iinc 10 1, 3) := by decide +kernel
theorem dX5_frost_180 : decode cX5_frost 180 = .ok (.goto (-85), 3) := by decide +kernel
theorem dX5_frost_183 : decode cX5_frost 183 = .ok (.iload 5, 2) := by decide +kernel
theorem dX5_frost_185 : decode cX5_frost 185 = .ok (.ifCond .ne 8, 3) := by decide +kernel
theorem dX5_frost_188 : decode cX5_frost 188 = .ok (.lload 6, 2) := by decide +kernel
theorem dX5_frost_190 : decode cX5_frost 190 = .ok (.goto 5, 3) := by decide +kernel
theorem dX5_frost_193 : decode cX5_frost 193 = .ok (.lload 8, 2) := by decide +kernel
theorem dX5_frost_195 : decode cX5_frost 195 = .ok (.l2i, 1) := by decide +kernel
theorem dX5_frost_196 : decode cX5_frost 196 = .ok (.ireturn, 1) := by decide +kernel
theorem dX5_century_0 : decode cX5_century 0 = .ok (.iload_n 1, 1) := by decide +kernel
theorem dX5_century_1 : decode cX5_century 1 = .ok (.iconst 0, 1) := by decide +kernel
theorem dX5_century_2 : decode cX5_century 2 = .ok (.sipush 9999, 3) := by decide +kernel
theorem dX5_century_5 : decode cX5_century 5 = .ok (.invokestatic 165, 3) := by decide +kernel
theorem dX5_century_8 : decode cX5_century 8 = .ok (.ifCond .eq 22, 3) := by decide +kernel
theorem dX5_century_11 : decode cX5_century 11 = .ok (.iload_n 2, 1) := by decide +kernel
theorem dX5_century_12 : decode cX5_century 12 = .ok (.iconst 1, 1) := by decide +kernel
theorem dX5_century_13 : decode cX5_century 13 = .ok (.bipush 60, 2) := by decide +kernel
theorem dX5_century_15 : decode cX5_century 15 = .ok (.invokestatic 165, 3) := by decide +kernel
theorem dX5_century_18 : decode cX5_century 18 = .ok (.ifCond .eq 12, 3) := by decide +kernel
theorem dX5_century_21 : decode cX5_century 21 = .ok (.iload_n 3, 1) := by decide +kernel
theorem dX5_century_22 : decode cX5_century 22 = .ok (.iconst 0, 1) := by decide +kernel
theorem dX5_century_23 : decode cX5_century 23 = .ok (.iconst 1, 1) := by decide +kernel
theorem dX5_century_24 : decode cX5_century 24 = .ok (.invokestatic 165, 3) := by decide +kernel
theorem dX5_century_27 : decode cX5_century 27 = .ok (.ifCond .ne 5, 3) := by decide +kernel
theorem dX5_century_30 : decode cX5_century 30 = .ok (.iconst (-1), 1) := by decide +kernel
theorem dX5_century_31 : decode cX5_century 31 = .ok (.ireturn, 1) := by decide +kernel
theorem dX5_century_32 : decode cX5_century 32 = .ok (.aload_n 0, 1) := by decide +kernel
theorem dX5_century_33 : decode cX5_century 33 = .ok (.getfield 29, 3) := by decide +kernel
theorem dX5_century_36 : decode cX5_century 36 = .ok (.aload_n 0, 1) := by decide +kernel
theorem dX5_century_37 : decode cX5_century 37 = .ok (.getfield 25, 3) := by decide +kernel
theorem dX5_century_40 : decode cX5_century 40 = .ok (.invokevirtual 87, 3) := by decide +kernel
theorem dX5_century_43 : decode cX5_century 43 = .ok (.iconst 0, 1) := by decide +kernel
theorem dX5_century_44 : decode cX5_century 44 = .ok (.istore 4, 2) := by decide +kernel
theorem dX5_century_46 : decode cX5_century 46 = .ok (.iload 4, 2) := by decide +kernel
theorem dX5_century_48 : decode cX5_century 48 = .ok (.iload_n 2, 1) := by decide +kernel
theorem dX5_century_49 : decode cX5_century 49 = .ok (.if_icmp .ge 27, 3) := by decide +kernel
theorem dX5_century_52 : decode cX5_century 52 = .ok (.aload_n 0, 1) := by decide +kernel
theorem dX5_century_53 : decode cX5_century 53 = .ok (.iload_n 1, 1) := by decide +kernel
theorem dX5_century_54 : decode cX5_century 54 = .ok (.iload 4, 2) := by decide +kernel
theorem dX5_century_56 : decode cX5_century 56 = .ok (.invokestatic 248, 3) := by decide +kernel
theorem dX5_century_59 : decode cX5_century 59 = .ok (.invokevirtual 251, 3) := by decide +kernel
theorem dX5_century_62 : decode cX5_century 62 = .ok (.aload_n 0, 1) := by decide +kernel
theorem dX5_century_63 : decode cX5_century 63 = .ok (.getfield 29, 3) := by decide +kernel
theorem dX5_century_66 : decode cX5_century 66 = .ok (.iconst 1, 1) := by decide +kernel
theorem dX5_century_67 : decode cX5_century 67 = .ok (.invokevirtual 172, 3) := by decide +kernel
theorem dX5_century_70 : decode cX5_century 70 = .ok (.iinc 4 1, 3) := by decide +kernel
theorem dX5_century_73 : decode cX5_century 73 = .ok (.goto (-27), 3) := by decide +kernel
theorem dX5_century_76 : decode cX5_century 76 = .ok (.iload_n 3, 1) := by decide +kernel
theorem dX5_century_77 : decode cX5_century 77 = .ok (.ifCond .ne 13, 3) := by decide +kernel
theorem dX5_century_80 : decode cX5_century 80 = .ok (.aload_n 0, 1) := by decide +kernel
theorem dX5_century_81 : decode cX5_century 81 = .ok (.getfield 29, 3) := by decide +kernel
theorem dX5_century_84 : decode cX5_century 84 = .ok (.invokevirtual 254, 3) := by decide +kernel
theorem dX5_century_87 : decode cX5_century 87 = .ok (.goto 13, 3) := by decide +kernel
theorem dX5_century_90 : decode cX5_century 90 = .ok (.aload_n 0, 1) := by decide +kernel
theorem dX5_century_91 : decode cX5_century 91 = .ok (.getfield 29, 3) := by decide +kernel
theorem dX5_century_94 : decode cX5_century 94 = .ok (.getfield 114, 3) := by decide +kernel
theorem dX5_century_97 : decode cX5_century 97 = .ok (.invokestatic 185, 3) := by decide +kernel
theorem dX5_century_100 : decode cX5_century 100 = .ok (.ireturn, 1) := by decide +kernel
theorem dX5_keep_0 : decode cX5_keep 0 = .ok (.aload_n 0, 1) := by decide +kernel
theorem dX5_keep_1 : decode cX5_keep 1 = .ok (.getfield 48, 3) := by decide +kernel
theorem dX5_keep_4 : decode cX5_keep 4 = .ok (.getfield 197, 3) := by decide +kernel
theorem dX5_keep_7 : decode cX5_keep 7 = .ok (.iconst 2, 1) := by decide +kernel
theorem dX5_keep_8 : decode cX5_keep 8 = .ok (.if_icmp .lt 6, 3) := by decide +kernel
theorem dX5_keep_11 : decode cX5_keep 11 = .ok (.bipush (-3), 2) := by decide +kernel
theorem dX5_keep_13 : decode cX5_keep 13 = .ok (.ireturn, 1) := by decide +kernel
theorem dX5_keep_14 : decode cX5_keep 14 = .ok (.aload_n 0, 1) := by decide +kernel
theorem dX5_keep_15 : decode cX5_keep 15 = .ok (.getfield 48, 3) := by decide +kernel
theorem dX5_keep_18 : decode cX5_keep 18 = .ok (.aload_n 0, 1) := by decide +kernel
theorem dX5_keep_19 : decode cX5_keep 19 = .ok (.getfield 25, 3) := by decide +kernel
theorem dX5_keep_22 : decode cX5_keep 22 = .ok (.invokevirtual 169, 3) := by decide +kernel
theorem dX5_keep_25 : decode cX5_keep 25 = .ok (.aload_n 0, 1) := by decide +kernel
theorem dX5_keep_26 : decode cX5_keep 26 = .ok (.getfield 48, 3) := by decide +kernel
theorem dX5_keep_29 : decode cX5_keep 29 = .ok (.getfield 197, 3) := by decide +kernel
theorem dX5_keep_32 : decode cX5_keep 32 = .ok (.ireturn, 1) := by decide +kernel
theorem dX5_back_0 : decode cX5_back 0 = .ok (.aload_n 0, 1) := by decide +kernel
theorem dX5_back_1 : decode cX5_back 1 = .ok (.getfield 48, 3) := by decide +kernel
theorem dX5_back_4 : decode cX5_back 4 = .ok (.getfield 197, 3) := by decide +kernel
theorem dX5_back_7 : decode cX5_back 7 = .ok (.ifCond .ne 6, 3) := by decide +kernel
theorem dX5_back_10 : decode cX5_back 10 = .ok (.bipush (-2), 2) := by decide +kernel
theorem dX5_back_12 : decode cX5_back 12 = .ok (.ireturn, 1) := by decide +kernel
theorem dX5_back_13 : decode cX5_back 13 = .ok (.aload_n 0, 1) := by decide +kernel
theorem dX5_back_14 : decode cX5_back 14 = .ok (.getfield 48, 3) := by decide +kernel
theorem dX5_back_17 : decode cX5_back 17 = .ok (.aload_n 0, 1) := by decide +kernel
theorem dX5_back_18 : decode cX5_back 18 = .ok (.getfield 25, 3) := by decide +kernel
theorem dX5_back_21 : decode cX5_back 21 = .ok (.invokevirtual 200, 3) := by decide +kernel
theorem dX5_back_24 : decode cX5_back 24 = .ok (.aload_n 0, 1) := by decide +kernel
theorem dX5_back_25 : decode cX5_back 25 = .ok (.getfield 44, 3) := by decide +kernel
theorem dX5_back_28 : decode cX5_back 28 = .ok (.invokevirtual 100, 3) := by decide +kernel
theorem dX5_back_31 : decode cX5_back 31 = .ok (.aload_n 0, 1) := by decide +kernel
theorem dX5_back_32 : decode cX5_back 32 = .ok (.getfield 48, 3) := by decide +kernel
theorem dX5_back_35 : decode cX5_back 35 = .ok (.getfield 197, 3) := by decide +kernel
theorem dX5_back_38 : decode cX5_back 38 = .ok (.ireturn, 1) := by decide +kernel
theorem dX5_count_0 : decode cX5_count 0 = .ok (.iload_n 1, 1) := by decide +kernel
theorem dX5_count_1 : decode cX5_count 1 = .ok (.tableswitch 174 0 11 #[63, 71, 79, 87, 95, 118, 129, 140, 148, 153, 161, 169], 63) := by decide +kernel
theorem dX5_count_64 : decode cX5_count 64 = .ok (.aload_n 0, 1) := by decide +kernel
theorem dX5_count_65 : decode cX5_count 65 = .ok (.getfield 16, 3) := by decide +kernel
theorem dX5_count_68 : decode cX5_count 68 = .ok (.invokevirtual 228, 3) := by decide +kernel
theorem dX5_count_71 : decode cX5_count 71 = .ok (.ireturn, 1) := by decide +kernel
theorem dX5_count_72 : decode cX5_count 72 = .ok (.aload_n 0, 1) := by decide +kernel
theorem dX5_count_73 : decode cX5_count 73 = .ok (.getfield 16, 3) := by decide +kernel
theorem dX5_count_76 : decode cX5_count 76 = .ok (.getfield 257, 3) := by decide +kernel
theorem dX5_count_79 : decode cX5_count 79 = .ok (.ireturn, 1) := by decide +kernel
theorem dX5_count_80 : decode cX5_count 80 = .ok (.aload_n 0, 1) := by decide +kernel
theorem dX5_count_81 : decode cX5_count 81 = .ok (.getfield 25, 3) := by decide +kernel
theorem dX5_count_84 : decode cX5_count 84 = .ok (.getfield 94, 3) := by decide +kernel
theorem dX5_count_87 : decode cX5_count 87 = .ok (.ireturn, 1) := by decide +kernel
theorem dX5_count_88 : decode cX5_count 88 = .ok (.aload_n 0, 1) := by decide +kernel
theorem dX5_count_89 : decode cX5_count 89 = .ok (.getfield 25, 3) := by decide +kernel
theorem dX5_count_92 : decode cX5_count 92 = .ok (.getfield 176, 3) := by decide +kernel
theorem dX5_count_95 : decode cX5_count 95 = .ok (.ireturn, 1) := by decide +kernel
theorem dX5_count_96 : decode cX5_count 96 = .ok (.aload_n 0, 1) := by decide +kernel
theorem dX5_count_97 : decode cX5_count 97 = .ok (.getfield 25, 3) := by decide +kernel
theorem dX5_count_100 : decode cX5_count 100 = .ok (.getfield 260, 3) := by decide +kernel
theorem dX5_count_103 : decode cX5_count 103 = .ok (.aload_n 0, 1) := by decide +kernel
theorem dX5_count_104 : decode cX5_count 104 = .ok (.getfield 25, 3) := by decide +kernel
theorem dX5_count_107 : decode cX5_count 107 = .ok (.getfield 263, 3) := by decide +kernel
theorem dX5_count_110 : decode cX5_count 110 = .ok (.ldc2_w 266, 3) := by decide +kernel
theorem dX5_count_113 : decode cX5_count 113 = .ok (.lxor, 1) := by decide +kernel
theorem dX5_count_114 : decode cX5_count 114 = .ok (.land, 1) := by decide +kernel
theorem dX5_count_115 : decode cX5_count 115 = .ok (.invokestatic 185, 3) := by decide +kernel
theorem dX5_count_118 : decode cX5_count 118 = .ok (.ireturn, 1) := by decide +kernel
theorem dX5_count_119 : decode cX5_count 119 = .ok (.aload_n 0, 1) := by decide +kernel
theorem dX5_count_120 : decode cX5_count 120 = .ok (.getfield 25, 3) := by decide +kernel
theorem dX5_count_123 : decode cX5_count 123 = .ok (.getfield 263, 3) := by decide +kernel
theorem dX5_count_126 : decode cX5_count 126 = .ok (.invokestatic 185, 3) := by decide +kernel
theorem dX5_count_129 : decode cX5_count 129 = .ok (.ireturn, 1) := by decide +kernel
theorem dX5_count_130 : decode cX5_count 130 = .ok (.aload_n 0, 1) := by decide +kernel
theorem dX5_count_131 : decode cX5_count 131 = .ok (.getfield 25, 3) := by decide +kernel
theorem dX5_count_134 : decode cX5_count 134 = .ok (.getfield 114, 3) := by decide +kernel
theorem dX5_count_137 : decode cX5_count 137 = .ok (.invokestatic 185, 3) := by decide +kernel
theorem dX5_count_140 : decode cX5_count 140 = .ok (.ireturn, 1) := by decide +kernel
theorem dX5_count_141 : decode cX5_count 141 = .ok (.aload_n 0, 1) := by decide +kernel
theorem dX5_count_142 : decode cX5_count 142 = .ok (.getfield 25, 3) := by decide +kernel
theorem dX5_count_145 : decode cX5_count 145 = .ok (.invokevirtual 254, 3) := by decide +kernel
theorem dX5_count_148 : decode cX5_count 148 = .ok (.ireturn, 1) := by decide +kernel
theorem dX5_count_149 : decode cX5_count 149 = .ok (.aload_n 0, 1) := by decide +kernel
theorem dX5_count_150 : decode cX5_count 150 = .ok (.getfield 97, 3) := by decide +kernel
theorem dX5_count_153 : decode cX5_count 153 = .ok (.ireturn, 1) := by decide +kernel
theorem dX5_count_154 : decode cX5_count 154 = .ok (.aload_n 0, 1) := by decide +kernel
theorem dX5_count_155 : decode cX5_count 155 = .ok (.getfield 44, 3) := by decide +kernel
theorem dX5_count_158 : decode cX5_count 158 = .ok (.getfield 197, 3) := by decide +kernel
theorem dX5_count_161 : decode cX5_count 161 = .ok (.ireturn, 1) := by decide +kernel
theorem dX5_count_162 : decode cX5_count 162 = .ok (.aload_n 0, 1) := by decide +kernel
theorem dX5_count_163 : decode cX5_count 163 = .ok (.getfield 48, 3) := by decide +kernel
theorem dX5_count_166 : decode cX5_count 166 = .ok (.getfield 197, 3) := by decide +kernel
theorem dX5_count_169 : decode cX5_count 169 = .ok (.ireturn, 1) := by decide +kernel
theorem dX5_count_170 : decode cX5_count 170 = .ok (.aload_n 0, 1) := by decide +kernel
theorem dX5_count_171 : decode cX5_count 171 = .ok (.getfield 90, 3) := by decide +kernel
theorem dX5_count_174 : decode cX5_count 174 = .ok (.ireturn, 1) := by decide +kernel
theorem dX5_count_175 : decode cX5_count 175 = .ok (.iconst (-1), 1) := by decide +kernel
theorem dX5_count_176 : decode cX5_count 176 = .ok (.ireturn, 1) := by decide +kernel
theorem dX5_isWithin_0 : decode cX5_isWithin 0 = .ok (.iload_n 0, 1) := by decide +kernel
theorem dX5_isWithin_1 : decode cX5_isWithin 1 = .ok (.iload_n 1, 1) := by decide +kernel
theorem dX5_isWithin_2 : decode cX5_isWithin 2 = .ok (.if_icmp .lt 12, 3) := by decide +kernel
theorem dX5_isWithin_5 : decode cX5_isWithin 5 = .ok (.iload_n 0, 1) := by decide +kernel
theorem dX5_isWithin_6 : decode cX5_isWithin 6 = .ok (.iload_n 2, 1) := by decide +kernel
theorem dX5_isWithin_7 : decode cX5_isWithin 7 = .ok (.if_icmp .gt 7, 3) := by decide +kernel
theorem dX5_isWithin_10 : decode cX5_isWithin 10 = .ok (.iconst 1, 1) := by decide +kernel
theorem dX5_isWithin_11 : decode cX5_isWithin 11 = .ok (.goto 4, 3) := by decide +kernel
theorem dX5_isWithin_14 : decode cX5_isWithin 14 = .ok (.iconst 0, 1) := by decide +kernel
theorem dX5_isWithin_15 : decode cX5_isWithin 15 = .ok (.ireturn, 1) := by decide +kernel
theorem dX5_isOwner_0 : decode cX5_isOwner 0 = .ok (.iload_n 0, 1) := by decide +kernel
theorem dX5_isOwner_1 : decode cX5_isOwner 1 = .ok (.ifCond .lt 12, 3) := by decide +kernel
theorem dX5_isOwner_4 : decode cX5_isOwner 4 = .ok (.iload_n 0, 1) := by decide +kernel
theorem dX5_isOwner_5 : decode cX5_isOwner 5 = .ok (.iconst 4, 1) := by decide +kernel
theorem dX5_isOwner_6 : decode cX5_isOwner 6 = .ok (.if_icmp .ge 7, 3) := by decide +kernel
theorem dX5_isOwner_9 : decode cX5_isOwner 9 = .ok (.iconst 1, 1) := by decide +kernel
theorem dX5_isOwner_10 : decode cX5_isOwner 10 = .ok (.goto 4, 3) := by decide +kernel
theorem dX5_isOwner_13 : decode cX5_isOwner 13 = .ok (.iconst 0, 1) := by decide +kernel
theorem dX5_isOwner_14 : decode cX5_isOwner 14 = .ok (.ireturn, 1) := by decide +kernel
theorem dX5_bit_0 : decode cX5_bit 0 = .ok (.iload_n 0, 1) := by decide +kernel
theorem dX5_bit_1 : decode cX5_bit 1 = .ok (.ifCond .lt 15, 3) := by decide +kernel
theorem dX5_bit_4 : decode cX5_bit 4 = .ok (.iload_n 0, 1) := by decide +kernel
theorem dX5_bit_5 : decode cX5_bit 5 = .ok (.bipush 36, 2) := by decide +kernel
theorem dX5_bit_7 : decode cX5_bit 7 = .ok (.if_icmp .ge 9, 3) := by decide +kernel
theorem dX5_bit_10 : decode cX5_bit 10 = .ok (.lconst 1, 1) := by decide +kernel
theorem dX5_bit_11 : decode cX5_bit 11 = .ok (.iload_n 0, 1) := by decide +kernel
theorem dX5_bit_12 : decode cX5_bit 12 = .ok (.lshl, 1) := by decide +kernel
theorem dX5_bit_13 : decode cX5_bit 13 = .ok (.goto 4, 3) := by decide +kernel
theorem dX5_bit_16 : decode cX5_bit 16 = .ok (.lconst 0, 1) := by decide +kernel
theorem dX5_bit_17 : decode cX5_bit 17 = .ok (.lreturn, 1) := by decide +kernel
theorem dX5_contains_0 : decode cX5_contains 0 = .ok (.iload_n 2, 1) := by decide +kernel
theorem dX5_contains_1 : decode cX5_contains 1 = .ok (.ifCond .lt 23, 3) := by decide +kernel
theorem dX5_contains_4 : decode cX5_contains 4 = .ok (.iload_n 2, 1) := by decide +kernel
theorem dX5_contains_5 : decode cX5_contains 5 = .ok (.bipush 36, 2) := by decide +kernel
theorem dX5_contains_7 : decode cX5_contains 7 = .ok (.if_icmp .ge 17, 3) := by decide +kernel
theorem dX5_contains_10 : decode cX5_contains 10 = .ok (.lload_n 0, 1) := by decide +kernel
theorem dX5_contains_11 : decode cX5_contains 11 = .ok (.iload_n 2, 1) := by decide +kernel
theorem dX5_contains_12 : decode cX5_contains 12 = .ok (.lushr, 1) := by decide +kernel
theorem dX5_contains_13 : decode cX5_contains 13 = .ok (.lconst 1, 1) := by decide +kernel
theorem dX5_contains_14 : decode cX5_contains 14 = .ok (.land, 1) := by decide +kernel
theorem dX5_contains_15 : decode cX5_contains 15 = .ok (.lconst 0, 1) := by decide +kernel
theorem dX5_contains_16 : decode cX5_contains 16 = .ok (.lcmp, 1) := by decide +kernel
theorem dX5_contains_17 : decode cX5_contains 17 = .ok (.ifCond .eq 7, 3) := by decide +kernel
theorem dX5_contains_20 : decode cX5_contains 20 = .ok (.iconst 1, 1) := by decide +kernel
theorem dX5_contains_21 : decode cX5_contains 21 = .ok (.goto 4, 3) := by decide +kernel
theorem dX5_contains_24 : decode cX5_contains 24 = .ok (.iconst 0, 1) := by decide +kernel
theorem dX5_contains_25 : decode cX5_contains 25 = .ok (.ireturn, 1) := by decide +kernel
theorem dX5_firstTreeBehind_0 : decode cX5_firstTreeBehind 0 = .ok (.aload_n 0, 1) := by decide +kernel
theorem dX5_firstTreeBehind_1 : decode cX5_firstTreeBehind 1 = .ok (.getfield 29, 3) := by decide +kernel
theorem dX5_firstTreeBehind_4 : decode cX5_firstTreeBehind 4 = .ok (.aload_n 0, 1) := by decide +kernel
theorem dX5_firstTreeBehind_5 : decode cX5_firstTreeBehind 5 = .ok (.getfield 25, 3) := by decide +kernel
theorem dX5_firstTreeBehind_8 : decode cX5_firstTreeBehind 8 = .ok (.invokevirtual 87, 3) := by decide +kernel
theorem dX5_firstTreeBehind_11 : decode cX5_firstTreeBehind 11 = .ok (.aload_n 0, 1) := by decide +kernel
theorem dX5_firstTreeBehind_12 : decode cX5_firstTreeBehind 12 = .ok (.getfield 29, 3) := by decide +kernel
theorem dX5_firstTreeBehind_15 : decode cX5_firstTreeBehind 15 = .ok (.dup, 1) := by decide +kernel
theorem dX5_firstTreeBehind_16 : decode cX5_firstTreeBehind 16 = .ok (.getfield 114, 3) := by decide +kernel
theorem dX5_firstTreeBehind_19 : decode cX5_firstTreeBehind 19 = .ok (.lload_n 3, 1) := by decide +kernel
theorem dX5_firstTreeBehind_20 : decode cX5_firstTreeBehind 20 = .ok (.lor, 1) := by decide +kernel
theorem dX5_firstTreeBehind_21 : decode cX5_firstTreeBehind 21 = .ok (.putfield 114, 3) := by decide +kernel
theorem dX5_firstTreeBehind_24 : decode cX5_firstTreeBehind 24 = .ok (.iconst 0, 1) := by decide +kernel
theorem dX5_firstTreeBehind_25 : decode cX5_firstTreeBehind 25 = .ok (.istore 5, 2) := by decide +kernel
theorem dX5_firstTreeBehind_27 : decode cX5_firstTreeBehind 27 = .ok (.iload 5, 2) := by decide +kernel
theorem dX5_firstTreeBehind_29 : decode cX5_firstTreeBehind 29 = .ok (.iload_n 1, 1) := by decide +kernel
theorem dX5_firstTreeBehind_30 : decode cX5_firstTreeBehind 30 = .ok (.if_icmp .ge 18, 3) := by decide +kernel
theorem dX5_firstTreeBehind_33 : decode cX5_firstTreeBehind 33 = .ok (.aload_n 0, 1) := by decide +kernel
theorem dX5_firstTreeBehind_34 : decode cX5_firstTreeBehind 34 = .ok (.getfield 29, 3) := by decide +kernel
theorem dX5_firstTreeBehind_37 : decode cX5_firstTreeBehind 37 = .ok (.bipush (-4), 2) := by decide +kernel
theorem dX5_firstTreeBehind_39 : decode cX5_firstTreeBehind 39 = .ok (.invokevirtual 210, 3) := by decide +kernel
theorem dX5_firstTreeBehind_42 : decode cX5_firstTreeBehind 42 = .ok (.iinc 5 1, 3) := by decide +kernel
theorem dX5_firstTreeBehind_45 : decode cX5_firstTreeBehind 45 = .ok (.goto (-18), 3) := by decide +kernel
theorem dX5_firstTreeBehind_48 : decode cX5_firstTreeBehind 48 = .ok (.aload_n 0, 1) := by decide +kernel
theorem dX5_firstTreeBehind_49 : decode cX5_firstTreeBehind 49 = .ok (.getfield 29, 3) := by decide +kernel
theorem dX5_firstTreeBehind_52 : decode cX5_firstTreeBehind 52 = .ok (.iload_n 2, 1) := by decide +kernel
theorem dX5_firstTreeBehind_53 : decode cX5_firstTreeBehind 53 = .ok (.invokevirtual 125, 3) := by decide +kernel
theorem dX5_firstTreeBehind_56 : decode cX5_firstTreeBehind 56 = .ok (.ifCond .eq 18, 3) := by decide +kernel
theorem dX5_firstTreeBehind_59 : decode cX5_firstTreeBehind 59 = .ok (.aload_n 0, 1) := by decide +kernel
theorem dX5_firstTreeBehind_60 : decode cX5_firstTreeBehind 60 = .ok (.getfield 29, 3) := by decide +kernel
theorem dX5_firstTreeBehind_63 : decode cX5_firstTreeBehind 63 = .ok (.getfield 126, 3) := by decide +kernel
theorem dX5_firstTreeBehind_66 : decode cX5_firstTreeBehind 66 = .ok (.iload_n 2, 1) := by decide +kernel
theorem dX5_firstTreeBehind_67 : decode cX5_firstTreeBehind 67 = .ok (.aaload, 1) := by decide +kernel
theorem dX5_firstTreeBehind_68 : decode cX5_firstTreeBehind 68 = .ok (.invokevirtual 144, 3) := by decide +kernel
theorem dX5_firstTreeBehind_71 : decode cX5_firstTreeBehind 71 = .ok (.goto 5, 3) := by decide +kernel
theorem dX5_firstTreeBehind_74 : decode cX5_firstTreeBehind 74 = .ok (.bipush (-4), 2) := by decide +kernel
theorem dX5_firstTreeBehind_76 : decode cX5_firstTreeBehind 76 = .ok (.ireturn, 1) := by decide +kernel
theorem dX5_ownedBehind_0 : decode cX5_ownedBehind 0 = .ok (.aload_n 0, 1) := by decide +kernel
theorem dX5_ownedBehind_1 : decode cX5_ownedBehind 1 = .ok (.getfield 29, 3) := by decide +kernel
theorem dX5_ownedBehind_4 : decode cX5_ownedBehind 4 = .ok (.aload_n 0, 1) := by decide +kernel
theorem dX5_ownedBehind_5 : decode cX5_ownedBehind 5 = .ok (.getfield 25, 3) := by decide +kernel
theorem dX5_ownedBehind_8 : decode cX5_ownedBehind 8 = .ok (.invokevirtual 87, 3) := by decide +kernel
theorem dX5_ownedBehind_11 : decode cX5_ownedBehind 11 = .ok (.aload_n 0, 1) := by decide +kernel
theorem dX5_ownedBehind_12 : decode cX5_ownedBehind 12 = .ok (.getfield 29, 3) := by decide +kernel
theorem dX5_ownedBehind_15 : decode cX5_ownedBehind 15 = .ok (.dup, 1) := by decide +kernel
theorem dX5_ownedBehind_16 : decode cX5_ownedBehind 16 = .ok (.getfield 114, 3) := by decide +kernel
theorem dX5_ownedBehind_19 : decode cX5_ownedBehind 19 = .ok (.lload_n 3, 1) := by decide +kernel
theorem dX5_ownedBehind_20 : decode cX5_ownedBehind 20 = .ok (.lor, 1) := by decide +kernel
theorem dX5_ownedBehind_21 : decode cX5_ownedBehind 21 = .ok (.putfield 114, 3) := by decide +kernel
theorem dX5_ownedBehind_24 : decode cX5_ownedBehind 24 = .ok (.aload_n 0, 1) := by decide +kernel
theorem dX5_ownedBehind_25 : decode cX5_ownedBehind 25 = .ok (.getfield 29, 3) := by decide +kernel
theorem dX5_ownedBehind_28 : decode cX5_ownedBehind 28 = .ok (.iload_n 1, 1) := by decide +kernel
theorem dX5_ownedBehind_29 : decode cX5_ownedBehind 29 = .ok (.invokevirtual 172, 3) := by decide +kernel
theorem dX5_ownedBehind_32 : decode cX5_ownedBehind 32 = .ok (.iload_n 2, 1) := by decide +kernel
theorem dX5_ownedBehind_33 : decode cX5_ownedBehind 33 = .ok (.invokestatic 159, 3) := by decide +kernel
theorem dX5_ownedBehind_36 : decode cX5_ownedBehind 36 = .ok (.ifCond .eq 15, 3) := by decide +kernel
theorem dX5_ownedBehind_39 : decode cX5_ownedBehind 39 = .ok (.aload_n 0, 1) := by decide +kernel
theorem dX5_ownedBehind_40 : decode cX5_ownedBehind 40 = .ok (.getfield 29, 3) := by decide +kernel
theorem dX5_ownedBehind_43 : decode cX5_ownedBehind 43 = .ok (.getfield 162, 3) := by decide +kernel
theorem dX5_ownedBehind_46 : decode cX5_ownedBehind 46 = .ok (.iload_n 2, 1) := by decide +kernel
theorem dX5_ownedBehind_47 : decode cX5_ownedBehind 47 = .ok (.iaload, 1) := by decide +kernel
theorem dX5_ownedBehind_48 : decode cX5_ownedBehind 48 = .ok (.goto 4, 3) := by decide +kernel
theorem dX5_ownedBehind_51 : decode cX5_ownedBehind 51 = .ok (.iconst 0, 1) := by decide +kernel
theorem dX5_ownedBehind_52 : decode cX5_ownedBehind 52 = .ok (.ireturn, 1) := by decide +kernel
theorem dX5_noneOrOneDitch_0 : decode cX5_noneOrOneDitch 0 = .ok (.aload_n 0, 1) := by decide +kernel
theorem dX5_noneOrOneDitch_1 : decode cX5_noneOrOneDitch 1 = .ok (.iload_n 3, 1) := by decide +kernel
theorem dX5_noneOrOneDitch_2 : decode cX5_noneOrOneDitch 2 = .ok (.iload_n 1, 1) := by decide +kernel
theorem dX5_noneOrOneDitch_3 : decode cX5_noneOrOneDitch 3 = .ok (.lconst 0, 1) := by decide +kernel
theorem dX5_noneOrOneDitch_4 : decode cX5_noneOrOneDitch 4 = .ok (.invokevirtual 203, 3) := by decide +kernel
theorem dX5_noneOrOneDitch_7 : decode cX5_noneOrOneDitch 7 = .ok (.iload_n 2, 1) := by decide +kernel
theorem dX5_noneOrOneDitch_8 : decode cX5_noneOrOneDitch 8 = .ok (.if_icmp .ne 5, 3) := by decide +kernel
theorem dX5_noneOrOneDitch_11 : decode cX5_noneOrOneDitch 11 = .ok (.iconst 0, 1) := by decide +kernel
theorem dX5_noneOrOneDitch_12 : decode cX5_noneOrOneDitch 12 = .ok (.ireturn, 1) := by decide +kernel
theorem dX5_noneOrOneDitch_13 : decode cX5_noneOrOneDitch 13 = .ok (.aload_n 0, 1) := by decide +kernel
theorem dX5_noneOrOneDitch_14 : decode cX5_noneOrOneDitch 14 = .ok (.getfield 29, 3) := by decide +kernel
theorem dX5_noneOrOneDitch_17 : decode cX5_noneOrOneDitch 17 = .ok (.getfield 268, 3) := by decide +kernel
theorem dX5_noneOrOneDitch_20 : decode cX5_noneOrOneDitch 20 = .ok (.lstore 4, 2) := by decide +kernel
theorem dX5_noneOrOneDitch_22 : decode cX5_noneOrOneDitch 22 = .ok (.iconst 0, 1) := by decide +kernel
theorem dX5_noneOrOneDitch_23 : decode cX5_noneOrOneDitch 23 = .ok (.istore 6, 2) := by decide +kernel
theorem dX5_noneOrOneDitch_25 : decode cX5_noneOrOneDitch 25 = .ok (.iload 6, 2) := by decide +kernel
theorem dX5_noneOrOneDitch_27 : decode cX5_noneOrOneDitch 27 = .ok (.aload_n 0, 1) := by decide +kernel
theorem dX5_noneOrOneDitch_28 : decode cX5_noneOrOneDitch 28 = .ok (.getfield 16, 3) := by decide +kernel
theorem dX5_noneOrOneDitch_31 : decode cX5_noneOrOneDitch 31 = .ok (.invokevirtual 228, 3) := by decide +kernel
theorem dX5_noneOrOneDitch_34 : decode cX5_noneOrOneDitch 34 = .ok (.if_icmp .ge 86, 3) := by decide +kernel
theorem dX5_noneOrOneDitch_37 : decode cX5_noneOrOneDitch 37 = .ok (.iload 6, 2) := by decide +kernel
theorem dX5_noneOrOneDitch_39 : decode cX5_noneOrOneDitch 39 = .ok (.bipush 36, 2) := by decide +kernel
theorem dX5_noneOrOneDitch_41 : decode cX5_noneOrOneDitch 41 = .ok (.if_icmp .ge 79, 3) := by decide +kernel
theorem dX5_noneOrOneDitch_44 : decode cX5_noneOrOneDitch 44 = .ok (.aload_n 0, 1) := by decide +kernel
theorem dX5_noneOrOneDitch_45 : decode cX5_noneOrOneDitch 45 = .ok (.getfield 64, 3) := by decide +kernel
theorem dX5_noneOrOneDitch_48 : decode cX5_noneOrOneDitch 48 = .ok (.iload 6, 2) := by decide +kernel
theorem dX5_noneOrOneDitch_50 : decode cX5_noneOrOneDitch 50 = .ok (.lload 4, 2) := by decide +kernel
theorem dX5_noneOrOneDitch_52 : decode cX5_noneOrOneDitch 52 = .ok (.lastore, 1) := by decide +kernel
theorem dX5_noneOrOneDitch_53 : decode cX5_noneOrOneDitch 53 = .ok (.aload_n 0, 1) := by decide +kernel
theorem dX5_noneOrOneDitch_54 : decode cX5_noneOrOneDitch 54 = .ok (.getfield 25, 3) := by decide +kernel
theorem dX5_noneOrOneDitch_57 : decode cX5_noneOrOneDitch 57 = .ok (.iload 6, 2) := by decide +kernel
theorem dX5_noneOrOneDitch_59 : decode cX5_noneOrOneDitch 59 = .ok (.invokevirtual 179, 3) := by decide +kernel
theorem dX5_noneOrOneDitch_62 : decode cX5_noneOrOneDitch 62 = .ok (.ifCond .eq 52, 3) := by decide +kernel
theorem dX5_noneOrOneDitch_65 : decode cX5_noneOrOneDitch 65 = .ok (.lload 4, 2) := by decide +kernel
theorem dX5_noneOrOneDitch_67 : decode cX5_noneOrOneDitch 67 = .ok (.iload 6, 2) := by decide +kernel
theorem dX5_noneOrOneDitch_69 : decode cX5_noneOrOneDitch 69 = .ok (.invokestatic 118, 3) := by decide +kernel
theorem dX5_noneOrOneDitch_72 : decode cX5_noneOrOneDitch 72 = .ok (.ifCond .eq 42, 3) := by decide +kernel
theorem dX5_noneOrOneDitch_75 : decode cX5_noneOrOneDitch 75 = .ok (.aload_n 0, 1) := by decide +kernel
theorem dX5_noneOrOneDitch_76 : decode cX5_noneOrOneDitch 76 = .ok (.iload_n 3, 1) := by decide +kernel
theorem dX5_noneOrOneDitch_77 : decode cX5_noneOrOneDitch 77 = .ok (.iload_n 1, 1) := by decide +kernel
theorem dX5_noneOrOneDitch_78 : decode cX5_noneOrOneDitch 78 = .ok (.iload 6, 2) := by decide +kernel
theorem dX5_noneOrOneDitch_80 : decode cX5_noneOrOneDitch 80 = .ok (.invokestatic 231, 3) := by decide +kernel
theorem dX5_noneOrOneDitch_83 : decode cX5_noneOrOneDitch 83 = .ok (.invokevirtual 203, 3) := by decide +kernel
theorem dX5_noneOrOneDitch_86 : decode cX5_noneOrOneDitch 86 = .ok (.iload_n 2, 1) := by decide +kernel
theorem dX5_noneOrOneDitch_87 : decode cX5_noneOrOneDitch 87 = .ok (.if_icmp .ne 13, 3) := by decide +kernel
theorem dX5_noneOrOneDitch_90 : decode cX5_noneOrOneDitch 90 = .ok (.aload_n 0, 1) := by decide +kernel
theorem dX5_noneOrOneDitch_91 : decode cX5_noneOrOneDitch 91 = .ok (.getfield 61, 3) := by decide +kernel
theorem dX5_noneOrOneDitch_94 : decode cX5_noneOrOneDitch 94 = .ok (.iconst 0, 1) := by decide +kernel
theorem dX5_noneOrOneDitch_95 : decode cX5_noneOrOneDitch 95 = .ok (.iload 6, 2) := by decide +kernel
theorem dX5_noneOrOneDitch_97 : decode cX5_noneOrOneDitch 97 = .ok (.iastore, 1) := by decide +kernel
theorem dX5_noneOrOneDitch_98 : decode cX5_noneOrOneDitch 98 = .ok (.iconst 1, 1) := by decide +kernel
theorem dX5_noneOrOneDitch_99 : decode cX5_noneOrOneDitch 99 = .ok (.ireturn, 1) := by decide +kernel
theorem dX5_noneOrOneDitch_100 : decode cX5_noneOrOneDitch 100 = .ok (.aload_n 0, 1) := by decide +kernel
theorem dX5_noneOrOneDitch_101 : decode cX5_noneOrOneDitch 101 = .ok (.getfield 64, 3) := by decide +kernel
theorem dX5_noneOrOneDitch_104 : decode cX5_noneOrOneDitch 104 = .ok (.iload 6, 2) := by decide +kernel
theorem dX5_noneOrOneDitch_106 : decode cX5_noneOrOneDitch 106 = .ok (.aload_n 0, 1) := by decide +kernel
theorem dX5_noneOrOneDitch_107 : decode cX5_noneOrOneDitch 107 = .ok (.getfield 29, 3) := by decide +kernel
theorem dX5_noneOrOneDitch_110 : decode cX5_noneOrOneDitch 110 = .ok (.getfield 268, 3) := by decide +kernel
theorem dX5_noneOrOneDitch_113 : decode cX5_noneOrOneDitch 113 = .ok (.lastore, 1) := by decide +kernel
theorem dX5_noneOrOneDitch_114 : decode cX5_noneOrOneDitch 114 = .ok (.iinc 6 1, 3) := by decide +kernel
theorem dX5_noneOrOneDitch_117 : decode cX5_noneOrOneDitch 117 = .ok (.goto (-92), 3) := by decide +kernel
theorem dX5_noneOrOneDitch_120 : decode cX5_noneOrOneDitch 120 = .ok (.bipush (-4), 2) := by decide +kernel
theorem dX5_noneOrOneDitch_122 : decode cX5_noneOrOneDitch 122 = .ok (.ireturn, 1) := by decide +kernel
theorem dX5_twoDitches_0 : decode cX5_twoDitches 0 = .ok (.iconst 0, 1) := by decide +kernel
theorem dX5_twoDitches_1 : decode cX5_twoDitches 1 = .ok (.istore 4, 2) := by decide +kernel
theorem dX5_twoDitches_3 : decode cX5_twoDitches 3 = .ok (.iload 4, 2) := by decide +kernel
theorem dX5_twoDitches_5 : decode cX5_twoDitches 5 = .ok (.aload_n 0, 1) := by decide +kernel
theorem dX5_twoDitches_6 : decode cX5_twoDitches 6 = .ok (.getfield 16, 3) := by decide +kernel
theorem dX5_twoDitches_9 : decode cX5_twoDitches 9 = .ok (.invokevirtual 228, 3) := by decide +kernel
theorem dX5_twoDitches_12 : decode cX5_twoDitches 12 = .ok (.if_icmp .ge 143, 3) := by decide +kernel
theorem dX5_twoDitches_15 : decode cX5_twoDitches 15 = .ok (.iload 4, 2) := by decide +kernel
theorem dX5_twoDitches_17 : decode cX5_twoDitches 17 = .ok (.bipush 36, 2) := by decide +kernel
theorem dX5_twoDitches_19 : decode cX5_twoDitches 19 = .ok (.if_icmp .ge 136, 3) := by decide +kernel
theorem dX5_twoDitches_22 : decode cX5_twoDitches 22 = .ok (.aload_n 0, 1) := by decide +kernel
theorem dX5_twoDitches_23 : decode cX5_twoDitches 23 = .ok (.getfield 25, 3) := by decide +kernel
theorem dX5_twoDitches_26 : decode cX5_twoDitches 26 = .ok (.iload 4, 2) := by decide +kernel
theorem dX5_twoDitches_28 : decode cX5_twoDitches 28 = .ok (.invokevirtual 179, 3) := by decide +kernel
theorem dX5_twoDitches_31 : decode cX5_twoDitches 31 = .ok (.ifCond .ne 6, 3) := by decide +kernel
theorem dX5_twoDitches_34 : decode cX5_twoDitches 34 = .ok (.goto 115, 3) := by decide +kernel
theorem dX5_twoDitches_37 : decode cX5_twoDitches 37 = .ok (.iload 4, 2) := by decide +kernel
theorem dX5_twoDitches_39 : decode cX5_twoDitches 39 = .ok (.iconst 1, 1) := by decide +kernel
theorem dX5_twoDitches_40 : decode cX5_twoDitches 40 = .ok (.iadd, 1) := by decide +kernel
theorem dX5_twoDitches_41 : decode cX5_twoDitches 41 = .ok (.istore 5, 2) := by decide +kernel
theorem dX5_twoDitches_43 : decode cX5_twoDitches 43 = .ok (.iload 5, 2) := by decide +kernel
theorem dX5_twoDitches_45 : decode cX5_twoDitches 45 = .ok (.aload_n 0, 1) := by decide +kernel
theorem dX5_twoDitches_46 : decode cX5_twoDitches 46 = .ok (.getfield 16, 3) := by decide +kernel
theorem dX5_twoDitches_49 : decode cX5_twoDitches 49 = .ok (.invokevirtual 228, 3) := by decide +kernel
theorem dX5_twoDitches_52 : decode cX5_twoDitches 52 = .ok (.if_icmp .ge 97, 3) := by decide +kernel
theorem dX5_twoDitches_55 : decode cX5_twoDitches 55 = .ok (.iload 5, 2) := by decide +kernel
theorem dX5_twoDitches_57 : decode cX5_twoDitches 57 = .ok (.bipush 36, 2) := by decide +kernel
theorem dX5_twoDitches_59 : decode cX5_twoDitches 59 = .ok (.if_icmp .ge 90, 3) := by decide +kernel
theorem dX5_twoDitches_62 : decode cX5_twoDitches 62 = .ok (.aload_n 0, 1) := by decide +kernel
theorem dX5_twoDitches_63 : decode cX5_twoDitches 63 = .ok (.getfield 64, 3) := by decide +kernel
theorem dX5_twoDitches_66 : decode cX5_twoDitches 66 = .ok (.iload 4, 2) := by decide +kernel
theorem dX5_twoDitches_68 : decode cX5_twoDitches 68 = .ok (.laload, 1) := by decide +kernel
theorem dX5_twoDitches_69 : decode cX5_twoDitches 69 = .ok (.iload 5, 2) := by decide +kernel
theorem dX5_twoDitches_71 : decode cX5_twoDitches 71 = .ok (.invokestatic 118, 3) := by decide +kernel
theorem dX5_twoDitches_74 : decode cX5_twoDitches 74 = .ok (.ifCond .eq 69, 3) := by decide +kernel
theorem dX5_twoDitches_77 : decode cX5_twoDitches 77 = .ok (.aload_n 0, 1) := by decide +kernel
theorem dX5_twoDitches_78 : decode cX5_twoDitches 78 = .ok (.getfield 64, 3) := by decide +kernel
theorem dX5_twoDitches_81 : decode cX5_twoDitches 81 = .ok (.iload 5, 2) := by decide +kernel
theorem dX5_twoDitches_83 : decode cX5_twoDitches 83 = .ok (.laload, 1) := by decide +kernel
theorem dX5_twoDitches_84 : decode cX5_twoDitches 84 = .ok (.iload 4, 2) := by decide +kernel
theorem dX5_twoDitches_86 : decode cX5_twoDitches 86 = .ok (.invokestatic 118, 3) := by decide +kernel
theorem dX5_twoDitches_89 : decode cX5_twoDitches 89 = .ok (.ifCond .eq 54, 3) := by decide +kernel
theorem dX5_twoDitches_92 : decode cX5_twoDitches 92 = .ok (.aload_n 0, 1) := by decide +kernel
theorem dX5_twoDitches_93 : decode cX5_twoDitches 93 = .ok (.getfield 25, 3) := by decide +kernel
theorem dX5_twoDitches_96 : decode cX5_twoDitches 96 = .ok (.iload 5, 2) := by decide +kernel
theorem dX5_twoDitches_98 : decode cX5_twoDitches 98 = .ok (.invokevirtual 179, 3) := by decide +kernel
theorem dX5_twoDitches_101 : decode cX5_twoDitches 101 = .ok (.ifCond .eq 42, 3) := by decide +kernel
theorem dX5_twoDitches_104 : decode cX5_twoDitches 104 = .ok (.aload_n 0, 1) := by decide +kernel
theorem dX5_twoDitches_105 : decode cX5_twoDitches 105 = .ok (.iload_n 3, 1) := by decide +kernel
theorem dX5_twoDitches_106 : decode cX5_twoDitches 106 = .ok (.iload_n 1, 1) := by decide +kernel
theorem dX5_twoDitches_107 : decode cX5_twoDitches 107 = .ok (.iload 4, 2) := by decide +kernel
theorem dX5_twoDitches_109 : decode cX5_twoDitches 109 = .ok (.invokestatic 231, 3) := by decide +kernel
theorem dX5_twoDitches_112 : decode cX5_twoDitches 112 = .ok (.iload 5, 2) := by decide +kernel
theorem dX5_twoDitches_114 : decode cX5_twoDitches 114 = .ok (.invokestatic 231, 3) := by decide +kernel
theorem dX5_twoDitches_117 : decode cX5_twoDitches 117 = .ok (.lor, 1) := by decide +kernel
theorem dX5_twoDitches_118 : decode cX5_twoDitches 118 = .ok (.invokevirtual 203, 3) := by decide +kernel
theorem dX5_twoDitches_121 : decode cX5_twoDitches 121 = .ok (.iload_n 2, 1) := by decide +kernel
theorem dX5_twoDitches_122 : decode cX5_twoDitches 122 = .ok (.if_icmp .ne 21, 3) := by decide +kernel
theorem dX5_twoDitches_125 : decode cX5_twoDitches 125 = .ok (.aload_n 0, 1) := by decide +kernel
theorem dX5_twoDitches_126 : decode cX5_twoDitches 126 = .ok (.getfield 61, 3) := by decide +kernel
theorem dX5_twoDitches_129 : decode cX5_twoDitches 129 = .ok (.iconst 0, 1) := by decide +kernel
theorem dX5_twoDitches_130 : decode cX5_twoDitches 130 = .ok (.iload 4, 2) := by decide +kernel
theorem dX5_twoDitches_132 : decode cX5_twoDitches 132 = .ok (.iastore, 1) := by decide +kernel
theorem dX5_twoDitches_133 : decode cX5_twoDitches 133 = .ok (.aload_n 0, 1) := by decide +kernel
theorem dX5_twoDitches_134 : decode cX5_twoDitches 134 = .ok (.getfield 61, 3) := by decide +kernel
theorem dX5_twoDitches_137 : decode cX5_twoDitches 137 = .ok (.iconst 1, 1) := by decide +kernel
theorem dX5_twoDitches_138 : decode cX5_twoDitches 138 = .ok (.iload 5, 2) := by decide +kernel
theorem dX5_twoDitches_140 : decode cX5_twoDitches 140 = .ok (.iastore, 1) := by decide +kernel
theorem dX5_twoDitches_141 : decode cX5_twoDitches 141 = .ok (.iconst 2, 1) := by decide +kernel
theorem dX5_twoDitches_142 : decode cX5_twoDitches 142 = .ok (.ireturn, 1) := by decide +kernel
theorem dX5_twoDitches_143 : decode cX5_twoDitches 143 = .ok (.iinc 5 1, 3) := by decide +kernel
theorem dX5_twoDitches_146 : decode cX5_twoDitches 146 = .ok (.goto (-103), 3) := by decide +kernel
theorem dX5_twoDitches_149 : decode cX5_twoDitches 149 = .ok (.iinc 4 1, 3) := by decide +kernel
theorem dX5_twoDitches_152 : decode cX5_twoDitches 152 = .ok (.goto (-149), 3) := by decide +kernel
theorem dX5_twoDitches_155 : decode cX5_twoDitches 155 = .ok (.bipush (-4), 2) := by decide +kernel
theorem dX5_twoDitches_157 : decode cX5_twoDitches 157 = .ok (.ireturn, 1) := by decide +kernel
theorem dX5_allSeenComes_0 : decode cX5_allSeenComes 0 = .ok (.iconst 0, 1) := by decide +kernel
theorem dX5_allSeenComes_1 : decode cX5_allSeenComes 1 = .ok (.istore_n 2, 1) := by decide +kernel
theorem dX5_allSeenComes_2 : decode cX5_allSeenComes 2 = .ok (.iload_n 2, 1) := by decide +kernel
theorem dX5_allSeenComes_3 : decode cX5_allSeenComes 3 = .ok (.bipush 20, 2) := by decide +kernel
theorem dX5_allSeenComes_5 : decode cX5_allSeenComes 5 = .ok (.if_icmp .gt 107, 3) := by decide +kernel
theorem dX5_allSeenComes_8 : decode cX5_allSeenComes 8 = .ok (.aload_n 0, 1) := by decide +kernel
theorem dX5_allSeenComes_9 : decode cX5_allSeenComes 9 = .ok (.getfield 29, 3) := by decide +kernel
theorem dX5_allSeenComes_12 : decode cX5_allSeenComes 12 = .ok (.iload_n 1, 1) := by decide +kernel
theorem dX5_allSeenComes_13 : decode cX5_allSeenComes 13 = .ok (.invokevirtual 125, 3) := by decide +kernel
theorem dX5_allSeenComes_16 : decode cX5_allSeenComes 16 = .ok (.ifCond .eq 18, 3) := by decide +kernel
theorem dX5_allSeenComes_19 : decode cX5_allSeenComes 19 = .ok (.aload_n 0, 1) := by decide +kernel
theorem dX5_allSeenComes_20 : decode cX5_allSeenComes 20 = .ok (.getfield 29, 3) := by decide +kernel
theorem dX5_allSeenComes_23 : decode cX5_allSeenComes 23 = .ok (.getfield 126, 3) := by decide +kernel
theorem dX5_allSeenComes_26 : decode cX5_allSeenComes 26 = .ok (.iload_n 1, 1) := by decide +kernel
theorem dX5_allSeenComes_27 : decode cX5_allSeenComes 27 = .ok (.aaload, 1) := by decide +kernel
theorem dX5_allSeenComes_28 : decode cX5_allSeenComes 28 = .ok (.invokevirtual 144, 3) := by decide +kernel
theorem dX5_allSeenComes_31 : decode cX5_allSeenComes 31 = .ok (.goto 5, 3) := by decide +kernel
theorem dX5_allSeenComes_34 : decode cX5_allSeenComes 34 = .ok (.bipush (-4), 2) := by decide +kernel
theorem dX5_allSeenComes_36 : decode cX5_allSeenComes 36 = .ok (.istore_n 3, 1) := by decide +kernel
theorem dX5_allSeenComes_37 : decode cX5_allSeenComes 37 = .ok (.iconst 0, 1) := by decide +kernel
theorem dX5_allSeenComes_38 : decode cX5_allSeenComes 38 = .ok (.istore 4, 2) := by decide +kernel
theorem dX5_allSeenComes_40 : decode cX5_allSeenComes 40 = .ok (.iload 4, 2) := by decide +kernel
theorem dX5_allSeenComes_42 : decode cX5_allSeenComes 42 = .ok (.aload_n 0, 1) := by decide +kernel
theorem dX5_allSeenComes_43 : decode cX5_allSeenComes 43 = .ok (.getfield 97, 3) := by decide +kernel
theorem dX5_allSeenComes_46 : decode cX5_allSeenComes 46 = .ok (.if_icmp .ge 51, 3) := by decide +kernel
theorem dX5_allSeenComes_49 : decode cX5_allSeenComes 49 = .ok (.iload 4, 2) := by decide +kernel
theorem dX5_allSeenComes_51 : decode cX5_allSeenComes 51 = .ok (.bipush 6, 2) := by decide +kernel
theorem dX5_allSeenComes_53 : decode cX5_allSeenComes 53 = .ok (.if_icmp .ge 44, 3) := by decide +kernel
theorem dX5_allSeenComes_56 : decode cX5_allSeenComes 56 = .ok (.aload_n 0, 1) := by decide +kernel
theorem dX5_allSeenComes_57 : decode cX5_allSeenComes 57 = .ok (.getfield 51, 3) := by decide +kernel
theorem dX5_allSeenComes_60 : decode cX5_allSeenComes 60 = .ok (.iload 4, 2) := by decide +kernel
theorem dX5_allSeenComes_62 : decode cX5_allSeenComes 62 = .ok (.iaload, 1) := by decide +kernel
theorem dX5_allSeenComes_63 : decode cX5_allSeenComes 63 = .ok (.iload_n 1, 1) := by decide +kernel
theorem dX5_allSeenComes_64 : decode cX5_allSeenComes 64 = .ok (.if_icmp .ne 27, 3) := by decide +kernel
theorem dX5_allSeenComes_67 : decode cX5_allSeenComes 67 = .ok (.aload_n 0, 1) := by decide +kernel
theorem dX5_allSeenComes_68 : decode cX5_allSeenComes 68 = .ok (.getfield 58, 3) := by decide +kernel
theorem dX5_allSeenComes_71 : decode cX5_allSeenComes 71 = .ok (.iload 4, 2) := by decide +kernel
theorem dX5_allSeenComes_73 : decode cX5_allSeenComes 73 = .ok (.iaload, 1) := by decide +kernel
theorem dX5_allSeenComes_74 : decode cX5_allSeenComes 74 = .ok (.iload_n 2, 1) := by decide +kernel
theorem dX5_allSeenComes_75 : decode cX5_allSeenComes 75 = .ok (.if_icmp .ne 16, 3) := by decide +kernel
theorem dX5_allSeenComes_78 : decode cX5_allSeenComes 78 = .ok (.aload_n 0, 1) := by decide +kernel
theorem dX5_allSeenComes_79 : decode cX5_allSeenComes 79 = .ok (.getfield 55, 3) := by decide +kernel
theorem dX5_allSeenComes_82 : decode cX5_allSeenComes 82 = .ok (.iload 4, 2) := by decide +kernel
theorem dX5_allSeenComes_84 : decode cX5_allSeenComes 84 = .ok (.iaload, 1) := by decide +kernel
theorem dX5_allSeenComes_85 : decode cX5_allSeenComes 85 = .ok (.iload_n 3, 1) := by decide +kernel
theorem dX5_allSeenComes_86 : decode cX5_allSeenComes 86 = .ok (.if_icmp .eq 5, 3) := by decide +kernel
theorem dX5_allSeenComes_89 : decode cX5_allSeenComes 89 = .ok (.iconst 0, 1) := by decide +kernel
theorem dX5_allSeenComes_90 : decode cX5_allSeenComes 90 = .ok (.ireturn, 1) := by decide +kernel
theorem dX5_allSeenComes_91 : decode cX5_allSeenComes 91 = .ok (.iinc 4 1, 3) := by decide +kernel
theorem dX5_allSeenComes_94 : decode cX5_allSeenComes 94 = .ok (.goto (-54), 3) := by decide +kernel
theorem dX5_allSeenComes_97 : decode cX5_allSeenComes 97 = .ok (.aload_n 0, 1) := by decide +kernel
theorem dX5_allSeenComes_98 : decode cX5_allSeenComes 98 = .ok (.getfield 29, 3) := by decide +kernel
theorem dX5_allSeenComes_101 : decode cX5_allSeenComes 101 = .ok (.bipush (-4), 2) := by decide +kernel
theorem dX5_allSeenComes_103 : decode cX5_allSeenComes 103 = .ok (.invokevirtual 210, 3) := by decide +kernel
theorem dX5_allSeenComes_106 : decode cX5_allSeenComes 106 = .ok (.iinc 2 1, 3) := by decide +kernel
theorem dX5_allSeenComes_109 : decode cX5_allSeenComes 109 = .ok (.goto (-107), 3) := by decide +kernel
theorem dX5_allSeenComes_112 : decode cX5_allSeenComes 112 = .ok (.iconst 1, 1) := by decide +kernel
theorem dX5_allSeenComes_113 : decode cX5_allSeenComes 113 = .ok (.ireturn, 1) := by decide +kernel
theorem dX5_casesOfFrost_0 : decode cX5_casesOfFrost 0 = .ok (.lconst 0, 1) := by decide +kernel
theorem dX5_casesOfFrost_1 : decode cX5_casesOfFrost 1 = .ok (.lstore 5, 2) := by decide +kernel
theorem dX5_casesOfFrost_3 : decode cX5_casesOfFrost 3 = .ok (.iconst 0, 1) := by decide +kernel
theorem dX5_casesOfFrost_4 : decode cX5_casesOfFrost 4 = .ok (.istore 7, 2) := by decide +kernel
theorem dX5_casesOfFrost_6 : decode cX5_casesOfFrost 6 = .ok (.iload 7, 2) := by decide +kernel
theorem dX5_casesOfFrost_8 : decode cX5_casesOfFrost 8 = .ok (.iconst 1, 1) := by decide +kernel
theorem dX5_casesOfFrost_9 : decode cX5_casesOfFrost 9 = .ok (.iload_n 3, 1) := by decide +kernel
theorem dX5_casesOfFrost_10 : decode cX5_casesOfFrost 10 = .ok (.ishl, 1) := by decide +kernel
theorem dX5_casesOfFrost_11 : decode cX5_casesOfFrost 11 = .ok (.if_icmp .ge 81, 3) := by decide +kernel
theorem dX5_casesOfFrost_14 : decode cX5_casesOfFrost 14 = .ok (.lconst 1, 1) := by decide +kernel
theorem dX5_casesOfFrost_15 : decode cX5_casesOfFrost 15 = .ok (.lstore 8, 2) := by decide +kernel
theorem dX5_casesOfFrost_17 : decode cX5_casesOfFrost 17 = .ok (.iconst 0, 1) := by decide +kernel
theorem dX5_casesOfFrost_18 : decode cX5_casesOfFrost 18 = .ok (.istore 10, 2) := by decide +kernel
theorem dX5_casesOfFrost_20 : decode cX5_casesOfFrost 20 = .ok (.iload 10, 2) := by decide +kernel
theorem dX5_casesOfFrost_22 : decode cX5_casesOfFrost 22 = .ok (.iload_n 3, 1) := by decide +kernel
theorem dX5_casesOfFrost_23 : decode cX5_casesOfFrost 23 = .ok (.if_icmp .ge 37, 3) := by decide +kernel
theorem dX5_casesOfFrost_26 : decode cX5_casesOfFrost 26 = .ok (.lload 8, 2) := by decide +kernel
theorem dX5_casesOfFrost_28 : decode cX5_casesOfFrost 28 = .ok (.iload 7, 2) := by decide +kernel
theorem dX5_casesOfFrost_30 : decode cX5_casesOfFrost 30 = .ok (.i2l, 1) := by decide +kernel
theorem dX5_casesOfFrost_31 : decode cX5_casesOfFrost 31 = .ok (.iload 10, 2) := by decide +kernel
theorem dX5_casesOfFrost_33 : decode cX5_casesOfFrost 33 = .ok (.invokestatic 118, 3) := by decide +kernel
theorem dX5_casesOfFrost_36 : decode cX5_casesOfFrost 36 = .ok (.ifCond .eq 9, 3) := by decide +kernel
theorem dX5_casesOfFrost_39 : decode cX5_casesOfFrost 39 = .ok (.iload 4, 2) := by decide +kernel
theorem dX5_casesOfFrost_41 : decode cX5_casesOfFrost 41 = .ok (.i2l, 1) := by decide +kernel
theorem dX5_casesOfFrost_42 : decode cX5_casesOfFrost 42 = .ok (.goto 9, 3) := by decide +kernel
theorem dX5_casesOfFrost_45 : decode cX5_casesOfFrost 45 = .ok (.bipush 10, 2) := by decide +kernel
theorem dX5_casesOfFrost_47 : decode cX5_casesOfFrost 47 = .ok (.iload 4, 2) := by decide +kernel
theorem dX5_casesOfFrost_49 : decode cX5_casesOfFrost 49 = .ok (.isub, 1) := by decide +kernel
theorem dX5_casesOfFrost_50 : decode cX5_casesOfFrost 50 = .ok (.i2l, 1) := by decide +kernel
theorem dX5_casesOfFrost_51 : decode cX5_casesOfFrost 51 = .ok (.lmul, 1) := by decide +kernel
theorem dX5_casesOfFrost_52 : decode cX5_casesOfFrost 52 = .ok (.lstore 8, 2) := by decide +kernel
theorem dX5_casesOfFrost_54 : decode cX5_casesOfFrost 54 = .ok (.iinc 10 1, 3) := by decide +kernel
theorem dX5_casesOfFrost_57 : decode cX5_casesOfFrost 57 = .ok (.goto (-37), 3) := by decide +kernel
theorem dX5_casesOfFrost_60 : decode cX5_casesOfFrost 60 = .ok (.lload 8, 2) := by decide +kernel
theorem dX5_casesOfFrost_62 : decode cX5_casesOfFrost 62 = .ok (.lconst 0, 1) := by decide +kernel
theorem dX5_casesOfFrost_63 : decode cX5_casesOfFrost 63 = .ok (.lcmp, 1) := by decide +kernel
theorem dX5_casesOfFrost_64 : decode cX5_casesOfFrost 64 = .ok (.ifCond .le 22, 3) := by decide +kernel
theorem dX5_casesOfFrost_67 : decode cX5_casesOfFrost 67 = .ok (.aload_n 0, 1) := by decide +kernel
theorem dX5_casesOfFrost_68 : decode cX5_casesOfFrost 68 = .ok (.iload_n 1, 1) := by decide +kernel
theorem dX5_casesOfFrost_69 : decode cX5_casesOfFrost 69 = .ok (.iload_n 3, 1) := by decide +kernel
theorem dX5_casesOfFrost_70 : decode cX5_casesOfFrost 70 = .ok (.iload 7, 2) := by decide +kernel
theorem dX5_casesOfFrost_72 : decode cX5_casesOfFrost 72 = .ok (.invokevirtual 271, 3) := by decide +kernel
theorem dX5_casesOfFrost_75 : decode cX5_casesOfFrost 75 = .ok (.iload_n 2, 1) := by decide +kernel
theorem dX5_casesOfFrost_76 : decode cX5_casesOfFrost 76 = .ok (.if_icmp .ne 10, 3) := by decide +kernel
theorem dX5_casesOfFrost_79 : decode cX5_casesOfFrost 79 = .ok (.lload 5, 2) := by decide +kernel
theorem dX5_casesOfFrost_81 : decode cX5_casesOfFrost 81 = .ok (.lload 8, 2) := by decide +kernel
theorem dX5_casesOfFrost_83 : decode cX5_casesOfFrost 83 = .ok (.ladd, 1) := by decide +kernel
theorem dX5_casesOfFrost_84 : decode cX5_casesOfFrost 84 = .ok (.lstore 5, 2) := by decide +kernel
theorem dX5_casesOfFrost_86 : decode cX5_casesOfFrost 86 = .ok (.iinc 7 1, 3) := by decide +kernel
theorem dX5_casesOfFrost_89 : decode cX5_casesOfFrost 89 = .ok (.goto (-83), 3) := by decide +kernel
theorem dX5_casesOfFrost_92 : decode cX5_casesOfFrost 92 = .ok (.lload 5, 2) := by decide +kernel
theorem dX5_casesOfFrost_94 : decode cX5_casesOfFrost 94 = .ok (.lreturn, 1) := by decide +kernel
theorem dX5_firstTreeOfFrost_0 : decode cX5_firstTreeOfFrost 0 = .ok (.aload_n 0, 1) := by decide +kernel
theorem dX5_firstTreeOfFrost_1 : decode cX5_firstTreeOfFrost 1 = .ok (.getfield 29, 3) := by decide +kernel
theorem dX5_firstTreeOfFrost_4 : decode cX5_firstTreeOfFrost 4 = .ok (.aload_n 0, 1) := by decide +kernel
theorem dX5_firstTreeOfFrost_5 : decode cX5_firstTreeOfFrost 5 = .ok (.getfield 25, 3) := by decide +kernel
theorem dX5_firstTreeOfFrost_8 : decode cX5_firstTreeOfFrost 8 = .ok (.invokevirtual 87, 3) := by decide +kernel
theorem dX5_firstTreeOfFrost_11 : decode cX5_firstTreeOfFrost 11 = .ok (.iconst 0, 1) := by decide +kernel
theorem dX5_firstTreeOfFrost_12 : decode cX5_firstTreeOfFrost 12 = .ok (.istore 4, 2) := by decide +kernel
theorem dX5_firstTreeOfFrost_14 : decode cX5_firstTreeOfFrost 14 = .ok (.iload 4, 2) := by decide +kernel
theorem dX5_firstTreeOfFrost_16 : decode cX5_firstTreeOfFrost 16 = .ok (.iload_n 2, 1) := by decide +kernel
theorem dX5_firstTreeOfFrost_17 : decode cX5_firstTreeOfFrost 17 = .ok (.if_icmp .ge 32, 3) := by decide +kernel
theorem dX5_firstTreeOfFrost_20 : decode cX5_firstTreeOfFrost 20 = .ok (.aload_n 0, 1) := by decide +kernel
theorem dX5_firstTreeOfFrost_21 : decode cX5_firstTreeOfFrost 21 = .ok (.getfield 29, 3) := by decide +kernel
theorem dX5_firstTreeOfFrost_24 : decode cX5_firstTreeOfFrost 24 = .ok (.iload_n 3, 1) := by decide +kernel
theorem dX5_firstTreeOfFrost_25 : decode cX5_firstTreeOfFrost 25 = .ok (.i2l, 1) := by decide +kernel
theorem dX5_firstTreeOfFrost_26 : decode cX5_firstTreeOfFrost 26 = .ok (.iload 4, 2) := by decide +kernel
theorem dX5_firstTreeOfFrost_28 : decode cX5_firstTreeOfFrost 28 = .ok (.invokestatic 118, 3) := by decide +kernel
theorem dX5_firstTreeOfFrost_31 : decode cX5_firstTreeOfFrost 31 = .ok (.ifCond .eq 7, 3) := by decide +kernel
theorem dX5_firstTreeOfFrost_34 : decode cX5_firstTreeOfFrost 34 = .ok (.iload_n 1, 1) := by decide +kernel
theorem dX5_firstTreeOfFrost_35 : decode cX5_firstTreeOfFrost 35 = .ok (.goto 5, 3) := by decide +kernel
theorem dX5_firstTreeOfFrost_38 : decode cX5_firstTreeOfFrost 38 = .ok (.bipush (-4), 2) := by decide +kernel
theorem dX5_firstTreeOfFrost_40 : decode cX5_firstTreeOfFrost 40 = .ok (.invokevirtual 210, 3) := by decide +kernel
theorem dX5_firstTreeOfFrost_43 : decode cX5_firstTreeOfFrost 43 = .ok (.iinc 4 1, 3) := by decide +kernel
theorem dX5_firstTreeOfFrost_46 : decode cX5_firstTreeOfFrost 46 = .ok (.goto (-32), 3) := by decide +kernel
theorem dX5_firstTreeOfFrost_49 : decode cX5_firstTreeOfFrost 49 = .ok (.aload_n 0, 1) := by decide +kernel
theorem dX5_firstTreeOfFrost_50 : decode cX5_firstTreeOfFrost 50 = .ok (.getfield 29, 3) := by decide +kernel
theorem dX5_firstTreeOfFrost_53 : decode cX5_firstTreeOfFrost 53 = .ok (.iload_n 1, 1) := by decide +kernel
theorem dX5_firstTreeOfFrost_54 : decode cX5_firstTreeOfFrost 54 = .ok (.invokevirtual 125, 3) := by decide +kernel
theorem dX5_firstTreeOfFrost_57 : decode cX5_firstTreeOfFrost 57 = .ok (.ifCond .eq 18, 3) := by decide +kernel
theorem dX5_firstTreeOfFrost_60 : decode cX5_firstTreeOfFrost 60 = .ok (.aload_n 0, 1) := by decide +kernel
theorem dX5_firstTreeOfFrost_61 : decode cX5_firstTreeOfFrost 61 = .ok (.getfield 29, 3) := by decide +kernel
theorem dX5_firstTreeOfFrost_64 : decode cX5_firstTreeOfFrost 64 = .ok (.getfield 126, 3) := by decide +kernel
theorem dX5_firstTreeOfFrost_67 : decode cX5_firstTreeOfFrost 67 = .ok (.iload_n 1, 1) := by decide +kernel
theorem dX5_firstTreeOfFrost_68 : decode cX5_firstTreeOfFrost 68 = .ok (.aaload, 1) := by decide +kernel
theorem dX5_firstTreeOfFrost_69 : decode cX5_firstTreeOfFrost 69 = .ok (.invokevirtual 144, 3) := by decide +kernel
theorem dX5_firstTreeOfFrost_72 : decode cX5_firstTreeOfFrost 72 = .ok (.goto 5, 3) := by decide +kernel
theorem dX5_firstTreeOfFrost_75 : decode cX5_firstTreeOfFrost 75 = .ok (.bipush (-4), 2) := by decide +kernel
theorem dX5_firstTreeOfFrost_77 : decode cX5_firstTreeOfFrost 77 = .ok (.ireturn, 1) := by decide +kernel
theorem dX5_drawOf_0 : decode cX5_drawOf 0 = .ok (.ldc2_w 274, 3) := by decide +kernel
theorem dX5_drawOf_3 : decode cX5_drawOf 3 = .ok (.iload_n 0, 1) := by decide +kernel
theorem dX5_drawOf_4 : decode cX5_drawOf 4 = .ok (.i2l, 1) := by decide +kernel
theorem dX5_drawOf_5 : decode cX5_drawOf 5 = .ok (.lmul, 1) := by decide +kernel
theorem dX5_drawOf_6 : decode cX5_drawOf 6 = .ok (.ldc2_w 276, 3) := by decide +kernel
theorem dX5_drawOf_9 : decode cX5_drawOf 9 = .ok (.iload_n 1, 1) := by decide +kernel
theorem dX5_drawOf_10 : decode cX5_drawOf 10 = .ok (.i2l, 1) := by decide +kernel
theorem dX5_drawOf_11 : decode cX5_drawOf 11 = .ok (.lmul, 1) := by decide +kernel
theorem dX5_drawOf_12 : decode cX5_drawOf 12 = .ok (.ladd, 1) := by decide +kernel
theorem dX5_drawOf_13 : decode cX5_drawOf 13 = .ok (.lconst 1, 1) := by decide +kernel
theorem dX5_drawOf_14 : decode cX5_drawOf 14 = .ok (.ladd, 1) := by decide +kernel
theorem dX5_drawOf_15 : decode cX5_drawOf 15 = .ok (.lstore_n 2, 1) := by decide +kernel
theorem dX5_drawOf_16 : decode cX5_drawOf 16 = .ok (.lload_n 2, 1) := by decide +kernel
theorem dX5_drawOf_17 : decode cX5_drawOf 17 = .ok (.lload_n 2, 1) := by decide +kernel
theorem dX5_drawOf_18 : decode cX5_drawOf 18 = .ok (.lmul, 1) := by decide +kernel
theorem dX5_drawOf_19 : decode cX5_drawOf 19 = .ok (.ldc2_w 278, 3) := by decide +kernel
theorem dX5_drawOf_22 : decode cX5_drawOf 22 = .ok (.lrem, 1) := by decide +kernel
theorem dX5_drawOf_23 : decode cX5_drawOf 23 = .ok (.l2i, 1) := by decide +kernel
theorem dX5_drawOf_24 : decode cX5_drawOf 24 = .ok (.ireturn, 1) := by decide +kernel
theorem dX5_disturbAhead_0 : decode cX5_disturbAhead 0 = .ok (.aload_n 0, 1) := by decide +kernel
theorem dX5_disturbAhead_1 : decode cX5_disturbAhead 1 = .ok (.getfield 16, 3) := by decide +kernel
theorem dX5_disturbAhead_4 : decode cX5_disturbAhead 4 = .ok (.invokevirtual 228, 3) := by decide +kernel
theorem dX5_disturbAhead_7 : decode cX5_disturbAhead 7 = .ok (.istore_n 2, 1) := by decide +kernel
theorem dX5_disturbAhead_8 : decode cX5_disturbAhead 8 = .ok (.aload_n 0, 1) := by decide +kernel
theorem dX5_disturbAhead_9 : decode cX5_disturbAhead 9 = .ok (.getfield 29, 3) := by decide +kernel
theorem dX5_disturbAhead_12 : decode cX5_disturbAhead 12 = .ok (.getfield 94, 3) := by decide +kernel
theorem dX5_disturbAhead_15 : decode cX5_disturbAhead 15 = .ok (.istore_n 3, 1) := by decide +kernel
theorem dX5_disturbAhead_16 : decode cX5_disturbAhead 16 = .ok (.iload_n 2, 1) := by decide +kernel
theorem dX5_disturbAhead_17 : decode cX5_disturbAhead 17 = .ok (.iconst 1, 1) := by decide +kernel
theorem dX5_disturbAhead_18 : decode cX5_disturbAhead 18 = .ok (.if_icmp .lt 12, 3) := by decide +kernel
theorem dX5_disturbAhead_21 : decode cX5_disturbAhead 21 = .ok (.iload_n 3, 1) := by decide +kernel
theorem dX5_disturbAhead_22 : decode cX5_disturbAhead 22 = .ok (.iconst 1, 1) := by decide +kernel
theorem dX5_disturbAhead_23 : decode cX5_disturbAhead 23 = .ok (.if_icmp .lt 7, 3) := by decide +kernel
theorem dX5_disturbAhead_26 : decode cX5_disturbAhead 26 = .ok (.iload_n 1, 1) := by decide +kernel
theorem dX5_disturbAhead_27 : decode cX5_disturbAhead 27 = .ok (.ifCond .ge 4, 3) := by decide +kernel
theorem dX5_disturbAhead_30 : decode cX5_disturbAhead 30 = .ok (.return_, 1) := by decide +kernel
theorem dX5_disturbAhead_31 : decode cX5_disturbAhead 31 = .ok (.iload_n 1, 1) := by decide +kernel
theorem dX5_disturbAhead_32 : decode cX5_disturbAhead 32 = .ok (.bipush 8, 2) := by decide +kernel
theorem dX5_disturbAhead_34 : decode cX5_disturbAhead 34 = .ok (.idiv, 1) := by decide +kernel
theorem dX5_disturbAhead_35 : decode cX5_disturbAhead 35 = .ok (.istore 4, 2) := by decide +kernel
theorem dX5_disturbAhead_37 : decode cX5_disturbAhead 37 = .ok (.iload_n 1, 1) := by decide +kernel
theorem dX5_disturbAhead_38 : decode cX5_disturbAhead 38 = .ok (.bipush 8, 2) := by decide +kernel
theorem dX5_disturbAhead_40 : decode cX5_disturbAhead 40 = .ok (.irem, 1) := by decide +kernel
theorem dX5_disturbAhead_41 : decode cX5_disturbAhead 41 = .ok (.tableswitch 86 0 3 #[31, 31, 45, 59], 31) := by decide +kernel
theorem dX5_disturbAhead_72 : decode cX5_disturbAhead 72 = .ok (.aload_n 0, 1) := by decide +kernel
theorem dX5_disturbAhead_73 : decode cX5_disturbAhead 73 = .ok (.getfield 29, 3) := by decide +kernel
theorem dX5_disturbAhead_76 : decode cX5_disturbAhead 76 = .ok (.iload 4, 2) := by decide +kernel
theorem dX5_disturbAhead_78 : decode cX5_disturbAhead 78 = .ok (.iload_n 2, 1) := by decide +kernel
theorem dX5_disturbAhead_79 : decode cX5_disturbAhead 79 = .ok (.irem, 1) := by decide +kernel
theorem dX5_disturbAhead_80 : decode cX5_disturbAhead 80 = .ok (.invokevirtual 182, 3) := by decide +kernel
theorem dX5_disturbAhead_83 : decode cX5_disturbAhead 83 = .ok (.goto 44, 3) := by decide +kernel
theorem dX5_disturbAhead_86 : decode cX5_disturbAhead 86 = .ok (.aload_n 0, 1) := by decide +kernel
theorem dX5_disturbAhead_87 : decode cX5_disturbAhead 87 = .ok (.getfield 29, 3) := by decide +kernel
theorem dX5_disturbAhead_90 : decode cX5_disturbAhead 90 = .ok (.iload 4, 2) := by decide +kernel
theorem dX5_disturbAhead_92 : decode cX5_disturbAhead 92 = .ok (.iload_n 2, 1) := by decide +kernel
theorem dX5_disturbAhead_93 : decode cX5_disturbAhead 93 = .ok (.irem, 1) := by decide +kernel
theorem dX5_disturbAhead_94 : decode cX5_disturbAhead 94 = .ok (.invokevirtual 191, 3) := by decide +kernel
theorem dX5_disturbAhead_97 : decode cX5_disturbAhead 97 = .ok (.goto 30, 3) := by decide +kernel
theorem dX5_disturbAhead_100 : decode cX5_disturbAhead 100 = .ok (.aload_n 0, 1) := by decide +kernel
theorem dX5_disturbAhead_101 : decode cX5_disturbAhead 101 = .ok (.getfield 29, 3) := by decide +kernel
theorem dX5_disturbAhead_104 : decode cX5_disturbAhead 104 = .ok (.aload_n 0, 1) := by decide +kernel
theorem dX5_disturbAhead_105 : decode cX5_disturbAhead 105 = .ok (.getfield 29, 3) := by decide +kernel
theorem dX5_disturbAhead_108 : decode cX5_disturbAhead 108 = .ok (.getfield 126, 3) := by decide +kernel
theorem dX5_disturbAhead_111 : decode cX5_disturbAhead 111 = .ok (.iload 4, 2) := by decide +kernel
theorem dX5_disturbAhead_113 : decode cX5_disturbAhead 113 = .ok (.iload_n 3, 1) := by decide +kernel
theorem dX5_disturbAhead_114 : decode cX5_disturbAhead 114 = .ok (.irem, 1) := by decide +kernel
theorem dX5_disturbAhead_115 : decode cX5_disturbAhead 115 = .ok (.iconst 2, 1) := by decide +kernel
theorem dX5_disturbAhead_116 : decode cX5_disturbAhead 116 = .ok (.invokestatic 280, 3) := by decide +kernel
theorem dX5_disturbAhead_119 : decode cX5_disturbAhead 119 = .ok (.aaload, 1) := by decide +kernel
theorem dX5_disturbAhead_120 : decode cX5_disturbAhead 120 = .ok (.invokevirtual 194, 3) := by decide +kernel
theorem dX5_disturbAhead_123 : decode cX5_disturbAhead 123 = .ok (.pop, 1) := by decide +kernel
theorem dX5_disturbAhead_124 : decode cX5_disturbAhead 124 = .ok (.goto 3, 3) := by decide +kernel
theorem dX5_disturbAhead_127 : decode cX5_disturbAhead 127 = .ok (.return_, 1) := by decide +kernel
end
section
theorem dX6_init_0 : decode cX6_init 0 = .ok (.aload_n 0, 1) := by decide +kernel
theorem dX6_init_1 : decode cX6_init 1 = .ok (.invokespecial 1, 3) := by decide +kernel
theorem dX6_init_4 : decode cX6_init 4 = .ok (.aload_n 0, 1) := by decide +kernel
theorem dX6_init_5 : decode cX6_init 5 = .ok (.sipush 200, 3) := by decide +kernel
theorem dX6_init_8 : decode cX6_init 8 = .ok (.newarray .int, 2) := by decide +kernel
theorem dX6_init_10 : decode cX6_init 10 = .ok (.putfield 7, 3) := by decide +kernel
theorem dX6_init_13 : decode cX6_init 13 = .ok (.aload_n 0, 1) := by decide +kernel
theorem dX6_init_14 : decode cX6_init 14 = .ok (.bipush 81, 2) := by decide +kernel
theorem dX6_init_16 : decode cX6_init 16 = .ok (.newarray .int, 2) := by decide +kernel
theorem dX6_init_18 : decode cX6_init 18 = .ok (.putfield 13, 3) := by decide +kernel
theorem dX6_init_21 : decode cX6_init 21 = .ok (.aload_n 0, 1) := by decide +kernel
theorem dX6_init_22 : decode cX6_init 22 = .ok (.bipush 81, 2) := by decide +kernel
theorem dX6_init_24 : decode cX6_init 24 = .ok (.newarray .int, 2) := by decide +kernel
theorem dX6_init_26 : decode cX6_init 26 = .ok (.putfield 16, 3) := by decide +kernel
theorem dX6_init_29 : decode cX6_init 29 = .ok (.aload_n 0, 1) := by decide +kernel
theorem dX6_init_30 : decode cX6_init 30 = .ok (.bipush 59, 2) := by decide +kernel
theorem dX6_init_32 : decode cX6_init 32 = .ok (.newarray .int, 2) := by decide +kernel
theorem dX6_init_34 : decode cX6_init 34 = .ok (.putfield 19, 3) := by decide +kernel
theorem dX6_init_37 : decode cX6_init 37 = .ok (.aload_n 0, 1) := by decide +kernel
theorem dX6_init_38 : decode cX6_init 38 = .ok (.bipush 59, 2) := by decide +kernel
theorem dX6_init_40 : decode cX6_init 40 = .ok (.newarray .int, 2) := by decide +kernel
theorem dX6_init_42 : decode cX6_init 42 = .ok (.putfield 22, 3) := by decide +kernel
theorem dX6_init_45 : decode cX6_init 45 = .ok (.aload_n 0, 1) := by decide +kernel
theorem dX6_init_46 : decode cX6_init 46 = .ok (.sipush 472, 3) := by decide +kernel
theorem dX6_init_49 : decode cX6_init 49 = .ok (.newarray .int, 2) := by decide +kernel
theorem dX6_init_51 : decode cX6_init 51 = .ok (.putfield 25, 3) := by decide +kernel
theorem dX6_init_54 : decode cX6_init 54 = .ok (.aload_n 0, 1) := by decide +kernel
theorem dX6_init_55 : decode cX6_init 55 = .ok (.bipush 118, 2) := by decide +kernel
theorem dX6_init_57 : decode cX6_init 57 = .ok (.newarray .int, 2) := by decide +kernel
theorem dX6_init_59 : decode cX6_init 59 = .ok (.putfield 28, 3) := by decide +kernel
theorem dX6_init_62 : decode cX6_init 62 = .ok (.aload_n 0, 1) := by decide +kernel
theorem dX6_init_63 : decode cX6_init 63 = .ok (.bipush 18, 2) := by decide +kernel
theorem dX6_init_65 : decode cX6_init 65 = .ok (.newarray .int, 2) := by decide +kernel
theorem dX6_init_67 : decode cX6_init 67 = .ok (.putfield 31, 3) := by decide +kernel
theorem dX6_init_70 : decode cX6_init 70 = .ok (.aload_n 0, 1) := by decide +kernel
theorem dX6_init_71 : decode cX6_init 71 = .ok (.bipush 59, 2) := by decide +kernel
theorem dX6_init_73 : decode cX6_init 73 = .ok (.newarray .int, 2) := by decide +kernel
theorem dX6_init_75 : decode cX6_init 75 = .ok (.putfield 34, 3) := by decide +kernel
theorem dX6_init_78 : decode cX6_init 78 = .ok (.aload_n 0, 1) := by decide +kernel
theorem dX6_init_79 : decode cX6_init 79 = .ok (.invokevirtual 37, 3) := by decide +kernel
theorem dX6_init_82 : decode cX6_init 82 = .ok (.aload_n 0, 1) := by decide +kernel
theorem dX6_init_83 : decode cX6_init 83 = .ok (.getfield 16, 3) := by decide +kernel
theorem dX6_init_86 : decode cX6_init 86 = .ok (.iconst 0, 1) := by decide +kernel
theorem dX6_init_87 : decode cX6_init 87 = .ok (.bipush 30, 2) := by decide +kernel
theorem dX6_init_89 : decode cX6_init 89 = .ok (.iastore, 1) := by decide +kernel
theorem dX6_init_90 : decode cX6_init 90 = .ok (.aload_n 0, 1) := by decide +kernel
theorem dX6_init_91 : decode cX6_init 91 = .ok (.getfield 16, 3) := by decide +kernel
theorem dX6_init_94 : decode cX6_init 94 = .ok (.iconst 1, 1) := by decide +kernel
theorem dX6_init_95 : decode cX6_init 95 = .ok (.bipush 6, 2) := by decide +kernel
theorem dX6_init_97 : decode cX6_init 97 = .ok (.iastore, 1) := by decide +kernel
theorem dX6_init_98 : decode cX6_init 98 = .ok (.aload_n 0, 1) := by decide +kernel
theorem dX6_init_99 : decode cX6_init 99 = .ok (.getfield 16, 3) := by decide +kernel
theorem dX6_init_102 : decode cX6_init 102 = .ok (.bipush 6, 2) := by decide +kernel
theorem dX6_init_104 : decode cX6_init 104 = .ok (.iconst 1, 1) := by decide +kernel
theorem dX6_init_105 : decode cX6_init 105 = .ok (.iastore, 1) := by decide +kernel
theorem dX6_init_106 : decode cX6_init 106 = .ok (.aload_n 0, 1) := by decide +kernel
theorem dX6_init_107 : decode cX6_init 107 = .ok (.getfield 16, 3) := by decide +kernel
theorem dX6_init_110 : decode cX6_init 110 = .ok (.bipush 12, 2) := by decide +kernel
theorem dX6_init_112 : decode cX6_init 112 = .ok (.iconst 1, 1) := by decide +kernel
theorem dX6_init_113 : decode cX6_init 113 = .ok (.iastore, 1) := by decide +kernel
theorem dX6_init_114 : decode cX6_init 114 = .ok (.aload_n 0, 1) := by decide +kernel
theorem dX6_init_115 : decode cX6_init 115 = .ok (.getfield 16, 3) := by decide +kernel
theorem dX6_init_118 : decode cX6_init 118 = .ok (.bipush 16, 2) := by decide +kernel
theorem dX6_init_120 : decode cX6_init 120 = .ok (.iconst 2, 1) := by decide +kernel
theorem dX6_init_121 : decode cX6_init 121 = .ok (.iastore, 1) := by decide +kernel
theorem dX6_init_122 : decode cX6_init 122 = .ok (.aload_n 0, 1) := by decide +kernel
theorem dX6_init_123 : decode cX6_init 123 = .ok (.getfield 16, 3) := by decide +kernel
theorem dX6_init_126 : decode cX6_init 126 = .ok (.bipush 18, 2) := by decide +kernel
theorem dX6_init_128 : decode cX6_init 128 = .ok (.iconst 1, 1) := by decide +kernel
theorem dX6_init_129 : decode cX6_init 129 = .ok (.iastore, 1) := by decide +kernel
theorem dX6_init_130 : decode cX6_init 130 = .ok (.aload_n 0, 1) := by decide +kernel
theorem dX6_init_131 : decode cX6_init 131 = .ok (.getfield 16, 3) := by decide +kernel
theorem dX6_init_134 : decode cX6_init 134 = .ok (.bipush 19, 2) := by decide +kernel
theorem dX6_init_136 : decode cX6_init 136 = .ok (.iconst 1, 1) := by decide +kernel
theorem dX6_init_137 : decode cX6_init 137 = .ok (.iastore, 1) := by decide +kernel
theorem dX6_init_138 : decode cX6_init 138 = .ok (.aload_n 0, 1) := by decide +kernel
theorem dX6_init_139 : decode cX6_init 139 = .ok (.getfield 16, 3) := by decide +kernel
theorem dX6_init_142 : decode cX6_init 142 = .ok (.bipush 28, 2) := by decide +kernel
theorem dX6_init_144 : decode cX6_init 144 = .ok (.iconst 3, 1) := by decide +kernel
theorem dX6_init_145 : decode cX6_init 145 = .ok (.iastore, 1) := by decide +kernel
theorem dX6_init_146 : decode cX6_init 146 = .ok (.aload_n 0, 1) := by decide +kernel
theorem dX6_init_147 : decode cX6_init 147 = .ok (.iconst 0, 1) := by decide +kernel
theorem dX6_init_148 : decode cX6_init 148 = .ok (.iconst 2, 1) := by decide +kernel
theorem dX6_init_149 : decode cX6_init 149 = .ok (.iconst 1, 1) := by decide +kernel
theorem dX6_init_150 : decode cX6_init 150 = .ok (.invokevirtual 40, 3) := by decide +kernel
theorem dX6_init_153 : decode cX6_init 153 = .ok (.aload_n 0, 1) := by decide +kernel
theorem dX6_init_154 : decode cX6_init 154 = .ok (.bipush 18, 2) := by decide +kernel
theorem dX6_init_156 : decode cX6_init 156 = .ok (.bipush 23, 2) := by decide +kernel
theorem dX6_init_158 : decode cX6_init 158 = .ok (.iconst 2, 1) := by decide +kernel
theorem dX6_init_159 : decode cX6_init 159 = .ok (.invokevirtual 40, 3) := by decide +kernel
theorem dX6_init_162 : decode cX6_init 162 = .ok (.aload_n 0, 1) := by decide +kernel
theorem dX6_init_163 : decode cX6_init 163 = .ok (.bipush 24, 2) := by decide +kernel
theorem dX6_init_165 : decode cX6_init 165 = .ok (.bipush 29, 2) := by decide +kernel
theorem dX6_init_167 : decode cX6_init 167 = .ok (.iconst 3, 1) := by decide +kernel
theorem dX6_init_168 : decode cX6_init 168 = .ok (.invokevirtual 40, 3) := by decide +kernel
theorem dX6_init_171 : decode cX6_init 171 = .ok (.aload_n 0, 1) := by decide +kernel
theorem dX6_init_172 : decode cX6_init 172 = .ok (.iconst 0, 1) := by decide +kernel
theorem dX6_init_173 : decode cX6_init 173 = .ok (.iconst 1, 1) := by decide +kernel
theorem dX6_init_174 : decode cX6_init 174 = .ok (.iconst 3, 1) := by decide +kernel
theorem dX6_init_175 : decode cX6_init 175 = .ok (.invokevirtual 44, 3) := by decide +kernel
theorem dX6_init_178 : decode cX6_init 178 = .ok (.aload_n 0, 1) := by decide +kernel
theorem dX6_init_179 : decode cX6_init 179 = .ok (.bipush 7, 2) := by decide +kernel
theorem dX6_init_181 : decode cX6_init 181 = .ok (.invokevirtual 47, 3) := by decide +kernel
theorem dX6_init_184 : decode cX6_init 184 = .ok (.aload_n 0, 1) := by decide +kernel
theorem dX6_init_185 : decode cX6_init 185 = .ok (.bipush 6, 2) := by decide +kernel
theorem dX6_init_187 : decode cX6_init 187 = .ok (.invokevirtual 47, 3) := by decide +kernel
theorem dX6_init_190 : decode cX6_init 190 = .ok (.aload_n 0, 1) := by decide +kernel
theorem dX6_init_191 : decode cX6_init 191 = .ok (.iconst 1, 1) := by decide +kernel
theorem dX6_init_192 : decode cX6_init 192 = .ok (.iconst 0, 1) := by decide +kernel
theorem dX6_init_193 : decode cX6_init 193 = .ok (.iconst 2, 1) := by decide +kernel
theorem dX6_init_194 : decode cX6_init 194 = .ok (.invokevirtual 44, 3) := by decide +kernel
theorem dX6_init_197 : decode cX6_init 197 = .ok (.aload_n 0, 1) := by decide +kernel
theorem dX6_init_198 : decode cX6_init 198 = .ok (.bipush 28, 2) := by decide +kernel
theorem dX6_init_200 : decode cX6_init 200 = .ok (.invokevirtual 47, 3) := by decide +kernel
theorem dX6_init_203 : decode cX6_init 203 = .ok (.aload_n 0, 1) := by decide +kernel
theorem dX6_init_204 : decode cX6_init 204 = .ok (.bipush 27, 2) := by decide +kernel
theorem dX6_init_206 : decode cX6_init 206 = .ok (.invokevirtual 47, 3) := by decide +kernel
theorem dX6_init_209 : decode cX6_init 209 = .ok (.aload_n 0, 1) := by decide +kernel
theorem dX6_init_210 : decode cX6_init 210 = .ok (.bipush 26, 2) := by decide +kernel
theorem dX6_init_212 : decode cX6_init 212 = .ok (.invokevirtual 47, 3) := by decide +kernel
theorem dX6_init_215 : decode cX6_init 215 = .ok (.aload_n 0, 1) := by decide +kernel
theorem dX6_init_216 : decode cX6_init 216 = .ok (.iconst 3, 1) := by decide +kernel
theorem dX6_init_217 : decode cX6_init 217 = .ok (.iconst 2, 1) := by decide +kernel
theorem dX6_init_218 : decode cX6_init 218 = .ok (.iconst 5, 1) := by decide +kernel
theorem dX6_init_219 : decode cX6_init 219 = .ok (.invokevirtual 44, 3) := by decide +kernel
theorem dX6_init_222 : decode cX6_init 222 = .ok (.aload_n 0, 1) := by decide +kernel
theorem dX6_init_223 : decode cX6_init 223 = .ok (.iconst 5, 1) := by decide +kernel
theorem dX6_init_224 : decode cX6_init 224 = .ok (.invokevirtual 47, 3) := by decide +kernel
theorem dX6_init_227 : decode cX6_init 227 = .ok (.aload_n 0, 1) := by decide +kernel
theorem dX6_init_228 : decode cX6_init 228 = .ok (.invokevirtual 51, 3) := by decide +kernel
theorem dX6_init_231 : decode cX6_init 231 = .ok (.return_, 1) := by decide +kernel
theorem dX6_in_0 : decode cX6_in 0 = .ok (.iload_n 0, 1) := by decide +kernel
theorem dX6_in_1 : decode cX6_in 1 = .ok (.iload_n 1, 1) := by decide +kernel
theorem dX6_in_2 : decode cX6_in 2 = .ok (.if_icmp .lt 12, 3) := by decide +kernel
theorem dX6_in_5 : decode cX6_in 5 = .ok (.iload_n 0, 1) := by decide +kernel
theorem dX6_in_6 : decode cX6_in 6 = .ok (.iload_n 2, 1) := by decide +kernel
theorem dX6_in_7 : decode cX6_in 7 = .ok (.if_icmp .gt 7, 3) := by decide +kernel
theorem dX6_in_10 : decode cX6_in 10 = .ok (.iconst 1, 1) := by decide +kernel
theorem dX6_in_11 : decode cX6_in 11 = .ok (.goto 4, 3) := by decide +kernel
theorem dX6_in_14 : decode cX6_in 14 = .ok (.iconst 0, 1) := by decide +kernel
theorem dX6_in_15 : decode cX6_in 15 = .ok (.ireturn, 1) := by decide +kernel
theorem dX6_isCell_0 : decode cX6_isCell 0 = .ok (.iload_n 1, 1) := by decide +kernel
theorem dX6_isCell_1 : decode cX6_isCell 1 = .ok (.iconst 0, 1) := by decide +kernel
theorem dX6_isCell_2 : decode cX6_isCell 2 = .ok (.aload_n 0, 1) := by decide +kernel
theorem dX6_isCell_3 : decode cX6_isCell 3 = .ok (.getfield 13, 3) := by decide +kernel
theorem dX6_isCell_6 : decode cX6_isCell 6 = .ok (.iconst 0, 1) := by decide +kernel
theorem dX6_isCell_7 : decode cX6_isCell 7 = .ok (.iaload, 1) := by decide +kernel
theorem dX6_isCell_8 : decode cX6_isCell 8 = .ok (.iconst 1, 1) := by decide +kernel
theorem dX6_isCell_9 : decode cX6_isCell 9 = .ok (.isub, 1) := by decide +kernel
theorem dX6_isCell_10 : decode cX6_isCell 10 = .ok (.invokestatic 54, 3) := by decide +kernel
theorem dX6_isCell_13 : decode cX6_isCell 13 = .ok (.ireturn, 1) := by decide +kernel
theorem dX6_isRow_0 : decode cX6_isRow 0 = .ok (.iload_n 1, 1) := by decide +kernel
theorem dX6_isRow_1 : decode cX6_isRow 1 = .ok (.iconst 0, 1) := by decide +kernel
theorem dX6_isRow_2 : decode cX6_isRow 2 = .ok (.aload_n 0, 1) := by decide +kernel
theorem dX6_isRow_3 : decode cX6_isRow 3 = .ok (.getfield 13, 3) := by decide +kernel
theorem dX6_isRow_6 : decode cX6_isRow 6 = .ok (.iconst 2, 1) := by decide +kernel
theorem dX6_isRow_7 : decode cX6_isRow 7 = .ok (.iaload, 1) := by decide +kernel
theorem dX6_isRow_8 : decode cX6_isRow 8 = .ok (.iconst 1, 1) := by decide +kernel
theorem dX6_isRow_9 : decode cX6_isRow 9 = .ok (.isub, 1) := by decide +kernel
theorem dX6_isRow_10 : decode cX6_isRow 10 = .ok (.invokestatic 54, 3) := by decide +kernel
theorem dX6_isRow_13 : decode cX6_isRow 13 = .ok (.ireturn, 1) := by decide +kernel
theorem dX6_write_0 : decode cX6_write 0 = .ok (.iload_n 1, 1) := by decide +kernel
theorem dX6_write_1 : decode cX6_write 1 = .ok (.bipush 32, 2) := by decide +kernel
theorem dX6_write_3 : decode cX6_write 3 = .ok (.bipush 126, 2) := by decide +kernel
theorem dX6_write_5 : decode cX6_write 5 = .ok (.invokestatic 54, 3) := by decide +kernel
theorem dX6_write_8 : decode cX6_write 8 = .ok (.ifCond .ne 5, 3) := by decide +kernel
theorem dX6_write_11 : decode cX6_write 11 = .ok (.iconst (-1), 1) := by decide +kernel
theorem dX6_write_12 : decode cX6_write 12 = .ok (.ireturn, 1) := by decide +kernel
theorem dX6_write_13 : decode cX6_write 13 = .ok (.aload_n 0, 1) := by decide +kernel
theorem dX6_write_14 : decode cX6_write 14 = .ok (.getfield 58, 3) := by decide +kernel
theorem dX6_write_17 : decode cX6_write 17 = .ok (.sipush 200, 3) := by decide +kernel
theorem dX6_write_20 : decode cX6_write 20 = .ok (.if_icmp .ne 6, 3) := by decide +kernel
theorem dX6_write_23 : decode cX6_write 23 = .ok (.bipush (-3), 2) := by decide +kernel
theorem dX6_write_25 : decode cX6_write 25 = .ok (.ireturn, 1) := by decide +kernel
theorem dX6_write_26 : decode cX6_write 26 = .ok (.aload_n 0, 1) := by decide +kernel
theorem dX6_write_27 : decode cX6_write 27 = .ok (.getfield 7, 3) := by decide +kernel
theorem dX6_write_30 : decode cX6_write 30 = .ok (.aload_n 0, 1) := by decide +kernel
theorem dX6_write_31 : decode cX6_write 31 = .ok (.getfield 58, 3) := by decide +kernel
theorem dX6_write_34 : decode cX6_write 34 = .ok (.iload_n 1, 1) := by decide +kernel
theorem dX6_write_35 : decode cX6_write 35 = .ok (.iastore, 1) := by decide +kernel
theorem dX6_write_36 : decode cX6_write 36 = .ok (.aload_n 0, 1) := by decide +kernel
theorem dX6_write_37 : decode cX6_write 37 = .ok (.dup, 1) := by decide +kernel
theorem dX6_write_38 : decode cX6_write 38 = .ok (.getfield 58, 3) := by decide +kernel
theorem dX6_write_41 : decode cX6_write 41 = .ok (.iconst 1, 1) := by decide +kernel
theorem dX6_write_42 : decode cX6_write 42 = .ok (.iadd, 1) := by decide +kernel
theorem dX6_write_43 : decode cX6_write 43 = .ok (.putfield 58, 3) := by decide +kernel
theorem dX6_write_46 : decode cX6_write 46 = .ok (.aload_n 0, 1) := by decide +kernel
theorem dX6_write_47 : decode cX6_write 47 = .ok (.getfield 58, 3) := by decide +kernel
theorem dX6_write_50 : decode cX6_write 50 = .ok (.ireturn, 1) := by decide +kernel
theorem dX6_wipe_0 : decode cX6_wipe 0 = .ok (.aload_n 0, 1) := by decide +kernel
theorem dX6_wipe_1 : decode cX6_wipe 1 = .ok (.getfield 58, 3) := by decide +kernel
theorem dX6_wipe_4 : decode cX6_wipe 4 = .ok (.istore_n 1, 1) := by decide +kernel
theorem dX6_wipe_5 : decode cX6_wipe 5 = .ok (.aload_n 0, 1) := by decide +kernel
theorem dX6_wipe_6 : decode cX6_wipe 6 = .ok (.iconst 0, 1) := by decide +kernel
theorem dX6_wipe_7 : decode cX6_wipe 7 = .ok (.putfield 58, 3) := by decide +kernel
theorem dX6_wipe_10 : decode cX6_wipe 10 = .ok (.iload_n 1, 1) := by decide +kernel
theorem dX6_wipe_11 : decode cX6_wipe 11 = .ok (.ireturn, 1) := by decide +kernel
theorem dX6_letterAt_0 : decode cX6_letterAt 0 = .ok (.iload_n 1, 1) := by decide +kernel
theorem dX6_letterAt_1 : decode cX6_letterAt 1 = .ok (.aload_n 0, 1) := by decide +kernel
theorem dX6_letterAt_2 : decode cX6_letterAt 2 = .ok (.getfield 58, 3) := by decide +kernel
theorem dX6_letterAt_5 : decode cX6_letterAt 5 = .ok (.if_icmp .ge 12, 3) := by decide +kernel
theorem dX6_letterAt_8 : decode cX6_letterAt 8 = .ok (.aload_n 0, 1) := by decide +kernel
theorem dX6_letterAt_9 : decode cX6_letterAt 9 = .ok (.getfield 7, 3) := by decide +kernel
theorem dX6_letterAt_12 : decode cX6_letterAt 12 = .ok (.iload_n 1, 1) := by decide +kernel
theorem dX6_letterAt_13 : decode cX6_letterAt 13 = .ok (.iaload, 1) := by decide +kernel
theorem dX6_letterAt_14 : decode cX6_letterAt 14 = .ok (.goto 4, 3) := by decide +kernel
theorem dX6_letterAt_17 : decode cX6_letterAt 17 = .ok (.iconst (-1), 1) := by decide +kernel
theorem dX6_letterAt_18 : decode cX6_letterAt 18 = .ok (.ireturn, 1) := by decide +kernel
theorem dX6_isFigure_0 : decode cX6_isFigure 0 = .ok (.iload_n 0, 1) := by decide +kernel
theorem dX6_isFigure_1 : decode cX6_isFigure 1 = .ok (.bipush 48, 2) := by decide +kernel
theorem dX6_isFigure_3 : decode cX6_isFigure 3 = .ok (.bipush 57, 2) := by decide +kernel
theorem dX6_isFigure_5 : decode cX6_isFigure 5 = .ok (.invokestatic 54, 3) := by decide +kernel
theorem dX6_isFigure_8 : decode cX6_isFigure 8 = .ok (.ireturn, 1) := by decide +kernel
theorem dX6_figures_0 : decode cX6_figures 0 = .ok (.aload_n 0, 1) := by decide +kernel
theorem dX6_figures_1 : decode cX6_figures 1 = .ok (.aload_n 0, 1) := by decide +kernel
theorem dX6_figures_2 : decode cX6_figures 2 = .ok (.getfield 62, 3) := by decide +kernel
theorem dX6_figures_5 : decode cX6_figures 5 = .ok (.invokevirtual 65, 3) := by decide +kernel
theorem dX6_figures_8 : decode cX6_figures 8 = .ok (.invokestatic 69, 3) := by decide +kernel
theorem dX6_figures_11 : decode cX6_figures 11 = .ok (.ifCond .ne 5, 3) := by decide +kernel
theorem dX6_figures_14 : decode cX6_figures 14 = .ok (.iconst (-1), 1) := by decide +kernel
theorem dX6_figures_15 : decode cX6_figures 15 = .ok (.ireturn, 1) := by decide +kernel
theorem dX6_figures_16 : decode cX6_figures 16 = .ok (.aload_n 0, 1) := by decide +kernel
theorem dX6_figures_17 : decode cX6_figures 17 = .ok (.aload_n 0, 1) := by decide +kernel
theorem dX6_figures_18 : decode cX6_figures 18 = .ok (.getfield 62, 3) := by decide +kernel
theorem dX6_figures_21 : decode cX6_figures 21 = .ok (.invokevirtual 65, 3) := by decide +kernel
theorem dX6_figures_24 : decode cX6_figures 24 = .ok (.bipush 48, 2) := by decide +kernel
theorem dX6_figures_26 : decode cX6_figures 26 = .ok (.isub, 1) := by decide +kernel
theorem dX6_figures_27 : decode cX6_figures 27 = .ok (.istore_n 3, 1) := by decide +kernel
theorem dX6_figures_28 : decode cX6_figures 28 = .ok (.aload_n 0, 1) := by decide +kernel
theorem dX6_figures_29 : decode cX6_figures 29 = .ok (.dup, 1) := by decide +kernel
theorem dX6_figures_30 : decode cX6_figures 30 = .ok (.getfield 62, 3) := by decide +kernel
theorem dX6_figures_33 : decode cX6_figures 33 = .ok (.iconst 1, 1) := by decide +kernel
theorem dX6_figures_34 : decode cX6_figures 34 = .ok (.iadd, 1) := by decide +kernel
theorem dX6_figures_35 : decode cX6_figures 35 = .ok (.putfield 62, 3) := by decide +kernel
theorem dX6_figures_38 : decode cX6_figures 38 = .ok (.aload_n 0, 1) := by decide +kernel
theorem dX6_figures_39 : decode cX6_figures 39 = .ok (.aload_n 0, 1) := by decide +kernel
theorem dX6_figures_40 : decode cX6_figures 40 = .ok (.getfield 62, 3) := by decide +kernel
theorem dX6_figures_43 : decode cX6_figures 43 = .ok (.invokevirtual 65, 3) := by decide +kernel
theorem dX6_figures_46 : decode cX6_figures 46 = .ok (.invokestatic 69, 3) := by decide +kernel
theorem dX6_figures_49 : decode cX6_figures 49 = .ok (.ifCond .eq 30, 3) := by decide +kernel
theorem dX6_figures_52 : decode cX6_figures 52 = .ok (.bipush 10, 2) := by decide +kernel
theorem dX6_figures_54 : decode cX6_figures 54 = .ok (.iload_n 3, 1) := by decide +kernel
theorem dX6_figures_55 : decode cX6_figures 55 = .ok (.imul, 1) := by decide +kernel
theorem dX6_figures_56 : decode cX6_figures 56 = .ok (.aload_n 0, 1) := by decide +kernel
theorem dX6_figures_57 : decode cX6_figures 57 = .ok (.aload_n 0, 1) := by decide +kernel
theorem dX6_figures_58 : decode cX6_figures 58 = .ok (.getfield 62, 3) := by decide +kernel
theorem dX6_figures_61 : decode cX6_figures 61 = .ok (.invokevirtual 65, 3) := by decide +kernel
theorem dX6_figures_64 : decode cX6_figures 64 = .ok (.iadd, 1) := by decide +kernel
theorem dX6_figures_65 : decode cX6_figures 65 = .ok (.bipush 48, 2) := by decide +kernel
theorem dX6_figures_67 : decode cX6_figures 67 = .ok (.isub, 1) := by decide +kernel
theorem dX6_figures_68 : decode cX6_figures 68 = .ok (.istore_n 3, 1) := by decide +kernel
theorem dX6_figures_69 : decode cX6_figures 69 = .ok (.aload_n 0, 1) := by decide +kernel
theorem dX6_figures_70 : decode cX6_figures 70 = .ok (.dup, 1) := by decide +kernel
theorem dX6_figures_71 : decode cX6_figures 71 = .ok (.getfield 62, 3) := by decide +kernel
theorem dX6_figures_74 : decode cX6_figures 74 = .ok (.iconst 1, 1) := by decide +kernel
theorem dX6_figures_75 : decode cX6_figures 75 = .ok (.iadd, 1) := by decide +kernel
theorem dX6_figures_76 : decode cX6_figures 76 = .ok (.putfield 62, 3) := by decide +kernel
theorem dX6_figures_79 : decode cX6_figures 79 = .ok (.iload_n 3, 1) := by decide +kernel
theorem dX6_figures_80 : decode cX6_figures 80 = .ok (.iload_n 1, 1) := by decide +kernel
theorem dX6_figures_81 : decode cX6_figures 81 = .ok (.iload_n 2, 1) := by decide +kernel
theorem dX6_figures_82 : decode cX6_figures 82 = .ok (.invokestatic 54, 3) := by decide +kernel
theorem dX6_figures_85 : decode cX6_figures 85 = .ok (.ifCond .eq 7, 3) := by decide +kernel
theorem dX6_figures_88 : decode cX6_figures 88 = .ok (.iload_n 3, 1) := by decide +kernel
theorem dX6_figures_89 : decode cX6_figures 89 = .ok (.goto 4, 3) := by decide +kernel
theorem dX6_figures_92 : decode cX6_figures 92 = .ok (.iconst (-1), 1) := by decide +kernel
theorem dX6_figures_93 : decode cX6_figures 93 = .ok (.ireturn, 1) := by decide +kernel
theorem dX6_number_0 : decode cX6_number 0 = .ok (.aload_n 0, 1) := by decide +kernel
theorem dX6_number_1 : decode cX6_number 1 = .ok (.iload_n 1, 1) := by decide +kernel
theorem dX6_number_2 : decode cX6_number 2 = .ok (.iload_n 2, 1) := by decide +kernel
theorem dX6_number_3 : decode cX6_number 3 = .ok (.invokevirtual 73, 3) := by decide +kernel
theorem dX6_number_6 : decode cX6_number 6 = .ok (.istore 4, 2) := by decide +kernel
theorem dX6_number_8 : decode cX6_number 8 = .ok (.iload 4, 2) := by decide +kernel
theorem dX6_number_10 : decode cX6_number 10 = .ok (.ifCond .lt 19, 3) := by decide +kernel
theorem dX6_number_13 : decode cX6_number 13 = .ok (.aload_n 0, 1) := by decide +kernel
theorem dX6_number_14 : decode cX6_number 14 = .ok (.aload_n 0, 1) := by decide +kernel
theorem dX6_number_15 : decode cX6_number 15 = .ok (.getfield 62, 3) := by decide +kernel
theorem dX6_number_18 : decode cX6_number 18 = .ok (.invokevirtual 65, 3) := by decide +kernel
theorem dX6_number_21 : decode cX6_number 21 = .ok (.iload_n 3, 1) := by decide +kernel
theorem dX6_number_22 : decode cX6_number 22 = .ok (.if_icmp .ne 7, 3) := by decide +kernel
theorem dX6_number_25 : decode cX6_number 25 = .ok (.iconst 1, 1) := by decide +kernel
theorem dX6_number_26 : decode cX6_number 26 = .ok (.goto 4, 3) := by decide +kernel
theorem dX6_number_29 : decode cX6_number 29 = .ok (.iconst 0, 1) := by decide +kernel
theorem dX6_number_30 : decode cX6_number 30 = .ok (.istore 5, 2) := by decide +kernel
theorem dX6_number_32 : decode cX6_number 32 = .ok (.aload_n 0, 1) := by decide +kernel
theorem dX6_number_33 : decode cX6_number 33 = .ok (.dup, 1) := by decide +kernel
theorem dX6_number_34 : decode cX6_number 34 = .ok (.getfield 62, 3) := by decide +kernel
theorem dX6_number_37 : decode cX6_number 37 = .ok (.iconst 1, 1) := by decide +kernel
theorem dX6_number_38 : decode cX6_number 38 = .ok (.iadd, 1) := by decide +kernel
theorem dX6_number_39 : decode cX6_number 39 = .ok (.putfield 62, 3) := by decide +kernel
theorem dX6_number_42 : decode cX6_number 42 = .ok (.iload 5, 2) := by decide +kernel
theorem dX6_number_44 : decode cX6_number 44 = .ok (.ifCond .eq 8, 3) := by decide +kernel
theorem dX6_number_47 : decode cX6_number 47 = .ok (.iload 4, 2) := by decide +kernel
theorem dX6_number_49 : decode cX6_number 49 = .ok (.goto 4, 3) := by decide +kernel
theorem dX6_number_52 : decode cX6_number 52 = .ok (.iconst (-1), 1) := by decide +kernel
theorem dX6_number_53 : decode cX6_number 53 = .ok (.ireturn, 1) := by decide +kernel
theorem dX6_begins_0 : decode cX6_begins 0 = .ok (.iconst 0, 1) := by decide +kernel
theorem dX6_begins_1 : decode cX6_begins 1 = .ok (.istore_n 1, 1) := by decide +kernel
theorem dX6_begins_2 : decode cX6_begins 2 = .ok (.iload_n 1, 1) := by decide +kernel
theorem dX6_begins_3 : decode cX6_begins 3 = .ok (.bipush 81, 2) := by decide +kernel
theorem dX6_begins_5 : decode cX6_begins 5 = .ok (.if_icmp .ge 16, 3) := by decide +kernel
theorem dX6_begins_8 : decode cX6_begins 8 = .ok (.aload_n 0, 1) := by decide +kernel
theorem dX6_begins_9 : decode cX6_begins 9 = .ok (.getfield 16, 3) := by decide +kernel
theorem dX6_begins_12 : decode cX6_begins 12 = .ok (.iload_n 1, 1) := by decide +kernel
theorem dX6_begins_13 : decode cX6_begins 13 = .ok (.iconst 0, 1) := by decide +kernel
theorem dX6_begins_14 : decode cX6_begins 14 = .ok (.iastore, 1) := by decide +kernel
theorem dX6_begins_15 : decode cX6_begins 15 = .ok (.iinc 1 1, 3) := by decide +kernel
theorem dX6_begins_18 : decode cX6_begins 18 = .ok (.goto (-16), 3) := by decide +kernel
theorem dX6_begins_21 : decode cX6_begins 21 = .ok (.iconst 0, 1) := by decide +kernel
theorem dX6_begins_22 : decode cX6_begins 22 = .ok (.istore_n 1, 1) := by decide +kernel
theorem dX6_begins_23 : decode cX6_begins 23 = .ok (.iload_n 1, 1) := by decide +kernel
theorem dX6_begins_24 : decode cX6_begins 24 = .ok (.bipush 59, 2) := by decide +kernel
theorem dX6_begins_26 : decode cX6_begins 26 = .ok (.if_icmp .ge 16, 3) := by decide +kernel
theorem dX6_begins_29 : decode cX6_begins 29 = .ok (.aload_n 0, 1) := by decide +kernel
theorem dX6_begins_30 : decode cX6_begins 30 = .ok (.getfield 19, 3) := by decide +kernel
theorem dX6_begins_33 : decode cX6_begins 33 = .ok (.iload_n 1, 1) := by decide +kernel
theorem dX6_begins_34 : decode cX6_begins 34 = .ok (.iconst 0, 1) := by decide +kernel
theorem dX6_begins_35 : decode cX6_begins 35 = .ok (.iastore, 1) := by decide +kernel
theorem dX6_begins_36 : decode cX6_begins 36 = .ok (.iinc 1 1, 3) := by decide +kernel
theorem dX6_begins_39 : decode cX6_begins 39 = .ok (.goto (-16), 3) := by decide +kernel
theorem dX6_begins_42 : decode cX6_begins 42 = .ok (.return_, 1) := by decide +kernel
theorem dX6_owns_0 : decode cX6_owns 0 = .ok (.iload_n 1, 1) := by decide +kernel
theorem dX6_owns_1 : decode cX6_owns 1 = .ok (.istore 4, 2) := by decide +kernel
theorem dX6_owns_3 : decode cX6_owns 3 = .ok (.iload 4, 2) := by decide +kernel
theorem dX6_owns_5 : decode cX6_owns 5 = .ok (.iload_n 2, 1) := by decide +kernel
theorem dX6_owns_6 : decode cX6_owns 6 = .ok (.if_icmp .gt 20, 3) := by decide +kernel
theorem dX6_owns_9 : decode cX6_owns 9 = .ok (.aload_n 0, 1) := by decide +kernel
theorem dX6_owns_10 : decode cX6_owns 10 = .ok (.getfield 16, 3) := by decide +kernel
theorem dX6_owns_13 : decode cX6_owns 13 = .ok (.bipush 39, 2) := by decide +kernel
theorem dX6_owns_15 : decode cX6_owns 15 = .ok (.iload 4, 2) := by decide +kernel
theorem dX6_owns_17 : decode cX6_owns 17 = .ok (.iadd, 1) := by decide +kernel
theorem dX6_owns_18 : decode cX6_owns 18 = .ok (.iload_n 3, 1) := by decide +kernel
theorem dX6_owns_19 : decode cX6_owns 19 = .ok (.iastore, 1) := by decide +kernel
theorem dX6_owns_20 : decode cX6_owns 20 = .ok (.iinc 4 1, 3) := by decide +kernel
theorem dX6_owns_23 : decode cX6_owns 23 = .ok (.goto (-20), 3) := by decide +kernel
theorem dX6_owns_26 : decode cX6_owns 26 = .ok (.return_, 1) := by decide +kernel
theorem dX6_rowOf_0 : decode cX6_rowOf 0 = .ok (.aload_n 0, 1) := by decide +kernel
theorem dX6_rowOf_1 : decode cX6_rowOf 1 = .ok (.getfield 16, 3) := by decide +kernel
theorem dX6_rowOf_4 : decode cX6_rowOf 4 = .ok (.iconst 2, 1) := by decide +kernel
theorem dX6_rowOf_5 : decode cX6_rowOf 5 = .ok (.iaload, 1) := by decide +kernel
theorem dX6_rowOf_6 : decode cX6_rowOf 6 = .ok (.istore 4, 2) := by decide +kernel
theorem dX6_rowOf_8 : decode cX6_rowOf 8 = .ok (.aload_n 0, 1) := by decide +kernel
theorem dX6_rowOf_9 : decode cX6_rowOf 9 = .ok (.getfield 16, 3) := by decide +kernel
theorem dX6_rowOf_12 : decode cX6_rowOf 12 = .ok (.bipush 75, 2) := by decide +kernel
theorem dX6_rowOf_14 : decode cX6_rowOf 14 = .ok (.iload 4, 2) := by decide +kernel
theorem dX6_rowOf_16 : decode cX6_rowOf 16 = .ok (.iadd, 1) := by decide +kernel
theorem dX6_rowOf_17 : decode cX6_rowOf 17 = .ok (.iload_n 1, 1) := by decide +kernel
theorem dX6_rowOf_18 : decode cX6_rowOf 18 = .ok (.iastore, 1) := by decide +kernel
theorem dX6_rowOf_19 : decode cX6_rowOf 19 = .ok (.aload_n 0, 1) := by decide +kernel
theorem dX6_rowOf_20 : decode cX6_rowOf 20 = .ok (.getfield 16, 3) := by decide +kernel
theorem dX6_rowOf_23 : decode cX6_rowOf 23 = .ok (.bipush 78, 2) := by decide +kernel
theorem dX6_rowOf_25 : decode cX6_rowOf 25 = .ok (.iload 4, 2) := by decide +kernel
theorem dX6_rowOf_27 : decode cX6_rowOf 27 = .ok (.iadd, 1) := by decide +kernel
theorem dX6_rowOf_28 : decode cX6_rowOf 28 = .ok (.iload_n 3, 1) := by decide +kernel
theorem dX6_rowOf_29 : decode cX6_rowOf 29 = .ok (.iastore, 1) := by decide +kernel
theorem dX6_rowOf_30 : decode cX6_rowOf 30 = .ok (.aload_n 0, 1) := by decide +kernel
theorem dX6_rowOf_31 : decode cX6_rowOf 31 = .ok (.getfield 19, 3) := by decide +kernel
theorem dX6_rowOf_34 : decode cX6_rowOf 34 = .ok (.iconst 5, 1) := by decide +kernel
theorem dX6_rowOf_35 : decode cX6_rowOf 35 = .ok (.iload 4, 2) := by decide +kernel
theorem dX6_rowOf_37 : decode cX6_rowOf 37 = .ok (.iadd, 1) := by decide +kernel
theorem dX6_rowOf_38 : decode cX6_rowOf 38 = .ok (.iload_n 2, 1) := by decide +kernel
theorem dX6_rowOf_39 : decode cX6_rowOf 39 = .ok (.iastore, 1) := by decide +kernel
theorem dX6_rowOf_40 : decode cX6_rowOf 40 = .ok (.aload_n 0, 1) := by decide +kernel
theorem dX6_rowOf_41 : decode cX6_rowOf 41 = .ok (.getfield 16, 3) := by decide +kernel
theorem dX6_rowOf_44 : decode cX6_rowOf 44 = .ok (.iconst 2, 1) := by decide +kernel
theorem dX6_rowOf_45 : decode cX6_rowOf 45 = .ok (.dup2, 1) := by decide +kernel
theorem dX6_rowOf_46 : decode cX6_rowOf 46 = .ok (.iaload, 1) := by decide +kernel
theorem dX6_rowOf_47 : decode cX6_rowOf 47 = .ok (.iconst 1, 1) := by decide +kernel
theorem dX6_rowOf_48 : decode cX6_rowOf 48 = .ok (.iadd, 1) := by decide +kernel
theorem dX6_rowOf_49 : decode cX6_rowOf 49 = .ok (.iastore, 1) := by decide +kernel
theorem dX6_rowOf_50 : decode cX6_rowOf 50 = .ok (.return_, 1) := by decide +kernel
theorem dX6_stands_0 : decode cX6_stands 0 = .ok (.aload_n 0, 1) := by decide +kernel
theorem dX6_stands_1 : decode cX6_stands 1 = .ok (.getfield 16, 3) := by decide +kernel
theorem dX6_stands_4 : decode cX6_stands 4 = .ok (.iconst 2, 1) := by decide +kernel
theorem dX6_stands_5 : decode cX6_stands 5 = .ok (.iaload, 1) := by decide +kernel
theorem dX6_stands_6 : decode cX6_stands 6 = .ok (.iconst 1, 1) := by decide +kernel
theorem dX6_stands_7 : decode cX6_stands 7 = .ok (.isub, 1) := by decide +kernel
theorem dX6_stands_8 : decode cX6_stands 8 = .ok (.istore_n 2, 1) := by decide +kernel
theorem dX6_stands_9 : decode cX6_stands 9 = .ok (.aload_n 0, 1) := by decide +kernel
theorem dX6_stands_10 : decode cX6_stands 10 = .ok (.getfield 19, 3) := by decide +kernel
theorem dX6_stands_13 : decode cX6_stands 13 = .ok (.bipush 11, 2) := by decide +kernel
theorem dX6_stands_15 : decode cX6_stands 15 = .ok (.iconst 4, 1) := by decide +kernel
theorem dX6_stands_16 : decode cX6_stands 16 = .ok (.iload_n 2, 1) := by decide +kernel
theorem dX6_stands_17 : decode cX6_stands 17 = .ok (.imul, 1) := by decide +kernel
theorem dX6_stands_18 : decode cX6_stands 18 = .ok (.iadd, 1) := by decide +kernel
theorem dX6_stands_19 : decode cX6_stands 19 = .ok (.aload_n 0, 1) := by decide +kernel
theorem dX6_stands_20 : decode cX6_stands 20 = .ok (.getfield 19, 3) := by decide +kernel
theorem dX6_stands_23 : decode cX6_stands 23 = .ok (.bipush 8, 2) := by decide +kernel
theorem dX6_stands_25 : decode cX6_stands 25 = .ok (.iload_n 2, 1) := by decide +kernel
theorem dX6_stands_26 : decode cX6_stands 26 = .ok (.iadd, 1) := by decide +kernel
theorem dX6_stands_27 : decode cX6_stands 27 = .ok (.iaload, 1) := by decide +kernel
theorem dX6_stands_28 : decode cX6_stands 28 = .ok (.iadd, 1) := by decide +kernel
theorem dX6_stands_29 : decode cX6_stands 29 = .ok (.iload_n 1, 1) := by decide +kernel
theorem dX6_stands_30 : decode cX6_stands 30 = .ok (.iastore, 1) := by decide +kernel
theorem dX6_stands_31 : decode cX6_stands 31 = .ok (.aload_n 0, 1) := by decide +kernel
theorem dX6_stands_32 : decode cX6_stands 32 = .ok (.getfield 19, 3) := by decide +kernel
theorem dX6_stands_35 : decode cX6_stands 35 = .ok (.bipush 8, 2) := by decide +kernel
theorem dX6_stands_37 : decode cX6_stands 37 = .ok (.iload_n 2, 1) := by decide +kernel
theorem dX6_stands_38 : decode cX6_stands 38 = .ok (.iadd, 1) := by decide +kernel
theorem dX6_stands_39 : decode cX6_stands 39 = .ok (.dup2, 1) := by decide +kernel
theorem dX6_stands_40 : decode cX6_stands 40 = .ok (.iaload, 1) := by decide +kernel
theorem dX6_stands_41 : decode cX6_stands 41 = .ok (.iconst 1, 1) := by decide +kernel
theorem dX6_stands_42 : decode cX6_stands 42 = .ok (.iadd, 1) := by decide +kernel
theorem dX6_stands_43 : decode cX6_stands 43 = .ok (.iastore, 1) := by decide +kernel
theorem dX6_stands_44 : decode cX6_stands 44 = .ok (.return_, 1) := by decide +kernel
theorem dX6_readsLine_0 : decode cX6_readsLine 0 = .ok (.iconst 0, 1) := by decide +kernel
theorem dX6_readsLine_1 : decode cX6_readsLine 1 = .ok (.istore_n 1, 1) := by decide +kernel
theorem dX6_readsLine_2 : decode cX6_readsLine 2 = .ok (.aload_n 0, 1) := by decide +kernel
theorem dX6_readsLine_3 : decode cX6_readsLine 3 = .ok (.aload_n 0, 1) := by decide +kernel
theorem dX6_readsLine_4 : decode cX6_readsLine 4 = .ok (.getfield 62, 3) := by decide +kernel
theorem dX6_readsLine_7 : decode cX6_readsLine 7 = .ok (.invokevirtual 65, 3) := by decide +kernel
theorem dX6_readsLine_10 : decode cX6_readsLine 10 = .ok (.bipush 48, 2) := by decide +kernel
theorem dX6_readsLine_12 : decode cX6_readsLine 12 = .ok (.bipush 51, 2) := by decide +kernel
theorem dX6_readsLine_14 : decode cX6_readsLine 14 = .ok (.invokestatic 54, 3) := by decide +kernel
theorem dX6_readsLine_17 : decode cX6_readsLine 17 = .ok (.ifCond .eq 61, 3) := by decide +kernel
theorem dX6_readsLine_20 : decode cX6_readsLine 20 = .ok (.iload_n 1, 1) := by decide +kernel
theorem dX6_readsLine_21 : decode cX6_readsLine 21 = .ok (.bipush 6, 2) := by decide +kernel
theorem dX6_readsLine_23 : decode cX6_readsLine 23 = .ok (.if_icmp .ge 55, 3) := by decide +kernel
theorem dX6_readsLine_26 : decode cX6_readsLine 26 = .ok (.aload_n 0, 1) := by decide +kernel
theorem dX6_readsLine_27 : decode cX6_readsLine 27 = .ok (.getfield 16, 3) := by decide +kernel
theorem dX6_readsLine_30 : decode cX6_readsLine 30 = .ok (.iconst 0, 1) := by decide +kernel
theorem dX6_readsLine_31 : decode cX6_readsLine 31 = .ok (.iaload, 1) := by decide +kernel
theorem dX6_readsLine_32 : decode cX6_readsLine 32 = .ok (.iload_n 1, 1) := by decide +kernel
theorem dX6_readsLine_33 : decode cX6_readsLine 33 = .ok (.iadd, 1) := by decide +kernel
theorem dX6_readsLine_34 : decode cX6_readsLine 34 = .ok (.istore_n 2, 1) := by decide +kernel
theorem dX6_readsLine_35 : decode cX6_readsLine 35 = .ok (.iload_n 2, 1) := by decide +kernel
theorem dX6_readsLine_36 : decode cX6_readsLine 36 = .ok (.bipush 36, 2) := by decide +kernel
theorem dX6_readsLine_38 : decode cX6_readsLine 38 = .ok (.if_icmp .lt 5, 3) := by decide +kernel
theorem dX6_readsLine_41 : decode cX6_readsLine 41 = .ok (.iconst 0, 1) := by decide +kernel
theorem dX6_readsLine_42 : decode cX6_readsLine 42 = .ok (.ireturn, 1) := by decide +kernel
theorem dX6_readsLine_43 : decode cX6_readsLine 43 = .ok (.aload_n 0, 1) := by decide +kernel
theorem dX6_readsLine_44 : decode cX6_readsLine 44 = .ok (.getfield 16, 3) := by decide +kernel
theorem dX6_readsLine_47 : decode cX6_readsLine 47 = .ok (.iconst 3, 1) := by decide +kernel
theorem dX6_readsLine_48 : decode cX6_readsLine 48 = .ok (.iload_n 2, 1) := by decide +kernel
theorem dX6_readsLine_49 : decode cX6_readsLine 49 = .ok (.iadd, 1) := by decide +kernel
theorem dX6_readsLine_50 : decode cX6_readsLine 50 = .ok (.aload_n 0, 1) := by decide +kernel
theorem dX6_readsLine_51 : decode cX6_readsLine 51 = .ok (.aload_n 0, 1) := by decide +kernel
theorem dX6_readsLine_52 : decode cX6_readsLine 52 = .ok (.getfield 62, 3) := by decide +kernel
theorem dX6_readsLine_55 : decode cX6_readsLine 55 = .ok (.invokevirtual 65, 3) := by decide +kernel
theorem dX6_readsLine_58 : decode cX6_readsLine 58 = .ok (.bipush 48, 2) := by decide +kernel
theorem dX6_readsLine_60 : decode cX6_readsLine 60 = .ok (.isub, 1) := by decide +kernel
theorem dX6_readsLine_61 : decode cX6_readsLine 61 = .ok (.iastore, 1) := by decide +kernel
theorem dX6_readsLine_62 : decode cX6_readsLine 62 = .ok (.iinc 1 1, 3) := by decide +kernel
theorem dX6_readsLine_65 : decode cX6_readsLine 65 = .ok (.aload_n 0, 1) := by decide +kernel
theorem dX6_readsLine_66 : decode cX6_readsLine 66 = .ok (.dup, 1) := by decide +kernel
theorem dX6_readsLine_67 : decode cX6_readsLine 67 = .ok (.getfield 62, 3) := by decide +kernel
theorem dX6_readsLine_70 : decode cX6_readsLine 70 = .ok (.iconst 1, 1) := by decide +kernel
theorem dX6_readsLine_71 : decode cX6_readsLine 71 = .ok (.iadd, 1) := by decide +kernel
theorem dX6_readsLine_72 : decode cX6_readsLine 72 = .ok (.putfield 62, 3) := by decide +kernel
theorem dX6_readsLine_75 : decode cX6_readsLine 75 = .ok (.goto (-73), 3) := by decide +kernel
theorem dX6_readsLine_78 : decode cX6_readsLine 78 = .ok (.aload_n 0, 1) := by decide +kernel
theorem dX6_readsLine_79 : decode cX6_readsLine 79 = .ok (.aload_n 0, 1) := by decide +kernel
theorem dX6_readsLine_80 : decode cX6_readsLine 80 = .ok (.getfield 62, 3) := by decide +kernel
theorem dX6_readsLine_83 : decode cX6_readsLine 83 = .ok (.invokevirtual 65, 3) := by decide +kernel
theorem dX6_readsLine_86 : decode cX6_readsLine 86 = .ok (.bipush 59, 2) := by decide +kernel
theorem dX6_readsLine_88 : decode cX6_readsLine 88 = .ok (.if_icmp .ne 39, 3) := by decide +kernel
theorem dX6_readsLine_91 : decode cX6_readsLine 91 = .ok (.iload_n 1, 1) := by decide +kernel
theorem dX6_readsLine_92 : decode cX6_readsLine 92 = .ok (.ifCond .eq 35, 3) := by decide +kernel
theorem dX6_readsLine_95 : decode cX6_readsLine 95 = .ok (.aload_n 0, 1) := by decide +kernel
theorem dX6_readsLine_96 : decode cX6_readsLine 96 = .ok (.getfield 16, 3) := by decide +kernel
theorem dX6_readsLine_99 : decode cX6_readsLine 99 = .ok (.iconst 0, 1) := by decide +kernel
theorem dX6_readsLine_100 : decode cX6_readsLine 100 = .ok (.iaload, 1) := by decide +kernel
theorem dX6_readsLine_101 : decode cX6_readsLine 101 = .ok (.ifCond .le 13, 3) := by decide +kernel
theorem dX6_readsLine_104 : decode cX6_readsLine 104 = .ok (.iload_n 1, 1) := by decide +kernel
theorem dX6_readsLine_105 : decode cX6_readsLine 105 = .ok (.aload_n 0, 1) := by decide +kernel
theorem dX6_readsLine_106 : decode cX6_readsLine 106 = .ok (.getfield 16, 3) := by decide +kernel
theorem dX6_readsLine_109 : decode cX6_readsLine 109 = .ok (.iconst 1, 1) := by decide +kernel
theorem dX6_readsLine_110 : decode cX6_readsLine 110 = .ok (.iaload, 1) := by decide +kernel
theorem dX6_readsLine_111 : decode cX6_readsLine 111 = .ok (.if_icmp .ne 16, 3) := by decide +kernel
theorem dX6_readsLine_114 : decode cX6_readsLine 114 = .ok (.aload_n 0, 1) := by decide +kernel
theorem dX6_readsLine_115 : decode cX6_readsLine 115 = .ok (.getfield 16, 3) := by decide +kernel
theorem dX6_readsLine_118 : decode cX6_readsLine 118 = .ok (.iconst 0, 1) := by decide +kernel
theorem dX6_readsLine_119 : decode cX6_readsLine 119 = .ok (.iaload, 1) := by decide +kernel
theorem dX6_readsLine_120 : decode cX6_readsLine 120 = .ok (.bipush 6, 2) := by decide +kernel
theorem dX6_readsLine_122 : decode cX6_readsLine 122 = .ok (.iload_n 1, 1) := by decide +kernel
theorem dX6_readsLine_123 : decode cX6_readsLine 123 = .ok (.imul, 1) := by decide +kernel
theorem dX6_readsLine_124 : decode cX6_readsLine 124 = .ok (.if_icmp .lt 5, 3) := by decide +kernel
theorem dX6_readsLine_127 : decode cX6_readsLine 127 = .ok (.iconst 0, 1) := by decide +kernel
theorem dX6_readsLine_128 : decode cX6_readsLine 128 = .ok (.ireturn, 1) := by decide +kernel
theorem dX6_readsLine_129 : decode cX6_readsLine 129 = .ok (.aload_n 0, 1) := by decide +kernel
theorem dX6_readsLine_130 : decode cX6_readsLine 130 = .ok (.dup, 1) := by decide +kernel
theorem dX6_readsLine_131 : decode cX6_readsLine 131 = .ok (.getfield 62, 3) := by decide +kernel
theorem dX6_readsLine_134 : decode cX6_readsLine 134 = .ok (.iconst 1, 1) := by decide +kernel
theorem dX6_readsLine_135 : decode cX6_readsLine 135 = .ok (.iadd, 1) := by decide +kernel
theorem dX6_readsLine_136 : decode cX6_readsLine 136 = .ok (.putfield 62, 3) := by decide +kernel
theorem dX6_readsLine_139 : decode cX6_readsLine 139 = .ok (.aload_n 0, 1) := by decide +kernel
theorem dX6_readsLine_140 : decode cX6_readsLine 140 = .ok (.getfield 16, 3) := by decide +kernel
theorem dX6_readsLine_143 : decode cX6_readsLine 143 = .ok (.iconst 1, 1) := by decide +kernel
theorem dX6_readsLine_144 : decode cX6_readsLine 144 = .ok (.iload_n 1, 1) := by decide +kernel
theorem dX6_readsLine_145 : decode cX6_readsLine 145 = .ok (.iastore, 1) := by decide +kernel
theorem dX6_readsLine_146 : decode cX6_readsLine 146 = .ok (.aload_n 0, 1) := by decide +kernel
theorem dX6_readsLine_147 : decode cX6_readsLine 147 = .ok (.getfield 16, 3) := by decide +kernel
theorem dX6_readsLine_150 : decode cX6_readsLine 150 = .ok (.iconst 0, 1) := by decide +kernel
theorem dX6_readsLine_151 : decode cX6_readsLine 151 = .ok (.dup2, 1) := by decide +kernel
theorem dX6_readsLine_152 : decode cX6_readsLine 152 = .ok (.iaload, 1) := by decide +kernel
theorem dX6_readsLine_153 : decode cX6_readsLine 153 = .ok (.iload_n 1, 1) := by decide +kernel
theorem dX6_readsLine_154 : decode cX6_readsLine 154 = .ok (.iadd, 1) := by decide +kernel
theorem dX6_readsLine_155 : decode cX6_readsLine 155 = .ok (.iastore, 1) := by decide +kernel
theorem dX6_readsLine_156 : decode cX6_readsLine 156 = .ok (.iconst 1, 1) := by decide +kernel
theorem dX6_readsLine_157 : decode cX6_readsLine 157 = .ok (.ireturn, 1) := by decide +kernel
theorem dX6_readsOwner_0 : decode cX6_readsOwner 0 = .ok (.aload_n 0, 1) := by decide +kernel
theorem dX6_readsOwner_1 : decode cX6_readsOwner 1 = .ok (.iconst 0, 1) := by decide +kernel
theorem dX6_readsOwner_2 : decode cX6_readsOwner 2 = .ok (.aload_n 0, 1) := by decide +kernel
theorem dX6_readsOwner_3 : decode cX6_readsOwner 3 = .ok (.getfield 16, 3) := by decide +kernel
theorem dX6_readsOwner_6 : decode cX6_readsOwner 6 = .ok (.iconst 0, 1) := by decide +kernel
theorem dX6_readsOwner_7 : decode cX6_readsOwner 7 = .ok (.iaload, 1) := by decide +kernel
theorem dX6_readsOwner_8 : decode cX6_readsOwner 8 = .ok (.iconst 1, 1) := by decide +kernel
theorem dX6_readsOwner_9 : decode cX6_readsOwner 9 = .ok (.isub, 1) := by decide +kernel
theorem dX6_readsOwner_10 : decode cX6_readsOwner 10 = .ok (.bipush 44, 2) := by decide +kernel
theorem dX6_readsOwner_12 : decode cX6_readsOwner 12 = .ok (.invokevirtual 77, 3) := by decide +kernel
theorem dX6_readsOwner_15 : decode cX6_readsOwner 15 = .ok (.istore_n 1, 1) := by decide +kernel
theorem dX6_readsOwner_16 : decode cX6_readsOwner 16 = .ok (.iload_n 1, 1) := by decide +kernel
theorem dX6_readsOwner_17 : decode cX6_readsOwner 17 = .ok (.ifCond .ge 7, 3) := by decide +kernel
theorem dX6_readsOwner_20 : decode cX6_readsOwner 20 = .ok (.iconst (-1), 1) := by decide +kernel
theorem dX6_readsOwner_21 : decode cX6_readsOwner 21 = .ok (.goto 18, 3) := by decide +kernel
theorem dX6_readsOwner_24 : decode cX6_readsOwner 24 = .ok (.aload_n 0, 1) := by decide +kernel
theorem dX6_readsOwner_25 : decode cX6_readsOwner 25 = .ok (.iload_n 1, 1) := by decide +kernel
theorem dX6_readsOwner_26 : decode cX6_readsOwner 26 = .ok (.aload_n 0, 1) := by decide +kernel
theorem dX6_readsOwner_27 : decode cX6_readsOwner 27 = .ok (.getfield 16, 3) := by decide +kernel
theorem dX6_readsOwner_30 : decode cX6_readsOwner 30 = .ok (.iconst 0, 1) := by decide +kernel
theorem dX6_readsOwner_31 : decode cX6_readsOwner 31 = .ok (.iaload, 1) := by decide +kernel
theorem dX6_readsOwner_32 : decode cX6_readsOwner 32 = .ok (.iconst 1, 1) := by decide +kernel
theorem dX6_readsOwner_33 : decode cX6_readsOwner 33 = .ok (.isub, 1) := by decide +kernel
theorem dX6_readsOwner_34 : decode cX6_readsOwner 34 = .ok (.bipush 44, 2) := by decide +kernel
theorem dX6_readsOwner_36 : decode cX6_readsOwner 36 = .ok (.invokevirtual 77, 3) := by decide +kernel
theorem dX6_readsOwner_39 : decode cX6_readsOwner 39 = .ok (.istore_n 2, 1) := by decide +kernel
theorem dX6_readsOwner_40 : decode cX6_readsOwner 40 = .ok (.iload_n 2, 1) := by decide +kernel
theorem dX6_readsOwner_41 : decode cX6_readsOwner 41 = .ok (.ifCond .ge 7, 3) := by decide +kernel
theorem dX6_readsOwner_44 : decode cX6_readsOwner 44 = .ok (.iconst (-1), 1) := by decide +kernel
theorem dX6_readsOwner_45 : decode cX6_readsOwner 45 = .ok (.goto 11, 3) := by decide +kernel
theorem dX6_readsOwner_48 : decode cX6_readsOwner 48 = .ok (.aload_n 0, 1) := by decide +kernel
theorem dX6_readsOwner_49 : decode cX6_readsOwner 49 = .ok (.iconst 0, 1) := by decide +kernel
theorem dX6_readsOwner_50 : decode cX6_readsOwner 50 = .ok (.iconst 3, 1) := by decide +kernel
theorem dX6_readsOwner_51 : decode cX6_readsOwner 51 = .ok (.bipush 59, 2) := by decide +kernel
theorem dX6_readsOwner_53 : decode cX6_readsOwner 53 = .ok (.invokevirtual 77, 3) := by decide +kernel
theorem dX6_readsOwner_56 : decode cX6_readsOwner 56 = .ok (.istore_n 3, 1) := by decide +kernel
theorem dX6_readsOwner_57 : decode cX6_readsOwner 57 = .ok (.iload_n 3, 1) := by decide +kernel
theorem dX6_readsOwner_58 : decode cX6_readsOwner 58 = .ok (.ifCond .ge 5, 3) := by decide +kernel
theorem dX6_readsOwner_61 : decode cX6_readsOwner 61 = .ok (.iconst 0, 1) := by decide +kernel
theorem dX6_readsOwner_62 : decode cX6_readsOwner 62 = .ok (.ireturn, 1) := by decide +kernel
theorem dX6_readsOwner_63 : decode cX6_readsOwner 63 = .ok (.aload_n 0, 1) := by decide +kernel
theorem dX6_readsOwner_64 : decode cX6_readsOwner 64 = .ok (.iload_n 1, 1) := by decide +kernel
theorem dX6_readsOwner_65 : decode cX6_readsOwner 65 = .ok (.iload_n 2, 1) := by decide +kernel
theorem dX6_readsOwner_66 : decode cX6_readsOwner 66 = .ok (.iload_n 3, 1) := by decide +kernel
theorem dX6_readsOwner_67 : decode cX6_readsOwner 67 = .ok (.invokevirtual 40, 3) := by decide +kernel
theorem dX6_readsOwner_70 : decode cX6_readsOwner 70 = .ok (.iconst 1, 1) := by decide +kernel
theorem dX6_readsOwner_71 : decode cX6_readsOwner 71 = .ok (.ireturn, 1) := by decide +kernel
theorem dX6_isNext_0 : decode cX6_isNext 0 = .ok (.iload_n 0, 1) := by decide +kernel
theorem dX6_isNext_1 : decode cX6_isNext 1 = .ok (.iload_n 1, 1) := by decide +kernel
theorem dX6_isNext_2 : decode cX6_isNext 2 = .ok (.if_icmp .le 9, 3) := by decide +kernel
theorem dX6_isNext_5 : decode cX6_isNext 5 = .ok (.iload_n 0, 1) := by decide +kernel
theorem dX6_isNext_6 : decode cX6_isNext 6 = .ok (.iload_n 1, 1) := by decide +kernel
theorem dX6_isNext_7 : decode cX6_isNext 7 = .ok (.isub, 1) := by decide +kernel
theorem dX6_isNext_8 : decode cX6_isNext 8 = .ok (.goto 6, 3) := by decide +kernel
theorem dX6_isNext_11 : decode cX6_isNext 11 = .ok (.iload_n 1, 1) := by decide +kernel
theorem dX6_isNext_12 : decode cX6_isNext 12 = .ok (.iload_n 0, 1) := by decide +kernel
theorem dX6_isNext_13 : decode cX6_isNext 13 = .ok (.isub, 1) := by decide +kernel
theorem dX6_isNext_14 : decode cX6_isNext 14 = .ok (.istore_n 3, 1) := by decide +kernel
theorem dX6_isNext_15 : decode cX6_isNext 15 = .ok (.iload_n 3, 1) := by decide +kernel
theorem dX6_isNext_16 : decode cX6_isNext 16 = .ok (.iload_n 2, 1) := by decide +kernel
theorem dX6_isNext_17 : decode cX6_isNext 17 = .ok (.if_icmp .ne 8, 3) := by decide +kernel
theorem dX6_isNext_20 : decode cX6_isNext 20 = .ok (.iload_n 2, 1) := by decide +kernel
theorem dX6_isNext_21 : decode cX6_isNext 21 = .ok (.iconst 1, 1) := by decide +kernel
theorem dX6_isNext_22 : decode cX6_isNext 22 = .ok (.if_icmp .gt 22, 3) := by decide +kernel
theorem dX6_isNext_25 : decode cX6_isNext 25 = .ok (.iload_n 3, 1) := by decide +kernel
theorem dX6_isNext_26 : decode cX6_isNext 26 = .ok (.iconst 1, 1) := by decide +kernel
theorem dX6_isNext_27 : decode cX6_isNext 27 = .ok (.if_icmp .ne 21, 3) := by decide +kernel
theorem dX6_isNext_30 : decode cX6_isNext 30 = .ok (.iload_n 2, 1) := by decide +kernel
theorem dX6_isNext_31 : decode cX6_isNext 31 = .ok (.iconst 1, 1) := by decide +kernel
theorem dX6_isNext_32 : decode cX6_isNext 32 = .ok (.if_icmp .eq 12, 3) := by decide +kernel
theorem dX6_isNext_35 : decode cX6_isNext 35 = .ok (.iload_n 0, 1) := by decide +kernel
theorem dX6_isNext_36 : decode cX6_isNext 36 = .ok (.iload_n 2, 1) := by decide +kernel
theorem dX6_isNext_37 : decode cX6_isNext 37 = .ok (.idiv, 1) := by decide +kernel
theorem dX6_isNext_38 : decode cX6_isNext 38 = .ok (.iload_n 1, 1) := by decide +kernel
theorem dX6_isNext_39 : decode cX6_isNext 39 = .ok (.iload_n 2, 1) := by decide +kernel
theorem dX6_isNext_40 : decode cX6_isNext 40 = .ok (.idiv, 1) := by decide +kernel
theorem dX6_isNext_41 : decode cX6_isNext 41 = .ok (.if_icmp .ne 7, 3) := by decide +kernel
theorem dX6_isNext_44 : decode cX6_isNext 44 = .ok (.iconst 1, 1) := by decide +kernel
theorem dX6_isNext_45 : decode cX6_isNext 45 = .ok (.goto 4, 3) := by decide +kernel
theorem dX6_isNext_48 : decode cX6_isNext 48 = .ok (.iconst 0, 1) := by decide +kernel
theorem dX6_isNext_49 : decode cX6_isNext 49 = .ok (.ireturn, 1) := by decide +kernel
theorem dX6_isTree_0 : decode cX6_isTree 0 = .ok (.iconst 0, 1) := by decide +kernel
theorem dX6_isTree_1 : decode cX6_isTree 1 = .ok (.istore_n 2, 1) := by decide +kernel
theorem dX6_isTree_2 : decode cX6_isTree 2 = .ok (.iconst 0, 1) := by decide +kernel
theorem dX6_isTree_3 : decode cX6_isTree 3 = .ok (.istore_n 3, 1) := by decide +kernel
theorem dX6_isTree_4 : decode cX6_isTree 4 = .ok (.iload_n 3, 1) := by decide +kernel
theorem dX6_isTree_5 : decode cX6_isTree 5 = .ok (.aload_n 0, 1) := by decide +kernel
theorem dX6_isTree_6 : decode cX6_isTree 6 = .ok (.getfield 16, 3) := by decide +kernel
theorem dX6_isTree_9 : decode cX6_isTree 9 = .ok (.iconst 2, 1) := by decide +kernel
theorem dX6_isTree_10 : decode cX6_isTree 10 = .ok (.iaload, 1) := by decide +kernel
theorem dX6_isTree_11 : decode cX6_isTree 11 = .ok (.if_icmp .ge 60, 3) := by decide +kernel
theorem dX6_isTree_14 : decode cX6_isTree 14 = .ok (.iconst 0, 1) := by decide +kernel
theorem dX6_isTree_15 : decode cX6_isTree 15 = .ok (.istore 4, 2) := by decide +kernel
theorem dX6_isTree_17 : decode cX6_isTree 17 = .ok (.iload 4, 2) := by decide +kernel
theorem dX6_isTree_19 : decode cX6_isTree 19 = .ok (.aload_n 0, 1) := by decide +kernel
theorem dX6_isTree_20 : decode cX6_isTree 20 = .ok (.getfield 19, 3) := by decide +kernel
theorem dX6_isTree_23 : decode cX6_isTree 23 = .ok (.bipush 8, 2) := by decide +kernel
theorem dX6_isTree_25 : decode cX6_isTree 25 = .ok (.iload_n 3, 1) := by decide +kernel
theorem dX6_isTree_26 : decode cX6_isTree 26 = .ok (.iadd, 1) := by decide +kernel
theorem dX6_isTree_27 : decode cX6_isTree 27 = .ok (.iaload, 1) := by decide +kernel
theorem dX6_isTree_28 : decode cX6_isTree 28 = .ok (.if_icmp .ge 37, 3) := by decide +kernel
theorem dX6_isTree_31 : decode cX6_isTree 31 = .ok (.iload_n 2, 1) := by decide +kernel
theorem dX6_isTree_32 : decode cX6_isTree 32 = .ok (.ifCond .ne 21, 3) := by decide +kernel
theorem dX6_isTree_35 : decode cX6_isTree 35 = .ok (.aload_n 0, 1) := by decide +kernel
theorem dX6_isTree_36 : decode cX6_isTree 36 = .ok (.getfield 19, 3) := by decide +kernel
theorem dX6_isTree_39 : decode cX6_isTree 39 = .ok (.bipush 11, 2) := by decide +kernel
theorem dX6_isTree_41 : decode cX6_isTree 41 = .ok (.iconst 4, 1) := by decide +kernel
theorem dX6_isTree_42 : decode cX6_isTree 42 = .ok (.iload_n 3, 1) := by decide +kernel
theorem dX6_isTree_43 : decode cX6_isTree 43 = .ok (.imul, 1) := by decide +kernel
theorem dX6_isTree_44 : decode cX6_isTree 44 = .ok (.iadd, 1) := by decide +kernel
theorem dX6_isTree_45 : decode cX6_isTree 45 = .ok (.iload 4, 2) := by decide +kernel
theorem dX6_isTree_47 : decode cX6_isTree 47 = .ok (.iadd, 1) := by decide +kernel
theorem dX6_isTree_48 : decode cX6_isTree 48 = .ok (.iaload, 1) := by decide +kernel
theorem dX6_isTree_49 : decode cX6_isTree 49 = .ok (.iload_n 1, 1) := by decide +kernel
theorem dX6_isTree_50 : decode cX6_isTree 50 = .ok (.if_icmp .ne 7, 3) := by decide +kernel
theorem dX6_isTree_53 : decode cX6_isTree 53 = .ok (.iconst 1, 1) := by decide +kernel
theorem dX6_isTree_54 : decode cX6_isTree 54 = .ok (.goto 4, 3) := by decide +kernel
theorem dX6_isTree_57 : decode cX6_isTree 57 = .ok (.iconst 0, 1) := by decide +kernel
theorem dX6_isTree_58 : decode cX6_isTree 58 = .ok (.istore_n 2, 1) := by decide +kernel
theorem dX6_isTree_59 : decode cX6_isTree 59 = .ok (.iinc 4 1, 3) := by decide +kernel
theorem dX6_isTree_62 : decode cX6_isTree 62 = .ok (.goto (-45), 3) := by decide +kernel
theorem dX6_isTree_65 : decode cX6_isTree 65 = .ok (.iinc 3 1, 3) := by decide +kernel
theorem dX6_isTree_68 : decode cX6_isTree 68 = .ok (.goto (-64), 3) := by decide +kernel
theorem dX6_isTree_71 : decode cX6_isTree 71 = .ok (.iload_n 2, 1) := by decide +kernel
theorem dX6_isTree_72 : decode cX6_isTree 72 = .ok (.ireturn, 1) := by decide +kernel
theorem dX6_readsRow_0 : decode cX6_readsRow 0 = .ok (.aload_n 0, 1) := by decide +kernel
theorem dX6_readsRow_1 : decode cX6_readsRow 1 = .ok (.iconst 0, 1) := by decide +kernel
theorem dX6_readsRow_2 : decode cX6_readsRow 2 = .ok (.iconst 3, 1) := by decide +kernel
theorem dX6_readsRow_3 : decode cX6_readsRow 3 = .ok (.bipush 44, 2) := by decide +kernel
theorem dX6_readsRow_5 : decode cX6_readsRow 5 = .ok (.invokevirtual 77, 3) := by decide +kernel
theorem dX6_readsRow_8 : decode cX6_readsRow 8 = .ok (.istore_n 1, 1) := by decide +kernel
theorem dX6_readsRow_9 : decode cX6_readsRow 9 = .ok (.iload_n 1, 1) := by decide +kernel
theorem dX6_readsRow_10 : decode cX6_readsRow 10 = .ok (.ifCond .ge 7, 3) := by decide +kernel
theorem dX6_readsRow_13 : decode cX6_readsRow 13 = .ok (.iconst (-1), 1) := by decide +kernel
theorem dX6_readsRow_14 : decode cX6_readsRow 14 = .ok (.goto 11, 3) := by decide +kernel
theorem dX6_readsRow_17 : decode cX6_readsRow 17 = .ok (.aload_n 0, 1) := by decide +kernel
theorem dX6_readsRow_18 : decode cX6_readsRow 18 = .ok (.iconst 0, 1) := by decide +kernel
theorem dX6_readsRow_19 : decode cX6_readsRow 19 = .ok (.iconst 3, 1) := by decide +kernel
theorem dX6_readsRow_20 : decode cX6_readsRow 20 = .ok (.bipush 44, 2) := by decide +kernel
theorem dX6_readsRow_22 : decode cX6_readsRow 22 = .ok (.invokevirtual 77, 3) := by decide +kernel
theorem dX6_readsRow_25 : decode cX6_readsRow 25 = .ok (.istore_n 2, 1) := by decide +kernel
theorem dX6_readsRow_26 : decode cX6_readsRow 26 = .ok (.iload_n 2, 1) := by decide +kernel
theorem dX6_readsRow_27 : decode cX6_readsRow 27 = .ok (.ifCond .ge 7, 3) := by decide +kernel
theorem dX6_readsRow_30 : decode cX6_readsRow 30 = .ok (.iconst (-1), 1) := by decide +kernel
theorem dX6_readsRow_31 : decode cX6_readsRow 31 = .ok (.goto 12, 3) := by decide +kernel
theorem dX6_readsRow_34 : decode cX6_readsRow 34 = .ok (.aload_n 0, 1) := by decide +kernel
theorem dX6_readsRow_35 : decode cX6_readsRow 35 = .ok (.iconst 0, 1) := by decide +kernel
theorem dX6_readsRow_36 : decode cX6_readsRow 36 = .ok (.bipush 9, 2) := by decide +kernel
theorem dX6_readsRow_38 : decode cX6_readsRow 38 = .ok (.bipush 44, 2) := by decide +kernel
theorem dX6_readsRow_40 : decode cX6_readsRow 40 = .ok (.invokevirtual 77, 3) := by decide +kernel
theorem dX6_readsRow_43 : decode cX6_readsRow 43 = .ok (.istore_n 3, 1) := by decide +kernel
theorem dX6_readsRow_44 : decode cX6_readsRow 44 = .ok (.iload_n 3, 1) := by decide +kernel
theorem dX6_readsRow_45 : decode cX6_readsRow 45 = .ok (.ifCond .lt 13, 3) := by decide +kernel
theorem dX6_readsRow_48 : decode cX6_readsRow 48 = .ok (.aload_n 0, 1) := by decide +kernel
theorem dX6_readsRow_49 : decode cX6_readsRow 49 = .ok (.getfield 16, 3) := by decide +kernel
theorem dX6_readsRow_52 : decode cX6_readsRow 52 = .ok (.iconst 2, 1) := by decide +kernel
theorem dX6_readsRow_53 : decode cX6_readsRow 53 = .ok (.iaload, 1) := by decide +kernel
theorem dX6_readsRow_54 : decode cX6_readsRow 54 = .ok (.iconst 3, 1) := by decide +kernel
theorem dX6_readsRow_55 : decode cX6_readsRow 55 = .ok (.if_icmp .ne 5, 3) := by decide +kernel
theorem dX6_readsRow_58 : decode cX6_readsRow 58 = .ok (.iconst 0, 1) := by decide +kernel
theorem dX6_readsRow_59 : decode cX6_readsRow 59 = .ok (.ireturn, 1) := by decide +kernel
theorem dX6_readsRow_60 : decode cX6_readsRow 60 = .ok (.aload_n 0, 1) := by decide +kernel
theorem dX6_readsRow_61 : decode cX6_readsRow 61 = .ok (.iload_n 1, 1) := by decide +kernel
theorem dX6_readsRow_62 : decode cX6_readsRow 62 = .ok (.iload_n 2, 1) := by decide +kernel
theorem dX6_readsRow_63 : decode cX6_readsRow 63 = .ok (.iload_n 3, 1) := by decide +kernel
theorem dX6_readsRow_64 : decode cX6_readsRow 64 = .ok (.invokevirtual 44, 3) := by decide +kernel
theorem dX6_readsRow_67 : decode cX6_readsRow 67 = .ok (.aload_n 0, 1) := by decide +kernel
theorem dX6_readsRow_68 : decode cX6_readsRow 68 = .ok (.getfield 16, 3) := by decide +kernel
theorem dX6_readsRow_71 : decode cX6_readsRow 71 = .ok (.iconst 2, 1) := by decide +kernel
theorem dX6_readsRow_72 : decode cX6_readsRow 72 = .ok (.iaload, 1) := by decide +kernel
theorem dX6_readsRow_73 : decode cX6_readsRow 73 = .ok (.iconst 1, 1) := by decide +kernel
theorem dX6_readsRow_74 : decode cX6_readsRow 74 = .ok (.isub, 1) := by decide +kernel
theorem dX6_readsRow_75 : decode cX6_readsRow 75 = .ok (.istore 4, 2) := by decide +kernel
theorem dX6_readsRow_77 : decode cX6_readsRow 77 = .ok (.iconst 1, 1) := by decide +kernel
theorem dX6_readsRow_78 : decode cX6_readsRow 78 = .ok (.istore 5, 2) := by decide +kernel
theorem dX6_readsRow_80 : decode cX6_readsRow 80 = .ok (.iload 5, 2) := by decide +kernel
theorem dX6_readsRow_82 : decode cX6_readsRow 82 = .ok (.ifCond .eq 160, 3) := by decide +kernel
theorem dX6_readsRow_85 : decode cX6_readsRow 85 = .ok (.aload_n 0, 1) := by decide +kernel
theorem dX6_readsRow_86 : decode cX6_readsRow 86 = .ok (.getfield 19, 3) := by decide +kernel
theorem dX6_readsRow_89 : decode cX6_readsRow 89 = .ok (.bipush 8, 2) := by decide +kernel
theorem dX6_readsRow_91 : decode cX6_readsRow 91 = .ok (.iload 4, 2) := by decide +kernel
theorem dX6_readsRow_93 : decode cX6_readsRow 93 = .ok (.iadd, 1) := by decide +kernel
theorem dX6_readsRow_94 : decode cX6_readsRow 94 = .ok (.iaload, 1) := by decide +kernel
theorem dX6_readsRow_95 : decode cX6_readsRow 95 = .ok (.istore 6, 2) := by decide +kernel
theorem dX6_readsRow_97 : decode cX6_readsRow 97 = .ok (.aload_n 0, 1) := by decide +kernel
theorem dX6_readsRow_98 : decode cX6_readsRow 98 = .ok (.iconst 0, 1) := by decide +kernel
theorem dX6_readsRow_99 : decode cX6_readsRow 99 = .ok (.aload_n 0, 1) := by decide +kernel
theorem dX6_readsRow_100 : decode cX6_readsRow 100 = .ok (.getfield 16, 3) := by decide +kernel
theorem dX6_readsRow_103 : decode cX6_readsRow 103 = .ok (.iconst 0, 1) := by decide +kernel
theorem dX6_readsRow_104 : decode cX6_readsRow 104 = .ok (.iaload, 1) := by decide +kernel
theorem dX6_readsRow_105 : decode cX6_readsRow 105 = .ok (.iconst 1, 1) := by decide +kernel
theorem dX6_readsRow_106 : decode cX6_readsRow 106 = .ok (.isub, 1) := by decide +kernel
theorem dX6_readsRow_107 : decode cX6_readsRow 107 = .ok (.invokevirtual 73, 3) := by decide +kernel
theorem dX6_readsRow_110 : decode cX6_readsRow 110 = .ok (.istore 7, 2) := by decide +kernel
theorem dX6_readsRow_112 : decode cX6_readsRow 112 = .ok (.iload 7, 2) := by decide +kernel
theorem dX6_readsRow_114 : decode cX6_readsRow 114 = .ok (.ifCond .lt 67, 3) := by decide +kernel
theorem dX6_readsRow_117 : decode cX6_readsRow 117 = .ok (.iload 6, 2) := by decide +kernel
theorem dX6_readsRow_119 : decode cX6_readsRow 119 = .ok (.iconst 4, 1) := by decide +kernel
theorem dX6_readsRow_120 : decode cX6_readsRow 120 = .ok (.if_icmp .eq 61, 3) := by decide +kernel
theorem dX6_readsRow_123 : decode cX6_readsRow 123 = .ok (.aload_n 0, 1) := by decide +kernel
theorem dX6_readsRow_124 : decode cX6_readsRow 124 = .ok (.getfield 16, 3) := by decide +kernel
theorem dX6_readsRow_127 : decode cX6_readsRow 127 = .ok (.iconst 3, 1) := by decide +kernel
theorem dX6_readsRow_128 : decode cX6_readsRow 128 = .ok (.iload 7, 2) := by decide +kernel
theorem dX6_readsRow_130 : decode cX6_readsRow 130 = .ok (.iadd, 1) := by decide +kernel
theorem dX6_readsRow_131 : decode cX6_readsRow 131 = .ok (.iaload, 1) := by decide +kernel
theorem dX6_readsRow_132 : decode cX6_readsRow 132 = .ok (.iconst 1, 1) := by decide +kernel
theorem dX6_readsRow_133 : decode cX6_readsRow 133 = .ok (.if_icmp .gt 48, 3) := by decide +kernel
theorem dX6_readsRow_136 : decode cX6_readsRow 136 = .ok (.aload_n 0, 1) := by decide +kernel
theorem dX6_readsRow_137 : decode cX6_readsRow 137 = .ok (.iload 7, 2) := by decide +kernel
theorem dX6_readsRow_139 : decode cX6_readsRow 139 = .ok (.invokevirtual 81, 3) := by decide +kernel
theorem dX6_readsRow_142 : decode cX6_readsRow 142 = .ok (.ifCond .ne 39, 3) := by decide +kernel
theorem dX6_readsRow_145 : decode cX6_readsRow 145 = .ok (.iload 6, 2) := by decide +kernel
theorem dX6_readsRow_147 : decode cX6_readsRow 147 = .ok (.ifCond .le 36, 3) := by decide +kernel
theorem dX6_readsRow_150 : decode cX6_readsRow 150 = .ok (.iload 7, 2) := by decide +kernel
theorem dX6_readsRow_152 : decode cX6_readsRow 152 = .ok (.aload_n 0, 1) := by decide +kernel
theorem dX6_readsRow_153 : decode cX6_readsRow 153 = .ok (.getfield 19, 3) := by decide +kernel
theorem dX6_readsRow_156 : decode cX6_readsRow 156 = .ok (.bipush 11, 2) := by decide +kernel
theorem dX6_readsRow_158 : decode cX6_readsRow 158 = .ok (.iconst 4, 1) := by decide +kernel
theorem dX6_readsRow_159 : decode cX6_readsRow 159 = .ok (.iload 4, 2) := by decide +kernel
theorem dX6_readsRow_161 : decode cX6_readsRow 161 = .ok (.imul, 1) := by decide +kernel
theorem dX6_readsRow_162 : decode cX6_readsRow 162 = .ok (.iadd, 1) := by decide +kernel
theorem dX6_readsRow_163 : decode cX6_readsRow 163 = .ok (.iload 6, 2) := by decide +kernel
theorem dX6_readsRow_165 : decode cX6_readsRow 165 = .ok (.iadd, 1) := by decide +kernel
theorem dX6_readsRow_166 : decode cX6_readsRow 166 = .ok (.iconst 1, 1) := by decide +kernel
theorem dX6_readsRow_167 : decode cX6_readsRow 167 = .ok (.isub, 1) := by decide +kernel
theorem dX6_readsRow_168 : decode cX6_readsRow 168 = .ok (.iaload, 1) := by decide +kernel
theorem dX6_readsRow_169 : decode cX6_readsRow 169 = .ok (.aload_n 0, 1) := by decide +kernel
theorem dX6_readsRow_170 : decode cX6_readsRow 170 = .ok (.getfield 16, 3) := by decide +kernel
theorem dX6_readsRow_173 : decode cX6_readsRow 173 = .ok (.iconst 1, 1) := by decide +kernel
theorem dX6_readsRow_174 : decode cX6_readsRow 174 = .ok (.iaload, 1) := by decide +kernel
theorem dX6_readsRow_175 : decode cX6_readsRow 175 = .ok (.invokestatic 84, 3) := by decide +kernel
theorem dX6_readsRow_178 : decode cX6_readsRow 178 = .ok (.ifCond .ne 5, 3) := by decide +kernel
theorem dX6_readsRow_181 : decode cX6_readsRow 181 = .ok (.iconst 0, 1) := by decide +kernel
theorem dX6_readsRow_182 : decode cX6_readsRow 182 = .ok (.ireturn, 1) := by decide +kernel
theorem dX6_readsRow_183 : decode cX6_readsRow 183 = .ok (.aload_n 0, 1) := by decide +kernel
theorem dX6_readsRow_184 : decode cX6_readsRow 184 = .ok (.iload 7, 2) := by decide +kernel
theorem dX6_readsRow_186 : decode cX6_readsRow 186 = .ok (.invokevirtual 47, 3) := by decide +kernel
theorem dX6_readsRow_189 : decode cX6_readsRow 189 = .ok (.aload_n 0, 1) := by decide +kernel
theorem dX6_readsRow_190 : decode cX6_readsRow 190 = .ok (.aload_n 0, 1) := by decide +kernel
theorem dX6_readsRow_191 : decode cX6_readsRow 191 = .ok (.getfield 62, 3) := by decide +kernel
theorem dX6_readsRow_194 : decode cX6_readsRow 194 = .ok (.invokevirtual 65, 3) := by decide +kernel
theorem dX6_readsRow_197 : decode cX6_readsRow 197 = .ok (.istore 8, 2) := by decide +kernel
theorem dX6_readsRow_199 : decode cX6_readsRow 199 = .ok (.aload_n 0, 1) := by decide +kernel
theorem dX6_readsRow_200 : decode cX6_readsRow 200 = .ok (.dup, 1) := by decide +kernel
theorem dX6_readsRow_201 : decode cX6_readsRow 201 = .ok (.getfield 62, 3) := by decide +kernel
theorem dX6_readsRow_204 : decode cX6_readsRow 204 = .ok (.iconst 1, 1) := by decide +kernel
theorem dX6_readsRow_205 : decode cX6_readsRow 205 = .ok (.iadd, 1) := by decide +kernel
theorem dX6_readsRow_206 : decode cX6_readsRow 206 = .ok (.putfield 62, 3) := by decide +kernel
theorem dX6_readsRow_209 : decode cX6_readsRow 209 = .ok (.iload 8, 2) := by decide +kernel
theorem dX6_readsRow_211 : decode cX6_readsRow 211 = .ok (.bipush 44, 2) := by decide +kernel
theorem dX6_readsRow_213 : decode cX6_readsRow 213 = .ok (.if_icmp .eq 12, 3) := by decide +kernel
theorem dX6_readsRow_216 : decode cX6_readsRow 216 = .ok (.iload 8, 2) := by decide +kernel
theorem dX6_readsRow_218 : decode cX6_readsRow 218 = .ok (.bipush 59, 2) := by decide +kernel
theorem dX6_readsRow_220 : decode cX6_readsRow 220 = .ok (.if_icmp .eq 5, 3) := by decide +kernel
theorem dX6_readsRow_223 : decode cX6_readsRow 223 = .ok (.iconst 0, 1) := by decide +kernel
theorem dX6_readsRow_224 : decode cX6_readsRow 224 = .ok (.ireturn, 1) := by decide +kernel
theorem dX6_readsRow_225 : decode cX6_readsRow 225 = .ok (.iload 8, 2) := by decide +kernel
theorem dX6_readsRow_227 : decode cX6_readsRow 227 = .ok (.bipush 44, 2) := by decide +kernel
theorem dX6_readsRow_229 : decode cX6_readsRow 229 = .ok (.if_icmp .ne 7, 3) := by decide +kernel
theorem dX6_readsRow_232 : decode cX6_readsRow 232 = .ok (.iconst 1, 1) := by decide +kernel
theorem dX6_readsRow_233 : decode cX6_readsRow 233 = .ok (.goto 4, 3) := by decide +kernel
theorem dX6_readsRow_236 : decode cX6_readsRow 236 = .ok (.iconst 0, 1) := by decide +kernel
theorem dX6_readsRow_237 : decode cX6_readsRow 237 = .ok (.istore 5, 2) := by decide +kernel
theorem dX6_readsRow_239 : decode cX6_readsRow 239 = .ok (.goto (-159), 3) := by decide +kernel
theorem dX6_readsRow_242 : decode cX6_readsRow 242 = .ok (.iconst 1, 1) := by decide +kernel
theorem dX6_readsRow_243 : decode cX6_readsRow 243 = .ok (.ireturn, 1) := by decide +kernel
theorem dX6_readsAll_0 : decode cX6_readsAll 0 = .ok (.aload_n 0, 1) := by decide +kernel
theorem dX6_readsAll_1 : decode cX6_readsAll 1 = .ok (.invokevirtual 37, 3) := by decide +kernel
theorem dX6_readsAll_4 : decode cX6_readsAll 4 = .ok (.aload_n 0, 1) := by decide +kernel
theorem dX6_readsAll_5 : decode cX6_readsAll 5 = .ok (.iconst 0, 1) := by decide +kernel
theorem dX6_readsAll_6 : decode cX6_readsAll 6 = .ok (.putfield 62, 3) := by decide +kernel
theorem dX6_readsAll_9 : decode cX6_readsAll 9 = .ok (.aload_n 0, 1) := by decide +kernel
theorem dX6_readsAll_10 : decode cX6_readsAll 10 = .ok (.getfield 62, 3) := by decide +kernel
theorem dX6_readsAll_13 : decode cX6_readsAll 13 = .ok (.aload_n 0, 1) := by decide +kernel
theorem dX6_readsAll_14 : decode cX6_readsAll 14 = .ok (.getfield 58, 3) := by decide +kernel
theorem dX6_readsAll_17 : decode cX6_readsAll 17 = .ok (.if_icmp .ge 79, 3) := by decide +kernel
theorem dX6_readsAll_20 : decode cX6_readsAll 20 = .ok (.aload_n 0, 1) := by decide +kernel
theorem dX6_readsAll_21 : decode cX6_readsAll 21 = .ok (.getfield 62, 3) := by decide +kernel
theorem dX6_readsAll_24 : decode cX6_readsAll 24 = .ok (.istore_n 1, 1) := by decide +kernel
theorem dX6_readsAll_25 : decode cX6_readsAll 25 = .ok (.aload_n 0, 1) := by decide +kernel
theorem dX6_readsAll_26 : decode cX6_readsAll 26 = .ok (.getfield 7, 3) := by decide +kernel
theorem dX6_readsAll_29 : decode cX6_readsAll 29 = .ok (.iload_n 1, 1) := by decide +kernel
theorem dX6_readsAll_30 : decode cX6_readsAll 30 = .ok (.iaload, 1) := by decide +kernel
theorem dX6_readsAll_31 : decode cX6_readsAll 31 = .ok (.istore_n 2, 1) := by decide +kernel
theorem dX6_readsAll_32 : decode cX6_readsAll 32 = .ok (.aload_n 0, 1) := by decide +kernel
theorem dX6_readsAll_33 : decode cX6_readsAll 33 = .ok (.dup, 1) := by decide +kernel
theorem dX6_readsAll_34 : decode cX6_readsAll 34 = .ok (.getfield 62, 3) := by decide +kernel
theorem dX6_readsAll_37 : decode cX6_readsAll 37 = .ok (.iconst 1, 1) := by decide +kernel
theorem dX6_readsAll_38 : decode cX6_readsAll 38 = .ok (.iadd, 1) := by decide +kernel
theorem dX6_readsAll_39 : decode cX6_readsAll 39 = .ok (.putfield 62, 3) := by decide +kernel
theorem dX6_readsAll_42 : decode cX6_readsAll 42 = .ok (.iload_n 2, 1) := by decide +kernel
theorem dX6_readsAll_43 : decode cX6_readsAll 43 = .ok (.bipush 108, 2) := by decide +kernel
theorem dX6_readsAll_45 : decode cX6_readsAll 45 = .ok (.if_icmp .ne 10, 3) := by decide +kernel
theorem dX6_readsAll_48 : decode cX6_readsAll 48 = .ok (.aload_n 0, 1) := by decide +kernel
theorem dX6_readsAll_49 : decode cX6_readsAll 49 = .ok (.invokevirtual 87, 3) := by decide +kernel
theorem dX6_readsAll_52 : decode cX6_readsAll 52 = .ok (.goto 34, 3) := by decide +kernel
theorem dX6_readsAll_55 : decode cX6_readsAll 55 = .ok (.iload_n 2, 1) := by decide +kernel
theorem dX6_readsAll_56 : decode cX6_readsAll 56 = .ok (.bipush 111, 2) := by decide +kernel
theorem dX6_readsAll_58 : decode cX6_readsAll 58 = .ok (.if_icmp .ne 10, 3) := by decide +kernel
theorem dX6_readsAll_61 : decode cX6_readsAll 61 = .ok (.aload_n 0, 1) := by decide +kernel
theorem dX6_readsAll_62 : decode cX6_readsAll 62 = .ok (.invokevirtual 91, 3) := by decide +kernel
theorem dX6_readsAll_65 : decode cX6_readsAll 65 = .ok (.goto 21, 3) := by decide +kernel
theorem dX6_readsAll_68 : decode cX6_readsAll 68 = .ok (.iload_n 2, 1) := by decide +kernel
theorem dX6_readsAll_69 : decode cX6_readsAll 69 = .ok (.bipush 116, 2) := by decide +kernel
theorem dX6_readsAll_71 : decode cX6_readsAll 71 = .ok (.if_icmp .ne 14, 3) := by decide +kernel
theorem dX6_readsAll_74 : decode cX6_readsAll 74 = .ok (.aload_n 0, 1) := by decide +kernel
theorem dX6_readsAll_75 : decode cX6_readsAll 75 = .ok (.invokevirtual 94, 3) := by decide +kernel
theorem dX6_readsAll_78 : decode cX6_readsAll 78 = .ok (.ifCond .eq 7, 3) := by decide +kernel
theorem dX6_readsAll_81 : decode cX6_readsAll 81 = .ok (.iconst 1, 1) := by decide +kernel
theorem dX6_readsAll_82 : decode cX6_readsAll 82 = .ok (.goto 4, 3) := by decide +kernel
theorem dX6_readsAll_85 : decode cX6_readsAll 85 = .ok (.iconst 0, 1) := by decide +kernel
theorem dX6_readsAll_86 : decode cX6_readsAll 86 = .ok (.istore_n 3, 1) := by decide +kernel
theorem dX6_readsAll_87 : decode cX6_readsAll 87 = .ok (.iload_n 3, 1) := by decide +kernel
theorem dX6_readsAll_88 : decode cX6_readsAll 88 = .ok (.ifCond .ne 5, 3) := by decide +kernel
theorem dX6_readsAll_91 : decode cX6_readsAll 91 = .ok (.iload_n 1, 1) := by decide +kernel
theorem dX6_readsAll_92 : decode cX6_readsAll 92 = .ok (.ireturn, 1) := by decide +kernel
theorem dX6_readsAll_93 : decode cX6_readsAll 93 = .ok (.goto (-84), 3) := by decide +kernel
theorem dX6_readsAll_96 : decode cX6_readsAll 96 = .ok (.bipush (-4), 2) := by decide +kernel
theorem dX6_readsAll_98 : decode cX6_readsAll 98 = .ok (.ireturn, 1) := by decide +kernel
theorem dX6_fault_0 : decode cX6_fault 0 = .ok (.aload_n 0, 1) := by decide +kernel
theorem dX6_fault_1 : decode cX6_fault 1 = .ok (.invokevirtual 97, 3) := by decide +kernel
theorem dX6_fault_4 : decode cX6_fault 4 = .ok (.ireturn, 1) := by decide +kernel
theorem dX6_lays_0 : decode cX6_lays 0 = .ok (.iconst 0, 1) := by decide +kernel
theorem dX6_lays_1 : decode cX6_lays 1 = .ok (.istore_n 1, 1) := by decide +kernel
theorem dX6_lays_2 : decode cX6_lays 2 = .ok (.iload_n 1, 1) := by decide +kernel
theorem dX6_lays_3 : decode cX6_lays 3 = .ok (.bipush 81, 2) := by decide +kernel
theorem dX6_lays_5 : decode cX6_lays 5 = .ok (.if_icmp .ge 21, 3) := by decide +kernel
theorem dX6_lays_8 : decode cX6_lays 8 = .ok (.aload_n 0, 1) := by decide +kernel
theorem dX6_lays_9 : decode cX6_lays 9 = .ok (.getfield 13, 3) := by decide +kernel
theorem dX6_lays_12 : decode cX6_lays 12 = .ok (.iload_n 1, 1) := by decide +kernel
theorem dX6_lays_13 : decode cX6_lays 13 = .ok (.aload_n 0, 1) := by decide +kernel
theorem dX6_lays_14 : decode cX6_lays 14 = .ok (.getfield 16, 3) := by decide +kernel
theorem dX6_lays_17 : decode cX6_lays 17 = .ok (.iload_n 1, 1) := by decide +kernel
theorem dX6_lays_18 : decode cX6_lays 18 = .ok (.iaload, 1) := by decide +kernel
theorem dX6_lays_19 : decode cX6_lays 19 = .ok (.iastore, 1) := by decide +kernel
theorem dX6_lays_20 : decode cX6_lays 20 = .ok (.iinc 1 1, 3) := by decide +kernel
theorem dX6_lays_23 : decode cX6_lays 23 = .ok (.goto (-21), 3) := by decide +kernel
theorem dX6_lays_26 : decode cX6_lays 26 = .ok (.iconst 0, 1) := by decide +kernel
theorem dX6_lays_27 : decode cX6_lays 27 = .ok (.istore_n 1, 1) := by decide +kernel
theorem dX6_lays_28 : decode cX6_lays 28 = .ok (.iload_n 1, 1) := by decide +kernel
theorem dX6_lays_29 : decode cX6_lays 29 = .ok (.bipush 59, 2) := by decide +kernel
theorem dX6_lays_31 : decode cX6_lays 31 = .ok (.if_icmp .ge 21, 3) := by decide +kernel
theorem dX6_lays_34 : decode cX6_lays 34 = .ok (.aload_n 0, 1) := by decide +kernel
theorem dX6_lays_35 : decode cX6_lays 35 = .ok (.getfield 22, 3) := by decide +kernel
theorem dX6_lays_38 : decode cX6_lays 38 = .ok (.iload_n 1, 1) := by decide +kernel
theorem dX6_lays_39 : decode cX6_lays 39 = .ok (.aload_n 0, 1) := by decide +kernel
theorem dX6_lays_40 : decode cX6_lays 40 = .ok (.getfield 19, 3) := by decide +kernel
theorem dX6_lays_43 : decode cX6_lays 43 = .ok (.iload_n 1, 1) := by decide +kernel
theorem dX6_lays_44 : decode cX6_lays 44 = .ok (.iaload, 1) := by decide +kernel
theorem dX6_lays_45 : decode cX6_lays 45 = .ok (.iastore, 1) := by decide +kernel
theorem dX6_lays_46 : decode cX6_lays 46 = .ok (.iinc 1 1, 3) := by decide +kernel
theorem dX6_lays_49 : decode cX6_lays 49 = .ok (.goto (-21), 3) := by decide +kernel
theorem dX6_lays_52 : decode cX6_lays 52 = .ok (.aload_n 0, 1) := by decide +kernel
theorem dX6_lays_53 : decode cX6_lays 53 = .ok (.iconst 0, 1) := by decide +kernel
theorem dX6_lays_54 : decode cX6_lays 54 = .ok (.putfield 101, 3) := by decide +kernel
theorem dX6_lays_57 : decode cX6_lays 57 = .ok (.aload_n 0, 1) := by decide +kernel
theorem dX6_lays_58 : decode cX6_lays 58 = .ok (.iconst 0, 1) := by decide +kernel
theorem dX6_lays_59 : decode cX6_lays 59 = .ok (.putfield 104, 3) := by decide +kernel
theorem dX6_lays_62 : decode cX6_lays 62 = .ok (.aload_n 0, 1) := by decide +kernel
theorem dX6_lays_63 : decode cX6_lays 63 = .ok (.iconst 0, 1) := by decide +kernel
theorem dX6_lays_64 : decode cX6_lays 64 = .ok (.putfield 107, 3) := by decide +kernel
theorem dX6_lays_67 : decode cX6_lays 67 = .ok (.return_, 1) := by decide +kernel
theorem dX6_lay_0 : decode cX6_lay 0 = .ok (.aload_n 0, 1) := by decide +kernel
theorem dX6_lay_1 : decode cX6_lay 1 = .ok (.invokevirtual 97, 3) := by decide +kernel
theorem dX6_lay_4 : decode cX6_lay 4 = .ok (.bipush (-4), 2) := by decide +kernel
theorem dX6_lay_6 : decode cX6_lay 6 = .ok (.if_icmp .ne 12, 3) := by decide +kernel
theorem dX6_lay_9 : decode cX6_lay 9 = .ok (.aload_n 0, 1) := by decide +kernel
theorem dX6_lay_10 : decode cX6_lay 10 = .ok (.getfield 16, 3) := by decide +kernel
theorem dX6_lay_13 : decode cX6_lay 13 = .ok (.iconst 2, 1) := by decide +kernel
theorem dX6_lay_14 : decode cX6_lay 14 = .ok (.iaload, 1) := by decide +kernel
theorem dX6_lay_15 : decode cX6_lay 15 = .ok (.ifCond .ne 6, 3) := by decide +kernel
theorem dX6_lay_18 : decode cX6_lay 18 = .ok (.bipush (-2), 2) := by decide +kernel
theorem dX6_lay_20 : decode cX6_lay 20 = .ok (.ireturn, 1) := by decide +kernel
theorem dX6_lay_21 : decode cX6_lay 21 = .ok (.aload_n 0, 1) := by decide +kernel
theorem dX6_lay_22 : decode cX6_lay 22 = .ok (.invokevirtual 51, 3) := by decide +kernel
theorem dX6_lay_25 : decode cX6_lay 25 = .ok (.aload_n 0, 1) := by decide +kernel
theorem dX6_lay_26 : decode cX6_lay 26 = .ok (.getfield 13, 3) := by decide +kernel
theorem dX6_lay_29 : decode cX6_lay 29 = .ok (.iconst 2, 1) := by decide +kernel
theorem dX6_lay_30 : decode cX6_lay 30 = .ok (.iaload, 1) := by decide +kernel
theorem dX6_lay_31 : decode cX6_lay 31 = .ok (.ireturn, 1) := by decide +kernel
theorem dX6_treeIn_0 : decode cX6_treeIn 0 = .ok (.bipush (-4), 2) := by decide +kernel
theorem dX6_treeIn_2 : decode cX6_treeIn 2 = .ok (.istore_n 2, 1) := by decide +kernel
theorem dX6_treeIn_3 : decode cX6_treeIn 3 = .ok (.iconst 0, 1) := by decide +kernel
theorem dX6_treeIn_4 : decode cX6_treeIn 4 = .ok (.istore_n 3, 1) := by decide +kernel
theorem dX6_treeIn_5 : decode cX6_treeIn 5 = .ok (.iload_n 3, 1) := by decide +kernel
theorem dX6_treeIn_6 : decode cX6_treeIn 6 = .ok (.aload_n 0, 1) := by decide +kernel
theorem dX6_treeIn_7 : decode cX6_treeIn 7 = .ok (.getfield 13, 3) := by decide +kernel
theorem dX6_treeIn_10 : decode cX6_treeIn 10 = .ok (.iconst 2, 1) := by decide +kernel
theorem dX6_treeIn_11 : decode cX6_treeIn 11 = .ok (.iaload, 1) := by decide +kernel
theorem dX6_treeIn_12 : decode cX6_treeIn 12 = .ok (.if_icmp .ge 56, 3) := by decide +kernel
theorem dX6_treeIn_15 : decode cX6_treeIn 15 = .ok (.iconst 0, 1) := by decide +kernel
theorem dX6_treeIn_16 : decode cX6_treeIn 16 = .ok (.istore 4, 2) := by decide +kernel
theorem dX6_treeIn_18 : decode cX6_treeIn 18 = .ok (.iload 4, 2) := by decide +kernel
theorem dX6_treeIn_20 : decode cX6_treeIn 20 = .ok (.aload_n 0, 1) := by decide +kernel
theorem dX6_treeIn_21 : decode cX6_treeIn 21 = .ok (.getfield 22, 3) := by decide +kernel
theorem dX6_treeIn_24 : decode cX6_treeIn 24 = .ok (.bipush 8, 2) := by decide +kernel
theorem dX6_treeIn_26 : decode cX6_treeIn 26 = .ok (.iload_n 3, 1) := by decide +kernel
theorem dX6_treeIn_27 : decode cX6_treeIn 27 = .ok (.iadd, 1) := by decide +kernel
theorem dX6_treeIn_28 : decode cX6_treeIn 28 = .ok (.iaload, 1) := by decide +kernel
theorem dX6_treeIn_29 : decode cX6_treeIn 29 = .ok (.if_icmp .ge 33, 3) := by decide +kernel
theorem dX6_treeIn_32 : decode cX6_treeIn 32 = .ok (.aload_n 0, 1) := by decide +kernel
theorem dX6_treeIn_33 : decode cX6_treeIn 33 = .ok (.getfield 22, 3) := by decide +kernel
theorem dX6_treeIn_36 : decode cX6_treeIn 36 = .ok (.bipush 11, 2) := by decide +kernel
theorem dX6_treeIn_38 : decode cX6_treeIn 38 = .ok (.iconst 4, 1) := by decide +kernel
theorem dX6_treeIn_39 : decode cX6_treeIn 39 = .ok (.iload_n 3, 1) := by decide +kernel
theorem dX6_treeIn_40 : decode cX6_treeIn 40 = .ok (.imul, 1) := by decide +kernel
theorem dX6_treeIn_41 : decode cX6_treeIn 41 = .ok (.iadd, 1) := by decide +kernel
theorem dX6_treeIn_42 : decode cX6_treeIn 42 = .ok (.iload 4, 2) := by decide +kernel
theorem dX6_treeIn_44 : decode cX6_treeIn 44 = .ok (.iadd, 1) := by decide +kernel
theorem dX6_treeIn_45 : decode cX6_treeIn 45 = .ok (.iaload, 1) := by decide +kernel
theorem dX6_treeIn_46 : decode cX6_treeIn 46 = .ok (.iload_n 1, 1) := by decide +kernel
theorem dX6_treeIn_47 : decode cX6_treeIn 47 = .ok (.if_icmp .ne 7, 3) := by decide +kernel
theorem dX6_treeIn_50 : decode cX6_treeIn 50 = .ok (.iload_n 3, 1) := by decide +kernel
theorem dX6_treeIn_51 : decode cX6_treeIn 51 = .ok (.goto 4, 3) := by decide +kernel
theorem dX6_treeIn_54 : decode cX6_treeIn 54 = .ok (.iload_n 2, 1) := by decide +kernel
theorem dX6_treeIn_55 : decode cX6_treeIn 55 = .ok (.istore_n 2, 1) := by decide +kernel
theorem dX6_treeIn_56 : decode cX6_treeIn 56 = .ok (.iinc 4 1, 3) := by decide +kernel
theorem dX6_treeIn_59 : decode cX6_treeIn 59 = .ok (.goto (-41), 3) := by decide +kernel
theorem dX6_treeIn_62 : decode cX6_treeIn 62 = .ok (.iinc 3 1, 3) := by decide +kernel
theorem dX6_treeIn_65 : decode cX6_treeIn 65 = .ok (.goto (-60), 3) := by decide +kernel
theorem dX6_treeIn_68 : decode cX6_treeIn 68 = .ok (.iload_n 2, 1) := by decide +kernel
theorem dX6_treeIn_69 : decode cX6_treeIn 69 = .ok (.ireturn, 1) := by decide +kernel
theorem dX6_lies_0 : decode cX6_lies 0 = .ok (.aload_n 0, 1) := by decide +kernel
theorem dX6_lies_1 : decode cX6_lies 1 = .ok (.getfield 22, 3) := by decide +kernel
theorem dX6_lies_4 : decode cX6_lies 4 = .ok (.bipush 23, 2) := by decide +kernel
theorem dX6_lies_6 : decode cX6_lies 6 = .ok (.iload_n 1, 1) := by decide +kernel
theorem dX6_lies_7 : decode cX6_lies 7 = .ok (.iadd, 1) := by decide +kernel
theorem dX6_lies_8 : decode cX6_lies 8 = .ok (.iaload, 1) := by decide +kernel
theorem dX6_lies_9 : decode cX6_lies 9 = .ok (.ireturn, 1) := by decide +kernel
theorem dX6_cell_0 : decode cX6_cell 0 = .ok (.aload_n 0, 1) := by decide +kernel
theorem dX6_cell_1 : decode cX6_cell 1 = .ok (.iload_n 1, 1) := by decide +kernel
theorem dX6_cell_2 : decode cX6_cell 2 = .ok (.invokevirtual 110, 3) := by decide +kernel
theorem dX6_cell_5 : decode cX6_cell 5 = .ok (.ifCond .ne 5, 3) := by decide +kernel
theorem dX6_cell_8 : decode cX6_cell 8 = .ok (.iconst (-1), 1) := by decide +kernel
theorem dX6_cell_9 : decode cX6_cell 9 = .ok (.ireturn, 1) := by decide +kernel
theorem dX6_cell_10 : decode cX6_cell 10 = .ok (.iload_n 2, 1) := by decide +kernel
theorem dX6_cell_11 : decode cX6_cell 11 = .ok (.tableswitch 83 0 3 #[29, 38, 48, 63], 29) := by decide +kernel
theorem dX6_cell_40 : decode cX6_cell 40 = .ok (.aload_n 0, 1) := by decide +kernel
theorem dX6_cell_41 : decode cX6_cell 41 = .ok (.getfield 13, 3) := by decide +kernel
theorem dX6_cell_44 : decode cX6_cell 44 = .ok (.iconst 3, 1) := by decide +kernel
theorem dX6_cell_45 : decode cX6_cell 45 = .ok (.iload_n 1, 1) := by decide +kernel
theorem dX6_cell_46 : decode cX6_cell 46 = .ok (.iadd, 1) := by decide +kernel
theorem dX6_cell_47 : decode cX6_cell 47 = .ok (.iaload, 1) := by decide +kernel
theorem dX6_cell_48 : decode cX6_cell 48 = .ok (.ireturn, 1) := by decide +kernel
theorem dX6_cell_49 : decode cX6_cell 49 = .ok (.aload_n 0, 1) := by decide +kernel
theorem dX6_cell_50 : decode cX6_cell 50 = .ok (.getfield 13, 3) := by decide +kernel
theorem dX6_cell_53 : decode cX6_cell 53 = .ok (.bipush 39, 2) := by decide +kernel
theorem dX6_cell_55 : decode cX6_cell 55 = .ok (.iload_n 1, 1) := by decide +kernel
theorem dX6_cell_56 : decode cX6_cell 56 = .ok (.iadd, 1) := by decide +kernel
theorem dX6_cell_57 : decode cX6_cell 57 = .ok (.iaload, 1) := by decide +kernel
theorem dX6_cell_58 : decode cX6_cell 58 = .ok (.ireturn, 1) := by decide +kernel
theorem dX6_cell_59 : decode cX6_cell 59 = .ok (.aload_n 0, 1) := by decide +kernel
theorem dX6_cell_60 : decode cX6_cell 60 = .ok (.iload_n 1, 1) := by decide +kernel
theorem dX6_cell_61 : decode cX6_cell 61 = .ok (.invokevirtual 113, 3) := by decide +kernel
theorem dX6_cell_64 : decode cX6_cell 64 = .ok (.iconst 1, 1) := by decide +kernel
theorem dX6_cell_65 : decode cX6_cell 65 = .ok (.if_icmp .ne 7, 3) := by decide +kernel
theorem dX6_cell_68 : decode cX6_cell 68 = .ok (.iconst 1, 1) := by decide +kernel
theorem dX6_cell_69 : decode cX6_cell 69 = .ok (.goto 4, 3) := by decide +kernel
theorem dX6_cell_72 : decode cX6_cell 72 = .ok (.iconst 0, 1) := by decide +kernel
theorem dX6_cell_73 : decode cX6_cell 73 = .ok (.ireturn, 1) := by decide +kernel
theorem dX6_cell_74 : decode cX6_cell 74 = .ok (.aload_n 0, 1) := by decide +kernel
theorem dX6_cell_75 : decode cX6_cell 75 = .ok (.iload_n 1, 1) := by decide +kernel
theorem dX6_cell_76 : decode cX6_cell 76 = .ok (.invokevirtual 113, 3) := by decide +kernel
theorem dX6_cell_79 : decode cX6_cell 79 = .ok (.iconst 2, 1) := by decide +kernel
theorem dX6_cell_80 : decode cX6_cell 80 = .ok (.if_icmp .ne 8, 3) := by decide +kernel
theorem dX6_cell_83 : decode cX6_cell 83 = .ok (.bipush 9, 2) := by decide +kernel
theorem dX6_cell_85 : decode cX6_cell 85 = .ok (.goto 8, 3) := by decide +kernel
theorem dX6_cell_88 : decode cX6_cell 88 = .ok (.aload_n 0, 1) := by decide +kernel
theorem dX6_cell_89 : decode cX6_cell 89 = .ok (.iload_n 1, 1) := by decide +kernel
theorem dX6_cell_90 : decode cX6_cell 90 = .ok (.invokevirtual 116, 3) := by decide +kernel
theorem dX6_cell_93 : decode cX6_cell 93 = .ok (.ireturn, 1) := by decide +kernel
theorem dX6_cell_94 : decode cX6_cell 94 = .ok (.iconst (-1), 1) := by decide +kernel
theorem dX6_cell_95 : decode cX6_cell 95 = .ok (.ireturn, 1) := by decide +kernel
theorem dX6_beside_0 : decode cX6_beside 0 = .ok (.aload_n 0, 1) := by decide +kernel
theorem dX6_beside_1 : decode cX6_beside 1 = .ok (.getfield 13, 3) := by decide +kernel
theorem dX6_beside_4 : decode cX6_beside 4 = .ok (.iconst 1, 1) := by decide +kernel
theorem dX6_beside_5 : decode cX6_beside 5 = .ok (.iaload, 1) := by decide +kernel
theorem dX6_beside_6 : decode cX6_beside 6 = .ok (.istore_n 3, 1) := by decide +kernel
theorem dX6_beside_7 : decode cX6_beside 7 = .ok (.iload_n 2, 1) := by decide +kernel
theorem dX6_beside_8 : decode cX6_beside 8 = .ok (.tableswitch 82 0 2 #[28, 43, 61], 28) := by decide +kernel
theorem dX6_beside_36 : decode cX6_beside 36 = .ok (.iload_n 1, 1) := by decide +kernel
theorem dX6_beside_37 : decode cX6_beside 37 = .ok (.iload_n 3, 1) := by decide +kernel
theorem dX6_beside_38 : decode cX6_beside 38 = .ok (.isub, 1) := by decide +kernel
theorem dX6_beside_39 : decode cX6_beside 39 = .ok (.ifCond .lt 9, 3) := by decide +kernel
theorem dX6_beside_42 : decode cX6_beside 42 = .ok (.iload_n 1, 1) := by decide +kernel
theorem dX6_beside_43 : decode cX6_beside 43 = .ok (.iload_n 3, 1) := by decide +kernel
theorem dX6_beside_44 : decode cX6_beside 44 = .ok (.isub, 1) := by decide +kernel
theorem dX6_beside_45 : decode cX6_beside 45 = .ok (.goto 5, 3) := by decide +kernel
theorem dX6_beside_48 : decode cX6_beside 48 = .ok (.bipush (-4), 2) := by decide +kernel
theorem dX6_beside_50 : decode cX6_beside 50 = .ok (.ireturn, 1) := by decide +kernel
theorem dX6_beside_51 : decode cX6_beside 51 = .ok (.iload_n 1, 1) := by decide +kernel
theorem dX6_beside_52 : decode cX6_beside 52 = .ok (.iload_n 3, 1) := by decide +kernel
theorem dX6_beside_53 : decode cX6_beside 53 = .ok (.irem, 1) := by decide +kernel
theorem dX6_beside_54 : decode cX6_beside 54 = .ok (.iload_n 3, 1) := by decide +kernel
theorem dX6_beside_55 : decode cX6_beside 55 = .ok (.iconst 1, 1) := by decide +kernel
theorem dX6_beside_56 : decode cX6_beside 56 = .ok (.isub, 1) := by decide +kernel
theorem dX6_beside_57 : decode cX6_beside 57 = .ok (.if_icmp .ge 9, 3) := by decide +kernel
theorem dX6_beside_60 : decode cX6_beside 60 = .ok (.iload_n 1, 1) := by decide +kernel
theorem dX6_beside_61 : decode cX6_beside 61 = .ok (.iconst 1, 1) := by decide +kernel
theorem dX6_beside_62 : decode cX6_beside 62 = .ok (.iadd, 1) := by decide +kernel
theorem dX6_beside_63 : decode cX6_beside 63 = .ok (.goto 5, 3) := by decide +kernel
theorem dX6_beside_66 : decode cX6_beside 66 = .ok (.bipush (-4), 2) := by decide +kernel
theorem dX6_beside_68 : decode cX6_beside 68 = .ok (.ireturn, 1) := by decide +kernel
theorem dX6_beside_69 : decode cX6_beside 69 = .ok (.iload_n 1, 1) := by decide +kernel
theorem dX6_beside_70 : decode cX6_beside 70 = .ok (.iload_n 3, 1) := by decide +kernel
theorem dX6_beside_71 : decode cX6_beside 71 = .ok (.iadd, 1) := by decide +kernel
theorem dX6_beside_72 : decode cX6_beside 72 = .ok (.aload_n 0, 1) := by decide +kernel
theorem dX6_beside_73 : decode cX6_beside 73 = .ok (.getfield 13, 3) := by decide +kernel
theorem dX6_beside_76 : decode cX6_beside 76 = .ok (.iconst 0, 1) := by decide +kernel
theorem dX6_beside_77 : decode cX6_beside 77 = .ok (.iaload, 1) := by decide +kernel
theorem dX6_beside_78 : decode cX6_beside 78 = .ok (.if_icmp .ge 9, 3) := by decide +kernel
theorem dX6_beside_81 : decode cX6_beside 81 = .ok (.iload_n 1, 1) := by decide +kernel
theorem dX6_beside_82 : decode cX6_beside 82 = .ok (.iload_n 3, 1) := by decide +kernel
theorem dX6_beside_83 : decode cX6_beside 83 = .ok (.iadd, 1) := by decide +kernel
theorem dX6_beside_84 : decode cX6_beside 84 = .ok (.goto 5, 3) := by decide +kernel
theorem dX6_beside_87 : decode cX6_beside 87 = .ok (.bipush (-4), 2) := by decide +kernel
theorem dX6_beside_89 : decode cX6_beside 89 = .ok (.ireturn, 1) := by decide +kernel
theorem dX6_beside_90 : decode cX6_beside 90 = .ok (.iload_n 1, 1) := by decide +kernel
theorem dX6_beside_91 : decode cX6_beside 91 = .ok (.iload_n 3, 1) := by decide +kernel
theorem dX6_beside_92 : decode cX6_beside 92 = .ok (.irem, 1) := by decide +kernel
theorem dX6_beside_93 : decode cX6_beside 93 = .ok (.ifCond .le 9, 3) := by decide +kernel
theorem dX6_beside_96 : decode cX6_beside 96 = .ok (.iload_n 1, 1) := by decide +kernel
theorem dX6_beside_97 : decode cX6_beside 97 = .ok (.iconst 1, 1) := by decide +kernel
theorem dX6_beside_98 : decode cX6_beside 98 = .ok (.isub, 1) := by decide +kernel
theorem dX6_beside_99 : decode cX6_beside 99 = .ok (.goto 5, 3) := by decide +kernel
theorem dX6_beside_102 : decode cX6_beside 102 = .ok (.bipush (-4), 2) := by decide +kernel
theorem dX6_beside_104 : decode cX6_beside 104 = .ok (.ireturn, 1) := by decide +kernel
theorem dX6_isOpen_0 : decode cX6_isOpen 0 = .ok (.iload_n 2, 1) := by decide +kernel
theorem dX6_isOpen_1 : decode cX6_isOpen 1 = .ok (.bipush (-4), 2) := by decide +kernel
theorem dX6_isOpen_3 : decode cX6_isOpen 3 = .ok (.if_icmp .ne 7, 3) := by decide +kernel
theorem dX6_isOpen_6 : decode cX6_isOpen 6 = .ok (.iconst 3, 1) := by decide +kernel
theorem dX6_isOpen_7 : decode cX6_isOpen 7 = .ok (.goto 11, 3) := by decide +kernel
theorem dX6_isOpen_10 : decode cX6_isOpen 10 = .ok (.aload_n 0, 1) := by decide +kernel
theorem dX6_isOpen_11 : decode cX6_isOpen 11 = .ok (.getfield 13, 3) := by decide +kernel
theorem dX6_isOpen_14 : decode cX6_isOpen 14 = .ok (.iconst 3, 1) := by decide +kernel
theorem dX6_isOpen_15 : decode cX6_isOpen 15 = .ok (.iload_n 2, 1) := by decide +kernel
theorem dX6_isOpen_16 : decode cX6_isOpen 16 = .ok (.iadd, 1) := by decide +kernel
theorem dX6_isOpen_17 : decode cX6_isOpen 17 = .ok (.iaload, 1) := by decide +kernel
theorem dX6_isOpen_18 : decode cX6_isOpen 18 = .ok (.istore_n 3, 1) := by decide +kernel
theorem dX6_isOpen_19 : decode cX6_isOpen 19 = .ok (.iload_n 3, 1) := by decide +kernel
theorem dX6_isOpen_20 : decode cX6_isOpen 20 = .ok (.ifCond .eq 26, 3) := by decide +kernel
theorem dX6_isOpen_23 : decode cX6_isOpen 23 = .ok (.iload_n 3, 1) := by decide +kernel
theorem dX6_isOpen_24 : decode cX6_isOpen 24 = .ok (.iconst 1, 1) := by decide +kernel
theorem dX6_isOpen_25 : decode cX6_isOpen 25 = .ok (.if_icmp .eq 21, 3) := by decide +kernel
theorem dX6_isOpen_28 : decode cX6_isOpen 28 = .ok (.iload_n 3, 1) := by decide +kernel
theorem dX6_isOpen_29 : decode cX6_isOpen 29 = .ok (.iconst 2, 1) := by decide +kernel
theorem dX6_isOpen_30 : decode cX6_isOpen 30 = .ok (.if_icmp .ne 20, 3) := by decide +kernel
theorem dX6_isOpen_33 : decode cX6_isOpen 33 = .ok (.aload_n 0, 1) := by decide +kernel
theorem dX6_isOpen_34 : decode cX6_isOpen 34 = .ok (.getfield 13, 3) := by decide +kernel
theorem dX6_isOpen_37 : decode cX6_isOpen 37 = .ok (.bipush 75, 2) := by decide +kernel
theorem dX6_isOpen_39 : decode cX6_isOpen 39 = .ok (.iload_n 1, 1) := by decide +kernel
theorem dX6_isOpen_40 : decode cX6_isOpen 40 = .ok (.iadd, 1) := by decide +kernel
theorem dX6_isOpen_41 : decode cX6_isOpen 41 = .ok (.iaload, 1) := by decide +kernel
theorem dX6_isOpen_42 : decode cX6_isOpen 42 = .ok (.iconst 3, 1) := by decide +kernel
theorem dX6_isOpen_43 : decode cX6_isOpen 43 = .ok (.if_icmp .ne 7, 3) := by decide +kernel
theorem dX6_isOpen_46 : decode cX6_isOpen 46 = .ok (.iconst 1, 1) := by decide +kernel
theorem dX6_isOpen_47 : decode cX6_isOpen 47 = .ok (.goto 4, 3) := by decide +kernel
theorem dX6_isOpen_50 : decode cX6_isOpen 50 = .ok (.iconst 0, 1) := by decide +kernel
theorem dX6_isOpen_51 : decode cX6_isOpen 51 = .ok (.istore 4, 2) := by decide +kernel
theorem dX6_isOpen_53 : decode cX6_isOpen 53 = .ok (.iload 4, 2) := by decide +kernel
theorem dX6_isOpen_55 : decode cX6_isOpen 55 = .ok (.ifCond .eq 25, 3) := by decide +kernel
theorem dX6_isOpen_58 : decode cX6_isOpen 58 = .ok (.aload_n 0, 1) := by decide +kernel
theorem dX6_isOpen_59 : decode cX6_isOpen 59 = .ok (.iload_n 2, 1) := by decide +kernel
theorem dX6_isOpen_60 : decode cX6_isOpen 60 = .ok (.invokevirtual 113, 3) := by decide +kernel
theorem dX6_isOpen_63 : decode cX6_isOpen 63 = .ok (.ifCond .ne 17, 3) := by decide +kernel
theorem dX6_isOpen_66 : decode cX6_isOpen 66 = .ok (.aload_n 0, 1) := by decide +kernel
theorem dX6_isOpen_67 : decode cX6_isOpen 67 = .ok (.iload_n 2, 1) := by decide +kernel
theorem dX6_isOpen_68 : decode cX6_isOpen 68 = .ok (.invokevirtual 116, 3) := by decide +kernel
theorem dX6_isOpen_71 : decode cX6_isOpen 71 = .ok (.bipush (-4), 2) := by decide +kernel
theorem dX6_isOpen_73 : decode cX6_isOpen 73 = .ok (.if_icmp .ne 7, 3) := by decide +kernel
theorem dX6_isOpen_76 : decode cX6_isOpen 76 = .ok (.iconst 1, 1) := by decide +kernel
theorem dX6_isOpen_77 : decode cX6_isOpen 77 = .ok (.goto 4, 3) := by decide +kernel
theorem dX6_isOpen_80 : decode cX6_isOpen 80 = .ok (.iconst 0, 1) := by decide +kernel
theorem dX6_isOpen_81 : decode cX6_isOpen 81 = .ok (.ireturn, 1) := by decide +kernel
theorem dX6_headsFor_0 : decode cX6_headsFor 0 = .ok (.aload_n 0, 1) := by decide +kernel
theorem dX6_headsFor_1 : decode cX6_headsFor 1 = .ok (.getfield 22, 3) := by decide +kernel
theorem dX6_headsFor_4 : decode cX6_headsFor 4 = .ok (.iconst 5, 1) := by decide +kernel
theorem dX6_headsFor_5 : decode cX6_headsFor 5 = .ok (.iload_n 1, 1) := by decide +kernel
theorem dX6_headsFor_6 : decode cX6_headsFor 6 = .ok (.iadd, 1) := by decide +kernel
theorem dX6_headsFor_7 : decode cX6_headsFor 7 = .ok (.iaload, 1) := by decide +kernel
theorem dX6_headsFor_8 : decode cX6_headsFor 8 = .ok (.istore_n 2, 1) := by decide +kernel
theorem dX6_headsFor_9 : decode cX6_headsFor 9 = .ok (.aload_n 0, 1) := by decide +kernel
theorem dX6_headsFor_10 : decode cX6_headsFor 10 = .ok (.getfield 13, 3) := by decide +kernel
theorem dX6_headsFor_13 : decode cX6_headsFor 13 = .ok (.bipush 75, 2) := by decide +kernel
theorem dX6_headsFor_15 : decode cX6_headsFor 15 = .ok (.iload_n 1, 1) := by decide +kernel
theorem dX6_headsFor_16 : decode cX6_headsFor 16 = .ok (.iadd, 1) := by decide +kernel
theorem dX6_headsFor_17 : decode cX6_headsFor 17 = .ok (.iaload, 1) := by decide +kernel
theorem dX6_headsFor_18 : decode cX6_headsFor 18 = .ok (.iconst 1, 1) := by decide +kernel
theorem dX6_headsFor_19 : decode cX6_headsFor 19 = .ok (.if_icmp .ne 7, 3) := by decide +kernel
theorem dX6_headsFor_22 : decode cX6_headsFor 22 = .ok (.iconst 3, 1) := by decide +kernel
theorem dX6_headsFor_23 : decode cX6_headsFor 23 = .ok (.goto 4, 3) := by decide +kernel
theorem dX6_headsFor_26 : decode cX6_headsFor 26 = .ok (.iconst 1, 1) := by decide +kernel
theorem dX6_headsFor_27 : decode cX6_headsFor 27 = .ok (.istore_n 3, 1) := by decide +kernel
theorem dX6_headsFor_28 : decode cX6_headsFor 28 = .ok (.aload_n 0, 1) := by decide +kernel
theorem dX6_headsFor_29 : decode cX6_headsFor 29 = .ok (.getfield 22, 3) := by decide +kernel
theorem dX6_headsFor_32 : decode cX6_headsFor 32 = .ok (.bipush 11, 2) := by decide +kernel
theorem dX6_headsFor_34 : decode cX6_headsFor 34 = .ok (.iconst 4, 1) := by decide +kernel
theorem dX6_headsFor_35 : decode cX6_headsFor 35 = .ok (.iload_n 1, 1) := by decide +kernel
theorem dX6_headsFor_36 : decode cX6_headsFor 36 = .ok (.imul, 1) := by decide +kernel
theorem dX6_headsFor_37 : decode cX6_headsFor 37 = .ok (.iadd, 1) := by decide +kernel
theorem dX6_headsFor_38 : decode cX6_headsFor 38 = .ok (.iaload, 1) := by decide +kernel
end
section
theorem dX6_headsFor_39 : decode cX6_headsFor 39 = .ok (.istore 4, 2) := by decide +kernel
theorem dX6_headsFor_41 : decode cX6_headsFor 41 = .ok (.iload_n 2, 1) := by decide +kernel
theorem dX6_headsFor_42 : decode cX6_headsFor 42 = .ok (.iload_n 3, 1) := by decide +kernel
theorem dX6_headsFor_43 : decode cX6_headsFor 43 = .ok (.iadd, 1) := by decide +kernel
theorem dX6_headsFor_44 : decode cX6_headsFor 44 = .ok (.iconst 4, 1) := by decide +kernel
theorem dX6_headsFor_45 : decode cX6_headsFor 45 = .ok (.irem, 1) := by decide +kernel
theorem dX6_headsFor_46 : decode cX6_headsFor 46 = .ok (.istore 5, 2) := by decide +kernel
theorem dX6_headsFor_48 : decode cX6_headsFor 48 = .ok (.iload_n 2, 1) := by decide +kernel
theorem dX6_headsFor_49 : decode cX6_headsFor 49 = .ok (.iconst 4, 1) := by decide +kernel
theorem dX6_headsFor_50 : decode cX6_headsFor 50 = .ok (.iadd, 1) := by decide +kernel
theorem dX6_headsFor_51 : decode cX6_headsFor 51 = .ok (.iload_n 3, 1) := by decide +kernel
theorem dX6_headsFor_52 : decode cX6_headsFor 52 = .ok (.isub, 1) := by decide +kernel
theorem dX6_headsFor_53 : decode cX6_headsFor 53 = .ok (.iconst 4, 1) := by decide +kernel
theorem dX6_headsFor_54 : decode cX6_headsFor 54 = .ok (.irem, 1) := by decide +kernel
theorem dX6_headsFor_55 : decode cX6_headsFor 55 = .ok (.istore 6, 2) := by decide +kernel
theorem dX6_headsFor_57 : decode cX6_headsFor 57 = .ok (.aload_n 0, 1) := by decide +kernel
theorem dX6_headsFor_58 : decode cX6_headsFor 58 = .ok (.getfield 13, 3) := by decide +kernel
theorem dX6_headsFor_61 : decode cX6_headsFor 61 = .ok (.bipush 75, 2) := by decide +kernel
theorem dX6_headsFor_63 : decode cX6_headsFor 63 = .ok (.iload_n 1, 1) := by decide +kernel
theorem dX6_headsFor_64 : decode cX6_headsFor 64 = .ok (.iadd, 1) := by decide +kernel
theorem dX6_headsFor_65 : decode cX6_headsFor 65 = .ok (.iaload, 1) := by decide +kernel
theorem dX6_headsFor_66 : decode cX6_headsFor 66 = .ok (.iconst 2, 1) := by decide +kernel
theorem dX6_headsFor_67 : decode cX6_headsFor 67 = .ok (.if_icmp .ne 18, 3) := by decide +kernel
theorem dX6_headsFor_70 : decode cX6_headsFor 70 = .ok (.aload_n 0, 1) := by decide +kernel
theorem dX6_headsFor_71 : decode cX6_headsFor 71 = .ok (.getfield 22, 3) := by decide +kernel
theorem dX6_headsFor_74 : decode cX6_headsFor 74 = .ok (.iconst 0, 1) := by decide +kernel
theorem dX6_headsFor_75 : decode cX6_headsFor 75 = .ok (.iaload, 1) := by decide +kernel
theorem dX6_headsFor_76 : decode cX6_headsFor 76 = .ok (.iconst 2, 1) := by decide +kernel
theorem dX6_headsFor_77 : decode cX6_headsFor 77 = .ok (.irem, 1) := by decide +kernel
theorem dX6_headsFor_78 : decode cX6_headsFor 78 = .ok (.iconst 1, 1) := by decide +kernel
theorem dX6_headsFor_79 : decode cX6_headsFor 79 = .ok (.if_icmp .ne 6, 3) := by decide +kernel
theorem dX6_headsFor_82 : decode cX6_headsFor 82 = .ok (.bipush (-4), 2) := by decide +kernel
theorem dX6_headsFor_84 : decode cX6_headsFor 84 = .ok (.ireturn, 1) := by decide +kernel
theorem dX6_headsFor_85 : decode cX6_headsFor 85 = .ok (.aload_n 0, 1) := by decide +kernel
theorem dX6_headsFor_86 : decode cX6_headsFor 86 = .ok (.iload_n 1, 1) := by decide +kernel
theorem dX6_headsFor_87 : decode cX6_headsFor 87 = .ok (.aload_n 0, 1) := by decide +kernel
theorem dX6_headsFor_88 : decode cX6_headsFor 88 = .ok (.iload 4, 2) := by decide +kernel
theorem dX6_headsFor_90 : decode cX6_headsFor 90 = .ok (.iload_n 2, 1) := by decide +kernel
theorem dX6_headsFor_91 : decode cX6_headsFor 91 = .ok (.invokevirtual 119, 3) := by decide +kernel
theorem dX6_headsFor_94 : decode cX6_headsFor 94 = .ok (.invokevirtual 122, 3) := by decide +kernel
theorem dX6_headsFor_97 : decode cX6_headsFor 97 = .ok (.ifCond .eq 7, 3) := by decide +kernel
theorem dX6_headsFor_100 : decode cX6_headsFor 100 = .ok (.iload_n 2, 1) := by decide +kernel
theorem dX6_headsFor_101 : decode cX6_headsFor 101 = .ok (.goto 47, 3) := by decide +kernel
theorem dX6_headsFor_104 : decode cX6_headsFor 104 = .ok (.aload_n 0, 1) := by decide +kernel
theorem dX6_headsFor_105 : decode cX6_headsFor 105 = .ok (.iload_n 1, 1) := by decide +kernel
theorem dX6_headsFor_106 : decode cX6_headsFor 106 = .ok (.aload_n 0, 1) := by decide +kernel
theorem dX6_headsFor_107 : decode cX6_headsFor 107 = .ok (.iload 4, 2) := by decide +kernel
theorem dX6_headsFor_109 : decode cX6_headsFor 109 = .ok (.iload 5, 2) := by decide +kernel
theorem dX6_headsFor_111 : decode cX6_headsFor 111 = .ok (.invokevirtual 119, 3) := by decide +kernel
theorem dX6_headsFor_114 : decode cX6_headsFor 114 = .ok (.invokevirtual 122, 3) := by decide +kernel
theorem dX6_headsFor_117 : decode cX6_headsFor 117 = .ok (.ifCond .eq 8, 3) := by decide +kernel
theorem dX6_headsFor_120 : decode cX6_headsFor 120 = .ok (.iload 5, 2) := by decide +kernel
theorem dX6_headsFor_122 : decode cX6_headsFor 122 = .ok (.goto 26, 3) := by decide +kernel
theorem dX6_headsFor_125 : decode cX6_headsFor 125 = .ok (.aload_n 0, 1) := by decide +kernel
theorem dX6_headsFor_126 : decode cX6_headsFor 126 = .ok (.iload_n 1, 1) := by decide +kernel
theorem dX6_headsFor_127 : decode cX6_headsFor 127 = .ok (.aload_n 0, 1) := by decide +kernel
theorem dX6_headsFor_128 : decode cX6_headsFor 128 = .ok (.iload 4, 2) := by decide +kernel
theorem dX6_headsFor_130 : decode cX6_headsFor 130 = .ok (.iload 6, 2) := by decide +kernel
theorem dX6_headsFor_132 : decode cX6_headsFor 132 = .ok (.invokevirtual 119, 3) := by decide +kernel
theorem dX6_headsFor_135 : decode cX6_headsFor 135 = .ok (.invokevirtual 122, 3) := by decide +kernel
theorem dX6_headsFor_138 : decode cX6_headsFor 138 = .ok (.ifCond .eq 8, 3) := by decide +kernel
theorem dX6_headsFor_141 : decode cX6_headsFor 141 = .ok (.iload 6, 2) := by decide +kernel
theorem dX6_headsFor_143 : decode cX6_headsFor 143 = .ok (.goto 5, 3) := by decide +kernel
theorem dX6_headsFor_146 : decode cX6_headsFor 146 = .ok (.bipush (-4), 2) := by decide +kernel
theorem dX6_headsFor_148 : decode cX6_headsFor 148 = .ok (.ireturn, 1) := by decide +kernel
theorem dX6_row_0 : decode cX6_row 0 = .ok (.aload_n 0, 1) := by decide +kernel
theorem dX6_row_1 : decode cX6_row 1 = .ok (.iload_n 1, 1) := by decide +kernel
theorem dX6_row_2 : decode cX6_row 2 = .ok (.invokevirtual 126, 3) := by decide +kernel
theorem dX6_row_5 : decode cX6_row 5 = .ok (.ifCond .eq 12, 3) := by decide +kernel
theorem dX6_row_8 : decode cX6_row 8 = .ok (.iload_n 2, 1) := by decide +kernel
theorem dX6_row_9 : decode cX6_row 9 = .ok (.iconst 0, 1) := by decide +kernel
theorem dX6_row_10 : decode cX6_row 10 = .ok (.iconst 4, 1) := by decide +kernel
theorem dX6_row_11 : decode cX6_row 11 = .ok (.invokestatic 54, 3) := by decide +kernel
theorem dX6_row_14 : decode cX6_row 14 = .ok (.ifCond .ne 5, 3) := by decide +kernel
theorem dX6_row_17 : decode cX6_row 17 = .ok (.iconst (-1), 1) := by decide +kernel
theorem dX6_row_18 : decode cX6_row 18 = .ok (.ireturn, 1) := by decide +kernel
theorem dX6_row_19 : decode cX6_row 19 = .ok (.iload_n 2, 1) := by decide +kernel
theorem dX6_row_20 : decode cX6_row 20 = .ok (.tableswitch 71 0 3 #[32, 42, 51, 61], 32) := by decide +kernel
theorem dX6_row_52 : decode cX6_row 52 = .ok (.aload_n 0, 1) := by decide +kernel
theorem dX6_row_53 : decode cX6_row 53 = .ok (.getfield 13, 3) := by decide +kernel
theorem dX6_row_56 : decode cX6_row 56 = .ok (.bipush 75, 2) := by decide +kernel
theorem dX6_row_58 : decode cX6_row 58 = .ok (.iload_n 1, 1) := by decide +kernel
theorem dX6_row_59 : decode cX6_row 59 = .ok (.iadd, 1) := by decide +kernel
theorem dX6_row_60 : decode cX6_row 60 = .ok (.iaload, 1) := by decide +kernel
theorem dX6_row_61 : decode cX6_row 61 = .ok (.ireturn, 1) := by decide +kernel
theorem dX6_row_62 : decode cX6_row 62 = .ok (.aload_n 0, 1) := by decide +kernel
theorem dX6_row_63 : decode cX6_row 63 = .ok (.getfield 22, 3) := by decide +kernel
theorem dX6_row_66 : decode cX6_row 66 = .ok (.iconst 5, 1) := by decide +kernel
theorem dX6_row_67 : decode cX6_row 67 = .ok (.iload_n 1, 1) := by decide +kernel
theorem dX6_row_68 : decode cX6_row 68 = .ok (.iadd, 1) := by decide +kernel
theorem dX6_row_69 : decode cX6_row 69 = .ok (.iaload, 1) := by decide +kernel
theorem dX6_row_70 : decode cX6_row 70 = .ok (.ireturn, 1) := by decide +kernel
theorem dX6_row_71 : decode cX6_row 71 = .ok (.aload_n 0, 1) := by decide +kernel
theorem dX6_row_72 : decode cX6_row 72 = .ok (.getfield 13, 3) := by decide +kernel
theorem dX6_row_75 : decode cX6_row 75 = .ok (.bipush 78, 2) := by decide +kernel
theorem dX6_row_77 : decode cX6_row 77 = .ok (.iload_n 1, 1) := by decide +kernel
theorem dX6_row_78 : decode cX6_row 78 = .ok (.iadd, 1) := by decide +kernel
theorem dX6_row_79 : decode cX6_row 79 = .ok (.iaload, 1) := by decide +kernel
theorem dX6_row_80 : decode cX6_row 80 = .ok (.ireturn, 1) := by decide +kernel
theorem dX6_row_81 : decode cX6_row 81 = .ok (.aload_n 0, 1) := by decide +kernel
theorem dX6_row_82 : decode cX6_row 82 = .ok (.getfield 22, 3) := by decide +kernel
theorem dX6_row_85 : decode cX6_row 85 = .ok (.bipush 8, 2) := by decide +kernel
theorem dX6_row_87 : decode cX6_row 87 = .ok (.iload_n 1, 1) := by decide +kernel
theorem dX6_row_88 : decode cX6_row 88 = .ok (.iadd, 1) := by decide +kernel
theorem dX6_row_89 : decode cX6_row 89 = .ok (.iaload, 1) := by decide +kernel
theorem dX6_row_90 : decode cX6_row 90 = .ok (.ireturn, 1) := by decide +kernel
theorem dX6_row_91 : decode cX6_row 91 = .ok (.aload_n 0, 1) := by decide +kernel
theorem dX6_row_92 : decode cX6_row 92 = .ok (.iload_n 1, 1) := by decide +kernel
theorem dX6_row_93 : decode cX6_row 93 = .ok (.invokevirtual 129, 3) := by decide +kernel
theorem dX6_row_96 : decode cX6_row 96 = .ok (.bipush (-4), 2) := by decide +kernel
theorem dX6_row_98 : decode cX6_row 98 = .ok (.if_icmp .ne 8, 3) := by decide +kernel
theorem dX6_row_101 : decode cX6_row 101 = .ok (.bipush (-4), 2) := by decide +kernel
theorem dX6_row_103 : decode cX6_row 103 = .ok (.goto 23, 3) := by decide +kernel
theorem dX6_row_106 : decode cX6_row 106 = .ok (.aload_n 0, 1) := by decide +kernel
theorem dX6_row_107 : decode cX6_row 107 = .ok (.aload_n 0, 1) := by decide +kernel
theorem dX6_row_108 : decode cX6_row 108 = .ok (.getfield 22, 3) := by decide +kernel
theorem dX6_row_111 : decode cX6_row 111 = .ok (.bipush 11, 2) := by decide +kernel
theorem dX6_row_113 : decode cX6_row 113 = .ok (.iconst 4, 1) := by decide +kernel
theorem dX6_row_114 : decode cX6_row 114 = .ok (.iload_n 1, 1) := by decide +kernel
theorem dX6_row_115 : decode cX6_row 115 = .ok (.imul, 1) := by decide +kernel
theorem dX6_row_116 : decode cX6_row 116 = .ok (.iadd, 1) := by decide +kernel
theorem dX6_row_117 : decode cX6_row 117 = .ok (.iaload, 1) := by decide +kernel
theorem dX6_row_118 : decode cX6_row 118 = .ok (.aload_n 0, 1) := by decide +kernel
theorem dX6_row_119 : decode cX6_row 119 = .ok (.iload_n 1, 1) := by decide +kernel
theorem dX6_row_120 : decode cX6_row 120 = .ok (.invokevirtual 129, 3) := by decide +kernel
theorem dX6_row_123 : decode cX6_row 123 = .ok (.invokevirtual 119, 3) := by decide +kernel
theorem dX6_row_126 : decode cX6_row 126 = .ok (.ireturn, 1) := by decide +kernel
theorem dX6_tree_0 : decode cX6_tree 0 = .ok (.aload_n 0, 1) := by decide +kernel
theorem dX6_tree_1 : decode cX6_tree 1 = .ok (.iload_n 1, 1) := by decide +kernel
theorem dX6_tree_2 : decode cX6_tree 2 = .ok (.invokevirtual 126, 3) := by decide +kernel
theorem dX6_tree_5 : decode cX6_tree 5 = .ok (.ifCond .eq 12, 3) := by decide +kernel
theorem dX6_tree_8 : decode cX6_tree 8 = .ok (.iload_n 2, 1) := by decide +kernel
theorem dX6_tree_9 : decode cX6_tree 9 = .ok (.iconst 0, 1) := by decide +kernel
theorem dX6_tree_10 : decode cX6_tree 10 = .ok (.iconst 3, 1) := by decide +kernel
theorem dX6_tree_11 : decode cX6_tree 11 = .ok (.invokestatic 54, 3) := by decide +kernel
theorem dX6_tree_14 : decode cX6_tree 14 = .ok (.ifCond .ne 5, 3) := by decide +kernel
theorem dX6_tree_17 : decode cX6_tree 17 = .ok (.iconst (-1), 1) := by decide +kernel
theorem dX6_tree_18 : decode cX6_tree 18 = .ok (.ireturn, 1) := by decide +kernel
theorem dX6_tree_19 : decode cX6_tree 19 = .ok (.iload_n 2, 1) := by decide +kernel
theorem dX6_tree_20 : decode cX6_tree 20 = .ok (.aload_n 0, 1) := by decide +kernel
theorem dX6_tree_21 : decode cX6_tree 21 = .ok (.getfield 22, 3) := by decide +kernel
theorem dX6_tree_24 : decode cX6_tree 24 = .ok (.bipush 8, 2) := by decide +kernel
theorem dX6_tree_26 : decode cX6_tree 26 = .ok (.iload_n 1, 1) := by decide +kernel
theorem dX6_tree_27 : decode cX6_tree 27 = .ok (.iadd, 1) := by decide +kernel
theorem dX6_tree_28 : decode cX6_tree 28 = .ok (.iaload, 1) := by decide +kernel
theorem dX6_tree_29 : decode cX6_tree 29 = .ok (.if_icmp .ge 19, 3) := by decide +kernel
theorem dX6_tree_32 : decode cX6_tree 32 = .ok (.aload_n 0, 1) := by decide +kernel
theorem dX6_tree_33 : decode cX6_tree 33 = .ok (.getfield 22, 3) := by decide +kernel
theorem dX6_tree_36 : decode cX6_tree 36 = .ok (.bipush 11, 2) := by decide +kernel
theorem dX6_tree_38 : decode cX6_tree 38 = .ok (.iconst 4, 1) := by decide +kernel
theorem dX6_tree_39 : decode cX6_tree 39 = .ok (.iload_n 1, 1) := by decide +kernel
theorem dX6_tree_40 : decode cX6_tree 40 = .ok (.imul, 1) := by decide +kernel
theorem dX6_tree_41 : decode cX6_tree 41 = .ok (.iadd, 1) := by decide +kernel
theorem dX6_tree_42 : decode cX6_tree 42 = .ok (.iload_n 2, 1) := by decide +kernel
theorem dX6_tree_43 : decode cX6_tree 43 = .ok (.iadd, 1) := by decide +kernel
theorem dX6_tree_44 : decode cX6_tree 44 = .ok (.iaload, 1) := by decide +kernel
theorem dX6_tree_45 : decode cX6_tree 45 = .ok (.goto 5, 3) := by decide +kernel
theorem dX6_tree_48 : decode cX6_tree 48 = .ok (.bipush (-4), 2) := by decide +kernel
theorem dX6_tree_50 : decode cX6_tree 50 = .ok (.ireturn, 1) := by decide +kernel
theorem dX6_has_0 : decode cX6_has 0 = .ok (.iload_n 1, 1) := by decide +kernel
theorem dX6_has_1 : decode cX6_has 1 = .ok (.iconst 0, 1) := by decide +kernel
theorem dX6_has_2 : decode cX6_has 2 = .ok (.iconst 3, 1) := by decide +kernel
theorem dX6_has_3 : decode cX6_has 3 = .ok (.invokestatic 54, 3) := by decide +kernel
theorem dX6_has_6 : decode cX6_has 6 = .ok (.ifCond .eq 14, 3) := by decide +kernel
theorem dX6_has_9 : decode cX6_has 9 = .ok (.aload_n 0, 1) := by decide +kernel
theorem dX6_has_10 : decode cX6_has 10 = .ok (.getfield 22, 3) := by decide +kernel
theorem dX6_has_13 : decode cX6_has 13 = .ok (.iconst 1, 1) := by decide +kernel
theorem dX6_has_14 : decode cX6_has 14 = .ok (.iload_n 1, 1) := by decide +kernel
theorem dX6_has_15 : decode cX6_has 15 = .ok (.iadd, 1) := by decide +kernel
theorem dX6_has_16 : decode cX6_has 16 = .ok (.iaload, 1) := by decide +kernel
theorem dX6_has_17 : decode cX6_has 17 = .ok (.goto 4, 3) := by decide +kernel
theorem dX6_has_20 : decode cX6_has 20 = .ok (.iconst (-1), 1) := by decide +kernel
theorem dX6_has_21 : decode cX6_has 21 = .ok (.ireturn, 1) := by decide +kernel
theorem dX6_hasMate_0 : decode cX6_hasMate 0 = .ok (.iconst 0, 1) := by decide +kernel
theorem dX6_hasMate_1 : decode cX6_hasMate 1 = .ok (.istore_n 3, 1) := by decide +kernel
theorem dX6_hasMate_2 : decode cX6_hasMate 2 = .ok (.iconst 0, 1) := by decide +kernel
theorem dX6_hasMate_3 : decode cX6_hasMate 3 = .ok (.istore 4, 2) := by decide +kernel
theorem dX6_hasMate_5 : decode cX6_hasMate 5 = .ok (.iload 4, 2) := by decide +kernel
theorem dX6_hasMate_7 : decode cX6_hasMate 7 = .ok (.iconst 4, 1) := by decide +kernel
theorem dX6_hasMate_8 : decode cX6_hasMate 8 = .ok (.if_icmp .ge 62, 3) := by decide +kernel
theorem dX6_hasMate_11 : decode cX6_hasMate 11 = .ok (.aload_n 0, 1) := by decide +kernel
theorem dX6_hasMate_12 : decode cX6_hasMate 12 = .ok (.iload_n 2, 1) := by decide +kernel
theorem dX6_hasMate_13 : decode cX6_hasMate 13 = .ok (.iload 4, 2) := by decide +kernel
theorem dX6_hasMate_15 : decode cX6_hasMate 15 = .ok (.invokevirtual 119, 3) := by decide +kernel
theorem dX6_hasMate_18 : decode cX6_hasMate 18 = .ok (.bipush (-4), 2) := by decide +kernel
theorem dX6_hasMate_20 : decode cX6_hasMate 20 = .ok (.if_icmp .ne 8, 3) := by decide +kernel
theorem dX6_hasMate_23 : decode cX6_hasMate 23 = .ok (.bipush (-4), 2) := by decide +kernel
theorem dX6_hasMate_25 : decode cX6_hasMate 25 = .ok (.goto 14, 3) := by decide +kernel
theorem dX6_hasMate_28 : decode cX6_hasMate 28 = .ok (.aload_n 0, 1) := by decide +kernel
theorem dX6_hasMate_29 : decode cX6_hasMate 29 = .ok (.aload_n 0, 1) := by decide +kernel
theorem dX6_hasMate_30 : decode cX6_hasMate 30 = .ok (.iload_n 2, 1) := by decide +kernel
theorem dX6_hasMate_31 : decode cX6_hasMate 31 = .ok (.iload 4, 2) := by decide +kernel
theorem dX6_hasMate_33 : decode cX6_hasMate 33 = .ok (.invokevirtual 119, 3) := by decide +kernel
theorem dX6_hasMate_36 : decode cX6_hasMate 36 = .ok (.invokevirtual 116, 3) := by decide +kernel
theorem dX6_hasMate_39 : decode cX6_hasMate 39 = .ok (.istore 5, 2) := by decide +kernel
theorem dX6_hasMate_41 : decode cX6_hasMate 41 = .ok (.iload_n 3, 1) := by decide +kernel
theorem dX6_hasMate_42 : decode cX6_hasMate 42 = .ok (.ifCond .ne 16, 3) := by decide +kernel
theorem dX6_hasMate_45 : decode cX6_hasMate 45 = .ok (.iload 5, 2) := by decide +kernel
theorem dX6_hasMate_47 : decode cX6_hasMate 47 = .ok (.bipush (-4), 2) := by decide +kernel
theorem dX6_hasMate_49 : decode cX6_hasMate 49 = .ok (.if_icmp .eq 13, 3) := by decide +kernel
theorem dX6_hasMate_52 : decode cX6_hasMate 52 = .ok (.iload 5, 2) := by decide +kernel
theorem dX6_hasMate_54 : decode cX6_hasMate 54 = .ok (.iload_n 1, 1) := by decide +kernel
theorem dX6_hasMate_55 : decode cX6_hasMate 55 = .ok (.if_icmp .eq 7, 3) := by decide +kernel
theorem dX6_hasMate_58 : decode cX6_hasMate 58 = .ok (.iconst 1, 1) := by decide +kernel
theorem dX6_hasMate_59 : decode cX6_hasMate 59 = .ok (.goto 4, 3) := by decide +kernel
theorem dX6_hasMate_62 : decode cX6_hasMate 62 = .ok (.iconst 0, 1) := by decide +kernel
theorem dX6_hasMate_63 : decode cX6_hasMate 63 = .ok (.istore_n 3, 1) := by decide +kernel
theorem dX6_hasMate_64 : decode cX6_hasMate 64 = .ok (.iinc 4 1, 3) := by decide +kernel
theorem dX6_hasMate_67 : decode cX6_hasMate 67 = .ok (.goto (-62), 3) := by decide +kernel
theorem dX6_hasMate_70 : decode cX6_hasMate 70 = .ok (.iload_n 3, 1) := by decide +kernel
theorem dX6_hasMate_71 : decode cX6_hasMate 71 = .ok (.ireturn, 1) := by decide +kernel
theorem dX6_passes_0 : decode cX6_passes 0 = .ok (.iconst 0, 1) := by decide +kernel
theorem dX6_passes_1 : decode cX6_passes 1 = .ok (.istore_n 2, 1) := by decide +kernel
theorem dX6_passes_2 : decode cX6_passes 2 = .ok (.iload_n 2, 1) := by decide +kernel
theorem dX6_passes_3 : decode cX6_passes 3 = .ok (.aload_n 0, 1) := by decide +kernel
theorem dX6_passes_4 : decode cX6_passes 4 = .ok (.getfield 13, 3) := by decide +kernel
theorem dX6_passes_7 : decode cX6_passes 7 = .ok (.iconst 2, 1) := by decide +kernel
theorem dX6_passes_8 : decode cX6_passes 8 = .ok (.iaload, 1) := by decide +kernel
theorem dX6_passes_9 : decode cX6_passes 9 = .ok (.if_icmp .ge 163, 3) := by decide +kernel
theorem dX6_passes_12 : decode cX6_passes 12 = .ok (.iload_n 2, 1) := by decide +kernel
theorem dX6_passes_13 : decode cX6_passes 13 = .ok (.iload_n 1, 1) := by decide +kernel
theorem dX6_passes_14 : decode cX6_passes 14 = .ok (.if_icmp .ne 8, 3) := by decide +kernel
theorem dX6_passes_17 : decode cX6_passes 17 = .ok (.bipush (-4), 2) := by decide +kernel
theorem dX6_passes_19 : decode cX6_passes 19 = .ok (.goto 8, 3) := by decide +kernel
theorem dX6_passes_22 : decode cX6_passes 22 = .ok (.aload_n 0, 1) := by decide +kernel
theorem dX6_passes_23 : decode cX6_passes 23 = .ok (.iload_n 2, 1) := by decide +kernel
theorem dX6_passes_24 : decode cX6_passes 24 = .ok (.invokevirtual 129, 3) := by decide +kernel
theorem dX6_passes_27 : decode cX6_passes 27 = .ok (.istore_n 3, 1) := by decide +kernel
theorem dX6_passes_28 : decode cX6_passes 28 = .ok (.iload_n 3, 1) := by decide +kernel
theorem dX6_passes_29 : decode cX6_passes 29 = .ok (.bipush (-4), 2) := by decide +kernel
theorem dX6_passes_31 : decode cX6_passes 31 = .ok (.if_icmp .eq 135, 3) := by decide +kernel
theorem dX6_passes_34 : decode cX6_passes 34 = .ok (.aload_n 0, 1) := by decide +kernel
theorem dX6_passes_35 : decode cX6_passes 35 = .ok (.aload_n 0, 1) := by decide +kernel
theorem dX6_passes_36 : decode cX6_passes 36 = .ok (.getfield 22, 3) := by decide +kernel
theorem dX6_passes_39 : decode cX6_passes 39 = .ok (.bipush 11, 2) := by decide +kernel
theorem dX6_passes_41 : decode cX6_passes 41 = .ok (.iconst 4, 1) := by decide +kernel
theorem dX6_passes_42 : decode cX6_passes 42 = .ok (.iload_n 2, 1) := by decide +kernel
theorem dX6_passes_43 : decode cX6_passes 43 = .ok (.imul, 1) := by decide +kernel
theorem dX6_passes_44 : decode cX6_passes 44 = .ok (.iadd, 1) := by decide +kernel
theorem dX6_passes_45 : decode cX6_passes 45 = .ok (.iaload, 1) := by decide +kernel
theorem dX6_passes_46 : decode cX6_passes 46 = .ok (.iload_n 3, 1) := by decide +kernel
theorem dX6_passes_47 : decode cX6_passes 47 = .ok (.invokevirtual 119, 3) := by decide +kernel
theorem dX6_passes_50 : decode cX6_passes 50 = .ok (.istore 4, 2) := by decide +kernel
theorem dX6_passes_52 : decode cX6_passes 52 = .ok (.aload_n 0, 1) := by decide +kernel
theorem dX6_passes_53 : decode cX6_passes 53 = .ok (.getfield 22, 3) := by decide +kernel
theorem dX6_passes_56 : decode cX6_passes 56 = .ok (.bipush 8, 2) := by decide +kernel
theorem dX6_passes_58 : decode cX6_passes 58 = .ok (.iload_n 2, 1) := by decide +kernel
theorem dX6_passes_59 : decode cX6_passes 59 = .ok (.iadd, 1) := by decide +kernel
theorem dX6_passes_60 : decode cX6_passes 60 = .ok (.iaload, 1) := by decide +kernel
theorem dX6_passes_61 : decode cX6_passes 61 = .ok (.iconst 1, 1) := by decide +kernel
theorem dX6_passes_62 : decode cX6_passes 62 = .ok (.isub, 1) := by decide +kernel
theorem dX6_passes_63 : decode cX6_passes 63 = .ok (.istore 5, 2) := by decide +kernel
theorem dX6_passes_65 : decode cX6_passes 65 = .ok (.iload 5, 2) := by decide +kernel
theorem dX6_passes_67 : decode cX6_passes 67 = .ok (.ifCond .le 39, 3) := by decide +kernel
theorem dX6_passes_70 : decode cX6_passes 70 = .ok (.aload_n 0, 1) := by decide +kernel
theorem dX6_passes_71 : decode cX6_passes 71 = .ok (.getfield 22, 3) := by decide +kernel
theorem dX6_passes_74 : decode cX6_passes 74 = .ok (.bipush 11, 2) := by decide +kernel
theorem dX6_passes_76 : decode cX6_passes 76 = .ok (.iconst 4, 1) := by decide +kernel
theorem dX6_passes_77 : decode cX6_passes 77 = .ok (.iload_n 2, 1) := by decide +kernel
theorem dX6_passes_78 : decode cX6_passes 78 = .ok (.imul, 1) := by decide +kernel
theorem dX6_passes_79 : decode cX6_passes 79 = .ok (.iadd, 1) := by decide +kernel
theorem dX6_passes_80 : decode cX6_passes 80 = .ok (.iload 5, 2) := by decide +kernel
theorem dX6_passes_82 : decode cX6_passes 82 = .ok (.iadd, 1) := by decide +kernel
theorem dX6_passes_83 : decode cX6_passes 83 = .ok (.aload_n 0, 1) := by decide +kernel
theorem dX6_passes_84 : decode cX6_passes 84 = .ok (.getfield 22, 3) := by decide +kernel
theorem dX6_passes_87 : decode cX6_passes 87 = .ok (.bipush 11, 2) := by decide +kernel
theorem dX6_passes_89 : decode cX6_passes 89 = .ok (.iconst 4, 1) := by decide +kernel
theorem dX6_passes_90 : decode cX6_passes 90 = .ok (.iload_n 2, 1) := by decide +kernel
theorem dX6_passes_91 : decode cX6_passes 91 = .ok (.imul, 1) := by decide +kernel
theorem dX6_passes_92 : decode cX6_passes 92 = .ok (.iadd, 1) := by decide +kernel
theorem dX6_passes_93 : decode cX6_passes 93 = .ok (.iload 5, 2) := by decide +kernel
theorem dX6_passes_95 : decode cX6_passes 95 = .ok (.iadd, 1) := by decide +kernel
theorem dX6_passes_96 : decode cX6_passes 96 = .ok (.iconst 1, 1) := by decide +kernel
theorem dX6_passes_97 : decode cX6_passes 97 = .ok (.isub, 1) := by decide +kernel
theorem dX6_passes_98 : decode cX6_passes 98 = .ok (.iaload, 1) := by decide +kernel
theorem dX6_passes_99 : decode cX6_passes 99 = .ok (.iastore, 1) := by decide +kernel
theorem dX6_passes_100 : decode cX6_passes 100 = .ok (.iinc 5 (-1), 3) := by decide +kernel
theorem dX6_passes_103 : decode cX6_passes 103 = .ok (.goto (-38), 3) := by decide +kernel
theorem dX6_passes_106 : decode cX6_passes 106 = .ok (.aload_n 0, 1) := by decide +kernel
theorem dX6_passes_107 : decode cX6_passes 107 = .ok (.getfield 22, 3) := by decide +kernel
theorem dX6_passes_110 : decode cX6_passes 110 = .ok (.bipush 11, 2) := by decide +kernel
theorem dX6_passes_112 : decode cX6_passes 112 = .ok (.iconst 4, 1) := by decide +kernel
theorem dX6_passes_113 : decode cX6_passes 113 = .ok (.iload_n 2, 1) := by decide +kernel
theorem dX6_passes_114 : decode cX6_passes 114 = .ok (.imul, 1) := by decide +kernel
theorem dX6_passes_115 : decode cX6_passes 115 = .ok (.iadd, 1) := by decide +kernel
theorem dX6_passes_116 : decode cX6_passes 116 = .ok (.iload 4, 2) := by decide +kernel
theorem dX6_passes_118 : decode cX6_passes 118 = .ok (.iastore, 1) := by decide +kernel
theorem dX6_passes_119 : decode cX6_passes 119 = .ok (.aload_n 0, 1) := by decide +kernel
theorem dX6_passes_120 : decode cX6_passes 120 = .ok (.getfield 22, 3) := by decide +kernel
theorem dX6_passes_123 : decode cX6_passes 123 = .ok (.iconst 5, 1) := by decide +kernel
theorem dX6_passes_124 : decode cX6_passes 124 = .ok (.iload_n 2, 1) := by decide +kernel
theorem dX6_passes_125 : decode cX6_passes 125 = .ok (.iadd, 1) := by decide +kernel
theorem dX6_passes_126 : decode cX6_passes 126 = .ok (.iload_n 3, 1) := by decide +kernel
theorem dX6_passes_127 : decode cX6_passes 127 = .ok (.iastore, 1) := by decide +kernel
theorem dX6_passes_128 : decode cX6_passes 128 = .ok (.aload_n 0, 1) := by decide +kernel
theorem dX6_passes_129 : decode cX6_passes 129 = .ok (.getfield 22, 3) := by decide +kernel
theorem dX6_passes_132 : decode cX6_passes 132 = .ok (.iconst 1, 1) := by decide +kernel
theorem dX6_passes_133 : decode cX6_passes 133 = .ok (.aload_n 0, 1) := by decide +kernel
theorem dX6_passes_134 : decode cX6_passes 134 = .ok (.getfield 13, 3) := by decide +kernel
theorem dX6_passes_137 : decode cX6_passes 137 = .ok (.bipush 39, 2) := by decide +kernel
theorem dX6_passes_139 : decode cX6_passes 139 = .ok (.iload 4, 2) := by decide +kernel
theorem dX6_passes_141 : decode cX6_passes 141 = .ok (.iadd, 1) := by decide +kernel
theorem dX6_passes_142 : decode cX6_passes 142 = .ok (.iaload, 1) := by decide +kernel
theorem dX6_passes_143 : decode cX6_passes 143 = .ok (.iadd, 1) := by decide +kernel
theorem dX6_passes_144 : decode cX6_passes 144 = .ok (.dup2, 1) := by decide +kernel
theorem dX6_passes_145 : decode cX6_passes 145 = .ok (.iaload, 1) := by decide +kernel
theorem dX6_passes_146 : decode cX6_passes 146 = .ok (.aload_n 0, 1) := by decide +kernel
theorem dX6_passes_147 : decode cX6_passes 147 = .ok (.getfield 13, 3) := by decide +kernel
theorem dX6_passes_150 : decode cX6_passes 150 = .ok (.iconst 3, 1) := by decide +kernel
theorem dX6_passes_151 : decode cX6_passes 151 = .ok (.iload 4, 2) := by decide +kernel
theorem dX6_passes_153 : decode cX6_passes 153 = .ok (.iadd, 1) := by decide +kernel
theorem dX6_passes_154 : decode cX6_passes 154 = .ok (.iaload, 1) := by decide +kernel
theorem dX6_passes_155 : decode cX6_passes 155 = .ok (.iconst 1, 1) := by decide +kernel
theorem dX6_passes_156 : decode cX6_passes 156 = .ok (.if_icmp .ne 7, 3) := by decide +kernel
theorem dX6_passes_159 : decode cX6_passes 159 = .ok (.iconst 1, 1) := by decide +kernel
theorem dX6_passes_160 : decode cX6_passes 160 = .ok (.goto 4, 3) := by decide +kernel
theorem dX6_passes_163 : decode cX6_passes 163 = .ok (.iconst 0, 1) := by decide +kernel
theorem dX6_passes_164 : decode cX6_passes 164 = .ok (.iadd, 1) := by decide +kernel
theorem dX6_passes_165 : decode cX6_passes 165 = .ok (.iastore, 1) := by decide +kernel
theorem dX6_passes_166 : decode cX6_passes 166 = .ok (.iinc 2 1, 3) := by decide +kernel
theorem dX6_passes_169 : decode cX6_passes 169 = .ok (.goto (-167), 3) := by decide +kernel
theorem dX6_passes_172 : decode cX6_passes 172 = .ok (.iconst 0, 1) := by decide +kernel
theorem dX6_passes_173 : decode cX6_passes 173 = .ok (.istore_n 2, 1) := by decide +kernel
theorem dX6_passes_174 : decode cX6_passes 174 = .ok (.iload_n 2, 1) := by decide +kernel
theorem dX6_passes_175 : decode cX6_passes 175 = .ok (.aload_n 0, 1) := by decide +kernel
theorem dX6_passes_176 : decode cX6_passes 176 = .ok (.getfield 13, 3) := by decide +kernel
theorem dX6_passes_179 : decode cX6_passes 179 = .ok (.iconst 2, 1) := by decide +kernel
theorem dX6_passes_180 : decode cX6_passes 180 = .ok (.iaload, 1) := by decide +kernel
theorem dX6_passes_181 : decode cX6_passes 181 = .ok (.if_icmp .ge 90, 3) := by decide +kernel
theorem dX6_passes_184 : decode cX6_passes 184 = .ok (.iconst 0, 1) := by decide +kernel
theorem dX6_passes_185 : decode cX6_passes 185 = .ok (.istore_n 3, 1) := by decide +kernel
theorem dX6_passes_186 : decode cX6_passes 186 = .ok (.iload_n 3, 1) := by decide +kernel
theorem dX6_passes_187 : decode cX6_passes 187 = .ok (.aload_n 0, 1) := by decide +kernel
theorem dX6_passes_188 : decode cX6_passes 188 = .ok (.getfield 22, 3) := by decide +kernel
theorem dX6_passes_191 : decode cX6_passes 191 = .ok (.bipush 8, 2) := by decide +kernel
theorem dX6_passes_193 : decode cX6_passes 193 = .ok (.iload_n 2, 1) := by decide +kernel
theorem dX6_passes_194 : decode cX6_passes 194 = .ok (.iadd, 1) := by decide +kernel
theorem dX6_passes_195 : decode cX6_passes 195 = .ok (.iaload, 1) := by decide +kernel
theorem dX6_passes_196 : decode cX6_passes 196 = .ok (.if_icmp .ge 69, 3) := by decide +kernel
theorem dX6_passes_199 : decode cX6_passes 199 = .ok (.aload_n 0, 1) := by decide +kernel
theorem dX6_passes_200 : decode cX6_passes 200 = .ok (.getfield 22, 3) := by decide +kernel
theorem dX6_passes_203 : decode cX6_passes 203 = .ok (.bipush 11, 2) := by decide +kernel
theorem dX6_passes_205 : decode cX6_passes 205 = .ok (.iconst 4, 1) := by decide +kernel
theorem dX6_passes_206 : decode cX6_passes 206 = .ok (.iload_n 2, 1) := by decide +kernel
theorem dX6_passes_207 : decode cX6_passes 207 = .ok (.imul, 1) := by decide +kernel
theorem dX6_passes_208 : decode cX6_passes 208 = .ok (.iadd, 1) := by decide +kernel
theorem dX6_passes_209 : decode cX6_passes 209 = .ok (.iload_n 3, 1) := by decide +kernel
theorem dX6_passes_210 : decode cX6_passes 210 = .ok (.iadd, 1) := by decide +kernel
theorem dX6_passes_211 : decode cX6_passes 211 = .ok (.iaload, 1) := by decide +kernel
theorem dX6_passes_212 : decode cX6_passes 212 = .ok (.istore 4, 2) := by decide +kernel
theorem dX6_passes_214 : decode cX6_passes 214 = .ok (.aload_n 0, 1) := by decide +kernel
theorem dX6_passes_215 : decode cX6_passes 215 = .ok (.getfield 22, 3) := by decide +kernel
theorem dX6_passes_218 : decode cX6_passes 218 = .ok (.iconst 1, 1) := by decide +kernel
theorem dX6_passes_219 : decode cX6_passes 219 = .ok (.aload_n 0, 1) := by decide +kernel
theorem dX6_passes_220 : decode cX6_passes 220 = .ok (.getfield 13, 3) := by decide +kernel
theorem dX6_passes_223 : decode cX6_passes 223 = .ok (.bipush 39, 2) := by decide +kernel
theorem dX6_passes_225 : decode cX6_passes 225 = .ok (.iload 4, 2) := by decide +kernel
theorem dX6_passes_227 : decode cX6_passes 227 = .ok (.iadd, 1) := by decide +kernel
theorem dX6_passes_228 : decode cX6_passes 228 = .ok (.iaload, 1) := by decide +kernel
theorem dX6_passes_229 : decode cX6_passes 229 = .ok (.iadd, 1) := by decide +kernel
theorem dX6_passes_230 : decode cX6_passes 230 = .ok (.dup2, 1) := by decide +kernel
theorem dX6_passes_231 : decode cX6_passes 231 = .ok (.iaload, 1) := by decide +kernel
theorem dX6_passes_232 : decode cX6_passes 232 = .ok (.aload_n 0, 1) := by decide +kernel
theorem dX6_passes_233 : decode cX6_passes 233 = .ok (.getfield 13, 3) := by decide +kernel
theorem dX6_passes_236 : decode cX6_passes 236 = .ok (.bipush 78, 2) := by decide +kernel
theorem dX6_passes_238 : decode cX6_passes 238 = .ok (.iload_n 2, 1) := by decide +kernel
theorem dX6_passes_239 : decode cX6_passes 239 = .ok (.iadd, 1) := by decide +kernel
theorem dX6_passes_240 : decode cX6_passes 240 = .ok (.iaload, 1) := by decide +kernel
theorem dX6_passes_241 : decode cX6_passes 241 = .ok (.aload_n 0, 1) := by decide +kernel
theorem dX6_passes_242 : decode cX6_passes 242 = .ok (.iload_n 2, 1) := by decide +kernel
theorem dX6_passes_243 : decode cX6_passes 243 = .ok (.iload 4, 2) := by decide +kernel
theorem dX6_passes_245 : decode cX6_passes 245 = .ok (.invokevirtual 132, 3) := by decide +kernel
theorem dX6_passes_248 : decode cX6_passes 248 = .ok (.ifCond .eq 7, 3) := by decide +kernel
theorem dX6_passes_251 : decode cX6_passes 251 = .ok (.iconst 1, 1) := by decide +kernel
theorem dX6_passes_252 : decode cX6_passes 252 = .ok (.goto 4, 3) := by decide +kernel
theorem dX6_passes_255 : decode cX6_passes 255 = .ok (.iconst 0, 1) := by decide +kernel
theorem dX6_passes_256 : decode cX6_passes 256 = .ok (.iadd, 1) := by decide +kernel
theorem dX6_passes_257 : decode cX6_passes 257 = .ok (.iadd, 1) := by decide +kernel
theorem dX6_passes_258 : decode cX6_passes 258 = .ok (.iastore, 1) := by decide +kernel
theorem dX6_passes_259 : decode cX6_passes 259 = .ok (.iinc 3 1, 3) := by decide +kernel
theorem dX6_passes_262 : decode cX6_passes 262 = .ok (.goto (-76), 3) := by decide +kernel
theorem dX6_passes_265 : decode cX6_passes 265 = .ok (.iinc 2 1, 3) := by decide +kernel
theorem dX6_passes_268 : decode cX6_passes 268 = .ok (.goto (-94), 3) := by decide +kernel
theorem dX6_passes_271 : decode cX6_passes 271 = .ok (.aload_n 0, 1) := by decide +kernel
theorem dX6_passes_272 : decode cX6_passes 272 = .ok (.getfield 22, 3) := by decide +kernel
theorem dX6_passes_275 : decode cX6_passes 275 = .ok (.iconst 0, 1) := by decide +kernel
theorem dX6_passes_276 : decode cX6_passes 276 = .ok (.dup2, 1) := by decide +kernel
theorem dX6_passes_277 : decode cX6_passes 277 = .ok (.iaload, 1) := by decide +kernel
theorem dX6_passes_278 : decode cX6_passes 278 = .ok (.iconst 1, 1) := by decide +kernel
theorem dX6_passes_279 : decode cX6_passes 279 = .ok (.iadd, 1) := by decide +kernel
theorem dX6_passes_280 : decode cX6_passes 280 = .ok (.iastore, 1) := by decide +kernel
theorem dX6_passes_281 : decode cX6_passes 281 = .ok (.return_, 1) := by decide +kernel
theorem dX6_keeps_0 : decode cX6_keeps 0 = .ok (.aload_n 0, 1) := by decide +kernel
theorem dX6_keeps_1 : decode cX6_keeps 1 = .ok (.getfield 101, 3) := by decide +kernel
theorem dX6_keeps_4 : decode cX6_keeps 4 = .ok (.bipush 8, 2) := by decide +kernel
theorem dX6_keeps_6 : decode cX6_keeps 6 = .ok (.if_icmp .ne 43, 3) := by decide +kernel
theorem dX6_keeps_9 : decode cX6_keeps 9 = .ok (.iconst 0, 1) := by decide +kernel
theorem dX6_keeps_10 : decode cX6_keeps 10 = .ok (.istore_n 1, 1) := by decide +kernel
theorem dX6_keeps_11 : decode cX6_keeps 11 = .ok (.iload_n 1, 1) := by decide +kernel
theorem dX6_keeps_12 : decode cX6_keeps 12 = .ok (.sipush 413, 3) := by decide +kernel
theorem dX6_keeps_15 : decode cX6_keeps 15 = .ok (.if_icmp .ge 24, 3) := by decide +kernel
theorem dX6_keeps_18 : decode cX6_keeps 18 = .ok (.aload_n 0, 1) := by decide +kernel
theorem dX6_keeps_19 : decode cX6_keeps 19 = .ok (.getfield 25, 3) := by decide +kernel
theorem dX6_keeps_22 : decode cX6_keeps 22 = .ok (.iload_n 1, 1) := by decide +kernel
theorem dX6_keeps_23 : decode cX6_keeps 23 = .ok (.aload_n 0, 1) := by decide +kernel
theorem dX6_keeps_24 : decode cX6_keeps 24 = .ok (.getfield 25, 3) := by decide +kernel
theorem dX6_keeps_27 : decode cX6_keeps 27 = .ok (.iload_n 1, 1) := by decide +kernel
theorem dX6_keeps_28 : decode cX6_keeps 28 = .ok (.bipush 59, 2) := by decide +kernel
theorem dX6_keeps_30 : decode cX6_keeps 30 = .ok (.iadd, 1) := by decide +kernel
theorem dX6_keeps_31 : decode cX6_keeps 31 = .ok (.iaload, 1) := by decide +kernel
theorem dX6_keeps_32 : decode cX6_keeps 32 = .ok (.iastore, 1) := by decide +kernel
theorem dX6_keeps_33 : decode cX6_keeps 33 = .ok (.iinc 1 1, 3) := by decide +kernel
theorem dX6_keeps_36 : decode cX6_keeps 36 = .ok (.goto (-25), 3) := by decide +kernel
theorem dX6_keeps_39 : decode cX6_keeps 39 = .ok (.aload_n 0, 1) := by decide +kernel
theorem dX6_keeps_40 : decode cX6_keeps 40 = .ok (.dup, 1) := by decide +kernel
theorem dX6_keeps_41 : decode cX6_keeps 41 = .ok (.getfield 101, 3) := by decide +kernel
theorem dX6_keeps_44 : decode cX6_keeps 44 = .ok (.iconst 1, 1) := by decide +kernel
theorem dX6_keeps_45 : decode cX6_keeps 45 = .ok (.isub, 1) := by decide +kernel
theorem dX6_keeps_46 : decode cX6_keeps 46 = .ok (.putfield 101, 3) := by decide +kernel
theorem dX6_keeps_49 : decode cX6_keeps 49 = .ok (.iconst 0, 1) := by decide +kernel
theorem dX6_keeps_50 : decode cX6_keeps 50 = .ok (.istore_n 1, 1) := by decide +kernel
theorem dX6_keeps_51 : decode cX6_keeps 51 = .ok (.iload_n 1, 1) := by decide +kernel
theorem dX6_keeps_52 : decode cX6_keeps 52 = .ok (.bipush 59, 2) := by decide +kernel
theorem dX6_keeps_54 : decode cX6_keeps 54 = .ok (.if_icmp .ge 29, 3) := by decide +kernel
theorem dX6_keeps_57 : decode cX6_keeps 57 = .ok (.aload_n 0, 1) := by decide +kernel
theorem dX6_keeps_58 : decode cX6_keeps 58 = .ok (.getfield 25, 3) := by decide +kernel
theorem dX6_keeps_61 : decode cX6_keeps 61 = .ok (.bipush 59, 2) := by decide +kernel
theorem dX6_keeps_63 : decode cX6_keeps 63 = .ok (.aload_n 0, 1) := by decide +kernel
theorem dX6_keeps_64 : decode cX6_keeps 64 = .ok (.getfield 101, 3) := by decide +kernel
theorem dX6_keeps_67 : decode cX6_keeps 67 = .ok (.imul, 1) := by decide +kernel
theorem dX6_keeps_68 : decode cX6_keeps 68 = .ok (.iload_n 1, 1) := by decide +kernel
theorem dX6_keeps_69 : decode cX6_keeps 69 = .ok (.iadd, 1) := by decide +kernel
theorem dX6_keeps_70 : decode cX6_keeps 70 = .ok (.aload_n 0, 1) := by decide +kernel
theorem dX6_keeps_71 : decode cX6_keeps 71 = .ok (.getfield 22, 3) := by decide +kernel
theorem dX6_keeps_74 : decode cX6_keeps 74 = .ok (.iload_n 1, 1) := by decide +kernel
theorem dX6_keeps_75 : decode cX6_keeps 75 = .ok (.iaload, 1) := by decide +kernel
theorem dX6_keeps_76 : decode cX6_keeps 76 = .ok (.iastore, 1) := by decide +kernel
theorem dX6_keeps_77 : decode cX6_keeps 77 = .ok (.iinc 1 1, 3) := by decide +kernel
theorem dX6_keeps_80 : decode cX6_keeps 80 = .ok (.goto (-29), 3) := by decide +kernel
theorem dX6_keeps_83 : decode cX6_keeps 83 = .ok (.aload_n 0, 1) := by decide +kernel
theorem dX6_keeps_84 : decode cX6_keeps 84 = .ok (.dup, 1) := by decide +kernel
theorem dX6_keeps_85 : decode cX6_keeps 85 = .ok (.getfield 101, 3) := by decide +kernel
theorem dX6_keeps_88 : decode cX6_keeps 88 = .ok (.iconst 1, 1) := by decide +kernel
theorem dX6_keeps_89 : decode cX6_keeps 89 = .ok (.iadd, 1) := by decide +kernel
theorem dX6_keeps_90 : decode cX6_keeps 90 = .ok (.putfield 101, 3) := by decide +kernel
theorem dX6_keeps_93 : decode cX6_keeps 93 = .ok (.return_, 1) := by decide +kernel
theorem dX6_pass_0 : decode cX6_pass 0 = .ok (.iload_n 1, 1) := by decide +kernel
theorem dX6_pass_1 : decode cX6_pass 1 = .ok (.iconst 1, 1) := by decide +kernel
theorem dX6_pass_2 : decode cX6_pass 2 = .ok (.bipush 20, 2) := by decide +kernel
theorem dX6_pass_4 : decode cX6_pass 4 = .ok (.invokestatic 54, 3) := by decide +kernel
theorem dX6_pass_7 : decode cX6_pass 7 = .ok (.ifCond .ne 5, 3) := by decide +kernel
theorem dX6_pass_10 : decode cX6_pass 10 = .ok (.iconst (-1), 1) := by decide +kernel
theorem dX6_pass_11 : decode cX6_pass 11 = .ok (.ireturn, 1) := by decide +kernel
theorem dX6_pass_12 : decode cX6_pass 12 = .ok (.aload_n 0, 1) := by decide +kernel
theorem dX6_pass_13 : decode cX6_pass 13 = .ok (.invokevirtual 135, 3) := by decide +kernel
theorem dX6_pass_16 : decode cX6_pass 16 = .ok (.iconst 0, 1) := by decide +kernel
theorem dX6_pass_17 : decode cX6_pass 17 = .ok (.istore_n 2, 1) := by decide +kernel
theorem dX6_pass_18 : decode cX6_pass 18 = .ok (.iload_n 2, 1) := by decide +kernel
theorem dX6_pass_19 : decode cX6_pass 19 = .ok (.iload_n 1, 1) := by decide +kernel
theorem dX6_pass_20 : decode cX6_pass 20 = .ok (.if_icmp .ge 14, 3) := by decide +kernel
theorem dX6_pass_23 : decode cX6_pass 23 = .ok (.aload_n 0, 1) := by decide +kernel
theorem dX6_pass_24 : decode cX6_pass 24 = .ok (.iconst (-1), 1) := by decide +kernel
theorem dX6_pass_25 : decode cX6_pass 25 = .ok (.invokevirtual 138, 3) := by decide +kernel
theorem dX6_pass_28 : decode cX6_pass 28 = .ok (.iinc 2 1, 3) := by decide +kernel
theorem dX6_pass_31 : decode cX6_pass 31 = .ok (.goto (-13), 3) := by decide +kernel
theorem dX6_pass_34 : decode cX6_pass 34 = .ok (.aload_n 0, 1) := by decide +kernel
theorem dX6_pass_35 : decode cX6_pass 35 = .ok (.getfield 22, 3) := by decide +kernel
theorem dX6_pass_38 : decode cX6_pass 38 = .ok (.iconst 0, 1) := by decide +kernel
theorem dX6_pass_39 : decode cX6_pass 39 = .ok (.iaload, 1) := by decide +kernel
theorem dX6_pass_40 : decode cX6_pass 40 = .ok (.ireturn, 1) := by decide +kernel
theorem dX6_countOf_0 : decode cX6_countOf 0 = .ok (.iconst 0, 1) := by decide +kernel
theorem dX6_countOf_1 : decode cX6_countOf 1 = .ok (.istore_n 2, 1) := by decide +kernel
theorem dX6_countOf_2 : decode cX6_countOf 2 = .ok (.iconst 0, 1) := by decide +kernel
theorem dX6_countOf_3 : decode cX6_countOf 3 = .ok (.istore_n 3, 1) := by decide +kernel
theorem dX6_countOf_4 : decode cX6_countOf 4 = .ok (.iload_n 3, 1) := by decide +kernel
theorem dX6_countOf_5 : decode cX6_countOf 5 = .ok (.aload_n 0, 1) := by decide +kernel
theorem dX6_countOf_6 : decode cX6_countOf 6 = .ok (.getfield 13, 3) := by decide +kernel
theorem dX6_countOf_9 : decode cX6_countOf 9 = .ok (.iconst 0, 1) := by decide +kernel
theorem dX6_countOf_10 : decode cX6_countOf 10 = .ok (.iaload, 1) := by decide +kernel
theorem dX6_countOf_11 : decode cX6_countOf 11 = .ok (.if_icmp .ge 26, 3) := by decide +kernel
theorem dX6_countOf_14 : decode cX6_countOf 14 = .ok (.iload_n 2, 1) := by decide +kernel
theorem dX6_countOf_15 : decode cX6_countOf 15 = .ok (.aload_n 0, 1) := by decide +kernel
theorem dX6_countOf_16 : decode cX6_countOf 16 = .ok (.iload_n 3, 1) := by decide +kernel
theorem dX6_countOf_17 : decode cX6_countOf 17 = .ok (.invokevirtual 113, 3) := by decide +kernel
theorem dX6_countOf_20 : decode cX6_countOf 20 = .ok (.iload_n 1, 1) := by decide +kernel
theorem dX6_countOf_21 : decode cX6_countOf 21 = .ok (.if_icmp .ne 7, 3) := by decide +kernel
theorem dX6_countOf_24 : decode cX6_countOf 24 = .ok (.iconst 1, 1) := by decide +kernel
theorem dX6_countOf_25 : decode cX6_countOf 25 = .ok (.goto 4, 3) := by decide +kernel
theorem dX6_countOf_28 : decode cX6_countOf 28 = .ok (.iconst 0, 1) := by decide +kernel
theorem dX6_countOf_29 : decode cX6_countOf 29 = .ok (.iadd, 1) := by decide +kernel
theorem dX6_countOf_30 : decode cX6_countOf 30 = .ok (.istore_n 2, 1) := by decide +kernel
theorem dX6_countOf_31 : decode cX6_countOf 31 = .ok (.iinc 3 1, 3) := by decide +kernel
theorem dX6_countOf_34 : decode cX6_countOf 34 = .ok (.goto (-30), 3) := by decide +kernel
theorem dX6_countOf_37 : decode cX6_countOf 37 = .ok (.iload_n 2, 1) := by decide +kernel
theorem dX6_countOf_38 : decode cX6_countOf 38 = .ok (.ireturn, 1) := by decide +kernel
theorem dX6_mayDig_0 : decode cX6_mayDig 0 = .ok (.aload_n 0, 1) := by decide +kernel
theorem dX6_mayDig_1 : decode cX6_mayDig 1 = .ok (.getfield 13, 3) := by decide +kernel
theorem dX6_mayDig_4 : decode cX6_mayDig 4 = .ok (.iconst 3, 1) := by decide +kernel
theorem dX6_mayDig_5 : decode cX6_mayDig 5 = .ok (.iload_n 1, 1) := by decide +kernel
theorem dX6_mayDig_6 : decode cX6_mayDig 6 = .ok (.iadd, 1) := by decide +kernel
theorem dX6_mayDig_7 : decode cX6_mayDig 7 = .ok (.iaload, 1) := by decide +kernel
theorem dX6_mayDig_8 : decode cX6_mayDig 8 = .ok (.ifCond .ne 25, 3) := by decide +kernel
theorem dX6_mayDig_11 : decode cX6_mayDig 11 = .ok (.aload_n 0, 1) := by decide +kernel
theorem dX6_mayDig_12 : decode cX6_mayDig 12 = .ok (.iload_n 1, 1) := by decide +kernel
theorem dX6_mayDig_13 : decode cX6_mayDig 13 = .ok (.invokevirtual 113, 3) := by decide +kernel
theorem dX6_mayDig_16 : decode cX6_mayDig 16 = .ok (.ifCond .ne 17, 3) := by decide +kernel
theorem dX6_mayDig_19 : decode cX6_mayDig 19 = .ok (.aload_n 0, 1) := by decide +kernel
theorem dX6_mayDig_20 : decode cX6_mayDig 20 = .ok (.iload_n 1, 1) := by decide +kernel
theorem dX6_mayDig_21 : decode cX6_mayDig 21 = .ok (.invokevirtual 116, 3) := by decide +kernel
theorem dX6_mayDig_24 : decode cX6_mayDig 24 = .ok (.bipush (-4), 2) := by decide +kernel
theorem dX6_mayDig_26 : decode cX6_mayDig 26 = .ok (.if_icmp .ne 7, 3) := by decide +kernel
theorem dX6_mayDig_29 : decode cX6_mayDig 29 = .ok (.iconst 1, 1) := by decide +kernel
theorem dX6_mayDig_30 : decode cX6_mayDig 30 = .ok (.goto 4, 3) := by decide +kernel
theorem dX6_mayDig_33 : decode cX6_mayDig 33 = .ok (.iconst 0, 1) := by decide +kernel
theorem dX6_mayDig_34 : decode cX6_mayDig 34 = .ok (.ireturn, 1) := by decide +kernel
theorem dX6_dig_0 : decode cX6_dig 0 = .ok (.aload_n 0, 1) := by decide +kernel
theorem dX6_dig_1 : decode cX6_dig 1 = .ok (.iload_n 1, 1) := by decide +kernel
theorem dX6_dig_2 : decode cX6_dig 2 = .ok (.invokevirtual 110, 3) := by decide +kernel
theorem dX6_dig_5 : decode cX6_dig 5 = .ok (.ifCond .ne 5, 3) := by decide +kernel
theorem dX6_dig_8 : decode cX6_dig 8 = .ok (.iconst (-1), 1) := by decide +kernel
theorem dX6_dig_9 : decode cX6_dig 9 = .ok (.ireturn, 1) := by decide +kernel
theorem dX6_dig_10 : decode cX6_dig 10 = .ok (.aload_n 0, 1) := by decide +kernel
theorem dX6_dig_11 : decode cX6_dig 11 = .ok (.iload_n 1, 1) := by decide +kernel
theorem dX6_dig_12 : decode cX6_dig 12 = .ok (.invokevirtual 141, 3) := by decide +kernel
theorem dX6_dig_15 : decode cX6_dig 15 = .ok (.ifCond .ne 6, 3) := by decide +kernel
theorem dX6_dig_18 : decode cX6_dig 18 = .ok (.bipush (-2), 2) := by decide +kernel
theorem dX6_dig_20 : decode cX6_dig 20 = .ok (.ireturn, 1) := by decide +kernel
theorem dX6_dig_21 : decode cX6_dig 21 = .ok (.aload_n 0, 1) := by decide +kernel
theorem dX6_dig_22 : decode cX6_dig 22 = .ok (.invokevirtual 135, 3) := by decide +kernel
theorem dX6_dig_25 : decode cX6_dig 25 = .ok (.aload_n 0, 1) := by decide +kernel
theorem dX6_dig_26 : decode cX6_dig 26 = .ok (.getfield 22, 3) := by decide +kernel
theorem dX6_dig_29 : decode cX6_dig 29 = .ok (.bipush 23, 2) := by decide +kernel
theorem dX6_dig_31 : decode cX6_dig 31 = .ok (.iload_n 1, 1) := by decide +kernel
theorem dX6_dig_32 : decode cX6_dig 32 = .ok (.iadd, 1) := by decide +kernel
theorem dX6_dig_33 : decode cX6_dig 33 = .ok (.iconst 1, 1) := by decide +kernel
theorem dX6_dig_34 : decode cX6_dig 34 = .ok (.iastore, 1) := by decide +kernel
theorem dX6_dig_35 : decode cX6_dig 35 = .ok (.aload_n 0, 1) := by decide +kernel
theorem dX6_dig_36 : decode cX6_dig 36 = .ok (.iconst 1, 1) := by decide +kernel
theorem dX6_dig_37 : decode cX6_dig 37 = .ok (.invokevirtual 144, 3) := by decide +kernel
theorem dX6_dig_40 : decode cX6_dig 40 = .ok (.ireturn, 1) := by decide +kernel
theorem dX6_fill_0 : decode cX6_fill 0 = .ok (.aload_n 0, 1) := by decide +kernel
theorem dX6_fill_1 : decode cX6_fill 1 = .ok (.iload_n 1, 1) := by decide +kernel
theorem dX6_fill_2 : decode cX6_fill 2 = .ok (.invokevirtual 110, 3) := by decide +kernel
theorem dX6_fill_5 : decode cX6_fill 5 = .ok (.ifCond .ne 5, 3) := by decide +kernel
theorem dX6_fill_8 : decode cX6_fill 8 = .ok (.iconst (-1), 1) := by decide +kernel
theorem dX6_fill_9 : decode cX6_fill 9 = .ok (.ireturn, 1) := by decide +kernel
theorem dX6_fill_10 : decode cX6_fill 10 = .ok (.aload_n 0, 1) := by decide +kernel
theorem dX6_fill_11 : decode cX6_fill 11 = .ok (.iload_n 1, 1) := by decide +kernel
theorem dX6_fill_12 : decode cX6_fill 12 = .ok (.invokevirtual 113, 3) := by decide +kernel
theorem dX6_fill_15 : decode cX6_fill 15 = .ok (.iconst 1, 1) := by decide +kernel
theorem dX6_fill_16 : decode cX6_fill 16 = .ok (.if_icmp .eq 6, 3) := by decide +kernel
theorem dX6_fill_19 : decode cX6_fill 19 = .ok (.bipush (-2), 2) := by decide +kernel
theorem dX6_fill_21 : decode cX6_fill 21 = .ok (.ireturn, 1) := by decide +kernel
theorem dX6_fill_22 : decode cX6_fill 22 = .ok (.aload_n 0, 1) := by decide +kernel
theorem dX6_fill_23 : decode cX6_fill 23 = .ok (.invokevirtual 135, 3) := by decide +kernel
theorem dX6_fill_26 : decode cX6_fill 26 = .ok (.aload_n 0, 1) := by decide +kernel
theorem dX6_fill_27 : decode cX6_fill 27 = .ok (.getfield 22, 3) := by decide +kernel
theorem dX6_fill_30 : decode cX6_fill 30 = .ok (.bipush 23, 2) := by decide +kernel
theorem dX6_fill_32 : decode cX6_fill 32 = .ok (.iload_n 1, 1) := by decide +kernel
theorem dX6_fill_33 : decode cX6_fill 33 = .ok (.iadd, 1) := by decide +kernel
theorem dX6_fill_34 : decode cX6_fill 34 = .ok (.iconst 0, 1) := by decide +kernel
theorem dX6_fill_35 : decode cX6_fill 35 = .ok (.iastore, 1) := by decide +kernel
theorem dX6_fill_36 : decode cX6_fill 36 = .ok (.aload_n 0, 1) := by decide +kernel
theorem dX6_fill_37 : decode cX6_fill 37 = .ok (.iconst 1, 1) := by decide +kernel
theorem dX6_fill_38 : decode cX6_fill 38 = .ok (.invokevirtual 144, 3) := by decide +kernel
theorem dX6_fill_41 : decode cX6_fill 41 = .ok (.ireturn, 1) := by decide +kernel
theorem dX6_leaves_0 : decode cX6_leaves 0 = .ok (.aload_n 0, 1) := by decide +kernel
theorem dX6_leaves_1 : decode cX6_leaves 1 = .ok (.getfield 22, 3) := by decide +kernel
theorem dX6_leaves_4 : decode cX6_leaves 4 = .ok (.bipush 8, 2) := by decide +kernel
theorem dX6_leaves_6 : decode cX6_leaves 6 = .ok (.iload_n 1, 1) := by decide +kernel
theorem dX6_leaves_7 : decode cX6_leaves 7 = .ok (.iadd, 1) := by decide +kernel
theorem dX6_leaves_8 : decode cX6_leaves 8 = .ok (.dup2, 1) := by decide +kernel
theorem dX6_leaves_9 : decode cX6_leaves 9 = .ok (.iaload, 1) := by decide +kernel
theorem dX6_leaves_10 : decode cX6_leaves 10 = .ok (.iconst 1, 1) := by decide +kernel
theorem dX6_leaves_11 : decode cX6_leaves 11 = .ok (.isub, 1) := by decide +kernel
theorem dX6_leaves_12 : decode cX6_leaves 12 = .ok (.iastore, 1) := by decide +kernel
theorem dX6_leaves_13 : decode cX6_leaves 13 = .ok (.aload_n 0, 1) := by decide +kernel
theorem dX6_leaves_14 : decode cX6_leaves 14 = .ok (.getfield 22, 3) := by decide +kernel
theorem dX6_leaves_17 : decode cX6_leaves 17 = .ok (.bipush 11, 2) := by decide +kernel
theorem dX6_leaves_19 : decode cX6_leaves 19 = .ok (.iconst 4, 1) := by decide +kernel
theorem dX6_leaves_20 : decode cX6_leaves 20 = .ok (.iload_n 1, 1) := by decide +kernel
theorem dX6_leaves_21 : decode cX6_leaves 21 = .ok (.imul, 1) := by decide +kernel
theorem dX6_leaves_22 : decode cX6_leaves 22 = .ok (.iadd, 1) := by decide +kernel
theorem dX6_leaves_23 : decode cX6_leaves 23 = .ok (.aload_n 0, 1) := by decide +kernel
theorem dX6_leaves_24 : decode cX6_leaves 24 = .ok (.getfield 22, 3) := by decide +kernel
theorem dX6_leaves_27 : decode cX6_leaves 27 = .ok (.bipush 8, 2) := by decide +kernel
theorem dX6_leaves_29 : decode cX6_leaves 29 = .ok (.iload_n 1, 1) := by decide +kernel
theorem dX6_leaves_30 : decode cX6_leaves 30 = .ok (.iadd, 1) := by decide +kernel
theorem dX6_leaves_31 : decode cX6_leaves 31 = .ok (.iaload, 1) := by decide +kernel
theorem dX6_leaves_32 : decode cX6_leaves 32 = .ok (.iadd, 1) := by decide +kernel
theorem dX6_leaves_33 : decode cX6_leaves 33 = .ok (.iaload, 1) := by decide +kernel
theorem dX6_leaves_34 : decode cX6_leaves 34 = .ok (.istore_n 2, 1) := by decide +kernel
theorem dX6_leaves_35 : decode cX6_leaves 35 = .ok (.aload_n 0, 1) := by decide +kernel
theorem dX6_leaves_36 : decode cX6_leaves 36 = .ok (.getfield 22, 3) := by decide +kernel
theorem dX6_leaves_39 : decode cX6_leaves 39 = .ok (.bipush 23, 2) := by decide +kernel
theorem dX6_leaves_41 : decode cX6_leaves 41 = .ok (.iload_n 2, 1) := by decide +kernel
theorem dX6_leaves_42 : decode cX6_leaves 42 = .ok (.iadd, 1) := by decide +kernel
theorem dX6_leaves_43 : decode cX6_leaves 43 = .ok (.iconst 2, 1) := by decide +kernel
theorem dX6_leaves_44 : decode cX6_leaves 44 = .ok (.iastore, 1) := by decide +kernel
theorem dX6_leaves_45 : decode cX6_leaves 45 = .ok (.iload_n 2, 1) := by decide +kernel
theorem dX6_leaves_46 : decode cX6_leaves 46 = .ok (.ireturn, 1) := by decide +kernel
theorem dX6_leave_0 : decode cX6_leave 0 = .ok (.aload_n 0, 1) := by decide +kernel
theorem dX6_leave_1 : decode cX6_leave 1 = .ok (.iload_n 1, 1) := by decide +kernel
theorem dX6_leave_2 : decode cX6_leave 2 = .ok (.invokevirtual 126, 3) := by decide +kernel
theorem dX6_leave_5 : decode cX6_leave 5 = .ok (.ifCond .ne 5, 3) := by decide +kernel
theorem dX6_leave_8 : decode cX6_leave 8 = .ok (.iconst (-1), 1) := by decide +kernel
theorem dX6_leave_9 : decode cX6_leave 9 = .ok (.ireturn, 1) := by decide +kernel
theorem dX6_leave_10 : decode cX6_leave 10 = .ok (.aload_n 0, 1) := by decide +kernel
theorem dX6_leave_11 : decode cX6_leave 11 = .ok (.getfield 22, 3) := by decide +kernel
theorem dX6_leave_14 : decode cX6_leave 14 = .ok (.bipush 8, 2) := by decide +kernel
theorem dX6_leave_16 : decode cX6_leave 16 = .ok (.iload_n 1, 1) := by decide +kernel
theorem dX6_leave_17 : decode cX6_leave 17 = .ok (.iadd, 1) := by decide +kernel
theorem dX6_leave_18 : decode cX6_leave 18 = .ok (.iaload, 1) := by decide +kernel
theorem dX6_leave_19 : decode cX6_leave 19 = .ok (.iconst 1, 1) := by decide +kernel
theorem dX6_leave_20 : decode cX6_leave 20 = .ok (.if_icmp .ne 6, 3) := by decide +kernel
theorem dX6_leave_23 : decode cX6_leave 23 = .ok (.bipush (-2), 2) := by decide +kernel
theorem dX6_leave_25 : decode cX6_leave 25 = .ok (.ireturn, 1) := by decide +kernel
theorem dX6_leave_26 : decode cX6_leave 26 = .ok (.aload_n 0, 1) := by decide +kernel
theorem dX6_leave_27 : decode cX6_leave 27 = .ok (.invokevirtual 135, 3) := by decide +kernel
theorem dX6_leave_30 : decode cX6_leave 30 = .ok (.aload_n 0, 1) := by decide +kernel
theorem dX6_leave_31 : decode cX6_leave 31 = .ok (.iload_n 1, 1) := by decide +kernel
theorem dX6_leave_32 : decode cX6_leave 32 = .ok (.invokevirtual 147, 3) := by decide +kernel
theorem dX6_leave_35 : decode cX6_leave 35 = .ok (.ireturn, 1) := by decide +kernel
theorem dX6_undo_0 : decode cX6_undo 0 = .ok (.aload_n 0, 1) := by decide +kernel
theorem dX6_undo_1 : decode cX6_undo 1 = .ok (.getfield 101, 3) := by decide +kernel
theorem dX6_undo_4 : decode cX6_undo 4 = .ok (.ifCond .ne 6, 3) := by decide +kernel
theorem dX6_undo_7 : decode cX6_undo 7 = .ok (.bipush (-2), 2) := by decide +kernel
theorem dX6_undo_9 : decode cX6_undo 9 = .ok (.ireturn, 1) := by decide +kernel
theorem dX6_undo_10 : decode cX6_undo 10 = .ok (.aload_n 0, 1) := by decide +kernel
theorem dX6_undo_11 : decode cX6_undo 11 = .ok (.dup, 1) := by decide +kernel
theorem dX6_undo_12 : decode cX6_undo 12 = .ok (.getfield 101, 3) := by decide +kernel
theorem dX6_undo_15 : decode cX6_undo 15 = .ok (.iconst 1, 1) := by decide +kernel
theorem dX6_undo_16 : decode cX6_undo 16 = .ok (.isub, 1) := by decide +kernel
theorem dX6_undo_17 : decode cX6_undo 17 = .ok (.putfield 101, 3) := by decide +kernel
theorem dX6_undo_20 : decode cX6_undo 20 = .ok (.iconst 0, 1) := by decide +kernel
theorem dX6_undo_21 : decode cX6_undo 21 = .ok (.istore_n 1, 1) := by decide +kernel
theorem dX6_undo_22 : decode cX6_undo 22 = .ok (.iload_n 1, 1) := by decide +kernel
theorem dX6_undo_23 : decode cX6_undo 23 = .ok (.bipush 59, 2) := by decide +kernel
theorem dX6_undo_25 : decode cX6_undo 25 = .ok (.if_icmp .ge 29, 3) := by decide +kernel
theorem dX6_undo_28 : decode cX6_undo 28 = .ok (.aload_n 0, 1) := by decide +kernel
theorem dX6_undo_29 : decode cX6_undo 29 = .ok (.getfield 22, 3) := by decide +kernel
theorem dX6_undo_32 : decode cX6_undo 32 = .ok (.iload_n 1, 1) := by decide +kernel
theorem dX6_undo_33 : decode cX6_undo 33 = .ok (.aload_n 0, 1) := by decide +kernel
theorem dX6_undo_34 : decode cX6_undo 34 = .ok (.getfield 25, 3) := by decide +kernel
theorem dX6_undo_37 : decode cX6_undo 37 = .ok (.bipush 59, 2) := by decide +kernel
theorem dX6_undo_39 : decode cX6_undo 39 = .ok (.aload_n 0, 1) := by decide +kernel
theorem dX6_undo_40 : decode cX6_undo 40 = .ok (.getfield 101, 3) := by decide +kernel
theorem dX6_undo_43 : decode cX6_undo 43 = .ok (.imul, 1) := by decide +kernel
theorem dX6_undo_44 : decode cX6_undo 44 = .ok (.iload_n 1, 1) := by decide +kernel
theorem dX6_undo_45 : decode cX6_undo 45 = .ok (.iadd, 1) := by decide +kernel
theorem dX6_undo_46 : decode cX6_undo 46 = .ok (.iaload, 1) := by decide +kernel
theorem dX6_undo_47 : decode cX6_undo 47 = .ok (.iastore, 1) := by decide +kernel
theorem dX6_undo_48 : decode cX6_undo 48 = .ok (.iinc 1 1, 3) := by decide +kernel
theorem dX6_undo_51 : decode cX6_undo 51 = .ok (.goto (-29), 3) := by decide +kernel
theorem dX6_undo_54 : decode cX6_undo 54 = .ok (.aload_n 0, 1) := by decide +kernel
theorem dX6_undo_55 : decode cX6_undo 55 = .ok (.getfield 101, 3) := by decide +kernel
theorem dX6_undo_58 : decode cX6_undo 58 = .ok (.ireturn, 1) := by decide +kernel
theorem dX6_holds_0 : decode cX6_holds 0 = .ok (.iconst 0, 1) := by decide +kernel
theorem dX6_holds_1 : decode cX6_holds 1 = .ok (.istore_n 1, 1) := by decide +kernel
theorem dX6_holds_2 : decode cX6_holds 2 = .ok (.iload_n 1, 1) := by decide +kernel
theorem dX6_holds_3 : decode cX6_holds 3 = .ok (.bipush 59, 2) := by decide +kernel
theorem dX6_holds_5 : decode cX6_holds 5 = .ok (.if_icmp .ge 21, 3) := by decide +kernel
theorem dX6_holds_8 : decode cX6_holds 8 = .ok (.aload_n 0, 1) := by decide +kernel
theorem dX6_holds_9 : decode cX6_holds 9 = .ok (.getfield 34, 3) := by decide +kernel
theorem dX6_holds_12 : decode cX6_holds 12 = .ok (.iload_n 1, 1) := by decide +kernel
theorem dX6_holds_13 : decode cX6_holds 13 = .ok (.aload_n 0, 1) := by decide +kernel
theorem dX6_holds_14 : decode cX6_holds 14 = .ok (.getfield 22, 3) := by decide +kernel
theorem dX6_holds_17 : decode cX6_holds 17 = .ok (.iload_n 1, 1) := by decide +kernel
theorem dX6_holds_18 : decode cX6_holds 18 = .ok (.iaload, 1) := by decide +kernel
theorem dX6_holds_19 : decode cX6_holds 19 = .ok (.iastore, 1) := by decide +kernel
theorem dX6_holds_20 : decode cX6_holds 20 = .ok (.iinc 1 1, 3) := by decide +kernel
theorem dX6_holds_23 : decode cX6_holds 23 = .ok (.goto (-21), 3) := by decide +kernel
theorem dX6_holds_26 : decode cX6_holds 26 = .ok (.return_, 1) := by decide +kernel
theorem dX6_lets_0 : decode cX6_lets 0 = .ok (.iconst 0, 1) := by decide +kernel
theorem dX6_lets_1 : decode cX6_lets 1 = .ok (.istore_n 1, 1) := by decide +kernel
theorem dX6_lets_2 : decode cX6_lets 2 = .ok (.iload_n 1, 1) := by decide +kernel
theorem dX6_lets_3 : decode cX6_lets 3 = .ok (.bipush 59, 2) := by decide +kernel
theorem dX6_lets_5 : decode cX6_lets 5 = .ok (.if_icmp .ge 21, 3) := by decide +kernel
theorem dX6_lets_8 : decode cX6_lets 8 = .ok (.aload_n 0, 1) := by decide +kernel
theorem dX6_lets_9 : decode cX6_lets 9 = .ok (.getfield 22, 3) := by decide +kernel
theorem dX6_lets_12 : decode cX6_lets 12 = .ok (.iload_n 1, 1) := by decide +kernel
theorem dX6_lets_13 : decode cX6_lets 13 = .ok (.aload_n 0, 1) := by decide +kernel
theorem dX6_lets_14 : decode cX6_lets 14 = .ok (.getfield 34, 3) := by decide +kernel
theorem dX6_lets_17 : decode cX6_lets 17 = .ok (.iload_n 1, 1) := by decide +kernel
theorem dX6_lets_18 : decode cX6_lets 18 = .ok (.iaload, 1) := by decide +kernel
theorem dX6_lets_19 : decode cX6_lets 19 = .ok (.iastore, 1) := by decide +kernel
theorem dX6_lets_20 : decode cX6_lets 20 = .ok (.iinc 1 1, 3) := by decide +kernel
theorem dX6_lets_23 : decode cX6_lets 23 = .ok (.goto (-21), 3) := by decide +kernel
theorem dX6_lets_26 : decode cX6_lets 26 = .ok (.return_, 1) := by decide +kernel
theorem dX6_behindOf_0 : decode cX6_behindOf 0 = .ok (.aload_n 0, 1) := by decide +kernel
theorem dX6_behindOf_1 : decode cX6_behindOf 1 = .ok (.invokevirtual 150, 3) := by decide +kernel
theorem dX6_behindOf_4 : decode cX6_behindOf 4 = .ok (.iconst 0, 1) := by decide +kernel
theorem dX6_behindOf_5 : decode cX6_behindOf 5 = .ok (.istore_n 3, 1) := by decide +kernel
theorem dX6_behindOf_6 : decode cX6_behindOf 6 = .ok (.iload_n 3, 1) := by decide +kernel
theorem dX6_behindOf_7 : decode cX6_behindOf 7 = .ok (.iload_n 1, 1) := by decide +kernel
theorem dX6_behindOf_8 : decode cX6_behindOf 8 = .ok (.if_icmp .ge 14, 3) := by decide +kernel
theorem dX6_behindOf_11 : decode cX6_behindOf 11 = .ok (.aload_n 0, 1) := by decide +kernel
theorem dX6_behindOf_12 : decode cX6_behindOf 12 = .ok (.iconst (-1), 1) := by decide +kernel
theorem dX6_behindOf_13 : decode cX6_behindOf 13 = .ok (.invokevirtual 138, 3) := by decide +kernel
theorem dX6_behindOf_16 : decode cX6_behindOf 16 = .ok (.iinc 3 1, 3) := by decide +kernel
theorem dX6_behindOf_19 : decode cX6_behindOf 19 = .ok (.goto (-13), 3) := by decide +kernel
theorem dX6_behindOf_22 : decode cX6_behindOf 22 = .ok (.aload_n 0, 1) := by decide +kernel
theorem dX6_behindOf_23 : decode cX6_behindOf 23 = .ok (.getfield 22, 3) := by decide +kernel
theorem dX6_behindOf_26 : decode cX6_behindOf 26 = .ok (.iload_n 2, 1) := by decide +kernel
theorem dX6_behindOf_27 : decode cX6_behindOf 27 = .ok (.iaload, 1) := by decide +kernel
theorem dX6_behindOf_28 : decode cX6_behindOf 28 = .ok (.istore_n 3, 1) := by decide +kernel
theorem dX6_behindOf_29 : decode cX6_behindOf 29 = .ok (.aload_n 0, 1) := by decide +kernel
theorem dX6_behindOf_30 : decode cX6_behindOf 30 = .ok (.invokevirtual 153, 3) := by decide +kernel
theorem dX6_behindOf_33 : decode cX6_behindOf 33 = .ok (.iload_n 3, 1) := by decide +kernel
theorem dX6_behindOf_34 : decode cX6_behindOf 34 = .ok (.ireturn, 1) := by decide +kernel
theorem dX6_behind_0 : decode cX6_behind 0 = .ok (.iload_n 1, 1) := by decide +kernel
theorem dX6_behind_1 : decode cX6_behind 1 = .ok (.iconst 0, 1) := by decide +kernel
theorem dX6_behind_2 : decode cX6_behind 2 = .ok (.bipush 60, 2) := by decide +kernel
theorem dX6_behind_4 : decode cX6_behind 4 = .ok (.invokestatic 54, 3) := by decide +kernel
theorem dX6_behind_7 : decode cX6_behind 7 = .ok (.ifCond .eq 25, 3) := by decide +kernel
theorem dX6_behind_10 : decode cX6_behind 10 = .ok (.aload_n 0, 1) := by decide +kernel
theorem dX6_behind_11 : decode cX6_behind 11 = .ok (.iload_n 2, 1) := by decide +kernel
theorem dX6_behind_12 : decode cX6_behind 12 = .ok (.invokevirtual 126, 3) := by decide +kernel
theorem dX6_behind_15 : decode cX6_behind 15 = .ok (.ifCond .eq 17, 3) := by decide +kernel
theorem dX6_behind_18 : decode cX6_behind 18 = .ok (.aload_n 0, 1) := by decide +kernel
theorem dX6_behind_19 : decode cX6_behind 19 = .ok (.iload_n 1, 1) := by decide +kernel
theorem dX6_behind_20 : decode cX6_behind 20 = .ok (.bipush 11, 2) := by decide +kernel
theorem dX6_behind_22 : decode cX6_behind 22 = .ok (.iconst 4, 1) := by decide +kernel
theorem dX6_behind_23 : decode cX6_behind 23 = .ok (.iload_n 2, 1) := by decide +kernel
theorem dX6_behind_24 : decode cX6_behind 24 = .ok (.imul, 1) := by decide +kernel
theorem dX6_behind_25 : decode cX6_behind 25 = .ok (.iadd, 1) := by decide +kernel
theorem dX6_behind_26 : decode cX6_behind 26 = .ok (.invokevirtual 156, 3) := by decide +kernel
theorem dX6_behind_29 : decode cX6_behind 29 = .ok (.goto 4, 3) := by decide +kernel
theorem dX6_behind_32 : decode cX6_behind 32 = .ok (.iconst (-1), 1) := by decide +kernel
theorem dX6_behind_33 : decode cX6_behind 33 = .ok (.ireturn, 1) := by decide +kernel
theorem dX6_wealth_0 : decode cX6_wealth 0 = .ok (.iload_n 1, 1) := by decide +kernel
theorem dX6_wealth_1 : decode cX6_wealth 1 = .ok (.iconst 0, 1) := by decide +kernel
theorem dX6_wealth_2 : decode cX6_wealth 2 = .ok (.bipush 60, 2) := by decide +kernel
theorem dX6_wealth_4 : decode cX6_wealth 4 = .ok (.invokestatic 54, 3) := by decide +kernel
theorem dX6_wealth_7 : decode cX6_wealth 7 = .ok (.ifCond .eq 23, 3) := by decide +kernel
theorem dX6_wealth_10 : decode cX6_wealth 10 = .ok (.iload_n 2, 1) := by decide +kernel
theorem dX6_wealth_11 : decode cX6_wealth 11 = .ok (.iconst 0, 1) := by decide +kernel
theorem dX6_wealth_12 : decode cX6_wealth 12 = .ok (.iconst 3, 1) := by decide +kernel
theorem dX6_wealth_13 : decode cX6_wealth 13 = .ok (.invokestatic 54, 3) := by decide +kernel
theorem dX6_wealth_16 : decode cX6_wealth 16 = .ok (.ifCond .eq 14, 3) := by decide +kernel
theorem dX6_wealth_19 : decode cX6_wealth 19 = .ok (.aload_n 0, 1) := by decide +kernel
theorem dX6_wealth_20 : decode cX6_wealth 20 = .ok (.iload_n 1, 1) := by decide +kernel
theorem dX6_wealth_21 : decode cX6_wealth 21 = .ok (.iconst 1, 1) := by decide +kernel
theorem dX6_wealth_22 : decode cX6_wealth 22 = .ok (.iload_n 2, 1) := by decide +kernel
theorem dX6_wealth_23 : decode cX6_wealth 23 = .ok (.iadd, 1) := by decide +kernel
theorem dX6_wealth_24 : decode cX6_wealth 24 = .ok (.invokevirtual 156, 3) := by decide +kernel
theorem dX6_wealth_27 : decode cX6_wealth 27 = .ok (.goto 4, 3) := by decide +kernel
theorem dX6_wealth_30 : decode cX6_wealth 30 = .ok (.iconst (-1), 1) := by decide +kernel
theorem dX6_wealth_31 : decode cX6_wealth 31 = .ok (.ireturn, 1) := by decide +kernel
theorem dX6_comes_0 : decode cX6_comes 0 = .ok (.aload_n 0, 1) := by decide +kernel
theorem dX6_comes_1 : decode cX6_comes 1 = .ok (.iload_n 1, 1) := by decide +kernel
theorem dX6_comes_2 : decode cX6_comes 2 = .ok (.invokevirtual 126, 3) := by decide +kernel
theorem dX6_comes_5 : decode cX6_comes 5 = .ok (.ifCond .eq 11, 3) := by decide +kernel
theorem dX6_comes_8 : decode cX6_comes 8 = .ok (.aload_n 0, 1) := by decide +kernel
theorem dX6_comes_9 : decode cX6_comes 9 = .ok (.iload_n 2, 1) := by decide +kernel
theorem dX6_comes_10 : decode cX6_comes 10 = .ok (.invokevirtual 110, 3) := by decide +kernel
theorem dX6_comes_13 : decode cX6_comes 13 = .ok (.ifCond .ne 5, 3) := by decide +kernel
theorem dX6_comes_16 : decode cX6_comes 16 = .ok (.iconst (-1), 1) := by decide +kernel
theorem dX6_comes_17 : decode cX6_comes 17 = .ok (.ireturn, 1) := by decide +kernel
theorem dX6_comes_18 : decode cX6_comes 18 = .ok (.aload_n 0, 1) := by decide +kernel
theorem dX6_comes_19 : decode cX6_comes 19 = .ok (.invokevirtual 150, 3) := by decide +kernel
theorem dX6_comes_22 : decode cX6_comes 22 = .ok (.iconst 0, 1) := by decide +kernel
theorem dX6_comes_23 : decode cX6_comes 23 = .ok (.istore_n 3, 1) := by decide +kernel
theorem dX6_comes_24 : decode cX6_comes 24 = .ok (.iload_n 3, 1) := by decide +kernel
theorem dX6_comes_25 : decode cX6_comes 25 = .ok (.bipush 60, 2) := by decide +kernel
theorem dX6_comes_27 : decode cX6_comes 27 = .ok (.if_icmp .gt 29, 3) := by decide +kernel
theorem dX6_comes_30 : decode cX6_comes 30 = .ok (.aload_n 0, 1) := by decide +kernel
theorem dX6_comes_31 : decode cX6_comes 31 = .ok (.getfield 22, 3) := by decide +kernel
theorem dX6_comes_34 : decode cX6_comes 34 = .ok (.bipush 11, 2) := by decide +kernel
theorem dX6_comes_36 : decode cX6_comes 36 = .ok (.iconst 4, 1) := by decide +kernel
theorem dX6_comes_37 : decode cX6_comes 37 = .ok (.iload_n 1, 1) := by decide +kernel
theorem dX6_comes_38 : decode cX6_comes 38 = .ok (.imul, 1) := by decide +kernel
theorem dX6_comes_39 : decode cX6_comes 39 = .ok (.iadd, 1) := by decide +kernel
theorem dX6_comes_40 : decode cX6_comes 40 = .ok (.iaload, 1) := by decide +kernel
theorem dX6_comes_41 : decode cX6_comes 41 = .ok (.iload_n 2, 1) := by decide +kernel
theorem dX6_comes_42 : decode cX6_comes 42 = .ok (.if_icmp .eq 14, 3) := by decide +kernel
theorem dX6_comes_45 : decode cX6_comes 45 = .ok (.aload_n 0, 1) := by decide +kernel
theorem dX6_comes_46 : decode cX6_comes 46 = .ok (.iconst (-1), 1) := by decide +kernel
theorem dX6_comes_47 : decode cX6_comes 47 = .ok (.invokevirtual 138, 3) := by decide +kernel
theorem dX6_comes_50 : decode cX6_comes 50 = .ok (.iinc 3 1, 3) := by decide +kernel
theorem dX6_comes_53 : decode cX6_comes 53 = .ok (.goto (-29), 3) := by decide +kernel
theorem dX6_comes_56 : decode cX6_comes 56 = .ok (.aload_n 0, 1) := by decide +kernel
theorem dX6_comes_57 : decode cX6_comes 57 = .ok (.invokevirtual 153, 3) := by decide +kernel
theorem dX6_comes_60 : decode cX6_comes 60 = .ok (.iload_n 3, 1) := by decide +kernel
theorem dX6_comes_61 : decode cX6_comes 61 = .ok (.bipush 60, 2) := by decide +kernel
theorem dX6_comes_63 : decode cX6_comes 63 = .ok (.if_icmp .le 8, 3) := by decide +kernel
theorem dX6_comes_66 : decode cX6_comes 66 = .ok (.bipush (-4), 2) := by decide +kernel
theorem dX6_comes_68 : decode cX6_comes 68 = .ok (.goto 4, 3) := by decide +kernel
theorem dX6_comes_71 : decode cX6_comes 71 = .ok (.iload_n 3, 1) := by decide +kernel
theorem dX6_comes_72 : decode cX6_comes 72 = .ok (.ireturn, 1) := by decide +kernel
theorem dX6_areBeside_0 : decode cX6_areBeside 0 = .ok (.iconst 0, 1) := by decide +kernel
theorem dX6_areBeside_1 : decode cX6_areBeside 1 = .ok (.istore_n 3, 1) := by decide +kernel
theorem dX6_areBeside_2 : decode cX6_areBeside 2 = .ok (.iconst 0, 1) := by decide +kernel
theorem dX6_areBeside_3 : decode cX6_areBeside 3 = .ok (.istore 4, 2) := by decide +kernel
theorem dX6_areBeside_5 : decode cX6_areBeside 5 = .ok (.iload 4, 2) := by decide +kernel
theorem dX6_areBeside_7 : decode cX6_areBeside 7 = .ok (.aload_n 0, 1) := by decide +kernel
theorem dX6_areBeside_8 : decode cX6_areBeside 8 = .ok (.getfield 22, 3) := by decide +kernel
theorem dX6_areBeside_11 : decode cX6_areBeside 11 = .ok (.bipush 8, 2) := by decide +kernel
theorem dX6_areBeside_13 : decode cX6_areBeside 13 = .ok (.iload_n 1, 1) := by decide +kernel
theorem dX6_areBeside_14 : decode cX6_areBeside 14 = .ok (.iadd, 1) := by decide +kernel
theorem dX6_areBeside_15 : decode cX6_areBeside 15 = .ok (.iaload, 1) := by decide +kernel
theorem dX6_areBeside_16 : decode cX6_areBeside 16 = .ok (.if_icmp .ge 73, 3) := by decide +kernel
theorem dX6_areBeside_19 : decode cX6_areBeside 19 = .ok (.iconst 0, 1) := by decide +kernel
theorem dX6_areBeside_20 : decode cX6_areBeside 20 = .ok (.istore 5, 2) := by decide +kernel
theorem dX6_areBeside_22 : decode cX6_areBeside 22 = .ok (.iload 5, 2) := by decide +kernel
theorem dX6_areBeside_24 : decode cX6_areBeside 24 = .ok (.iconst 4, 1) := by decide +kernel
theorem dX6_areBeside_25 : decode cX6_areBeside 25 = .ok (.if_icmp .ge 58, 3) := by decide +kernel
theorem dX6_areBeside_28 : decode cX6_areBeside 28 = .ok (.aload_n 0, 1) := by decide +kernel
theorem dX6_areBeside_29 : decode cX6_areBeside 29 = .ok (.aload_n 0, 1) := by decide +kernel
theorem dX6_areBeside_30 : decode cX6_areBeside 30 = .ok (.getfield 22, 3) := by decide +kernel
theorem dX6_areBeside_33 : decode cX6_areBeside 33 = .ok (.bipush 11, 2) := by decide +kernel
theorem dX6_areBeside_35 : decode cX6_areBeside 35 = .ok (.iconst 4, 1) := by decide +kernel
theorem dX6_areBeside_36 : decode cX6_areBeside 36 = .ok (.iload_n 1, 1) := by decide +kernel
theorem dX6_areBeside_37 : decode cX6_areBeside 37 = .ok (.imul, 1) := by decide +kernel
theorem dX6_areBeside_38 : decode cX6_areBeside 38 = .ok (.iadd, 1) := by decide +kernel
theorem dX6_areBeside_39 : decode cX6_areBeside 39 = .ok (.iload 4, 2) := by decide +kernel
theorem dX6_areBeside_41 : decode cX6_areBeside 41 = .ok (.iadd, 1) := by decide +kernel
theorem dX6_areBeside_42 : decode cX6_areBeside 42 = .ok (.iaload, 1) := by decide +kernel
theorem dX6_areBeside_43 : decode cX6_areBeside 43 = .ok (.iload 5, 2) := by decide +kernel
theorem dX6_areBeside_45 : decode cX6_areBeside 45 = .ok (.invokevirtual 119, 3) := by decide +kernel
theorem dX6_areBeside_48 : decode cX6_areBeside 48 = .ok (.istore 6, 2) := by decide +kernel
theorem dX6_areBeside_50 : decode cX6_areBeside 50 = .ok (.iload_n 3, 1) := by decide +kernel
theorem dX6_areBeside_51 : decode cX6_areBeside 51 = .ok (.ifCond .ne 20, 3) := by decide +kernel
theorem dX6_areBeside_54 : decode cX6_areBeside 54 = .ok (.iload 6, 2) := by decide +kernel
theorem dX6_areBeside_56 : decode cX6_areBeside 56 = .ok (.bipush (-4), 2) := by decide +kernel
theorem dX6_areBeside_58 : decode cX6_areBeside 58 = .ok (.if_icmp .eq 17, 3) := by decide +kernel
theorem dX6_areBeside_61 : decode cX6_areBeside 61 = .ok (.aload_n 0, 1) := by decide +kernel
theorem dX6_areBeside_62 : decode cX6_areBeside 62 = .ok (.iload 6, 2) := by decide +kernel
theorem dX6_areBeside_64 : decode cX6_areBeside 64 = .ok (.invokevirtual 116, 3) := by decide +kernel
theorem dX6_areBeside_67 : decode cX6_areBeside 67 = .ok (.iload_n 2, 1) := by decide +kernel
theorem dX6_areBeside_68 : decode cX6_areBeside 68 = .ok (.if_icmp .ne 7, 3) := by decide +kernel
theorem dX6_areBeside_71 : decode cX6_areBeside 71 = .ok (.iconst 1, 1) := by decide +kernel
theorem dX6_areBeside_72 : decode cX6_areBeside 72 = .ok (.goto 4, 3) := by decide +kernel
theorem dX6_areBeside_75 : decode cX6_areBeside 75 = .ok (.iconst 0, 1) := by decide +kernel
theorem dX6_areBeside_76 : decode cX6_areBeside 76 = .ok (.istore_n 3, 1) := by decide +kernel
theorem dX6_areBeside_77 : decode cX6_areBeside 77 = .ok (.iinc 5 1, 3) := by decide +kernel
theorem dX6_areBeside_80 : decode cX6_areBeside 80 = .ok (.goto (-58), 3) := by decide +kernel
theorem dX6_areBeside_83 : decode cX6_areBeside 83 = .ok (.iinc 4 1, 3) := by decide +kernel
theorem dX6_areBeside_86 : decode cX6_areBeside 86 = .ok (.goto (-81), 3) := by decide +kernel
theorem dX6_areBeside_89 : decode cX6_areBeside 89 = .ok (.iload_n 3, 1) := by decide +kernel
theorem dX6_areBeside_90 : decode cX6_areBeside 90 = .ok (.ireturn, 1) := by decide +kernel
theorem dX6_meet_0 : decode cX6_meet 0 = .ok (.aload_n 0, 1) := by decide +kernel
theorem dX6_meet_1 : decode cX6_meet 1 = .ok (.iload_n 1, 1) := by decide +kernel
theorem dX6_meet_2 : decode cX6_meet 2 = .ok (.invokevirtual 126, 3) := by decide +kernel
theorem dX6_meet_5 : decode cX6_meet 5 = .ok (.ifCond .eq 16, 3) := by decide +kernel
theorem dX6_meet_8 : decode cX6_meet 8 = .ok (.aload_n 0, 1) := by decide +kernel
theorem dX6_meet_9 : decode cX6_meet 9 = .ok (.iload_n 2, 1) := by decide +kernel
theorem dX6_meet_10 : decode cX6_meet 10 = .ok (.invokevirtual 126, 3) := by decide +kernel
theorem dX6_meet_13 : decode cX6_meet 13 = .ok (.ifCond .eq 8, 3) := by decide +kernel
theorem dX6_meet_16 : decode cX6_meet 16 = .ok (.iload_n 1, 1) := by decide +kernel
theorem dX6_meet_17 : decode cX6_meet 17 = .ok (.iload_n 2, 1) := by decide +kernel
theorem dX6_meet_18 : decode cX6_meet 18 = .ok (.if_icmp .ne 5, 3) := by decide +kernel
theorem dX6_meet_21 : decode cX6_meet 21 = .ok (.iconst (-1), 1) := by decide +kernel
theorem dX6_meet_22 : decode cX6_meet 22 = .ok (.ireturn, 1) := by decide +kernel
theorem dX6_meet_23 : decode cX6_meet 23 = .ok (.aload_n 0, 1) := by decide +kernel
theorem dX6_meet_24 : decode cX6_meet 24 = .ok (.invokevirtual 150, 3) := by decide +kernel
theorem dX6_meet_27 : decode cX6_meet 27 = .ok (.iconst 0, 1) := by decide +kernel
theorem dX6_meet_28 : decode cX6_meet 28 = .ok (.istore_n 3, 1) := by decide +kernel
theorem dX6_meet_29 : decode cX6_meet 29 = .ok (.iload_n 3, 1) := by decide +kernel
theorem dX6_meet_30 : decode cX6_meet 30 = .ok (.bipush 60, 2) := by decide +kernel
theorem dX6_meet_32 : decode cX6_meet 32 = .ok (.if_icmp .gt 23, 3) := by decide +kernel
theorem dX6_meet_35 : decode cX6_meet 35 = .ok (.aload_n 0, 1) := by decide +kernel
theorem dX6_meet_36 : decode cX6_meet 36 = .ok (.iload_n 1, 1) := by decide +kernel
theorem dX6_meet_37 : decode cX6_meet 37 = .ok (.iload_n 2, 1) := by decide +kernel
theorem dX6_meet_38 : decode cX6_meet 38 = .ok (.invokevirtual 159, 3) := by decide +kernel
theorem dX6_meet_41 : decode cX6_meet 41 = .ok (.ifCond .ne 14, 3) := by decide +kernel
theorem dX6_meet_44 : decode cX6_meet 44 = .ok (.aload_n 0, 1) := by decide +kernel
theorem dX6_meet_45 : decode cX6_meet 45 = .ok (.iconst (-1), 1) := by decide +kernel
theorem dX6_meet_46 : decode cX6_meet 46 = .ok (.invokevirtual 138, 3) := by decide +kernel
theorem dX6_meet_49 : decode cX6_meet 49 = .ok (.iinc 3 1, 3) := by decide +kernel
theorem dX6_meet_52 : decode cX6_meet 52 = .ok (.goto (-23), 3) := by decide +kernel
theorem dX6_meet_55 : decode cX6_meet 55 = .ok (.aload_n 0, 1) := by decide +kernel
theorem dX6_meet_56 : decode cX6_meet 56 = .ok (.invokevirtual 153, 3) := by decide +kernel
theorem dX6_meet_59 : decode cX6_meet 59 = .ok (.iload_n 3, 1) := by decide +kernel
theorem dX6_meet_60 : decode cX6_meet 60 = .ok (.bipush 60, 2) := by decide +kernel
theorem dX6_meet_62 : decode cX6_meet 62 = .ok (.if_icmp .le 8, 3) := by decide +kernel
theorem dX6_meet_65 : decode cX6_meet 65 = .ok (.bipush (-4), 2) := by decide +kernel
theorem dX6_meet_67 : decode cX6_meet 67 = .ok (.goto 4, 3) := by decide +kernel
theorem dX6_meet_70 : decode cX6_meet 70 = .ok (.iload_n 3, 1) := by decide +kernel
theorem dX6_meet_71 : decode cX6_meet 71 = .ok (.ireturn, 1) := by decide +kernel
theorem dX6_isAgain_0 : decode cX6_isAgain 0 = .ok (.iconst 1, 1) := by decide +kernel
theorem dX6_isAgain_1 : decode cX6_isAgain 1 = .ok (.istore_n 1, 1) := by decide +kernel
theorem dX6_isAgain_2 : decode cX6_isAgain 2 = .ok (.iconst 0, 1) := by decide +kernel
theorem dX6_isAgain_3 : decode cX6_isAgain 3 = .ok (.istore_n 2, 1) := by decide +kernel
theorem dX6_isAgain_4 : decode cX6_isAgain 4 = .ok (.iconst 0, 1) := by decide +kernel
theorem dX6_isAgain_5 : decode cX6_isAgain 5 = .ok (.istore_n 3, 1) := by decide +kernel
theorem dX6_isAgain_6 : decode cX6_isAgain 6 = .ok (.iload_n 3, 1) := by decide +kernel
theorem dX6_isAgain_7 : decode cX6_isAgain 7 = .ok (.aload_n 0, 1) := by decide +kernel
theorem dX6_isAgain_8 : decode cX6_isAgain 8 = .ok (.getfield 13, 3) := by decide +kernel
theorem dX6_isAgain_11 : decode cX6_isAgain 11 = .ok (.iconst 2, 1) := by decide +kernel
theorem dX6_isAgain_12 : decode cX6_isAgain 12 = .ok (.iaload, 1) := by decide +kernel
theorem dX6_isAgain_13 : decode cX6_isAgain 13 = .ok (.if_icmp .ge 125, 3) := by decide +kernel
theorem dX6_isAgain_16 : decode cX6_isAgain 16 = .ok (.iload_n 1, 1) := by decide +kernel
theorem dX6_isAgain_17 : decode cX6_isAgain 17 = .ok (.ifCond .eq 26, 3) := by decide +kernel
theorem dX6_isAgain_20 : decode cX6_isAgain 20 = .ok (.aload_n 0, 1) := by decide +kernel
theorem dX6_isAgain_21 : decode cX6_isAgain 21 = .ok (.getfield 22, 3) := by decide +kernel
theorem dX6_isAgain_24 : decode cX6_isAgain 24 = .ok (.iconst 5, 1) := by decide +kernel
theorem dX6_isAgain_25 : decode cX6_isAgain 25 = .ok (.iload_n 3, 1) := by decide +kernel
theorem dX6_isAgain_26 : decode cX6_isAgain 26 = .ok (.iadd, 1) := by decide +kernel
theorem dX6_isAgain_27 : decode cX6_isAgain 27 = .ok (.iaload, 1) := by decide +kernel
theorem dX6_isAgain_28 : decode cX6_isAgain 28 = .ok (.aload_n 0, 1) := by decide +kernel
theorem dX6_isAgain_29 : decode cX6_isAgain 29 = .ok (.getfield 34, 3) := by decide +kernel
theorem dX6_isAgain_32 : decode cX6_isAgain 32 = .ok (.iconst 5, 1) := by decide +kernel
theorem dX6_isAgain_33 : decode cX6_isAgain 33 = .ok (.iload_n 3, 1) := by decide +kernel
theorem dX6_isAgain_34 : decode cX6_isAgain 34 = .ok (.iadd, 1) := by decide +kernel
theorem dX6_isAgain_35 : decode cX6_isAgain 35 = .ok (.iaload, 1) := by decide +kernel
theorem dX6_isAgain_36 : decode cX6_isAgain 36 = .ok (.if_icmp .ne 7, 3) := by decide +kernel
theorem dX6_isAgain_39 : decode cX6_isAgain 39 = .ok (.iconst 1, 1) := by decide +kernel
theorem dX6_isAgain_40 : decode cX6_isAgain 40 = .ok (.goto 4, 3) := by decide +kernel
theorem dX6_isAgain_43 : decode cX6_isAgain 43 = .ok (.iconst 0, 1) := by decide +kernel
theorem dX6_isAgain_44 : decode cX6_isAgain 44 = .ok (.istore_n 1, 1) := by decide +kernel
theorem dX6_isAgain_45 : decode cX6_isAgain 45 = .ok (.iload_n 2, 1) := by decide +kernel
theorem dX6_isAgain_46 : decode cX6_isAgain 46 = .ok (.ifCond .ne 16, 3) := by decide +kernel
theorem dX6_isAgain_49 : decode cX6_isAgain 49 = .ok (.aload_n 0, 1) := by decide +kernel
theorem dX6_isAgain_50 : decode cX6_isAgain 50 = .ok (.getfield 13, 3) := by decide +kernel
theorem dX6_isAgain_53 : decode cX6_isAgain 53 = .ok (.bipush 75, 2) := by decide +kernel
theorem dX6_isAgain_55 : decode cX6_isAgain 55 = .ok (.iload_n 3, 1) := by decide +kernel
theorem dX6_isAgain_56 : decode cX6_isAgain 56 = .ok (.iadd, 1) := by decide +kernel
theorem dX6_isAgain_57 : decode cX6_isAgain 57 = .ok (.iaload, 1) := by decide +kernel
theorem dX6_isAgain_58 : decode cX6_isAgain 58 = .ok (.iconst 2, 1) := by decide +kernel
theorem dX6_isAgain_59 : decode cX6_isAgain 59 = .ok (.if_icmp .ne 7, 3) := by decide +kernel
theorem dX6_isAgain_62 : decode cX6_isAgain 62 = .ok (.iconst 1, 1) := by decide +kernel
theorem dX6_isAgain_63 : decode cX6_isAgain 63 = .ok (.goto 4, 3) := by decide +kernel
theorem dX6_isAgain_66 : decode cX6_isAgain 66 = .ok (.iconst 0, 1) := by decide +kernel
theorem dX6_isAgain_67 : decode cX6_isAgain 67 = .ok (.istore_n 2, 1) := by decide +kernel
theorem dX6_isAgain_68 : decode cX6_isAgain 68 = .ok (.iconst 0, 1) := by decide +kernel
theorem dX6_isAgain_69 : decode cX6_isAgain 69 = .ok (.istore 4, 2) := by decide +kernel
theorem dX6_isAgain_71 : decode cX6_isAgain 71 = .ok (.iload 4, 2) := by decide +kernel
theorem dX6_isAgain_73 : decode cX6_isAgain 73 = .ok (.aload_n 0, 1) := by decide +kernel
theorem dX6_isAgain_74 : decode cX6_isAgain 74 = .ok (.getfield 22, 3) := by decide +kernel
theorem dX6_isAgain_77 : decode cX6_isAgain 77 = .ok (.bipush 8, 2) := by decide +kernel
theorem dX6_isAgain_79 : decode cX6_isAgain 79 = .ok (.iload_n 3, 1) := by decide +kernel
theorem dX6_isAgain_80 : decode cX6_isAgain 80 = .ok (.iadd, 1) := by decide +kernel
theorem dX6_isAgain_81 : decode cX6_isAgain 81 = .ok (.iaload, 1) := by decide +kernel
theorem dX6_isAgain_82 : decode cX6_isAgain 82 = .ok (.if_icmp .ge 50, 3) := by decide +kernel
theorem dX6_isAgain_85 : decode cX6_isAgain 85 = .ok (.iload_n 1, 1) := by decide +kernel
theorem dX6_isAgain_86 : decode cX6_isAgain 86 = .ok (.ifCond .eq 38, 3) := by decide +kernel
theorem dX6_isAgain_89 : decode cX6_isAgain 89 = .ok (.aload_n 0, 1) := by decide +kernel
theorem dX6_isAgain_90 : decode cX6_isAgain 90 = .ok (.getfield 22, 3) := by decide +kernel
theorem dX6_isAgain_93 : decode cX6_isAgain 93 = .ok (.bipush 11, 2) := by decide +kernel
theorem dX6_isAgain_95 : decode cX6_isAgain 95 = .ok (.iconst 4, 1) := by decide +kernel
theorem dX6_isAgain_96 : decode cX6_isAgain 96 = .ok (.iload_n 3, 1) := by decide +kernel
theorem dX6_isAgain_97 : decode cX6_isAgain 97 = .ok (.imul, 1) := by decide +kernel
theorem dX6_isAgain_98 : decode cX6_isAgain 98 = .ok (.iadd, 1) := by decide +kernel
theorem dX6_isAgain_99 : decode cX6_isAgain 99 = .ok (.iload 4, 2) := by decide +kernel
theorem dX6_isAgain_101 : decode cX6_isAgain 101 = .ok (.iadd, 1) := by decide +kernel
theorem dX6_isAgain_102 : decode cX6_isAgain 102 = .ok (.iaload, 1) := by decide +kernel
theorem dX6_isAgain_103 : decode cX6_isAgain 103 = .ok (.aload_n 0, 1) := by decide +kernel
theorem dX6_isAgain_104 : decode cX6_isAgain 104 = .ok (.getfield 34, 3) := by decide +kernel
theorem dX6_isAgain_107 : decode cX6_isAgain 107 = .ok (.bipush 11, 2) := by decide +kernel
theorem dX6_isAgain_109 : decode cX6_isAgain 109 = .ok (.iconst 4, 1) := by decide +kernel
theorem dX6_isAgain_110 : decode cX6_isAgain 110 = .ok (.iload_n 3, 1) := by decide +kernel
theorem dX6_isAgain_111 : decode cX6_isAgain 111 = .ok (.imul, 1) := by decide +kernel
theorem dX6_isAgain_112 : decode cX6_isAgain 112 = .ok (.iadd, 1) := by decide +kernel
theorem dX6_isAgain_113 : decode cX6_isAgain 113 = .ok (.iload 4, 2) := by decide +kernel
theorem dX6_isAgain_115 : decode cX6_isAgain 115 = .ok (.iadd, 1) := by decide +kernel
theorem dX6_isAgain_116 : decode cX6_isAgain 116 = .ok (.iaload, 1) := by decide +kernel
theorem dX6_isAgain_117 : decode cX6_isAgain 117 = .ok (.if_icmp .ne 7, 3) := by decide +kernel
theorem dX6_isAgain_120 : decode cX6_isAgain 120 = .ok (.iconst 1, 1) := by decide +kernel
theorem dX6_isAgain_121 : decode cX6_isAgain 121 = .ok (.goto 4, 3) := by decide +kernel
theorem dX6_isAgain_124 : decode cX6_isAgain 124 = .ok (.iconst 0, 1) := by decide +kernel
theorem dX6_isAgain_125 : decode cX6_isAgain 125 = .ok (.istore_n 1, 1) := by decide +kernel
theorem dX6_isAgain_126 : decode cX6_isAgain 126 = .ok (.iinc 4 1, 3) := by decide +kernel
theorem dX6_isAgain_129 : decode cX6_isAgain 129 = .ok (.goto (-58), 3) := by decide +kernel
theorem dX6_isAgain_132 : decode cX6_isAgain 132 = .ok (.iinc 3 1, 3) := by decide +kernel
theorem dX6_isAgain_135 : decode cX6_isAgain 135 = .ok (.goto (-129), 3) := by decide +kernel
theorem dX6_isAgain_138 : decode cX6_isAgain 138 = .ok (.iload_n 1, 1) := by decide +kernel
theorem dX6_isAgain_139 : decode cX6_isAgain 139 = .ok (.ifCond .eq 29, 3) := by decide +kernel
theorem dX6_isAgain_142 : decode cX6_isAgain 142 = .ok (.iload_n 2, 1) := by decide +kernel
theorem dX6_isAgain_143 : decode cX6_isAgain 143 = .ok (.ifCond .eq 21, 3) := by decide +kernel
theorem dX6_isAgain_146 : decode cX6_isAgain 146 = .ok (.aload_n 0, 1) := by decide +kernel
theorem dX6_isAgain_147 : decode cX6_isAgain 147 = .ok (.getfield 22, 3) := by decide +kernel
theorem dX6_isAgain_150 : decode cX6_isAgain 150 = .ok (.iconst 0, 1) := by decide +kernel
theorem dX6_isAgain_151 : decode cX6_isAgain 151 = .ok (.iaload, 1) := by decide +kernel
theorem dX6_isAgain_152 : decode cX6_isAgain 152 = .ok (.aload_n 0, 1) := by decide +kernel
theorem dX6_isAgain_153 : decode cX6_isAgain 153 = .ok (.getfield 34, 3) := by decide +kernel
theorem dX6_isAgain_156 : decode cX6_isAgain 156 = .ok (.iconst 0, 1) := by decide +kernel
theorem dX6_isAgain_157 : decode cX6_isAgain 157 = .ok (.iaload, 1) := by decide +kernel
theorem dX6_isAgain_158 : decode cX6_isAgain 158 = .ok (.isub, 1) := by decide +kernel
theorem dX6_isAgain_159 : decode cX6_isAgain 159 = .ok (.iconst 2, 1) := by decide +kernel
theorem dX6_isAgain_160 : decode cX6_isAgain 160 = .ok (.irem, 1) := by decide +kernel
theorem dX6_isAgain_161 : decode cX6_isAgain 161 = .ok (.ifCond .ne 7, 3) := by decide +kernel
theorem dX6_isAgain_164 : decode cX6_isAgain 164 = .ok (.iconst 1, 1) := by decide +kernel
theorem dX6_isAgain_165 : decode cX6_isAgain 165 = .ok (.goto 4, 3) := by decide +kernel
theorem dX6_isAgain_168 : decode cX6_isAgain 168 = .ok (.iconst 0, 1) := by decide +kernel
theorem dX6_isAgain_169 : decode cX6_isAgain 169 = .ok (.ireturn, 1) := by decide +kernel
theorem dX6_again_0 : decode cX6_again 0 = .ok (.aload_n 0, 1) := by decide +kernel
theorem dX6_again_1 : decode cX6_again 1 = .ok (.invokevirtual 150, 3) := by decide +kernel
theorem dX6_again_4 : decode cX6_again 4 = .ok (.iconst 1, 1) := by decide +kernel
theorem dX6_again_5 : decode cX6_again 5 = .ok (.istore_n 1, 1) := by decide +kernel
theorem dX6_again_6 : decode cX6_again 6 = .ok (.aload_n 0, 1) := by decide +kernel
theorem dX6_again_7 : decode cX6_again 7 = .ok (.iconst (-1), 1) := by decide +kernel
theorem dX6_again_8 : decode cX6_again 8 = .ok (.invokevirtual 138, 3) := by decide +kernel
theorem dX6_again_11 : decode cX6_again 11 = .ok (.iload_n 1, 1) := by decide +kernel
theorem dX6_again_12 : decode cX6_again 12 = .ok (.sipush 200, 3) := by decide +kernel
theorem dX6_again_15 : decode cX6_again 15 = .ok (.if_icmp .gt 21, 3) := by decide +kernel
theorem dX6_again_18 : decode cX6_again 18 = .ok (.aload_n 0, 1) := by decide +kernel
theorem dX6_again_19 : decode cX6_again 19 = .ok (.invokevirtual 162, 3) := by decide +kernel
theorem dX6_again_22 : decode cX6_again 22 = .ok (.ifCond .ne 14, 3) := by decide +kernel
theorem dX6_again_25 : decode cX6_again 25 = .ok (.aload_n 0, 1) := by decide +kernel
theorem dX6_again_26 : decode cX6_again 26 = .ok (.iconst (-1), 1) := by decide +kernel
theorem dX6_again_27 : decode cX6_again 27 = .ok (.invokevirtual 138, 3) := by decide +kernel
theorem dX6_again_30 : decode cX6_again 30 = .ok (.iinc 1 1, 3) := by decide +kernel
theorem dX6_again_33 : decode cX6_again 33 = .ok (.goto (-22), 3) := by decide +kernel
theorem dX6_again_36 : decode cX6_again 36 = .ok (.aload_n 0, 1) := by decide +kernel
theorem dX6_again_37 : decode cX6_again 37 = .ok (.invokevirtual 153, 3) := by decide +kernel
theorem dX6_again_40 : decode cX6_again 40 = .ok (.iload_n 1, 1) := by decide +kernel
theorem dX6_again_41 : decode cX6_again 41 = .ok (.sipush 200, 3) := by decide +kernel
theorem dX6_again_44 : decode cX6_again 44 = .ok (.if_icmp .le 8, 3) := by decide +kernel
theorem dX6_again_47 : decode cX6_again 47 = .ok (.bipush (-4), 2) := by decide +kernel
theorem dX6_again_49 : decode cX6_again 49 = .ok (.goto 4, 3) := by decide +kernel
theorem dX6_again_52 : decode cX6_again 52 = .ok (.iload_n 1, 1) := by decide +kernel
theorem dX6_again_53 : decode cX6_again 53 = .ok (.ireturn, 1) := by decide +kernel
theorem dX6_brings_0 : decode cX6_brings 0 = .ok (.iload 4, 2) := by decide +kernel
theorem dX6_brings_2 : decode cX6_brings 2 = .ok (.ifCond .lt 12, 3) := by decide +kernel
theorem dX6_brings_5 : decode cX6_brings 5 = .ok (.aload_n 0, 1) := by decide +kernel
theorem dX6_brings_6 : decode cX6_brings 6 = .ok (.iload 4, 2) := by decide +kernel
theorem dX6_brings_8 : decode cX6_brings 8 = .ok (.invokevirtual 141, 3) := by decide +kernel
theorem dX6_brings_11 : decode cX6_brings 11 = .ok (.ifCond .eq 17, 3) := by decide +kernel
theorem dX6_brings_14 : decode cX6_brings 14 = .ok (.iload 5, 2) := by decide +kernel
theorem dX6_brings_16 : decode cX6_brings 16 = .ok (.ifCond .lt 14, 3) := by decide +kernel
theorem dX6_brings_19 : decode cX6_brings 19 = .ok (.aload_n 0, 1) := by decide +kernel
theorem dX6_brings_20 : decode cX6_brings 20 = .ok (.iload 5, 2) := by decide +kernel
theorem dX6_brings_22 : decode cX6_brings 22 = .ok (.invokevirtual 141, 3) := by decide +kernel
theorem dX6_brings_25 : decode cX6_brings 25 = .ok (.ifCond .ne 5, 3) := by decide +kernel
theorem dX6_brings_28 : decode cX6_brings 28 = .ok (.iconst 0, 1) := by decide +kernel
theorem dX6_brings_29 : decode cX6_brings 29 = .ok (.ireturn, 1) := by decide +kernel
theorem dX6_brings_30 : decode cX6_brings 30 = .ok (.aload_n 0, 1) := by decide +kernel
theorem dX6_brings_31 : decode cX6_brings 31 = .ok (.getfield 22, 3) := by decide +kernel
theorem dX6_brings_34 : decode cX6_brings 34 = .ok (.bipush 23, 2) := by decide +kernel
theorem dX6_brings_36 : decode cX6_brings 36 = .ok (.iload 4, 2) := by decide +kernel
theorem dX6_brings_38 : decode cX6_brings 38 = .ok (.ifCond .ge 7, 3) := by decide +kernel
theorem dX6_brings_41 : decode cX6_brings 41 = .ok (.iconst 0, 1) := by decide +kernel
theorem dX6_brings_42 : decode cX6_brings 42 = .ok (.goto 5, 3) := by decide +kernel
theorem dX6_brings_45 : decode cX6_brings 45 = .ok (.iload 4, 2) := by decide +kernel
theorem dX6_brings_47 : decode cX6_brings 47 = .ok (.iadd, 1) := by decide +kernel
theorem dX6_brings_48 : decode cX6_brings 48 = .ok (.iload 4, 2) := by decide +kernel
theorem dX6_brings_50 : decode cX6_brings 50 = .ok (.ifCond .ge 11, 3) := by decide +kernel
theorem dX6_brings_53 : decode cX6_brings 53 = .ok (.aload_n 0, 1) := by decide +kernel
theorem dX6_brings_54 : decode cX6_brings 54 = .ok (.iconst 0, 1) := by decide +kernel
theorem dX6_brings_55 : decode cX6_brings 55 = .ok (.invokevirtual 113, 3) := by decide +kernel
theorem dX6_brings_58 : decode cX6_brings 58 = .ok (.goto 4, 3) := by decide +kernel
theorem dX6_brings_61 : decode cX6_brings 61 = .ok (.iconst 1, 1) := by decide +kernel
theorem dX6_brings_62 : decode cX6_brings 62 = .ok (.iastore, 1) := by decide +kernel
theorem dX6_brings_63 : decode cX6_brings 63 = .ok (.aload_n 0, 1) := by decide +kernel
theorem dX6_brings_64 : decode cX6_brings 64 = .ok (.getfield 22, 3) := by decide +kernel
theorem dX6_brings_67 : decode cX6_brings 67 = .ok (.bipush 23, 2) := by decide +kernel
theorem dX6_brings_69 : decode cX6_brings 69 = .ok (.iload 5, 2) := by decide +kernel
theorem dX6_brings_71 : decode cX6_brings 71 = .ok (.ifCond .ge 7, 3) := by decide +kernel
theorem dX6_brings_74 : decode cX6_brings 74 = .ok (.iconst 0, 1) := by decide +kernel
theorem dX6_brings_75 : decode cX6_brings 75 = .ok (.goto 5, 3) := by decide +kernel
theorem dX6_brings_78 : decode cX6_brings 78 = .ok (.iload 5, 2) := by decide +kernel
theorem dX6_brings_80 : decode cX6_brings 80 = .ok (.iadd, 1) := by decide +kernel
theorem dX6_brings_81 : decode cX6_brings 81 = .ok (.iload 5, 2) := by decide +kernel
theorem dX6_brings_83 : decode cX6_brings 83 = .ok (.ifCond .ge 11, 3) := by decide +kernel
theorem dX6_brings_86 : decode cX6_brings 86 = .ok (.aload_n 0, 1) := by decide +kernel
theorem dX6_brings_87 : decode cX6_brings 87 = .ok (.iconst 0, 1) := by decide +kernel
theorem dX6_brings_88 : decode cX6_brings 88 = .ok (.invokevirtual 113, 3) := by decide +kernel
theorem dX6_brings_91 : decode cX6_brings 91 = .ok (.goto 4, 3) := by decide +kernel
theorem dX6_brings_94 : decode cX6_brings 94 = .ok (.iconst 1, 1) := by decide +kernel
theorem dX6_brings_95 : decode cX6_brings 95 = .ok (.iastore, 1) := by decide +kernel
theorem dX6_brings_96 : decode cX6_brings 96 = .ok (.iconst 0, 1) := by decide +kernel
theorem dX6_brings_97 : decode cX6_brings 97 = .ok (.istore 6, 2) := by decide +kernel
theorem dX6_brings_99 : decode cX6_brings 99 = .ok (.iload 6, 2) := by decide +kernel
theorem dX6_brings_101 : decode cX6_brings 101 = .ok (.iload_n 3, 1) := by decide +kernel
theorem dX6_brings_102 : decode cX6_brings 102 = .ok (.if_icmp .ge 14, 3) := by decide +kernel
theorem dX6_brings_105 : decode cX6_brings 105 = .ok (.aload_n 0, 1) := by decide +kernel
theorem dX6_brings_106 : decode cX6_brings 106 = .ok (.iconst (-1), 1) := by decide +kernel
theorem dX6_brings_107 : decode cX6_brings 107 = .ok (.invokevirtual 138, 3) := by decide +kernel
theorem dX6_brings_110 : decode cX6_brings 110 = .ok (.iinc 6 1, 3) := by decide +kernel
theorem dX6_brings_113 : decode cX6_brings 113 = .ok (.goto (-14), 3) := by decide +kernel
theorem dX6_brings_116 : decode cX6_brings 116 = .ok (.aload_n 0, 1) := by decide +kernel
theorem dX6_brings_117 : decode cX6_brings 117 = .ok (.getfield 22, 3) := by decide +kernel
theorem dX6_brings_120 : decode cX6_brings 120 = .ok (.bipush 11, 2) := by decide +kernel
theorem dX6_brings_122 : decode cX6_brings 122 = .ok (.iconst 4, 1) := by decide +kernel
theorem dX6_brings_123 : decode cX6_brings 123 = .ok (.iload_n 1, 1) := by decide +kernel
theorem dX6_brings_124 : decode cX6_brings 124 = .ok (.imul, 1) := by decide +kernel
theorem dX6_brings_125 : decode cX6_brings 125 = .ok (.iadd, 1) := by decide +kernel
theorem dX6_brings_126 : decode cX6_brings 126 = .ok (.iaload, 1) := by decide +kernel
theorem dX6_brings_127 : decode cX6_brings 127 = .ok (.iload_n 2, 1) := by decide +kernel
theorem dX6_brings_128 : decode cX6_brings 128 = .ok (.if_icmp .ne 7, 3) := by decide +kernel
theorem dX6_brings_131 : decode cX6_brings 131 = .ok (.iconst 1, 1) := by decide +kernel
theorem dX6_brings_132 : decode cX6_brings 132 = .ok (.goto 4, 3) := by decide +kernel
theorem dX6_brings_135 : decode cX6_brings 135 = .ok (.iconst 0, 1) := by decide +kernel
theorem dX6_brings_136 : decode cX6_brings 136 = .ok (.istore 6, 2) := by decide +kernel
theorem dX6_brings_138 : decode cX6_brings 138 = .ok (.aload_n 0, 1) := by decide +kernel
theorem dX6_brings_139 : decode cX6_brings 139 = .ok (.invokevirtual 153, 3) := by decide +kernel
theorem dX6_brings_142 : decode cX6_brings 142 = .ok (.iload 6, 2) := by decide +kernel
theorem dX6_brings_144 : decode cX6_brings 144 = .ok (.ireturn, 1) := by decide +kernel
theorem dX6_ditches_0 : decode cX6_ditches 0 = .ok (.aload_n 0, 1) := by decide +kernel
theorem dX6_ditches_1 : decode cX6_ditches 1 = .ok (.iload_n 1, 1) := by decide +kernel
theorem dX6_ditches_2 : decode cX6_ditches 2 = .ok (.invokevirtual 126, 3) := by decide +kernel
theorem dX6_ditches_5 : decode cX6_ditches 5 = .ok (.ifCond .eq 31, 3) := by decide +kernel
theorem dX6_ditches_8 : decode cX6_ditches 8 = .ok (.aload_n 0, 1) := by decide +kernel
theorem dX6_ditches_9 : decode cX6_ditches 9 = .ok (.iload_n 2, 1) := by decide +kernel
theorem dX6_ditches_10 : decode cX6_ditches 10 = .ok (.invokevirtual 110, 3) := by decide +kernel
theorem dX6_ditches_13 : decode cX6_ditches 13 = .ok (.ifCond .eq 23, 3) := by decide +kernel
theorem dX6_ditches_16 : decode cX6_ditches 16 = .ok (.iload_n 3, 1) := by decide +kernel
theorem dX6_ditches_17 : decode cX6_ditches 17 = .ok (.iconst 1, 1) := by decide +kernel
theorem dX6_ditches_18 : decode cX6_ditches 18 = .ok (.bipush 20, 2) := by decide +kernel
end
section
theorem dX6_ditches_20 : decode cX6_ditches 20 = .ok (.invokestatic 54, 3) := by decide +kernel
theorem dX6_ditches_23 : decode cX6_ditches 23 = .ok (.ifCond .eq 13, 3) := by decide +kernel
theorem dX6_ditches_26 : decode cX6_ditches 26 = .ok (.iload 4, 2) := by decide +kernel
theorem dX6_ditches_28 : decode cX6_ditches 28 = .ok (.iconst (-1), 1) := by decide +kernel
theorem dX6_ditches_29 : decode cX6_ditches 29 = .ok (.iconst 1, 1) := by decide +kernel
theorem dX6_ditches_30 : decode cX6_ditches 30 = .ok (.invokestatic 54, 3) := by decide +kernel
theorem dX6_ditches_33 : decode cX6_ditches 33 = .ok (.ifCond .ne 5, 3) := by decide +kernel
theorem dX6_ditches_36 : decode cX6_ditches 36 = .ok (.iconst (-1), 1) := by decide +kernel
theorem dX6_ditches_37 : decode cX6_ditches 37 = .ok (.ireturn, 1) := by decide +kernel
theorem dX6_ditches_38 : decode cX6_ditches 38 = .ok (.aload_n 0, 1) := by decide +kernel
theorem dX6_ditches_39 : decode cX6_ditches 39 = .ok (.invokevirtual 150, 3) := by decide +kernel
theorem dX6_ditches_42 : decode cX6_ditches 42 = .ok (.aload_n 0, 1) := by decide +kernel
theorem dX6_ditches_43 : decode cX6_ditches 43 = .ok (.iload_n 1, 1) := by decide +kernel
theorem dX6_ditches_44 : decode cX6_ditches 44 = .ok (.iload_n 2, 1) := by decide +kernel
theorem dX6_ditches_45 : decode cX6_ditches 45 = .ok (.iload_n 3, 1) := by decide +kernel
theorem dX6_ditches_46 : decode cX6_ditches 46 = .ok (.iconst (-1), 1) := by decide +kernel
theorem dX6_ditches_47 : decode cX6_ditches 47 = .ok (.iconst (-1), 1) := by decide +kernel
theorem dX6_ditches_48 : decode cX6_ditches 48 = .ok (.invokevirtual 165, 3) := by decide +kernel
theorem dX6_ditches_51 : decode cX6_ditches 51 = .ok (.ifCond .eq 16, 3) := by decide +kernel
theorem dX6_ditches_54 : decode cX6_ditches 54 = .ok (.iload 4, 2) := by decide +kernel
theorem dX6_ditches_56 : decode cX6_ditches 56 = .ok (.iconst (-1), 1) := by decide +kernel
theorem dX6_ditches_57 : decode cX6_ditches 57 = .ok (.if_icmp .ne 7, 3) := by decide +kernel
theorem dX6_ditches_60 : decode cX6_ditches 60 = .ok (.iconst 0, 1) := by decide +kernel
theorem dX6_ditches_61 : decode cX6_ditches 61 = .ok (.goto 5, 3) := by decide +kernel
theorem dX6_ditches_64 : decode cX6_ditches 64 = .ok (.bipush (-4), 2) := by decide +kernel
theorem dX6_ditches_66 : decode cX6_ditches 66 = .ok (.ireturn, 1) := by decide +kernel
theorem dX6_ditches_67 : decode cX6_ditches 67 = .ok (.iconst 0, 1) := by decide +kernel
theorem dX6_ditches_68 : decode cX6_ditches 68 = .ok (.istore 5, 2) := by decide +kernel
theorem dX6_ditches_70 : decode cX6_ditches 70 = .ok (.iload 5, 2) := by decide +kernel
theorem dX6_ditches_72 : decode cX6_ditches 72 = .ok (.aload_n 0, 1) := by decide +kernel
theorem dX6_ditches_73 : decode cX6_ditches 73 = .ok (.getfield 13, 3) := by decide +kernel
theorem dX6_ditches_76 : decode cX6_ditches 76 = .ok (.iconst 0, 1) := by decide +kernel
theorem dX6_ditches_77 : decode cX6_ditches 77 = .ok (.iaload, 1) := by decide +kernel
theorem dX6_ditches_78 : decode cX6_ditches 78 = .ok (.if_icmp .ge 45, 3) := by decide +kernel
theorem dX6_ditches_81 : decode cX6_ditches 81 = .ok (.aload_n 0, 1) := by decide +kernel
theorem dX6_ditches_82 : decode cX6_ditches 82 = .ok (.iload_n 1, 1) := by decide +kernel
theorem dX6_ditches_83 : decode cX6_ditches 83 = .ok (.iload_n 2, 1) := by decide +kernel
theorem dX6_ditches_84 : decode cX6_ditches 84 = .ok (.iload_n 3, 1) := by decide +kernel
theorem dX6_ditches_85 : decode cX6_ditches 85 = .ok (.iload 5, 2) := by decide +kernel
theorem dX6_ditches_87 : decode cX6_ditches 87 = .ok (.iconst (-1), 1) := by decide +kernel
theorem dX6_ditches_88 : decode cX6_ditches 88 = .ok (.invokevirtual 165, 3) := by decide +kernel
theorem dX6_ditches_91 : decode cX6_ditches 91 = .ok (.ifCond .eq 26, 3) := by decide +kernel
theorem dX6_ditches_94 : decode cX6_ditches 94 = .ok (.iload 4, 2) := by decide +kernel
theorem dX6_ditches_96 : decode cX6_ditches 96 = .ok (.iconst (-1), 1) := by decide +kernel
theorem dX6_ditches_97 : decode cX6_ditches 97 = .ok (.if_icmp .ne 7, 3) := by decide +kernel
theorem dX6_ditches_100 : decode cX6_ditches 100 = .ok (.iconst 1, 1) := by decide +kernel
theorem dX6_ditches_101 : decode cX6_ditches 101 = .ok (.goto 15, 3) := by decide +kernel
theorem dX6_ditches_104 : decode cX6_ditches 104 = .ok (.iload 4, 2) := by decide +kernel
theorem dX6_ditches_106 : decode cX6_ditches 106 = .ok (.ifCond .ne 8, 3) := by decide +kernel
theorem dX6_ditches_109 : decode cX6_ditches 109 = .ok (.iload 5, 2) := by decide +kernel
theorem dX6_ditches_111 : decode cX6_ditches 111 = .ok (.goto 5, 3) := by decide +kernel
theorem dX6_ditches_114 : decode cX6_ditches 114 = .ok (.bipush (-4), 2) := by decide +kernel
theorem dX6_ditches_116 : decode cX6_ditches 116 = .ok (.ireturn, 1) := by decide +kernel
theorem dX6_ditches_117 : decode cX6_ditches 117 = .ok (.iinc 5 1, 3) := by decide +kernel
theorem dX6_ditches_120 : decode cX6_ditches 120 = .ok (.goto (-50), 3) := by decide +kernel
theorem dX6_ditches_123 : decode cX6_ditches 123 = .ok (.iconst 0, 1) := by decide +kernel
theorem dX6_ditches_124 : decode cX6_ditches 124 = .ok (.istore 5, 2) := by decide +kernel
theorem dX6_ditches_126 : decode cX6_ditches 126 = .ok (.iload 5, 2) := by decide +kernel
theorem dX6_ditches_128 : decode cX6_ditches 128 = .ok (.aload_n 0, 1) := by decide +kernel
theorem dX6_ditches_129 : decode cX6_ditches 129 = .ok (.getfield 13, 3) := by decide +kernel
theorem dX6_ditches_132 : decode cX6_ditches 132 = .ok (.iconst 0, 1) := by decide +kernel
theorem dX6_ditches_133 : decode cX6_ditches 133 = .ok (.iaload, 1) := by decide +kernel
theorem dX6_ditches_134 : decode cX6_ditches 134 = .ok (.if_icmp .ge 69, 3) := by decide +kernel
theorem dX6_ditches_137 : decode cX6_ditches 137 = .ok (.iload 5, 2) := by decide +kernel
theorem dX6_ditches_139 : decode cX6_ditches 139 = .ok (.iconst 1, 1) := by decide +kernel
theorem dX6_ditches_140 : decode cX6_ditches 140 = .ok (.iadd, 1) := by decide +kernel
theorem dX6_ditches_141 : decode cX6_ditches 141 = .ok (.istore 6, 2) := by decide +kernel
theorem dX6_ditches_143 : decode cX6_ditches 143 = .ok (.iload 6, 2) := by decide +kernel
theorem dX6_ditches_145 : decode cX6_ditches 145 = .ok (.aload_n 0, 1) := by decide +kernel
theorem dX6_ditches_146 : decode cX6_ditches 146 = .ok (.getfield 13, 3) := by decide +kernel
theorem dX6_ditches_149 : decode cX6_ditches 149 = .ok (.iconst 0, 1) := by decide +kernel
theorem dX6_ditches_150 : decode cX6_ditches 150 = .ok (.iaload, 1) := by decide +kernel
theorem dX6_ditches_151 : decode cX6_ditches 151 = .ok (.if_icmp .ge 46, 3) := by decide +kernel
theorem dX6_ditches_154 : decode cX6_ditches 154 = .ok (.aload_n 0, 1) := by decide +kernel
theorem dX6_ditches_155 : decode cX6_ditches 155 = .ok (.iload_n 1, 1) := by decide +kernel
theorem dX6_ditches_156 : decode cX6_ditches 156 = .ok (.iload_n 2, 1) := by decide +kernel
theorem dX6_ditches_157 : decode cX6_ditches 157 = .ok (.iload_n 3, 1) := by decide +kernel
theorem dX6_ditches_158 : decode cX6_ditches 158 = .ok (.iload 5, 2) := by decide +kernel
theorem dX6_ditches_160 : decode cX6_ditches 160 = .ok (.iload 6, 2) := by decide +kernel
theorem dX6_ditches_162 : decode cX6_ditches 162 = .ok (.invokevirtual 165, 3) := by decide +kernel
theorem dX6_ditches_165 : decode cX6_ditches 165 = .ok (.ifCond .eq 26, 3) := by decide +kernel
theorem dX6_ditches_168 : decode cX6_ditches 168 = .ok (.iload 4, 2) := by decide +kernel
theorem dX6_ditches_170 : decode cX6_ditches 170 = .ok (.iconst (-1), 1) := by decide +kernel
theorem dX6_ditches_171 : decode cX6_ditches 171 = .ok (.if_icmp .ne 7, 3) := by decide +kernel
theorem dX6_ditches_174 : decode cX6_ditches 174 = .ok (.iconst 2, 1) := by decide +kernel
theorem dX6_ditches_175 : decode cX6_ditches 175 = .ok (.goto 15, 3) := by decide +kernel
theorem dX6_ditches_178 : decode cX6_ditches 178 = .ok (.iload 4, 2) := by decide +kernel
theorem dX6_ditches_180 : decode cX6_ditches 180 = .ok (.ifCond .ne 8, 3) := by decide +kernel
theorem dX6_ditches_183 : decode cX6_ditches 183 = .ok (.iload 5, 2) := by decide +kernel
theorem dX6_ditches_185 : decode cX6_ditches 185 = .ok (.goto 5, 3) := by decide +kernel
theorem dX6_ditches_188 : decode cX6_ditches 188 = .ok (.iload 6, 2) := by decide +kernel
theorem dX6_ditches_190 : decode cX6_ditches 190 = .ok (.ireturn, 1) := by decide +kernel
theorem dX6_ditches_191 : decode cX6_ditches 191 = .ok (.iinc 6 1, 3) := by decide +kernel
theorem dX6_ditches_194 : decode cX6_ditches 194 = .ok (.goto (-51), 3) := by decide +kernel
theorem dX6_ditches_197 : decode cX6_ditches 197 = .ok (.iinc 5 1, 3) := by decide +kernel
theorem dX6_ditches_200 : decode cX6_ditches 200 = .ok (.goto (-74), 3) := by decide +kernel
theorem dX6_ditches_203 : decode cX6_ditches 203 = .ok (.bipush (-4), 2) := by decide +kernel
theorem dX6_ditches_205 : decode cX6_ditches 205 = .ok (.ireturn, 1) := by decide +kernel
theorem dX6_best_0 : decode cX6_best 0 = .ok (.iload_n 1, 1) := by decide +kernel
theorem dX6_best_1 : decode cX6_best 1 = .ok (.iconst 0, 1) := by decide +kernel
theorem dX6_best_2 : decode cX6_best 2 = .ok (.iconst 3, 1) := by decide +kernel
theorem dX6_best_3 : decode cX6_best 3 = .ok (.invokestatic 54, 3) := by decide +kernel
theorem dX6_best_6 : decode cX6_best 6 = .ok (.ifCond .eq 22, 3) := by decide +kernel
theorem dX6_best_9 : decode cX6_best 9 = .ok (.iload_n 2, 1) := by decide +kernel
theorem dX6_best_10 : decode cX6_best 10 = .ok (.iconst 1, 1) := by decide +kernel
theorem dX6_best_11 : decode cX6_best 11 = .ok (.bipush 20, 2) := by decide +kernel
theorem dX6_best_13 : decode cX6_best 13 = .ok (.invokestatic 54, 3) := by decide +kernel
theorem dX6_best_16 : decode cX6_best 16 = .ok (.ifCond .eq 12, 3) := by decide +kernel
theorem dX6_best_19 : decode cX6_best 19 = .ok (.iload_n 3, 1) := by decide +kernel
theorem dX6_best_20 : decode cX6_best 20 = .ok (.iconst 0, 1) := by decide +kernel
theorem dX6_best_21 : decode cX6_best 21 = .ok (.iconst 1, 1) := by decide +kernel
theorem dX6_best_22 : decode cX6_best 22 = .ok (.invokestatic 54, 3) := by decide +kernel
theorem dX6_best_25 : decode cX6_best 25 = .ok (.ifCond .ne 5, 3) := by decide +kernel
theorem dX6_best_28 : decode cX6_best 28 = .ok (.iconst (-1), 1) := by decide +kernel
theorem dX6_best_29 : decode cX6_best 29 = .ok (.ireturn, 1) := by decide +kernel
theorem dX6_best_30 : decode cX6_best 30 = .ok (.bipush (-4), 2) := by decide +kernel
theorem dX6_best_32 : decode cX6_best 32 = .ok (.istore 4, 2) := by decide +kernel
theorem dX6_best_34 : decode cX6_best 34 = .ok (.bipush (-4), 2) := by decide +kernel
theorem dX6_best_36 : decode cX6_best 36 = .ok (.istore 5, 2) := by decide +kernel
theorem dX6_best_38 : decode cX6_best 38 = .ok (.iconst 0, 1) := by decide +kernel
theorem dX6_best_39 : decode cX6_best 39 = .ok (.istore 6, 2) := by decide +kernel
theorem dX6_best_41 : decode cX6_best 41 = .ok (.iload 6, 2) := by decide +kernel
theorem dX6_best_43 : decode cX6_best 43 = .ok (.aload_n 0, 1) := by decide +kernel
theorem dX6_best_44 : decode cX6_best 44 = .ok (.getfield 13, 3) := by decide +kernel
theorem dX6_best_47 : decode cX6_best 47 = .ok (.iconst 0, 1) := by decide +kernel
theorem dX6_best_48 : decode cX6_best 48 = .ok (.iaload, 1) := by decide +kernel
theorem dX6_best_49 : decode cX6_best 49 = .ok (.if_icmp .ge 82, 3) := by decide +kernel
theorem dX6_best_52 : decode cX6_best 52 = .ok (.aload_n 0, 1) := by decide +kernel
theorem dX6_best_53 : decode cX6_best 53 = .ok (.iload 6, 2) := by decide +kernel
theorem dX6_best_55 : decode cX6_best 55 = .ok (.invokevirtual 141, 3) := by decide +kernel
theorem dX6_best_58 : decode cX6_best 58 = .ok (.ifCond .eq 67, 3) := by decide +kernel
theorem dX6_best_61 : decode cX6_best 61 = .ok (.aload_n 0, 1) := by decide +kernel
theorem dX6_best_62 : decode cX6_best 62 = .ok (.getfield 22, 3) := by decide +kernel
theorem dX6_best_65 : decode cX6_best 65 = .ok (.bipush 23, 2) := by decide +kernel
theorem dX6_best_67 : decode cX6_best 67 = .ok (.iload 6, 2) := by decide +kernel
theorem dX6_best_69 : decode cX6_best 69 = .ok (.iadd, 1) := by decide +kernel
theorem dX6_best_70 : decode cX6_best 70 = .ok (.iconst 1, 1) := by decide +kernel
theorem dX6_best_71 : decode cX6_best 71 = .ok (.iastore, 1) := by decide +kernel
theorem dX6_best_72 : decode cX6_best 72 = .ok (.aload_n 0, 1) := by decide +kernel
theorem dX6_best_73 : decode cX6_best 73 = .ok (.iload_n 2, 1) := by decide +kernel
theorem dX6_best_74 : decode cX6_best 74 = .ok (.iconst 1, 1) := by decide +kernel
theorem dX6_best_75 : decode cX6_best 75 = .ok (.iload_n 1, 1) := by decide +kernel
theorem dX6_best_76 : decode cX6_best 76 = .ok (.iadd, 1) := by decide +kernel
theorem dX6_best_77 : decode cX6_best 77 = .ok (.invokevirtual 156, 3) := by decide +kernel
theorem dX6_best_80 : decode cX6_best 80 = .ok (.istore 7, 2) := by decide +kernel
theorem dX6_best_82 : decode cX6_best 82 = .ok (.aload_n 0, 1) := by decide +kernel
theorem dX6_best_83 : decode cX6_best 83 = .ok (.getfield 22, 3) := by decide +kernel
theorem dX6_best_86 : decode cX6_best 86 = .ok (.bipush 23, 2) := by decide +kernel
theorem dX6_best_88 : decode cX6_best 88 = .ok (.iload 6, 2) := by decide +kernel
theorem dX6_best_90 : decode cX6_best 90 = .ok (.iadd, 1) := by decide +kernel
theorem dX6_best_91 : decode cX6_best 91 = .ok (.iconst 0, 1) := by decide +kernel
theorem dX6_best_92 : decode cX6_best 92 = .ok (.iastore, 1) := by decide +kernel
theorem dX6_best_93 : decode cX6_best 93 = .ok (.iload 7, 2) := by decide +kernel
theorem dX6_best_95 : decode cX6_best 95 = .ok (.iload 4, 2) := by decide +kernel
theorem dX6_best_97 : decode cX6_best 97 = .ok (.if_icmp .le 8, 3) := by decide +kernel
theorem dX6_best_100 : decode cX6_best 100 = .ok (.iload 6, 2) := by decide +kernel
theorem dX6_best_102 : decode cX6_best 102 = .ok (.goto 5, 3) := by decide +kernel
theorem dX6_best_105 : decode cX6_best 105 = .ok (.iload 5, 2) := by decide +kernel
theorem dX6_best_107 : decode cX6_best 107 = .ok (.istore 5, 2) := by decide +kernel
theorem dX6_best_109 : decode cX6_best 109 = .ok (.iload 7, 2) := by decide +kernel
theorem dX6_best_111 : decode cX6_best 111 = .ok (.iload 4, 2) := by decide +kernel
theorem dX6_best_113 : decode cX6_best 113 = .ok (.if_icmp .le 8, 3) := by decide +kernel
theorem dX6_best_116 : decode cX6_best 116 = .ok (.iload 7, 2) := by decide +kernel
theorem dX6_best_118 : decode cX6_best 118 = .ok (.goto 5, 3) := by decide +kernel
theorem dX6_best_121 : decode cX6_best 121 = .ok (.iload 4, 2) := by decide +kernel
theorem dX6_best_123 : decode cX6_best 123 = .ok (.istore 4, 2) := by decide +kernel
theorem dX6_best_125 : decode cX6_best 125 = .ok (.iinc 6 1, 3) := by decide +kernel
theorem dX6_best_128 : decode cX6_best 128 = .ok (.goto (-87), 3) := by decide +kernel
theorem dX6_best_131 : decode cX6_best 131 = .ok (.iload_n 3, 1) := by decide +kernel
theorem dX6_best_132 : decode cX6_best 132 = .ok (.ifCond .ne 8, 3) := by decide +kernel
theorem dX6_best_135 : decode cX6_best 135 = .ok (.iload 5, 2) := by decide +kernel
theorem dX6_best_137 : decode cX6_best 137 = .ok (.goto 5, 3) := by decide +kernel
theorem dX6_best_140 : decode cX6_best 140 = .ok (.iload 4, 2) := by decide +kernel
theorem dX6_best_142 : decode cX6_best 142 = .ok (.ireturn, 1) := by decide +kernel
theorem dX6_see_0 : decode cX6_see 0 = .ok (.aload_n 0, 1) := by decide +kernel
theorem dX6_see_1 : decode cX6_see 1 = .ok (.iload_n 1, 1) := by decide +kernel
theorem dX6_see_2 : decode cX6_see 2 = .ok (.invokevirtual 126, 3) := by decide +kernel
theorem dX6_see_5 : decode cX6_see 5 = .ok (.ifCond .eq 21, 3) := by decide +kernel
theorem dX6_see_8 : decode cX6_see 8 = .ok (.aload_n 0, 1) := by decide +kernel
theorem dX6_see_9 : decode cX6_see 9 = .ok (.iload_n 2, 1) := by decide +kernel
theorem dX6_see_10 : decode cX6_see 10 = .ok (.invokevirtual 110, 3) := by decide +kernel
theorem dX6_see_13 : decode cX6_see 13 = .ok (.ifCond .eq 13, 3) := by decide +kernel
theorem dX6_see_16 : decode cX6_see 16 = .ok (.iload_n 3, 1) := by decide +kernel
theorem dX6_see_17 : decode cX6_see 17 = .ok (.iconst 0, 1) := by decide +kernel
theorem dX6_see_18 : decode cX6_see 18 = .ok (.bipush 20, 2) := by decide +kernel
theorem dX6_see_20 : decode cX6_see 20 = .ok (.invokestatic 54, 3) := by decide +kernel
theorem dX6_see_23 : decode cX6_see 23 = .ok (.ifCond .ne 5, 3) := by decide +kernel
theorem dX6_see_26 : decode cX6_see 26 = .ok (.iconst (-1), 1) := by decide +kernel
theorem dX6_see_27 : decode cX6_see 27 = .ok (.ireturn, 1) := by decide +kernel
theorem dX6_see_28 : decode cX6_see 28 = .ok (.aload_n 0, 1) := by decide +kernel
theorem dX6_see_29 : decode cX6_see 29 = .ok (.getfield 107, 3) := by decide +kernel
theorem dX6_see_32 : decode cX6_see 32 = .ok (.bipush 6, 2) := by decide +kernel
theorem dX6_see_34 : decode cX6_see 34 = .ok (.if_icmp .ne 6, 3) := by decide +kernel
theorem dX6_see_37 : decode cX6_see 37 = .ok (.bipush (-3), 2) := by decide +kernel
theorem dX6_see_39 : decode cX6_see 39 = .ok (.ireturn, 1) := by decide +kernel
theorem dX6_see_40 : decode cX6_see 40 = .ok (.aload_n 0, 1) := by decide +kernel
theorem dX6_see_41 : decode cX6_see 41 = .ok (.getfield 31, 3) := by decide +kernel
theorem dX6_see_44 : decode cX6_see 44 = .ok (.iconst 3, 1) := by decide +kernel
theorem dX6_see_45 : decode cX6_see 45 = .ok (.aload_n 0, 1) := by decide +kernel
theorem dX6_see_46 : decode cX6_see 46 = .ok (.getfield 107, 3) := by decide +kernel
theorem dX6_see_49 : decode cX6_see 49 = .ok (.imul, 1) := by decide +kernel
theorem dX6_see_50 : decode cX6_see 50 = .ok (.iload_n 1, 1) := by decide +kernel
theorem dX6_see_51 : decode cX6_see 51 = .ok (.iastore, 1) := by decide +kernel
theorem dX6_see_52 : decode cX6_see 52 = .ok (.aload_n 0, 1) := by decide +kernel
theorem dX6_see_53 : decode cX6_see 53 = .ok (.getfield 31, 3) := by decide +kernel
theorem dX6_see_56 : decode cX6_see 56 = .ok (.iconst 3, 1) := by decide +kernel
theorem dX6_see_57 : decode cX6_see 57 = .ok (.aload_n 0, 1) := by decide +kernel
theorem dX6_see_58 : decode cX6_see 58 = .ok (.getfield 107, 3) := by decide +kernel
theorem dX6_see_61 : decode cX6_see 61 = .ok (.imul, 1) := by decide +kernel
theorem dX6_see_62 : decode cX6_see 62 = .ok (.iconst 1, 1) := by decide +kernel
theorem dX6_see_63 : decode cX6_see 63 = .ok (.iadd, 1) := by decide +kernel
theorem dX6_see_64 : decode cX6_see 64 = .ok (.iload_n 2, 1) := by decide +kernel
theorem dX6_see_65 : decode cX6_see 65 = .ok (.iastore, 1) := by decide +kernel
theorem dX6_see_66 : decode cX6_see 66 = .ok (.aload_n 0, 1) := by decide +kernel
theorem dX6_see_67 : decode cX6_see 67 = .ok (.getfield 31, 3) := by decide +kernel
theorem dX6_see_70 : decode cX6_see 70 = .ok (.iconst 3, 1) := by decide +kernel
theorem dX6_see_71 : decode cX6_see 71 = .ok (.aload_n 0, 1) := by decide +kernel
theorem dX6_see_72 : decode cX6_see 72 = .ok (.getfield 107, 3) := by decide +kernel
theorem dX6_see_75 : decode cX6_see 75 = .ok (.imul, 1) := by decide +kernel
theorem dX6_see_76 : decode cX6_see 76 = .ok (.iconst 2, 1) := by decide +kernel
theorem dX6_see_77 : decode cX6_see 77 = .ok (.iadd, 1) := by decide +kernel
theorem dX6_see_78 : decode cX6_see 78 = .ok (.iload_n 3, 1) := by decide +kernel
theorem dX6_see_79 : decode cX6_see 79 = .ok (.iastore, 1) := by decide +kernel
theorem dX6_see_80 : decode cX6_see 80 = .ok (.aload_n 0, 1) := by decide +kernel
theorem dX6_see_81 : decode cX6_see 81 = .ok (.dup, 1) := by decide +kernel
theorem dX6_see_82 : decode cX6_see 82 = .ok (.getfield 107, 3) := by decide +kernel
theorem dX6_see_85 : decode cX6_see 85 = .ok (.iconst 1, 1) := by decide +kernel
theorem dX6_see_86 : decode cX6_see 86 = .ok (.iadd, 1) := by decide +kernel
theorem dX6_see_87 : decode cX6_see 87 = .ok (.putfield 107, 3) := by decide +kernel
theorem dX6_see_90 : decode cX6_see 90 = .ok (.aload_n 0, 1) := by decide +kernel
theorem dX6_see_91 : decode cX6_see 91 = .ok (.getfield 107, 3) := by decide +kernel
theorem dX6_see_94 : decode cX6_see 94 = .ok (.ireturn, 1) := by decide +kernel
theorem dX6_forget_0 : decode cX6_forget 0 = .ok (.aload_n 0, 1) := by decide +kernel
theorem dX6_forget_1 : decode cX6_forget 1 = .ok (.getfield 107, 3) := by decide +kernel
theorem dX6_forget_4 : decode cX6_forget 4 = .ok (.istore_n 1, 1) := by decide +kernel
theorem dX6_forget_5 : decode cX6_forget 5 = .ok (.aload_n 0, 1) := by decide +kernel
theorem dX6_forget_6 : decode cX6_forget 6 = .ok (.iconst 0, 1) := by decide +kernel
theorem dX6_forget_7 : decode cX6_forget 7 = .ok (.putfield 107, 3) := by decide +kernel
theorem dX6_forget_10 : decode cX6_forget 10 = .ok (.iload_n 1, 1) := by decide +kernel
theorem dX6_forget_11 : decode cX6_forget 11 = .ok (.ireturn, 1) := by decide +kernel
theorem dX6_isSo_0 : decode cX6_isSo 0 = .ok (.iconst 1, 1) := by decide +kernel
theorem dX6_isSo_1 : decode cX6_isSo 1 = .ok (.istore_n 2, 1) := by decide +kernel
theorem dX6_isSo_2 : decode cX6_isSo 2 = .ok (.iconst 0, 1) := by decide +kernel
theorem dX6_isSo_3 : decode cX6_isSo 3 = .ok (.istore_n 3, 1) := by decide +kernel
theorem dX6_isSo_4 : decode cX6_isSo 4 = .ok (.iload_n 3, 1) := by decide +kernel
theorem dX6_isSo_5 : decode cX6_isSo 5 = .ok (.aload_n 0, 1) := by decide +kernel
theorem dX6_isSo_6 : decode cX6_isSo 6 = .ok (.getfield 107, 3) := by decide +kernel
theorem dX6_isSo_9 : decode cX6_isSo 9 = .ok (.if_icmp .ge 64, 3) := by decide +kernel
theorem dX6_isSo_12 : decode cX6_isSo 12 = .ok (.iload_n 2, 1) := by decide +kernel
theorem dX6_isSo_13 : decode cX6_isSo 13 = .ok (.ifCond .eq 52, 3) := by decide +kernel
theorem dX6_isSo_16 : decode cX6_isSo 16 = .ok (.aload_n 0, 1) := by decide +kernel
theorem dX6_isSo_17 : decode cX6_isSo 17 = .ok (.getfield 31, 3) := by decide +kernel
theorem dX6_isSo_20 : decode cX6_isSo 20 = .ok (.iconst 3, 1) := by decide +kernel
theorem dX6_isSo_21 : decode cX6_isSo 21 = .ok (.iload_n 3, 1) := by decide +kernel
theorem dX6_isSo_22 : decode cX6_isSo 22 = .ok (.imul, 1) := by decide +kernel
theorem dX6_isSo_23 : decode cX6_isSo 23 = .ok (.iaload, 1) := by decide +kernel
theorem dX6_isSo_24 : decode cX6_isSo 24 = .ok (.iload_n 1, 1) := by decide +kernel
theorem dX6_isSo_25 : decode cX6_isSo 25 = .ok (.if_icmp .ne 36, 3) := by decide +kernel
theorem dX6_isSo_28 : decode cX6_isSo 28 = .ok (.aload_n 0, 1) := by decide +kernel
theorem dX6_isSo_29 : decode cX6_isSo 29 = .ok (.aload_n 0, 1) := by decide +kernel
theorem dX6_isSo_30 : decode cX6_isSo 30 = .ok (.getfield 31, 3) := by decide +kernel
theorem dX6_isSo_33 : decode cX6_isSo 33 = .ok (.iconst 3, 1) := by decide +kernel
theorem dX6_isSo_34 : decode cX6_isSo 34 = .ok (.iload_n 3, 1) := by decide +kernel
theorem dX6_isSo_35 : decode cX6_isSo 35 = .ok (.imul, 1) := by decide +kernel
theorem dX6_isSo_36 : decode cX6_isSo 36 = .ok (.iconst 2, 1) := by decide +kernel
theorem dX6_isSo_37 : decode cX6_isSo 37 = .ok (.iadd, 1) := by decide +kernel
theorem dX6_isSo_38 : decode cX6_isSo 38 = .ok (.iaload, 1) := by decide +kernel
theorem dX6_isSo_39 : decode cX6_isSo 39 = .ok (.bipush 11, 2) := by decide +kernel
theorem dX6_isSo_41 : decode cX6_isSo 41 = .ok (.iconst 4, 1) := by decide +kernel
theorem dX6_isSo_42 : decode cX6_isSo 42 = .ok (.iload_n 1, 1) := by decide +kernel
theorem dX6_isSo_43 : decode cX6_isSo 43 = .ok (.imul, 1) := by decide +kernel
theorem dX6_isSo_44 : decode cX6_isSo 44 = .ok (.iadd, 1) := by decide +kernel
theorem dX6_isSo_45 : decode cX6_isSo 45 = .ok (.invokevirtual 156, 3) := by decide +kernel
theorem dX6_isSo_48 : decode cX6_isSo 48 = .ok (.aload_n 0, 1) := by decide +kernel
theorem dX6_isSo_49 : decode cX6_isSo 49 = .ok (.getfield 31, 3) := by decide +kernel
theorem dX6_isSo_52 : decode cX6_isSo 52 = .ok (.iconst 3, 1) := by decide +kernel
theorem dX6_isSo_53 : decode cX6_isSo 53 = .ok (.iload_n 3, 1) := by decide +kernel
theorem dX6_isSo_54 : decode cX6_isSo 54 = .ok (.imul, 1) := by decide +kernel
theorem dX6_isSo_55 : decode cX6_isSo 55 = .ok (.iconst 1, 1) := by decide +kernel
theorem dX6_isSo_56 : decode cX6_isSo 56 = .ok (.iadd, 1) := by decide +kernel
theorem dX6_isSo_57 : decode cX6_isSo 57 = .ok (.iaload, 1) := by decide +kernel
theorem dX6_isSo_58 : decode cX6_isSo 58 = .ok (.if_icmp .ne 7, 3) := by decide +kernel
theorem dX6_isSo_61 : decode cX6_isSo 61 = .ok (.iconst 1, 1) := by decide +kernel
theorem dX6_isSo_62 : decode cX6_isSo 62 = .ok (.goto 4, 3) := by decide +kernel
theorem dX6_isSo_65 : decode cX6_isSo 65 = .ok (.iconst 0, 1) := by decide +kernel
theorem dX6_isSo_66 : decode cX6_isSo 66 = .ok (.istore_n 2, 1) := by decide +kernel
theorem dX6_isSo_67 : decode cX6_isSo 67 = .ok (.iinc 3 1, 3) := by decide +kernel
theorem dX6_isSo_70 : decode cX6_isSo 70 = .ok (.goto (-66), 3) := by decide +kernel
theorem dX6_isSo_73 : decode cX6_isSo 73 = .ok (.iload_n 2, 1) := by decide +kernel
theorem dX6_isSo_74 : decode cX6_isSo 74 = .ok (.ireturn, 1) := by decide +kernel
theorem dX6_fits_0 : decode cX6_fits 0 = .ok (.aload_n 0, 1) := by decide +kernel
theorem dX6_fits_1 : decode cX6_fits 1 = .ok (.iload_n 1, 1) := by decide +kernel
theorem dX6_fits_2 : decode cX6_fits 2 = .ok (.invokevirtual 126, 3) := by decide +kernel
theorem dX6_fits_5 : decode cX6_fits 5 = .ok (.ifCond .eq 12, 3) := by decide +kernel
theorem dX6_fits_8 : decode cX6_fits 8 = .ok (.iload_n 2, 1) := by decide +kernel
theorem dX6_fits_9 : decode cX6_fits 9 = .ok (.iconst 0, 1) := by decide +kernel
theorem dX6_fits_10 : decode cX6_fits 10 = .ok (.iconst 1, 1) := by decide +kernel
theorem dX6_fits_11 : decode cX6_fits 11 = .ok (.invokestatic 54, 3) := by decide +kernel
theorem dX6_fits_14 : decode cX6_fits 14 = .ok (.ifCond .ne 5, 3) := by decide +kernel
theorem dX6_fits_17 : decode cX6_fits 17 = .ok (.iconst (-1), 1) := by decide +kernel
theorem dX6_fits_18 : decode cX6_fits 18 = .ok (.ireturn, 1) := by decide +kernel
theorem dX6_fits_19 : decode cX6_fits 19 = .ok (.aload_n 0, 1) := by decide +kernel
theorem dX6_fits_20 : decode cX6_fits 20 = .ok (.getfield 22, 3) := by decide +kernel
theorem dX6_fits_23 : decode cX6_fits 23 = .ok (.iconst 5, 1) := by decide +kernel
theorem dX6_fits_24 : decode cX6_fits 24 = .ok (.iload_n 1, 1) := by decide +kernel
theorem dX6_fits_25 : decode cX6_fits 25 = .ok (.iadd, 1) := by decide +kernel
theorem dX6_fits_26 : decode cX6_fits 26 = .ok (.iaload, 1) := by decide +kernel
theorem dX6_fits_27 : decode cX6_fits 27 = .ok (.istore_n 3, 1) := by decide +kernel
theorem dX6_fits_28 : decode cX6_fits 28 = .ok (.aload_n 0, 1) := by decide +kernel
theorem dX6_fits_29 : decode cX6_fits 29 = .ok (.getfield 13, 3) := by decide +kernel
theorem dX6_fits_32 : decode cX6_fits 32 = .ok (.bipush 75, 2) := by decide +kernel
theorem dX6_fits_34 : decode cX6_fits 34 = .ok (.iload_n 1, 1) := by decide +kernel
theorem dX6_fits_35 : decode cX6_fits 35 = .ok (.iadd, 1) := by decide +kernel
theorem dX6_fits_36 : decode cX6_fits 36 = .ok (.iaload, 1) := by decide +kernel
theorem dX6_fits_37 : decode cX6_fits 37 = .ok (.istore 4, 2) := by decide +kernel
theorem dX6_fits_39 : decode cX6_fits 39 = .ok (.iconst 0, 1) := by decide +kernel
theorem dX6_fits_40 : decode cX6_fits 40 = .ok (.istore 5, 2) := by decide +kernel
theorem dX6_fits_42 : decode cX6_fits 42 = .ok (.iconst 0, 1) := by decide +kernel
theorem dX6_fits_43 : decode cX6_fits 43 = .ok (.istore 6, 2) := by decide +kernel
theorem dX6_fits_45 : decode cX6_fits 45 = .ok (.iload 6, 2) := by decide +kernel
theorem dX6_fits_47 : decode cX6_fits 47 = .ok (.iconst 4, 1) := by decide +kernel
theorem dX6_fits_48 : decode cX6_fits 48 = .ok (.if_icmp .ge 68, 3) := by decide +kernel
theorem dX6_fits_51 : decode cX6_fits 51 = .ok (.aload_n 0, 1) := by decide +kernel
theorem dX6_fits_52 : decode cX6_fits 52 = .ok (.getfield 22, 3) := by decide +kernel
theorem dX6_fits_55 : decode cX6_fits 55 = .ok (.iconst 5, 1) := by decide +kernel
theorem dX6_fits_56 : decode cX6_fits 56 = .ok (.iload_n 1, 1) := by decide +kernel
theorem dX6_fits_57 : decode cX6_fits 57 = .ok (.iadd, 1) := by decide +kernel
theorem dX6_fits_58 : decode cX6_fits 58 = .ok (.iload_n 2, 1) := by decide +kernel
theorem dX6_fits_59 : decode cX6_fits 59 = .ok (.ifCond .ne 8, 3) := by decide +kernel
theorem dX6_fits_62 : decode cX6_fits 62 = .ok (.iload 6, 2) := by decide +kernel
theorem dX6_fits_64 : decode cX6_fits 64 = .ok (.goto 4, 3) := by decide +kernel
theorem dX6_fits_67 : decode cX6_fits 67 = .ok (.iload_n 3, 1) := by decide +kernel
theorem dX6_fits_68 : decode cX6_fits 68 = .ok (.iastore, 1) := by decide +kernel
theorem dX6_fits_69 : decode cX6_fits 69 = .ok (.aload_n 0, 1) := by decide +kernel
theorem dX6_fits_70 : decode cX6_fits 70 = .ok (.getfield 13, 3) := by decide +kernel
theorem dX6_fits_73 : decode cX6_fits 73 = .ok (.bipush 75, 2) := by decide +kernel
theorem dX6_fits_75 : decode cX6_fits 75 = .ok (.iload_n 1, 1) := by decide +kernel
theorem dX6_fits_76 : decode cX6_fits 76 = .ok (.iadd, 1) := by decide +kernel
theorem dX6_fits_77 : decode cX6_fits 77 = .ok (.iload_n 2, 1) := by decide +kernel
theorem dX6_fits_78 : decode cX6_fits 78 = .ok (.ifCond .ne 8, 3) := by decide +kernel
theorem dX6_fits_81 : decode cX6_fits 81 = .ok (.iload 4, 2) := by decide +kernel
theorem dX6_fits_83 : decode cX6_fits 83 = .ok (.goto 5, 3) := by decide +kernel
theorem dX6_fits_86 : decode cX6_fits 86 = .ok (.iload 6, 2) := by decide +kernel
theorem dX6_fits_88 : decode cX6_fits 88 = .ok (.iastore, 1) := by decide +kernel
theorem dX6_fits_89 : decode cX6_fits 89 = .ok (.iload 5, 2) := by decide +kernel
theorem dX6_fits_91 : decode cX6_fits 91 = .ok (.aload_n 0, 1) := by decide +kernel
theorem dX6_fits_92 : decode cX6_fits 92 = .ok (.iload_n 1, 1) := by decide +kernel
theorem dX6_fits_93 : decode cX6_fits 93 = .ok (.invokevirtual 169, 3) := by decide +kernel
theorem dX6_fits_96 : decode cX6_fits 96 = .ok (.ifCond .eq 10, 3) := by decide +kernel
theorem dX6_fits_99 : decode cX6_fits 99 = .ok (.iconst 1, 1) := by decide +kernel
theorem dX6_fits_100 : decode cX6_fits 100 = .ok (.iload 6, 2) := by decide +kernel
theorem dX6_fits_102 : decode cX6_fits 102 = .ok (.ishl, 1) := by decide +kernel
theorem dX6_fits_103 : decode cX6_fits 103 = .ok (.goto 4, 3) := by decide +kernel
theorem dX6_fits_106 : decode cX6_fits 106 = .ok (.iconst 0, 1) := by decide +kernel
theorem dX6_fits_107 : decode cX6_fits 107 = .ok (.ior, 1) := by decide +kernel
theorem dX6_fits_108 : decode cX6_fits 108 = .ok (.istore 5, 2) := by decide +kernel
theorem dX6_fits_110 : decode cX6_fits 110 = .ok (.iinc 6 1, 3) := by decide +kernel
theorem dX6_fits_113 : decode cX6_fits 113 = .ok (.goto (-68), 3) := by decide +kernel
theorem dX6_fits_116 : decode cX6_fits 116 = .ok (.aload_n 0, 1) := by decide +kernel
theorem dX6_fits_117 : decode cX6_fits 117 = .ok (.getfield 22, 3) := by decide +kernel
theorem dX6_fits_120 : decode cX6_fits 120 = .ok (.iconst 5, 1) := by decide +kernel
theorem dX6_fits_121 : decode cX6_fits 121 = .ok (.iload_n 1, 1) := by decide +kernel
theorem dX6_fits_122 : decode cX6_fits 122 = .ok (.iadd, 1) := by decide +kernel
theorem dX6_fits_123 : decode cX6_fits 123 = .ok (.iload_n 3, 1) := by decide +kernel
theorem dX6_fits_124 : decode cX6_fits 124 = .ok (.iastore, 1) := by decide +kernel
theorem dX6_fits_125 : decode cX6_fits 125 = .ok (.aload_n 0, 1) := by decide +kernel
theorem dX6_fits_126 : decode cX6_fits 126 = .ok (.getfield 13, 3) := by decide +kernel
theorem dX6_fits_129 : decode cX6_fits 129 = .ok (.bipush 75, 2) := by decide +kernel
theorem dX6_fits_131 : decode cX6_fits 131 = .ok (.iload_n 1, 1) := by decide +kernel
theorem dX6_fits_132 : decode cX6_fits 132 = .ok (.iadd, 1) := by decide +kernel
theorem dX6_fits_133 : decode cX6_fits 133 = .ok (.iload 4, 2) := by decide +kernel
theorem dX6_fits_135 : decode cX6_fits 135 = .ok (.iastore, 1) := by decide +kernel
theorem dX6_fits_136 : decode cX6_fits 136 = .ok (.iload 5, 2) := by decide +kernel
theorem dX6_fits_138 : decode cX6_fits 138 = .ok (.ireturn, 1) := by decide +kernel
theorem dX6_frost_0 : decode cX6_frost 0 = .ok (.aload_n 0, 1) := by decide +kernel
theorem dX6_frost_1 : decode cX6_frost 1 = .ok (.iload_n 1, 1) := by decide +kernel
theorem dX6_frost_2 : decode cX6_frost 2 = .ok (.invokevirtual 126, 3) := by decide +kernel
theorem dX6_frost_5 : decode cX6_frost 5 = .ok (.ifCond .eq 42, 3) := by decide +kernel
theorem dX6_frost_8 : decode cX6_frost 8 = .ok (.aload_n 0, 1) := by decide +kernel
theorem dX6_frost_9 : decode cX6_frost 9 = .ok (.iload_n 2, 1) := by decide +kernel
theorem dX6_frost_10 : decode cX6_frost 10 = .ok (.invokevirtual 110, 3) := by decide +kernel
theorem dX6_frost_13 : decode cX6_frost 13 = .ok (.ifCond .eq 34, 3) := by decide +kernel
theorem dX6_frost_16 : decode cX6_frost 16 = .ok (.iload_n 3, 1) := by decide +kernel
theorem dX6_frost_17 : decode cX6_frost 17 = .ok (.iconst 0, 1) := by decide +kernel
theorem dX6_frost_18 : decode cX6_frost 18 = .ok (.bipush 8, 2) := by decide +kernel
theorem dX6_frost_20 : decode cX6_frost 20 = .ok (.invokestatic 54, 3) := by decide +kernel
theorem dX6_frost_23 : decode cX6_frost 23 = .ok (.ifCond .eq 24, 3) := by decide +kernel
theorem dX6_frost_26 : decode cX6_frost 26 = .ok (.iload 4, 2) := by decide +kernel
theorem dX6_frost_28 : decode cX6_frost 28 = .ok (.iconst 0, 1) := by decide +kernel
theorem dX6_frost_29 : decode cX6_frost 29 = .ok (.bipush 10, 2) := by decide +kernel
theorem dX6_frost_31 : decode cX6_frost 31 = .ok (.invokestatic 54, 3) := by decide +kernel
theorem dX6_frost_34 : decode cX6_frost 34 = .ok (.ifCond .eq 13, 3) := by decide +kernel
theorem dX6_frost_37 : decode cX6_frost 37 = .ok (.iload 5, 2) := by decide +kernel
theorem dX6_frost_39 : decode cX6_frost 39 = .ok (.iconst 0, 1) := by decide +kernel
theorem dX6_frost_40 : decode cX6_frost 40 = .ok (.iconst 1, 1) := by decide +kernel
theorem dX6_frost_41 : decode cX6_frost 41 = .ok (.invokestatic 54, 3) := by decide +kernel
theorem dX6_frost_44 : decode cX6_frost 44 = .ok (.ifCond .ne 5, 3) := by decide +kernel
theorem dX6_frost_47 : decode cX6_frost 47 = .ok (.iconst (-1), 1) := by decide +kernel
theorem dX6_frost_48 : decode cX6_frost 48 = .ok (.ireturn, 1) := by decide +kernel
theorem dX6_frost_49 : decode cX6_frost 49 = .ok (.aload_n 0, 1) := by decide +kernel
theorem dX6_frost_50 : decode cX6_frost 50 = .ok (.invokevirtual 150, 3) := by decide +kernel
theorem dX6_frost_53 : decode cX6_frost 53 = .ok (.iconst 0, 1) := by decide +kernel
theorem dX6_frost_54 : decode cX6_frost 54 = .ok (.istore 6, 2) := by decide +kernel
theorem dX6_frost_56 : decode cX6_frost 56 = .ok (.iconst 1, 1) := by decide +kernel
theorem dX6_frost_57 : decode cX6_frost 57 = .ok (.istore 7, 2) := by decide +kernel
theorem dX6_frost_59 : decode cX6_frost 59 = .ok (.iconst 0, 1) := by decide +kernel
theorem dX6_frost_60 : decode cX6_frost 60 = .ok (.istore 8, 2) := by decide +kernel
theorem dX6_frost_62 : decode cX6_frost 62 = .ok (.iload 8, 2) := by decide +kernel
theorem dX6_frost_64 : decode cX6_frost 64 = .ok (.iload_n 3, 1) := by decide +kernel
theorem dX6_frost_65 : decode cX6_frost 65 = .ok (.if_icmp .ge 16, 3) := by decide +kernel
theorem dX6_frost_68 : decode cX6_frost 68 = .ok (.iload 7, 2) := by decide +kernel
theorem dX6_frost_70 : decode cX6_frost 70 = .ok (.bipush 10, 2) := by decide +kernel
theorem dX6_frost_72 : decode cX6_frost 72 = .ok (.imul, 1) := by decide +kernel
theorem dX6_frost_73 : decode cX6_frost 73 = .ok (.istore 7, 2) := by decide +kernel
theorem dX6_frost_75 : decode cX6_frost 75 = .ok (.iinc 8 1, 3) := by decide +kernel
theorem dX6_frost_78 : decode cX6_frost 78 = .ok (.goto (-16), 3) := by decide +kernel
theorem dX6_frost_81 : decode cX6_frost 81 = .ok (.iconst 0, 1) := by decide +kernel
theorem dX6_frost_82 : decode cX6_frost 82 = .ok (.istore 8, 2) := by decide +kernel
theorem dX6_frost_84 : decode cX6_frost 84 = .ok (.iload 8, 2) := by decide +kernel
theorem dX6_frost_86 : decode cX6_frost 86 = .ok (.iconst 1, 1) := by decide +kernel
theorem dX6_frost_87 : decode cX6_frost 87 = .ok (.iload_n 3, 1) := by decide +kernel
theorem dX6_frost_88 : decode cX6_frost 88 = .ok (.ishl, 1) := by decide +kernel
theorem dX6_frost_89 : decode cX6_frost 89 = .ok (.if_icmp .ge 109, 3) := by decide +kernel
theorem dX6_frost_92 : decode cX6_frost 92 = .ok (.iconst 1, 1) := by decide +kernel
theorem dX6_frost_93 : decode cX6_frost 93 = .ok (.istore 9, 2) := by decide +kernel
theorem dX6_frost_95 : decode cX6_frost 95 = .ok (.iconst 0, 1) := by decide +kernel
theorem dX6_frost_96 : decode cX6_frost 96 = .ok (.istore 10, 2) := by decide +kernel
theorem dX6_frost_98 : decode cX6_frost 98 = .ok (.iload 10, 2) := by decide +kernel
theorem dX6_frost_100 : decode cX6_frost 100 = .ok (.iload_n 3, 1) := by decide +kernel
theorem dX6_frost_101 : decode cX6_frost 101 = .ok (.if_icmp .ge 61, 3) := by decide +kernel
theorem dX6_frost_104 : decode cX6_frost 104 = .ok (.iload 8, 2) := by decide +kernel
theorem dX6_frost_106 : decode cX6_frost 106 = .ok (.iload 10, 2) := by decide +kernel
theorem dX6_frost_108 : decode cX6_frost 108 = .ok (.ishr, 1) := by decide +kernel
theorem dX6_frost_109 : decode cX6_frost 109 = .ok (.iconst 1, 1) := by decide +kernel
theorem dX6_frost_110 : decode cX6_frost 110 = .ok (.iand, 1) := by decide +kernel
theorem dX6_frost_111 : decode cX6_frost 111 = .ok (.iconst 1, 1) := by decide +kernel
theorem dX6_frost_112 : decode cX6_frost 112 = .ok (.if_icmp .ne 7, 3) := by decide +kernel
theorem dX6_frost_115 : decode cX6_frost 115 = .ok (.iconst 1, 1) := by decide +kernel
theorem dX6_frost_116 : decode cX6_frost 116 = .ok (.goto 4, 3) := by decide +kernel
theorem dX6_frost_119 : decode cX6_frost 119 = .ok (.iconst 0, 1) := by decide +kernel
theorem dX6_frost_120 : decode cX6_frost 120 = .ok (.istore 11, 2) := by decide +kernel
theorem dX6_frost_122 : decode cX6_frost 122 = .ok (.iload 9, 2) := by decide +kernel
theorem dX6_frost_124 : decode cX6_frost 124 = .ok (.iload 11, 2) := by decide +kernel
theorem dX6_frost_126 : decode cX6_frost 126 = .ok (.ifCond .eq 8, 3) := by decide +kernel
theorem dX6_frost_129 : decode cX6_frost 129 = .ok (.iload 4, 2) := by decide +kernel
theorem dX6_frost_131 : decode cX6_frost 131 = .ok (.goto 8, 3) := by decide +kernel
theorem dX6_frost_134 : decode cX6_frost 134 = .ok (.bipush 10, 2) := by decide +kernel
theorem dX6_frost_136 : decode cX6_frost 136 = .ok (.iload 4, 2) := by decide +kernel
theorem dX6_frost_138 : decode cX6_frost 138 = .ok (.isub, 1) := by decide +kernel
theorem dX6_frost_139 : decode cX6_frost 139 = .ok (.imul, 1) := by decide +kernel
theorem dX6_frost_140 : decode cX6_frost 140 = .ok (.istore 9, 2) := by decide +kernel
theorem dX6_frost_142 : decode cX6_frost 142 = .ok (.aload_n 0, 1) := by decide +kernel
theorem dX6_frost_143 : decode cX6_frost 143 = .ok (.iload 11, 2) := by decide +kernel
theorem dX6_frost_145 : decode cX6_frost 145 = .ok (.ifCond .eq 7, 3) := by decide +kernel
theorem dX6_frost_148 : decode cX6_frost 148 = .ok (.iload_n 1, 1) := by decide +kernel
theorem dX6_frost_149 : decode cX6_frost 149 = .ok (.goto 4, 3) := by decide +kernel
theorem dX6_frost_152 : decode cX6_frost 152 = .ok (.iconst (-1), 1) := by decide +kernel
theorem dX6_frost_153 : decode cX6_frost 153 = .ok (.invokevirtual 138, 3) := by decide +kernel
theorem dX6_frost_156 : decode cX6_frost 156 = .ok (.iinc 10 1, 3) := by decide +kernel
theorem dX6_frost_159 : decode cX6_frost 159 = .ok (.goto (-61), 3) := by decide +kernel
theorem dX6_frost_162 : decode cX6_frost 162 = .ok (.iload 6, 2) := by decide +kernel
theorem dX6_frost_164 : decode cX6_frost 164 = .ok (.aload_n 0, 1) := by decide +kernel
theorem dX6_frost_165 : decode cX6_frost 165 = .ok (.getfield 22, 3) := by decide +kernel
theorem dX6_frost_168 : decode cX6_frost 168 = .ok (.bipush 11, 2) := by decide +kernel
theorem dX6_frost_170 : decode cX6_frost 170 = .ok (.iconst 4, 1) := by decide +kernel
theorem dX6_frost_171 : decode cX6_frost 171 = .ok (.iload_n 1, 1) := by decide +kernel
theorem dX6_frost_172 : decode cX6_frost 172 = .ok (.imul, 1) := by decide +kernel
theorem dX6_frost_173 : decode cX6_frost 173 = .ok (.iadd, 1) := by decide +kernel
theorem dX6_frost_174 : decode cX6_frost 174 = .ok (.iaload, 1) := by decide +kernel
theorem dX6_frost_175 : decode cX6_frost 175 = .ok (.iload_n 2, 1) := by decide +kernel
theorem dX6_frost_176 : decode cX6_frost 176 = .ok (.if_icmp .ne 8, 3) := by decide +kernel
theorem dX6_frost_179 : decode cX6_frost 179 = .ok (.iload 9, 2) := by decide +kernel
theorem dX6_frost_181 : decode cX6_frost 181 = .ok (.goto 4, 3) := by decide +kernel
theorem dX6_frost_184 : decode cX6_frost 184 = .ok (.iconst 0, 1) := by decide +kernel
theorem dX6_frost_185 : decode cX6_frost 185 = .ok (.iadd, 1) := by decide +kernel
theorem dX6_frost_186 : decode cX6_frost 186 = .ok (.istore 6, 2) := by decide +kernel
theorem dX6_frost_188 : decode cX6_frost 188 = .ok (.aload_n 0, 1) := by decide +kernel
theorem dX6_frost_189 : decode cX6_frost 189 = .ok (.invokevirtual 153, 3) := by decide +kernel
theorem dX6_frost_192 : decode cX6_frost 192 = .ok (.iinc 8 1, 3) := by decide +kernel
theorem dX6_frost_195 : decode cX6_frost 195 = .ok (.goto (-111), 3) := by decide +kernel
theorem dX6_frost_198 : decode cX6_frost 198 = .ok (.iload 6, 2) := by decide +kernel
theorem dX6_frost_200 : decode cX6_frost 200 = .ok (.istore 8, 2) := by decide +kernel
theorem dX6_frost_202 : decode cX6_frost 202 = .ok (.iload 7, 2) := by decide +kernel
theorem dX6_frost_204 : decode cX6_frost 204 = .ok (.istore 9, 2) := by decide +kernel
theorem dX6_frost_206 : decode cX6_frost 206 = .ok (.iload 9, 2) := by decide +kernel
theorem dX6_frost_208 : decode cX6_frost 208 = .ok (.ifCond .le 21, 3) := by decide +kernel
theorem dX6_frost_211 : decode cX6_frost 211 = .ok (.iload 8, 2) := by decide +kernel
theorem dX6_frost_213 : decode cX6_frost 213 = .ok (.iload 9, 2) := by decide +kernel
theorem dX6_frost_215 : decode cX6_frost 215 = .ok (.irem, 1) := by decide +kernel
theorem dX6_frost_216 : decode cX6_frost 216 = .ok (.istore 10, 2) := by decide +kernel
theorem dX6_frost_218 : decode cX6_frost 218 = .ok (.iload 9, 2) := by decide +kernel
theorem dX6_frost_220 : decode cX6_frost 220 = .ok (.istore 8, 2) := by decide +kernel
theorem dX6_frost_222 : decode cX6_frost 222 = .ok (.iload 10, 2) := by decide +kernel
theorem dX6_frost_224 : decode cX6_frost 224 = .ok (.istore 9, 2) := by decide +kernel
theorem dX6_frost_226 : decode cX6_frost 226 = .ok (.goto (-20), 3) := by decide +kernel
theorem dX6_frost_229 : decode cX6_frost 229 = .ok (.iload 5, 2) := by decide +kernel
theorem dX6_frost_231 : decode cX6_frost 231 = .ok (.ifCond .ne 11, 3) := by decide +kernel
theorem dX6_frost_234 : decode cX6_frost 234 = .ok (.iload 6, 2) := by decide +kernel
theorem dX6_frost_236 : decode cX6_frost 236 = .ok (.iload 8, 2) := by decide +kernel
theorem dX6_frost_238 : decode cX6_frost 238 = .ok (.idiv, 1) := by decide +kernel
theorem dX6_frost_239 : decode cX6_frost 239 = .ok (.goto 8, 3) := by decide +kernel
theorem dX6_frost_242 : decode cX6_frost 242 = .ok (.iload 7, 2) := by decide +kernel
theorem dX6_frost_244 : decode cX6_frost 244 = .ok (.iload 8, 2) := by decide +kernel
theorem dX6_frost_246 : decode cX6_frost 246 = .ok (.idiv, 1) := by decide +kernel
theorem dX6_frost_247 : decode cX6_frost 247 = .ok (.ireturn, 1) := by decide +kernel
theorem dX6_turn_0 : decode cX6_turn 0 = .ok (.iload_n 1, 1) := by decide +kernel
theorem dX6_turn_1 : decode cX6_turn 1 = .ok (.bipush 8, 2) := by decide +kernel
theorem dX6_turn_3 : decode cX6_turn 3 = .ok (.idiv, 1) := by decide +kernel
theorem dX6_turn_4 : decode cX6_turn 4 = .ok (.aload_n 0, 1) := by decide +kernel
theorem dX6_turn_5 : decode cX6_turn 5 = .ok (.getfield 13, 3) := by decide +kernel
theorem dX6_turn_8 : decode cX6_turn 8 = .ok (.iconst 0, 1) := by decide +kernel
theorem dX6_turn_9 : decode cX6_turn 9 = .ok (.iaload, 1) := by decide +kernel
theorem dX6_turn_10 : decode cX6_turn 10 = .ok (.irem, 1) := by decide +kernel
theorem dX6_turn_11 : decode cX6_turn 11 = .ok (.istore_n 2, 1) := by decide +kernel
theorem dX6_turn_12 : decode cX6_turn 12 = .ok (.iload_n 1, 1) := by decide +kernel
theorem dX6_turn_13 : decode cX6_turn 13 = .ok (.bipush 8, 2) := by decide +kernel
theorem dX6_turn_15 : decode cX6_turn 15 = .ok (.idiv, 1) := by decide +kernel
theorem dX6_turn_16 : decode cX6_turn 16 = .ok (.aload_n 0, 1) := by decide +kernel
theorem dX6_turn_17 : decode cX6_turn 17 = .ok (.getfield 13, 3) := by decide +kernel
theorem dX6_turn_20 : decode cX6_turn 20 = .ok (.iconst 2, 1) := by decide +kernel
theorem dX6_turn_21 : decode cX6_turn 21 = .ok (.iaload, 1) := by decide +kernel
theorem dX6_turn_22 : decode cX6_turn 22 = .ok (.irem, 1) := by decide +kernel
theorem dX6_turn_23 : decode cX6_turn 23 = .ok (.istore_n 3, 1) := by decide +kernel
theorem dX6_turn_24 : decode cX6_turn 24 = .ok (.iload_n 1, 1) := by decide +kernel
theorem dX6_turn_25 : decode cX6_turn 25 = .ok (.bipush 8, 2) := by decide +kernel
theorem dX6_turn_27 : decode cX6_turn 27 = .ok (.irem, 1) := by decide +kernel
theorem dX6_turn_28 : decode cX6_turn 28 = .ok (.istore 4, 2) := by decide +kernel
theorem dX6_turn_30 : decode cX6_turn 30 = .ok (.iload 4, 2) := by decide +kernel
theorem dX6_turn_32 : decode cX6_turn 32 = .ok (.iconst 2, 1) := by decide +kernel
theorem dX6_turn_33 : decode cX6_turn 33 = .ok (.if_icmp .ge 24, 3) := by decide +kernel
theorem dX6_turn_36 : decode cX6_turn 36 = .ok (.aload_n 0, 1) := by decide +kernel
theorem dX6_turn_37 : decode cX6_turn 37 = .ok (.iload_n 2, 1) := by decide +kernel
theorem dX6_turn_38 : decode cX6_turn 38 = .ok (.invokevirtual 141, 3) := by decide +kernel
theorem dX6_turn_41 : decode cX6_turn 41 = .ok (.ifCond .eq 16, 3) := by decide +kernel
theorem dX6_turn_44 : decode cX6_turn 44 = .ok (.aload_n 0, 1) := by decide +kernel
theorem dX6_turn_45 : decode cX6_turn 45 = .ok (.getfield 22, 3) := by decide +kernel
theorem dX6_turn_48 : decode cX6_turn 48 = .ok (.bipush 23, 2) := by decide +kernel
theorem dX6_turn_50 : decode cX6_turn 50 = .ok (.iload_n 2, 1) := by decide +kernel
theorem dX6_turn_51 : decode cX6_turn 51 = .ok (.iadd, 1) := by decide +kernel
theorem dX6_turn_52 : decode cX6_turn 52 = .ok (.iconst 1, 1) := by decide +kernel
theorem dX6_turn_53 : decode cX6_turn 53 = .ok (.iastore, 1) := by decide +kernel
theorem dX6_turn_54 : decode cX6_turn 54 = .ok (.goto 56, 3) := by decide +kernel
theorem dX6_turn_57 : decode cX6_turn 57 = .ok (.iload 4, 2) := by decide +kernel
theorem dX6_turn_59 : decode cX6_turn 59 = .ok (.iconst 2, 1) := by decide +kernel
theorem dX6_turn_60 : decode cX6_turn 60 = .ok (.if_icmp .ne 25, 3) := by decide +kernel
theorem dX6_turn_63 : decode cX6_turn 63 = .ok (.aload_n 0, 1) := by decide +kernel
theorem dX6_turn_64 : decode cX6_turn 64 = .ok (.iload_n 2, 1) := by decide +kernel
theorem dX6_turn_65 : decode cX6_turn 65 = .ok (.invokevirtual 113, 3) := by decide +kernel
theorem dX6_turn_68 : decode cX6_turn 68 = .ok (.iconst 1, 1) := by decide +kernel
theorem dX6_turn_69 : decode cX6_turn 69 = .ok (.if_icmp .ne 16, 3) := by decide +kernel
theorem dX6_turn_72 : decode cX6_turn 72 = .ok (.aload_n 0, 1) := by decide +kernel
theorem dX6_turn_73 : decode cX6_turn 73 = .ok (.getfield 22, 3) := by decide +kernel
theorem dX6_turn_76 : decode cX6_turn 76 = .ok (.bipush 23, 2) := by decide +kernel
theorem dX6_turn_78 : decode cX6_turn 78 = .ok (.iload_n 2, 1) := by decide +kernel
theorem dX6_turn_79 : decode cX6_turn 79 = .ok (.iadd, 1) := by decide +kernel
theorem dX6_turn_80 : decode cX6_turn 80 = .ok (.iconst 0, 1) := by decide +kernel
theorem dX6_turn_81 : decode cX6_turn 81 = .ok (.iastore, 1) := by decide +kernel
theorem dX6_turn_82 : decode cX6_turn 82 = .ok (.goto 28, 3) := by decide +kernel
theorem dX6_turn_85 : decode cX6_turn 85 = .ok (.iload 4, 2) := by decide +kernel
theorem dX6_turn_87 : decode cX6_turn 87 = .ok (.iconst 3, 1) := by decide +kernel
theorem dX6_turn_88 : decode cX6_turn 88 = .ok (.if_icmp .ne 22, 3) := by decide +kernel
theorem dX6_turn_91 : decode cX6_turn 91 = .ok (.aload_n 0, 1) := by decide +kernel
theorem dX6_turn_92 : decode cX6_turn 92 = .ok (.getfield 22, 3) := by decide +kernel
theorem dX6_turn_95 : decode cX6_turn 95 = .ok (.bipush 8, 2) := by decide +kernel
theorem dX6_turn_97 : decode cX6_turn 97 = .ok (.iload_n 3, 1) := by decide +kernel
theorem dX6_turn_98 : decode cX6_turn 98 = .ok (.iadd, 1) := by decide +kernel
theorem dX6_turn_99 : decode cX6_turn 99 = .ok (.iaload, 1) := by decide +kernel
theorem dX6_turn_100 : decode cX6_turn 100 = .ok (.iconst 1, 1) := by decide +kernel
theorem dX6_turn_101 : decode cX6_turn 101 = .ok (.if_icmp .le 9, 3) := by decide +kernel
theorem dX6_turn_104 : decode cX6_turn 104 = .ok (.aload_n 0, 1) := by decide +kernel
theorem dX6_turn_105 : decode cX6_turn 105 = .ok (.iload_n 3, 1) := by decide +kernel
theorem dX6_turn_106 : decode cX6_turn 106 = .ok (.invokevirtual 147, 3) := by decide +kernel
theorem dX6_turn_109 : decode cX6_turn 109 = .ok (.pop, 1) := by decide +kernel
theorem dX6_turn_110 : decode cX6_turn 110 = .ok (.return_, 1) := by decide +kernel
theorem dX6_allHave_0 : decode cX6_allHave 0 = .ok (.aload_n 0, 1) := by decide +kernel
theorem dX6_allHave_1 : decode cX6_allHave 1 = .ok (.getfield 22, 3) := by decide +kernel
theorem dX6_allHave_4 : decode cX6_allHave 4 = .ok (.iconst 1, 1) := by decide +kernel
theorem dX6_allHave_5 : decode cX6_allHave 5 = .ok (.iaload, 1) := by decide +kernel
theorem dX6_allHave_6 : decode cX6_allHave 6 = .ok (.aload_n 0, 1) := by decide +kernel
theorem dX6_allHave_7 : decode cX6_allHave 7 = .ok (.getfield 22, 3) := by decide +kernel
theorem dX6_allHave_10 : decode cX6_allHave 10 = .ok (.iconst 2, 1) := by decide +kernel
theorem dX6_allHave_11 : decode cX6_allHave 11 = .ok (.iaload, 1) := by decide +kernel
theorem dX6_allHave_12 : decode cX6_allHave 12 = .ok (.iadd, 1) := by decide +kernel
theorem dX6_allHave_13 : decode cX6_allHave 13 = .ok (.aload_n 0, 1) := by decide +kernel
theorem dX6_allHave_14 : decode cX6_allHave 14 = .ok (.getfield 22, 3) := by decide +kernel
theorem dX6_allHave_17 : decode cX6_allHave 17 = .ok (.iconst 3, 1) := by decide +kernel
theorem dX6_allHave_18 : decode cX6_allHave 18 = .ok (.iaload, 1) := by decide +kernel
theorem dX6_allHave_19 : decode cX6_allHave 19 = .ok (.iadd, 1) := by decide +kernel
theorem dX6_allHave_20 : decode cX6_allHave 20 = .ok (.aload_n 0, 1) := by decide +kernel
theorem dX6_allHave_21 : decode cX6_allHave 21 = .ok (.getfield 22, 3) := by decide +kernel
theorem dX6_allHave_24 : decode cX6_allHave 24 = .ok (.iconst 4, 1) := by decide +kernel
theorem dX6_allHave_25 : decode cX6_allHave 25 = .ok (.iaload, 1) := by decide +kernel
theorem dX6_allHave_26 : decode cX6_allHave 26 = .ok (.iadd, 1) := by decide +kernel
theorem dX6_allHave_27 : decode cX6_allHave 27 = .ok (.ireturn, 1) := by decide +kernel
theorem dX6_century_0 : decode cX6_century 0 = .ok (.iload_n 1, 1) := by decide +kernel
theorem dX6_century_1 : decode cX6_century 1 = .ok (.iconst 0, 1) := by decide +kernel
theorem dX6_century_2 : decode cX6_century 2 = .ok (.sipush 9999, 3) := by decide +kernel
theorem dX6_century_5 : decode cX6_century 5 = .ok (.invokestatic 54, 3) := by decide +kernel
theorem dX6_century_8 : decode cX6_century 8 = .ok (.ifCond .eq 22, 3) := by decide +kernel
theorem dX6_century_11 : decode cX6_century 11 = .ok (.iload_n 2, 1) := by decide +kernel
theorem dX6_century_12 : decode cX6_century 12 = .ok (.iconst 1, 1) := by decide +kernel
theorem dX6_century_13 : decode cX6_century 13 = .ok (.bipush 60, 2) := by decide +kernel
theorem dX6_century_15 : decode cX6_century 15 = .ok (.invokestatic 54, 3) := by decide +kernel
theorem dX6_century_18 : decode cX6_century 18 = .ok (.ifCond .eq 12, 3) := by decide +kernel
theorem dX6_century_21 : decode cX6_century 21 = .ok (.iload_n 3, 1) := by decide +kernel
theorem dX6_century_22 : decode cX6_century 22 = .ok (.iconst 0, 1) := by decide +kernel
theorem dX6_century_23 : decode cX6_century 23 = .ok (.iconst 1, 1) := by decide +kernel
theorem dX6_century_24 : decode cX6_century 24 = .ok (.invokestatic 54, 3) := by decide +kernel
theorem dX6_century_27 : decode cX6_century 27 = .ok (.ifCond .ne 5, 3) := by decide +kernel
theorem dX6_century_30 : decode cX6_century 30 = .ok (.iconst (-1), 1) := by decide +kernel
theorem dX6_century_31 : decode cX6_century 31 = .ok (.ireturn, 1) := by decide +kernel
theorem dX6_century_32 : decode cX6_century 32 = .ok (.aload_n 0, 1) := by decide +kernel
theorem dX6_century_33 : decode cX6_century 33 = .ok (.invokevirtual 150, 3) := by decide +kernel
theorem dX6_century_36 : decode cX6_century 36 = .ok (.iconst 0, 1) := by decide +kernel
theorem dX6_century_37 : decode cX6_century 37 = .ok (.istore 4, 2) := by decide +kernel
theorem dX6_century_39 : decode cX6_century 39 = .ok (.iload 4, 2) := by decide +kernel
theorem dX6_century_41 : decode cX6_century 41 = .ok (.iload_n 2, 1) := by decide +kernel
theorem dX6_century_42 : decode cX6_century 42 = .ok (.if_icmp .ge 46, 3) := by decide +kernel
theorem dX6_century_45 : decode cX6_century 45 = .ok (.ldc2_w 172, 3) := by decide +kernel
theorem dX6_century_48 : decode cX6_century 48 = .ok (.iload_n 1, 1) := by decide +kernel
theorem dX6_century_49 : decode cX6_century 49 = .ok (.i2l, 1) := by decide +kernel
theorem dX6_century_50 : decode cX6_century 50 = .ok (.lmul, 1) := by decide +kernel
theorem dX6_century_51 : decode cX6_century 51 = .ok (.ldc2_w 174, 3) := by decide +kernel
theorem dX6_century_54 : decode cX6_century 54 = .ok (.iload 4, 2) := by decide +kernel
theorem dX6_century_56 : decode cX6_century 56 = .ok (.i2l, 1) := by decide +kernel
theorem dX6_century_57 : decode cX6_century 57 = .ok (.lmul, 1) := by decide +kernel
theorem dX6_century_58 : decode cX6_century 58 = .ok (.ladd, 1) := by decide +kernel
theorem dX6_century_59 : decode cX6_century 59 = .ok (.lconst 1, 1) := by decide +kernel
theorem dX6_century_60 : decode cX6_century 60 = .ok (.ladd, 1) := by decide +kernel
theorem dX6_century_61 : decode cX6_century 61 = .ok (.lstore 5, 2) := by decide +kernel
theorem dX6_century_63 : decode cX6_century 63 = .ok (.aload_n 0, 1) := by decide +kernel
theorem dX6_century_64 : decode cX6_century 64 = .ok (.lload 5, 2) := by decide +kernel
theorem dX6_century_66 : decode cX6_century 66 = .ok (.lload 5, 2) := by decide +kernel
theorem dX6_century_68 : decode cX6_century 68 = .ok (.lmul, 1) := by decide +kernel
theorem dX6_century_69 : decode cX6_century 69 = .ok (.ldc2_w 176, 3) := by decide +kernel
theorem dX6_century_72 : decode cX6_century 72 = .ok (.lrem, 1) := by decide +kernel
theorem dX6_century_73 : decode cX6_century 73 = .ok (.l2i, 1) := by decide +kernel
theorem dX6_century_74 : decode cX6_century 74 = .ok (.invokevirtual 178, 3) := by decide +kernel
theorem dX6_century_77 : decode cX6_century 77 = .ok (.aload_n 0, 1) := by decide +kernel
theorem dX6_century_78 : decode cX6_century 78 = .ok (.iconst (-1), 1) := by decide +kernel
theorem dX6_century_79 : decode cX6_century 79 = .ok (.invokevirtual 138, 3) := by decide +kernel
theorem dX6_century_82 : decode cX6_century 82 = .ok (.iinc 4 1, 3) := by decide +kernel
theorem dX6_century_85 : decode cX6_century 85 = .ok (.goto (-46), 3) := by decide +kernel
theorem dX6_century_88 : decode cX6_century 88 = .ok (.iload_n 3, 1) := by decide +kernel
theorem dX6_century_89 : decode cX6_century 89 = .ok (.ifCond .ne 10, 3) := by decide +kernel
theorem dX6_century_92 : decode cX6_century 92 = .ok (.aload_n 0, 1) := by decide +kernel
theorem dX6_century_93 : decode cX6_century 93 = .ok (.invokevirtual 181, 3) := by decide +kernel
theorem dX6_century_96 : decode cX6_century 96 = .ok (.goto 8, 3) := by decide +kernel
theorem dX6_century_99 : decode cX6_century 99 = .ok (.aload_n 0, 1) := by decide +kernel
theorem dX6_century_100 : decode cX6_century 100 = .ok (.iconst 1, 1) := by decide +kernel
theorem dX6_century_101 : decode cX6_century 101 = .ok (.invokevirtual 144, 3) := by decide +kernel
theorem dX6_century_104 : decode cX6_century 104 = .ok (.istore 4, 2) := by decide +kernel
theorem dX6_century_106 : decode cX6_century 106 = .ok (.aload_n 0, 1) := by decide +kernel
theorem dX6_century_107 : decode cX6_century 107 = .ok (.invokevirtual 153, 3) := by decide +kernel
theorem dX6_century_110 : decode cX6_century 110 = .ok (.iload 4, 2) := by decide +kernel
theorem dX6_century_112 : decode cX6_century 112 = .ok (.ireturn, 1) := by decide +kernel
theorem dX6_keep_0 : decode cX6_keep 0 = .ok (.aload_n 0, 1) := by decide +kernel
theorem dX6_keep_1 : decode cX6_keep 1 = .ok (.getfield 104, 3) := by decide +kernel
theorem dX6_keep_4 : decode cX6_keep 4 = .ok (.iconst 2, 1) := by decide +kernel
theorem dX6_keep_5 : decode cX6_keep 5 = .ok (.if_icmp .ne 6, 3) := by decide +kernel
theorem dX6_keep_8 : decode cX6_keep 8 = .ok (.bipush (-3), 2) := by decide +kernel
theorem dX6_keep_10 : decode cX6_keep 10 = .ok (.ireturn, 1) := by decide +kernel
theorem dX6_keep_11 : decode cX6_keep 11 = .ok (.iconst 0, 1) := by decide +kernel
theorem dX6_keep_12 : decode cX6_keep 12 = .ok (.istore_n 1, 1) := by decide +kernel
theorem dX6_keep_13 : decode cX6_keep 13 = .ok (.iload_n 1, 1) := by decide +kernel
theorem dX6_keep_14 : decode cX6_keep 14 = .ok (.bipush 59, 2) := by decide +kernel
theorem dX6_keep_16 : decode cX6_keep 16 = .ok (.if_icmp .ge 29, 3) := by decide +kernel
theorem dX6_keep_19 : decode cX6_keep 19 = .ok (.aload_n 0, 1) := by decide +kernel
theorem dX6_keep_20 : decode cX6_keep 20 = .ok (.getfield 28, 3) := by decide +kernel
theorem dX6_keep_23 : decode cX6_keep 23 = .ok (.bipush 59, 2) := by decide +kernel
theorem dX6_keep_25 : decode cX6_keep 25 = .ok (.aload_n 0, 1) := by decide +kernel
theorem dX6_keep_26 : decode cX6_keep 26 = .ok (.getfield 104, 3) := by decide +kernel
theorem dX6_keep_29 : decode cX6_keep 29 = .ok (.imul, 1) := by decide +kernel
theorem dX6_keep_30 : decode cX6_keep 30 = .ok (.iload_n 1, 1) := by decide +kernel
theorem dX6_keep_31 : decode cX6_keep 31 = .ok (.iadd, 1) := by decide +kernel
theorem dX6_keep_32 : decode cX6_keep 32 = .ok (.aload_n 0, 1) := by decide +kernel
theorem dX6_keep_33 : decode cX6_keep 33 = .ok (.getfield 22, 3) := by decide +kernel
theorem dX6_keep_36 : decode cX6_keep 36 = .ok (.iload_n 1, 1) := by decide +kernel
theorem dX6_keep_37 : decode cX6_keep 37 = .ok (.iaload, 1) := by decide +kernel
theorem dX6_keep_38 : decode cX6_keep 38 = .ok (.iastore, 1) := by decide +kernel
theorem dX6_keep_39 : decode cX6_keep 39 = .ok (.iinc 1 1, 3) := by decide +kernel
theorem dX6_keep_42 : decode cX6_keep 42 = .ok (.goto (-29), 3) := by decide +kernel
theorem dX6_keep_45 : decode cX6_keep 45 = .ok (.aload_n 0, 1) := by decide +kernel
theorem dX6_keep_46 : decode cX6_keep 46 = .ok (.dup, 1) := by decide +kernel
theorem dX6_keep_47 : decode cX6_keep 47 = .ok (.getfield 104, 3) := by decide +kernel
theorem dX6_keep_50 : decode cX6_keep 50 = .ok (.iconst 1, 1) := by decide +kernel
theorem dX6_keep_51 : decode cX6_keep 51 = .ok (.iadd, 1) := by decide +kernel
theorem dX6_keep_52 : decode cX6_keep 52 = .ok (.putfield 104, 3) := by decide +kernel
theorem dX6_keep_55 : decode cX6_keep 55 = .ok (.aload_n 0, 1) := by decide +kernel
theorem dX6_keep_56 : decode cX6_keep 56 = .ok (.getfield 104, 3) := by decide +kernel
theorem dX6_keep_59 : decode cX6_keep 59 = .ok (.ireturn, 1) := by decide +kernel
theorem dX6_back_0 : decode cX6_back 0 = .ok (.aload_n 0, 1) := by decide +kernel
theorem dX6_back_1 : decode cX6_back 1 = .ok (.getfield 104, 3) := by decide +kernel
theorem dX6_back_4 : decode cX6_back 4 = .ok (.ifCond .ne 6, 3) := by decide +kernel
theorem dX6_back_7 : decode cX6_back 7 = .ok (.bipush (-2), 2) := by decide +kernel
theorem dX6_back_9 : decode cX6_back 9 = .ok (.ireturn, 1) := by decide +kernel
theorem dX6_back_10 : decode cX6_back 10 = .ok (.aload_n 0, 1) := by decide +kernel
theorem dX6_back_11 : decode cX6_back 11 = .ok (.dup, 1) := by decide +kernel
theorem dX6_back_12 : decode cX6_back 12 = .ok (.getfield 104, 3) := by decide +kernel
theorem dX6_back_15 : decode cX6_back 15 = .ok (.iconst 1, 1) := by decide +kernel
theorem dX6_back_16 : decode cX6_back 16 = .ok (.isub, 1) := by decide +kernel
theorem dX6_back_17 : decode cX6_back 17 = .ok (.putfield 104, 3) := by decide +kernel
theorem dX6_back_20 : decode cX6_back 20 = .ok (.iconst 0, 1) := by decide +kernel
theorem dX6_back_21 : decode cX6_back 21 = .ok (.istore_n 1, 1) := by decide +kernel
theorem dX6_back_22 : decode cX6_back 22 = .ok (.iload_n 1, 1) := by decide +kernel
theorem dX6_back_23 : decode cX6_back 23 = .ok (.bipush 59, 2) := by decide +kernel
theorem dX6_back_25 : decode cX6_back 25 = .ok (.if_icmp .ge 29, 3) := by decide +kernel
theorem dX6_back_28 : decode cX6_back 28 = .ok (.aload_n 0, 1) := by decide +kernel
theorem dX6_back_29 : decode cX6_back 29 = .ok (.getfield 22, 3) := by decide +kernel
theorem dX6_back_32 : decode cX6_back 32 = .ok (.iload_n 1, 1) := by decide +kernel
theorem dX6_back_33 : decode cX6_back 33 = .ok (.aload_n 0, 1) := by decide +kernel
theorem dX6_back_34 : decode cX6_back 34 = .ok (.getfield 28, 3) := by decide +kernel
theorem dX6_back_37 : decode cX6_back 37 = .ok (.bipush 59, 2) := by decide +kernel
theorem dX6_back_39 : decode cX6_back 39 = .ok (.aload_n 0, 1) := by decide +kernel
theorem dX6_back_40 : decode cX6_back 40 = .ok (.getfield 104, 3) := by decide +kernel
theorem dX6_back_43 : decode cX6_back 43 = .ok (.imul, 1) := by decide +kernel
theorem dX6_back_44 : decode cX6_back 44 = .ok (.iload_n 1, 1) := by decide +kernel
theorem dX6_back_45 : decode cX6_back 45 = .ok (.iadd, 1) := by decide +kernel
theorem dX6_back_46 : decode cX6_back 46 = .ok (.iaload, 1) := by decide +kernel
theorem dX6_back_47 : decode cX6_back 47 = .ok (.iastore, 1) := by decide +kernel
theorem dX6_back_48 : decode cX6_back 48 = .ok (.iinc 1 1, 3) := by decide +kernel
theorem dX6_back_51 : decode cX6_back 51 = .ok (.goto (-29), 3) := by decide +kernel
theorem dX6_back_54 : decode cX6_back 54 = .ok (.aload_n 0, 1) := by decide +kernel
theorem dX6_back_55 : decode cX6_back 55 = .ok (.iconst 0, 1) := by decide +kernel
theorem dX6_back_56 : decode cX6_back 56 = .ok (.putfield 101, 3) := by decide +kernel
theorem dX6_back_59 : decode cX6_back 59 = .ok (.aload_n 0, 1) := by decide +kernel
theorem dX6_back_60 : decode cX6_back 60 = .ok (.getfield 104, 3) := by decide +kernel
theorem dX6_back_63 : decode cX6_back 63 = .ok (.ireturn, 1) := by decide +kernel
theorem dX6_count_0 : decode cX6_count 0 = .ok (.iload_n 1, 1) := by decide +kernel
theorem dX6_count_1 : decode cX6_count 1 = .ok (.tableswitch 152 0 11 #[63, 70, 77, 84, 91, 115, 121, 127, 132, 137, 142, 147], 63) := by decide +kernel
theorem dX6_count_64 : decode cX6_count 64 = .ok (.aload_n 0, 1) := by decide +kernel
theorem dX6_count_65 : decode cX6_count 65 = .ok (.getfield 13, 3) := by decide +kernel
theorem dX6_count_68 : decode cX6_count 68 = .ok (.iconst 0, 1) := by decide +kernel
theorem dX6_count_69 : decode cX6_count 69 = .ok (.iaload, 1) := by decide +kernel
theorem dX6_count_70 : decode cX6_count 70 = .ok (.ireturn, 1) := by decide +kernel
theorem dX6_count_71 : decode cX6_count 71 = .ok (.aload_n 0, 1) := by decide +kernel
theorem dX6_count_72 : decode cX6_count 72 = .ok (.getfield 13, 3) := by decide +kernel
theorem dX6_count_75 : decode cX6_count 75 = .ok (.iconst 1, 1) := by decide +kernel
theorem dX6_count_76 : decode cX6_count 76 = .ok (.iaload, 1) := by decide +kernel
theorem dX6_count_77 : decode cX6_count 77 = .ok (.ireturn, 1) := by decide +kernel
theorem dX6_count_78 : decode cX6_count 78 = .ok (.aload_n 0, 1) := by decide +kernel
theorem dX6_count_79 : decode cX6_count 79 = .ok (.getfield 13, 3) := by decide +kernel
theorem dX6_count_82 : decode cX6_count 82 = .ok (.iconst 2, 1) := by decide +kernel
theorem dX6_count_83 : decode cX6_count 83 = .ok (.iaload, 1) := by decide +kernel
theorem dX6_count_84 : decode cX6_count 84 = .ok (.ireturn, 1) := by decide +kernel
theorem dX6_count_85 : decode cX6_count 85 = .ok (.aload_n 0, 1) := by decide +kernel
theorem dX6_count_86 : decode cX6_count 86 = .ok (.getfield 22, 3) := by decide +kernel
theorem dX6_count_89 : decode cX6_count 89 = .ok (.iconst 0, 1) := by decide +kernel
theorem dX6_count_90 : decode cX6_count 90 = .ok (.iaload, 1) := by decide +kernel
theorem dX6_count_91 : decode cX6_count 91 = .ok (.ireturn, 1) := by decide +kernel
theorem dX6_count_92 : decode cX6_count 92 = .ok (.aload_n 0, 1) := by decide +kernel
theorem dX6_count_93 : decode cX6_count 93 = .ok (.getfield 22, 3) := by decide +kernel
theorem dX6_count_96 : decode cX6_count 96 = .ok (.bipush 8, 2) := by decide +kernel
theorem dX6_count_98 : decode cX6_count 98 = .ok (.iaload, 1) := by decide +kernel
theorem dX6_count_99 : decode cX6_count 99 = .ok (.aload_n 0, 1) := by decide +kernel
theorem dX6_count_100 : decode cX6_count 100 = .ok (.getfield 22, 3) := by decide +kernel
theorem dX6_count_103 : decode cX6_count 103 = .ok (.bipush 9, 2) := by decide +kernel
theorem dX6_count_105 : decode cX6_count 105 = .ok (.iaload, 1) := by decide +kernel
theorem dX6_count_106 : decode cX6_count 106 = .ok (.iadd, 1) := by decide +kernel
theorem dX6_count_107 : decode cX6_count 107 = .ok (.aload_n 0, 1) := by decide +kernel
theorem dX6_count_108 : decode cX6_count 108 = .ok (.getfield 22, 3) := by decide +kernel
theorem dX6_count_111 : decode cX6_count 111 = .ok (.bipush 10, 2) := by decide +kernel
theorem dX6_count_113 : decode cX6_count 113 = .ok (.iaload, 1) := by decide +kernel
theorem dX6_count_114 : decode cX6_count 114 = .ok (.iadd, 1) := by decide +kernel
theorem dX6_count_115 : decode cX6_count 115 = .ok (.ireturn, 1) := by decide +kernel
theorem dX6_count_116 : decode cX6_count 116 = .ok (.aload_n 0, 1) := by decide +kernel
theorem dX6_count_117 : decode cX6_count 117 = .ok (.iconst 2, 1) := by decide +kernel
theorem dX6_count_118 : decode cX6_count 118 = .ok (.invokevirtual 144, 3) := by decide +kernel
theorem dX6_count_121 : decode cX6_count 121 = .ok (.ireturn, 1) := by decide +kernel
theorem dX6_count_122 : decode cX6_count 122 = .ok (.aload_n 0, 1) := by decide +kernel
theorem dX6_count_123 : decode cX6_count 123 = .ok (.iconst 1, 1) := by decide +kernel
theorem dX6_count_124 : decode cX6_count 124 = .ok (.invokevirtual 144, 3) := by decide +kernel
theorem dX6_count_127 : decode cX6_count 127 = .ok (.ireturn, 1) := by decide +kernel
theorem dX6_count_128 : decode cX6_count 128 = .ok (.aload_n 0, 1) := by decide +kernel
theorem dX6_count_129 : decode cX6_count 129 = .ok (.invokevirtual 181, 3) := by decide +kernel
theorem dX6_count_132 : decode cX6_count 132 = .ok (.ireturn, 1) := by decide +kernel
theorem dX6_count_133 : decode cX6_count 133 = .ok (.aload_n 0, 1) := by decide +kernel
theorem dX6_count_134 : decode cX6_count 134 = .ok (.getfield 107, 3) := by decide +kernel
theorem dX6_count_137 : decode cX6_count 137 = .ok (.ireturn, 1) := by decide +kernel
theorem dX6_count_138 : decode cX6_count 138 = .ok (.aload_n 0, 1) := by decide +kernel
theorem dX6_count_139 : decode cX6_count 139 = .ok (.getfield 101, 3) := by decide +kernel
theorem dX6_count_142 : decode cX6_count 142 = .ok (.ireturn, 1) := by decide +kernel
theorem dX6_count_143 : decode cX6_count 143 = .ok (.aload_n 0, 1) := by decide +kernel
theorem dX6_count_144 : decode cX6_count 144 = .ok (.getfield 104, 3) := by decide +kernel
theorem dX6_count_147 : decode cX6_count 147 = .ok (.ireturn, 1) := by decide +kernel
theorem dX6_count_148 : decode cX6_count 148 = .ok (.aload_n 0, 1) := by decide +kernel
theorem dX6_count_149 : decode cX6_count 149 = .ok (.getfield 58, 3) := by decide +kernel
theorem dX6_count_152 : decode cX6_count 152 = .ok (.ireturn, 1) := by decide +kernel
theorem dX6_count_153 : decode cX6_count 153 = .ok (.iconst (-1), 1) := by decide +kernel
theorem dX6_count_154 : decode cX6_count 154 = .ok (.ireturn, 1) := by decide +kernel
end
section
theorem dJ13_bitCount_95d88_0 : decode cJ13_bitCount_95d88 0 = .ok (.lload_n 0, 1) := by decide +kernel
theorem dJ13_bitCount_95d88_1 : decode cJ13_bitCount_95d88 1 = .ok (.lload_n 0, 1) := by decide +kernel
theorem dJ13_bitCount_95d88_2 : decode cJ13_bitCount_95d88 2 = .ok (.iconst 1, 1) := by decide +kernel
theorem dJ13_bitCount_95d88_3 : decode cJ13_bitCount_95d88 3 = .ok (.lushr, 1) := by decide +kernel
theorem dJ13_bitCount_95d88_4 : decode cJ13_bitCount_95d88 4 = .ok (.ldc2_w 314, 3) := by decide +kernel
theorem dJ13_bitCount_95d88_7 : decode cJ13_bitCount_95d88 7 = .ok (.land, 1) := by decide +kernel
theorem dJ13_bitCount_95d88_8 : decode cJ13_bitCount_95d88 8 = .ok (.lsub, 1) := by decide +kernel
theorem dJ13_bitCount_95d88_9 : decode cJ13_bitCount_95d88 9 = .ok (.lstore_n 0, 1) := by decide +kernel
theorem dJ13_bitCount_95d88_10 : decode cJ13_bitCount_95d88 10 = .ok (.lload_n 0, 1) := by decide +kernel
theorem dJ13_bitCount_95d88_11 : decode cJ13_bitCount_95d88 11 = .ok (.ldc2_w 316, 3) := by decide +kernel
theorem dJ13_bitCount_95d88_14 : decode cJ13_bitCount_95d88 14 = .ok (.land, 1) := by decide +kernel
theorem dJ13_bitCount_95d88_15 : decode cJ13_bitCount_95d88 15 = .ok (.lload_n 0, 1) := by decide +kernel
theorem dJ13_bitCount_95d88_16 : decode cJ13_bitCount_95d88 16 = .ok (.iconst 2, 1) := by decide +kernel
theorem dJ13_bitCount_95d88_17 : decode cJ13_bitCount_95d88 17 = .ok (.lushr, 1) := by decide +kernel
theorem dJ13_bitCount_95d88_18 : decode cJ13_bitCount_95d88 18 = .ok (.ldc2_w 316, 3) := by decide +kernel
theorem dJ13_bitCount_95d88_21 : decode cJ13_bitCount_95d88 21 = .ok (.land, 1) := by decide +kernel
theorem dJ13_bitCount_95d88_22 : decode cJ13_bitCount_95d88 22 = .ok (.ladd, 1) := by decide +kernel
theorem dJ13_bitCount_95d88_23 : decode cJ13_bitCount_95d88 23 = .ok (.lstore_n 0, 1) := by decide +kernel
theorem dJ13_bitCount_95d88_24 : decode cJ13_bitCount_95d88 24 = .ok (.lload_n 0, 1) := by decide +kernel
theorem dJ13_bitCount_95d88_25 : decode cJ13_bitCount_95d88 25 = .ok (.lload_n 0, 1) := by decide +kernel
theorem dJ13_bitCount_95d88_26 : decode cJ13_bitCount_95d88 26 = .ok (.iconst 4, 1) := by decide +kernel
theorem dJ13_bitCount_95d88_27 : decode cJ13_bitCount_95d88 27 = .ok (.lushr, 1) := by decide +kernel
theorem dJ13_bitCount_95d88_28 : decode cJ13_bitCount_95d88 28 = .ok (.ladd, 1) := by decide +kernel
theorem dJ13_bitCount_95d88_29 : decode cJ13_bitCount_95d88 29 = .ok (.ldc2_w 318, 3) := by decide +kernel
theorem dJ13_bitCount_95d88_32 : decode cJ13_bitCount_95d88 32 = .ok (.land, 1) := by decide +kernel
theorem dJ13_bitCount_95d88_33 : decode cJ13_bitCount_95d88 33 = .ok (.lstore_n 0, 1) := by decide +kernel
theorem dJ13_bitCount_95d88_34 : decode cJ13_bitCount_95d88 34 = .ok (.lload_n 0, 1) := by decide +kernel
theorem dJ13_bitCount_95d88_35 : decode cJ13_bitCount_95d88 35 = .ok (.lload_n 0, 1) := by decide +kernel
theorem dJ13_bitCount_95d88_36 : decode cJ13_bitCount_95d88 36 = .ok (.bipush 8, 2) := by decide +kernel
theorem dJ13_bitCount_95d88_38 : decode cJ13_bitCount_95d88 38 = .ok (.lushr, 1) := by decide +kernel
theorem dJ13_bitCount_95d88_39 : decode cJ13_bitCount_95d88 39 = .ok (.ladd, 1) := by decide +kernel
theorem dJ13_bitCount_95d88_40 : decode cJ13_bitCount_95d88 40 = .ok (.lstore_n 0, 1) := by decide +kernel
theorem dJ13_bitCount_95d88_41 : decode cJ13_bitCount_95d88 41 = .ok (.lload_n 0, 1) := by decide +kernel
theorem dJ13_bitCount_95d88_42 : decode cJ13_bitCount_95d88 42 = .ok (.lload_n 0, 1) := by decide +kernel
theorem dJ13_bitCount_95d88_43 : decode cJ13_bitCount_95d88 43 = .ok (.bipush 16, 2) := by decide +kernel
theorem dJ13_bitCount_95d88_45 : decode cJ13_bitCount_95d88 45 = .ok (.lushr, 1) := by decide +kernel
theorem dJ13_bitCount_95d88_46 : decode cJ13_bitCount_95d88 46 = .ok (.ladd, 1) := by decide +kernel
theorem dJ13_bitCount_95d88_47 : decode cJ13_bitCount_95d88 47 = .ok (.lstore_n 0, 1) := by decide +kernel
theorem dJ13_bitCount_95d88_48 : decode cJ13_bitCount_95d88 48 = .ok (.lload_n 0, 1) := by decide +kernel
theorem dJ13_bitCount_95d88_49 : decode cJ13_bitCount_95d88 49 = .ok (.lload_n 0, 1) := by decide +kernel
theorem dJ13_bitCount_95d88_50 : decode cJ13_bitCount_95d88 50 = .ok (.bipush 32, 2) := by decide +kernel
theorem dJ13_bitCount_95d88_52 : decode cJ13_bitCount_95d88 52 = .ok (.lushr, 1) := by decide +kernel
theorem dJ13_bitCount_95d88_53 : decode cJ13_bitCount_95d88 53 = .ok (.ladd, 1) := by decide +kernel
theorem dJ13_bitCount_95d88_54 : decode cJ13_bitCount_95d88 54 = .ok (.lstore_n 0, 1) := by decide +kernel
theorem dJ13_bitCount_95d88_55 : decode cJ13_bitCount_95d88 55 = .ok (.lload_n 0, 1) := by decide +kernel
theorem dJ13_bitCount_95d88_56 : decode cJ13_bitCount_95d88 56 = .ok (.l2i, 1) := by decide +kernel
theorem dJ13_bitCount_95d88_57 : decode cJ13_bitCount_95d88 57 = .ok (.bipush 127, 2) := by decide +kernel
theorem dJ13_bitCount_95d88_59 : decode cJ13_bitCount_95d88 59 = .ok (.iand, 1) := by decide +kernel
theorem dJ13_bitCount_95d88_60 : decode cJ13_bitCount_95d88 60 = .ok (.ireturn, 1) := by decide +kernel
theorem dJ9_min_7cf53_0 : decode cJ9_min_7cf53 0 = .ok (.iload_n 0, 1) := by decide +kernel
theorem dJ9_min_7cf53_1 : decode cJ9_min_7cf53 1 = .ok (.iload_n 1, 1) := by decide +kernel
theorem dJ9_min_7cf53_2 : decode cJ9_min_7cf53 2 = .ok (.if_icmp .gt 7, 3) := by decide +kernel
theorem dJ9_min_7cf53_5 : decode cJ9_min_7cf53 5 = .ok (.iload_n 0, 1) := by decide +kernel
theorem dJ9_min_7cf53_6 : decode cJ9_min_7cf53 6 = .ok (.goto 4, 3) := by decide +kernel
theorem dJ9_min_7cf53_9 : decode cJ9_min_7cf53 9 = .ok (.iload_n 1, 1) := by decide +kernel
theorem dJ9_min_7cf53_10 : decode cJ9_min_7cf53 10 = .ok (.ireturn, 1) := by decide +kernel
theorem dJ0_toCharArray_70df3_0 : decode cJ0_toCharArray_70df3 0 = .ok (.aload_n 0, 1) := by decide +kernel
theorem dJ0_toCharArray_70df3_1 : decode cJ0_toCharArray_70df3 1 = .ok (.invokevirtual 492, 3) := by decide +kernel
theorem dJ0_toCharArray_70df3_4 : decode cJ0_toCharArray_70df3 4 = .ok (.ifCond .eq 13, 3) := by decide +kernel
theorem dJ0_toCharArray_70df3_7 : decode cJ0_toCharArray_70df3 7 = .ok (.aload_n 0, 1) := by decide +kernel
theorem dJ0_toCharArray_70df3_8 : decode cJ0_toCharArray_70df3 8 = .ok (.getfield 9, 3) := by decide +kernel
theorem dJ0_toCharArray_70df3_11 : decode cJ0_toCharArray_70df3 11 = .ok (.invokestatic 299, 3) := by decide +kernel
theorem dJ0_toCharArray_70df3_14 : decode cJ0_toCharArray_70df3 14 = .ok (.goto 10, 3) := by decide +kernel
theorem dJ0_toCharArray_70df3_17 : decode cJ0_toCharArray_70df3 17 = .ok (.aload_n 0, 1) := by decide +kernel
theorem dJ0_toCharArray_70df3_18 : decode cJ0_toCharArray_70df3 18 = .ok (.getfield 9, 3) := by decide +kernel
theorem dJ0_toCharArray_70df3_21 : decode cJ0_toCharArray_70df3 21 = .ok (.invokestatic 303, 3) := by decide +kernel
theorem dJ0_toCharArray_70df3_24 : decode cJ0_toCharArray_70df3 24 = .ok (.areturn, 1) := by decide +kernel
theorem dJ0_isLatin1_aae02_0 : decode cJ0_isLatin1_aae02 0 = .ok (.getstatic 38, 3) := by decide +kernel
theorem dJ0_isLatin1_aae02_3 : decode cJ0_isLatin1_aae02 3 = .ok (.ifCond .eq 14, 3) := by decide +kernel
theorem dJ0_isLatin1_aae02_6 : decode cJ0_isLatin1_aae02 6 = .ok (.aload_n 0, 1) := by decide +kernel
theorem dJ0_isLatin1_aae02_7 : decode cJ0_isLatin1_aae02 7 = .ok (.getfield 15, 3) := by decide +kernel
theorem dJ0_isLatin1_aae02_10 : decode cJ0_isLatin1_aae02 10 = .ok (.ifCond .ne 7, 3) := by decide +kernel
theorem dJ0_isLatin1_aae02_13 : decode cJ0_isLatin1_aae02 13 = .ok (.iconst 1, 1) := by decide +kernel
theorem dJ0_isLatin1_aae02_14 : decode cJ0_isLatin1_aae02 14 = .ok (.goto 4, 3) := by decide +kernel
theorem dJ0_isLatin1_aae02_17 : decode cJ0_isLatin1_aae02 17 = .ok (.iconst 0, 1) := by decide +kernel
theorem dJ0_isLatin1_aae02_18 : decode cJ0_isLatin1_aae02 18 = .ok (.ireturn, 1) := by decide +kernel
theorem dJ0_checkBoundsOffCount_cabcc_0 : decode cJ0_checkBoundsOffCount_cabcc 0 = .ok (.iload_n 0, 1) := by decide +kernel
theorem dJ0_checkBoundsOffCount_cabcc_1 : decode cJ0_checkBoundsOffCount_cabcc 1 = .ok (.iload_n 1, 1) := by decide +kernel
theorem dJ0_checkBoundsOffCount_cabcc_2 : decode cJ0_checkBoundsOffCount_cabcc 2 = .ok (.iload_n 2, 1) := by decide +kernel
theorem dJ0_checkBoundsOffCount_cabcc_3 : decode cJ0_checkBoundsOffCount_cabcc 3 = .ok (.getstatic 1053, 3) := by decide +kernel
theorem dJ0_checkBoundsOffCount_cabcc_6 : decode cJ0_checkBoundsOffCount_cabcc 6 = .ok (.invokestatic 1065, 3) := by decide +kernel
theorem dJ0_checkBoundsOffCount_cabcc_9 : decode cJ0_checkBoundsOffCount_cabcc 9 = .ok (.ireturn, 1) := by decide +kernel
theorem dJ1_toChars_9d188_0 : decode cJ1_toChars_9d188 0 = .ok (.aload_n 0, 1) := by decide +kernel
theorem dJ1_toChars_9d188_1 : decode cJ1_toChars_9d188 1 = .ok (.arraylength, 1) := by decide +kernel
theorem dJ1_toChars_9d188_2 : decode cJ1_toChars_9d188 2 = .ok (.newarray .char, 2) := by decide +kernel
theorem dJ1_toChars_9d188_4 : decode cJ1_toChars_9d188 4 = .ok (.astore_n 1, 1) := by decide +kernel
theorem dJ1_toChars_9d188_5 : decode cJ1_toChars_9d188 5 = .ok (.aload_n 0, 1) := by decide +kernel
theorem dJ1_toChars_9d188_6 : decode cJ1_toChars_9d188 6 = .ok (.iconst 0, 1) := by decide +kernel
theorem dJ1_toChars_9d188_7 : decode cJ1_toChars_9d188 7 = .ok (.aload_n 1, 1) := by decide +kernel
theorem dJ1_toChars_9d188_8 : decode cJ1_toChars_9d188 8 = .ok (.iconst 0, 1) := by decide +kernel
theorem dJ1_toChars_9d188_9 : decode cJ1_toChars_9d188 9 = .ok (.aload_n 0, 1) := by decide +kernel
theorem dJ1_toChars_9d188_10 : decode cJ1_toChars_9d188 10 = .ok (.arraylength, 1) := by decide +kernel
theorem dJ1_toChars_9d188_11 : decode cJ1_toChars_9d188 11 = .ok (.invokestatic 13, 3) := by decide +kernel
theorem dJ1_toChars_9d188_14 : decode cJ1_toChars_9d188 14 = .ok (.aload_n 1, 1) := by decide +kernel
theorem dJ1_toChars_9d188_15 : decode cJ1_toChars_9d188 15 = .ok (.areturn, 1) := by decide +kernel
theorem dJ1_inflate_03870_0 : decode cJ1_inflate_03870 0 = .ok (.iconst 0, 1) := by decide +kernel
theorem dJ1_inflate_03870_1 : decode cJ1_inflate_03870 1 = .ok (.istore 5, 2) := by decide +kernel
theorem dJ1_inflate_03870_3 : decode cJ1_inflate_03870 3 = .ok (.iload 5, 2) := by decide +kernel
theorem dJ1_inflate_03870_5 : decode cJ1_inflate_03870 5 = .ok (.iload 4, 2) := by decide +kernel
theorem dJ1_inflate_03870_7 : decode cJ1_inflate_03870 7 = .ok (.if_icmp .ge 26, 3) := by decide +kernel
theorem dJ1_inflate_03870_10 : decode cJ1_inflate_03870 10 = .ok (.aload_n 2, 1) := by decide +kernel
theorem dJ1_inflate_03870_11 : decode cJ1_inflate_03870 11 = .ok (.iload_n 3, 1) := by decide +kernel
theorem dJ1_inflate_03870_12 : decode cJ1_inflate_03870 12 = .ok (.iinc 3 1, 3) := by decide +kernel
theorem dJ1_inflate_03870_15 : decode cJ1_inflate_03870 15 = .ok (.aload_n 0, 1) := by decide +kernel
theorem dJ1_inflate_03870_16 : decode cJ1_inflate_03870 16 = .ok (.iload_n 1, 1) := by decide +kernel
theorem dJ1_inflate_03870_17 : decode cJ1_inflate_03870 17 = .ok (.iinc 1 1, 3) := by decide +kernel
theorem dJ1_inflate_03870_20 : decode cJ1_inflate_03870 20 = .ok (.baload, 1) := by decide +kernel
theorem dJ1_inflate_03870_21 : decode cJ1_inflate_03870 21 = .ok (.sipush 255, 3) := by decide +kernel
theorem dJ1_inflate_03870_24 : decode cJ1_inflate_03870 24 = .ok (.iand, 1) := by decide +kernel
theorem dJ1_inflate_03870_25 : decode cJ1_inflate_03870 25 = .ok (.i2c, 1) := by decide +kernel
theorem dJ1_inflate_03870_26 : decode cJ1_inflate_03870 26 = .ok (.castore, 1) := by decide +kernel
theorem dJ1_inflate_03870_27 : decode cJ1_inflate_03870 27 = .ok (.iinc 5 1, 3) := by decide +kernel
theorem dJ1_inflate_03870_30 : decode cJ1_inflate_03870 30 = .ok (.goto (-27), 3) := by decide +kernel
theorem dJ1_inflate_03870_33 : decode cJ1_inflate_03870 33 = .ok (.return_, 1) := by decide +kernel
theorem dJ2_getChar_3b067_0 : decode cJ2_getChar_3b067 0 = .ok (.getstatic 44, 3) := by decide +kernel
theorem dJ2_getChar_3b067_3 : decode cJ2_getChar_3b067 3 = .ok (.ifCond .ne 25, 3) := by decide +kernel
theorem dJ2_getChar_3b067_6 : decode cJ2_getChar_3b067 6 = .ok (.iload_n 1, 1) := by decide +kernel
theorem dJ2_getChar_3b067_7 : decode cJ2_getChar_3b067 7 = .ok (.ifCond .lt 11, 3) := by decide +kernel
theorem dJ2_getChar_3b067_10 : decode cJ2_getChar_3b067 10 = .ok (.iload_n 1, 1) := by decide +kernel
theorem dJ2_getChar_3b067_11 : decode cJ2_getChar_3b067 11 = .ok (.aload_n 0, 1) := by decide +kernel
theorem dJ2_getChar_3b067_12 : decode cJ2_getChar_3b067 12 = .ok (.invokestatic 48, 3) := by decide +kernel
theorem dJ2_getChar_3b067_15 : decode cJ2_getChar_3b067 15 = .ok (.if_icmp .lt 13, 3) := by decide +kernel
theorem dJ2_getChar_3b067_18 : decode cJ2_getChar_3b067 18 = .ok (.new 52, 3) := by decide +kernel
theorem dJ2_getChar_3b067_21 : decode cJ2_getChar_3b067 21 = .ok (.dup, 1) := by decide +kernel
theorem dJ2_getChar_3b067_22 : decode cJ2_getChar_3b067 22 = .ok (.ldc 54, 2) := by decide +kernel
theorem dJ2_getChar_3b067_24 : decode cJ2_getChar_3b067 24 = .ok (.invokespecial 56, 3) := by decide +kernel
theorem dJ2_getChar_3b067_27 : decode cJ2_getChar_3b067 27 = .ok (.athrow, 1) := by decide +kernel
theorem dJ2_getChar_3b067_28 : decode cJ2_getChar_3b067 28 = .ok (.iload_n 1, 1) := by decide +kernel
theorem dJ2_getChar_3b067_29 : decode cJ2_getChar_3b067 29 = .ok (.iconst 1, 1) := by decide +kernel
theorem dJ2_getChar_3b067_30 : decode cJ2_getChar_3b067 30 = .ok (.ishl, 1) := by decide +kernel
theorem dJ2_getChar_3b067_31 : decode cJ2_getChar_3b067 31 = .ok (.istore_n 1, 1) := by decide +kernel
theorem dJ2_getChar_3b067_32 : decode cJ2_getChar_3b067 32 = .ok (.aload_n 0, 1) := by decide +kernel
theorem dJ2_getChar_3b067_33 : decode cJ2_getChar_3b067 33 = .ok (.iload_n 1, 1) := by decide +kernel
theorem dJ2_getChar_3b067_34 : decode cJ2_getChar_3b067 34 = .ok (.iinc 1 1, 3) := by decide +kernel
theorem dJ2_getChar_3b067_37 : decode cJ2_getChar_3b067 37 = .ok (.baload, 1) := by decide +kernel
theorem dJ2_getChar_3b067_38 : decode cJ2_getChar_3b067 38 = .ok (.sipush 255, 3) := by decide +kernel
theorem dJ2_getChar_3b067_41 : decode cJ2_getChar_3b067 41 = .ok (.iand, 1) := by decide +kernel
theorem dJ2_getChar_3b067_42 : decode cJ2_getChar_3b067 42 = .ok (.getstatic 59, 3) := by decide +kernel
theorem dJ2_getChar_3b067_45 : decode cJ2_getChar_3b067 45 = .ok (.ishl, 1) := by decide +kernel
theorem dJ2_getChar_3b067_46 : decode cJ2_getChar_3b067 46 = .ok (.aload_n 0, 1) := by decide +kernel
theorem dJ2_getChar_3b067_47 : decode cJ2_getChar_3b067 47 = .ok (.iload_n 1, 1) := by decide +kernel
theorem dJ2_getChar_3b067_48 : decode cJ2_getChar_3b067 48 = .ok (.baload, 1) := by decide +kernel
theorem dJ2_getChar_3b067_49 : decode cJ2_getChar_3b067 49 = .ok (.sipush 255, 3) := by decide +kernel
theorem dJ2_getChar_3b067_52 : decode cJ2_getChar_3b067 52 = .ok (.iand, 1) := by decide +kernel
theorem dJ2_getChar_3b067_53 : decode cJ2_getChar_3b067 53 = .ok (.getstatic 63, 3) := by decide +kernel
theorem dJ2_getChar_3b067_56 : decode cJ2_getChar_3b067 56 = .ok (.ishl, 1) := by decide +kernel
theorem dJ2_getChar_3b067_57 : decode cJ2_getChar_3b067 57 = .ok (.ior, 1) := by decide +kernel
theorem dJ2_getChar_3b067_58 : decode cJ2_getChar_3b067 58 = .ok (.i2c, 1) := by decide +kernel
theorem dJ2_getChar_3b067_59 : decode cJ2_getChar_3b067 59 = .ok (.ireturn, 1) := by decide +kernel
theorem dJ2_length_9d52b_0 : decode cJ2_length_9d52b 0 = .ok (.aload_n 0, 1) := by decide +kernel
theorem dJ2_length_9d52b_1 : decode cJ2_length_9d52b 1 = .ok (.arraylength, 1) := by decide +kernel
theorem dJ2_length_9d52b_2 : decode cJ2_length_9d52b 2 = .ok (.iconst 1, 1) := by decide +kernel
theorem dJ2_length_9d52b_3 : decode cJ2_length_9d52b 3 = .ok (.ishr, 1) := by decide +kernel
theorem dJ2_length_9d52b_4 : decode cJ2_length_9d52b 4 = .ok (.ireturn, 1) := by decide +kernel
theorem dJ2_toChars_9d188_0 : decode cJ2_toChars_9d188 0 = .ok (.aload_n 0, 1) := by decide +kernel
theorem dJ2_toChars_9d188_1 : decode cJ2_toChars_9d188 1 = .ok (.arraylength, 1) := by decide +kernel
theorem dJ2_toChars_9d188_2 : decode cJ2_toChars_9d188 2 = .ok (.iconst 1, 1) := by decide +kernel
theorem dJ2_toChars_9d188_3 : decode cJ2_toChars_9d188 3 = .ok (.ishr, 1) := by decide +kernel
theorem dJ2_toChars_9d188_4 : decode cJ2_toChars_9d188 4 = .ok (.newarray .char, 2) := by decide +kernel
theorem dJ2_toChars_9d188_6 : decode cJ2_toChars_9d188 6 = .ok (.astore_n 1, 1) := by decide +kernel
theorem dJ2_toChars_9d188_7 : decode cJ2_toChars_9d188 7 = .ok (.aload_n 0, 1) := by decide +kernel
theorem dJ2_toChars_9d188_8 : decode cJ2_toChars_9d188 8 = .ok (.iconst 0, 1) := by decide +kernel
theorem dJ2_toChars_9d188_9 : decode cJ2_toChars_9d188 9 = .ok (.aload_n 1, 1) := by decide +kernel
theorem dJ2_toChars_9d188_10 : decode cJ2_toChars_9d188 10 = .ok (.arraylength, 1) := by decide +kernel
theorem dJ2_toChars_9d188_11 : decode cJ2_toChars_9d188 11 = .ok (.aload_n 1, 1) := by decide +kernel
theorem dJ2_toChars_9d188_12 : decode cJ2_toChars_9d188 12 = .ok (.iconst 0, 1) := by decide +kernel
theorem dJ2_toChars_9d188_13 : decode cJ2_toChars_9d188 13 = .ok (.invokestatic 103, 3) := by decide +kernel
theorem dJ2_toChars_9d188_16 : decode cJ2_toChars_9d188 16 = .ok (.aload_n 1, 1) := by decide +kernel
theorem dJ2_toChars_9d188_17 : decode cJ2_toChars_9d188 17 = .ok (.areturn, 1) := by decide +kernel
theorem dJ2_getChars_a1a8b_0 : decode cJ2_getChars_a1a8b 0 = .ok (.iload_n 1, 1) := by decide +kernel
theorem dJ2_getChars_a1a8b_1 : decode cJ2_getChars_a1a8b 1 = .ok (.iload_n 2, 1) := by decide +kernel
theorem dJ2_getChars_a1a8b_2 : decode cJ2_getChars_a1a8b 2 = .ok (.if_icmp .ge 11, 3) := by decide +kernel
theorem dJ2_getChars_a1a8b_5 : decode cJ2_getChars_a1a8b 5 = .ok (.iload_n 1, 1) := by decide +kernel
theorem dJ2_getChars_a1a8b_6 : decode cJ2_getChars_a1a8b 6 = .ok (.iload_n 2, 1) := by decide +kernel
theorem dJ2_getChars_a1a8b_7 : decode cJ2_getChars_a1a8b 7 = .ok (.iload_n 1, 1) := by decide +kernel
theorem dJ2_getChars_a1a8b_8 : decode cJ2_getChars_a1a8b 8 = .ok (.isub, 1) := by decide +kernel
theorem dJ2_getChars_a1a8b_9 : decode cJ2_getChars_a1a8b 9 = .ok (.aload_n 0, 1) := by decide +kernel
theorem dJ2_getChars_a1a8b_10 : decode cJ2_getChars_a1a8b 10 = .ok (.invokestatic 173, 3) := by decide +kernel
theorem dJ2_getChars_a1a8b_13 : decode cJ2_getChars_a1a8b 13 = .ok (.iload_n 1, 1) := by decide +kernel
theorem dJ2_getChars_a1a8b_14 : decode cJ2_getChars_a1a8b 14 = .ok (.istore 5, 2) := by decide +kernel
theorem dJ2_getChars_a1a8b_16 : decode cJ2_getChars_a1a8b 16 = .ok (.iload 5, 2) := by decide +kernel
theorem dJ2_getChars_a1a8b_18 : decode cJ2_getChars_a1a8b 18 = .ok (.iload_n 2, 1) := by decide +kernel
theorem dJ2_getChars_a1a8b_19 : decode cJ2_getChars_a1a8b 19 = .ok (.if_icmp .ge 22, 3) := by decide +kernel
theorem dJ2_getChars_a1a8b_22 : decode cJ2_getChars_a1a8b 22 = .ok (.aload_n 3, 1) := by decide +kernel
theorem dJ2_getChars_a1a8b_23 : decode cJ2_getChars_a1a8b 23 = .ok (.iload 4, 2) := by decide +kernel
theorem dJ2_getChars_a1a8b_25 : decode cJ2_getChars_a1a8b 25 = .ok (.iinc 4 1, 3) := by decide +kernel
theorem dJ2_getChars_a1a8b_28 : decode cJ2_getChars_a1a8b 28 = .ok (.aload_n 0, 1) := by decide +kernel
theorem dJ2_getChars_a1a8b_29 : decode cJ2_getChars_a1a8b 29 = .ok (.iload 5, 2) := by decide +kernel
theorem dJ2_getChars_a1a8b_31 : decode cJ2_getChars_a1a8b 31 = .ok (.invokestatic 71, 3) := by decide +kernel
theorem dJ2_getChars_a1a8b_34 : decode cJ2_getChars_a1a8b 34 = .ok (.castore, 1) := by decide +kernel
theorem dJ2_getChars_a1a8b_35 : decode cJ2_getChars_a1a8b 35 = .ok (.iinc 5 1, 3) := by decide +kernel
theorem dJ2_getChars_a1a8b_38 : decode cJ2_getChars_a1a8b 38 = .ok (.goto (-22), 3) := by decide +kernel
theorem dJ2_getChars_a1a8b_41 : decode cJ2_getChars_a1a8b 41 = .ok (.return_, 1) := by decide +kernel
theorem dJ2_checkBoundsOffCount_d044e_0 : decode cJ2_checkBoundsOffCount_d044e 0 = .ok (.iload_n 0, 1) := by decide +kernel
theorem dJ2_checkBoundsOffCount_d044e_1 : decode cJ2_checkBoundsOffCount_d044e 1 = .ok (.iload_n 1, 1) := by decide +kernel
theorem dJ2_checkBoundsOffCount_d044e_2 : decode cJ2_checkBoundsOffCount_d044e 2 = .ok (.aload_n 2, 1) := by decide +kernel
theorem dJ2_checkBoundsOffCount_d044e_3 : decode cJ2_checkBoundsOffCount_d044e 3 = .ok (.invokestatic 48, 3) := by decide +kernel
theorem dJ2_checkBoundsOffCount_d044e_6 : decode cJ2_checkBoundsOffCount_d044e 6 = .ok (.invokestatic 419, 3) := by decide +kernel
theorem dJ2_checkBoundsOffCount_d044e_9 : decode cJ2_checkBoundsOffCount_d044e 9 = .ok (.pop, 1) := by decide +kernel
theorem dJ2_checkBoundsOffCount_d044e_10 : decode cJ2_checkBoundsOffCount_d044e 10 = .ok (.return_, 1) := by decide +kernel
theorem dJ3_checkFromIndexSize_8c36e_0 : decode cJ3_checkFromIndexSize_8c36e 0 = .ok (.iload_n 2, 1) := by decide +kernel
theorem dJ3_checkFromIndexSize_8c36e_1 : decode cJ3_checkFromIndexSize_8c36e 1 = .ok (.iload_n 0, 1) := by decide +kernel
theorem dJ3_checkFromIndexSize_8c36e_2 : decode cJ3_checkFromIndexSize_8c36e 2 = .ok (.ior, 1) := by decide +kernel
theorem dJ3_checkFromIndexSize_8c36e_3 : decode cJ3_checkFromIndexSize_8c36e 3 = .ok (.iload_n 1, 1) := by decide +kernel
theorem dJ3_checkFromIndexSize_8c36e_4 : decode cJ3_checkFromIndexSize_8c36e 4 = .ok (.ior, 1) := by decide +kernel
theorem dJ3_checkFromIndexSize_8c36e_5 : decode cJ3_checkFromIndexSize_8c36e 5 = .ok (.ifCond .lt 10, 3) := by decide +kernel
theorem dJ3_checkFromIndexSize_8c36e_8 : decode cJ3_checkFromIndexSize_8c36e 8 = .ok (.iload_n 1, 1) := by decide +kernel
theorem dJ3_checkFromIndexSize_8c36e_9 : decode cJ3_checkFromIndexSize_8c36e 9 = .ok (.iload_n 2, 1) := by decide +kernel
theorem dJ3_checkFromIndexSize_8c36e_10 : decode cJ3_checkFromIndexSize_8c36e 10 = .ok (.iload_n 0, 1) := by decide +kernel
theorem dJ3_checkFromIndexSize_8c36e_11 : decode cJ3_checkFromIndexSize_8c36e 11 = .ok (.isub, 1) := by decide +kernel
theorem dJ3_checkFromIndexSize_8c36e_12 : decode cJ3_checkFromIndexSize_8c36e 12 = .ok (.if_icmp .le 11, 3) := by decide +kernel
theorem dJ3_checkFromIndexSize_8c36e_15 : decode cJ3_checkFromIndexSize_8c36e 15 = .ok (.aload_n 3, 1) := by decide +kernel
theorem dJ3_checkFromIndexSize_8c36e_16 : decode cJ3_checkFromIndexSize_8c36e 16 = .ok (.iload_n 0, 1) := by decide +kernel
theorem dJ3_checkFromIndexSize_8c36e_17 : decode cJ3_checkFromIndexSize_8c36e 17 = .ok (.iload_n 1, 1) := by decide +kernel
theorem dJ3_checkFromIndexSize_8c36e_18 : decode cJ3_checkFromIndexSize_8c36e 18 = .ok (.iload_n 2, 1) := by decide +kernel
theorem dJ3_checkFromIndexSize_8c36e_19 : decode cJ3_checkFromIndexSize_8c36e 19 = .ok (.invokestatic 103, 3) := by decide +kernel
theorem dJ3_checkFromIndexSize_8c36e_22 : decode cJ3_checkFromIndexSize_8c36e 22 = .ok (.athrow, 1) := by decide +kernel
theorem dJ3_checkFromIndexSize_8c36e_23 : decode cJ3_checkFromIndexSize_8c36e 23 = .ok (.iload_n 0, 1) := by decide +kernel
theorem dJ3_checkFromIndexSize_8c36e_24 : decode cJ3_checkFromIndexSize_8c36e 24 = .ok (.ireturn, 1) := by decide +kernel
theorem dL_law_0 : decode cL_law 0 = .ok (.new 7, 3) := by decide +kernel
theorem dL_law_3 : decode cL_law 3 = .ok (.dup, 1) := by decide +kernel
theorem dL_law_4 : decode cL_law 4 = .ok (.invokespecial 9, 3) := by decide +kernel
theorem dL_law_7 : decode cL_law 7 = .ok (.astore_n 1, 1) := by decide +kernel
theorem dL_law_8 : decode cL_law 8 = .ok (.new 10, 3) := by decide +kernel
theorem dL_law_11 : decode cL_law 11 = .ok (.dup, 1) := by decide +kernel
theorem dL_law_12 : decode cL_law 12 = .ok (.invokespecial 12, 3) := by decide +kernel
theorem dL_law_15 : decode cL_law 15 = .ok (.astore_n 2, 1) := by decide +kernel
theorem dL_law_16 : decode cL_law 16 = .ok (.iconst 0, 1) := by decide +kernel
theorem dL_law_17 : decode cL_law 17 = .ok (.istore_n 3, 1) := by decide +kernel
theorem dL_law_18 : decode cL_law 18 = .ok (.iload_n 3, 1) := by decide +kernel
theorem dL_law_19 : decode cL_law 19 = .ok (.aload_n 0, 1) := by decide +kernel
theorem dL_law_20 : decode cL_law 20 = .ok (.arraylength, 1) := by decide +kernel
theorem dL_law_21 : decode cL_law 21 = .ok (.bipush 6, 2) := by decide +kernel
theorem dL_law_23 : decode cL_law 23 = .ok (.isub, 1) := by decide +kernel
theorem dL_law_24 : decode cL_law 24 = .ok (.if_icmp .gt 916, 3) := by decide +kernel
theorem dL_law_27 : decode cL_law 27 = .ok (.aload_n 0, 1) := by decide +kernel
theorem dL_law_28 : decode cL_law 28 = .ok (.iload_n 3, 1) := by decide +kernel
theorem dL_law_29 : decode cL_law 29 = .ok (.iaload, 1) := by decide +kernel
theorem dL_law_30 : decode cL_law 30 = .ok (.bipush 31, 2) := by decide +kernel
theorem dL_law_32 : decode cL_law 32 = .ok (.iand, 1) := by decide +kernel
theorem dL_law_33 : decode cL_law 33 = .ok (.tableswitch 901 0 27 #[127, 150, 163, 176, 189, 222, 255, 288, 311, 334, 357, 380, 403, 416, 449, 482, 515, 548, 561, 614, 657, 700, 713, 746, 809, 852, 865, 878], 127) := by decide +kernel
theorem dL_law_160 : decode cL_law 160 = .ok (.aload_n 1, 1) := by decide +kernel
theorem dL_law_161 : decode cL_law 161 = .ok (.aload_n 0, 1) := by decide +kernel
theorem dL_law_162 : decode cL_law 162 = .ok (.iload_n 3, 1) := by decide +kernel
theorem dL_law_163 : decode cL_law 163 = .ok (.iconst 1, 1) := by decide +kernel
theorem dL_law_164 : decode cL_law 164 = .ok (.iadd, 1) := by decide +kernel
theorem dL_law_165 : decode cL_law 165 = .ok (.iaload, 1) := by decide +kernel
theorem dL_law_166 : decode cL_law 166 = .ok (.invokevirtual 13, 3) := by decide +kernel
theorem dL_law_169 : decode cL_law 169 = .ok (.aload_n 2, 1) := by decide +kernel
theorem dL_law_170 : decode cL_law 170 = .ok (.aload_n 0, 1) := by decide +kernel
theorem dL_law_171 : decode cL_law 171 = .ok (.iload_n 3, 1) := by decide +kernel
theorem dL_law_172 : decode cL_law 172 = .ok (.iconst 1, 1) := by decide +kernel
theorem dL_law_173 : decode cL_law 173 = .ok (.iadd, 1) := by decide +kernel
theorem dL_law_174 : decode cL_law 174 = .ok (.iaload, 1) := by decide +kernel
theorem dL_law_175 : decode cL_law 175 = .ok (.invokevirtual 17, 3) := by decide +kernel
theorem dL_law_178 : decode cL_law 178 = .ok (.if_icmp .eq 756, 3) := by decide +kernel
theorem dL_law_181 : decode cL_law 181 = .ok (.iconst 0, 1) := by decide +kernel
theorem dL_law_182 : decode cL_law 182 = .ok (.ireturn, 1) := by decide +kernel
theorem dL_law_183 : decode cL_law 183 = .ok (.aload_n 1, 1) := by decide +kernel
theorem dL_law_184 : decode cL_law 184 = .ok (.invokevirtual 18, 3) := by decide +kernel
theorem dL_law_187 : decode cL_law 187 = .ok (.aload_n 2, 1) := by decide +kernel
theorem dL_law_188 : decode cL_law 188 = .ok (.invokevirtual 22, 3) := by decide +kernel
theorem dL_law_191 : decode cL_law 191 = .ok (.if_icmp .eq 743, 3) := by decide +kernel
theorem dL_law_194 : decode cL_law 194 = .ok (.iconst 0, 1) := by decide +kernel
theorem dL_law_195 : decode cL_law 195 = .ok (.ireturn, 1) := by decide +kernel
theorem dL_law_196 : decode cL_law 196 = .ok (.aload_n 1, 1) := by decide +kernel
theorem dL_law_197 : decode cL_law 197 = .ok (.invokevirtual 23, 3) := by decide +kernel
theorem dL_law_200 : decode cL_law 200 = .ok (.aload_n 2, 1) := by decide +kernel
theorem dL_law_201 : decode cL_law 201 = .ok (.invokevirtual 26, 3) := by decide +kernel
theorem dL_law_204 : decode cL_law 204 = .ok (.if_icmp .eq 730, 3) := by decide +kernel
theorem dL_law_207 : decode cL_law 207 = .ok (.iconst 0, 1) := by decide +kernel
theorem dL_law_208 : decode cL_law 208 = .ok (.ireturn, 1) := by decide +kernel
theorem dL_law_209 : decode cL_law 209 = .ok (.aload_n 1, 1) := by decide +kernel
theorem dL_law_210 : decode cL_law 210 = .ok (.invokevirtual 27, 3) := by decide +kernel
theorem dL_law_213 : decode cL_law 213 = .ok (.aload_n 2, 1) := by decide +kernel
theorem dL_law_214 : decode cL_law 214 = .ok (.invokevirtual 30, 3) := by decide +kernel
theorem dL_law_217 : decode cL_law 217 = .ok (.if_icmp .eq 717, 3) := by decide +kernel
theorem dL_law_220 : decode cL_law 220 = .ok (.iconst 0, 1) := by decide +kernel
theorem dL_law_221 : decode cL_law 221 = .ok (.ireturn, 1) := by decide +kernel
theorem dL_law_222 : decode cL_law 222 = .ok (.aload_n 1, 1) := by decide +kernel
theorem dL_law_223 : decode cL_law 223 = .ok (.aload_n 0, 1) := by decide +kernel
theorem dL_law_224 : decode cL_law 224 = .ok (.iload_n 3, 1) := by decide +kernel
theorem dL_law_225 : decode cL_law 225 = .ok (.iconst 1, 1) := by decide +kernel
theorem dL_law_226 : decode cL_law 226 = .ok (.iadd, 1) := by decide +kernel
theorem dL_law_227 : decode cL_law 227 = .ok (.iaload, 1) := by decide +kernel
theorem dL_law_228 : decode cL_law 228 = .ok (.aload_n 0, 1) := by decide +kernel
theorem dL_law_229 : decode cL_law 229 = .ok (.iload_n 3, 1) := by decide +kernel
theorem dL_law_230 : decode cL_law 230 = .ok (.iconst 2, 1) := by decide +kernel
theorem dL_law_231 : decode cL_law 231 = .ok (.iadd, 1) := by decide +kernel
theorem dL_law_232 : decode cL_law 232 = .ok (.iaload, 1) := by decide +kernel
theorem dL_law_233 : decode cL_law 233 = .ok (.invokevirtual 31, 3) := by decide +kernel
theorem dL_law_236 : decode cL_law 236 = .ok (.aload_n 2, 1) := by decide +kernel
theorem dL_law_237 : decode cL_law 237 = .ok (.aload_n 0, 1) := by decide +kernel
theorem dL_law_238 : decode cL_law 238 = .ok (.iload_n 3, 1) := by decide +kernel
theorem dL_law_239 : decode cL_law 239 = .ok (.iconst 1, 1) := by decide +kernel
theorem dL_law_240 : decode cL_law 240 = .ok (.iadd, 1) := by decide +kernel
theorem dL_law_241 : decode cL_law 241 = .ok (.iaload, 1) := by decide +kernel
theorem dL_law_242 : decode cL_law 242 = .ok (.aload_n 0, 1) := by decide +kernel
theorem dL_law_243 : decode cL_law 243 = .ok (.iload_n 3, 1) := by decide +kernel
theorem dL_law_244 : decode cL_law 244 = .ok (.iconst 2, 1) := by decide +kernel
theorem dL_law_245 : decode cL_law 245 = .ok (.iadd, 1) := by decide +kernel
theorem dL_law_246 : decode cL_law 246 = .ok (.iaload, 1) := by decide +kernel
theorem dL_law_247 : decode cL_law 247 = .ok (.invokevirtual 35, 3) := by decide +kernel
theorem dL_law_250 : decode cL_law 250 = .ok (.if_icmp .eq 684, 3) := by decide +kernel
theorem dL_law_253 : decode cL_law 253 = .ok (.iconst 0, 1) := by decide +kernel
theorem dL_law_254 : decode cL_law 254 = .ok (.ireturn, 1) := by decide +kernel
theorem dL_law_255 : decode cL_law 255 = .ok (.aload_n 1, 1) := by decide +kernel
theorem dL_law_256 : decode cL_law 256 = .ok (.aload_n 0, 1) := by decide +kernel
theorem dL_law_257 : decode cL_law 257 = .ok (.iload_n 3, 1) := by decide +kernel
theorem dL_law_258 : decode cL_law 258 = .ok (.iconst 1, 1) := by decide +kernel
theorem dL_law_259 : decode cL_law 259 = .ok (.iadd, 1) := by decide +kernel
theorem dL_law_260 : decode cL_law 260 = .ok (.iaload, 1) := by decide +kernel
theorem dL_law_261 : decode cL_law 261 = .ok (.aload_n 0, 1) := by decide +kernel
theorem dL_law_262 : decode cL_law 262 = .ok (.iload_n 3, 1) := by decide +kernel
theorem dL_law_263 : decode cL_law 263 = .ok (.iconst 2, 1) := by decide +kernel
theorem dL_law_264 : decode cL_law 264 = .ok (.iadd, 1) := by decide +kernel
theorem dL_law_265 : decode cL_law 265 = .ok (.iaload, 1) := by decide +kernel
theorem dL_law_266 : decode cL_law 266 = .ok (.invokevirtual 36, 3) := by decide +kernel
theorem dL_law_269 : decode cL_law 269 = .ok (.aload_n 2, 1) := by decide +kernel
theorem dL_law_270 : decode cL_law 270 = .ok (.aload_n 0, 1) := by decide +kernel
theorem dL_law_271 : decode cL_law 271 = .ok (.iload_n 3, 1) := by decide +kernel
theorem dL_law_272 : decode cL_law 272 = .ok (.iconst 1, 1) := by decide +kernel
theorem dL_law_273 : decode cL_law 273 = .ok (.iadd, 1) := by decide +kernel
theorem dL_law_274 : decode cL_law 274 = .ok (.iaload, 1) := by decide +kernel
theorem dL_law_275 : decode cL_law 275 = .ok (.aload_n 0, 1) := by decide +kernel
theorem dL_law_276 : decode cL_law 276 = .ok (.iload_n 3, 1) := by decide +kernel
theorem dL_law_277 : decode cL_law 277 = .ok (.iconst 2, 1) := by decide +kernel
theorem dL_law_278 : decode cL_law 278 = .ok (.iadd, 1) := by decide +kernel
theorem dL_law_279 : decode cL_law 279 = .ok (.iaload, 1) := by decide +kernel
theorem dL_law_280 : decode cL_law 280 = .ok (.invokevirtual 39, 3) := by decide +kernel
theorem dL_law_283 : decode cL_law 283 = .ok (.if_icmp .eq 651, 3) := by decide +kernel
theorem dL_law_286 : decode cL_law 286 = .ok (.iconst 0, 1) := by decide +kernel
theorem dL_law_287 : decode cL_law 287 = .ok (.ireturn, 1) := by decide +kernel
theorem dL_law_288 : decode cL_law 288 = .ok (.aload_n 1, 1) := by decide +kernel
theorem dL_law_289 : decode cL_law 289 = .ok (.aload_n 0, 1) := by decide +kernel
theorem dL_law_290 : decode cL_law 290 = .ok (.iload_n 3, 1) := by decide +kernel
theorem dL_law_291 : decode cL_law 291 = .ok (.iconst 1, 1) := by decide +kernel
theorem dL_law_292 : decode cL_law 292 = .ok (.iadd, 1) := by decide +kernel
theorem dL_law_293 : decode cL_law 293 = .ok (.iaload, 1) := by decide +kernel
theorem dL_law_294 : decode cL_law 294 = .ok (.aload_n 0, 1) := by decide +kernel
theorem dL_law_295 : decode cL_law 295 = .ok (.iload_n 3, 1) := by decide +kernel
theorem dL_law_296 : decode cL_law 296 = .ok (.iconst 2, 1) := by decide +kernel
theorem dL_law_297 : decode cL_law 297 = .ok (.iadd, 1) := by decide +kernel
theorem dL_law_298 : decode cL_law 298 = .ok (.iaload, 1) := by decide +kernel
theorem dL_law_299 : decode cL_law 299 = .ok (.invokevirtual 40, 3) := by decide +kernel
theorem dL_law_302 : decode cL_law 302 = .ok (.aload_n 2, 1) := by decide +kernel
theorem dL_law_303 : decode cL_law 303 = .ok (.aload_n 0, 1) := by decide +kernel
theorem dL_law_304 : decode cL_law 304 = .ok (.iload_n 3, 1) := by decide +kernel
theorem dL_law_305 : decode cL_law 305 = .ok (.iconst 1, 1) := by decide +kernel
theorem dL_law_306 : decode cL_law 306 = .ok (.iadd, 1) := by decide +kernel
theorem dL_law_307 : decode cL_law 307 = .ok (.iaload, 1) := by decide +kernel
theorem dL_law_308 : decode cL_law 308 = .ok (.aload_n 0, 1) := by decide +kernel
theorem dL_law_309 : decode cL_law 309 = .ok (.iload_n 3, 1) := by decide +kernel
theorem dL_law_310 : decode cL_law 310 = .ok (.iconst 2, 1) := by decide +kernel
theorem dL_law_311 : decode cL_law 311 = .ok (.iadd, 1) := by decide +kernel
theorem dL_law_312 : decode cL_law 312 = .ok (.iaload, 1) := by decide +kernel
theorem dL_law_313 : decode cL_law 313 = .ok (.invokevirtual 43, 3) := by decide +kernel
theorem dL_law_316 : decode cL_law 316 = .ok (.if_icmp .eq 618, 3) := by decide +kernel
theorem dL_law_319 : decode cL_law 319 = .ok (.iconst 0, 1) := by decide +kernel
theorem dL_law_320 : decode cL_law 320 = .ok (.ireturn, 1) := by decide +kernel
theorem dL_law_321 : decode cL_law 321 = .ok (.aload_n 1, 1) := by decide +kernel
theorem dL_law_322 : decode cL_law 322 = .ok (.aload_n 0, 1) := by decide +kernel
theorem dL_law_323 : decode cL_law 323 = .ok (.iload_n 3, 1) := by decide +kernel
theorem dL_law_324 : decode cL_law 324 = .ok (.iconst 1, 1) := by decide +kernel
theorem dL_law_325 : decode cL_law 325 = .ok (.iadd, 1) := by decide +kernel
theorem dL_law_326 : decode cL_law 326 = .ok (.iaload, 1) := by decide +kernel
theorem dL_law_327 : decode cL_law 327 = .ok (.invokevirtual 44, 3) := by decide +kernel
theorem dL_law_330 : decode cL_law 330 = .ok (.aload_n 2, 1) := by decide +kernel
theorem dL_law_331 : decode cL_law 331 = .ok (.aload_n 0, 1) := by decide +kernel
theorem dL_law_332 : decode cL_law 332 = .ok (.iload_n 3, 1) := by decide +kernel
theorem dL_law_333 : decode cL_law 333 = .ok (.iconst 1, 1) := by decide +kernel
theorem dL_law_334 : decode cL_law 334 = .ok (.iadd, 1) := by decide +kernel
theorem dL_law_335 : decode cL_law 335 = .ok (.iaload, 1) := by decide +kernel
theorem dL_law_336 : decode cL_law 336 = .ok (.invokevirtual 47, 3) := by decide +kernel
theorem dL_law_339 : decode cL_law 339 = .ok (.if_icmp .eq 595, 3) := by decide +kernel
theorem dL_law_342 : decode cL_law 342 = .ok (.iconst 0, 1) := by decide +kernel
theorem dL_law_343 : decode cL_law 343 = .ok (.ireturn, 1) := by decide +kernel
theorem dL_law_344 : decode cL_law 344 = .ok (.aload_n 1, 1) := by decide +kernel
theorem dL_law_345 : decode cL_law 345 = .ok (.aload_n 0, 1) := by decide +kernel
theorem dL_law_346 : decode cL_law 346 = .ok (.iload_n 3, 1) := by decide +kernel
theorem dL_law_347 : decode cL_law 347 = .ok (.iconst 1, 1) := by decide +kernel
theorem dL_law_348 : decode cL_law 348 = .ok (.iadd, 1) := by decide +kernel
theorem dL_law_349 : decode cL_law 349 = .ok (.iaload, 1) := by decide +kernel
theorem dL_law_350 : decode cL_law 350 = .ok (.invokevirtual 48, 3) := by decide +kernel
theorem dL_law_353 : decode cL_law 353 = .ok (.aload_n 2, 1) := by decide +kernel
theorem dL_law_354 : decode cL_law 354 = .ok (.aload_n 0, 1) := by decide +kernel
theorem dL_law_355 : decode cL_law 355 = .ok (.iload_n 3, 1) := by decide +kernel
theorem dL_law_356 : decode cL_law 356 = .ok (.iconst 1, 1) := by decide +kernel
theorem dL_law_357 : decode cL_law 357 = .ok (.iadd, 1) := by decide +kernel
theorem dL_law_358 : decode cL_law 358 = .ok (.iaload, 1) := by decide +kernel
theorem dL_law_359 : decode cL_law 359 = .ok (.invokevirtual 51, 3) := by decide +kernel
theorem dL_law_362 : decode cL_law 362 = .ok (.if_icmp .eq 572, 3) := by decide +kernel
theorem dL_law_365 : decode cL_law 365 = .ok (.iconst 0, 1) := by decide +kernel
theorem dL_law_366 : decode cL_law 366 = .ok (.ireturn, 1) := by decide +kernel
theorem dL_law_367 : decode cL_law 367 = .ok (.aload_n 1, 1) := by decide +kernel
theorem dL_law_368 : decode cL_law 368 = .ok (.aload_n 0, 1) := by decide +kernel
theorem dL_law_369 : decode cL_law 369 = .ok (.iload_n 3, 1) := by decide +kernel
theorem dL_law_370 : decode cL_law 370 = .ok (.iconst 1, 1) := by decide +kernel
theorem dL_law_371 : decode cL_law 371 = .ok (.iadd, 1) := by decide +kernel
theorem dL_law_372 : decode cL_law 372 = .ok (.iaload, 1) := by decide +kernel
theorem dL_law_373 : decode cL_law 373 = .ok (.invokevirtual 52, 3) := by decide +kernel
theorem dL_law_376 : decode cL_law 376 = .ok (.aload_n 2, 1) := by decide +kernel
theorem dL_law_377 : decode cL_law 377 = .ok (.aload_n 0, 1) := by decide +kernel
theorem dL_law_378 : decode cL_law 378 = .ok (.iload_n 3, 1) := by decide +kernel
theorem dL_law_379 : decode cL_law 379 = .ok (.iconst 1, 1) := by decide +kernel
theorem dL_law_380 : decode cL_law 380 = .ok (.iadd, 1) := by decide +kernel
theorem dL_law_381 : decode cL_law 381 = .ok (.iaload, 1) := by decide +kernel
theorem dL_law_382 : decode cL_law 382 = .ok (.invokevirtual 55, 3) := by decide +kernel
theorem dL_law_385 : decode cL_law 385 = .ok (.if_icmp .eq 549, 3) := by decide +kernel
theorem dL_law_388 : decode cL_law 388 = .ok (.iconst 0, 1) := by decide +kernel
theorem dL_law_389 : decode cL_law 389 = .ok (.ireturn, 1) := by decide +kernel
theorem dL_law_390 : decode cL_law 390 = .ok (.aload_n 1, 1) := by decide +kernel
theorem dL_law_391 : decode cL_law 391 = .ok (.aload_n 0, 1) := by decide +kernel
theorem dL_law_392 : decode cL_law 392 = .ok (.iload_n 3, 1) := by decide +kernel
theorem dL_law_393 : decode cL_law 393 = .ok (.iconst 1, 1) := by decide +kernel
theorem dL_law_394 : decode cL_law 394 = .ok (.iadd, 1) := by decide +kernel
theorem dL_law_395 : decode cL_law 395 = .ok (.iaload, 1) := by decide +kernel
theorem dL_law_396 : decode cL_law 396 = .ok (.invokevirtual 56, 3) := by decide +kernel
theorem dL_law_399 : decode cL_law 399 = .ok (.aload_n 2, 1) := by decide +kernel
theorem dL_law_400 : decode cL_law 400 = .ok (.aload_n 0, 1) := by decide +kernel
theorem dL_law_401 : decode cL_law 401 = .ok (.iload_n 3, 1) := by decide +kernel
theorem dL_law_402 : decode cL_law 402 = .ok (.iconst 1, 1) := by decide +kernel
theorem dL_law_403 : decode cL_law 403 = .ok (.iadd, 1) := by decide +kernel
theorem dL_law_404 : decode cL_law 404 = .ok (.iaload, 1) := by decide +kernel
theorem dL_law_405 : decode cL_law 405 = .ok (.invokevirtual 59, 3) := by decide +kernel
theorem dL_law_408 : decode cL_law 408 = .ok (.if_icmp .eq 526, 3) := by decide +kernel
theorem dL_law_411 : decode cL_law 411 = .ok (.iconst 0, 1) := by decide +kernel
theorem dL_law_412 : decode cL_law 412 = .ok (.ireturn, 1) := by decide +kernel
theorem dL_law_413 : decode cL_law 413 = .ok (.aload_n 1, 1) := by decide +kernel
theorem dL_law_414 : decode cL_law 414 = .ok (.aload_n 0, 1) := by decide +kernel
theorem dL_law_415 : decode cL_law 415 = .ok (.iload_n 3, 1) := by decide +kernel
theorem dL_law_416 : decode cL_law 416 = .ok (.iconst 1, 1) := by decide +kernel
theorem dL_law_417 : decode cL_law 417 = .ok (.iadd, 1) := by decide +kernel
theorem dL_law_418 : decode cL_law 418 = .ok (.iaload, 1) := by decide +kernel
theorem dL_law_419 : decode cL_law 419 = .ok (.invokevirtual 60, 3) := by decide +kernel
theorem dL_law_422 : decode cL_law 422 = .ok (.aload_n 2, 1) := by decide +kernel
theorem dL_law_423 : decode cL_law 423 = .ok (.aload_n 0, 1) := by decide +kernel
theorem dL_law_424 : decode cL_law 424 = .ok (.iload_n 3, 1) := by decide +kernel
theorem dL_law_425 : decode cL_law 425 = .ok (.iconst 1, 1) := by decide +kernel
theorem dL_law_426 : decode cL_law 426 = .ok (.iadd, 1) := by decide +kernel
theorem dL_law_427 : decode cL_law 427 = .ok (.iaload, 1) := by decide +kernel
theorem dL_law_428 : decode cL_law 428 = .ok (.invokevirtual 63, 3) := by decide +kernel
theorem dL_law_431 : decode cL_law 431 = .ok (.if_icmp .eq 503, 3) := by decide +kernel
theorem dL_law_434 : decode cL_law 434 = .ok (.iconst 0, 1) := by decide +kernel
theorem dL_law_435 : decode cL_law 435 = .ok (.ireturn, 1) := by decide +kernel
theorem dL_law_436 : decode cL_law 436 = .ok (.aload_n 1, 1) := by decide +kernel
theorem dL_law_437 : decode cL_law 437 = .ok (.invokevirtual 64, 3) := by decide +kernel
theorem dL_law_440 : decode cL_law 440 = .ok (.aload_n 2, 1) := by decide +kernel
theorem dL_law_441 : decode cL_law 441 = .ok (.invokevirtual 67, 3) := by decide +kernel
theorem dL_law_444 : decode cL_law 444 = .ok (.if_icmp .eq 490, 3) := by decide +kernel
theorem dL_law_447 : decode cL_law 447 = .ok (.iconst 0, 1) := by decide +kernel
theorem dL_law_448 : decode cL_law 448 = .ok (.ireturn, 1) := by decide +kernel
theorem dL_law_449 : decode cL_law 449 = .ok (.aload_n 1, 1) := by decide +kernel
theorem dL_law_450 : decode cL_law 450 = .ok (.aload_n 0, 1) := by decide +kernel
theorem dL_law_451 : decode cL_law 451 = .ok (.iload_n 3, 1) := by decide +kernel
theorem dL_law_452 : decode cL_law 452 = .ok (.iconst 1, 1) := by decide +kernel
theorem dL_law_453 : decode cL_law 453 = .ok (.iadd, 1) := by decide +kernel
theorem dL_law_454 : decode cL_law 454 = .ok (.iaload, 1) := by decide +kernel
theorem dL_law_455 : decode cL_law 455 = .ok (.aload_n 0, 1) := by decide +kernel
theorem dL_law_456 : decode cL_law 456 = .ok (.iload_n 3, 1) := by decide +kernel
theorem dL_law_457 : decode cL_law 457 = .ok (.iconst 2, 1) := by decide +kernel
theorem dL_law_458 : decode cL_law 458 = .ok (.iadd, 1) := by decide +kernel
theorem dL_law_459 : decode cL_law 459 = .ok (.iaload, 1) := by decide +kernel
theorem dL_law_460 : decode cL_law 460 = .ok (.invokevirtual 68, 3) := by decide +kernel
theorem dL_law_463 : decode cL_law 463 = .ok (.aload_n 2, 1) := by decide +kernel
theorem dL_law_464 : decode cL_law 464 = .ok (.aload_n 0, 1) := by decide +kernel
theorem dL_law_465 : decode cL_law 465 = .ok (.iload_n 3, 1) := by decide +kernel
theorem dL_law_466 : decode cL_law 466 = .ok (.iconst 1, 1) := by decide +kernel
theorem dL_law_467 : decode cL_law 467 = .ok (.iadd, 1) := by decide +kernel
theorem dL_law_468 : decode cL_law 468 = .ok (.iaload, 1) := by decide +kernel
theorem dL_law_469 : decode cL_law 469 = .ok (.aload_n 0, 1) := by decide +kernel
theorem dL_law_470 : decode cL_law 470 = .ok (.iload_n 3, 1) := by decide +kernel
theorem dL_law_471 : decode cL_law 471 = .ok (.iconst 2, 1) := by decide +kernel
theorem dL_law_472 : decode cL_law 472 = .ok (.iadd, 1) := by decide +kernel
theorem dL_law_473 : decode cL_law 473 = .ok (.iaload, 1) := by decide +kernel
theorem dL_law_474 : decode cL_law 474 = .ok (.invokevirtual 71, 3) := by decide +kernel
theorem dL_law_477 : decode cL_law 477 = .ok (.if_icmp .eq 457, 3) := by decide +kernel
theorem dL_law_480 : decode cL_law 480 = .ok (.iconst 0, 1) := by decide +kernel
theorem dL_law_481 : decode cL_law 481 = .ok (.ireturn, 1) := by decide +kernel
theorem dL_law_482 : decode cL_law 482 = .ok (.aload_n 1, 1) := by decide +kernel
theorem dL_law_483 : decode cL_law 483 = .ok (.aload_n 0, 1) := by decide +kernel
theorem dL_law_484 : decode cL_law 484 = .ok (.iload_n 3, 1) := by decide +kernel
theorem dL_law_485 : decode cL_law 485 = .ok (.iconst 1, 1) := by decide +kernel
theorem dL_law_486 : decode cL_law 486 = .ok (.iadd, 1) := by decide +kernel
theorem dL_law_487 : decode cL_law 487 = .ok (.iaload, 1) := by decide +kernel
theorem dL_law_488 : decode cL_law 488 = .ok (.aload_n 0, 1) := by decide +kernel
theorem dL_law_489 : decode cL_law 489 = .ok (.iload_n 3, 1) := by decide +kernel
theorem dL_law_490 : decode cL_law 490 = .ok (.iconst 2, 1) := by decide +kernel
theorem dL_law_491 : decode cL_law 491 = .ok (.iadd, 1) := by decide +kernel
theorem dL_law_492 : decode cL_law 492 = .ok (.iaload, 1) := by decide +kernel
theorem dL_law_493 : decode cL_law 493 = .ok (.invokevirtual 72, 3) := by decide +kernel
theorem dL_law_496 : decode cL_law 496 = .ok (.aload_n 2, 1) := by decide +kernel
theorem dL_law_497 : decode cL_law 497 = .ok (.aload_n 0, 1) := by decide +kernel
theorem dL_law_498 : decode cL_law 498 = .ok (.iload_n 3, 1) := by decide +kernel
theorem dL_law_499 : decode cL_law 499 = .ok (.iconst 1, 1) := by decide +kernel
theorem dL_law_500 : decode cL_law 500 = .ok (.iadd, 1) := by decide +kernel
theorem dL_law_501 : decode cL_law 501 = .ok (.iaload, 1) := by decide +kernel
theorem dL_law_502 : decode cL_law 502 = .ok (.aload_n 0, 1) := by decide +kernel
theorem dL_law_503 : decode cL_law 503 = .ok (.iload_n 3, 1) := by decide +kernel
theorem dL_law_504 : decode cL_law 504 = .ok (.iconst 2, 1) := by decide +kernel
theorem dL_law_505 : decode cL_law 505 = .ok (.iadd, 1) := by decide +kernel
theorem dL_law_506 : decode cL_law 506 = .ok (.iaload, 1) := by decide +kernel
theorem dL_law_507 : decode cL_law 507 = .ok (.invokevirtual 75, 3) := by decide +kernel
theorem dL_law_510 : decode cL_law 510 = .ok (.if_icmp .eq 424, 3) := by decide +kernel
theorem dL_law_513 : decode cL_law 513 = .ok (.iconst 0, 1) := by decide +kernel
theorem dL_law_514 : decode cL_law 514 = .ok (.ireturn, 1) := by decide +kernel
theorem dL_law_515 : decode cL_law 515 = .ok (.aload_n 1, 1) := by decide +kernel
theorem dL_law_516 : decode cL_law 516 = .ok (.aload_n 0, 1) := by decide +kernel
theorem dL_law_517 : decode cL_law 517 = .ok (.iload_n 3, 1) := by decide +kernel
theorem dL_law_518 : decode cL_law 518 = .ok (.iconst 1, 1) := by decide +kernel
theorem dL_law_519 : decode cL_law 519 = .ok (.iadd, 1) := by decide +kernel
theorem dL_law_520 : decode cL_law 520 = .ok (.iaload, 1) := by decide +kernel
theorem dL_law_521 : decode cL_law 521 = .ok (.aload_n 0, 1) := by decide +kernel
theorem dL_law_522 : decode cL_law 522 = .ok (.iload_n 3, 1) := by decide +kernel
theorem dL_law_523 : decode cL_law 523 = .ok (.iconst 2, 1) := by decide +kernel
theorem dL_law_524 : decode cL_law 524 = .ok (.iadd, 1) := by decide +kernel
theorem dL_law_525 : decode cL_law 525 = .ok (.iaload, 1) := by decide +kernel
theorem dL_law_526 : decode cL_law 526 = .ok (.invokevirtual 76, 3) := by decide +kernel
theorem dL_law_529 : decode cL_law 529 = .ok (.aload_n 2, 1) := by decide +kernel
theorem dL_law_530 : decode cL_law 530 = .ok (.aload_n 0, 1) := by decide +kernel
theorem dL_law_531 : decode cL_law 531 = .ok (.iload_n 3, 1) := by decide +kernel
theorem dL_law_532 : decode cL_law 532 = .ok (.iconst 1, 1) := by decide +kernel
theorem dL_law_533 : decode cL_law 533 = .ok (.iadd, 1) := by decide +kernel
theorem dL_law_534 : decode cL_law 534 = .ok (.iaload, 1) := by decide +kernel
theorem dL_law_535 : decode cL_law 535 = .ok (.aload_n 0, 1) := by decide +kernel
theorem dL_law_536 : decode cL_law 536 = .ok (.iload_n 3, 1) := by decide +kernel
theorem dL_law_537 : decode cL_law 537 = .ok (.iconst 2, 1) := by decide +kernel
theorem dL_law_538 : decode cL_law 538 = .ok (.iadd, 1) := by decide +kernel
theorem dL_law_539 : decode cL_law 539 = .ok (.iaload, 1) := by decide +kernel
theorem dL_law_540 : decode cL_law 540 = .ok (.invokevirtual 79, 3) := by decide +kernel
theorem dL_law_543 : decode cL_law 543 = .ok (.if_icmp .eq 391, 3) := by decide +kernel
theorem dL_law_546 : decode cL_law 546 = .ok (.iconst 0, 1) := by decide +kernel
theorem dL_law_547 : decode cL_law 547 = .ok (.ireturn, 1) := by decide +kernel
theorem dL_law_548 : decode cL_law 548 = .ok (.aload_n 1, 1) := by decide +kernel
theorem dL_law_549 : decode cL_law 549 = .ok (.aload_n 0, 1) := by decide +kernel
theorem dL_law_550 : decode cL_law 550 = .ok (.iload_n 3, 1) := by decide +kernel
theorem dL_law_551 : decode cL_law 551 = .ok (.iconst 1, 1) := by decide +kernel
theorem dL_law_552 : decode cL_law 552 = .ok (.iadd, 1) := by decide +kernel
theorem dL_law_553 : decode cL_law 553 = .ok (.iaload, 1) := by decide +kernel
theorem dL_law_554 : decode cL_law 554 = .ok (.aload_n 0, 1) := by decide +kernel
theorem dL_law_555 : decode cL_law 555 = .ok (.iload_n 3, 1) := by decide +kernel
theorem dL_law_556 : decode cL_law 556 = .ok (.iconst 2, 1) := by decide +kernel
theorem dL_law_557 : decode cL_law 557 = .ok (.iadd, 1) := by decide +kernel
theorem dL_law_558 : decode cL_law 558 = .ok (.iaload, 1) := by decide +kernel
theorem dL_law_559 : decode cL_law 559 = .ok (.invokevirtual 80, 3) := by decide +kernel
theorem dL_law_562 : decode cL_law 562 = .ok (.aload_n 2, 1) := by decide +kernel
theorem dL_law_563 : decode cL_law 563 = .ok (.aload_n 0, 1) := by decide +kernel
theorem dL_law_564 : decode cL_law 564 = .ok (.iload_n 3, 1) := by decide +kernel
theorem dL_law_565 : decode cL_law 565 = .ok (.iconst 1, 1) := by decide +kernel
theorem dL_law_566 : decode cL_law 566 = .ok (.iadd, 1) := by decide +kernel
theorem dL_law_567 : decode cL_law 567 = .ok (.iaload, 1) := by decide +kernel
theorem dL_law_568 : decode cL_law 568 = .ok (.aload_n 0, 1) := by decide +kernel
theorem dL_law_569 : decode cL_law 569 = .ok (.iload_n 3, 1) := by decide +kernel
theorem dL_law_570 : decode cL_law 570 = .ok (.iconst 2, 1) := by decide +kernel
theorem dL_law_571 : decode cL_law 571 = .ok (.iadd, 1) := by decide +kernel
theorem dL_law_572 : decode cL_law 572 = .ok (.iaload, 1) := by decide +kernel
theorem dL_law_573 : decode cL_law 573 = .ok (.invokevirtual 83, 3) := by decide +kernel
theorem dL_law_576 : decode cL_law 576 = .ok (.if_icmp .eq 358, 3) := by decide +kernel
theorem dL_law_579 : decode cL_law 579 = .ok (.iconst 0, 1) := by decide +kernel
theorem dL_law_580 : decode cL_law 580 = .ok (.ireturn, 1) := by decide +kernel
theorem dL_law_581 : decode cL_law 581 = .ok (.aload_n 1, 1) := by decide +kernel
theorem dL_law_582 : decode cL_law 582 = .ok (.invokevirtual 84, 3) := by decide +kernel
theorem dL_law_585 : decode cL_law 585 = .ok (.aload_n 2, 1) := by decide +kernel
theorem dL_law_586 : decode cL_law 586 = .ok (.invokevirtual 87, 3) := by decide +kernel
theorem dL_law_589 : decode cL_law 589 = .ok (.if_icmp .eq 345, 3) := by decide +kernel
theorem dL_law_592 : decode cL_law 592 = .ok (.iconst 0, 1) := by decide +kernel
theorem dL_law_593 : decode cL_law 593 = .ok (.ireturn, 1) := by decide +kernel
theorem dL_law_594 : decode cL_law 594 = .ok (.aload_n 1, 1) := by decide +kernel
theorem dL_law_595 : decode cL_law 595 = .ok (.aload_n 0, 1) := by decide +kernel
theorem dL_law_596 : decode cL_law 596 = .ok (.iload_n 3, 1) := by decide +kernel
theorem dL_law_597 : decode cL_law 597 = .ok (.iconst 1, 1) := by decide +kernel
theorem dL_law_598 : decode cL_law 598 = .ok (.iadd, 1) := by decide +kernel
theorem dL_law_599 : decode cL_law 599 = .ok (.iaload, 1) := by decide +kernel
theorem dL_law_600 : decode cL_law 600 = .ok (.aload_n 0, 1) := by decide +kernel
theorem dL_law_601 : decode cL_law 601 = .ok (.iload_n 3, 1) := by decide +kernel
theorem dL_law_602 : decode cL_law 602 = .ok (.iconst 2, 1) := by decide +kernel
theorem dL_law_603 : decode cL_law 603 = .ok (.iadd, 1) := by decide +kernel
theorem dL_law_604 : decode cL_law 604 = .ok (.iaload, 1) := by decide +kernel
theorem dL_law_605 : decode cL_law 605 = .ok (.aload_n 0, 1) := by decide +kernel
theorem dL_law_606 : decode cL_law 606 = .ok (.iload_n 3, 1) := by decide +kernel
theorem dL_law_607 : decode cL_law 607 = .ok (.iconst 3, 1) := by decide +kernel
theorem dL_law_608 : decode cL_law 608 = .ok (.iadd, 1) := by decide +kernel
theorem dL_law_609 : decode cL_law 609 = .ok (.iaload, 1) := by decide +kernel
theorem dL_law_610 : decode cL_law 610 = .ok (.aload_n 0, 1) := by decide +kernel
theorem dL_law_611 : decode cL_law 611 = .ok (.iload_n 3, 1) := by decide +kernel
theorem dL_law_612 : decode cL_law 612 = .ok (.iconst 4, 1) := by decide +kernel
theorem dL_law_613 : decode cL_law 613 = .ok (.iadd, 1) := by decide +kernel
theorem dL_law_614 : decode cL_law 614 = .ok (.iaload, 1) := by decide +kernel
theorem dL_law_615 : decode cL_law 615 = .ok (.invokevirtual 88, 3) := by decide +kernel
theorem dL_law_618 : decode cL_law 618 = .ok (.aload_n 2, 1) := by decide +kernel
theorem dL_law_619 : decode cL_law 619 = .ok (.aload_n 0, 1) := by decide +kernel
theorem dL_law_620 : decode cL_law 620 = .ok (.iload_n 3, 1) := by decide +kernel
theorem dL_law_621 : decode cL_law 621 = .ok (.iconst 1, 1) := by decide +kernel
theorem dL_law_622 : decode cL_law 622 = .ok (.iadd, 1) := by decide +kernel
theorem dL_law_623 : decode cL_law 623 = .ok (.iaload, 1) := by decide +kernel
theorem dL_law_624 : decode cL_law 624 = .ok (.aload_n 0, 1) := by decide +kernel
theorem dL_law_625 : decode cL_law 625 = .ok (.iload_n 3, 1) := by decide +kernel
theorem dL_law_626 : decode cL_law 626 = .ok (.iconst 2, 1) := by decide +kernel
theorem dL_law_627 : decode cL_law 627 = .ok (.iadd, 1) := by decide +kernel
theorem dL_law_628 : decode cL_law 628 = .ok (.iaload, 1) := by decide +kernel
theorem dL_law_629 : decode cL_law 629 = .ok (.aload_n 0, 1) := by decide +kernel
theorem dL_law_630 : decode cL_law 630 = .ok (.iload_n 3, 1) := by decide +kernel
theorem dL_law_631 : decode cL_law 631 = .ok (.iconst 3, 1) := by decide +kernel
theorem dL_law_632 : decode cL_law 632 = .ok (.iadd, 1) := by decide +kernel
theorem dL_law_633 : decode cL_law 633 = .ok (.iaload, 1) := by decide +kernel
theorem dL_law_634 : decode cL_law 634 = .ok (.aload_n 0, 1) := by decide +kernel
theorem dL_law_635 : decode cL_law 635 = .ok (.iload_n 3, 1) := by decide +kernel
theorem dL_law_636 : decode cL_law 636 = .ok (.iconst 4, 1) := by decide +kernel
theorem dL_law_637 : decode cL_law 637 = .ok (.iadd, 1) := by decide +kernel
theorem dL_law_638 : decode cL_law 638 = .ok (.iaload, 1) := by decide +kernel
theorem dL_law_639 : decode cL_law 639 = .ok (.invokevirtual 92, 3) := by decide +kernel
theorem dL_law_642 : decode cL_law 642 = .ok (.if_icmp .eq 292, 3) := by decide +kernel
theorem dL_law_645 : decode cL_law 645 = .ok (.iconst 0, 1) := by decide +kernel
theorem dL_law_646 : decode cL_law 646 = .ok (.ireturn, 1) := by decide +kernel
theorem dL_law_647 : decode cL_law 647 = .ok (.aload_n 1, 1) := by decide +kernel
theorem dL_law_648 : decode cL_law 648 = .ok (.aload_n 0, 1) := by decide +kernel
theorem dL_law_649 : decode cL_law 649 = .ok (.iload_n 3, 1) := by decide +kernel
theorem dL_law_650 : decode cL_law 650 = .ok (.iconst 1, 1) := by decide +kernel
theorem dL_law_651 : decode cL_law 651 = .ok (.iadd, 1) := by decide +kernel
theorem dL_law_652 : decode cL_law 652 = .ok (.iaload, 1) := by decide +kernel
theorem dL_law_653 : decode cL_law 653 = .ok (.aload_n 0, 1) := by decide +kernel
theorem dL_law_654 : decode cL_law 654 = .ok (.iload_n 3, 1) := by decide +kernel
theorem dL_law_655 : decode cL_law 655 = .ok (.iconst 2, 1) := by decide +kernel
theorem dL_law_656 : decode cL_law 656 = .ok (.iadd, 1) := by decide +kernel
theorem dL_law_657 : decode cL_law 657 = .ok (.iaload, 1) := by decide +kernel
theorem dL_law_658 : decode cL_law 658 = .ok (.aload_n 0, 1) := by decide +kernel
theorem dL_law_659 : decode cL_law 659 = .ok (.iload_n 3, 1) := by decide +kernel
theorem dL_law_660 : decode cL_law 660 = .ok (.iconst 3, 1) := by decide +kernel
theorem dL_law_661 : decode cL_law 661 = .ok (.iadd, 1) := by decide +kernel
theorem dL_law_662 : decode cL_law 662 = .ok (.iaload, 1) := by decide +kernel
theorem dL_law_663 : decode cL_law 663 = .ok (.invokevirtual 93, 3) := by decide +kernel
theorem dL_law_666 : decode cL_law 666 = .ok (.aload_n 2, 1) := by decide +kernel
theorem dL_law_667 : decode cL_law 667 = .ok (.aload_n 0, 1) := by decide +kernel
theorem dL_law_668 : decode cL_law 668 = .ok (.iload_n 3, 1) := by decide +kernel
theorem dL_law_669 : decode cL_law 669 = .ok (.iconst 1, 1) := by decide +kernel
theorem dL_law_670 : decode cL_law 670 = .ok (.iadd, 1) := by decide +kernel
theorem dL_law_671 : decode cL_law 671 = .ok (.iaload, 1) := by decide +kernel
theorem dL_law_672 : decode cL_law 672 = .ok (.aload_n 0, 1) := by decide +kernel
theorem dL_law_673 : decode cL_law 673 = .ok (.iload_n 3, 1) := by decide +kernel
theorem dL_law_674 : decode cL_law 674 = .ok (.iconst 2, 1) := by decide +kernel
theorem dL_law_675 : decode cL_law 675 = .ok (.iadd, 1) := by decide +kernel
theorem dL_law_676 : decode cL_law 676 = .ok (.iaload, 1) := by decide +kernel
theorem dL_law_677 : decode cL_law 677 = .ok (.aload_n 0, 1) := by decide +kernel
theorem dL_law_678 : decode cL_law 678 = .ok (.iload_n 3, 1) := by decide +kernel
theorem dL_law_679 : decode cL_law 679 = .ok (.iconst 3, 1) := by decide +kernel
theorem dL_law_680 : decode cL_law 680 = .ok (.iadd, 1) := by decide +kernel
theorem dL_law_681 : decode cL_law 681 = .ok (.iaload, 1) := by decide +kernel
theorem dL_law_682 : decode cL_law 682 = .ok (.invokevirtual 97, 3) := by decide +kernel
theorem dL_law_685 : decode cL_law 685 = .ok (.if_icmp .eq 249, 3) := by decide +kernel
theorem dL_law_688 : decode cL_law 688 = .ok (.iconst 0, 1) := by decide +kernel
theorem dL_law_689 : decode cL_law 689 = .ok (.ireturn, 1) := by decide +kernel
theorem dL_law_690 : decode cL_law 690 = .ok (.aload_n 1, 1) := by decide +kernel
theorem dL_law_691 : decode cL_law 691 = .ok (.aload_n 0, 1) := by decide +kernel
theorem dL_law_692 : decode cL_law 692 = .ok (.iload_n 3, 1) := by decide +kernel
theorem dL_law_693 : decode cL_law 693 = .ok (.iconst 1, 1) := by decide +kernel
theorem dL_law_694 : decode cL_law 694 = .ok (.iadd, 1) := by decide +kernel
theorem dL_law_695 : decode cL_law 695 = .ok (.iaload, 1) := by decide +kernel
theorem dL_law_696 : decode cL_law 696 = .ok (.aload_n 0, 1) := by decide +kernel
theorem dL_law_697 : decode cL_law 697 = .ok (.iload_n 3, 1) := by decide +kernel
theorem dL_law_698 : decode cL_law 698 = .ok (.iconst 2, 1) := by decide +kernel
theorem dL_law_699 : decode cL_law 699 = .ok (.iadd, 1) := by decide +kernel
theorem dL_law_700 : decode cL_law 700 = .ok (.iaload, 1) := by decide +kernel
theorem dL_law_701 : decode cL_law 701 = .ok (.aload_n 0, 1) := by decide +kernel
theorem dL_law_702 : decode cL_law 702 = .ok (.iload_n 3, 1) := by decide +kernel
theorem dL_law_703 : decode cL_law 703 = .ok (.iconst 3, 1) := by decide +kernel
theorem dL_law_704 : decode cL_law 704 = .ok (.iadd, 1) := by decide +kernel
theorem dL_law_705 : decode cL_law 705 = .ok (.iaload, 1) := by decide +kernel
theorem dL_law_706 : decode cL_law 706 = .ok (.invokevirtual 98, 3) := by decide +kernel
theorem dL_law_709 : decode cL_law 709 = .ok (.aload_n 2, 1) := by decide +kernel
theorem dL_law_710 : decode cL_law 710 = .ok (.aload_n 0, 1) := by decide +kernel
theorem dL_law_711 : decode cL_law 711 = .ok (.iload_n 3, 1) := by decide +kernel
theorem dL_law_712 : decode cL_law 712 = .ok (.iconst 1, 1) := by decide +kernel
theorem dL_law_713 : decode cL_law 713 = .ok (.iadd, 1) := by decide +kernel
theorem dL_law_714 : decode cL_law 714 = .ok (.iaload, 1) := by decide +kernel
theorem dL_law_715 : decode cL_law 715 = .ok (.aload_n 0, 1) := by decide +kernel
theorem dL_law_716 : decode cL_law 716 = .ok (.iload_n 3, 1) := by decide +kernel
theorem dL_law_717 : decode cL_law 717 = .ok (.iconst 2, 1) := by decide +kernel
theorem dL_law_718 : decode cL_law 718 = .ok (.iadd, 1) := by decide +kernel
theorem dL_law_719 : decode cL_law 719 = .ok (.iaload, 1) := by decide +kernel
theorem dL_law_720 : decode cL_law 720 = .ok (.aload_n 0, 1) := by decide +kernel
theorem dL_law_721 : decode cL_law 721 = .ok (.iload_n 3, 1) := by decide +kernel
theorem dL_law_722 : decode cL_law 722 = .ok (.iconst 3, 1) := by decide +kernel
theorem dL_law_723 : decode cL_law 723 = .ok (.iadd, 1) := by decide +kernel
theorem dL_law_724 : decode cL_law 724 = .ok (.iaload, 1) := by decide +kernel
theorem dL_law_725 : decode cL_law 725 = .ok (.invokevirtual 101, 3) := by decide +kernel
theorem dL_law_728 : decode cL_law 728 = .ok (.if_icmp .eq 206, 3) := by decide +kernel
theorem dL_law_731 : decode cL_law 731 = .ok (.iconst 0, 1) := by decide +kernel
theorem dL_law_732 : decode cL_law 732 = .ok (.ireturn, 1) := by decide +kernel
theorem dL_law_733 : decode cL_law 733 = .ok (.aload_n 1, 1) := by decide +kernel
theorem dL_law_734 : decode cL_law 734 = .ok (.invokevirtual 102, 3) := by decide +kernel
theorem dL_law_737 : decode cL_law 737 = .ok (.aload_n 2, 1) := by decide +kernel
theorem dL_law_738 : decode cL_law 738 = .ok (.invokevirtual 105, 3) := by decide +kernel
theorem dL_law_741 : decode cL_law 741 = .ok (.if_icmp .eq 193, 3) := by decide +kernel
theorem dL_law_744 : decode cL_law 744 = .ok (.iconst 0, 1) := by decide +kernel
theorem dL_law_745 : decode cL_law 745 = .ok (.ireturn, 1) := by decide +kernel
theorem dL_law_746 : decode cL_law 746 = .ok (.aload_n 1, 1) := by decide +kernel
theorem dL_law_747 : decode cL_law 747 = .ok (.aload_n 0, 1) := by decide +kernel
theorem dL_law_748 : decode cL_law 748 = .ok (.iload_n 3, 1) := by decide +kernel
theorem dL_law_749 : decode cL_law 749 = .ok (.iconst 1, 1) := by decide +kernel
theorem dL_law_750 : decode cL_law 750 = .ok (.iadd, 1) := by decide +kernel
theorem dL_law_751 : decode cL_law 751 = .ok (.iaload, 1) := by decide +kernel
theorem dL_law_752 : decode cL_law 752 = .ok (.aload_n 0, 1) := by decide +kernel
theorem dL_law_753 : decode cL_law 753 = .ok (.iload_n 3, 1) := by decide +kernel
theorem dL_law_754 : decode cL_law 754 = .ok (.iconst 2, 1) := by decide +kernel
theorem dL_law_755 : decode cL_law 755 = .ok (.iadd, 1) := by decide +kernel
theorem dL_law_756 : decode cL_law 756 = .ok (.iaload, 1) := by decide +kernel
theorem dL_law_757 : decode cL_law 757 = .ok (.invokevirtual 106, 3) := by decide +kernel
theorem dL_law_760 : decode cL_law 760 = .ok (.aload_n 2, 1) := by decide +kernel
theorem dL_law_761 : decode cL_law 761 = .ok (.aload_n 0, 1) := by decide +kernel
theorem dL_law_762 : decode cL_law 762 = .ok (.iload_n 3, 1) := by decide +kernel
theorem dL_law_763 : decode cL_law 763 = .ok (.iconst 1, 1) := by decide +kernel
theorem dL_law_764 : decode cL_law 764 = .ok (.iadd, 1) := by decide +kernel
theorem dL_law_765 : decode cL_law 765 = .ok (.iaload, 1) := by decide +kernel
theorem dL_law_766 : decode cL_law 766 = .ok (.aload_n 0, 1) := by decide +kernel
theorem dL_law_767 : decode cL_law 767 = .ok (.iload_n 3, 1) := by decide +kernel
theorem dL_law_768 : decode cL_law 768 = .ok (.iconst 2, 1) := by decide +kernel
theorem dL_law_769 : decode cL_law 769 = .ok (.iadd, 1) := by decide +kernel
theorem dL_law_770 : decode cL_law 770 = .ok (.iaload, 1) := by decide +kernel
theorem dL_law_771 : decode cL_law 771 = .ok (.invokevirtual 109, 3) := by decide +kernel
theorem dL_law_774 : decode cL_law 774 = .ok (.if_icmp .eq 160, 3) := by decide +kernel
theorem dL_law_777 : decode cL_law 777 = .ok (.iconst 0, 1) := by decide +kernel
theorem dL_law_778 : decode cL_law 778 = .ok (.ireturn, 1) := by decide +kernel
theorem dL_law_779 : decode cL_law 779 = .ok (.aload_n 1, 1) := by decide +kernel
theorem dL_law_780 : decode cL_law 780 = .ok (.aload_n 0, 1) := by decide +kernel
theorem dL_law_781 : decode cL_law 781 = .ok (.iload_n 3, 1) := by decide +kernel
theorem dL_law_782 : decode cL_law 782 = .ok (.iconst 1, 1) := by decide +kernel
theorem dL_law_783 : decode cL_law 783 = .ok (.iadd, 1) := by decide +kernel
theorem dL_law_784 : decode cL_law 784 = .ok (.iaload, 1) := by decide +kernel
theorem dL_law_785 : decode cL_law 785 = .ok (.aload_n 0, 1) := by decide +kernel
theorem dL_law_786 : decode cL_law 786 = .ok (.iload_n 3, 1) := by decide +kernel
theorem dL_law_787 : decode cL_law 787 = .ok (.iconst 2, 1) := by decide +kernel
theorem dL_law_788 : decode cL_law 788 = .ok (.iadd, 1) := by decide +kernel
theorem dL_law_789 : decode cL_law 789 = .ok (.iaload, 1) := by decide +kernel
theorem dL_law_790 : decode cL_law 790 = .ok (.aload_n 0, 1) := by decide +kernel
theorem dL_law_791 : decode cL_law 791 = .ok (.iload_n 3, 1) := by decide +kernel
theorem dL_law_792 : decode cL_law 792 = .ok (.iconst 3, 1) := by decide +kernel
theorem dL_law_793 : decode cL_law 793 = .ok (.iadd, 1) := by decide +kernel
theorem dL_law_794 : decode cL_law 794 = .ok (.iaload, 1) := by decide +kernel
theorem dL_law_795 : decode cL_law 795 = .ok (.aload_n 0, 1) := by decide +kernel
theorem dL_law_796 : decode cL_law 796 = .ok (.iload_n 3, 1) := by decide +kernel
theorem dL_law_797 : decode cL_law 797 = .ok (.iconst 4, 1) := by decide +kernel
theorem dL_law_798 : decode cL_law 798 = .ok (.iadd, 1) := by decide +kernel
theorem dL_law_799 : decode cL_law 799 = .ok (.iaload, 1) := by decide +kernel
theorem dL_law_800 : decode cL_law 800 = .ok (.aload_n 0, 1) := by decide +kernel
theorem dL_law_801 : decode cL_law 801 = .ok (.iload_n 3, 1) := by decide +kernel
theorem dL_law_802 : decode cL_law 802 = .ok (.iconst 5, 1) := by decide +kernel
theorem dL_law_803 : decode cL_law 803 = .ok (.iadd, 1) := by decide +kernel
theorem dL_law_804 : decode cL_law 804 = .ok (.iaload, 1) := by decide +kernel
theorem dL_law_805 : decode cL_law 805 = .ok (.invokevirtual 110, 3) := by decide +kernel
theorem dL_law_808 : decode cL_law 808 = .ok (.aload_n 2, 1) := by decide +kernel
theorem dL_law_809 : decode cL_law 809 = .ok (.aload_n 0, 1) := by decide +kernel
theorem dL_law_810 : decode cL_law 810 = .ok (.iload_n 3, 1) := by decide +kernel
theorem dL_law_811 : decode cL_law 811 = .ok (.iconst 1, 1) := by decide +kernel
theorem dL_law_812 : decode cL_law 812 = .ok (.iadd, 1) := by decide +kernel
theorem dL_law_813 : decode cL_law 813 = .ok (.iaload, 1) := by decide +kernel
theorem dL_law_814 : decode cL_law 814 = .ok (.aload_n 0, 1) := by decide +kernel
theorem dL_law_815 : decode cL_law 815 = .ok (.iload_n 3, 1) := by decide +kernel
theorem dL_law_816 : decode cL_law 816 = .ok (.iconst 2, 1) := by decide +kernel
theorem dL_law_817 : decode cL_law 817 = .ok (.iadd, 1) := by decide +kernel
theorem dL_law_818 : decode cL_law 818 = .ok (.iaload, 1) := by decide +kernel
theorem dL_law_819 : decode cL_law 819 = .ok (.aload_n 0, 1) := by decide +kernel
theorem dL_law_820 : decode cL_law 820 = .ok (.iload_n 3, 1) := by decide +kernel
theorem dL_law_821 : decode cL_law 821 = .ok (.iconst 3, 1) := by decide +kernel
theorem dL_law_822 : decode cL_law 822 = .ok (.iadd, 1) := by decide +kernel
theorem dL_law_823 : decode cL_law 823 = .ok (.iaload, 1) := by decide +kernel
theorem dL_law_824 : decode cL_law 824 = .ok (.aload_n 0, 1) := by decide +kernel
theorem dL_law_825 : decode cL_law 825 = .ok (.iload_n 3, 1) := by decide +kernel
theorem dL_law_826 : decode cL_law 826 = .ok (.iconst 4, 1) := by decide +kernel
theorem dL_law_827 : decode cL_law 827 = .ok (.iadd, 1) := by decide +kernel
theorem dL_law_828 : decode cL_law 828 = .ok (.iaload, 1) := by decide +kernel
theorem dL_law_829 : decode cL_law 829 = .ok (.aload_n 0, 1) := by decide +kernel
theorem dL_law_830 : decode cL_law 830 = .ok (.iload_n 3, 1) := by decide +kernel
theorem dL_law_831 : decode cL_law 831 = .ok (.iconst 5, 1) := by decide +kernel
theorem dL_law_832 : decode cL_law 832 = .ok (.iadd, 1) := by decide +kernel
theorem dL_law_833 : decode cL_law 833 = .ok (.iaload, 1) := by decide +kernel
theorem dL_law_834 : decode cL_law 834 = .ok (.invokevirtual 114, 3) := by decide +kernel
theorem dL_law_837 : decode cL_law 837 = .ok (.if_icmp .eq 97, 3) := by decide +kernel
theorem dL_law_840 : decode cL_law 840 = .ok (.iconst 0, 1) := by decide +kernel
theorem dL_law_841 : decode cL_law 841 = .ok (.ireturn, 1) := by decide +kernel
theorem dL_law_842 : decode cL_law 842 = .ok (.aload_n 1, 1) := by decide +kernel
theorem dL_law_843 : decode cL_law 843 = .ok (.aload_n 0, 1) := by decide +kernel
theorem dL_law_844 : decode cL_law 844 = .ok (.iload_n 3, 1) := by decide +kernel
theorem dL_law_845 : decode cL_law 845 = .ok (.iconst 1, 1) := by decide +kernel
theorem dL_law_846 : decode cL_law 846 = .ok (.iadd, 1) := by decide +kernel
theorem dL_law_847 : decode cL_law 847 = .ok (.iaload, 1) := by decide +kernel
theorem dL_law_848 : decode cL_law 848 = .ok (.aload_n 0, 1) := by decide +kernel
theorem dL_law_849 : decode cL_law 849 = .ok (.iload_n 3, 1) := by decide +kernel
theorem dL_law_850 : decode cL_law 850 = .ok (.iconst 2, 1) := by decide +kernel
theorem dL_law_851 : decode cL_law 851 = .ok (.iadd, 1) := by decide +kernel
theorem dL_law_852 : decode cL_law 852 = .ok (.iaload, 1) := by decide +kernel
theorem dL_law_853 : decode cL_law 853 = .ok (.aload_n 0, 1) := by decide +kernel
theorem dL_law_854 : decode cL_law 854 = .ok (.iload_n 3, 1) := by decide +kernel
theorem dL_law_855 : decode cL_law 855 = .ok (.iconst 3, 1) := by decide +kernel
theorem dL_law_856 : decode cL_law 856 = .ok (.iadd, 1) := by decide +kernel
theorem dL_law_857 : decode cL_law 857 = .ok (.iaload, 1) := by decide +kernel
theorem dL_law_858 : decode cL_law 858 = .ok (.invokevirtual 115, 3) := by decide +kernel
theorem dL_law_861 : decode cL_law 861 = .ok (.aload_n 2, 1) := by decide +kernel
theorem dL_law_862 : decode cL_law 862 = .ok (.aload_n 0, 1) := by decide +kernel
theorem dL_law_863 : decode cL_law 863 = .ok (.iload_n 3, 1) := by decide +kernel
theorem dL_law_864 : decode cL_law 864 = .ok (.iconst 1, 1) := by decide +kernel
theorem dL_law_865 : decode cL_law 865 = .ok (.iadd, 1) := by decide +kernel
theorem dL_law_866 : decode cL_law 866 = .ok (.iaload, 1) := by decide +kernel
theorem dL_law_867 : decode cL_law 867 = .ok (.aload_n 0, 1) := by decide +kernel
theorem dL_law_868 : decode cL_law 868 = .ok (.iload_n 3, 1) := by decide +kernel
theorem dL_law_869 : decode cL_law 869 = .ok (.iconst 2, 1) := by decide +kernel
theorem dL_law_870 : decode cL_law 870 = .ok (.iadd, 1) := by decide +kernel
theorem dL_law_871 : decode cL_law 871 = .ok (.iaload, 1) := by decide +kernel
theorem dL_law_872 : decode cL_law 872 = .ok (.aload_n 0, 1) := by decide +kernel
theorem dL_law_873 : decode cL_law 873 = .ok (.iload_n 3, 1) := by decide +kernel
theorem dL_law_874 : decode cL_law 874 = .ok (.iconst 3, 1) := by decide +kernel
theorem dL_law_875 : decode cL_law 875 = .ok (.iadd, 1) := by decide +kernel
theorem dL_law_876 : decode cL_law 876 = .ok (.iaload, 1) := by decide +kernel
theorem dL_law_877 : decode cL_law 877 = .ok (.invokevirtual 118, 3) := by decide +kernel
theorem dL_law_880 : decode cL_law 880 = .ok (.if_icmp .eq 54, 3) := by decide +kernel
theorem dL_law_883 : decode cL_law 883 = .ok (.iconst 0, 1) := by decide +kernel
theorem dL_law_884 : decode cL_law 884 = .ok (.ireturn, 1) := by decide +kernel
theorem dL_law_885 : decode cL_law 885 = .ok (.aload_n 1, 1) := by decide +kernel
theorem dL_law_886 : decode cL_law 886 = .ok (.invokevirtual 119, 3) := by decide +kernel
theorem dL_law_889 : decode cL_law 889 = .ok (.aload_n 2, 1) := by decide +kernel
theorem dL_law_890 : decode cL_law 890 = .ok (.invokevirtual 122, 3) := by decide +kernel
theorem dL_law_893 : decode cL_law 893 = .ok (.if_icmp .eq 41, 3) := by decide +kernel
theorem dL_law_896 : decode cL_law 896 = .ok (.iconst 0, 1) := by decide +kernel
theorem dL_law_897 : decode cL_law 897 = .ok (.ireturn, 1) := by decide +kernel
theorem dL_law_898 : decode cL_law 898 = .ok (.aload_n 1, 1) := by decide +kernel
theorem dL_law_899 : decode cL_law 899 = .ok (.invokevirtual 123, 3) := by decide +kernel
theorem dL_law_902 : decode cL_law 902 = .ok (.aload_n 2, 1) := by decide +kernel
theorem dL_law_903 : decode cL_law 903 = .ok (.invokevirtual 126, 3) := by decide +kernel
theorem dL_law_906 : decode cL_law 906 = .ok (.if_icmp .eq 28, 3) := by decide +kernel
theorem dL_law_909 : decode cL_law 909 = .ok (.iconst 0, 1) := by decide +kernel
theorem dL_law_910 : decode cL_law 910 = .ok (.ireturn, 1) := by decide +kernel
theorem dL_law_911 : decode cL_law 911 = .ok (.aload_n 1, 1) := by decide +kernel
theorem dL_law_912 : decode cL_law 912 = .ok (.aload_n 0, 1) := by decide +kernel
theorem dL_law_913 : decode cL_law 913 = .ok (.iload_n 3, 1) := by decide +kernel
theorem dL_law_914 : decode cL_law 914 = .ok (.iconst 1, 1) := by decide +kernel
theorem dL_law_915 : decode cL_law 915 = .ok (.iadd, 1) := by decide +kernel
theorem dL_law_916 : decode cL_law 916 = .ok (.iaload, 1) := by decide +kernel
theorem dL_law_917 : decode cL_law 917 = .ok (.invokevirtual 127, 3) := by decide +kernel
theorem dL_law_920 : decode cL_law 920 = .ok (.aload_n 2, 1) := by decide +kernel
theorem dL_law_921 : decode cL_law 921 = .ok (.aload_n 0, 1) := by decide +kernel
theorem dL_law_922 : decode cL_law 922 = .ok (.iload_n 3, 1) := by decide +kernel
theorem dL_law_923 : decode cL_law 923 = .ok (.iconst 1, 1) := by decide +kernel
theorem dL_law_924 : decode cL_law 924 = .ok (.iadd, 1) := by decide +kernel
theorem dL_law_925 : decode cL_law 925 = .ok (.iaload, 1) := by decide +kernel
theorem dL_law_926 : decode cL_law 926 = .ok (.invokevirtual 130, 3) := by decide +kernel
theorem dL_law_929 : decode cL_law 929 = .ok (.if_icmp .eq 5, 3) := by decide +kernel
theorem dL_law_932 : decode cL_law 932 = .ok (.iconst 0, 1) := by decide +kernel
theorem dL_law_933 : decode cL_law 933 = .ok (.ireturn, 1) := by decide +kernel
theorem dL_law_934 : decode cL_law 934 = .ok (.iinc 3 6, 3) := by decide +kernel
theorem dL_law_937 : decode cL_law 937 = .ok (.goto (-919), 3) := by decide +kernel
theorem dL_law_940 : decode cL_law 940 = .ok (.iconst 1, 1) := by decide +kernel
theorem dL_law_941 : decode cL_law 941 = .ok (.ireturn, 1) := by decide +kernel
end
section
/-! THE V LAYER: a walk whose memory is a function from addresses to cells; a contract (Ctr) says what a method makes of it -/
/-- the words of the tables that every method may hand on -/
def TT : List Cond := lw_tbl.filter goodWord
theorem TT_tbl : ∀ w ∈ TT, w ∈ lw_tbl := fun w h => (List.mem_filter.mp h).1
theorem TT_good {ws : List Cond} (h : ∀ w ∈ ws, w ∈ TT) : GoodIn TT ws := fun w hw => ⟨h w hw, good_of_word (List.mem_filter.mp (h w hw)).2⟩
/-- a cell: an array (which type, how long, what is in it), or an object (which class, its fields) -/
abbrev Ce : Type := (Nat × vp_A) ⊕ (Nat × List Value)
abbrev Mu : Type := Nat → Option Ce
abbrev GG : Type := va_G × (Nat → ClassId) × Nat
abbrev MD : Type := MethodName × ByteArray × Nat × Option FieldType
def toE (ty : Nat → ClassId) (e : Ce) : va_E := match e with
  | .inl a => .inl (ty a.1, a.2)
  | .inr o => .inr o
def tysL (ty : Nat → ClassId) : List (ClassId × FieldType) := [(ty 0, .int), (ty 1, .long), (ty 2, .char), (ty 3, .object RX4), (ty 4, .object RX1), (ty 5, .byte)]
def nestW : List (String × Nat × MethodName × String) := [(RX5, 15, ⟨RX0, "<init>", "()V"⟩, "WalkingOrchard"), (RX1, 25, ⟨RX4, "<init>", "()V"⟩, "WalkingOrchard"), (RX5, 34, ⟨RX3, "<init>", "()V"⟩, "WalkingOrchard"), (RX3, 11, ⟨RX0, "<init>", "()V"⟩, "WalkingOrchard"), (RX3, 86, ⟨RX5, "bit", "(I)J"⟩, "WalkingOrchard"), (RX3, 143, ⟨RX5, "contains", "(JI)Z"⟩, "WalkingOrchard"), (RX0, 32, ⟨RX5, "contains", "(JI)Z"⟩, "WalkingOrchard"), (RX1, 50, ⟨RX5, "contains", "(JI)Z"⟩, "WalkingOrchard"), (RX4, 28, ⟨RX5, "bit", "(I)J"⟩, "WalkingOrchard"), (RX1, 69, ⟨RX5, "bit", "(I)J"⟩, "WalkingOrchard")]
def NW (U : State) : Prop := ∀ q ∈ nestW, va_Nw (.methodLinkNest q.1 q.2.1 q.2.2.1 q.2.2.2) U
def KK (G : GG) (U : State) : Prop := va_K G.1 vwCl (tysL G.2.1) U ∧ NW U ∧ va_AO RX4 U ∧ va_AO RX1 U
theorem KK.warm {G : GG} {s U : State} (hW : s.WarmedH U.vm) (h : KK G s) : KK G U :=
  ⟨va_K.moved hW.alike h.1, fun q hq => va_Nw.warmM hW (h.2.1 q hq), h.2.2.1.moved hW.alike, h.2.2.2.moved hW.alike⟩
theorem KK.same {G : GG} {s U : State} (hv : s.vm = U.vm) (h : KK G s) : KK G U :=
  ⟨va_K.moved (by rw [hv]; exact Vm.Alike.refl _) h.1, fun q hq => va_Nw.same rfl hv (h.2.1 q hq), h.2.2.1.moved (by rw [hv]; exact Vm.Alike.refl _), h.2.2.2.moved (by rw [hv]; exact Vm.Alike.refl _)⟩
/-- the heap has n cells, and holds what the memory says -/
def Rp (G : GG) (n : Nat) (μ : Mu) (H : Heap) : Prop := H.size = n ∧ G.2.2 ≤ n ∧ ∃ ws : va_W, va_P G.1 vwCl ws H ∧ va_D (fun q => G.2.2 ≤ q) ws ∧ ∀ (a : Nat) (e : Ce), μ a = some e → ∃ k : Nat, ws[k]? = some (a, toE G.2.1 e)
def mset (μ : Mu) (a : Nat) (e : Ce) : Mu := fun j => if j = a then some e else μ j
theorem mset_self (μ : Mu) (a : Nat) (e : Ce) : mset μ a e a = some e := if_pos rfl
theorem mset_ne (μ : Mu) {a b : Nat} (e : Ce) (h : b ≠ a) : mset μ a e b = μ b := if_neg h
theorem Rp.lt {G : GG} {n : Nat} {μ : Mu} {H : Heap} (h : Rp G n μ H) {a : Nat} {e : Ce} (ha : μ a = some e) : a < n := by
  obtain ⟨h1, -, ws, hP, -, hf⟩ := h
  obtain ⟨k, hk⟩ := hf a e ha
  rw [← h1]; exact (hP k _ hk).lt
/-- a memory that says less -/
theorem Rp.less {G : GG} {n : Nat} {μ μ' : Mu} {H : Heap} (h : Rp G n μ H) (hl : ∀ (a : Nat) (e : Ce), μ' a = some e → μ a = some e) : Rp G n μ' H := by
  obtain ⟨h1, h2, ws, hP, hD, hf⟩ := h
  exact ⟨h1, h2, ws, hP, hD, fun a e ha => hf a e (hl a e ha)⟩
theorem Rp.set {G : GG} {n : Nat} {μ : Mu} {H H1 : Heap} {ws : va_W} (h1 : H.size = n) (h2 : G.2.2 ≤ n) (hf : ∀ (a : Nat) (e : Ce), μ a = some e → ∃ k : Nat, ws[k]? = some (a, toE G.2.1 e)) {a k : Nat} {e0 e1 : va_E} {e : Ce} (hD0 : va_D (fun q => G.2.2 ≤ q) ws) (hk : ws[k]? = some (a, e0)) (he : toE G.2.1 e = e1)
    (hP : va_P G.1 vwCl (ws.set k (a, e1)) H1) (hD : va_D (fun q => G.2.2 ≤ q) (ws.set k (a, e1))) (hz : H1.size = H.size) : Rp G n (mset μ a e) H1 := by
  subst he
  refine ⟨hz.trans h1, h2, _, hP, hD, fun b e2 hb => ?_⟩
  have hl := (List.getElem?_eq_some_iff.mp hk).1
  by_cases hba : b = a
  · subst hba
    rw [mset_self] at hb
    cases hb
    exact ⟨k, by rw [List.getElem?_set_self hl]⟩
  · rw [mset_ne _ _ hba] at hb
    obtain ⟨j, hj⟩ := hf b e2 hb
    refine ⟨j, ?_⟩
    have hjk : k ≠ j := by
      intro h; subst h
      rw [hk] at hj
      cases hj
      exact hba rfl
    rw [List.getElem?_set_ne hjk]; exact hj
theorem Rp.push {G : GG} {n : Nat} {μ : Mu} {H H1 : Heap} {ws : va_W} (h1 : H.size = n) (h2 : G.2.2 ≤ n) (hf : ∀ (a : Nat) (e : Ce), μ a = some e → ∃ k : Nat, ws[k]? = some (a, toE G.2.1 e)) {e1 : va_E} {e : Ce} (he : toE G.2.1 e = e1)
    (hP : va_P G.1 vwCl (ws ++ [(n, e1)]) H1) (hD : va_D (fun q => G.2.2 ≤ q) (ws ++ [(n, e1)])) (hz : H1.size = H.size + 1) : Rp G (n + 1) (mset μ n e) H1 := by
  subst he
  refine ⟨by rw [hz, h1], by omega, _, hP, hD, fun b e2 hb => ?_⟩
  by_cases hba : b = n
  · subst hba
    rw [mset_self] at hb
    cases hb
    exact ⟨ws.length, by rw [List.getElem?_append_right (Nat.le_refl _), Nat.sub_self]; rfl⟩
  · rw [mset_ne _ _ hba] at hb
    obtain ⟨j, hj⟩ := hf b e2 hb
    exact ⟨j, by rw [List.getElem?_append_left (List.getElem?_eq_some_iff.mp hj).1]; exact hj⟩
abbrev CX : Type := Program × Launch × Env × Room × State × MethodId × Array Value × List Frame × Method × Code × (State → Prop) × GG
def V (X : CX) (a b n : Nat) (μ : Mu) (pc : Nat) (ls : List (Nat × Value)) (st : List Value) : Prop := match X with
  | (p, l, e, R, s, m, args, below, meth, c, Z, G) => ∀ (H : Heap) (locs : List Loc) (cells slots : Nat) (L : Array Slot), cells + a ≤ R.cells → slots + b ≤ R.slots → Rp G n μ H → va_S (fun q => G.2.2 ≤ q) s.heap H locs → lv_has L c.maxLocals ls → W p l e R s m args below meth c H locs cells slots Z (F0 m pc L st)
def GX (X : CX) (l0 : Launch) (G0 : GG) (M : MD) (f w : Nat) : Prop := match X with
  | (p, l, e, R, s, m, args, below, meth, c, Z, G) => l = l0 ∧ G = G0 ∧ p.tables.exec = Jvm.exec ∧ c.code = M.2.1 ∧ meth.sig.returnType = M.2.2.2 ∧ c.maxLocals = M.2.2.1 ∧ s.vm.findClass M.1.cls = some m.cls ∧ (∀ t ∈ TT, t.before args s = true) ∧ meth.locks = false ∧ meth.name = M.1.name ∧ KK G s ∧ G.2.2 ≤ s.heap.size ∧ R.frames = f ∧ R.locals = w
def EX (X : CX) (r : Option Value) (n' : Nat) (μ' : Mu) : Prop := match X with
  | (p, l, e, R, s, m, args, below, meth, c, Z, G) => Z = MQ below (fun _ st o t => o = .returned r ∧ Rp G n' μ' t.heap ∧ va_F (fun q => G.2.2 ≤ q) st t) args s R.cells R.slots (fun q => G.2.2 ≤ q)
def wd (M : MD) : List Cond := .code M.1 M.2.1 M.2.2.1 M.2.2.2 :: TT
/-- THE CONTRACT: called with As on a heap of n cells that holds μ, the method returns r, and the heap has n' cells and holds μ'; it nests f frames of w words, makes a cells of b slots at most -/
def Ctr (l : Launch) (G : GG) (f w a b : Nat) (M : MD) (As : List Value) (n : Nat) (μ : Mu) (r : Option Value) (n' : Nat) (μ' : Mu) : Prop :=
  Met l M.1 (wd M) { frames := f, cells := a, slots := b, locals := w } (va_Pc As (fun U => Rp G n μ U.heap ∧ KK G U)) (fun _ st o t => o = .returned r ∧ Rp G n' μ' t.heap ∧ va_F (fun q => G.2.2 ≤ q) st t) a b (fun q => G.2.2 ≤ q)
theorem Ctr.of {l : Launch} {G : GG} {f w a b : Nat} {M : MD} {As : List Value} {n n' : Nat} {μ μ' : Mu} {r : Option Value} (hy : plainName M.1.cls = true) (hn : Nat.ble (lg_sl As).length M.2.2.1 = true)
    (h : ∀ X : CX, GX X l G M f w → EX X r n' μ' → V X a b n μ 0 (lv_args 0 As) []) : Ctr l G f w a b M As n μ r n' μ' := by
  refine Met.ofW (cc := M.2.1) (maxL := M.2.2.1) (ret := M.2.2.2) hy rfl ?_
  intro p e s m args below meth c s₁ B hml hv
  obtain ⟨rfl, hR, hK⟩ := hv
  have hts := atoms_spec (ws := wd M) B.pre
  have k := h (p, l, e, { frames := f, cells := a, slots := b, locals := w }, s, m, As.toArray, below, meth, c, _, G)
    ⟨rfl, rfl, B.exec, B.bytes, B.returns, hml, findClass_of_methodNamed B.named, fun t ht => hts t (List.mem_cons_of_mem _ ht), B.notSynchronized, (name_of_methodNamed B.named B.method).1, hK, by rw [hR.1]; exact hR.2.1, rfl, rfl⟩ rfl
  rw [lg_entry_eq]
  exact k s.heap [] 0 0 _ (by simp) (by simp) hR va_S.rf (by rw [hml]; exact lv_entry As (Nat.le_of_ble_eq_true hn))
section VL
variable {X : CX} {l0 : Launch} {G0 : GG} {M : MD} {f w a b n : Nat} {μ : Mu} {pc : Nat} {ls : List (Nat × Value)} {st : List Value}
theorem v_sub {ls' : List (Nat × Value)} (ks : List Nat) (h : lv_pick ls ks = ls') (k : V X a b n μ pc ls' st) : V X a b n μ pc ls st := by
  obtain ⟨p, l, e, R, s, m, args, below, meth, c, Z, G⟩ := X
  intro H locs cells slots L h1 h2 h3 h4 h5
  exact k H locs cells slots L h1 h2 h3 h4 (lv_sub h5 ks h)
theorem v_mem {μ' : Mu} (h : ∀ (q : Nat) (e : Ce), μ' q = some e → μ q = some e) (k : V X a b n μ' pc ls st) : V X a b n μ pc ls st := by
  obtain ⟨p, l, e, R, s, m, args, below, meth, c, Z, G⟩ := X
  intro H locs cells slots L h1 h2 h3 h4 h5
  exact k H locs cells slots L h1 h2 (h3.less h) h4 h5
theorem v_meq {μ' : Mu} (h : μ = μ') (k : V X a b n μ' pc ls st) : V X a b n μ pc ls st := h ▸ k
theorem v_room {a' b' : Nat} (ha : a' ≤ a) (hb : b' ≤ b) (k : V X a' b' n μ pc ls st) : V X a b n μ pc ls st := by
  obtain ⟨p, l, e, R, s, m, args, below, meth, c, Z, G⟩ := X
  intro H locs cells slots L h1 h2 h3 h4 h5
  exact k H locs cells slots L (by omega) (by omega) h3 h4 h5
theorem v_topi {x : Int32} (k : ∀ y : Int32, y = x → V X a b n μ pc ls (.int y :: st)) : V X a b n μ pc ls (.int x :: st) := k x rfl
theorem v_topl {x : Int64} (k : ∀ y : Int64, y = x → V X a b n μ pc ls (.long y :: st)) : V X a b n μ pc ls (.long x :: st) := k x rfl
theorem v_eqi {x y : Int32} (h : x = y) (k : V X a b n μ pc ls (.int y :: st)) : V X a b n μ pc ls (.int x :: st) := h ▸ k
theorem v_eql {x y : Int64} (h : x = y) (k : V X a b n μ pc ls (.long y :: st)) : V X a b n μ pc ls (.long x :: st) := h ▸ k

theorem v_iconst {i : Int} {v : Int32} (g : GX X l0 G0 M f w) (hd : decode M.2.1 pc = .ok (.iconst i, 1)) (hv : Int32.ofInt i = v) (k : V X a b n μ (pc + 1) ls (.int v :: st)) : V X a b n μ pc ls st := by
  obtain ⟨p, l, e, R, s, m, args, below, meth, c, Z, G⟩ := X
  obtain ⟨rfl, rfl, hx, hb, hr, hml, hown, hts, hlk, hnm, hK, hB, hf, hw⟩ := g
  intro H locs cells slots L h1 h2 h3 h4 h5
  exact lv_iconst hx hb hd hv (k H locs cells slots L h1 h2 h3 h4 h5)
theorem v_bipush {i : Int} {v : Int32} (g : GX X l0 G0 M f w) (hd : decode M.2.1 pc = .ok (.bipush i, 2)) (hv : (Int8.ofInt i).toInt32 = v) (k : V X a b n μ (pc + 2) ls (.int v :: st)) : V X a b n μ pc ls st := by
  obtain ⟨p, l, e, R, s, m, args, below, meth, c, Z, G⟩ := X
  obtain ⟨rfl, rfl, hx, hb, hr, hml, hown, hts, hlk, hnm, hK, hB, hf, hw⟩ := g
  intro H locs cells slots L h1 h2 h3 h4 h5
  exact lv_bipush hx hb hd hv (k H locs cells slots L h1 h2 h3 h4 h5)
theorem v_sipush {i : Int} {v : Int32} (g : GX X l0 G0 M f w) (hd : decode M.2.1 pc = .ok (.sipush i, 3)) (hv : (Int16.ofInt i).toInt32 = v) (k : V X a b n μ (pc + 3) ls (.int v :: st)) : V X a b n μ pc ls st := by
  obtain ⟨p, l, e, R, s, m, args, below, meth, c, Z, G⟩ := X
  obtain ⟨rfl, rfl, hx, hb, hr, hml, hown, hts, hlk, hnm, hK, hB, hf, hw⟩ := g
  intro H locs cells slots L h1 h2 h3 h4 h5
  exact lv_sipush hx hb hd hv (k H locs cells slots L h1 h2 h3 h4 h5)
theorem v_lconst {i : Fin 2} {v : Int64} (g : GX X l0 G0 M f w) (hd : decode M.2.1 pc = .ok (.lconst i, 1)) (hv : Int64.ofNat (i : Nat) = v) (k : V X a b n μ (pc + 1) ls (.long v :: st)) : V X a b n μ pc ls st := by
  obtain ⟨p, l, e, R, s, m, args, below, meth, c, Z, G⟩ := X
  obtain ⟨rfl, rfl, hx, hb, hr, hml, hown, hts, hlk, hnm, hK, hB, hf, hw⟩ := g
  intro H locs cells slots L h1 h2 h3 h4 h5
  exact lv_lconst hx hb hd hv (k H locs cells slots L h1 h2 h3 h4 h5)
theorem v_iload_n {x : Int32} {k0 : Fin 4} (g : GX X l0 G0 M f w) (hd : decode M.2.1 pc = .ok (.iload_n k0, 1)) (j : Nat) (hj : ls[j]? = some ((k0 : Nat), .int x)) (k : V X a b n μ (pc + 1) ls (.int x :: st)) : V X a b n μ pc ls st := by
  obtain ⟨p, l, e, R, s, m, args, below, meth, c, Z, G⟩ := X
  obtain ⟨rfl, rfl, hx, hb, hr, hml, hown, hts, hlk, hnm, hK, hB, hf, hw⟩ := g
  intro H locs cells slots L h1 h2 h3 h4 h5
  exact lv_iload_n hx hb hd rfl (lv_at h5 j hj) (k H locs cells slots L h1 h2 h3 h4 h5)
theorem v_iload {x : Int32} {i : Nat} (g : GX X l0 G0 M f w) (hd : decode M.2.1 pc = .ok (.iload i, 2)) (j : Nat) (hj : ls[j]? = some (i, .int x)) (k : V X a b n μ (pc + 2) ls (.int x :: st)) : V X a b n μ pc ls st := by
  obtain ⟨p, l, e, R, s, m, args, below, meth, c, Z, G⟩ := X
  obtain ⟨rfl, rfl, hx, hb, hr, hml, hown, hts, hlk, hnm, hK, hB, hf, hw⟩ := g
  intro H locs cells slots L h1 h2 h3 h4 h5
  exact lv_iload hx hb hd (lv_at h5 j hj) (k H locs cells slots L h1 h2 h3 h4 h5)
theorem v_istore_n {x : Int32} {k0 : Fin 4} {ls' : List (Nat × Value)} (g : GX X l0 G0 M f w) (hd : decode M.2.1 pc = .ok (.istore_n k0, 1)) (hi : Nat.blt (k0 : Nat) M.2.2.1 = true) (hl : ((k0 : Nat), Value.int x) :: ls.filter (fun q => !(q.1 == (k0 : Nat)) && !(q.1 + 1 == (k0 : Nat) && q.2.category == 2)) = ls') (k : V X a b n μ (pc + 1) ls' st) : V X a b n μ pc ls (.int x :: st) := by
  obtain ⟨p, l, e, R, s, m, args, below, meth, c, Z, G⟩ := X
  obtain ⟨rfl, rfl, hx, hb, hr, hml, hown, hts, hlk, hnm, hK, hB, hf, hw⟩ := g
  intro H locs cells slots L h1 h2 h3 h4 h5
  exact lv_istore_n hx hb hd rfl h5 (by rw [hml]; exact Nat.le_of_ble_eq_true hi) hl (fun L h5 => k H locs cells slots L h1 h2 h3 h4 h5)
theorem v_istore {x : Int32} {i : Nat} {ls' : List (Nat × Value)} (g : GX X l0 G0 M f w) (hd : decode M.2.1 pc = .ok (.istore i, 2)) (hi : Nat.blt i M.2.2.1 = true) (hl : (i, Value.int x) :: ls.filter (fun q => !(q.1 == i) && !(q.1 + 1 == i && q.2.category == 2)) = ls') (k : V X a b n μ (pc + 2) ls' st) : V X a b n μ pc ls (.int x :: st) := by
  obtain ⟨p, l, e, R, s, m, args, below, meth, c, Z, G⟩ := X
  obtain ⟨rfl, rfl, hx, hb, hr, hml, hown, hts, hlk, hnm, hK, hB, hf, hw⟩ := g
  intro H locs cells slots L h1 h2 h3 h4 h5
  exact lv_istore hx hb hd h5 (by rw [hml]; exact Nat.le_of_ble_eq_true hi) hl (fun L h5 => k H locs cells slots L h1 h2 h3 h4 h5)
theorem v_lload_n {x : Int64} {k0 : Fin 4} (g : GX X l0 G0 M f w) (hd : decode M.2.1 pc = .ok (.lload_n k0, 1)) (j : Nat) (hj : ls[j]? = some ((k0 : Nat), .long x)) (k : V X a b n μ (pc + 1) ls (.long x :: st)) : V X a b n μ pc ls st := by
  obtain ⟨p, l, e, R, s, m, args, below, meth, c, Z, G⟩ := X
  obtain ⟨rfl, rfl, hx, hb, hr, hml, hown, hts, hlk, hnm, hK, hB, hf, hw⟩ := g
  intro H locs cells slots L h1 h2 h3 h4 h5
  exact lv_lload_n hx hb hd rfl (lv_at h5 j hj) (k H locs cells slots L h1 h2 h3 h4 h5)
theorem v_lload {x : Int64} {i : Nat} (g : GX X l0 G0 M f w) (hd : decode M.2.1 pc = .ok (.lload i, 2)) (j : Nat) (hj : ls[j]? = some (i, .long x)) (k : V X a b n μ (pc + 2) ls (.long x :: st)) : V X a b n μ pc ls st := by
  obtain ⟨p, l, e, R, s, m, args, below, meth, c, Z, G⟩ := X
  obtain ⟨rfl, rfl, hx, hb, hr, hml, hown, hts, hlk, hnm, hK, hB, hf, hw⟩ := g
  intro H locs cells slots L h1 h2 h3 h4 h5
  exact lv_lload hx hb hd (lv_at h5 j hj) (k H locs cells slots L h1 h2 h3 h4 h5)
theorem v_lstore_n {x : Int64} {k0 : Fin 4} {ls' : List (Nat × Value)} (g : GX X l0 G0 M f w) (hd : decode M.2.1 pc = .ok (.lstore_n k0, 1)) (hi : Nat.blt ((k0 : Nat) + 1) M.2.2.1 = true) (hl : ((k0 : Nat), Value.long x) :: ls.filter (fun q => !(q.1 == (k0 : Nat)) && (!(q.1 == (k0 : Nat) + 1) && !(q.1 + 1 == (k0 : Nat) && q.2.category == 2))) = ls') (k : V X a b n μ (pc + 1) ls' st) : V X a b n μ pc ls (.long x :: st) := by
  obtain ⟨p, l, e, R, s, m, args, below, meth, c, Z, G⟩ := X
  obtain ⟨rfl, rfl, hx, hb, hr, hml, hown, hts, hlk, hnm, hK, hB, hf, hw⟩ := g
  intro H locs cells slots L h1 h2 h3 h4 h5
  exact lv_lstore_n hx hb hd rfl h5 (by rw [hml]; exact Nat.le_of_ble_eq_true hi) hl (fun L h5 => k H locs cells slots L h1 h2 h3 h4 h5)
theorem v_lstore {x : Int64} {i : Nat} {ls' : List (Nat × Value)} (g : GX X l0 G0 M f w) (hd : decode M.2.1 pc = .ok (.lstore i, 2)) (hi : Nat.blt (i + 1) M.2.2.1 = true) (hl : (i, Value.long x) :: ls.filter (fun q => !(q.1 == i) && (!(q.1 == i + 1) && !(q.1 + 1 == i && q.2.category == 2))) = ls') (k : V X a b n μ (pc + 2) ls' st) : V X a b n μ pc ls (.long x :: st) := by
  obtain ⟨p, l, e, R, s, m, args, below, meth, c, Z, G⟩ := X
  obtain ⟨rfl, rfl, hx, hb, hr, hml, hown, hts, hlk, hnm, hK, hB, hf, hw⟩ := g
  intro H locs cells slots L h1 h2 h3 h4 h5
  exact lv_lstore hx hb hd h5 (by rw [hml]; exact Nat.le_of_ble_eq_true hi) hl (fun L h5 => k H locs cells slots L h1 h2 h3 h4 h5)
theorem v_aload_n {x : Nat} {k0 : Fin 4} (g : GX X l0 G0 M f w) (hd : decode M.2.1 pc = .ok (.aload_n k0, 1)) (j : Nat) (hj : ls[j]? = some ((k0 : Nat), .ref x)) (k : V X a b n μ (pc + 1) ls (.ref x :: st)) : V X a b n μ pc ls st := by
  obtain ⟨p, l, e, R, s, m, args, below, meth, c, Z, G⟩ := X
  obtain ⟨rfl, rfl, hx, hb, hr, hml, hown, hts, hlk, hnm, hK, hB, hf, hw⟩ := g
  intro H locs cells slots L h1 h2 h3 h4 h5
  exact lv_aload_n hx hb hd rfl (lv_at h5 j hj) (k H locs cells slots L h1 h2 h3 h4 h5)
theorem v_aload {x : Nat} {i : Nat} (g : GX X l0 G0 M f w) (hd : decode M.2.1 pc = .ok (.aload i, 2)) (j : Nat) (hj : ls[j]? = some (i, .ref x)) (k : V X a b n μ (pc + 2) ls (.ref x :: st)) : V X a b n μ pc ls st := by
  obtain ⟨p, l, e, R, s, m, args, below, meth, c, Z, G⟩ := X
  obtain ⟨rfl, rfl, hx, hb, hr, hml, hown, hts, hlk, hnm, hK, hB, hf, hw⟩ := g
  intro H locs cells slots L h1 h2 h3 h4 h5
  exact lv_aload hx hb hd (lv_at h5 j hj) (k H locs cells slots L h1 h2 h3 h4 h5)
theorem v_astore_n {x : Nat} {k0 : Fin 4} {ls' : List (Nat × Value)} (g : GX X l0 G0 M f w) (hd : decode M.2.1 pc = .ok (.astore_n k0, 1)) (hi : Nat.blt (k0 : Nat) M.2.2.1 = true) (hl : ((k0 : Nat), Value.ref x) :: ls.filter (fun q => !(q.1 == (k0 : Nat)) && !(q.1 + 1 == (k0 : Nat) && q.2.category == 2)) = ls') (k : V X a b n μ (pc + 1) ls' st) : V X a b n μ pc ls (.ref x :: st) := by
  obtain ⟨p, l, e, R, s, m, args, below, meth, c, Z, G⟩ := X
  obtain ⟨rfl, rfl, hx, hb, hr, hml, hown, hts, hlk, hnm, hK, hB, hf, hw⟩ := g
  intro H locs cells slots L h1 h2 h3 h4 h5
  exact lv_astore_n hx hb hd rfl h5 (by rw [hml]; exact Nat.le_of_ble_eq_true hi) hl (fun L h5 => k H locs cells slots L h1 h2 h3 h4 h5)
theorem v_astore {x : Nat} {i : Nat} {ls' : List (Nat × Value)} (g : GX X l0 G0 M f w) (hd : decode M.2.1 pc = .ok (.astore i, 2)) (hi : Nat.blt i M.2.2.1 = true) (hl : (i, Value.ref x) :: ls.filter (fun q => !(q.1 == i) && !(q.1 + 1 == i && q.2.category == 2)) = ls') (k : V X a b n μ (pc + 2) ls' st) : V X a b n μ pc ls (.ref x :: st) := by
  obtain ⟨p, l, e, R, s, m, args, below, meth, c, Z, G⟩ := X
  obtain ⟨rfl, rfl, hx, hb, hr, hml, hown, hts, hlk, hnm, hK, hB, hf, hw⟩ := g
  intro H locs cells slots L h1 h2 h3 h4 h5
  exact lv_astore hx hb hd h5 (by rw [hml]; exact Nat.le_of_ble_eq_true hi) hl (fun L h5 => k H locs cells slots L h1 h2 h3 h4 h5)
theorem v_iinc {i : Nat} {q : Int} {x v : Int32} {ls' : List (Nat × Value)} (g : GX X l0 G0 M f w) (hd : decode M.2.1 pc = .ok (.iinc i q, 3)) (j : Nat) (hj : ls[j]? = some (i, .int x)) (hv : x + Int32.ofInt q = v) (hi : Nat.blt i M.2.2.1 = true) (hl : (i, Value.int v) :: ls.filter (fun q => !(q.1 == i) && !(q.1 + 1 == i && q.2.category == 2)) = ls') (k : V X a b n μ (pc + 3) ls' st) : V X a b n μ pc ls st := by
  obtain ⟨p, l, e, R, s, m, args, below, meth, c, Z, G⟩ := X
  obtain ⟨rfl, rfl, hx, hb, hr, hml, hown, hts, hlk, hnm, hK, hB, hf, hw⟩ := g
  intro H locs cells slots L h1 h2 h3 h4 h5
  exact lv_iinc hx hb hd h5 hj hv (by rw [hml]; exact Nat.le_of_ble_eq_true hi) hl (fun L h5 => k H locs cells slots L h1 h2 h3 h4 h5)
theorem v_iadd {x y : Int32} (g : GX X l0 G0 M f w) (hd : decode M.2.1 pc = .ok (.iadd, 1))  (k : V X a b n μ (pc + 1) ls (.int (x + y) :: st)) : V X a b n μ pc ls (.int y :: .int x :: st) := by
  obtain ⟨p, l, e, R, s, m, args, below, meth, c, Z, G⟩ := X
  obtain ⟨rfl, rfl, hx, hb, hr, hml, hown, hts, hlk, hnm, hK, hB, hf, hw⟩ := g
  intro H locs cells slots L h1 h2 h3 h4 h5
  exact lv_iadd hx hb hd  (k H locs cells slots L h1 h2 h3 h4 h5)
theorem v_isub {x y : Int32} (g : GX X l0 G0 M f w) (hd : decode M.2.1 pc = .ok (.isub, 1))  (k : V X a b n μ (pc + 1) ls (.int (x - y) :: st)) : V X a b n μ pc ls (.int y :: .int x :: st) := by
  obtain ⟨p, l, e, R, s, m, args, below, meth, c, Z, G⟩ := X
  obtain ⟨rfl, rfl, hx, hb, hr, hml, hown, hts, hlk, hnm, hK, hB, hf, hw⟩ := g
  intro H locs cells slots L h1 h2 h3 h4 h5
  exact lv_isub hx hb hd  (k H locs cells slots L h1 h2 h3 h4 h5)
theorem v_imul {x y : Int32} (g : GX X l0 G0 M f w) (hd : decode M.2.1 pc = .ok (.imul, 1))  (k : V X a b n μ (pc + 1) ls (.int (x * y) :: st)) : V X a b n μ pc ls (.int y :: .int x :: st) := by
  obtain ⟨p, l, e, R, s, m, args, below, meth, c, Z, G⟩ := X
  obtain ⟨rfl, rfl, hx, hb, hr, hml, hown, hts, hlk, hnm, hK, hB, hf, hw⟩ := g
  intro H locs cells slots L h1 h2 h3 h4 h5
  exact lv_imul hx hb hd  (k H locs cells slots L h1 h2 h3 h4 h5)
theorem v_iand {x y : Int32} (g : GX X l0 G0 M f w) (hd : decode M.2.1 pc = .ok (.iand, 1))  (k : V X a b n μ (pc + 1) ls (.int (x &&& y) :: st)) : V X a b n μ pc ls (.int y :: .int x :: st) := by
  obtain ⟨p, l, e, R, s, m, args, below, meth, c, Z, G⟩ := X
  obtain ⟨rfl, rfl, hx, hb, hr, hml, hown, hts, hlk, hnm, hK, hB, hf, hw⟩ := g
  intro H locs cells slots L h1 h2 h3 h4 h5
  exact lv_iand hx hb hd  (k H locs cells slots L h1 h2 h3 h4 h5)
theorem v_ior {x y : Int32} (g : GX X l0 G0 M f w) (hd : decode M.2.1 pc = .ok (.ior, 1))  (k : V X a b n μ (pc + 1) ls (.int (x ||| y) :: st)) : V X a b n μ pc ls (.int y :: .int x :: st) := by
  obtain ⟨p, l, e, R, s, m, args, below, meth, c, Z, G⟩ := X
  obtain ⟨rfl, rfl, hx, hb, hr, hml, hown, hts, hlk, hnm, hK, hB, hf, hw⟩ := g
  intro H locs cells slots L h1 h2 h3 h4 h5
  exact lv_ior hx hb hd  (k H locs cells slots L h1 h2 h3 h4 h5)
theorem v_ixor {x y : Int32} (g : GX X l0 G0 M f w) (hd : decode M.2.1 pc = .ok (.ixor, 1))  (k : V X a b n μ (pc + 1) ls (.int (x ^^^ y) :: st)) : V X a b n μ pc ls (.int y :: .int x :: st) := by
  obtain ⟨p, l, e, R, s, m, args, below, meth, c, Z, G⟩ := X
  obtain ⟨rfl, rfl, hx, hb, hr, hml, hown, hts, hlk, hnm, hK, hB, hf, hw⟩ := g
  intro H locs cells slots L h1 h2 h3 h4 h5
  exact lv_ixor hx hb hd  (k H locs cells slots L h1 h2 h3 h4 h5)
theorem irem_eq (x y : Int32) : x - x / y * y = x % y := by
  apply Int32.toInt_inj.mp
  rw [Int32.toInt_sub, Int32.toInt_mul, Int32.toInt_div, Int.bmod_mul_bmod, Int.sub_bmod_bmod, Int.mul_comm, ← Int.tmod_def, ← Int32.toInt_mod]
  exact Int32.toInt_bmod (x % y)
theorem lrem_eq (x y : Int64) : x - x / y * y = x % y := by
  apply Int64.toInt_inj.mp
  rw [Int64.toInt_sub, Int64.toInt_mul, Int64.toInt_div, Int.bmod_mul_bmod, Int.sub_bmod_bmod, Int.mul_comm, ← Int.tmod_def, ← Int64.toInt_mod]
  exact Int64.toInt_bmod (x % y)
theorem v_idiv {x y : Int32} (g : GX X l0 G0 M f w) (hd : decode M.2.1 pc = .ok (.idiv, 1)) (hne : ¬ y = 0) (k : V X a b n μ (pc + 1) ls (.int (x / y) :: st)) : V X a b n μ pc ls (.int y :: .int x :: st) := by
  obtain ⟨p, l, e, R, s, m, args, below, meth, c, Z, G⟩ := X
  obtain ⟨rfl, rfl, hx, hb, hr, hml, hown, hts, hlk, hnm, hK, hB, hf, hw⟩ := g
  intro H locs cells slots L h1 h2 h3 h4 h5
  exact lv_idiv hx hb hd hne (k H locs cells slots L h1 h2 h3 h4 h5)
theorem v_irem {x y : Int32} (g : GX X l0 G0 M f w) (hd : decode M.2.1 pc = .ok (.irem, 1)) (hne : ¬ y = 0) (k : V X a b n μ (pc + 1) ls (.int (x % y) :: st)) : V X a b n μ pc ls (.int y :: .int x :: st) := by
  obtain ⟨p, l, e, R, s, m, args, below, meth, c, Z, G⟩ := X
  obtain ⟨rfl, rfl, hx, hb, hr, hml, hown, hts, hlk, hnm, hK, hB, hf, hw⟩ := g
  intro H locs cells slots L h1 h2 h3 h4 h5
  exact lv_irem hx hb hd hne (irem_eq x y ▸ k H locs cells slots L h1 h2 h3 h4 h5)
theorem v_ladd {x y : Int64} (g : GX X l0 G0 M f w) (hd : decode M.2.1 pc = .ok (.ladd, 1))  (k : V X a b n μ (pc + 1) ls (.long (x + y) :: st)) : V X a b n μ pc ls (.long y :: .long x :: st) := by
  obtain ⟨p, l, e, R, s, m, args, below, meth, c, Z, G⟩ := X
  obtain ⟨rfl, rfl, hx, hb, hr, hml, hown, hts, hlk, hnm, hK, hB, hf, hw⟩ := g
  intro H locs cells slots L h1 h2 h3 h4 h5
  exact lv_ladd hx hb hd  (k H locs cells slots L h1 h2 h3 h4 h5)
theorem v_lsub {x y : Int64} (g : GX X l0 G0 M f w) (hd : decode M.2.1 pc = .ok (.lsub, 1))  (k : V X a b n μ (pc + 1) ls (.long (x - y) :: st)) : V X a b n μ pc ls (.long y :: .long x :: st) := by
  obtain ⟨p, l, e, R, s, m, args, below, meth, c, Z, G⟩ := X
  obtain ⟨rfl, rfl, hx, hb, hr, hml, hown, hts, hlk, hnm, hK, hB, hf, hw⟩ := g
  intro H locs cells slots L h1 h2 h3 h4 h5
  exact lv_lsub hx hb hd  (k H locs cells slots L h1 h2 h3 h4 h5)
theorem v_lmul {x y : Int64} (g : GX X l0 G0 M f w) (hd : decode M.2.1 pc = .ok (.lmul, 1))  (k : V X a b n μ (pc + 1) ls (.long (x * y) :: st)) : V X a b n μ pc ls (.long y :: .long x :: st) := by
  obtain ⟨p, l, e, R, s, m, args, below, meth, c, Z, G⟩ := X
  obtain ⟨rfl, rfl, hx, hb, hr, hml, hown, hts, hlk, hnm, hK, hB, hf, hw⟩ := g
  intro H locs cells slots L h1 h2 h3 h4 h5
  exact lv_lmul hx hb hd  (k H locs cells slots L h1 h2 h3 h4 h5)
theorem v_land {x y : Int64} (g : GX X l0 G0 M f w) (hd : decode M.2.1 pc = .ok (.land, 1))  (k : V X a b n μ (pc + 1) ls (.long (x &&& y) :: st)) : V X a b n μ pc ls (.long y :: .long x :: st) := by
  obtain ⟨p, l, e, R, s, m, args, below, meth, c, Z, G⟩ := X
  obtain ⟨rfl, rfl, hx, hb, hr, hml, hown, hts, hlk, hnm, hK, hB, hf, hw⟩ := g
  intro H locs cells slots L h1 h2 h3 h4 h5
  exact lv_land hx hb hd  (k H locs cells slots L h1 h2 h3 h4 h5)
theorem v_lor {x y : Int64} (g : GX X l0 G0 M f w) (hd : decode M.2.1 pc = .ok (.lor, 1))  (k : V X a b n μ (pc + 1) ls (.long (x ||| y) :: st)) : V X a b n μ pc ls (.long y :: .long x :: st) := by
  obtain ⟨p, l, e, R, s, m, args, below, meth, c, Z, G⟩ := X
  obtain ⟨rfl, rfl, hx, hb, hr, hml, hown, hts, hlk, hnm, hK, hB, hf, hw⟩ := g
  intro H locs cells slots L h1 h2 h3 h4 h5
  exact lv_lor hx hb hd  (k H locs cells slots L h1 h2 h3 h4 h5)
theorem v_lxor {x y : Int64} (g : GX X l0 G0 M f w) (hd : decode M.2.1 pc = .ok (.lxor, 1))  (k : V X a b n μ (pc + 1) ls (.long (x ^^^ y) :: st)) : V X a b n μ pc ls (.long y :: .long x :: st) := by
  obtain ⟨p, l, e, R, s, m, args, below, meth, c, Z, G⟩ := X
  obtain ⟨rfl, rfl, hx, hb, hr, hml, hown, hts, hlk, hnm, hK, hB, hf, hw⟩ := g
  intro H locs cells slots L h1 h2 h3 h4 h5
  exact lv_lxor hx hb hd  (k H locs cells slots L h1 h2 h3 h4 h5)
theorem v_ldiv {x y : Int64} (g : GX X l0 G0 M f w) (hd : decode M.2.1 pc = .ok (.ldiv, 1)) (hne : ¬ y = 0) (k : V X a b n μ (pc + 1) ls (.long (x / y) :: st)) : V X a b n μ pc ls (.long y :: .long x :: st) := by
  obtain ⟨p, l, e, R, s, m, args, below, meth, c, Z, G⟩ := X
  obtain ⟨rfl, rfl, hx, hb, hr, hml, hown, hts, hlk, hnm, hK, hB, hf, hw⟩ := g
  intro H locs cells slots L h1 h2 h3 h4 h5
  exact lv_ldiv hx hb hd hne (k H locs cells slots L h1 h2 h3 h4 h5)
theorem v_lrem {x y : Int64} (g : GX X l0 G0 M f w) (hd : decode M.2.1 pc = .ok (.lrem, 1)) (hne : ¬ y = 0) (k : V X a b n μ (pc + 1) ls (.long (x % y) :: st)) : V X a b n μ pc ls (.long y :: .long x :: st) := by
  obtain ⟨p, l, e, R, s, m, args, below, meth, c, Z, G⟩ := X
  obtain ⟨rfl, rfl, hx, hb, hr, hml, hown, hts, hlk, hnm, hK, hB, hf, hw⟩ := g
  intro H locs cells slots L h1 h2 h3 h4 h5
  exact lv_lrem hx hb hd hne (lrem_eq x y ▸ k H locs cells slots L h1 h2 h3 h4 h5)
theorem v_ishl {x y : Int32} (g : GX X l0 G0 M f w) (hd : decode M.2.1 pc = .ok (.ishl, 1))  (k : V X a b n μ (pc + 1) ls (.int (x <<< (y &&& 31)) :: st)) : V X a b n μ pc ls (.int y :: .int x :: st) := by
  obtain ⟨p, l, e, R, s, m, args, below, meth, c, Z, G⟩ := X
  obtain ⟨rfl, rfl, hx, hb, hr, hml, hown, hts, hlk, hnm, hK, hB, hf, hw⟩ := g
  intro H locs cells slots L h1 h2 h3 h4 h5
  exact lv_ishl hx hb hd  (k H locs cells slots L h1 h2 h3 h4 h5)
theorem v_ishr {x y : Int32} (g : GX X l0 G0 M f w) (hd : decode M.2.1 pc = .ok (.ishr, 1))  (k : V X a b n μ (pc + 1) ls (.int (x >>> (y &&& 31)) :: st)) : V X a b n μ pc ls (.int y :: .int x :: st) := by
  obtain ⟨p, l, e, R, s, m, args, below, meth, c, Z, G⟩ := X
  obtain ⟨rfl, rfl, hx, hb, hr, hml, hown, hts, hlk, hnm, hK, hB, hf, hw⟩ := g
  intro H locs cells slots L h1 h2 h3 h4 h5
  exact lv_ishr hx hb hd  (k H locs cells slots L h1 h2 h3 h4 h5)
theorem v_i2l {x : Int32} (g : GX X l0 G0 M f w) (hd : decode M.2.1 pc = .ok (.i2l, 1))  (k : V X a b n μ (pc + 1) ls (.long x.toInt64 :: st)) : V X a b n μ pc ls (.int x :: st) := by
  obtain ⟨p, l, e, R, s, m, args, below, meth, c, Z, G⟩ := X
  obtain ⟨rfl, rfl, hx, hb, hr, hml, hown, hts, hlk, hnm, hK, hB, hf, hw⟩ := g
  intro H locs cells slots L h1 h2 h3 h4 h5
  exact lv_i2l hx hb hd rfl (k H locs cells slots L h1 h2 h3 h4 h5)
theorem v_l2i {x : Int64} (g : GX X l0 G0 M f w) (hd : decode M.2.1 pc = .ok (.l2i, 1))  (k : V X a b n μ (pc + 1) ls (.int x.toInt32 :: st)) : V X a b n μ pc ls (.long x :: st) := by
  obtain ⟨p, l, e, R, s, m, args, below, meth, c, Z, G⟩ := X
  obtain ⟨rfl, rfl, hx, hb, hr, hml, hown, hts, hlk, hnm, hK, hB, hf, hw⟩ := g
  intro H locs cells slots L h1 h2 h3 h4 h5
  exact lv_l2i hx hb hd rfl (k H locs cells slots L h1 h2 h3 h4 h5)
theorem v_i2c {x : Int32} (g : GX X l0 G0 M f w) (hd : decode M.2.1 pc = .ok (.i2c, 1))  (k : V X a b n μ (pc + 1) ls (.int (x.toUInt32 % 65536).toInt32 :: st)) : V X a b n μ pc ls (.int x :: st) := by
  obtain ⟨p, l, e, R, s, m, args, below, meth, c, Z, G⟩ := X
  obtain ⟨rfl, rfl, hx, hb, hr, hml, hown, hts, hlk, hnm, hK, hB, hf, hw⟩ := g
  intro H locs cells slots L h1 h2 h3 h4 h5
  exact lv_i2c hx hb hd rfl (k H locs cells slots L h1 h2 h3 h4 h5)
theorem v_lushr {x : Int64} {y : Int32} (g : GX X l0 G0 M f w) (hd : decode M.2.1 pc = .ok (.lushr, 1))  (k : V X a b n μ (pc + 1) ls (.long (x.toUInt64 >>> (y.toInt64.toUInt64 &&& Int64.toUInt64 63)).toInt64 :: st)) : V X a b n μ pc ls (.int y :: .long x :: st) := by
  obtain ⟨p, l, e, R, s, m, args, below, meth, c, Z, G⟩ := X
  obtain ⟨rfl, rfl, hx, hb, hr, hml, hown, hts, hlk, hnm, hK, hB, hf, hw⟩ := g
  intro H locs cells slots L h1 h2 h3 h4 h5
  exact lv_lushr hx hb hd rfl (k H locs cells slots L h1 h2 h3 h4 h5)
theorem v_lshl {x : Int64} {y : Int32} (g : GX X l0 G0 M f w) (hd : decode M.2.1 pc = .ok (.lshl, 1))  (k : V X a b n μ (pc + 1) ls (.long (x <<< (y.toInt64 &&& 63)) :: st)) : V X a b n μ pc ls (.int y :: .long x :: st) := by
  obtain ⟨p, l, e, R, s, m, args, below, meth, c, Z, G⟩ := X
  obtain ⟨rfl, rfl, hx, hb, hr, hml, hown, hts, hlk, hnm, hK, hB, hf, hw⟩ := g
  intro H locs cells slots L h1 h2 h3 h4 h5
  exact lv_lshl hx hb hd rfl (k H locs cells slots L h1 h2 h3 h4 h5)
theorem v_lcmp {x y : Int64} (g : GX X l0 G0 M f w) (hd : decode M.2.1 pc = .ok (.lcmp, 1))  (k : V X a b n μ (pc + 1) ls (.int (lg_cmp x y) :: st)) : V X a b n μ pc ls (.long y :: .long x :: st) := by
  obtain ⟨p, l, e, R, s, m, args, below, meth, c, Z, G⟩ := X
  obtain ⟨rfl, rfl, hx, hb, hr, hml, hown, hts, hlk, hnm, hK, hB, hf, hw⟩ := g
  intro H locs cells slots L h1 h2 h3 h4 h5
  exact W.lcmp hx hb hd  (k H locs cells slots L h1 h2 h3 h4 h5)
theorem v_dup {v : Value} (g : GX X l0 G0 M f w) (hd : decode M.2.1 pc = .ok (.dup, 1)) (hv : v.category = 1) (k : V X a b n μ (pc + 1) ls (v :: v :: st)) : V X a b n μ pc ls (v :: st) := by
  obtain ⟨p, l, e, R, s, m, args, below, meth, c, Z, G⟩ := X
  obtain ⟨rfl, rfl, hx, hb, hr, hml, hown, hts, hlk, hnm, hK, hB, hf, hw⟩ := g
  intro H locs cells slots L h1 h2 h3 h4 h5
  exact lv_dup hx hb hd hv (k H locs cells slots L h1 h2 h3 h4 h5)
theorem v_pop {v : Value} (g : GX X l0 G0 M f w) (hd : decode M.2.1 pc = .ok (.pop, 1)) (hv : v.category = 1) (k : V X a b n μ (pc + 1) ls st) : V X a b n μ pc ls (v :: st) := by
  obtain ⟨p, l, e, R, s, m, args, below, meth, c, Z, G⟩ := X
  obtain ⟨rfl, rfl, hx, hb, hr, hml, hown, hts, hlk, hnm, hK, hB, hf, hw⟩ := g
  intro H locs cells slots L h1 h2 h3 h4 h5
  exact lv_pop hx hb hd hv (k H locs cells slots L h1 h2 h3 h4 h5)
theorem v_dup2 {v u : Value} (g : GX X l0 G0 M f w) (hd : decode M.2.1 pc = .ok (.dup2, 1)) (hv : v.category = 1) (hu : u.category = 1) (k : V X a b n μ (pc + 1) ls (v :: u :: v :: u :: st)) : V X a b n μ pc ls (v :: u :: st) := by
  obtain ⟨p, l, e, R, s, m, args, below, meth, c, Z, G⟩ := X
  obtain ⟨rfl, rfl, hx, hb, hr, hml, hown, hts, hlk, hnm, hK, hB, hf, hw⟩ := g
  intro H locs cells slots L h1 h2 h3 h4 h5
  exact lv_dup2_11 hx hb hd hv hu (k H locs cells slots L h1 h2 h3 h4 h5)
theorem v_if_eq {x : Int32} {off : Int} {tgt : Nat} (g : GX X l0 G0 M f w) (hd : decode M.2.1 pc = .ok (.ifCond .eq off, 3)) (ht : (pc : Int) + off = (tgt : Int)) (kt : x = 0 → V X a b n μ tgt ls st) (kf : ¬ (x = 0) → V X a b n μ (pc + 3) ls st) : V X a b n μ pc ls (.int x :: st) := by
  obtain ⟨p, l, e, R, s, m, args, below, meth, c, Z, G⟩ := X
  obtain ⟨rfl, rfl, hx, hb, hr, hml, hown, hts, hlk, hnm, hK, hB, hf, hw⟩ := g
  intro H locs cells slots L h1 h2 h3 h4 h5
  exact lv_if_eq hx hb hd ht (fun q => kt q H locs cells slots L h1 h2 h3 h4 h5) (fun q => kf q H locs cells slots L h1 h2 h3 h4 h5)
theorem v_icmp_eq {x y : Int32} {off : Int} {tgt : Nat} (g : GX X l0 G0 M f w) (hd : decode M.2.1 pc = .ok (.if_icmp .eq off, 3)) (ht : (pc : Int) + off = (tgt : Int)) (kt : x = y → V X a b n μ tgt ls st) (kf : ¬ (x = y) → V X a b n μ (pc + 3) ls st) : V X a b n μ pc ls (.int y :: .int x :: st) := by
  obtain ⟨p, l, e, R, s, m, args, below, meth, c, Z, G⟩ := X
  obtain ⟨rfl, rfl, hx, hb, hr, hml, hown, hts, hlk, hnm, hK, hB, hf, hw⟩ := g
  intro H locs cells slots L h1 h2 h3 h4 h5
  exact lv_icmp_eq hx hb hd ht (fun q => kt q H locs cells slots L h1 h2 h3 h4 h5) (fun q => kf q H locs cells slots L h1 h2 h3 h4 h5)
theorem v_if_ne {x : Int32} {off : Int} {tgt : Nat} (g : GX X l0 G0 M f w) (hd : decode M.2.1 pc = .ok (.ifCond .ne off, 3)) (ht : (pc : Int) + off = (tgt : Int)) (kt : ¬ x = 0 → V X a b n μ tgt ls st) (kf : x = 0 → V X a b n μ (pc + 3) ls st) : V X a b n μ pc ls (.int x :: st) := by
  obtain ⟨p, l, e, R, s, m, args, below, meth, c, Z, G⟩ := X
  obtain ⟨rfl, rfl, hx, hb, hr, hml, hown, hts, hlk, hnm, hK, hB, hf, hw⟩ := g
  intro H locs cells slots L h1 h2 h3 h4 h5
  exact lv_if_ne hx hb hd ht (fun q => kt q H locs cells slots L h1 h2 h3 h4 h5) (fun q => kf q H locs cells slots L h1 h2 h3 h4 h5)
theorem v_icmp_ne {x y : Int32} {off : Int} {tgt : Nat} (g : GX X l0 G0 M f w) (hd : decode M.2.1 pc = .ok (.if_icmp .ne off, 3)) (ht : (pc : Int) + off = (tgt : Int)) (kt : ¬ x = y → V X a b n μ tgt ls st) (kf : x = y → V X a b n μ (pc + 3) ls st) : V X a b n μ pc ls (.int y :: .int x :: st) := by
  obtain ⟨p, l, e, R, s, m, args, below, meth, c, Z, G⟩ := X
  obtain ⟨rfl, rfl, hx, hb, hr, hml, hown, hts, hlk, hnm, hK, hB, hf, hw⟩ := g
  intro H locs cells slots L h1 h2 h3 h4 h5
  exact lv_icmp_ne hx hb hd ht (fun q => kt q H locs cells slots L h1 h2 h3 h4 h5) (fun q => kf q H locs cells slots L h1 h2 h3 h4 h5)
theorem v_if_lt {x : Int32} {off : Int} {tgt : Nat} (g : GX X l0 G0 M f w) (hd : decode M.2.1 pc = .ok (.ifCond .lt off, 3)) (ht : (pc : Int) + off = (tgt : Int)) (kt : x < 0 → V X a b n μ tgt ls st) (kf : ¬ (x < 0) → V X a b n μ (pc + 3) ls st) : V X a b n μ pc ls (.int x :: st) := by
  obtain ⟨p, l, e, R, s, m, args, below, meth, c, Z, G⟩ := X
  obtain ⟨rfl, rfl, hx, hb, hr, hml, hown, hts, hlk, hnm, hK, hB, hf, hw⟩ := g
  intro H locs cells slots L h1 h2 h3 h4 h5
  exact lv_if_lt hx hb hd ht (fun q => kt q H locs cells slots L h1 h2 h3 h4 h5) (fun q => kf q H locs cells slots L h1 h2 h3 h4 h5)
theorem v_icmp_lt {x y : Int32} {off : Int} {tgt : Nat} (g : GX X l0 G0 M f w) (hd : decode M.2.1 pc = .ok (.if_icmp .lt off, 3)) (ht : (pc : Int) + off = (tgt : Int)) (kt : x < y → V X a b n μ tgt ls st) (kf : ¬ (x < y) → V X a b n μ (pc + 3) ls st) : V X a b n μ pc ls (.int y :: .int x :: st) := by
  obtain ⟨p, l, e, R, s, m, args, below, meth, c, Z, G⟩ := X
  obtain ⟨rfl, rfl, hx, hb, hr, hml, hown, hts, hlk, hnm, hK, hB, hf, hw⟩ := g
  intro H locs cells slots L h1 h2 h3 h4 h5
  exact lv_icmp_lt hx hb hd ht (fun q => kt q H locs cells slots L h1 h2 h3 h4 h5) (fun q => kf q H locs cells slots L h1 h2 h3 h4 h5)
theorem v_if_ge {x : Int32} {off : Int} {tgt : Nat} (g : GX X l0 G0 M f w) (hd : decode M.2.1 pc = .ok (.ifCond .ge off, 3)) (ht : (pc : Int) + off = (tgt : Int)) (kt : 0 ≤ x → V X a b n μ tgt ls st) (kf : ¬ (0 ≤ x) → V X a b n μ (pc + 3) ls st) : V X a b n μ pc ls (.int x :: st) := by
  obtain ⟨p, l, e, R, s, m, args, below, meth, c, Z, G⟩ := X
  obtain ⟨rfl, rfl, hx, hb, hr, hml, hown, hts, hlk, hnm, hK, hB, hf, hw⟩ := g
  intro H locs cells slots L h1 h2 h3 h4 h5
  exact lv_if_ge hx hb hd ht (fun q => kt q H locs cells slots L h1 h2 h3 h4 h5) (fun q => kf q H locs cells slots L h1 h2 h3 h4 h5)
theorem v_icmp_ge {x y : Int32} {off : Int} {tgt : Nat} (g : GX X l0 G0 M f w) (hd : decode M.2.1 pc = .ok (.if_icmp .ge off, 3)) (ht : (pc : Int) + off = (tgt : Int)) (kt : y ≤ x → V X a b n μ tgt ls st) (kf : ¬ (y ≤ x) → V X a b n μ (pc + 3) ls st) : V X a b n μ pc ls (.int y :: .int x :: st) := by
  obtain ⟨p, l, e, R, s, m, args, below, meth, c, Z, G⟩ := X
  obtain ⟨rfl, rfl, hx, hb, hr, hml, hown, hts, hlk, hnm, hK, hB, hf, hw⟩ := g
  intro H locs cells slots L h1 h2 h3 h4 h5
  exact lv_icmp_ge hx hb hd ht (fun q => kt q H locs cells slots L h1 h2 h3 h4 h5) (fun q => kf q H locs cells slots L h1 h2 h3 h4 h5)
theorem v_if_gt {x : Int32} {off : Int} {tgt : Nat} (g : GX X l0 G0 M f w) (hd : decode M.2.1 pc = .ok (.ifCond .gt off, 3)) (ht : (pc : Int) + off = (tgt : Int)) (kt : 0 < x → V X a b n μ tgt ls st) (kf : ¬ (0 < x) → V X a b n μ (pc + 3) ls st) : V X a b n μ pc ls (.int x :: st) := by
  obtain ⟨p, l, e, R, s, m, args, below, meth, c, Z, G⟩ := X
  obtain ⟨rfl, rfl, hx, hb, hr, hml, hown, hts, hlk, hnm, hK, hB, hf, hw⟩ := g
  intro H locs cells slots L h1 h2 h3 h4 h5
  exact lv_if_gt hx hb hd ht (fun q => kt q H locs cells slots L h1 h2 h3 h4 h5) (fun q => kf q H locs cells slots L h1 h2 h3 h4 h5)
theorem v_icmp_gt {x y : Int32} {off : Int} {tgt : Nat} (g : GX X l0 G0 M f w) (hd : decode M.2.1 pc = .ok (.if_icmp .gt off, 3)) (ht : (pc : Int) + off = (tgt : Int)) (kt : y < x → V X a b n μ tgt ls st) (kf : ¬ (y < x) → V X a b n μ (pc + 3) ls st) : V X a b n μ pc ls (.int y :: .int x :: st) := by
  obtain ⟨p, l, e, R, s, m, args, below, meth, c, Z, G⟩ := X
  obtain ⟨rfl, rfl, hx, hb, hr, hml, hown, hts, hlk, hnm, hK, hB, hf, hw⟩ := g
  intro H locs cells slots L h1 h2 h3 h4 h5
  exact lv_icmp_gt hx hb hd ht (fun q => kt q H locs cells slots L h1 h2 h3 h4 h5) (fun q => kf q H locs cells slots L h1 h2 h3 h4 h5)
theorem v_if_le {x : Int32} {off : Int} {tgt : Nat} (g : GX X l0 G0 M f w) (hd : decode M.2.1 pc = .ok (.ifCond .le off, 3)) (ht : (pc : Int) + off = (tgt : Int)) (kt : x ≤ 0 → V X a b n μ tgt ls st) (kf : ¬ (x ≤ 0) → V X a b n μ (pc + 3) ls st) : V X a b n μ pc ls (.int x :: st) := by
  obtain ⟨p, l, e, R, s, m, args, below, meth, c, Z, G⟩ := X
  obtain ⟨rfl, rfl, hx, hb, hr, hml, hown, hts, hlk, hnm, hK, hB, hf, hw⟩ := g
  intro H locs cells slots L h1 h2 h3 h4 h5
  exact lv_if_le hx hb hd ht (fun q => kt q H locs cells slots L h1 h2 h3 h4 h5) (fun q => kf q H locs cells slots L h1 h2 h3 h4 h5)
theorem v_icmp_le {x y : Int32} {off : Int} {tgt : Nat} (g : GX X l0 G0 M f w) (hd : decode M.2.1 pc = .ok (.if_icmp .le off, 3)) (ht : (pc : Int) + off = (tgt : Int)) (kt : x ≤ y → V X a b n μ tgt ls st) (kf : ¬ (x ≤ y) → V X a b n μ (pc + 3) ls st) : V X a b n μ pc ls (.int y :: .int x :: st) := by
  obtain ⟨p, l, e, R, s, m, args, below, meth, c, Z, G⟩ := X
  obtain ⟨rfl, rfl, hx, hb, hr, hml, hown, hts, hlk, hnm, hK, hB, hf, hw⟩ := g
  intro H locs cells slots L h1 h2 h3 h4 h5
  exact lv_icmp_le hx hb hd ht (fun q => kt q H locs cells slots L h1 h2 h3 h4 h5) (fun q => kf q H locs cells slots L h1 h2 h3 h4 h5)
theorem v_goto {off : Int} {tgt : Nat} (g : GX X l0 G0 M f w) (hd : decode M.2.1 pc = .ok (.goto off, 3)) (ht : (pc : Int) + off = (tgt : Int)) (k : V X a b n μ tgt ls st) : V X a b n μ pc ls st := by
  obtain ⟨p, l, e, R, s, m, args, below, meth, c, Z, G⟩ := X
  obtain ⟨rfl, rfl, hx, hb, hr, hml, hown, hts, hlk, hnm, hK, hB, hf, hw⟩ := g
  intro H locs cells slots L h1 h2 h3 h4 h5
  exact lv_goto hx hb hd ht (k H locs cells slots L h1 h2 h3 h4 h5)
theorem v_tableOut {dflt lo hi : Int} {offs : Array Int} {len : Nat} {x : Int32} {tgt : Nat} (g : GX X l0 G0 M f w) (hd : decode M.2.1 pc = .ok (.tableswitch dflt lo hi offs, len)) (h : x.toInt < lo ∨ hi < x.toInt) (ht : (pc : Int) + dflt = (tgt : Int)) (k : V X a b n μ tgt ls st) : V X a b n μ pc ls (.int x :: st) := by
  obtain ⟨p, l, e, R, s, m, args, below, meth, c, Z, G⟩ := X
  obtain ⟨rfl, rfl, hx, hb, hr, hml, hown, hts, hlk, hnm, hK, hB, hf, hw⟩ := g
  intro H locs cells slots L h1 h2 h3 h4 h5
  exact lv_tableOut hx hb hd h ht (k H locs cells slots L h1 h2 h3 h4 h5)
theorem v_tableIn {dflt lo hi : Int} {offs : Array Int} {len : Nat} {x : Int32} {off : Int} {tgt : Nat} (g : GX X l0 G0 M f w) (hd : decode M.2.1 pc = .ok (.tableswitch dflt lo hi offs, len)) (hh : ¬ x.toInt < lo ∧ ¬ hi < x.toInt) (ho : offs[(x.toInt - lo).toNat]? = some off) (ht : (pc : Int) + off = (tgt : Int)) (k : V X a b n μ tgt ls st) : V X a b n μ pc ls (.int x :: st) := by
  obtain ⟨p, l, e, R, s, m, args, below, meth, c, Z, G⟩ := X
  obtain ⟨rfl, rfl, hx, hb, hr, hml, hown, hts, hlk, hnm, hK, hB, hf, hw⟩ := g
  intro H locs cells slots L h1 h2 h3 h4 h5
  exact lv_tableIn hx hb hd hh.1 hh.2 ho ht (k H locs cells slots L h1 h2 h3 h4 h5)
theorem v_lookup {dflt : Int} {ps : Array (Int × Int)} {len : Nat} {x : Int32} {off : Int} {tgt : Nat} (g : GX X l0 G0 M f w) (hd : decode M.2.1 pc = .ok (.lookupswitch dflt ps, len)) (hp : (ps.toList.zip (ps.toList.drop 1)).all (fun (a, next) => a.1 < next.1) = true) (ho : Op.lookupswitch.offset ps.toList dflt x.toInt = off) (ht : (pc : Int) + off = (tgt : Int)) (k : V X a b n μ tgt ls st) : V X a b n μ pc ls (.int x :: st) := by
  obtain ⟨p, l, e, R, s, m, args, below, meth, c, Z, G⟩ := X
  obtain ⟨rfl, rfl, hx, hb, hr, hml, hown, hts, hlk, hnm, hK, hB, hf, hw⟩ := g
  intro H locs cells slots L h1 h2 h3 h4 h5
  exact lv_lookup hx hb hd hp ho ht (k H locs cells slots L h1 h2 h3 h4 h5)
theorem v_ldc2 {idx : Nat} {v : Int64} (g : GX X l0 G0 M f w) (hd : decode M.2.1 pc = .ok (.ldc2_w idx, 3)) (hc : Cond.constantLong M.1.cls idx v ∈ TT) (k : V X a b n μ (pc + 3) ls (.long v :: st)) : V X a b n μ pc ls st := by
  obtain ⟨p, l, e, R, s, m, args, below, meth, c, Z, G⟩ := X
  obtain ⟨rfl, rfl, hx, hb, hr, hml, hown, hts, hlk, hnm, hK, hB, hf, hw⟩ := g
  intro H locs cells slots L h1 h2 h3 h4 h5
  exact lv_ldc2 hx hb hown (hts _ hc) hd (k H locs cells slots L h1 h2 h3 h4 h5)
/-- what one field instruction stands on: class number ci, field k, named by own's constant idx -/
def FL (own : String) (idx ci k : Nat) (fin : Bool) (ty : FieldType) : Prop := ∃ (C : String) (T : u_T) (N : Nat) (ty0 : Nat → FieldType), vwCl[ci]? = some (C, T, N) ∧ k < N ∧ (∀ w ∈ u_ws C T N, w ∈ lw_tbl) ∧ (∀ w ∈ u_ws C T N, w ∈ TT) ∧ Cond.fieldLink own idx C (T k).2.1 (T k).2.2.1 ∈ TT ∧ (T k).1 = C ∧
  (∀ k, k < N → parseFieldDescriptor (T k).2.2.1 = some (ty0 k)) ∧ (∀ a, a < N → ∀ b, b < N → a ≠ b → (T a).2.1 ≠ (T b).2.1) ∧ (T k).2.2.2 = fin ∧ parseFieldDescriptor (T k).2.2.1 = some ty
theorem v_get {idx ci i o : Nat} {fin : Bool} {ty : FieldType} {fs : List Value} {v : Value} (g : GX X l0 G0 M f w) (hd : decode M.2.1 pc = .ok (.getfield idx, 3)) (fl : FL M.1.cls idx ci i fin ty) (hμ : μ o = some (.inr (ci, fs))) (hv : fs[i]? = some v) (k : V X a b n μ (pc + 3) ls (v :: st)) : V X a b n μ pc ls (.ref o :: st) := by
  obtain ⟨p, l, e, R, s, m, args, below, meth, c, Z, G⟩ := X
  obtain ⟨rfl, rfl, hx, hb, hr, hml, hown, hts, hlk, hnm, hK, hB, hf, hw⟩ := g
  intro H locs cells slots L h1 h2 h3 h4 h5
  have h3' := h3
  obtain ⟨z1, z2, ws, hP, hD, hF⟩ := h3
  obtain ⟨q0, hq⟩ := hF _ _ hμ
  obtain ⟨C, T, N, ty0, e1, e2, -, e3, e4, e5, -⟩ := fl
  exact va_get hx hb hts e3 hown hK.1 hP q0 hq e1 i e2 (hts _ e4) (fun _ h => e5 ▸ h) hv hd (k H locs cells slots L h1 h2 h3' h4 h5)
theorem v_put {idx ci i o : Nat} {ty : FieldType} {fs : List Value} {v : Value} (g : GX X l0 G0 M f w) (hd : decode M.2.1 pc = .ok (.putfield idx, 3)) (fl : FL M.1.cls idx ci i false ty) (hμ : μ o = some (.inr (ci, fs))) (hn : narrow ty v = v ∧ fits ty v = true) (hl : Nat.blt i fs.length = true) (k : V X a b n (mset μ o (.inr (ci, fs.set i v))) (pc + 3) ls st) : V X a b n μ pc ls (v :: .ref o :: st) := by
  obtain ⟨p, l, e, R, s, m, args, below, meth, c, Z, G⟩ := X
  obtain ⟨rfl, rfl, hx, hb, hr, hml, hown, hts, hlk, hnm, hK, hB, hf, hw⟩ := g
  intro H locs cells slots L h1 h2 h3 h4 h5
  obtain ⟨z1, z2, ws, hP, hD, hF⟩ := h3
  obtain ⟨q0, hq⟩ := hF _ _ hμ
  obtain ⟨C, T, N, ty0, e1, e20, -, e3, e4, e5, e6, e7, e8, e9⟩ := fl
  have hap := va_apart (own := M.1.cls) hts e3 ty0 e6 e7 hK.1 e1
  have hl' := Nat.le_of_ble_eq_true hl
  obtain ⟨r0, hr0, cell, q1, q2, q3, q4⟩ := hP q0 _ hq
  have hrr : r0 = (C, T, N) := Option.some.inj (hr0.symm.trans e1)
  subst hrr
  obtain ⟨hSl, hfc, kC, hkC, hkind⟩ := hK.1.1 ci _ e1
  obtain ⟨cf, kf, fi, fd, hi, hsl⟩ := hSl i e20
  have hlay := hts _ (e3 _ (u_in_lay e20))
  unfold u_lay at hlay
  have hst := (u_facts hfc hkC (u_lays hts e3 e20) hi).1
  rw [if_neg (by rw [e8]; decide)] at hlay
  have h6 := u_store hfc hkC hkind hlay hi e9 hn.1 hn.2
  refine W.putK hx hb (f := fd) ⟨hown, hts _ e4, ⟨_, _, _, e5 ▸ hi⟩, hst⟩ (by rw [q2]; exact h6) q1 q3 (by rw [hsl]; exact k2_hasslot (q4 i e20)) rfl rfl hd fun H1 c1 c2 c3 => ?_
  rw [hsl] at c1 ⊢
  exact k H1 _ cells slots L h1 h2 (Rp.set z1 z2 hF hD hq rfl (hP.set hD hq ⟨_, e1, t_OB.to (V := updV (vp_V fs) i v) ⟨_, c1, q2, q3, t_set q4 hap e20 v⟩ (fun j _ => vp_updV_set hl' v j)⟩ c3) (hD.set hq) c2) (h4.put c2 c3 (hD.2 q0 _ hq)) h5
theorem v_putF {idx ci i o : Nat} {ty : FieldType} {fs : List Value} {v : Value} (g : GX X l0 G0 M f w) (hd : decode M.2.1 pc = .ok (.putfield idx, 3)) (hini : M.1.name = "<init>") (hdecl : ∀ (C : String) (T : u_T) (N : Nat), vwCl[ci]? = some (C, T, N) → C = M.1.cls) (fl : FL M.1.cls idx ci i true ty) (hμ : μ o = some (.inr (ci, fs))) (hn : narrow ty v = v ∧ fits ty v = true) (hl : Nat.blt i fs.length = true) (k : V X a b n (mset μ o (.inr (ci, fs.set i v))) (pc + 3) ls st) : V X a b n μ pc ls (v :: .ref o :: st) := by
  obtain ⟨p, l, e, R, s, m, args, below, meth, c, Z, G⟩ := X
  obtain ⟨rfl, rfl, hx, hb, hr, hml, hown, hts, hlk, hnm, hK, hB, hf, hw⟩ := g
  intro H locs cells slots L h1 h2 h3 h4 h5
  obtain ⟨z1, z2, ws, hP, hD, hF⟩ := h3
  obtain ⟨q0, hq⟩ := hF _ _ hμ
  obtain ⟨C, T, N, ty0, e1, e20, -, e3, e4, e5, e6, e7, e8, e9⟩ := fl
  have hap := va_apart (own := M.1.cls) hts e3 ty0 e6 e7 hK.1 e1
  have hl' := Nat.le_of_ble_eq_true hl
  obtain ⟨r0, hr0, cell, q1, q2, q3, q4⟩ := hP q0 _ hq
  have hrr : r0 = (C, T, N) := Option.some.inj (hr0.symm.trans e1)
  subst hrr
  obtain ⟨hSl, hfc, kC, hkC, hkind⟩ := hK.1.1 ci _ e1
  obtain ⟨cf, kf, fi, fd, hi, hsl⟩ := hSl i e20
  have hlay := hts _ (e3 _ (u_in_lay e20))
  unfold u_lay at hlay
  have hst := (u_facts hfc hkC (u_lays hts e3 e20) hi).1
  rw [if_pos e8] at hlay
  have hcf : m.cls = cf := by
    obtain ⟨_, _, c', _, _, _, -, -, hf', -, -, -, hown2, -⟩ := Cond.laysFinal_spec hlay
    have e1' : c' = cf := by have := hi.symm.trans hf'; simp at this; exact this.1.symm
    rw [e5, hdecl C T N e1] at hown2
    rw [← e1']; exact Option.some.inj (hown.symm.trans hown2)
  have h6 := u_fits hfc hkC hkind (Or.inr hlay) hi e9 hn.1 hn.2
  refine W.putFinK hx hb hown (hts _ e4) (e5 ▸ hi) hst hcf (hnm.trans hini) (by rw [q2]; exact h6) q1 q3 (by rw [hsl]; exact k2_hasslot (q4 i e20)) rfl rfl hd fun H1 c1 c2 c3 => ?_
  rw [hsl] at c1 ⊢
  exact k H1 _ cells slots L h1 h2 (Rp.set z1 z2 hF hD hq rfl (hP.set hD hq ⟨_, e1, t_OB.to (V := updV (vp_V fs) i v) ⟨_, c1, q2, q3, t_set q4 hap e20 v⟩ (fun j _ => vp_updV_set hl' v j)⟩ c3) (hD.set hq) c2) (h4.put c2 c3 (hD.2 q0 _ hq)) h5
theorem tysL_at (ty : Nat → ClassId) : ∀ t : Nat, Nat.blt t 6 = true → ∃ T : FieldType, (tysL ty)[t]? = some (ty t, T)
  | 0, _ => ⟨_, rfl⟩
  | 1, _ => ⟨_, rfl⟩
  | 2, _ => ⟨_, rfl⟩
  | 3, _ => ⟨_, rfl⟩
  | 4, _ => ⟨_, rfl⟩
  | 5, _ => ⟨_, rfl⟩
  | t + 6, h => absurd (Nat.le_of_ble_eq_true h) (by omega)
theorem v_alen {t o : Nat} {x : vp_A} {v : Int32} (g : GX X l0 G0 M f w) (hd : decode M.2.1 pc = .ok (.arraylength, 1)) (hμ : μ o = some (.inl (t, x))) (ht : Nat.blt t 6 = true) (hv : Int32.ofNat x.1 = v) (k : V X a b n μ (pc + 1) ls (.int v :: st)) : V X a b n μ pc ls (.ref o :: st) := by
  obtain ⟨p, l, e, R, s, m, args, below, meth, c, Z, G⟩ := X
  obtain ⟨rfl, rfl, hx, hb, hr, hml, hown, hts, hlk, hnm, hK, hB, hf, hw⟩ := g
  intro H locs cells slots L h1 h2 h3 h4 h5
  have h3' := h3
  obtain ⟨z1, z2, ws, hP, hD, hF⟩ := h3
  obtain ⟨q0, hq⟩ := hF _ _ hμ
  obtain ⟨T, hT⟩ := tysL_at G.2.1 t ht
  exact va_alen hx hb hK.1 hP q0 t hq hT hv hd (k H locs cells slots L h1 h2 h3' h4 h5)
theorem v_iald {o len : Nat} {f1 : Nat → Int32} {i : Int32} (g : GX X l0 G0 M f w) (hd : decode M.2.1 pc = .ok (.iaload, 1)) (hμ : μ o = some (.inl (0, len, .inl f1))) (hin : vp_in i len) (k : V X a b n μ (pc + 1) ls (.int (f1 i.toNatClampNeg) :: st)) : V X a b n μ pc ls (.int i :: .ref o :: st) := by
  obtain ⟨p, l, e, R, s, m, args, below, meth, c, Z, G⟩ := X
  obtain ⟨rfl, rfl, hx, hb, hr, hml, hown, hts, hlk, hnm, hK, hB, hf, hw⟩ := g
  intro H locs cells slots L h1 h2 h3 h4 h5
  have h3' := h3
  obtain ⟨z1, z2, ws, hP, hD, hF⟩ := h3
  obtain ⟨q0, hq⟩ := hF _ _ hμ
  exact va_iald hx hb hK.1 hP q0 0 hq rfl hin hd (k H locs cells slots L h1 h2 h3' h4 h5)
theorem v_cald {o len : Nat} {f1 : Nat → Int32} {i : Int32} (g : GX X l0 G0 M f w) (hd : decode M.2.1 pc = .ok (.caload, 1)) (hμ : μ o = some (.inl (2, len, .inl f1))) (hin : vp_in i len) (k : V X a b n μ (pc + 1) ls (.int (f1 i.toNatClampNeg) :: st)) : V X a b n μ pc ls (.int i :: .ref o :: st) := by
  obtain ⟨p, l, e, R, s, m, args, below, meth, c, Z, G⟩ := X
  obtain ⟨rfl, rfl, hx, hb, hr, hml, hown, hts, hlk, hnm, hK, hB, hf, hw⟩ := g
  intro H locs cells slots L h1 h2 h3 h4 h5
  have h3' := h3
  obtain ⟨z1, z2, ws, hP, hD, hF⟩ := h3
  obtain ⟨q0, hq⟩ := hF _ _ hμ
  exact va_cald hx hb hK.1 hP q0 2 hq rfl hin hd (k H locs cells slots L h1 h2 h3' h4 h5)
theorem v_bald {o len : Nat} {f1 : Nat → Int32} {i : Int32} (g : GX X l0 G0 M f w) (hd : decode M.2.1 pc = .ok (.baload, 1)) (hμ : μ o = some (.inl (5, len, .inl f1))) (hin : vp_in i len) (k : V X a b n μ (pc + 1) ls (.int (f1 i.toNatClampNeg) :: st)) : V X a b n μ pc ls (.int i :: .ref o :: st) := by
  obtain ⟨p, l, e, R, s, m, args, below, meth, c, Z, G⟩ := X
  obtain ⟨rfl, rfl, hx, hb, hr, hml, hown, hts, hlk, hnm, hK, hB, hf, hw⟩ := g
  intro H locs cells slots L h1 h2 h3 h4 h5
  have h3' := h3
  obtain ⟨z1, z2, ws, hP, hD, hF⟩ := h3
  obtain ⟨q0, hq⟩ := hF _ _ hμ
  exact va_bald hx hb hK.1 hP q0 5 hq rfl hin hd (k H locs cells slots L h1 h2 h3' h4 h5)
theorem v_lald {o len : Nat} {f1 : Nat → Int64} {i : Int32} (g : GX X l0 G0 M f w) (hd : decode M.2.1 pc = .ok (.laload, 1)) (hμ : μ o = some (.inl (1, len, .inr (.inl f1)))) (hin : vp_in i len) (k : V X a b n μ (pc + 1) ls (.long (f1 i.toNatClampNeg) :: st)) : V X a b n μ pc ls (.int i :: .ref o :: st) := by
  obtain ⟨p, l, e, R, s, m, args, below, meth, c, Z, G⟩ := X
  obtain ⟨rfl, rfl, hx, hb, hr, hml, hown, hts, hlk, hnm, hK, hB, hf, hw⟩ := g
  intro H locs cells slots L h1 h2 h3 h4 h5
  have h3' := h3
  obtain ⟨z1, z2, ws, hP, hD, hF⟩ := h3
  obtain ⟨q0, hq⟩ := hF _ _ hμ
  exact va_lald hx hb hK.1 hP q0 1 hq rfl hin hd (k H locs cells slots L h1 h2 h3' h4 h5)
theorem v_aaldR {o len : Nat} {f1 : Nat → Option Nat} {i : Int32} {v : Value} (g : GX X l0 G0 M f w) (hd : decode M.2.1 pc = .ok (.aaload, 1)) (hμ : μ o = some (.inl (3, len, .inr (.inr (.inr (.inr f1)))))) (hin : vp_in i len) (hv : va_rf (f1 i.toNatClampNeg) = v) (k : V X a b n μ (pc + 1) ls (v :: st)) : V X a b n μ pc ls (.int i :: .ref o :: st) := by
  obtain ⟨p, l, e, R, s, m, args, below, meth, c, Z, G⟩ := X
  obtain ⟨rfl, rfl, hx, hb, hr, hml, hown, hts, hlk, hnm, hK, hB, hf, hw⟩ := g
  intro H locs cells slots L h1 h2 h3 h4 h5
  have h3' := h3
  obtain ⟨z1, z2, ws, hP, hD, hF⟩ := h3
  obtain ⟨q0, hq⟩ := hF _ _ hμ
  subst hv
  exact va_aldq hx hb hK.1 hP q0 3 hq rfl hin hd (k H locs cells slots L h1 h2 h3' h4 h5)
theorem v_aaldO {o len : Nat} {f1 : Nat → Option Nat} {i : Int32} {v : Value} (g : GX X l0 G0 M f w) (hd : decode M.2.1 pc = .ok (.aaload, 1)) (hμ : μ o = some (.inl (4, len, .inr (.inr (.inr (.inr f1)))))) (hin : vp_in i len) (hv : va_rf (f1 i.toNatClampNeg) = v) (k : V X a b n μ (pc + 1) ls (v :: st)) : V X a b n μ pc ls (.int i :: .ref o :: st) := by
  obtain ⟨p, l, e, R, s, m, args, below, meth, c, Z, G⟩ := X
  obtain ⟨rfl, rfl, hx, hb, hr, hml, hown, hts, hlk, hnm, hK, hB, hf, hw⟩ := g
  intro H locs cells slots L h1 h2 h3 h4 h5
  have h3' := h3
  obtain ⟨z1, z2, ws, hP, hD, hF⟩ := h3
  obtain ⟨q0, hq⟩ := hF _ _ hμ
  subst hv
  exact va_aldq hx hb hK.1 hP q0 4 hq rfl hin hd (k H locs cells slots L h1 h2 h3' h4 h5)
theorem v_iast {o len : Nat} {f1 : Nat → Int32} {i : Int32} {x : Int32} (g : GX X l0 G0 M f w) (hd : decode M.2.1 pc = .ok (.iastore, 1)) (hμ : μ o = some (.inl (0, len, .inl f1))) (hin : vp_in i len) (k : V X a b n (mset μ o (.inl (0, len, .inl (upd f1 i.toNatClampNeg x)))) (pc + 1) ls st) : V X a b n μ pc ls (.int x :: .int i :: .ref o :: st) := by
  obtain ⟨p, l, e, R, s, m, args, below, meth, c, Z, G⟩ := X
  obtain ⟨rfl, rfl, hx, hb, hr, hml, hown, hts, hlk, hnm, hK, hB, hf, hw⟩ := g
  intro H locs cells slots L h1 h2 h3 h4 h5
  obtain ⟨z1, z2, ws, hP, hD, hF⟩ := h3
  obtain ⟨q0, hq⟩ := hF _ _ hμ
  refine W.iast hx hb (hP q0 _ hq) ((hK.1.2 0 _ rfl).1 len (fun j => .int (f1 j))) (fun q => by cases q) (by show ¬ (i < 0 ∨ (arrV _ _ _).slots.size ≤ _); rw [arrV_size]; exact hin) rfl rfl hd fun H1 e1 z oq => ?_
  refine k H1 _ cells slots L h1 h2 (Rp.set z1 z2 hF hD hq rfl (hP.set hD hq ?_ oq) (hD.set hq) z) (h4.put z oq (hD.2 q0 _ hq)) h5
  show H1[o]? = some (vp_cell _ _)
  rw [e1]
  show some ((vp_cell _ _).setSlot _ _) = some (vp_cell _ _)
  rw [vp_cell_i, vp_cell_i, arrV_store]
  congr 2
  funext q
  by_cases hq1 : q = i.toNatClampNeg
  · subst hq1
    simp [updV, upd]
    try rfl
  · simp [updV, upd, hq1]
theorem v_cast {o len : Nat} {f1 : Nat → Int32} {i : Int32} {x : Int32} (g : GX X l0 G0 M f w) (hd : decode M.2.1 pc = .ok (.castore, 1)) (hμ : μ o = some (.inl (2, len, .inl f1))) (hin : vp_in i len) (k : V X a b n (mset μ o (.inl (2, len, .inl (upd f1 i.toNatClampNeg (vp_nar .char x))))) (pc + 1) ls st) : V X a b n μ pc ls (.int x :: .int i :: .ref o :: st) := by
  obtain ⟨p, l, e, R, s, m, args, below, meth, c, Z, G⟩ := X
  obtain ⟨rfl, rfl, hx, hb, hr, hml, hown, hts, hlk, hnm, hK, hB, hf, hw⟩ := g
  intro H locs cells slots L h1 h2 h3 h4 h5
  obtain ⟨z1, z2, ws, hP, hD, hF⟩ := h3
  obtain ⟨q0, hq⟩ := hF _ _ hμ
  refine W.cast hx hb (hP q0 _ hq) ((hK.1.2 2 _ rfl).1 len (fun j => .int (f1 j))) (fun q => by cases q) (by show ¬ (i < 0 ∨ (arrV _ _ _).slots.size ≤ _); rw [arrV_size]; exact hin) rfl rfl hd fun H1 e1 z oq => ?_
  refine k H1 _ cells slots L h1 h2 (Rp.set z1 z2 hF hD hq rfl (hP.set hD hq ?_ oq) (hD.set hq) z) (h4.put z oq (hD.2 q0 _ hq)) h5
  show H1[o]? = some (vp_cell _ _)
  rw [e1]
  show some ((vp_cell _ _).setSlot _ _) = some (vp_cell _ _)
  rw [vp_cell_i, vp_cell_i, arrV_store]
  congr 2
  funext q
  by_cases hq1 : q = i.toNatClampNeg
  · subst hq1
    simp [updV, upd, vp_nar]
    try rfl
  · simp [updV, upd, vp_nar, hq1]
theorem v_last {o len : Nat} {f1 : Nat → Int64} {i : Int32} {x : Int64} (g : GX X l0 G0 M f w) (hd : decode M.2.1 pc = .ok (.lastore, 1)) (hμ : μ o = some (.inl (1, len, .inr (.inl f1)))) (hin : vp_in i len) (k : V X a b n (mset μ o (.inl (1, len, .inr (.inl (vp_updL f1 i.toNatClampNeg x))))) (pc + 1) ls st) : V X a b n μ pc ls (.long x :: .int i :: .ref o :: st) := by
  obtain ⟨p, l, e, R, s, m, args, below, meth, c, Z, G⟩ := X
  obtain ⟨rfl, rfl, hx, hb, hr, hml, hown, hts, hlk, hnm, hK, hB, hf, hw⟩ := g
  intro H locs cells slots L h1 h2 h3 h4 h5
  obtain ⟨z1, z2, ws, hP, hD, hF⟩ := h3
  obtain ⟨q0, hq⟩ := hF _ _ hμ
  refine W.last hx hb (hP q0 _ hq) ((hK.1.2 1 _ rfl).1 len (fun j => .long (f1 j))) (fun q => by cases q) (by show ¬ (i < 0 ∨ (arrV _ _ _).slots.size ≤ _); rw [arrV_size]; exact hin) rfl rfl hd fun H1 e1 z oq => ?_
  refine k H1 _ cells slots L h1 h2 (Rp.set z1 z2 hF hD hq rfl (hP.set hD hq ?_ oq) (hD.set hq) z) (h4.put z oq (hD.2 q0 _ hq)) h5
  show H1[o]? = some (vp_cell _ _)
  rw [e1]
  show some ((vp_cell _ _).setSlot _ _) = some (vp_cell _ _)
  rw [vp_cell_l, vp_cell_l, arrV_store]
  congr 2
  funext q
  by_cases hq1 : q = i.toNatClampNeg
  · subst hq1
    simp [updV, vp_updL]
    try rfl
  · simp [updV, vp_updL, hq1]
theorem v_aastR {o len : Nat} {f1 : Nat → Option Nat} {i : Int32} {x : Nat} {vs : List Value} (g : GX X l0 G0 M f w) (hd : decode M.2.1 pc = .ok (.aastore, 1)) (hμ : μ o = some (.inl (3, len, .inr (.inr (.inr (.inr f1)))))) (hin : vp_in i len) (hx1 : μ x = some (.inr (4, vs))) (k : V X a b n (mset μ o (.inl (3, len, .inr (.inr (.inr (.inr (va_up f1 i.toNatClampNeg (some x)))))))) (pc + 1) ls st) : V X a b n μ pc ls (.ref x :: .int i :: .ref o :: st) := by
  obtain ⟨p, l, e, R, s, m, args, below, meth, c, Z, G⟩ := X
  obtain ⟨rfl, rfl, hx, hb, hr, hml, hown, hts, hlk, hnm, hK, hB, hf, hw⟩ := g
  intro H locs cells slots L h1 h2 h3 h4 h5
  obtain ⟨z1, z2, ws, hP, hD, hF⟩ := h3
  obtain ⟨q0, hq⟩ := hF _ _ hμ
  obtain ⟨qk, hqk⟩ := hF _ _ hx1
  have hlt : i.toNatClampNeg < len := Nat.not_le.mp fun q => hin (Or.inr q)
  have hi0 : ¬ i < 0 := fun q => hin (Or.inl q)
  obtain ⟨r', hr', cellV, g1, g2, g3, -⟩ := hP qk _ hqk
  have hcls := (hK.1.1 4 _ rfl).2
  obtain ⟨kA, comp, k1, k2, k3, -⟩ := (hK.1.2 3 _ rfl).2
  have hcomp : comp = G.1.1 4 := Option.some.inj (k3.symm.trans hcls.1)
  subst hcomp
  obtain ⟨kC, hkC, -⟩ := id hcls.2
  refine W.aast hx hb (hP q0 _ hq) (fun q h => by cases h) (fun h => by cases h) k1 k2 rfl hkC ⟨hi0, by show _ < (arrV _ _ _).slots.size; rw [arrV_size]; exact hlt⟩ g1 (fun q h => by rw [g3] at h; cases h) (by rw [g2]; exact hkC) (by rw [g2]; exact va_assign hcls) rfl rfl hd fun H1 e1 z oq => ?_
  refine k H1 _ cells slots L h1 h2 (Rp.set z1 z2 hF hD hq rfl (hP.set hD hq ?_ oq) (hD.set hq) z) (h4.put z oq (hD.2 q0 _ hq)) h5
  show H1[o]? = some (vp_cell _ _)
  rw [e1]
  show some ((vp_cell _ _).setSlot _ _) = some (vp_cell _ _)
  rw [vp_cell_q, vp_cell_q, arrV_store]
  congr 2
  funext q
  by_cases hq1 : q = i.toNatClampNeg
  · subst hq1
    simp [updV, va_up, va_rf]
  · simp [updV, va_up, hq1]
theorem v_aastO {o len : Nat} {f1 : Nat → Option Nat} {i : Int32} {x : Nat} {vs : List Value} (g : GX X l0 G0 M f w) (hd : decode M.2.1 pc = .ok (.aastore, 1)) (hμ : μ o = some (.inl (4, len, .inr (.inr (.inr (.inr f1)))))) (hin : vp_in i len) (hx1 : μ x = some (.inr (1, vs))) (k : V X a b n (mset μ o (.inl (4, len, .inr (.inr (.inr (.inr (va_up f1 i.toNatClampNeg (some x)))))))) (pc + 1) ls st) : V X a b n μ pc ls (.ref x :: .int i :: .ref o :: st) := by
  obtain ⟨p, l, e, R, s, m, args, below, meth, c, Z, G⟩ := X
  obtain ⟨rfl, rfl, hx, hb, hr, hml, hown, hts, hlk, hnm, hK, hB, hf, hw⟩ := g
  intro H locs cells slots L h1 h2 h3 h4 h5
  obtain ⟨z1, z2, ws, hP, hD, hF⟩ := h3
  obtain ⟨q0, hq⟩ := hF _ _ hμ
  obtain ⟨qk, hqk⟩ := hF _ _ hx1
  have hlt : i.toNatClampNeg < len := Nat.not_le.mp fun q => hin (Or.inr q)
  have hi0 : ¬ i < 0 := fun q => hin (Or.inl q)
  obtain ⟨r', hr', cellV, g1, g2, g3, -⟩ := hP qk _ hqk
  have hcls := (hK.1.1 1 _ rfl).2
  obtain ⟨kA, comp, k1, k2, k3, -⟩ := (hK.1.2 4 _ rfl).2
  have hcomp : comp = G.1.1 1 := Option.some.inj (k3.symm.trans hcls.1)
  subst hcomp
  obtain ⟨kC, hkC, -⟩ := id hcls.2
  refine W.aast hx hb (hP q0 _ hq) (fun q h => by cases h) (fun h => by cases h) k1 k2 rfl hkC ⟨hi0, by show _ < (arrV _ _ _).slots.size; rw [arrV_size]; exact hlt⟩ g1 (fun q h => by rw [g3] at h; cases h) (by rw [g2]; exact hkC) (by rw [g2]; exact va_assign hcls) rfl rfl hd fun H1 e1 z oq => ?_
  refine k H1 _ cells slots L h1 h2 (Rp.set z1 z2 hF hD hq rfl (hP.set hD hq ?_ oq) (hD.set hq) z) (h4.put z oq (hD.2 q0 _ hq)) h5
  show H1[o]? = some (vp_cell _ _)
  rw [e1]
  show some ((vp_cell _ _).setSlot _ _) = some (vp_cell _ _)
  rw [vp_cell_q, vp_cell_q, arrV_store]
  congr 2
  funext q
  by_cases hq1 : q = i.toNatClampNeg
  · subst hq1
    simp [updV, va_up, va_rf]
  · simp [updV, va_up, hq1]
theorem v_S_push {A : Nat → Prop} {H0 H H1 : Heap} {locs : List Loc} (h : va_S A H0 H locs) (z : H1.size = H.size + 1) (o1 : ∀ q : Nat, q < H.size → H1[q]? = H[q]?) : va_S A H0 H1 locs := ⟨Nat.le_trans h.1 (by omega), fun x h1 h2 => (o1 x (Nat.lt_of_lt_of_le h1 h.1)).trans (h.2.1 x h1 h2), h.2.2⟩
theorem v_new {idx ci N : Nat} {C : String} {T : u_T} {fs : List Value} (g : GX X l0 G0 M f w) (ty0 : Nat → FieldType) (hd : decode M.2.1 pc = .ok (.new idx, 3)) (hc : vwCl[ci]? = some (C, T, N)) (hin : ∀ w ∈ u_ws C T N, w ∈ TT) (hty : ∀ k, k < N → parseFieldDescriptor (T k).2.2.1 = some (ty0 k)) (hw3 : Cond.classLink M.1.cls idx C ∈ TT ∧ Cond.instantiable C N ∈ TT ∧ Cond.initialized C ∈ TT) (hfs : ∀ j, j < N → defaultValue (ty0 j) = vp_V fs j) (k : V X a b (n + 1) (mset μ n (.inr (ci, fs))) (pc + 3) ls (.ref n :: st)) : V X (a + 1) (b + N) n μ pc ls st := by
  obtain ⟨p, l, e, R, s, m, args, below, meth, c, Z, G⟩ := X
  obtain ⟨rfl, rfl, hx, hb, hr, hml, hown, hts, hlk, hnm, hK, hB, hf, hw⟩ := g
  intro H locs cells slots L h1 h2 h3 h4 h5
  obtain ⟨z1, z2, ws, hP, hD, hF⟩ := h3
  have hAA : ∀ q : Nat, s.heap.size ≤ q → G.2.2 ≤ q := fun q h => Nat.le_trans hB h
  have hKn := hK.1.1 ci _ hc
  refine W.newcK hx hb hown (hts _ hw3.1) (hts _ hw3.2.1) (hts _ hw3.2.2) rfl hd (by omega) (by omega) hKn.2.1 z1 fun H1 kC hkC e1 y1 o1 => ?_
  have y1' : H1.size = H.size + 1 := by omega
  have o1' : ∀ q : Nat, q < H.size → H1[q]? = H[q]? := fun q hq => o1 q (by omega)
  refine k H1 locs (cells + 1) (slots + N) L (by omega) (by omega) (Rp.push (e1 := .inr (ci, fs)) z1 z2 hF rfl ((hP.kept (fun k x hx => o1' x.1 ((hP k x hx).lt))).app (fun k x hx => ?_)) (hD.push hP z1.symm z2) y1') (v_S_push h4 y1' o1') h5
  have hz : k < 1 := (List.getElem?_eq_some_iff.mp hx).1
  rw [show k = 0 by omega] at hx
  cases hx
  exact ⟨_, hc, (u_born ty0 hts hin hKn hkC e1 hty).to hfs⟩
theorem v_newaI {i : Int32} {N : Nat} (g : GX X l0 G0 M f w) (hd : decode M.2.1 pc = .ok (.newarray .int, 2)) (hw3 : Cond.arrayClass .int ∈ TT) (hi : ¬ i < 0) (hN : i.toNatClampNeg = N) (hbig : Nat.ble (N * 8) 536870912 = true) (k : V X a b (n + 1) (mset μ n (.inl (0, N, .inl (fun _ => 0)))) (pc + 2) ls (.ref n :: st)) : V X (a + 1) (b + N) n μ pc ls (.int i :: st) := by
  obtain ⟨p, l, e, R, s, m, args, below, meth, c, Z, G⟩ := X
  obtain ⟨rfl, rfl, hx, hb, hr, hml, hown, hts, hlk, hnm, hK, hB, hf, hw⟩ := g
  intro H locs cells slots L h1 h2 h3 h4 h5
  obtain ⟨z1, z2, ws, hP, hD, hF⟩ := h3
  have hAA : ∀ q : Nat, s.heap.size ≤ q → G.2.2 ≤ q := fun q h => Nat.le_trans hB h
  have hbig' : N * 8 ≤ 536870912 := Nat.le_of_ble_eq_true hbig
  refine va_newaK (atype := .int) hx hb (hts _ hw3) rfl hd rfl hi hN (by show N * _ ≤ _; exact Nat.le_trans (Nat.mul_le_mul_left N (by decide)) hbig') (by omega) (by omega) z1 fun H1 cA e1 y1 o1 hAr hNm => ?_
  have y1' : H1.size = H.size + 1 := by omega
  have o1' : ∀ q : Nat, q < H.size → H1[q]? = H[q]? := fun q hq => o1 q (by omega)
  have hcA : cA = G.2.1 0 := Option.some.inj (hNm.symm.trans (hK.1.2 0 _ rfl).2)
  refine k H1 locs (cells + 1) (slots + N) L (by omega) (by omega) (Rp.push (e1 := .inl (G.2.1 0, N, .inl (fun _ => 0))) z1 z2 hF rfl ((hP.kept (fun k x hx => o1' x.1 ((hP k x hx).lt))).app (fun k x hx => ?_)) (hD.push hP z1.symm z2) y1') (v_S_push h4 y1' o1') h5
  have hz : k < 1 := (List.getElem?_eq_some_iff.mp hx).1
  rw [show k = 0 by omega] at hx
  cases hx
  show H1[n]? = some (vp_cell _ _)
  rw [e1, hcA]
  rfl
theorem v_newaC {i : Int32} {N : Nat} (g : GX X l0 G0 M f w) (hd : decode M.2.1 pc = .ok (.newarray .char, 2)) (hw3 : Cond.arrayClass .char ∈ TT) (hi : ¬ i < 0) (hN : i.toNatClampNeg = N) (hbig : Nat.ble (N * 8) 536870912 = true) (k : V X a b (n + 1) (mset μ n (.inl (2, N, .inl (fun _ => 0)))) (pc + 2) ls (.ref n :: st)) : V X (a + 1) (b + N) n μ pc ls (.int i :: st) := by
  obtain ⟨p, l, e, R, s, m, args, below, meth, c, Z, G⟩ := X
  obtain ⟨rfl, rfl, hx, hb, hr, hml, hown, hts, hlk, hnm, hK, hB, hf, hw⟩ := g
  intro H locs cells slots L h1 h2 h3 h4 h5
  obtain ⟨z1, z2, ws, hP, hD, hF⟩ := h3
  have hAA : ∀ q : Nat, s.heap.size ≤ q → G.2.2 ≤ q := fun q h => Nat.le_trans hB h
  have hbig' : N * 8 ≤ 536870912 := Nat.le_of_ble_eq_true hbig
  refine va_newaK (atype := .char) hx hb (hts _ hw3) rfl hd rfl hi hN (by show N * _ ≤ _; exact Nat.le_trans (Nat.mul_le_mul_left N (by decide)) hbig') (by omega) (by omega) z1 fun H1 cA e1 y1 o1 hAr hNm => ?_
  have y1' : H1.size = H.size + 1 := by omega
  have o1' : ∀ q : Nat, q < H.size → H1[q]? = H[q]? := fun q hq => o1 q (by omega)
  have hcA : cA = G.2.1 2 := Option.some.inj (hNm.symm.trans (hK.1.2 2 _ rfl).2)
  refine k H1 locs (cells + 1) (slots + N) L (by omega) (by omega) (Rp.push (e1 := .inl (G.2.1 2, N, .inl (fun _ => 0))) z1 z2 hF rfl ((hP.kept (fun k x hx => o1' x.1 ((hP k x hx).lt))).app (fun k x hx => ?_)) (hD.push hP z1.symm z2) y1') (v_S_push h4 y1' o1') h5
  have hz : k < 1 := (List.getElem?_eq_some_iff.mp hx).1
  rw [show k = 0 by omega] at hx
  cases hx
  show H1[n]? = some (vp_cell _ _)
  rw [e1, hcA]
  rfl
theorem v_newaL {i : Int32} {N : Nat} (g : GX X l0 G0 M f w) (hd : decode M.2.1 pc = .ok (.newarray .long, 2)) (hw3 : Cond.arrayClass .long ∈ TT) (hi : ¬ i < 0) (hN : i.toNatClampNeg = N) (hbig : Nat.ble (N * 8) 536870912 = true) (k : V X a b (n + 1) (mset μ n (.inl (1, N, .inr (.inl (fun _ => 0))))) (pc + 2) ls (.ref n :: st)) : V X (a + 1) (b + N) n μ pc ls (.int i :: st) := by
  obtain ⟨p, l, e, R, s, m, args, below, meth, c, Z, G⟩ := X
  obtain ⟨rfl, rfl, hx, hb, hr, hml, hown, hts, hlk, hnm, hK, hB, hf, hw⟩ := g
  intro H locs cells slots L h1 h2 h3 h4 h5
  obtain ⟨z1, z2, ws, hP, hD, hF⟩ := h3
  have hAA : ∀ q : Nat, s.heap.size ≤ q → G.2.2 ≤ q := fun q h => Nat.le_trans hB h
  have hbig' : N * 8 ≤ 536870912 := Nat.le_of_ble_eq_true hbig
  refine va_newaK (atype := .long) hx hb (hts _ hw3) rfl hd rfl hi hN (by show N * _ ≤ _; exact Nat.le_trans (Nat.mul_le_mul_left N (by decide)) hbig') (by omega) (by omega) z1 fun H1 cA e1 y1 o1 hAr hNm => ?_
  have y1' : H1.size = H.size + 1 := by omega
  have o1' : ∀ q : Nat, q < H.size → H1[q]? = H[q]? := fun q hq => o1 q (by omega)
  have hcA : cA = G.2.1 1 := Option.some.inj (hNm.symm.trans (hK.1.2 1 _ rfl).2)
  refine k H1 locs (cells + 1) (slots + N) L (by omega) (by omega) (Rp.push (e1 := .inl (G.2.1 1, N, .inr (.inl (fun _ => 0)))) z1 z2 hF rfl ((hP.kept (fun k x hx => o1' x.1 ((hP k x hx).lt))).app (fun k x hx => ?_)) (hD.push hP z1.symm z2) y1') (v_S_push h4 y1' o1') h5
  have hz : k < 1 := (List.getElem?_eq_some_iff.mp hx).1
  rw [show k = 0 by omega] at hx
  cases hx
  show H1[n]? = some (vp_cell _ _)
  rw [e1, hcA]
  rfl
theorem v_newqR {idx N : Nat} {i : Int32} (g : GX X l0 G0 M f w) (hd : decode M.2.1 pc = .ok (.anewarray idx, 3)) (hw3 : Cond.classLink M.1.cls idx RX4 ∈ TT) (hi : ¬ i < 0) (hN : i.toNatClampNeg = N) (hbig : Nat.ble (N * 4) 536870912 = true) (k : V X a b (n + 1) (mset μ n (.inl (3, N, .inr (.inr (.inr (.inr (fun _ => none))))))) (pc + 3) ls (.ref n :: st)) : V X (a + 1) (b + N) n μ pc ls (.int i :: st) := by
  obtain ⟨p, l, e, R, s, m, args, below, meth, c, Z, G⟩ := X
  obtain ⟨rfl, rfl, hx, hb, hr, hml, hown, hts, hlk, hnm, hK, hB, hf, hw⟩ := g
  intro H locs cells slots L h1 h2 h3 h4 h5
  obtain ⟨z1, z2, ws, hP, hD, hF⟩ := h3
  have hAA : ∀ q : Nat, s.heap.size ≤ q → G.2.2 ≤ q := fun q h => Nat.le_trans hB h
  subst hN
  refine W.anew hx hb hown (hts _ hw3) (va_AO.use hK.2.2.1) rfl hd rfl hi (Nat.le_of_ble_eq_true hbig) (by omega) (by omega) fun cA kA comp f1 f2 f3 f4 => ?_
  generalize hH1 : H.push ({ cls := cA, slots := Array.replicate i.toNatClampNeg .null, vm := .none } : Cell) = H1
  have y1' : H1.size = H.size + 1 := by rw [← hH1, Array.size_push]
  have e1 : H1[H.size]? = some (arrV cA i.toNatClampNeg (fun _ => .null)) := by rw [← hH1, Array.getElem?_push_size, ← arrV_new]
  have o1' : ∀ q : Nat, q < H.size → H1[q]? = H[q]? := fun q hq => by rw [← hH1, Array.getElem?_push, if_neg (Nat.ne_of_lt hq)]
  obtain ⟨kB, compB, b1, b2, b3, b4⟩ := (hK.1.2 3 _ rfl).2
  have hcA : cA = G.2.1 3 := Option.some.inj (f1.symm.trans b4)
  refine z1 ▸ (k H1 locs (cells + 1) (slots + i.toNatClampNeg) L (by omega) (by omega) (Rp.push (e1 := .inl (G.2.1 3, i.toNatClampNeg, .inr (.inr (.inr (.inr (fun _ => none)))))) z1 z2 hF rfl ((hP.kept (fun k x hx => o1' x.1 ((hP k x hx).lt))).app (fun k x hx => ?_)) (hD.push hP z1.symm z2) y1') (v_S_push h4 y1' o1') h5)
  have hz : k < 1 := (List.getElem?_eq_some_iff.mp hx).1
  rw [show k = 0 by omega] at hx
  cases hx
  show H1[n]? = some (vp_cell _ _)
  rw [vp_cell_q, ← z1, e1, hcA]
  rfl
theorem v_newqO {idx N : Nat} {i : Int32} (g : GX X l0 G0 M f w) (hd : decode M.2.1 pc = .ok (.anewarray idx, 3)) (hw3 : Cond.classLink M.1.cls idx RX1 ∈ TT) (hi : ¬ i < 0) (hN : i.toNatClampNeg = N) (hbig : Nat.ble (N * 4) 536870912 = true) (k : V X a b (n + 1) (mset μ n (.inl (4, N, .inr (.inr (.inr (.inr (fun _ => none))))))) (pc + 3) ls (.ref n :: st)) : V X (a + 1) (b + N) n μ pc ls (.int i :: st) := by
  obtain ⟨p, l, e, R, s, m, args, below, meth, c, Z, G⟩ := X
  obtain ⟨rfl, rfl, hx, hb, hr, hml, hown, hts, hlk, hnm, hK, hB, hf, hw⟩ := g
  intro H locs cells slots L h1 h2 h3 h4 h5
  obtain ⟨z1, z2, ws, hP, hD, hF⟩ := h3
  have hAA : ∀ q : Nat, s.heap.size ≤ q → G.2.2 ≤ q := fun q h => Nat.le_trans hB h
  subst hN
  refine W.anew hx hb hown (hts _ hw3) (va_AO.use hK.2.2.2) rfl hd rfl hi (Nat.le_of_ble_eq_true hbig) (by omega) (by omega) fun cA kA comp f1 f2 f3 f4 => ?_
  generalize hH1 : H.push ({ cls := cA, slots := Array.replicate i.toNatClampNeg .null, vm := .none } : Cell) = H1
  have y1' : H1.size = H.size + 1 := by rw [← hH1, Array.size_push]
  have e1 : H1[H.size]? = some (arrV cA i.toNatClampNeg (fun _ => .null)) := by rw [← hH1, Array.getElem?_push_size, ← arrV_new]
  have o1' : ∀ q : Nat, q < H.size → H1[q]? = H[q]? := fun q hq => by rw [← hH1, Array.getElem?_push, if_neg (Nat.ne_of_lt hq)]
  obtain ⟨kB, compB, b1, b2, b3, b4⟩ := (hK.1.2 4 _ rfl).2
  have hcA : cA = G.2.1 4 := Option.some.inj (f1.symm.trans b4)
  refine z1 ▸ (k H1 locs (cells + 1) (slots + i.toNatClampNeg) L (by omega) (by omega) (Rp.push (e1 := .inl (G.2.1 4, i.toNatClampNeg, .inr (.inr (.inr (.inr (fun _ => none)))))) z1 z2 hF rfl ((hP.kept (fun k x hx => o1' x.1 ((hP k x hx).lt))).app (fun k x hx => ?_)) (hD.push hP z1.symm z2) y1') (v_S_push h4 y1' o1') h5)
  have hz : k < 1 := (List.getElem?_eq_some_iff.mp hx).1
  rw [show k = 0 by omega] at hx
  cases hx
  show H1[n]? = some (vp_cell _ _)
  rw [vp_cell_q, ← z1, e1, hcA]
  rfl
theorem v_objInit {idx o : Nat} (g : GX X l0 G0 M f w) (hd : decode M.2.1 pc = .ok (.invokespecial idx, 3)) (hw3 : Cond.methodLink M.1.cls idx objectInit ∈ TT ∧ Cond.instanceMethod objectInit ∈ TT ∧ Cond.code objectInit ⟨#[0xb1]⟩ 1 none ∈ TT) (hroom : Nat.ble 1 f = true ∧ Nat.ble ((st.map fun v => v.category).sum + 12) w = true) (k : V X a b n μ (pc + 3) ls st) : V X a b n μ pc ls (.ref o :: st) := by
  obtain ⟨p, l, e, R, s, m, args, below, meth, c, Z, G⟩ := X
  obtain ⟨rfl, rfl, hx, hb, hr, hml, hown, hts, hlk, hnm, hK, hB, hf, hw⟩ := g
  intro H locs cells slots L h1 h2 h3 h4 h5
  refine W.objInit hx hb hown (hts _ hw3.1) (hts _ hw3.2.1) (hts _ hw3.2.2) rfl h5.1 rfl hd (by rw [hf]; exact Nat.le_of_ble_eq_true hroom.1) (by rw [hw]; show 2 * 0 + _ + 12 ≤ w; have := Nat.le_of_ble_eq_true hroom.2; omega) ?_
  exact k H locs cells slots L h1 h2 h3 h4 h5
theorem v_blind {G : GG} {n : Nat} {μ : Mu} {As : List Value} : FrameBlind (va_Pc As (fun U => Rp G n μ U.heap ∧ KK G U)) := fun a U g mk h => ⟨h.1, h.2.1, KK.same rfl h.2.2⟩
theorem TT_pay {s : State} {args : Array Value} (hts : ∀ t ∈ TT, t.before args s = true) {ws : List Cond} (h : ∀ w ∈ ws, w ∈ TT) : ∀ w ∈ ws, ∀ (a' : Array Value) (U : State), s.WarmedH U.vm → w.before a' U = true := pay_in hts (TT_good h)
theorem wd_in {M : MD} (h : Cond.code M.1 M.2.1 M.2.2.1 M.2.2.2 ∈ TT) : ∀ w ∈ wd M, w ∈ TT := fun w hw => (List.mem_cons.mp hw).elim (fun e => e ▸ h) id
/-- what a call stands on, but its link: the callee's code among the words, its class, how many arguments -/
def CL (M : MD) (k : Nat) : Prop := Cond.code M.1 M.2.1 M.2.2.1 M.2.2.2 ∈ TT ∧ Cond.initialized M.1.cls ∈ TT ∧ (M.1.cls ≠ "java/lang/invoke/MethodHandle" ∧ M.1.cls ≠ "java/lang/invoke/VarHandle") ∧ (parseMethodDescriptor M.1.desc).map (fun d => d.parameters.length) = some k
theorem v_callend {p : Program} {l : Launch} {e : Env} {R : Room} {s : State} {m : MethodId} {args : Array Value} {below : List Frame} {meth : Method} {c : Code} {Z : State → Prop} {G : GG} {H : Heap} {locs : List Loc} {cells slots mc ms a b n' : Nat} {μ' : Mu} {pc : Nat} {L : Array Slot} {ls : List (Nat × Value)} {st0 rest : List Value} {r : Option Value}
    (hr : va_Run p l e R s m args below meth c H locs cells slots mc ms (F0 m pc L st0) rest (fun st o t => o = .returned r ∧ Rp G n' μ' t.heap ∧ va_F (fun q => G.2.2 ≤ q) st t) (fun q => G.2.2 ≤ q))
    (h1 : cells + (a + mc) ≤ R.cells) (h2 : slots + (b + ms) ≤ R.slots) (h4 : va_S (fun q => G.2.2 ≤ q) s.heap H locs) (h5 : lv_has L c.maxLocals ls)
    (k : V (p, l, e, R, s, m, args, below, meth, c, Z, G) a b n' μ' (pc + 3) ls (r.toList ++ rest)) : W p l e R s m args below meth c H locs cells slots Z (F0 m pc L st0) := by
  intro T hT X
  obtain ⟨v, st₀, t, T', L1, g0, X', hL, e1, e2, ⟨hv, hR, hz, hk⟩, stp⟩ := hr T hT X
  cases hv
  rw [g0] at hz hk
  obtain ⟨t2, a1, b1⟩ := k T'.heap (locs ++ L1) (cells + mc) (slots + ms) L (by omega) (by omega) (by rw [e1]; exact hR)
    ⟨Nat.le_trans h4.1 (by rw [e1]; exact hz), fun q q1 q2 => by rw [e1, hk q (Nat.lt_of_lt_of_le q1 h4.1) q2]; exact h4.2.1 q q1 q2, fun q hq => by
      rcases List.mem_append.mp hq with h | h
      · exact h4.2.2 q h
      · exact hL q h⟩ h5 T' rfl X'
  exact ⟨t2, stp t2 a1, b1⟩
theorem v_callV {o ci : Nat} {q : vw_C} {fs : List Value} {f' w' mc ms n' idx j : Nat} {M' : MD} {As : List Value} {r : Option Value} {μ' : Mu} (g : GX X l0 G0 M f w) (hd : decode M.2.1 pc = .ok (.invokevirtual idx, 3)) (C : Ctr l0 G0 f' w' mc ms M' (.ref o :: As) n μ r n' μ') (cl : CL M' j) (hl : Cond.methodLink M.1.cls idx M'.1 ∈ TT) (hs : Cond.instanceMethod M'.1 ∈ TT ∧ Cond.selects q.1 M'.1 M'.1 ∈ TT) (hμ : μ o = some (.inr (ci, fs))) (hC : vwCl[ci]? = some q) (hj : As.length = j) (hroom : Nat.ble (f' + 1) f = true ∧ Nat.ble (8 + (M'.2.2.1 + 11) + w') w = true ∧ Nat.ble (st.map fun v => v.category).sum 8 = true)
    (k : V X a b n' μ' (pc + 3) ls (r.toList ++ st)) : V X (a + mc) (b + ms) n μ pc ls (As.reverse ++ .ref o :: st) := by
  obtain ⟨p, l, e, R, s, m, args, below, meth, c, Z, G⟩ := X
  obtain ⟨rfl, rfl, hx, hb, hr, hml, hown, hts, hlk, hnm, hK, hB, hf, hw⟩ := g
  intro H locs cells slots L h1 h2 h3 h4 h5
  have hR : f' + 1 ≤ R.frames ∧ 8 + (M'.2.2.1 + 11) + w' ≤ R.locals := ⟨by rw [hf]; exact Nat.le_of_ble_eq_true hroom.1, by rw [hw]; exact Nat.le_of_ble_eq_true hroom.2.1⟩
  have hW8 : 2 * (F0 m pc L (As.reverse ++ .ref o :: st)).monitorRoom + (st.map fun v => v.category).sum ≤ 8 := lv_room (Nat.le_of_ble_eq_true hroom.2.2)
  have hlen : ∀ sig, parseMethodDescriptor M'.1.desc = some sig → j = sig.parameters.length := fun sig h => by
    have h2 := cl.2.2.2
    rw [h] at h2
    exact (Option.some.inj h2).symm
  have hpre : ∀ U : State, U.heap = H → s.WarmedH U.vm → va_Pc (.ref o :: As) (fun U => Rp G n μ U.heap ∧ KK G U) ((.ref o :: As)).toArray U := fun U hU hW => ⟨rfl, by rw [hU]; exact h3, hK.warm hW⟩
  have hbase : ∀ w ∈ wd M', ∀ (a' : Array Value) (U : State), s.WarmedH U.vm → w.before a' U = true := TT_pay hts (wd_in cl.1)
  obtain ⟨z1, z2, ws, hP, hD, hF⟩ := id h3
  obtain ⟨q0, hq⟩ := hF _ _ hμ
  have hrecv := va_recv hK.1 hP hC hq
  exact v_callend (n' := n') (r := r) (μ' := μ') (va_runV (C := q.1) ⟨hx, hb, hml, hown, hts⟩ C ⟨⟨rfl, rfl, hR.1, hR.2, hbase, List.mem_cons_self, hts _ cl.1, hts _ cl.2.1, cl.2.2.1, hlen, hts _ hl⟩, hts _ hs.1, hts _ hs.2⟩ ⟨v_blind, hrecv, hpre⟩ rfl hj (h5.1.trans hml) rfl hW8 hd ⟨by omega, by omega⟩) h1 h2 h4 h5 k
theorem v_callS {f' w' mc ms n' idx j : Nat} {M' : MD} {As : List Value} {r : Option Value} {μ' : Mu} (g : GX X l0 G0 M f w) (hd : decode M.2.1 pc = .ok (.invokestatic idx, 3)) (C : Ctr l0 G0 f' w' mc ms M' As n μ r n' μ') (cl : CL M' j) (hl : Cond.methodLink M.1.cls idx M'.1 ∈ TT) (hs : Cond.static M'.1 ∈ TT) (hj : As.length = j) (hroom : Nat.ble (f' + 1) f = true ∧ Nat.ble (8 + (M'.2.2.1 + 11) + w') w = true ∧ Nat.ble (st.map fun v => v.category).sum 8 = true)
    (k : V X a b n' μ' (pc + 3) ls (r.toList ++ st)) : V X (a + mc) (b + ms) n μ pc ls (As.reverse ++ st) := by
  obtain ⟨p, l, e, R, s, m, args, below, meth, c, Z, G⟩ := X
  obtain ⟨rfl, rfl, hx, hb, hr, hml, hown, hts, hlk, hnm, hK, hB, hf, hw⟩ := g
  intro H locs cells slots L h1 h2 h3 h4 h5
  have hR : f' + 1 ≤ R.frames ∧ 8 + (M'.2.2.1 + 11) + w' ≤ R.locals := ⟨by rw [hf]; exact Nat.le_of_ble_eq_true hroom.1, by rw [hw]; exact Nat.le_of_ble_eq_true hroom.2.1⟩
  have hW8 : 2 * (F0 m pc L (As.reverse ++ st)).monitorRoom + (st.map fun v => v.category).sum ≤ 8 := lv_room (Nat.le_of_ble_eq_true hroom.2.2)
  have hlen : ∀ sig, parseMethodDescriptor M'.1.desc = some sig → j = sig.parameters.length := fun sig h => by
    have h2 := cl.2.2.2
    rw [h] at h2
    exact (Option.some.inj h2).symm
  have hpre : ∀ U : State, U.heap = H → s.WarmedH U.vm → va_Pc As (fun U => Rp G n μ U.heap ∧ KK G U) (As).toArray U := fun U hU hW => ⟨rfl, by rw [hU]; exact h3, hK.warm hW⟩
  have hbase : ∀ w ∈ wd M', ∀ (a' : Array Value) (U : State), s.WarmedH U.vm → w.before a' U = true := TT_pay hts (wd_in cl.1)
  exact v_callend (n' := n') (r := r) (μ' := μ') (va_runS ⟨hx, hb, hml, hown, hts⟩ C ⟨⟨rfl, rfl, hR.1, hR.2, hbase, List.mem_cons_self, hts _ cl.1, hts _ cl.2.1, cl.2.2.1, hlen, hts _ hl⟩, hts _ hs⟩ ⟨v_blind, hpre⟩ rfl hj (h5.1.trans hml) rfl hW8 hd ⟨by omega, by omega⟩) h1 h2 h4 h5 k
theorem v_callI {o : Nat} {f' w' mc ms n' idx j : Nat} {M' : MD} {As : List Value} {r : Option Value} {μ' : Mu} (g : GX X l0 G0 M f w) (hd : decode M.2.1 pc = .ok (.invokespecial idx, 3)) (C : Ctr l0 G0 f' w' mc ms M' (.ref o :: As) n μ r n' μ') (cl : CL M' j) (hl : Cond.methodLink M.1.cls idx M'.1 ∈ TT) (hs : Cond.instanceMethod M'.1 ∈ TT ∧ M'.1.name = "<init>" ∧ M'.2.2.2 = none) (hj : As.length = j) (hroom : Nat.ble (f' + 1) f = true ∧ Nat.ble (8 + (M'.2.2.1 + 11) + w') w = true ∧ Nat.ble (st.map fun v => v.category).sum 8 = true)
    (k : V X a b n' μ' (pc + 3) ls (r.toList ++ st)) : V X (a + mc) (b + ms) n μ pc ls (As.reverse ++ .ref o :: st) := by
  obtain ⟨p, l, e, R, s, m, args, below, meth, c, Z, G⟩ := X
  obtain ⟨rfl, rfl, hx, hb, hr, hml, hown, hts, hlk, hnm, hK, hB, hf, hw⟩ := g
  intro H locs cells slots L h1 h2 h3 h4 h5
  have hR : f' + 1 ≤ R.frames ∧ 8 + (M'.2.2.1 + 11) + w' ≤ R.locals := ⟨by rw [hf]; exact Nat.le_of_ble_eq_true hroom.1, by rw [hw]; exact Nat.le_of_ble_eq_true hroom.2.1⟩
  have hW8 : 2 * (F0 m pc L (As.reverse ++ .ref o :: st)).monitorRoom + (st.map fun v => v.category).sum ≤ 8 := lv_room (Nat.le_of_ble_eq_true hroom.2.2)
  have hlen : ∀ sig, parseMethodDescriptor M'.1.desc = some sig → j = sig.parameters.length := fun sig h => by
    have h2 := cl.2.2.2
    rw [h] at h2
    exact (Option.some.inj h2).symm
  have hpre : ∀ U : State, U.heap = H → s.WarmedH U.vm → va_Pc (.ref o :: As) (fun U => Rp G n μ U.heap ∧ KK G U) ((.ref o :: As)).toArray U := fun U hU hW => ⟨rfl, by rw [hU]; exact h3, hK.warm hW⟩
  have hbase : ∀ w ∈ wd M', ∀ (a' : Array Value) (U : State), s.WarmedH U.vm → w.before a' U = true := TT_pay hts (wd_in cl.1)
  obtain ⟨hs1, hs2, hs3⟩ := hs
  exact v_callend (n' := n') (r := r) (μ' := μ') (va_runI (bytes := M'.2.1) (maxL := M'.2.2.1) ⟨hx, hb, hml, hown, hts⟩ C ⟨hs3 ▸ ⟨rfl, rfl, hR.1, hR.2, hbase, List.mem_cons_self, hts _ cl.1, hts _ cl.2.1, cl.2.2.1, hlen, hts _ hl⟩, hs2, hts _ hs1⟩ ⟨v_blind, hpre⟩ rfl hj (h5.1.trans hml) rfl hW8 hd ⟨by omega, by omega⟩) h1 h2 h4 h5 k
theorem v_callSN {host : String} {f' w' mc ms n' idx j : Nat} {M' : MD} {As : List Value} {r : Option Value} {μ' : Mu} (g : GX X l0 G0 M f w) (hd : decode M.2.1 pc = .ok (.invokestatic idx, 3)) (C : Ctr l0 G0 f' w' mc ms M' As n μ r n' μ') (cl : CL M' j) (hl : (M.1.cls, idx, M'.1, host) ∈ nestW) (hs : Cond.static M'.1 ∈ TT) (hj : As.length = j) (hroom : Nat.ble (f' + 1) f = true ∧ Nat.ble (8 + (M'.2.2.1 + 11) + w') w = true ∧ Nat.ble (st.map fun v => v.category).sum 8 = true)
    (k : V X a b n' μ' (pc + 3) ls (r.toList ++ st)) : V X (a + mc) (b + ms) n μ pc ls (As.reverse ++ st) := by
  obtain ⟨p, l, e, R, s, m, args, below, meth, c, Z, G⟩ := X
  obtain ⟨rfl, rfl, hx, hb, hr, hml, hown, hts, hlk, hnm, hK, hB, hf, hw⟩ := g
  intro H locs cells slots L h1 h2 h3 h4 h5
  have hR : f' + 1 ≤ R.frames ∧ 8 + (M'.2.2.1 + 11) + w' ≤ R.locals := ⟨by rw [hf]; exact Nat.le_of_ble_eq_true hroom.1, by rw [hw]; exact Nat.le_of_ble_eq_true hroom.2.1⟩
  have hW8 : 2 * (F0 m pc L (As.reverse ++ st)).monitorRoom + (st.map fun v => v.category).sum ≤ 8 := lv_room (Nat.le_of_ble_eq_true hroom.2.2)
  have hlen : ∀ sig, parseMethodDescriptor M'.1.desc = some sig → j = sig.parameters.length := fun sig h => by
    have h2 := cl.2.2.2
    rw [h] at h2
    exact (Option.some.inj h2).symm
  have hpre : ∀ U : State, U.heap = H → s.WarmedH U.vm → va_Pc As (fun U => Rp G n μ U.heap ∧ KK G U) (As).toArray U := fun U hU hW => ⟨rfl, by rw [hU]; exact h3, hK.warm hW⟩
  have hbase : ∀ w ∈ wd M', ∀ (a' : Array Value) (U : State), s.WarmedH U.vm → w.before a' U = true := TT_pay hts (wd_in cl.1)
  exact v_callend (n' := n') (r := r) (μ' := μ') (va_runSN (host := host) ⟨hx, hb, hml, hown, hts⟩ C ⟨⟨⟨rfl, rfl, hR.1, hR.2, hbase, List.mem_cons_self⟩, hts _ cl.1, hts _ cl.2.1, cl.2.2.1, hlen, va_Nw.use rfl (hK.2.1 _ hl)⟩, hts _ hs, trivial⟩ ⟨v_blind, hpre⟩ rfl hj (h5.1.trans hml) rfl hW8 hd ⟨by omega, by omega⟩) h1 h2 h4 h5 k
theorem v_callIN {o : Nat} {host : String} {f' w' mc ms n' idx j : Nat} {M' : MD} {As : List Value} {r : Option Value} {μ' : Mu} (g : GX X l0 G0 M f w) (hd : decode M.2.1 pc = .ok (.invokespecial idx, 3)) (C : Ctr l0 G0 f' w' mc ms M' (.ref o :: As) n μ r n' μ') (cl : CL M' j) (hl : (M.1.cls, idx, M'.1, host) ∈ nestW) (hs : Cond.instanceMethod M'.1 ∈ TT ∧ M'.1.name = "<init>" ∧ M'.2.2.2 = none) (hj : As.length = j) (hroom : Nat.ble (f' + 1) f = true ∧ Nat.ble (8 + (M'.2.2.1 + 11) + w') w = true ∧ Nat.ble (st.map fun v => v.category).sum 8 = true)
    (k : V X a b n' μ' (pc + 3) ls (r.toList ++ st)) : V X (a + mc) (b + ms) n μ pc ls (As.reverse ++ .ref o :: st) := by
  obtain ⟨p, l, e, R, s, m, args, below, meth, c, Z, G⟩ := X
  obtain ⟨rfl, rfl, hx, hb, hr, hml, hown, hts, hlk, hnm, hK, hB, hf, hw⟩ := g
  intro H locs cells slots L h1 h2 h3 h4 h5
  have hR : f' + 1 ≤ R.frames ∧ 8 + (M'.2.2.1 + 11) + w' ≤ R.locals := ⟨by rw [hf]; exact Nat.le_of_ble_eq_true hroom.1, by rw [hw]; exact Nat.le_of_ble_eq_true hroom.2.1⟩
  have hW8 : 2 * (F0 m pc L (As.reverse ++ .ref o :: st)).monitorRoom + (st.map fun v => v.category).sum ≤ 8 := lv_room (Nat.le_of_ble_eq_true hroom.2.2)
  have hlen : ∀ sig, parseMethodDescriptor M'.1.desc = some sig → j = sig.parameters.length := fun sig h => by
    have h2 := cl.2.2.2
    rw [h] at h2
    exact (Option.some.inj h2).symm
  have hpre : ∀ U : State, U.heap = H → s.WarmedH U.vm → va_Pc (.ref o :: As) (fun U => Rp G n μ U.heap ∧ KK G U) ((.ref o :: As)).toArray U := fun U hU hW => ⟨rfl, by rw [hU]; exact h3, hK.warm hW⟩
  have hbase : ∀ w ∈ wd M', ∀ (a' : Array Value) (U : State), s.WarmedH U.vm → w.before a' U = true := TT_pay hts (wd_in cl.1)
  obtain ⟨hs1, hs2, hs3⟩ := hs
  exact v_callend (n' := n') (r := r) (μ' := μ') (va_runIN (host := host) (bytes := M'.2.1) (maxL := M'.2.2.1) ⟨hx, hb, hml, hown, hts⟩ C ⟨hs3 ▸ ⟨⟨rfl, rfl, hR.1, hR.2, hbase, List.mem_cons_self⟩, hts _ cl.1, hts _ cl.2.1, cl.2.2.1, hlen, va_Nw.use rfl (hK.2.1 _ hl)⟩, hs2, hts _ hs1⟩ ⟨v_blind, hpre⟩ rfl hj (h5.1.trans hml) rfl hW8 hd ⟨by omega, by omega⟩) h1 h2 h4 h5 k
theorem v_iret {v : Int32} {r : Option Value} {n' : Nat} {μ' : Mu} (g : GX X l0 G0 M f w) (E : EX X r n' μ') (hd : decode M.2.1 pc = .ok (.ireturn, 1)) (hret : M.2.2.2 = some .int) (hq : r = some (.int v) ∧ n' = n ∧ μ' = μ) : V X a b n μ pc ls [.int v] := by
  obtain ⟨p, l, e, R, s, m, args, below, meth, c, Z, G⟩ := X
  obtain ⟨rfl, rfl, hx, hb, hr, hml, hown, hts, hlk, hnm, hK, hB, hf, hw⟩ := g
  obtain ⟨rfl, rfl, rfl⟩ := hq
  intro H locs cells slots L h1 h2 h3 h4 h5
  obtain rfl : Z = _ := E
  refine W.widen (k := R.cells) (n := R.slots) (by omega) (by omega) ?_
  exact W.iret hx hb (hr.trans hret) (fun t ht hW => ⟨rfl, by rw [ht]; exact h3, h4.F ht⟩) h4.2.2 hd (hlocks := hlk)
theorem v_zret {v : Int32} {r : Option Value} {n' : Nat} {μ' : Mu} (g : GX X l0 G0 M f w) (E : EX X r n' μ') (hd : decode M.2.1 pc = .ok (.ireturn, 1)) (hret : M.2.2.2 = some .boolean) (hv : narrow .boolean (.int v) = .int v) (hq : r = some (.int v) ∧ n' = n ∧ μ' = μ) : V X a b n μ pc ls [.int v] := by
  obtain ⟨p, l, e, R, s, m, args, below, meth, c, Z, G⟩ := X
  obtain ⟨rfl, rfl, hx, hb, hr, hml, hown, hts, hlk, hnm, hK, hB, hf, hw⟩ := g
  obtain ⟨rfl, rfl, rfl⟩ := hq
  intro H locs cells slots L h1 h2 h3 h4 h5
  obtain rfl : Z = _ := E
  refine W.widen (k := R.cells) (n := R.slots) (by omega) (by omega) ?_
  exact W.zret hx hb (hr.trans hret) hv (fun t ht hW => ⟨rfl, by rw [ht]; exact h3, h4.F ht⟩) h4.2.2 hd (hlocks := hlk)
theorem v_lret {v : Int64} {r : Option Value} {n' : Nat} {μ' : Mu} (g : GX X l0 G0 M f w) (E : EX X r n' μ') (hd : decode M.2.1 pc = .ok (.lreturn, 1)) (hret : M.2.2.2 = some .long) (hq : r = some (.long v) ∧ n' = n ∧ μ' = μ) : V X a b n μ pc ls [.long v] := by
  obtain ⟨p, l, e, R, s, m, args, below, meth, c, Z, G⟩ := X
  obtain ⟨rfl, rfl, hx, hb, hr, hml, hown, hts, hlk, hnm, hK, hB, hf, hw⟩ := g
  obtain ⟨rfl, rfl, rfl⟩ := hq
  intro H locs cells slots L h1 h2 h3 h4 h5
  obtain rfl : Z = _ := E
  refine W.widen (k := R.cells) (n := R.slots) (by omega) (by omega) ?_
  exact W.lret hx hb (hr.trans hret) (fun t ht hW => ⟨rfl, by rw [ht]; exact h3, h4.F ht⟩) h4.2.2 hd (hlocks := hlk)
theorem v_vret {r : Option Value} {n' : Nat} {μ' : Mu} (g : GX X l0 G0 M f w) (E : EX X r n' μ') (hd : decode M.2.1 pc = .ok (.return_, 1)) (hret : M.2.2.2 = none) (hq : r = none ∧ n' = n ∧ μ' = μ) : V X a b n μ pc ls [] := by
  obtain ⟨p, l, e, R, s, m, args, below, meth, c, Z, G⟩ := X
  obtain ⟨rfl, rfl, hx, hb, hr, hml, hown, hts, hlk, hnm, hK, hB, hf, hw⟩ := g
  obtain ⟨rfl, rfl, rfl⟩ := hq
  intro H locs cells slots L h1 h2 h3 h4 h5
  obtain rfl : Z = _ := E
  refine W.widen (k := R.cells) (n := R.slots) (by omega) (by omega) ?_
  exact W.vret hx hb (hr.trans hret) (fun t ht hW => ⟨rfl, by rw [ht]; exact h3, h4.F ht⟩) h4.2.2 hd (hlocks := hlk)
theorem v_aret {o : Nat} {T : FieldType} {r : Option Value} {n' : Nat} {μ' : Mu} (g : GX X l0 G0 M f w) (E : EX X r n' μ') (hd : decode M.2.1 pc = .ok (.areturn, 1)) (hret : M.2.2.2 = some (.array T)) (hq : r = some (.ref o) ∧ n' = n ∧ μ' = μ) : V X a b n μ pc ls [.ref o] := by
  obtain ⟨p, l, e, R, s, m, args, below, meth, c, Z, G⟩ := X
  obtain ⟨rfl, rfl, hx, hb, hr, hml, hown, hts, hlk, hnm, hK, hB, hf, hw⟩ := g
  obtain ⟨rfl, rfl, rfl⟩ := hq
  intro H locs cells slots L h1 h2 h3 h4 h5
  obtain rfl : Z = _ := E
  refine W.widen (k := R.cells) (n := R.slots) (by omega) (by omega) ?_
  exact W.aret hx hb (hr.trans hret) (Or.inr ⟨_, rfl⟩) (Or.inr ⟨_, rfl⟩) (fun t ht hW => ⟨rfl, by rw [ht]; exact h3, h4.F ht⟩) h4.2.2 hd (hlocks := hlk)
end VL
end
section
/-! THE WORDS OF THE TABLES, by their places: what links, what may be called, what a field instruction stands on -/
theorem tt_at {i : Nat} {w : Cond} (h : lw_tbl[i]? = some w) (hg : goodWord w = true) : w ∈ TT := List.mem_filter.mpr ⟨List.mem_of_getElem? h, hg⟩
theorem ini_RX0 : Cond.initialized RX0 ∈ TT := tt_at (i := 45) (by decide +kernel) rfl
theorem ini_RX1 : Cond.initialized RX1 ∈ TT := tt_at (i := 46) (by decide +kernel) rfl
theorem ini_RX2 : Cond.initialized RX2 ∈ TT := tt_at (i := 49) (by decide +kernel) rfl
theorem ini_RX3 : Cond.initialized RX3 ∈ TT := tt_at (i := 48) (by decide +kernel) rfl
theorem ini_RX4 : Cond.initialized RX4 ∈ TT := tt_at (i := 47) (by decide +kernel) rfl
theorem ini_RX5 : Cond.initialized RX5 ∈ TT := tt_at (i := 44) (by decide +kernel) rfl
theorem ini_RX6 : Cond.initialized RX6 ∈ TT := tt_at (i := 55) (by decide +kernel) rfl
theorem ini_RJ13 : Cond.initialized RJ13 ∈ TT := tt_at (i := 56) (by decide +kernel) rfl
theorem ini_RJ9 : Cond.initialized RJ9 ∈ TT := tt_at (i := 54) (by decide +kernel) rfl
theorem ini_RJ0 : Cond.initialized RJ0 ∈ TT := tt_at (i := 50) (by decide +kernel) rfl
theorem ini_RJ1 : Cond.initialized RJ1 ∈ TT := tt_at (i := 51) (by decide +kernel) rfl
theorem ini_RJ2 : Cond.initialized RJ2 ∈ TT := tt_at (i := 52) (by decide +kernel) rfl
theorem ini_RJ3 : Cond.initialized RJ3 ∈ TT := tt_at (i := 53) (by decide +kernel) rfl
theorem ini_RL : Cond.initialized RL ∈ TT := tt_at (i := 43) (by decide +kernel) rfl
abbrev mX5_init : MD := (yX5_init, cX5_init, 2, none)
theorem cl_X5_init : CL mX5_init 0 := ⟨tt_at (i := 61) (by decide +kernel) rfl, ini_RX5, by decide +kernel, by decide +kernel⟩
theorem ii_X5_init : Cond.instanceMethod yX5_init ∈ TT ∧ yX5_init.name = "<init>" ∧ mX5_init.2.2.2 = none := ⟨tt_at (i := 60) (by decide +kernel) rfl, rfl, rfl⟩
abbrev mX0_init : MD := (yX0_init, cX0_init, 1, none)
theorem cl_X0_init : CL mX0_init 0 := ⟨tt_at (i := 69) (by decide +kernel) rfl, ini_RX0, by decide +kernel, by decide +kernel⟩
theorem ii_X0_init : Cond.instanceMethod yX0_init ∈ TT ∧ yX0_init.name = "<init>" ∧ mX0_init.2.2.2 = none := ⟨tt_at (i := 68) (by decide +kernel) rfl, rfl, rfl⟩
abbrev mX1_init : MD := (yX1_init, cX1_init, 3, none)
theorem cl_X1_init : CL mX1_init 1 := ⟨tt_at (i := 106) (by decide +kernel) rfl, ini_RX1, by decide +kernel, by decide +kernel⟩
theorem ii_X1_init : Cond.instanceMethod yX1_init ∈ TT ∧ yX1_init.name = "<init>" ∧ mX1_init.2.2.2 = none := ⟨tt_at (i := 105) (by decide +kernel) rfl, rfl, rfl⟩
abbrev mX4_init : MD := (yX4_init, cX4_init, 1, none)
theorem cl_X4_init : CL mX4_init 0 := ⟨tt_at (i := 113) (by decide +kernel) rfl, ini_RX4, by decide +kernel, by decide +kernel⟩
theorem ii_X4_init : Cond.instanceMethod yX4_init ∈ TT ∧ yX4_init.name = "<init>" ∧ mX4_init.2.2.2 = none := ⟨tt_at (i := 112) (by decide +kernel) rfl, rfl, rfl⟩
abbrev mX3_init : MD := (yX3_init, cX3_init, 1, none)
theorem cl_X3_init : CL mX3_init 0 := ⟨tt_at (i := 187) (by decide +kernel) rfl, ini_RX3, by decide +kernel, by decide +kernel⟩
theorem ii_X3_init : Cond.instanceMethod yX3_init ∈ TT ∧ yX3_init.name = "<init>" ∧ mX3_init.2.2.2 = none := ⟨tt_at (i := 186) (by decide +kernel) rfl, rfl, rfl⟩
abbrev mX2_init : MD := (yX2_init, cX2_init, 4, none)
theorem cl_X2_init : CL mX2_init 2 := ⟨tt_at (i := 221) (by decide +kernel) rfl, ini_RX2, by decide +kernel, by decide +kernel⟩
theorem ii_X2_init : Cond.instanceMethod yX2_init ∈ TT ∧ yX2_init.name = "<init>" ∧ mX2_init.2.2.2 = none := ⟨tt_at (i := 220) (by decide +kernel) rfl, rfl, rfl⟩
abbrev mJ0_toCharArray_70df3 : MD := (yJ0_toCharArray_70df3, cJ0_toCharArray_70df3, 1, some (Jvm.ClassFile.FieldType.array Jvm.ClassFile.FieldType.char))
theorem cl_J0_toCharArray_70df3 : CL mJ0_toCharArray_70df3 0 := ⟨tt_at (i := 238) (by decide +kernel) rfl, ini_RJ0, by decide +kernel, by decide +kernel⟩
theorem im_J0_toCharArray_70df3 : Cond.instanceMethod yJ0_toCharArray_70df3 ∈ TT ∧ Cond.selects RJ0 yJ0_toCharArray_70df3 yJ0_toCharArray_70df3 ∈ TT := ⟨tt_at (i := 236) (by decide +kernel) rfl, tt_at (i := 237) (by decide +kernel) rfl⟩
abbrev mJ0_isLatin1_aae02 : MD := (yJ0_isLatin1_aae02, cJ0_isLatin1_aae02, 1, some Jvm.ClassFile.FieldType.boolean)
theorem cl_J0_isLatin1_aae02 : CL mJ0_isLatin1_aae02 0 := ⟨tt_at (i := 242) (by decide +kernel) rfl, ini_RJ0, by decide +kernel, by decide +kernel⟩
theorem im_J0_isLatin1_aae02 : Cond.instanceMethod yJ0_isLatin1_aae02 ∈ TT ∧ Cond.selects RJ0 yJ0_isLatin1_aae02 yJ0_isLatin1_aae02 ∈ TT := ⟨tt_at (i := 240) (by decide +kernel) rfl, tt_at (i := 241) (by decide +kernel) rfl⟩
abbrev mJ1_toChars_9d188 : MD := (yJ1_toChars_9d188, cJ1_toChars_9d188, 2, some (Jvm.ClassFile.FieldType.array Jvm.ClassFile.FieldType.char))
theorem cl_J1_toChars_9d188 : CL mJ1_toChars_9d188 1 := ⟨tt_at (i := 247) (by decide +kernel) rfl, ini_RJ1, by decide +kernel, by decide +kernel⟩
theorem sm_J1_toChars_9d188 : Cond.static yJ1_toChars_9d188 ∈ TT := tt_at (i := 246) (by decide +kernel) rfl
abbrev mJ1_inflate_03870 : MD := (yJ1_inflate_03870, cJ1_inflate_03870, 6, none)
theorem cl_J1_inflate_03870 : CL mJ1_inflate_03870 5 := ⟨tt_at (i := 250) (by decide +kernel) rfl, ini_RJ1, by decide +kernel, by decide +kernel⟩
theorem sm_J1_inflate_03870 : Cond.static yJ1_inflate_03870 ∈ TT := tt_at (i := 249) (by decide +kernel) rfl
abbrev mJ2_toChars_9d188 : MD := (yJ2_toChars_9d188, cJ2_toChars_9d188, 2, some (Jvm.ClassFile.FieldType.array Jvm.ClassFile.FieldType.char))
theorem cl_J2_toChars_9d188 : CL mJ2_toChars_9d188 1 := ⟨tt_at (i := 253) (by decide +kernel) rfl, ini_RJ2, by decide +kernel, by decide +kernel⟩
theorem sm_J2_toChars_9d188 : Cond.static yJ2_toChars_9d188 ∈ TT := tt_at (i := 252) (by decide +kernel) rfl
abbrev mJ2_getChars_a1a8b : MD := (yJ2_getChars_a1a8b, cJ2_getChars_a1a8b, 6, none)
theorem cl_J2_getChars_a1a8b : CL mJ2_getChars_a1a8b 5 := ⟨tt_at (i := 256) (by decide +kernel) rfl, ini_RJ2, by decide +kernel, by decide +kernel⟩
theorem sm_J2_getChars_a1a8b : Cond.static yJ2_getChars_a1a8b ∈ TT := tt_at (i := 255) (by decide +kernel) rfl
abbrev mJ2_checkBoundsOffCount_d044e : MD := (yJ2_checkBoundsOffCount_d044e, cJ2_checkBoundsOffCount_d044e, 3, none)
theorem cl_J2_checkBoundsOffCount_d044e : CL mJ2_checkBoundsOffCount_d044e 3 := ⟨tt_at (i := 259) (by decide +kernel) rfl, ini_RJ2, by decide +kernel, by decide +kernel⟩
theorem sm_J2_checkBoundsOffCount_d044e : Cond.static yJ2_checkBoundsOffCount_d044e ∈ TT := tt_at (i := 258) (by decide +kernel) rfl
abbrev mJ2_length_9d52b : MD := (yJ2_length_9d52b, cJ2_length_9d52b, 1, some Jvm.ClassFile.FieldType.int)
theorem cl_J2_length_9d52b : CL mJ2_length_9d52b 1 := ⟨tt_at (i := 262) (by decide +kernel) rfl, ini_RJ2, by decide +kernel, by decide +kernel⟩
theorem sm_J2_length_9d52b : Cond.static yJ2_length_9d52b ∈ TT := tt_at (i := 261) (by decide +kernel) rfl
abbrev mJ0_checkBoundsOffCount_cabcc : MD := (yJ0_checkBoundsOffCount_cabcc, cJ0_checkBoundsOffCount_cabcc, 3, some Jvm.ClassFile.FieldType.int)
theorem cl_J0_checkBoundsOffCount_cabcc : CL mJ0_checkBoundsOffCount_cabcc 3 := ⟨tt_at (i := 265) (by decide +kernel) rfl, ini_RJ0, by decide +kernel, by decide +kernel⟩
theorem sm_J0_checkBoundsOffCount_cabcc : Cond.static yJ0_checkBoundsOffCount_cabcc ∈ TT := tt_at (i := 264) (by decide +kernel) rfl
abbrev mJ3_checkFromIndexSize_8c36e : MD := (yJ3_checkFromIndexSize_8c36e, cJ3_checkFromIndexSize_8c36e, 4, some Jvm.ClassFile.FieldType.int)
theorem cl_J3_checkFromIndexSize_8c36e : CL mJ3_checkFromIndexSize_8c36e 4 := ⟨tt_at (i := 270) (by decide +kernel) rfl, ini_RJ3, by decide +kernel, by decide +kernel⟩
theorem sm_J3_checkFromIndexSize_8c36e : Cond.static yJ3_checkFromIndexSize_8c36e ∈ TT := tt_at (i := 269) (by decide +kernel) rfl
abbrev mJ2_getChar_3b067 : MD := (yJ2_getChar_3b067, cJ2_getChar_3b067, 2, some Jvm.ClassFile.FieldType.char)
theorem cl_J2_getChar_3b067 : CL mJ2_getChar_3b067 2 := ⟨tt_at (i := 273) (by decide +kernel) rfl, ini_RJ2, by decide +kernel, by decide +kernel⟩
theorem sm_J2_getChar_3b067 : Cond.static yJ2_getChar_3b067 ∈ TT := tt_at (i := 272) (by decide +kernel) rfl
abbrev mX3_readText : MD := (yX3_readText, cX3_readText, 5, some Jvm.ClassFile.FieldType.int)
theorem cl_X3_readText : CL mX3_readText 2 := ⟨tt_at (i := 283) (by decide +kernel) rfl, ini_RX3, by decide +kernel, by decide +kernel⟩
theorem im_X3_readText : Cond.instanceMethod yX3_readText ∈ TT ∧ Cond.selects RX3 yX3_readText yX3_readText ∈ TT := ⟨tt_at (i := 281) (by decide +kernel) rfl, tt_at (i := 282) (by decide +kernel) rfl⟩
abbrev mJ9_min_7cf53 : MD := (yJ9_min_7cf53, cJ9_min_7cf53, 2, some Jvm.ClassFile.FieldType.int)
theorem cl_J9_min_7cf53 : CL mJ9_min_7cf53 2 := ⟨tt_at (i := 286) (by decide +kernel) rfl, ini_RJ9, by decide +kernel, by decide +kernel⟩
theorem sm_J9_min_7cf53 : Cond.static yJ9_min_7cf53 ∈ TT := tt_at (i := 285) (by decide +kernel) rfl
abbrev mX0_clear : MD := (yX0_clear, cX0_clear, 2, none)
theorem cl_X0_clear : CL mX0_clear 0 := ⟨tt_at (i := 290) (by decide +kernel) rfl, ini_RX0, by decide +kernel, by decide +kernel⟩
theorem im_X0_clear : Cond.instanceMethod yX0_clear ∈ TT ∧ Cond.selects RX0 yX0_clear yX0_clear ∈ TT := ⟨tt_at (i := 288) (by decide +kernel) rfl, tt_at (i := 289) (by decide +kernel) rfl⟩
abbrev mX1_clear : MD := (yX1_clear, cX1_clear, 2, none)
theorem cl_X1_clear : CL mX1_clear 0 := ⟨tt_at (i := 294) (by decide +kernel) rfl, ini_RX1, by decide +kernel, by decide +kernel⟩
theorem im_X1_clear : Cond.instanceMethod yX1_clear ∈ TT ∧ Cond.selects RX1 yX1_clear yX1_clear ∈ TT := ⟨tt_at (i := 292) (by decide +kernel) rfl, tt_at (i := 293) (by decide +kernel) rfl⟩
abbrev mX3_readItem : MD := (yX3_readItem, cX3_readItem, 1, some Jvm.ClassFile.FieldType.boolean)
theorem cl_X3_readItem : CL mX3_readItem 0 := ⟨tt_at (i := 298) (by decide +kernel) rfl, ini_RX3, by decide +kernel, by decide +kernel⟩
theorem im_X3_readItem : Cond.instanceMethod yX3_readItem ∈ TT ∧ Cond.selects RX3 yX3_readItem yX3_readItem ∈ TT := ⟨tt_at (i := 296) (by decide +kernel) rfl, tt_at (i := 297) (by decide +kernel) rfl⟩
abbrev mX3_nextLetter : MD := (yX3_nextLetter, cX3_nextLetter, 2, some Jvm.ClassFile.FieldType.char)
theorem cl_X3_nextLetter : CL mX3_nextLetter 0 := ⟨tt_at (i := 302) (by decide +kernel) rfl, ini_RX3, by decide +kernel, by decide +kernel⟩
theorem im_X3_nextLetter : Cond.instanceMethod yX3_nextLetter ∈ TT ∧ Cond.selects RX3 yX3_nextLetter yX3_nextLetter ∈ TT := ⟨tt_at (i := 300) (by decide +kernel) rfl, tt_at (i := 301) (by decide +kernel) rfl⟩
abbrev mX3_readLine : MD := (yX3_readLine, cX3_readLine, 4, some Jvm.ClassFile.FieldType.boolean)
theorem cl_X3_readLine : CL mX3_readLine 0 := ⟨tt_at (i := 306) (by decide +kernel) rfl, ini_RX3, by decide +kernel, by decide +kernel⟩
theorem im_X3_readLine : Cond.instanceMethod yX3_readLine ∈ TT ∧ Cond.selects RX3 yX3_readLine yX3_readLine ∈ TT := ⟨tt_at (i := 304) (by decide +kernel) rfl, tt_at (i := 305) (by decide +kernel) rfl⟩
abbrev mX3_tellGround : MD := (yX3_tellGround, cX3_tellGround, 3, none)
theorem cl_X3_tellGround : CL mX3_tellGround 2 := ⟨tt_at (i := 310) (by decide +kernel) rfl, ini_RX3, by decide +kernel, by decide +kernel⟩
theorem im_X3_tellGround : Cond.instanceMethod yX3_tellGround ∈ TT ∧ Cond.selects RX3 yX3_tellGround yX3_tellGround ∈ TT := ⟨tt_at (i := 308) (by decide +kernel) rfl, tt_at (i := 309) (by decide +kernel) rfl⟩
abbrev mX5_bit : MD := (yX5_bit, cX5_bit, 1, some Jvm.ClassFile.FieldType.long)
theorem cl_X5_bit : CL mX5_bit 1 := ⟨tt_at (i := 313) (by decide +kernel) rfl, ini_RX5, by decide +kernel, by decide +kernel⟩
theorem sm_X5_bit : Cond.static yX5_bit ∈ TT := tt_at (i := 312) (by decide +kernel) rfl
abbrev mX3_readNumbers : MD := (yX3_readNumbers, cX3_readNumbers, 4, some Jvm.ClassFile.FieldType.boolean)
theorem cl_X3_readNumbers : CL mX3_readNumbers 0 := ⟨tt_at (i := 317) (by decide +kernel) rfl, ini_RX3, by decide +kernel, by decide +kernel⟩
theorem im_X3_readNumbers : Cond.instanceMethod yX3_readNumbers ∈ TT ∧ Cond.selects RX3 yX3_readNumbers yX3_readNumbers ∈ TT := ⟨tt_at (i := 315) (by decide +kernel) rfl, tt_at (i := 316) (by decide +kernel) rfl⟩
abbrev mX3_readNumber : MD := (yX3_readNumber, cX3_readNumber, 2, some Jvm.ClassFile.FieldType.int)
theorem cl_X3_readNumber : CL mX3_readNumber 0 := ⟨tt_at (i := 321) (by decide +kernel) rfl, ini_RX3, by decide +kernel, by decide +kernel⟩
theorem im_X3_readNumber : Cond.instanceMethod yX3_readNumber ∈ TT ∧ Cond.selects RX3 yX3_readNumber yX3_readNumber ∈ TT := ⟨tt_at (i := 319) (by decide +kernel) rfl, tt_at (i := 320) (by decide +kernel) rfl⟩
abbrev mX3_isFigureNext : MD := (yX3_isFigureNext, cX3_isFigureNext, 1, some Jvm.ClassFile.FieldType.boolean)
theorem cl_X3_isFigureNext : CL mX3_isFigureNext 0 := ⟨tt_at (i := 325) (by decide +kernel) rfl, ini_RX3, by decide +kernel, by decide +kernel⟩
theorem im_X3_isFigureNext : Cond.instanceMethod yX3_isFigureNext ∈ TT ∧ Cond.selects RX3 yX3_isFigureNext yX3_isFigureNext ∈ TT := ⟨tt_at (i := 323) (by decide +kernel) rfl, tt_at (i := 324) (by decide +kernel) rfl⟩
abbrev mX3_giveCells : MD := (yX3_giveCells, cX3_giveCells, 2, some Jvm.ClassFile.FieldType.boolean)
theorem cl_X3_giveCells : CL mX3_giveCells 0 := ⟨tt_at (i := 329) (by decide +kernel) rfl, ini_RX3, by decide +kernel, by decide +kernel⟩
theorem im_X3_giveCells : Cond.instanceMethod yX3_giveCells ∈ TT ∧ Cond.selects RX3 yX3_giveCells yX3_giveCells ∈ TT := ⟨tt_at (i := 327) (by decide +kernel) rfl, tt_at (i := 328) (by decide +kernel) rfl⟩
abbrev mX0_holds : MD := (yX0_holds, cX0_holds, 2, some Jvm.ClassFile.FieldType.boolean)
theorem cl_X0_holds : CL mX0_holds 1 := ⟨tt_at (i := 333) (by decide +kernel) rfl, ini_RX0, by decide +kernel, by decide +kernel⟩
theorem im_X0_holds : Cond.instanceMethod yX0_holds ∈ TT ∧ Cond.selects RX0 yX0_holds yX0_holds ∈ TT := ⟨tt_at (i := 331) (by decide +kernel) rfl, tt_at (i := 332) (by decide +kernel) rfl⟩
abbrev mX3_plantRow : MD := (yX3_plantRow, cX3_plantRow, 3, some Jvm.ClassFile.FieldType.boolean)
theorem cl_X3_plantRow : CL mX3_plantRow 0 := ⟨tt_at (i := 337) (by decide +kernel) rfl, ini_RX3, by decide +kernel, by decide +kernel⟩
theorem im_X3_plantRow : Cond.instanceMethod yX3_plantRow ∈ TT ∧ Cond.selects RX3 yX3_plantRow yX3_plantRow ∈ TT := ⟨tt_at (i := 335) (by decide +kernel) rfl, tt_at (i := 336) (by decide +kernel) rfl⟩
abbrev mX3_plantTree : MD := (yX3_plantTree, cX3_plantTree, 3, some Jvm.ClassFile.FieldType.boolean)
theorem cl_X3_plantTree : CL mX3_plantTree 2 := ⟨tt_at (i := 341) (by decide +kernel) rfl, ini_RX3, by decide +kernel, by decide +kernel⟩
theorem im_X3_plantTree : Cond.instanceMethod yX3_plantTree ∈ TT ∧ Cond.selects RX3 yX3_plantTree yX3_plantTree ∈ TT := ⟨tt_at (i := 339) (by decide +kernel) rfl, tt_at (i := 340) (by decide +kernel) rfl⟩
abbrev mX5_contains : MD := (yX5_contains, cX5_contains, 3, some Jvm.ClassFile.FieldType.boolean)
theorem cl_X5_contains : CL mX5_contains 2 := ⟨tt_at (i := 345) (by decide +kernel) rfl, ini_RX5, by decide +kernel, by decide +kernel⟩
theorem sm_X5_contains : Cond.static yX5_contains ∈ TT := tt_at (i := 344) (by decide +kernel) rfl
abbrev mX4_treeAt : MD := (yX4_treeAt, cX4_treeAt, 2, some Jvm.ClassFile.FieldType.int)
theorem cl_X4_treeAt : CL mX4_treeAt 1 := ⟨tt_at (i := 349) (by decide +kernel) rfl, ini_RX4, by decide +kernel, by decide +kernel⟩
theorem im_X4_treeAt : Cond.instanceMethod yX4_treeAt ∈ TT ∧ Cond.selects RX4 yX4_treeAt yX4_treeAt ∈ TT := ⟨tt_at (i := 347) (by decide +kernel) rfl, tt_at (i := 348) (by decide +kernel) rfl⟩
abbrev mX0_isBesideOne : MD := (yX0_isBesideOne, cX0_isBesideOne, 5, some Jvm.ClassFile.FieldType.boolean)
theorem cl_X0_isBesideOne : CL mX0_isBesideOne 2 := ⟨tt_at (i := 353) (by decide +kernel) rfl, ini_RX0, by decide +kernel, by decide +kernel⟩
theorem im_X0_isBesideOne : Cond.instanceMethod yX0_isBesideOne ∈ TT ∧ Cond.selects RX0 yX0_isBesideOne yX0_isBesideOne ∈ TT := ⟨tt_at (i := 351) (by decide +kernel) rfl, tt_at (i := 352) (by decide +kernel) rfl⟩
abbrev mX0_nextBy : MD := (yX0_nextBy, cX0_nextBy, 4, some Jvm.ClassFile.FieldType.int)
theorem cl_X0_nextBy : CL mX0_nextBy 2 := ⟨tt_at (i := 357) (by decide +kernel) rfl, ini_RX0, by decide +kernel, by decide +kernel⟩
theorem im_X0_nextBy : Cond.instanceMethod yX0_nextBy ∈ TT ∧ Cond.selects RX0 yX0_nextBy yX0_nextBy ∈ TT := ⟨tt_at (i := 355) (by decide +kernel) rfl, tt_at (i := 356) (by decide +kernel) rfl⟩
abbrev mX4_plant : MD := (yX4_plant, cX4_plant, 2, none)
theorem cl_X4_plant : CL mX4_plant 1 := ⟨tt_at (i := 362) (by decide +kernel) rfl, ini_RX4, by decide +kernel, by decide +kernel⟩
theorem im_X4_plant : Cond.instanceMethod yX4_plant ∈ TT ∧ Cond.selects RX4 yX4_plant yX4_plant ∈ TT := ⟨tt_at (i := 360) (by decide +kernel) rfl, tt_at (i := 361) (by decide +kernel) rfl⟩
abbrev mX0_copyFrom : MD := (yX0_copyFrom, cX0_copyFrom, 3, none)
theorem cl_X0_copyFrom : CL mX0_copyFrom 1 := ⟨tt_at (i := 366) (by decide +kernel) rfl, ini_RX0, by decide +kernel, by decide +kernel⟩
theorem im_X0_copyFrom : Cond.instanceMethod yX0_copyFrom ∈ TT ∧ Cond.selects RX0 yX0_copyFrom yX0_copyFrom ∈ TT := ⟨tt_at (i := 364) (by decide +kernel) rfl, tt_at (i := 365) (by decide +kernel) rfl⟩
abbrev mX1_copyFrom : MD := (yX1_copyFrom, cX1_copyFrom, 3, none)
theorem cl_X1_copyFrom : CL mX1_copyFrom 1 := ⟨tt_at (i := 370) (by decide +kernel) rfl, ini_RX1, by decide +kernel, by decide +kernel⟩
theorem im_X1_copyFrom : Cond.instanceMethod yX1_copyFrom ∈ TT ∧ Cond.selects RX1 yX1_copyFrom yX1_copyFrom ∈ TT := ⟨tt_at (i := 368) (by decide +kernel) rfl, tt_at (i := 369) (by decide +kernel) rfl⟩
abbrev mX4_copyFrom : MD := (yX4_copyFrom, cX4_copyFrom, 3, none)
theorem cl_X4_copyFrom : CL mX4_copyFrom 1 := ⟨tt_at (i := 374) (by decide +kernel) rfl, ini_RX4, by decide +kernel, by decide +kernel⟩
theorem im_X4_copyFrom : Cond.instanceMethod yX4_copyFrom ∈ TT ∧ Cond.selects RX4 yX4_copyFrom yX4_copyFrom ∈ TT := ⟨tt_at (i := 372) (by decide +kernel) rfl, tt_at (i := 373) (by decide +kernel) rfl⟩
abbrev mX5_write : MD := (yX5_write, cX5_write, 2, some Jvm.ClassFile.FieldType.int)
theorem cl_X5_write : CL mX5_write 1 := ⟨tt_at (i := 423) (by decide +kernel) rfl, ini_RX5, by decide +kernel, by decide +kernel⟩
theorem im_X5_write : Cond.instanceMethod yX5_write ∈ TT ∧ Cond.selects RX5 yX5_write yX5_write ∈ TT := ⟨tt_at (i := 421) (by decide +kernel) rfl, tt_at (i := 422) (by decide +kernel) rfl⟩
abbrev mX5_wipe : MD := (yX5_wipe, cX5_wipe, 2, some Jvm.ClassFile.FieldType.int)
theorem cl_X5_wipe : CL mX5_wipe 0 := ⟨tt_at (i := 427) (by decide +kernel) rfl, ini_RX5, by decide +kernel, by decide +kernel⟩
theorem im_X5_wipe : Cond.instanceMethod yX5_wipe ∈ TT ∧ Cond.selects RX5 yX5_wipe yX5_wipe ∈ TT := ⟨tt_at (i := 425) (by decide +kernel) rfl, tt_at (i := 426) (by decide +kernel) rfl⟩
abbrev mX5_fault : MD := (yX5_fault, cX5_fault, 1, some Jvm.ClassFile.FieldType.int)
theorem cl_X5_fault : CL mX5_fault 0 := ⟨tt_at (i := 431) (by decide +kernel) rfl, ini_RX5, by decide +kernel, by decide +kernel⟩
theorem im_X5_fault : Cond.instanceMethod yX5_fault ∈ TT ∧ Cond.selects RX5 yX5_fault yX5_fault ∈ TT := ⟨tt_at (i := 429) (by decide +kernel) rfl, tt_at (i := 430) (by decide +kernel) rfl⟩
abbrev mX5_lay : MD := (yX5_lay, cX5_lay, 1, some Jvm.ClassFile.FieldType.int)
theorem cl_X5_lay : CL mX5_lay 0 := ⟨tt_at (i := 435) (by decide +kernel) rfl, ini_RX5, by decide +kernel, by decide +kernel⟩
theorem im_X5_lay : Cond.instanceMethod yX5_lay ∈ TT ∧ Cond.selects RX5 yX5_lay yX5_lay ∈ TT := ⟨tt_at (i := 433) (by decide +kernel) rfl, tt_at (i := 434) (by decide +kernel) rfl⟩
abbrev mX2_clear : MD := (yX2_clear, cX2_clear, 1, none)
theorem cl_X2_clear : CL mX2_clear 0 := ⟨tt_at (i := 439) (by decide +kernel) rfl, ini_RX2, by decide +kernel, by decide +kernel⟩
theorem im_X2_clear : Cond.instanceMethod yX2_clear ∈ TT ∧ Cond.selects RX2 yX2_clear yX2_clear ∈ TT := ⟨tt_at (i := 437) (by decide +kernel) rfl, tt_at (i := 438) (by decide +kernel) rfl⟩
abbrev mX5_cell : MD := (yX5_cell, cX5_cell, 3, some Jvm.ClassFile.FieldType.int)
theorem cl_X5_cell : CL mX5_cell 2 := ⟨tt_at (i := 443) (by decide +kernel) rfl, ini_RX5, by decide +kernel, by decide +kernel⟩
theorem im_X5_cell : Cond.instanceMethod yX5_cell ∈ TT ∧ Cond.selects RX5 yX5_cell yX5_cell ∈ TT := ⟨tt_at (i := 441) (by decide +kernel) rfl, tt_at (i := 442) (by decide +kernel) rfl⟩
abbrev mX0_groundOf : MD := (yX0_groundOf, cX0_groundOf, 2, some Jvm.ClassFile.FieldType.int)
theorem cl_X0_groundOf : CL mX0_groundOf 1 := ⟨tt_at (i := 448) (by decide +kernel) rfl, ini_RX0, by decide +kernel, by decide +kernel⟩
theorem im_X0_groundOf : Cond.instanceMethod yX0_groundOf ∈ TT ∧ Cond.selects RX0 yX0_groundOf yX0_groundOf ∈ TT := ⟨tt_at (i := 446) (by decide +kernel) rfl, tt_at (i := 447) (by decide +kernel) rfl⟩
abbrev mX0_ownerOf : MD := (yX0_ownerOf, cX0_ownerOf, 2, some Jvm.ClassFile.FieldType.int)
theorem cl_X0_ownerOf : CL mX0_ownerOf 1 := ⟨tt_at (i := 452) (by decide +kernel) rfl, ini_RX0, by decide +kernel, by decide +kernel⟩
theorem im_X0_ownerOf : Cond.instanceMethod yX0_ownerOf ∈ TT ∧ Cond.selects RX0 yX0_ownerOf yX0_ownerOf ∈ TT := ⟨tt_at (i := 450) (by decide +kernel) rfl, tt_at (i := 451) (by decide +kernel) rfl⟩
abbrev mX1_standsIn : MD := (yX1_standsIn, cX1_standsIn, 3, some Jvm.ClassFile.FieldType.int)
theorem cl_X1_standsIn : CL mX1_standsIn 1 := ⟨tt_at (i := 457) (by decide +kernel) rfl, ini_RX1, by decide +kernel, by decide +kernel⟩
theorem im_X1_standsIn : Cond.instanceMethod yX1_standsIn ∈ TT ∧ Cond.selects RX1 yX1_standsIn yX1_standsIn ∈ TT := ⟨tt_at (i := 455) (by decide +kernel) rfl, tt_at (i := 456) (by decide +kernel) rfl⟩
abbrev mX4_cells : MD := (yX4_cells, cX4_cells, 4, some Jvm.ClassFile.FieldType.long)
theorem cl_X4_cells : CL mX4_cells 0 := ⟨tt_at (i := 462) (by decide +kernel) rfl, ini_RX4, by decide +kernel, by decide +kernel⟩
theorem im_X4_cells : Cond.instanceMethod yX4_cells ∈ TT ∧ Cond.selects RX4 yX4_cells yX4_cells ∈ TT := ⟨tt_at (i := 460) (by decide +kernel) rfl, tt_at (i := 461) (by decide +kernel) rfl⟩
abbrev mX5_row : MD := (yX5_row, cX5_row, 4, some Jvm.ClassFile.FieldType.int)
theorem cl_X5_row : CL mX5_row 2 := ⟨tt_at (i := 467) (by decide +kernel) rfl, ini_RX5, by decide +kernel, by decide +kernel⟩
theorem im_X5_row : Cond.instanceMethod yX5_row ∈ TT ∧ Cond.selects RX5 yX5_row yX5_row ∈ TT := ⟨tt_at (i := 465) (by decide +kernel) rfl, tt_at (i := 466) (by decide +kernel) rfl⟩
abbrev mX1_holds : MD := (yX1_holds, cX1_holds, 2, some Jvm.ClassFile.FieldType.boolean)
theorem cl_X1_holds : CL mX1_holds 1 := ⟨tt_at (i := 471) (by decide +kernel) rfl, ini_RX1, by decide +kernel, by decide +kernel⟩
theorem im_X1_holds : Cond.instanceMethod yX1_holds ∈ TT ∧ Cond.selects RX1 yX1_holds yX1_holds ∈ TT := ⟨tt_at (i := 469) (by decide +kernel) rfl, tt_at (i := 470) (by decide +kernel) rfl⟩
abbrev mX4_first : MD := (yX4_first, cX4_first, 1, some Jvm.ClassFile.FieldType.int)
theorem cl_X4_first : CL mX4_first 0 := ⟨tt_at (i := 475) (by decide +kernel) rfl, ini_RX4, by decide +kernel, by decide +kernel⟩
theorem im_X4_first : Cond.instanceMethod yX4_first ∈ TT ∧ Cond.selects RX4 yX4_first yX4_first ∈ TT := ⟨tt_at (i := 473) (by decide +kernel) rfl, tt_at (i := 474) (by decide +kernel) rfl⟩
abbrev mX1_wayOf : MD := (yX1_wayOf, cX1_wayOf, 10, some Jvm.ClassFile.FieldType.int)
theorem cl_X1_wayOf : CL mX1_wayOf 1 := ⟨tt_at (i := 479) (by decide +kernel) rfl, ini_RX1, by decide +kernel, by decide +kernel⟩
theorem im_X1_wayOf : Cond.instanceMethod yX1_wayOf ∈ TT ∧ Cond.selects RX1 yX1_wayOf yX1_wayOf ∈ TT := ⟨tt_at (i := 477) (by decide +kernel) rfl, tt_at (i := 478) (by decide +kernel) rfl⟩
abbrev mX5_tree : MD := (yX5_tree, cX5_tree, 3, some Jvm.ClassFile.FieldType.int)
theorem cl_X5_tree : CL mX5_tree 2 := ⟨tt_at (i := 487) (by decide +kernel) rfl, ini_RX5, by decide +kernel, by decide +kernel⟩
theorem im_X5_tree : Cond.instanceMethod yX5_tree ∈ TT ∧ Cond.selects RX5 yX5_tree yX5_tree ∈ TT := ⟨tt_at (i := 485) (by decide +kernel) rfl, tt_at (i := 486) (by decide +kernel) rfl⟩
abbrev mX5_has : MD := (yX5_has, cX5_has, 2, some Jvm.ClassFile.FieldType.int)
theorem cl_X5_has : CL mX5_has 1 := ⟨tt_at (i := 492) (by decide +kernel) rfl, ini_RX5, by decide +kernel, by decide +kernel⟩
theorem im_X5_has : Cond.instanceMethod yX5_has ∈ TT ∧ Cond.selects RX5 yX5_has yX5_has ∈ TT := ⟨tt_at (i := 490) (by decide +kernel) rfl, tt_at (i := 491) (by decide +kernel) rfl⟩
abbrev mX5_isOwner : MD := (yX5_isOwner, cX5_isOwner, 1, some Jvm.ClassFile.FieldType.boolean)
theorem cl_X5_isOwner : CL mX5_isOwner 1 := ⟨tt_at (i := 495) (by decide +kernel) rfl, ini_RX5, by decide +kernel, by decide +kernel⟩
theorem sm_X5_isOwner : Cond.static yX5_isOwner ∈ TT := tt_at (i := 494) (by decide +kernel) rfl
abbrev mX5_pass : MD := (yX5_pass, cX5_pass, 2, some Jvm.ClassFile.FieldType.int)
theorem cl_X5_pass : CL mX5_pass 1 := ⟨tt_at (i := 499) (by decide +kernel) rfl, ini_RX5, by decide +kernel, by decide +kernel⟩
theorem im_X5_pass : Cond.instanceMethod yX5_pass ∈ TT ∧ Cond.selects RX5 yX5_pass yX5_pass ∈ TT := ⟨tt_at (i := 497) (by decide +kernel) rfl, tt_at (i := 498) (by decide +kernel) rfl⟩
abbrev mX5_isWithin : MD := (yX5_isWithin, cX5_isWithin, 3, some Jvm.ClassFile.FieldType.boolean)
theorem cl_X5_isWithin : CL mX5_isWithin 3 := ⟨tt_at (i := 502) (by decide +kernel) rfl, ini_RX5, by decide +kernel, by decide +kernel⟩
theorem sm_X5_isWithin : Cond.static yX5_isWithin ∈ TT := tt_at (i := 501) (by decide +kernel) rfl
abbrev mX2_push : MD := (yX2_push, cX2_push, 2, none)
theorem cl_X2_push : CL mX2_push 1 := ⟨tt_at (i := 506) (by decide +kernel) rfl, ini_RX2, by decide +kernel, by decide +kernel⟩
theorem im_X2_push : Cond.instanceMethod yX2_push ∈ TT ∧ Cond.selects RX2 yX2_push yX2_push ∈ TT := ⟨tt_at (i := 504) (by decide +kernel) rfl, tt_at (i := 505) (by decide +kernel) rfl⟩
abbrev mX2_dropOldest : MD := (yX2_dropOldest, cX2_dropOldest, 3, none)
theorem cl_X2_dropOldest : CL mX2_dropOldest 0 := ⟨tt_at (i := 510) (by decide +kernel) rfl, ini_RX2, by decide +kernel, by decide +kernel⟩
theorem im_X2_dropOldest : Cond.instanceMethod yX2_dropOldest ∈ TT ∧ Cond.selects RX2 yX2_dropOldest yX2_dropOldest ∈ TT := ⟨tt_at (i := 508) (by decide +kernel) rfl, tt_at (i := 509) (by decide +kernel) rfl⟩
abbrev mX1_passYears : MD := (yX1_passYears, cX1_passYears, 4, none)
theorem cl_X1_passYears : CL mX1_passYears 1 := ⟨tt_at (i := 515) (by decide +kernel) rfl, ini_RX1, by decide +kernel, by decide +kernel⟩
theorem im_X1_passYears : Cond.instanceMethod yX1_passYears ∈ TT ∧ Cond.selects RX1 yX1_passYears yX1_passYears ∈ TT := ⟨tt_at (i := 513) (by decide +kernel) rfl, tt_at (i := 514) (by decide +kernel) rfl⟩
abbrev mX1_goYear : MD := (yX1_goYear, cX1_goYear, 3, none)
theorem cl_X1_goYear : CL mX1_goYear 1 := ⟨tt_at (i := 519) (by decide +kernel) rfl, ini_RX1, by decide +kernel, by decide +kernel⟩
theorem im_X1_goYear : Cond.instanceMethod yX1_goYear ∈ TT ∧ Cond.selects RX1 yX1_goYear yX1_goYear ∈ TT := ⟨tt_at (i := 517) (by decide +kernel) rfl, tt_at (i := 518) (by decide +kernel) rfl⟩
abbrev mX1_goRow : MD := (yX1_goRow, cX1_goRow, 5, none)
theorem cl_X1_goRow : CL mX1_goRow 1 := ⟨tt_at (i := 523) (by decide +kernel) rfl, ini_RX1, by decide +kernel, by decide +kernel⟩
theorem im_X1_goRow : Cond.instanceMethod yX1_goRow ∈ TT ∧ Cond.selects RX1 yX1_goRow yX1_goRow ∈ TT := ⟨tt_at (i := 521) (by decide +kernel) rfl, tt_at (i := 522) (by decide +kernel) rfl⟩
abbrev mX1_give : MD := (yX1_give, cX1_give, 4, none)
theorem cl_X1_give : CL mX1_give 2 := ⟨tt_at (i := 530) (by decide +kernel) rfl, ini_RX1, by decide +kernel, by decide +kernel⟩
theorem im_X1_give : Cond.instanceMethod yX1_give ∈ TT ∧ Cond.selects RX1 yX1_give yX1_give ∈ TT := ⟨tt_at (i := 528) (by decide +kernel) rfl, tt_at (i := 529) (by decide +kernel) rfl⟩
abbrev mX1_bearRow : MD := (yX1_bearRow, cX1_bearRow, 6, none)
theorem cl_X1_bearRow : CL mX1_bearRow 1 := ⟨tt_at (i := 535) (by decide +kernel) rfl, ini_RX1, by decide +kernel, by decide +kernel⟩
theorem im_X1_bearRow : Cond.instanceMethod yX1_bearRow ∈ TT ∧ Cond.selects RX1 yX1_bearRow yX1_bearRow ∈ TT := ⟨tt_at (i := 533) (by decide +kernel) rfl, tt_at (i := 534) (by decide +kernel) rfl⟩
abbrev mX5_dig : MD := (yX5_dig, cX5_dig, 2, some Jvm.ClassFile.FieldType.int)
theorem cl_X5_dig : CL mX5_dig 1 := ⟨tt_at (i := 540) (by decide +kernel) rfl, ini_RX5, by decide +kernel, by decide +kernel⟩
theorem im_X5_dig : Cond.instanceMethod yX5_dig ∈ TT ∧ Cond.selects RX5 yX5_dig yX5_dig ∈ TT := ⟨tt_at (i := 538) (by decide +kernel) rfl, tt_at (i := 539) (by decide +kernel) rfl⟩
abbrev mX1_canDig : MD := (yX1_canDig, cX1_canDig, 2, some Jvm.ClassFile.FieldType.boolean)
theorem cl_X1_canDig : CL mX1_canDig 1 := ⟨tt_at (i := 544) (by decide +kernel) rfl, ini_RX1, by decide +kernel, by decide +kernel⟩
theorem im_X1_canDig : Cond.instanceMethod yX1_canDig ∈ TT ∧ Cond.selects RX1 yX1_canDig yX1_canDig ∈ TT := ⟨tt_at (i := 542) (by decide +kernel) rfl, tt_at (i := 543) (by decide +kernel) rfl⟩
abbrev mX1_digIn : MD := (yX1_digIn, cX1_digIn, 2, none)
theorem cl_X1_digIn : CL mX1_digIn 1 := ⟨tt_at (i := 548) (by decide +kernel) rfl, ini_RX1, by decide +kernel, by decide +kernel⟩
theorem im_X1_digIn : Cond.instanceMethod yX1_digIn ∈ TT ∧ Cond.selects RX1 yX1_digIn yX1_digIn ∈ TT := ⟨tt_at (i := 546) (by decide +kernel) rfl, tt_at (i := 547) (by decide +kernel) rfl⟩
abbrev mJ13_bitCount_95d88 : MD := (yJ13_bitCount_95d88, cJ13_bitCount_95d88, 2, some Jvm.ClassFile.FieldType.int)
theorem cl_J13_bitCount_95d88 : CL mJ13_bitCount_95d88 1 := ⟨tt_at (i := 552) (by decide +kernel) rfl, ini_RJ13, by decide +kernel, by decide +kernel⟩
theorem sm_J13_bitCount_95d88 : Cond.static yJ13_bitCount_95d88 ∈ TT := tt_at (i := 551) (by decide +kernel) rfl
abbrev mX5_fill : MD := (yX5_fill, cX5_fill, 2, some Jvm.ClassFile.FieldType.int)
theorem cl_X5_fill : CL mX5_fill 1 := ⟨tt_at (i := 559) (by decide +kernel) rfl, ini_RX5, by decide +kernel, by decide +kernel⟩
theorem im_X5_fill : Cond.instanceMethod yX5_fill ∈ TT ∧ Cond.selects RX5 yX5_fill yX5_fill ∈ TT := ⟨tt_at (i := 557) (by decide +kernel) rfl, tt_at (i := 558) (by decide +kernel) rfl⟩
abbrev mX1_fillIn : MD := (yX1_fillIn, cX1_fillIn, 2, none)
theorem cl_X1_fillIn : CL mX1_fillIn 1 := ⟨tt_at (i := 563) (by decide +kernel) rfl, ini_RX1, by decide +kernel, by decide +kernel⟩
theorem im_X1_fillIn : Cond.instanceMethod yX1_fillIn ∈ TT ∧ Cond.selects RX1 yX1_fillIn yX1_fillIn ∈ TT := ⟨tt_at (i := 561) (by decide +kernel) rfl, tt_at (i := 562) (by decide +kernel) rfl⟩
abbrev mX5_leave : MD := (yX5_leave, cX5_leave, 2, some Jvm.ClassFile.FieldType.int)
theorem cl_X5_leave : CL mX5_leave 1 := ⟨tt_at (i := 567) (by decide +kernel) rfl, ini_RX5, by decide +kernel, by decide +kernel⟩
theorem im_X5_leave : Cond.instanceMethod yX5_leave ∈ TT ∧ Cond.selects RX5 yX5_leave yX5_leave ∈ TT := ⟨tt_at (i := 565) (by decide +kernel) rfl, tt_at (i := 566) (by decide +kernel) rfl⟩
abbrev mX1_leaveLast : MD := (yX1_leaveLast, cX1_leaveLast, 3, some Jvm.ClassFile.FieldType.int)
theorem cl_X1_leaveLast : CL mX1_leaveLast 1 := ⟨tt_at (i := 571) (by decide +kernel) rfl, ini_RX1, by decide +kernel, by decide +kernel⟩
theorem im_X1_leaveLast : Cond.instanceMethod yX1_leaveLast ∈ TT ∧ Cond.selects RX1 yX1_leaveLast yX1_leaveLast ∈ TT := ⟨tt_at (i := 569) (by decide +kernel) rfl, tt_at (i := 570) (by decide +kernel) rfl⟩
abbrev mX5_undo : MD := (yX5_undo, cX5_undo, 1, some Jvm.ClassFile.FieldType.int)
theorem cl_X5_undo : CL mX5_undo 0 := ⟨tt_at (i := 575) (by decide +kernel) rfl, ini_RX5, by decide +kernel, by decide +kernel⟩
theorem im_X5_undo : Cond.instanceMethod yX5_undo ∈ TT ∧ Cond.selects RX5 yX5_undo yX5_undo ∈ TT := ⟨tt_at (i := 573) (by decide +kernel) rfl, tt_at (i := 574) (by decide +kernel) rfl⟩
abbrev mX2_pop : MD := (yX2_pop, cX2_pop, 2, none)
theorem cl_X2_pop : CL mX2_pop 1 := ⟨tt_at (i := 579) (by decide +kernel) rfl, ini_RX2, by decide +kernel, by decide +kernel⟩
theorem im_X2_pop : Cond.instanceMethod yX2_pop ∈ TT ∧ Cond.selects RX2 yX2_pop yX2_pop ∈ TT := ⟨tt_at (i := 577) (by decide +kernel) rfl, tt_at (i := 578) (by decide +kernel) rfl⟩
abbrev mX5_behind : MD := (yX5_behind, cX5_behind, 3, some Jvm.ClassFile.FieldType.int)
theorem cl_X5_behind : CL mX5_behind 2 := ⟨tt_at (i := 583) (by decide +kernel) rfl, ini_RX5, by decide +kernel, by decide +kernel⟩
theorem im_X5_behind : Cond.instanceMethod yX5_behind ∈ TT ∧ Cond.selects RX5 yX5_behind yX5_behind ∈ TT := ⟨tt_at (i := 581) (by decide +kernel) rfl, tt_at (i := 582) (by decide +kernel) rfl⟩
abbrev mX5_firstTreeBehind : MD := (yX5_firstTreeBehind, cX5_firstTreeBehind, 6, some Jvm.ClassFile.FieldType.int)
theorem cl_X5_firstTreeBehind : CL mX5_firstTreeBehind 3 := ⟨tt_at (i := 587) (by decide +kernel) rfl, ini_RX5, by decide +kernel, by decide +kernel⟩
theorem im_X5_firstTreeBehind : Cond.instanceMethod yX5_firstTreeBehind ∈ TT ∧ Cond.selects RX5 yX5_firstTreeBehind yX5_firstTreeBehind ∈ TT := ⟨tt_at (i := 586) (by decide +kernel) rfl, tt_at (i := 0) (by decide +kernel) rfl⟩
abbrev mX5_wealth : MD := (yX5_wealth, cX5_wealth, 3, some Jvm.ClassFile.FieldType.int)
theorem cl_X5_wealth : CL mX5_wealth 2 := ⟨tt_at (i := 592) (by decide +kernel) rfl, ini_RX5, by decide +kernel, by decide +kernel⟩
theorem im_X5_wealth : Cond.instanceMethod yX5_wealth ∈ TT ∧ Cond.selects RX5 yX5_wealth yX5_wealth ∈ TT := ⟨tt_at (i := 590) (by decide +kernel) rfl, tt_at (i := 591) (by decide +kernel) rfl⟩
abbrev mX5_ownedBehind : MD := (yX5_ownedBehind, cX5_ownedBehind, 5, some Jvm.ClassFile.FieldType.int)
theorem cl_X5_ownedBehind : CL mX5_ownedBehind 3 := ⟨tt_at (i := 596) (by decide +kernel) rfl, ini_RX5, by decide +kernel, by decide +kernel⟩
theorem im_X5_ownedBehind : Cond.instanceMethod yX5_ownedBehind ∈ TT ∧ Cond.selects RX5 yX5_ownedBehind yX5_ownedBehind ∈ TT := ⟨tt_at (i := 595) (by decide +kernel) rfl, tt_at (i := 1) (by decide +kernel) rfl⟩
abbrev mX5_comes : MD := (yX5_comes, cX5_comes, 4, some Jvm.ClassFile.FieldType.int)
theorem cl_X5_comes : CL mX5_comes 2 := ⟨tt_at (i := 600) (by decide +kernel) rfl, ini_RX5, by decide +kernel, by decide +kernel⟩
theorem im_X5_comes : Cond.instanceMethod yX5_comes ∈ TT ∧ Cond.selects RX5 yX5_comes yX5_comes ∈ TT := ⟨tt_at (i := 598) (by decide +kernel) rfl, tt_at (i := 599) (by decide +kernel) rfl⟩
abbrev mX5_meet : MD := (yX5_meet, cX5_meet, 4, some Jvm.ClassFile.FieldType.int)
theorem cl_X5_meet : CL mX5_meet 2 := ⟨tt_at (i := 604) (by decide +kernel) rfl, ini_RX5, by decide +kernel, by decide +kernel⟩
theorem im_X5_meet : Cond.instanceMethod yX5_meet ∈ TT ∧ Cond.selects RX5 yX5_meet yX5_meet ∈ TT := ⟨tt_at (i := 602) (by decide +kernel) rfl, tt_at (i := 603) (by decide +kernel) rfl⟩
abbrev mX1_areSideBySide : MD := (yX1_areSideBySide, cX1_areSideBySide, 6, some Jvm.ClassFile.FieldType.boolean)
theorem cl_X1_areSideBySide : CL mX1_areSideBySide 2 := ⟨tt_at (i := 608) (by decide +kernel) rfl, ini_RX1, by decide +kernel, by decide +kernel⟩
theorem im_X1_areSideBySide : Cond.instanceMethod yX1_areSideBySide ∈ TT ∧ Cond.selects RX1 yX1_areSideBySide yX1_areSideBySide ∈ TT := ⟨tt_at (i := 606) (by decide +kernel) rfl, tt_at (i := 607) (by decide +kernel) rfl⟩
abbrev mX5_again : MD := (yX5_again, cX5_again, 2, some Jvm.ClassFile.FieldType.int)
theorem cl_X5_again : CL mX5_again 0 := ⟨tt_at (i := 612) (by decide +kernel) rfl, ini_RX5, by decide +kernel, by decide +kernel⟩
theorem im_X5_again : Cond.instanceMethod yX5_again ∈ TT ∧ Cond.selects RX5 yX5_again yX5_again ∈ TT := ⟨tt_at (i := 610) (by decide +kernel) rfl, tt_at (i := 611) (by decide +kernel) rfl⟩
abbrev mX1_standsAs : MD := (yX1_standsAs, cX1_standsAs, 4, some Jvm.ClassFile.FieldType.boolean)
theorem cl_X1_standsAs : CL mX1_standsAs 1 := ⟨tt_at (i := 616) (by decide +kernel) rfl, ini_RX1, by decide +kernel, by decide +kernel⟩
theorem im_X1_standsAs : Cond.instanceMethod yX1_standsAs ∈ TT ∧ Cond.selects RX1 yX1_standsAs yX1_standsAs ∈ TT := ⟨tt_at (i := 614) (by decide +kernel) rfl, tt_at (i := 615) (by decide +kernel) rfl⟩
abbrev mX4_standsAs : MD := (yX4_standsAs, cX4_standsAs, 3, some Jvm.ClassFile.FieldType.boolean)
theorem cl_X4_standsAs : CL mX4_standsAs 1 := ⟨tt_at (i := 620) (by decide +kernel) rfl, ini_RX4, by decide +kernel, by decide +kernel⟩
theorem im_X4_standsAs : Cond.instanceMethod yX4_standsAs ∈ TT ∧ Cond.selects RX4 yX4_standsAs yX4_standsAs ∈ TT := ⟨tt_at (i := 618) (by decide +kernel) rfl, tt_at (i := 619) (by decide +kernel) rfl⟩
abbrev mX5_ditches : MD := (yX5_ditches, cX5_ditches, 6, some Jvm.ClassFile.FieldType.int)
theorem cl_X5_ditches : CL mX5_ditches 4 := ⟨tt_at (i := 624) (by decide +kernel) rfl, ini_RX5, by decide +kernel, by decide +kernel⟩
theorem im_X5_ditches : Cond.instanceMethod yX5_ditches ∈ TT ∧ Cond.selects RX5 yX5_ditches yX5_ditches ∈ TT := ⟨tt_at (i := 622) (by decide +kernel) rfl, tt_at (i := 623) (by decide +kernel) rfl⟩
abbrev mX5_noneOrOneDitch : MD := (yX5_noneOrOneDitch, cX5_noneOrOneDitch, 7, some Jvm.ClassFile.FieldType.int)
theorem cl_X5_noneOrOneDitch : CL mX5_noneOrOneDitch 3 := ⟨tt_at (i := 628) (by decide +kernel) rfl, ini_RX5, by decide +kernel, by decide +kernel⟩
theorem im_X5_noneOrOneDitch : Cond.instanceMethod yX5_noneOrOneDitch ∈ TT ∧ Cond.selects RX5 yX5_noneOrOneDitch yX5_noneOrOneDitch ∈ TT := ⟨tt_at (i := 627) (by decide +kernel) rfl, tt_at (i := 2) (by decide +kernel) rfl⟩
abbrev mX0_cells : MD := (yX0_cells, cX0_cells, 1, some Jvm.ClassFile.FieldType.int)
theorem cl_X0_cells : CL mX0_cells 0 := ⟨tt_at (i := 632) (by decide +kernel) rfl, ini_RX0, by decide +kernel, by decide +kernel⟩
theorem im_X0_cells : Cond.instanceMethod yX0_cells ∈ TT ∧ Cond.selects RX0 yX0_cells yX0_cells ∈ TT := ⟨tt_at (i := 630) (by decide +kernel) rfl, tt_at (i := 631) (by decide +kernel) rfl⟩
abbrev mX5_twoDitches : MD := (yX5_twoDitches, cX5_twoDitches, 6, some Jvm.ClassFile.FieldType.int)
theorem cl_X5_twoDitches : CL mX5_twoDitches 3 := ⟨tt_at (i := 637) (by decide +kernel) rfl, ini_RX5, by decide +kernel, by decide +kernel⟩
theorem im_X5_twoDitches : Cond.instanceMethod yX5_twoDitches ∈ TT ∧ Cond.selects RX5 yX5_twoDitches yX5_twoDitches ∈ TT := ⟨tt_at (i := 636) (by decide +kernel) rfl, tt_at (i := 3) (by decide +kernel) rfl⟩
abbrev mX5_best : MD := (yX5_best, cX5_best, 8, some Jvm.ClassFile.FieldType.int)
theorem cl_X5_best : CL mX5_best 3 := ⟨tt_at (i := 641) (by decide +kernel) rfl, ini_RX5, by decide +kernel, by decide +kernel⟩
theorem im_X5_best : Cond.instanceMethod yX5_best ∈ TT ∧ Cond.selects RX5 yX5_best yX5_best ∈ TT := ⟨tt_at (i := 639) (by decide +kernel) rfl, tt_at (i := 640) (by decide +kernel) rfl⟩
abbrev mX5_see : MD := (yX5_see, cX5_see, 4, some Jvm.ClassFile.FieldType.int)
theorem cl_X5_see : CL mX5_see 3 := ⟨tt_at (i := 645) (by decide +kernel) rfl, ini_RX5, by decide +kernel, by decide +kernel⟩
theorem im_X5_see : Cond.instanceMethod yX5_see ∈ TT ∧ Cond.selects RX5 yX5_see yX5_see ∈ TT := ⟨tt_at (i := 643) (by decide +kernel) rfl, tt_at (i := 644) (by decide +kernel) rfl⟩
abbrev mX5_forget : MD := (yX5_forget, cX5_forget, 2, some Jvm.ClassFile.FieldType.int)
theorem cl_X5_forget : CL mX5_forget 0 := ⟨tt_at (i := 649) (by decide +kernel) rfl, ini_RX5, by decide +kernel, by decide +kernel⟩
theorem im_X5_forget : Cond.instanceMethod yX5_forget ∈ TT ∧ Cond.selects RX5 yX5_forget yX5_forget ∈ TT := ⟨tt_at (i := 647) (by decide +kernel) rfl, tt_at (i := 648) (by decide +kernel) rfl⟩
abbrev mX5_fits : MD := (yX5_fits, cX5_fits, 5, some Jvm.ClassFile.FieldType.int)
theorem cl_X5_fits : CL mX5_fits 2 := ⟨tt_at (i := 653) (by decide +kernel) rfl, ini_RX5, by decide +kernel, by decide +kernel⟩
theorem im_X5_fits : Cond.instanceMethod yX5_fits ∈ TT ∧ Cond.selects RX5 yX5_fits yX5_fits ∈ TT := ⟨tt_at (i := 651) (by decide +kernel) rfl, tt_at (i := 652) (by decide +kernel) rfl⟩
abbrev mX5_allSeenComes : MD := (yX5_allSeenComes, cX5_allSeenComes, 5, some Jvm.ClassFile.FieldType.boolean)
theorem cl_X5_allSeenComes : CL mX5_allSeenComes 1 := ⟨tt_at (i := 657) (by decide +kernel) rfl, ini_RX5, by decide +kernel, by decide +kernel⟩
theorem im_X5_allSeenComes : Cond.instanceMethod yX5_allSeenComes ∈ TT ∧ Cond.selects RX5 yX5_allSeenComes yX5_allSeenComes ∈ TT := ⟨tt_at (i := 656) (by decide +kernel) rfl, tt_at (i := 4) (by decide +kernel) rfl⟩
abbrev mX5_frost : MD := (yX5_frost, cX5_frost, 11, some Jvm.ClassFile.FieldType.int)
theorem cl_X5_frost : CL mX5_frost 5 := ⟨tt_at (i := 661) (by decide +kernel) rfl, ini_RX5, by decide +kernel, by decide +kernel⟩
theorem im_X5_frost : Cond.instanceMethod yX5_frost ∈ TT ∧ Cond.selects RX5 yX5_frost yX5_frost ∈ TT := ⟨tt_at (i := 659) (by decide +kernel) rfl, tt_at (i := 660) (by decide +kernel) rfl⟩
abbrev mX5_casesOfFrost : MD := (yX5_casesOfFrost, cX5_casesOfFrost, 11, some Jvm.ClassFile.FieldType.long)
theorem cl_X5_casesOfFrost : CL mX5_casesOfFrost 4 := ⟨tt_at (i := 665) (by decide +kernel) rfl, ini_RX5, by decide +kernel, by decide +kernel⟩
theorem im_X5_casesOfFrost : Cond.instanceMethod yX5_casesOfFrost ∈ TT ∧ Cond.selects RX5 yX5_casesOfFrost yX5_casesOfFrost ∈ TT := ⟨tt_at (i := 664) (by decide +kernel) rfl, tt_at (i := 5) (by decide +kernel) rfl⟩
abbrev mX5_firstTreeOfFrost : MD := (yX5_firstTreeOfFrost, cX5_firstTreeOfFrost, 5, some Jvm.ClassFile.FieldType.int)
theorem cl_X5_firstTreeOfFrost : CL mX5_firstTreeOfFrost 3 := ⟨tt_at (i := 669) (by decide +kernel) rfl, ini_RX5, by decide +kernel, by decide +kernel⟩
theorem im_X5_firstTreeOfFrost : Cond.instanceMethod yX5_firstTreeOfFrost ∈ TT ∧ Cond.selects RX5 yX5_firstTreeOfFrost yX5_firstTreeOfFrost ∈ TT := ⟨tt_at (i := 668) (by decide +kernel) rfl, tt_at (i := 6) (by decide +kernel) rfl⟩
abbrev mX5_century : MD := (yX5_century, cX5_century, 5, some Jvm.ClassFile.FieldType.int)
theorem cl_X5_century : CL mX5_century 3 := ⟨tt_at (i := 676) (by decide +kernel) rfl, ini_RX5, by decide +kernel, by decide +kernel⟩
theorem im_X5_century : Cond.instanceMethod yX5_century ∈ TT ∧ Cond.selects RX5 yX5_century yX5_century ∈ TT := ⟨tt_at (i := 674) (by decide +kernel) rfl, tt_at (i := 675) (by decide +kernel) rfl⟩
abbrev mX5_drawOf : MD := (yX5_drawOf, cX5_drawOf, 4, some Jvm.ClassFile.FieldType.int)
theorem cl_X5_drawOf : CL mX5_drawOf 2 := ⟨tt_at (i := 679) (by decide +kernel) rfl, ini_RX5, by decide +kernel, by decide +kernel⟩
theorem sm_X5_drawOf : Cond.static yX5_drawOf ∈ TT := tt_at (i := 678) (by decide +kernel) rfl
abbrev mX5_disturbAhead : MD := (yX5_disturbAhead, cX5_disturbAhead, 5, none)
theorem cl_X5_disturbAhead : CL mX5_disturbAhead 1 := ⟨tt_at (i := 686) (by decide +kernel) rfl, ini_RX5, by decide +kernel, by decide +kernel⟩
theorem im_X5_disturbAhead : Cond.instanceMethod yX5_disturbAhead ∈ TT ∧ Cond.selects RX5 yX5_disturbAhead yX5_disturbAhead ∈ TT := ⟨tt_at (i := 685) (by decide +kernel) rfl, tt_at (i := 7) (by decide +kernel) rfl⟩
abbrev mX1_ownedByAll : MD := (yX1_ownedByAll, cX1_ownedByAll, 3, some Jvm.ClassFile.FieldType.int)
theorem cl_X1_ownedByAll : CL mX1_ownedByAll 0 := ⟨tt_at (i := 691) (by decide +kernel) rfl, ini_RX1, by decide +kernel, by decide +kernel⟩
theorem im_X1_ownedByAll : Cond.instanceMethod yX1_ownedByAll ∈ TT ∧ Cond.selects RX1 yX1_ownedByAll yX1_ownedByAll ∈ TT := ⟨tt_at (i := 689) (by decide +kernel) rfl, tt_at (i := 690) (by decide +kernel) rfl⟩
abbrev mX5_keep : MD := (yX5_keep, cX5_keep, 1, some Jvm.ClassFile.FieldType.int)
theorem cl_X5_keep : CL mX5_keep 0 := ⟨tt_at (i := 695) (by decide +kernel) rfl, ini_RX5, by decide +kernel, by decide +kernel⟩
theorem im_X5_keep : Cond.instanceMethod yX5_keep ∈ TT ∧ Cond.selects RX5 yX5_keep yX5_keep ∈ TT := ⟨tt_at (i := 693) (by decide +kernel) rfl, tt_at (i := 694) (by decide +kernel) rfl⟩
abbrev mX5_back : MD := (yX5_back, cX5_back, 1, some Jvm.ClassFile.FieldType.int)
theorem cl_X5_back : CL mX5_back 0 := ⟨tt_at (i := 699) (by decide +kernel) rfl, ini_RX5, by decide +kernel, by decide +kernel⟩
theorem im_X5_back : Cond.instanceMethod yX5_back ∈ TT ∧ Cond.selects RX5 yX5_back yX5_back ∈ TT := ⟨tt_at (i := 697) (by decide +kernel) rfl, tt_at (i := 698) (by decide +kernel) rfl⟩
abbrev mX5_count : MD := (yX5_count, cX5_count, 2, some Jvm.ClassFile.FieldType.int)
theorem cl_X5_count : CL mX5_count 1 := ⟨tt_at (i := 703) (by decide +kernel) rfl, ini_RX5, by decide +kernel, by decide +kernel⟩
theorem im_X5_count : Cond.instanceMethod yX5_count ∈ TT ∧ Cond.selects RX5 yX5_count yX5_count ∈ TT := ⟨tt_at (i := 701) (by decide +kernel) rfl, tt_at (i := 702) (by decide +kernel) rfl⟩
abbrev mX6_init : MD := (yX6_init, cX6_init, 1, none)
theorem cl_X6_init : CL mX6_init 0 := ⟨tt_at (i := 709) (by decide +kernel) rfl, ini_RX6, by decide +kernel, by decide +kernel⟩
theorem ii_X6_init : Cond.instanceMethod yX6_init ∈ TT ∧ yX6_init.name = "<init>" ∧ mX6_init.2.2.2 = none := ⟨tt_at (i := 708) (by decide +kernel) rfl, rfl, rfl⟩
abbrev mX6_begins : MD := (yX6_begins, cX6_begins, 2, none)
theorem cl_X6_begins : CL mX6_begins 0 := ⟨tt_at (i := 714) (by decide +kernel) rfl, ini_RX6, by decide +kernel, by decide +kernel⟩
theorem im_X6_begins : Cond.instanceMethod yX6_begins ∈ TT ∧ Cond.selects RX6 yX6_begins yX6_begins ∈ TT := ⟨tt_at (i := 713) (by decide +kernel) rfl, tt_at (i := 8) (by decide +kernel) rfl⟩
abbrev mX6_owns : MD := (yX6_owns, cX6_owns, 5, none)
theorem cl_X6_owns : CL mX6_owns 3 := ⟨tt_at (i := 718) (by decide +kernel) rfl, ini_RX6, by decide +kernel, by decide +kernel⟩
theorem im_X6_owns : Cond.instanceMethod yX6_owns ∈ TT ∧ Cond.selects RX6 yX6_owns yX6_owns ∈ TT := ⟨tt_at (i := 717) (by decide +kernel) rfl, tt_at (i := 9) (by decide +kernel) rfl⟩
abbrev mX6_rowOf : MD := (yX6_rowOf, cX6_rowOf, 5, none)
theorem cl_X6_rowOf : CL mX6_rowOf 3 := ⟨tt_at (i := 722) (by decide +kernel) rfl, ini_RX6, by decide +kernel, by decide +kernel⟩
theorem im_X6_rowOf : Cond.instanceMethod yX6_rowOf ∈ TT ∧ Cond.selects RX6 yX6_rowOf yX6_rowOf ∈ TT := ⟨tt_at (i := 721) (by decide +kernel) rfl, tt_at (i := 10) (by decide +kernel) rfl⟩
abbrev mX6_stands : MD := (yX6_stands, cX6_stands, 3, none)
theorem cl_X6_stands : CL mX6_stands 1 := ⟨tt_at (i := 726) (by decide +kernel) rfl, ini_RX6, by decide +kernel, by decide +kernel⟩
theorem im_X6_stands : Cond.instanceMethod yX6_stands ∈ TT ∧ Cond.selects RX6 yX6_stands yX6_stands ∈ TT := ⟨tt_at (i := 725) (by decide +kernel) rfl, tt_at (i := 11) (by decide +kernel) rfl⟩
abbrev mX6_lays : MD := (yX6_lays, cX6_lays, 2, none)
theorem cl_X6_lays : CL mX6_lays 0 := ⟨tt_at (i := 730) (by decide +kernel) rfl, ini_RX6, by decide +kernel, by decide +kernel⟩
theorem im_X6_lays : Cond.instanceMethod yX6_lays ∈ TT ∧ Cond.selects RX6 yX6_lays yX6_lays ∈ TT := ⟨tt_at (i := 729) (by decide +kernel) rfl, tt_at (i := 12) (by decide +kernel) rfl⟩
abbrev mX6_write : MD := (yX6_write, cX6_write, 2, some Jvm.ClassFile.FieldType.int)
theorem cl_X6_write : CL mX6_write 1 := ⟨tt_at (i := 777) (by decide +kernel) rfl, ini_RX6, by decide +kernel, by decide +kernel⟩
theorem im_X6_write : Cond.instanceMethod yX6_write ∈ TT ∧ Cond.selects RX6 yX6_write yX6_write ∈ TT := ⟨tt_at (i := 775) (by decide +kernel) rfl, tt_at (i := 776) (by decide +kernel) rfl⟩
abbrev mX6_in : MD := (yX6_in, cX6_in, 3, some Jvm.ClassFile.FieldType.boolean)
theorem cl_X6_in : CL mX6_in 3 := ⟨tt_at (i := 780) (by decide +kernel) rfl, ini_RX6, by decide +kernel, by decide +kernel⟩
theorem sm_X6_in : Cond.static yX6_in ∈ TT := tt_at (i := 779) (by decide +kernel) rfl
abbrev mX6_wipe : MD := (yX6_wipe, cX6_wipe, 2, some Jvm.ClassFile.FieldType.int)
theorem cl_X6_wipe : CL mX6_wipe 0 := ⟨tt_at (i := 784) (by decide +kernel) rfl, ini_RX6, by decide +kernel, by decide +kernel⟩
theorem im_X6_wipe : Cond.instanceMethod yX6_wipe ∈ TT ∧ Cond.selects RX6 yX6_wipe yX6_wipe ∈ TT := ⟨tt_at (i := 782) (by decide +kernel) rfl, tt_at (i := 783) (by decide +kernel) rfl⟩
abbrev mX6_fault : MD := (yX6_fault, cX6_fault, 1, some Jvm.ClassFile.FieldType.int)
theorem cl_X6_fault : CL mX6_fault 0 := ⟨tt_at (i := 788) (by decide +kernel) rfl, ini_RX6, by decide +kernel, by decide +kernel⟩
theorem im_X6_fault : Cond.instanceMethod yX6_fault ∈ TT ∧ Cond.selects RX6 yX6_fault yX6_fault ∈ TT := ⟨tt_at (i := 786) (by decide +kernel) rfl, tt_at (i := 787) (by decide +kernel) rfl⟩
abbrev mX6_readsAll : MD := (yX6_readsAll, cX6_readsAll, 4, some Jvm.ClassFile.FieldType.int)
theorem cl_X6_readsAll : CL mX6_readsAll 0 := ⟨tt_at (i := 792) (by decide +kernel) rfl, ini_RX6, by decide +kernel, by decide +kernel⟩
theorem im_X6_readsAll : Cond.instanceMethod yX6_readsAll ∈ TT ∧ Cond.selects RX6 yX6_readsAll yX6_readsAll ∈ TT := ⟨tt_at (i := 791) (by decide +kernel) rfl, tt_at (i := 13) (by decide +kernel) rfl⟩
abbrev mX6_readsLine : MD := (yX6_readsLine, cX6_readsLine, 3, some Jvm.ClassFile.FieldType.boolean)
theorem cl_X6_readsLine : CL mX6_readsLine 0 := ⟨tt_at (i := 796) (by decide +kernel) rfl, ini_RX6, by decide +kernel, by decide +kernel⟩
theorem im_X6_readsLine : Cond.instanceMethod yX6_readsLine ∈ TT ∧ Cond.selects RX6 yX6_readsLine yX6_readsLine ∈ TT := ⟨tt_at (i := 795) (by decide +kernel) rfl, tt_at (i := 14) (by decide +kernel) rfl⟩
abbrev mX6_letterAt : MD := (yX6_letterAt, cX6_letterAt, 2, some Jvm.ClassFile.FieldType.int)
theorem cl_X6_letterAt : CL mX6_letterAt 1 := ⟨tt_at (i := 800) (by decide +kernel) rfl, ini_RX6, by decide +kernel, by decide +kernel⟩
theorem im_X6_letterAt : Cond.instanceMethod yX6_letterAt ∈ TT ∧ Cond.selects RX6 yX6_letterAt yX6_letterAt ∈ TT := ⟨tt_at (i := 799) (by decide +kernel) rfl, tt_at (i := 15) (by decide +kernel) rfl⟩
abbrev mX6_readsOwner : MD := (yX6_readsOwner, cX6_readsOwner, 4, some Jvm.ClassFile.FieldType.boolean)
theorem cl_X6_readsOwner : CL mX6_readsOwner 0 := ⟨tt_at (i := 804) (by decide +kernel) rfl, ini_RX6, by decide +kernel, by decide +kernel⟩
theorem im_X6_readsOwner : Cond.instanceMethod yX6_readsOwner ∈ TT ∧ Cond.selects RX6 yX6_readsOwner yX6_readsOwner ∈ TT := ⟨tt_at (i := 803) (by decide +kernel) rfl, tt_at (i := 16) (by decide +kernel) rfl⟩
abbrev mX6_number : MD := (yX6_number, cX6_number, 6, some Jvm.ClassFile.FieldType.int)
theorem cl_X6_number : CL mX6_number 3 := ⟨tt_at (i := 808) (by decide +kernel) rfl, ini_RX6, by decide +kernel, by decide +kernel⟩
theorem im_X6_number : Cond.instanceMethod yX6_number ∈ TT ∧ Cond.selects RX6 yX6_number yX6_number ∈ TT := ⟨tt_at (i := 807) (by decide +kernel) rfl, tt_at (i := 17) (by decide +kernel) rfl⟩
abbrev mX6_figures : MD := (yX6_figures, cX6_figures, 4, some Jvm.ClassFile.FieldType.int)
theorem cl_X6_figures : CL mX6_figures 2 := ⟨tt_at (i := 812) (by decide +kernel) rfl, ini_RX6, by decide +kernel, by decide +kernel⟩
theorem im_X6_figures : Cond.instanceMethod yX6_figures ∈ TT ∧ Cond.selects RX6 yX6_figures yX6_figures ∈ TT := ⟨tt_at (i := 811) (by decide +kernel) rfl, tt_at (i := 18) (by decide +kernel) rfl⟩
abbrev mX6_isFigure : MD := (yX6_isFigure, cX6_isFigure, 1, some Jvm.ClassFile.FieldType.boolean)
theorem cl_X6_isFigure : CL mX6_isFigure 1 := ⟨tt_at (i := 815) (by decide +kernel) rfl, ini_RX6, by decide +kernel, by decide +kernel⟩
theorem sm_X6_isFigure : Cond.static yX6_isFigure ∈ TT := tt_at (i := 814) (by decide +kernel) rfl
abbrev mX6_readsRow : MD := (yX6_readsRow, cX6_readsRow, 9, some Jvm.ClassFile.FieldType.boolean)
theorem cl_X6_readsRow : CL mX6_readsRow 0 := ⟨tt_at (i := 819) (by decide +kernel) rfl, ini_RX6, by decide +kernel, by decide +kernel⟩
theorem im_X6_readsRow : Cond.instanceMethod yX6_readsRow ∈ TT ∧ Cond.selects RX6 yX6_readsRow yX6_readsRow ∈ TT := ⟨tt_at (i := 818) (by decide +kernel) rfl, tt_at (i := 19) (by decide +kernel) rfl⟩
abbrev mX6_isTree : MD := (yX6_isTree, cX6_isTree, 5, some Jvm.ClassFile.FieldType.boolean)
theorem cl_X6_isTree : CL mX6_isTree 1 := ⟨tt_at (i := 823) (by decide +kernel) rfl, ini_RX6, by decide +kernel, by decide +kernel⟩
theorem im_X6_isTree : Cond.instanceMethod yX6_isTree ∈ TT ∧ Cond.selects RX6 yX6_isTree yX6_isTree ∈ TT := ⟨tt_at (i := 822) (by decide +kernel) rfl, tt_at (i := 20) (by decide +kernel) rfl⟩
abbrev mX6_isNext : MD := (yX6_isNext, cX6_isNext, 4, some Jvm.ClassFile.FieldType.boolean)
theorem cl_X6_isNext : CL mX6_isNext 3 := ⟨tt_at (i := 826) (by decide +kernel) rfl, ini_RX6, by decide +kernel, by decide +kernel⟩
theorem sm_X6_isNext : Cond.static yX6_isNext ∈ TT := tt_at (i := 825) (by decide +kernel) rfl
abbrev mX6_lay : MD := (yX6_lay, cX6_lay, 1, some Jvm.ClassFile.FieldType.int)
theorem cl_X6_lay : CL mX6_lay 0 := ⟨tt_at (i := 830) (by decide +kernel) rfl, ini_RX6, by decide +kernel, by decide +kernel⟩
theorem im_X6_lay : Cond.instanceMethod yX6_lay ∈ TT ∧ Cond.selects RX6 yX6_lay yX6_lay ∈ TT := ⟨tt_at (i := 828) (by decide +kernel) rfl, tt_at (i := 829) (by decide +kernel) rfl⟩
abbrev mX6_cell : MD := (yX6_cell, cX6_cell, 3, some Jvm.ClassFile.FieldType.int)
theorem cl_X6_cell : CL mX6_cell 2 := ⟨tt_at (i := 834) (by decide +kernel) rfl, ini_RX6, by decide +kernel, by decide +kernel⟩
theorem im_X6_cell : Cond.instanceMethod yX6_cell ∈ TT ∧ Cond.selects RX6 yX6_cell yX6_cell ∈ TT := ⟨tt_at (i := 832) (by decide +kernel) rfl, tt_at (i := 833) (by decide +kernel) rfl⟩
abbrev mX6_isCell : MD := (yX6_isCell, cX6_isCell, 2, some Jvm.ClassFile.FieldType.boolean)
theorem cl_X6_isCell : CL mX6_isCell 1 := ⟨tt_at (i := 838) (by decide +kernel) rfl, ini_RX6, by decide +kernel, by decide +kernel⟩
theorem im_X6_isCell : Cond.instanceMethod yX6_isCell ∈ TT ∧ Cond.selects RX6 yX6_isCell yX6_isCell ∈ TT := ⟨tt_at (i := 837) (by decide +kernel) rfl, tt_at (i := 21) (by decide +kernel) rfl⟩
abbrev mX6_lies : MD := (yX6_lies, cX6_lies, 2, some Jvm.ClassFile.FieldType.int)
theorem cl_X6_lies : CL mX6_lies 1 := ⟨tt_at (i := 842) (by decide +kernel) rfl, ini_RX6, by decide +kernel, by decide +kernel⟩
theorem im_X6_lies : Cond.instanceMethod yX6_lies ∈ TT ∧ Cond.selects RX6 yX6_lies yX6_lies ∈ TT := ⟨tt_at (i := 841) (by decide +kernel) rfl, tt_at (i := 22) (by decide +kernel) rfl⟩
abbrev mX6_treeIn : MD := (yX6_treeIn, cX6_treeIn, 5, some Jvm.ClassFile.FieldType.int)
theorem cl_X6_treeIn : CL mX6_treeIn 1 := ⟨tt_at (i := 846) (by decide +kernel) rfl, ini_RX6, by decide +kernel, by decide +kernel⟩
theorem im_X6_treeIn : Cond.instanceMethod yX6_treeIn ∈ TT ∧ Cond.selects RX6 yX6_treeIn yX6_treeIn ∈ TT := ⟨tt_at (i := 845) (by decide +kernel) rfl, tt_at (i := 23) (by decide +kernel) rfl⟩
abbrev mX6_row : MD := (yX6_row, cX6_row, 3, some Jvm.ClassFile.FieldType.int)
theorem cl_X6_row : CL mX6_row 2 := ⟨tt_at (i := 850) (by decide +kernel) rfl, ini_RX6, by decide +kernel, by decide +kernel⟩
theorem im_X6_row : Cond.instanceMethod yX6_row ∈ TT ∧ Cond.selects RX6 yX6_row yX6_row ∈ TT := ⟨tt_at (i := 848) (by decide +kernel) rfl, tt_at (i := 849) (by decide +kernel) rfl⟩
abbrev mX6_isRow : MD := (yX6_isRow, cX6_isRow, 2, some Jvm.ClassFile.FieldType.boolean)
theorem cl_X6_isRow : CL mX6_isRow 1 := ⟨tt_at (i := 854) (by decide +kernel) rfl, ini_RX6, by decide +kernel, by decide +kernel⟩
theorem im_X6_isRow : Cond.instanceMethod yX6_isRow ∈ TT ∧ Cond.selects RX6 yX6_isRow yX6_isRow ∈ TT := ⟨tt_at (i := 853) (by decide +kernel) rfl, tt_at (i := 24) (by decide +kernel) rfl⟩
abbrev mX6_headsFor : MD := (yX6_headsFor, cX6_headsFor, 7, some Jvm.ClassFile.FieldType.int)
theorem cl_X6_headsFor : CL mX6_headsFor 1 := ⟨tt_at (i := 858) (by decide +kernel) rfl, ini_RX6, by decide +kernel, by decide +kernel⟩
theorem im_X6_headsFor : Cond.instanceMethod yX6_headsFor ∈ TT ∧ Cond.selects RX6 yX6_headsFor yX6_headsFor ∈ TT := ⟨tt_at (i := 857) (by decide +kernel) rfl, tt_at (i := 25) (by decide +kernel) rfl⟩
abbrev mX6_beside : MD := (yX6_beside, cX6_beside, 4, some Jvm.ClassFile.FieldType.int)
theorem cl_X6_beside : CL mX6_beside 2 := ⟨tt_at (i := 862) (by decide +kernel) rfl, ini_RX6, by decide +kernel, by decide +kernel⟩
theorem im_X6_beside : Cond.instanceMethod yX6_beside ∈ TT ∧ Cond.selects RX6 yX6_beside yX6_beside ∈ TT := ⟨tt_at (i := 861) (by decide +kernel) rfl, tt_at (i := 26) (by decide +kernel) rfl⟩
abbrev mX6_isOpen : MD := (yX6_isOpen, cX6_isOpen, 5, some Jvm.ClassFile.FieldType.boolean)
theorem cl_X6_isOpen : CL mX6_isOpen 2 := ⟨tt_at (i := 866) (by decide +kernel) rfl, ini_RX6, by decide +kernel, by decide +kernel⟩
theorem im_X6_isOpen : Cond.instanceMethod yX6_isOpen ∈ TT ∧ Cond.selects RX6 yX6_isOpen yX6_isOpen ∈ TT := ⟨tt_at (i := 865) (by decide +kernel) rfl, tt_at (i := 27) (by decide +kernel) rfl⟩
abbrev mX6_tree : MD := (yX6_tree, cX6_tree, 3, some Jvm.ClassFile.FieldType.int)
theorem cl_X6_tree : CL mX6_tree 2 := ⟨tt_at (i := 870) (by decide +kernel) rfl, ini_RX6, by decide +kernel, by decide +kernel⟩
theorem im_X6_tree : Cond.instanceMethod yX6_tree ∈ TT ∧ Cond.selects RX6 yX6_tree yX6_tree ∈ TT := ⟨tt_at (i := 868) (by decide +kernel) rfl, tt_at (i := 869) (by decide +kernel) rfl⟩
abbrev mX6_has : MD := (yX6_has, cX6_has, 2, some Jvm.ClassFile.FieldType.int)
theorem cl_X6_has : CL mX6_has 1 := ⟨tt_at (i := 874) (by decide +kernel) rfl, ini_RX6, by decide +kernel, by decide +kernel⟩
theorem im_X6_has : Cond.instanceMethod yX6_has ∈ TT ∧ Cond.selects RX6 yX6_has yX6_has ∈ TT := ⟨tt_at (i := 872) (by decide +kernel) rfl, tt_at (i := 873) (by decide +kernel) rfl⟩
abbrev mX6_pass : MD := (yX6_pass, cX6_pass, 3, some Jvm.ClassFile.FieldType.int)
theorem cl_X6_pass : CL mX6_pass 1 := ⟨tt_at (i := 878) (by decide +kernel) rfl, ini_RX6, by decide +kernel, by decide +kernel⟩
theorem im_X6_pass : Cond.instanceMethod yX6_pass ∈ TT ∧ Cond.selects RX6 yX6_pass yX6_pass ∈ TT := ⟨tt_at (i := 876) (by decide +kernel) rfl, tt_at (i := 877) (by decide +kernel) rfl⟩
abbrev mX6_keeps : MD := (yX6_keeps, cX6_keeps, 2, none)
theorem cl_X6_keeps : CL mX6_keeps 0 := ⟨tt_at (i := 882) (by decide +kernel) rfl, ini_RX6, by decide +kernel, by decide +kernel⟩
theorem im_X6_keeps : Cond.instanceMethod yX6_keeps ∈ TT ∧ Cond.selects RX6 yX6_keeps yX6_keeps ∈ TT := ⟨tt_at (i := 881) (by decide +kernel) rfl, tt_at (i := 28) (by decide +kernel) rfl⟩
abbrev mX6_passes : MD := (yX6_passes, cX6_passes, 6, none)
theorem cl_X6_passes : CL mX6_passes 1 := ⟨tt_at (i := 886) (by decide +kernel) rfl, ini_RX6, by decide +kernel, by decide +kernel⟩
theorem im_X6_passes : Cond.instanceMethod yX6_passes ∈ TT ∧ Cond.selects RX6 yX6_passes yX6_passes ∈ TT := ⟨tt_at (i := 885) (by decide +kernel) rfl, tt_at (i := 29) (by decide +kernel) rfl⟩
abbrev mX6_hasMate : MD := (yX6_hasMate, cX6_hasMate, 6, some Jvm.ClassFile.FieldType.boolean)
theorem cl_X6_hasMate : CL mX6_hasMate 2 := ⟨tt_at (i := 890) (by decide +kernel) rfl, ini_RX6, by decide +kernel, by decide +kernel⟩
theorem im_X6_hasMate : Cond.instanceMethod yX6_hasMate ∈ TT ∧ Cond.selects RX6 yX6_hasMate yX6_hasMate ∈ TT := ⟨tt_at (i := 889) (by decide +kernel) rfl, tt_at (i := 30) (by decide +kernel) rfl⟩
abbrev mX6_dig : MD := (yX6_dig, cX6_dig, 2, some Jvm.ClassFile.FieldType.int)
theorem cl_X6_dig : CL mX6_dig 1 := ⟨tt_at (i := 894) (by decide +kernel) rfl, ini_RX6, by decide +kernel, by decide +kernel⟩
theorem im_X6_dig : Cond.instanceMethod yX6_dig ∈ TT ∧ Cond.selects RX6 yX6_dig yX6_dig ∈ TT := ⟨tt_at (i := 892) (by decide +kernel) rfl, tt_at (i := 893) (by decide +kernel) rfl⟩
abbrev mX6_mayDig : MD := (yX6_mayDig, cX6_mayDig, 2, some Jvm.ClassFile.FieldType.boolean)
theorem cl_X6_mayDig : CL mX6_mayDig 1 := ⟨tt_at (i := 898) (by decide +kernel) rfl, ini_RX6, by decide +kernel, by decide +kernel⟩
theorem im_X6_mayDig : Cond.instanceMethod yX6_mayDig ∈ TT ∧ Cond.selects RX6 yX6_mayDig yX6_mayDig ∈ TT := ⟨tt_at (i := 897) (by decide +kernel) rfl, tt_at (i := 31) (by decide +kernel) rfl⟩
abbrev mX6_countOf : MD := (yX6_countOf, cX6_countOf, 4, some Jvm.ClassFile.FieldType.int)
theorem cl_X6_countOf : CL mX6_countOf 1 := ⟨tt_at (i := 902) (by decide +kernel) rfl, ini_RX6, by decide +kernel, by decide +kernel⟩
theorem im_X6_countOf : Cond.instanceMethod yX6_countOf ∈ TT ∧ Cond.selects RX6 yX6_countOf yX6_countOf ∈ TT := ⟨tt_at (i := 901) (by decide +kernel) rfl, tt_at (i := 32) (by decide +kernel) rfl⟩
abbrev mX6_fill : MD := (yX6_fill, cX6_fill, 2, some Jvm.ClassFile.FieldType.int)
theorem cl_X6_fill : CL mX6_fill 1 := ⟨tt_at (i := 906) (by decide +kernel) rfl, ini_RX6, by decide +kernel, by decide +kernel⟩
theorem im_X6_fill : Cond.instanceMethod yX6_fill ∈ TT ∧ Cond.selects RX6 yX6_fill yX6_fill ∈ TT := ⟨tt_at (i := 904) (by decide +kernel) rfl, tt_at (i := 905) (by decide +kernel) rfl⟩
abbrev mX6_leave : MD := (yX6_leave, cX6_leave, 2, some Jvm.ClassFile.FieldType.int)
theorem cl_X6_leave : CL mX6_leave 1 := ⟨tt_at (i := 910) (by decide +kernel) rfl, ini_RX6, by decide +kernel, by decide +kernel⟩
theorem im_X6_leave : Cond.instanceMethod yX6_leave ∈ TT ∧ Cond.selects RX6 yX6_leave yX6_leave ∈ TT := ⟨tt_at (i := 908) (by decide +kernel) rfl, tt_at (i := 909) (by decide +kernel) rfl⟩
abbrev mX6_leaves : MD := (yX6_leaves, cX6_leaves, 3, some Jvm.ClassFile.FieldType.int)
theorem cl_X6_leaves : CL mX6_leaves 1 := ⟨tt_at (i := 914) (by decide +kernel) rfl, ini_RX6, by decide +kernel, by decide +kernel⟩
theorem im_X6_leaves : Cond.instanceMethod yX6_leaves ∈ TT ∧ Cond.selects RX6 yX6_leaves yX6_leaves ∈ TT := ⟨tt_at (i := 913) (by decide +kernel) rfl, tt_at (i := 33) (by decide +kernel) rfl⟩
abbrev mX6_undo : MD := (yX6_undo, cX6_undo, 2, some Jvm.ClassFile.FieldType.int)
theorem cl_X6_undo : CL mX6_undo 0 := ⟨tt_at (i := 918) (by decide +kernel) rfl, ini_RX6, by decide +kernel, by decide +kernel⟩
theorem im_X6_undo : Cond.instanceMethod yX6_undo ∈ TT ∧ Cond.selects RX6 yX6_undo yX6_undo ∈ TT := ⟨tt_at (i := 916) (by decide +kernel) rfl, tt_at (i := 917) (by decide +kernel) rfl⟩
abbrev mX6_behind : MD := (yX6_behind, cX6_behind, 3, some Jvm.ClassFile.FieldType.int)
theorem cl_X6_behind : CL mX6_behind 2 := ⟨tt_at (i := 922) (by decide +kernel) rfl, ini_RX6, by decide +kernel, by decide +kernel⟩
theorem im_X6_behind : Cond.instanceMethod yX6_behind ∈ TT ∧ Cond.selects RX6 yX6_behind yX6_behind ∈ TT := ⟨tt_at (i := 920) (by decide +kernel) rfl, tt_at (i := 921) (by decide +kernel) rfl⟩
abbrev mX6_behindOf : MD := (yX6_behindOf, cX6_behindOf, 4, some Jvm.ClassFile.FieldType.int)
theorem cl_X6_behindOf : CL mX6_behindOf 2 := ⟨tt_at (i := 926) (by decide +kernel) rfl, ini_RX6, by decide +kernel, by decide +kernel⟩
theorem im_X6_behindOf : Cond.instanceMethod yX6_behindOf ∈ TT ∧ Cond.selects RX6 yX6_behindOf yX6_behindOf ∈ TT := ⟨tt_at (i := 925) (by decide +kernel) rfl, tt_at (i := 34) (by decide +kernel) rfl⟩
abbrev mX6_holds : MD := (yX6_holds, cX6_holds, 2, none)
theorem cl_X6_holds : CL mX6_holds 0 := ⟨tt_at (i := 930) (by decide +kernel) rfl, ini_RX6, by decide +kernel, by decide +kernel⟩
theorem im_X6_holds : Cond.instanceMethod yX6_holds ∈ TT ∧ Cond.selects RX6 yX6_holds yX6_holds ∈ TT := ⟨tt_at (i := 929) (by decide +kernel) rfl, tt_at (i := 35) (by decide +kernel) rfl⟩
abbrev mX6_lets : MD := (yX6_lets, cX6_lets, 2, none)
theorem cl_X6_lets : CL mX6_lets 0 := ⟨tt_at (i := 934) (by decide +kernel) rfl, ini_RX6, by decide +kernel, by decide +kernel⟩
theorem im_X6_lets : Cond.instanceMethod yX6_lets ∈ TT ∧ Cond.selects RX6 yX6_lets yX6_lets ∈ TT := ⟨tt_at (i := 933) (by decide +kernel) rfl, tt_at (i := 36) (by decide +kernel) rfl⟩
abbrev mX6_wealth : MD := (yX6_wealth, cX6_wealth, 3, some Jvm.ClassFile.FieldType.int)
theorem cl_X6_wealth : CL mX6_wealth 2 := ⟨tt_at (i := 938) (by decide +kernel) rfl, ini_RX6, by decide +kernel, by decide +kernel⟩
theorem im_X6_wealth : Cond.instanceMethod yX6_wealth ∈ TT ∧ Cond.selects RX6 yX6_wealth yX6_wealth ∈ TT := ⟨tt_at (i := 936) (by decide +kernel) rfl, tt_at (i := 937) (by decide +kernel) rfl⟩
abbrev mX6_comes : MD := (yX6_comes, cX6_comes, 4, some Jvm.ClassFile.FieldType.int)
theorem cl_X6_comes : CL mX6_comes 2 := ⟨tt_at (i := 942) (by decide +kernel) rfl, ini_RX6, by decide +kernel, by decide +kernel⟩
theorem im_X6_comes : Cond.instanceMethod yX6_comes ∈ TT ∧ Cond.selects RX6 yX6_comes yX6_comes ∈ TT := ⟨tt_at (i := 940) (by decide +kernel) rfl, tt_at (i := 941) (by decide +kernel) rfl⟩
abbrev mX6_meet : MD := (yX6_meet, cX6_meet, 4, some Jvm.ClassFile.FieldType.int)
theorem cl_X6_meet : CL mX6_meet 2 := ⟨tt_at (i := 946) (by decide +kernel) rfl, ini_RX6, by decide +kernel, by decide +kernel⟩
theorem im_X6_meet : Cond.instanceMethod yX6_meet ∈ TT ∧ Cond.selects RX6 yX6_meet yX6_meet ∈ TT := ⟨tt_at (i := 944) (by decide +kernel) rfl, tt_at (i := 945) (by decide +kernel) rfl⟩
abbrev mX6_areBeside : MD := (yX6_areBeside, cX6_areBeside, 7, some Jvm.ClassFile.FieldType.boolean)
theorem cl_X6_areBeside : CL mX6_areBeside 2 := ⟨tt_at (i := 950) (by decide +kernel) rfl, ini_RX6, by decide +kernel, by decide +kernel⟩
theorem im_X6_areBeside : Cond.instanceMethod yX6_areBeside ∈ TT ∧ Cond.selects RX6 yX6_areBeside yX6_areBeside ∈ TT := ⟨tt_at (i := 949) (by decide +kernel) rfl, tt_at (i := 37) (by decide +kernel) rfl⟩
abbrev mX6_again : MD := (yX6_again, cX6_again, 2, some Jvm.ClassFile.FieldType.int)
theorem cl_X6_again : CL mX6_again 0 := ⟨tt_at (i := 954) (by decide +kernel) rfl, ini_RX6, by decide +kernel, by decide +kernel⟩
theorem im_X6_again : Cond.instanceMethod yX6_again ∈ TT ∧ Cond.selects RX6 yX6_again yX6_again ∈ TT := ⟨tt_at (i := 952) (by decide +kernel) rfl, tt_at (i := 953) (by decide +kernel) rfl⟩
abbrev mX6_isAgain : MD := (yX6_isAgain, cX6_isAgain, 5, some Jvm.ClassFile.FieldType.boolean)
theorem cl_X6_isAgain : CL mX6_isAgain 0 := ⟨tt_at (i := 958) (by decide +kernel) rfl, ini_RX6, by decide +kernel, by decide +kernel⟩
theorem im_X6_isAgain : Cond.instanceMethod yX6_isAgain ∈ TT ∧ Cond.selects RX6 yX6_isAgain yX6_isAgain ∈ TT := ⟨tt_at (i := 957) (by decide +kernel) rfl, tt_at (i := 38) (by decide +kernel) rfl⟩
abbrev mX6_ditches : MD := (yX6_ditches, cX6_ditches, 7, some Jvm.ClassFile.FieldType.int)
theorem cl_X6_ditches : CL mX6_ditches 4 := ⟨tt_at (i := 962) (by decide +kernel) rfl, ini_RX6, by decide +kernel, by decide +kernel⟩
theorem im_X6_ditches : Cond.instanceMethod yX6_ditches ∈ TT ∧ Cond.selects RX6 yX6_ditches yX6_ditches ∈ TT := ⟨tt_at (i := 960) (by decide +kernel) rfl, tt_at (i := 961) (by decide +kernel) rfl⟩
abbrev mX6_brings : MD := (yX6_brings, cX6_brings, 7, some Jvm.ClassFile.FieldType.boolean)
theorem cl_X6_brings : CL mX6_brings 5 := ⟨tt_at (i := 966) (by decide +kernel) rfl, ini_RX6, by decide +kernel, by decide +kernel⟩
theorem im_X6_brings : Cond.instanceMethod yX6_brings ∈ TT ∧ Cond.selects RX6 yX6_brings yX6_brings ∈ TT := ⟨tt_at (i := 965) (by decide +kernel) rfl, tt_at (i := 39) (by decide +kernel) rfl⟩
abbrev mX6_best : MD := (yX6_best, cX6_best, 8, some Jvm.ClassFile.FieldType.int)
theorem cl_X6_best : CL mX6_best 3 := ⟨tt_at (i := 970) (by decide +kernel) rfl, ini_RX6, by decide +kernel, by decide +kernel⟩
theorem im_X6_best : Cond.instanceMethod yX6_best ∈ TT ∧ Cond.selects RX6 yX6_best yX6_best ∈ TT := ⟨tt_at (i := 968) (by decide +kernel) rfl, tt_at (i := 969) (by decide +kernel) rfl⟩
abbrev mX6_see : MD := (yX6_see, cX6_see, 4, some Jvm.ClassFile.FieldType.int)
theorem cl_X6_see : CL mX6_see 3 := ⟨tt_at (i := 974) (by decide +kernel) rfl, ini_RX6, by decide +kernel, by decide +kernel⟩
theorem im_X6_see : Cond.instanceMethod yX6_see ∈ TT ∧ Cond.selects RX6 yX6_see yX6_see ∈ TT := ⟨tt_at (i := 972) (by decide +kernel) rfl, tt_at (i := 973) (by decide +kernel) rfl⟩
abbrev mX6_forget : MD := (yX6_forget, cX6_forget, 2, some Jvm.ClassFile.FieldType.int)
theorem cl_X6_forget : CL mX6_forget 0 := ⟨tt_at (i := 978) (by decide +kernel) rfl, ini_RX6, by decide +kernel, by decide +kernel⟩
theorem im_X6_forget : Cond.instanceMethod yX6_forget ∈ TT ∧ Cond.selects RX6 yX6_forget yX6_forget ∈ TT := ⟨tt_at (i := 976) (by decide +kernel) rfl, tt_at (i := 977) (by decide +kernel) rfl⟩
abbrev mX6_fits : MD := (yX6_fits, cX6_fits, 7, some Jvm.ClassFile.FieldType.int)
theorem cl_X6_fits : CL mX6_fits 2 := ⟨tt_at (i := 982) (by decide +kernel) rfl, ini_RX6, by decide +kernel, by decide +kernel⟩
theorem im_X6_fits : Cond.instanceMethod yX6_fits ∈ TT ∧ Cond.selects RX6 yX6_fits yX6_fits ∈ TT := ⟨tt_at (i := 980) (by decide +kernel) rfl, tt_at (i := 981) (by decide +kernel) rfl⟩
abbrev mX6_isSo : MD := (yX6_isSo, cX6_isSo, 4, some Jvm.ClassFile.FieldType.boolean)
theorem cl_X6_isSo : CL mX6_isSo 1 := ⟨tt_at (i := 986) (by decide +kernel) rfl, ini_RX6, by decide +kernel, by decide +kernel⟩
theorem im_X6_isSo : Cond.instanceMethod yX6_isSo ∈ TT ∧ Cond.selects RX6 yX6_isSo yX6_isSo ∈ TT := ⟨tt_at (i := 985) (by decide +kernel) rfl, tt_at (i := 40) (by decide +kernel) rfl⟩
abbrev mX6_frost : MD := (yX6_frost, cX6_frost, 12, some Jvm.ClassFile.FieldType.int)
theorem cl_X6_frost : CL mX6_frost 5 := ⟨tt_at (i := 990) (by decide +kernel) rfl, ini_RX6, by decide +kernel, by decide +kernel⟩
theorem im_X6_frost : Cond.instanceMethod yX6_frost ∈ TT ∧ Cond.selects RX6 yX6_frost yX6_frost ∈ TT := ⟨tt_at (i := 988) (by decide +kernel) rfl, tt_at (i := 989) (by decide +kernel) rfl⟩
abbrev mX6_century : MD := (yX6_century, cX6_century, 7, some Jvm.ClassFile.FieldType.int)
theorem cl_X6_century : CL mX6_century 3 := ⟨tt_at (i := 994) (by decide +kernel) rfl, ini_RX6, by decide +kernel, by decide +kernel⟩
theorem im_X6_century : Cond.instanceMethod yX6_century ∈ TT ∧ Cond.selects RX6 yX6_century yX6_century ∈ TT := ⟨tt_at (i := 992) (by decide +kernel) rfl, tt_at (i := 993) (by decide +kernel) rfl⟩
abbrev mX6_turn : MD := (yX6_turn, cX6_turn, 5, none)
theorem cl_X6_turn : CL mX6_turn 1 := ⟨tt_at (i := 1001) (by decide +kernel) rfl, ini_RX6, by decide +kernel, by decide +kernel⟩
theorem im_X6_turn : Cond.instanceMethod yX6_turn ∈ TT ∧ Cond.selects RX6 yX6_turn yX6_turn ∈ TT := ⟨tt_at (i := 1000) (by decide +kernel) rfl, tt_at (i := 41) (by decide +kernel) rfl⟩
abbrev mX6_allHave : MD := (yX6_allHave, cX6_allHave, 1, some Jvm.ClassFile.FieldType.int)
theorem cl_X6_allHave : CL mX6_allHave 0 := ⟨tt_at (i := 1005) (by decide +kernel) rfl, ini_RX6, by decide +kernel, by decide +kernel⟩
theorem im_X6_allHave : Cond.instanceMethod yX6_allHave ∈ TT ∧ Cond.selects RX6 yX6_allHave yX6_allHave ∈ TT := ⟨tt_at (i := 1004) (by decide +kernel) rfl, tt_at (i := 42) (by decide +kernel) rfl⟩
abbrev mX6_keep : MD := (yX6_keep, cX6_keep, 2, some Jvm.ClassFile.FieldType.int)
theorem cl_X6_keep : CL mX6_keep 0 := ⟨tt_at (i := 1009) (by decide +kernel) rfl, ini_RX6, by decide +kernel, by decide +kernel⟩
theorem im_X6_keep : Cond.instanceMethod yX6_keep ∈ TT ∧ Cond.selects RX6 yX6_keep yX6_keep ∈ TT := ⟨tt_at (i := 1007) (by decide +kernel) rfl, tt_at (i := 1008) (by decide +kernel) rfl⟩
abbrev mX6_back : MD := (yX6_back, cX6_back, 2, some Jvm.ClassFile.FieldType.int)
theorem cl_X6_back : CL mX6_back 0 := ⟨tt_at (i := 1013) (by decide +kernel) rfl, ini_RX6, by decide +kernel, by decide +kernel⟩
theorem im_X6_back : Cond.instanceMethod yX6_back ∈ TT ∧ Cond.selects RX6 yX6_back yX6_back ∈ TT := ⟨tt_at (i := 1011) (by decide +kernel) rfl, tt_at (i := 1012) (by decide +kernel) rfl⟩
abbrev mX6_count : MD := (yX6_count, cX6_count, 2, some Jvm.ClassFile.FieldType.int)
theorem cl_X6_count : CL mX6_count 1 := ⟨tt_at (i := 1017) (by decide +kernel) rfl, ini_RX6, by decide +kernel, by decide +kernel⟩
theorem im_X6_count : Cond.instanceMethod yX6_count ∈ TT ∧ Cond.selects RX6 yX6_count yX6_count ∈ TT := ⟨tt_at (i := 1015) (by decide +kernel) rfl, tt_at (i := 1016) (by decide +kernel) rfl⟩
theorem kc_RL_7 : Cond.classLink RL 7 RX5 ∈ TT := tt_at (i := 57) (by decide +kernel) rfl
theorem it_RX5 : Cond.instantiable RX5 14 ∈ TT := tt_at (i := 58) (by decide +kernel) rfl
theorem ml_RL_9 : Cond.methodLink RL 9 yX5_init ∈ TT := tt_at (i := 59) (by decide +kernel) rfl
theorem oi_RX5_1 : Cond.methodLink RX5 1 objectInit ∈ TT ∧ Cond.instanceMethod objectInit ∈ TT ∧ Cond.code objectInit ⟨#[0xb1]⟩ 1 none ∈ TT := ⟨tt_at (i := 62) (by decide +kernel) rfl, tt_at (i := 63) (by decide +kernel) rfl, tt_at (i := 64) (by decide +kernel) rfl⟩
theorem kc_RX5_13 : Cond.classLink RX5 13 RX0 ∈ TT := tt_at (i := 65) (by decide +kernel) rfl
theorem it_RX0 : Cond.instantiable RX0 6 ∈ TT := tt_at (i := 66) (by decide +kernel) rfl
theorem oi_RX0_3 : Cond.methodLink RX0 3 objectInit ∈ TT ∧ Cond.instanceMethod objectInit ∈ TT ∧ Cond.code objectInit ⟨#[0xb1]⟩ 1 none ∈ TT := ⟨tt_at (i := 70) (by decide +kernel) rfl, tt_at (i := 63) (by decide +kernel) rfl, tt_at (i := 64) (by decide +kernel) rfl⟩
theorem ac_char : Cond.arrayClass .char ∈ TT := tt_at (i := 100) (by decide +kernel) rfl
theorem ac_int : Cond.arrayClass .int ∈ TT := tt_at (i := 101) (by decide +kernel) rfl
theorem kc_RX5_20 : Cond.classLink RX5 20 RX1 ∈ TT := tt_at (i := 102) (by decide +kernel) rfl
theorem it_RX1 : Cond.instantiable RX1 9 ∈ TT := tt_at (i := 103) (by decide +kernel) rfl
theorem ml_RX5_22 : Cond.methodLink RX5 22 yX1_init ∈ TT := tt_at (i := 104) (by decide +kernel) rfl
theorem oi_RX1_3 : Cond.methodLink RX1 3 objectInit ∈ TT ∧ Cond.instanceMethod objectInit ∈ TT ∧ Cond.code objectInit ⟨#[0xb1]⟩ 1 none ∈ TT := ⟨tt_at (i := 107) (by decide +kernel) rfl, tt_at (i := 63) (by decide +kernel) rfl, tt_at (i := 64) (by decide +kernel) rfl⟩
theorem kc_RX1_9 : Cond.classLink RX1 9 RX4 ∈ TT := tt_at (i := 108) (by decide +kernel) rfl
theorem it_RX4 : Cond.instantiable RX4 5 ∈ TT := tt_at (i := 110) (by decide +kernel) rfl
theorem oi_RX4_3 : Cond.methodLink RX4 3 objectInit ∈ TT ∧ Cond.instanceMethod objectInit ∈ TT ∧ Cond.code objectInit ⟨#[0xb1]⟩ 1 none ∈ TT := ⟨tt_at (i := 114) (by decide +kernel) rfl, tt_at (i := 63) (by decide +kernel) rfl, tt_at (i := 64) (by decide +kernel) rfl⟩
theorem kc_RX5_32 : Cond.classLink RX5 32 RX3 ∈ TT := tt_at (i := 183) (by decide +kernel) rfl
theorem it_RX3 : Cond.instantiable RX3 7 ∈ TT := tt_at (i := 184) (by decide +kernel) rfl
theorem oi_RX3_3 : Cond.methodLink RX3 3 objectInit ∈ TT ∧ Cond.instanceMethod objectInit ∈ TT ∧ Cond.code objectInit ⟨#[0xb1]⟩ 1 none ∈ TT := ⟨tt_at (i := 188) (by decide +kernel) rfl, tt_at (i := 63) (by decide +kernel) rfl, tt_at (i := 64) (by decide +kernel) rfl⟩
theorem kc_RX3_9 : Cond.classLink RX3 9 RX0 ∈ TT := tt_at (i := 189) (by decide +kernel) rfl
theorem kc_RX3_18 : Cond.classLink RX3 18 RX1 ∈ TT := tt_at (i := 191) (by decide +kernel) rfl
theorem ml_RX3_20 : Cond.methodLink RX3 20 yX1_init ∈ TT := tt_at (i := 192) (by decide +kernel) rfl
theorem kc_RX5_39 : Cond.classLink RX5 39 RX2 ∈ TT := tt_at (i := 217) (by decide +kernel) rfl
theorem it_RX2 : Cond.instantiable RX2 2 ∈ TT := tt_at (i := 218) (by decide +kernel) rfl
theorem ml_RX5_41 : Cond.methodLink RX5 41 yX2_init ∈ TT := tt_at (i := 219) (by decide +kernel) rfl
theorem oi_RX2_1 : Cond.methodLink RX2 1 objectInit ∈ TT ∧ Cond.instanceMethod objectInit ∈ TT ∧ Cond.code objectInit ⟨#[0xb1]⟩ 1 none ∈ TT := ⟨tt_at (i := 222) (by decide +kernel) rfl, tt_at (i := 63) (by decide +kernel) rfl, tt_at (i := 64) (by decide +kernel) rfl⟩
theorem kc_RX2_7 : Cond.classLink RX2 7 RX1 ∈ TT := tt_at (i := 223) (by decide +kernel) rfl
theorem ml_RX2_15 : Cond.methodLink RX2 15 yX1_init ∈ TT := tt_at (i := 225) (by decide +kernel) rfl
theorem ml_RX5_70 : Cond.methodLink RX5 70 yJ0_toCharArray_70df3 ∈ TT := tt_at (i := 235) (by decide +kernel) rfl
theorem ml_RJ0_492 : Cond.methodLink RJ0 492 yJ0_isLatin1_aae02 ∈ TT := tt_at (i := 239) (by decide +kernel) rfl
theorem ml_RJ0_299 : Cond.methodLink RJ0 299 yJ1_toChars_9d188 ∈ TT := tt_at (i := 245) (by decide +kernel) rfl
theorem ml_RJ1_13 : Cond.methodLink RJ1 13 yJ1_inflate_03870 ∈ TT := tt_at (i := 248) (by decide +kernel) rfl
theorem ml_RJ0_303 : Cond.methodLink RJ0 303 yJ2_toChars_9d188 ∈ TT := tt_at (i := 251) (by decide +kernel) rfl
theorem ml_RJ2_103 : Cond.methodLink RJ2 103 yJ2_getChars_a1a8b ∈ TT := tt_at (i := 254) (by decide +kernel) rfl
theorem ml_RJ2_173 : Cond.methodLink RJ2 173 yJ2_checkBoundsOffCount_d044e ∈ TT := tt_at (i := 257) (by decide +kernel) rfl
theorem ml_RJ2_48 : Cond.methodLink RJ2 48 yJ2_length_9d52b ∈ TT := tt_at (i := 260) (by decide +kernel) rfl
theorem ml_RJ2_419 : Cond.methodLink RJ2 419 yJ0_checkBoundsOffCount_cabcc ∈ TT := tt_at (i := 263) (by decide +kernel) rfl
theorem ml_RJ0_1065 : Cond.methodLink RJ0 1065 yJ3_checkFromIndexSize_8c36e ∈ TT := tt_at (i := 268) (by decide +kernel) rfl
theorem ml_RJ2_71 : Cond.methodLink RJ2 71 yJ2_getChar_3b067 ∈ TT := tt_at (i := 271) (by decide +kernel) rfl
theorem ml_RX5_76 : Cond.methodLink RX5 76 yX3_readText ∈ TT := tt_at (i := 280) (by decide +kernel) rfl
theorem ml_RX3_35 : Cond.methodLink RX3 35 yJ9_min_7cf53 ∈ TT := tt_at (i := 284) (by decide +kernel) rfl
theorem ml_RX3_48 : Cond.methodLink RX3 48 yX0_clear ∈ TT := tt_at (i := 287) (by decide +kernel) rfl
theorem ml_RX3_51 : Cond.methodLink RX3 51 yX1_clear ∈ TT := tt_at (i := 291) (by decide +kernel) rfl
theorem ml_RX3_52 : Cond.methodLink RX3 52 yX3_readItem ∈ TT := tt_at (i := 295) (by decide +kernel) rfl
theorem ml_RX3_56 : Cond.methodLink RX3 56 yX3_nextLetter ∈ TT := tt_at (i := 299) (by decide +kernel) rfl
theorem ml_RX3_60 : Cond.methodLink RX3 60 yX3_readLine ∈ TT := tt_at (i := 303) (by decide +kernel) rfl
theorem ml_RX3_78 : Cond.methodLink RX3 78 yX3_tellGround ∈ TT := tt_at (i := 307) (by decide +kernel) rfl
theorem ml_RX3_63 : Cond.methodLink RX3 63 yX3_readNumbers ∈ TT := tt_at (i := 314) (by decide +kernel) rfl
theorem ml_RX3_99 : Cond.methodLink RX3 99 yX3_readNumber ∈ TT := tt_at (i := 318) (by decide +kernel) rfl
theorem ml_RX3_103 : Cond.methodLink RX3 103 yX3_isFigureNext ∈ TT := tt_at (i := 322) (by decide +kernel) rfl
theorem ml_RX3_66 : Cond.methodLink RX3 66 yX3_giveCells ∈ TT := tt_at (i := 326) (by decide +kernel) rfl
theorem ml_RX3_106 : Cond.methodLink RX3 106 yX0_holds ∈ TT := tt_at (i := 330) (by decide +kernel) rfl
theorem ml_RX3_69 : Cond.methodLink RX3 69 yX3_plantRow ∈ TT := tt_at (i := 334) (by decide +kernel) rfl
theorem ml_RX3_134 : Cond.methodLink RX3 134 yX3_plantTree ∈ TT := tt_at (i := 338) (by decide +kernel) rfl
theorem kl_RX3_141 : Cond.constantLong RX3 141 (-1) ∈ TT := tt_at (i := 342) (by decide +kernel) rfl
theorem ml_RX3_147 : Cond.methodLink RX3 147 yX4_treeAt ∈ TT := tt_at (i := 346) (by decide +kernel) rfl
theorem ml_RX3_151 : Cond.methodLink RX3 151 yX0_isBesideOne ∈ TT := tt_at (i := 350) (by decide +kernel) rfl
theorem ml_RX0_36 : Cond.methodLink RX0 36 yX0_nextBy ∈ TT := tt_at (i := 354) (by decide +kernel) rfl
theorem ml_RX3_155 : Cond.methodLink RX3 155 yX4_plant ∈ TT := tt_at (i := 359) (by decide +kernel) rfl
theorem ml_RX5_81 : Cond.methodLink RX5 81 yX0_copyFrom ∈ TT := tt_at (i := 363) (by decide +kernel) rfl
theorem ml_RX5_87 : Cond.methodLink RX5 87 yX1_copyFrom ∈ TT := tt_at (i := 367) (by decide +kernel) rfl
theorem ml_RX1_46 : Cond.methodLink RX1 46 yX4_copyFrom ∈ TT := tt_at (i := 371) (by decide +kernel) rfl
theorem ac_long : Cond.arrayClass .long ∈ TT := tt_at (i := 418) (by decide +kernel) rfl
theorem ac_byte : Cond.arrayClass .byte ∈ TT := tt_at (i := 419) (by decide +kernel) rfl
theorem ml_RL_13 : Cond.methodLink RL 13 yX5_write ∈ TT := tt_at (i := 420) (by decide +kernel) rfl
theorem ml_RL_18 : Cond.methodLink RL 18 yX5_wipe ∈ TT := tt_at (i := 424) (by decide +kernel) rfl
theorem ml_RL_23 : Cond.methodLink RL 23 yX5_fault ∈ TT := tt_at (i := 428) (by decide +kernel) rfl
theorem ml_RL_27 : Cond.methodLink RL 27 yX5_lay ∈ TT := tt_at (i := 432) (by decide +kernel) rfl
theorem ml_RX5_100 : Cond.methodLink RX5 100 yX2_clear ∈ TT := tt_at (i := 436) (by decide +kernel) rfl
theorem ml_RL_31 : Cond.methodLink RL 31 yX5_cell ∈ TT := tt_at (i := 440) (by decide +kernel) rfl
theorem ml_RX5_103 : Cond.methodLink RX5 103 yX0_holds ∈ TT := tt_at (i := 444) (by decide +kernel) rfl
theorem ml_RX5_107 : Cond.methodLink RX5 107 yX0_groundOf ∈ TT := tt_at (i := 445) (by decide +kernel) rfl
theorem ml_RX5_111 : Cond.methodLink RX5 111 yX0_ownerOf ∈ TT := tt_at (i := 449) (by decide +kernel) rfl
theorem ml_RX5_118 : Cond.methodLink RX5 118 yX5_contains ∈ TT := tt_at (i := 453) (by decide +kernel) rfl
theorem ml_RX5_122 : Cond.methodLink RX5 122 yX1_standsIn ∈ TT := tt_at (i := 454) (by decide +kernel) rfl
theorem ml_RX1_54 : Cond.methodLink RX1 54 yX4_cells ∈ TT := tt_at (i := 459) (by decide +kernel) rfl
theorem ml_RL_36 : Cond.methodLink RL 36 yX5_row ∈ TT := tt_at (i := 464) (by decide +kernel) rfl
theorem ml_RX5_125 : Cond.methodLink RX5 125 yX1_holds ∈ TT := tt_at (i := 468) (by decide +kernel) rfl
theorem ml_RX5_144 : Cond.methodLink RX5 144 yX4_first ∈ TT := tt_at (i := 472) (by decide +kernel) rfl
theorem ml_RX5_148 : Cond.methodLink RX5 148 yX1_wayOf ∈ TT := tt_at (i := 476) (by decide +kernel) rfl
theorem kl_RX1_63 : Cond.constantLong RX1 63 (-1) ∈ TT := tt_at (i := 480) (by decide +kernel) rfl
theorem ml_RX1_92 : Cond.methodLink RX1 92 yX4_first ∈ TT := tt_at (i := 481) (by decide +kernel) rfl
theorem ml_RX1_96 : Cond.methodLink RX1 96 yX0_nextBy ∈ TT := tt_at (i := 482) (by decide +kernel) rfl
theorem ml_RX5_152 : Cond.methodLink RX5 152 yX0_nextBy ∈ TT := tt_at (i := 483) (by decide +kernel) rfl
theorem ml_RL_40 : Cond.methodLink RL 40 yX5_tree ∈ TT := tt_at (i := 484) (by decide +kernel) rfl
theorem ml_RX5_156 : Cond.methodLink RX5 156 yX4_treeAt ∈ TT := tt_at (i := 488) (by decide +kernel) rfl
theorem ml_RL_44 : Cond.methodLink RL 44 yX5_has ∈ TT := tt_at (i := 489) (by decide +kernel) rfl
theorem ml_RX5_159 : Cond.methodLink RX5 159 yX5_isOwner ∈ TT := tt_at (i := 493) (by decide +kernel) rfl
theorem ml_RL_48 : Cond.methodLink RL 48 yX5_pass ∈ TT := tt_at (i := 496) (by decide +kernel) rfl
theorem ml_RX5_165 : Cond.methodLink RX5 165 yX5_isWithin ∈ TT := tt_at (i := 500) (by decide +kernel) rfl
theorem ml_RX5_169 : Cond.methodLink RX5 169 yX2_push ∈ TT := tt_at (i := 503) (by decide +kernel) rfl
theorem ml_RX2_22 : Cond.methodLink RX2 22 yX2_dropOldest ∈ TT := tt_at (i := 507) (by decide +kernel) rfl
theorem ml_RX2_25 : Cond.methodLink RX2 25 yX1_copyFrom ∈ TT := tt_at (i := 511) (by decide +kernel) rfl
theorem ml_RX5_172 : Cond.methodLink RX5 172 yX1_passYears ∈ TT := tt_at (i := 512) (by decide +kernel) rfl
theorem ml_RX1_114 : Cond.methodLink RX1 114 yX1_goYear ∈ TT := tt_at (i := 516) (by decide +kernel) rfl
theorem ml_RX1_111 : Cond.methodLink RX1 111 yX1_goRow ∈ TT := tt_at (i := 520) (by decide +kernel) rfl
theorem ml_RX1_100 : Cond.methodLink RX1 100 yX1_wayOf ∈ TT := tt_at (i := 524) (by decide +kernel) rfl
theorem ml_RX1_76 : Cond.methodLink RX1 76 yX4_treeAt ∈ TT := tt_at (i := 525) (by decide +kernel) rfl
theorem ml_RX1_107 : Cond.methodLink RX1 107 yX1_give ∈ TT := tt_at (i := 527) (by decide +kernel) rfl
theorem ml_RX1_128 : Cond.methodLink RX1 128 yX0_ownerOf ∈ TT := tt_at (i := 531) (by decide +kernel) rfl
theorem ml_RX1_118 : Cond.methodLink RX1 118 yX1_bearRow ∈ TT := tt_at (i := 532) (by decide +kernel) rfl
theorem ml_RX1_124 : Cond.methodLink RX1 124 yX0_isBesideOne ∈ TT := tt_at (i := 536) (by decide +kernel) rfl
theorem ml_RL_52 : Cond.methodLink RL 52 yX5_dig ∈ TT := tt_at (i := 537) (by decide +kernel) rfl
theorem ml_RX5_179 : Cond.methodLink RX5 179 yX1_canDig ∈ TT := tt_at (i := 541) (by decide +kernel) rfl
theorem ml_RX5_182 : Cond.methodLink RX5 182 yX1_digIn ∈ TT := tt_at (i := 545) (by decide +kernel) rfl
theorem ml_RX1_65 : Cond.methodLink RX1 65 yX1_canDig ∈ TT := tt_at (i := 549) (by decide +kernel) rfl
theorem ml_RX5_185 : Cond.methodLink RX5 185 yJ13_bitCount_95d88 ∈ TT := tt_at (i := 550) (by decide +kernel) rfl
theorem kl_RJ13_314 : Cond.constantLong RJ13 314 (6148914691236517205) ∈ TT := tt_at (i := 553) (by decide +kernel) rfl
theorem kl_RJ13_316 : Cond.constantLong RJ13 316 (3689348814741910323) ∈ TT := tt_at (i := 554) (by decide +kernel) rfl
theorem kl_RJ13_318 : Cond.constantLong RJ13 318 (1085102592571150095) ∈ TT := tt_at (i := 555) (by decide +kernel) rfl
theorem ml_RL_56 : Cond.methodLink RL 56 yX5_fill ∈ TT := tt_at (i := 556) (by decide +kernel) rfl
theorem ml_RX5_191 : Cond.methodLink RX5 191 yX1_fillIn ∈ TT := tt_at (i := 560) (by decide +kernel) rfl
theorem ml_RL_60 : Cond.methodLink RL 60 yX5_leave ∈ TT := tt_at (i := 564) (by decide +kernel) rfl
theorem ml_RX5_194 : Cond.methodLink RX5 194 yX1_leaveLast ∈ TT := tt_at (i := 568) (by decide +kernel) rfl
theorem ml_RL_64 : Cond.methodLink RL 64 yX5_undo ∈ TT := tt_at (i := 572) (by decide +kernel) rfl
theorem ml_RX5_200 : Cond.methodLink RX5 200 yX2_pop ∈ TT := tt_at (i := 576) (by decide +kernel) rfl
theorem ml_RL_68 : Cond.methodLink RL 68 yX5_behind ∈ TT := tt_at (i := 580) (by decide +kernel) rfl
theorem ml_RX5_203 : Cond.methodLink RX5 203 yX5_firstTreeBehind ∈ TT := tt_at (i := 584) (by decide +kernel) rfl
theorem ml_RX5_210 : Cond.methodLink RX5 210 yX1_goYear ∈ TT := tt_at (i := 588) (by decide +kernel) rfl
theorem ml_RL_72 : Cond.methodLink RL 72 yX5_wealth ∈ TT := tt_at (i := 589) (by decide +kernel) rfl
theorem ml_RX5_207 : Cond.methodLink RX5 207 yX5_ownedBehind ∈ TT := tt_at (i := 593) (by decide +kernel) rfl
theorem ml_RL_76 : Cond.methodLink RL 76 yX5_comes ∈ TT := tt_at (i := 597) (by decide +kernel) rfl
theorem ml_RL_80 : Cond.methodLink RL 80 yX5_meet ∈ TT := tt_at (i := 601) (by decide +kernel) rfl
theorem ml_RX5_213 : Cond.methodLink RX5 213 yX1_areSideBySide ∈ TT := tt_at (i := 605) (by decide +kernel) rfl
theorem ml_RL_84 : Cond.methodLink RL 84 yX5_again ∈ TT := tt_at (i := 609) (by decide +kernel) rfl
theorem ml_RX5_217 : Cond.methodLink RX5 217 yX1_standsAs ∈ TT := tt_at (i := 613) (by decide +kernel) rfl
theorem ml_RX1_131 : Cond.methodLink RX1 131 yX4_standsAs ∈ TT := tt_at (i := 617) (by decide +kernel) rfl
theorem ml_RL_88 : Cond.methodLink RL 88 yX5_ditches ∈ TT := tt_at (i := 621) (by decide +kernel) rfl
theorem ml_RX5_221 : Cond.methodLink RX5 221 yX5_noneOrOneDitch ∈ TT := tt_at (i := 625) (by decide +kernel) rfl
theorem ml_RX5_228 : Cond.methodLink RX5 228 yX0_cells ∈ TT := tt_at (i := 629) (by decide +kernel) rfl
theorem ml_RX5_231 : Cond.methodLink RX5 231 yX5_bit ∈ TT := tt_at (i := 633) (by decide +kernel) rfl
theorem ml_RX5_225 : Cond.methodLink RX5 225 yX5_twoDitches ∈ TT := tt_at (i := 634) (by decide +kernel) rfl
theorem ml_RL_93 : Cond.methodLink RL 93 yX5_best ∈ TT := tt_at (i := 638) (by decide +kernel) rfl
theorem ml_RL_98 : Cond.methodLink RL 98 yX5_see ∈ TT := tt_at (i := 642) (by decide +kernel) rfl
theorem ml_RL_102 : Cond.methodLink RL 102 yX5_forget ∈ TT := tt_at (i := 646) (by decide +kernel) rfl
theorem ml_RL_106 : Cond.methodLink RL 106 yX5_fits ∈ TT := tt_at (i := 650) (by decide +kernel) rfl
theorem ml_RX5_235 : Cond.methodLink RX5 235 yX5_allSeenComes ∈ TT := tt_at (i := 654) (by decide +kernel) rfl
theorem ml_RL_110 : Cond.methodLink RL 110 yX5_frost ∈ TT := tt_at (i := 658) (by decide +kernel) rfl
theorem ml_RX5_238 : Cond.methodLink RX5 238 yX5_casesOfFrost ∈ TT := tt_at (i := 662) (by decide +kernel) rfl
theorem ml_RX5_271 : Cond.methodLink RX5 271 yX5_firstTreeOfFrost ∈ TT := tt_at (i := 666) (by decide +kernel) rfl
theorem kl_RX5_242 : Cond.constantLong RX5 242 (10) ∈ TT := tt_at (i := 670) (by decide +kernel) rfl
theorem kl_RX5_244 : Cond.constantLong RX5 244 (2) ∈ TT := tt_at (i := 671) (by decide +kernel) rfl
theorem kl_RX5_246 : Cond.constantLong RX5 246 (5) ∈ TT := tt_at (i := 672) (by decide +kernel) rfl
theorem ml_RL_115 : Cond.methodLink RL 115 yX5_century ∈ TT := tt_at (i := 673) (by decide +kernel) rfl
theorem ml_RX5_248 : Cond.methodLink RX5 248 yX5_drawOf ∈ TT := tt_at (i := 677) (by decide +kernel) rfl
theorem kl_RX5_274 : Cond.constantLong RX5 274 (7919) ∈ TT := tt_at (i := 680) (by decide +kernel) rfl
theorem kl_RX5_276 : Cond.constantLong RX5 276 (6151) ∈ TT := tt_at (i := 681) (by decide +kernel) rfl
theorem kl_RX5_278 : Cond.constantLong RX5 278 (65521) ∈ TT := tt_at (i := 682) (by decide +kernel) rfl
theorem ml_RX5_251 : Cond.methodLink RX5 251 yX5_disturbAhead ∈ TT := tt_at (i := 683) (by decide +kernel) rfl
theorem ml_RX5_280 : Cond.methodLink RX5 280 yJ9_min_7cf53 ∈ TT := tt_at (i := 687) (by decide +kernel) rfl
theorem ml_RX5_254 : Cond.methodLink RX5 254 yX1_ownedByAll ∈ TT := tt_at (i := 688) (by decide +kernel) rfl
theorem ml_RL_119 : Cond.methodLink RL 119 yX5_keep ∈ TT := tt_at (i := 692) (by decide +kernel) rfl
theorem ml_RL_123 : Cond.methodLink RL 123 yX5_back ∈ TT := tt_at (i := 696) (by decide +kernel) rfl
theorem ml_RL_127 : Cond.methodLink RL 127 yX5_count ∈ TT := tt_at (i := 700) (by decide +kernel) rfl
theorem kl_RX5_266 : Cond.constantLong RX5 266 (-1) ∈ TT := tt_at (i := 704) (by decide +kernel) rfl
theorem kc_RL_10 : Cond.classLink RL 10 RX6 ∈ TT := tt_at (i := 705) (by decide +kernel) rfl
theorem it_RX6 : Cond.instantiable RX6 14 ∈ TT := tt_at (i := 706) (by decide +kernel) rfl
theorem ml_RL_12 : Cond.methodLink RL 12 yX6_init ∈ TT := tt_at (i := 707) (by decide +kernel) rfl
theorem oi_RX6_1 : Cond.methodLink RX6 1 objectInit ∈ TT ∧ Cond.instanceMethod objectInit ∈ TT ∧ Cond.code objectInit ⟨#[0xb1]⟩ 1 none ∈ TT := ⟨tt_at (i := 710) (by decide +kernel) rfl, tt_at (i := 63) (by decide +kernel) rfl, tt_at (i := 64) (by decide +kernel) rfl⟩
theorem ml_RX6_37 : Cond.methodLink RX6 37 yX6_begins ∈ TT := tt_at (i := 711) (by decide +kernel) rfl
theorem ml_RX6_40 : Cond.methodLink RX6 40 yX6_owns ∈ TT := tt_at (i := 715) (by decide +kernel) rfl
theorem ml_RX6_44 : Cond.methodLink RX6 44 yX6_rowOf ∈ TT := tt_at (i := 719) (by decide +kernel) rfl
theorem ml_RX6_47 : Cond.methodLink RX6 47 yX6_stands ∈ TT := tt_at (i := 723) (by decide +kernel) rfl
theorem ml_RX6_51 : Cond.methodLink RX6 51 yX6_lays ∈ TT := tt_at (i := 727) (by decide +kernel) rfl
theorem ml_RL_17 : Cond.methodLink RL 17 yX6_write ∈ TT := tt_at (i := 774) (by decide +kernel) rfl
theorem ml_RX6_54 : Cond.methodLink RX6 54 yX6_in ∈ TT := tt_at (i := 778) (by decide +kernel) rfl
theorem ml_RL_22 : Cond.methodLink RL 22 yX6_wipe ∈ TT := tt_at (i := 781) (by decide +kernel) rfl
theorem ml_RL_26 : Cond.methodLink RL 26 yX6_fault ∈ TT := tt_at (i := 785) (by decide +kernel) rfl
theorem ml_RX6_97 : Cond.methodLink RX6 97 yX6_readsAll ∈ TT := tt_at (i := 789) (by decide +kernel) rfl
theorem ml_RX6_87 : Cond.methodLink RX6 87 yX6_readsLine ∈ TT := tt_at (i := 793) (by decide +kernel) rfl
theorem ml_RX6_65 : Cond.methodLink RX6 65 yX6_letterAt ∈ TT := tt_at (i := 797) (by decide +kernel) rfl
theorem ml_RX6_91 : Cond.methodLink RX6 91 yX6_readsOwner ∈ TT := tt_at (i := 801) (by decide +kernel) rfl
theorem ml_RX6_77 : Cond.methodLink RX6 77 yX6_number ∈ TT := tt_at (i := 805) (by decide +kernel) rfl
theorem ml_RX6_73 : Cond.methodLink RX6 73 yX6_figures ∈ TT := tt_at (i := 809) (by decide +kernel) rfl
theorem ml_RX6_69 : Cond.methodLink RX6 69 yX6_isFigure ∈ TT := tt_at (i := 813) (by decide +kernel) rfl
theorem ml_RX6_94 : Cond.methodLink RX6 94 yX6_readsRow ∈ TT := tt_at (i := 816) (by decide +kernel) rfl
theorem ml_RX6_81 : Cond.methodLink RX6 81 yX6_isTree ∈ TT := tt_at (i := 820) (by decide +kernel) rfl
theorem ml_RX6_84 : Cond.methodLink RX6 84 yX6_isNext ∈ TT := tt_at (i := 824) (by decide +kernel) rfl
theorem ml_RL_30 : Cond.methodLink RL 30 yX6_lay ∈ TT := tt_at (i := 827) (by decide +kernel) rfl
theorem ml_RL_35 : Cond.methodLink RL 35 yX6_cell ∈ TT := tt_at (i := 831) (by decide +kernel) rfl
theorem ml_RX6_110 : Cond.methodLink RX6 110 yX6_isCell ∈ TT := tt_at (i := 835) (by decide +kernel) rfl
theorem ml_RX6_113 : Cond.methodLink RX6 113 yX6_lies ∈ TT := tt_at (i := 839) (by decide +kernel) rfl
theorem ml_RX6_116 : Cond.methodLink RX6 116 yX6_treeIn ∈ TT := tt_at (i := 843) (by decide +kernel) rfl
theorem ml_RL_39 : Cond.methodLink RL 39 yX6_row ∈ TT := tt_at (i := 847) (by decide +kernel) rfl
theorem ml_RX6_126 : Cond.methodLink RX6 126 yX6_isRow ∈ TT := tt_at (i := 851) (by decide +kernel) rfl
theorem ml_RX6_129 : Cond.methodLink RX6 129 yX6_headsFor ∈ TT := tt_at (i := 855) (by decide +kernel) rfl
theorem ml_RX6_119 : Cond.methodLink RX6 119 yX6_beside ∈ TT := tt_at (i := 859) (by decide +kernel) rfl
theorem ml_RX6_122 : Cond.methodLink RX6 122 yX6_isOpen ∈ TT := tt_at (i := 863) (by decide +kernel) rfl
theorem ml_RL_43 : Cond.methodLink RL 43 yX6_tree ∈ TT := tt_at (i := 867) (by decide +kernel) rfl
theorem ml_RL_47 : Cond.methodLink RL 47 yX6_has ∈ TT := tt_at (i := 871) (by decide +kernel) rfl
theorem ml_RL_51 : Cond.methodLink RL 51 yX6_pass ∈ TT := tt_at (i := 875) (by decide +kernel) rfl
theorem ml_RX6_135 : Cond.methodLink RX6 135 yX6_keeps ∈ TT := tt_at (i := 879) (by decide +kernel) rfl
theorem ml_RX6_138 : Cond.methodLink RX6 138 yX6_passes ∈ TT := tt_at (i := 883) (by decide +kernel) rfl
theorem ml_RX6_132 : Cond.methodLink RX6 132 yX6_hasMate ∈ TT := tt_at (i := 887) (by decide +kernel) rfl
theorem ml_RL_55 : Cond.methodLink RL 55 yX6_dig ∈ TT := tt_at (i := 891) (by decide +kernel) rfl
theorem ml_RX6_141 : Cond.methodLink RX6 141 yX6_mayDig ∈ TT := tt_at (i := 895) (by decide +kernel) rfl
theorem ml_RX6_144 : Cond.methodLink RX6 144 yX6_countOf ∈ TT := tt_at (i := 899) (by decide +kernel) rfl
theorem ml_RL_59 : Cond.methodLink RL 59 yX6_fill ∈ TT := tt_at (i := 903) (by decide +kernel) rfl
theorem ml_RL_63 : Cond.methodLink RL 63 yX6_leave ∈ TT := tt_at (i := 907) (by decide +kernel) rfl
theorem ml_RX6_147 : Cond.methodLink RX6 147 yX6_leaves ∈ TT := tt_at (i := 911) (by decide +kernel) rfl
theorem ml_RL_67 : Cond.methodLink RL 67 yX6_undo ∈ TT := tt_at (i := 915) (by decide +kernel) rfl
theorem ml_RL_71 : Cond.methodLink RL 71 yX6_behind ∈ TT := tt_at (i := 919) (by decide +kernel) rfl
theorem ml_RX6_156 : Cond.methodLink RX6 156 yX6_behindOf ∈ TT := tt_at (i := 923) (by decide +kernel) rfl
theorem ml_RX6_150 : Cond.methodLink RX6 150 yX6_holds ∈ TT := tt_at (i := 927) (by decide +kernel) rfl
theorem ml_RX6_153 : Cond.methodLink RX6 153 yX6_lets ∈ TT := tt_at (i := 931) (by decide +kernel) rfl
theorem ml_RL_75 : Cond.methodLink RL 75 yX6_wealth ∈ TT := tt_at (i := 935) (by decide +kernel) rfl
theorem ml_RL_79 : Cond.methodLink RL 79 yX6_comes ∈ TT := tt_at (i := 939) (by decide +kernel) rfl
theorem ml_RL_83 : Cond.methodLink RL 83 yX6_meet ∈ TT := tt_at (i := 943) (by decide +kernel) rfl
theorem ml_RX6_159 : Cond.methodLink RX6 159 yX6_areBeside ∈ TT := tt_at (i := 947) (by decide +kernel) rfl
theorem ml_RL_87 : Cond.methodLink RL 87 yX6_again ∈ TT := tt_at (i := 951) (by decide +kernel) rfl
theorem ml_RX6_162 : Cond.methodLink RX6 162 yX6_isAgain ∈ TT := tt_at (i := 955) (by decide +kernel) rfl
theorem ml_RL_92 : Cond.methodLink RL 92 yX6_ditches ∈ TT := tt_at (i := 959) (by decide +kernel) rfl
theorem ml_RX6_165 : Cond.methodLink RX6 165 yX6_brings ∈ TT := tt_at (i := 963) (by decide +kernel) rfl
theorem ml_RL_97 : Cond.methodLink RL 97 yX6_best ∈ TT := tt_at (i := 967) (by decide +kernel) rfl
theorem ml_RL_101 : Cond.methodLink RL 101 yX6_see ∈ TT := tt_at (i := 971) (by decide +kernel) rfl
theorem ml_RL_105 : Cond.methodLink RL 105 yX6_forget ∈ TT := tt_at (i := 975) (by decide +kernel) rfl
theorem ml_RL_109 : Cond.methodLink RL 109 yX6_fits ∈ TT := tt_at (i := 979) (by decide +kernel) rfl
theorem ml_RX6_169 : Cond.methodLink RX6 169 yX6_isSo ∈ TT := tt_at (i := 983) (by decide +kernel) rfl
theorem ml_RL_114 : Cond.methodLink RL 114 yX6_frost ∈ TT := tt_at (i := 987) (by decide +kernel) rfl
theorem ml_RL_118 : Cond.methodLink RL 118 yX6_century ∈ TT := tt_at (i := 991) (by decide +kernel) rfl
theorem kl_RX6_172 : Cond.constantLong RX6 172 (7919) ∈ TT := tt_at (i := 995) (by decide +kernel) rfl
theorem kl_RX6_174 : Cond.constantLong RX6 174 (6151) ∈ TT := tt_at (i := 996) (by decide +kernel) rfl
theorem kl_RX6_176 : Cond.constantLong RX6 176 (65521) ∈ TT := tt_at (i := 997) (by decide +kernel) rfl
theorem ml_RX6_178 : Cond.methodLink RX6 178 yX6_turn ∈ TT := tt_at (i := 998) (by decide +kernel) rfl
theorem ml_RX6_181 : Cond.methodLink RX6 181 yX6_allHave ∈ TT := tt_at (i := 1002) (by decide +kernel) rfl
theorem ml_RL_122 : Cond.methodLink RL 122 yX6_keep ∈ TT := tt_at (i := 1006) (by decide +kernel) rfl
theorem ml_RL_126 : Cond.methodLink RL 126 yX6_back ∈ TT := tt_at (i := 1010) (by decide +kernel) rfl
theorem ml_RL_130 : Cond.methodLink RL 130 yX6_count ∈ TT := tt_at (i := 1014) (by decide +kernel) rfl
theorem nl_RX5_15 : (RX5, 15, yX0_init, "WalkingOrchard") ∈ nestW := List.mem_of_getElem? (i := 0) rfl
theorem nl_RX1_25 : (RX1, 25, yX4_init, "WalkingOrchard") ∈ nestW := List.mem_of_getElem? (i := 1) rfl
theorem nl_RX5_34 : (RX5, 34, yX3_init, "WalkingOrchard") ∈ nestW := List.mem_of_getElem? (i := 2) rfl
theorem nl_RX3_11 : (RX3, 11, yX0_init, "WalkingOrchard") ∈ nestW := List.mem_of_getElem? (i := 3) rfl
theorem nl_RX3_86 : (RX3, 86, yX5_bit, "WalkingOrchard") ∈ nestW := List.mem_of_getElem? (i := 4) rfl
theorem nl_RX3_143 : (RX3, 143, yX5_contains, "WalkingOrchard") ∈ nestW := List.mem_of_getElem? (i := 5) rfl
theorem nl_RX0_32 : (RX0, 32, yX5_contains, "WalkingOrchard") ∈ nestW := List.mem_of_getElem? (i := 6) rfl
theorem nl_RX1_50 : (RX1, 50, yX5_contains, "WalkingOrchard") ∈ nestW := List.mem_of_getElem? (i := 7) rfl
theorem nl_RX4_28 : (RX4, 28, yX5_bit, "WalkingOrchard") ∈ nestW := List.mem_of_getElem? (i := 8) rfl
theorem nl_RX1_69 : (RX1, 69, yX5_bit, "WalkingOrchard") ∈ nestW := List.mem_of_getElem? (i := 9) rfl
theorem uw_X0 : ∀ w ∈ u_ws RX0 TX0 6, w ∈ TT := fun w hw => by
  obtain ⟨k, hk, rfl⟩ := List.mem_map.mp hw
  have hk := List.mem_range.mp hk
  match k, hk with
  | 0, _ => exact tt_at (i := 87) (by decide +kernel) rfl
  | 1, _ => exact tt_at (i := 89) (by decide +kernel) rfl
  | 2, _ => exact tt_at (i := 91) (by decide +kernel) rfl
  | 3, _ => exact tt_at (i := 93) (by decide +kernel) rfl
  | 4, _ => exact tt_at (i := 95) (by decide +kernel) rfl
  | 5, _ => exact tt_at (i := 97) (by decide +kernel) rfl
  | k + 6, h => exact absurd h (by omega)
theorem uw_X1 : ∀ w ∈ u_ws RX1 TX1 9, w ∈ TT := fun w hw => by
  obtain ⟨k, hk, rfl⟩ := List.mem_map.mp hw
  have hk := List.mem_range.mp hk
  match k, hk with
  | 0, _ => exact tt_at (i := 164) (by decide +kernel) rfl
  | 1, _ => exact tt_at (i := 166) (by decide +kernel) rfl
  | 2, _ => exact tt_at (i := 168) (by decide +kernel) rfl
  | 3, _ => exact tt_at (i := 170) (by decide +kernel) rfl
  | 4, _ => exact tt_at (i := 172) (by decide +kernel) rfl
  | 5, _ => exact tt_at (i := 174) (by decide +kernel) rfl
  | 6, _ => exact tt_at (i := 176) (by decide +kernel) rfl
  | 7, _ => exact tt_at (i := 178) (by decide +kernel) rfl
  | 8, _ => exact tt_at (i := 180) (by decide +kernel) rfl
  | k + 9, h => exact absurd h (by omega)
theorem uw_X2 : ∀ w ∈ u_ws RX2 TX2 2, w ∈ TT := fun w hw => by
  obtain ⟨k, hk, rfl⟩ := List.mem_map.mp hw
  have hk := List.mem_range.mp hk
  match k, hk with
  | 0, _ => exact tt_at (i := 229) (by decide +kernel) rfl
  | 1, _ => exact tt_at (i := 231) (by decide +kernel) rfl
  | k + 2, h => exact absurd h (by omega)
theorem uw_X3 : ∀ w ∈ u_ws RX3 TX3 7, w ∈ TT := fun w hw => by
  obtain ⟨k, hk, rfl⟩ := List.mem_map.mp hw
  have hk := List.mem_range.mp hk
  match k, hk with
  | 0, _ => exact tt_at (i := 202) (by decide +kernel) rfl
  | 1, _ => exact tt_at (i := 204) (by decide +kernel) rfl
  | 2, _ => exact tt_at (i := 206) (by decide +kernel) rfl
  | 3, _ => exact tt_at (i := 208) (by decide +kernel) rfl
  | 4, _ => exact tt_at (i := 210) (by decide +kernel) rfl
  | 5, _ => exact tt_at (i := 212) (by decide +kernel) rfl
  | 6, _ => exact tt_at (i := 214) (by decide +kernel) rfl
  | k + 7, h => exact absurd h (by omega)
theorem uw_X4 : ∀ w ∈ u_ws RX4 TX4 5, w ∈ TT := fun w hw => by
  obtain ⟨k, hk, rfl⟩ := List.mem_map.mp hw
  have hk := List.mem_range.mp hk
  match k, hk with
  | 0, _ => exact tt_at (i := 133) (by decide +kernel) rfl
  | 1, _ => exact tt_at (i := 135) (by decide +kernel) rfl
  | 2, _ => exact tt_at (i := 137) (by decide +kernel) rfl
  | 3, _ => exact tt_at (i := 139) (by decide +kernel) rfl
  | 4, _ => exact tt_at (i := 141) (by decide +kernel) rfl
  | k + 5, h => exact absurd h (by omega)
theorem uw_X5 : ∀ w ∈ u_ws RX5 TX5 14, w ∈ TT := fun w hw => by
  obtain ⟨k, hk, rfl⟩ := List.mem_map.mp hw
  have hk := List.mem_range.mp hk
  match k, hk with
  | 0, _ => exact tt_at (i := 389) (by decide +kernel) rfl
  | 1, _ => exact tt_at (i := 391) (by decide +kernel) rfl
  | 2, _ => exact tt_at (i := 393) (by decide +kernel) rfl
  | 3, _ => exact tt_at (i := 395) (by decide +kernel) rfl
  | 4, _ => exact tt_at (i := 397) (by decide +kernel) rfl
  | 5, _ => exact tt_at (i := 399) (by decide +kernel) rfl
  | 6, _ => exact tt_at (i := 401) (by decide +kernel) rfl
  | 7, _ => exact tt_at (i := 403) (by decide +kernel) rfl
  | 8, _ => exact tt_at (i := 405) (by decide +kernel) rfl
  | 9, _ => exact tt_at (i := 407) (by decide +kernel) rfl
  | 10, _ => exact tt_at (i := 409) (by decide +kernel) rfl
  | 11, _ => exact tt_at (i := 411) (by decide +kernel) rfl
  | 12, _ => exact tt_at (i := 413) (by decide +kernel) rfl
  | 13, _ => exact tt_at (i := 415) (by decide +kernel) rfl
  | k + 14, h => exact absurd h (by omega)
theorem uw_X6 : ∀ w ∈ u_ws RX6 TX6 14, w ∈ TT := fun w hw => by
  obtain ⟨k, hk, rfl⟩ := List.mem_map.mp hw
  have hk := List.mem_range.mp hk
  match k, hk with
  | 0, _ => exact tt_at (i := 745) (by decide +kernel) rfl
  | 1, _ => exact tt_at (i := 747) (by decide +kernel) rfl
  | 2, _ => exact tt_at (i := 749) (by decide +kernel) rfl
  | 3, _ => exact tt_at (i := 751) (by decide +kernel) rfl
  | 4, _ => exact tt_at (i := 753) (by decide +kernel) rfl
  | 5, _ => exact tt_at (i := 755) (by decide +kernel) rfl
  | 6, _ => exact tt_at (i := 757) (by decide +kernel) rfl
  | 7, _ => exact tt_at (i := 759) (by decide +kernel) rfl
  | 8, _ => exact tt_at (i := 761) (by decide +kernel) rfl
  | 9, _ => exact tt_at (i := 763) (by decide +kernel) rfl
  | 10, _ => exact tt_at (i := 765) (by decide +kernel) rfl
  | 11, _ => exact tt_at (i := 767) (by decide +kernel) rfl
  | 12, _ => exact tt_at (i := 769) (by decide +kernel) rfl
  | 13, _ => exact tt_at (i := 771) (by decide +kernel) rfl
  | k + 14, h => exact absurd h (by omega)
theorem fl_RX0_9 : FL RX0 9 0 0 true (.array .int) := ⟨RX0, TX0, 6, tyX0, rfl, by decide, fun w h => TT_tbl w (uw_X0 w h), uw_X0, tt_at (i := 71) (by decide +kernel) rfl, rfl, tyX0_ok, nmX0, rfl, by decide +kernel⟩
theorem fl_RX3_110 : FL RX3 110 0 0 true (.array .int) := ⟨RX0, TX0, 6, tyX0, rfl, by decide, fun w h => TT_tbl w (uw_X0 w h), uw_X0, tt_at (i := 72) (by decide +kernel) rfl, rfl, tyX0_ok, nmX0, rfl, by decide +kernel⟩
theorem fl_RX0_15 : FL RX0 15 0 1 false .long := ⟨RX0, TX0, 6, tyX0, rfl, by decide, fun w h => TT_tbl w (uw_X0 w h), uw_X0, tt_at (i := 73) (by decide +kernel) rfl, rfl, tyX0_ok, nmX0, rfl, by decide +kernel⟩
theorem fl_RX1_58 : FL RX1 58 0 1 false .long := ⟨RX0, TX0, 6, tyX0, rfl, by decide, fun w h => TT_tbl w (uw_X0 w h), uw_X0, tt_at (i := 74) (by decide +kernel) rfl, rfl, tyX0_ok, nmX0, rfl, by decide +kernel⟩
theorem fl_RX3_82 : FL RX3 82 0 1 false .long := ⟨RX0, TX0, 6, tyX0, rfl, by decide, fun w h => TT_tbl w (uw_X0 w h), uw_X0, tt_at (i := 75) (by decide +kernel) rfl, rfl, tyX0_ok, nmX0, rfl, by decide +kernel⟩
theorem fl_RX0_19 : FL RX0 19 0 2 false .long := ⟨RX0, TX0, 6, tyX0, rfl, by decide, fun w h => TT_tbl w (uw_X0 w h), uw_X0, tt_at (i := 76) (by decide +kernel) rfl, rfl, tyX0_ok, nmX0, rfl, by decide +kernel⟩
theorem fl_RX3_90 : FL RX3 90 0 2 false .long := ⟨RX0, TX0, 6, tyX0, rfl, by decide, fun w h => TT_tbl w (uw_X0 w h), uw_X0, tt_at (i := 77) (by decide +kernel) rfl, rfl, tyX0_ok, nmX0, rfl, by decide +kernel⟩
theorem fl_RX1_83 : FL RX1 83 0 2 false .long := ⟨RX0, TX0, 6, tyX0, rfl, by decide, fun w h => TT_tbl w (uw_X0 w h), uw_X0, tt_at (i := 78) (by decide +kernel) rfl, rfl, tyX0_ok, nmX0, rfl, by decide +kernel⟩
theorem fl_RX0_22 : FL RX0 22 0 3 false .long := ⟨RX0, TX0, 6, tyX0, rfl, by decide, fun w h => TT_tbl w (uw_X0 w h), uw_X0, tt_at (i := 79) (by decide +kernel) rfl, rfl, tyX0_ok, nmX0, rfl, by decide +kernel⟩
theorem fl_RX3_93 : FL RX3 93 0 3 false .long := ⟨RX0, TX0, 6, tyX0, rfl, by decide, fun w h => TT_tbl w (uw_X0 w h), uw_X0, tt_at (i := 80) (by decide +kernel) rfl, rfl, tyX0_ok, nmX0, rfl, by decide +kernel⟩
theorem fl_RX1_86 : FL RX1 86 0 3 false .long := ⟨RX0, TX0, 6, tyX0, rfl, by decide, fun w h => TT_tbl w (uw_X0 w h), uw_X0, tt_at (i := 81) (by decide +kernel) rfl, rfl, tyX0_ok, nmX0, rfl, by decide +kernel⟩
theorem fl_RX0_25 : FL RX0 25 0 4 false .int := ⟨RX0, TX0, 6, tyX0, rfl, by decide, fun w h => TT_tbl w (uw_X0 w h), uw_X0, tt_at (i := 82) (by decide +kernel) rfl, rfl, tyX0_ok, nmX0, rfl, by decide +kernel⟩
theorem fl_RX3_72 : FL RX3 72 0 4 false .int := ⟨RX0, TX0, 6, tyX0, rfl, by decide, fun w h => TT_tbl w (uw_X0 w h), uw_X0, tt_at (i := 83) (by decide +kernel) rfl, rfl, tyX0_ok, nmX0, rfl, by decide +kernel⟩
theorem fl_RX0_29 : FL RX0 29 0 5 false .int := ⟨RX0, TX0, 6, tyX0, rfl, by decide, fun w h => TT_tbl w (uw_X0 w h), uw_X0, tt_at (i := 84) (by decide +kernel) rfl, rfl, tyX0_ok, nmX0, rfl, by decide +kernel⟩
theorem fl_RX3_75 : FL RX3 75 0 5 false .int := ⟨RX0, TX0, 6, tyX0, rfl, by decide, fun w h => TT_tbl w (uw_X0 w h), uw_X0, tt_at (i := 85) (by decide +kernel) rfl, rfl, tyX0_ok, nmX0, rfl, by decide +kernel⟩
theorem fl_RX5_257 : FL RX5 257 0 5 false .int := ⟨RX0, TX0, 6, tyX0, rfl, by decide, fun w h => TT_tbl w (uw_X0 w h), uw_X0, tt_at (i := 86) (by decide +kernel) rfl, rfl, tyX0_ok, nmX0, rfl, by decide +kernel⟩
theorem fl_RX4_9 : FL RX4 9 4 0 true (.array .int) := ⟨RX4, TX4, 5, tyX4, rfl, by decide, fun w h => TT_tbl w (uw_X4 w h), uw_X4, tt_at (i := 115) (by decide +kernel) rfl, rfl, tyX4_ok, nmX4, rfl, by decide +kernel⟩
theorem fl_RX1_104 : FL RX1 104 4 0 true (.array .int) := ⟨RX4, TX4, 5, tyX4, rfl, by decide, fun w h => TT_tbl w (uw_X4 w h), uw_X4, tt_at (i := 116) (by decide +kernel) rfl, rfl, tyX4_ok, nmX4, rfl, by decide +kernel⟩
theorem fl_RX4_15 : FL RX4 15 4 1 false .int := ⟨RX4, TX4, 5, tyX4, rfl, by decide, fun w h => TT_tbl w (uw_X4 w h), uw_X4, tt_at (i := 117) (by decide +kernel) rfl, rfl, tyX4_ok, nmX4, rfl, by decide +kernel⟩
theorem fl_RX5_141 : FL RX5 141 4 1 false .int := ⟨RX4, TX4, 5, tyX4, rfl, by decide, fun w h => TT_tbl w (uw_X4 w h), uw_X4, tt_at (i := 118) (by decide +kernel) rfl, rfl, tyX4_ok, nmX4, rfl, by decide +kernel⟩
theorem fl_RX1_73 : FL RX1 73 4 1 false .int := ⟨RX4, TX4, 5, tyX4, rfl, by decide, fun w h => TT_tbl w (uw_X4 w h), uw_X4, tt_at (i := 119) (by decide +kernel) rfl, rfl, tyX4_ok, nmX4, rfl, by decide +kernel⟩
theorem fl_RX3_120 : FL RX3 120 4 1 false .int := ⟨RX4, TX4, 5, tyX4, rfl, by decide, fun w h => TT_tbl w (uw_X4 w h), uw_X4, tt_at (i := 120) (by decide +kernel) rfl, rfl, tyX4_ok, nmX4, rfl, by decide +kernel⟩
theorem fl_RX4_19 : FL RX4 19 4 2 false .int := ⟨RX4, TX4, 5, tyX4, rfl, by decide, fun w h => TT_tbl w (uw_X4 w h), uw_X4, tt_at (i := 121) (by decide +kernel) rfl, rfl, tyX4_ok, nmX4, rfl, by decide +kernel⟩
theorem fl_RX5_130 : FL RX5 130 4 2 false .int := ⟨RX4, TX4, 5, tyX4, rfl, by decide, fun w h => TT_tbl w (uw_X4 w h), uw_X4, tt_at (i := 122) (by decide +kernel) rfl, rfl, tyX4_ok, nmX4, rfl, by decide +kernel⟩
theorem fl_RX1_80 : FL RX1 80 4 2 false .int := ⟨RX4, TX4, 5, tyX4, rfl, by decide, fun w h => TT_tbl w (uw_X4 w h), uw_X4, tt_at (i := 123) (by decide +kernel) rfl, rfl, tyX4_ok, nmX4, rfl, by decide +kernel⟩
theorem fl_RX3_125 : FL RX3 125 4 2 false .int := ⟨RX4, TX4, 5, tyX4, rfl, by decide, fun w h => TT_tbl w (uw_X4 w h), uw_X4, tt_at (i := 124) (by decide +kernel) rfl, rfl, tyX4_ok, nmX4, rfl, by decide +kernel⟩
theorem fl_RX4_22 : FL RX4 22 4 3 false .int := ⟨RX4, TX4, 5, tyX4, rfl, by decide, fun w h => TT_tbl w (uw_X4 w h), uw_X4, tt_at (i := 125) (by decide +kernel) rfl, rfl, tyX4_ok, nmX4, rfl, by decide +kernel⟩
theorem fl_RX5_135 : FL RX5 135 4 3 false .int := ⟨RX4, TX4, 5, tyX4, rfl, by decide, fun w h => TT_tbl w (uw_X4 w h), uw_X4, tt_at (i := 126) (by decide +kernel) rfl, rfl, tyX4_ok, nmX4, rfl, by decide +kernel⟩
theorem fl_RX1_89 : FL RX1 89 4 3 false .int := ⟨RX4, TX4, 5, tyX4, rfl, by decide, fun w h => TT_tbl w (uw_X4 w h), uw_X4, tt_at (i := 127) (by decide +kernel) rfl, rfl, tyX4_ok, nmX4, rfl, by decide +kernel⟩
theorem fl_RX3_128 : FL RX3 128 4 3 false .int := ⟨RX4, TX4, 5, tyX4, rfl, by decide, fun w h => TT_tbl w (uw_X4 w h), uw_X4, tt_at (i := 128) (by decide +kernel) rfl, rfl, tyX4_ok, nmX4, rfl, by decide +kernel⟩
theorem fl_RX4_25 : FL RX4 25 4 4 false .int := ⟨RX4, TX4, 5, tyX4, rfl, by decide, fun w h => TT_tbl w (uw_X4 w h), uw_X4, tt_at (i := 129) (by decide +kernel) rfl, rfl, tyX4_ok, nmX4, rfl, by decide +kernel⟩
theorem fl_RX5_138 : FL RX5 138 4 4 false .int := ⟨RX4, TX4, 5, tyX4, rfl, by decide, fun w h => TT_tbl w (uw_X4 w h), uw_X4, tt_at (i := 130) (by decide +kernel) rfl, rfl, tyX4_ok, nmX4, rfl, by decide +kernel⟩
theorem fl_RX3_131 : FL RX3 131 4 4 false .int := ⟨RX4, TX4, 5, tyX4, rfl, by decide, fun w h => TT_tbl w (uw_X4 w h), uw_X4, tt_at (i := 131) (by decide +kernel) rfl, rfl, tyX4_ok, nmX4, rfl, by decide +kernel⟩
theorem fl_RX1_121 : FL RX1 121 4 4 false .int := ⟨RX4, TX4, 5, tyX4, rfl, by decide, fun w h => TT_tbl w (uw_X4 w h), uw_X4, tt_at (i := 132) (by decide +kernel) rfl, rfl, tyX4_ok, nmX4, rfl, by decide +kernel⟩
theorem fl_RX1_21 : FL RX1 21 1 0 true (.object "WalkingOrchard$Land") := ⟨RX1, TX1, 9, tyX1, rfl, by decide, fun w h => TT_tbl w (uw_X1 w h), uw_X1, tt_at (i := 144) (by decide +kernel) rfl, rfl, tyX1_ok, nmX1, rfl, by decide +kernel⟩
theorem fl_RX1_11 : FL RX1 11 1 1 true (.array (.object "WalkingOrchard$Row")) := ⟨RX1, TX1, 9, tyX1, rfl, by decide, fun w h => TT_tbl w (uw_X1 w h), uw_X1, tt_at (i := 145) (by decide +kernel) rfl, rfl, tyX1_ok, nmX1, rfl, by decide +kernel⟩
theorem fl_RX5_126 : FL RX5 126 1 1 true (.array (.object "WalkingOrchard$Row")) := ⟨RX1, TX1, 9, tyX1, rfl, by decide, fun w h => TT_tbl w (uw_X1 w h), uw_X1, tt_at (i := 146) (by decide +kernel) rfl, rfl, tyX1_ok, nmX1, rfl, by decide +kernel⟩
theorem fl_RX3_116 : FL RX3 116 1 1 true (.array (.object "WalkingOrchard$Row")) := ⟨RX1, TX1, 9, tyX1, rfl, by decide, fun w h => TT_tbl w (uw_X1 w h), uw_X1, tt_at (i := 147) (by decide +kernel) rfl, rfl, tyX1_ok, nmX1, rfl, by decide +kernel⟩
theorem fl_RX1_17 : FL RX1 17 1 2 true (.array .int) := ⟨RX1, TX1, 9, tyX1, rfl, by decide, fun w h => TT_tbl w (uw_X1 w h), uw_X1, tt_at (i := 148) (by decide +kernel) rfl, rfl, tyX1_ok, nmX1, rfl, by decide +kernel⟩
theorem fl_RX5_162 : FL RX5 162 1 2 true (.array .int) := ⟨RX1, TX1, 9, tyX1, rfl, by decide, fun w h => TT_tbl w (uw_X1 w h), uw_X1, tt_at (i := 149) (by decide +kernel) rfl, rfl, tyX1_ok, nmX1, rfl, by decide +kernel⟩
theorem fl_RX1_26 : FL RX1 26 1 3 false .int := ⟨RX1, TX1, 9, tyX1, rfl, by decide, fun w h => TT_tbl w (uw_X1 w h), uw_X1, tt_at (i := 150) (by decide +kernel) rfl, rfl, tyX1_ok, nmX1, rfl, by decide +kernel⟩
theorem fl_RX5_94 : FL RX5 94 1 3 false .int := ⟨RX1, TX1, 9, tyX1, rfl, by decide, fun w h => TT_tbl w (uw_X1 w h), uw_X1, tt_at (i := 151) (by decide +kernel) rfl, rfl, tyX1_ok, nmX1, rfl, by decide +kernel⟩
theorem fl_RX3_113 : FL RX3 113 1 3 false .int := ⟨RX1, TX1, 9, tyX1, rfl, by decide, fun w h => TT_tbl w (uw_X1 w h), uw_X1, tt_at (i := 152) (by decide +kernel) rfl, rfl, tyX1_ok, nmX1, rfl, by decide +kernel⟩
theorem fl_RX1_30 : FL RX1 30 1 4 false .int := ⟨RX1, TX1, 9, tyX1, rfl, by decide, fun w h => TT_tbl w (uw_X1 w h), uw_X1, tt_at (i := 153) (by decide +kernel) rfl, rfl, tyX1_ok, nmX1, rfl, by decide +kernel⟩
theorem fl_RX5_176 : FL RX5 176 1 4 false .int := ⟨RX1, TX1, 9, tyX1, rfl, by decide, fun w h => TT_tbl w (uw_X1 w h), uw_X1, tt_at (i := 154) (by decide +kernel) rfl, rfl, tyX1_ok, nmX1, rfl, by decide +kernel⟩
theorem fl_RX1_33 : FL RX1 33 1 5 false .long := ⟨RX1, TX1, 9, tyX1, rfl, by decide, fun w h => TT_tbl w (uw_X1 w h), uw_X1, tt_at (i := 155) (by decide +kernel) rfl, rfl, tyX1_ok, nmX1, rfl, by decide +kernel⟩
theorem fl_RX5_114 : FL RX5 114 1 5 false .long := ⟨RX1, TX1, 9, tyX1, rfl, by decide, fun w h => TT_tbl w (uw_X1 w h), uw_X1, tt_at (i := 156) (by decide +kernel) rfl, rfl, tyX1_ok, nmX1, rfl, by decide +kernel⟩
theorem fl_RX1_37 : FL RX1 37 1 6 false .long := ⟨RX1, TX1, 9, tyX1, rfl, by decide, fun w h => TT_tbl w (uw_X1 w h), uw_X1, tt_at (i := 157) (by decide +kernel) rfl, rfl, tyX1_ok, nmX1, rfl, by decide +kernel⟩
theorem fl_RX5_263 : FL RX5 263 1 6 false .long := ⟨RX1, TX1, 9, tyX1, rfl, by decide, fun w h => TT_tbl w (uw_X1 w h), uw_X1, tt_at (i := 158) (by decide +kernel) rfl, rfl, tyX1_ok, nmX1, rfl, by decide +kernel⟩
theorem fl_RX1_40 : FL RX1 40 1 7 false .long := ⟨RX1, TX1, 9, tyX1, rfl, by decide, fun w h => TT_tbl w (uw_X1 w h), uw_X1, tt_at (i := 159) (by decide +kernel) rfl, rfl, tyX1_ok, nmX1, rfl, by decide +kernel⟩
theorem fl_RX3_138 : FL RX3 138 1 7 false .long := ⟨RX1, TX1, 9, tyX1, rfl, by decide, fun w h => TT_tbl w (uw_X1 w h), uw_X1, tt_at (i := 160) (by decide +kernel) rfl, rfl, tyX1_ok, nmX1, rfl, by decide +kernel⟩
theorem fl_RX5_260 : FL RX5 260 1 7 false .long := ⟨RX1, TX1, 9, tyX1, rfl, by decide, fun w h => TT_tbl w (uw_X1 w h), uw_X1, tt_at (i := 161) (by decide +kernel) rfl, rfl, tyX1_ok, nmX1, rfl, by decide +kernel⟩
theorem fl_RX1_43 : FL RX1 43 1 8 false .long := ⟨RX1, TX1, 9, tyX1, rfl, by decide, fun w h => TT_tbl w (uw_X1 w h), uw_X1, tt_at (i := 162) (by decide +kernel) rfl, rfl, tyX1_ok, nmX1, rfl, by decide +kernel⟩
theorem fl_RX5_268 : FL RX5 268 1 8 false .long := ⟨RX1, TX1, 9, tyX1, rfl, by decide, fun w h => TT_tbl w (uw_X1 w h), uw_X1, tt_at (i := 163) (by decide +kernel) rfl, rfl, tyX1_ok, nmX1, rfl, by decide +kernel⟩
theorem fl_RX3_12 : FL RX3 12 3 0 true (.object "WalkingOrchard$Land") := ⟨RX3, TX3, 7, tyX3, rfl, by decide, fun w h => TT_tbl w (uw_X3 w h), uw_X3, tt_at (i := 193) (by decide +kernel) rfl, rfl, tyX3_ok, nmX3, rfl, by decide +kernel⟩
theorem fl_RX5_80 : FL RX5 80 3 0 true (.object "WalkingOrchard$Land") := ⟨RX3, TX3, 7, tyX3, rfl, by decide, fun w h => TT_tbl w (uw_X3 w h), uw_X3, tt_at (i := 194) (by decide +kernel) rfl, rfl, tyX3_ok, nmX3, rfl, by decide +kernel⟩
theorem fl_RX3_23 : FL RX3 23 3 1 true (.object "WalkingOrchard$Orchard") := ⟨RX3, TX3, 7, tyX3, rfl, by decide, fun w h => TT_tbl w (uw_X3 w h), uw_X3, tt_at (i := 195) (by decide +kernel) rfl, rfl, tyX3_ok, nmX3, rfl, by decide +kernel⟩
theorem fl_RX5_84 : FL RX5 84 3 1 true (.object "WalkingOrchard$Orchard") := ⟨RX3, TX3, 7, tyX3, rfl, by decide, fun w h => TT_tbl w (uw_X3 w h), uw_X3, tt_at (i := 196) (by decide +kernel) rfl, rfl, tyX3_ok, nmX3, rfl, by decide +kernel⟩
theorem fl_RX3_27 : FL RX3 27 3 2 true (.array .int) := ⟨RX3, TX3, 7, tyX3, rfl, by decide, fun w h => TT_tbl w (uw_X3 w h), uw_X3, tt_at (i := 197) (by decide +kernel) rfl, rfl, tyX3_ok, nmX3, rfl, by decide +kernel⟩
theorem fl_RX3_96 : FL RX3 96 3 3 false .int := ⟨RX3, TX3, 7, tyX3, rfl, by decide, fun w h => TT_tbl w (uw_X3 w h), uw_X3, tt_at (i := 198) (by decide +kernel) rfl, rfl, tyX3_ok, nmX3, rfl, by decide +kernel⟩
theorem fl_RX3_31 : FL RX3 31 3 4 false (.array .char) := ⟨RX3, TX3, 7, tyX3, rfl, by decide, fun w h => TT_tbl w (uw_X3 w h), uw_X3, tt_at (i := 199) (by decide +kernel) rfl, rfl, tyX3_ok, nmX3, rfl, by decide +kernel⟩
theorem fl_RX3_41 : FL RX3 41 3 5 false .int := ⟨RX3, TX3, 7, tyX3, rfl, by decide, fun w h => TT_tbl w (uw_X3 w h), uw_X3, tt_at (i := 200) (by decide +kernel) rfl, rfl, tyX3_ok, nmX3, rfl, by decide +kernel⟩
theorem fl_RX3_45 : FL RX3 45 3 6 false .int := ⟨RX3, TX3, 7, tyX3, rfl, by decide, fun w h => TT_tbl w (uw_X3 w h), uw_X3, tt_at (i := 201) (by decide +kernel) rfl, rfl, tyX3_ok, nmX3, rfl, by decide +kernel⟩
theorem fl_RX2_9 : FL RX2 9 2 0 true (.array (.object "WalkingOrchard$Orchard")) := ⟨RX2, TX2, 2, tyX2, rfl, by decide, fun w h => TT_tbl w (uw_X2 w h), uw_X2, tt_at (i := 226) (by decide +kernel) rfl, rfl, tyX2_ok, nmX2, rfl, by decide +kernel⟩
theorem fl_RX2_18 : FL RX2 18 2 1 false .int := ⟨RX2, TX2, 2, tyX2, rfl, by decide, fun w h => TT_tbl w (uw_X2 w h), uw_X2, tt_at (i := 227) (by decide +kernel) rfl, rfl, tyX2_ok, nmX2, rfl, by decide +kernel⟩
theorem fl_RX5_197 : FL RX5 197 2 1 false .int := ⟨RX2, TX2, 2, tyX2, rfl, by decide, fun w h => TT_tbl w (uw_X2 w h), uw_X2, tt_at (i := 228) (by decide +kernel) rfl, rfl, tyX2_ok, nmX2, rfl, by decide +kernel⟩
theorem fl_RX5_9 : FL RX5 9 5 0 true (.array .char) := ⟨RX5, TX5, 14, tyX5, rfl, by decide, fun w h => TT_tbl w (uw_X5 w h), uw_X5, tt_at (i := 375) (by decide +kernel) rfl, rfl, tyX5_ok, nmX5, rfl, by decide +kernel⟩
theorem fl_RX5_90 : FL RX5 90 5 1 false .int := ⟨RX5, TX5, 14, tyX5, rfl, by decide, fun w h => TT_tbl w (uw_X5 w h), uw_X5, tt_at (i := 376) (by decide +kernel) rfl, rfl, tyX5_ok, nmX5, rfl, by decide +kernel⟩
theorem fl_RX5_16 : FL RX5 16 5 2 true (.object "WalkingOrchard$Land") := ⟨RX5, TX5, 14, tyX5, rfl, by decide, fun w h => TT_tbl w (uw_X5 w h), uw_X5, tt_at (i := 377) (by decide +kernel) rfl, rfl, tyX5_ok, nmX5, rfl, by decide +kernel⟩
theorem fl_RX5_25 : FL RX5 25 5 3 true (.object "WalkingOrchard$Orchard") := ⟨RX5, TX5, 14, tyX5, rfl, by decide, fun w h => TT_tbl w (uw_X5 w h), uw_X5, tt_at (i := 378) (by decide +kernel) rfl, rfl, tyX5_ok, nmX5, rfl, by decide +kernel⟩
theorem fl_RX5_29 : FL RX5 29 5 4 true (.object "WalkingOrchard$Orchard") := ⟨RX5, TX5, 14, tyX5, rfl, by decide, fun w h => TT_tbl w (uw_X5 w h), uw_X5, tt_at (i := 379) (by decide +kernel) rfl, rfl, tyX5_ok, nmX5, rfl, by decide +kernel⟩
theorem fl_RX5_35 : FL RX5 35 5 5 true (.object "WalkingOrchard$Reader") := ⟨RX5, TX5, 14, tyX5, rfl, by decide, fun w h => TT_tbl w (uw_X5 w h), uw_X5, tt_at (i := 380) (by decide +kernel) rfl, rfl, tyX5_ok, nmX5, rfl, by decide +kernel⟩
theorem fl_RX5_44 : FL RX5 44 5 6 true (.object "WalkingOrchard$Past") := ⟨RX5, TX5, 14, tyX5, rfl, by decide, fun w h => TT_tbl w (uw_X5 w h), uw_X5, tt_at (i := 381) (by decide +kernel) rfl, rfl, tyX5_ok, nmX5, rfl, by decide +kernel⟩
theorem fl_RX5_48 : FL RX5 48 5 7 true (.object "WalkingOrchard$Past") := ⟨RX5, TX5, 14, tyX5, rfl, by decide, fun w h => TT_tbl w (uw_X5 w h), uw_X5, tt_at (i := 382) (by decide +kernel) rfl, rfl, tyX5_ok, nmX5, rfl, by decide +kernel⟩
theorem fl_RX5_51 : FL RX5 51 5 8 true (.array .int) := ⟨RX5, TX5, 14, tyX5, rfl, by decide, fun w h => TT_tbl w (uw_X5 w h), uw_X5, tt_at (i := 383) (by decide +kernel) rfl, rfl, tyX5_ok, nmX5, rfl, by decide +kernel⟩
theorem fl_RX5_55 : FL RX5 55 5 9 true (.array .int) := ⟨RX5, TX5, 14, tyX5, rfl, by decide, fun w h => TT_tbl w (uw_X5 w h), uw_X5, tt_at (i := 384) (by decide +kernel) rfl, rfl, tyX5_ok, nmX5, rfl, by decide +kernel⟩
theorem fl_RX5_58 : FL RX5 58 5 10 true (.array .int) := ⟨RX5, TX5, 14, tyX5, rfl, by decide, fun w h => TT_tbl w (uw_X5 w h), uw_X5, tt_at (i := 385) (by decide +kernel) rfl, rfl, tyX5_ok, nmX5, rfl, by decide +kernel⟩
theorem fl_RX5_97 : FL RX5 97 5 11 false .int := ⟨RX5, TX5, 14, tyX5, rfl, by decide, fun w h => TT_tbl w (uw_X5 w h), uw_X5, tt_at (i := 386) (by decide +kernel) rfl, rfl, tyX5_ok, nmX5, rfl, by decide +kernel⟩
theorem fl_RX5_61 : FL RX5 61 5 12 true (.array .int) := ⟨RX5, TX5, 14, tyX5, rfl, by decide, fun w h => TT_tbl w (uw_X5 w h), uw_X5, tt_at (i := 387) (by decide +kernel) rfl, rfl, tyX5_ok, nmX5, rfl, by decide +kernel⟩
theorem fl_RX5_64 : FL RX5 64 5 13 true (.array .long) := ⟨RX5, TX5, 14, tyX5, rfl, by decide, fun w h => TT_tbl w (uw_X5 w h), uw_X5, tt_at (i := 388) (by decide +kernel) rfl, rfl, tyX5_ok, nmX5, rfl, by decide +kernel⟩
theorem fl_RX6_7 : FL RX6 7 6 0 true (.array .int) := ⟨RX6, TX6, 14, tyX6, rfl, by decide, fun w h => TT_tbl w (uw_X6 w h), uw_X6, tt_at (i := 731) (by decide +kernel) rfl, rfl, tyX6_ok, nmX6, rfl, by decide +kernel⟩
theorem fl_RX6_58 : FL RX6 58 6 1 false .int := ⟨RX6, TX6, 14, tyX6, rfl, by decide, fun w h => TT_tbl w (uw_X6 w h), uw_X6, tt_at (i := 732) (by decide +kernel) rfl, rfl, tyX6_ok, nmX6, rfl, by decide +kernel⟩
theorem fl_RX6_13 : FL RX6 13 6 2 true (.array .int) := ⟨RX6, TX6, 14, tyX6, rfl, by decide, fun w h => TT_tbl w (uw_X6 w h), uw_X6, tt_at (i := 733) (by decide +kernel) rfl, rfl, tyX6_ok, nmX6, rfl, by decide +kernel⟩
theorem fl_RX6_16 : FL RX6 16 6 3 true (.array .int) := ⟨RX6, TX6, 14, tyX6, rfl, by decide, fun w h => TT_tbl w (uw_X6 w h), uw_X6, tt_at (i := 734) (by decide +kernel) rfl, rfl, tyX6_ok, nmX6, rfl, by decide +kernel⟩
theorem fl_RX6_19 : FL RX6 19 6 4 true (.array .int) := ⟨RX6, TX6, 14, tyX6, rfl, by decide, fun w h => TT_tbl w (uw_X6 w h), uw_X6, tt_at (i := 735) (by decide +kernel) rfl, rfl, tyX6_ok, nmX6, rfl, by decide +kernel⟩
theorem fl_RX6_22 : FL RX6 22 6 5 true (.array .int) := ⟨RX6, TX6, 14, tyX6, rfl, by decide, fun w h => TT_tbl w (uw_X6 w h), uw_X6, tt_at (i := 736) (by decide +kernel) rfl, rfl, tyX6_ok, nmX6, rfl, by decide +kernel⟩
theorem fl_RX6_25 : FL RX6 25 6 6 true (.array .int) := ⟨RX6, TX6, 14, tyX6, rfl, by decide, fun w h => TT_tbl w (uw_X6 w h), uw_X6, tt_at (i := 737) (by decide +kernel) rfl, rfl, tyX6_ok, nmX6, rfl, by decide +kernel⟩
theorem fl_RX6_101 : FL RX6 101 6 7 false .int := ⟨RX6, TX6, 14, tyX6, rfl, by decide, fun w h => TT_tbl w (uw_X6 w h), uw_X6, tt_at (i := 738) (by decide +kernel) rfl, rfl, tyX6_ok, nmX6, rfl, by decide +kernel⟩
theorem fl_RX6_28 : FL RX6 28 6 8 true (.array .int) := ⟨RX6, TX6, 14, tyX6, rfl, by decide, fun w h => TT_tbl w (uw_X6 w h), uw_X6, tt_at (i := 739) (by decide +kernel) rfl, rfl, tyX6_ok, nmX6, rfl, by decide +kernel⟩
theorem fl_RX6_104 : FL RX6 104 6 9 false .int := ⟨RX6, TX6, 14, tyX6, rfl, by decide, fun w h => TT_tbl w (uw_X6 w h), uw_X6, tt_at (i := 740) (by decide +kernel) rfl, rfl, tyX6_ok, nmX6, rfl, by decide +kernel⟩
theorem fl_RX6_31 : FL RX6 31 6 10 true (.array .int) := ⟨RX6, TX6, 14, tyX6, rfl, by decide, fun w h => TT_tbl w (uw_X6 w h), uw_X6, tt_at (i := 741) (by decide +kernel) rfl, rfl, tyX6_ok, nmX6, rfl, by decide +kernel⟩
theorem fl_RX6_107 : FL RX6 107 6 11 false .int := ⟨RX6, TX6, 14, tyX6, rfl, by decide, fun w h => TT_tbl w (uw_X6 w h), uw_X6, tt_at (i := 742) (by decide +kernel) rfl, rfl, tyX6_ok, nmX6, rfl, by decide +kernel⟩
theorem fl_RX6_62 : FL RX6 62 6 12 false .int := ⟨RX6, TX6, 14, tyX6, rfl, by decide, fun w h => TT_tbl w (uw_X6 w h), uw_X6, tt_at (i := 743) (by decide +kernel) rfl, rfl, tyX6_ok, nmX6, rfl, by decide +kernel⟩
theorem fl_RX6_34 : FL RX6 34 6 13 true (.array .int) := ⟨RX6, TX6, 14, tyX6, rfl, by decide, fun w h => TT_tbl w (uw_X6 w h), uw_X6, tt_at (i := 744) (by decide +kernel) rfl, rfl, tyX6_ok, nmX6, rfl, by decide +kernel⟩
end
section
/-! MORE RULES: diamonds (two ways that meet with a number each), chars, small rows on numbers -/
def zB (b : Bool) : Int32 := if b then 1 else 0
theorem zB_nar (b : Bool) : narrow .boolean (.int (zB b)) = .int (zB b) := by cases b <;> rfl
theorem zB_eq0 (b : Bool) : (zB b = 0) ↔ b = false := by cases b <;> decide
theorem zB_eq1 (b : Bool) : (zB b = 1) ↔ b = true := by cases b <;> decide
theorem zB_f0 {b : Bool} (h : zB b = 0) : b = false := (zB_eq0 b).mp h
theorem zB_t0 {b : Bool} (h : ¬ zB b = 0) : b = true := by cases b; exact absurd rfl h; rfl
theorem zB_t : zB true = 1 := rfl
theorem zB_f : zB false = 0 := rfl
theorem vin_c {i : Int32} {N : Nat} {m : Int32} (hm : m.toInt = N) (h0 : ¬ i < 0) (h1 : ¬ m ≤ i) : vp_in i N := by
  rw [vp_in_iff]
  rw [Int32.lt_iff_toInt_lt] at h0
  rw [Int32.le_iff_toInt_le, hm] at h1
  have : (0 : Int32).toInt = 0 := rfl
  omega
theorem vin_o {o : Int32} {i : Int32} {N : Nat} {m : Int32} (hm : m.toInt = N) (h0 : 0 ≤ i) (h1 : i < m) : vp_in i N := by
  rw [vp_in_iff]
  rw [Int32.le_iff_toInt_le] at h0
  rw [Int32.lt_iff_toInt_lt, hm] at h1
  have : (0 : Int32).toInt = 0 := rfl
  omega
section VD
variable {X : CX} {l0 : Launch} {G0 : GG} {M : MD} {f w a b n : Nat} {μ : Mu} {pc : Nat} {ls : List (Nat × Value)} {st : List Value}
theorem v_if_eq_d {x : Int32} {off : Int} {tgt : Nat} {u v : Int32} (pj : Nat) (g : GX X l0 G0 M f w) (hd : decode M.2.1 pc = .ok (.ifCond .eq off, 3)) (ht : (pc : Int) + off = (tgt : Int)) (kt : x = 0 → V X a b n μ pj ls (.int u :: st) → V X a b n μ tgt ls st) (kf : ¬ x = 0 → V X a b n μ pj ls (.int v :: st) → V X a b n μ (pc + 3) ls st) (J : V X a b n μ pj ls (.int (if x = 0 then u else v) :: st)) : V X a b n μ pc ls (.int x :: st) := v_if_eq g hd ht (fun q => kt q (by rw [if_pos q] at J; exact J)) (fun q => kf q (by rw [if_neg q] at J; exact J))
theorem v_if_eq_dl {x : Int32} {off : Int} {tgt : Nat} {u v : Int64} (pj : Nat) (g : GX X l0 G0 M f w) (hd : decode M.2.1 pc = .ok (.ifCond .eq off, 3)) (ht : (pc : Int) + off = (tgt : Int)) (kt : x = 0 → V X a b n μ pj ls (.long u :: st) → V X a b n μ tgt ls st) (kf : ¬ x = 0 → V X a b n μ pj ls (.long v :: st) → V X a b n μ (pc + 3) ls st) (J : V X a b n μ pj ls (.long (if x = 0 then u else v) :: st)) : V X a b n μ pc ls (.int x :: st) := v_if_eq g hd ht (fun q => kt q (by rw [if_pos q] at J; exact J)) (fun q => kf q (by rw [if_neg q] at J; exact J))
theorem v_icmp_eq_d {x y : Int32} {off : Int} {tgt : Nat} {u v : Int32} (pj : Nat) (g : GX X l0 G0 M f w) (hd : decode M.2.1 pc = .ok (.if_icmp .eq off, 3)) (ht : (pc : Int) + off = (tgt : Int)) (kt : x = y → V X a b n μ pj ls (.int u :: st) → V X a b n μ tgt ls st) (kf : ¬ x = y → V X a b n μ pj ls (.int v :: st) → V X a b n μ (pc + 3) ls st) (J : V X a b n μ pj ls (.int (if x = y then u else v) :: st)) : V X a b n μ pc ls (.int y :: .int x :: st) := v_icmp_eq g hd ht (fun q => kt q (by rw [if_pos q] at J; exact J)) (fun q => kf q (by rw [if_neg q] at J; exact J))
theorem v_icmp_eq_dl {x y : Int32} {off : Int} {tgt : Nat} {u v : Int64} (pj : Nat) (g : GX X l0 G0 M f w) (hd : decode M.2.1 pc = .ok (.if_icmp .eq off, 3)) (ht : (pc : Int) + off = (tgt : Int)) (kt : x = y → V X a b n μ pj ls (.long u :: st) → V X a b n μ tgt ls st) (kf : ¬ x = y → V X a b n μ pj ls (.long v :: st) → V X a b n μ (pc + 3) ls st) (J : V X a b n μ pj ls (.long (if x = y then u else v) :: st)) : V X a b n μ pc ls (.int y :: .int x :: st) := v_icmp_eq g hd ht (fun q => kt q (by rw [if_pos q] at J; exact J)) (fun q => kf q (by rw [if_neg q] at J; exact J))
theorem v_if_ne_d {x : Int32} {off : Int} {tgt : Nat} {u v : Int32} (pj : Nat) (g : GX X l0 G0 M f w) (hd : decode M.2.1 pc = .ok (.ifCond .ne off, 3)) (ht : (pc : Int) + off = (tgt : Int)) (kt : ¬ x = 0 → V X a b n μ pj ls (.int u :: st) → V X a b n μ tgt ls st) (kf : x = 0 → V X a b n μ pj ls (.int v :: st) → V X a b n μ (pc + 3) ls st) (J : V X a b n μ pj ls (.int (if x = 0 then v else u) :: st)) : V X a b n μ pc ls (.int x :: st) := v_if_ne g hd ht (fun q => kt q (by rw [if_neg q] at J; exact J)) (fun q => kf q (by rw [if_pos q] at J; exact J))
theorem v_if_ne_dl {x : Int32} {off : Int} {tgt : Nat} {u v : Int64} (pj : Nat) (g : GX X l0 G0 M f w) (hd : decode M.2.1 pc = .ok (.ifCond .ne off, 3)) (ht : (pc : Int) + off = (tgt : Int)) (kt : ¬ x = 0 → V X a b n μ pj ls (.long u :: st) → V X a b n μ tgt ls st) (kf : x = 0 → V X a b n μ pj ls (.long v :: st) → V X a b n μ (pc + 3) ls st) (J : V X a b n μ pj ls (.long (if x = 0 then v else u) :: st)) : V X a b n μ pc ls (.int x :: st) := v_if_ne g hd ht (fun q => kt q (by rw [if_neg q] at J; exact J)) (fun q => kf q (by rw [if_pos q] at J; exact J))
theorem v_icmp_ne_d {x y : Int32} {off : Int} {tgt : Nat} {u v : Int32} (pj : Nat) (g : GX X l0 G0 M f w) (hd : decode M.2.1 pc = .ok (.if_icmp .ne off, 3)) (ht : (pc : Int) + off = (tgt : Int)) (kt : ¬ x = y → V X a b n μ pj ls (.int u :: st) → V X a b n μ tgt ls st) (kf : x = y → V X a b n μ pj ls (.int v :: st) → V X a b n μ (pc + 3) ls st) (J : V X a b n μ pj ls (.int (if x = y then v else u) :: st)) : V X a b n μ pc ls (.int y :: .int x :: st) := v_icmp_ne g hd ht (fun q => kt q (by rw [if_neg q] at J; exact J)) (fun q => kf q (by rw [if_pos q] at J; exact J))
theorem v_icmp_ne_dl {x y : Int32} {off : Int} {tgt : Nat} {u v : Int64} (pj : Nat) (g : GX X l0 G0 M f w) (hd : decode M.2.1 pc = .ok (.if_icmp .ne off, 3)) (ht : (pc : Int) + off = (tgt : Int)) (kt : ¬ x = y → V X a b n μ pj ls (.long u :: st) → V X a b n μ tgt ls st) (kf : x = y → V X a b n μ pj ls (.long v :: st) → V X a b n μ (pc + 3) ls st) (J : V X a b n μ pj ls (.long (if x = y then v else u) :: st)) : V X a b n μ pc ls (.int y :: .int x :: st) := v_icmp_ne g hd ht (fun q => kt q (by rw [if_neg q] at J; exact J)) (fun q => kf q (by rw [if_pos q] at J; exact J))
theorem v_if_lt_d {x : Int32} {off : Int} {tgt : Nat} {u v : Int32} (pj : Nat) (g : GX X l0 G0 M f w) (hd : decode M.2.1 pc = .ok (.ifCond .lt off, 3)) (ht : (pc : Int) + off = (tgt : Int)) (kt : x < 0 → V X a b n μ pj ls (.int u :: st) → V X a b n μ tgt ls st) (kf : ¬ x < 0 → V X a b n μ pj ls (.int v :: st) → V X a b n μ (pc + 3) ls st) (J : V X a b n μ pj ls (.int (if x < 0 then u else v) :: st)) : V X a b n μ pc ls (.int x :: st) := v_if_lt g hd ht (fun q => kt q (by rw [if_pos q] at J; exact J)) (fun q => kf q (by rw [if_neg q] at J; exact J))
theorem v_if_lt_dl {x : Int32} {off : Int} {tgt : Nat} {u v : Int64} (pj : Nat) (g : GX X l0 G0 M f w) (hd : decode M.2.1 pc = .ok (.ifCond .lt off, 3)) (ht : (pc : Int) + off = (tgt : Int)) (kt : x < 0 → V X a b n μ pj ls (.long u :: st) → V X a b n μ tgt ls st) (kf : ¬ x < 0 → V X a b n μ pj ls (.long v :: st) → V X a b n μ (pc + 3) ls st) (J : V X a b n μ pj ls (.long (if x < 0 then u else v) :: st)) : V X a b n μ pc ls (.int x :: st) := v_if_lt g hd ht (fun q => kt q (by rw [if_pos q] at J; exact J)) (fun q => kf q (by rw [if_neg q] at J; exact J))
theorem v_icmp_lt_d {x y : Int32} {off : Int} {tgt : Nat} {u v : Int32} (pj : Nat) (g : GX X l0 G0 M f w) (hd : decode M.2.1 pc = .ok (.if_icmp .lt off, 3)) (ht : (pc : Int) + off = (tgt : Int)) (kt : x < y → V X a b n μ pj ls (.int u :: st) → V X a b n μ tgt ls st) (kf : ¬ x < y → V X a b n μ pj ls (.int v :: st) → V X a b n μ (pc + 3) ls st) (J : V X a b n μ pj ls (.int (if x < y then u else v) :: st)) : V X a b n μ pc ls (.int y :: .int x :: st) := v_icmp_lt g hd ht (fun q => kt q (by rw [if_pos q] at J; exact J)) (fun q => kf q (by rw [if_neg q] at J; exact J))
theorem v_icmp_lt_dl {x y : Int32} {off : Int} {tgt : Nat} {u v : Int64} (pj : Nat) (g : GX X l0 G0 M f w) (hd : decode M.2.1 pc = .ok (.if_icmp .lt off, 3)) (ht : (pc : Int) + off = (tgt : Int)) (kt : x < y → V X a b n μ pj ls (.long u :: st) → V X a b n μ tgt ls st) (kf : ¬ x < y → V X a b n μ pj ls (.long v :: st) → V X a b n μ (pc + 3) ls st) (J : V X a b n μ pj ls (.long (if x < y then u else v) :: st)) : V X a b n μ pc ls (.int y :: .int x :: st) := v_icmp_lt g hd ht (fun q => kt q (by rw [if_pos q] at J; exact J)) (fun q => kf q (by rw [if_neg q] at J; exact J))
theorem v_if_ge_d {x : Int32} {off : Int} {tgt : Nat} {u v : Int32} (pj : Nat) (g : GX X l0 G0 M f w) (hd : decode M.2.1 pc = .ok (.ifCond .ge off, 3)) (ht : (pc : Int) + off = (tgt : Int)) (kt : 0 ≤ x → V X a b n μ pj ls (.int u :: st) → V X a b n μ tgt ls st) (kf : ¬ 0 ≤ x → V X a b n μ pj ls (.int v :: st) → V X a b n μ (pc + 3) ls st) (J : V X a b n μ pj ls (.int (if 0 ≤ x then u else v) :: st)) : V X a b n μ pc ls (.int x :: st) := v_if_ge g hd ht (fun q => kt q (by rw [if_pos q] at J; exact J)) (fun q => kf q (by rw [if_neg q] at J; exact J))
theorem v_if_ge_dl {x : Int32} {off : Int} {tgt : Nat} {u v : Int64} (pj : Nat) (g : GX X l0 G0 M f w) (hd : decode M.2.1 pc = .ok (.ifCond .ge off, 3)) (ht : (pc : Int) + off = (tgt : Int)) (kt : 0 ≤ x → V X a b n μ pj ls (.long u :: st) → V X a b n μ tgt ls st) (kf : ¬ 0 ≤ x → V X a b n μ pj ls (.long v :: st) → V X a b n μ (pc + 3) ls st) (J : V X a b n μ pj ls (.long (if 0 ≤ x then u else v) :: st)) : V X a b n μ pc ls (.int x :: st) := v_if_ge g hd ht (fun q => kt q (by rw [if_pos q] at J; exact J)) (fun q => kf q (by rw [if_neg q] at J; exact J))
theorem v_icmp_ge_d {x y : Int32} {off : Int} {tgt : Nat} {u v : Int32} (pj : Nat) (g : GX X l0 G0 M f w) (hd : decode M.2.1 pc = .ok (.if_icmp .ge off, 3)) (ht : (pc : Int) + off = (tgt : Int)) (kt : y ≤ x → V X a b n μ pj ls (.int u :: st) → V X a b n μ tgt ls st) (kf : ¬ y ≤ x → V X a b n μ pj ls (.int v :: st) → V X a b n μ (pc + 3) ls st) (J : V X a b n μ pj ls (.int (if y ≤ x then u else v) :: st)) : V X a b n μ pc ls (.int y :: .int x :: st) := v_icmp_ge g hd ht (fun q => kt q (by rw [if_pos q] at J; exact J)) (fun q => kf q (by rw [if_neg q] at J; exact J))
theorem v_icmp_ge_dl {x y : Int32} {off : Int} {tgt : Nat} {u v : Int64} (pj : Nat) (g : GX X l0 G0 M f w) (hd : decode M.2.1 pc = .ok (.if_icmp .ge off, 3)) (ht : (pc : Int) + off = (tgt : Int)) (kt : y ≤ x → V X a b n μ pj ls (.long u :: st) → V X a b n μ tgt ls st) (kf : ¬ y ≤ x → V X a b n μ pj ls (.long v :: st) → V X a b n μ (pc + 3) ls st) (J : V X a b n μ pj ls (.long (if y ≤ x then u else v) :: st)) : V X a b n μ pc ls (.int y :: .int x :: st) := v_icmp_ge g hd ht (fun q => kt q (by rw [if_pos q] at J; exact J)) (fun q => kf q (by rw [if_neg q] at J; exact J))
theorem v_if_gt_d {x : Int32} {off : Int} {tgt : Nat} {u v : Int32} (pj : Nat) (g : GX X l0 G0 M f w) (hd : decode M.2.1 pc = .ok (.ifCond .gt off, 3)) (ht : (pc : Int) + off = (tgt : Int)) (kt : 0 < x → V X a b n μ pj ls (.int u :: st) → V X a b n μ tgt ls st) (kf : ¬ 0 < x → V X a b n μ pj ls (.int v :: st) → V X a b n μ (pc + 3) ls st) (J : V X a b n μ pj ls (.int (if 0 < x then u else v) :: st)) : V X a b n μ pc ls (.int x :: st) := v_if_gt g hd ht (fun q => kt q (by rw [if_pos q] at J; exact J)) (fun q => kf q (by rw [if_neg q] at J; exact J))
theorem v_if_gt_dl {x : Int32} {off : Int} {tgt : Nat} {u v : Int64} (pj : Nat) (g : GX X l0 G0 M f w) (hd : decode M.2.1 pc = .ok (.ifCond .gt off, 3)) (ht : (pc : Int) + off = (tgt : Int)) (kt : 0 < x → V X a b n μ pj ls (.long u :: st) → V X a b n μ tgt ls st) (kf : ¬ 0 < x → V X a b n μ pj ls (.long v :: st) → V X a b n μ (pc + 3) ls st) (J : V X a b n μ pj ls (.long (if 0 < x then u else v) :: st)) : V X a b n μ pc ls (.int x :: st) := v_if_gt g hd ht (fun q => kt q (by rw [if_pos q] at J; exact J)) (fun q => kf q (by rw [if_neg q] at J; exact J))
theorem v_icmp_gt_d {x y : Int32} {off : Int} {tgt : Nat} {u v : Int32} (pj : Nat) (g : GX X l0 G0 M f w) (hd : decode M.2.1 pc = .ok (.if_icmp .gt off, 3)) (ht : (pc : Int) + off = (tgt : Int)) (kt : y < x → V X a b n μ pj ls (.int u :: st) → V X a b n μ tgt ls st) (kf : ¬ y < x → V X a b n μ pj ls (.int v :: st) → V X a b n μ (pc + 3) ls st) (J : V X a b n μ pj ls (.int (if y < x then u else v) :: st)) : V X a b n μ pc ls (.int y :: .int x :: st) := v_icmp_gt g hd ht (fun q => kt q (by rw [if_pos q] at J; exact J)) (fun q => kf q (by rw [if_neg q] at J; exact J))
theorem v_icmp_gt_dl {x y : Int32} {off : Int} {tgt : Nat} {u v : Int64} (pj : Nat) (g : GX X l0 G0 M f w) (hd : decode M.2.1 pc = .ok (.if_icmp .gt off, 3)) (ht : (pc : Int) + off = (tgt : Int)) (kt : y < x → V X a b n μ pj ls (.long u :: st) → V X a b n μ tgt ls st) (kf : ¬ y < x → V X a b n μ pj ls (.long v :: st) → V X a b n μ (pc + 3) ls st) (J : V X a b n μ pj ls (.long (if y < x then u else v) :: st)) : V X a b n μ pc ls (.int y :: .int x :: st) := v_icmp_gt g hd ht (fun q => kt q (by rw [if_pos q] at J; exact J)) (fun q => kf q (by rw [if_neg q] at J; exact J))
theorem v_if_le_d {x : Int32} {off : Int} {tgt : Nat} {u v : Int32} (pj : Nat) (g : GX X l0 G0 M f w) (hd : decode M.2.1 pc = .ok (.ifCond .le off, 3)) (ht : (pc : Int) + off = (tgt : Int)) (kt : x ≤ 0 → V X a b n μ pj ls (.int u :: st) → V X a b n μ tgt ls st) (kf : ¬ x ≤ 0 → V X a b n μ pj ls (.int v :: st) → V X a b n μ (pc + 3) ls st) (J : V X a b n μ pj ls (.int (if x ≤ 0 then u else v) :: st)) : V X a b n μ pc ls (.int x :: st) := v_if_le g hd ht (fun q => kt q (by rw [if_pos q] at J; exact J)) (fun q => kf q (by rw [if_neg q] at J; exact J))
theorem v_if_le_dl {x : Int32} {off : Int} {tgt : Nat} {u v : Int64} (pj : Nat) (g : GX X l0 G0 M f w) (hd : decode M.2.1 pc = .ok (.ifCond .le off, 3)) (ht : (pc : Int) + off = (tgt : Int)) (kt : x ≤ 0 → V X a b n μ pj ls (.long u :: st) → V X a b n μ tgt ls st) (kf : ¬ x ≤ 0 → V X a b n μ pj ls (.long v :: st) → V X a b n μ (pc + 3) ls st) (J : V X a b n μ pj ls (.long (if x ≤ 0 then u else v) :: st)) : V X a b n μ pc ls (.int x :: st) := v_if_le g hd ht (fun q => kt q (by rw [if_pos q] at J; exact J)) (fun q => kf q (by rw [if_neg q] at J; exact J))
theorem v_icmp_le_d {x y : Int32} {off : Int} {tgt : Nat} {u v : Int32} (pj : Nat) (g : GX X l0 G0 M f w) (hd : decode M.2.1 pc = .ok (.if_icmp .le off, 3)) (ht : (pc : Int) + off = (tgt : Int)) (kt : x ≤ y → V X a b n μ pj ls (.int u :: st) → V X a b n μ tgt ls st) (kf : ¬ x ≤ y → V X a b n μ pj ls (.int v :: st) → V X a b n μ (pc + 3) ls st) (J : V X a b n μ pj ls (.int (if x ≤ y then u else v) :: st)) : V X a b n μ pc ls (.int y :: .int x :: st) := v_icmp_le g hd ht (fun q => kt q (by rw [if_pos q] at J; exact J)) (fun q => kf q (by rw [if_neg q] at J; exact J))
theorem v_icmp_le_dl {x y : Int32} {off : Int} {tgt : Nat} {u v : Int64} (pj : Nat) (g : GX X l0 G0 M f w) (hd : decode M.2.1 pc = .ok (.if_icmp .le off, 3)) (ht : (pc : Int) + off = (tgt : Int)) (kt : x ≤ y → V X a b n μ pj ls (.long u :: st) → V X a b n μ tgt ls st) (kf : ¬ x ≤ y → V X a b n μ pj ls (.long v :: st) → V X a b n μ (pc + 3) ls st) (J : V X a b n μ pj ls (.long (if x ≤ y then u else v) :: st)) : V X a b n μ pc ls (.int y :: .int x :: st) := v_icmp_le g hd ht (fun q => kt q (by rw [if_pos q] at J; exact J)) (fun q => kf q (by rw [if_neg q] at J; exact J))
theorem v_cret {v : Int32} {r : Option Value} {n' : Nat} {μ' : Mu} (g : GX X l0 G0 M f w) (E : EX X r n' μ') (hd : decode M.2.1 pc = .ok (.ireturn, 1)) (hret : M.2.2.2 = some .char) (hv : narrow .char (.int v) = .int v) (hq : r = some (.int v) ∧ n' = n ∧ μ' = μ) : V X a b n μ pc ls [.int v] := by
  obtain ⟨p, l, e, R, s, m, args, below, meth, c, Z, G⟩ := X
  obtain ⟨rfl, rfl, hx, hb, hr, hml, hown, hts, hlk, hnm, hK, hB, hf, hw⟩ := g
  obtain ⟨rfl, rfl, rfl⟩ := hq
  intro H locs cells slots L h1 h2 h3 h4 h5
  obtain rfl : Z = _ := E
  refine W.widen (k := R.cells) (n := R.slots) (by omega) (by omega) ?_
  exact W.zret hx hb (hr.trans hret) hv (fun t ht hW => ⟨rfl, by rw [ht]; exact h3, h4.F ht⟩) h4.2.2 hd (hlocks := hlk)
/-- a loop's head: what holds of every run of it -/
theorem v_at {Pp : Prop} (h : Pp) (k : Pp → V X a b n μ pc ls st) : V X a b n μ pc ls st := k h
end VD
end
section
/-! CLASS, LEAVES THAT READ: contracts over any memory that holds the cells -/
def ctn (F : Int64) (x : Int32) : Bool := if x < 0 then false else if 36 ≤ x then false else if lg_cmp ((F.toUInt64 >>> (x.toInt64.toUInt64 &&& Int64.toUInt64 63)).toInt64 &&& 1) 0 = 0 then false else true
def bitC (x : Int32) : Int64 := if x < 0 then 0 else if 36 ≤ x then 0 else 1 <<< (x.toInt64 &&& 63)
def withinC (x lo hi : Int32) : Bool := if x < lo then false else if hi < x then false else true
def isOwnC (p : Int32) : Bool := if p < 0 then false else if 4 ≤ p then false else true
def holdsC (li wi x : Int32) : Bool := if x < 0 then false else if li * wi ≤ x then false else if 36 ≤ x then false else true
def groundC (F H Br : Int64) (x : Int32) : Int32 := if ctn F x = true then 0 else if ctn H x = true then 1 else if ctn Br x = true then 2 else 3
def ownerC (ow : Nat → Int32) (x : Int32) : Int32 := if x < 0 then 0 else if 36 ≤ x then 0 else ow x.toNatClampNeg
def nextC (li wi x way : Int32) : Int32 := if wi < 1 then -4 else if x < 0 then -4 else if li * wi ≤ x then -4 else if 0 ≤ way then (if way = 0 then (if x < wi then -4 else x - wi) else if way = 1 then (if wi ≤ x % wi + 1 then -4 else x + 1) else if way = 2 then (if li * wi ≤ x + wi then -4 else x + wi) else (if x % wi ≤ 0 then -4 else x - 1)) else -4
def besC (li wi x : Int32) (cs : Int64) : Bool := if ctn cs (nextC li wi x 0) = true then true else if ctn cs (nextC li wi x 1) = true then true else if ctn cs (nextC li wi x 2) = true then true else if ctn cs (nextC li wi x 3) = true then true else false
def treeAtC (sz : Int32) (t : Nat → Int32) (k : Int32) : Int32 := if k < 0 then -4 else if sz ≤ k then -4 else if 4 ≤ k then -4 else t k.toNatClampNeg
def rowCellsC (sz : Int32) (t : Nat → Int32) : Int64 := if sz ≤ 0 then 0 else if sz ≤ 1 then (0 ||| bitC (t 0)) else if sz ≤ 2 then ((0 ||| bitC (t 0)) ||| bitC (t 1)) else if sz ≤ 3 then (((0 ||| bitC (t 0)) ||| bitC (t 1)) ||| bitC (t 2)) else ((((0 ||| bitC (t 0)) ||| bitC (t 1)) ||| bitC (t 2)) ||| bitC (t 3))
def rowAsC (h sz : Int32) (t : Nat → Int32) (h' sz' : Int32) (t' : Nat → Int32) : Bool := if ¬ h = h' then false else if ¬ sz = sz' then false else if sz ≤ 0 then true else if ¬ t 0 = t' 0 then false else if sz ≤ 1 then true else if ¬ t 1 = t' 1 then false else if sz ≤ 2 then true else if ¬ t 2 = t' 2 then false else if sz ≤ 3 then true else if ¬ t 3 = t' 3 then false else true
def orHoldsC (rc r : Int32) : Bool := if r < 0 then false else if rc ≤ r then false else if 3 ≤ r then false else true
def openC (F Hd Br di ta : Int64) (kind : Int32) : Int64 := (((F ||| Hd) ||| (if kind = 3 then Br else 0)) &&& (di ^^^ (-1))) &&& (ta ^^^ (-1))
def turnC (kind : Int32) : Int32 := if kind = 1 then 3 else 1
def wayC2 (li wi : Int32) (op : Int64) (fst d t o : Int32) : Int32 := if ctn op (nextC li wi fst d) = true then d else if ctn op (nextC li wi fst t) = true then t else if ctn op (nextC li wi fst o) = true then o else -4
def wayC (F Hd Br : Int64) (li wi : Int32) (di ta : Int64) (yr kind hd fst : Int32) : Int32 := if kind = 2 ∧ ¬ yr % 2 = 0 then -4 else wayC2 li wi (openC F Hd Br di ta kind) fst hd ((hd + turnC kind) % 4) (((hd + 4) - turnC kind) % 4)
def digC (F di ta : Int64) (x : Int32) : Bool := ctn ((F &&& (di ^^^ (-1))) &&& (ta ^^^ (-1))) x
abbrev landCe (ow : Nat) (F Hd Br : Int64) (li wi : Int32) : Ce := .inr (0, [.ref ow, .long F, .long Hd, .long Br, .int li, .int wi])
abbrev rowCe (tr : Nat) (sz kd hd be : Int32) : Ce := .inr (4, [.ref tr, .int sz, .int kd, .int hd, .int be])
abbrev orCe (la rs ow : Nat) (rc yr : Int32) (di le ta en : Int64) : Ce := .inr (1, [.ref la, .ref rs, .ref ow, .int rc, .int yr, .long di, .long le, .long ta, .long en])
abbrev iA (k : Nat) (f : Nat → Int32) : Ce := .inl (0, k, .inl f)
abbrev rA (k : Nat) (f : Nat → Option Nat) : Ce := .inl (3, k, .inr (.inr (.inr (.inr f))))
section C1
variable {l : Launch} {G : GG} {n : Nat} {μ : Mu}
theorem k_X5_contains (F : Int64) (x : Int32) : Ctr l G 0 0 0 0 mX5_contains [.long F, .int x] n (μ) (some (.int (zB (ctn F x)))) n (μ) := by
  refine Ctr.of (by decide +kernel) rfl (fun X g E => ?_)
  refine v_sub (ls' := [(0, .long F), (2, .int x)]) [0, 1] rfl ?_
  refine v_iload_n g dX5_contains_0 1 rfl ?_
  refine v_if_lt (tgt := 24) g dX5_contains_1 (by decide) (fun h1 => ?_) (fun h1 => ?_)
  · skip
    refine v_iconst (v := 0) g dX5_contains_24 (by decide) ?_
    exact v_zret g E dX5_contains_25 rfl rfl ⟨by first | (simp [ctn, zB, *]; done) | (simp_all [ctn, zB]; done), rfl, rfl⟩
  · skip
    refine v_iload_n g dX5_contains_4 1 rfl ?_
    refine v_bipush (v := 36) g dX5_contains_5 (by decide) ?_
    refine v_icmp_ge (tgt := 24) g dX5_contains_7 (by decide) (fun h7 => ?_) (fun h7 => ?_)
    · skip
      refine v_iconst (v := 0) g dX5_contains_24 (by decide) ?_
      exact v_zret g E dX5_contains_25 rfl rfl ⟨by first | (simp [ctn, zB, *]; done) | (simp_all [ctn, zB]; done), rfl, rfl⟩
    · skip
      refine v_lload_n g dX5_contains_10 0 rfl ?_
      refine v_iload_n g dX5_contains_11 1 rfl ?_
      refine v_lushr g dX5_contains_12 ?_
      refine v_lconst (v := 1) g dX5_contains_13 (by decide) ?_
      refine v_land g dX5_contains_14 ?_
      refine v_lconst (v := 0) g dX5_contains_15 (by decide) ?_
      refine v_lcmp g dX5_contains_16 ?_
      refine v_if_eq (tgt := 24) g dX5_contains_17 (by decide) (fun h17 => ?_) (fun h17 => ?_)
      · skip
        refine v_iconst (v := 0) g dX5_contains_24 (by decide) ?_
        exact v_zret g E dX5_contains_25 rfl rfl ⟨by first | (simp [ctn, zB, *]; done) | (simp_all [ctn, zB]; done), rfl, rfl⟩
      · skip
        refine v_iconst (v := 1) g dX5_contains_20 (by decide) ?_
        refine v_goto (tgt := 25) g dX5_contains_21 (by decide) ?_
        exact v_zret g E dX5_contains_25 rfl rfl ⟨by first | (simp [ctn, zB, *]; done) | (simp_all [ctn, zB]; done), rfl, rfl⟩
theorem k_X5_bit (x : Int32) : Ctr l G 0 0 0 0 mX5_bit [.int x] n (μ) (some (.long (bitC x))) n (μ) := by
  refine Ctr.of (by decide +kernel) rfl (fun X g E => ?_)
  refine v_sub (ls' := [(0, .int x)]) [0] rfl ?_
  refine v_iload_n g dX5_bit_0 0 rfl ?_
  refine v_if_lt (tgt := 16) g dX5_bit_1 (by decide) (fun h1 => ?_) (fun h1 => ?_)
  · skip
    refine v_lconst (v := 0) g dX5_bit_16 (by decide) ?_
    exact v_lret g E dX5_bit_17 rfl ⟨by first | (simp [bitC, *]; done) | (simp_all [bitC]; done), rfl, rfl⟩
  · skip
    refine v_iload_n g dX5_bit_4 0 rfl ?_
    refine v_bipush (v := 36) g dX5_bit_5 (by decide) ?_
    refine v_icmp_ge (tgt := 16) g dX5_bit_7 (by decide) (fun h7 => ?_) (fun h7 => ?_)
    · skip
      refine v_lconst (v := 0) g dX5_bit_16 (by decide) ?_
      exact v_lret g E dX5_bit_17 rfl ⟨by first | (simp [bitC, *]; done) | (simp_all [bitC]; done), rfl, rfl⟩
    · skip
      refine v_lconst (v := 1) g dX5_bit_10 (by decide) ?_
      refine v_iload_n g dX5_bit_11 0 rfl ?_
      refine v_lshl g dX5_bit_12 ?_
      refine v_goto (tgt := 17) g dX5_bit_13 (by decide) ?_
      exact v_lret g E dX5_bit_17 rfl ⟨by first | (simp [bitC, *]; done) | (simp_all [bitC]; done), rfl, rfl⟩
theorem k_X5_isWithin (x lo hi : Int32) : Ctr l G 0 0 0 0 mX5_isWithin [.int x, .int lo, .int hi] n (μ) (some (.int (zB (withinC x lo hi)))) n (μ) := by
  refine Ctr.of (by decide +kernel) rfl (fun X g E => ?_)
  refine v_sub (ls' := [(0, .int x), (1, .int lo), (2, .int hi)]) [0, 1, 2] rfl ?_
  refine v_iload_n g dX5_isWithin_0 0 rfl ?_
  refine v_iload_n g dX5_isWithin_1 1 rfl ?_
  refine v_icmp_lt (tgt := 14) g dX5_isWithin_2 (by decide) (fun h2 => ?_) (fun h2 => ?_)
  · skip
    refine v_iconst (v := 0) g dX5_isWithin_14 (by decide) ?_
    exact v_zret g E dX5_isWithin_15 rfl rfl ⟨by first | (simp [withinC, zB, *]; done) | (simp_all [withinC, zB]; done), rfl, rfl⟩
  · skip
    refine v_iload_n g dX5_isWithin_5 0 rfl ?_
    refine v_iload_n g dX5_isWithin_6 2 rfl ?_
    refine v_icmp_gt (tgt := 14) g dX5_isWithin_7 (by decide) (fun h7 => ?_) (fun h7 => ?_)
    · skip
      refine v_iconst (v := 0) g dX5_isWithin_14 (by decide) ?_
      exact v_zret g E dX5_isWithin_15 rfl rfl ⟨by first | (simp [withinC, zB, *]; done) | (simp_all [withinC, zB]; done), rfl, rfl⟩
    · skip
      refine v_iconst (v := 1) g dX5_isWithin_10 (by decide) ?_
      refine v_goto (tgt := 15) g dX5_isWithin_11 (by decide) ?_
      exact v_zret g E dX5_isWithin_15 rfl rfl ⟨by first | (simp [withinC, zB, *]; done) | (simp_all [withinC, zB]; done), rfl, rfl⟩
theorem k_X5_isOwner (x : Int32) : Ctr l G 0 0 0 0 mX5_isOwner [.int x] n (μ) (some (.int (zB (isOwnC x)))) n (μ) := by
  refine Ctr.of (by decide +kernel) rfl (fun X g E => ?_)
  refine v_sub (ls' := [(0, .int x)]) [0] rfl ?_
  refine v_iload_n g dX5_isOwner_0 0 rfl ?_
  refine v_if_lt (tgt := 13) g dX5_isOwner_1 (by decide) (fun h1 => ?_) (fun h1 => ?_)
  · skip
    refine v_iconst (v := 0) g dX5_isOwner_13 (by decide) ?_
    exact v_zret g E dX5_isOwner_14 rfl rfl ⟨by first | (simp [isOwnC, zB, *]; done) | (simp_all [isOwnC, zB]; done), rfl, rfl⟩
  · skip
    refine v_iload_n g dX5_isOwner_4 0 rfl ?_
    refine v_iconst (v := 4) g dX5_isOwner_5 (by decide) ?_
    refine v_icmp_ge (tgt := 13) g dX5_isOwner_6 (by decide) (fun h6 => ?_) (fun h6 => ?_)
    · skip
      refine v_iconst (v := 0) g dX5_isOwner_13 (by decide) ?_
      exact v_zret g E dX5_isOwner_14 rfl rfl ⟨by first | (simp [isOwnC, zB, *]; done) | (simp_all [isOwnC, zB]; done), rfl, rfl⟩
    · skip
      refine v_iconst (v := 1) g dX5_isOwner_9 (by decide) ?_
      refine v_goto (tgt := 14) g dX5_isOwner_10 (by decide) ?_
      exact v_zret g E dX5_isOwner_14 rfl rfl ⟨by first | (simp [isOwnC, zB, *]; done) | (simp_all [isOwnC, zB]; done), rfl, rfl⟩
theorem k_X0_cells {lo ow : Nat} {F Hd Br : Int64} {li wi : Int32} (hL : μ lo = some (landCe ow F Hd Br li wi)) : Ctr l G 0 0 0 0 mX0_cells [.ref lo] n (μ) (some (.int (li * wi))) n (μ) := by
  refine Ctr.of (by decide +kernel) rfl (fun X g E => ?_)
  refine v_sub (ls' := [(0, .ref lo)]) [0] rfl ?_
  refine v_aload_n g dX0_cells_0 0 rfl ?_
  refine v_get g dX0_cells_1 fl_RX0_25 hL rfl ?_
  refine v_aload_n g dX0_cells_4 0 rfl ?_
  refine v_get g dX0_cells_5 fl_RX0_29 hL rfl ?_
  refine v_imul g dX0_cells_8 ?_
  exact v_iret g E dX0_cells_9 rfl ⟨by rfl, rfl, rfl⟩
theorem k_X0_holds {lo ow : Nat} {F Hd Br : Int64} {li wi : Int32} (hL : μ lo = some (landCe ow F Hd Br li wi)) (x : Int32) : Ctr l G 0 0 0 0 mX0_holds [.ref lo, .int x] n (μ) (some (.int (zB (holdsC li wi x)))) n (μ) := by
  refine Ctr.of (by decide +kernel) rfl (fun X g E => ?_)
  refine v_sub (ls' := [(0, .ref lo), (1, .int x)]) [0, 1] rfl ?_
  refine v_iload_n g dX0_holds_0 1 rfl ?_
  refine v_if_lt (tgt := 27) g dX0_holds_1 (by decide) (fun h1 => ?_) (fun h1 => ?_)
  · skip
    refine v_iconst (v := 0) g dX0_holds_27 (by decide) ?_
    exact v_zret g E dX0_holds_28 rfl rfl ⟨by first | (simp [holdsC, zB, *]; done) | (simp_all [holdsC, zB]; done), rfl, rfl⟩
  · skip
    refine v_iload_n g dX0_holds_4 1 rfl ?_
    refine v_aload_n g dX0_holds_5 0 rfl ?_
    refine v_get g dX0_holds_6 fl_RX0_25 hL rfl ?_
    refine v_aload_n g dX0_holds_9 0 rfl ?_
    refine v_get g dX0_holds_10 fl_RX0_29 hL rfl ?_
    refine v_imul g dX0_holds_13 ?_
    refine v_icmp_ge (tgt := 27) g dX0_holds_14 (by decide) (fun h14 => ?_) (fun h14 => ?_)
    · skip
      refine v_iconst (v := 0) g dX0_holds_27 (by decide) ?_
      exact v_zret g E dX0_holds_28 rfl rfl ⟨by first | (simp [holdsC, zB, *]; done) | (simp_all [holdsC, zB]; done), rfl, rfl⟩
    · skip
      refine v_iload_n g dX0_holds_17 1 rfl ?_
      refine v_bipush (v := 36) g dX0_holds_18 (by decide) ?_
      refine v_icmp_ge (tgt := 27) g dX0_holds_20 (by decide) (fun h20 => ?_) (fun h20 => ?_)
      · skip
        refine v_iconst (v := 0) g dX0_holds_27 (by decide) ?_
        exact v_zret g E dX0_holds_28 rfl rfl ⟨by first | (simp [holdsC, zB, *]; done) | (simp_all [holdsC, zB]; done), rfl, rfl⟩
      · skip
        refine v_iconst (v := 1) g dX0_holds_23 (by decide) ?_
        refine v_goto (tgt := 28) g dX0_holds_24 (by decide) ?_
        exact v_zret g E dX0_holds_28 rfl rfl ⟨by first | (simp [holdsC, zB, *]; done) | (simp_all [holdsC, zB]; done), rfl, rfl⟩
theorem k_X0_groundOf {lo ow : Nat} {F Hd Br : Int64} {li wi : Int32} (hL : μ lo = some (landCe ow F Hd Br li wi)) (x : Int32) : Ctr l G 1 22 0 0 mX0_groundOf [.ref lo, .int x] n (μ) (some (.int (groundC F Hd Br x))) n (μ) := by
  refine Ctr.of (by decide +kernel) rfl (fun X g E => ?_)
  refine v_sub (ls' := [(0, .ref lo), (1, .int x)]) [0, 1] rfl ?_
  refine v_aload_n g dX0_groundOf_0 0 rfl ?_
  refine v_get g dX0_groundOf_1 fl_RX0_15 hL rfl ?_
  refine v_iload_n g dX0_groundOf_4 1 rfl ?_
  refine v_callSN (As := [.long F, .int x]) (r := some (.int (zB (ctn F x)))) g dX0_groundOf_5 (k_X5_contains F x) cl_X5_contains nl_RX0_32 sm_X5_contains rfl ⟨rfl, rfl, rfl⟩ ?_
  refine v_if_eq (tgt := 13) g dX0_groundOf_8 (by decide) (fun h8 => ?_) (fun h8 => ?_)
  · skip
    have h8 := zB_f0 h8
    refine v_aload_n g dX0_groundOf_13 0 rfl ?_
    refine v_get g dX0_groundOf_14 fl_RX0_19 hL rfl ?_
    refine v_iload_n g dX0_groundOf_17 1 rfl ?_
    refine v_callSN (As := [.long Hd, .int x]) (r := some (.int (zB (ctn Hd x)))) g dX0_groundOf_18 (k_X5_contains Hd x) cl_X5_contains nl_RX0_32 sm_X5_contains rfl ⟨rfl, rfl, rfl⟩ ?_
    refine v_if_eq (tgt := 26) g dX0_groundOf_21 (by decide) (fun h21 => ?_) (fun h21 => ?_)
    · skip
      have h21 := zB_f0 h21
      refine v_aload_n g dX0_groundOf_26 0 rfl ?_
      refine v_get g dX0_groundOf_27 fl_RX0_22 hL rfl ?_
      refine v_iload_n g dX0_groundOf_30 1 rfl ?_
      refine v_callSN (As := [.long Br, .int x]) (r := some (.int (zB (ctn Br x)))) g dX0_groundOf_31 (k_X5_contains Br x) cl_X5_contains nl_RX0_32 sm_X5_contains rfl ⟨rfl, rfl, rfl⟩ ?_
      refine v_if_eq (tgt := 41) g dX0_groundOf_34 (by decide) (fun h34 => ?_) (fun h34 => ?_)
      · skip
        have h34 := zB_f0 h34
        refine v_iconst (v := 3) g dX0_groundOf_41 (by decide) ?_
        exact v_iret g E dX0_groundOf_42 rfl ⟨by first | (simp [groundC, *]; done) | (simp_all [groundC]; done), rfl, rfl⟩
      · skip
        have h34 := zB_t0 h34
        refine v_iconst (v := 2) g dX0_groundOf_37 (by decide) ?_
        refine v_goto (tgt := 42) g dX0_groundOf_38 (by decide) ?_
        exact v_iret g E dX0_groundOf_42 rfl ⟨by first | (simp [groundC, *]; done) | (simp_all [groundC]; done), rfl, rfl⟩
    · skip
      have h21 := zB_t0 h21
      refine v_iconst (v := 1) g dX0_groundOf_24 (by decide) ?_
      exact v_iret g E dX0_groundOf_25 rfl ⟨by first | (simp [groundC, *]; done) | (simp_all [groundC]; done), rfl, rfl⟩
  · skip
    have h8 := zB_t0 h8
    refine v_iconst (v := 0) g dX0_groundOf_11 (by decide) ?_
    exact v_iret g E dX0_groundOf_12 rfl ⟨by first | (simp [groundC, *]; done) | (simp_all [groundC]; done), rfl, rfl⟩
theorem k_X0_ownerOf {lo ow : Nat} {F Hd Br : Int64} {li wi : Int32} (hL : μ lo = some (landCe ow F Hd Br li wi)) {o : Nat → Int32} (hO : μ ow = some (iA 36 o)) (x : Int32) : Ctr l G 0 0 0 0 mX0_ownerOf [.ref lo, .int x] n (μ) (some (.int (ownerC o x))) n (μ) := by
  refine Ctr.of (by decide +kernel) rfl (fun X g E => ?_)
  refine v_sub (ls' := [(0, .ref lo), (1, .int x)]) [0, 1] rfl ?_
  refine v_iload_n g dX0_ownerOf_0 1 rfl ?_
  refine v_if_lt (tgt := 19) g dX0_ownerOf_1 (by decide) (fun h1 => ?_) (fun h1 => ?_)
  · skip
    refine v_iconst (v := 0) g dX0_ownerOf_19 (by decide) ?_
    exact v_iret g E dX0_ownerOf_20 rfl ⟨by first | (simp [ownerC, *]; done) | (simp_all [ownerC]; done), rfl, rfl⟩
  · skip
    refine v_iload_n g dX0_ownerOf_4 1 rfl ?_
    refine v_bipush (v := 36) g dX0_ownerOf_5 (by decide) ?_
    refine v_icmp_ge (tgt := 19) g dX0_ownerOf_7 (by decide) (fun h7 => ?_) (fun h7 => ?_)
    · skip
      refine v_iconst (v := 0) g dX0_ownerOf_19 (by decide) ?_
      exact v_iret g E dX0_ownerOf_20 rfl ⟨by first | (simp [ownerC, *]; done) | (simp_all [ownerC]; done), rfl, rfl⟩
    · skip
      refine v_aload_n g dX0_ownerOf_10 0 rfl ?_
      refine v_get g dX0_ownerOf_11 fl_RX0_9 hL rfl ?_
      refine v_iload_n g dX0_ownerOf_14 1 rfl ?_
      refine v_iald g dX0_ownerOf_15 hO (vin_c (m := 36) rfl h1 h7) ?_
      refine v_goto (tgt := 20) g dX0_ownerOf_16 (by decide) ?_
      exact v_iret g E dX0_ownerOf_20 rfl ⟨by first | (simp [ownerC, *]; done) | (simp_all [ownerC]; done), rfl, rfl⟩
theorem k_X0_nextBy {lo ow : Nat} {F Hd Br : Int64} {li wi : Int32} (hL : μ lo = some (landCe ow F Hd Br li wi)) (x way : Int32) : Ctr l G 0 0 0 0 mX0_nextBy [.ref lo, .int x, .int way] n (μ) (some (.int (nextC li wi x way))) n (μ) := by
  refine Ctr.of (by decide +kernel) rfl (fun X g E => ?_)
  refine v_sub (ls' := [(0, .ref lo), (1, .int x), (2, .int way)]) [0, 1, 2] rfl ?_
  refine v_aload_n g dX0_nextBy_0 0 rfl ?_
  refine v_get g dX0_nextBy_1 fl_RX0_29 hL rfl ?_
  refine v_iconst (v := 1) g dX0_nextBy_4 (by decide) ?_
  refine v_icmp_lt (tgt := 29) g dX0_nextBy_5 (by decide) (fun h5 => ?_) (fun h5 => ?_)
  · skip
    refine v_bipush (v := (-4)) g dX0_nextBy_29 (by decide) ?_
    exact v_iret g E dX0_nextBy_31 rfl ⟨by first | (simp [nextC, *]; done) | (simp_all [nextC]; done), rfl, rfl⟩
  · skip
    refine v_iload_n g dX0_nextBy_8 1 rfl ?_
    refine v_if_lt (tgt := 29) g dX0_nextBy_9 (by decide) (fun h9 => ?_) (fun h9 => ?_)
    · skip
      refine v_bipush (v := (-4)) g dX0_nextBy_29 (by decide) ?_
      exact v_iret g E dX0_nextBy_31 rfl ⟨by first | (simp [nextC, *]; done) | (simp_all [nextC]; done), rfl, rfl⟩
    · skip
      refine v_iload_n g dX0_nextBy_12 1 rfl ?_
      refine v_aload_n g dX0_nextBy_13 0 rfl ?_
      refine v_get g dX0_nextBy_14 fl_RX0_25 hL rfl ?_
      refine v_aload_n g dX0_nextBy_17 0 rfl ?_
      refine v_get g dX0_nextBy_18 fl_RX0_29 hL rfl ?_
      refine v_imul g dX0_nextBy_21 ?_
      refine v_icmp_ge (tgt := 29) g dX0_nextBy_22 (by decide) (fun h22 => ?_) (fun h22 => ?_)
      · skip
        refine v_bipush (v := (-4)) g dX0_nextBy_29 (by decide) ?_
        exact v_iret g E dX0_nextBy_31 rfl ⟨by first | (simp [nextC, *]; done) | (simp_all [nextC]; done), rfl, rfl⟩
      · skip
        refine v_iload_n g dX0_nextBy_25 2 rfl ?_
        refine v_if_ge (tgt := 32) g dX0_nextBy_26 (by decide) (fun h26 => ?_) (fun h26 => ?_)
        · skip
          refine v_iload_n g dX0_nextBy_32 1 rfl ?_
          refine v_aload_n g dX0_nextBy_33 0 rfl ?_
          refine v_get g dX0_nextBy_34 fl_RX0_29 hL rfl ?_
          refine v_irem g dX0_nextBy_37 (by intro q; subst q; exact h5 (by decide)) ?_
          refine v_istore_n (ls' := [(3, .int (x % wi)), (0, .ref lo), (1, .int x), (2, .int way)]) g dX0_nextBy_38 rfl rfl ?_
          refine v_iload_n g dX0_nextBy_39 3 rfl ?_
          by_cases h40_0 : way = 0
          · skip
            refine v_tableIn (tgt := 68) (off := 28) g dX0_nextBy_40 (by rw [h40_0]; decide) (by rw [h40_0]; rfl) (by decide) ?_
            refine v_iload_n g dX0_nextBy_68 2 rfl ?_
            refine v_aload_n g dX0_nextBy_69 1 rfl ?_
            refine v_get g dX0_nextBy_70 fl_RX0_29 hL rfl ?_
            refine v_icmp_lt (tgt := 85) g dX0_nextBy_73 (by decide) (fun h73 => ?_) (fun h73 => ?_)
            · skip
              refine v_bipush (v := (-4)) g dX0_nextBy_85 (by decide) ?_
              exact v_iret g E dX0_nextBy_87 rfl ⟨by first | (simp [nextC, *]; done) | (simp_all [nextC]; done), rfl, rfl⟩
            · skip
              refine v_iload_n g dX0_nextBy_76 2 rfl ?_
              refine v_aload_n g dX0_nextBy_77 1 rfl ?_
              refine v_get g dX0_nextBy_78 fl_RX0_29 hL rfl ?_
              refine v_isub g dX0_nextBy_81 ?_
              refine v_goto (tgt := 87) g dX0_nextBy_82 (by decide) ?_
              exact v_iret g E dX0_nextBy_87 rfl ⟨by first | (simp [nextC, *]; done) | (simp_all [nextC]; done), rfl, rfl⟩
          by_cases h40_1 : way = 1
          · skip
            refine v_tableIn (tgt := 88) (off := 48) g dX0_nextBy_40 (by rw [h40_1]; decide) (by rw [h40_1]; rfl) (by decide) ?_
            refine v_iload_n g dX0_nextBy_88 0 rfl ?_
            refine v_iconst (v := 1) g dX0_nextBy_89 (by decide) ?_
            refine v_iadd g dX0_nextBy_90 ?_
            refine v_aload_n g dX0_nextBy_91 1 rfl ?_
            refine v_get g dX0_nextBy_92 fl_RX0_29 hL rfl ?_
            refine v_icmp_ge (tgt := 104) g dX0_nextBy_95 (by decide) (fun h95 => ?_) (fun h95 => ?_)
            · skip
              refine v_bipush (v := (-4)) g dX0_nextBy_104 (by decide) ?_
              exact v_iret g E dX0_nextBy_106 rfl ⟨by first | (simp [nextC, *]; done) | (simp_all [nextC]; done), rfl, rfl⟩
            · skip
              refine v_iload_n g dX0_nextBy_98 2 rfl ?_
              refine v_iconst (v := 1) g dX0_nextBy_99 (by decide) ?_
              refine v_iadd g dX0_nextBy_100 ?_
              refine v_goto (tgt := 106) g dX0_nextBy_101 (by decide) ?_
              exact v_iret g E dX0_nextBy_106 rfl ⟨by first | (simp [nextC, *]; done) | (simp_all [nextC]; done), rfl, rfl⟩
          by_cases h40_2 : way = 2
          · skip
            refine v_tableIn (tgt := 107) (off := 67) g dX0_nextBy_40 (by rw [h40_2]; decide) (by rw [h40_2]; rfl) (by decide) ?_
            refine v_iload_n g dX0_nextBy_107 2 rfl ?_
            refine v_aload_n g dX0_nextBy_108 1 rfl ?_
            refine v_get g dX0_nextBy_109 fl_RX0_29 hL rfl ?_
            refine v_iadd g dX0_nextBy_112 ?_
            refine v_aload_n g dX0_nextBy_113 1 rfl ?_
            refine v_get g dX0_nextBy_114 fl_RX0_25 hL rfl ?_
            refine v_aload_n g dX0_nextBy_117 1 rfl ?_
            refine v_get g dX0_nextBy_118 fl_RX0_29 hL rfl ?_
            refine v_imul g dX0_nextBy_121 ?_
            refine v_icmp_ge (tgt := 134) g dX0_nextBy_122 (by decide) (fun h122 => ?_) (fun h122 => ?_)
            · skip
              refine v_bipush (v := (-4)) g dX0_nextBy_134 (by decide) ?_
              exact v_iret g E dX0_nextBy_136 rfl ⟨by first | (simp [nextC, *]; done) | (simp_all [nextC]; done), rfl, rfl⟩
            · skip
              refine v_iload_n g dX0_nextBy_125 2 rfl ?_
              refine v_aload_n g dX0_nextBy_126 1 rfl ?_
              refine v_get g dX0_nextBy_127 fl_RX0_29 hL rfl ?_
              refine v_iadd g dX0_nextBy_130 ?_
              refine v_goto (tgt := 136) g dX0_nextBy_131 (by decide) ?_
              exact v_iret g E dX0_nextBy_136 rfl ⟨by first | (simp [nextC, *]; done) | (simp_all [nextC]; done), rfl, rfl⟩
          refine v_tableOut (tgt := 137) g dX0_nextBy_40 (by have q0 := lv_neT (a := 0) h40_0 rfl; have q1 := lv_neT (a := 1) h40_1 rfl; have q2 := lv_neT (a := 2) h40_2 rfl; omega) (by decide) ?_
          refine v_iload_n g dX0_nextBy_137 0 rfl ?_
          refine v_if_le (tgt := 147) g dX0_nextBy_138 (by decide) (fun h138 => ?_) (fun h138 => ?_)
          · skip
            refine v_bipush (v := (-4)) g dX0_nextBy_147 (by decide) ?_
            exact v_iret g E dX0_nextBy_149 rfl ⟨by first | (simp [nextC, *]; done) | (simp_all [nextC]; done), rfl, rfl⟩
          · skip
            refine v_iload_n g dX0_nextBy_141 2 rfl ?_
            refine v_iconst (v := 1) g dX0_nextBy_142 (by decide) ?_
            refine v_isub g dX0_nextBy_143 ?_
            refine v_goto (tgt := 149) g dX0_nextBy_144 (by decide) ?_
            exact v_iret g E dX0_nextBy_149 rfl ⟨by first | (simp [nextC, *]; done) | (simp_all [nextC]; done), rfl, rfl⟩
        · skip
          refine v_bipush (v := (-4)) g dX0_nextBy_29 (by decide) ?_
          exact v_iret g E dX0_nextBy_31 rfl ⟨by first | (simp [nextC, *]; done) | (simp_all [nextC]; done), rfl, rfl⟩
theorem k_X0_isBesideOne {lo ow : Nat} {F Hd Br : Int64} {li wi : Int32} (hL : μ lo = some (landCe ow F Hd Br li wi)) (x : Int32) (cs : Int64) : Ctr l G 1 23 0 0 mX0_isBesideOne [.ref lo, .int x, .long cs] n (μ) (some (.int (zB (besC li wi x cs)))) n (μ) := by
  refine Ctr.of (by decide +kernel) rfl (fun X g E => ?_)
  refine v_sub (ls' := [(0, .ref lo), (1, .int x), (2, .long cs)]) [0, 1, 2] rfl ?_
  refine v_iconst (v := 0) g dX0_isBesideOne_0 (by decide) ?_
  refine v_istore (ls' := [(4, .int 0), (0, .ref lo), (1, .int x), (2, .long cs)]) g dX0_isBesideOne_1 rfl rfl ?_
  refine v_iload g dX0_isBesideOne_3 0 rfl ?_
  refine v_iconst (v := 4) g dX0_isBesideOne_5 (by decide) ?_
  refine v_icmp_ge (tgt := 31) g dX0_isBesideOne_6 (by decide) (fun h => absurd h (by decide)) (fun _ => ?_)
  refine v_lload_n g dX0_isBesideOne_9 3 rfl ?_
  refine v_aload_n g dX0_isBesideOne_10 1 rfl ?_
  refine v_iload_n g dX0_isBesideOne_11 2 rfl ?_
  refine v_iload g dX0_isBesideOne_12 0 rfl ?_
  refine v_callV (As := [.int x, .int 0]) (r := some (.int (nextC li wi x 0))) g dX0_isBesideOne_14 (k_X0_nextBy hL x 0) cl_X0_nextBy ml_RX0_36 im_X0_nextBy hL rfl rfl ⟨rfl, rfl, rfl⟩ ?_
  refine v_callSN (As := [.long cs, .int (nextC li wi x 0)]) (r := some (.int (zB (ctn cs (nextC li wi x 0))))) g dX0_isBesideOne_17 (k_X5_contains cs (nextC li wi x 0)) cl_X5_contains nl_RX0_32 sm_X5_contains rfl ⟨rfl, rfl, rfl⟩ ?_
  refine v_if_eq (tgt := 25) g dX0_isBesideOne_20 (by decide) (fun h20 => ?_) (fun h20 => ?_)
  · skip
    have h20 := zB_f0 h20
    refine v_iinc (v := 1) (ls' := [(4, .int 1), (0, .ref lo), (1, .int x), (2, .long cs)]) g dX0_isBesideOne_25 0 rfl rfl rfl rfl ?_
    refine v_goto (tgt := 3) g dX0_isBesideOne_28 (by decide) ?_
    refine v_iload g dX0_isBesideOne_3 0 rfl ?_
    refine v_iconst (v := 4) g dX0_isBesideOne_5 (by decide) ?_
    refine v_icmp_ge (tgt := 31) g dX0_isBesideOne_6 (by decide) (fun h => absurd h (by decide)) (fun _ => ?_)
    refine v_lload_n g dX0_isBesideOne_9 3 rfl ?_
    refine v_aload_n g dX0_isBesideOne_10 1 rfl ?_
    refine v_iload_n g dX0_isBesideOne_11 2 rfl ?_
    refine v_iload g dX0_isBesideOne_12 0 rfl ?_
    refine v_callV (As := [.int x, .int 1]) (r := some (.int (nextC li wi x 1))) g dX0_isBesideOne_14 (k_X0_nextBy hL x 1) cl_X0_nextBy ml_RX0_36 im_X0_nextBy hL rfl rfl ⟨rfl, rfl, rfl⟩ ?_
    refine v_callSN (As := [.long cs, .int (nextC li wi x 1)]) (r := some (.int (zB (ctn cs (nextC li wi x 1))))) g dX0_isBesideOne_17 (k_X5_contains cs (nextC li wi x 1)) cl_X5_contains nl_RX0_32 sm_X5_contains rfl ⟨rfl, rfl, rfl⟩ ?_
    refine v_if_eq (tgt := 25) g dX0_isBesideOne_20 (by decide) (fun h20_2 => ?_) (fun h20_2 => ?_)
    · skip
      have h20_2 := zB_f0 h20_2
      refine v_iinc (v := 2) (ls' := [(4, .int 2), (0, .ref lo), (1, .int x), (2, .long cs)]) g dX0_isBesideOne_25 0 rfl rfl rfl rfl ?_
      refine v_goto (tgt := 3) g dX0_isBesideOne_28 (by decide) ?_
      refine v_iload g dX0_isBesideOne_3 0 rfl ?_
      refine v_iconst (v := 4) g dX0_isBesideOne_5 (by decide) ?_
      refine v_icmp_ge (tgt := 31) g dX0_isBesideOne_6 (by decide) (fun h => absurd h (by decide)) (fun _ => ?_)
      refine v_lload_n g dX0_isBesideOne_9 3 rfl ?_
      refine v_aload_n g dX0_isBesideOne_10 1 rfl ?_
      refine v_iload_n g dX0_isBesideOne_11 2 rfl ?_
      refine v_iload g dX0_isBesideOne_12 0 rfl ?_
      refine v_callV (As := [.int x, .int 2]) (r := some (.int (nextC li wi x 2))) g dX0_isBesideOne_14 (k_X0_nextBy hL x 2) cl_X0_nextBy ml_RX0_36 im_X0_nextBy hL rfl rfl ⟨rfl, rfl, rfl⟩ ?_
      refine v_callSN (As := [.long cs, .int (nextC li wi x 2)]) (r := some (.int (zB (ctn cs (nextC li wi x 2))))) g dX0_isBesideOne_17 (k_X5_contains cs (nextC li wi x 2)) cl_X5_contains nl_RX0_32 sm_X5_contains rfl ⟨rfl, rfl, rfl⟩ ?_
      refine v_if_eq (tgt := 25) g dX0_isBesideOne_20 (by decide) (fun h20_3 => ?_) (fun h20_3 => ?_)
      · skip
        have h20_3 := zB_f0 h20_3
        refine v_iinc (v := 3) (ls' := [(4, .int 3), (0, .ref lo), (1, .int x), (2, .long cs)]) g dX0_isBesideOne_25 0 rfl rfl rfl rfl ?_
        refine v_goto (tgt := 3) g dX0_isBesideOne_28 (by decide) ?_
        refine v_iload g dX0_isBesideOne_3 0 rfl ?_
        refine v_iconst (v := 4) g dX0_isBesideOne_5 (by decide) ?_
        refine v_icmp_ge (tgt := 31) g dX0_isBesideOne_6 (by decide) (fun h => absurd h (by decide)) (fun _ => ?_)
        refine v_lload_n g dX0_isBesideOne_9 3 rfl ?_
        refine v_aload_n g dX0_isBesideOne_10 1 rfl ?_
        refine v_iload_n g dX0_isBesideOne_11 2 rfl ?_
        refine v_iload g dX0_isBesideOne_12 0 rfl ?_
        refine v_callV (As := [.int x, .int 3]) (r := some (.int (nextC li wi x 3))) g dX0_isBesideOne_14 (k_X0_nextBy hL x 3) cl_X0_nextBy ml_RX0_36 im_X0_nextBy hL rfl rfl ⟨rfl, rfl, rfl⟩ ?_
        refine v_callSN (As := [.long cs, .int (nextC li wi x 3)]) (r := some (.int (zB (ctn cs (nextC li wi x 3))))) g dX0_isBesideOne_17 (k_X5_contains cs (nextC li wi x 3)) cl_X5_contains nl_RX0_32 sm_X5_contains rfl ⟨rfl, rfl, rfl⟩ ?_
        refine v_if_eq (tgt := 25) g dX0_isBesideOne_20 (by decide) (fun h20_4 => ?_) (fun h20_4 => ?_)
        · skip
          have h20_4 := zB_f0 h20_4
          refine v_iinc (v := 4) (ls' := [(4, .int 4), (0, .ref lo), (1, .int x), (2, .long cs)]) g dX0_isBesideOne_25 0 rfl rfl rfl rfl ?_
          refine v_goto (tgt := 3) g dX0_isBesideOne_28 (by decide) ?_
          refine v_iload g dX0_isBesideOne_3 0 rfl ?_
          refine v_iconst (v := 4) g dX0_isBesideOne_5 (by decide) ?_
          refine v_icmp_ge (tgt := 31) g dX0_isBesideOne_6 (by decide) (fun _ => ?_) (fun h => absurd (by decide) h)
          refine v_iconst (v := 0) g dX0_isBesideOne_31 (by decide) ?_
          exact v_zret g E dX0_isBesideOne_32 rfl rfl ⟨by first | (simp [besC, zB, *]; done) | (simp_all [besC, zB]; done), rfl, rfl⟩
        · skip
          have h20_4 := zB_t0 h20_4
          refine v_iconst (v := 1) g dX0_isBesideOne_23 (by decide) ?_
          exact v_zret g E dX0_isBesideOne_24 rfl rfl ⟨by first | (simp [besC, zB, *]; done) | (simp_all [besC, zB]; done), rfl, rfl⟩
      · skip
        have h20_3 := zB_t0 h20_3
        refine v_iconst (v := 1) g dX0_isBesideOne_23 (by decide) ?_
        exact v_zret g E dX0_isBesideOne_24 rfl rfl ⟨by first | (simp [besC, zB, *]; done) | (simp_all [besC, zB]; done), rfl, rfl⟩
    · skip
      have h20_2 := zB_t0 h20_2
      refine v_iconst (v := 1) g dX0_isBesideOne_23 (by decide) ?_
      exact v_zret g E dX0_isBesideOne_24 rfl rfl ⟨by first | (simp [besC, zB, *]; done) | (simp_all [besC, zB]; done), rfl, rfl⟩
  · skip
    have h20 := zB_t0 h20
    refine v_iconst (v := 1) g dX0_isBesideOne_23 (by decide) ?_
    exact v_zret g E dX0_isBesideOne_24 rfl rfl ⟨by first | (simp [besC, zB, *]; done) | (simp_all [besC, zB]; done), rfl, rfl⟩
theorem k_X4_first {ro tr : Nat} {sz kd hd be : Int32} (hR : μ ro = some (rowCe tr sz kd hd be)) {t : Nat → Int32} (hT : μ tr = some (iA 4 t)) : Ctr l G 0 0 0 0 mX4_first [.ref ro] n (μ) (some (.int (t 0))) n (μ) := by
  refine Ctr.of (by decide +kernel) rfl (fun X g E => ?_)
  refine v_sub (ls' := [(0, .ref ro)]) [0] rfl ?_
  refine v_aload_n g dX4_first_0 0 rfl ?_
  refine v_get g dX4_first_1 fl_RX4_9 hR rfl ?_
  refine v_iconst (v := 0) g dX4_first_4 (by decide) ?_
  refine v_iald g dX4_first_5 hT (by unfold vp_in; decide) (v_eqi (y := (t 0)) rfl ?_)
  exact v_iret g E dX4_first_6 rfl ⟨by rfl, rfl, rfl⟩
theorem k_X4_treeAt {ro tr : Nat} {sz kd hd be : Int32} (hR : μ ro = some (rowCe tr sz kd hd be)) {t : Nat → Int32} (hT : μ tr = some (iA 4 t)) (k : Int32) : Ctr l G 0 0 0 0 mX4_treeAt [.ref ro, .int k] n (μ) (some (.int (treeAtC sz t k))) n (μ) := by
  refine Ctr.of (by decide +kernel) rfl (fun X g E => ?_)
  refine v_sub (ls' := [(0, .ref ro), (1, .int k)]) [0, 1] rfl ?_
  refine v_iload_n g dX4_treeAt_0 1 rfl ?_
  refine v_if_lt (tgt := 26) g dX4_treeAt_1 (by decide) (fun h1 => ?_) (fun h1 => ?_)
  · skip
    refine v_bipush (v := (-4)) g dX4_treeAt_26 (by decide) ?_
    exact v_iret g E dX4_treeAt_28 rfl ⟨by first | (simp [treeAtC, *]; done) | (simp_all [treeAtC]; done), rfl, rfl⟩
  · skip
    refine v_iload_n g dX4_treeAt_4 1 rfl ?_
    refine v_aload_n g dX4_treeAt_5 0 rfl ?_
    refine v_get g dX4_treeAt_6 fl_RX4_15 hR rfl ?_
    refine v_icmp_ge (tgt := 26) g dX4_treeAt_9 (by decide) (fun h9 => ?_) (fun h9 => ?_)
    · skip
      refine v_bipush (v := (-4)) g dX4_treeAt_26 (by decide) ?_
      exact v_iret g E dX4_treeAt_28 rfl ⟨by first | (simp [treeAtC, *]; done) | (simp_all [treeAtC]; done), rfl, rfl⟩
    · skip
      refine v_iload_n g dX4_treeAt_12 1 rfl ?_
      refine v_iconst (v := 4) g dX4_treeAt_13 (by decide) ?_
      refine v_icmp_ge (tgt := 26) g dX4_treeAt_14 (by decide) (fun h14 => ?_) (fun h14 => ?_)
      · skip
        refine v_bipush (v := (-4)) g dX4_treeAt_26 (by decide) ?_
        exact v_iret g E dX4_treeAt_28 rfl ⟨by first | (simp [treeAtC, *]; done) | (simp_all [treeAtC]; done), rfl, rfl⟩
      · skip
        refine v_aload_n g dX4_treeAt_17 0 rfl ?_
        refine v_get g dX4_treeAt_18 fl_RX4_9 hR rfl ?_
        refine v_iload_n g dX4_treeAt_21 1 rfl ?_
        refine v_iald g dX4_treeAt_22 hT (vin_c (m := 4) rfl h1 h14) ?_
        refine v_goto (tgt := 28) g dX4_treeAt_23 (by decide) ?_
        exact v_iret g E dX4_treeAt_28 rfl ⟨by first | (simp [treeAtC, *]; done) | (simp_all [treeAtC]; done), rfl, rfl⟩
theorem k_X4_cells {ro tr : Nat} {sz kd hd be : Int32} (hR : μ ro = some (rowCe tr sz kd hd be)) {t : Nat → Int32} (hT : μ tr = some (iA 4 t)) : Ctr l G 1 20 0 0 mX4_cells [.ref ro] n (μ) (some (.long (rowCellsC sz t))) n (μ) := by
  refine Ctr.of (by decide +kernel) rfl (fun X g E => ?_)
  refine v_sub (ls' := [(0, .ref ro)]) [0] rfl ?_
  refine v_lconst (v := 0) g dX4_cells_0 (by decide) ?_
  refine v_lstore_n (ls' := [(1, .long 0), (0, .ref ro)]) g dX4_cells_1 rfl rfl ?_
  refine v_iconst (v := 0) g dX4_cells_2 (by decide) ?_
  refine v_istore_n (ls' := [(3, .int 0), (1, .long 0), (0, .ref ro)]) g dX4_cells_3 rfl rfl ?_
  refine v_iload_n g dX4_cells_4 0 rfl ?_
  refine v_aload_n g dX4_cells_5 2 rfl ?_
  refine v_get g dX4_cells_6 fl_RX4_15 hR rfl ?_
  refine v_icmp_ge (tgt := 35) g dX4_cells_9 (by decide) (fun h9 => ?_) (fun h9 => ?_)
  · skip
    refine v_lload_n g dX4_cells_35 1 rfl ?_
    exact v_lret g E dX4_cells_36 rfl ⟨by first | (simp [rowCellsC, *]; done) | (simp_all [rowCellsC]; done), rfl, rfl⟩
  · skip
    refine v_iload_n g dX4_cells_12 0 rfl ?_
    refine v_iconst (v := 4) g dX4_cells_13 (by decide) ?_
    refine v_icmp_ge (tgt := 35) g dX4_cells_14 (by decide) (fun h => absurd h (by decide)) (fun _ => ?_)
    refine v_lload_n g dX4_cells_17 1 rfl ?_
    refine v_aload_n g dX4_cells_18 2 rfl ?_
    refine v_get g dX4_cells_19 fl_RX4_9 hR rfl ?_
    refine v_iload_n g dX4_cells_22 0 rfl ?_
    refine v_iald g dX4_cells_23 hT (by unfold vp_in; decide) (v_eqi (y := (t 0)) rfl ?_)
    refine v_callSN (As := [.int (t 0)]) (r := some (.long (bitC (t 0)))) g dX4_cells_24 (k_X5_bit (t 0)) cl_X5_bit nl_RX4_28 sm_X5_bit rfl ⟨rfl, rfl, rfl⟩ ?_
    refine v_lor g dX4_cells_27 ?_
    refine v_lstore_n (ls' := [(1, .long (0 ||| bitC (t 0))), (3, .int 0), (0, .ref ro)]) g dX4_cells_28 rfl rfl ?_
    refine v_iinc (v := 1) (ls' := [(3, .int 1), (1, .long (0 ||| bitC (t 0))), (0, .ref ro)]) g dX4_cells_29 1 rfl rfl rfl rfl ?_
    refine v_goto (tgt := 4) g dX4_cells_32 (by decide) ?_
    refine v_iload_n g dX4_cells_4 0 rfl ?_
    refine v_aload_n g dX4_cells_5 2 rfl ?_
    refine v_get g dX4_cells_6 fl_RX4_15 hR rfl ?_
    refine v_icmp_ge (tgt := 35) g dX4_cells_9 (by decide) (fun h9_2 => ?_) (fun h9_2 => ?_)
    · skip
      refine v_lload_n g dX4_cells_35 1 rfl ?_
      exact v_lret g E dX4_cells_36 rfl ⟨by first | (simp [rowCellsC, *]; done) | (simp_all [rowCellsC]; done), rfl, rfl⟩
    · skip
      refine v_iload_n g dX4_cells_12 0 rfl ?_
      refine v_iconst (v := 4) g dX4_cells_13 (by decide) ?_
      refine v_icmp_ge (tgt := 35) g dX4_cells_14 (by decide) (fun h => absurd h (by decide)) (fun _ => ?_)
      refine v_lload_n g dX4_cells_17 1 rfl ?_
      refine v_aload_n g dX4_cells_18 2 rfl ?_
      refine v_get g dX4_cells_19 fl_RX4_9 hR rfl ?_
      refine v_iload_n g dX4_cells_22 0 rfl ?_
      refine v_iald g dX4_cells_23 hT (by unfold vp_in; decide) (v_eqi (y := (t 1)) rfl ?_)
      refine v_callSN (As := [.int (t 1)]) (r := some (.long (bitC (t 1)))) g dX4_cells_24 (k_X5_bit (t 1)) cl_X5_bit nl_RX4_28 sm_X5_bit rfl ⟨rfl, rfl, rfl⟩ ?_
      refine v_lor g dX4_cells_27 ?_
      refine v_lstore_n (ls' := [(1, .long ((0 ||| bitC (t 0)) ||| bitC (t 1))), (3, .int 1), (0, .ref ro)]) g dX4_cells_28 rfl rfl ?_
      refine v_iinc (v := 2) (ls' := [(3, .int 2), (1, .long ((0 ||| bitC (t 0)) ||| bitC (t 1))), (0, .ref ro)]) g dX4_cells_29 1 rfl rfl rfl rfl ?_
      refine v_goto (tgt := 4) g dX4_cells_32 (by decide) ?_
      refine v_iload_n g dX4_cells_4 0 rfl ?_
      refine v_aload_n g dX4_cells_5 2 rfl ?_
      refine v_get g dX4_cells_6 fl_RX4_15 hR rfl ?_
      refine v_icmp_ge (tgt := 35) g dX4_cells_9 (by decide) (fun h9_3 => ?_) (fun h9_3 => ?_)
      · skip
        refine v_lload_n g dX4_cells_35 1 rfl ?_
        exact v_lret g E dX4_cells_36 rfl ⟨by first | (simp [rowCellsC, *]; done) | (simp_all [rowCellsC]; done), rfl, rfl⟩
      · skip
        refine v_iload_n g dX4_cells_12 0 rfl ?_
        refine v_iconst (v := 4) g dX4_cells_13 (by decide) ?_
        refine v_icmp_ge (tgt := 35) g dX4_cells_14 (by decide) (fun h => absurd h (by decide)) (fun _ => ?_)
        refine v_lload_n g dX4_cells_17 1 rfl ?_
        refine v_aload_n g dX4_cells_18 2 rfl ?_
        refine v_get g dX4_cells_19 fl_RX4_9 hR rfl ?_
        refine v_iload_n g dX4_cells_22 0 rfl ?_
        refine v_iald g dX4_cells_23 hT (by unfold vp_in; decide) (v_eqi (y := (t 2)) rfl ?_)
        refine v_callSN (As := [.int (t 2)]) (r := some (.long (bitC (t 2)))) g dX4_cells_24 (k_X5_bit (t 2)) cl_X5_bit nl_RX4_28 sm_X5_bit rfl ⟨rfl, rfl, rfl⟩ ?_
        refine v_lor g dX4_cells_27 ?_
        refine v_lstore_n (ls' := [(1, .long (((0 ||| bitC (t 0)) ||| bitC (t 1)) ||| bitC (t 2))), (3, .int 2), (0, .ref ro)]) g dX4_cells_28 rfl rfl ?_
        refine v_iinc (v := 3) (ls' := [(3, .int 3), (1, .long (((0 ||| bitC (t 0)) ||| bitC (t 1)) ||| bitC (t 2))), (0, .ref ro)]) g dX4_cells_29 1 rfl rfl rfl rfl ?_
        refine v_goto (tgt := 4) g dX4_cells_32 (by decide) ?_
        refine v_iload_n g dX4_cells_4 0 rfl ?_
        refine v_aload_n g dX4_cells_5 2 rfl ?_
        refine v_get g dX4_cells_6 fl_RX4_15 hR rfl ?_
        refine v_icmp_ge (tgt := 35) g dX4_cells_9 (by decide) (fun h9_4 => ?_) (fun h9_4 => ?_)
        · skip
          refine v_lload_n g dX4_cells_35 1 rfl ?_
          exact v_lret g E dX4_cells_36 rfl ⟨by first | (simp [rowCellsC, *]; done) | (simp_all [rowCellsC]; done), rfl, rfl⟩
        · skip
          refine v_iload_n g dX4_cells_12 0 rfl ?_
          refine v_iconst (v := 4) g dX4_cells_13 (by decide) ?_
          refine v_icmp_ge (tgt := 35) g dX4_cells_14 (by decide) (fun h => absurd h (by decide)) (fun _ => ?_)
          refine v_lload_n g dX4_cells_17 1 rfl ?_
          refine v_aload_n g dX4_cells_18 2 rfl ?_
          refine v_get g dX4_cells_19 fl_RX4_9 hR rfl ?_
          refine v_iload_n g dX4_cells_22 0 rfl ?_
          refine v_iald g dX4_cells_23 hT (by unfold vp_in; decide) (v_eqi (y := (t 3)) rfl ?_)
          refine v_callSN (As := [.int (t 3)]) (r := some (.long (bitC (t 3)))) g dX4_cells_24 (k_X5_bit (t 3)) cl_X5_bit nl_RX4_28 sm_X5_bit rfl ⟨rfl, rfl, rfl⟩ ?_
          refine v_lor g dX4_cells_27 ?_
          refine v_lstore_n (ls' := [(1, .long ((((0 ||| bitC (t 0)) ||| bitC (t 1)) ||| bitC (t 2)) ||| bitC (t 3))), (3, .int 3), (0, .ref ro)]) g dX4_cells_28 rfl rfl ?_
          refine v_iinc (v := 4) (ls' := [(3, .int 4), (1, .long ((((0 ||| bitC (t 0)) ||| bitC (t 1)) ||| bitC (t 2)) ||| bitC (t 3))), (0, .ref ro)]) g dX4_cells_29 1 rfl rfl rfl rfl ?_
          refine v_goto (tgt := 4) g dX4_cells_32 (by decide) ?_
          refine v_iload_n g dX4_cells_4 0 rfl ?_
          refine v_aload_n g dX4_cells_5 2 rfl ?_
          refine v_get g dX4_cells_6 fl_RX4_15 hR rfl ?_
          refine v_icmp_ge (tgt := 35) g dX4_cells_9 (by decide) (fun h9_5 => ?_) (fun h9_5 => ?_)
          · skip
            refine v_lload_n g dX4_cells_35 1 rfl ?_
            exact v_lret g E dX4_cells_36 rfl ⟨by first | (simp [rowCellsC, *]; done) | (simp_all [rowCellsC]; done), rfl, rfl⟩
          · skip
            refine v_iload_n g dX4_cells_12 0 rfl ?_
            refine v_iconst (v := 4) g dX4_cells_13 (by decide) ?_
            refine v_icmp_ge (tgt := 35) g dX4_cells_14 (by decide) (fun _ => ?_) (fun h => absurd (by decide) h)
            refine v_lload_n g dX4_cells_35 1 rfl ?_
            exact v_lret g E dX4_cells_36 rfl ⟨by first | (simp [rowCellsC, *]; done) | (simp_all [rowCellsC]; done), rfl, rfl⟩
theorem k_X4_standsAs {ro tr : Nat} {sz kd hd be : Int32} (hR : μ ro = some (rowCe tr sz kd hd be)) {t : Nat → Int32} (hT : μ tr = some (iA 4 t)) {ro' tr' : Nat} {sz' kd' hd' be' : Int32} (hR' : μ ro' = some (rowCe tr' sz' kd' hd' be')) {t' : Nat → Int32} (hT' : μ tr' = some (iA 4 t')) : Ctr l G 0 0 0 0 mX4_standsAs [.ref ro, .ref ro'] n (μ) (some (.int (zB (rowAsC hd sz t hd' sz' t')))) n (μ) := by
  refine Ctr.of (by decide +kernel) rfl (fun X g E => ?_)
  refine v_sub (ls' := [(0, .ref ro), (1, .ref ro')]) [0, 1] rfl ?_
  refine v_aload_n g dX4_standsAs_0 0 rfl ?_
  refine v_get g dX4_standsAs_1 fl_RX4_22 hR rfl ?_
  refine v_aload_n g dX4_standsAs_4 1 rfl ?_
  refine v_get g dX4_standsAs_5 fl_RX4_22 hR' rfl ?_
  refine v_icmp_ne (tgt := 22) g dX4_standsAs_8 (by decide) (fun h8 => ?_) (fun h8 => ?_)
  · skip
    refine v_iconst (v := 0) g dX4_standsAs_22 (by decide) ?_
    exact v_zret g E dX4_standsAs_23 rfl rfl ⟨by first | (simp [rowAsC, zB, *]; done) | (simp_all [rowAsC, zB]; done), rfl, rfl⟩
  · skip
    refine v_aload_n g dX4_standsAs_11 0 rfl ?_
    refine v_get g dX4_standsAs_12 fl_RX4_15 hR rfl ?_
    refine v_aload_n g dX4_standsAs_15 1 rfl ?_
    refine v_get g dX4_standsAs_16 fl_RX4_15 hR' rfl ?_
    refine v_icmp_eq (tgt := 24) g dX4_standsAs_19 (by decide) (fun h19 => ?_) (fun h19 => ?_)
    · skip
      refine v_iconst (v := 0) g dX4_standsAs_24 (by decide) ?_
      refine v_istore_n (ls' := [(2, .int 0), (0, .ref ro), (1, .ref ro')]) g dX4_standsAs_25 rfl rfl ?_
      refine v_iload_n g dX4_standsAs_26 0 rfl ?_
      refine v_aload_n g dX4_standsAs_27 1 rfl ?_
      refine v_get g dX4_standsAs_28 fl_RX4_15 hR rfl ?_
      refine v_icmp_ge (tgt := 62) g dX4_standsAs_31 (by decide) (fun h31 => ?_) (fun h31 => ?_)
      · skip
        refine v_iconst (v := 1) g dX4_standsAs_62 (by decide) ?_
        exact v_zret g E dX4_standsAs_63 rfl rfl ⟨by first | (simp [rowAsC, zB, *]; done) | (simp_all [rowAsC, zB]; done), rfl, rfl⟩
      · skip
        refine v_iload_n g dX4_standsAs_34 0 rfl ?_
        refine v_iconst (v := 4) g dX4_standsAs_35 (by decide) ?_
        refine v_icmp_ge (tgt := 62) g dX4_standsAs_36 (by decide) (fun h => absurd h (by decide)) (fun _ => ?_)
        refine v_aload_n g dX4_standsAs_39 1 rfl ?_
        refine v_get g dX4_standsAs_40 fl_RX4_9 hR rfl ?_
        refine v_iload_n g dX4_standsAs_43 0 rfl ?_
        refine v_iald g dX4_standsAs_44 hT (by unfold vp_in; decide) (v_eqi (y := (t 0)) rfl ?_)
        refine v_aload_n g dX4_standsAs_45 2 rfl ?_
        refine v_get g dX4_standsAs_46 fl_RX4_9 hR' rfl ?_
        refine v_iload_n g dX4_standsAs_49 0 rfl ?_
        refine v_iald g dX4_standsAs_50 hT' (by unfold vp_in; decide) (v_eqi (y := (t' 0)) rfl ?_)
        refine v_icmp_eq (tgt := 56) g dX4_standsAs_51 (by decide) (fun h51 => ?_) (fun h51 => ?_)
        · skip
          refine v_iinc (v := 1) (ls' := [(2, .int 1), (0, .ref ro), (1, .ref ro')]) g dX4_standsAs_56 0 rfl rfl rfl rfl ?_
          refine v_goto (tgt := 26) g dX4_standsAs_59 (by decide) ?_
          refine v_iload_n g dX4_standsAs_26 0 rfl ?_
          refine v_aload_n g dX4_standsAs_27 1 rfl ?_
          refine v_get g dX4_standsAs_28 fl_RX4_15 hR rfl ?_
          refine v_icmp_ge (tgt := 62) g dX4_standsAs_31 (by decide) (fun h31_2 => ?_) (fun h31_2 => ?_)
          · skip
            refine v_iconst (v := 1) g dX4_standsAs_62 (by decide) ?_
            exact v_zret g E dX4_standsAs_63 rfl rfl ⟨by first | (simp [rowAsC, zB, *]; done) | (simp_all [rowAsC, zB]; done), rfl, rfl⟩
          · skip
            refine v_iload_n g dX4_standsAs_34 0 rfl ?_
            refine v_iconst (v := 4) g dX4_standsAs_35 (by decide) ?_
            refine v_icmp_ge (tgt := 62) g dX4_standsAs_36 (by decide) (fun h => absurd h (by decide)) (fun _ => ?_)
            refine v_aload_n g dX4_standsAs_39 1 rfl ?_
            refine v_get g dX4_standsAs_40 fl_RX4_9 hR rfl ?_
            refine v_iload_n g dX4_standsAs_43 0 rfl ?_
            refine v_iald g dX4_standsAs_44 hT (by unfold vp_in; decide) (v_eqi (y := (t 1)) rfl ?_)
            refine v_aload_n g dX4_standsAs_45 2 rfl ?_
            refine v_get g dX4_standsAs_46 fl_RX4_9 hR' rfl ?_
            refine v_iload_n g dX4_standsAs_49 0 rfl ?_
            refine v_iald g dX4_standsAs_50 hT' (by unfold vp_in; decide) (v_eqi (y := (t' 1)) rfl ?_)
            refine v_icmp_eq (tgt := 56) g dX4_standsAs_51 (by decide) (fun h51_2 => ?_) (fun h51_2 => ?_)
            · skip
              refine v_iinc (v := 2) (ls' := [(2, .int 2), (0, .ref ro), (1, .ref ro')]) g dX4_standsAs_56 0 rfl rfl rfl rfl ?_
              refine v_goto (tgt := 26) g dX4_standsAs_59 (by decide) ?_
              refine v_iload_n g dX4_standsAs_26 0 rfl ?_
              refine v_aload_n g dX4_standsAs_27 1 rfl ?_
              refine v_get g dX4_standsAs_28 fl_RX4_15 hR rfl ?_
              refine v_icmp_ge (tgt := 62) g dX4_standsAs_31 (by decide) (fun h31_3 => ?_) (fun h31_3 => ?_)
              · skip
                refine v_iconst (v := 1) g dX4_standsAs_62 (by decide) ?_
                exact v_zret g E dX4_standsAs_63 rfl rfl ⟨by first | (simp [rowAsC, zB, *]; done) | (simp_all [rowAsC, zB]; done), rfl, rfl⟩
              · skip
                refine v_iload_n g dX4_standsAs_34 0 rfl ?_
                refine v_iconst (v := 4) g dX4_standsAs_35 (by decide) ?_
                refine v_icmp_ge (tgt := 62) g dX4_standsAs_36 (by decide) (fun h => absurd h (by decide)) (fun _ => ?_)
                refine v_aload_n g dX4_standsAs_39 1 rfl ?_
                refine v_get g dX4_standsAs_40 fl_RX4_9 hR rfl ?_
                refine v_iload_n g dX4_standsAs_43 0 rfl ?_
                refine v_iald g dX4_standsAs_44 hT (by unfold vp_in; decide) (v_eqi (y := (t 2)) rfl ?_)
                refine v_aload_n g dX4_standsAs_45 2 rfl ?_
                refine v_get g dX4_standsAs_46 fl_RX4_9 hR' rfl ?_
                refine v_iload_n g dX4_standsAs_49 0 rfl ?_
                refine v_iald g dX4_standsAs_50 hT' (by unfold vp_in; decide) (v_eqi (y := (t' 2)) rfl ?_)
                refine v_icmp_eq (tgt := 56) g dX4_standsAs_51 (by decide) (fun h51_3 => ?_) (fun h51_3 => ?_)
                · skip
                  refine v_iinc (v := 3) (ls' := [(2, .int 3), (0, .ref ro), (1, .ref ro')]) g dX4_standsAs_56 0 rfl rfl rfl rfl ?_
                  refine v_goto (tgt := 26) g dX4_standsAs_59 (by decide) ?_
                  refine v_iload_n g dX4_standsAs_26 0 rfl ?_
                  refine v_aload_n g dX4_standsAs_27 1 rfl ?_
                  refine v_get g dX4_standsAs_28 fl_RX4_15 hR rfl ?_
                  refine v_icmp_ge (tgt := 62) g dX4_standsAs_31 (by decide) (fun h31_4 => ?_) (fun h31_4 => ?_)
                  · skip
                    refine v_iconst (v := 1) g dX4_standsAs_62 (by decide) ?_
                    exact v_zret g E dX4_standsAs_63 rfl rfl ⟨by first | (simp [rowAsC, zB, *]; done) | (simp_all [rowAsC, zB]; done), rfl, rfl⟩
                  · skip
                    refine v_iload_n g dX4_standsAs_34 0 rfl ?_
                    refine v_iconst (v := 4) g dX4_standsAs_35 (by decide) ?_
                    refine v_icmp_ge (tgt := 62) g dX4_standsAs_36 (by decide) (fun h => absurd h (by decide)) (fun _ => ?_)
                    refine v_aload_n g dX4_standsAs_39 1 rfl ?_
                    refine v_get g dX4_standsAs_40 fl_RX4_9 hR rfl ?_
                    refine v_iload_n g dX4_standsAs_43 0 rfl ?_
                    refine v_iald g dX4_standsAs_44 hT (by unfold vp_in; decide) (v_eqi (y := (t 3)) rfl ?_)
                    refine v_aload_n g dX4_standsAs_45 2 rfl ?_
                    refine v_get g dX4_standsAs_46 fl_RX4_9 hR' rfl ?_
                    refine v_iload_n g dX4_standsAs_49 0 rfl ?_
                    refine v_iald g dX4_standsAs_50 hT' (by unfold vp_in; decide) (v_eqi (y := (t' 3)) rfl ?_)
                    refine v_icmp_eq (tgt := 56) g dX4_standsAs_51 (by decide) (fun h51_4 => ?_) (fun h51_4 => ?_)
                    · skip
                      refine v_iinc (v := 4) (ls' := [(2, .int 4), (0, .ref ro), (1, .ref ro')]) g dX4_standsAs_56 0 rfl rfl rfl rfl ?_
                      refine v_goto (tgt := 26) g dX4_standsAs_59 (by decide) ?_
                      refine v_iload_n g dX4_standsAs_26 0 rfl ?_
                      refine v_aload_n g dX4_standsAs_27 1 rfl ?_
                      refine v_get g dX4_standsAs_28 fl_RX4_15 hR rfl ?_
                      refine v_icmp_ge (tgt := 62) g dX4_standsAs_31 (by decide) (fun h31_5 => ?_) (fun h31_5 => ?_)
                      · skip
                        refine v_iconst (v := 1) g dX4_standsAs_62 (by decide) ?_
                        exact v_zret g E dX4_standsAs_63 rfl rfl ⟨by first | (simp [rowAsC, zB, *]; done) | (simp_all [rowAsC, zB]; done), rfl, rfl⟩
                      · skip
                        refine v_iload_n g dX4_standsAs_34 0 rfl ?_
                        refine v_iconst (v := 4) g dX4_standsAs_35 (by decide) ?_
                        refine v_icmp_ge (tgt := 62) g dX4_standsAs_36 (by decide) (fun _ => ?_) (fun h => absurd (by decide) h)
                        refine v_iconst (v := 1) g dX4_standsAs_62 (by decide) ?_
                        exact v_zret g E dX4_standsAs_63 rfl rfl ⟨by first | (simp [rowAsC, zB, *]; done) | (simp_all [rowAsC, zB]; done), rfl, rfl⟩
                    · skip
                      refine v_iconst (v := 0) g dX4_standsAs_54 (by decide) ?_
                      exact v_zret g E dX4_standsAs_55 rfl rfl ⟨by first | (simp [rowAsC, zB, *]; done) | (simp_all [rowAsC, zB]; done), rfl, rfl⟩
                · skip
                  refine v_iconst (v := 0) g dX4_standsAs_54 (by decide) ?_
                  exact v_zret g E dX4_standsAs_55 rfl rfl ⟨by first | (simp [rowAsC, zB, *]; done) | (simp_all [rowAsC, zB]; done), rfl, rfl⟩
            · skip
              refine v_iconst (v := 0) g dX4_standsAs_54 (by decide) ?_
              exact v_zret g E dX4_standsAs_55 rfl rfl ⟨by first | (simp [rowAsC, zB, *]; done) | (simp_all [rowAsC, zB]; done), rfl, rfl⟩
        · skip
          refine v_iconst (v := 0) g dX4_standsAs_54 (by decide) ?_
          exact v_zret g E dX4_standsAs_55 rfl rfl ⟨by first | (simp [rowAsC, zB, *]; done) | (simp_all [rowAsC, zB]; done), rfl, rfl⟩
    · skip
      refine v_iconst (v := 0) g dX4_standsAs_22 (by decide) ?_
      exact v_zret g E dX4_standsAs_23 rfl rfl ⟨by first | (simp [rowAsC, zB, *]; done) | (simp_all [rowAsC, zB]; done), rfl, rfl⟩
theorem k_X1_holds {oo la rs oow : Nat} {rc yr : Int32} {di le ta en : Int64} (hO : μ oo = some (orCe la rs oow rc yr di le ta en)) (r : Int32) : Ctr l G 0 0 0 0 mX1_holds [.ref oo, .int r] n (μ) (some (.int (zB (orHoldsC rc r)))) n (μ) := by
  refine Ctr.of (by decide +kernel) rfl (fun X g E => ?_)
  refine v_sub (ls' := [(0, .ref oo), (1, .int r)]) [0, 1] rfl ?_
  refine v_iload_n g dX1_holds_0 1 rfl ?_
  refine v_if_lt (tgt := 21) g dX1_holds_1 (by decide) (fun h1 => ?_) (fun h1 => ?_)
  · skip
    refine v_iconst (v := 0) g dX1_holds_21 (by decide) ?_
    exact v_zret g E dX1_holds_22 rfl rfl ⟨by first | (simp [orHoldsC, zB, *]; done) | (simp_all [orHoldsC, zB]; done), rfl, rfl⟩
  · skip
    refine v_iload_n g dX1_holds_4 1 rfl ?_
    refine v_aload_n g dX1_holds_5 0 rfl ?_
    refine v_get g dX1_holds_6 fl_RX1_26 hO rfl ?_
    refine v_icmp_ge (tgt := 21) g dX1_holds_9 (by decide) (fun h9 => ?_) (fun h9 => ?_)
    · skip
      refine v_iconst (v := 0) g dX1_holds_21 (by decide) ?_
      exact v_zret g E dX1_holds_22 rfl rfl ⟨by first | (simp [orHoldsC, zB, *]; done) | (simp_all [orHoldsC, zB]; done), rfl, rfl⟩
    · skip
      refine v_iload_n g dX1_holds_12 1 rfl ?_
      refine v_iconst (v := 3) g dX1_holds_13 (by decide) ?_
      refine v_icmp_ge (tgt := 21) g dX1_holds_14 (by decide) (fun h14 => ?_) (fun h14 => ?_)
      · skip
        refine v_iconst (v := 0) g dX1_holds_21 (by decide) ?_
        exact v_zret g E dX1_holds_22 rfl rfl ⟨by first | (simp [orHoldsC, zB, *]; done) | (simp_all [orHoldsC, zB]; done), rfl, rfl⟩
      · skip
        refine v_iconst (v := 1) g dX1_holds_17 (by decide) ?_
        refine v_goto (tgt := 22) g dX1_holds_18 (by decide) ?_
        exact v_zret g E dX1_holds_22 rfl rfl ⟨by first | (simp [orHoldsC, zB, *]; done) | (simp_all [orHoldsC, zB]; done), rfl, rfl⟩
theorem k_X1_canDig {oo la rs oow : Nat} {rc yr : Int32} {di le ta en : Int64} (hO : μ oo = some (orCe la rs oow rc yr di le ta en)) {ow : Nat} {F Hd Br : Int64} {li wi : Int32} (hL : μ la = some (landCe ow F Hd Br li wi)) (x : Int32) : Ctr l G 1 22 0 0 mX1_canDig [.ref oo, .int x] n (μ) (some (.int (zB (digC F di ta x)))) n (μ) := by
  refine Ctr.of (by decide +kernel) rfl (fun X g E => ?_)
  refine v_sub (ls' := [(0, .ref oo), (1, .int x)]) [0, 1] rfl ?_
  refine v_aload_n g dX1_canDig_0 0 rfl ?_
  refine v_get g dX1_canDig_1 fl_RX1_21 hO rfl ?_
  refine v_get g dX1_canDig_4 fl_RX1_58 hL rfl ?_
  refine v_aload_n g dX1_canDig_7 0 rfl ?_
  refine v_get g dX1_canDig_8 fl_RX1_33 hO rfl ?_
  refine v_ldc2 (v := (-1)) g dX1_canDig_11 kl_RX1_63 ?_
  refine v_lxor g dX1_canDig_14 ?_
  refine v_land g dX1_canDig_15 ?_
  refine v_aload_n g dX1_canDig_16 0 rfl ?_
  refine v_get g dX1_canDig_17 fl_RX1_40 hO rfl ?_
  refine v_ldc2 (v := (-1)) g dX1_canDig_20 kl_RX1_63 ?_
  refine v_lxor g dX1_canDig_23 ?_
  refine v_land g dX1_canDig_24 ?_
  refine v_iload_n g dX1_canDig_25 1 rfl ?_
  refine v_callSN (As := [.long ((F &&& (di ^^^ (-1))) &&& (ta ^^^ (-1))), .int x]) (r := some (.int (zB (ctn ((F &&& (di ^^^ (-1))) &&& (ta ^^^ (-1))) x)))) g dX1_canDig_26 (k_X5_contains ((F &&& (di ^^^ (-1))) &&& (ta ^^^ (-1))) x) cl_X5_contains nl_RX1_50 sm_X5_contains rfl ⟨rfl, rfl, rfl⟩ ?_
  exact v_zret g E dX1_canDig_29 rfl (zB_nar _) ⟨by simp [digC], rfl, rfl⟩
theorem k_X1_wayOf {oo la rs oow : Nat} {rc yr : Int32} {di le ta en : Int64} (hO : μ oo = some (orCe la rs oow rc yr di le ta en)) {ow : Nat} {F Hd Br : Int64} {li wi : Int32} (hL : μ la = some (landCe ow F Hd Br li wi)) {ro tr : Nat} {sz kd hd be : Int32} (hR : μ ro = some (rowCe tr sz kd hd be)) {t : Nat → Int32} (hT : μ tr = some (iA 4 t)) : Ctr l G 1 23 0 0 mX1_wayOf [.ref oo, .ref ro] n μ (some (.int (wayC F Hd Br li wi di ta yr kd hd (t 0)))) n μ := by
  refine Ctr.of (by decide +kernel) rfl (fun X g E => ?_)
  refine v_sub (ls' := [(0, .ref oo), (1, .ref ro)]) [0, 1] rfl ?_
  have J20 : ¬ (kd = 2 ∧ ¬ yr % 2 = 0) → V X 0 0 n μ 20 [(0, .ref oo), (1, .ref ro)] [] := by
    intro hk
    refine v_aload_n g dX1_wayOf_20 0 rfl ?_
    refine v_get g dX1_wayOf_21 fl_RX1_21 hO rfl ?_
    refine v_get g dX1_wayOf_24 fl_RX1_58 hL rfl ?_
    refine v_aload_n g dX1_wayOf_27 0 rfl ?_
    refine v_get g dX1_wayOf_28 fl_RX1_21 hO rfl ?_
    refine v_get g dX1_wayOf_31 fl_RX1_83 hL rfl ?_
    refine v_lor g dX1_wayOf_34 ?_
    refine v_aload_n g dX1_wayOf_35 1 rfl ?_
    refine v_get g dX1_wayOf_36 fl_RX1_80 hR rfl ?_
    refine v_iconst (v := 3) g dX1_wayOf_39 (by decide) ?_
    refine v_icmp_ne_dl (tgt := 53) (u := 0) (v := Br) 54 g dX1_wayOf_40 (by decide) (fun h40 K => ?_) (fun h40 K => ?_) ?_
    · skip
      refine v_lconst (v := 0) g dX1_wayOf_53 (by decide) ?_
      exact K
    · skip
      refine v_aload_n g dX1_wayOf_43 0 rfl ?_
      refine v_get g dX1_wayOf_44 fl_RX1_21 hO rfl ?_
      refine v_get g dX1_wayOf_47 fl_RX1_86 hL rfl ?_
      refine v_goto (tgt := 54) g dX1_wayOf_50 (by decide) ?_
      exact K
    refine v_lor g dX1_wayOf_54 ?_
    refine v_topl (fun gr e_gr => ?_)
    refine v_lstore_n (ls' := [(2, .long gr), (0, .ref oo), (1, .ref ro)]) g dX1_wayOf_55 rfl rfl ?_
    refine v_lload_n g dX1_wayOf_56 0 rfl ?_
    refine v_aload_n g dX1_wayOf_57 1 rfl ?_
    refine v_get g dX1_wayOf_58 fl_RX1_33 hO rfl ?_
    refine v_ldc2 (v := (-1)) g dX1_wayOf_61 kl_RX1_63 ?_
    refine v_lxor g dX1_wayOf_64 ?_
    refine v_land g dX1_wayOf_65 ?_
    refine v_aload_n g dX1_wayOf_66 1 rfl ?_
    refine v_get g dX1_wayOf_67 fl_RX1_40 hO rfl ?_
    refine v_ldc2 (v := (-1)) g dX1_wayOf_70 kl_RX1_63 ?_
    refine v_lxor g dX1_wayOf_73 ?_
    refine v_land g dX1_wayOf_74 ?_
    refine v_topl (fun op e_op => ?_)
    refine v_lstore (ls' := [(4, .long op), (2, .long gr), (0, .ref oo), (1, .ref ro)]) g dX1_wayOf_75 rfl rfl ?_
    refine v_aload_n g dX1_wayOf_77 3 rfl ?_
    refine v_get g dX1_wayOf_78 fl_RX1_80 hR rfl ?_
    refine v_iconst (v := 1) g dX1_wayOf_81 (by decide) ?_
    refine v_icmp_ne_d (tgt := 89) (u := 1) (v := 3) 90 g dX1_wayOf_82 (by decide) (fun h82 K => ?_) (fun h82 K => ?_) ?_
    · skip
      refine v_iconst (v := 1) g dX1_wayOf_89 (by decide) ?_
      exact K
    · skip
      refine v_iconst (v := 3) g dX1_wayOf_85 (by decide) ?_
      refine v_goto (tgt := 90) g dX1_wayOf_86 (by decide) ?_
      exact K
    refine v_topi (fun tu e_tu => ?_)
    refine v_istore (ls' := [(6, .int tu), (4, .long op), (2, .long gr), (0, .ref oo), (1, .ref ro)]) g dX1_wayOf_90 rfl rfl ?_
    refine v_aload_n g dX1_wayOf_92 4 rfl ?_
    refine v_get g dX1_wayOf_93 fl_RX1_89 hR rfl ?_
    refine v_istore (ls' := [(7, .int hd), (6, .int tu), (4, .long op), (2, .long gr), (0, .ref oo), (1, .ref ro)]) g dX1_wayOf_96 rfl rfl ?_
    refine v_iload g dX1_wayOf_98 0 rfl ?_
    refine v_iload g dX1_wayOf_100 1 rfl ?_
    refine v_iadd g dX1_wayOf_102 ?_
    refine v_iconst (v := 4) g dX1_wayOf_103 (by decide) ?_
    refine v_irem g dX1_wayOf_104 (by decide) ?_
    refine v_topi (fun tn e_tn => ?_)
    refine v_istore (ls' := [(8, .int tn), (7, .int hd), (6, .int tu), (4, .long op), (2, .long gr), (0, .ref oo), (1, .ref ro)]) g dX1_wayOf_105 rfl rfl ?_
    refine v_iload g dX1_wayOf_107 1 rfl ?_
    refine v_iconst (v := 4) g dX1_wayOf_109 (by decide) ?_
    refine v_iadd g dX1_wayOf_110 ?_
    refine v_iload g dX1_wayOf_111 2 rfl ?_
    refine v_isub g dX1_wayOf_113 ?_
    refine v_iconst (v := 4) g dX1_wayOf_114 (by decide) ?_
    refine v_irem g dX1_wayOf_115 (by decide) ?_
    refine v_topi (fun ot e_ot => ?_)
    refine v_istore (ls' := [(9, .int ot), (8, .int tn), (7, .int hd), (6, .int tu), (4, .long op), (2, .long gr), (0, .ref oo), (1, .ref ro)]) g dX1_wayOf_116 rfl rfl ?_
    refine v_lload g dX1_wayOf_118 4 rfl ?_
    refine v_aload_n g dX1_wayOf_120 6 rfl ?_
    refine v_get g dX1_wayOf_121 fl_RX1_21 hO rfl ?_
    refine v_aload_n g dX1_wayOf_124 7 rfl ?_
    refine v_callV (As := []) (r := some (.int (t 0))) g dX1_wayOf_125 (k_X4_first hR hT) cl_X4_first ml_RX1_92 im_X4_first hR rfl rfl ⟨rfl, rfl, rfl⟩ ?_
    refine v_iload g dX1_wayOf_128 2 rfl ?_
    refine v_callV (As := [.int (t 0), .int hd]) (r := some (.int (nextC li wi (t 0) hd))) g dX1_wayOf_130 (k_X0_nextBy hL (t 0) hd) cl_X0_nextBy ml_RX1_96 im_X0_nextBy hL rfl rfl ⟨rfl, rfl, rfl⟩ ?_
    refine v_callSN (As := [.long op, .int (nextC li wi (t 0) hd)]) (r := some (.int (zB (ctn op (nextC li wi (t 0) hd))))) g dX1_wayOf_133 (k_X5_contains op (nextC li wi (t 0) hd)) cl_X5_contains nl_RX1_50 sm_X5_contains rfl ⟨rfl, rfl, rfl⟩ ?_
    refine v_if_eq (tgt := 142) g dX1_wayOf_136 (by decide) (fun h136 => ?_) (fun h136 => ?_)
    · skip
      have h136 := zB_f0 h136
      refine v_lload g dX1_wayOf_142 4 rfl ?_
      refine v_aload_n g dX1_wayOf_144 6 rfl ?_
      refine v_get g dX1_wayOf_145 fl_RX1_21 hO rfl ?_
      refine v_aload_n g dX1_wayOf_148 7 rfl ?_
      refine v_callV (As := []) (r := some (.int (t 0))) g dX1_wayOf_149 (k_X4_first hR hT) cl_X4_first ml_RX1_92 im_X4_first hR rfl rfl ⟨rfl, rfl, rfl⟩ ?_
      refine v_iload g dX1_wayOf_152 1 rfl ?_
      refine v_callV (As := [.int (t 0), .int tn]) (r := some (.int (nextC li wi (t 0) tn))) g dX1_wayOf_154 (k_X0_nextBy hL (t 0) tn) cl_X0_nextBy ml_RX1_96 im_X0_nextBy hL rfl rfl ⟨rfl, rfl, rfl⟩ ?_
      refine v_callSN (As := [.long op, .int (nextC li wi (t 0) tn)]) (r := some (.int (zB (ctn op (nextC li wi (t 0) tn))))) g dX1_wayOf_157 (k_X5_contains op (nextC li wi (t 0) tn)) cl_X5_contains nl_RX1_50 sm_X5_contains rfl ⟨rfl, rfl, rfl⟩ ?_
      refine v_if_eq (tgt := 166) g dX1_wayOf_160 (by decide) (fun h160 => ?_) (fun h160 => ?_)
      · skip
        have h160 := zB_f0 h160
        refine v_lload g dX1_wayOf_166 4 rfl ?_
        refine v_aload_n g dX1_wayOf_168 6 rfl ?_
        refine v_get g dX1_wayOf_169 fl_RX1_21 hO rfl ?_
        refine v_aload_n g dX1_wayOf_172 7 rfl ?_
        refine v_callV (As := []) (r := some (.int (t 0))) g dX1_wayOf_173 (k_X4_first hR hT) cl_X4_first ml_RX1_92 im_X4_first hR rfl rfl ⟨rfl, rfl, rfl⟩ ?_
        refine v_iload g dX1_wayOf_176 0 rfl ?_
        refine v_callV (As := [.int (t 0), .int ot]) (r := some (.int (nextC li wi (t 0) ot))) g dX1_wayOf_178 (k_X0_nextBy hL (t 0) ot) cl_X0_nextBy ml_RX1_96 im_X0_nextBy hL rfl rfl ⟨rfl, rfl, rfl⟩ ?_
        refine v_callSN (As := [.long op, .int (nextC li wi (t 0) ot)]) (r := some (.int (zB (ctn op (nextC li wi (t 0) ot))))) g dX1_wayOf_181 (k_X5_contains op (nextC li wi (t 0) ot)) cl_X5_contains nl_RX1_50 sm_X5_contains rfl ⟨rfl, rfl, rfl⟩ ?_
        refine v_if_eq (tgt := 192) g dX1_wayOf_184 (by decide) (fun h184 => ?_) (fun h184 => ?_)
        · skip
          have h184 := zB_f0 h184
          refine v_bipush (v := (-4)) g dX1_wayOf_192 (by decide) ?_
          exact v_iret g E dX1_wayOf_194 rfl ⟨by first | (simp [wayC, wayC2, turnC, openC, *]; done) | (simp_all [wayC, wayC2, turnC, openC]; done), rfl, rfl⟩
        · skip
          have h184 := zB_t0 h184
          refine v_iload g dX1_wayOf_187 0 rfl ?_
          refine v_goto (tgt := 194) g dX1_wayOf_189 (by decide) ?_
          exact v_iret g E dX1_wayOf_194 rfl ⟨by first | (simp [wayC, wayC2, turnC, openC, *]; done) | (simp_all [wayC, wayC2, turnC, openC]; done), rfl, rfl⟩
      · skip
        have h160 := zB_t0 h160
        refine v_iload g dX1_wayOf_163 1 rfl ?_
        exact v_iret g E dX1_wayOf_165 rfl ⟨by first | (simp [wayC, wayC2, turnC, openC, *]; done) | (simp_all [wayC, wayC2, turnC, openC]; done), rfl, rfl⟩
    · skip
      have h136 := zB_t0 h136
      refine v_iload g dX1_wayOf_139 2 rfl ?_
      exact v_iret g E dX1_wayOf_141 rfl ⟨by first | (simp [wayC, wayC2, turnC, openC, *]; done) | (simp_all [wayC, wayC2, turnC, openC]; done), rfl, rfl⟩
  refine v_aload_n g dX1_wayOf_0 1 rfl ?_
  refine v_get g dX1_wayOf_1 fl_RX1_80 hR rfl ?_
  refine v_iconst (v := 2) g dX1_wayOf_4 (by decide) ?_
  refine v_icmp_ne (tgt := 20) g dX1_wayOf_5 (by decide) (fun h5 => ?_) (fun h5 => ?_)
  · skip
    exact J20 (by simp [*])
  · skip
    refine v_aload_n g dX1_wayOf_8 0 rfl ?_
    refine v_get g dX1_wayOf_9 fl_RX1_30 hO rfl ?_
    refine v_iconst (v := 2) g dX1_wayOf_12 (by decide) ?_
    refine v_irem g dX1_wayOf_13 (by decide) ?_
    refine v_if_eq (tgt := 20) g dX1_wayOf_14 (by decide) (fun h14 => ?_) (fun h14 => ?_)
    · skip
      exact J20 (by simp [*])
    · skip
      refine v_bipush (v := (-4)) g dX1_wayOf_17 (by decide) ?_
      exact v_iret g E dX1_wayOf_19 rfl ⟨by first | (simp [wayC, wayC2, turnC, openC, *]; done) | (simp_all [wayC, wayC2, turnC, openC]; done), rfl, rfl⟩
end C1
end
section
/-! THE CLASS'S STATE: plain data; `ren` lays it out as memory, from the address B on -/
abbrev LV : Type := Int64 × Int64 × Int64 × Int32 × Int32 × (Nat → Int32)
abbrev RV : Type := Int32 × Int32 × Int32 × Int32 × (Nat → Int32)
abbrev OV : Type := Int32 × Int32 × Int64 × Int64 × Int64 × Int64 × (Nat → Int32) × (Nat → RV)
/-- (text's length, how many seen); int arrays (0 text, 1 2 3 seen, 4 found, 5 numbers, 6 the first text); lands; orchards; pasts (count, which orchard); reader (told, length, at, where its letters are); entered by -/
abbrev CS : Type := (Int32 × Int32) × (Nat → Nat → Int32) × (Nat → LV) × (Nat → OV) × (Nat → Int32 × (Nat → Nat)) × (Int32 × Int32 × Int32 × Nat) × (Nat → Int64)
def cW (C : CS) : Int32 × Int32 := C.1
def cA (C : CS) : Nat → Nat → Int32 := C.2.1
def cL (C : CS) : Nat → LV := C.2.2.1
def cO (C : CS) : Nat → OV := C.2.2.2.1
def cP (C : CS) : Nat → Int32 × (Nat → Nat) := C.2.2.2.2.1
def cR (C : CS) : Int32 × Int32 × Int32 × Nat := C.2.2.2.2.2.1
def cE (C : CS) : Nat → Int64 := C.2.2.2.2.2.2
def sW (C : CS) (v : Int32 × Int32) : CS := (v, C.2)
def sA (C : CS) (k : Nat) (f : Nat → Int32) : CS := (C.1, va_up C.2.1 k f, C.2.2)
def sL (C : CS) (i : Nat) (v : LV) : CS := (C.1, C.2.1, va_up C.2.2.1 i v, C.2.2.2)
def sO (C : CS) (i : Nat) (v : OV) : CS := (C.1, C.2.1, C.2.2.1, va_up C.2.2.2.1 i v, C.2.2.2.2)
def sP (C : CS) (j : Nat) (v : Int32 × (Nat → Nat)) : CS := (C.1, C.2.1, C.2.2.1, C.2.2.2.1, va_up C.2.2.2.2.1 j v, C.2.2.2.2.2)
def sR (C : CS) (v : Int32 × Int32 × Int32 × Nat) : CS := (C.1, C.2.1, C.2.2.1, C.2.2.2.1, C.2.2.2.2.1, v, C.2.2.2.2.2.2)
def sE (C : CS) (f : Nat → Int64) : CS := (C.1, C.2.1, C.2.2.1, C.2.2.2.1, C.2.2.2.2.1, C.2.2.2.2.2.1, f)
theorem va_up_up {α : Type} (f : Nat → α) (k : Nat) (v w : α) : va_up (va_up f k v) k w = va_up f k w := by funext j; simp only [va_up]; split <;> rfl
theorem va_up_id {α : Type} (f : Nat → α) (k : Nat) : va_up f k (f k) = f := by funext j; simp only [va_up]; split; (next h => rw [h]); rfl
theorem sA_sA (C : CS) (k : Nat) (v w : Nat → Int32) : sA (sA C k v) k w = sA C k w := by simp only [sA, va_up_up]
theorem sA_id (C : CS) (k : Nat) : sA C k (cA C k) = C := by simp only [sA, cA, va_up_id]
theorem cA_sA (C : CS) (k : Nat) (v : Nat → Int32) : cA (sA C k v) k = v := va_up_self _ _ _
theorem cA_sA_ne (C : CS) {k j : Nat} (v : Nat → Int32) (h : j ≠ k) : cA (sA C k v) j = cA C j := va_up_ne _ _ h
theorem sL_sL (C : CS) (k : Nat) (v w : LV) : sL (sL C k v) k w = sL C k w := by simp only [sL, va_up_up]
theorem sL_id (C : CS) (k : Nat) : sL C k (cL C k) = C := by simp only [sL, cL, va_up_id]
theorem cL_sL (C : CS) (k : Nat) (v : LV) : cL (sL C k v) k = v := va_up_self _ _ _
theorem cL_sL_ne (C : CS) {k j : Nat} (v : LV) (h : j ≠ k) : cL (sL C k v) j = cL C j := va_up_ne _ _ h
theorem sO_sO (C : CS) (k : Nat) (v w : OV) : sO (sO C k v) k w = sO C k w := by simp only [sO, va_up_up]
theorem sO_id (C : CS) (k : Nat) : sO C k (cO C k) = C := by simp only [sO, cO, va_up_id]
theorem cO_sO (C : CS) (k : Nat) (v : OV) : cO (sO C k v) k = v := va_up_self _ _ _
theorem cO_sO_ne (C : CS) {k j : Nat} (v : OV) (h : j ≠ k) : cO (sO C k v) j = cO C j := va_up_ne _ _ h
theorem sP_sP (C : CS) (k : Nat) (v w : Int32 × (Nat → Nat)) : sP (sP C k v) k w = sP C k w := by simp only [sP, va_up_up]
theorem sP_id (C : CS) (k : Nat) : sP C k (cP C k) = C := by simp only [sP, cP, va_up_id]
theorem cP_sP (C : CS) (k : Nat) (v : Int32 × (Nat → Nat)) : cP (sP C k v) k = v := va_up_self _ _ _
theorem cP_sP_ne (C : CS) {k j : Nat} (v : Int32 × (Nat → Nat)) (h : j ≠ k) : cP (sP C k v) j = cP C j := va_up_ne _ _ h
-- where things lie
def oB (i : Nat) : Nat := if i = 0 then 4 else if i = 1 then 13 else if i = 2 then 25 else if i < 11 then 38 + 9 * (i - 3) else 112 + 9 * (i - 11)
def lB (i : Nat) : Nat := if i = 0 then 2 else 23
def pB (j : Nat) : Nat := if j = 0 then 36 else 110
def aB (k : Nat) : Nat := if k = 0 then 1 else if k = 1 then 130 else if k = 2 then 131 else if k = 3 then 132 else if k = 4 then 133 else if k = 5 then 34 else 135
def aLen (k : Nat) : Nat := if k = 0 then 200 else if k = 4 then 2 else if k = 5 then 7 else if k = 6 then 101 else 6
def aTy (k : Nat) : Nat := if k = 0 then 2 else if k = 6 then 2 else 0
def pLen (j : Nat) : Nat := if j = 0 then 8 else 2
def adL (B i : Nat) : Nat := B + lB i
def adLo (B i : Nat) : Nat := B + (lB i + 1)
def adO (B i : Nat) : Nat := B + oB i
def adRs (B i : Nat) : Nat := B + (oB i + 1)
def adOw (B i : Nat) : Nat := B + (oB i + 2)
def adR (B i r : Nat) : Nat := B + (oB i + 3 + 2 * r)
def adT (B i r : Nat) : Nat := B + (oB i + 4 + 2 * r)
def adP (B j : Nat) : Nat := B + pB j
def adPa (B j : Nat) : Nat := B + (pB j + 1)
def adA (B k : Nat) : Nat := B + aB k
def landOf (i : Nat) : Nat := if i = 2 then 1 else 0
-- which cell lies where: kind, number, row
def dec (k : Nat) : Nat × Nat × Nat :=
  let o := fun (i d : Nat) => if d = 0 then (4, i, 0) else if d = 1 then (5, i, 0) else if d = 2 then (6, i, 0) else if d % 2 = 1 then (7, i, (d - 3) / 2) else (8, i, (d - 4) / 2)
  if k = 0 then (0, 0, 0) else if k = 1 then (1, 0, 0) else if k = 2 then (2, 0, 0) else if k = 3 then (3, 0, 0) else if k < 13 then o 0 (k - 4) else if k < 22 then o 1 (k - 13) else if k = 22 then (11, 0, 0) else if k = 23 then (2, 1, 0) else if k = 24 then (3, 1, 0)
  else if k < 34 then o 2 (k - 25) else if k = 34 then (1, 5, 0) else if k = 35 then (13, 0, 0) else if k = 36 then (9, 0, 0) else if k = 37 then (10, 0, 0) else if k < 110 then o (3 + (k - 38) / 9) ((k - 38) % 9) else if k = 110 then (9, 1, 0) else if k = 111 then (10, 1, 0)
  else if k < 130 then o (11 + (k - 112) / 9) ((k - 112) % 9) else if k = 130 then (1, 1, 0) else if k = 131 then (1, 2, 0) else if k = 132 then (1, 3, 0) else if k = 133 then (1, 4, 0) else if k = 134 then (12, 0, 0) else (1, 6, 0)
def enc (q : Nat × Nat × Nat) : Nat := match q with
  | (0, _, _) => 0
  | (1, i, _) => aB i
  | (2, i, _) => lB i
  | (3, i, _) => lB i + 1
  | (4, i, _) => oB i
  | (5, i, _) => oB i + 1
  | (6, i, _) => oB i + 2
  | (7, i, r) => oB i + 3 + 2 * r
  | (8, i, r) => oB i + 4 + 2 * r
  | (9, j, _) => pB j
  | (10, j, _) => pB j + 1
  | (11, _, _) => 22
  | (12, _, _) => 134
  | _ => 35
theorem enc_dec : ∀ k, k < 136 → enc (dec k) = k := by decide +kernel
/-- the keys in use have no junk -/
def keyOk (q : Nat × Nat × Nat) : Bool := ((q.1 == 7) || (q.1 == 8) || (q.2.2 == 0)) && ((!(q.1 == 0) && !(q.1 == 11) && !(q.1 == 12) && !(q.1 == 13)) || (q.2.1 == 0))
theorem dec_ok : ∀ k, k < 136 → keyOk (dec k) = true := by decide +kernel
def cellC (B : Nat) (C : CS) (q : Nat × Nat × Nat) : Ce := match q with
  | (0, _, _) => .inr (5, [.ref (adA B 0), .int (cW C).1, .ref (adL B 0), .ref (adO B 0), .ref (adO B 1), .ref (B + 22), .ref (adP B 0), .ref (adP B 1), .ref (adA B 1), .ref (adA B 2), .ref (adA B 3), .int (cW C).2, .ref (adA B 4), .ref (B + 134)])
  | (1, k, _) => .inl (aTy k, aLen k, .inl (cA C k))
  | (2, i, _) => .inr (0, [.ref (adLo B i), .long (cL C i).1, .long (cL C i).2.1, .long (cL C i).2.2.1, .int (cL C i).2.2.2.1, .int (cL C i).2.2.2.2.1])
  | (3, i, _) => .inl (0, 36, .inl (cL C i).2.2.2.2.2)
  | (4, i, _) => .inr (1, [.ref (adL B (landOf i)), .ref (adRs B i), .ref (adOw B i), .int (cO C i).1, .int (cO C i).2.1, .long (cO C i).2.2.1, .long (cO C i).2.2.2.1, .long (cO C i).2.2.2.2.1, .long (cO C i).2.2.2.2.2.1])
  | (5, i, _) => .inl (3, 3, .inr (.inr (.inr (.inr (fun r => some (adR B i r))))))
  | (6, i, _) => .inl (0, 4, .inl (cO C i).2.2.2.2.2.2.1)
  | (7, i, r) => .inr (4, [.ref (adT B i r), .int ((cO C i).2.2.2.2.2.2.2 r).1, .int ((cO C i).2.2.2.2.2.2.2 r).2.1, .int ((cO C i).2.2.2.2.2.2.2 r).2.2.1, .int ((cO C i).2.2.2.2.2.2.2 r).2.2.2.1])
  | (8, i, r) => .inl (0, 4, .inl ((cO C i).2.2.2.2.2.2.2 r).2.2.2.2)
  | (9, j, _) => .inr (2, [.ref (adPa B j), .int (cP C j).1])
  | (10, j, _) => .inl (4, pLen j, .inr (.inr (.inr (.inr (fun k => some (adO B ((cP C j).2 k)))))))
  | (11, _, _) => .inr (3, [.ref (adL B 1), .ref (adO B 2), .ref (adA B 5), .int (cR C).1, .ref (B + (cR C).2.2.2), .int (cR C).2.1, .int (cR C).2.2.1])
  | (12, _, _) => .inl (1, 36, .inr (.inl (cE C)))
  | _ => .inl (2, 0, .inl (fun _ => 0))
def ren (B : Nat) (C : CS) (ρ : Mu) : Mu := fun a => if B ≤ a ∧ a < B + 136 then some (cellC B C (dec (a - B))) else ρ a
theorem ren_at (B : Nat) (C : CS) (ρ : Mu) {k : Nat} (hk : k < 136) : ren B C ρ (B + k) = some (cellC B C (dec k)) := by
  unfold ren
  rw [if_pos ⟨by omega, by omega⟩, Nat.add_sub_cancel_left]
theorem ren_set (B : Nat) {C C' : CS} (ρ : Mu) {k : Nat} (hk : k < 136) {e : Ce} (he : cellC B C' (dec k) = e) (hne : ∀ q, keyOk q = true → q ≠ dec k → cellC B C' q = cellC B C q) : mset (ren B C ρ) (B + k) e = ren B C' ρ := by
  funext a
  by_cases ha : a = B + k
  · subst ha
    rw [mset_self, ren_at B C' ρ hk, he]
  · rw [mset_ne _ _ ha]
    unfold ren
    by_cases hb : B ≤ a ∧ a < B + 136
    · rw [if_pos hb, if_pos hb, hne _ (dec_ok _ (by omega))]
      intro h
      have h2 := congrArg enc h
      rw [enc_dec _ (by omega), enc_dec _ hk] at h2
      omega
    · rw [if_neg hb, if_neg hb]
theorem dec_L : ∀ i, i < 2 → dec (lB i) = (2, i, 0) ∧ lB i < 136 := by decide +kernel
theorem dec_Lo : ∀ i, i < 2 → dec (lB i + 1) = (3, i, 0) ∧ lB i + 1 < 136 := by decide +kernel
theorem dec_O : ∀ i, i < 13 → dec (oB i) = (4, i, 0) ∧ oB i < 136 := by decide +kernel
theorem dec_Rs : ∀ i, i < 13 → dec (oB i + 1) = (5, i, 0) ∧ oB i + 1 < 136 := by decide +kernel
theorem dec_Ow : ∀ i, i < 13 → dec (oB i + 2) = (6, i, 0) ∧ oB i + 2 < 136 := by decide +kernel
theorem dec_R : ∀ i, i < 13 → ∀ r, r < 3 → dec (oB i + 3 + 2 * r) = (7, i, r) ∧ oB i + 3 + 2 * r < 136 := by decide +kernel
theorem dec_T : ∀ i, i < 13 → ∀ r, r < 3 → dec (oB i + 4 + 2 * r) = (8, i, r) ∧ oB i + 4 + 2 * r < 136 := by decide +kernel
theorem dec_P : ∀ j, j < 2 → dec (pB j) = (9, j, 0) ∧ pB j < 136 := by decide +kernel
theorem dec_Pa : ∀ j, j < 2 → dec (pB j + 1) = (10, j, 0) ∧ pB j + 1 < 136 := by decide +kernel
theorem dec_A : ∀ k, k < 7 → dec (aB k) = (1, k, 0) ∧ aB k < 136 := by decide +kernel
theorem landOf_lt (i : Nat) : landOf i < 2 := by unfold landOf; split <;> decide
theorem rd_L (B : Nat) (C : CS) (ρ : Mu) {i : Nat} (hi : i < 2) : ren B C ρ (adL B i) = some (cellC B C (2, i, 0)) := by
  have h := dec_L i hi
  unfold adL
  rw [ren_at B C ρ h.2, h.1]
theorem rd_Lo (B : Nat) (C : CS) (ρ : Mu) {i : Nat} (hi : i < 2) : ren B C ρ (adLo B i) = some (cellC B C (3, i, 0)) := by
  have h := dec_Lo i hi
  unfold adLo
  rw [ren_at B C ρ h.2, h.1]
theorem rd_O (B : Nat) (C : CS) (ρ : Mu) {i : Nat} (hi : i < 13) : ren B C ρ (adO B i) = some (cellC B C (4, i, 0)) := by
  have h := dec_O i hi
  unfold adO
  rw [ren_at B C ρ h.2, h.1]
theorem rd_Rs (B : Nat) (C : CS) (ρ : Mu) {i : Nat} (hi : i < 13) : ren B C ρ (adRs B i) = some (cellC B C (5, i, 0)) := by
  have h := dec_Rs i hi
  unfold adRs
  rw [ren_at B C ρ h.2, h.1]
theorem rd_Ow (B : Nat) (C : CS) (ρ : Mu) {i : Nat} (hi : i < 13) : ren B C ρ (adOw B i) = some (cellC B C (6, i, 0)) := by
  have h := dec_Ow i hi
  unfold adOw
  rw [ren_at B C ρ h.2, h.1]
theorem rd_R (B : Nat) (C : CS) (ρ : Mu) {i r : Nat} (hi : i < 13) (hr : r < 3) : ren B C ρ (adR B i r) = some (cellC B C (7, i, r)) := by
  have h := dec_R i hi r hr
  unfold adR
  rw [ren_at B C ρ h.2, h.1]
theorem rd_T (B : Nat) (C : CS) (ρ : Mu) {i r : Nat} (hi : i < 13) (hr : r < 3) : ren B C ρ (adT B i r) = some (cellC B C (8, i, r)) := by
  have h := dec_T i hi r hr
  unfold adT
  rw [ren_at B C ρ h.2, h.1]
theorem rd_P (B : Nat) (C : CS) (ρ : Mu) {j : Nat} (hj : j < 2) : ren B C ρ (adP B j) = some (cellC B C (9, j, 0)) := by
  have h := dec_P j hj
  unfold adP
  rw [ren_at B C ρ h.2, h.1]
theorem rd_Pa (B : Nat) (C : CS) (ρ : Mu) {j : Nat} (hj : j < 2) : ren B C ρ (adPa B j) = some (cellC B C (10, j, 0)) := by
  have h := dec_Pa j hj
  unfold adPa
  rw [ren_at B C ρ h.2, h.1]
theorem rd_A (B : Nat) (C : CS) (ρ : Mu) {k : Nat} (hk : k < 7) : ren B C ρ (adA B k) = some (cellC B C (1, k, 0)) := by
  have h := dec_A k hk
  unfold adA
  rw [ren_at B C ρ h.2, h.1]
theorem rd_W (B : Nat) (C : CS) (ρ : Mu) : ren B C ρ B = some (cellC B C (0, 0, 0)) := ren_at B C ρ (k := 0) (by decide)
theorem rd_Re (B : Nat) (C : CS) (ρ : Mu) : ren B C ρ (B + 22) = some (cellC B C (11, 0, 0)) := ren_at B C ρ (k := 22) (by decide)
theorem rd_E (B : Nat) (C : CS) (ρ : Mu) : ren B C ρ (B + 134) = some (cellC B C (12, 0, 0)) := ren_at B C ρ (k := 134) (by decide)
theorem rd_0 (B : Nat) (C : CS) (ρ : Mu) : ren B C ρ (B + 35) = some (.inl (2, 0, .inl (fun _ => 0))) := ren_at B C ρ (k := 35) (by decide)
section FO
variable (B : Nat) (C : CS) (ρ : Mu) {i : Nat} (rc yr : Int32) (di le ta en : Int64) (ow : Nat → Int32) (rw : Nat → RV)
theorem fo_O (hi : i < 13) : ren B (sO C i (rc, yr, di, le, ta, en, ow, rw)) ρ (adO B i) = some (orCe (adL B (landOf i)) (adRs B i) (adOw B i) rc yr di le ta en) := by
  rw [rd_O B _ ρ hi]; simp only [cellC, cO_sO]
theorem fo_Rs (hi : i < 13) : ren B (sO C i (rc, yr, di, le, ta, en, ow, rw)) ρ (adRs B i) = some (rA 3 (fun r => some (adR B i r))) := by
  rw [rd_Rs B _ ρ hi]; rfl
theorem fo_Ow (hi : i < 13) : ren B (sO C i (rc, yr, di, le, ta, en, ow, rw)) ρ (adOw B i) = some (iA 4 ow) := by
  rw [rd_Ow B _ ρ hi]; simp only [cellC, cO_sO]
theorem fo_R (hi : i < 13) {r : Nat} (hr : r < 3) : ren B (sO C i (rc, yr, di, le, ta, en, ow, rw)) ρ (adR B i r) = some (rowCe (adT B i r) (rw r).1 (rw r).2.1 (rw r).2.2.1 (rw r).2.2.2.1) := by
  rw [rd_R B _ ρ hi hr]; simp only [cellC, cO_sO]
theorem fo_T (hi : i < 13) {r : Nat} (hr : r < 3) : ren B (sO C i (rc, yr, di, le, ta, en, ow, rw)) ρ (adT B i r) = some (iA 4 (rw r).2.2.2.2) := by
  rw [rd_T B _ ρ hi hr]; simp only [cellC, cO_sO]
theorem fo_Rf (hi : i < 13) {r : Nat} (hr : r < 3) (sz kd hd be : Int32) (t : Nat → Int32) : ren B (sO C i (rc, yr, di, le, ta, en, ow, va_up rw r (sz, kd, hd, be, t))) ρ (adR B i r) = some (rowCe (adT B i r) sz kd hd be) := by
  rw [fo_R B C ρ rc yr di le ta en ow _ hi hr, va_up_self]
theorem fo_Tf (hi : i < 13) {r : Nat} (hr : r < 3) (sz kd hd be : Int32) (t : Nat → Int32) : ren B (sO C i (rc, yr, di, le, ta, en, ow, va_up rw r (sz, kd, hd, be, t))) ρ (adT B i r) = some (iA 4 t) := by
  rw [fo_T B C ρ rc yr di le ta en ow _ hi hr, va_up_self]
theorem fo_L (hi : i < 13) : ren B (sO C i (rc, yr, di, le, ta, en, ow, rw)) ρ (adL B (landOf i)) = some (landCe (adLo B (landOf i)) (cL C (landOf i)).1 (cL C (landOf i)).2.1 (cL C (landOf i)).2.2.1 (cL C (landOf i)).2.2.2.1 (cL C (landOf i)).2.2.2.2.1) := by
  rw [rd_L B _ ρ (landOf_lt i)]; rfl
theorem fo_Lo (hi : i < 13) : ren B (sO C i (rc, yr, di, le, ta, en, ow, rw)) ρ (adLo B (landOf i)) = some (iA 36 (cL C (landOf i)).2.2.2.2.2) := by
  rw [rd_Lo B _ ρ (landOf_lt i)]; rfl
theorem cs_O (B : Nat) (C : CS) (i : Nat) (v v' : OV) (t j r : Nat) (h : t ≠ 4 ∧ t ≠ 6 ∧ t ≠ 7 ∧ t ≠ 8) : cellC B (sO C i v) (t, j, r) = cellC B (sO C i v') (t, j, r) := by
  have key : ∀ v : OV, cellC B (sO C i v) (t, j, r) = cellC B C (t, j, r) := by
    intro v
    match t, h with
    | 0, _ | 1, _ | 2, _ | 3, _ | 5, _ | 9, _ | 10, _ | 11, _ | 12, _ => rfl
    | 4, h | 6, h | 7, h | 8, h => exfalso; omega
    | t + 13, _ => rfl
  rw [key v, key v']
theorem key_ne {t i r : Nat} {q : Nat × Nat × Nat} (hk : keyOk q = true) (h : q ≠ (t, i, r)) (ht : q.1 = t) (hr : q.2.2 = r) : q.2.1 ≠ i := by
  obtain ⟨a, b, c⟩ := q
  intro hb
  dsimp only at ht hr hb
  subst ht; subst hr; subst hb
  exact h rfl
theorem st_O (hi : i < 13) (rc' yr' : Int32) (di' le' ta' en' : Int64) : mset (ren B (sO C i (rc, yr, di, le, ta, en, ow, rw)) ρ) (adO B i) (orCe (adL B (landOf i)) (adRs B i) (adOw B i) rc' yr' di' le' ta' en') = ren B (sO C i (rc', yr', di', le', ta', en', ow, rw)) ρ := by
  have hd := dec_O i hi
  refine ren_set B ρ hd.2 ?_ ?_
  · rw [hd.1]; simp only [cellC, cO_sO]
  · rw [hd.1]
    rintro ⟨t, j, r⟩ hk hq
    match t with
    | 4 =>
      have hr : r = 0 := by simpa [keyOk] using hk
      have hj : j ≠ i := fun h => hq (by rw [h, hr])
      simp only [cellC, cO_sO_ne C _ hj]
    | 6 | 7 | 8 =>
      by_cases hj : j = i
      · subst hj; simp only [cellC, cO_sO]
      · simp only [cellC, cO_sO_ne C _ hj]
    | 0 | 1 | 2 | 3 | 5 | 9 | 10 | 11 | 12 => exact cs_O _ _ _ _ _ _ _ _ (by decide)
    | t + 13 => exact cs_O _ _ _ _ _ _ _ _ ⟨by omega, by omega, by omega, by omega⟩
theorem st_Ow (hi : i < 13) (ow' : Nat → Int32) : mset (ren B (sO C i (rc, yr, di, le, ta, en, ow, rw)) ρ) (adOw B i) (iA 4 ow') = ren B (sO C i (rc, yr, di, le, ta, en, ow', rw)) ρ := by
  have hd := dec_Ow i hi
  refine ren_set B ρ hd.2 ?_ ?_
  · rw [hd.1]; simp only [cellC, cO_sO]
  · rw [hd.1]
    rintro ⟨t, j, r⟩ hk hq
    match t with
    | 6 =>
      have hr : r = 0 := by simpa [keyOk] using hk
      have hj : j ≠ i := fun h => hq (by rw [h, hr])
      simp only [cellC, cO_sO_ne C _ hj]
    | 4 | 7 | 8 =>
      by_cases hj : j = i
      · subst hj; simp only [cellC, cO_sO]
      · simp only [cellC, cO_sO_ne C _ hj]
    | 0 | 1 | 2 | 3 | 5 | 9 | 10 | 11 | 12 => exact cs_O _ _ _ _ _ _ _ _ (by decide)
    | t + 13 => exact cs_O _ _ _ _ _ _ _ _ ⟨by omega, by omega, by omega, by omega⟩
theorem st_Rf (hi : i < 13) {r : Nat} (hr : r < 3) (sz kd hd be sz' kd' hd' be' : Int32) (t : Nat → Int32) : mset (ren B (sO C i (rc, yr, di, le, ta, en, ow, va_up rw r (sz, kd, hd, be, t))) ρ) (adR B i r) (rowCe (adT B i r) sz' kd' hd' be') = ren B (sO C i (rc, yr, di, le, ta, en, ow, va_up rw r (sz', kd', hd', be', t))) ρ := by
  have hd := dec_R i hi r hr
  refine ren_set B ρ hd.2 ?_ ?_
  · rw [hd.1]; simp only [cellC, cO_sO, va_up_self]
  · rw [hd.1]
    rintro ⟨t1, j, r1⟩ hk hq
    match t1 with
    | 7 =>
      by_cases hj : j = i
      · subst hj
        have hr1 : r1 ≠ r := fun h => hq (by rw [h])
        simp only [cellC, cO_sO, va_up_ne _ _ hr1]
      · simp only [cellC, cO_sO_ne C _ hj]
    | 8 =>
      by_cases hj : j = i
      · subst hj
        by_cases hr1 : r1 = r
        · subst hr1; simp only [cellC, cO_sO, va_up_self]
        · simp only [cellC, cO_sO, va_up_ne _ _ hr1]
      · simp only [cellC, cO_sO_ne C _ hj]
    | 4 | 6 =>
      by_cases hj : j = i
      · subst hj; simp only [cellC, cO_sO]
      · simp only [cellC, cO_sO_ne C _ hj]
    | 0 | 1 | 2 | 3 | 5 | 9 | 10 | 11 | 12 => exact cs_O _ _ _ _ _ _ _ _ (by decide)
    | t1 + 13 => exact cs_O _ _ _ _ _ _ _ _ ⟨by omega, by omega, by omega, by omega⟩
theorem st_Tf (hi : i < 13) {r : Nat} (hr : r < 3) (sz kd hd be : Int32) (t t' : Nat → Int32) : mset (ren B (sO C i (rc, yr, di, le, ta, en, ow, va_up rw r (sz, kd, hd, be, t))) ρ) (adT B i r) (iA 4 t') = ren B (sO C i (rc, yr, di, le, ta, en, ow, va_up rw r (sz, kd, hd, be, t'))) ρ := by
  have hd := dec_T i hi r hr
  refine ren_set B ρ hd.2 ?_ ?_
  · rw [hd.1]; simp only [cellC, cO_sO, va_up_self]
  · rw [hd.1]
    rintro ⟨t1, j, r1⟩ hk hq
    match t1 with
    | 8 =>
      by_cases hj : j = i
      · subst hj
        have hr1 : r1 ≠ r := fun h => hq (by rw [h])
        simp only [cellC, cO_sO, va_up_ne _ _ hr1]
      · simp only [cellC, cO_sO_ne C _ hj]
    | 7 =>
      by_cases hj : j = i
      · subst hj
        by_cases hr1 : r1 = r
        · subst hr1; simp only [cellC, cO_sO, va_up_self]
        · simp only [cellC, cO_sO, va_up_ne _ _ hr1]
      · simp only [cellC, cO_sO_ne C _ hj]
    | 4 | 6 =>
      by_cases hj : j = i
      · subst hj; simp only [cellC, cO_sO]
      · simp only [cellC, cO_sO_ne C _ hj]
    | 0 | 1 | 2 | 3 | 5 | 9 | 10 | 11 | 12 => exact cs_O _ _ _ _ _ _ _ _ (by decide)
    | t1 + 13 => exact cs_O _ _ _ _ _ _ _ _ ⟨by omega, by omega, by omega, by omega⟩
end FO
section FL2
variable (B : Nat) (C : CS) (ρ : Mu) {i : Nat} (F H Br : Int64) (li wi : Int32) (ow : Nat → Int32)
theorem fl_L (hi : i < 2) : ren B (sL C i (F, H, Br, li, wi, ow)) ρ (adL B i) = some (landCe (adLo B i) F H Br li wi) := by
  rw [rd_L B _ ρ hi]; simp only [cellC, cL_sL]
theorem fl_Lo (hi : i < 2) : ren B (sL C i (F, H, Br, li, wi, ow)) ρ (adLo B i) = some (iA 36 ow) := by
  rw [rd_Lo B _ ρ hi]; simp only [cellC, cL_sL]
theorem st_L (hi : i < 2) (F' H' Br' : Int64) (li' wi' : Int32) : mset (ren B (sL C i (F, H, Br, li, wi, ow)) ρ) (adL B i) (landCe (adLo B i) F' H' Br' li' wi') = ren B (sL C i (F', H', Br', li', wi', ow)) ρ := by
  have hd := dec_L i hi
  refine ren_set B ρ hd.2 ?_ ?_
  · rw [hd.1]; simp only [cellC, cL_sL]
  · rw [hd.1]
    rintro ⟨t, j, r⟩ hk hq
    match t with
    | 2 =>
      have hr : r = 0 := by simpa [keyOk] using hk
      have hj : j ≠ i := fun h => hq (by rw [h, hr])
      simp only [cellC, cL_sL_ne C _ hj]
    | 3 =>
      by_cases hj : j = i
      · subst hj; simp only [cellC, cL_sL]
      · simp only [cellC, cL_sL_ne C _ hj]
    | 0 | 1 | 4 | 5 | 6 | 7 | 8 | 9 | 10 | 11 | 12 => rfl
    | t + 13 => rfl
theorem st_Lo (hi : i < 2) (ow' : Nat → Int32) : mset (ren B (sL C i (F, H, Br, li, wi, ow)) ρ) (adLo B i) (iA 36 ow') = ren B (sL C i (F, H, Br, li, wi, ow')) ρ := by
  have hd := dec_Lo i hi
  refine ren_set B ρ hd.2 ?_ ?_
  · rw [hd.1]; simp only [cellC, cL_sL]
  · rw [hd.1]
    rintro ⟨t, j, r⟩ hk hq
    match t with
    | 3 =>
      have hr : r = 0 := by simpa [keyOk] using hk
      have hj : j ≠ i := fun h => hq (by rw [h, hr])
      simp only [cellC, cL_sL_ne C _ hj]
    | 2 =>
      by_cases hj : j = i
      · subst hj; simp only [cellC, cL_sL]
      · simp only [cellC, cL_sL_ne C _ hj]
    | 0 | 1 | 4 | 5 | 6 | 7 | 8 | 9 | 10 | 11 | 12 => rfl
    | t + 13 => rfl
end FL2
theorem st_W (B : Nat) (C : CS) (ρ : Mu) (a b : Int32) : mset (ren B C ρ) B (cellC B (sW C (a, b)) (0, 0, 0)) = ren B (sW C (a, b)) ρ := by
  refine ren_set B ρ (k := 0) (by decide) rfl ?_
  rintro ⟨t, j, r⟩ hk hq
  match t with
  | 0 =>
    have h0 : r = 0 ∧ j = 0 := by simpa [keyOk] using hk
    exact absurd (by rw [h0.1, h0.2]; rfl) hq
  | 1 | 2 | 3 | 4 | 5 | 6 | 7 | 8 | 9 | 10 | 11 | 12 => rfl
  | t + 13 => rfl
theorem st_A (B : Nat) (C : CS) (ρ : Mu) {k : Nat} (hk7 : k < 7) (f : Nat → Int32) : mset (ren B C ρ) (adA B k) (.inl (aTy k, aLen k, .inl f)) = ren B (sA C k f) ρ := by
  have hd := dec_A k hk7
  refine ren_set B ρ hd.2 ?_ ?_
  · rw [hd.1]; simp only [cellC, cA_sA]
  · rw [hd.1]
    rintro ⟨t, j, r⟩ hk hq
    match t with
    | 1 =>
      have hr : r = 0 := by simpa [keyOk] using hk
      have hj : j ≠ k := fun h => hq (by rw [h, hr])
      simp only [cellC, cA_sA_ne C _ hj]
    | 0 | 2 | 3 | 4 | 5 | 6 | 7 | 8 | 9 | 10 | 11 | 12 => rfl
    | t + 13 => rfl
theorem st_P (B : Nat) (C : CS) (ρ : Mu) {i : Nat} (hi : i < 2) (v : Int32) : mset (ren B C ρ) (adP B i) (.inr (2, [.ref (adPa B i), .int v])) = ren B (sP C i (v, (cP C i).2)) ρ := by
  have hd := dec_P i hi
  refine ren_set B ρ hd.2 ?_ ?_
  · rw [hd.1]; simp only [cellC, cP_sP]
  · rw [hd.1]
    rintro ⟨t, j, r⟩ hk hq
    match t with
    | 9 =>
      have hr : r = 0 := by simpa [keyOk] using hk
      have hj : j ≠ i := fun h => hq (by rw [h, hr])
      simp only [cellC, cP_sP_ne C _ hj]
    | 10 =>
      by_cases hj : j = i
      · subst hj; simp only [cellC, cP_sP]
      · simp only [cellC, cP_sP_ne C _ hj]
    | 0 | 1 | 2 | 3 | 4 | 5 | 6 | 7 | 8 | 11 | 12 => rfl
    | t + 13 => rfl
theorem st_Pa (B : Nat) (C : CS) (ρ : Mu) {i : Nat} (hi : i < 2) (v : Nat → Nat) : mset (ren B C ρ) (adPa B i) (.inl (4, pLen i, .inr (.inr (.inr (.inr (fun k => some (adO B (v k)))))))) = ren B (sP C i ((cP C i).1, v)) ρ := by
  have hd := dec_Pa i hi
  refine ren_set B ρ hd.2 ?_ ?_
  · rw [hd.1]; simp only [cellC, cP_sP]
  · rw [hd.1]
    rintro ⟨t, j, r⟩ hk hq
    match t with
    | 10 =>
      have hr : r = 0 := by simpa [keyOk] using hk
      have hj : j ≠ i := fun h => hq (by rw [h, hr])
      simp only [cellC, cP_sP_ne C _ hj]
    | 9 =>
      by_cases hj : j = i
      · subst hj; simp only [cellC, cP_sP]
      · simp only [cellC, cP_sP_ne C _ hj]
    | 0 | 1 | 2 | 3 | 4 | 5 | 6 | 7 | 8 | 11 | 12 => rfl
    | t + 13 => rfl
theorem st_Re (B : Nat) (C : CS) (ρ : Mu) (a b c : Int32) (d : Nat) : mset (ren B C ρ) (B + 22) (cellC B (sR C (a, b, c, d)) (11, 0, 0)) = ren B (sR C (a, b, c, d)) ρ := by
  refine ren_set B ρ (k := 22) (by decide) rfl ?_
  rintro ⟨t, j, r⟩ hk hq
  match t with
  | 11 =>
    have h0 : r = 0 ∧ j = 0 := by simpa [keyOk] using hk
    exact absurd (by rw [h0.1, h0.2]; rfl) hq
  | 0 | 1 | 2 | 3 | 4 | 5 | 6 | 7 | 8 | 9 | 10 | 12 => rfl
  | t + 13 => rfl
theorem st_E (B : Nat) (C : CS) (ρ : Mu) (f : Nat → Int64) : mset (ren B C ρ) (B + 134) (.inl (1, 36, .inr (.inl f))) = ren B (sE C f) ρ := by
  refine ren_set B ρ (k := 134) (by decide) rfl ?_
  rintro ⟨t, j, r⟩ hk hq
  match t with
  | 12 =>
    have h0 : r = 0 ∧ j = 0 := by simpa [keyOk] using hk
    exact absurd (by rw [h0.1, h0.2]; rfl) hq
  | 0 | 1 | 2 | 3 | 4 | 5 | 6 | 7 | 8 | 9 | 10 | 11 => rfl
  | t + 13 => rfl
end
