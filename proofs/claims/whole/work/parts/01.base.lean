-- ===== PART A: goes FIRST, ahead of the names: the tables' words, and 'selects' of the private methods out of them =====
/-- a private method of a class that the tables say can be made, by its rows of tables_1 -/
def lw_okq (q : MethodName × Nat) : Prop := (q.1.cls ≠ "java/lang/invoke/MethodHandle" ∧ q.1.cls ≠ "java/lang/invoke/VarHandle") ∧ Cond.instantiable q.1.cls q.2 ∈ tables_1 ∧ Cond.privateMethod q.1 ∈ tables_1 ∧ Cond.instanceMethod q.1 ∈ tables_1
theorem lw_p0 : lw_okq (⟨"DyeLots$Planner", "keep", "(I)V"⟩, 6) := ⟨⟨by decide +kernel, by decide +kernel⟩, List.mem_of_getElem? (i := 150) (by decide +kernel), List.mem_of_getElem? (i := 528) (by decide +kernel), List.mem_of_getElem? (i := 529) (by decide +kernel)⟩
theorem lw_p1 : lw_okq (⟨"DyeLots$Guesses", "listMakes", "(LDyeLots$Work;)V"⟩, 5) := ⟨⟨by decide +kernel, by decide +kernel⟩, List.mem_of_getElem? (i := 178) (by decide +kernel), List.mem_of_getElem? (i := 566) (by decide +kernel), List.mem_of_getElem? (i := 567) (by decide +kernel)⟩
theorem lw_p2 : lw_okq (⟨"DyeLots$Guesses", "countAhead", "(LDyeLots$Work;I)V"⟩, 5) := ⟨⟨by decide +kernel, by decide +kernel⟩, List.mem_of_getElem? (i := 178) (by decide +kernel), List.mem_of_getElem? (i := 570) (by decide +kernel), List.mem_of_getElem? (i := 571) (by decide +kernel)⟩
theorem lw_p3 : lw_okq (⟨"DyeLots$Guesses", "mayMeet", "(LDyeLots$Work;III)Z"⟩, 5) := ⟨⟨by decide +kernel, by decide +kernel⟩, List.mem_of_getElem? (i := 178) (by decide +kernel), List.mem_of_getElem? (i := 574) (by decide +kernel), List.mem_of_getElem? (i := 575) (by decide +kernel)⟩
theorem lw_p4 : lw_okq (⟨"DyeLots$Guesses", "countBehind", "(LDyeLots$Work;I)V"⟩, 5) := ⟨⟨by decide +kernel, by decide +kernel⟩, List.mem_of_getElem? (i := 178) (by decide +kernel), List.mem_of_getElem? (i := 579) (by decide +kernel), List.mem_of_getElem? (i := 580) (by decide +kernel)⟩
theorem lw_p5 : lw_okq (⟨"DyeLots$Draws", "draw", "(I)I"⟩, 2) := ⟨⟨by decide +kernel, by decide +kernel⟩, List.mem_of_getElem? (i := 202) (by decide +kernel), List.mem_of_getElem? (i := 603) (by decide +kernel), List.mem_of_getElem? (i := 604) (by decide +kernel)⟩
theorem lw_p6 : lw_okq (⟨"DyeLotsModel", "read", "()I"⟩, 38) := ⟨⟨by decide +kernel, by decide +kernel⟩, List.mem_of_getElem? (i := 663) (by decide +kernel), List.mem_of_getElem? (i := 799) (by decide +kernel), List.mem_of_getElem? (i := 800) (by decide +kernel)⟩
theorem lw_p7 : lw_okq (⟨"DyeLotsModel", "isFigure", "(III)Z"⟩, 38) := ⟨⟨by decide +kernel, by decide +kernel⟩, List.mem_of_getElem? (i := 663) (by decide +kernel), List.mem_of_getElem? (i := 806) (by decide +kernel), List.mem_of_getElem? (i := 807) (by decide +kernel)⟩
theorem lw_p8 : lw_okq (⟨"DyeLotsModel", "isSign", "(II)Z"⟩, 38) := ⟨⟨by decide +kernel, by decide +kernel⟩, List.mem_of_getElem? (i := 663) (by decide +kernel), List.mem_of_getElem? (i := 810) (by decide +kernel), List.mem_of_getElem? (i := 811) (by decide +kernel)⟩
theorem lw_p9 : lw_okq (⟨"DyeLotsModel", "readFade", "(I)I"⟩, 38) := ⟨⟨by decide +kernel, by decide +kernel⟩, List.mem_of_getElem? (i := 663) (by decide +kernel), List.mem_of_getElem? (i := 814) (by decide +kernel), List.mem_of_getElem? (i := 815) (by decide +kernel)⟩
theorem lw_p10 : lw_okq (⟨"DyeLotsModel", "clear", "(I)V"⟩, 38) := ⟨⟨by decide +kernel, by decide +kernel⟩, List.mem_of_getElem? (i := 663) (by decide +kernel), List.mem_of_getElem? (i := 822) (by decide +kernel), List.mem_of_getElem? (i := 823) (by decide +kernel)⟩
theorem lw_p11 : lw_okq (⟨"DyeLotsModel", "isPart", "(I)Z"⟩, 38) := ⟨⟨by decide +kernel, by decide +kernel⟩, List.mem_of_getElem? (i := 663) (by decide +kernel), List.mem_of_getElem? (i := 830) (by decide +kernel), List.mem_of_getElem? (i := 831) (by decide +kernel)⟩
theorem lw_p12 : lw_okq (⟨"DyeLotsModel", "partNow", "(II)I"⟩, 38) := ⟨⟨by decide +kernel, by decide +kernel⟩, List.mem_of_getElem? (i := 663) (by decide +kernel), List.mem_of_getElem? (i := 834) (by decide +kernel), List.mem_of_getElem? (i := 835) (by decide +kernel)⟩
theorem lw_p13 : lw_okq (⟨"DyeLotsModel", "toneOf", "(I)I"⟩, 38) := ⟨⟨by decide +kernel, by decide +kernel⟩, List.mem_of_getElem? (i := 663) (by decide +kernel), List.mem_of_getElem? (i := 841) (by decide +kernel), List.mem_of_getElem? (i := 842) (by decide +kernel)⟩
theorem lw_p14 : lw_okq (⟨"DyeLotsModel", "seenAt", "(I)I"⟩, 38) := ⟨⟨by decide +kernel, by decide +kernel⟩, List.mem_of_getElem? (i := 663) (by decide +kernel), List.mem_of_getElem? (i := 845) (by decide +kernel), List.mem_of_getElem? (i := 846) (by decide +kernel)⟩
theorem lw_p15 : lw_okq (⟨"DyeLotsModel", "seenBy", "(III)I"⟩, 38) := ⟨⟨by decide +kernel, by decide +kernel⟩, List.mem_of_getElem? (i := 663) (by decide +kernel), List.mem_of_getElem? (i := 849) (by decide +kernel), List.mem_of_getElem? (i := 850) (by decide +kernel)⟩
def lw_privs_1 : List (MethodName × Nat) := [(⟨"DyeLots$Planner", "keep", "(I)V"⟩, 6), (⟨"DyeLots$Guesses", "listMakes", "(LDyeLots$Work;)V"⟩, 5), (⟨"DyeLots$Guesses", "countAhead", "(LDyeLots$Work;I)V"⟩, 5), (⟨"DyeLots$Guesses", "mayMeet", "(LDyeLots$Work;III)Z"⟩, 5), (⟨"DyeLots$Guesses", "countBehind", "(LDyeLots$Work;I)V"⟩, 5), (⟨"DyeLots$Draws", "draw", "(I)I"⟩, 2), (⟨"DyeLotsModel", "read", "()I"⟩, 38), (⟨"DyeLotsModel", "isFigure", "(III)Z"⟩, 38), (⟨"DyeLotsModel", "isSign", "(II)Z"⟩, 38), (⟨"DyeLotsModel", "readFade", "(I)I"⟩, 38), (⟨"DyeLotsModel", "clear", "(I)V"⟩, 38), (⟨"DyeLotsModel", "isPart", "(I)Z"⟩, 38), (⟨"DyeLotsModel", "partNow", "(II)I"⟩, 38), (⟨"DyeLotsModel", "toneOf", "(I)I"⟩, 38), (⟨"DyeLotsModel", "seenAt", "(I)I"⟩, 38), (⟨"DyeLotsModel", "seenBy", "(III)I"⟩, 38)]
theorem lw_r1 : ∀ q ∈ lw_privs_1, lw_okq q := List.forall_mem_cons.mpr ⟨lw_p0, List.forall_mem_cons.mpr ⟨lw_p1, List.forall_mem_cons.mpr ⟨lw_p2, List.forall_mem_cons.mpr ⟨lw_p3, List.forall_mem_cons.mpr ⟨lw_p4, List.forall_mem_cons.mpr ⟨lw_p5, List.forall_mem_cons.mpr ⟨lw_p6, List.forall_mem_cons.mpr ⟨lw_p7, List.forall_mem_cons.mpr ⟨lw_p8, List.forall_mem_cons.mpr ⟨lw_p9, List.forall_mem_cons.mpr ⟨lw_p10, List.forall_mem_cons.mpr ⟨lw_p11, List.forall_mem_cons.mpr ⟨lw_p12, List.forall_mem_cons.mpr ⟨lw_p13, List.forall_mem_cons.mpr ⟨lw_p14, List.forall_mem_cons.mpr ⟨lw_p15, fun _ h => absurd h List.not_mem_nil⟩⟩⟩⟩⟩⟩⟩⟩⟩⟩⟩⟩⟩⟩⟩⟩
theorem lw_p16 : lw_okq (⟨"DyeLotsModel", "isLot", "(I)Z"⟩, 38) := ⟨⟨by decide +kernel, by decide +kernel⟩, List.mem_of_getElem? (i := 663) (by decide +kernel), List.mem_of_getElem? (i := 865) (by decide +kernel), List.mem_of_getElem? (i := 866) (by decide +kernel)⟩
theorem lw_p17 : lw_okq (⟨"DyeLotsModel", "lotNow", "(II)I"⟩, 38) := ⟨⟨by decide +kernel, by decide +kernel⟩, List.mem_of_getElem? (i := 663) (by decide +kernel), List.mem_of_getElem? (i := 869) (by decide +kernel), List.mem_of_getElem? (i := 870) (by decide +kernel)⟩
theorem lw_p18 : lw_okq (⟨"DyeLotsModel", "rowsIn", "(I)I"⟩, 38) := ⟨⟨by decide +kernel, by decide +kernel⟩, List.mem_of_getElem? (i := 663) (by decide +kernel), List.mem_of_getElem? (i := 888) (by decide +kernel), List.mem_of_getElem? (i := 889) (by decide +kernel)⟩
theorem lw_p19 : lw_okq (⟨"DyeLotsModel", "take", "(II)V"⟩, 38) := ⟨⟨by decide +kernel, by decide +kernel⟩, List.mem_of_getElem? (i := 663) (by decide +kernel), List.mem_of_getElem? (i := 892) (by decide +kernel), List.mem_of_getElem? (i := 893) (by decide +kernel)⟩
theorem lw_p20 : lw_okq (⟨"DyeLotsModel", "seenAll", "()I"⟩, 38) := ⟨⟨by decide +kernel, by decide +kernel⟩, List.mem_of_getElem? (i := 663) (by decide +kernel), List.mem_of_getElem? (i := 896) (by decide +kernel), List.mem_of_getElem? (i := 897) (by decide +kernel)⟩
theorem lw_p21 : lw_okq (⟨"DyeLotsModel", "comeBack", "(II)I"⟩, 38) := ⟨⟨by decide +kernel, by decide +kernel⟩, List.mem_of_getElem? (i := 663) (by decide +kernel), List.mem_of_getElem? (i := 904) (by decide +kernel), List.mem_of_getElem? (i := 905) (by decide +kernel)⟩
theorem lw_p22 : lw_okq (⟨"DyeLotsModel", "washed", "(I)I"⟩, 38) := ⟨⟨by decide +kernel, by decide +kernel⟩, List.mem_of_getElem? (i := 663) (by decide +kernel), List.mem_of_getElem? (i := 916) (by decide +kernel), List.mem_of_getElem? (i := 917) (by decide +kernel)⟩
theorem lw_p23 : lw_okq (⟨"DyeLotsModel", "leastNow", "(I)I"⟩, 38) := ⟨⟨by decide +kernel, by decide +kernel⟩, List.mem_of_getElem? (i := 663) (by decide +kernel), List.mem_of_getElem? (i := 924) (by decide +kernel), List.mem_of_getElem? (i := 925) (by decide +kernel)⟩
theorem lw_p24 : lw_okq (⟨"DyeLotsModel", "plans", "()I"⟩, 38) := ⟨⟨by decide +kernel, by decide +kernel⟩, List.mem_of_getElem? (i := 663) (by decide +kernel), List.mem_of_getElem? (i := 929) (by decide +kernel), List.mem_of_getElem? (i := 930) (by decide +kernel)⟩
theorem lw_p25 : lw_okq (⟨"DyeLotsModel", "openParts", "()I"⟩, 38) := ⟨⟨by decide +kernel, by decide +kernel⟩, List.mem_of_getElem? (i := 663) (by decide +kernel), List.mem_of_getElem? (i := 933) (by decide +kernel), List.mem_of_getElem? (i := 934) (by decide +kernel)⟩
theorem lw_p26 : lw_okq (⟨"DyeLotsModel", "layPlan", "(I)Z"⟩, 38) := ⟨⟨by decide +kernel, by decide +kernel⟩, List.mem_of_getElem? (i := 663) (by decide +kernel), List.mem_of_getElem? (i := 937) (by decide +kernel), List.mem_of_getElem? (i := 938) (by decide +kernel)⟩
theorem lw_p27 : lw_okq (⟨"DyeLotsModel", "planSeen", "()I"⟩, 38) := ⟨⟨by decide +kernel, by decide +kernel⟩, List.mem_of_getElem? (i := 663) (by decide +kernel), List.mem_of_getElem? (i := 941) (by decide +kernel), List.mem_of_getElem? (i := 942) (by decide +kernel)⟩
theorem lw_p28 : lw_okq (⟨"DyeLotsModel", "wantedNow", "(II)I"⟩, 38) := ⟨⟨by decide +kernel, by decide +kernel⟩, List.mem_of_getElem? (i := 663) (by decide +kernel), List.mem_of_getElem? (i := 949) (by decide +kernel), List.mem_of_getElem? (i := 950) (by decide +kernel)⟩
theorem lw_p29 : lw_okq (⟨"DyeLotsModel", "fitsNow", "()I"⟩, 38) := ⟨⟨by decide +kernel, by decide +kernel⟩, List.mem_of_getElem? (i := 663) (by decide +kernel), List.mem_of_getElem? (i := 961) (by decide +kernel), List.mem_of_getElem? (i := 962) (by decide +kernel)⟩
theorem lw_p30 : lw_okq (⟨"DyeLotsModel", "waysMany", "()I"⟩, 38) := ⟨⟨by decide +kernel, by decide +kernel⟩, List.mem_of_getElem? (i := 663) (by decide +kernel), List.mem_of_getElem? (i := 965) (by decide +kernel), List.mem_of_getElem? (i := 966) (by decide +kernel)⟩
theorem lw_p31 : lw_okq (⟨"DyeLotsModel", "sorts", "()I"⟩, 38) := ⟨⟨by decide +kernel, by decide +kernel⟩, List.mem_of_getElem? (i := 663) (by decide +kernel), List.mem_of_getElem? (i := 969) (by decide +kernel), List.mem_of_getElem? (i := 970) (by decide +kernel)⟩
def lw_privs_2 : List (MethodName × Nat) := [(⟨"DyeLotsModel", "isLot", "(I)Z"⟩, 38), (⟨"DyeLotsModel", "lotNow", "(II)I"⟩, 38), (⟨"DyeLotsModel", "rowsIn", "(I)I"⟩, 38), (⟨"DyeLotsModel", "take", "(II)V"⟩, 38), (⟨"DyeLotsModel", "seenAll", "()I"⟩, 38), (⟨"DyeLotsModel", "comeBack", "(II)I"⟩, 38), (⟨"DyeLotsModel", "washed", "(I)I"⟩, 38), (⟨"DyeLotsModel", "leastNow", "(I)I"⟩, 38), (⟨"DyeLotsModel", "plans", "()I"⟩, 38), (⟨"DyeLotsModel", "openParts", "()I"⟩, 38), (⟨"DyeLotsModel", "layPlan", "(I)Z"⟩, 38), (⟨"DyeLotsModel", "planSeen", "()I"⟩, 38), (⟨"DyeLotsModel", "wantedNow", "(II)I"⟩, 38), (⟨"DyeLotsModel", "fitsNow", "()I"⟩, 38), (⟨"DyeLotsModel", "waysMany", "()I"⟩, 38), (⟨"DyeLotsModel", "sorts", "()I"⟩, 38)]
theorem lw_r2 : ∀ q ∈ lw_privs_2, lw_okq q := List.forall_mem_cons.mpr ⟨lw_p16, List.forall_mem_cons.mpr ⟨lw_p17, List.forall_mem_cons.mpr ⟨lw_p18, List.forall_mem_cons.mpr ⟨lw_p19, List.forall_mem_cons.mpr ⟨lw_p20, List.forall_mem_cons.mpr ⟨lw_p21, List.forall_mem_cons.mpr ⟨lw_p22, List.forall_mem_cons.mpr ⟨lw_p23, List.forall_mem_cons.mpr ⟨lw_p24, List.forall_mem_cons.mpr ⟨lw_p25, List.forall_mem_cons.mpr ⟨lw_p26, List.forall_mem_cons.mpr ⟨lw_p27, List.forall_mem_cons.mpr ⟨lw_p28, List.forall_mem_cons.mpr ⟨lw_p29, List.forall_mem_cons.mpr ⟨lw_p30, List.forall_mem_cons.mpr ⟨lw_p31, fun _ h => absurd h List.not_mem_nil⟩⟩⟩⟩⟩⟩⟩⟩⟩⟩⟩⟩⟩⟩⟩⟩
theorem lw_p32 : lw_okq (⟨"DyeLotsModel", "couldBe", "(I)Z"⟩, 38) := ⟨⟨by decide +kernel, by decide +kernel⟩, List.mem_of_getElem? (i := 663) (by decide +kernel), List.mem_of_getElem? (i := 973) (by decide +kernel), List.mem_of_getElem? (i := 974) (by decide +kernel)⟩
theorem lw_p33 : lw_okq (⟨"DyeLotsModel", "sortTone", "(I)I"⟩, 38) := ⟨⟨by decide +kernel, by decide +kernel⟩, List.mem_of_getElem? (i := 663) (by decide +kernel), List.mem_of_getElem? (i := 977) (by decide +kernel), List.mem_of_getElem? (i := 978) (by decide +kernel)⟩
theorem lw_p34 : lw_okq (⟨"DyeLotsModel", "sureNow", "(I)I"⟩, 38) := ⟨⟨by decide +kernel, by decide +kernel⟩, List.mem_of_getElem? (i := 663) (by decide +kernel), List.mem_of_getElem? (i := 985) (by decide +kernel), List.mem_of_getElem? (i := 986) (by decide +kernel)⟩
theorem lw_p35 : lw_okq (⟨"DyeLotsModel", "yearsNow", "(III)I"⟩, 38) := ⟨⟨by decide +kernel, by decide +kernel⟩, List.mem_of_getElem? (i := 663) (by decide +kernel), List.mem_of_getElem? (i := 993) (by decide +kernel), List.mem_of_getElem? (i := 994) (by decide +kernel)⟩
theorem lw_p36 : lw_okq (⟨"DyeLotsModel", "goYear", "()I"⟩, 38) := ⟨⟨by decide +kernel, by decide +kernel⟩, List.mem_of_getElem? (i := 663) (by decide +kernel), List.mem_of_getElem? (i := 997) (by decide +kernel), List.mem_of_getElem? (i := 998) (by decide +kernel)⟩
theorem lw_p37 : lw_okq (⟨"DyeLotsModel", "draw", "(I)I"⟩, 38) := ⟨⟨by decide +kernel, by decide +kernel⟩, List.mem_of_getElem? (i := 663) (by decide +kernel), List.mem_of_getElem? (i := 1001) (by decide +kernel), List.mem_of_getElem? (i := 1002) (by decide +kernel)⟩
theorem lw_p38 : lw_okq (⟨"DyeLotsModel", "howMany", "(I)I"⟩, 38) := ⟨⟨by decide +kernel, by decide +kernel⟩, List.mem_of_getElem? (i := 663) (by decide +kernel), List.mem_of_getElem? (i := 1021) (by decide +kernel), List.mem_of_getElem? (i := 1022) (by decide +kernel)⟩
theorem lw_p39 : lw_okq (⟨"DyeLotsModel", "sum", "(I)I"⟩, 38) := ⟨⟨by decide +kernel, by decide +kernel⟩, List.mem_of_getElem? (i := 663) (by decide +kernel), List.mem_of_getElem? (i := 1025) (by decide +kernel), List.mem_of_getElem? (i := 1026) (by decide +kernel)⟩
theorem lw_p40 : lw_okq (⟨"DyeLotsModel", "foundMany", "()I"⟩, 38) := ⟨⟨by decide +kernel, by decide +kernel⟩, List.mem_of_getElem? (i := 663) (by decide +kernel), List.mem_of_getElem? (i := 1029) (by decide +kernel), List.mem_of_getElem? (i := 1030) (by decide +kernel)⟩
theorem lw_p41 : lw_okq (⟨"DyeLotsModel", "mix", "(J)V"⟩, 38) := ⟨⟨by decide +kernel, by decide +kernel⟩, List.mem_of_getElem? (i := 663) (by decide +kernel), List.mem_of_getElem? (i := 1038) (by decide +kernel), List.mem_of_getElem? (i := 1039) (by decide +kernel)⟩
def lw_privs_3 : List (MethodName × Nat) := [(⟨"DyeLotsModel", "couldBe", "(I)Z"⟩, 38), (⟨"DyeLotsModel", "sortTone", "(I)I"⟩, 38), (⟨"DyeLotsModel", "sureNow", "(I)I"⟩, 38), (⟨"DyeLotsModel", "yearsNow", "(III)I"⟩, 38), (⟨"DyeLotsModel", "goYear", "()I"⟩, 38), (⟨"DyeLotsModel", "draw", "(I)I"⟩, 38), (⟨"DyeLotsModel", "howMany", "(I)I"⟩, 38), (⟨"DyeLotsModel", "sum", "(I)I"⟩, 38), (⟨"DyeLotsModel", "foundMany", "()I"⟩, 38), (⟨"DyeLotsModel", "mix", "(J)V"⟩, 38)]
theorem lw_r3 : ∀ q ∈ lw_privs_3, lw_okq q := List.forall_mem_cons.mpr ⟨lw_p32, List.forall_mem_cons.mpr ⟨lw_p33, List.forall_mem_cons.mpr ⟨lw_p34, List.forall_mem_cons.mpr ⟨lw_p35, List.forall_mem_cons.mpr ⟨lw_p36, List.forall_mem_cons.mpr ⟨lw_p37, List.forall_mem_cons.mpr ⟨lw_p38, List.forall_mem_cons.mpr ⟨lw_p39, List.forall_mem_cons.mpr ⟨lw_p40, List.forall_mem_cons.mpr ⟨lw_p41, fun _ h => absurd h List.not_mem_nil⟩⟩⟩⟩⟩⟩⟩⟩⟩⟩
def lw_privs : List (MethodName × Nat) := lw_privs_1 ++ (lw_privs_2 ++ (lw_privs_3))
def lw_tbl : List Cond := k2_sels lw_privs ++ tables_1
theorem lw_privs_ok : ∀ q ∈ lw_privs, lw_okq q := by
  show ∀ q ∈ lw_privs_1 ++ (lw_privs_2 ++ (lw_privs_3)), lw_okq q
  exact List.forall_mem_append.mpr ⟨lw_r1, List.forall_mem_append.mpr ⟨lw_r2, lw_r3⟩⟩

/-- the printed row va_mna names va_AOA, which this claim's kit doesn't hold: my own, of the same use -/
def va_AOA (t : FieldType) (U : State) : Prop := (Cond.arrayOver (.array t)).before #[] U = true
theorem va_AOA.use {t : FieldType} {A : Array Value} {U : State} (h : va_AOA t U) : (Cond.arrayOver (.array t)).before A U = true := h
/-! ===== BEGIN words of one list among another's, by their places ===== -/
theorem goodIn_r {big : List Cond} (ws : List Cond) (ps : List Nat) (hp : ws = ps.filterMap (fun i => big[i]?)) (h : ws.all goodWord = true) : GoodIn big ws := by
  intro w hw
  have h1 := List.all_eq_true.mp h w hw
  rw [hp] at hw
  obtain ⟨i, -, hi⟩ := List.mem_filterMap.mp hw
  have hm : w ∈ big := by first | exact List.mem_of_getElem? hi | exact List.getElem?_mem hi
  exact ⟨hm, good_of_word h1⟩
theorem goodIn_app {big a b : List Cond} (ha : GoodIn big a) (hb : GoodIn big b) : GoodIn big (a ++ b) := fun w h => (List.mem_append.mp h).elim (ha w) (hb w)
theorem goodIn_ca {big a b : List Cond} {c : Cond} (ha : GoodIn big (c :: a)) (hb : GoodIn big b) : GoodIn big (c :: (a ++ b)) := fun w h => (List.mem_cons.mp h).elim (fun e => ha w (List.mem_cons.mpr (Or.inl e))) (fun h => (List.mem_append.mp h).elim (fun h => ha w (List.mem_cons.mpr (Or.inr h))) (hb w))
theorem goodIn_sub {big ws : List Cond} (hm : ∀ w ∈ ws, w ∈ big) (h : ws.all goodWord = true) : GoodIn big ws := fun w hw => ⟨hm w hw, good_of_word (List.all_eq_true.mp h w hw)⟩
/-! ===== END ===== -/

/-! ===== BEGIN new T[n][m]: the outer array a place, the inner ones among the pooled ===== -/
/-- f, but v at every address of l -/
def vr_up {α : Type} (f : Nat → α) (l : List Nat) (v : α) : Nat → α := fun a => if a ∈ l then v else f a
theorem vr_up_in {α : Type} {f : Nat → α} {l : List Nat} {v : α} {a : Nat} (h : a ∈ l) : vr_up f l v a = v := if_pos h
theorem vr_up_ne {α : Type} {f : Nat → α} {l : List Nat} {v : α} {a : Nat} (h : a ∉ l) : vr_up f l v a = f a := if_neg h
theorem vr_rows {L l : List Nat} {f : Nat → va_E} {e : va_E} (h : ∀ a, a ∈ l → a ∉ L) : va_pl L f ++ l.map (fun a => (a, e)) = va_pl (L ++ l) (vr_up f l e) := by
  unfold va_pl
  rw [List.map_append]
  congr 1
  · apply List.map_congr_left
    intro a ha
    rw [vr_up_ne (fun q => h a q ha)]
  · apply List.map_congr_left
    intro a ha
    rw [vr_up_in ha]
theorem vr_lay {X rows : va_W} {x : Nat × va_E} {pl : va_W} {D : va_G} {cl : List vw_C} {H : Heap} (hP : va_P D cl (((X ++ pl) ++ [x]) ++ rows) H) : va_P D cl ((X ++ [x]) ++ (pl ++ rows)) H := by
  rw [List.append_assoc (X ++ pl)] at hP
  have h := va_P.swap hP
  rw [← List.append_assoc X] at h
  have h2 := va_P.swap h
  rw [List.append_assoc (X ++ [x])] at h2
  exact h2
theorem vr_layD {X rows : va_W} {x : Nat × va_E} {pl : va_W} {A : Nat → Prop} (hD : va_D A (((X ++ pl) ++ [x]) ++ rows)) : va_D A ((X ++ [x]) ++ (pl ++ rows)) := by
  rw [List.append_assoc (X ++ pl)] at hD
  have h := va_D.swap hD
  rw [← List.append_assoc X] at h
  have h2 := va_D.swap h
  rw [List.append_assoc (X ++ [x])] at h2
  exact h2
theorem vr_outer (c : ClassId) (N h0 : Nat) : ∀ i : Nat, Jvm.Free.Multi.outerC c N h0 i = arrV c N (fun j => va_rf (if j < i then some (h0 + 1 + j) else none))
  | 0 => by
    show ({ cls := c, slots := Array.replicate N .null, vm := .none } : Cell) = _
    rw [arrV_new]
    refine congrArg (arrV c N) (funext fun j => ?_)
    simp [va_rf]
  | i + 1 => by
    show (Jvm.Free.Multi.outerC c N h0 i).setSlot i (.ref (h0 + 1 + i)) = _
    rw [vr_outer c N h0 i, arrV_store]
    refine congrArg (arrV c N) (funext fun j => ?_)
    by_cases e : j = i
    · subst e
      simp [updV, va_rf]
    · by_cases h : j < i
      · simp [updV, e, h, Nat.lt_succ_of_lt h]
      · simp [updV, e, h, show ¬ j < i + 1 by omega]
section VGM
variable {p : Program} {l : Launch} {e : Env} {R : Room} {s : State} {m : MethodId} {args : Array Value} {below : List Frame} {meth : Method} {c : Code} {H : Heap} {locs : List Loc} {cells slots : Nat} {Q : State → Prop}
variable {cc : ByteArray} {pc : Nat} {ls : Array Slot} {rest : List Value} {D : va_G} {cl : List vw_C} {A : Nat → Prop} {a : Nat} {tys : List (ClassId × FieldType)} {ws : va_W} {H0 : Heap}
theorem va_mna {X : va_W} {L : List Nat} {f : Nat → va_E} {cc : ByteArray} (hexec : p.tables.exec = Jvm.exec) (hb : c.code = cc) {own : String} {index : Nat} {ty : FieldType} {cy : ClassId} (hown : s.vm.findClass own = some m.cls) (hclink : (Cond.classLink own index ("[" ++ (FieldType.array ty).toString)).before args s = true) (hover : va_AOA ty s) (harr : (Cond.arrayClass ty).before args s = true) (hcy : s.vm.findClass (FieldType.array ty).toString = some cy)
    (hK : va_K D cl tys s) (hP : va_P D cl (X ++ va_pl L f) H) (hD : va_D A (X ++ va_pl L f)) (hS : va_S A H0 H locs) (hA : ∀ q, H0.size ≤ q → A q) {n k : Int32} {N' K' : Nat} {z : vp_A} (hn : ¬ n < 0) (hk : ¬ k < 0) (hN : n.toNatClampNeg = N') (hM : k.toNatClampNeg = K')
    (hb1 : N' * 4 ≤ 536870912) (hb2 : K' * componentBytes ty ≤ 536870912) (hb3 : K' ≤ 536870912) (hdf : fits ty (defaultValue ty) = true) (hdd : (defaultValue ty).isDefault = true) (hcells : cells + (1 + N') ≤ R.cells) (hslots : slots + (N' + N' * K') ≤ R.slots) (hz : ∀ c : ClassId, Jvm.Free.Multi.innerC c K' (defaultValue ty) = vp_cell c z) (hdg : decode cc pc = .ok (.multianewarray index 2, 4))
    (kk : ∀ (q : Nat) (r : Nat → Nat) (cA : ClassId) (H1 : Heap), (∀ i j : Nat, i < N' → j < N' → r i = r j → i = j) → (∀ i : Nat, i < N' → r i ∉ L) → va_K D cl (tys ++ [(cA, .array ty)]) s →
      va_P D cl ((X ++ [(q, .inl (cA, N', .inr (.inr (.inr (.inr (fun i => if i < N' then some (r i) else none))))))]) ++ va_pl (L ++ (List.range N').map r) (vr_up f ((List.range N').map r) (.inl (cy, z)))) H1 → va_D A ((X ++ [(q, .inl (cA, N', .inr (.inr (.inr (.inr (fun i => if i < N' then some (r i) else none))))))]) ++ va_pl (L ++ (List.range N').map r) (vr_up f ((List.range N').map r) (.inl (cy, z)))) → va_S A H0 H1 locs →
      W p l e R s m args below meth c H1 locs (cells + 1 + N') (slots + N' + N' * K') Q (F0 m (pc + 4) ls (.ref q :: rest))) : W p l e R s m args below meth c H locs cells slots Q (F0 m pc ls (.int k :: .int n :: rest)) := by
  subst hN
  subst hM
  intro T hT Xs
  obtain ⟨vm₁, cA, comp, -, fA, fC, hO, -, X', step⟩ := Xs.multianewarray2F hexec hown hclink (va_AOA.use hover) harr (g := F0 m pc ls (.int k :: .int n :: rest)) rfl (by rw [hb]; exact hdg) rfl hn hk hb1 hb2 hb3 hdf hdd hcells hslots
  have ec : some cy = some comp := hcy.symm.trans fC
  cases ec
  generalize hF : Jvm.Free.Multi.fill (T.setVm vm₁) cA cy n.toNatClampNeg k.toNatClampNeg (defaultValue ty) n.toNatClampNeg = F at X' step
  have hTh : (T.setVm vm₁).heap = H := hT
  obtain ⟨f1, f2, -, -⟩ := Jvm.Free.Multi.fill_facts (T.setVm vm₁) cA cy n.toNatClampNeg k.toNatClampNeg (defaultValue ty) n.toNatClampNeg
  rw [hF, hTh] at f1 f2
  have hold : ∀ x : Nat, x < H.size → F.heap[x]? = H[x]? := fun x hx => by
    have := Jvm.Free.Multi.fill_old (T.setVm vm₁) cA cy n.toNatClampNeg k.toNatClampNeg (defaultValue ty) (a := x) (by rw [hTh]; exact hx) n.toNatClampNeg
    rw [hF, hTh] at this
    exact this
  have hrow : ∀ j : Nat, j < n.toNatClampNeg → F.heap[H.size + 1 + j]? = some (vp_cell cy z) := fun j hj => by
    have := Jvm.Free.Multi.fill_inner (T.setVm vm₁) cA cy n.toNatClampNeg k.toNatClampNeg (defaultValue ty) n.toNatClampNeg j hj
    rw [hF, hTh, hz] at this
    exact this
  have hout : Jvm.Free.Multi.outerC cA n.toNatClampNeg H.size n.toNatClampNeg = vp_cell cA (n.toNatClampNeg, .inr (.inr (.inr (.inr (fun i => if i < n.toNatClampNeg then some (H.size + 1 + i) else none))))) := by
    rw [vp_cell_q]
    exact vr_outer cA n.toNatClampNeg H.size n.toNatClampNeg
  rw [hout] at f2
  have hlt : ∀ a, a ∈ L → a < H.size := fun a ha => by
    obtain ⟨k9, hk9⟩ := va_pl_get (X := X) (f := f) ha
    exact (hP k9 _ hk9).lt
  have hnl : ∀ i : Nat, i < n.toNatClampNeg → H.size + 1 + i ∉ L := fun i _ h => by
    have := hlt _ h
    omega
  have hnm : ∀ a, a ∈ (List.range n.toNatClampNeg).map (fun i => H.size + 1 + i) → a ∉ L := fun a ha h => by
    obtain ⟨i, -, rfl⟩ := List.mem_map.mp ha
    have := hlt _ h
    omega
  have hP0 : va_P D cl (X ++ va_pl L f) F.heap := hP.kept (fun k9 x hx => hold x.1 ((hP k9 x hx).lt))
  have hP1 : va_P D cl ((X ++ va_pl L f) ++ [(H.size, .inl (cA, n.toNatClampNeg, .inr (.inr (.inr (.inr (fun i => if i < n.toNatClampNeg then some (H.size + 1 + i) else none))))))]) F.heap := hP0.app (fun k9 x hx => by
    have h0 : k9 < 1 := (List.getElem?_eq_some_iff.mp hx).1
    rw [show k9 = 0 by omega] at hx
    cases hx
    exact f2)
  have hP2 : va_P D cl (((X ++ va_pl L f) ++ [(H.size, .inl (cA, n.toNatClampNeg, .inr (.inr (.inr (.inr (fun i => if i < n.toNatClampNeg then some (H.size + 1 + i) else none))))))]) ++ ((List.range n.toNatClampNeg).map (fun i => H.size + 1 + i)).map (fun a => (a, .inl (cy, z)))) F.heap := hP1.app (fun k9 x hx => by
    obtain ⟨a, ha, rfl⟩ := List.mem_map.mp (List.mem_of_getElem? hx)
    obtain ⟨i, hi, rfl⟩ := List.mem_map.mp ha
    exact hrow i (List.mem_range.mp hi))
  have hD2 : va_D A (((X ++ va_pl L f) ++ [(H.size, .inl (cA, n.toNatClampNeg, .inr (.inr (.inr (.inr (fun i => if i < n.toNatClampNeg then some (H.size + 1 + i) else none))))))]) ++ ((List.range n.toNatClampNeg).map (fun i => H.size + 1 + i)).map (fun a => (a, .inl (cy, z)))) := by
    have hD1 := hD.push (e := .inl (cA, n.toNatClampNeg, .inr (.inr (.inr (.inr (fun i => if i < n.toNatClampNeg then some (H.size + 1 + i) else none)))))) hP rfl (hA _ hS.1)
    generalize hW1 : (X ++ va_pl L f) ++ [(H.size, .inl (cA, n.toNatClampNeg, .inr (.inr (.inr (.inr (fun i => if i < n.toNatClampNeg then some (H.size + 1 + i) else none))))))] = W1 at hD1 hP1 ⊢
    have hle : ∀ (k9 : Nat) (x : Nat × va_E), W1[k9]? = some x → x.1 ≤ H.size := fun k9 x hx => by
      rw [← hW1] at hx
      by_cases hl : k9 < (X ++ va_pl L f).length
      · rw [List.getElem?_append_left hl] at hx
        exact Nat.le_of_lt ((hP k9 x hx).lt)
      · rw [List.getElem?_append_right (by omega)] at hx
        have h0 : k9 - (X ++ va_pl L f).length < 1 := (List.getElem?_eq_some_iff.mp hx).1
        rw [show k9 - (X ++ va_pl L f).length = 0 by omega] at hx
        cases hx
        exact Nat.le_refl _
    have hr : ∀ (k9 : Nat) (x : Nat × va_E), (((List.range n.toNatClampNeg).map (fun i => H.size + 1 + i)).map (fun a => ((a, .inl (cy, z)) : Nat × va_E)))[k9]? = some x → x.1 = H.size + 1 + k9 := fun k9 x hx => by
      rw [List.getElem?_map, List.getElem?_map] at hx
      by_cases h9 : k9 < n.toNatClampNeg
      · rw [List.getElem?_range h9] at hx
        cases hx
        rfl
      · have hn0 : (List.range n.toNatClampNeg)[k9]? = none := List.getElem?_eq_none (by rw [List.length_range]; omega)
        rw [hn0] at hx
        cases hx
    refine ⟨fun i j x y hi hj hxy => ?_, fun k9 x hx => ?_⟩
    · by_cases h1 : i < W1.length <;> by_cases h2 : j < W1.length
      · rw [List.getElem?_append_left h1] at hi
        rw [List.getElem?_append_left h2] at hj
        exact hD1.1 i j x y hi hj hxy
      · rw [List.getElem?_append_left h1] at hi
        rw [List.getElem?_append_right (by omega)] at hj
        have := hle _ _ hi
        have := hr _ _ hj
        omega
      · rw [List.getElem?_append_right (by omega)] at hi
        rw [List.getElem?_append_left h2] at hj
        have := hle _ _ hj
        have := hr _ _ hi
        omega
      · rw [List.getElem?_append_right (by omega)] at hi hj
        have := hr _ _ hi
        have := hr _ _ hj
        omega
    · by_cases h1 : k9 < W1.length
      · rw [List.getElem?_append_left h1] at hx
        exact hD1.2 k9 x hx
      · rw [List.getElem?_append_right (by omega)] at hx
        have := hr _ _ hx
        exact hA _ (by have := hS.1; omega)
  have hAr : ArrOfT s cA (.array ty) := fun N9 z9 => by
    obtain ⟨-, k9, hk9, cm9, hkk9⟩ := (hO 0 0 0).1
    exact ⟨(fun q hq => by cases hq), k9, hk9, cm9, hkk9⟩
  have hK2 : va_K D cl (tys ++ [(cA, .array ty)]) s := ⟨hK.1, fun k9 x hx => by
    by_cases hl : k9 < tys.length
    · rw [List.getElem?_append_left hl] at hx
      exact hK.2 k9 x hx
    · rw [List.getElem?_append_right (by omega)] at hx
      have h0 : k9 - tys.length < 1 := (List.getElem?_eq_some_iff.mp hx).1
      rw [show k9 - tys.length = 0 by omega] at hx
      cases hx
      exact ⟨hAr, fA⟩⟩
  obtain ⟨t, a1, b1⟩ := kk H.size (fun i => H.size + 1 + i) cA F.heap (fun i j _ _ h => by have h9 : H.size + 1 + i = H.size + 1 + j := h; omega) hnl hK2 (by rw [← vr_rows hnm]; exact vr_lay hP2) (by rw [← vr_rows hnm]; exact vr_layD hD2) ⟨by rw [f1]; have := hS.1; omega, fun x h1 h2 => (hold x (Nat.lt_of_lt_of_le h1 hS.1)).trans (hS.2.1 x h1 h2), hS.2.2⟩ F rfl X'
  refine ⟨t, step t ?_, b1⟩
  have e : T.heap.size = H.size := by rw [hT]
  rw [e]
  exact a1
end VGM
/-! ===== END ===== -/

def RX0 : String := "DyeLots$Draws"
def TX0 : u_T := fun k => match k with
  | 0 => ("DyeLots$Draws", "shades", "[I", true)
  | _ => ("DyeLots$Draws", "seed", "J", false)
def tyX0 : Nat → FieldType := fun k => match k with
  | 0 => .array .int
  | _ => .long
theorem nmX0 : ∀ a, a < 2 → ∀ b, b < 2 → a ≠ b → (TX0 a).2.1 ≠ (TX0 b).2.1 := by decide +kernel
theorem tyX0_ok : ∀ k, k < 2 → parseFieldDescriptor (TX0 k).2.2.1 = some (tyX0 k) := by decide +kernel
abbrev cX0_init : ByteArray := prog_2_method_1_code
def yX0_init : MethodName := ⟨RX0, "<init>", "()V"⟩
abbrev cX0_draw : ByteArray := prog_2_method_2_code
def yX0_draw : MethodName := ⟨RX0, "draw", "(I)I"⟩
abbrev cX0_seenInAYear : ByteArray := prog_2_method_3_code
def yX0_seenInAYear : MethodName := ⟨RX0, "seenInAYear", "(LDyeLots$Work;)I"⟩
def RX1 : String := "DyeLots$Guesses"
def TX1 : u_T := fun k => match k with
  | 0 => ("DyeLots$Guesses", "tones", "[I", true)
  | 1 => ("DyeLots$Guesses", "ahead", "[[I", true)
  | 2 => ("DyeLots$Guesses", "behind", "[[I", true)
  | 3 => ("DyeLots$Guesses", "makes", "I", false)
  | _ => ("DyeLots$Guesses", "partCount", "I", false)
def tyX1 : Nat → FieldType := fun k => match k with
  | 0 => .array .int
  | 1 => .array (.array .int)
  | 2 => .array (.array .int)
  | 3 => .int
  | _ => .int
theorem nmX1 : ∀ a, a < 5 → ∀ b, b < 5 → a ≠ b → (TX1 a).2.1 ≠ (TX1 b).2.1 := by decide +kernel
theorem tyX1_ok : ∀ k, k < 5 → parseFieldDescriptor (TX1 k).2.2.1 = some (tyX1 k) := by decide +kernel
abbrev cX1_init : ByteArray := prog_3_method_1_code
def yX1_init : MethodName := ⟨RX1, "<init>", "()V"⟩
abbrev cX1_study : ByteArray := prog_3_method_2_code
def yX1_study : MethodName := ⟨RX1, "study", "(LDyeLots$Work;)V"⟩
abbrev cX1_listMakes : ByteArray := prog_3_method_3_code
def yX1_listMakes : MethodName := ⟨RX1, "listMakes", "(LDyeLots$Work;)V"⟩
abbrev cX1_countAhead : ByteArray := prog_3_method_4_code
def yX1_countAhead : MethodName := ⟨RX1, "countAhead", "(LDyeLots$Work;I)V"⟩
abbrev cX1_countBehind : ByteArray := prog_3_method_5_code
def yX1_countBehind : MethodName := ⟨RX1, "countBehind", "(LDyeLots$Work;I)V"⟩
abbrev cX1_mayMeet : ByteArray := prog_3_method_6_code
def yX1_mayMeet : MethodName := ⟨RX1, "mayMeet", "(LDyeLots$Work;III)Z"⟩
abbrev cX1_ways : ByteArray := prog_3_method_7_code
def yX1_ways : MethodName := ⟨RX1, "ways", "()I"⟩
abbrev cX1_toneOf : ByteArray := prog_3_method_8_code
def yX1_toneOf : MethodName := ⟨RX1, "toneOf", "(I)I"⟩
def RX2 : String := "DyeLots$Lot"
def TX2 : u_T := fun k => match k with
  | 0 => ("DyeLots$Lot", "shade", "I", false)
  | 1 => ("DyeLots$Lot", "balls", "I", false)
  | _ => ("DyeLots$Lot", "loose", "I", false)
def tyX2 : Nat → FieldType := fun k => match k with
  | 0 => .int
  | 1 => .int
  | _ => .int
theorem nmX2 : ∀ a, a < 3 → ∀ b, b < 3 → a ≠ b → (TX2 a).2.1 ≠ (TX2 b).2.1 := by decide +kernel
theorem tyX2_ok : ∀ k, k < 3 → parseFieldDescriptor (TX2 k).2.2.1 = some (tyX2 k) := by decide +kernel
abbrev cX2_init : ByteArray := prog_4_method_1_code
def yX2_init : MethodName := ⟨RX2, "<init>", "()V"⟩
abbrev cX2_begin : ByteArray := prog_4_method_2_code
def yX2_begin : MethodName := ⟨RX2, "begin", "(I)V"⟩
abbrev cX2_copy : ByteArray := prog_4_method_3_code
def yX2_copy : MethodName := ⟨RX2, "copy", "(LDyeLots$Lot;)V"⟩
abbrev cX2_rows : ByteArray := prog_4_method_4_code
def yX2_rows : MethodName := ⟨RX2, "rows", "()I"⟩
abbrev cX2_take : ByteArray := prog_4_method_5_code
def yX2_take : MethodName := ⟨RX2, "take", "(I)V"⟩
abbrev cX2_loosen : ByteArray := prog_4_method_6_code
def yX2_loosen : MethodName := ⟨RX2, "loosen", "(I)I"⟩
abbrev cX2_tell : ByteArray := prog_4_method_7_code
def yX2_tell : MethodName := ⟨RX2, "tell", "(I)I"⟩
def RX3 : String := "DyeLots$Page"
def TX3 : u_T := fun k => match k with
  | 0 => ("DyeLots$Page", "codes", "[I", true)
  | _ => ("DyeLots$Page", "size", "I", false)
def tyX3 : Nat → FieldType := fun k => match k with
  | 0 => .array .int
  | _ => .int
theorem nmX3 : ∀ a, a < 2 → ∀ b, b < 2 → a ≠ b → (TX3 a).2.1 ≠ (TX3 b).2.1 := by decide +kernel
theorem tyX3_ok : ∀ k, k < 2 → parseFieldDescriptor (TX3 k).2.2.1 = some (tyX3 k) := by decide +kernel
abbrev cX3_init : ByteArray := prog_5_method_1_code
def yX3_init : MethodName := ⟨RX3, "<init>", "()V"⟩
abbrev cX3_put : ByteArray := prog_5_method_2_code
def yX3_put : MethodName := ⟨RX3, "put", "(I)V"⟩
abbrev cX3_firstFault : ByteArray := prog_5_method_3_code
def yX3_firstFault : MethodName := ⟨RX3, "firstFault", "()I"⟩
abbrev cX3_mayStand : ByteArray := prog_5_method_4_code
def yX3_mayStand : MethodName := ⟨RX3, "mayStand", "(III)Z"⟩
abbrev cX3_isWhole : ByteArray := prog_5_method_5_code
def yX3_isWhole : MethodName := ⟨RX3, "isWhole", "()Z"⟩
def RX4 : String := "DyeLots$Part"
def TX4 : u_T := fun k => match k with
  | 0 => ("DyeLots$Part", "kind", "I", false)
  | 1 => ("DyeLots$Part", "rows", "I", false)
  | 2 => ("DyeLots$Part", "first", "I", false)
  | 3 => ("DyeLots$Part", "second", "I", false)
  | 4 => ("DyeLots$Part", "tookFirst", "I", false)
  | 5 => ("DyeLots$Part", "tookSecond", "I", false)
  | 6 => ("DyeLots$Part", "isTold", "Z", false)
  | _ => ("DyeLots$Part", "foundNext", "I", false)
def tyX4 : Nat → FieldType := fun k => match k with
  | 0 => .int
  | 1 => .int
  | 2 => .int
  | 3 => .int
  | 4 => .int
  | 5 => .int
  | 6 => .boolean
  | _ => .int
theorem nmX4 : ∀ a, a < 8 → ∀ b, b < 8 → a ≠ b → (TX4 a).2.1 ≠ (TX4 b).2.1 := by decide +kernel
theorem tyX4_ok : ∀ k, k < 8 → parseFieldDescriptor (TX4 k).2.2.1 = some (tyX4 k) := by decide +kernel
abbrev cX4_init : ByteArray := prog_6_method_1_code
def yX4_init : MethodName := ⟨RX4, "<init>", "()V"⟩
abbrev cX4_begin : ByteArray := prog_6_method_2_code
def yX4_begin : MethodName := ⟨RX4, "begin", "(II)V"⟩
abbrev cX4_clear : ByteArray := prog_6_method_3_code
def yX4_clear : MethodName := ⟨RX4, "clear", "()V"⟩
abbrev cX4_copy : ByteArray := prog_6_method_4_code
def yX4_copy : MethodName := ⟨RX4, "copy", "(LDyeLots$Part;)V"⟩
abbrev cX4_isKnitted : ByteArray := prog_6_method_5_code
def yX4_isKnitted : MethodName := ⟨RX4, "isKnitted", "()Z"⟩
abbrev cX4_isMixed : ByteArray := prog_6_method_6_code
def yX4_isMixed : MethodName := ⟨RX4, "isMixed", "()Z"⟩
abbrev cX4_isOf : ByteArray := prog_6_method_7_code
def yX4_isOf : MethodName := ⟨RX4, "isOf", "(I)Z"⟩
abbrev cX4_light : ByteArray := prog_6_method_8_code
def yX4_light : MethodName := ⟨RX4, "light", "()I"⟩
def RX5 : String := "DyeLots$Planner"
def TX5 : u_T := fun k => match k with
  | 0 => ("DyeLots$Planner", "plan", "[I", true)
  | 1 => ("DyeLots$Planner", "best", "[I", true)
  | 2 => ("DyeLots$Planner", "tones", "[I", true)
  | 3 => ("DyeLots$Planner", "left", "[I", true)
  | 4 => ("DyeLots$Planner", "isFound", "Z", false)
  | _ => ("DyeLots$Planner", "leastSeen", "I", false)
def tyX5 : Nat → FieldType := fun k => match k with
  | 0 => .array .int
  | 1 => .array .int
  | 2 => .array .int
  | 3 => .array .int
  | 4 => .boolean
  | _ => .int
theorem nmX5 : ∀ a, a < 6 → ∀ b, b < 6 → a ≠ b → (TX5 a).2.1 ≠ (TX5 b).2.1 := by decide +kernel
theorem tyX5_ok : ∀ k, k < 6 → parseFieldDescriptor (TX5 k).2.2.1 = some (tyX5 k) := by decide +kernel
abbrev cX5_init : ByteArray := prog_7_method_1_code
def yX5_init : MethodName := ⟨RX5, "<init>", "()V"⟩
abbrev cX5_search : ByteArray := prog_7_method_2_code
def yX5_search : MethodName := ⟨RX5, "search", "(LDyeLots$Work;)V"⟩
abbrev cX5_choose : ByteArray := prog_7_method_3_code
def yX5_choose : MethodName := ⟨RX5, "choose", "(LDyeLots$Planner;LDyeLots$Work;II)V"⟩
abbrev cX5_chooseOf : ByteArray := prog_7_method_4_code
def yX5_chooseOf : MethodName := ⟨RX5, "chooseOf", "(LDyeLots$Planner;LDyeLots$Work;IIII)V"⟩
abbrev cX5_goOn : ByteArray := prog_7_method_5_code
def yX5_goOn : MethodName := ⟨RX5, "goOn", "(LDyeLots$Planner;LDyeLots$Work;III)V"⟩
abbrev cX5_keep : ByteArray := prog_7_method_6_code
def yX5_keep : MethodName := ⟨RX5, "keep", "(I)V"⟩
def RX6 : String := "DyeLots$Work"
def TX6 : u_T := fun k => match k with
  | 0 => ("DyeLots$Work", "parts", "[LDyeLots$Part;", true)
  | 1 => ("DyeLots$Work", "lots", "[LDyeLots$Lot;", true)
  | 2 => ("DyeLots$Work", "partCount", "I", false)
  | 3 => ("DyeLots$Work", "lotCount", "I", false)
  | _ => ("DyeLots$Work", "fade", "I", false)
def tyX6 : Nat → FieldType := fun k => match k with
  | 0 => .array (.object "DyeLots$Part")
  | 1 => .array (.object "DyeLots$Lot")
  | 2 => .int
  | 3 => .int
  | _ => .int
theorem nmX6 : ∀ a, a < 5 → ∀ b, b < 5 → a ≠ b → (TX6 a).2.1 ≠ (TX6 b).2.1 := by decide +kernel
theorem tyX6_ok : ∀ k, k < 5 → parseFieldDescriptor (TX6 k).2.2.1 = some (tyX6 k) := by decide +kernel
abbrev cX6_init : ByteArray := prog_8_method_1_code
def yX6_init : MethodName := ⟨RX6, "<init>", "()V"⟩
abbrev cX6_begin : ByteArray := prog_8_method_2_code
def yX6_begin : MethodName := ⟨RX6, "begin", "(LDyeLots$Page;)V"⟩
abbrev cX6_copy : ByteArray := prog_8_method_3_code
def yX6_copy : MethodName := ⟨RX6, "copy", "(LDyeLots$Work;)V"⟩
abbrev cX6_hasPart : ByteArray := prog_8_method_4_code
def yX6_hasPart : MethodName := ⟨RX6, "hasPart", "(I)Z"⟩
abbrev cX6_hasLot : ByteArray := prog_8_method_5_code
def yX6_hasLot : MethodName := ⟨RX6, "hasLot", "(I)Z"⟩
abbrev cX6_canMake : ByteArray := prog_8_method_6_code
def yX6_canMake : MethodName := ⟨RX6, "canMake", "(III)Z"⟩
abbrev cX6_make : ByteArray := prog_8_method_7_code
def yX6_make : MethodName := ⟨RX6, "make", "(III)V"⟩
abbrev cX6_unravel : ByteArray := prog_8_method_8_code
def yX6_unravel : MethodName := ⟨RX6, "unravel", "(I)I"⟩
abbrev cX6_tone : ByteArray := prog_8_method_9_code
def yX6_tone : MethodName := ⟨RX6, "tone", "(I)I"⟩
abbrev cX6_seenWith : ByteArray := prog_8_method_10_code
def yX6_seenWith : MethodName := ⟨RX6, "seenWith", "(III)I"⟩
abbrev cX6_seenNext : ByteArray := prog_8_method_11_code
def yX6_seenNext : MethodName := ⟨RX6, "seenNext", "(I)I"⟩
abbrev cX6_seenOfAll : ByteArray := prog_8_method_12_code
def yX6_seenOfAll : MethodName := ⟨RX6, "seenOfAll", "()I"⟩
abbrev cX6_knittedCount : ByteArray := prog_8_method_13_code
def yX6_knittedCount : MethodName := ⟨RX6, "knittedCount", "()I"⟩
abbrev cX6_foundCount : ByteArray := prog_8_method_14_code
def yX6_foundCount : MethodName := ⟨RX6, "foundCount", "()I"⟩
abbrev cX6_sumOfLots : ByteArray := prog_8_method_15_code
def yX6_sumOfLots : MethodName := ⟨RX6, "sumOfLots", "(I)I"⟩
abbrev cX6_ballsWanted : ByteArray := prog_8_method_16_code
def yX6_ballsWanted : MethodName := ⟨RX6, "ballsWanted", "(IZ)I"⟩
abbrev cX6_tellPart : ByteArray := prog_8_method_17_code
def yX6_tellPart : MethodName := ⟨RX6, "tellPart", "(II)I"⟩
abbrev cX6_tellAll : ByteArray := prog_8_method_18_code
def yX6_tellAll : MethodName := ⟨RX6, "tellAll", "(I)I"⟩
def RX7 : String := "DyeLots"
def TX7 : u_T := fun k => match k with
  | 0 => ("DyeLots", "page", "LDyeLots$Page;", true)
  | 1 => ("DyeLots", "work", "LDyeLots$Work;", true)
  | 2 => ("DyeLots", "kept", "LDyeLots$Work;", true)
  | 3 => ("DyeLots", "planner", "LDyeLots$Planner;", true)
  | 4 => ("DyeLots", "guesses", "LDyeLots$Guesses;", true)
  | 5 => ("DyeLots", "draws", "LDyeLots$Draws;", true)
  | 6 => ("DyeLots", "isKept", "Z", false)
  | 7 => ("DyeLots", "timesRead", "I", false)
  | _ => ("DyeLots", "timesPlanned", "I", false)
def tyX7 : Nat → FieldType := fun k => match k with
  | 0 => .object "DyeLots$Page"
  | 1 => .object "DyeLots$Work"
  | 2 => .object "DyeLots$Work"
  | 3 => .object "DyeLots$Planner"
  | 4 => .object "DyeLots$Guesses"
  | 5 => .object "DyeLots$Draws"
  | 6 => .boolean
  | 7 => .int
  | _ => .int
theorem nmX7 : ∀ a, a < 9 → ∀ b, b < 9 → a ≠ b → (TX7 a).2.1 ≠ (TX7 b).2.1 := by decide +kernel
theorem tyX7_ok : ∀ k, k < 9 → parseFieldDescriptor (TX7 k).2.2.1 = some (tyX7 k) := by decide +kernel
abbrev cX7_init : ByteArray := prog_1_method_1_code
def yX7_init : MethodName := ⟨RX7, "<init>", "()V"⟩
abbrev cX7_letter : ByteArray := prog_1_method_2_code
def yX7_letter : MethodName := ⟨RX7, "letter", "(I)I"⟩
abbrev cX7_blank : ByteArray := prog_1_method_3_code
def yX7_blank : MethodName := ⟨RX7, "blank", "()I"⟩
abbrev cX7_fault : ByteArray := prog_1_method_4_code
def yX7_fault : MethodName := ⟨RX7, "fault", "()I"⟩
abbrev cX7_garment : ByteArray := prog_1_method_5_code
def yX7_garment : MethodName := ⟨RX7, "garment", "()I"⟩
abbrev cX7_about : ByteArray := prog_1_method_6_code
def yX7_about : MethodName := ⟨RX7, "about", "(II)I"⟩
abbrev cX7_as : ByteArray := prog_1_method_7_code
def yX7_as : MethodName := ⟨RX7, "as", "(II)I"⟩
abbrev cX7_lot : ByteArray := prog_1_method_8_code
def yX7_lot : MethodName := ⟨RX7, "lot", "(I)I"⟩
abbrev cX7_lotOf : ByteArray := prog_1_method_9_code
def yX7_lotOf : MethodName := ⟨RX7, "lotOf", "(II)I"⟩
abbrev cX7_buy : ByteArray := prog_1_method_10_code
def yX7_buy : MethodName := ⟨RX7, "buy", "(II)I"⟩
abbrev cX7_back : ByteArray := prog_1_method_11_code
def yX7_back : MethodName := ⟨RX7, "back", "(II)I"⟩
abbrev cX7_knit : ByteArray := prog_1_method_12_code
def yX7_knit : MethodName := ⟨RX7, "knit", "(III)I"⟩
abbrev cX7_undo : ByteArray := prog_1_method_13_code
def yX7_undo : MethodName := ⟨RX7, "undo", "(I)I"⟩
abbrev cX7_gauge : ByteArray := prog_1_method_14_code
def yX7_gauge : MethodName := ⟨RX7, "gauge", "(II)I"⟩
abbrev cX7_wash : ByteArray := prog_1_method_15_code
def yX7_wash : MethodName := ⟨RX7, "wash", "()I"⟩
abbrev cX7_least : ByteArray := prog_1_method_16_code
def yX7_least : MethodName := ⟨RX7, "least", "(I)I"⟩
abbrev cX7_wanted : ByteArray := prog_1_method_17_code
def yX7_wanted : MethodName := ⟨RX7, "wanted", "(II)I"⟩
abbrev cX7_found : ByteArray := prog_1_method_18_code
def yX7_found : MethodName := ⟨RX7, "found", "(II)I"⟩
abbrev cX7_fits : ByteArray := prog_1_method_19_code
def yX7_fits : MethodName := ⟨RX7, "fits", "()I"⟩
abbrev cX7_sure : ByteArray := prog_1_method_20_code
def yX7_sure : MethodName := ⟨RX7, "sure", "(I)I"⟩
abbrev cX7_years : ByteArray := prog_1_method_21_code
def yX7_years : MethodName := ⟨RX7, "years", "(III)I"⟩
abbrev cX7_image : ByteArray := prog_1_method_22_code
def yX7_image : MethodName := ⟨RX7, "image", "()I"⟩
abbrev cX7_restore : ByteArray := prog_1_method_23_code
def yX7_restore : MethodName := ⟨RX7, "restore", "()I"⟩
abbrev cX7_count : ByteArray := prog_1_method_24_code
def yX7_count : MethodName := ⟨RX7, "count", "(I)I"⟩
abbrev cX7_digest : ByteArray := prog_1_method_25_code
def yX7_digest : MethodName := ⟨RX7, "digest", "()J"⟩
abbrev cX7_faded : ByteArray := prog_1_method_26_code
def yX7_faded : MethodName := ⟨RX7, "faded", "(II)I"⟩
abbrev cX7_rowsOfFirst : ByteArray := prog_1_method_27_code
def yX7_rowsOfFirst : MethodName := ⟨RX7, "rowsOfFirst", "(III)I"⟩
def RX8 : String := "DyeLotsModel"
def TX8 : u_T := fun k => match k with
  | 0 => ("DyeLotsModel", "garments", "I", false)
  | 1 => ("DyeLotsModel", "parts", "I", false)
  | 2 => ("DyeLotsModel", "fade", "I", false)
  | 3 => ("DyeLotsModel", "kindOf", "[I", true)
  | 4 => ("DyeLotsModel", "rowsOf", "[I", true)
  | 5 => ("DyeLotsModel", "oneOf", "[I", true)
  | 6 => ("DyeLotsModel", "twoOf", "[I", true)
  | 7 => ("DyeLotsModel", "tookOne", "[I", true)
  | 8 => ("DyeLotsModel", "tookTwo", "[I", true)
  | 9 => ("DyeLotsModel", "gaugeOf", "[I", true)
  | 10 => ("DyeLotsModel", "foundOf", "[I", true)
  | 11 => ("DyeLotsModel", "lots", "I", false)
  | 12 => ("DyeLotsModel", "shadeOf", "[I", true)
  | 13 => ("DyeLotsModel", "ballsOf", "[I", true)
  | 14 => ("DyeLotsModel", "looseOf", "[I", true)
  | 15 => ("DyeLotsModel", "asks", "I", false)
  | 16 => ("DyeLotsModel", "pageLength", "I", false)
  | 17 => ("DyeLotsModel", "page", "[B", true)
  | 18 => ("DyeLotsModel", "newMany", "I", false)
  | 19 => ("DyeLotsModel", "isWhole", "Z", false)
  | 20 => ("DyeLotsModel", "planTone", "[I", true)
  | 21 => ("DyeLotsModel", "planCode", "[I", true)
  | 22 => ("DyeLotsModel", "needs", "[I", true)
  | 23 => ("DyeLotsModel", "seedNow", "J", false)
  | 24 => ("DyeLotsModel", "drawnShade", "[I", true)
  | 25 => ("DyeLotsModel", "isKept", "Z", false)
  | 26 => ("DyeLotsModel", "keptGarment", "I", false)
  | 27 => ("DyeLotsModel", "keptLots", "I", false)
  | 28 => ("DyeLotsModel", "keptOne", "[I", true)
  | 29 => ("DyeLotsModel", "keptTwo", "[I", true)
  | 30 => ("DyeLotsModel", "keptTookOne", "[I", true)
  | 31 => ("DyeLotsModel", "keptTookTwo", "[I", true)
  | 32 => ("DyeLotsModel", "keptGauge", "[I", true)
  | 33 => ("DyeLotsModel", "keptFound", "[I", true)
  | 34 => ("DyeLotsModel", "keptShade", "[I", true)
  | 35 => ("DyeLotsModel", "keptBalls", "[I", true)
  | 36 => ("DyeLotsModel", "keptLoose", "[I", true)
  | _ => ("DyeLotsModel", "h", "J", false)
def tyX8 : Nat → FieldType := fun k => match k with
  | 0 => .int
  | 1 => .int
  | 2 => .int
  | 3 => .array .int
  | 4 => .array .int
  | 5 => .array .int
  | 6 => .array .int
  | 7 => .array .int
  | 8 => .array .int
  | 9 => .array .int
  | 10 => .array .int
  | 11 => .int
  | 12 => .array .int
  | 13 => .array .int
  | 14 => .array .int
  | 15 => .int
  | 16 => .int
  | 17 => .array .byte
  | 18 => .int
  | 19 => .boolean
  | 20 => .array .int
  | 21 => .array .int
  | 22 => .array .int
  | 23 => .long
  | 24 => .array .int
  | 25 => .boolean
  | 26 => .int
  | 27 => .int
  | 28 => .array .int
  | 29 => .array .int
  | 30 => .array .int
  | 31 => .array .int
  | 32 => .array .int
  | 33 => .array .int
  | 34 => .array .int
  | 35 => .array .int
  | 36 => .array .int
  | _ => .long
theorem nmX8 : ∀ a, a < 38 → ∀ b, b < 38 → a ≠ b → (TX8 a).2.1 ≠ (TX8 b).2.1 := by decide +kernel
theorem tyX8_ok : ∀ k, k < 38 → parseFieldDescriptor (TX8 k).2.2.1 = some (tyX8 k) := by decide +kernel
abbrev cX8_init : ByteArray := prog_10_method_1_code
def yX8_init : MethodName := ⟨RX8, "<init>", "()V"⟩
abbrev cX8_within : ByteArray := prog_10_method_3_code
def yX8_within : MethodName := ⟨RX8, "within", "(III)Z"⟩
abbrev cX8_letter : ByteArray := prog_10_method_4_code
def yX8_letter : MethodName := ⟨RX8, "letter", "(I)I"⟩
abbrev cX8_blank : ByteArray := prog_10_method_5_code
def yX8_blank : MethodName := ⟨RX8, "blank", "()I"⟩
abbrev cX8_kindBy : ByteArray := prog_10_method_6_code
def yX8_kindBy : MethodName := ⟨RX8, "kindBy", "(I)I"⟩
abbrev cX8_isFigure : ByteArray := prog_10_method_7_code
def yX8_isFigure : MethodName := ⟨RX8, "isFigure", "(III)Z"⟩
abbrev cX8_isSign : ByteArray := prog_10_method_8_code
def yX8_isSign : MethodName := ⟨RX8, "isSign", "(II)Z"⟩
abbrev cX8_read : ByteArray := prog_10_method_9_code
def yX8_read : MethodName := ⟨RX8, "read", "()I"⟩
abbrev cX8_readFade : ByteArray := prog_10_method_10_code
def yX8_readFade : MethodName := ⟨RX8, "readFade", "(I)I"⟩
abbrev cX8_fault : ByteArray := prog_10_method_11_code
def yX8_fault : MethodName := ⟨RX8, "fault", "()I"⟩
abbrev cX8_garment : ByteArray := prog_10_method_12_code
def yX8_garment : MethodName := ⟨RX8, "garment", "()I"⟩
abbrev cX8_clear : ByteArray := prog_10_method_13_code
def yX8_clear : MethodName := ⟨RX8, "clear", "(I)V"⟩
abbrev cX8_isPart : ByteArray := prog_10_method_14_code
def yX8_isPart : MethodName := ⟨RX8, "isPart", "(I)Z"⟩
abbrev cX8_isLot : ByteArray := prog_10_method_15_code
def yX8_isLot : MethodName := ⟨RX8, "isLot", "(I)Z"⟩
abbrev cX8_lightOf : ByteArray := prog_10_method_16_code
def yX8_lightOf : MethodName := ⟨RX8, "lightOf", "(I)I"⟩
abbrev cX8_toneOf : ByteArray := prog_10_method_17_code
def yX8_toneOf : MethodName := ⟨RX8, "toneOf", "(I)I"⟩
abbrev cX8_seenBy : ByteArray := prog_10_method_18_code
def yX8_seenBy : MethodName := ⟨RX8, "seenBy", "(III)I"⟩
abbrev cX8_seenAt : ByteArray := prog_10_method_19_code
def yX8_seenAt : MethodName := ⟨RX8, "seenAt", "(I)I"⟩
abbrev cX8_seenAll : ByteArray := prog_10_method_20_code
def yX8_seenAll : MethodName := ⟨RX8, "seenAll", "()I"⟩
abbrev cX8_partNow : ByteArray := prog_10_method_21_code
def yX8_partNow : MethodName := ⟨RX8, "partNow", "(II)I"⟩
abbrev cX8_about : ByteArray := prog_10_method_22_code
def yX8_about : MethodName := ⟨RX8, "about", "(II)I"⟩
abbrev cX8_as : ByteArray := prog_10_method_23_code
def yX8_as : MethodName := ⟨RX8, "as", "(II)I"⟩
abbrev cX8_lot : ByteArray := prog_10_method_24_code
def yX8_lot : MethodName := ⟨RX8, "lot", "(I)I"⟩
abbrev cX8_lotNow : ByteArray := prog_10_method_25_code
def yX8_lotNow : MethodName := ⟨RX8, "lotNow", "(II)I"⟩
abbrev cX8_lotOf : ByteArray := prog_10_method_26_code
def yX8_lotOf : MethodName := ⟨RX8, "lotOf", "(II)I"⟩
abbrev cX8_buy : ByteArray := prog_10_method_27_code
def yX8_buy : MethodName := ⟨RX8, "buy", "(II)I"⟩
abbrev cX8_back : ByteArray := prog_10_method_28_code
def yX8_back : MethodName := ⟨RX8, "back", "(II)I"⟩
abbrev cX8_rowsIn : ByteArray := prog_10_method_29_code
def yX8_rowsIn : MethodName := ⟨RX8, "rowsIn", "(I)I"⟩
abbrev cX8_take : ByteArray := prog_10_method_30_code
def yX8_take : MethodName := ⟨RX8, "take", "(II)V"⟩
abbrev cX8_firstHalf : ByteArray := prog_10_method_31_code
def yX8_firstHalf : MethodName := ⟨RX8, "firstHalf", "(I)I"⟩
abbrev cX8_knit : ByteArray := prog_10_method_32_code
def yX8_knit : MethodName := ⟨RX8, "knit", "(III)I"⟩
abbrev cX8_comeBack : ByteArray := prog_10_method_33_code
def yX8_comeBack : MethodName := ⟨RX8, "comeBack", "(II)I"⟩
abbrev cX8_undo : ByteArray := prog_10_method_34_code
def yX8_undo : MethodName := ⟨RX8, "undo", "(I)I"⟩
abbrev cX8_gauge : ByteArray := prog_10_method_35_code
def yX8_gauge : MethodName := ⟨RX8, "gauge", "(II)I"⟩
abbrev cX8_washed : ByteArray := prog_10_method_36_code
def yX8_washed : MethodName := ⟨RX8, "washed", "(I)I"⟩
abbrev cX8_wash : ByteArray := prog_10_method_37_code
def yX8_wash : MethodName := ⟨RX8, "wash", "()I"⟩
abbrev cX8_openParts : ByteArray := prog_10_method_38_code
def yX8_openParts : MethodName := ⟨RX8, "openParts", "()I"⟩
abbrev cX8_plans : ByteArray := prog_10_method_39_code
def yX8_plans : MethodName := ⟨RX8, "plans", "()I"⟩
abbrev cX8_layPlan : ByteArray := prog_10_method_40_code
def yX8_layPlan : MethodName := ⟨RX8, "layPlan", "(I)Z"⟩
abbrev cX8_planSeen : ByteArray := prog_10_method_41_code
def yX8_planSeen : MethodName := ⟨RX8, "planSeen", "()I"⟩
abbrev cX8_leastNow : ByteArray := prog_10_method_42_code
def yX8_leastNow : MethodName := ⟨RX8, "leastNow", "(I)I"⟩
abbrev cX8_least : ByteArray := prog_10_method_43_code
def yX8_least : MethodName := ⟨RX8, "least", "(I)I"⟩
abbrev cX8_wantedNow : ByteArray := prog_10_method_44_code
def yX8_wantedNow : MethodName := ⟨RX8, "wantedNow", "(II)I"⟩
abbrev cX8_wanted : ByteArray := prog_10_method_45_code
def yX8_wanted : MethodName := ⟨RX8, "wanted", "(II)I"⟩
abbrev cX8_found : ByteArray := prog_10_method_46_code
def yX8_found : MethodName := ⟨RX8, "found", "(II)I"⟩
abbrev cX8_sorts : ByteArray := prog_10_method_47_code
def yX8_sorts : MethodName := ⟨RX8, "sorts", "()I"⟩
abbrev cX8_sortTone : ByteArray := prog_10_method_48_code
def yX8_sortTone : MethodName := ⟨RX8, "sortTone", "(I)I"⟩
abbrev cX8_waysMany : ByteArray := prog_10_method_49_code
def yX8_waysMany : MethodName := ⟨RX8, "waysMany", "()I"⟩
abbrev cX8_couldBe : ByteArray := prog_10_method_50_code
def yX8_couldBe : MethodName := ⟨RX8, "couldBe", "(I)Z"⟩
abbrev cX8_fitsNow : ByteArray := prog_10_method_51_code
def yX8_fitsNow : MethodName := ⟨RX8, "fitsNow", "()I"⟩
abbrev cX8_fits : ByteArray := prog_10_method_52_code
def yX8_fits : MethodName := ⟨RX8, "fits", "()I"⟩
abbrev cX8_sureNow : ByteArray := prog_10_method_53_code
def yX8_sureNow : MethodName := ⟨RX8, "sureNow", "(I)I"⟩
abbrev cX8_sure : ByteArray := prog_10_method_54_code
def yX8_sure : MethodName := ⟨RX8, "sure", "(I)I"⟩
abbrev cX8_draw : ByteArray := prog_10_method_55_code
def yX8_draw : MethodName := ⟨RX8, "draw", "(I)I"⟩
abbrev cX8_goYear : ByteArray := prog_10_method_56_code
def yX8_goYear : MethodName := ⟨RX8, "goYear", "()I"⟩
abbrev cX8_yearsNow : ByteArray := prog_10_method_57_code
def yX8_yearsNow : MethodName := ⟨RX8, "yearsNow", "(III)I"⟩
abbrev cX8_years : ByteArray := prog_10_method_58_code
def yX8_years : MethodName := ⟨RX8, "years", "(III)I"⟩
abbrev cX8_image : ByteArray := prog_10_method_59_code
def yX8_image : MethodName := ⟨RX8, "image", "()I"⟩
abbrev cX8_restore : ByteArray := prog_10_method_60_code
def yX8_restore : MethodName := ⟨RX8, "restore", "()I"⟩
abbrev cX8_sum : ByteArray := prog_10_method_61_code
def yX8_sum : MethodName := ⟨RX8, "sum", "(I)I"⟩
abbrev cX8_foundMany : ByteArray := prog_10_method_62_code
def yX8_foundMany : MethodName := ⟨RX8, "foundMany", "()I"⟩
abbrev cX8_howMany : ByteArray := prog_10_method_63_code
def yX8_howMany : MethodName := ⟨RX8, "howMany", "(I)I"⟩
abbrev cX8_count : ByteArray := prog_10_method_64_code
def yX8_count : MethodName := ⟨RX8, "count", "(I)I"⟩
abbrev cX8_mix : ByteArray := prog_10_method_65_code
def yX8_mix : MethodName := ⟨RX8, "mix", "(J)V"⟩
abbrev cX8_digest : ByteArray := prog_10_method_66_code
def yX8_digest : MethodName := ⟨RX8, "digest", "()J"⟩
def RJ11 : String := "java/lang/Character"
def TJ11 : u_T := fun k => match k with
  | _ => ("", "", "", false)
def tyJ11 : Nat → FieldType := fun k => match k with
  | _ => .int
abbrev cJ11_isValidCodePoint_9a6ad : ByteArray := prog_11_method_11_code
def yJ11_isValidCodePoint_9a6ad : MethodName := ⟨RJ11, "isValidCodePoint", "(I)Z"⟩
abbrev cJ11_highSurrogate_5068e : ByteArray := prog_11_method_28_code
def yJ11_highSurrogate_5068e : MethodName := ⟨RJ11, "highSurrogate", "(I)C"⟩
abbrev cJ11_lowSurrogate_5068e : ByteArray := prog_11_method_29_code
def yJ11_lowSurrogate_5068e : MethodName := ⟨RJ11, "lowSurrogate", "(I)C"⟩
def RJ9 : String := "java/lang/Math"
def TJ9 : u_T := fun k => match k with
  | _ => ("", "", "", false)
def tyJ9 : Nat → FieldType := fun k => match k with
  | _ => .int
abbrev cJ9_abs_0f7a4 : ByteArray := prog_12_method_59_code
def yJ9_abs_0f7a4 : MethodName := ⟨RJ9, "abs", "(I)I"⟩
abbrev cJ9_max_7cf53 : ByteArray := prog_12_method_65_code
def yJ9_max_7cf53 : MethodName := ⟨RJ9, "max", "(II)I"⟩
abbrev cJ9_min_7cf53 : ByteArray := prog_12_method_69_code
def yJ9_min_7cf53 : MethodName := ⟨RJ9, "min", "(II)I"⟩
def RJ0 : String := "java/lang/String"
def TJ0 : u_T := fun k => match k with
  | _ => ("", "", "", false)
def tyJ0 : Nat → FieldType := fun k => match k with
  | _ => .int
abbrev cJ0_length_8abf5 : ByteArray := prog_13_method_54_code
def yJ0_length_8abf5 : MethodName := ⟨RJ0, "length", "()I"⟩
abbrev cJ0_indexOf_0f7a4 : ByteArray := prog_13_method_79_code
def yJ0_indexOf_0f7a4 : MethodName := ⟨RJ0, "indexOf", "(I)I"⟩
abbrev cJ0_indexOf_7cf53 : ByteArray := prog_13_method_80_code
def yJ0_indexOf_7cf53 : MethodName := ⟨RJ0, "indexOf", "(II)I"⟩
abbrev cJ0_coder_7d493 : ByteArray := prog_13_method_152_code
def yJ0_coder_7d493 : MethodName := ⟨RJ0, "coder", "()B"⟩
abbrev cJ0_isLatin1_aae02 : ByteArray := prog_13_method_154_code
def yJ0_isLatin1_aae02 : MethodName := ⟨RJ0, "isLatin1", "()Z"⟩
abbrev cJ0_checkBoundsBeginEnd_23922 : ByteArray := prog_13_method_158_code
def yJ0_checkBoundsBeginEnd_23922 : MethodName := ⟨RJ0, "checkBoundsBeginEnd", "(III)V"⟩
def RJ1 : String := "java/lang/StringLatin1"
def TJ1 : u_T := fun k => match k with
  | _ => ("", "", "", false)
def tyJ1 : Nat → FieldType := fun k => match k with
  | _ => .int
abbrev cJ1_canEncode_9a6ad : ByteArray := prog_14_method_4_code
def yJ1_canEncode_9a6ad : MethodName := ⟨RJ1, "canEncode", "(I)Z"⟩
abbrev cJ1_indexOf_4cfef : ByteArray := prog_14_method_22_code
def yJ1_indexOf_4cfef : MethodName := ⟨RJ1, "indexOf", "([BIII)I"⟩
abbrev cJ1_indexOfChar_4cfef : ByteArray := prog_14_method_23_code
def yJ1_indexOfChar_4cfef : MethodName := ⟨RJ1, "indexOfChar", "([BIII)I"⟩
def RJ2 : String := "java/lang/StringUTF16"
def TJ2 : u_T := fun k => match k with
  | _ => ("", "", "", false)
def tyJ2 : Nat → FieldType := fun k => match k with
  | _ => .int
abbrev cJ2_getChar_3b067 : ByteArray := prog_15_method_5_code
def yJ2_getChar_3b067 : MethodName := ⟨RJ2, "getChar", "([BI)C"⟩
abbrev cJ2_length_9d52b : ByteArray := prog_15_method_6_code
def yJ2_length_9d52b : MethodName := ⟨RJ2, "length", "([B)I"⟩
abbrev cJ2_indexOf_4cfef : ByteArray := prog_15_method_40_code
def yJ2_indexOf_4cfef : MethodName := ⟨RJ2, "indexOf", "([BIII)I"⟩
abbrev cJ2_indexOfChar_4cfef : ByteArray := prog_15_method_47_code
def yJ2_indexOfChar_4cfef : MethodName := ⟨RJ2, "indexOfChar", "([BIII)I"⟩
abbrev cJ2_indexOfCharUnsafe_4cfef : ByteArray := prog_15_method_48_code
def yJ2_indexOfCharUnsafe_4cfef : MethodName := ⟨RJ2, "indexOfCharUnsafe", "([BIII)I"⟩
abbrev cJ2_indexOfSupplementary_4cfef : ByteArray := prog_15_method_49_code
def yJ2_indexOfSupplementary_4cfef : MethodName := ⟨RJ2, "indexOfSupplementary", "([BIII)I"⟩
abbrev cJ2_checkBoundsBeginEnd_d044e : ByteArray := prog_15_method_93_code
def yJ2_checkBoundsBeginEnd_d044e : MethodName := ⟨RJ2, "checkBoundsBeginEnd", "(II[B)V"⟩
def RJ10 : String := "java/lang/System"
def TJ10 : u_T := fun k => match k with
  | _ => ("", "", "", false)
def tyJ10 : Nat → FieldType := fun k => match k with
  | _ => .int
def RJ3 : String := "jdk/internal/util/Preconditions"
def TJ3 : u_T := fun k => match k with
  | _ => ("", "", "", false)
def tyJ3 : Nat → FieldType := fun k => match k with
  | _ => .int
abbrev cJ3_checkFromToIndex_8c36e : ByteArray := prog_17_method_12_code
def yJ3_checkFromToIndex_8c36e : MethodName := ⟨RJ3, "checkFromToIndex", "(IIILjava/util/function/BiFunction;)I"⟩
def RL : String := "DyeLotsLaw"
abbrev cL_law : ByteArray := code
abbrev vwCl : List vw_C := [(RX0, TX0, 2), (RX1, TX1, 5), (RX2, TX2, 3), (RX3, TX3, 2), (RX4, TX4, 8), (RX5, TX5, 6), (RX6, TX6, 5), (RX7, TX7, 9), (RX8, TX8, 38)]
