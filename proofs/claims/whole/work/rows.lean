section
-- ===== PART A: goes FIRST, ahead of the names: the tables' words, and 'selects' of the private methods out of them =====
/-- a private method of a class that the tables say can be made, by its rows of tables_1 -/
def lw_okq (q : MethodName × Nat) : Prop := (q.1.cls ≠ "java/lang/invoke/MethodHandle" ∧ q.1.cls ≠ "java/lang/invoke/VarHandle") ∧ Cond.instantiable q.1.cls q.2 ∈ tables_1 ∧ Cond.privateMethod q.1 ∈ tables_1 ∧ Cond.instanceMethod q.1 ∈ tables_1
theorem lw_p0 : lw_okq (⟨"DyeLots$Planner", "keep", "(I)V"⟩, 6) := ⟨⟨by decide +kernel, by decide +kernel⟩, List.mem_of_getElem? (i := 150) (by decide +kernel), List.mem_of_getElem? (i := 528) (by decide +kernel), List.mem_of_getElem? (i := 529) (by decide +kernel)⟩
theorem lw_p1 : lw_okq (⟨"DyeLots$Guesses", "listMakes", "(LDyeLots$Work;)V"⟩, 5) := ⟨⟨by decide +kernel, by decide +kernel⟩, List.mem_of_getElem? (i := 178) (by decide +kernel), List.mem_of_getElem? (i := 566) (by decide +kernel), List.mem_of_getElem? (i := 567) (by decide +kernel)⟩
theorem lw_p2 : lw_okq (⟨"DyeLots$Guesses", "countAhead", "(LDyeLots$Work;I)V"⟩, 5) := ⟨⟨by decide +kernel, by decide +kernel⟩, List.mem_of_getElem? (i := 178) (by decide +kernel), List.mem_of_getElem? (i := 570) (by decide +kernel), List.mem_of_getElem? (i := 571) (by decide +kernel)⟩
theorem lw_p3 : lw_okq (⟨"DyeLots$Guesses", "mayMeet", "(LDyeLots$Work;III)Z"⟩, 5) := ⟨⟨by decide +kernel, by decide +kernel⟩, List.mem_of_getElem? (i := 178) (by decide +kernel), List.mem_of_getElem? (i := 574) (by decide +kernel), List.mem_of_getElem? (i := 575) (by decide +kernel)⟩
theorem lw_p4 : lw_okq (⟨"DyeLots$Guesses", "countBehind", "(LDyeLots$Work;I)V"⟩, 5) := ⟨⟨by decide +kernel, by decide +kernel⟩, List.mem_of_getElem? (i := 178) (by decide +kernel), List.mem_of_getElem? (i := 579) (by decide +kernel), List.mem_of_getElem? (i := 580) (by decide +kernel)⟩
theorem lw_p5 : lw_okq (⟨"DyeLots$Draws", "draw", "(I)I"⟩, 2) := ⟨⟨by decide +kernel, by decide +kernel⟩, List.mem_of_getElem? (i := 202) (by decide +kernel), List.mem_of_getElem? (i := 603) (by decide +kernel), List.mem_of_getElem? (i := 604) (by decide +kernel)⟩
theorem lw_p6 : lw_okq (⟨"DyeLotsModel", "read", "()I"⟩, 38) := ⟨⟨by decide +kernel, by decide +kernel⟩, List.mem_of_getElem? (i := 663) (by decide +kernel), List.mem_of_getElem? (i := 799) (by decide +kernel), List.mem_of_getElem? (i := 800) (by decide +kernel)⟩
theorem lw_p7 : lw_okq (⟨"DyeLotsModel", "isFigure", "(III)Z"⟩, 38) := ⟨⟨by decide +kernel, by decide +kernel⟩, List.mem_of_getElem? (i := 663) (by decide +kernel), List.mem_of_getElem? (i := 806) (by decide +kernel), List.mem_of_getElem? (i := 807) (by decide +kernel)⟩
theorem lw_p8 : lw_okq (⟨"DyeLotsModel", "isSign", "(II)Z"⟩, 38) := ⟨⟨by decide +kernel, by decide +kernel⟩, List.mem_of_getElem? (i := 663) (by decide +kernel), List.mem_of_getElem? (i := 810) (by decide +kernel), List.mem_of_getElem? (i := 811) (by decide +kernel)⟩
theorem lw_p9 : lw_okq (⟨"DyeLotsModel", "readFade", "(I)I"⟩, 38) := ⟨⟨by decide +kernel, by decide +kernel⟩, List.mem_of_getElem? (i := 663) (by decide +kernel), List.mem_of_getElem? (i := 814) (by decide +kernel), List.mem_of_getElem? (i := 815) (by decide +kernel)⟩
theorem lw_p10 : lw_okq (⟨"DyeLotsModel", "clear", "(I)V"⟩, 38) := ⟨⟨by decide +kernel, by decide +kernel⟩, List.mem_of_getElem? (i := 663) (by decide +kernel), List.mem_of_getElem? (i := 822) (by decide +kernel), List.mem_of_getElem? (i := 823) (by decide +kernel)⟩
theorem lw_p11 : lw_okq (⟨"DyeLotsModel", "isPart", "(I)Z"⟩, 38) := ⟨⟨by decide +kernel, by decide +kernel⟩, List.mem_of_getElem? (i := 663) (by decide +kernel), List.mem_of_getElem? (i := 830) (by decide +kernel), List.mem_of_getElem? (i := 831) (by decide +kernel)⟩
theorem lw_p12 : lw_okq (⟨"DyeLotsModel", "partNow", "(II)I"⟩, 38) := ⟨⟨by decide +kernel, by decide +kernel⟩, List.mem_of_getElem? (i := 663) (by decide +kernel), List.mem_of_getElem? (i := 834) (by decide +kernel), List.mem_of_getElem? (i := 835) (by decide +kernel)⟩
theorem lw_p13 : lw_okq (⟨"DyeLotsModel", "toneOf", "(I)I"⟩, 38) := ⟨⟨by decide +kernel, by decide +kernel⟩, List.mem_of_getElem? (i := 663) (by decide +kernel), List.mem_of_getElem? (i := 841) (by decide +kernel), List.mem_of_getElem? (i := 842) (by decide +kernel)⟩
theorem lw_p14 : lw_okq (⟨"DyeLotsModel", "seenAt", "(I)I"⟩, 38) := ⟨⟨by decide +kernel, by decide +kernel⟩, List.mem_of_getElem? (i := 663) (by decide +kernel), List.mem_of_getElem? (i := 845) (by decide +kernel), List.mem_of_getElem? (i := 846) (by decide +kernel)⟩
theorem lw_p15 : lw_okq (⟨"DyeLotsModel", "seenBy", "(III)I"⟩, 38) := ⟨⟨by decide +kernel, by decide +kernel⟩, List.mem_of_getElem? (i := 663) (by decide +kernel), List.mem_of_getElem? (i := 849) (by decide +kernel), List.mem_of_getElem? (i := 850) (by decide +kernel)⟩
def lw_privs_1 : List (MethodName × Nat) := [(⟨"DyeLots$Planner", "keep", "(I)V"⟩, 6), (⟨"DyeLots$Guesses", "listMakes", "(LDyeLots$Work;)V"⟩, 5), (⟨"DyeLots$Guesses", "countAhead", "(LDyeLots$Work;I)V"⟩, 5), (⟨"DyeLots$Guesses", "mayMeet", "(LDyeLots$Work;III)Z"⟩, 5), (⟨"DyeLots$Guesses", "countBehind", "(LDyeLots$Work;I)V"⟩, 5), (⟨"DyeLots$Draws", "draw", "(I)I"⟩, 2), (⟨"DyeLotsModel", "read", "()I"⟩, 38), (⟨"DyeLotsModel", "isFigure", "(III)Z"⟩, 38), (⟨"DyeLotsModel", "isSign", "(II)Z"⟩, 38), (⟨"DyeLotsModel", "readFade", "(I)I"⟩, 38), (⟨"DyeLotsModel", "clear", "(I)V"⟩, 38), (⟨"DyeLotsModel", "isPart", "(I)Z"⟩, 38), (⟨"DyeLotsModel", "partNow", "(II)I"⟩, 38), (⟨"DyeLotsModel", "toneOf", "(I)I"⟩, 38), (⟨"DyeLotsModel", "seenAt", "(I)I"⟩, 38), (⟨"DyeLotsModel", "seenBy", "(III)I"⟩, 38)]
theorem lw_r1 : ∀ q ∈ lw_privs_1, lw_okq q := List.forall_mem_cons.mpr ⟨lw_p0, List.forall_mem_cons.mpr ⟨lw_p1, List.forall_mem_cons.mpr ⟨lw_p2, List.forall_mem_cons.mpr ⟨lw_p3, List.forall_mem_cons.mpr ⟨lw_p4, List.forall_mem_cons.mpr ⟨lw_p5, List.forall_mem_cons.mpr ⟨lw_p6, List.forall_mem_cons.mpr ⟨lw_p7, List.forall_mem_cons.mpr ⟨lw_p8, List.forall_mem_cons.mpr ⟨lw_p9, List.forall_mem_cons.mpr ⟨lw_p10, List.forall_mem_cons.mpr ⟨lw_p11, List.forall_mem_cons.mpr ⟨lw_p12, List.forall_mem_cons.mpr ⟨lw_p13, List.forall_mem_cons.mpr ⟨lw_p14, List.forall_mem_cons.mpr ⟨lw_p15, fun _ h => absurd h List.not_mem_nil⟩⟩⟩⟩⟩⟩⟩⟩⟩⟩⟩⟩⟩⟩⟩⟩
theorem lw_p16 : lw_okq (⟨"DyeLotsModel", "isLot", "(I)Z"⟩, 38) := ⟨⟨by decide +kernel, by decide +kernel⟩, List.mem_of_getElem? (i := 663) (by decide +kernel), List.mem_of_getElem? (i := 865) (by decide +kernel), List.mem_of_getElem? (i := 866) (by decide +kernel)⟩
theorem lw_p17 : lw_okq (⟨"DyeLotsModel", "lotNow", "(II)I"⟩, 38) := ⟨⟨by decide +kernel, by decide +kernel⟩, List.mem_of_getElem? (i := 663) (by decide +kernel), List.mem_of_getElem? (i := 869) (by decide +kernel), List.mem_of_getElem? (i := 870) (by decide +kernel)⟩
theorem lw_p18 : lw_okq (⟨"DyeLotsModel", "rowsIn", "(I)I"⟩, 38) := ⟨⟨by decide +kernel, by decide +kernel⟩, List.mem_of_getElem? (i := 663) (by decide +kernel), List.mem_of_getElem? (i := 888) (by decide +kernel), List.mem_of_getElem? (i := 889) (by decide +kernel)⟩
theorem lw_p19 : lw_okq (⟨"DyeLotsModel", "take", "(II)V"⟩, 38) := ⟨⟨by decide +kernel, by decide +kernel⟩, List.mem_of_getElem? (i := 663) (by decide +kernel), List.mem_of_getElem? (i := 892) (by decide +kernel), List.mem_of_getElem? (i := 893) (by decide +kernel)⟩
theorem lw_p20 : lw_okq (⟨"DyeLotsModel", "seenAll", "()I"⟩, 38) := ⟨⟨by decide +kernel, by decide +kernel⟩, List.mem_of_getElem? (i := 663) (by decide +kernel), List.mem_of_getElem? (i := 896) (by decide +kernel), List.mem_of_getElem? (i := 897) (by decide +kernel)⟩
theorem lw_p21 : lw_okq (⟨"DyeLotsModel", "comeBack", "(II)I"⟩, 38) := ⟨⟨by decide +kernel, by decide +kernel⟩, List.mem_of_getElem? (i := 663) (by decide +kernel), List.mem_of_getElem? (i := 904) (by decide +kernel), List.mem_of_getElem? (i := 905) (by decide +kernel)⟩
theorem lw_p22 : lw_okq (⟨"DyeLotsModel", "washed", "(I)I"⟩, 38) := ⟨⟨by decide +kernel, by decide +kernel⟩, List.mem_of_getElem? (i := 663) (by decide +kernel), List.mem_of_getElem? (i := 916) (by decide +kernel), List.mem_of_getElem? (i := 917) (by decide +kernel)⟩
theorem lw_p23 : lw_okq (⟨"DyeLotsModel", "leastNow", "(I)I"⟩, 38) := ⟨⟨by decide +kernel, by decide +kernel⟩, List.mem_of_getElem? (i := 663) (by decide +kernel), List.mem_of_getElem? (i := 924) (by decide +kernel), List.mem_of_getElem? (i := 925) (by decide +kernel)⟩
theorem lw_p24 : lw_okq (⟨"DyeLotsModel", "plans", "()I"⟩, 38) := ⟨⟨by decide +kernel, by decide +kernel⟩, List.mem_of_getElem? (i := 663) (by decide +kernel), List.mem_of_getElem? (i := 929) (by decide +kernel), List.mem_of_getElem? (i := 930) (by decide +kernel)⟩
theorem lw_p25 : lw_okq (⟨"DyeLotsModel", "openParts", "()I"⟩, 38) := ⟨⟨by decide +kernel, by decide +kernel⟩, List.mem_of_getElem? (i := 663) (by decide +kernel), List.mem_of_getElem? (i := 933) (by decide +kernel), List.mem_of_getElem? (i := 934) (by decide +kernel)⟩
theorem lw_p26 : lw_okq (⟨"DyeLotsModel", "layPlan", "(I)Z"⟩, 38) := ⟨⟨by decide +kernel, by decide +kernel⟩, List.mem_of_getElem? (i := 663) (by decide +kernel), List.mem_of_getElem? (i := 937) (by decide +kernel), List.mem_of_getElem? (i := 938) (by decide +kernel)⟩
theorem lw_p27 : lw_okq (⟨"DyeLotsModel", "planSeen", "()I"⟩, 38) := ⟨⟨by decide +kernel, by decide +kernel⟩, List.mem_of_getElem? (i := 663) (by decide +kernel), List.mem_of_getElem? (i := 941) (by decide +kernel), List.mem_of_getElem? (i := 942) (by decide +kernel)⟩
theorem lw_p28 : lw_okq (⟨"DyeLotsModel", "wantedNow", "(II)I"⟩, 38) := ⟨⟨by decide +kernel, by decide +kernel⟩, List.mem_of_getElem? (i := 663) (by decide +kernel), List.mem_of_getElem? (i := 949) (by decide +kernel), List.mem_of_getElem? (i := 950) (by decide +kernel)⟩
theorem lw_p29 : lw_okq (⟨"DyeLotsModel", "fitsNow", "()I"⟩, 38) := ⟨⟨by decide +kernel, by decide +kernel⟩, List.mem_of_getElem? (i := 663) (by decide +kernel), List.mem_of_getElem? (i := 961) (by decide +kernel), List.mem_of_getElem? (i := 962) (by decide +kernel)⟩
theorem lw_p30 : lw_okq (⟨"DyeLotsModel", "waysMany", "()I"⟩, 38) := ⟨⟨by decide +kernel, by decide +kernel⟩, List.mem_of_getElem? (i := 663) (by decide +kernel), List.mem_of_getElem? (i := 965) (by decide +kernel), List.mem_of_getElem? (i := 966) (by decide +kernel)⟩
theorem lw_p31 : lw_okq (⟨"DyeLotsModel", "sorts", "()I"⟩, 38) := ⟨⟨by decide +kernel, by decide +kernel⟩, List.mem_of_getElem? (i := 663) (by decide +kernel), List.mem_of_getElem? (i := 969) (by decide +kernel), List.mem_of_getElem? (i := 970) (by decide +kernel)⟩
def lw_privs_2 : List (MethodName × Nat) := [(⟨"DyeLotsModel", "isLot", "(I)Z"⟩, 38), (⟨"DyeLotsModel", "lotNow", "(II)I"⟩, 38), (⟨"DyeLotsModel", "rowsIn", "(I)I"⟩, 38), (⟨"DyeLotsModel", "take", "(II)V"⟩, 38), (⟨"DyeLotsModel", "seenAll", "()I"⟩, 38), (⟨"DyeLotsModel", "comeBack", "(II)I"⟩, 38), (⟨"DyeLotsModel", "washed", "(I)I"⟩, 38), (⟨"DyeLotsModel", "leastNow", "(I)I"⟩, 38), (⟨"DyeLotsModel", "plans", "()I"⟩, 38), (⟨"DyeLotsModel", "openParts", "()I"⟩, 38), (⟨"DyeLotsModel", "layPlan", "(I)Z"⟩, 38), (⟨"DyeLotsModel", "planSeen", "()I"⟩, 38), (⟨"DyeLotsModel", "wantedNow", "(II)I"⟩, 38), (⟨"DyeLotsModel", "fitsNow", "()I"⟩, 38), (⟨"DyeLotsModel", "waysMany", "()I"⟩, 38), (⟨"DyeLotsModel", "sorts", "()I"⟩, 38)]
theorem lw_r2 : ∀ q ∈ lw_privs_2, lw_okq q := List.forall_mem_cons.mpr ⟨lw_p16, List.forall_mem_cons.mpr ⟨lw_p17, List.forall_mem_cons.mpr ⟨lw_p18, List.forall_mem_cons.mpr ⟨lw_p19, List.forall_mem_cons.mpr ⟨lw_p20, List.forall_mem_cons.mpr ⟨lw_p21, List.forall_mem_cons.mpr ⟨lw_p22, List.forall_mem_cons.mpr ⟨lw_p23, List.forall_mem_cons.mpr ⟨lw_p24, List.forall_mem_cons.mpr ⟨lw_p25, List.forall_mem_cons.mpr ⟨lw_p26, List.forall_mem_cons.mpr ⟨lw_p27, List.forall_mem_cons.mpr ⟨lw_p28, List.forall_mem_cons.mpr ⟨lw_p29, List.forall_mem_cons.mpr ⟨lw_p30, List.forall_mem_cons.mpr ⟨lw_p31, fun _ h => absurd h List.not_mem_nil⟩⟩⟩⟩⟩⟩⟩⟩⟩⟩⟩⟩⟩⟩⟩⟩
theorem lw_p32 : lw_okq (⟨"DyeLotsModel", "couldBe", "(I)Z"⟩, 38) := ⟨⟨by decide +kernel, by decide +kernel⟩, List.mem_of_getElem? (i := 663) (by decide +kernel), List.mem_of_getElem? (i := 973) (by decide +kernel), List.mem_of_getElem? (i := 974) (by decide +kernel)⟩
theorem lw_p33 : lw_okq (⟨"DyeLotsModel", "sortTone", "(I)I"⟩, 38) := ⟨⟨by decide +kernel, by decide +kernel⟩, List.mem_of_getElem? (i := 663) (by decide +kernel), List.mem_of_getElem? (i := 977) (by decide +kernel), List.mem_of_getElem? (i := 978) (by decide +kernel)⟩
theorem lw_p34 : lw_okq (⟨"DyeLotsModel", "sureNow", "(I)I"⟩, 38) := ⟨⟨by decide +kernel, by decide +kernel⟩, List.mem_of_getElem? (i := 663) (by decide +kernel), List.mem_of_getElem? (i := 985) (by decide +kernel), List.mem_of_getElem? (i := 986) (by decide +kernel)⟩
theorem lw_p35 : lw_okq (⟨"DyeLotsModel", "yearsNow", "(III)I"⟩, 38) := ⟨⟨by decide +kernel, by decide +kernel⟩, List.mem_of_getElem? (i := 663) (by decide +kernel), List.mem_of_getElem? (i := 993) (by decide +kernel), List.mem_of_getElem? (i := 994) (by decide +kernel)⟩
theorem lw_p36 : lw_okq (⟨"DyeLotsModel", "goYear", "()I"⟩, 38) := ⟨⟨by decide +kernel, by decide +kernel⟩, List.mem_of_getElem? (i := 663) (by decide +kernel), List.mem_of_getElem? (i := 997) (by decide +kernel), List.mem_of_getElem? (i := 998) (by decide +kernel)⟩
theorem lw_p37 : lw_okq (⟨"DyeLotsModel", "draw", "(I)I"⟩, 38) := ⟨⟨by decide +kernel, by decide +kernel⟩, List.mem_of_getElem? (i := 663) (by decide +kernel), List.mem_of_getElem? (i := 1001) (by decide +kernel), List.mem_of_getElem? (i := 1002) (by decide +kernel)⟩
theorem lw_p38 : lw_okq (⟨"DyeLotsModel", "howMany", "(I)I"⟩, 38) := ⟨⟨by decide +kernel, by decide +kernel⟩, List.mem_of_getElem? (i := 663) (by decide +kernel), List.mem_of_getElem? (i := 1021) (by decide +kernel), List.mem_of_getElem? (i := 1022) (by decide +kernel)⟩
theorem lw_p39 : lw_okq (⟨"DyeLotsModel", "sum", "(I)I"⟩, 38) := ⟨⟨by decide +kernel, by decide +kernel⟩, List.mem_of_getElem? (i := 663) (by decide +kernel), List.mem_of_getElem? (i := 1025) (by decide +kernel), List.mem_of_getElem? (i := 1026) (by decide +kernel)⟩
theorem lw_p40 : lw_okq (⟨"DyeLotsModel", "foundMany", "()I"⟩, 38) := ⟨⟨by decide +kernel, by decide +kernel⟩, List.mem_of_getElem? (i := 663) (by decide +kernel), List.mem_of_getElem? (i := 1029) (by decide +kernel), List.mem_of_getElem? (i := 1030) (by decide +kernel)⟩
theorem lw_p41 : lw_okq (⟨"DyeLotsModel", "mix", "(J)V"⟩, 38) := ⟨⟨by decide +kernel, by decide +kernel⟩, List.mem_of_getElem? (i := 663) (by decide +kernel), List.mem_of_getElem? (i := 1038) (by decide +kernel), List.mem_of_getElem? (i := 1039) (by decide +kernel)⟩
def lw_privs_3 : List (MethodName × Nat) := [(⟨"DyeLotsModel", "couldBe", "(I)Z"⟩, 38), (⟨"DyeLotsModel", "sortTone", "(I)I"⟩, 38), (⟨"DyeLotsModel", "sureNow", "(I)I"⟩, 38), (⟨"DyeLotsModel", "yearsNow", "(III)I"⟩, 38), (⟨"DyeLotsModel", "goYear", "()I"⟩, 38), (⟨"DyeLotsModel", "draw", "(I)I"⟩, 38), (⟨"DyeLotsModel", "howMany", "(I)I"⟩, 38), (⟨"DyeLotsModel", "sum", "(I)I"⟩, 38), (⟨"DyeLotsModel", "foundMany", "()I"⟩, 38), (⟨"DyeLotsModel", "mix", "(J)V"⟩, 38)]
theorem lw_r3 : ∀ q ∈ lw_privs_3, lw_okq q := List.forall_mem_cons.mpr ⟨lw_p32, List.forall_mem_cons.mpr ⟨lw_p33, List.forall_mem_cons.mpr ⟨lw_p34, List.forall_mem_cons.mpr ⟨lw_p35, List.forall_mem_cons.mpr ⟨lw_p36, List.forall_mem_cons.mpr ⟨lw_p37, List.forall_mem_cons.mpr ⟨lw_p38, List.forall_mem_cons.mpr ⟨lw_p39, List.forall_mem_cons.mpr ⟨lw_p40, List.forall_mem_cons.mpr ⟨lw_p41, fun _ h => absurd h List.not_mem_nil⟩⟩⟩⟩⟩⟩⟩⟩⟩⟩
def lw_privs : List (MethodName × Nat) := lw_privs_1 ++ (lw_privs_2 ++ (lw_privs_3))
def lw_tbl : List Cond := k2_sels lw_privs ++ tables_1
theorem lw_privs_ok : ∀ q ∈ lw_privs, lw_okq q := by
  show ∀ q ∈ lw_privs_1 ++ (lw_privs_2 ++ (lw_privs_3)), lw_okq q
  exact List.forall_mem_append.mpr ⟨lw_r1, List.forall_mem_append.mpr ⟨lw_r2, lw_r3⟩⟩

/-- the printed row va_mna names va_AOA, which this claim's kit doesn't hold: my own, of the same use -/
def va_AOA (t : FieldType) (U : State) : Prop := (Cond.arrayOver (.array t)).before #[] U = true
theorem va_AOA.use {t : FieldType} {A : Array Value} {U : State} (h : va_AOA t U) : (Cond.arrayOver (.array t)).before A U = true := h
/-! ===== BEGIN words of one list among another's, by their places ===== -/
theorem goodIn_r {big : List Cond} (ws : List Cond) (ps : List Nat) (hp : ws = ps.filterMap (fun i => big[i]?)) (h : ws.all goodWord = true) : GoodIn big ws := by
  intro w hw
  have h1 := List.all_eq_true.mp h w hw
  rw [hp] at hw
  obtain ⟨i, -, hi⟩ := List.mem_filterMap.mp hw
  have hm : w ∈ big := by first | exact List.mem_of_getElem? hi | exact List.getElem?_mem hi
  exact ⟨hm, good_of_word h1⟩
theorem goodIn_app {big a b : List Cond} (ha : GoodIn big a) (hb : GoodIn big b) : GoodIn big (a ++ b) := fun w h => (List.mem_append.mp h).elim (ha w) (hb w)
theorem goodIn_ca {big a b : List Cond} {c : Cond} (ha : GoodIn big (c :: a)) (hb : GoodIn big b) : GoodIn big (c :: (a ++ b)) := fun w h => (List.mem_cons.mp h).elim (fun e => ha w (List.mem_cons.mpr (Or.inl e))) (fun h => (List.mem_append.mp h).elim (fun h => ha w (List.mem_cons.mpr (Or.inr h))) (hb w))
theorem goodIn_sub {big ws : List Cond} (hm : ∀ w ∈ ws, w ∈ big) (h : ws.all goodWord = true) : GoodIn big ws := fun w hw => ⟨hm w hw, good_of_word (List.all_eq_true.mp h w hw)⟩
/-! ===== END ===== -/

/-! ===== BEGIN new T[n][m]: the outer array a place, the inner ones among the pooled ===== -/
/-- f, but v at every address of l -/
def vr_up {α : Type} (f : Nat → α) (l : List Nat) (v : α) : Nat → α := fun a => if a ∈ l then v else f a
theorem vr_up_in {α : Type} {f : Nat → α} {l : List Nat} {v : α} {a : Nat} (h : a ∈ l) : vr_up f l v a = v := if_pos h
theorem vr_up_ne {α : Type} {f : Nat → α} {l : List Nat} {v : α} {a : Nat} (h : a ∉ l) : vr_up f l v a = f a := if_neg h
theorem vr_rows {L l : List Nat} {f : Nat → va_E} {e : va_E} (h : ∀ a, a ∈ l → a ∉ L) : va_pl L f ++ l.map (fun a => (a, e)) = va_pl (L ++ l) (vr_up f l e) := by
  unfold va_pl
  rw [List.map_append]
  congr 1
  · apply List.map_congr_left
    intro a ha
    rw [vr_up_ne (fun q => h a q ha)]
  · apply List.map_congr_left
    intro a ha
    rw [vr_up_in ha]
theorem vr_lay {X rows : va_W} {x : Nat × va_E} {pl : va_W} {D : va_G} {cl : List vw_C} {H : Heap} (hP : va_P D cl (((X ++ pl) ++ [x]) ++ rows) H) : va_P D cl ((X ++ [x]) ++ (pl ++ rows)) H := by
  rw [List.append_assoc (X ++ pl)] at hP
  have h := va_P.swap hP
  rw [← List.append_assoc X] at h
  have h2 := va_P.swap h
  rw [List.append_assoc (X ++ [x])] at h2
  exact h2
theorem vr_layD {X rows : va_W} {x : Nat × va_E} {pl : va_W} {A : Nat → Prop} (hD : va_D A (((X ++ pl) ++ [x]) ++ rows)) : va_D A ((X ++ [x]) ++ (pl ++ rows)) := by
  rw [List.append_assoc (X ++ pl)] at hD
  have h := va_D.swap hD
  rw [← List.append_assoc X] at h
  have h2 := va_D.swap h
  rw [List.append_assoc (X ++ [x])] at h2
  exact h2
theorem vr_outer (c : ClassId) (N h0 : Nat) : ∀ i : Nat, Jvm.Free.Multi.outerC c N h0 i = arrV c N (fun j => va_rf (if j < i then some (h0 + 1 + j) else none))
  | 0 => by
    show ({ cls := c, slots := Array.replicate N .null, vm := .none } : Cell) = _
    rw [arrV_new]
    refine congrArg (arrV c N) (funext fun j => ?_)
    simp [va_rf]
  | i + 1 => by
    show (Jvm.Free.Multi.outerC c N h0 i).setSlot i (.ref (h0 + 1 + i)) = _
    rw [vr_outer c N h0 i, arrV_store]
    refine congrArg (arrV c N) (funext fun j => ?_)
    by_cases e : j = i
    · subst e
      simp [updV, va_rf]
    · by_cases h : j < i
      · simp [updV, e, h, Nat.lt_succ_of_lt h]
      · simp [updV, e, h, show ¬ j < i + 1 by omega]
section VGM
variable {p : Program} {l : Launch} {e : Env} {R : Room} {s : State} {m : MethodId} {args : Array Value} {below : List Frame} {meth : Method} {c : Code} {H : Heap} {locs : List Loc} {cells slots : Nat} {Q : State → Prop}
variable {cc : ByteArray} {pc : Nat} {ls : Array Slot} {rest : List Value} {D : va_G} {cl : List vw_C} {A : Nat → Prop} {a : Nat} {tys : List (ClassId × FieldType)} {ws : va_W} {H0 : Heap}
theorem va_mna {X : va_W} {L : List Nat} {f : Nat → va_E} {cc : ByteArray} (hexec : p.tables.exec = Jvm.exec) (hb : c.code = cc) {own : String} {index : Nat} {ty : FieldType} {cy : ClassId} (hown : s.vm.findClass own = some m.cls) (hclink : (Cond.classLink own index ("[" ++ (FieldType.array ty).toString)).before args s = true) (hover : va_AOA ty s) (harr : (Cond.arrayClass ty).before args s = true) (hcy : s.vm.findClass (FieldType.array ty).toString = some cy)
    (hK : va_K D cl tys s) (hP : va_P D cl (X ++ va_pl L f) H) (hD : va_D A (X ++ va_pl L f)) (hS : va_S A H0 H locs) (hA : ∀ q, H0.size ≤ q → A q) {n k : Int32} {N' K' : Nat} {z : vp_A} (hn : ¬ n < 0) (hk : ¬ k < 0) (hN : n.toNatClampNeg = N') (hM : k.toNatClampNeg = K')
    (hb1 : N' * 4 ≤ 536870912) (hb2 : K' * componentBytes ty ≤ 536870912) (hb3 : K' ≤ 536870912) (hdf : fits ty (defaultValue ty) = true) (hdd : (defaultValue ty).isDefault = true) (hcells : cells + (1 + N') ≤ R.cells) (hslots : slots + (N' + N' * K') ≤ R.slots) (hz : ∀ c : ClassId, Jvm.Free.Multi.innerC c K' (defaultValue ty) = vp_cell c z) (hdg : decode cc pc = .ok (.multianewarray index 2, 4))
    (kk : ∀ (q : Nat) (r : Nat → Nat) (cA : ClassId) (H1 : Heap), (∀ i j : Nat, i < N' → j < N' → r i = r j → i = j) → (∀ i : Nat, i < N' → r i ∉ L) → va_K D cl (tys ++ [(cA, .array ty)]) s →
      va_P D cl ((X ++ [(q, .inl (cA, N', .inr (.inr (.inr (.inr (fun i => if i < N' then some (r i) else none))))))]) ++ va_pl (L ++ (List.range N').map r) (vr_up f ((List.range N').map r) (.inl (cy, z)))) H1 → va_D A ((X ++ [(q, .inl (cA, N', .inr (.inr (.inr (.inr (fun i => if i < N' then some (r i) else none))))))]) ++ va_pl (L ++ (List.range N').map r) (vr_up f ((List.range N').map r) (.inl (cy, z)))) → va_S A H0 H1 locs →
      W p l e R s m args below meth c H1 locs (cells + 1 + N') (slots + N' + N' * K') Q (F0 m (pc + 4) ls (.ref q :: rest))) : W p l e R s m args below meth c H locs cells slots Q (F0 m pc ls (.int k :: .int n :: rest)) := by
  subst hN
  subst hM
  intro T hT Xs
  obtain ⟨vm₁, cA, comp, -, fA, fC, hO, -, X', step⟩ := Xs.multianewarray2F hexec hown hclink (va_AOA.use hover) harr (g := F0 m pc ls (.int k :: .int n :: rest)) rfl (by rw [hb]; exact hdg) rfl hn hk hb1 hb2 hb3 hdf hdd hcells hslots
  have ec : some cy = some comp := hcy.symm.trans fC
  cases ec
  generalize hF : Jvm.Free.Multi.fill (T.setVm vm₁) cA cy n.toNatClampNeg k.toNatClampNeg (defaultValue ty) n.toNatClampNeg = F at X' step
  have hTh : (T.setVm vm₁).heap = H := hT
  obtain ⟨f1, f2, -, -⟩ := Jvm.Free.Multi.fill_facts (T.setVm vm₁) cA cy n.toNatClampNeg k.toNatClampNeg (defaultValue ty) n.toNatClampNeg
  rw [hF, hTh] at f1 f2
  have hold : ∀ x : Nat, x < H.size → F.heap[x]? = H[x]? := fun x hx => by
    have := Jvm.Free.Multi.fill_old (T.setVm vm₁) cA cy n.toNatClampNeg k.toNatClampNeg (defaultValue ty) (a := x) (by rw [hTh]; exact hx) n.toNatClampNeg
    rw [hF, hTh] at this
    exact this
  have hrow : ∀ j : Nat, j < n.toNatClampNeg → F.heap[H.size + 1 + j]? = some (vp_cell cy z) := fun j hj => by
    have := Jvm.Free.Multi.fill_inner (T.setVm vm₁) cA cy n.toNatClampNeg k.toNatClampNeg (defaultValue ty) n.toNatClampNeg j hj
    rw [hF, hTh, hz] at this
    exact this
  have hout : Jvm.Free.Multi.outerC cA n.toNatClampNeg H.size n.toNatClampNeg = vp_cell cA (n.toNatClampNeg, .inr (.inr (.inr (.inr (fun i => if i < n.toNatClampNeg then some (H.size + 1 + i) else none))))) := by
    rw [vp_cell_q]
    exact vr_outer cA n.toNatClampNeg H.size n.toNatClampNeg
  rw [hout] at f2
  have hlt : ∀ a, a ∈ L → a < H.size := fun a ha => by
    obtain ⟨k9, hk9⟩ := va_pl_get (X := X) (f := f) ha
    exact (hP k9 _ hk9).lt
  have hnl : ∀ i : Nat, i < n.toNatClampNeg → H.size + 1 + i ∉ L := fun i _ h => by
    have := hlt _ h
    omega
  have hnm : ∀ a, a ∈ (List.range n.toNatClampNeg).map (fun i => H.size + 1 + i) → a ∉ L := fun a ha h => by
    obtain ⟨i, -, rfl⟩ := List.mem_map.mp ha
    have := hlt _ h
    omega
  have hP0 : va_P D cl (X ++ va_pl L f) F.heap := hP.kept (fun k9 x hx => hold x.1 ((hP k9 x hx).lt))
  have hP1 : va_P D cl ((X ++ va_pl L f) ++ [(H.size, .inl (cA, n.toNatClampNeg, .inr (.inr (.inr (.inr (fun i => if i < n.toNatClampNeg then some (H.size + 1 + i) else none))))))]) F.heap := hP0.app (fun k9 x hx => by
    have h0 : k9 < 1 := (List.getElem?_eq_some_iff.mp hx).1
    rw [show k9 = 0 by omega] at hx
    cases hx
    exact f2)
  have hP2 : va_P D cl (((X ++ va_pl L f) ++ [(H.size, .inl (cA, n.toNatClampNeg, .inr (.inr (.inr (.inr (fun i => if i < n.toNatClampNeg then some (H.size + 1 + i) else none))))))]) ++ ((List.range n.toNatClampNeg).map (fun i => H.size + 1 + i)).map (fun a => (a, .inl (cy, z)))) F.heap := hP1.app (fun k9 x hx => by
    obtain ⟨a, ha, rfl⟩ := List.mem_map.mp (List.mem_of_getElem? hx)
    obtain ⟨i, hi, rfl⟩ := List.mem_map.mp ha
    exact hrow i (List.mem_range.mp hi))
  have hD2 : va_D A (((X ++ va_pl L f) ++ [(H.size, .inl (cA, n.toNatClampNeg, .inr (.inr (.inr (.inr (fun i => if i < n.toNatClampNeg then some (H.size + 1 + i) else none))))))]) ++ ((List.range n.toNatClampNeg).map (fun i => H.size + 1 + i)).map (fun a => (a, .inl (cy, z)))) := by
    have hD1 := hD.push (e := .inl (cA, n.toNatClampNeg, .inr (.inr (.inr (.inr (fun i => if i < n.toNatClampNeg then some (H.size + 1 + i) else none)))))) hP rfl (hA _ hS.1)
    generalize hW1 : (X ++ va_pl L f) ++ [(H.size, .inl (cA, n.toNatClampNeg, .inr (.inr (.inr (.inr (fun i => if i < n.toNatClampNeg then some (H.size + 1 + i) else none))))))] = W1 at hD1 hP1 ⊢
    have hle : ∀ (k9 : Nat) (x : Nat × va_E), W1[k9]? = some x → x.1 ≤ H.size := fun k9 x hx => by
      rw [← hW1] at hx
      by_cases hl : k9 < (X ++ va_pl L f).length
      · rw [List.getElem?_append_left hl] at hx
        exact Nat.le_of_lt ((hP k9 x hx).lt)
      · rw [List.getElem?_append_right (by omega)] at hx
        have h0 : k9 - (X ++ va_pl L f).length < 1 := (List.getElem?_eq_some_iff.mp hx).1
        rw [show k9 - (X ++ va_pl L f).length = 0 by omega] at hx
        cases hx
        exact Nat.le_refl _
    have hr : ∀ (k9 : Nat) (x : Nat × va_E), (((List.range n.toNatClampNeg).map (fun i => H.size + 1 + i)).map (fun a => ((a, .inl (cy, z)) : Nat × va_E)))[k9]? = some x → x.1 = H.size + 1 + k9 := fun k9 x hx => by
      rw [List.getElem?_map, List.getElem?_map] at hx
      by_cases h9 : k9 < n.toNatClampNeg
      · rw [List.getElem?_range h9] at hx
        cases hx
        rfl
      · have hn0 : (List.range n.toNatClampNeg)[k9]? = none := List.getElem?_eq_none (by rw [List.length_range]; omega)
        rw [hn0] at hx
        cases hx
    refine ⟨fun i j x y hi hj hxy => ?_, fun k9 x hx => ?_⟩
    · by_cases h1 : i < W1.length <;> by_cases h2 : j < W1.length
      · rw [List.getElem?_append_left h1] at hi
        rw [List.getElem?_append_left h2] at hj
        exact hD1.1 i j x y hi hj hxy
      · rw [List.getElem?_append_left h1] at hi
        rw [List.getElem?_append_right (by omega)] at hj
        have := hle _ _ hi
        have := hr _ _ hj
        omega
      · rw [List.getElem?_append_right (by omega)] at hi
        rw [List.getElem?_append_left h2] at hj
        have := hle _ _ hj
        have := hr _ _ hi
        omega
      · rw [List.getElem?_append_right (by omega)] at hi hj
        have := hr _ _ hi
        have := hr _ _ hj
        omega
    · by_cases h1 : k9 < W1.length
      · rw [List.getElem?_append_left h1] at hx
        exact hD1.2 k9 x hx
      · rw [List.getElem?_append_right (by omega)] at hx
        have := hr _ _ hx
        exact hA _ (by have := hS.1; omega)
  have hAr : ArrOfT s cA (.array ty) := fun N9 z9 => by
    obtain ⟨-, k9, hk9, cm9, hkk9⟩ := (hO 0 0 0).1
    exact ⟨(fun q hq => by cases hq), k9, hk9, cm9, hkk9⟩
  have hK2 : va_K D cl (tys ++ [(cA, .array ty)]) s := ⟨hK.1, fun k9 x hx => by
    by_cases hl : k9 < tys.length
    · rw [List.getElem?_append_left hl] at hx
      exact hK.2 k9 x hx
    · rw [List.getElem?_append_right (by omega)] at hx
      have h0 : k9 - tys.length < 1 := (List.getElem?_eq_some_iff.mp hx).1
      rw [show k9 - tys.length = 0 by omega] at hx
      cases hx
      exact ⟨hAr, fA⟩⟩
  obtain ⟨t, a1, b1⟩ := kk H.size (fun i => H.size + 1 + i) cA F.heap (fun i j _ _ h => by have h9 : H.size + 1 + i = H.size + 1 + j := h; omega) hnl hK2 (by rw [← vr_rows hnm]; exact vr_lay hP2) (by rw [← vr_rows hnm]; exact vr_layD hD2) ⟨by rw [f1]; have := hS.1; omega, fun x h1 h2 => (hold x (Nat.lt_of_lt_of_le h1 hS.1)).trans (hS.2.1 x h1 h2), hS.2.2⟩ F rfl X'
  refine ⟨t, step t ?_, b1⟩
  have e : T.heap.size = H.size := by rw [hT]
  rw [e]
  exact a1
end VGM
/-! ===== END ===== -/

def RX0 : String := "DyeLots$Draws"
def TX0 : u_T := fun k => match k with
  | 0 => ("DyeLots$Draws", "shades", "[I", true)
  | _ => ("DyeLots$Draws", "seed", "J", false)
def tyX0 : Nat → FieldType := fun k => match k with
  | 0 => .array .int
  | _ => .long
theorem nmX0 : ∀ a, a < 2 → ∀ b, b < 2 → a ≠ b → (TX0 a).2.1 ≠ (TX0 b).2.1 := by decide +kernel
theorem tyX0_ok : ∀ k, k < 2 → parseFieldDescriptor (TX0 k).2.2.1 = some (tyX0 k) := by decide +kernel
abbrev cX0_init : ByteArray := prog_2_method_1_code
def yX0_init : MethodName := ⟨RX0, "<init>", "()V"⟩
abbrev cX0_draw : ByteArray := prog_2_method_2_code
def yX0_draw : MethodName := ⟨RX0, "draw", "(I)I"⟩
abbrev cX0_seenInAYear : ByteArray := prog_2_method_3_code
def yX0_seenInAYear : MethodName := ⟨RX0, "seenInAYear", "(LDyeLots$Work;)I"⟩
def RX1 : String := "DyeLots$Guesses"
def TX1 : u_T := fun k => match k with
  | 0 => ("DyeLots$Guesses", "tones", "[I", true)
  | 1 => ("DyeLots$Guesses", "ahead", "[[I", true)
  | 2 => ("DyeLots$Guesses", "behind", "[[I", true)
  | 3 => ("DyeLots$Guesses", "makes", "I", false)
  | _ => ("DyeLots$Guesses", "partCount", "I", false)
def tyX1 : Nat → FieldType := fun k => match k with
  | 0 => .array .int
  | 1 => .array (.array .int)
  | 2 => .array (.array .int)
  | 3 => .int
  | _ => .int
theorem nmX1 : ∀ a, a < 5 → ∀ b, b < 5 → a ≠ b → (TX1 a).2.1 ≠ (TX1 b).2.1 := by decide +kernel
theorem tyX1_ok : ∀ k, k < 5 → parseFieldDescriptor (TX1 k).2.2.1 = some (tyX1 k) := by decide +kernel
abbrev cX1_init : ByteArray := prog_3_method_1_code
def yX1_init : MethodName := ⟨RX1, "<init>", "()V"⟩
abbrev cX1_study : ByteArray := prog_3_method_2_code
def yX1_study : MethodName := ⟨RX1, "study", "(LDyeLots$Work;)V"⟩
abbrev cX1_listMakes : ByteArray := prog_3_method_3_code
def yX1_listMakes : MethodName := ⟨RX1, "listMakes", "(LDyeLots$Work;)V"⟩
abbrev cX1_countAhead : ByteArray := prog_3_method_4_code
def yX1_countAhead : MethodName := ⟨RX1, "countAhead", "(LDyeLots$Work;I)V"⟩
abbrev cX1_countBehind : ByteArray := prog_3_method_5_code
def yX1_countBehind : MethodName := ⟨RX1, "countBehind", "(LDyeLots$Work;I)V"⟩
abbrev cX1_mayMeet : ByteArray := prog_3_method_6_code
def yX1_mayMeet : MethodName := ⟨RX1, "mayMeet", "(LDyeLots$Work;III)Z"⟩
abbrev cX1_ways : ByteArray := prog_3_method_7_code
def yX1_ways : MethodName := ⟨RX1, "ways", "()I"⟩
abbrev cX1_toneOf : ByteArray := prog_3_method_8_code
def yX1_toneOf : MethodName := ⟨RX1, "toneOf", "(I)I"⟩
def RX2 : String := "DyeLots$Lot"
def TX2 : u_T := fun k => match k with
  | 0 => ("DyeLots$Lot", "shade", "I", false)
  | 1 => ("DyeLots$Lot", "balls", "I", false)
  | _ => ("DyeLots$Lot", "loose", "I", false)
def tyX2 : Nat → FieldType := fun k => match k with
  | 0 => .int
  | 1 => .int
  | _ => .int
theorem nmX2 : ∀ a, a < 3 → ∀ b, b < 3 → a ≠ b → (TX2 a).2.1 ≠ (TX2 b).2.1 := by decide +kernel
theorem tyX2_ok : ∀ k, k < 3 → parseFieldDescriptor (TX2 k).2.2.1 = some (tyX2 k) := by decide +kernel
abbrev cX2_init : ByteArray := prog_4_method_1_code
def yX2_init : MethodName := ⟨RX2, "<init>", "()V"⟩
abbrev cX2_begin : ByteArray := prog_4_method_2_code
def yX2_begin : MethodName := ⟨RX2, "begin", "(I)V"⟩
abbrev cX2_copy : ByteArray := prog_4_method_3_code
def yX2_copy : MethodName := ⟨RX2, "copy", "(LDyeLots$Lot;)V"⟩
abbrev cX2_rows : ByteArray := prog_4_method_4_code
def yX2_rows : MethodName := ⟨RX2, "rows", "()I"⟩
abbrev cX2_take : ByteArray := prog_4_method_5_code
def yX2_take : MethodName := ⟨RX2, "take", "(I)V"⟩
abbrev cX2_loosen : ByteArray := prog_4_method_6_code
def yX2_loosen : MethodName := ⟨RX2, "loosen", "(I)I"⟩
abbrev cX2_tell : ByteArray := prog_4_method_7_code
def yX2_tell : MethodName := ⟨RX2, "tell", "(I)I"⟩
def RX3 : String := "DyeLots$Page"
def TX3 : u_T := fun k => match k with
  | 0 => ("DyeLots$Page", "codes", "[I", true)
  | _ => ("DyeLots$Page", "size", "I", false)
def tyX3 : Nat → FieldType := fun k => match k with
  | 0 => .array .int
  | _ => .int
theorem nmX3 : ∀ a, a < 2 → ∀ b, b < 2 → a ≠ b → (TX3 a).2.1 ≠ (TX3 b).2.1 := by decide +kernel
theorem tyX3_ok : ∀ k, k < 2 → parseFieldDescriptor (TX3 k).2.2.1 = some (tyX3 k) := by decide +kernel
abbrev cX3_init : ByteArray := prog_5_method_1_code
def yX3_init : MethodName := ⟨RX3, "<init>", "()V"⟩
abbrev cX3_put : ByteArray := prog_5_method_2_code
def yX3_put : MethodName := ⟨RX3, "put", "(I)V"⟩
abbrev cX3_firstFault : ByteArray := prog_5_method_3_code
def yX3_firstFault : MethodName := ⟨RX3, "firstFault", "()I"⟩
abbrev cX3_mayStand : ByteArray := prog_5_method_4_code
def yX3_mayStand : MethodName := ⟨RX3, "mayStand", "(III)Z"⟩
abbrev cX3_isWhole : ByteArray := prog_5_method_5_code
def yX3_isWhole : MethodName := ⟨RX3, "isWhole", "()Z"⟩
def RX4 : String := "DyeLots$Part"
def TX4 : u_T := fun k => match k with
  | 0 => ("DyeLots$Part", "kind", "I", false)
  | 1 => ("DyeLots$Part", "rows", "I", false)
  | 2 => ("DyeLots$Part", "first", "I", false)
  | 3 => ("DyeLots$Part", "second", "I", false)
  | 4 => ("DyeLots$Part", "tookFirst", "I", false)
  | 5 => ("DyeLots$Part", "tookSecond", "I", false)
  | 6 => ("DyeLots$Part", "isTold", "Z", false)
  | _ => ("DyeLots$Part", "foundNext", "I", false)
def tyX4 : Nat → FieldType := fun k => match k with
  | 0 => .int
  | 1 => .int
  | 2 => .int
  | 3 => .int
  | 4 => .int
  | 5 => .int
  | 6 => .boolean
  | _ => .int
theorem nmX4 : ∀ a, a < 8 → ∀ b, b < 8 → a ≠ b → (TX4 a).2.1 ≠ (TX4 b).2.1 := by decide +kernel
theorem tyX4_ok : ∀ k, k < 8 → parseFieldDescriptor (TX4 k).2.2.1 = some (tyX4 k) := by decide +kernel
abbrev cX4_init : ByteArray := prog_6_method_1_code
def yX4_init : MethodName := ⟨RX4, "<init>", "()V"⟩
abbrev cX4_begin : ByteArray := prog_6_method_2_code
def yX4_begin : MethodName := ⟨RX4, "begin", "(II)V"⟩
abbrev cX4_clear : ByteArray := prog_6_method_3_code
def yX4_clear : MethodName := ⟨RX4, "clear", "()V"⟩
abbrev cX4_copy : ByteArray := prog_6_method_4_code
def yX4_copy : MethodName := ⟨RX4, "copy", "(LDyeLots$Part;)V"⟩
abbrev cX4_isKnitted : ByteArray := prog_6_method_5_code
def yX4_isKnitted : MethodName := ⟨RX4, "isKnitted", "()Z"⟩
abbrev cX4_isMixed : ByteArray := prog_6_method_6_code
def yX4_isMixed : MethodName := ⟨RX4, "isMixed", "()Z"⟩
abbrev cX4_isOf : ByteArray := prog_6_method_7_code
def yX4_isOf : MethodName := ⟨RX4, "isOf", "(I)Z"⟩
abbrev cX4_light : ByteArray := prog_6_method_8_code
def yX4_light : MethodName := ⟨RX4, "light", "()I"⟩
def RX5 : String := "DyeLots$Planner"
def TX5 : u_T := fun k => match k with
  | 0 => ("DyeLots$Planner", "plan", "[I", true)
  | 1 => ("DyeLots$Planner", "best", "[I", true)
  | 2 => ("DyeLots$Planner", "tones", "[I", true)
  | 3 => ("DyeLots$Planner", "left", "[I", true)
  | 4 => ("DyeLots$Planner", "isFound", "Z", false)
  | _ => ("DyeLots$Planner", "leastSeen", "I", false)
def tyX5 : Nat → FieldType := fun k => match k with
  | 0 => .array .int
  | 1 => .array .int
  | 2 => .array .int
  | 3 => .array .int
  | 4 => .boolean
  | _ => .int
theorem nmX5 : ∀ a, a < 6 → ∀ b, b < 6 → a ≠ b → (TX5 a).2.1 ≠ (TX5 b).2.1 := by decide +kernel
theorem tyX5_ok : ∀ k, k < 6 → parseFieldDescriptor (TX5 k).2.2.1 = some (tyX5 k) := by decide +kernel
abbrev cX5_init : ByteArray := prog_7_method_1_code
def yX5_init : MethodName := ⟨RX5, "<init>", "()V"⟩
abbrev cX5_search : ByteArray := prog_7_method_2_code
def yX5_search : MethodName := ⟨RX5, "search", "(LDyeLots$Work;)V"⟩
abbrev cX5_choose : ByteArray := prog_7_method_3_code
def yX5_choose : MethodName := ⟨RX5, "choose", "(LDyeLots$Planner;LDyeLots$Work;II)V"⟩
abbrev cX5_chooseOf : ByteArray := prog_7_method_4_code
def yX5_chooseOf : MethodName := ⟨RX5, "chooseOf", "(LDyeLots$Planner;LDyeLots$Work;IIII)V"⟩
abbrev cX5_goOn : ByteArray := prog_7_method_5_code
def yX5_goOn : MethodName := ⟨RX5, "goOn", "(LDyeLots$Planner;LDyeLots$Work;III)V"⟩
abbrev cX5_keep : ByteArray := prog_7_method_6_code
def yX5_keep : MethodName := ⟨RX5, "keep", "(I)V"⟩
def RX6 : String := "DyeLots$Work"
def TX6 : u_T := fun k => match k with
  | 0 => ("DyeLots$Work", "parts", "[LDyeLots$Part;", true)
  | 1 => ("DyeLots$Work", "lots", "[LDyeLots$Lot;", true)
  | 2 => ("DyeLots$Work", "partCount", "I", false)
  | 3 => ("DyeLots$Work", "lotCount", "I", false)
  | _ => ("DyeLots$Work", "fade", "I", false)
def tyX6 : Nat → FieldType := fun k => match k with
  | 0 => .array (.object "DyeLots$Part")
  | 1 => .array (.object "DyeLots$Lot")
  | 2 => .int
  | 3 => .int
  | _ => .int
theorem nmX6 : ∀ a, a < 5 → ∀ b, b < 5 → a ≠ b → (TX6 a).2.1 ≠ (TX6 b).2.1 := by decide +kernel
theorem tyX6_ok : ∀ k, k < 5 → parseFieldDescriptor (TX6 k).2.2.1 = some (tyX6 k) := by decide +kernel
abbrev cX6_init : ByteArray := prog_8_method_1_code
def yX6_init : MethodName := ⟨RX6, "<init>", "()V"⟩
abbrev cX6_begin : ByteArray := prog_8_method_2_code
def yX6_begin : MethodName := ⟨RX6, "begin", "(LDyeLots$Page;)V"⟩
abbrev cX6_copy : ByteArray := prog_8_method_3_code
def yX6_copy : MethodName := ⟨RX6, "copy", "(LDyeLots$Work;)V"⟩
abbrev cX6_hasPart : ByteArray := prog_8_method_4_code
def yX6_hasPart : MethodName := ⟨RX6, "hasPart", "(I)Z"⟩
abbrev cX6_hasLot : ByteArray := prog_8_method_5_code
def yX6_hasLot : MethodName := ⟨RX6, "hasLot", "(I)Z"⟩
abbrev cX6_canMake : ByteArray := prog_8_method_6_code
def yX6_canMake : MethodName := ⟨RX6, "canMake", "(III)Z"⟩
abbrev cX6_make : ByteArray := prog_8_method_7_code
def yX6_make : MethodName := ⟨RX6, "make", "(III)V"⟩
abbrev cX6_unravel : ByteArray := prog_8_method_8_code
def yX6_unravel : MethodName := ⟨RX6, "unravel", "(I)I"⟩
abbrev cX6_tone : ByteArray := prog_8_method_9_code
def yX6_tone : MethodName := ⟨RX6, "tone", "(I)I"⟩
abbrev cX6_seenWith : ByteArray := prog_8_method_10_code
def yX6_seenWith : MethodName := ⟨RX6, "seenWith", "(III)I"⟩
abbrev cX6_seenNext : ByteArray := prog_8_method_11_code
def yX6_seenNext : MethodName := ⟨RX6, "seenNext", "(I)I"⟩
abbrev cX6_seenOfAll : ByteArray := prog_8_method_12_code
def yX6_seenOfAll : MethodName := ⟨RX6, "seenOfAll", "()I"⟩
abbrev cX6_knittedCount : ByteArray := prog_8_method_13_code
def yX6_knittedCount : MethodName := ⟨RX6, "knittedCount", "()I"⟩
abbrev cX6_foundCount : ByteArray := prog_8_method_14_code
def yX6_foundCount : MethodName := ⟨RX6, "foundCount", "()I"⟩
abbrev cX6_sumOfLots : ByteArray := prog_8_method_15_code
def yX6_sumOfLots : MethodName := ⟨RX6, "sumOfLots", "(I)I"⟩
abbrev cX6_ballsWanted : ByteArray := prog_8_method_16_code
def yX6_ballsWanted : MethodName := ⟨RX6, "ballsWanted", "(IZ)I"⟩
abbrev cX6_tellPart : ByteArray := prog_8_method_17_code
def yX6_tellPart : MethodName := ⟨RX6, "tellPart", "(II)I"⟩
abbrev cX6_tellAll : ByteArray := prog_8_method_18_code
def yX6_tellAll : MethodName := ⟨RX6, "tellAll", "(I)I"⟩
def RX7 : String := "DyeLots"
def TX7 : u_T := fun k => match k with
  | 0 => ("DyeLots", "page", "LDyeLots$Page;", true)
  | 1 => ("DyeLots", "work", "LDyeLots$Work;", true)
  | 2 => ("DyeLots", "kept", "LDyeLots$Work;", true)
  | 3 => ("DyeLots", "planner", "LDyeLots$Planner;", true)
  | 4 => ("DyeLots", "guesses", "LDyeLots$Guesses;", true)
  | 5 => ("DyeLots", "draws", "LDyeLots$Draws;", true)
  | 6 => ("DyeLots", "isKept", "Z", false)
  | 7 => ("DyeLots", "timesRead", "I", false)
  | _ => ("DyeLots", "timesPlanned", "I", false)
def tyX7 : Nat → FieldType := fun k => match k with
  | 0 => .object "DyeLots$Page"
  | 1 => .object "DyeLots$Work"
  | 2 => .object "DyeLots$Work"
  | 3 => .object "DyeLots$Planner"
  | 4 => .object "DyeLots$Guesses"
  | 5 => .object "DyeLots$Draws"
  | 6 => .boolean
  | 7 => .int
  | _ => .int
theorem nmX7 : ∀ a, a < 9 → ∀ b, b < 9 → a ≠ b → (TX7 a).2.1 ≠ (TX7 b).2.1 := by decide +kernel
theorem tyX7_ok : ∀ k, k < 9 → parseFieldDescriptor (TX7 k).2.2.1 = some (tyX7 k) := by decide +kernel
abbrev cX7_init : ByteArray := prog_1_method_1_code
def yX7_init : MethodName := ⟨RX7, "<init>", "()V"⟩
abbrev cX7_letter : ByteArray := prog_1_method_2_code
def yX7_letter : MethodName := ⟨RX7, "letter", "(I)I"⟩
abbrev cX7_blank : ByteArray := prog_1_method_3_code
def yX7_blank : MethodName := ⟨RX7, "blank", "()I"⟩
abbrev cX7_fault : ByteArray := prog_1_method_4_code
def yX7_fault : MethodName := ⟨RX7, "fault", "()I"⟩
abbrev cX7_garment : ByteArray := prog_1_method_5_code
def yX7_garment : MethodName := ⟨RX7, "garment", "()I"⟩
abbrev cX7_about : ByteArray := prog_1_method_6_code
def yX7_about : MethodName := ⟨RX7, "about", "(II)I"⟩
abbrev cX7_as : ByteArray := prog_1_method_7_code
def yX7_as : MethodName := ⟨RX7, "as", "(II)I"⟩
abbrev cX7_lot : ByteArray := prog_1_method_8_code
def yX7_lot : MethodName := ⟨RX7, "lot", "(I)I"⟩
abbrev cX7_lotOf : ByteArray := prog_1_method_9_code
def yX7_lotOf : MethodName := ⟨RX7, "lotOf", "(II)I"⟩
abbrev cX7_buy : ByteArray := prog_1_method_10_code
def yX7_buy : MethodName := ⟨RX7, "buy", "(II)I"⟩
abbrev cX7_back : ByteArray := prog_1_method_11_code
def yX7_back : MethodName := ⟨RX7, "back", "(II)I"⟩
abbrev cX7_knit : ByteArray := prog_1_method_12_code
def yX7_knit : MethodName := ⟨RX7, "knit", "(III)I"⟩
abbrev cX7_undo : ByteArray := prog_1_method_13_code
def yX7_undo : MethodName := ⟨RX7, "undo", "(I)I"⟩
abbrev cX7_gauge : ByteArray := prog_1_method_14_code
def yX7_gauge : MethodName := ⟨RX7, "gauge", "(II)I"⟩
abbrev cX7_wash : ByteArray := prog_1_method_15_code
def yX7_wash : MethodName := ⟨RX7, "wash", "()I"⟩
abbrev cX7_least : ByteArray := prog_1_method_16_code
def yX7_least : MethodName := ⟨RX7, "least", "(I)I"⟩
abbrev cX7_wanted : ByteArray := prog_1_method_17_code
def yX7_wanted : MethodName := ⟨RX7, "wanted", "(II)I"⟩
abbrev cX7_found : ByteArray := prog_1_method_18_code
def yX7_found : MethodName := ⟨RX7, "found", "(II)I"⟩
abbrev cX7_fits : ByteArray := prog_1_method_19_code
def yX7_fits : MethodName := ⟨RX7, "fits", "()I"⟩
abbrev cX7_sure : ByteArray := prog_1_method_20_code
def yX7_sure : MethodName := ⟨RX7, "sure", "(I)I"⟩
abbrev cX7_years : ByteArray := prog_1_method_21_code
def yX7_years : MethodName := ⟨RX7, "years", "(III)I"⟩
abbrev cX7_image : ByteArray := prog_1_method_22_code
def yX7_image : MethodName := ⟨RX7, "image", "()I"⟩
abbrev cX7_restore : ByteArray := prog_1_method_23_code
def yX7_restore : MethodName := ⟨RX7, "restore", "()I"⟩
abbrev cX7_count : ByteArray := prog_1_method_24_code
def yX7_count : MethodName := ⟨RX7, "count", "(I)I"⟩
abbrev cX7_digest : ByteArray := prog_1_method_25_code
def yX7_digest : MethodName := ⟨RX7, "digest", "()J"⟩
abbrev cX7_faded : ByteArray := prog_1_method_26_code
def yX7_faded : MethodName := ⟨RX7, "faded", "(II)I"⟩
abbrev cX7_rowsOfFirst : ByteArray := prog_1_method_27_code
def yX7_rowsOfFirst : MethodName := ⟨RX7, "rowsOfFirst", "(III)I"⟩
def RX8 : String := "DyeLotsModel"
def TX8 : u_T := fun k => match k with
  | 0 => ("DyeLotsModel", "garments", "I", false)
  | 1 => ("DyeLotsModel", "parts", "I", false)
  | 2 => ("DyeLotsModel", "fade", "I", false)
  | 3 => ("DyeLotsModel", "kindOf", "[I", true)
  | 4 => ("DyeLotsModel", "rowsOf", "[I", true)
  | 5 => ("DyeLotsModel", "oneOf", "[I", true)
  | 6 => ("DyeLotsModel", "twoOf", "[I", true)
  | 7 => ("DyeLotsModel", "tookOne", "[I", true)
  | 8 => ("DyeLotsModel", "tookTwo", "[I", true)
  | 9 => ("DyeLotsModel", "gaugeOf", "[I", true)
  | 10 => ("DyeLotsModel", "foundOf", "[I", true)
  | 11 => ("DyeLotsModel", "lots", "I", false)
  | 12 => ("DyeLotsModel", "shadeOf", "[I", true)
  | 13 => ("DyeLotsModel", "ballsOf", "[I", true)
  | 14 => ("DyeLotsModel", "looseOf", "[I", true)
  | 15 => ("DyeLotsModel", "asks", "I", false)
  | 16 => ("DyeLotsModel", "pageLength", "I", false)
  | 17 => ("DyeLotsModel", "page", "[B", true)
  | 18 => ("DyeLotsModel", "newMany", "I", false)
  | 19 => ("DyeLotsModel", "isWhole", "Z", false)
  | 20 => ("DyeLotsModel", "planTone", "[I", true)
  | 21 => ("DyeLotsModel", "planCode", "[I", true)
  | 22 => ("DyeLotsModel", "needs", "[I", true)
  | 23 => ("DyeLotsModel", "seedNow", "J", false)
  | 24 => ("DyeLotsModel", "drawnShade", "[I", true)
  | 25 => ("DyeLotsModel", "isKept", "Z", false)
  | 26 => ("DyeLotsModel", "keptGarment", "I", false)
  | 27 => ("DyeLotsModel", "keptLots", "I", false)
  | 28 => ("DyeLotsModel", "keptOne", "[I", true)
  | 29 => ("DyeLotsModel", "keptTwo", "[I", true)
  | 30 => ("DyeLotsModel", "keptTookOne", "[I", true)
  | 31 => ("DyeLotsModel", "keptTookTwo", "[I", true)
  | 32 => ("DyeLotsModel", "keptGauge", "[I", true)
  | 33 => ("DyeLotsModel", "keptFound", "[I", true)
  | 34 => ("DyeLotsModel", "keptShade", "[I", true)
  | 35 => ("DyeLotsModel", "keptBalls", "[I", true)
  | 36 => ("DyeLotsModel", "keptLoose", "[I", true)
  | _ => ("DyeLotsModel", "h", "J", false)
def tyX8 : Nat → FieldType := fun k => match k with
  | 0 => .int
  | 1 => .int
  | 2 => .int
  | 3 => .array .int
  | 4 => .array .int
  | 5 => .array .int
  | 6 => .array .int
  | 7 => .array .int
  | 8 => .array .int
  | 9 => .array .int
  | 10 => .array .int
  | 11 => .int
  | 12 => .array .int
  | 13 => .array .int
  | 14 => .array .int
  | 15 => .int
  | 16 => .int
  | 17 => .array .byte
  | 18 => .int
  | 19 => .boolean
  | 20 => .array .int
  | 21 => .array .int
  | 22 => .array .int
  | 23 => .long
  | 24 => .array .int
  | 25 => .boolean
  | 26 => .int
  | 27 => .int
  | 28 => .array .int
  | 29 => .array .int
  | 30 => .array .int
  | 31 => .array .int
  | 32 => .array .int
  | 33 => .array .int
  | 34 => .array .int
  | 35 => .array .int
  | 36 => .array .int
  | _ => .long
theorem nmX8 : ∀ a, a < 38 → ∀ b, b < 38 → a ≠ b → (TX8 a).2.1 ≠ (TX8 b).2.1 := by decide +kernel
theorem tyX8_ok : ∀ k, k < 38 → parseFieldDescriptor (TX8 k).2.2.1 = some (tyX8 k) := by decide +kernel
abbrev cX8_init : ByteArray := prog_10_method_1_code
def yX8_init : MethodName := ⟨RX8, "<init>", "()V"⟩
abbrev cX8_within : ByteArray := prog_10_method_3_code
def yX8_within : MethodName := ⟨RX8, "within", "(III)Z"⟩
abbrev cX8_letter : ByteArray := prog_10_method_4_code
def yX8_letter : MethodName := ⟨RX8, "letter", "(I)I"⟩
abbrev cX8_blank : ByteArray := prog_10_method_5_code
def yX8_blank : MethodName := ⟨RX8, "blank", "()I"⟩
abbrev cX8_kindBy : ByteArray := prog_10_method_6_code
def yX8_kindBy : MethodName := ⟨RX8, "kindBy", "(I)I"⟩
abbrev cX8_isFigure : ByteArray := prog_10_method_7_code
def yX8_isFigure : MethodName := ⟨RX8, "isFigure", "(III)Z"⟩
abbrev cX8_isSign : ByteArray := prog_10_method_8_code
def yX8_isSign : MethodName := ⟨RX8, "isSign", "(II)Z"⟩
abbrev cX8_read : ByteArray := prog_10_method_9_code
def yX8_read : MethodName := ⟨RX8, "read", "()I"⟩
abbrev cX8_readFade : ByteArray := prog_10_method_10_code
def yX8_readFade : MethodName := ⟨RX8, "readFade", "(I)I"⟩
abbrev cX8_fault : ByteArray := prog_10_method_11_code
def yX8_fault : MethodName := ⟨RX8, "fault", "()I"⟩
abbrev cX8_garment : ByteArray := prog_10_method_12_code
def yX8_garment : MethodName := ⟨RX8, "garment", "()I"⟩
abbrev cX8_clear : ByteArray := prog_10_method_13_code
def yX8_clear : MethodName := ⟨RX8, "clear", "(I)V"⟩
abbrev cX8_isPart : ByteArray := prog_10_method_14_code
def yX8_isPart : MethodName := ⟨RX8, "isPart", "(I)Z"⟩
abbrev cX8_isLot : ByteArray := prog_10_method_15_code
def yX8_isLot : MethodName := ⟨RX8, "isLot", "(I)Z"⟩
abbrev cX8_lightOf : ByteArray := prog_10_method_16_code
def yX8_lightOf : MethodName := ⟨RX8, "lightOf", "(I)I"⟩
abbrev cX8_toneOf : ByteArray := prog_10_method_17_code
def yX8_toneOf : MethodName := ⟨RX8, "toneOf", "(I)I"⟩
abbrev cX8_seenBy : ByteArray := prog_10_method_18_code
def yX8_seenBy : MethodName := ⟨RX8, "seenBy", "(III)I"⟩
abbrev cX8_seenAt : ByteArray := prog_10_method_19_code
def yX8_seenAt : MethodName := ⟨RX8, "seenAt", "(I)I"⟩
abbrev cX8_seenAll : ByteArray := prog_10_method_20_code
def yX8_seenAll : MethodName := ⟨RX8, "seenAll", "()I"⟩
abbrev cX8_partNow : ByteArray := prog_10_method_21_code
def yX8_partNow : MethodName := ⟨RX8, "partNow", "(II)I"⟩
abbrev cX8_about : ByteArray := prog_10_method_22_code
def yX8_about : MethodName := ⟨RX8, "about", "(II)I"⟩
abbrev cX8_as : ByteArray := prog_10_method_23_code
def yX8_as : MethodName := ⟨RX8, "as", "(II)I"⟩
abbrev cX8_lot : ByteArray := prog_10_method_24_code
def yX8_lot : MethodName := ⟨RX8, "lot", "(I)I"⟩
abbrev cX8_lotNow : ByteArray := prog_10_method_25_code
def yX8_lotNow : MethodName := ⟨RX8, "lotNow", "(II)I"⟩
abbrev cX8_lotOf : ByteArray := prog_10_method_26_code
def yX8_lotOf : MethodName := ⟨RX8, "lotOf", "(II)I"⟩
abbrev cX8_buy : ByteArray := prog_10_method_27_code
def yX8_buy : MethodName := ⟨RX8, "buy", "(II)I"⟩
abbrev cX8_back : ByteArray := prog_10_method_28_code
def yX8_back : MethodName := ⟨RX8, "back", "(II)I"⟩
abbrev cX8_rowsIn : ByteArray := prog_10_method_29_code
def yX8_rowsIn : MethodName := ⟨RX8, "rowsIn", "(I)I"⟩
abbrev cX8_take : ByteArray := prog_10_method_30_code
def yX8_take : MethodName := ⟨RX8, "take", "(II)V"⟩
abbrev cX8_firstHalf : ByteArray := prog_10_method_31_code
def yX8_firstHalf : MethodName := ⟨RX8, "firstHalf", "(I)I"⟩
abbrev cX8_knit : ByteArray := prog_10_method_32_code
def yX8_knit : MethodName := ⟨RX8, "knit", "(III)I"⟩
abbrev cX8_comeBack : ByteArray := prog_10_method_33_code
def yX8_comeBack : MethodName := ⟨RX8, "comeBack", "(II)I"⟩
abbrev cX8_undo : ByteArray := prog_10_method_34_code
def yX8_undo : MethodName := ⟨RX8, "undo", "(I)I"⟩
abbrev cX8_gauge : ByteArray := prog_10_method_35_code
def yX8_gauge : MethodName := ⟨RX8, "gauge", "(II)I"⟩
abbrev cX8_washed : ByteArray := prog_10_method_36_code
def yX8_washed : MethodName := ⟨RX8, "washed", "(I)I"⟩
abbrev cX8_wash : ByteArray := prog_10_method_37_code
def yX8_wash : MethodName := ⟨RX8, "wash", "()I"⟩
abbrev cX8_openParts : ByteArray := prog_10_method_38_code
def yX8_openParts : MethodName := ⟨RX8, "openParts", "()I"⟩
abbrev cX8_plans : ByteArray := prog_10_method_39_code
def yX8_plans : MethodName := ⟨RX8, "plans", "()I"⟩
abbrev cX8_layPlan : ByteArray := prog_10_method_40_code
def yX8_layPlan : MethodName := ⟨RX8, "layPlan", "(I)Z"⟩
abbrev cX8_planSeen : ByteArray := prog_10_method_41_code
def yX8_planSeen : MethodName := ⟨RX8, "planSeen", "()I"⟩
abbrev cX8_leastNow : ByteArray := prog_10_method_42_code
def yX8_leastNow : MethodName := ⟨RX8, "leastNow", "(I)I"⟩
abbrev cX8_least : ByteArray := prog_10_method_43_code
def yX8_least : MethodName := ⟨RX8, "least", "(I)I"⟩
abbrev cX8_wantedNow : ByteArray := prog_10_method_44_code
def yX8_wantedNow : MethodName := ⟨RX8, "wantedNow", "(II)I"⟩
abbrev cX8_wanted : ByteArray := prog_10_method_45_code
def yX8_wanted : MethodName := ⟨RX8, "wanted", "(II)I"⟩
abbrev cX8_found : ByteArray := prog_10_method_46_code
def yX8_found : MethodName := ⟨RX8, "found", "(II)I"⟩
abbrev cX8_sorts : ByteArray := prog_10_method_47_code
def yX8_sorts : MethodName := ⟨RX8, "sorts", "()I"⟩
abbrev cX8_sortTone : ByteArray := prog_10_method_48_code
def yX8_sortTone : MethodName := ⟨RX8, "sortTone", "(I)I"⟩
abbrev cX8_waysMany : ByteArray := prog_10_method_49_code
def yX8_waysMany : MethodName := ⟨RX8, "waysMany", "()I"⟩
abbrev cX8_couldBe : ByteArray := prog_10_method_50_code
def yX8_couldBe : MethodName := ⟨RX8, "couldBe", "(I)Z"⟩
abbrev cX8_fitsNow : ByteArray := prog_10_method_51_code
def yX8_fitsNow : MethodName := ⟨RX8, "fitsNow", "()I"⟩
abbrev cX8_fits : ByteArray := prog_10_method_52_code
def yX8_fits : MethodName := ⟨RX8, "fits", "()I"⟩
abbrev cX8_sureNow : ByteArray := prog_10_method_53_code
def yX8_sureNow : MethodName := ⟨RX8, "sureNow", "(I)I"⟩
abbrev cX8_sure : ByteArray := prog_10_method_54_code
def yX8_sure : MethodName := ⟨RX8, "sure", "(I)I"⟩
abbrev cX8_draw : ByteArray := prog_10_method_55_code
def yX8_draw : MethodName := ⟨RX8, "draw", "(I)I"⟩
abbrev cX8_goYear : ByteArray := prog_10_method_56_code
def yX8_goYear : MethodName := ⟨RX8, "goYear", "()I"⟩
abbrev cX8_yearsNow : ByteArray := prog_10_method_57_code
def yX8_yearsNow : MethodName := ⟨RX8, "yearsNow", "(III)I"⟩
abbrev cX8_years : ByteArray := prog_10_method_58_code
def yX8_years : MethodName := ⟨RX8, "years", "(III)I"⟩
abbrev cX8_image : ByteArray := prog_10_method_59_code
def yX8_image : MethodName := ⟨RX8, "image", "()I"⟩
abbrev cX8_restore : ByteArray := prog_10_method_60_code
def yX8_restore : MethodName := ⟨RX8, "restore", "()I"⟩
abbrev cX8_sum : ByteArray := prog_10_method_61_code
def yX8_sum : MethodName := ⟨RX8, "sum", "(I)I"⟩
abbrev cX8_foundMany : ByteArray := prog_10_method_62_code
def yX8_foundMany : MethodName := ⟨RX8, "foundMany", "()I"⟩
abbrev cX8_howMany : ByteArray := prog_10_method_63_code
def yX8_howMany : MethodName := ⟨RX8, "howMany", "(I)I"⟩
abbrev cX8_count : ByteArray := prog_10_method_64_code
def yX8_count : MethodName := ⟨RX8, "count", "(I)I"⟩
abbrev cX8_mix : ByteArray := prog_10_method_65_code
def yX8_mix : MethodName := ⟨RX8, "mix", "(J)V"⟩
abbrev cX8_digest : ByteArray := prog_10_method_66_code
def yX8_digest : MethodName := ⟨RX8, "digest", "()J"⟩
def RJ11 : String := "java/lang/Character"
def TJ11 : u_T := fun k => match k with
  | _ => ("", "", "", false)
def tyJ11 : Nat → FieldType := fun k => match k with
  | _ => .int
abbrev cJ11_isValidCodePoint_9a6ad : ByteArray := prog_11_method_11_code
def yJ11_isValidCodePoint_9a6ad : MethodName := ⟨RJ11, "isValidCodePoint", "(I)Z"⟩
abbrev cJ11_highSurrogate_5068e : ByteArray := prog_11_method_28_code
def yJ11_highSurrogate_5068e : MethodName := ⟨RJ11, "highSurrogate", "(I)C"⟩
abbrev cJ11_lowSurrogate_5068e : ByteArray := prog_11_method_29_code
def yJ11_lowSurrogate_5068e : MethodName := ⟨RJ11, "lowSurrogate", "(I)C"⟩
def RJ9 : String := "java/lang/Math"
def TJ9 : u_T := fun k => match k with
  | _ => ("", "", "", false)
def tyJ9 : Nat → FieldType := fun k => match k with
  | _ => .int
abbrev cJ9_abs_0f7a4 : ByteArray := prog_12_method_59_code
def yJ9_abs_0f7a4 : MethodName := ⟨RJ9, "abs", "(I)I"⟩
abbrev cJ9_max_7cf53 : ByteArray := prog_12_method_65_code
def yJ9_max_7cf53 : MethodName := ⟨RJ9, "max", "(II)I"⟩
abbrev cJ9_min_7cf53 : ByteArray := prog_12_method_69_code
def yJ9_min_7cf53 : MethodName := ⟨RJ9, "min", "(II)I"⟩
def RJ0 : String := "java/lang/String"
def TJ0 : u_T := fun k => match k with
  | _ => ("", "", "", false)
def tyJ0 : Nat → FieldType := fun k => match k with
  | _ => .int
abbrev cJ0_length_8abf5 : ByteArray := prog_13_method_54_code
def yJ0_length_8abf5 : MethodName := ⟨RJ0, "length", "()I"⟩
abbrev cJ0_indexOf_0f7a4 : ByteArray := prog_13_method_79_code
def yJ0_indexOf_0f7a4 : MethodName := ⟨RJ0, "indexOf", "(I)I"⟩
abbrev cJ0_indexOf_7cf53 : ByteArray := prog_13_method_80_code
def yJ0_indexOf_7cf53 : MethodName := ⟨RJ0, "indexOf", "(II)I"⟩
abbrev cJ0_coder_7d493 : ByteArray := prog_13_method_152_code
def yJ0_coder_7d493 : MethodName := ⟨RJ0, "coder", "()B"⟩
abbrev cJ0_isLatin1_aae02 : ByteArray := prog_13_method_154_code
def yJ0_isLatin1_aae02 : MethodName := ⟨RJ0, "isLatin1", "()Z"⟩
abbrev cJ0_checkBoundsBeginEnd_23922 : ByteArray := prog_13_method_158_code
def yJ0_checkBoundsBeginEnd_23922 : MethodName := ⟨RJ0, "checkBoundsBeginEnd", "(III)V"⟩
def RJ1 : String := "java/lang/StringLatin1"
def TJ1 : u_T := fun k => match k with
  | _ => ("", "", "", false)
def tyJ1 : Nat → FieldType := fun k => match k with
  | _ => .int
abbrev cJ1_canEncode_9a6ad : ByteArray := prog_14_method_4_code
def yJ1_canEncode_9a6ad : MethodName := ⟨RJ1, "canEncode", "(I)Z"⟩
abbrev cJ1_indexOf_4cfef : ByteArray := prog_14_method_22_code
def yJ1_indexOf_4cfef : MethodName := ⟨RJ1, "indexOf", "([BIII)I"⟩
abbrev cJ1_indexOfChar_4cfef : ByteArray := prog_14_method_23_code
def yJ1_indexOfChar_4cfef : MethodName := ⟨RJ1, "indexOfChar", "([BIII)I"⟩
def RJ2 : String := "java/lang/StringUTF16"
def TJ2 : u_T := fun k => match k with
  | _ => ("", "", "", false)
def tyJ2 : Nat → FieldType := fun k => match k with
  | _ => .int
abbrev cJ2_getChar_3b067 : ByteArray := prog_15_method_5_code
def yJ2_getChar_3b067 : MethodName := ⟨RJ2, "getChar", "([BI)C"⟩
abbrev cJ2_length_9d52b : ByteArray := prog_15_method_6_code
def yJ2_length_9d52b : MethodName := ⟨RJ2, "length", "([B)I"⟩
abbrev cJ2_indexOf_4cfef : ByteArray := prog_15_method_40_code
def yJ2_indexOf_4cfef : MethodName := ⟨RJ2, "indexOf", "([BIII)I"⟩
abbrev cJ2_indexOfChar_4cfef : ByteArray := prog_15_method_47_code
def yJ2_indexOfChar_4cfef : MethodName := ⟨RJ2, "indexOfChar", "([BIII)I"⟩
abbrev cJ2_indexOfCharUnsafe_4cfef : ByteArray := prog_15_method_48_code
def yJ2_indexOfCharUnsafe_4cfef : MethodName := ⟨RJ2, "indexOfCharUnsafe", "([BIII)I"⟩
abbrev cJ2_indexOfSupplementary_4cfef : ByteArray := prog_15_method_49_code
def yJ2_indexOfSupplementary_4cfef : MethodName := ⟨RJ2, "indexOfSupplementary", "([BIII)I"⟩
abbrev cJ2_checkBoundsBeginEnd_d044e : ByteArray := prog_15_method_93_code
def yJ2_checkBoundsBeginEnd_d044e : MethodName := ⟨RJ2, "checkBoundsBeginEnd", "(II[B)V"⟩
def RJ10 : String := "java/lang/System"
def TJ10 : u_T := fun k => match k with
  | _ => ("", "", "", false)
def tyJ10 : Nat → FieldType := fun k => match k with
  | _ => .int
def RJ3 : String := "jdk/internal/util/Preconditions"
def TJ3 : u_T := fun k => match k with
  | _ => ("", "", "", false)
def tyJ3 : Nat → FieldType := fun k => match k with
  | _ => .int
abbrev cJ3_checkFromToIndex_8c36e : ByteArray := prog_17_method_12_code
def yJ3_checkFromToIndex_8c36e : MethodName := ⟨RJ3, "checkFromToIndex", "(IIILjava/util/function/BiFunction;)I"⟩
def RL : String := "DyeLotsLaw"
abbrev cL_law : ByteArray := code
abbrev vwCl : List vw_C := [(RX0, TX0, 2), (RX1, TX1, 5), (RX2, TX2, 3), (RX3, TX3, 2), (RX4, TX4, 8), (RX5, TX5, 6), (RX6, TX6, 5), (RX7, TX7, 9), (RX8, TX8, 38)]
end
section
theorem dJ0_length_8abf5_0 : decode cJ0_length_8abf5 0 = .ok (.aload_n 0, 1) := by decide +kernel
theorem dJ0_length_8abf5_1 : decode cJ0_length_8abf5 1 = .ok (.getfield 9, 3) := by decide +kernel
theorem dJ0_length_8abf5_4 : decode cJ0_length_8abf5 4 = .ok (.arraylength, 1) := by decide +kernel
theorem dJ0_length_8abf5_5 : decode cJ0_length_8abf5 5 = .ok (.aload_n 0, 1) := by decide +kernel
theorem dJ0_length_8abf5_6 : decode cJ0_length_8abf5 6 = .ok (.invokevirtual 335, 3) := by decide +kernel
theorem dJ0_length_8abf5_9 : decode cJ0_length_8abf5 9 = .ok (.ishr, 1) := by decide +kernel
theorem dJ0_length_8abf5_10 : decode cJ0_length_8abf5 10 = .ok (.ireturn, 1) := by decide +kernel
theorem dJ0_indexOf_0f7a4_0 : decode cJ0_indexOf_0f7a4 0 = .ok (.aload_n 0, 1) := by decide +kernel
theorem dJ0_indexOf_0f7a4_1 : decode cJ0_indexOf_0f7a4 1 = .ok (.iload_n 1, 1) := by decide +kernel
theorem dJ0_indexOf_0f7a4_2 : decode cJ0_indexOf_0f7a4 2 = .ok (.iconst 0, 1) := by decide +kernel
theorem dJ0_indexOf_0f7a4_3 : decode cJ0_indexOf_0f7a4 3 = .ok (.invokevirtual 633, 3) := by decide +kernel
theorem dJ0_indexOf_0f7a4_6 : decode cJ0_indexOf_0f7a4 6 = .ok (.ireturn, 1) := by decide +kernel
theorem dJ0_indexOf_7cf53_0 : decode cJ0_indexOf_7cf53 0 = .ok (.aload_n 0, 1) := by decide +kernel
theorem dJ0_indexOf_7cf53_1 : decode cJ0_indexOf_7cf53 1 = .ok (.invokevirtual 492, 3) := by decide +kernel
theorem dJ0_indexOf_7cf53_4 : decode cJ0_indexOf_7cf53 4 = .ok (.ifCond .eq 19, 3) := by decide +kernel
theorem dJ0_indexOf_7cf53_7 : decode cJ0_indexOf_7cf53 7 = .ok (.aload_n 0, 1) := by decide +kernel
theorem dJ0_indexOf_7cf53_8 : decode cJ0_indexOf_7cf53 8 = .ok (.getfield 9, 3) := by decide +kernel
theorem dJ0_indexOf_7cf53_11 : decode cJ0_indexOf_7cf53 11 = .ok (.iload_n 1, 1) := by decide +kernel
theorem dJ0_indexOf_7cf53_12 : decode cJ0_indexOf_7cf53 12 = .ok (.iload_n 2, 1) := by decide +kernel
theorem dJ0_indexOf_7cf53_13 : decode cJ0_indexOf_7cf53 13 = .ok (.aload_n 0, 1) := by decide +kernel
theorem dJ0_indexOf_7cf53_14 : decode cJ0_indexOf_7cf53 14 = .ok (.invokevirtual 505, 3) := by decide +kernel
theorem dJ0_indexOf_7cf53_17 : decode cJ0_indexOf_7cf53 17 = .ok (.invokestatic 637, 3) := by decide +kernel
theorem dJ0_indexOf_7cf53_20 : decode cJ0_indexOf_7cf53 20 = .ok (.goto 16, 3) := by decide +kernel
theorem dJ0_indexOf_7cf53_23 : decode cJ0_indexOf_7cf53 23 = .ok (.aload_n 0, 1) := by decide +kernel
theorem dJ0_indexOf_7cf53_24 : decode cJ0_indexOf_7cf53 24 = .ok (.getfield 9, 3) := by decide +kernel
theorem dJ0_indexOf_7cf53_27 : decode cJ0_indexOf_7cf53 27 = .ok (.iload_n 1, 1) := by decide +kernel
theorem dJ0_indexOf_7cf53_28 : decode cJ0_indexOf_7cf53 28 = .ok (.iload_n 2, 1) := by decide +kernel
theorem dJ0_indexOf_7cf53_29 : decode cJ0_indexOf_7cf53 29 = .ok (.aload_n 0, 1) := by decide +kernel
theorem dJ0_indexOf_7cf53_30 : decode cJ0_indexOf_7cf53 30 = .ok (.invokevirtual 505, 3) := by decide +kernel
theorem dJ0_indexOf_7cf53_33 : decode cJ0_indexOf_7cf53 33 = .ok (.invokestatic 640, 3) := by decide +kernel
theorem dJ0_indexOf_7cf53_36 : decode cJ0_indexOf_7cf53 36 = .ok (.ireturn, 1) := by decide +kernel
theorem dJ0_coder_7d493_0 : decode cJ0_coder_7d493 0 = .ok (.getstatic 38, 3) := by decide +kernel
theorem dJ0_coder_7d493_3 : decode cJ0_coder_7d493 3 = .ok (.ifCond .eq 10, 3) := by decide +kernel
theorem dJ0_coder_7d493_6 : decode cJ0_coder_7d493 6 = .ok (.aload_n 0, 1) := by decide +kernel
theorem dJ0_coder_7d493_7 : decode cJ0_coder_7d493 7 = .ok (.getfield 15, 3) := by decide +kernel
theorem dJ0_coder_7d493_10 : decode cJ0_coder_7d493 10 = .ok (.goto 4, 3) := by decide +kernel
theorem dJ0_coder_7d493_13 : decode cJ0_coder_7d493 13 = .ok (.iconst 1, 1) := by decide +kernel
theorem dJ0_coder_7d493_14 : decode cJ0_coder_7d493 14 = .ok (.ireturn, 1) := by decide +kernel
theorem dJ0_isLatin1_aae02_0 : decode cJ0_isLatin1_aae02 0 = .ok (.getstatic 38, 3) := by decide +kernel
theorem dJ0_isLatin1_aae02_3 : decode cJ0_isLatin1_aae02 3 = .ok (.ifCond .eq 14, 3) := by decide +kernel
theorem dJ0_isLatin1_aae02_6 : decode cJ0_isLatin1_aae02 6 = .ok (.aload_n 0, 1) := by decide +kernel
theorem dJ0_isLatin1_aae02_7 : decode cJ0_isLatin1_aae02 7 = .ok (.getfield 15, 3) := by decide +kernel
theorem dJ0_isLatin1_aae02_10 : decode cJ0_isLatin1_aae02 10 = .ok (.ifCond .ne 7, 3) := by decide +kernel
theorem dJ0_isLatin1_aae02_13 : decode cJ0_isLatin1_aae02 13 = .ok (.iconst 1, 1) := by decide +kernel
theorem dJ0_isLatin1_aae02_14 : decode cJ0_isLatin1_aae02 14 = .ok (.goto 4, 3) := by decide +kernel
theorem dJ0_isLatin1_aae02_17 : decode cJ0_isLatin1_aae02 17 = .ok (.iconst 0, 1) := by decide +kernel
theorem dJ0_isLatin1_aae02_18 : decode cJ0_isLatin1_aae02 18 = .ok (.ireturn, 1) := by decide +kernel
theorem dJ1_canEncode_9a6ad_0 : decode cJ1_canEncode_9a6ad 0 = .ok (.iload_n 0, 1) := by decide +kernel
theorem dJ1_canEncode_9a6ad_1 : decode cJ1_canEncode_9a6ad 1 = .ok (.ifCond .lt 14, 3) := by decide +kernel
theorem dJ1_canEncode_9a6ad_4 : decode cJ1_canEncode_9a6ad 4 = .ok (.iload_n 0, 1) := by decide +kernel
theorem dJ1_canEncode_9a6ad_5 : decode cJ1_canEncode_9a6ad 5 = .ok (.sipush 255, 3) := by decide +kernel
theorem dJ1_canEncode_9a6ad_8 : decode cJ1_canEncode_9a6ad 8 = .ok (.if_icmp .gt 7, 3) := by decide +kernel
theorem dJ1_canEncode_9a6ad_11 : decode cJ1_canEncode_9a6ad 11 = .ok (.iconst 1, 1) := by decide +kernel
theorem dJ1_canEncode_9a6ad_12 : decode cJ1_canEncode_9a6ad 12 = .ok (.goto 4, 3) := by decide +kernel
theorem dJ1_canEncode_9a6ad_15 : decode cJ1_canEncode_9a6ad 15 = .ok (.iconst 0, 1) := by decide +kernel
theorem dJ1_canEncode_9a6ad_16 : decode cJ1_canEncode_9a6ad 16 = .ok (.ireturn, 1) := by decide +kernel
theorem dJ1_indexOf_4cfef_0 : decode cJ1_indexOf_4cfef 0 = .ok (.iload_n 1, 1) := by decide +kernel
theorem dJ1_indexOf_4cfef_1 : decode cJ1_indexOf_4cfef 1 = .ok (.invokestatic 88, 3) := by decide +kernel
theorem dJ1_indexOf_4cfef_4 : decode cJ1_indexOf_4cfef 4 = .ok (.ifCond .ne 5, 3) := by decide +kernel
theorem dJ1_indexOf_4cfef_7 : decode cJ1_indexOf_4cfef 7 = .ok (.iconst (-1), 1) := by decide +kernel
theorem dJ1_indexOf_4cfef_8 : decode cJ1_indexOf_4cfef 8 = .ok (.ireturn, 1) := by decide +kernel
theorem dJ1_indexOf_4cfef_9 : decode cJ1_indexOf_4cfef 9 = .ok (.iload_n 2, 1) := by decide +kernel
theorem dJ1_indexOf_4cfef_10 : decode cJ1_indexOf_4cfef 10 = .ok (.iconst 0, 1) := by decide +kernel
theorem dJ1_indexOf_4cfef_11 : decode cJ1_indexOf_4cfef 11 = .ok (.invokestatic 92, 3) := by decide +kernel
theorem dJ1_indexOf_4cfef_14 : decode cJ1_indexOf_4cfef 14 = .ok (.istore_n 2, 1) := by decide +kernel
theorem dJ1_indexOf_4cfef_15 : decode cJ1_indexOf_4cfef 15 = .ok (.iload_n 3, 1) := by decide +kernel
theorem dJ1_indexOf_4cfef_16 : decode cJ1_indexOf_4cfef 16 = .ok (.aload_n 0, 1) := by decide +kernel
theorem dJ1_indexOf_4cfef_17 : decode cJ1_indexOf_4cfef 17 = .ok (.arraylength, 1) := by decide +kernel
theorem dJ1_indexOf_4cfef_18 : decode cJ1_indexOf_4cfef 18 = .ok (.invokestatic 38, 3) := by decide +kernel
theorem dJ1_indexOf_4cfef_21 : decode cJ1_indexOf_4cfef 21 = .ok (.istore_n 3, 1) := by decide +kernel
theorem dJ1_indexOf_4cfef_22 : decode cJ1_indexOf_4cfef 22 = .ok (.iload_n 2, 1) := by decide +kernel
theorem dJ1_indexOf_4cfef_23 : decode cJ1_indexOf_4cfef 23 = .ok (.iload_n 3, 1) := by decide +kernel
theorem dJ1_indexOf_4cfef_24 : decode cJ1_indexOf_4cfef 24 = .ok (.if_icmp .lt 5, 3) := by decide +kernel
theorem dJ1_indexOf_4cfef_27 : decode cJ1_indexOf_4cfef 27 = .ok (.iconst (-1), 1) := by decide +kernel
theorem dJ1_indexOf_4cfef_28 : decode cJ1_indexOf_4cfef 28 = .ok (.ireturn, 1) := by decide +kernel
theorem dJ1_indexOf_4cfef_29 : decode cJ1_indexOf_4cfef 29 = .ok (.aload_n 0, 1) := by decide +kernel
theorem dJ1_indexOf_4cfef_30 : decode cJ1_indexOf_4cfef 30 = .ok (.iload_n 1, 1) := by decide +kernel
theorem dJ1_indexOf_4cfef_31 : decode cJ1_indexOf_4cfef 31 = .ok (.iload_n 2, 1) := by decide +kernel
theorem dJ1_indexOf_4cfef_32 : decode cJ1_indexOf_4cfef 32 = .ok (.iload_n 3, 1) := by decide +kernel
theorem dJ1_indexOf_4cfef_33 : decode cJ1_indexOf_4cfef 33 = .ok (.invokestatic 95, 3) := by decide +kernel
theorem dJ1_indexOf_4cfef_36 : decode cJ1_indexOf_4cfef 36 = .ok (.ireturn, 1) := by decide +kernel
theorem dJ1_indexOfChar_4cfef_0 : decode cJ1_indexOfChar_4cfef 0 = .ok (.iload_n 1, 1) := by decide +kernel
theorem dJ1_indexOfChar_4cfef_1 : decode cJ1_indexOfChar_4cfef 1 = .ok (.i2b, 1) := by decide +kernel
theorem dJ1_indexOfChar_4cfef_2 : decode cJ1_indexOfChar_4cfef 2 = .ok (.istore 4, 2) := by decide +kernel
theorem dJ1_indexOfChar_4cfef_4 : decode cJ1_indexOfChar_4cfef 4 = .ok (.iload_n 2, 1) := by decide +kernel
theorem dJ1_indexOfChar_4cfef_5 : decode cJ1_indexOfChar_4cfef 5 = .ok (.istore 5, 2) := by decide +kernel
theorem dJ1_indexOfChar_4cfef_7 : decode cJ1_indexOfChar_4cfef 7 = .ok (.iload 5, 2) := by decide +kernel
theorem dJ1_indexOfChar_4cfef_9 : decode cJ1_indexOfChar_4cfef 9 = .ok (.iload_n 3, 1) := by decide +kernel
theorem dJ1_indexOfChar_4cfef_10 : decode cJ1_indexOfChar_4cfef 10 = .ok (.if_icmp .ge 21, 3) := by decide +kernel
theorem dJ1_indexOfChar_4cfef_13 : decode cJ1_indexOfChar_4cfef 13 = .ok (.aload_n 0, 1) := by decide +kernel
theorem dJ1_indexOfChar_4cfef_14 : decode cJ1_indexOfChar_4cfef 14 = .ok (.iload 5, 2) := by decide +kernel
theorem dJ1_indexOfChar_4cfef_16 : decode cJ1_indexOfChar_4cfef 16 = .ok (.baload, 1) := by decide +kernel
theorem dJ1_indexOfChar_4cfef_17 : decode cJ1_indexOfChar_4cfef 17 = .ok (.iload 4, 2) := by decide +kernel
theorem dJ1_indexOfChar_4cfef_19 : decode cJ1_indexOfChar_4cfef 19 = .ok (.if_icmp .ne 6, 3) := by decide +kernel
theorem dJ1_indexOfChar_4cfef_22 : decode cJ1_indexOfChar_4cfef 22 = .ok (.iload 5, 2) := by decide +kernel
theorem dJ1_indexOfChar_4cfef_24 : decode cJ1_indexOfChar_4cfef 24 = .ok (.ireturn, 1) := by decide +kernel
theorem dJ1_indexOfChar_4cfef_25 : decode cJ1_indexOfChar_4cfef 25 = .ok (.iinc 5 1, 3) := by decide +kernel
theorem dJ1_indexOfChar_4cfef_28 : decode cJ1_indexOfChar_4cfef 28 = .ok (.goto (-21), 3) := by decide +kernel
theorem dJ1_indexOfChar_4cfef_31 : decode cJ1_indexOfChar_4cfef 31 = .ok (.iconst (-1), 1) := by decide +kernel
theorem dJ1_indexOfChar_4cfef_32 : decode cJ1_indexOfChar_4cfef 32 = .ok (.ireturn, 1) := by decide +kernel
end
section
theorem dX0_init_0 : decode cX0_init 0 = .ok (.aload_n 0, 1) := by decide +kernel
theorem dX0_init_1 : decode cX0_init 1 = .ok (.invokespecial 3, 3) := by decide +kernel
theorem dX0_init_4 : decode cX0_init 4 = .ok (.aload_n 0, 1) := by decide +kernel
theorem dX0_init_5 : decode cX0_init 5 = .ok (.iconst 3, 1) := by decide +kernel
theorem dX0_init_6 : decode cX0_init 6 = .ok (.newarray .int, 2) := by decide +kernel
theorem dX0_init_8 : decode cX0_init 8 = .ok (.putfield 9, 3) := by decide +kernel
theorem dX0_init_11 : decode cX0_init 11 = .ok (.return_, 1) := by decide +kernel
theorem dX0_draw_0 : decode cX0_draw 0 = .ok (.aload_n 0, 1) := by decide +kernel
theorem dX0_draw_1 : decode cX0_draw 1 = .ok (.ldc2_w 15, 3) := by decide +kernel
theorem dX0_draw_4 : decode cX0_draw 4 = .ok (.aload_n 0, 1) := by decide +kernel
theorem dX0_draw_5 : decode cX0_draw 5 = .ok (.getfield 17, 3) := by decide +kernel
theorem dX0_draw_8 : decode cX0_draw 8 = .ok (.lmul, 1) := by decide +kernel
theorem dX0_draw_9 : decode cX0_draw 9 = .ok (.ldc2_w 21, 3) := by decide +kernel
theorem dX0_draw_12 : decode cX0_draw 12 = .ok (.ladd, 1) := by decide +kernel
theorem dX0_draw_13 : decode cX0_draw 13 = .ok (.ldc2_w 23, 3) := by decide +kernel
theorem dX0_draw_16 : decode cX0_draw 16 = .ok (.land, 1) := by decide +kernel
theorem dX0_draw_17 : decode cX0_draw 17 = .ok (.putfield 17, 3) := by decide +kernel
theorem dX0_draw_20 : decode cX0_draw 20 = .ok (.iload_n 1, 1) := by decide +kernel
theorem dX0_draw_21 : decode cX0_draw 21 = .ok (.ifCond .le 18, 3) := by decide +kernel
theorem dX0_draw_24 : decode cX0_draw 24 = .ok (.aload_n 0, 1) := by decide +kernel
theorem dX0_draw_25 : decode cX0_draw 25 = .ok (.getfield 17, 3) := by decide +kernel
theorem dX0_draw_28 : decode cX0_draw 28 = .ok (.ldc2_w 25, 3) := by decide +kernel
theorem dX0_draw_31 : decode cX0_draw 31 = .ok (.ldiv, 1) := by decide +kernel
theorem dX0_draw_32 : decode cX0_draw 32 = .ok (.iload_n 1, 1) := by decide +kernel
theorem dX0_draw_33 : decode cX0_draw 33 = .ok (.i2l, 1) := by decide +kernel
theorem dX0_draw_34 : decode cX0_draw 34 = .ok (.lrem, 1) := by decide +kernel
theorem dX0_draw_35 : decode cX0_draw 35 = .ok (.l2i, 1) := by decide +kernel
theorem dX0_draw_36 : decode cX0_draw 36 = .ok (.goto 4, 3) := by decide +kernel
theorem dX0_draw_39 : decode cX0_draw 39 = .ok (.iconst 0, 1) := by decide +kernel
theorem dX0_draw_40 : decode cX0_draw 40 = .ok (.ireturn, 1) := by decide +kernel
theorem dX0_seenInAYear_0 : decode cX0_seenInAYear 0 = .ok (.iconst 0, 1) := by decide +kernel
theorem dX0_seenInAYear_1 : decode cX0_seenInAYear 1 = .ok (.istore_n 2, 1) := by decide +kernel
theorem dX0_seenInAYear_2 : decode cX0_seenInAYear 2 = .ok (.iload_n 2, 1) := by decide +kernel
theorem dX0_seenInAYear_3 : decode cX0_seenInAYear 3 = .ok (.aload_n 1, 1) := by decide +kernel
theorem dX0_seenInAYear_4 : decode cX0_seenInAYear 4 = .ok (.getfield 27, 3) := by decide +kernel
theorem dX0_seenInAYear_7 : decode cX0_seenInAYear 7 = .ok (.if_icmp .ge 28, 3) := by decide +kernel
theorem dX0_seenInAYear_10 : decode cX0_seenInAYear 10 = .ok (.aload_n 0, 1) := by decide +kernel
theorem dX0_seenInAYear_11 : decode cX0_seenInAYear 11 = .ok (.getfield 9, 3) := by decide +kernel
theorem dX0_seenInAYear_14 : decode cX0_seenInAYear 14 = .ok (.iload_n 2, 1) := by decide +kernel
theorem dX0_seenInAYear_15 : decode cX0_seenInAYear 15 = .ok (.aload_n 0, 1) := by decide +kernel
theorem dX0_seenInAYear_16 : decode cX0_seenInAYear 16 = .ok (.bipush 21, 2) := by decide +kernel
theorem dX0_seenInAYear_18 : decode cX0_seenInAYear 18 = .ok (.invokevirtual 33, 3) := by decide +kernel
theorem dX0_seenInAYear_21 : decode cX0_seenInAYear 21 = .ok (.aload_n 1, 1) := by decide +kernel
theorem dX0_seenInAYear_22 : decode cX0_seenInAYear 22 = .ok (.getfield 37, 3) := by decide +kernel
theorem dX0_seenInAYear_25 : decode cX0_seenInAYear 25 = .ok (.invokestatic 40, 3) := by decide +kernel
theorem dX0_seenInAYear_28 : decode cX0_seenInAYear 28 = .ok (.iastore, 1) := by decide +kernel
theorem dX0_seenInAYear_29 : decode cX0_seenInAYear 29 = .ok (.iinc 2 1, 3) := by decide +kernel
theorem dX0_seenInAYear_32 : decode cX0_seenInAYear 32 = .ok (.goto (-30), 3) := by decide +kernel
theorem dX0_seenInAYear_35 : decode cX0_seenInAYear 35 = .ok (.iconst 0, 1) := by decide +kernel
theorem dX0_seenInAYear_36 : decode cX0_seenInAYear 36 = .ok (.istore_n 2, 1) := by decide +kernel
theorem dX0_seenInAYear_37 : decode cX0_seenInAYear 37 = .ok (.iconst 0, 1) := by decide +kernel
theorem dX0_seenInAYear_38 : decode cX0_seenInAYear 38 = .ok (.istore_n 3, 1) := by decide +kernel
theorem dX0_seenInAYear_39 : decode cX0_seenInAYear 39 = .ok (.iconst 0, 1) := by decide +kernel
theorem dX0_seenInAYear_40 : decode cX0_seenInAYear 40 = .ok (.istore 4, 2) := by decide +kernel
theorem dX0_seenInAYear_42 : decode cX0_seenInAYear 42 = .ok (.iload 4, 2) := by decide +kernel
theorem dX0_seenInAYear_44 : decode cX0_seenInAYear 44 = .ok (.aload_n 1, 1) := by decide +kernel
theorem dX0_seenInAYear_45 : decode cX0_seenInAYear 45 = .ok (.getfield 44, 3) := by decide +kernel
theorem dX0_seenInAYear_48 : decode cX0_seenInAYear 48 = .ok (.if_icmp .ge 48, 3) := by decide +kernel
theorem dX0_seenInAYear_51 : decode cX0_seenInAYear 51 = .ok (.iconst 2, 1) := by decide +kernel
theorem dX0_seenInAYear_52 : decode cX0_seenInAYear 52 = .ok (.aload_n 0, 1) := by decide +kernel
theorem dX0_seenInAYear_53 : decode cX0_seenInAYear 53 = .ok (.getfield 9, 3) := by decide +kernel
theorem dX0_seenInAYear_56 : decode cX0_seenInAYear 56 = .ok (.aload_n 0, 1) := by decide +kernel
theorem dX0_seenInAYear_57 : decode cX0_seenInAYear 57 = .ok (.aload_n 1, 1) := by decide +kernel
theorem dX0_seenInAYear_58 : decode cX0_seenInAYear 58 = .ok (.getfield 27, 3) := by decide +kernel
theorem dX0_seenInAYear_61 : decode cX0_seenInAYear 61 = .ok (.invokevirtual 33, 3) := by decide +kernel
theorem dX0_seenInAYear_64 : decode cX0_seenInAYear 64 = .ok (.iaload, 1) := by decide +kernel
theorem dX0_seenInAYear_65 : decode cX0_seenInAYear 65 = .ok (.imul, 1) := by decide +kernel
theorem dX0_seenInAYear_66 : decode cX0_seenInAYear 66 = .ok (.istore 5, 2) := by decide +kernel
theorem dX0_seenInAYear_68 : decode cX0_seenInAYear 68 = .ok (.iload 4, 2) := by decide +kernel
theorem dX0_seenInAYear_70 : decode cX0_seenInAYear 70 = .ok (.ifCond .le 17, 3) := by decide +kernel
theorem dX0_seenInAYear_73 : decode cX0_seenInAYear 73 = .ok (.iload_n 2, 1) := by decide +kernel
theorem dX0_seenInAYear_74 : decode cX0_seenInAYear 74 = .ok (.aload_n 1, 1) := by decide +kernel
theorem dX0_seenInAYear_75 : decode cX0_seenInAYear 75 = .ok (.iload 4, 2) := by decide +kernel
theorem dX0_seenInAYear_77 : decode cX0_seenInAYear 77 = .ok (.iconst 1, 1) := by decide +kernel
theorem dX0_seenInAYear_78 : decode cX0_seenInAYear 78 = .ok (.isub, 1) := by decide +kernel
theorem dX0_seenInAYear_79 : decode cX0_seenInAYear 79 = .ok (.iload_n 3, 1) := by decide +kernel
theorem dX0_seenInAYear_80 : decode cX0_seenInAYear 80 = .ok (.iload 5, 2) := by decide +kernel
theorem dX0_seenInAYear_82 : decode cX0_seenInAYear 82 = .ok (.invokevirtual 47, 3) := by decide +kernel
theorem dX0_seenInAYear_85 : decode cX0_seenInAYear 85 = .ok (.iadd, 1) := by decide +kernel
theorem dX0_seenInAYear_86 : decode cX0_seenInAYear 86 = .ok (.istore_n 2, 1) := by decide +kernel
theorem dX0_seenInAYear_87 : decode cX0_seenInAYear 87 = .ok (.iload 5, 2) := by decide +kernel
theorem dX0_seenInAYear_89 : decode cX0_seenInAYear 89 = .ok (.istore_n 3, 1) := by decide +kernel
theorem dX0_seenInAYear_90 : decode cX0_seenInAYear 90 = .ok (.iinc 4 1, 3) := by decide +kernel
theorem dX0_seenInAYear_93 : decode cX0_seenInAYear 93 = .ok (.goto (-51), 3) := by decide +kernel
theorem dX0_seenInAYear_96 : decode cX0_seenInAYear 96 = .ok (.iload_n 2, 1) := by decide +kernel
theorem dX0_seenInAYear_97 : decode cX0_seenInAYear 97 = .ok (.ireturn, 1) := by decide +kernel
theorem dX1_init_0 : decode cX1_init 0 = .ok (.aload_n 0, 1) := by decide +kernel
theorem dX1_init_1 : decode cX1_init 1 = .ok (.invokespecial 3, 3) := by decide +kernel
theorem dX1_init_4 : decode cX1_init 4 = .ok (.aload_n 0, 1) := by decide +kernel
theorem dX1_init_5 : decode cX1_init 5 = .ok (.bipush 6, 2) := by decide +kernel
theorem dX1_init_7 : decode cX1_init 7 = .ok (.newarray .int, 2) := by decide +kernel
theorem dX1_init_9 : decode cX1_init 9 = .ok (.putfield 9, 3) := by decide +kernel
theorem dX1_init_12 : decode cX1_init 12 = .ok (.aload_n 0, 1) := by decide +kernel
theorem dX1_init_13 : decode cX1_init 13 = .ok (.iconst 5, 1) := by decide +kernel
theorem dX1_init_14 : decode cX1_init 14 = .ok (.bipush 6, 2) := by decide +kernel
theorem dX1_init_16 : decode cX1_init 16 = .ok (.multianewarray 15 2, 4) := by decide +kernel
theorem dX1_init_20 : decode cX1_init 20 = .ok (.putfield 17, 3) := by decide +kernel
theorem dX1_init_23 : decode cX1_init 23 = .ok (.aload_n 0, 1) := by decide +kernel
theorem dX1_init_24 : decode cX1_init 24 = .ok (.iconst 5, 1) := by decide +kernel
theorem dX1_init_25 : decode cX1_init 25 = .ok (.bipush 6, 2) := by decide +kernel
theorem dX1_init_27 : decode cX1_init 27 = .ok (.multianewarray 15 2, 4) := by decide +kernel
theorem dX1_init_31 : decode cX1_init 31 = .ok (.putfield 20, 3) := by decide +kernel
theorem dX1_init_34 : decode cX1_init 34 = .ok (.return_, 1) := by decide +kernel
theorem dX1_study_0 : decode cX1_study 0 = .ok (.aload_n 0, 1) := by decide +kernel
theorem dX1_study_1 : decode cX1_study 1 = .ok (.aload_n 1, 1) := by decide +kernel
theorem dX1_study_2 : decode cX1_study 2 = .ok (.getfield 23, 3) := by decide +kernel
theorem dX1_study_5 : decode cX1_study 5 = .ok (.putfield 29, 3) := by decide +kernel
theorem dX1_study_8 : decode cX1_study 8 = .ok (.aload_n 0, 1) := by decide +kernel
theorem dX1_study_9 : decode cX1_study 9 = .ok (.aload_n 1, 1) := by decide +kernel
theorem dX1_study_10 : decode cX1_study 10 = .ok (.invokevirtual 30, 3) := by decide +kernel
theorem dX1_study_13 : decode cX1_study 13 = .ok (.iconst 0, 1) := by decide +kernel
theorem dX1_study_14 : decode cX1_study 14 = .ok (.istore_n 2, 1) := by decide +kernel
theorem dX1_study_15 : decode cX1_study 15 = .ok (.iload_n 2, 1) := by decide +kernel
theorem dX1_study_16 : decode cX1_study 16 = .ok (.aload_n 0, 1) := by decide +kernel
theorem dX1_study_17 : decode cX1_study 17 = .ok (.getfield 29, 3) := by decide +kernel
theorem dX1_study_20 : decode cX1_study 20 = .ok (.if_icmp .ge 15, 3) := by decide +kernel
theorem dX1_study_23 : decode cX1_study 23 = .ok (.aload_n 0, 1) := by decide +kernel
theorem dX1_study_24 : decode cX1_study 24 = .ok (.aload_n 1, 1) := by decide +kernel
theorem dX1_study_25 : decode cX1_study 25 = .ok (.iload_n 2, 1) := by decide +kernel
theorem dX1_study_26 : decode cX1_study 26 = .ok (.invokevirtual 34, 3) := by decide +kernel
theorem dX1_study_29 : decode cX1_study 29 = .ok (.iinc 2 1, 3) := by decide +kernel
theorem dX1_study_32 : decode cX1_study 32 = .ok (.goto (-17), 3) := by decide +kernel
theorem dX1_study_35 : decode cX1_study 35 = .ok (.aload_n 0, 1) := by decide +kernel
theorem dX1_study_36 : decode cX1_study 36 = .ok (.getfield 29, 3) := by decide +kernel
theorem dX1_study_39 : decode cX1_study 39 = .ok (.iconst 1, 1) := by decide +kernel
theorem dX1_study_40 : decode cX1_study 40 = .ok (.isub, 1) := by decide +kernel
theorem dX1_study_41 : decode cX1_study 41 = .ok (.istore_n 2, 1) := by decide +kernel
theorem dX1_study_42 : decode cX1_study 42 = .ok (.iload_n 2, 1) := by decide +kernel
theorem dX1_study_43 : decode cX1_study 43 = .ok (.ifCond .lt 15, 3) := by decide +kernel
theorem dX1_study_46 : decode cX1_study 46 = .ok (.aload_n 0, 1) := by decide +kernel
theorem dX1_study_47 : decode cX1_study 47 = .ok (.aload_n 1, 1) := by decide +kernel
theorem dX1_study_48 : decode cX1_study 48 = .ok (.iload_n 2, 1) := by decide +kernel
theorem dX1_study_49 : decode cX1_study 49 = .ok (.invokevirtual 38, 3) := by decide +kernel
theorem dX1_study_52 : decode cX1_study 52 = .ok (.iinc 2 (-1), 3) := by decide +kernel
theorem dX1_study_55 : decode cX1_study 55 = .ok (.goto (-13), 3) := by decide +kernel
theorem dX1_study_58 : decode cX1_study 58 = .ok (.return_, 1) := by decide +kernel
theorem dX1_listMakes_0 : decode cX1_listMakes 0 = .ok (.aload_n 0, 1) := by decide +kernel
theorem dX1_listMakes_1 : decode cX1_listMakes 1 = .ok (.iconst 0, 1) := by decide +kernel
theorem dX1_listMakes_2 : decode cX1_listMakes 2 = .ok (.putfield 41, 3) := by decide +kernel
theorem dX1_listMakes_5 : decode cX1_listMakes 5 = .ok (.iconst 0, 1) := by decide +kernel
theorem dX1_listMakes_6 : decode cX1_listMakes 6 = .ok (.istore_n 2, 1) := by decide +kernel
theorem dX1_listMakes_7 : decode cX1_listMakes 7 = .ok (.iload_n 2, 1) := by decide +kernel
theorem dX1_listMakes_8 : decode cX1_listMakes 8 = .ok (.aload_n 1, 1) := by decide +kernel
theorem dX1_listMakes_9 : decode cX1_listMakes 9 = .ok (.getfield 44, 3) := by decide +kernel
theorem dX1_listMakes_12 : decode cX1_listMakes 12 = .ok (.if_icmp .ge 72, 3) := by decide +kernel
theorem dX1_listMakes_15 : decode cX1_listMakes 15 = .ok (.iload_n 2, 1) := by decide +kernel
theorem dX1_listMakes_16 : decode cX1_listMakes 16 = .ok (.istore_n 3, 1) := by decide +kernel
theorem dX1_listMakes_17 : decode cX1_listMakes 17 = .ok (.iload_n 3, 1) := by decide +kernel
theorem dX1_listMakes_18 : decode cX1_listMakes 18 = .ok (.aload_n 1, 1) := by decide +kernel
theorem dX1_listMakes_19 : decode cX1_listMakes 19 = .ok (.getfield 44, 3) := by decide +kernel
theorem dX1_listMakes_22 : decode cX1_listMakes 22 = .ok (.if_icmp .ge 56, 3) := by decide +kernel
theorem dX1_listMakes_25 : decode cX1_listMakes 25 = .ok (.aload_n 0, 1) := by decide +kernel
theorem dX1_listMakes_26 : decode cX1_listMakes 26 = .ok (.getfield 41, 3) := by decide +kernel
theorem dX1_listMakes_29 : decode cX1_listMakes 29 = .ok (.bipush 6, 2) := by decide +kernel
theorem dX1_listMakes_31 : decode cX1_listMakes 31 = .ok (.if_icmp .ge 47, 3) := by decide +kernel
theorem dX1_listMakes_34 : decode cX1_listMakes 34 = .ok (.aload_n 0, 1) := by decide +kernel
theorem dX1_listMakes_35 : decode cX1_listMakes 35 = .ok (.getfield 9, 3) := by decide +kernel
theorem dX1_listMakes_38 : decode cX1_listMakes 38 = .ok (.aload_n 0, 1) := by decide +kernel
theorem dX1_listMakes_39 : decode cX1_listMakes 39 = .ok (.getfield 41, 3) := by decide +kernel
theorem dX1_listMakes_42 : decode cX1_listMakes 42 = .ok (.aload_n 1, 1) := by decide +kernel
theorem dX1_listMakes_43 : decode cX1_listMakes 43 = .ok (.getfield 47, 3) := by decide +kernel
theorem dX1_listMakes_46 : decode cX1_listMakes 46 = .ok (.iload_n 2, 1) := by decide +kernel
theorem dX1_listMakes_47 : decode cX1_listMakes 47 = .ok (.aaload, 1) := by decide +kernel
theorem dX1_listMakes_48 : decode cX1_listMakes 48 = .ok (.getfield 51, 3) := by decide +kernel
theorem dX1_listMakes_51 : decode cX1_listMakes 51 = .ok (.aload_n 1, 1) := by decide +kernel
theorem dX1_listMakes_52 : decode cX1_listMakes 52 = .ok (.getfield 47, 3) := by decide +kernel
theorem dX1_listMakes_55 : decode cX1_listMakes 55 = .ok (.iload_n 3, 1) := by decide +kernel
theorem dX1_listMakes_56 : decode cX1_listMakes 56 = .ok (.aaload, 1) := by decide +kernel
theorem dX1_listMakes_57 : decode cX1_listMakes 57 = .ok (.getfield 51, 3) := by decide +kernel
theorem dX1_listMakes_60 : decode cX1_listMakes 60 = .ok (.iadd, 1) := by decide +kernel
theorem dX1_listMakes_61 : decode cX1_listMakes 61 = .ok (.iastore, 1) := by decide +kernel
theorem dX1_listMakes_62 : decode cX1_listMakes 62 = .ok (.aload_n 0, 1) := by decide +kernel
theorem dX1_listMakes_63 : decode cX1_listMakes 63 = .ok (.dup, 1) := by decide +kernel
theorem dX1_listMakes_64 : decode cX1_listMakes 64 = .ok (.getfield 41, 3) := by decide +kernel
theorem dX1_listMakes_67 : decode cX1_listMakes 67 = .ok (.iconst 1, 1) := by decide +kernel
theorem dX1_listMakes_68 : decode cX1_listMakes 68 = .ok (.iadd, 1) := by decide +kernel
theorem dX1_listMakes_69 : decode cX1_listMakes 69 = .ok (.putfield 41, 3) := by decide +kernel
theorem dX1_listMakes_72 : decode cX1_listMakes 72 = .ok (.iinc 3 1, 3) := by decide +kernel
theorem dX1_listMakes_75 : decode cX1_listMakes 75 = .ok (.goto (-58), 3) := by decide +kernel
theorem dX1_listMakes_78 : decode cX1_listMakes 78 = .ok (.iinc 2 1, 3) := by decide +kernel
theorem dX1_listMakes_81 : decode cX1_listMakes 81 = .ok (.goto (-74), 3) := by decide +kernel
theorem dX1_listMakes_84 : decode cX1_listMakes 84 = .ok (.return_, 1) := by decide +kernel
theorem dX1_countAhead_0 : decode cX1_countAhead 0 = .ok (.iconst 0, 1) := by decide +kernel
theorem dX1_countAhead_1 : decode cX1_countAhead 1 = .ok (.istore_n 3, 1) := by decide +kernel
theorem dX1_countAhead_2 : decode cX1_countAhead 2 = .ok (.iload_n 3, 1) := by decide +kernel
theorem dX1_countAhead_3 : decode cX1_countAhead 3 = .ok (.aload_n 0, 1) := by decide +kernel
theorem dX1_countAhead_4 : decode cX1_countAhead 4 = .ok (.getfield 41, 3) := by decide +kernel
theorem dX1_countAhead_7 : decode cX1_countAhead 7 = .ok (.if_icmp .ge 82, 3) := by decide +kernel
theorem dX1_countAhead_10 : decode cX1_countAhead 10 = .ok (.iload_n 2, 1) := by decide +kernel
theorem dX1_countAhead_11 : decode cX1_countAhead 11 = .ok (.ifCond .ne 7, 3) := by decide +kernel
theorem dX1_countAhead_14 : decode cX1_countAhead 14 = .ok (.iconst 1, 1) := by decide +kernel
theorem dX1_countAhead_15 : decode cX1_countAhead 15 = .ok (.goto 4, 3) := by decide +kernel
theorem dX1_countAhead_18 : decode cX1_countAhead 18 = .ok (.iconst 0, 1) := by decide +kernel
theorem dX1_countAhead_19 : decode cX1_countAhead 19 = .ok (.istore 4, 2) := by decide +kernel
theorem dX1_countAhead_21 : decode cX1_countAhead 21 = .ok (.iconst 0, 1) := by decide +kernel
theorem dX1_countAhead_22 : decode cX1_countAhead 22 = .ok (.istore 5, 2) := by decide +kernel
theorem dX1_countAhead_24 : decode cX1_countAhead 24 = .ok (.iload_n 2, 1) := by decide +kernel
theorem dX1_countAhead_25 : decode cX1_countAhead 25 = .ok (.ifCond .le 48, 3) := by decide +kernel
theorem dX1_countAhead_28 : decode cX1_countAhead 28 = .ok (.iload 5, 2) := by decide +kernel
theorem dX1_countAhead_30 : decode cX1_countAhead 30 = .ok (.aload_n 0, 1) := by decide +kernel
theorem dX1_countAhead_31 : decode cX1_countAhead 31 = .ok (.getfield 41, 3) := by decide +kernel
theorem dX1_countAhead_34 : decode cX1_countAhead 34 = .ok (.if_icmp .ge 39, 3) := by decide +kernel
theorem dX1_countAhead_37 : decode cX1_countAhead 37 = .ok (.aload_n 0, 1) := by decide +kernel
theorem dX1_countAhead_38 : decode cX1_countAhead 38 = .ok (.aload_n 1, 1) := by decide +kernel
theorem dX1_countAhead_39 : decode cX1_countAhead 39 = .ok (.iload_n 2, 1) := by decide +kernel
theorem dX1_countAhead_40 : decode cX1_countAhead 40 = .ok (.iconst 1, 1) := by decide +kernel
theorem dX1_countAhead_41 : decode cX1_countAhead 41 = .ok (.isub, 1) := by decide +kernel
theorem dX1_countAhead_42 : decode cX1_countAhead 42 = .ok (.iload 5, 2) := by decide +kernel
theorem dX1_countAhead_44 : decode cX1_countAhead 44 = .ok (.iload_n 3, 1) := by decide +kernel
theorem dX1_countAhead_45 : decode cX1_countAhead 45 = .ok (.invokevirtual 56, 3) := by decide +kernel
theorem dX1_countAhead_48 : decode cX1_countAhead 48 = .ok (.ifCond .eq 19, 3) := by decide +kernel
theorem dX1_countAhead_51 : decode cX1_countAhead 51 = .ok (.iload 4, 2) := by decide +kernel
theorem dX1_countAhead_53 : decode cX1_countAhead 53 = .ok (.aload_n 0, 1) := by decide +kernel
theorem dX1_countAhead_54 : decode cX1_countAhead 54 = .ok (.getfield 17, 3) := by decide +kernel
theorem dX1_countAhead_57 : decode cX1_countAhead 57 = .ok (.iload_n 2, 1) := by decide +kernel
theorem dX1_countAhead_58 : decode cX1_countAhead 58 = .ok (.iconst 1, 1) := by decide +kernel
theorem dX1_countAhead_59 : decode cX1_countAhead 59 = .ok (.isub, 1) := by decide +kernel
theorem dX1_countAhead_60 : decode cX1_countAhead 60 = .ok (.aaload, 1) := by decide +kernel
theorem dX1_countAhead_61 : decode cX1_countAhead 61 = .ok (.iload 5, 2) := by decide +kernel
theorem dX1_countAhead_63 : decode cX1_countAhead 63 = .ok (.iaload, 1) := by decide +kernel
theorem dX1_countAhead_64 : decode cX1_countAhead 64 = .ok (.iadd, 1) := by decide +kernel
theorem dX1_countAhead_65 : decode cX1_countAhead 65 = .ok (.istore 4, 2) := by decide +kernel
theorem dX1_countAhead_67 : decode cX1_countAhead 67 = .ok (.iinc 5 1, 3) := by decide +kernel
theorem dX1_countAhead_70 : decode cX1_countAhead 70 = .ok (.goto (-46), 3) := by decide +kernel
theorem dX1_countAhead_73 : decode cX1_countAhead 73 = .ok (.aload_n 0, 1) := by decide +kernel
theorem dX1_countAhead_74 : decode cX1_countAhead 74 = .ok (.getfield 17, 3) := by decide +kernel
theorem dX1_countAhead_77 : decode cX1_countAhead 77 = .ok (.iload_n 2, 1) := by decide +kernel
theorem dX1_countAhead_78 : decode cX1_countAhead 78 = .ok (.aaload, 1) := by decide +kernel
theorem dX1_countAhead_79 : decode cX1_countAhead 79 = .ok (.iload_n 3, 1) := by decide +kernel
theorem dX1_countAhead_80 : decode cX1_countAhead 80 = .ok (.iload 4, 2) := by decide +kernel
theorem dX1_countAhead_82 : decode cX1_countAhead 82 = .ok (.iastore, 1) := by decide +kernel
theorem dX1_countAhead_83 : decode cX1_countAhead 83 = .ok (.iinc 3 1, 3) := by decide +kernel
theorem dX1_countAhead_86 : decode cX1_countAhead 86 = .ok (.goto (-84), 3) := by decide +kernel
theorem dX1_countAhead_89 : decode cX1_countAhead 89 = .ok (.return_, 1) := by decide +kernel
theorem dX1_countBehind_0 : decode cX1_countBehind 0 = .ok (.iload_n 2, 1) := by decide +kernel
theorem dX1_countBehind_1 : decode cX1_countBehind 1 = .ok (.iconst 1, 1) := by decide +kernel
theorem dX1_countBehind_2 : decode cX1_countBehind 2 = .ok (.iadd, 1) := by decide +kernel
theorem dX1_countBehind_3 : decode cX1_countBehind 3 = .ok (.aload_n 0, 1) := by decide +kernel
theorem dX1_countBehind_4 : decode cX1_countBehind 4 = .ok (.getfield 29, 3) := by decide +kernel
theorem dX1_countBehind_7 : decode cX1_countBehind 7 = .ok (.if_icmp .lt 7, 3) := by decide +kernel
theorem dX1_countBehind_10 : decode cX1_countBehind 10 = .ok (.iconst 1, 1) := by decide +kernel
theorem dX1_countBehind_11 : decode cX1_countBehind 11 = .ok (.goto 4, 3) := by decide +kernel
theorem dX1_countBehind_14 : decode cX1_countBehind 14 = .ok (.iconst 0, 1) := by decide +kernel
theorem dX1_countBehind_15 : decode cX1_countBehind 15 = .ok (.istore_n 3, 1) := by decide +kernel
theorem dX1_countBehind_16 : decode cX1_countBehind 16 = .ok (.iconst 0, 1) := by decide +kernel
theorem dX1_countBehind_17 : decode cX1_countBehind 17 = .ok (.istore 4, 2) := by decide +kernel
theorem dX1_countBehind_19 : decode cX1_countBehind 19 = .ok (.iload 4, 2) := by decide +kernel
theorem dX1_countBehind_21 : decode cX1_countBehind 21 = .ok (.aload_n 0, 1) := by decide +kernel
theorem dX1_countBehind_22 : decode cX1_countBehind 22 = .ok (.getfield 41, 3) := by decide +kernel
theorem dX1_countBehind_25 : decode cX1_countBehind 25 = .ok (.if_icmp .ge 82, 3) := by decide +kernel
theorem dX1_countBehind_28 : decode cX1_countBehind 28 = .ok (.iload_n 3, 1) := by decide +kernel
theorem dX1_countBehind_29 : decode cX1_countBehind 29 = .ok (.ifCond .eq 7, 3) := by decide +kernel
theorem dX1_countBehind_32 : decode cX1_countBehind 32 = .ok (.iconst 1, 1) := by decide +kernel
theorem dX1_countBehind_33 : decode cX1_countBehind 33 = .ok (.goto 4, 3) := by decide +kernel
theorem dX1_countBehind_36 : decode cX1_countBehind 36 = .ok (.iconst 0, 1) := by decide +kernel
theorem dX1_countBehind_37 : decode cX1_countBehind 37 = .ok (.istore 5, 2) := by decide +kernel
theorem dX1_countBehind_39 : decode cX1_countBehind 39 = .ok (.iconst 0, 1) := by decide +kernel
theorem dX1_countBehind_40 : decode cX1_countBehind 40 = .ok (.istore 6, 2) := by decide +kernel
theorem dX1_countBehind_42 : decode cX1_countBehind 42 = .ok (.iload_n 3, 1) := by decide +kernel
theorem dX1_countBehind_43 : decode cX1_countBehind 43 = .ok (.ifCond .ne 47, 3) := by decide +kernel
theorem dX1_countBehind_46 : decode cX1_countBehind 46 = .ok (.iload 6, 2) := by decide +kernel
theorem dX1_countBehind_48 : decode cX1_countBehind 48 = .ok (.aload_n 0, 1) := by decide +kernel
theorem dX1_countBehind_49 : decode cX1_countBehind 49 = .ok (.getfield 41, 3) := by decide +kernel
theorem dX1_countBehind_52 : decode cX1_countBehind 52 = .ok (.if_icmp .ge 38, 3) := by decide +kernel
theorem dX1_countBehind_55 : decode cX1_countBehind 55 = .ok (.aload_n 0, 1) := by decide +kernel
theorem dX1_countBehind_56 : decode cX1_countBehind 56 = .ok (.aload_n 1, 1) := by decide +kernel
theorem dX1_countBehind_57 : decode cX1_countBehind 57 = .ok (.iload_n 2, 1) := by decide +kernel
theorem dX1_countBehind_58 : decode cX1_countBehind 58 = .ok (.iload 4, 2) := by decide +kernel
theorem dX1_countBehind_60 : decode cX1_countBehind 60 = .ok (.iload 6, 2) := by decide +kernel
theorem dX1_countBehind_62 : decode cX1_countBehind 62 = .ok (.invokevirtual 56, 3) := by decide +kernel
theorem dX1_countBehind_65 : decode cX1_countBehind 65 = .ok (.ifCond .eq 19, 3) := by decide +kernel
theorem dX1_countBehind_68 : decode cX1_countBehind 68 = .ok (.iload 5, 2) := by decide +kernel
theorem dX1_countBehind_70 : decode cX1_countBehind 70 = .ok (.aload_n 0, 1) := by decide +kernel
theorem dX1_countBehind_71 : decode cX1_countBehind 71 = .ok (.getfield 20, 3) := by decide +kernel
theorem dX1_countBehind_74 : decode cX1_countBehind 74 = .ok (.iload_n 2, 1) := by decide +kernel
theorem dX1_countBehind_75 : decode cX1_countBehind 75 = .ok (.iconst 1, 1) := by decide +kernel
theorem dX1_countBehind_76 : decode cX1_countBehind 76 = .ok (.iadd, 1) := by decide +kernel
theorem dX1_countBehind_77 : decode cX1_countBehind 77 = .ok (.aaload, 1) := by decide +kernel
theorem dX1_countBehind_78 : decode cX1_countBehind 78 = .ok (.iload 6, 2) := by decide +kernel
theorem dX1_countBehind_80 : decode cX1_countBehind 80 = .ok (.iaload, 1) := by decide +kernel
theorem dX1_countBehind_81 : decode cX1_countBehind 81 = .ok (.iadd, 1) := by decide +kernel
theorem dX1_countBehind_82 : decode cX1_countBehind 82 = .ok (.istore 5, 2) := by decide +kernel
theorem dX1_countBehind_84 : decode cX1_countBehind 84 = .ok (.iinc 6 1, 3) := by decide +kernel
theorem dX1_countBehind_87 : decode cX1_countBehind 87 = .ok (.goto (-45), 3) := by decide +kernel
theorem dX1_countBehind_90 : decode cX1_countBehind 90 = .ok (.aload_n 0, 1) := by decide +kernel
theorem dX1_countBehind_91 : decode cX1_countBehind 91 = .ok (.getfield 20, 3) := by decide +kernel
theorem dX1_countBehind_94 : decode cX1_countBehind 94 = .ok (.iload_n 2, 1) := by decide +kernel
theorem dX1_countBehind_95 : decode cX1_countBehind 95 = .ok (.aaload, 1) := by decide +kernel
theorem dX1_countBehind_96 : decode cX1_countBehind 96 = .ok (.iload 4, 2) := by decide +kernel
theorem dX1_countBehind_98 : decode cX1_countBehind 98 = .ok (.iload 5, 2) := by decide +kernel
theorem dX1_countBehind_100 : decode cX1_countBehind 100 = .ok (.iastore, 1) := by decide +kernel
theorem dX1_countBehind_101 : decode cX1_countBehind 101 = .ok (.iinc 4 1, 3) := by decide +kernel
theorem dX1_countBehind_104 : decode cX1_countBehind 104 = .ok (.goto (-85), 3) := by decide +kernel
theorem dX1_countBehind_107 : decode cX1_countBehind 107 = .ok (.return_, 1) := by decide +kernel
theorem dX1_mayMeet_0 : decode cX1_mayMeet 0 = .ok (.aload_n 1, 1) := by decide +kernel
theorem dX1_mayMeet_1 : decode cX1_mayMeet 1 = .ok (.getfield 60, 3) := by decide +kernel
theorem dX1_mayMeet_4 : decode cX1_mayMeet 4 = .ok (.iload_n 2, 1) := by decide +kernel
theorem dX1_mayMeet_5 : decode cX1_mayMeet 5 = .ok (.aaload, 1) := by decide +kernel
theorem dX1_mayMeet_6 : decode cX1_mayMeet 6 = .ok (.getfield 64, 3) := by decide +kernel
theorem dX1_mayMeet_9 : decode cX1_mayMeet 9 = .ok (.istore 5, 2) := by decide +kernel
theorem dX1_mayMeet_11 : decode cX1_mayMeet 11 = .ok (.iload 5, 2) := by decide +kernel
theorem dX1_mayMeet_13 : decode cX1_mayMeet 13 = .ok (.iconst (-1), 1) := by decide +kernel
theorem dX1_mayMeet_14 : decode cX1_mayMeet 14 = .ok (.if_icmp .eq 26, 3) := by decide +kernel
theorem dX1_mayMeet_17 : decode cX1_mayMeet 17 = .ok (.iload 5, 2) := by decide +kernel
theorem dX1_mayMeet_19 : decode cX1_mayMeet 19 = .ok (.aload_n 1, 1) := by decide +kernel
theorem dX1_mayMeet_20 : decode cX1_mayMeet 20 = .ok (.iload_n 2, 1) := by decide +kernel
theorem dX1_mayMeet_21 : decode cX1_mayMeet 21 = .ok (.aload_n 0, 1) := by decide +kernel
theorem dX1_mayMeet_22 : decode cX1_mayMeet 22 = .ok (.getfield 9, 3) := by decide +kernel
theorem dX1_mayMeet_25 : decode cX1_mayMeet 25 = .ok (.iload_n 3, 1) := by decide +kernel
theorem dX1_mayMeet_26 : decode cX1_mayMeet 26 = .ok (.iaload, 1) := by decide +kernel
theorem dX1_mayMeet_27 : decode cX1_mayMeet 27 = .ok (.aload_n 0, 1) := by decide +kernel
theorem dX1_mayMeet_28 : decode cX1_mayMeet 28 = .ok (.getfield 9, 3) := by decide +kernel
theorem dX1_mayMeet_31 : decode cX1_mayMeet 31 = .ok (.iload 4, 2) := by decide +kernel
theorem dX1_mayMeet_33 : decode cX1_mayMeet 33 = .ok (.iaload, 1) := by decide +kernel
theorem dX1_mayMeet_34 : decode cX1_mayMeet 34 = .ok (.invokevirtual 69, 3) := by decide +kernel
theorem dX1_mayMeet_37 : decode cX1_mayMeet 37 = .ok (.if_icmp .ne 7, 3) := by decide +kernel
theorem dX1_mayMeet_40 : decode cX1_mayMeet 40 = .ok (.iconst 1, 1) := by decide +kernel
theorem dX1_mayMeet_41 : decode cX1_mayMeet 41 = .ok (.goto 4, 3) := by decide +kernel
theorem dX1_mayMeet_44 : decode cX1_mayMeet 44 = .ok (.iconst 0, 1) := by decide +kernel
theorem dX1_mayMeet_45 : decode cX1_mayMeet 45 = .ok (.ireturn, 1) := by decide +kernel
theorem dX1_ways_0 : decode cX1_ways 0 = .ok (.iconst 0, 1) := by decide +kernel
theorem dX1_ways_1 : decode cX1_ways 1 = .ok (.istore_n 1, 1) := by decide +kernel
theorem dX1_ways_2 : decode cX1_ways 2 = .ok (.iconst 0, 1) := by decide +kernel
theorem dX1_ways_3 : decode cX1_ways 3 = .ok (.istore_n 2, 1) := by decide +kernel
theorem dX1_ways_4 : decode cX1_ways 4 = .ok (.aload_n 0, 1) := by decide +kernel
theorem dX1_ways_5 : decode cX1_ways 5 = .ok (.getfield 29, 3) := by decide +kernel
theorem dX1_ways_8 : decode cX1_ways 8 = .ok (.ifCond .le 28, 3) := by decide +kernel
theorem dX1_ways_11 : decode cX1_ways 11 = .ok (.iload_n 2, 1) := by decide +kernel
theorem dX1_ways_12 : decode cX1_ways 12 = .ok (.aload_n 0, 1) := by decide +kernel
theorem dX1_ways_13 : decode cX1_ways 13 = .ok (.getfield 41, 3) := by decide +kernel
theorem dX1_ways_16 : decode cX1_ways 16 = .ok (.if_icmp .ge 20, 3) := by decide +kernel
theorem dX1_ways_19 : decode cX1_ways 19 = .ok (.iload_n 1, 1) := by decide +kernel
theorem dX1_ways_20 : decode cX1_ways 20 = .ok (.aload_n 0, 1) := by decide +kernel
theorem dX1_ways_21 : decode cX1_ways 21 = .ok (.getfield 20, 3) := by decide +kernel
theorem dX1_ways_24 : decode cX1_ways 24 = .ok (.iconst 0, 1) := by decide +kernel
theorem dX1_ways_25 : decode cX1_ways 25 = .ok (.aaload, 1) := by decide +kernel
theorem dX1_ways_26 : decode cX1_ways 26 = .ok (.iload_n 2, 1) := by decide +kernel
theorem dX1_ways_27 : decode cX1_ways 27 = .ok (.iaload, 1) := by decide +kernel
theorem dX1_ways_28 : decode cX1_ways 28 = .ok (.iadd, 1) := by decide +kernel
theorem dX1_ways_29 : decode cX1_ways 29 = .ok (.istore_n 1, 1) := by decide +kernel
theorem dX1_ways_30 : decode cX1_ways 30 = .ok (.iinc 2 1, 3) := by decide +kernel
theorem dX1_ways_33 : decode cX1_ways 33 = .ok (.goto (-29), 3) := by decide +kernel
theorem dX1_ways_36 : decode cX1_ways 36 = .ok (.iload_n 1, 1) := by decide +kernel
theorem dX1_ways_37 : decode cX1_ways 37 = .ok (.ireturn, 1) := by decide +kernel
theorem dX1_toneOf_0 : decode cX1_toneOf 0 = .ok (.iconst (-1), 1) := by decide +kernel
theorem dX1_toneOf_1 : decode cX1_toneOf 1 = .ok (.istore_n 2, 1) := by decide +kernel
theorem dX1_toneOf_2 : decode cX1_toneOf 2 = .ok (.iconst 0, 1) := by decide +kernel
theorem dX1_toneOf_3 : decode cX1_toneOf 3 = .ok (.istore_n 3, 1) := by decide +kernel
theorem dX1_toneOf_4 : decode cX1_toneOf 4 = .ok (.iload_n 3, 1) := by decide +kernel
theorem dX1_toneOf_5 : decode cX1_toneOf 5 = .ok (.aload_n 0, 1) := by decide +kernel
theorem dX1_toneOf_6 : decode cX1_toneOf 6 = .ok (.getfield 41, 3) := by decide +kernel
theorem dX1_toneOf_9 : decode cX1_toneOf 9 = .ok (.if_icmp .ge 55, 3) := by decide +kernel
theorem dX1_toneOf_12 : decode cX1_toneOf 12 = .ok (.aload_n 0, 1) := by decide +kernel
theorem dX1_toneOf_13 : decode cX1_toneOf 13 = .ok (.getfield 17, 3) := by decide +kernel
theorem dX1_toneOf_16 : decode cX1_toneOf 16 = .ok (.iload_n 1, 1) := by decide +kernel
theorem dX1_toneOf_17 : decode cX1_toneOf 17 = .ok (.aaload, 1) := by decide +kernel
theorem dX1_toneOf_18 : decode cX1_toneOf 18 = .ok (.iload_n 3, 1) := by decide +kernel
theorem dX1_toneOf_19 : decode cX1_toneOf 19 = .ok (.iaload, 1) := by decide +kernel
theorem dX1_toneOf_20 : decode cX1_toneOf 20 = .ok (.ifCond .le 38, 3) := by decide +kernel
theorem dX1_toneOf_23 : decode cX1_toneOf 23 = .ok (.aload_n 0, 1) := by decide +kernel
theorem dX1_toneOf_24 : decode cX1_toneOf 24 = .ok (.getfield 20, 3) := by decide +kernel
theorem dX1_toneOf_27 : decode cX1_toneOf 27 = .ok (.iload_n 1, 1) := by decide +kernel
theorem dX1_toneOf_28 : decode cX1_toneOf 28 = .ok (.aaload, 1) := by decide +kernel
theorem dX1_toneOf_29 : decode cX1_toneOf 29 = .ok (.iload_n 3, 1) := by decide +kernel
theorem dX1_toneOf_30 : decode cX1_toneOf 30 = .ok (.iaload, 1) := by decide +kernel
theorem dX1_toneOf_31 : decode cX1_toneOf 31 = .ok (.ifCond .le 27, 3) := by decide +kernel
theorem dX1_toneOf_34 : decode cX1_toneOf 34 = .ok (.iload_n 2, 1) := by decide +kernel
theorem dX1_toneOf_35 : decode cX1_toneOf 35 = .ok (.iconst (-1), 1) := by decide +kernel
theorem dX1_toneOf_36 : decode cX1_toneOf 36 = .ok (.if_icmp .eq 15, 3) := by decide +kernel
theorem dX1_toneOf_39 : decode cX1_toneOf 39 = .ok (.iload_n 2, 1) := by decide +kernel
theorem dX1_toneOf_40 : decode cX1_toneOf 40 = .ok (.aload_n 0, 1) := by decide +kernel
theorem dX1_toneOf_41 : decode cX1_toneOf 41 = .ok (.getfield 9, 3) := by decide +kernel
theorem dX1_toneOf_44 : decode cX1_toneOf 44 = .ok (.iload_n 3, 1) := by decide +kernel
theorem dX1_toneOf_45 : decode cX1_toneOf 45 = .ok (.iaload, 1) := by decide +kernel
theorem dX1_toneOf_46 : decode cX1_toneOf 46 = .ok (.if_icmp .eq 5, 3) := by decide +kernel
theorem dX1_toneOf_49 : decode cX1_toneOf 49 = .ok (.iconst (-1), 1) := by decide +kernel
theorem dX1_toneOf_50 : decode cX1_toneOf 50 = .ok (.ireturn, 1) := by decide +kernel
theorem dX1_toneOf_51 : decode cX1_toneOf 51 = .ok (.aload_n 0, 1) := by decide +kernel
theorem dX1_toneOf_52 : decode cX1_toneOf 52 = .ok (.getfield 9, 3) := by decide +kernel
theorem dX1_toneOf_55 : decode cX1_toneOf 55 = .ok (.iload_n 3, 1) := by decide +kernel
theorem dX1_toneOf_56 : decode cX1_toneOf 56 = .ok (.iaload, 1) := by decide +kernel
theorem dX1_toneOf_57 : decode cX1_toneOf 57 = .ok (.istore_n 2, 1) := by decide +kernel
theorem dX1_toneOf_58 : decode cX1_toneOf 58 = .ok (.iinc 3 1, 3) := by decide +kernel
theorem dX1_toneOf_61 : decode cX1_toneOf 61 = .ok (.goto (-57), 3) := by decide +kernel
theorem dX1_toneOf_64 : decode cX1_toneOf 64 = .ok (.iload_n 2, 1) := by decide +kernel
theorem dX1_toneOf_65 : decode cX1_toneOf 65 = .ok (.ireturn, 1) := by decide +kernel
theorem dX2_init_0 : decode cX2_init 0 = .ok (.aload_n 0, 1) := by decide +kernel
theorem dX2_init_1 : decode cX2_init 1 = .ok (.invokespecial 3, 3) := by decide +kernel
theorem dX2_init_4 : decode cX2_init 4 = .ok (.return_, 1) := by decide +kernel
theorem dX2_begin_0 : decode cX2_begin 0 = .ok (.aload_n 0, 1) := by decide +kernel
theorem dX2_begin_1 : decode cX2_begin 1 = .ok (.iload_n 1, 1) := by decide +kernel
theorem dX2_begin_2 : decode cX2_begin 2 = .ok (.putfield 9, 3) := by decide +kernel
theorem dX2_begin_5 : decode cX2_begin 5 = .ok (.aload_n 0, 1) := by decide +kernel
theorem dX2_begin_6 : decode cX2_begin 6 = .ok (.iconst 0, 1) := by decide +kernel
theorem dX2_begin_7 : decode cX2_begin 7 = .ok (.putfield 15, 3) := by decide +kernel
theorem dX2_begin_10 : decode cX2_begin 10 = .ok (.aload_n 0, 1) := by decide +kernel
theorem dX2_begin_11 : decode cX2_begin 11 = .ok (.iconst 0, 1) := by decide +kernel
theorem dX2_begin_12 : decode cX2_begin 12 = .ok (.putfield 18, 3) := by decide +kernel
theorem dX2_begin_15 : decode cX2_begin 15 = .ok (.return_, 1) := by decide +kernel
theorem dX2_copy_0 : decode cX2_copy 0 = .ok (.aload_n 0, 1) := by decide +kernel
theorem dX2_copy_1 : decode cX2_copy 1 = .ok (.aload_n 1, 1) := by decide +kernel
theorem dX2_copy_2 : decode cX2_copy 2 = .ok (.getfield 9, 3) := by decide +kernel
theorem dX2_copy_5 : decode cX2_copy 5 = .ok (.putfield 9, 3) := by decide +kernel
theorem dX2_copy_8 : decode cX2_copy 8 = .ok (.aload_n 0, 1) := by decide +kernel
theorem dX2_copy_9 : decode cX2_copy 9 = .ok (.aload_n 1, 1) := by decide +kernel
theorem dX2_copy_10 : decode cX2_copy 10 = .ok (.getfield 15, 3) := by decide +kernel
theorem dX2_copy_13 : decode cX2_copy 13 = .ok (.putfield 15, 3) := by decide +kernel
theorem dX2_copy_16 : decode cX2_copy 16 = .ok (.aload_n 0, 1) := by decide +kernel
theorem dX2_copy_17 : decode cX2_copy 17 = .ok (.aload_n 1, 1) := by decide +kernel
theorem dX2_copy_18 : decode cX2_copy 18 = .ok (.getfield 18, 3) := by decide +kernel
theorem dX2_copy_21 : decode cX2_copy 21 = .ok (.putfield 18, 3) := by decide +kernel
theorem dX2_copy_24 : decode cX2_copy 24 = .ok (.return_, 1) := by decide +kernel
theorem dX2_rows_0 : decode cX2_rows 0 = .ok (.iconst 4, 1) := by decide +kernel
theorem dX2_rows_1 : decode cX2_rows 1 = .ok (.aload_n 0, 1) := by decide +kernel
theorem dX2_rows_2 : decode cX2_rows 2 = .ok (.getfield 15, 3) := by decide +kernel
theorem dX2_rows_5 : decode cX2_rows 5 = .ok (.imul, 1) := by decide +kernel
theorem dX2_rows_6 : decode cX2_rows 6 = .ok (.aload_n 0, 1) := by decide +kernel
theorem dX2_rows_7 : decode cX2_rows 7 = .ok (.getfield 18, 3) := by decide +kernel
theorem dX2_rows_10 : decode cX2_rows 10 = .ok (.iadd, 1) := by decide +kernel
theorem dX2_rows_11 : decode cX2_rows 11 = .ok (.ireturn, 1) := by decide +kernel
theorem dX2_take_0 : decode cX2_take 0 = .ok (.iconst 0, 1) := by decide +kernel
theorem dX2_take_1 : decode cX2_take 1 = .ok (.iload_n 1, 1) := by decide +kernel
theorem dX2_take_2 : decode cX2_take 2 = .ok (.aload_n 0, 1) := by decide +kernel
theorem dX2_take_3 : decode cX2_take 3 = .ok (.getfield 18, 3) := by decide +kernel
theorem dX2_take_6 : decode cX2_take 6 = .ok (.isub, 1) := by decide +kernel
theorem dX2_take_7 : decode cX2_take 7 = .ok (.invokestatic 21, 3) := by decide +kernel
theorem dX2_take_10 : decode cX2_take 10 = .ok (.istore_n 2, 1) := by decide +kernel
theorem dX2_take_11 : decode cX2_take 11 = .ok (.iload_n 2, 1) := by decide +kernel
theorem dX2_take_12 : decode cX2_take 12 = .ok (.iconst 4, 1) := by decide +kernel
theorem dX2_take_13 : decode cX2_take 13 = .ok (.iadd, 1) := by decide +kernel
theorem dX2_take_14 : decode cX2_take 14 = .ok (.iconst 1, 1) := by decide +kernel
theorem dX2_take_15 : decode cX2_take 15 = .ok (.isub, 1) := by decide +kernel
theorem dX2_take_16 : decode cX2_take 16 = .ok (.iconst 4, 1) := by decide +kernel
theorem dX2_take_17 : decode cX2_take 17 = .ok (.idiv, 1) := by decide +kernel
theorem dX2_take_18 : decode cX2_take 18 = .ok (.istore_n 3, 1) := by decide +kernel
theorem dX2_take_19 : decode cX2_take 19 = .ok (.aload_n 0, 1) := by decide +kernel
theorem dX2_take_20 : decode cX2_take 20 = .ok (.dup, 1) := by decide +kernel
theorem dX2_take_21 : decode cX2_take 21 = .ok (.getfield 15, 3) := by decide +kernel
theorem dX2_take_24 : decode cX2_take 24 = .ok (.iload_n 3, 1) := by decide +kernel
theorem dX2_take_25 : decode cX2_take 25 = .ok (.isub, 1) := by decide +kernel
theorem dX2_take_26 : decode cX2_take 26 = .ok (.putfield 15, 3) := by decide +kernel
theorem dX2_take_29 : decode cX2_take 29 = .ok (.aload_n 0, 1) := by decide +kernel
theorem dX2_take_30 : decode cX2_take 30 = .ok (.dup, 1) := by decide +kernel
theorem dX2_take_31 : decode cX2_take 31 = .ok (.getfield 18, 3) := by decide +kernel
theorem dX2_take_34 : decode cX2_take 34 = .ok (.iconst 4, 1) := by decide +kernel
theorem dX2_take_35 : decode cX2_take 35 = .ok (.iload_n 3, 1) := by decide +kernel
theorem dX2_take_36 : decode cX2_take 36 = .ok (.imul, 1) := by decide +kernel
theorem dX2_take_37 : decode cX2_take 37 = .ok (.iload_n 1, 1) := by decide +kernel
theorem dX2_take_38 : decode cX2_take 38 = .ok (.isub, 1) := by decide +kernel
theorem dX2_take_39 : decode cX2_take 39 = .ok (.iadd, 1) := by decide +kernel
theorem dX2_take_40 : decode cX2_take 40 = .ok (.putfield 18, 3) := by decide +kernel
theorem dX2_take_43 : decode cX2_take 43 = .ok (.return_, 1) := by decide +kernel
theorem dX2_loosen_0 : decode cX2_loosen 0 = .ok (.iload_n 1, 1) := by decide +kernel
theorem dX2_loosen_1 : decode cX2_loosen 1 = .ok (.ifCond .ne 5, 3) := by decide +kernel
theorem dX2_loosen_4 : decode cX2_loosen 4 = .ok (.iconst 0, 1) := by decide +kernel
theorem dX2_loosen_5 : decode cX2_loosen 5 = .ok (.ireturn, 1) := by decide +kernel
theorem dX2_loosen_6 : decode cX2_loosen 6 = .ok (.aload_n 0, 1) := by decide +kernel
theorem dX2_loosen_7 : decode cX2_loosen 7 = .ok (.dup, 1) := by decide +kernel
theorem dX2_loosen_8 : decode cX2_loosen 8 = .ok (.getfield 18, 3) := by decide +kernel
theorem dX2_loosen_11 : decode cX2_loosen 11 = .ok (.iload_n 1, 1) := by decide +kernel
theorem dX2_loosen_12 : decode cX2_loosen 12 = .ok (.iconst 1, 1) := by decide +kernel
theorem dX2_loosen_13 : decode cX2_loosen 13 = .ok (.isub, 1) := by decide +kernel
theorem dX2_loosen_14 : decode cX2_loosen 14 = .ok (.iadd, 1) := by decide +kernel
theorem dX2_loosen_15 : decode cX2_loosen 15 = .ok (.putfield 18, 3) := by decide +kernel
theorem dX2_loosen_18 : decode cX2_loosen 18 = .ok (.iconst 1, 1) := by decide +kernel
theorem dX2_loosen_19 : decode cX2_loosen 19 = .ok (.ireturn, 1) := by decide +kernel
theorem dX2_tell_0 : decode cX2_tell 0 = .ok (.iload_n 1, 1) := by decide +kernel
theorem dX2_tell_1 : decode cX2_tell 1 = .ok (.lookupswitch 37 #[(0, 27), (1, 32)], 27) := by decide +kernel
theorem dX2_tell_28 : decode cX2_tell 28 = .ok (.aload_n 0, 1) := by decide +kernel
theorem dX2_tell_29 : decode cX2_tell 29 = .ok (.getfield 9, 3) := by decide +kernel
theorem dX2_tell_32 : decode cX2_tell 32 = .ok (.ireturn, 1) := by decide +kernel
theorem dX2_tell_33 : decode cX2_tell 33 = .ok (.aload_n 0, 1) := by decide +kernel
theorem dX2_tell_34 : decode cX2_tell 34 = .ok (.getfield 15, 3) := by decide +kernel
theorem dX2_tell_37 : decode cX2_tell 37 = .ok (.ireturn, 1) := by decide +kernel
theorem dX2_tell_38 : decode cX2_tell 38 = .ok (.aload_n 0, 1) := by decide +kernel
theorem dX2_tell_39 : decode cX2_tell 39 = .ok (.getfield 18, 3) := by decide +kernel
theorem dX2_tell_42 : decode cX2_tell 42 = .ok (.ireturn, 1) := by decide +kernel
theorem dX3_init_0 : decode cX3_init 0 = .ok (.aload_n 0, 1) := by decide +kernel
theorem dX3_init_1 : decode cX3_init 1 = .ok (.invokespecial 3, 3) := by decide +kernel
theorem dX3_init_4 : decode cX3_init 4 = .ok (.aload_n 0, 1) := by decide +kernel
theorem dX3_init_5 : decode cX3_init 5 = .ok (.bipush 18, 2) := by decide +kernel
theorem dX3_init_7 : decode cX3_init 7 = .ok (.newarray .int, 2) := by decide +kernel
theorem dX3_init_9 : decode cX3_init 9 = .ok (.putfield 9, 3) := by decide +kernel
theorem dX3_init_12 : decode cX3_init 12 = .ok (.return_, 1) := by decide +kernel
theorem dX3_put_0 : decode cX3_put 0 = .ok (.aload_n 0, 1) := by decide +kernel
theorem dX3_put_1 : decode cX3_put 1 = .ok (.getfield 15, 3) := by decide +kernel
theorem dX3_put_4 : decode cX3_put 4 = .ok (.aload_n 0, 1) := by decide +kernel
theorem dX3_put_5 : decode cX3_put 5 = .ok (.getfield 9, 3) := by decide +kernel
theorem dX3_put_8 : decode cX3_put 8 = .ok (.arraylength, 1) := by decide +kernel
theorem dX3_put_9 : decode cX3_put 9 = .ok (.if_icmp .ge 23, 3) := by decide +kernel
theorem dX3_put_12 : decode cX3_put 12 = .ok (.aload_n 0, 1) := by decide +kernel
theorem dX3_put_13 : decode cX3_put 13 = .ok (.getfield 9, 3) := by decide +kernel
theorem dX3_put_16 : decode cX3_put 16 = .ok (.aload_n 0, 1) := by decide +kernel
theorem dX3_put_17 : decode cX3_put 17 = .ok (.getfield 15, 3) := by decide +kernel
theorem dX3_put_20 : decode cX3_put 20 = .ok (.iload_n 1, 1) := by decide +kernel
theorem dX3_put_21 : decode cX3_put 21 = .ok (.iastore, 1) := by decide +kernel
theorem dX3_put_22 : decode cX3_put 22 = .ok (.aload_n 0, 1) := by decide +kernel
theorem dX3_put_23 : decode cX3_put 23 = .ok (.dup, 1) := by decide +kernel
theorem dX3_put_24 : decode cX3_put 24 = .ok (.getfield 15, 3) := by decide +kernel
theorem dX3_put_27 : decode cX3_put 27 = .ok (.iconst 1, 1) := by decide +kernel
theorem dX3_put_28 : decode cX3_put 28 = .ok (.iadd, 1) := by decide +kernel
theorem dX3_put_29 : decode cX3_put 29 = .ok (.putfield 15, 3) := by decide +kernel
theorem dX3_put_32 : decode cX3_put 32 = .ok (.return_, 1) := by decide +kernel
theorem dX3_firstFault_0 : decode cX3_firstFault 0 = .ok (.iconst (-1), 1) := by decide +kernel
theorem dX3_firstFault_1 : decode cX3_firstFault 1 = .ok (.istore_n 1, 1) := by decide +kernel
theorem dX3_firstFault_2 : decode cX3_firstFault 2 = .ok (.iconst 0, 1) := by decide +kernel
theorem dX3_firstFault_3 : decode cX3_firstFault 3 = .ok (.istore_n 2, 1) := by decide +kernel
theorem dX3_firstFault_4 : decode cX3_firstFault 4 = .ok (.iload_n 2, 1) := by decide +kernel
theorem dX3_firstFault_5 : decode cX3_firstFault 5 = .ok (.aload_n 0, 1) := by decide +kernel
theorem dX3_firstFault_6 : decode cX3_firstFault 6 = .ok (.getfield 15, 3) := by decide +kernel
theorem dX3_firstFault_9 : decode cX3_firstFault 9 = .ok (.if_icmp .ge 38, 3) := by decide +kernel
theorem dX3_firstFault_12 : decode cX3_firstFault 12 = .ok (.aload_n 0, 1) := by decide +kernel
theorem dX3_firstFault_13 : decode cX3_firstFault 13 = .ok (.getfield 9, 3) := by decide +kernel
theorem dX3_firstFault_16 : decode cX3_firstFault 16 = .ok (.iload_n 2, 1) := by decide +kernel
theorem dX3_firstFault_17 : decode cX3_firstFault 17 = .ok (.iaload, 1) := by decide +kernel
theorem dX3_firstFault_18 : decode cX3_firstFault 18 = .ok (.iload_n 2, 1) := by decide +kernel
theorem dX3_firstFault_19 : decode cX3_firstFault 19 = .ok (.iload_n 1, 1) := by decide +kernel
theorem dX3_firstFault_20 : decode cX3_firstFault 20 = .ok (.invokestatic 19, 3) := by decide +kernel
theorem dX3_firstFault_23 : decode cX3_firstFault 23 = .ok (.ifCond .ne 5, 3) := by decide +kernel
theorem dX3_firstFault_26 : decode cX3_firstFault 26 = .ok (.iload_n 2, 1) := by decide +kernel
theorem dX3_firstFault_27 : decode cX3_firstFault 27 = .ok (.ireturn, 1) := by decide +kernel
theorem dX3_firstFault_28 : decode cX3_firstFault 28 = .ok (.aload_n 0, 1) := by decide +kernel
theorem dX3_firstFault_29 : decode cX3_firstFault 29 = .ok (.getfield 9, 3) := by decide +kernel
theorem dX3_firstFault_32 : decode cX3_firstFault 32 = .ok (.iload_n 2, 1) := by decide +kernel
theorem dX3_firstFault_33 : decode cX3_firstFault 33 = .ok (.iaload, 1) := by decide +kernel
theorem dX3_firstFault_34 : decode cX3_firstFault 34 = .ok (.bipush 59, 2) := by decide +kernel
theorem dX3_firstFault_36 : decode cX3_firstFault 36 = .ok (.if_icmp .ne 5, 3) := by decide +kernel
theorem dX3_firstFault_39 : decode cX3_firstFault 39 = .ok (.iload_n 2, 1) := by decide +kernel
theorem dX3_firstFault_40 : decode cX3_firstFault 40 = .ok (.istore_n 1, 1) := by decide +kernel
theorem dX3_firstFault_41 : decode cX3_firstFault 41 = .ok (.iinc 2 1, 3) := by decide +kernel
theorem dX3_firstFault_44 : decode cX3_firstFault 44 = .ok (.goto (-40), 3) := by decide +kernel
theorem dX3_firstFault_47 : decode cX3_firstFault 47 = .ok (.aload_n 0, 1) := by decide +kernel
theorem dX3_firstFault_48 : decode cX3_firstFault 48 = .ok (.getfield 15, 3) := by decide +kernel
theorem dX3_firstFault_51 : decode cX3_firstFault 51 = .ok (.ireturn, 1) := by decide +kernel
theorem dX3_mayStand_0 : decode cX3_mayStand 0 = .ok (.iload_n 2, 1) := by decide +kernel
theorem dX3_mayStand_1 : decode cX3_mayStand 1 = .ok (.iconst (-1), 1) := by decide +kernel
theorem dX3_mayStand_2 : decode cX3_mayStand 2 = .ok (.if_icmp .eq 28, 3) := by decide +kernel
theorem dX3_mayStand_5 : decode cX3_mayStand 5 = .ok (.iload_n 1, 1) := by decide +kernel
theorem dX3_mayStand_6 : decode cX3_mayStand 6 = .ok (.iload_n 2, 1) := by decide +kernel
theorem dX3_mayStand_7 : decode cX3_mayStand 7 = .ok (.iconst 1, 1) := by decide +kernel
theorem dX3_mayStand_8 : decode cX3_mayStand 8 = .ok (.iadd, 1) := by decide +kernel
theorem dX3_mayStand_9 : decode cX3_mayStand 9 = .ok (.if_icmp .ne 19, 3) := by decide +kernel
theorem dX3_mayStand_12 : decode cX3_mayStand 12 = .ok (.iload_n 0, 1) := by decide +kernel
theorem dX3_mayStand_13 : decode cX3_mayStand 13 = .ok (.bipush 48, 2) := by decide +kernel
theorem dX3_mayStand_15 : decode cX3_mayStand 15 = .ok (.if_icmp .lt 13, 3) := by decide +kernel
theorem dX3_mayStand_18 : decode cX3_mayStand 18 = .ok (.iload_n 0, 1) := by decide +kernel
theorem dX3_mayStand_19 : decode cX3_mayStand 19 = .ok (.bipush 51, 2) := by decide +kernel
theorem dX3_mayStand_21 : decode cX3_mayStand 21 = .ok (.if_icmp .gt 7, 3) := by decide +kernel
theorem dX3_mayStand_24 : decode cX3_mayStand 24 = .ok (.iconst 1, 1) := by decide +kernel
theorem dX3_mayStand_25 : decode cX3_mayStand 25 = .ok (.goto 4, 3) := by decide +kernel
theorem dX3_mayStand_28 : decode cX3_mayStand 28 = .ok (.iconst 0, 1) := by decide +kernel
theorem dX3_mayStand_29 : decode cX3_mayStand 29 = .ok (.ireturn, 1) := by decide +kernel
theorem dX3_mayStand_30 : decode cX3_mayStand 30 = .ok (.iload_n 1, 1) := by decide +kernel
theorem dX3_mayStand_31 : decode cX3_mayStand 31 = .ok (.iconst 3, 1) := by decide +kernel
theorem dX3_mayStand_32 : decode cX3_mayStand 32 = .ok (.irem, 1) := by decide +kernel
theorem dX3_mayStand_33 : decode cX3_mayStand 33 = .ok (.ifCond .ne 19, 3) := by decide +kernel
theorem dX3_mayStand_36 : decode cX3_mayStand 36 = .ok (.ldc 23, 2) := by decide +kernel
theorem dX3_mayStand_38 : decode cX3_mayStand 38 = .ok (.iload_n 0, 1) := by decide +kernel
theorem dX3_mayStand_39 : decode cX3_mayStand 39 = .ok (.i2c, 1) := by decide +kernel
theorem dX3_mayStand_40 : decode cX3_mayStand 40 = .ok (.invokevirtual 25, 3) := by decide +kernel
theorem dX3_mayStand_43 : decode cX3_mayStand 43 = .ok (.ifCond .lt 7, 3) := by decide +kernel
theorem dX3_mayStand_46 : decode cX3_mayStand 46 = .ok (.iconst 1, 1) := by decide +kernel
theorem dX3_mayStand_47 : decode cX3_mayStand 47 = .ok (.goto 4, 3) := by decide +kernel
theorem dX3_mayStand_50 : decode cX3_mayStand 50 = .ok (.iconst 0, 1) := by decide +kernel
theorem dX3_mayStand_51 : decode cX3_mayStand 51 = .ok (.ireturn, 1) := by decide +kernel
theorem dX3_mayStand_52 : decode cX3_mayStand 52 = .ok (.iload_n 1, 1) := by decide +kernel
theorem dX3_mayStand_53 : decode cX3_mayStand 53 = .ok (.iconst 3, 1) := by decide +kernel
theorem dX3_mayStand_54 : decode cX3_mayStand 54 = .ok (.irem, 1) := by decide +kernel
theorem dX3_mayStand_55 : decode cX3_mayStand 55 = .ok (.iconst 1, 1) := by decide +kernel
theorem dX3_mayStand_56 : decode cX3_mayStand 56 = .ok (.if_icmp .ne 21, 3) := by decide +kernel
theorem dX3_mayStand_59 : decode cX3_mayStand 59 = .ok (.iload_n 0, 1) := by decide +kernel
theorem dX3_mayStand_60 : decode cX3_mayStand 60 = .ok (.bipush 49, 2) := by decide +kernel
theorem dX3_mayStand_62 : decode cX3_mayStand 62 = .ok (.if_icmp .lt 13, 3) := by decide +kernel
theorem dX3_mayStand_65 : decode cX3_mayStand 65 = .ok (.iload_n 0, 1) := by decide +kernel
theorem dX3_mayStand_66 : decode cX3_mayStand 66 = .ok (.bipush 57, 2) := by decide +kernel
theorem dX3_mayStand_68 : decode cX3_mayStand 68 = .ok (.if_icmp .gt 7, 3) := by decide +kernel
theorem dX3_mayStand_71 : decode cX3_mayStand 71 = .ok (.iconst 1, 1) := by decide +kernel
theorem dX3_mayStand_72 : decode cX3_mayStand 72 = .ok (.goto 4, 3) := by decide +kernel
theorem dX3_mayStand_75 : decode cX3_mayStand 75 = .ok (.iconst 0, 1) := by decide +kernel
theorem dX3_mayStand_76 : decode cX3_mayStand 76 = .ok (.ireturn, 1) := by decide +kernel
theorem dX3_mayStand_77 : decode cX3_mayStand 77 = .ok (.iload_n 1, 1) := by decide +kernel
theorem dX3_mayStand_78 : decode cX3_mayStand 78 = .ok (.iconst 1, 1) := by decide +kernel
theorem dX3_mayStand_79 : decode cX3_mayStand 79 = .ok (.iadd, 1) := by decide +kernel
theorem dX3_mayStand_80 : decode cX3_mayStand 80 = .ok (.iconst 3, 1) := by decide +kernel
theorem dX3_mayStand_81 : decode cX3_mayStand 81 = .ok (.idiv, 1) := by decide +kernel
theorem dX3_mayStand_82 : decode cX3_mayStand 82 = .ok (.istore_n 3, 1) := by decide +kernel
theorem dX3_mayStand_83 : decode cX3_mayStand 83 = .ok (.iload_n 0, 1) := by decide +kernel
theorem dX3_mayStand_84 : decode cX3_mayStand 84 = .ok (.bipush 44, 2) := by decide +kernel
theorem dX3_mayStand_86 : decode cX3_mayStand 86 = .ok (.if_icmp .ne 14, 3) := by decide +kernel
theorem dX3_mayStand_89 : decode cX3_mayStand 89 = .ok (.iload_n 3, 1) := by decide +kernel
theorem dX3_mayStand_90 : decode cX3_mayStand 90 = .ok (.iconst 5, 1) := by decide +kernel
theorem dX3_mayStand_91 : decode cX3_mayStand 91 = .ok (.if_icmp .ge 7, 3) := by decide +kernel
theorem dX3_mayStand_94 : decode cX3_mayStand 94 = .ok (.iconst 1, 1) := by decide +kernel
theorem dX3_mayStand_95 : decode cX3_mayStand 95 = .ok (.goto 4, 3) := by decide +kernel
theorem dX3_mayStand_98 : decode cX3_mayStand 98 = .ok (.iconst 0, 1) := by decide +kernel
theorem dX3_mayStand_99 : decode cX3_mayStand 99 = .ok (.ireturn, 1) := by decide +kernel
theorem dX3_mayStand_100 : decode cX3_mayStand 100 = .ok (.iload_n 0, 1) := by decide +kernel
theorem dX3_mayStand_101 : decode cX3_mayStand 101 = .ok (.bipush 59, 2) := by decide +kernel
theorem dX3_mayStand_103 : decode cX3_mayStand 103 = .ok (.if_icmp .ne 12, 3) := by decide +kernel
theorem dX3_mayStand_106 : decode cX3_mayStand 106 = .ok (.iload_n 3, 1) := by decide +kernel
theorem dX3_mayStand_107 : decode cX3_mayStand 107 = .ok (.iconst 2, 1) := by decide +kernel
theorem dX3_mayStand_108 : decode cX3_mayStand 108 = .ok (.if_icmp .lt 7, 3) := by decide +kernel
theorem dX3_mayStand_111 : decode cX3_mayStand 111 = .ok (.iconst 1, 1) := by decide +kernel
theorem dX3_mayStand_112 : decode cX3_mayStand 112 = .ok (.goto 4, 3) := by decide +kernel
theorem dX3_mayStand_115 : decode cX3_mayStand 115 = .ok (.iconst 0, 1) := by decide +kernel
theorem dX3_mayStand_116 : decode cX3_mayStand 116 = .ok (.ireturn, 1) := by decide +kernel
theorem dX3_isWhole_0 : decode cX3_isWhole 0 = .ok (.aload_n 0, 1) := by decide +kernel
theorem dX3_isWhole_1 : decode cX3_isWhole 1 = .ok (.getfield 15, 3) := by decide +kernel
theorem dX3_isWhole_4 : decode cX3_isWhole 4 = .ok (.iconst 2, 1) := by decide +kernel
theorem dX3_isWhole_5 : decode cX3_isWhole 5 = .ok (.if_icmp .lt 34, 3) := by decide +kernel
theorem dX3_isWhole_8 : decode cX3_isWhole 8 = .ok (.aload_n 0, 1) := by decide +kernel
theorem dX3_isWhole_9 : decode cX3_isWhole 9 = .ok (.getfield 9, 3) := by decide +kernel
theorem dX3_isWhole_12 : decode cX3_isWhole 12 = .ok (.aload_n 0, 1) := by decide +kernel
theorem dX3_isWhole_13 : decode cX3_isWhole 13 = .ok (.getfield 15, 3) := by decide +kernel
theorem dX3_isWhole_16 : decode cX3_isWhole 16 = .ok (.iconst 2, 1) := by decide +kernel
theorem dX3_isWhole_17 : decode cX3_isWhole 17 = .ok (.isub, 1) := by decide +kernel
theorem dX3_isWhole_18 : decode cX3_isWhole 18 = .ok (.iaload, 1) := by decide +kernel
theorem dX3_isWhole_19 : decode cX3_isWhole 19 = .ok (.bipush 59, 2) := by decide +kernel
theorem dX3_isWhole_21 : decode cX3_isWhole 21 = .ok (.if_icmp .ne 18, 3) := by decide +kernel
theorem dX3_isWhole_24 : decode cX3_isWhole 24 = .ok (.aload_n 0, 1) := by decide +kernel
theorem dX3_isWhole_25 : decode cX3_isWhole 25 = .ok (.invokevirtual 31, 3) := by decide +kernel
theorem dX3_isWhole_28 : decode cX3_isWhole 28 = .ok (.aload_n 0, 1) := by decide +kernel
theorem dX3_isWhole_29 : decode cX3_isWhole 29 = .ok (.getfield 15, 3) := by decide +kernel
theorem dX3_isWhole_32 : decode cX3_isWhole 32 = .ok (.if_icmp .ne 7, 3) := by decide +kernel
theorem dX3_isWhole_35 : decode cX3_isWhole 35 = .ok (.iconst 1, 1) := by decide +kernel
theorem dX3_isWhole_36 : decode cX3_isWhole 36 = .ok (.goto 4, 3) := by decide +kernel
theorem dX3_isWhole_39 : decode cX3_isWhole 39 = .ok (.iconst 0, 1) := by decide +kernel
theorem dX3_isWhole_40 : decode cX3_isWhole 40 = .ok (.ireturn, 1) := by decide +kernel
theorem dX4_init_0 : decode cX4_init 0 = .ok (.aload_n 0, 1) := by decide +kernel
theorem dX4_init_1 : decode cX4_init 1 = .ok (.invokespecial 3, 3) := by decide +kernel
theorem dX4_init_4 : decode cX4_init 4 = .ok (.return_, 1) := by decide +kernel
theorem dX4_begin_0 : decode cX4_begin 0 = .ok (.aload_n 0, 1) := by decide +kernel
theorem dX4_begin_1 : decode cX4_begin 1 = .ok (.iload_n 1, 1) := by decide +kernel
theorem dX4_begin_2 : decode cX4_begin 2 = .ok (.putfield 9, 3) := by decide +kernel
theorem dX4_begin_5 : decode cX4_begin 5 = .ok (.aload_n 0, 1) := by decide +kernel
theorem dX4_begin_6 : decode cX4_begin 6 = .ok (.iload_n 2, 1) := by decide +kernel
theorem dX4_begin_7 : decode cX4_begin 7 = .ok (.putfield 15, 3) := by decide +kernel
theorem dX4_begin_10 : decode cX4_begin 10 = .ok (.aload_n 0, 1) := by decide +kernel
theorem dX4_begin_11 : decode cX4_begin 11 = .ok (.iconst (-1), 1) := by decide +kernel
theorem dX4_begin_12 : decode cX4_begin 12 = .ok (.putfield 18, 3) := by decide +kernel
theorem dX4_begin_15 : decode cX4_begin 15 = .ok (.aload_n 0, 1) := by decide +kernel
theorem dX4_begin_16 : decode cX4_begin 16 = .ok (.invokevirtual 21, 3) := by decide +kernel
theorem dX4_begin_19 : decode cX4_begin 19 = .ok (.return_, 1) := by decide +kernel
theorem dX4_clear_0 : decode cX4_clear 0 = .ok (.aload_n 0, 1) := by decide +kernel
theorem dX4_clear_1 : decode cX4_clear 1 = .ok (.iconst (-1), 1) := by decide +kernel
theorem dX4_clear_2 : decode cX4_clear 2 = .ok (.putfield 24, 3) := by decide +kernel
theorem dX4_clear_5 : decode cX4_clear 5 = .ok (.aload_n 0, 1) := by decide +kernel
theorem dX4_clear_6 : decode cX4_clear 6 = .ok (.iconst (-1), 1) := by decide +kernel
theorem dX4_clear_7 : decode cX4_clear 7 = .ok (.putfield 27, 3) := by decide +kernel
theorem dX4_clear_10 : decode cX4_clear 10 = .ok (.aload_n 0, 1) := by decide +kernel
theorem dX4_clear_11 : decode cX4_clear 11 = .ok (.iconst 0, 1) := by decide +kernel
theorem dX4_clear_12 : decode cX4_clear 12 = .ok (.putfield 30, 3) := by decide +kernel
theorem dX4_clear_15 : decode cX4_clear 15 = .ok (.aload_n 0, 1) := by decide +kernel
theorem dX4_clear_16 : decode cX4_clear 16 = .ok (.iconst 0, 1) := by decide +kernel
theorem dX4_clear_17 : decode cX4_clear 17 = .ok (.putfield 33, 3) := by decide +kernel
theorem dX4_clear_20 : decode cX4_clear 20 = .ok (.aload_n 0, 1) := by decide +kernel
theorem dX4_clear_21 : decode cX4_clear 21 = .ok (.iconst 0, 1) := by decide +kernel
theorem dX4_clear_22 : decode cX4_clear 22 = .ok (.putfield 36, 3) := by decide +kernel
theorem dX4_clear_25 : decode cX4_clear 25 = .ok (.return_, 1) := by decide +kernel
theorem dX4_copy_0 : decode cX4_copy 0 = .ok (.aload_n 0, 1) := by decide +kernel
theorem dX4_copy_1 : decode cX4_copy 1 = .ok (.aload_n 1, 1) := by decide +kernel
theorem dX4_copy_2 : decode cX4_copy 2 = .ok (.getfield 9, 3) := by decide +kernel
theorem dX4_copy_5 : decode cX4_copy 5 = .ok (.putfield 9, 3) := by decide +kernel
theorem dX4_copy_8 : decode cX4_copy 8 = .ok (.aload_n 0, 1) := by decide +kernel
theorem dX4_copy_9 : decode cX4_copy 9 = .ok (.aload_n 1, 1) := by decide +kernel
theorem dX4_copy_10 : decode cX4_copy 10 = .ok (.getfield 15, 3) := by decide +kernel
theorem dX4_copy_13 : decode cX4_copy 13 = .ok (.putfield 15, 3) := by decide +kernel
theorem dX4_copy_16 : decode cX4_copy 16 = .ok (.aload_n 0, 1) := by decide +kernel
theorem dX4_copy_17 : decode cX4_copy 17 = .ok (.aload_n 1, 1) := by decide +kernel
theorem dX4_copy_18 : decode cX4_copy 18 = .ok (.getfield 24, 3) := by decide +kernel
theorem dX4_copy_21 : decode cX4_copy 21 = .ok (.putfield 24, 3) := by decide +kernel
theorem dX4_copy_24 : decode cX4_copy 24 = .ok (.aload_n 0, 1) := by decide +kernel
theorem dX4_copy_25 : decode cX4_copy 25 = .ok (.aload_n 1, 1) := by decide +kernel
theorem dX4_copy_26 : decode cX4_copy 26 = .ok (.getfield 27, 3) := by decide +kernel
theorem dX4_copy_29 : decode cX4_copy 29 = .ok (.putfield 27, 3) := by decide +kernel
theorem dX4_copy_32 : decode cX4_copy 32 = .ok (.aload_n 0, 1) := by decide +kernel
theorem dX4_copy_33 : decode cX4_copy 33 = .ok (.aload_n 1, 1) := by decide +kernel
theorem dX4_copy_34 : decode cX4_copy 34 = .ok (.getfield 30, 3) := by decide +kernel
theorem dX4_copy_37 : decode cX4_copy 37 = .ok (.putfield 30, 3) := by decide +kernel
theorem dX4_copy_40 : decode cX4_copy 40 = .ok (.aload_n 0, 1) := by decide +kernel
theorem dX4_copy_41 : decode cX4_copy 41 = .ok (.aload_n 1, 1) := by decide +kernel
theorem dX4_copy_42 : decode cX4_copy 42 = .ok (.getfield 33, 3) := by decide +kernel
theorem dX4_copy_45 : decode cX4_copy 45 = .ok (.putfield 33, 3) := by decide +kernel
theorem dX4_copy_48 : decode cX4_copy 48 = .ok (.aload_n 0, 1) := by decide +kernel
theorem dX4_copy_49 : decode cX4_copy 49 = .ok (.aload_n 1, 1) := by decide +kernel
theorem dX4_copy_50 : decode cX4_copy 50 = .ok (.getfield 36, 3) := by decide +kernel
theorem dX4_copy_53 : decode cX4_copy 53 = .ok (.putfield 36, 3) := by decide +kernel
theorem dX4_copy_56 : decode cX4_copy 56 = .ok (.aload_n 0, 1) := by decide +kernel
theorem dX4_copy_57 : decode cX4_copy 57 = .ok (.aload_n 1, 1) := by decide +kernel
theorem dX4_copy_58 : decode cX4_copy 58 = .ok (.getfield 18, 3) := by decide +kernel
theorem dX4_copy_61 : decode cX4_copy 61 = .ok (.putfield 18, 3) := by decide +kernel
theorem dX4_copy_64 : decode cX4_copy 64 = .ok (.return_, 1) := by decide +kernel
theorem dX4_isKnitted_0 : decode cX4_isKnitted 0 = .ok (.aload_n 0, 1) := by decide +kernel
theorem dX4_isKnitted_1 : decode cX4_isKnitted 1 = .ok (.getfield 24, 3) := by decide +kernel
theorem dX4_isKnitted_4 : decode cX4_isKnitted 4 = .ok (.iconst (-1), 1) := by decide +kernel
theorem dX4_isKnitted_5 : decode cX4_isKnitted 5 = .ok (.if_icmp .eq 7, 3) := by decide +kernel
theorem dX4_isKnitted_8 : decode cX4_isKnitted 8 = .ok (.iconst 1, 1) := by decide +kernel
theorem dX4_isKnitted_9 : decode cX4_isKnitted 9 = .ok (.goto 4, 3) := by decide +kernel
theorem dX4_isKnitted_12 : decode cX4_isKnitted 12 = .ok (.iconst 0, 1) := by decide +kernel
theorem dX4_isKnitted_13 : decode cX4_isKnitted 13 = .ok (.ireturn, 1) := by decide +kernel
theorem dX4_isMixed_0 : decode cX4_isMixed 0 = .ok (.aload_n 0, 1) := by decide +kernel
theorem dX4_isMixed_1 : decode cX4_isMixed 1 = .ok (.getfield 27, 3) := by decide +kernel
theorem dX4_isMixed_4 : decode cX4_isMixed 4 = .ok (.iconst (-1), 1) := by decide +kernel
theorem dX4_isMixed_5 : decode cX4_isMixed 5 = .ok (.if_icmp .eq 7, 3) := by decide +kernel
theorem dX4_isMixed_8 : decode cX4_isMixed 8 = .ok (.iconst 1, 1) := by decide +kernel
theorem dX4_isMixed_9 : decode cX4_isMixed 9 = .ok (.goto 4, 3) := by decide +kernel
theorem dX4_isMixed_12 : decode cX4_isMixed 12 = .ok (.iconst 0, 1) := by decide +kernel
theorem dX4_isMixed_13 : decode cX4_isMixed 13 = .ok (.ireturn, 1) := by decide +kernel
theorem dX4_isOf_0 : decode cX4_isOf 0 = .ok (.iload_n 1, 1) := by decide +kernel
theorem dX4_isOf_1 : decode cX4_isOf 1 = .ok (.ifCond .eq 24, 3) := by decide +kernel
theorem dX4_isOf_4 : decode cX4_isOf 4 = .ok (.iload_n 1, 1) := by decide +kernel
theorem dX4_isOf_5 : decode cX4_isOf 5 = .ok (.aload_n 0, 1) := by decide +kernel
theorem dX4_isOf_6 : decode cX4_isOf 6 = .ok (.getfield 9, 3) := by decide +kernel
theorem dX4_isOf_9 : decode cX4_isOf 9 = .ok (.if_icmp .eq 16, 3) := by decide +kernel
theorem dX4_isOf_12 : decode cX4_isOf 12 = .ok (.aload_n 0, 1) := by decide +kernel
theorem dX4_isOf_13 : decode cX4_isOf 13 = .ok (.getfield 9, 3) := by decide +kernel
theorem dX4_isOf_16 : decode cX4_isOf 16 = .ok (.iconst 4, 1) := by decide +kernel
theorem dX4_isOf_17 : decode cX4_isOf 17 = .ok (.if_icmp .ne 12, 3) := by decide +kernel
theorem dX4_isOf_20 : decode cX4_isOf 20 = .ok (.iload_n 1, 1) := by decide +kernel
theorem dX4_isOf_21 : decode cX4_isOf 21 = .ok (.iconst 3, 1) := by decide +kernel
theorem dX4_isOf_22 : decode cX4_isOf 22 = .ok (.if_icmp .ne 7, 3) := by decide +kernel
theorem dX4_isOf_25 : decode cX4_isOf 25 = .ok (.iconst 1, 1) := by decide +kernel
theorem dX4_isOf_26 : decode cX4_isOf 26 = .ok (.goto 4, 3) := by decide +kernel
theorem dX4_isOf_29 : decode cX4_isOf 29 = .ok (.iconst 0, 1) := by decide +kernel
theorem dX4_isOf_30 : decode cX4_isOf 30 = .ok (.ireturn, 1) := by decide +kernel
theorem dX4_light_0 : decode cX4_light 0 = .ok (.aload_n 0, 1) := by decide +kernel
theorem dX4_light_1 : decode cX4_light 1 = .ok (.getfield 9, 3) := by decide +kernel
theorem dX4_light_4 : decode cX4_light 4 = .ok (.ifCond .lt 25, 3) := by decide +kernel
theorem dX4_light_7 : decode cX4_light 7 = .ok (.aload_n 0, 1) := by decide +kernel
theorem dX4_light_8 : decode cX4_light 8 = .ok (.getfield 9, 3) := by decide +kernel
theorem dX4_light_11 : decode cX4_light 11 = .ok (.getstatic 40, 3) := by decide +kernel
theorem dX4_light_14 : decode cX4_light 14 = .ok (.arraylength, 1) := by decide +kernel
theorem dX4_light_15 : decode cX4_light 15 = .ok (.if_icmp .ge 14, 3) := by decide +kernel
theorem dX4_light_18 : decode cX4_light 18 = .ok (.getstatic 40, 3) := by decide +kernel
theorem dX4_light_21 : decode cX4_light 21 = .ok (.aload_n 0, 1) := by decide +kernel
theorem dX4_light_22 : decode cX4_light 22 = .ok (.getfield 9, 3) := by decide +kernel
theorem dX4_light_25 : decode cX4_light 25 = .ok (.iaload, 1) := by decide +kernel
theorem dX4_light_26 : decode cX4_light 26 = .ok (.goto 4, 3) := by decide +kernel
theorem dX4_light_29 : decode cX4_light 29 = .ok (.iconst 0, 1) := by decide +kernel
theorem dX4_light_30 : decode cX4_light 30 = .ok (.ireturn, 1) := by decide +kernel
theorem dX5_init_0 : decode cX5_init 0 = .ok (.aload_n 0, 1) := by decide +kernel
theorem dX5_init_1 : decode cX5_init 1 = .ok (.invokespecial 3, 3) := by decide +kernel
theorem dX5_init_4 : decode cX5_init 4 = .ok (.aload_n 0, 1) := by decide +kernel
theorem dX5_init_5 : decode cX5_init 5 = .ok (.iconst 5, 1) := by decide +kernel
theorem dX5_init_6 : decode cX5_init 6 = .ok (.newarray .int, 2) := by decide +kernel
theorem dX5_init_8 : decode cX5_init 8 = .ok (.putfield 9, 3) := by decide +kernel
theorem dX5_init_11 : decode cX5_init 11 = .ok (.aload_n 0, 1) := by decide +kernel
theorem dX5_init_12 : decode cX5_init 12 = .ok (.iconst 5, 1) := by decide +kernel
theorem dX5_init_13 : decode cX5_init 13 = .ok (.newarray .int, 2) := by decide +kernel
theorem dX5_init_15 : decode cX5_init 15 = .ok (.putfield 15, 3) := by decide +kernel
theorem dX5_init_18 : decode cX5_init 18 = .ok (.aload_n 0, 1) := by decide +kernel
theorem dX5_init_19 : decode cX5_init 19 = .ok (.iconst 5, 1) := by decide +kernel
theorem dX5_init_20 : decode cX5_init 20 = .ok (.newarray .int, 2) := by decide +kernel
theorem dX5_init_22 : decode cX5_init 22 = .ok (.putfield 18, 3) := by decide +kernel
theorem dX5_init_25 : decode cX5_init 25 = .ok (.aload_n 0, 1) := by decide +kernel
theorem dX5_init_26 : decode cX5_init 26 = .ok (.iconst 3, 1) := by decide +kernel
theorem dX5_init_27 : decode cX5_init 27 = .ok (.newarray .int, 2) := by decide +kernel
theorem dX5_init_29 : decode cX5_init 29 = .ok (.putfield 21, 3) := by decide +kernel
theorem dX5_init_32 : decode cX5_init 32 = .ok (.return_, 1) := by decide +kernel
theorem dX5_search_0 : decode cX5_search 0 = .ok (.aload_n 0, 1) := by decide +kernel
theorem dX5_search_1 : decode cX5_search 1 = .ok (.iconst 0, 1) := by decide +kernel
theorem dX5_search_2 : decode cX5_search 2 = .ok (.putfield 24, 3) := by decide +kernel
theorem dX5_search_5 : decode cX5_search 5 = .ok (.aload_n 0, 1) := by decide +kernel
theorem dX5_search_6 : decode cX5_search 6 = .ok (.iconst 0, 1) := by decide +kernel
theorem dX5_search_7 : decode cX5_search 7 = .ok (.putfield 28, 3) := by decide +kernel
theorem dX5_search_10 : decode cX5_search 10 = .ok (.iconst 0, 1) := by decide +kernel
theorem dX5_search_11 : decode cX5_search 11 = .ok (.istore_n 2, 1) := by decide +kernel
theorem dX5_search_12 : decode cX5_search 12 = .ok (.iload_n 2, 1) := by decide +kernel
theorem dX5_search_13 : decode cX5_search 13 = .ok (.aload_n 1, 1) := by decide +kernel
theorem dX5_search_14 : decode cX5_search 14 = .ok (.getfield 32, 3) := by decide +kernel
theorem dX5_search_17 : decode cX5_search 17 = .ok (.if_icmp .ge 24, 3) := by decide +kernel
theorem dX5_search_20 : decode cX5_search 20 = .ok (.aload_n 0, 1) := by decide +kernel
theorem dX5_search_21 : decode cX5_search 21 = .ok (.getfield 21, 3) := by decide +kernel
theorem dX5_search_24 : decode cX5_search 24 = .ok (.iload_n 2, 1) := by decide +kernel
theorem dX5_search_25 : decode cX5_search 25 = .ok (.aload_n 1, 1) := by decide +kernel
theorem dX5_search_26 : decode cX5_search 26 = .ok (.getfield 37, 3) := by decide +kernel
theorem dX5_search_29 : decode cX5_search 29 = .ok (.iload_n 2, 1) := by decide +kernel
theorem dX5_search_30 : decode cX5_search 30 = .ok (.aaload, 1) := by decide +kernel
theorem dX5_search_31 : decode cX5_search 31 = .ok (.invokevirtual 41, 3) := by decide +kernel
theorem dX5_search_34 : decode cX5_search 34 = .ok (.iastore, 1) := by decide +kernel
theorem dX5_search_35 : decode cX5_search 35 = .ok (.iinc 2 1, 3) := by decide +kernel
theorem dX5_search_38 : decode cX5_search 38 = .ok (.goto (-26), 3) := by decide +kernel
theorem dX5_search_41 : decode cX5_search 41 = .ok (.aload_n 0, 1) := by decide +kernel
theorem dX5_search_42 : decode cX5_search 42 = .ok (.aload_n 1, 1) := by decide +kernel
theorem dX5_search_43 : decode cX5_search 43 = .ok (.iconst 0, 1) := by decide +kernel
theorem dX5_search_44 : decode cX5_search 44 = .ok (.iconst 0, 1) := by decide +kernel
theorem dX5_search_45 : decode cX5_search 45 = .ok (.invokestatic 47, 3) := by decide +kernel
theorem dX5_search_48 : decode cX5_search 48 = .ok (.return_, 1) := by decide +kernel
theorem dX5_choose_0 : decode cX5_choose 0 = .ok (.aload_n 0, 1) := by decide +kernel
theorem dX5_choose_1 : decode cX5_choose 1 = .ok (.getfield 24, 3) := by decide +kernel
theorem dX5_choose_4 : decode cX5_choose 4 = .ok (.ifCond .eq 12, 3) := by decide +kernel
theorem dX5_choose_7 : decode cX5_choose 7 = .ok (.iload_n 3, 1) := by decide +kernel
theorem dX5_choose_8 : decode cX5_choose 8 = .ok (.aload_n 0, 1) := by decide +kernel
theorem dX5_choose_9 : decode cX5_choose 9 = .ok (.getfield 28, 3) := by decide +kernel
theorem dX5_choose_12 : decode cX5_choose 12 = .ok (.if_icmp .lt 4, 3) := by decide +kernel
theorem dX5_choose_15 : decode cX5_choose 15 = .ok (.return_, 1) := by decide +kernel
theorem dX5_choose_16 : decode cX5_choose 16 = .ok (.iload_n 2, 1) := by decide +kernel
theorem dX5_choose_17 : decode cX5_choose 17 = .ok (.aload_n 1, 1) := by decide +kernel
theorem dX5_choose_18 : decode cX5_choose 18 = .ok (.getfield 51, 3) := by decide +kernel
theorem dX5_choose_21 : decode cX5_choose 21 = .ok (.if_icmp .ge 8, 3) := by decide +kernel
theorem dX5_choose_24 : decode cX5_choose 24 = .ok (.iload_n 2, 1) := by decide +kernel
theorem dX5_choose_25 : decode cX5_choose 25 = .ok (.iconst 5, 1) := by decide +kernel
theorem dX5_choose_26 : decode cX5_choose 26 = .ok (.if_icmp .lt 9, 3) := by decide +kernel
theorem dX5_choose_29 : decode cX5_choose 29 = .ok (.aload_n 0, 1) := by decide +kernel
theorem dX5_choose_30 : decode cX5_choose 30 = .ok (.iload_n 3, 1) := by decide +kernel
theorem dX5_choose_31 : decode cX5_choose 31 = .ok (.invokevirtual 54, 3) := by decide +kernel
theorem dX5_choose_34 : decode cX5_choose 34 = .ok (.return_, 1) := by decide +kernel
theorem dX5_choose_35 : decode cX5_choose 35 = .ok (.aload_n 1, 1) := by decide +kernel
theorem dX5_choose_36 : decode cX5_choose 36 = .ok (.getfield 58, 3) := by decide +kernel
theorem dX5_choose_39 : decode cX5_choose 39 = .ok (.iload_n 2, 1) := by decide +kernel
theorem dX5_choose_40 : decode cX5_choose 40 = .ok (.aaload, 1) := by decide +kernel
theorem dX5_choose_41 : decode cX5_choose 41 = .ok (.invokevirtual 62, 3) := by decide +kernel
theorem dX5_choose_44 : decode cX5_choose 44 = .ok (.ifCond .eq 23, 3) := by decide +kernel
theorem dX5_choose_47 : decode cX5_choose 47 = .ok (.aload_n 0, 1) := by decide +kernel
theorem dX5_choose_48 : decode cX5_choose 48 = .ok (.getfield 9, 3) := by decide +kernel
theorem dX5_choose_51 : decode cX5_choose 51 = .ok (.iload_n 2, 1) := by decide +kernel
theorem dX5_choose_52 : decode cX5_choose 52 = .ok (.iconst (-1), 1) := by decide +kernel
theorem dX5_choose_53 : decode cX5_choose 53 = .ok (.iastore, 1) := by decide +kernel
theorem dX5_choose_54 : decode cX5_choose 54 = .ok (.aload_n 0, 1) := by decide +kernel
theorem dX5_choose_55 : decode cX5_choose 55 = .ok (.aload_n 1, 1) := by decide +kernel
theorem dX5_choose_56 : decode cX5_choose 56 = .ok (.iload_n 2, 1) := by decide +kernel
theorem dX5_choose_57 : decode cX5_choose 57 = .ok (.aload_n 1, 1) := by decide +kernel
theorem dX5_choose_58 : decode cX5_choose 58 = .ok (.iload_n 2, 1) := by decide +kernel
theorem dX5_choose_59 : decode cX5_choose 59 = .ok (.invokevirtual 68, 3) := by decide +kernel
theorem dX5_choose_62 : decode cX5_choose 62 = .ok (.iload_n 3, 1) := by decide +kernel
theorem dX5_choose_63 : decode cX5_choose 63 = .ok (.invokestatic 72, 3) := by decide +kernel
theorem dX5_choose_66 : decode cX5_choose 66 = .ok (.return_, 1) := by decide +kernel
theorem dX5_choose_67 : decode cX5_choose 67 = .ok (.iconst 0, 1) := by decide +kernel
theorem dX5_choose_68 : decode cX5_choose 68 = .ok (.istore 4, 2) := by decide +kernel
theorem dX5_choose_70 : decode cX5_choose 70 = .ok (.iload 4, 2) := by decide +kernel
theorem dX5_choose_72 : decode cX5_choose 72 = .ok (.aload_n 1, 1) := by decide +kernel
theorem dX5_choose_73 : decode cX5_choose 73 = .ok (.getfield 32, 3) := by decide +kernel
theorem dX5_choose_76 : decode cX5_choose 76 = .ok (.if_icmp .ge 38, 3) := by decide +kernel
theorem dX5_choose_79 : decode cX5_choose 79 = .ok (.iconst 0, 1) := by decide +kernel
theorem dX5_choose_80 : decode cX5_choose 80 = .ok (.istore 5, 2) := by decide +kernel
theorem dX5_choose_82 : decode cX5_choose 82 = .ok (.iload 5, 2) := by decide +kernel
theorem dX5_choose_84 : decode cX5_choose 84 = .ok (.aload_n 1, 1) := by decide +kernel
theorem dX5_choose_85 : decode cX5_choose 85 = .ok (.getfield 32, 3) := by decide +kernel
theorem dX5_choose_88 : decode cX5_choose 88 = .ok (.if_icmp .ge 20, 3) := by decide +kernel
theorem dX5_choose_91 : decode cX5_choose 91 = .ok (.aload_n 0, 1) := by decide +kernel
theorem dX5_choose_92 : decode cX5_choose 92 = .ok (.aload_n 1, 1) := by decide +kernel
theorem dX5_choose_93 : decode cX5_choose 93 = .ok (.iload_n 2, 1) := by decide +kernel
theorem dX5_choose_94 : decode cX5_choose 94 = .ok (.iload 4, 2) := by decide +kernel
theorem dX5_choose_96 : decode cX5_choose 96 = .ok (.iload 5, 2) := by decide +kernel
theorem dX5_choose_98 : decode cX5_choose 98 = .ok (.iload_n 3, 1) := by decide +kernel
theorem dX5_choose_99 : decode cX5_choose 99 = .ok (.invokestatic 76, 3) := by decide +kernel
theorem dX5_choose_102 : decode cX5_choose 102 = .ok (.iinc 5 1, 3) := by decide +kernel
theorem dX5_choose_105 : decode cX5_choose 105 = .ok (.goto (-23), 3) := by decide +kernel
theorem dX5_choose_108 : decode cX5_choose 108 = .ok (.iinc 4 1, 3) := by decide +kernel
theorem dX5_choose_111 : decode cX5_choose 111 = .ok (.goto (-41), 3) := by decide +kernel
theorem dX5_choose_114 : decode cX5_choose 114 = .ok (.return_, 1) := by decide +kernel
theorem dX5_chooseOf_0 : decode cX5_chooseOf 0 = .ok (.aload_n 1, 1) := by decide +kernel
theorem dX5_chooseOf_1 : decode cX5_chooseOf 1 = .ok (.getfield 58, 3) := by decide +kernel
theorem dX5_chooseOf_4 : decode cX5_chooseOf 4 = .ok (.iload_n 2, 1) := by decide +kernel
theorem dX5_chooseOf_5 : decode cX5_chooseOf 5 = .ok (.aaload, 1) := by decide +kernel
theorem dX5_chooseOf_6 : decode cX5_chooseOf 6 = .ok (.getfield 80, 3) := by decide +kernel
theorem dX5_chooseOf_9 : decode cX5_chooseOf 9 = .ok (.istore 6, 2) := by decide +kernel
theorem dX5_chooseOf_11 : decode cX5_chooseOf 11 = .ok (.iload 6, 2) := by decide +kernel
theorem dX5_chooseOf_13 : decode cX5_chooseOf 13 = .ok (.iload_n 3, 1) := by decide +kernel
theorem dX5_chooseOf_14 : decode cX5_chooseOf 14 = .ok (.iload 4, 2) := by decide +kernel
theorem dX5_chooseOf_16 : decode cX5_chooseOf 16 = .ok (.invokestatic 82, 3) := by decide +kernel
theorem dX5_chooseOf_19 : decode cX5_chooseOf 19 = .ok (.istore 7, 2) := by decide +kernel
theorem dX5_chooseOf_21 : decode cX5_chooseOf 21 = .ok (.iload 6, 2) := by decide +kernel
theorem dX5_chooseOf_23 : decode cX5_chooseOf 23 = .ok (.iload 7, 2) := by decide +kernel
theorem dX5_chooseOf_25 : decode cX5_chooseOf 25 = .ok (.isub, 1) := by decide +kernel
theorem dX5_chooseOf_26 : decode cX5_chooseOf 26 = .ok (.istore 8, 2) := by decide +kernel
theorem dX5_chooseOf_28 : decode cX5_chooseOf 28 = .ok (.aload_n 0, 1) := by decide +kernel
theorem dX5_chooseOf_29 : decode cX5_chooseOf 29 = .ok (.getfield 21, 3) := by decide +kernel
theorem dX5_chooseOf_32 : decode cX5_chooseOf 32 = .ok (.iload_n 3, 1) := by decide +kernel
theorem dX5_chooseOf_33 : decode cX5_chooseOf 33 = .ok (.iaload, 1) := by decide +kernel
theorem dX5_chooseOf_34 : decode cX5_chooseOf 34 = .ok (.iload 7, 2) := by decide +kernel
theorem dX5_chooseOf_36 : decode cX5_chooseOf 36 = .ok (.if_icmp .lt 15, 3) := by decide +kernel
theorem dX5_chooseOf_39 : decode cX5_chooseOf 39 = .ok (.aload_n 0, 1) := by decide +kernel
theorem dX5_chooseOf_40 : decode cX5_chooseOf 40 = .ok (.getfield 21, 3) := by decide +kernel
theorem dX5_chooseOf_43 : decode cX5_chooseOf 43 = .ok (.iload 4, 2) := by decide +kernel
theorem dX5_chooseOf_45 : decode cX5_chooseOf 45 = .ok (.iaload, 1) := by decide +kernel
theorem dX5_chooseOf_46 : decode cX5_chooseOf 46 = .ok (.iload 8, 2) := by decide +kernel
theorem dX5_chooseOf_48 : decode cX5_chooseOf 48 = .ok (.if_icmp .ge 4, 3) := by decide +kernel
theorem dX5_chooseOf_51 : decode cX5_chooseOf 51 = .ok (.return_, 1) := by decide +kernel
theorem dX5_chooseOf_52 : decode cX5_chooseOf 52 = .ok (.aload_n 0, 1) := by decide +kernel
theorem dX5_chooseOf_53 : decode cX5_chooseOf 53 = .ok (.getfield 21, 3) := by decide +kernel
theorem dX5_chooseOf_56 : decode cX5_chooseOf 56 = .ok (.iload_n 3, 1) := by decide +kernel
theorem dX5_chooseOf_57 : decode cX5_chooseOf 57 = .ok (.dup2, 1) := by decide +kernel
theorem dX5_chooseOf_58 : decode cX5_chooseOf 58 = .ok (.iaload, 1) := by decide +kernel
theorem dX5_chooseOf_59 : decode cX5_chooseOf 59 = .ok (.iload 7, 2) := by decide +kernel
theorem dX5_chooseOf_61 : decode cX5_chooseOf 61 = .ok (.isub, 1) := by decide +kernel
theorem dX5_chooseOf_62 : decode cX5_chooseOf 62 = .ok (.iastore, 1) := by decide +kernel
theorem dX5_chooseOf_63 : decode cX5_chooseOf 63 = .ok (.aload_n 0, 1) := by decide +kernel
theorem dX5_chooseOf_64 : decode cX5_chooseOf 64 = .ok (.getfield 21, 3) := by decide +kernel
theorem dX5_chooseOf_67 : decode cX5_chooseOf 67 = .ok (.iload 4, 2) := by decide +kernel
theorem dX5_chooseOf_69 : decode cX5_chooseOf 69 = .ok (.dup2, 1) := by decide +kernel
theorem dX5_chooseOf_70 : decode cX5_chooseOf 70 = .ok (.iaload, 1) := by decide +kernel
theorem dX5_chooseOf_71 : decode cX5_chooseOf 71 = .ok (.iload 8, 2) := by decide +kernel
theorem dX5_chooseOf_73 : decode cX5_chooseOf 73 = .ok (.isub, 1) := by decide +kernel
theorem dX5_chooseOf_74 : decode cX5_chooseOf 74 = .ok (.iastore, 1) := by decide +kernel
theorem dX5_chooseOf_75 : decode cX5_chooseOf 75 = .ok (.aload_n 0, 1) := by decide +kernel
theorem dX5_chooseOf_76 : decode cX5_chooseOf 76 = .ok (.getfield 9, 3) := by decide +kernel
theorem dX5_chooseOf_79 : decode cX5_chooseOf 79 = .ok (.iload_n 2, 1) := by decide +kernel
theorem dX5_chooseOf_80 : decode cX5_chooseOf 80 = .ok (.iconst 4, 1) := by decide +kernel
theorem dX5_chooseOf_81 : decode cX5_chooseOf 81 = .ok (.iload_n 3, 1) := by decide +kernel
theorem dX5_chooseOf_82 : decode cX5_chooseOf 82 = .ok (.imul, 1) := by decide +kernel
theorem dX5_chooseOf_83 : decode cX5_chooseOf 83 = .ok (.iload 4, 2) := by decide +kernel
theorem dX5_chooseOf_85 : decode cX5_chooseOf 85 = .ok (.iadd, 1) := by decide +kernel
theorem dX5_chooseOf_86 : decode cX5_chooseOf 86 = .ok (.iastore, 1) := by decide +kernel
theorem dX5_chooseOf_87 : decode cX5_chooseOf 87 = .ok (.aload_n 0, 1) := by decide +kernel
theorem dX5_chooseOf_88 : decode cX5_chooseOf 88 = .ok (.aload_n 1, 1) := by decide +kernel
theorem dX5_chooseOf_89 : decode cX5_chooseOf 89 = .ok (.iload_n 2, 1) := by decide +kernel
theorem dX5_chooseOf_90 : decode cX5_chooseOf 90 = .ok (.aload_n 1, 1) := by decide +kernel
theorem dX5_chooseOf_91 : decode cX5_chooseOf 91 = .ok (.getfield 37, 3) := by decide +kernel
theorem dX5_chooseOf_94 : decode cX5_chooseOf 94 = .ok (.iload_n 3, 1) := by decide +kernel
theorem dX5_chooseOf_95 : decode cX5_chooseOf 95 = .ok (.aaload, 1) := by decide +kernel
theorem dX5_chooseOf_96 : decode cX5_chooseOf 96 = .ok (.getfield 86, 3) := by decide +kernel
theorem dX5_chooseOf_99 : decode cX5_chooseOf 99 = .ok (.aload_n 1, 1) := by decide +kernel
theorem dX5_chooseOf_100 : decode cX5_chooseOf 100 = .ok (.getfield 37, 3) := by decide +kernel
theorem dX5_chooseOf_103 : decode cX5_chooseOf 103 = .ok (.iload 4, 2) := by decide +kernel
theorem dX5_chooseOf_105 : decode cX5_chooseOf 105 = .ok (.aaload, 1) := by decide +kernel
theorem dX5_chooseOf_106 : decode cX5_chooseOf 106 = .ok (.getfield 86, 3) := by decide +kernel
theorem dX5_chooseOf_109 : decode cX5_chooseOf 109 = .ok (.iadd, 1) := by decide +kernel
theorem dX5_chooseOf_110 : decode cX5_chooseOf 110 = .ok (.iload 5, 2) := by decide +kernel
theorem dX5_chooseOf_112 : decode cX5_chooseOf 112 = .ok (.invokestatic 72, 3) := by decide +kernel
theorem dX5_chooseOf_115 : decode cX5_chooseOf 115 = .ok (.aload_n 0, 1) := by decide +kernel
theorem dX5_chooseOf_116 : decode cX5_chooseOf 116 = .ok (.getfield 21, 3) := by decide +kernel
theorem dX5_chooseOf_119 : decode cX5_chooseOf 119 = .ok (.iload_n 3, 1) := by decide +kernel
theorem dX5_chooseOf_120 : decode cX5_chooseOf 120 = .ok (.dup2, 1) := by decide +kernel
theorem dX5_chooseOf_121 : decode cX5_chooseOf 121 = .ok (.iaload, 1) := by decide +kernel
theorem dX5_chooseOf_122 : decode cX5_chooseOf 122 = .ok (.iload 7, 2) := by decide +kernel
theorem dX5_chooseOf_124 : decode cX5_chooseOf 124 = .ok (.iadd, 1) := by decide +kernel
theorem dX5_chooseOf_125 : decode cX5_chooseOf 125 = .ok (.iastore, 1) := by decide +kernel
theorem dX5_chooseOf_126 : decode cX5_chooseOf 126 = .ok (.aload_n 0, 1) := by decide +kernel
theorem dX5_chooseOf_127 : decode cX5_chooseOf 127 = .ok (.getfield 21, 3) := by decide +kernel
theorem dX5_chooseOf_130 : decode cX5_chooseOf 130 = .ok (.iload 4, 2) := by decide +kernel
theorem dX5_chooseOf_132 : decode cX5_chooseOf 132 = .ok (.dup2, 1) := by decide +kernel
theorem dX5_chooseOf_133 : decode cX5_chooseOf 133 = .ok (.iaload, 1) := by decide +kernel
theorem dX5_chooseOf_134 : decode cX5_chooseOf 134 = .ok (.iload 8, 2) := by decide +kernel
theorem dX5_chooseOf_136 : decode cX5_chooseOf 136 = .ok (.iadd, 1) := by decide +kernel
theorem dX5_chooseOf_137 : decode cX5_chooseOf 137 = .ok (.iastore, 1) := by decide +kernel
theorem dX5_chooseOf_138 : decode cX5_chooseOf 138 = .ok (.return_, 1) := by decide +kernel
theorem dX5_goOn_0 : decode cX5_goOn 0 = .ok (.aload_n 0, 1) := by decide +kernel
theorem dX5_goOn_1 : decode cX5_goOn 1 = .ok (.getfield 18, 3) := by decide +kernel
theorem dX5_goOn_4 : decode cX5_goOn 4 = .ok (.iload_n 2, 1) := by decide +kernel
theorem dX5_goOn_5 : decode cX5_goOn 5 = .ok (.iload_n 3, 1) := by decide +kernel
theorem dX5_goOn_6 : decode cX5_goOn 6 = .ok (.iastore, 1) := by decide +kernel
theorem dX5_goOn_7 : decode cX5_goOn 7 = .ok (.iload_n 2, 1) := by decide +kernel
theorem dX5_goOn_8 : decode cX5_goOn 8 = .ok (.ifCond .le 22, 3) := by decide +kernel
theorem dX5_goOn_11 : decode cX5_goOn 11 = .ok (.aload_n 1, 1) := by decide +kernel
theorem dX5_goOn_12 : decode cX5_goOn 12 = .ok (.iload_n 2, 1) := by decide +kernel
theorem dX5_goOn_13 : decode cX5_goOn 13 = .ok (.iconst 1, 1) := by decide +kernel
theorem dX5_goOn_14 : decode cX5_goOn 14 = .ok (.isub, 1) := by decide +kernel
theorem dX5_goOn_15 : decode cX5_goOn 15 = .ok (.aload_n 0, 1) := by decide +kernel
theorem dX5_goOn_16 : decode cX5_goOn 16 = .ok (.getfield 18, 3) := by decide +kernel
theorem dX5_goOn_19 : decode cX5_goOn 19 = .ok (.iload_n 2, 1) := by decide +kernel
theorem dX5_goOn_20 : decode cX5_goOn 20 = .ok (.iconst 1, 1) := by decide +kernel
theorem dX5_goOn_21 : decode cX5_goOn 21 = .ok (.isub, 1) := by decide +kernel
theorem dX5_goOn_22 : decode cX5_goOn 22 = .ok (.iaload, 1) := by decide +kernel
theorem dX5_goOn_23 : decode cX5_goOn 23 = .ok (.iload_n 3, 1) := by decide +kernel
theorem dX5_goOn_24 : decode cX5_goOn 24 = .ok (.invokevirtual 89, 3) := by decide +kernel
theorem dX5_goOn_27 : decode cX5_goOn 27 = .ok (.goto 4, 3) := by decide +kernel
theorem dX5_goOn_30 : decode cX5_goOn 30 = .ok (.iconst 0, 1) := by decide +kernel
theorem dX5_goOn_31 : decode cX5_goOn 31 = .ok (.istore 5, 2) := by decide +kernel
theorem dX5_goOn_33 : decode cX5_goOn 33 = .ok (.aload_n 0, 1) := by decide +kernel
theorem dX5_goOn_34 : decode cX5_goOn 34 = .ok (.aload_n 1, 1) := by decide +kernel
theorem dX5_goOn_35 : decode cX5_goOn 35 = .ok (.iload_n 2, 1) := by decide +kernel
theorem dX5_goOn_36 : decode cX5_goOn 36 = .ok (.iconst 1, 1) := by decide +kernel
theorem dX5_goOn_37 : decode cX5_goOn 37 = .ok (.iadd, 1) := by decide +kernel
theorem dX5_goOn_38 : decode cX5_goOn 38 = .ok (.iload 4, 2) := by decide +kernel
theorem dX5_goOn_40 : decode cX5_goOn 40 = .ok (.iload 5, 2) := by decide +kernel
theorem dX5_goOn_42 : decode cX5_goOn 42 = .ok (.iadd, 1) := by decide +kernel
theorem dX5_goOn_43 : decode cX5_goOn 43 = .ok (.invokestatic 47, 3) := by decide +kernel
theorem dX5_goOn_46 : decode cX5_goOn 46 = .ok (.return_, 1) := by decide +kernel
theorem dX5_keep_0 : decode cX5_keep 0 = .ok (.aload_n 0, 1) := by decide +kernel
theorem dX5_keep_1 : decode cX5_keep 1 = .ok (.iconst 1, 1) := by decide +kernel
theorem dX5_keep_2 : decode cX5_keep 2 = .ok (.putfield 24, 3) := by decide +kernel
theorem dX5_keep_5 : decode cX5_keep 5 = .ok (.aload_n 0, 1) := by decide +kernel
theorem dX5_keep_6 : decode cX5_keep 6 = .ok (.iload_n 1, 1) := by decide +kernel
theorem dX5_keep_7 : decode cX5_keep 7 = .ok (.putfield 28, 3) := by decide +kernel
theorem dX5_keep_10 : decode cX5_keep 10 = .ok (.aload_n 0, 1) := by decide +kernel
theorem dX5_keep_11 : decode cX5_keep 11 = .ok (.getfield 9, 3) := by decide +kernel
theorem dX5_keep_14 : decode cX5_keep 14 = .ok (.iconst 0, 1) := by decide +kernel
theorem dX5_keep_15 : decode cX5_keep 15 = .ok (.aload_n 0, 1) := by decide +kernel
theorem dX5_keep_16 : decode cX5_keep 16 = .ok (.getfield 15, 3) := by decide +kernel
theorem dX5_keep_19 : decode cX5_keep 19 = .ok (.iconst 0, 1) := by decide +kernel
theorem dX5_keep_20 : decode cX5_keep 20 = .ok (.iconst 5, 1) := by decide +kernel
theorem dX5_keep_21 : decode cX5_keep 21 = .ok (.invokestatic 92, 3) := by decide +kernel
theorem dX5_keep_24 : decode cX5_keep 24 = .ok (.return_, 1) := by decide +kernel
end
section
theorem dX6_init_0 : decode cX6_init 0 = .ok (.aload_n 0, 1) := by decide +kernel
theorem dX6_init_1 : decode cX6_init 1 = .ok (.invokespecial 3, 3) := by decide +kernel
theorem dX6_init_4 : decode cX6_init 4 = .ok (.aload_n 0, 1) := by decide +kernel
theorem dX6_init_5 : decode cX6_init 5 = .ok (.iconst 5, 1) := by decide +kernel
theorem dX6_init_6 : decode cX6_init 6 = .ok (.anewarray 9, 3) := by decide +kernel
theorem dX6_init_9 : decode cX6_init 9 = .ok (.putfield 11, 3) := by decide +kernel
theorem dX6_init_12 : decode cX6_init 12 = .ok (.aload_n 0, 1) := by decide +kernel
theorem dX6_init_13 : decode cX6_init 13 = .ok (.iconst 3, 1) := by decide +kernel
theorem dX6_init_14 : decode cX6_init 14 = .ok (.anewarray 17, 3) := by decide +kernel
theorem dX6_init_17 : decode cX6_init 17 = .ok (.putfield 19, 3) := by decide +kernel
theorem dX6_init_20 : decode cX6_init 20 = .ok (.iconst 0, 1) := by decide +kernel
theorem dX6_init_21 : decode cX6_init 21 = .ok (.istore_n 1, 1) := by decide +kernel
theorem dX6_init_22 : decode cX6_init 22 = .ok (.iload_n 1, 1) := by decide +kernel
theorem dX6_init_23 : decode cX6_init 23 = .ok (.aload_n 0, 1) := by decide +kernel
theorem dX6_init_24 : decode cX6_init 24 = .ok (.getfield 11, 3) := by decide +kernel
theorem dX6_init_27 : decode cX6_init 27 = .ok (.arraylength, 1) := by decide +kernel
theorem dX6_init_28 : decode cX6_init 28 = .ok (.if_icmp .ge 22, 3) := by decide +kernel
theorem dX6_init_31 : decode cX6_init 31 = .ok (.aload_n 0, 1) := by decide +kernel
theorem dX6_init_32 : decode cX6_init 32 = .ok (.getfield 11, 3) := by decide +kernel
theorem dX6_init_35 : decode cX6_init 35 = .ok (.iload_n 1, 1) := by decide +kernel
theorem dX6_init_36 : decode cX6_init 36 = .ok (.new 9, 3) := by decide +kernel
theorem dX6_init_39 : decode cX6_init 39 = .ok (.dup, 1) := by decide +kernel
theorem dX6_init_40 : decode cX6_init 40 = .ok (.invokespecial 23, 3) := by decide +kernel
theorem dX6_init_43 : decode cX6_init 43 = .ok (.aastore, 1) := by decide +kernel
theorem dX6_init_44 : decode cX6_init 44 = .ok (.iinc 1 1, 3) := by decide +kernel
theorem dX6_init_47 : decode cX6_init 47 = .ok (.goto (-25), 3) := by decide +kernel
theorem dX6_init_50 : decode cX6_init 50 = .ok (.iconst 0, 1) := by decide +kernel
theorem dX6_init_51 : decode cX6_init 51 = .ok (.istore_n 1, 1) := by decide +kernel
theorem dX6_init_52 : decode cX6_init 52 = .ok (.iload_n 1, 1) := by decide +kernel
theorem dX6_init_53 : decode cX6_init 53 = .ok (.aload_n 0, 1) := by decide +kernel
theorem dX6_init_54 : decode cX6_init 54 = .ok (.getfield 19, 3) := by decide +kernel
theorem dX6_init_57 : decode cX6_init 57 = .ok (.arraylength, 1) := by decide +kernel
theorem dX6_init_58 : decode cX6_init 58 = .ok (.if_icmp .ge 22, 3) := by decide +kernel
theorem dX6_init_61 : decode cX6_init 61 = .ok (.aload_n 0, 1) := by decide +kernel
theorem dX6_init_62 : decode cX6_init 62 = .ok (.getfield 19, 3) := by decide +kernel
theorem dX6_init_65 : decode cX6_init 65 = .ok (.iload_n 1, 1) := by decide +kernel
theorem dX6_init_66 : decode cX6_init 66 = .ok (.new 17, 3) := by decide +kernel
theorem dX6_init_69 : decode cX6_init 69 = .ok (.dup, 1) := by decide +kernel
theorem dX6_init_70 : decode cX6_init 70 = .ok (.invokespecial 24, 3) := by decide +kernel
theorem dX6_init_73 : decode cX6_init 73 = .ok (.aastore, 1) := by decide +kernel
theorem dX6_init_74 : decode cX6_init 74 = .ok (.iinc 1 1, 3) := by decide +kernel
theorem dX6_init_77 : decode cX6_init 77 = .ok (.goto (-25), 3) := by decide +kernel
theorem dX6_init_80 : decode cX6_init 80 = .ok (.return_, 1) := by decide +kernel
theorem dX6_begin_0 : decode cX6_begin 0 = .ok (.aload_n 0, 1) := by decide +kernel
theorem dX6_begin_1 : decode cX6_begin 1 = .ok (.iconst 5, 1) := by decide +kernel
theorem dX6_begin_2 : decode cX6_begin 2 = .ok (.aload_n 1, 1) := by decide +kernel
theorem dX6_begin_3 : decode cX6_begin 3 = .ok (.getfield 25, 3) := by decide +kernel
theorem dX6_begin_6 : decode cX6_begin 6 = .ok (.iconst 1, 1) := by decide +kernel
theorem dX6_begin_7 : decode cX6_begin 7 = .ok (.isub, 1) := by decide +kernel
theorem dX6_begin_8 : decode cX6_begin 8 = .ok (.iconst 3, 1) := by decide +kernel
theorem dX6_begin_9 : decode cX6_begin 9 = .ok (.idiv, 1) := by decide +kernel
theorem dX6_begin_10 : decode cX6_begin 10 = .ok (.invokestatic 31, 3) := by decide +kernel
theorem dX6_begin_13 : decode cX6_begin 13 = .ok (.putfield 37, 3) := by decide +kernel
theorem dX6_begin_16 : decode cX6_begin 16 = .ok (.aload_n 0, 1) := by decide +kernel
theorem dX6_begin_17 : decode cX6_begin 17 = .ok (.iconst 0, 1) := by decide +kernel
theorem dX6_begin_18 : decode cX6_begin 18 = .ok (.putfield 40, 3) := by decide +kernel
theorem dX6_begin_21 : decode cX6_begin 21 = .ok (.iconst 0, 1) := by decide +kernel
theorem dX6_begin_22 : decode cX6_begin 22 = .ok (.istore_n 2, 1) := by decide +kernel
theorem dX6_begin_23 : decode cX6_begin 23 = .ok (.iload_n 2, 1) := by decide +kernel
theorem dX6_begin_24 : decode cX6_begin 24 = .ok (.aload_n 0, 1) := by decide +kernel
theorem dX6_begin_25 : decode cX6_begin 25 = .ok (.getfield 37, 3) := by decide +kernel
theorem dX6_begin_28 : decode cX6_begin 28 = .ok (.if_icmp .ge 47, 3) := by decide +kernel
theorem dX6_begin_31 : decode cX6_begin 31 = .ok (.ldc 43, 2) := by decide +kernel
theorem dX6_begin_33 : decode cX6_begin 33 = .ok (.aload_n 1, 1) := by decide +kernel
theorem dX6_begin_34 : decode cX6_begin 34 = .ok (.getfield 45, 3) := by decide +kernel
theorem dX6_begin_37 : decode cX6_begin 37 = .ok (.iconst 3, 1) := by decide +kernel
theorem dX6_begin_38 : decode cX6_begin 38 = .ok (.iload_n 2, 1) := by decide +kernel
theorem dX6_begin_39 : decode cX6_begin 39 = .ok (.imul, 1) := by decide +kernel
theorem dX6_begin_40 : decode cX6_begin 40 = .ok (.iaload, 1) := by decide +kernel
theorem dX6_begin_41 : decode cX6_begin 41 = .ok (.i2c, 1) := by decide +kernel
theorem dX6_begin_42 : decode cX6_begin 42 = .ok (.invokevirtual 49, 3) := by decide +kernel
theorem dX6_begin_45 : decode cX6_begin 45 = .ok (.istore_n 3, 1) := by decide +kernel
theorem dX6_begin_46 : decode cX6_begin 46 = .ok (.aload_n 0, 1) := by decide +kernel
theorem dX6_begin_47 : decode cX6_begin 47 = .ok (.getfield 11, 3) := by decide +kernel
theorem dX6_begin_50 : decode cX6_begin 50 = .ok (.iload_n 2, 1) := by decide +kernel
theorem dX6_begin_51 : decode cX6_begin 51 = .ok (.aaload, 1) := by decide +kernel
theorem dX6_begin_52 : decode cX6_begin 52 = .ok (.iload_n 3, 1) := by decide +kernel
theorem dX6_begin_53 : decode cX6_begin 53 = .ok (.aload_n 1, 1) := by decide +kernel
theorem dX6_begin_54 : decode cX6_begin 54 = .ok (.getfield 45, 3) := by decide +kernel
theorem dX6_begin_57 : decode cX6_begin 57 = .ok (.iconst 3, 1) := by decide +kernel
theorem dX6_begin_58 : decode cX6_begin 58 = .ok (.iload_n 2, 1) := by decide +kernel
theorem dX6_begin_59 : decode cX6_begin 59 = .ok (.imul, 1) := by decide +kernel
theorem dX6_begin_60 : decode cX6_begin 60 = .ok (.iconst 1, 1) := by decide +kernel
theorem dX6_begin_61 : decode cX6_begin 61 = .ok (.iadd, 1) := by decide +kernel
theorem dX6_begin_62 : decode cX6_begin 62 = .ok (.iaload, 1) := by decide +kernel
theorem dX6_begin_63 : decode cX6_begin 63 = .ok (.bipush 48, 2) := by decide +kernel
theorem dX6_begin_65 : decode cX6_begin 65 = .ok (.isub, 1) := by decide +kernel
theorem dX6_begin_66 : decode cX6_begin 66 = .ok (.invokevirtual 55, 3) := by decide +kernel
theorem dX6_begin_69 : decode cX6_begin 69 = .ok (.iinc 2 1, 3) := by decide +kernel
theorem dX6_begin_72 : decode cX6_begin 72 = .ok (.goto (-49), 3) := by decide +kernel
theorem dX6_begin_75 : decode cX6_begin 75 = .ok (.aload_n 0, 1) := by decide +kernel
theorem dX6_begin_76 : decode cX6_begin 76 = .ok (.aload_n 1, 1) := by decide +kernel
theorem dX6_begin_77 : decode cX6_begin 77 = .ok (.getfield 45, 3) := by decide +kernel
theorem dX6_begin_80 : decode cX6_begin 80 = .ok (.iconst 3, 1) := by decide +kernel
theorem dX6_begin_81 : decode cX6_begin 81 = .ok (.aload_n 0, 1) := by decide +kernel
theorem dX6_begin_82 : decode cX6_begin 82 = .ok (.getfield 37, 3) := by decide +kernel
theorem dX6_begin_85 : decode cX6_begin 85 = .ok (.imul, 1) := by decide +kernel
theorem dX6_begin_86 : decode cX6_begin 86 = .ok (.iaload, 1) := by decide +kernel
theorem dX6_begin_87 : decode cX6_begin 87 = .ok (.bipush 48, 2) := by decide +kernel
theorem dX6_begin_89 : decode cX6_begin 89 = .ok (.isub, 1) := by decide +kernel
theorem dX6_begin_90 : decode cX6_begin 90 = .ok (.putfield 59, 3) := by decide +kernel
theorem dX6_begin_93 : decode cX6_begin 93 = .ok (.return_, 1) := by decide +kernel
theorem dX6_copy_0 : decode cX6_copy 0 = .ok (.aload_n 0, 1) := by decide +kernel
theorem dX6_copy_1 : decode cX6_copy 1 = .ok (.aload_n 1, 1) := by decide +kernel
theorem dX6_copy_2 : decode cX6_copy 2 = .ok (.getfield 37, 3) := by decide +kernel
theorem dX6_copy_5 : decode cX6_copy 5 = .ok (.putfield 37, 3) := by decide +kernel
theorem dX6_copy_8 : decode cX6_copy 8 = .ok (.aload_n 0, 1) := by decide +kernel
theorem dX6_copy_9 : decode cX6_copy 9 = .ok (.aload_n 1, 1) := by decide +kernel
theorem dX6_copy_10 : decode cX6_copy 10 = .ok (.getfield 40, 3) := by decide +kernel
theorem dX6_copy_13 : decode cX6_copy 13 = .ok (.putfield 40, 3) := by decide +kernel
theorem dX6_copy_16 : decode cX6_copy 16 = .ok (.aload_n 0, 1) := by decide +kernel
theorem dX6_copy_17 : decode cX6_copy 17 = .ok (.aload_n 1, 1) := by decide +kernel
theorem dX6_copy_18 : decode cX6_copy 18 = .ok (.getfield 59, 3) := by decide +kernel
theorem dX6_copy_21 : decode cX6_copy 21 = .ok (.putfield 59, 3) := by decide +kernel
theorem dX6_copy_24 : decode cX6_copy 24 = .ok (.iconst 0, 1) := by decide +kernel
theorem dX6_copy_25 : decode cX6_copy 25 = .ok (.istore_n 2, 1) := by decide +kernel
theorem dX6_copy_26 : decode cX6_copy 26 = .ok (.iload_n 2, 1) := by decide +kernel
theorem dX6_copy_27 : decode cX6_copy 27 = .ok (.iconst 5, 1) := by decide +kernel
theorem dX6_copy_28 : decode cX6_copy 28 = .ok (.if_icmp .ge 24, 3) := by decide +kernel
theorem dX6_copy_31 : decode cX6_copy 31 = .ok (.aload_n 0, 1) := by decide +kernel
theorem dX6_copy_32 : decode cX6_copy 32 = .ok (.getfield 11, 3) := by decide +kernel
theorem dX6_copy_35 : decode cX6_copy 35 = .ok (.iload_n 2, 1) := by decide +kernel
theorem dX6_copy_36 : decode cX6_copy 36 = .ok (.aaload, 1) := by decide +kernel
theorem dX6_copy_37 : decode cX6_copy 37 = .ok (.aload_n 1, 1) := by decide +kernel
theorem dX6_copy_38 : decode cX6_copy 38 = .ok (.getfield 11, 3) := by decide +kernel
theorem dX6_copy_41 : decode cX6_copy 41 = .ok (.iload_n 2, 1) := by decide +kernel
theorem dX6_copy_42 : decode cX6_copy 42 = .ok (.aaload, 1) := by decide +kernel
theorem dX6_copy_43 : decode cX6_copy 43 = .ok (.invokevirtual 62, 3) := by decide +kernel
theorem dX6_copy_46 : decode cX6_copy 46 = .ok (.iinc 2 1, 3) := by decide +kernel
theorem dX6_copy_49 : decode cX6_copy 49 = .ok (.goto (-23), 3) := by decide +kernel
theorem dX6_copy_52 : decode cX6_copy 52 = .ok (.iconst 0, 1) := by decide +kernel
theorem dX6_copy_53 : decode cX6_copy 53 = .ok (.istore_n 2, 1) := by decide +kernel
theorem dX6_copy_54 : decode cX6_copy 54 = .ok (.iload_n 2, 1) := by decide +kernel
theorem dX6_copy_55 : decode cX6_copy 55 = .ok (.iconst 3, 1) := by decide +kernel
theorem dX6_copy_56 : decode cX6_copy 56 = .ok (.if_icmp .ge 24, 3) := by decide +kernel
theorem dX6_copy_59 : decode cX6_copy 59 = .ok (.aload_n 0, 1) := by decide +kernel
theorem dX6_copy_60 : decode cX6_copy 60 = .ok (.getfield 19, 3) := by decide +kernel
theorem dX6_copy_63 : decode cX6_copy 63 = .ok (.iload_n 2, 1) := by decide +kernel
theorem dX6_copy_64 : decode cX6_copy 64 = .ok (.aaload, 1) := by decide +kernel
theorem dX6_copy_65 : decode cX6_copy 65 = .ok (.aload_n 1, 1) := by decide +kernel
theorem dX6_copy_66 : decode cX6_copy 66 = .ok (.getfield 19, 3) := by decide +kernel
theorem dX6_copy_69 : decode cX6_copy 69 = .ok (.iload_n 2, 1) := by decide +kernel
theorem dX6_copy_70 : decode cX6_copy 70 = .ok (.aaload, 1) := by decide +kernel
theorem dX6_copy_71 : decode cX6_copy 71 = .ok (.invokevirtual 66, 3) := by decide +kernel
theorem dX6_copy_74 : decode cX6_copy 74 = .ok (.iinc 2 1, 3) := by decide +kernel
theorem dX6_copy_77 : decode cX6_copy 77 = .ok (.goto (-23), 3) := by decide +kernel
theorem dX6_copy_80 : decode cX6_copy 80 = .ok (.return_, 1) := by decide +kernel
theorem dX6_hasPart_0 : decode cX6_hasPart 0 = .ok (.iload_n 1, 1) := by decide +kernel
theorem dX6_hasPart_1 : decode cX6_hasPart 1 = .ok (.ifCond .lt 15, 3) := by decide +kernel
theorem dX6_hasPart_4 : decode cX6_hasPart 4 = .ok (.iload_n 1, 1) := by decide +kernel
theorem dX6_hasPart_5 : decode cX6_hasPart 5 = .ok (.aload_n 0, 1) := by decide +kernel
theorem dX6_hasPart_6 : decode cX6_hasPart 6 = .ok (.getfield 37, 3) := by decide +kernel
theorem dX6_hasPart_9 : decode cX6_hasPart 9 = .ok (.if_icmp .ge 7, 3) := by decide +kernel
theorem dX6_hasPart_12 : decode cX6_hasPart 12 = .ok (.iconst 1, 1) := by decide +kernel
theorem dX6_hasPart_13 : decode cX6_hasPart 13 = .ok (.goto 4, 3) := by decide +kernel
theorem dX6_hasPart_16 : decode cX6_hasPart 16 = .ok (.iconst 0, 1) := by decide +kernel
theorem dX6_hasPart_17 : decode cX6_hasPart 17 = .ok (.ireturn, 1) := by decide +kernel
theorem dX6_hasLot_0 : decode cX6_hasLot 0 = .ok (.iload_n 1, 1) := by decide +kernel
theorem dX6_hasLot_1 : decode cX6_hasLot 1 = .ok (.ifCond .lt 15, 3) := by decide +kernel
theorem dX6_hasLot_4 : decode cX6_hasLot 4 = .ok (.iload_n 1, 1) := by decide +kernel
theorem dX6_hasLot_5 : decode cX6_hasLot 5 = .ok (.aload_n 0, 1) := by decide +kernel
theorem dX6_hasLot_6 : decode cX6_hasLot 6 = .ok (.getfield 40, 3) := by decide +kernel
theorem dX6_hasLot_9 : decode cX6_hasLot 9 = .ok (.if_icmp .ge 7, 3) := by decide +kernel
theorem dX6_hasLot_12 : decode cX6_hasLot 12 = .ok (.iconst 1, 1) := by decide +kernel
theorem dX6_hasLot_13 : decode cX6_hasLot 13 = .ok (.goto 4, 3) := by decide +kernel
theorem dX6_hasLot_16 : decode cX6_hasLot 16 = .ok (.iconst 0, 1) := by decide +kernel
theorem dX6_hasLot_17 : decode cX6_hasLot 17 = .ok (.ireturn, 1) := by decide +kernel
theorem dX6_canMake_0 : decode cX6_canMake 0 = .ok (.aload_n 0, 1) := by decide +kernel
theorem dX6_canMake_1 : decode cX6_canMake 1 = .ok (.getfield 11, 3) := by decide +kernel
theorem dX6_canMake_4 : decode cX6_canMake 4 = .ok (.iload_n 1, 1) := by decide +kernel
theorem dX6_canMake_5 : decode cX6_canMake 5 = .ok (.aaload, 1) := by decide +kernel
theorem dX6_canMake_6 : decode cX6_canMake 6 = .ok (.getfield 69, 3) := by decide +kernel
theorem dX6_canMake_9 : decode cX6_canMake 9 = .ok (.istore 4, 2) := by decide +kernel
theorem dX6_canMake_11 : decode cX6_canMake 11 = .ok (.iload 4, 2) := by decide +kernel
theorem dX6_canMake_13 : decode cX6_canMake 13 = .ok (.iload_n 2, 1) := by decide +kernel
theorem dX6_canMake_14 : decode cX6_canMake 14 = .ok (.iload_n 3, 1) := by decide +kernel
theorem dX6_canMake_15 : decode cX6_canMake 15 = .ok (.invokestatic 72, 3) := by decide +kernel
theorem dX6_canMake_18 : decode cX6_canMake 18 = .ok (.istore 5, 2) := by decide +kernel
theorem dX6_canMake_20 : decode cX6_canMake 20 = .ok (.aload_n 0, 1) := by decide +kernel
theorem dX6_canMake_21 : decode cX6_canMake 21 = .ok (.getfield 19, 3) := by decide +kernel
theorem dX6_canMake_24 : decode cX6_canMake 24 = .ok (.iload_n 2, 1) := by decide +kernel
theorem dX6_canMake_25 : decode cX6_canMake 25 = .ok (.aaload, 1) := by decide +kernel
theorem dX6_canMake_26 : decode cX6_canMake 26 = .ok (.invokevirtual 76, 3) := by decide +kernel
theorem dX6_canMake_29 : decode cX6_canMake 29 = .ok (.iload 5, 2) := by decide +kernel
theorem dX6_canMake_31 : decode cX6_canMake 31 = .ok (.if_icmp .lt 24, 3) := by decide +kernel
theorem dX6_canMake_34 : decode cX6_canMake 34 = .ok (.aload_n 0, 1) := by decide +kernel
theorem dX6_canMake_35 : decode cX6_canMake 35 = .ok (.getfield 19, 3) := by decide +kernel
theorem dX6_canMake_38 : decode cX6_canMake 38 = .ok (.iload_n 3, 1) := by decide +kernel
theorem dX6_canMake_39 : decode cX6_canMake 39 = .ok (.aaload, 1) := by decide +kernel
theorem dX6_canMake_40 : decode cX6_canMake 40 = .ok (.invokevirtual 76, 3) := by decide +kernel
theorem dX6_canMake_43 : decode cX6_canMake 43 = .ok (.iload 4, 2) := by decide +kernel
theorem dX6_canMake_45 : decode cX6_canMake 45 = .ok (.iload 5, 2) := by decide +kernel
theorem dX6_canMake_47 : decode cX6_canMake 47 = .ok (.isub, 1) := by decide +kernel
theorem dX6_canMake_48 : decode cX6_canMake 48 = .ok (.if_icmp .lt 7, 3) := by decide +kernel
theorem dX6_canMake_51 : decode cX6_canMake 51 = .ok (.iconst 1, 1) := by decide +kernel
theorem dX6_canMake_52 : decode cX6_canMake 52 = .ok (.goto 4, 3) := by decide +kernel
theorem dX6_canMake_55 : decode cX6_canMake 55 = .ok (.iconst 0, 1) := by decide +kernel
theorem dX6_canMake_56 : decode cX6_canMake 56 = .ok (.ireturn, 1) := by decide +kernel
theorem dX6_make_0 : decode cX6_make 0 = .ok (.aload_n 0, 1) := by decide +kernel
theorem dX6_make_1 : decode cX6_make 1 = .ok (.getfield 11, 3) := by decide +kernel
theorem dX6_make_4 : decode cX6_make 4 = .ok (.iload_n 1, 1) := by decide +kernel
theorem dX6_make_5 : decode cX6_make 5 = .ok (.aaload, 1) := by decide +kernel
theorem dX6_make_6 : decode cX6_make 6 = .ok (.astore 4, 2) := by decide +kernel
theorem dX6_make_8 : decode cX6_make 8 = .ok (.aload 4, 2) := by decide +kernel
theorem dX6_make_10 : decode cX6_make 10 = .ok (.iload_n 2, 1) := by decide +kernel
theorem dX6_make_11 : decode cX6_make 11 = .ok (.putfield 79, 3) := by decide +kernel
theorem dX6_make_14 : decode cX6_make 14 = .ok (.aload 4, 2) := by decide +kernel
theorem dX6_make_16 : decode cX6_make 16 = .ok (.iload_n 2, 1) := by decide +kernel
theorem dX6_make_17 : decode cX6_make 17 = .ok (.iload_n 3, 1) := by decide +kernel
theorem dX6_make_18 : decode cX6_make 18 = .ok (.if_icmp .ne 7, 3) := by decide +kernel
theorem dX6_make_21 : decode cX6_make 21 = .ok (.iconst (-1), 1) := by decide +kernel
theorem dX6_make_22 : decode cX6_make 22 = .ok (.goto 4, 3) := by decide +kernel
theorem dX6_make_25 : decode cX6_make 25 = .ok (.iload_n 3, 1) := by decide +kernel
theorem dX6_make_26 : decode cX6_make 26 = .ok (.putfield 82, 3) := by decide +kernel
theorem dX6_make_29 : decode cX6_make 29 = .ok (.aload 4, 2) := by decide +kernel
theorem dX6_make_31 : decode cX6_make 31 = .ok (.aload 4, 2) := by decide +kernel
theorem dX6_make_33 : decode cX6_make 33 = .ok (.getfield 69, 3) := by decide +kernel
theorem dX6_make_36 : decode cX6_make 36 = .ok (.iload_n 2, 1) := by decide +kernel
theorem dX6_make_37 : decode cX6_make 37 = .ok (.iload_n 3, 1) := by decide +kernel
theorem dX6_make_38 : decode cX6_make 38 = .ok (.invokestatic 72, 3) := by decide +kernel
theorem dX6_make_41 : decode cX6_make 41 = .ok (.putfield 85, 3) := by decide +kernel
theorem dX6_make_44 : decode cX6_make 44 = .ok (.aload 4, 2) := by decide +kernel
theorem dX6_make_46 : decode cX6_make 46 = .ok (.aload 4, 2) := by decide +kernel
theorem dX6_make_48 : decode cX6_make 48 = .ok (.getfield 69, 3) := by decide +kernel
theorem dX6_make_51 : decode cX6_make 51 = .ok (.aload 4, 2) := by decide +kernel
theorem dX6_make_53 : decode cX6_make 53 = .ok (.getfield 85, 3) := by decide +kernel
theorem dX6_make_56 : decode cX6_make 56 = .ok (.isub, 1) := by decide +kernel
theorem dX6_make_57 : decode cX6_make 57 = .ok (.putfield 88, 3) := by decide +kernel
theorem dX6_make_60 : decode cX6_make 60 = .ok (.aload_n 0, 1) := by decide +kernel
theorem dX6_make_61 : decode cX6_make 61 = .ok (.getfield 19, 3) := by decide +kernel
theorem dX6_make_64 : decode cX6_make 64 = .ok (.iload_n 2, 1) := by decide +kernel
theorem dX6_make_65 : decode cX6_make 65 = .ok (.aaload, 1) := by decide +kernel
theorem dX6_make_66 : decode cX6_make 66 = .ok (.aload 4, 2) := by decide +kernel
theorem dX6_make_68 : decode cX6_make 68 = .ok (.getfield 85, 3) := by decide +kernel
theorem dX6_make_71 : decode cX6_make 71 = .ok (.invokevirtual 91, 3) := by decide +kernel
theorem dX6_make_74 : decode cX6_make 74 = .ok (.aload_n 0, 1) := by decide +kernel
theorem dX6_make_75 : decode cX6_make 75 = .ok (.getfield 19, 3) := by decide +kernel
theorem dX6_make_78 : decode cX6_make 78 = .ok (.iload_n 3, 1) := by decide +kernel
theorem dX6_make_79 : decode cX6_make 79 = .ok (.aaload, 1) := by decide +kernel
theorem dX6_make_80 : decode cX6_make 80 = .ok (.aload 4, 2) := by decide +kernel
theorem dX6_make_82 : decode cX6_make 82 = .ok (.getfield 88, 3) := by decide +kernel
theorem dX6_make_85 : decode cX6_make 85 = .ok (.invokevirtual 91, 3) := by decide +kernel
theorem dX6_make_88 : decode cX6_make 88 = .ok (.return_, 1) := by decide +kernel
theorem dX6_unravel_0 : decode cX6_unravel 0 = .ok (.aload_n 0, 1) := by decide +kernel
theorem dX6_unravel_1 : decode cX6_unravel 1 = .ok (.getfield 11, 3) := by decide +kernel
theorem dX6_unravel_4 : decode cX6_unravel 4 = .ok (.iload_n 1, 1) := by decide +kernel
theorem dX6_unravel_5 : decode cX6_unravel 5 = .ok (.aaload, 1) := by decide +kernel
theorem dX6_unravel_6 : decode cX6_unravel 6 = .ok (.astore_n 2, 1) := by decide +kernel
theorem dX6_unravel_7 : decode cX6_unravel 7 = .ok (.iconst 0, 1) := by decide +kernel
theorem dX6_unravel_8 : decode cX6_unravel 8 = .ok (.istore_n 3, 1) := by decide +kernel
theorem dX6_unravel_9 : decode cX6_unravel 9 = .ok (.aload_n 0, 1) := by decide +kernel
theorem dX6_unravel_10 : decode cX6_unravel 10 = .ok (.aload_n 2, 1) := by decide +kernel
theorem dX6_unravel_11 : decode cX6_unravel 11 = .ok (.getfield 79, 3) := by decide +kernel
theorem dX6_unravel_14 : decode cX6_unravel 14 = .ok (.invokevirtual 95, 3) := by decide +kernel
theorem dX6_unravel_17 : decode cX6_unravel 17 = .ok (.ifCond .eq 22, 3) := by decide +kernel
theorem dX6_unravel_20 : decode cX6_unravel 20 = .ok (.iload_n 3, 1) := by decide +kernel
theorem dX6_unravel_21 : decode cX6_unravel 21 = .ok (.aload_n 0, 1) := by decide +kernel
theorem dX6_unravel_22 : decode cX6_unravel 22 = .ok (.getfield 19, 3) := by decide +kernel
theorem dX6_unravel_25 : decode cX6_unravel 25 = .ok (.aload_n 2, 1) := by decide +kernel
theorem dX6_unravel_26 : decode cX6_unravel 26 = .ok (.getfield 79, 3) := by decide +kernel
theorem dX6_unravel_29 : decode cX6_unravel 29 = .ok (.aaload, 1) := by decide +kernel
theorem dX6_unravel_30 : decode cX6_unravel 30 = .ok (.aload_n 2, 1) := by decide +kernel
theorem dX6_unravel_31 : decode cX6_unravel 31 = .ok (.getfield 85, 3) := by decide +kernel
theorem dX6_unravel_34 : decode cX6_unravel 34 = .ok (.invokevirtual 99, 3) := by decide +kernel
theorem dX6_unravel_37 : decode cX6_unravel 37 = .ok (.iadd, 1) := by decide +kernel
theorem dX6_unravel_38 : decode cX6_unravel 38 = .ok (.istore_n 3, 1) := by decide +kernel
theorem dX6_unravel_39 : decode cX6_unravel 39 = .ok (.aload_n 0, 1) := by decide +kernel
theorem dX6_unravel_40 : decode cX6_unravel 40 = .ok (.aload_n 2, 1) := by decide +kernel
theorem dX6_unravel_41 : decode cX6_unravel 41 = .ok (.getfield 82, 3) := by decide +kernel
theorem dX6_unravel_44 : decode cX6_unravel 44 = .ok (.invokevirtual 95, 3) := by decide +kernel
theorem dX6_unravel_47 : decode cX6_unravel 47 = .ok (.ifCond .eq 22, 3) := by decide +kernel
theorem dX6_unravel_50 : decode cX6_unravel 50 = .ok (.iload_n 3, 1) := by decide +kernel
theorem dX6_unravel_51 : decode cX6_unravel 51 = .ok (.aload_n 0, 1) := by decide +kernel
theorem dX6_unravel_52 : decode cX6_unravel 52 = .ok (.getfield 19, 3) := by decide +kernel
theorem dX6_unravel_55 : decode cX6_unravel 55 = .ok (.aload_n 2, 1) := by decide +kernel
theorem dX6_unravel_56 : decode cX6_unravel 56 = .ok (.getfield 82, 3) := by decide +kernel
theorem dX6_unravel_59 : decode cX6_unravel 59 = .ok (.aaload, 1) := by decide +kernel
theorem dX6_unravel_60 : decode cX6_unravel 60 = .ok (.aload_n 2, 1) := by decide +kernel
theorem dX6_unravel_61 : decode cX6_unravel 61 = .ok (.getfield 88, 3) := by decide +kernel
theorem dX6_unravel_64 : decode cX6_unravel 64 = .ok (.invokevirtual 99, 3) := by decide +kernel
theorem dX6_unravel_67 : decode cX6_unravel 67 = .ok (.iadd, 1) := by decide +kernel
theorem dX6_unravel_68 : decode cX6_unravel 68 = .ok (.istore_n 3, 1) := by decide +kernel
theorem dX6_unravel_69 : decode cX6_unravel 69 = .ok (.aload_n 2, 1) := by decide +kernel
theorem dX6_unravel_70 : decode cX6_unravel 70 = .ok (.invokevirtual 102, 3) := by decide +kernel
theorem dX6_unravel_73 : decode cX6_unravel 73 = .ok (.iload_n 3, 1) := by decide +kernel
theorem dX6_unravel_74 : decode cX6_unravel 74 = .ok (.ireturn, 1) := by decide +kernel
theorem dX6_tone_0 : decode cX6_tone 0 = .ok (.aload_n 0, 1) := by decide +kernel
theorem dX6_tone_1 : decode cX6_tone 1 = .ok (.getfield 11, 3) := by decide +kernel
theorem dX6_tone_4 : decode cX6_tone 4 = .ok (.iload_n 1, 1) := by decide +kernel
theorem dX6_tone_5 : decode cX6_tone 5 = .ok (.aaload, 1) := by decide +kernel
theorem dX6_tone_6 : decode cX6_tone 6 = .ok (.astore_n 2, 1) := by decide +kernel
theorem dX6_tone_7 : decode cX6_tone 7 = .ok (.aload_n 0, 1) := by decide +kernel
theorem dX6_tone_8 : decode cX6_tone 8 = .ok (.aload_n 2, 1) := by decide +kernel
theorem dX6_tone_9 : decode cX6_tone 9 = .ok (.getfield 79, 3) := by decide +kernel
theorem dX6_tone_12 : decode cX6_tone 12 = .ok (.invokevirtual 95, 3) := by decide +kernel
theorem dX6_tone_15 : decode cX6_tone 15 = .ok (.ifCond .ne 5, 3) := by decide +kernel
theorem dX6_tone_18 : decode cX6_tone 18 = .ok (.iconst (-1), 1) := by decide +kernel
theorem dX6_tone_19 : decode cX6_tone 19 = .ok (.ireturn, 1) := by decide +kernel
theorem dX6_tone_20 : decode cX6_tone 20 = .ok (.aload_n 0, 1) := by decide +kernel
theorem dX6_tone_21 : decode cX6_tone 21 = .ok (.aload_n 2, 1) := by decide +kernel
theorem dX6_tone_22 : decode cX6_tone 22 = .ok (.getfield 82, 3) := by decide +kernel
theorem dX6_tone_25 : decode cX6_tone 25 = .ok (.invokevirtual 95, 3) := by decide +kernel
theorem dX6_tone_28 : decode cX6_tone 28 = .ok (.ifCond .eq 10, 3) := by decide +kernel
theorem dX6_tone_31 : decode cX6_tone 31 = .ok (.aload_n 2, 1) := by decide +kernel
theorem dX6_tone_32 : decode cX6_tone 32 = .ok (.getfield 82, 3) := by decide +kernel
theorem dX6_tone_35 : decode cX6_tone 35 = .ok (.goto 7, 3) := by decide +kernel
theorem dX6_tone_38 : decode cX6_tone 38 = .ok (.aload_n 2, 1) := by decide +kernel
theorem dX6_tone_39 : decode cX6_tone 39 = .ok (.getfield 79, 3) := by decide +kernel
theorem dX6_tone_42 : decode cX6_tone 42 = .ok (.istore_n 3, 1) := by decide +kernel
theorem dX6_tone_43 : decode cX6_tone 43 = .ok (.aload_n 0, 1) := by decide +kernel
theorem dX6_tone_44 : decode cX6_tone 44 = .ok (.getfield 19, 3) := by decide +kernel
theorem dX6_tone_47 : decode cX6_tone 47 = .ok (.aload_n 2, 1) := by decide +kernel
theorem dX6_tone_48 : decode cX6_tone 48 = .ok (.getfield 79, 3) := by decide +kernel
theorem dX6_tone_51 : decode cX6_tone 51 = .ok (.aaload, 1) := by decide +kernel
theorem dX6_tone_52 : decode cX6_tone 52 = .ok (.getfield 105, 3) := by decide +kernel
theorem dX6_tone_55 : decode cX6_tone 55 = .ok (.aload_n 0, 1) := by decide +kernel
theorem dX6_tone_56 : decode cX6_tone 56 = .ok (.getfield 19, 3) := by decide +kernel
theorem dX6_tone_59 : decode cX6_tone 59 = .ok (.iload_n 3, 1) := by decide +kernel
theorem dX6_tone_60 : decode cX6_tone 60 = .ok (.aaload, 1) := by decide +kernel
theorem dX6_tone_61 : decode cX6_tone 61 = .ok (.getfield 105, 3) := by decide +kernel
theorem dX6_tone_64 : decode cX6_tone 64 = .ok (.iadd, 1) := by decide +kernel
theorem dX6_tone_65 : decode cX6_tone 65 = .ok (.ireturn, 1) := by decide +kernel
theorem dX6_seenWith_0 : decode cX6_seenWith 0 = .ok (.aload_n 0, 1) := by decide +kernel
theorem dX6_seenWith_1 : decode cX6_seenWith 1 = .ok (.iload_n 1, 1) := by decide +kernel
theorem dX6_seenWith_2 : decode cX6_seenWith 2 = .ok (.invokevirtual 108, 3) := by decide +kernel
theorem dX6_seenWith_5 : decode cX6_seenWith 5 = .ok (.ifCond .eq 13, 3) := by decide +kernel
theorem dX6_seenWith_8 : decode cX6_seenWith 8 = .ok (.aload_n 0, 1) := by decide +kernel
theorem dX6_seenWith_9 : decode cX6_seenWith 9 = .ok (.iload_n 1, 1) := by decide +kernel
theorem dX6_seenWith_10 : decode cX6_seenWith 10 = .ok (.iconst 1, 1) := by decide +kernel
theorem dX6_seenWith_11 : decode cX6_seenWith 11 = .ok (.iadd, 1) := by decide +kernel
theorem dX6_seenWith_12 : decode cX6_seenWith 12 = .ok (.invokevirtual 108, 3) := by decide +kernel
theorem dX6_seenWith_15 : decode cX6_seenWith 15 = .ok (.ifCond .ne 5, 3) := by decide +kernel
theorem dX6_seenWith_18 : decode cX6_seenWith 18 = .ok (.iconst 0, 1) := by decide +kernel
theorem dX6_seenWith_19 : decode cX6_seenWith 19 = .ok (.ireturn, 1) := by decide +kernel
theorem dX6_seenWith_20 : decode cX6_seenWith 20 = .ok (.aload_n 0, 1) := by decide +kernel
theorem dX6_seenWith_21 : decode cX6_seenWith 21 = .ok (.getfield 11, 3) := by decide +kernel
theorem dX6_seenWith_24 : decode cX6_seenWith 24 = .ok (.iload_n 1, 1) := by decide +kernel
theorem dX6_seenWith_25 : decode cX6_seenWith 25 = .ok (.aaload, 1) := by decide +kernel
theorem dX6_seenWith_26 : decode cX6_seenWith 26 = .ok (.astore 4, 2) := by decide +kernel
theorem dX6_seenWith_28 : decode cX6_seenWith 28 = .ok (.aload_n 0, 1) := by decide +kernel
theorem dX6_seenWith_29 : decode cX6_seenWith 29 = .ok (.getfield 11, 3) := by decide +kernel
theorem dX6_seenWith_32 : decode cX6_seenWith 32 = .ok (.iload_n 1, 1) := by decide +kernel
theorem dX6_seenWith_33 : decode cX6_seenWith 33 = .ok (.iconst 1, 1) := by decide +kernel
theorem dX6_seenWith_34 : decode cX6_seenWith 34 = .ok (.iadd, 1) := by decide +kernel
theorem dX6_seenWith_35 : decode cX6_seenWith 35 = .ok (.aaload, 1) := by decide +kernel
theorem dX6_seenWith_36 : decode cX6_seenWith 36 = .ok (.astore 5, 2) := by decide +kernel
theorem dX6_seenWith_38 : decode cX6_seenWith 38 = .ok (.iload_n 2, 1) := by decide +kernel
theorem dX6_seenWith_39 : decode cX6_seenWith 39 = .ok (.iload_n 3, 1) := by decide +kernel
theorem dX6_seenWith_40 : decode cX6_seenWith 40 = .ok (.isub, 1) := by decide +kernel
theorem dX6_seenWith_41 : decode cX6_seenWith 41 = .ok (.invokestatic 111, 3) := by decide +kernel
theorem dX6_seenWith_44 : decode cX6_seenWith 44 = .ok (.aload 4, 2) := by decide +kernel
theorem dX6_seenWith_46 : decode cX6_seenWith 46 = .ok (.invokevirtual 114, 3) := by decide +kernel
theorem dX6_seenWith_49 : decode cX6_seenWith 49 = .ok (.aload 5, 2) := by decide +kernel
theorem dX6_seenWith_51 : decode cX6_seenWith 51 = .ok (.invokevirtual 114, 3) := by decide +kernel
theorem dX6_seenWith_54 : decode cX6_seenWith 54 = .ok (.invokestatic 31, 3) := by decide +kernel
theorem dX6_seenWith_57 : decode cX6_seenWith 57 = .ok (.imul, 1) := by decide +kernel
theorem dX6_seenWith_58 : decode cX6_seenWith 58 = .ok (.istore 6, 2) := by decide +kernel
theorem dX6_seenWith_60 : decode cX6_seenWith 60 = .ok (.aload 4, 2) := by decide +kernel
theorem dX6_seenWith_62 : decode cX6_seenWith 62 = .ok (.getfield 117, 3) := by decide +kernel
theorem dX6_seenWith_65 : decode cX6_seenWith 65 = .ok (.iconst 2, 1) := by decide +kernel
theorem dX6_seenWith_66 : decode cX6_seenWith 66 = .ok (.if_icmp .ne 19, 3) := by decide +kernel
theorem dX6_seenWith_69 : decode cX6_seenWith 69 = .ok (.aload 5, 2) := by decide +kernel
theorem dX6_seenWith_71 : decode cX6_seenWith 71 = .ok (.getfield 117, 3) := by decide +kernel
theorem dX6_seenWith_74 : decode cX6_seenWith 74 = .ok (.iconst 2, 1) := by decide +kernel
theorem dX6_seenWith_75 : decode cX6_seenWith 75 = .ok (.if_icmp .ne 10, 3) := by decide +kernel
theorem dX6_seenWith_78 : decode cX6_seenWith 78 = .ok (.iconst 2, 1) := by decide +kernel
theorem dX6_seenWith_79 : decode cX6_seenWith 79 = .ok (.iload 6, 2) := by decide +kernel
theorem dX6_seenWith_81 : decode cX6_seenWith 81 = .ok (.imul, 1) := by decide +kernel
theorem dX6_seenWith_82 : decode cX6_seenWith 82 = .ok (.goto 5, 3) := by decide +kernel
theorem dX6_seenWith_85 : decode cX6_seenWith 85 = .ok (.iload 6, 2) := by decide +kernel
theorem dX6_seenWith_87 : decode cX6_seenWith 87 = .ok (.ireturn, 1) := by decide +kernel
theorem dX6_seenNext_0 : decode cX6_seenNext 0 = .ok (.aload_n 0, 1) := by decide +kernel
theorem dX6_seenNext_1 : decode cX6_seenNext 1 = .ok (.iload_n 1, 1) := by decide +kernel
theorem dX6_seenNext_2 : decode cX6_seenNext 2 = .ok (.invokevirtual 108, 3) := by decide +kernel
theorem dX6_seenNext_5 : decode cX6_seenNext 5 = .ok (.ifCond .eq 13, 3) := by decide +kernel
theorem dX6_seenNext_8 : decode cX6_seenNext 8 = .ok (.aload_n 0, 1) := by decide +kernel
theorem dX6_seenNext_9 : decode cX6_seenNext 9 = .ok (.iload_n 1, 1) := by decide +kernel
theorem dX6_seenNext_10 : decode cX6_seenNext 10 = .ok (.iconst 1, 1) := by decide +kernel
theorem dX6_seenNext_11 : decode cX6_seenNext 11 = .ok (.iadd, 1) := by decide +kernel
theorem dX6_seenNext_12 : decode cX6_seenNext 12 = .ok (.invokevirtual 108, 3) := by decide +kernel
theorem dX6_seenNext_15 : decode cX6_seenNext 15 = .ok (.ifCond .ne 5, 3) := by decide +kernel
theorem dX6_seenNext_18 : decode cX6_seenNext 18 = .ok (.iconst 0, 1) := by decide +kernel
theorem dX6_seenNext_19 : decode cX6_seenNext 19 = .ok (.ireturn, 1) := by decide +kernel
theorem dX6_seenNext_20 : decode cX6_seenNext 20 = .ok (.aload_n 0, 1) := by decide +kernel
theorem dX6_seenNext_21 : decode cX6_seenNext 21 = .ok (.getfield 11, 3) := by decide +kernel
theorem dX6_seenNext_24 : decode cX6_seenNext 24 = .ok (.iload_n 1, 1) := by decide +kernel
theorem dX6_seenNext_25 : decode cX6_seenNext 25 = .ok (.aaload, 1) := by decide +kernel
theorem dX6_seenNext_26 : decode cX6_seenNext 26 = .ok (.invokevirtual 120, 3) := by decide +kernel
theorem dX6_seenNext_29 : decode cX6_seenNext 29 = .ok (.ifCond .eq 17, 3) := by decide +kernel
theorem dX6_seenNext_32 : decode cX6_seenNext 32 = .ok (.aload_n 0, 1) := by decide +kernel
theorem dX6_seenNext_33 : decode cX6_seenNext 33 = .ok (.getfield 11, 3) := by decide +kernel
theorem dX6_seenNext_36 : decode cX6_seenNext 36 = .ok (.iload_n 1, 1) := by decide +kernel
theorem dX6_seenNext_37 : decode cX6_seenNext 37 = .ok (.iconst 1, 1) := by decide +kernel
theorem dX6_seenNext_38 : decode cX6_seenNext 38 = .ok (.iadd, 1) := by decide +kernel
theorem dX6_seenNext_39 : decode cX6_seenNext 39 = .ok (.aaload, 1) := by decide +kernel
theorem dX6_seenNext_40 : decode cX6_seenNext 40 = .ok (.invokevirtual 120, 3) := by decide +kernel
theorem dX6_seenNext_43 : decode cX6_seenNext 43 = .ok (.ifCond .ne 5, 3) := by decide +kernel
theorem dX6_seenNext_46 : decode cX6_seenNext 46 = .ok (.iconst 0, 1) := by decide +kernel
theorem dX6_seenNext_47 : decode cX6_seenNext 47 = .ok (.ireturn, 1) := by decide +kernel
theorem dX6_seenNext_48 : decode cX6_seenNext 48 = .ok (.aload_n 0, 1) := by decide +kernel
theorem dX6_seenNext_49 : decode cX6_seenNext 49 = .ok (.iload_n 1, 1) := by decide +kernel
theorem dX6_seenNext_50 : decode cX6_seenNext 50 = .ok (.aload_n 0, 1) := by decide +kernel
theorem dX6_seenNext_51 : decode cX6_seenNext 51 = .ok (.iload_n 1, 1) := by decide +kernel
theorem dX6_seenNext_52 : decode cX6_seenNext 52 = .ok (.invokevirtual 124, 3) := by decide +kernel
theorem dX6_seenNext_55 : decode cX6_seenNext 55 = .ok (.aload_n 0, 1) := by decide +kernel
theorem dX6_seenNext_56 : decode cX6_seenNext 56 = .ok (.iload_n 1, 1) := by decide +kernel
theorem dX6_seenNext_57 : decode cX6_seenNext 57 = .ok (.iconst 1, 1) := by decide +kernel
theorem dX6_seenNext_58 : decode cX6_seenNext 58 = .ok (.iadd, 1) := by decide +kernel
theorem dX6_seenNext_59 : decode cX6_seenNext 59 = .ok (.invokevirtual 124, 3) := by decide +kernel
theorem dX6_seenNext_62 : decode cX6_seenNext 62 = .ok (.invokevirtual 127, 3) := by decide +kernel
theorem dX6_seenNext_65 : decode cX6_seenNext 65 = .ok (.ireturn, 1) := by decide +kernel
theorem dX6_seenOfAll_0 : decode cX6_seenOfAll 0 = .ok (.iconst 0, 1) := by decide +kernel
theorem dX6_seenOfAll_1 : decode cX6_seenOfAll 1 = .ok (.istore_n 1, 1) := by decide +kernel
theorem dX6_seenOfAll_2 : decode cX6_seenOfAll 2 = .ok (.iconst 0, 1) := by decide +kernel
theorem dX6_seenOfAll_3 : decode cX6_seenOfAll 3 = .ok (.istore_n 2, 1) := by decide +kernel
theorem dX6_seenOfAll_4 : decode cX6_seenOfAll 4 = .ok (.iload_n 2, 1) := by decide +kernel
theorem dX6_seenOfAll_5 : decode cX6_seenOfAll 5 = .ok (.aload_n 0, 1) := by decide +kernel
theorem dX6_seenOfAll_6 : decode cX6_seenOfAll 6 = .ok (.getfield 37, 3) := by decide +kernel
theorem dX6_seenOfAll_9 : decode cX6_seenOfAll 9 = .ok (.if_icmp .ge 17, 3) := by decide +kernel
theorem dX6_seenOfAll_12 : decode cX6_seenOfAll 12 = .ok (.iload_n 1, 1) := by decide +kernel
theorem dX6_seenOfAll_13 : decode cX6_seenOfAll 13 = .ok (.aload_n 0, 1) := by decide +kernel
theorem dX6_seenOfAll_14 : decode cX6_seenOfAll 14 = .ok (.iload_n 2, 1) := by decide +kernel
theorem dX6_seenOfAll_15 : decode cX6_seenOfAll 15 = .ok (.invokevirtual 130, 3) := by decide +kernel
theorem dX6_seenOfAll_18 : decode cX6_seenOfAll 18 = .ok (.iadd, 1) := by decide +kernel
theorem dX6_seenOfAll_19 : decode cX6_seenOfAll 19 = .ok (.istore_n 1, 1) := by decide +kernel
theorem dX6_seenOfAll_20 : decode cX6_seenOfAll 20 = .ok (.iinc 2 1, 3) := by decide +kernel
theorem dX6_seenOfAll_23 : decode cX6_seenOfAll 23 = .ok (.goto (-19), 3) := by decide +kernel
theorem dX6_seenOfAll_26 : decode cX6_seenOfAll 26 = .ok (.iload_n 1, 1) := by decide +kernel
theorem dX6_seenOfAll_27 : decode cX6_seenOfAll 27 = .ok (.ireturn, 1) := by decide +kernel
theorem dX6_knittedCount_0 : decode cX6_knittedCount 0 = .ok (.iconst 0, 1) := by decide +kernel
theorem dX6_knittedCount_1 : decode cX6_knittedCount 1 = .ok (.istore_n 1, 1) := by decide +kernel
theorem dX6_knittedCount_2 : decode cX6_knittedCount 2 = .ok (.iconst 0, 1) := by decide +kernel
theorem dX6_knittedCount_3 : decode cX6_knittedCount 3 = .ok (.istore_n 2, 1) := by decide +kernel
theorem dX6_knittedCount_4 : decode cX6_knittedCount 4 = .ok (.iload_n 2, 1) := by decide +kernel
theorem dX6_knittedCount_5 : decode cX6_knittedCount 5 = .ok (.aload_n 0, 1) := by decide +kernel
theorem dX6_knittedCount_6 : decode cX6_knittedCount 6 = .ok (.getfield 37, 3) := by decide +kernel
theorem dX6_knittedCount_9 : decode cX6_knittedCount 9 = .ok (.if_icmp .ge 24, 3) := by decide +kernel
theorem dX6_knittedCount_12 : decode cX6_knittedCount 12 = .ok (.aload_n 0, 1) := by decide +kernel
theorem dX6_knittedCount_13 : decode cX6_knittedCount 13 = .ok (.getfield 11, 3) := by decide +kernel
theorem dX6_knittedCount_16 : decode cX6_knittedCount 16 = .ok (.iload_n 2, 1) := by decide +kernel
theorem dX6_knittedCount_17 : decode cX6_knittedCount 17 = .ok (.aaload, 1) := by decide +kernel
theorem dX6_knittedCount_18 : decode cX6_knittedCount 18 = .ok (.invokevirtual 120, 3) := by decide +kernel
theorem dX6_knittedCount_21 : decode cX6_knittedCount 21 = .ok (.ifCond .eq 6, 3) := by decide +kernel
theorem dX6_knittedCount_24 : decode cX6_knittedCount 24 = .ok (.iinc 1 1, 3) := by decide +kernel
theorem dX6_knittedCount_27 : decode cX6_knittedCount 27 = .ok (.iinc 2 1, 3) := by decide +kernel
theorem dX6_knittedCount_30 : decode cX6_knittedCount 30 = .ok (.goto (-26), 3) := by decide +kernel
theorem dX6_knittedCount_33 : decode cX6_knittedCount 33 = .ok (.iload_n 1, 1) := by decide +kernel
theorem dX6_knittedCount_34 : decode cX6_knittedCount 34 = .ok (.ireturn, 1) := by decide +kernel
theorem dX6_foundCount_0 : decode cX6_foundCount 0 = .ok (.iconst 0, 1) := by decide +kernel
theorem dX6_foundCount_1 : decode cX6_foundCount 1 = .ok (.istore_n 1, 1) := by decide +kernel
theorem dX6_foundCount_2 : decode cX6_foundCount 2 = .ok (.iconst 0, 1) := by decide +kernel
theorem dX6_foundCount_3 : decode cX6_foundCount 3 = .ok (.istore_n 2, 1) := by decide +kernel
theorem dX6_foundCount_4 : decode cX6_foundCount 4 = .ok (.iload_n 2, 1) := by decide +kernel
theorem dX6_foundCount_5 : decode cX6_foundCount 5 = .ok (.aload_n 0, 1) := by decide +kernel
theorem dX6_foundCount_6 : decode cX6_foundCount 6 = .ok (.getfield 37, 3) := by decide +kernel
theorem dX6_foundCount_9 : decode cX6_foundCount 9 = .ok (.if_icmp .ge 25, 3) := by decide +kernel
theorem dX6_foundCount_12 : decode cX6_foundCount 12 = .ok (.aload_n 0, 1) := by decide +kernel
theorem dX6_foundCount_13 : decode cX6_foundCount 13 = .ok (.getfield 11, 3) := by decide +kernel
theorem dX6_foundCount_16 : decode cX6_foundCount 16 = .ok (.iload_n 2, 1) := by decide +kernel
theorem dX6_foundCount_17 : decode cX6_foundCount 17 = .ok (.aaload, 1) := by decide +kernel
theorem dX6_foundCount_18 : decode cX6_foundCount 18 = .ok (.getfield 133, 3) := by decide +kernel
theorem dX6_foundCount_21 : decode cX6_foundCount 21 = .ok (.iconst (-1), 1) := by decide +kernel
theorem dX6_foundCount_22 : decode cX6_foundCount 22 = .ok (.if_icmp .eq 6, 3) := by decide +kernel
theorem dX6_foundCount_25 : decode cX6_foundCount 25 = .ok (.iinc 1 1, 3) := by decide +kernel
theorem dX6_foundCount_28 : decode cX6_foundCount 28 = .ok (.iinc 2 1, 3) := by decide +kernel
theorem dX6_foundCount_31 : decode cX6_foundCount 31 = .ok (.goto (-27), 3) := by decide +kernel
theorem dX6_foundCount_34 : decode cX6_foundCount 34 = .ok (.iload_n 1, 1) := by decide +kernel
theorem dX6_foundCount_35 : decode cX6_foundCount 35 = .ok (.ireturn, 1) := by decide +kernel
theorem dX6_sumOfLots_0 : decode cX6_sumOfLots 0 = .ok (.iconst 0, 1) := by decide +kernel
theorem dX6_sumOfLots_1 : decode cX6_sumOfLots 1 = .ok (.istore_n 2, 1) := by decide +kernel
theorem dX6_sumOfLots_2 : decode cX6_sumOfLots 2 = .ok (.iconst 0, 1) := by decide +kernel
theorem dX6_sumOfLots_3 : decode cX6_sumOfLots 3 = .ok (.istore_n 3, 1) := by decide +kernel
theorem dX6_sumOfLots_4 : decode cX6_sumOfLots 4 = .ok (.iload_n 3, 1) := by decide +kernel
theorem dX6_sumOfLots_5 : decode cX6_sumOfLots 5 = .ok (.aload_n 0, 1) := by decide +kernel
theorem dX6_sumOfLots_6 : decode cX6_sumOfLots 6 = .ok (.getfield 40, 3) := by decide +kernel
theorem dX6_sumOfLots_9 : decode cX6_sumOfLots 9 = .ok (.if_icmp .ge 22, 3) := by decide +kernel
theorem dX6_sumOfLots_12 : decode cX6_sumOfLots 12 = .ok (.iload_n 2, 1) := by decide +kernel
theorem dX6_sumOfLots_13 : decode cX6_sumOfLots 13 = .ok (.aload_n 0, 1) := by decide +kernel
theorem dX6_sumOfLots_14 : decode cX6_sumOfLots 14 = .ok (.getfield 19, 3) := by decide +kernel
theorem dX6_sumOfLots_17 : decode cX6_sumOfLots 17 = .ok (.iload_n 3, 1) := by decide +kernel
theorem dX6_sumOfLots_18 : decode cX6_sumOfLots 18 = .ok (.aaload, 1) := by decide +kernel
theorem dX6_sumOfLots_19 : decode cX6_sumOfLots 19 = .ok (.iload_n 1, 1) := by decide +kernel
theorem dX6_sumOfLots_20 : decode cX6_sumOfLots 20 = .ok (.invokevirtual 136, 3) := by decide +kernel
theorem dX6_sumOfLots_23 : decode cX6_sumOfLots 23 = .ok (.iadd, 1) := by decide +kernel
theorem dX6_sumOfLots_24 : decode cX6_sumOfLots 24 = .ok (.istore_n 2, 1) := by decide +kernel
theorem dX6_sumOfLots_25 : decode cX6_sumOfLots 25 = .ok (.iinc 3 1, 3) := by decide +kernel
theorem dX6_sumOfLots_28 : decode cX6_sumOfLots 28 = .ok (.goto (-24), 3) := by decide +kernel
theorem dX6_sumOfLots_31 : decode cX6_sumOfLots 31 = .ok (.iload_n 2, 1) := by decide +kernel
theorem dX6_sumOfLots_32 : decode cX6_sumOfLots 32 = .ok (.ireturn, 1) := by decide +kernel
theorem dX6_ballsWanted_0 : decode cX6_ballsWanted 0 = .ok (.iconst 0, 1) := by decide +kernel
theorem dX6_ballsWanted_1 : decode cX6_ballsWanted 1 = .ok (.istore_n 3, 1) := by decide +kernel
theorem dX6_ballsWanted_2 : decode cX6_ballsWanted 2 = .ok (.iconst 0, 1) := by decide +kernel
theorem dX6_ballsWanted_3 : decode cX6_ballsWanted 3 = .ok (.istore 4, 2) := by decide +kernel
theorem dX6_ballsWanted_5 : decode cX6_ballsWanted 5 = .ok (.iconst 0, 1) := by decide +kernel
theorem dX6_ballsWanted_6 : decode cX6_ballsWanted 6 = .ok (.istore 5, 2) := by decide +kernel
theorem dX6_ballsWanted_8 : decode cX6_ballsWanted 8 = .ok (.iconst 0, 1) := by decide +kernel
theorem dX6_ballsWanted_9 : decode cX6_ballsWanted 9 = .ok (.istore 6, 2) := by decide +kernel
theorem dX6_ballsWanted_11 : decode cX6_ballsWanted 11 = .ok (.iload 6, 2) := by decide +kernel
theorem dX6_ballsWanted_13 : decode cX6_ballsWanted 13 = .ok (.aload_n 0, 1) := by decide +kernel
theorem dX6_ballsWanted_14 : decode cX6_ballsWanted 14 = .ok (.getfield 37, 3) := by decide +kernel
theorem dX6_ballsWanted_17 : decode cX6_ballsWanted 17 = .ok (.if_icmp .ge 65, 3) := by decide +kernel
theorem dX6_ballsWanted_20 : decode cX6_ballsWanted 20 = .ok (.aload_n 0, 1) := by decide +kernel
theorem dX6_ballsWanted_21 : decode cX6_ballsWanted 21 = .ok (.getfield 11, 3) := by decide +kernel
theorem dX6_ballsWanted_24 : decode cX6_ballsWanted 24 = .ok (.iload 6, 2) := by decide +kernel
theorem dX6_ballsWanted_26 : decode cX6_ballsWanted 26 = .ok (.aaload, 1) := by decide +kernel
theorem dX6_ballsWanted_27 : decode cX6_ballsWanted 27 = .ok (.astore 7, 2) := by decide +kernel
theorem dX6_ballsWanted_29 : decode cX6_ballsWanted 29 = .ok (.aload 7, 2) := by decide +kernel
theorem dX6_ballsWanted_31 : decode cX6_ballsWanted 31 = .ok (.invokevirtual 120, 3) := by decide +kernel
theorem dX6_ballsWanted_34 : decode cX6_ballsWanted 34 = .ok (.ifCond .ne 14, 3) := by decide +kernel
theorem dX6_ballsWanted_37 : decode cX6_ballsWanted 37 = .ok (.iload_n 3, 1) := by decide +kernel
theorem dX6_ballsWanted_38 : decode cX6_ballsWanted 38 = .ok (.aload 7, 2) := by decide +kernel
theorem dX6_ballsWanted_40 : decode cX6_ballsWanted 40 = .ok (.getfield 69, 3) := by decide +kernel
theorem dX6_ballsWanted_43 : decode cX6_ballsWanted 43 = .ok (.iadd, 1) := by decide +kernel
theorem dX6_ballsWanted_44 : decode cX6_ballsWanted 44 = .ok (.istore_n 3, 1) := by decide +kernel
theorem dX6_ballsWanted_45 : decode cX6_ballsWanted 45 = .ok (.goto 31, 3) := by decide +kernel
theorem dX6_ballsWanted_48 : decode cX6_ballsWanted 48 = .ok (.aload 7, 2) := by decide +kernel
theorem dX6_ballsWanted_50 : decode cX6_ballsWanted 50 = .ok (.getfield 139, 3) := by decide +kernel
theorem dX6_ballsWanted_53 : decode cX6_ballsWanted 53 = .ok (.ifCond .eq 23, 3) := by decide +kernel
theorem dX6_ballsWanted_56 : decode cX6_ballsWanted 56 = .ok (.iload 4, 2) := by decide +kernel
theorem dX6_ballsWanted_58 : decode cX6_ballsWanted 58 = .ok (.aload 7, 2) := by decide +kernel
theorem dX6_ballsWanted_60 : decode cX6_ballsWanted 60 = .ok (.getfield 85, 3) := by decide +kernel
theorem dX6_ballsWanted_63 : decode cX6_ballsWanted 63 = .ok (.iadd, 1) := by decide +kernel
theorem dX6_ballsWanted_64 : decode cX6_ballsWanted 64 = .ok (.istore 4, 2) := by decide +kernel
theorem dX6_ballsWanted_66 : decode cX6_ballsWanted 66 = .ok (.iload 5, 2) := by decide +kernel
theorem dX6_ballsWanted_68 : decode cX6_ballsWanted 68 = .ok (.aload 7, 2) := by decide +kernel
theorem dX6_ballsWanted_70 : decode cX6_ballsWanted 70 = .ok (.getfield 69, 3) := by decide +kernel
theorem dX6_ballsWanted_73 : decode cX6_ballsWanted 73 = .ok (.iadd, 1) := by decide +kernel
theorem dX6_ballsWanted_74 : decode cX6_ballsWanted 74 = .ok (.istore 5, 2) := by decide +kernel
theorem dX6_ballsWanted_76 : decode cX6_ballsWanted 76 = .ok (.iinc 6 1, 3) := by decide +kernel
theorem dX6_ballsWanted_79 : decode cX6_ballsWanted 79 = .ok (.goto (-68), 3) := by decide +kernel
theorem dX6_ballsWanted_82 : decode cX6_ballsWanted 82 = .ok (.iload_n 2, 1) := by decide +kernel
theorem dX6_ballsWanted_83 : decode cX6_ballsWanted 83 = .ok (.ifCond .eq 21, 3) := by decide +kernel
theorem dX6_ballsWanted_86 : decode cX6_ballsWanted 86 = .ok (.iload 5, 2) := by decide +kernel
theorem dX6_ballsWanted_88 : decode cX6_ballsWanted 88 = .ok (.ifCond .le 16, 3) := by decide +kernel
theorem dX6_ballsWanted_91 : decode cX6_ballsWanted 91 = .ok (.iload_n 3, 1) := by decide +kernel
theorem dX6_ballsWanted_92 : decode cX6_ballsWanted 92 = .ok (.iload 4, 2) := by decide +kernel
theorem dX6_ballsWanted_94 : decode cX6_ballsWanted 94 = .ok (.imul, 1) := by decide +kernel
theorem dX6_ballsWanted_95 : decode cX6_ballsWanted 95 = .ok (.iload 5, 2) := by decide +kernel
theorem dX6_ballsWanted_97 : decode cX6_ballsWanted 97 = .ok (.iadd, 1) := by decide +kernel
theorem dX6_ballsWanted_98 : decode cX6_ballsWanted 98 = .ok (.iconst 1, 1) := by decide +kernel
theorem dX6_ballsWanted_99 : decode cX6_ballsWanted 99 = .ok (.isub, 1) := by decide +kernel
theorem dX6_ballsWanted_100 : decode cX6_ballsWanted 100 = .ok (.iload 5, 2) := by decide +kernel
theorem dX6_ballsWanted_102 : decode cX6_ballsWanted 102 = .ok (.idiv, 1) := by decide +kernel
theorem dX6_ballsWanted_103 : decode cX6_ballsWanted 103 = .ok (.istore_n 3, 1) := by decide +kernel
theorem dX6_ballsWanted_104 : decode cX6_ballsWanted 104 = .ok (.iconst 0, 1) := by decide +kernel
theorem dX6_ballsWanted_105 : decode cX6_ballsWanted 105 = .ok (.iload_n 3, 1) := by decide +kernel
theorem dX6_ballsWanted_106 : decode cX6_ballsWanted 106 = .ok (.aload_n 0, 1) := by decide +kernel
theorem dX6_ballsWanted_107 : decode cX6_ballsWanted 107 = .ok (.getfield 19, 3) := by decide +kernel
theorem dX6_ballsWanted_110 : decode cX6_ballsWanted 110 = .ok (.iload_n 1, 1) := by decide +kernel
theorem dX6_ballsWanted_111 : decode cX6_ballsWanted 111 = .ok (.aaload, 1) := by decide +kernel
theorem dX6_ballsWanted_112 : decode cX6_ballsWanted 112 = .ok (.invokevirtual 76, 3) := by decide +kernel
theorem dX6_ballsWanted_115 : decode cX6_ballsWanted 115 = .ok (.isub, 1) := by decide +kernel
theorem dX6_ballsWanted_116 : decode cX6_ballsWanted 116 = .ok (.invokestatic 143, 3) := by decide +kernel
theorem dX6_ballsWanted_119 : decode cX6_ballsWanted 119 = .ok (.istore 6, 2) := by decide +kernel
theorem dX6_ballsWanted_121 : decode cX6_ballsWanted 121 = .ok (.iload 6, 2) := by decide +kernel
theorem dX6_ballsWanted_123 : decode cX6_ballsWanted 123 = .ok (.iconst 4, 1) := by decide +kernel
theorem dX6_ballsWanted_124 : decode cX6_ballsWanted 124 = .ok (.iadd, 1) := by decide +kernel
theorem dX6_ballsWanted_125 : decode cX6_ballsWanted 125 = .ok (.iconst 1, 1) := by decide +kernel
theorem dX6_ballsWanted_126 : decode cX6_ballsWanted 126 = .ok (.isub, 1) := by decide +kernel
theorem dX6_ballsWanted_127 : decode cX6_ballsWanted 127 = .ok (.iconst 4, 1) := by decide +kernel
theorem dX6_ballsWanted_128 : decode cX6_ballsWanted 128 = .ok (.idiv, 1) := by decide +kernel
theorem dX6_ballsWanted_129 : decode cX6_ballsWanted 129 = .ok (.ireturn, 1) := by decide +kernel
theorem dX6_tellPart_0 : decode cX6_tellPart 0 = .ok (.aload_n 0, 1) := by decide +kernel
theorem dX6_tellPart_1 : decode cX6_tellPart 1 = .ok (.getfield 11, 3) := by decide +kernel
theorem dX6_tellPart_4 : decode cX6_tellPart 4 = .ok (.iload_n 1, 1) := by decide +kernel
theorem dX6_tellPart_5 : decode cX6_tellPart 5 = .ok (.aaload, 1) := by decide +kernel
theorem dX6_tellPart_6 : decode cX6_tellPart 6 = .ok (.astore_n 3, 1) := by decide +kernel
theorem dX6_tellPart_7 : decode cX6_tellPart 7 = .ok (.iload_n 2, 1) := by decide +kernel
theorem dX6_tellPart_8 : decode cX6_tellPart 8 = .ok (.tableswitch 95 0 7 #[48, 53, 58, 63, 68, 73, 79, 85], 48) := by decide +kernel
theorem dX6_tellPart_56 : decode cX6_tellPart 56 = .ok (.aload_n 3, 1) := by decide +kernel
theorem dX6_tellPart_57 : decode cX6_tellPart 57 = .ok (.getfield 117, 3) := by decide +kernel
theorem dX6_tellPart_60 : decode cX6_tellPart 60 = .ok (.ireturn, 1) := by decide +kernel
theorem dX6_tellPart_61 : decode cX6_tellPart 61 = .ok (.aload_n 3, 1) := by decide +kernel
theorem dX6_tellPart_62 : decode cX6_tellPart 62 = .ok (.getfield 69, 3) := by decide +kernel
theorem dX6_tellPart_65 : decode cX6_tellPart 65 = .ok (.ireturn, 1) := by decide +kernel
theorem dX6_tellPart_66 : decode cX6_tellPart 66 = .ok (.aload_n 3, 1) := by decide +kernel
theorem dX6_tellPart_67 : decode cX6_tellPart 67 = .ok (.invokevirtual 114, 3) := by decide +kernel
theorem dX6_tellPart_70 : decode cX6_tellPart 70 = .ok (.ireturn, 1) := by decide +kernel
theorem dX6_tellPart_71 : decode cX6_tellPart 71 = .ok (.aload_n 3, 1) := by decide +kernel
theorem dX6_tellPart_72 : decode cX6_tellPart 72 = .ok (.getfield 79, 3) := by decide +kernel
theorem dX6_tellPart_75 : decode cX6_tellPart 75 = .ok (.ireturn, 1) := by decide +kernel
theorem dX6_tellPart_76 : decode cX6_tellPart 76 = .ok (.aload_n 3, 1) := by decide +kernel
theorem dX6_tellPart_77 : decode cX6_tellPart 77 = .ok (.getfield 82, 3) := by decide +kernel
theorem dX6_tellPart_80 : decode cX6_tellPart 80 = .ok (.ireturn, 1) := by decide +kernel
theorem dX6_tellPart_81 : decode cX6_tellPart 81 = .ok (.aload_n 0, 1) := by decide +kernel
theorem dX6_tellPart_82 : decode cX6_tellPart 82 = .ok (.iload_n 1, 1) := by decide +kernel
theorem dX6_tellPart_83 : decode cX6_tellPart 83 = .ok (.invokevirtual 124, 3) := by decide +kernel
theorem dX6_tellPart_86 : decode cX6_tellPart 86 = .ok (.ireturn, 1) := by decide +kernel
theorem dX6_tellPart_87 : decode cX6_tellPart 87 = .ok (.aload_n 0, 1) := by decide +kernel
theorem dX6_tellPart_88 : decode cX6_tellPart 88 = .ok (.iload_n 1, 1) := by decide +kernel
theorem dX6_tellPart_89 : decode cX6_tellPart 89 = .ok (.invokevirtual 130, 3) := by decide +kernel
theorem dX6_tellPart_92 : decode cX6_tellPart 92 = .ok (.ireturn, 1) := by decide +kernel
theorem dX6_tellPart_93 : decode cX6_tellPart 93 = .ok (.aload_n 3, 1) := by decide +kernel
theorem dX6_tellPart_94 : decode cX6_tellPart 94 = .ok (.getfield 85, 3) := by decide +kernel
theorem dX6_tellPart_97 : decode cX6_tellPart 97 = .ok (.aload_n 3, 1) := by decide +kernel
theorem dX6_tellPart_98 : decode cX6_tellPart 98 = .ok (.getfield 88, 3) := by decide +kernel
theorem dX6_tellPart_101 : decode cX6_tellPart 101 = .ok (.iadd, 1) := by decide +kernel
theorem dX6_tellPart_102 : decode cX6_tellPart 102 = .ok (.ireturn, 1) := by decide +kernel
theorem dX6_tellPart_103 : decode cX6_tellPart 103 = .ok (.aload_n 3, 1) := by decide +kernel
theorem dX6_tellPart_104 : decode cX6_tellPart 104 = .ok (.getfield 133, 3) := by decide +kernel
theorem dX6_tellPart_107 : decode cX6_tellPart 107 = .ok (.ireturn, 1) := by decide +kernel
theorem dX6_tellAll_0 : decode cX6_tellAll 0 = .ok (.iload_n 1, 1) := by decide +kernel
theorem dX6_tellAll_1 : decode cX6_tellAll 1 = .ok (.tableswitch 80 0 6 #[43, 48, 53, 58, 63, 68, 74], 43) := by decide +kernel
theorem dX6_tellAll_44 : decode cX6_tellAll 44 = .ok (.aload_n 0, 1) := by decide +kernel
theorem dX6_tellAll_45 : decode cX6_tellAll 45 = .ok (.getfield 37, 3) := by decide +kernel
theorem dX6_tellAll_48 : decode cX6_tellAll 48 = .ok (.ireturn, 1) := by decide +kernel
theorem dX6_tellAll_49 : decode cX6_tellAll 49 = .ok (.aload_n 0, 1) := by decide +kernel
theorem dX6_tellAll_50 : decode cX6_tellAll 50 = .ok (.getfield 59, 3) := by decide +kernel
theorem dX6_tellAll_53 : decode cX6_tellAll 53 = .ok (.ireturn, 1) := by decide +kernel
theorem dX6_tellAll_54 : decode cX6_tellAll 54 = .ok (.aload_n 0, 1) := by decide +kernel
theorem dX6_tellAll_55 : decode cX6_tellAll 55 = .ok (.getfield 40, 3) := by decide +kernel
theorem dX6_tellAll_58 : decode cX6_tellAll 58 = .ok (.ireturn, 1) := by decide +kernel
theorem dX6_tellAll_59 : decode cX6_tellAll 59 = .ok (.aload_n 0, 1) := by decide +kernel
theorem dX6_tellAll_60 : decode cX6_tellAll 60 = .ok (.invokevirtual 146, 3) := by decide +kernel
theorem dX6_tellAll_63 : decode cX6_tellAll 63 = .ok (.ireturn, 1) := by decide +kernel
theorem dX6_tellAll_64 : decode cX6_tellAll 64 = .ok (.aload_n 0, 1) := by decide +kernel
theorem dX6_tellAll_65 : decode cX6_tellAll 65 = .ok (.invokevirtual 149, 3) := by decide +kernel
theorem dX6_tellAll_68 : decode cX6_tellAll 68 = .ok (.ireturn, 1) := by decide +kernel
theorem dX6_tellAll_69 : decode cX6_tellAll 69 = .ok (.aload_n 0, 1) := by decide +kernel
theorem dX6_tellAll_70 : decode cX6_tellAll 70 = .ok (.iconst 1, 1) := by decide +kernel
theorem dX6_tellAll_71 : decode cX6_tellAll 71 = .ok (.invokevirtual 152, 3) := by decide +kernel
theorem dX6_tellAll_74 : decode cX6_tellAll 74 = .ok (.ireturn, 1) := by decide +kernel
theorem dX6_tellAll_75 : decode cX6_tellAll 75 = .ok (.aload_n 0, 1) := by decide +kernel
theorem dX6_tellAll_76 : decode cX6_tellAll 76 = .ok (.iconst 2, 1) := by decide +kernel
theorem dX6_tellAll_77 : decode cX6_tellAll 77 = .ok (.invokevirtual 152, 3) := by decide +kernel
theorem dX6_tellAll_80 : decode cX6_tellAll 80 = .ok (.ireturn, 1) := by decide +kernel
theorem dX6_tellAll_81 : decode cX6_tellAll 81 = .ok (.aload_n 0, 1) := by decide +kernel
theorem dX6_tellAll_82 : decode cX6_tellAll 82 = .ok (.invokevirtual 155, 3) := by decide +kernel
theorem dX6_tellAll_85 : decode cX6_tellAll 85 = .ok (.ireturn, 1) := by decide +kernel
theorem dX7_init_0 : decode cX7_init 0 = .ok (.aload_n 0, 1) := by decide +kernel
theorem dX7_init_1 : decode cX7_init 1 = .ok (.invokespecial 1, 3) := by decide +kernel
theorem dX7_init_4 : decode cX7_init 4 = .ok (.aload_n 0, 1) := by decide +kernel
theorem dX7_init_5 : decode cX7_init 5 = .ok (.new 7, 3) := by decide +kernel
theorem dX7_init_8 : decode cX7_init 8 = .ok (.dup, 1) := by decide +kernel
theorem dX7_init_9 : decode cX7_init 9 = .ok (.invokespecial 9, 3) := by decide +kernel
theorem dX7_init_12 : decode cX7_init 12 = .ok (.putfield 10, 3) := by decide +kernel
theorem dX7_init_15 : decode cX7_init 15 = .ok (.aload_n 0, 1) := by decide +kernel
theorem dX7_init_16 : decode cX7_init 16 = .ok (.new 16, 3) := by decide +kernel
theorem dX7_init_19 : decode cX7_init 19 = .ok (.dup, 1) := by decide +kernel
theorem dX7_init_20 : decode cX7_init 20 = .ok (.invokespecial 18, 3) := by decide +kernel
theorem dX7_init_23 : decode cX7_init 23 = .ok (.putfield 19, 3) := by decide +kernel
theorem dX7_init_26 : decode cX7_init 26 = .ok (.aload_n 0, 1) := by decide +kernel
theorem dX7_init_27 : decode cX7_init 27 = .ok (.new 16, 3) := by decide +kernel
theorem dX7_init_30 : decode cX7_init 30 = .ok (.dup, 1) := by decide +kernel
theorem dX7_init_31 : decode cX7_init 31 = .ok (.invokespecial 18, 3) := by decide +kernel
theorem dX7_init_34 : decode cX7_init 34 = .ok (.putfield 23, 3) := by decide +kernel
theorem dX7_init_37 : decode cX7_init 37 = .ok (.aload_n 0, 1) := by decide +kernel
theorem dX7_init_38 : decode cX7_init 38 = .ok (.new 26, 3) := by decide +kernel
theorem dX7_init_41 : decode cX7_init 41 = .ok (.dup, 1) := by decide +kernel
theorem dX7_init_42 : decode cX7_init 42 = .ok (.invokespecial 28, 3) := by decide +kernel
theorem dX7_init_45 : decode cX7_init 45 = .ok (.putfield 29, 3) := by decide +kernel
theorem dX7_init_48 : decode cX7_init 48 = .ok (.aload_n 0, 1) := by decide +kernel
theorem dX7_init_49 : decode cX7_init 49 = .ok (.new 33, 3) := by decide +kernel
theorem dX7_init_52 : decode cX7_init 52 = .ok (.dup, 1) := by decide +kernel
theorem dX7_init_53 : decode cX7_init 53 = .ok (.invokespecial 35, 3) := by decide +kernel
theorem dX7_init_56 : decode cX7_init 56 = .ok (.putfield 36, 3) := by decide +kernel
theorem dX7_init_59 : decode cX7_init 59 = .ok (.aload_n 0, 1) := by decide +kernel
theorem dX7_init_60 : decode cX7_init 60 = .ok (.new 40, 3) := by decide +kernel
theorem dX7_init_63 : decode cX7_init 63 = .ok (.dup, 1) := by decide +kernel
theorem dX7_init_64 : decode cX7_init 64 = .ok (.invokespecial 42, 3) := by decide +kernel
theorem dX7_init_67 : decode cX7_init 67 = .ok (.putfield 43, 3) := by decide +kernel
theorem dX7_init_70 : decode cX7_init 70 = .ok (.return_, 1) := by decide +kernel
theorem dX7_letter_0 : decode cX7_letter 0 = .ok (.iload_n 1, 1) := by decide +kernel
theorem dX7_letter_1 : decode cX7_letter 1 = .ok (.bipush 32, 2) := by decide +kernel
theorem dX7_letter_3 : decode cX7_letter 3 = .ok (.if_icmp .lt 9, 3) := by decide +kernel
theorem dX7_letter_6 : decode cX7_letter 6 = .ok (.iload_n 1, 1) := by decide +kernel
theorem dX7_letter_7 : decode cX7_letter 7 = .ok (.bipush 126, 2) := by decide +kernel
theorem dX7_letter_9 : decode cX7_letter 9 = .ok (.if_icmp .le 6, 3) := by decide +kernel
theorem dX7_letter_12 : decode cX7_letter 12 = .ok (.bipush (-102), 2) := by decide +kernel
theorem dX7_letter_14 : decode cX7_letter 14 = .ok (.ireturn, 1) := by decide +kernel
theorem dX7_letter_15 : decode cX7_letter 15 = .ok (.aload_n 0, 1) := by decide +kernel
theorem dX7_letter_16 : decode cX7_letter 16 = .ok (.getfield 10, 3) := by decide +kernel
theorem dX7_letter_19 : decode cX7_letter 19 = .ok (.getfield 47, 3) := by decide +kernel
theorem dX7_letter_22 : decode cX7_letter 22 = .ok (.bipush 18, 2) := by decide +kernel
theorem dX7_letter_24 : decode cX7_letter 24 = .ok (.if_icmp .lt 6, 3) := by decide +kernel
theorem dX7_letter_27 : decode cX7_letter 27 = .ok (.bipush (-104), 2) := by decide +kernel
theorem dX7_letter_29 : decode cX7_letter 29 = .ok (.ireturn, 1) := by decide +kernel
theorem dX7_letter_30 : decode cX7_letter 30 = .ok (.aload_n 0, 1) := by decide +kernel
theorem dX7_letter_31 : decode cX7_letter 31 = .ok (.getfield 10, 3) := by decide +kernel
theorem dX7_letter_34 : decode cX7_letter 34 = .ok (.iload_n 1, 1) := by decide +kernel
theorem dX7_letter_35 : decode cX7_letter 35 = .ok (.invokevirtual 51, 3) := by decide +kernel
theorem dX7_letter_38 : decode cX7_letter 38 = .ok (.aload_n 0, 1) := by decide +kernel
theorem dX7_letter_39 : decode cX7_letter 39 = .ok (.getfield 10, 3) := by decide +kernel
theorem dX7_letter_42 : decode cX7_letter 42 = .ok (.getfield 47, 3) := by decide +kernel
theorem dX7_letter_45 : decode cX7_letter 45 = .ok (.ireturn, 1) := by decide +kernel
theorem dX7_blank_0 : decode cX7_blank 0 = .ok (.aload_n 0, 1) := by decide +kernel
theorem dX7_blank_1 : decode cX7_blank 1 = .ok (.getfield 10, 3) := by decide +kernel
theorem dX7_blank_4 : decode cX7_blank 4 = .ok (.getfield 47, 3) := by decide +kernel
theorem dX7_blank_7 : decode cX7_blank 7 = .ok (.istore_n 1, 1) := by decide +kernel
theorem dX7_blank_8 : decode cX7_blank 8 = .ok (.aload_n 0, 1) := by decide +kernel
theorem dX7_blank_9 : decode cX7_blank 9 = .ok (.getfield 10, 3) := by decide +kernel
theorem dX7_blank_12 : decode cX7_blank 12 = .ok (.iconst 0, 1) := by decide +kernel
theorem dX7_blank_13 : decode cX7_blank 13 = .ok (.putfield 47, 3) := by decide +kernel
theorem dX7_blank_16 : decode cX7_blank 16 = .ok (.iload_n 1, 1) := by decide +kernel
theorem dX7_blank_17 : decode cX7_blank 17 = .ok (.ireturn, 1) := by decide +kernel
theorem dX7_fault_0 : decode cX7_fault 0 = .ok (.aload_n 0, 1) := by decide +kernel
theorem dX7_fault_1 : decode cX7_fault 1 = .ok (.getfield 10, 3) := by decide +kernel
theorem dX7_fault_4 : decode cX7_fault 4 = .ok (.invokevirtual 55, 3) := by decide +kernel
theorem dX7_fault_7 : decode cX7_fault 7 = .ok (.ireturn, 1) := by decide +kernel
theorem dX7_garment_0 : decode cX7_garment 0 = .ok (.aload_n 0, 1) := by decide +kernel
theorem dX7_garment_1 : decode cX7_garment 1 = .ok (.getfield 10, 3) := by decide +kernel
theorem dX7_garment_4 : decode cX7_garment 4 = .ok (.invokevirtual 59, 3) := by decide +kernel
theorem dX7_garment_7 : decode cX7_garment 7 = .ok (.ifCond .ne 6, 3) := by decide +kernel
theorem dX7_garment_10 : decode cX7_garment 10 = .ok (.bipush (-103), 2) := by decide +kernel
theorem dX7_garment_12 : decode cX7_garment 12 = .ok (.ireturn, 1) := by decide +kernel
theorem dX7_garment_13 : decode cX7_garment 13 = .ok (.aload_n 0, 1) := by decide +kernel
theorem dX7_garment_14 : decode cX7_garment 14 = .ok (.getfield 19, 3) := by decide +kernel
theorem dX7_garment_17 : decode cX7_garment 17 = .ok (.aload_n 0, 1) := by decide +kernel
theorem dX7_garment_18 : decode cX7_garment 18 = .ok (.getfield 10, 3) := by decide +kernel
theorem dX7_garment_21 : decode cX7_garment 21 = .ok (.invokevirtual 63, 3) := by decide +kernel
theorem dX7_garment_24 : decode cX7_garment 24 = .ok (.aload_n 0, 1) := by decide +kernel
theorem dX7_garment_25 : decode cX7_garment 25 = .ok (.getfield 10, 3) := by decide +kernel
theorem dX7_garment_28 : decode cX7_garment 28 = .ok (.iconst 0, 1) := by decide +kernel
theorem dX7_garment_29 : decode cX7_garment 29 = .ok (.putfield 47, 3) := by decide +kernel
theorem dX7_garment_32 : decode cX7_garment 32 = .ok (.aload_n 0, 1) := by decide +kernel
theorem dX7_garment_33 : decode cX7_garment 33 = .ok (.iconst 0, 1) := by decide +kernel
theorem dX7_garment_34 : decode cX7_garment 34 = .ok (.putfield 67, 3) := by decide +kernel
theorem dX7_garment_37 : decode cX7_garment 37 = .ok (.aload_n 0, 1) := by decide +kernel
theorem dX7_garment_38 : decode cX7_garment 38 = .ok (.dup, 1) := by decide +kernel
theorem dX7_garment_39 : decode cX7_garment 39 = .ok (.getfield 71, 3) := by decide +kernel
theorem dX7_garment_42 : decode cX7_garment 42 = .ok (.iconst 1, 1) := by decide +kernel
theorem dX7_garment_43 : decode cX7_garment 43 = .ok (.iadd, 1) := by decide +kernel
theorem dX7_garment_44 : decode cX7_garment 44 = .ok (.putfield 71, 3) := by decide +kernel
theorem dX7_garment_47 : decode cX7_garment 47 = .ok (.aload_n 0, 1) := by decide +kernel
theorem dX7_garment_48 : decode cX7_garment 48 = .ok (.getfield 19, 3) := by decide +kernel
theorem dX7_garment_51 : decode cX7_garment 51 = .ok (.getfield 74, 3) := by decide +kernel
theorem dX7_garment_54 : decode cX7_garment 54 = .ok (.ireturn, 1) := by decide +kernel
theorem dX7_about_0 : decode cX7_about 0 = .ok (.aload_n 0, 1) := by decide +kernel
theorem dX7_about_1 : decode cX7_about 1 = .ok (.getfield 19, 3) := by decide +kernel
theorem dX7_about_4 : decode cX7_about 4 = .ok (.iload_n 1, 1) := by decide +kernel
theorem dX7_about_5 : decode cX7_about 5 = .ok (.invokevirtual 77, 3) := by decide +kernel
theorem dX7_about_8 : decode cX7_about 8 = .ok (.ifCond .ne 6, 3) := by decide +kernel
theorem dX7_about_11 : decode cX7_about 11 = .ok (.bipush (-101), 2) := by decide +kernel
theorem dX7_about_13 : decode cX7_about 13 = .ok (.ireturn, 1) := by decide +kernel
theorem dX7_about_14 : decode cX7_about 14 = .ok (.iload_n 2, 1) := by decide +kernel
theorem dX7_about_15 : decode cX7_about 15 = .ok (.ifCond .lt 9, 3) := by decide +kernel
theorem dX7_about_18 : decode cX7_about 18 = .ok (.iload_n 2, 1) := by decide +kernel
theorem dX7_about_19 : decode cX7_about 19 = .ok (.bipush 8, 2) := by decide +kernel
theorem dX7_about_21 : decode cX7_about 21 = .ok (.if_icmp .le 6, 3) := by decide +kernel
theorem dX7_about_24 : decode cX7_about 24 = .ok (.bipush (-102), 2) := by decide +kernel
theorem dX7_about_26 : decode cX7_about 26 = .ok (.ireturn, 1) := by decide +kernel
theorem dX7_about_27 : decode cX7_about 27 = .ok (.aload_n 0, 1) := by decide +kernel
theorem dX7_about_28 : decode cX7_about 28 = .ok (.getfield 19, 3) := by decide +kernel
theorem dX7_about_31 : decode cX7_about 31 = .ok (.iload_n 1, 1) := by decide +kernel
theorem dX7_about_32 : decode cX7_about 32 = .ok (.iload_n 2, 1) := by decide +kernel
theorem dX7_about_33 : decode cX7_about 33 = .ok (.invokevirtual 81, 3) := by decide +kernel
theorem dX7_about_36 : decode cX7_about 36 = .ok (.ireturn, 1) := by decide +kernel
theorem dX7_as_0 : decode cX7_as 0 = .ok (.aload_n 0, 1) := by decide +kernel
theorem dX7_as_1 : decode cX7_as 1 = .ok (.getfield 19, 3) := by decide +kernel
theorem dX7_as_4 : decode cX7_as 4 = .ok (.iload_n 1, 1) := by decide +kernel
theorem dX7_as_5 : decode cX7_as 5 = .ok (.invokevirtual 77, 3) := by decide +kernel
theorem dX7_as_8 : decode cX7_as 8 = .ok (.ifCond .ne 6, 3) := by decide +kernel
theorem dX7_as_11 : decode cX7_as 11 = .ok (.bipush (-101), 2) := by decide +kernel
theorem dX7_as_13 : decode cX7_as 13 = .ok (.ireturn, 1) := by decide +kernel
theorem dX7_as_14 : decode cX7_as 14 = .ok (.iload_n 2, 1) := by decide +kernel
theorem dX7_as_15 : decode cX7_as 15 = .ok (.ifCond .lt 11, 3) := by decide +kernel
theorem dX7_as_18 : decode cX7_as 18 = .ok (.iload_n 2, 1) := by decide +kernel
theorem dX7_as_19 : decode cX7_as 19 = .ok (.getstatic 85, 3) := by decide +kernel
theorem dX7_as_22 : decode cX7_as 22 = .ok (.arraylength, 1) := by decide +kernel
theorem dX7_as_23 : decode cX7_as 23 = .ok (.if_icmp .lt 6, 3) := by decide +kernel
theorem dX7_as_26 : decode cX7_as 26 = .ok (.bipush (-102), 2) := by decide +kernel
theorem dX7_as_28 : decode cX7_as 28 = .ok (.ireturn, 1) := by decide +kernel
theorem dX7_as_29 : decode cX7_as 29 = .ok (.aload_n 0, 1) := by decide +kernel
theorem dX7_as_30 : decode cX7_as 30 = .ok (.getfield 19, 3) := by decide +kernel
theorem dX7_as_33 : decode cX7_as 33 = .ok (.getfield 89, 3) := by decide +kernel
theorem dX7_as_36 : decode cX7_as 36 = .ok (.iload_n 1, 1) := by decide +kernel
theorem dX7_as_37 : decode cX7_as 37 = .ok (.aaload, 1) := by decide +kernel
theorem dX7_as_38 : decode cX7_as 38 = .ok (.iload_n 2, 1) := by decide +kernel
theorem dX7_as_39 : decode cX7_as 39 = .ok (.invokevirtual 93, 3) := by decide +kernel
theorem dX7_as_42 : decode cX7_as 42 = .ok (.ifCond .eq 7, 3) := by decide +kernel
theorem dX7_as_45 : decode cX7_as 45 = .ok (.iload_n 1, 1) := by decide +kernel
theorem dX7_as_46 : decode cX7_as 46 = .ok (.goto 4, 3) := by decide +kernel
theorem dX7_as_49 : decode cX7_as 49 = .ok (.iconst (-1), 1) := by decide +kernel
theorem dX7_as_50 : decode cX7_as 50 = .ok (.ireturn, 1) := by decide +kernel
theorem dX7_lot_0 : decode cX7_lot 0 = .ok (.iload_n 1, 1) := by decide +kernel
theorem dX7_lot_1 : decode cX7_lot 1 = .ok (.ifCond .lt 9, 3) := by decide +kernel
theorem dX7_lot_4 : decode cX7_lot 4 = .ok (.iload_n 1, 1) := by decide +kernel
theorem dX7_lot_5 : decode cX7_lot 5 = .ok (.bipush 20, 2) := by decide +kernel
theorem dX7_lot_7 : decode cX7_lot 7 = .ok (.if_icmp .le 6, 3) := by decide +kernel
theorem dX7_lot_10 : decode cX7_lot 10 = .ok (.bipush (-102), 2) := by decide +kernel
theorem dX7_lot_12 : decode cX7_lot 12 = .ok (.ireturn, 1) := by decide +kernel
theorem dX7_lot_13 : decode cX7_lot 13 = .ok (.aload_n 0, 1) := by decide +kernel
theorem dX7_lot_14 : decode cX7_lot 14 = .ok (.getfield 19, 3) := by decide +kernel
theorem dX7_lot_17 : decode cX7_lot 17 = .ok (.getfield 74, 3) := by decide +kernel
theorem dX7_lot_20 : decode cX7_lot 20 = .ok (.ifCond .ne 6, 3) := by decide +kernel
theorem dX7_lot_23 : decode cX7_lot 23 = .ok (.bipush (-103), 2) := by decide +kernel
theorem dX7_lot_25 : decode cX7_lot 25 = .ok (.ireturn, 1) := by decide +kernel
theorem dX7_lot_26 : decode cX7_lot 26 = .ok (.aload_n 0, 1) := by decide +kernel
theorem dX7_lot_27 : decode cX7_lot 27 = .ok (.getfield 19, 3) := by decide +kernel
theorem dX7_lot_30 : decode cX7_lot 30 = .ok (.getfield 98, 3) := by decide +kernel
theorem dX7_lot_33 : decode cX7_lot 33 = .ok (.iconst 3, 1) := by decide +kernel
theorem dX7_lot_34 : decode cX7_lot 34 = .ok (.if_icmp .lt 6, 3) := by decide +kernel
theorem dX7_lot_37 : decode cX7_lot 37 = .ok (.bipush (-104), 2) := by decide +kernel
theorem dX7_lot_39 : decode cX7_lot 39 = .ok (.ireturn, 1) := by decide +kernel
theorem dX7_lot_40 : decode cX7_lot 40 = .ok (.aload_n 0, 1) := by decide +kernel
theorem dX7_lot_41 : decode cX7_lot 41 = .ok (.getfield 19, 3) := by decide +kernel
theorem dX7_lot_44 : decode cX7_lot 44 = .ok (.getfield 101, 3) := by decide +kernel
theorem dX7_lot_47 : decode cX7_lot 47 = .ok (.aload_n 0, 1) := by decide +kernel
theorem dX7_lot_48 : decode cX7_lot 48 = .ok (.getfield 19, 3) := by decide +kernel
theorem dX7_lot_51 : decode cX7_lot 51 = .ok (.getfield 98, 3) := by decide +kernel
theorem dX7_lot_54 : decode cX7_lot 54 = .ok (.aaload, 1) := by decide +kernel
theorem dX7_lot_55 : decode cX7_lot 55 = .ok (.iload_n 1, 1) := by decide +kernel
theorem dX7_lot_56 : decode cX7_lot 56 = .ok (.invokevirtual 105, 3) := by decide +kernel
theorem dX7_lot_59 : decode cX7_lot 59 = .ok (.aload_n 0, 1) := by decide +kernel
theorem dX7_lot_60 : decode cX7_lot 60 = .ok (.getfield 19, 3) := by decide +kernel
theorem dX7_lot_63 : decode cX7_lot 63 = .ok (.dup, 1) := by decide +kernel
theorem dX7_lot_64 : decode cX7_lot 64 = .ok (.getfield 98, 3) := by decide +kernel
theorem dX7_lot_67 : decode cX7_lot 67 = .ok (.iconst 1, 1) := by decide +kernel
theorem dX7_lot_68 : decode cX7_lot 68 = .ok (.iadd, 1) := by decide +kernel
theorem dX7_lot_69 : decode cX7_lot 69 = .ok (.putfield 98, 3) := by decide +kernel
theorem dX7_lot_72 : decode cX7_lot 72 = .ok (.aload_n 0, 1) := by decide +kernel
theorem dX7_lot_73 : decode cX7_lot 73 = .ok (.getfield 19, 3) := by decide +kernel
theorem dX7_lot_76 : decode cX7_lot 76 = .ok (.getfield 98, 3) := by decide +kernel
theorem dX7_lot_79 : decode cX7_lot 79 = .ok (.iconst 1, 1) := by decide +kernel
theorem dX7_lot_80 : decode cX7_lot 80 = .ok (.isub, 1) := by decide +kernel
theorem dX7_lot_81 : decode cX7_lot 81 = .ok (.ireturn, 1) := by decide +kernel
theorem dX7_lotOf_0 : decode cX7_lotOf 0 = .ok (.aload_n 0, 1) := by decide +kernel
theorem dX7_lotOf_1 : decode cX7_lotOf 1 = .ok (.getfield 19, 3) := by decide +kernel
theorem dX7_lotOf_4 : decode cX7_lotOf 4 = .ok (.iload_n 1, 1) := by decide +kernel
theorem dX7_lotOf_5 : decode cX7_lotOf 5 = .ok (.invokevirtual 109, 3) := by decide +kernel
theorem dX7_lotOf_8 : decode cX7_lotOf 8 = .ok (.ifCond .ne 6, 3) := by decide +kernel
theorem dX7_lotOf_11 : decode cX7_lotOf 11 = .ok (.bipush (-101), 2) := by decide +kernel
theorem dX7_lotOf_13 : decode cX7_lotOf 13 = .ok (.ireturn, 1) := by decide +kernel
theorem dX7_lotOf_14 : decode cX7_lotOf 14 = .ok (.iload_n 2, 1) := by decide +kernel
theorem dX7_lotOf_15 : decode cX7_lotOf 15 = .ok (.ifCond .lt 8, 3) := by decide +kernel
theorem dX7_lotOf_18 : decode cX7_lotOf 18 = .ok (.iload_n 2, 1) := by decide +kernel
theorem dX7_lotOf_19 : decode cX7_lotOf 19 = .ok (.iconst 2, 1) := by decide +kernel
theorem dX7_lotOf_20 : decode cX7_lotOf 20 = .ok (.if_icmp .le 6, 3) := by decide +kernel
theorem dX7_lotOf_23 : decode cX7_lotOf 23 = .ok (.bipush (-102), 2) := by decide +kernel
theorem dX7_lotOf_25 : decode cX7_lotOf 25 = .ok (.ireturn, 1) := by decide +kernel
theorem dX7_lotOf_26 : decode cX7_lotOf 26 = .ok (.aload_n 0, 1) := by decide +kernel
theorem dX7_lotOf_27 : decode cX7_lotOf 27 = .ok (.getfield 19, 3) := by decide +kernel
theorem dX7_lotOf_30 : decode cX7_lotOf 30 = .ok (.getfield 101, 3) := by decide +kernel
theorem dX7_lotOf_33 : decode cX7_lotOf 33 = .ok (.iload_n 1, 1) := by decide +kernel
theorem dX7_lotOf_34 : decode cX7_lotOf 34 = .ok (.aaload, 1) := by decide +kernel
theorem dX7_lotOf_35 : decode cX7_lotOf 35 = .ok (.iload_n 2, 1) := by decide +kernel
theorem dX7_lotOf_36 : decode cX7_lotOf 36 = .ok (.invokevirtual 112, 3) := by decide +kernel
theorem dX7_lotOf_39 : decode cX7_lotOf 39 = .ok (.ireturn, 1) := by decide +kernel
theorem dX7_buy_0 : decode cX7_buy 0 = .ok (.aload_n 0, 1) := by decide +kernel
theorem dX7_buy_1 : decode cX7_buy 1 = .ok (.getfield 19, 3) := by decide +kernel
theorem dX7_buy_4 : decode cX7_buy 4 = .ok (.iload_n 1, 1) := by decide +kernel
theorem dX7_buy_5 : decode cX7_buy 5 = .ok (.invokevirtual 109, 3) := by decide +kernel
theorem dX7_buy_8 : decode cX7_buy 8 = .ok (.ifCond .ne 6, 3) := by decide +kernel
theorem dX7_buy_11 : decode cX7_buy 11 = .ok (.bipush (-101), 2) := by decide +kernel
theorem dX7_buy_13 : decode cX7_buy 13 = .ok (.ireturn, 1) := by decide +kernel
theorem dX7_buy_14 : decode cX7_buy 14 = .ok (.iload_n 2, 1) := by decide +kernel
theorem dX7_buy_15 : decode cX7_buy 15 = .ok (.iconst 1, 1) := by decide +kernel
theorem dX7_buy_16 : decode cX7_buy 16 = .ok (.if_icmp .lt 9, 3) := by decide +kernel
theorem dX7_buy_19 : decode cX7_buy 19 = .ok (.iload_n 2, 1) := by decide +kernel
theorem dX7_buy_20 : decode cX7_buy 20 = .ok (.bipush 9, 2) := by decide +kernel
theorem dX7_buy_22 : decode cX7_buy 22 = .ok (.if_icmp .le 6, 3) := by decide +kernel
theorem dX7_buy_25 : decode cX7_buy 25 = .ok (.bipush (-102), 2) := by decide +kernel
theorem dX7_buy_27 : decode cX7_buy 27 = .ok (.ireturn, 1) := by decide +kernel
theorem dX7_buy_28 : decode cX7_buy 28 = .ok (.aload_n 0, 1) := by decide +kernel
theorem dX7_buy_29 : decode cX7_buy 29 = .ok (.getfield 19, 3) := by decide +kernel
theorem dX7_buy_32 : decode cX7_buy 32 = .ok (.getfield 101, 3) := by decide +kernel
theorem dX7_buy_35 : decode cX7_buy 35 = .ok (.iload_n 1, 1) := by decide +kernel
theorem dX7_buy_36 : decode cX7_buy 36 = .ok (.aaload, 1) := by decide +kernel
theorem dX7_buy_37 : decode cX7_buy 37 = .ok (.astore_n 3, 1) := by decide +kernel
theorem dX7_buy_38 : decode cX7_buy 38 = .ok (.aload_n 3, 1) := by decide +kernel
theorem dX7_buy_39 : decode cX7_buy 39 = .ok (.getfield 116, 3) := by decide +kernel
theorem dX7_buy_42 : decode cX7_buy 42 = .ok (.iload_n 2, 1) := by decide +kernel
theorem dX7_buy_43 : decode cX7_buy 43 = .ok (.iadd, 1) := by decide +kernel
theorem dX7_buy_44 : decode cX7_buy 44 = .ok (.bipush 40, 2) := by decide +kernel
theorem dX7_buy_46 : decode cX7_buy 46 = .ok (.if_icmp .le 6, 3) := by decide +kernel
theorem dX7_buy_49 : decode cX7_buy 49 = .ok (.bipush (-104), 2) := by decide +kernel
theorem dX7_buy_51 : decode cX7_buy 51 = .ok (.ireturn, 1) := by decide +kernel
theorem dX7_buy_52 : decode cX7_buy 52 = .ok (.aload_n 3, 1) := by decide +kernel
theorem dX7_buy_53 : decode cX7_buy 53 = .ok (.dup, 1) := by decide +kernel
theorem dX7_buy_54 : decode cX7_buy 54 = .ok (.getfield 116, 3) := by decide +kernel
theorem dX7_buy_57 : decode cX7_buy 57 = .ok (.iload_n 2, 1) := by decide +kernel
theorem dX7_buy_58 : decode cX7_buy 58 = .ok (.iadd, 1) := by decide +kernel
theorem dX7_buy_59 : decode cX7_buy 59 = .ok (.putfield 116, 3) := by decide +kernel
theorem dX7_buy_62 : decode cX7_buy 62 = .ok (.aload_n 3, 1) := by decide +kernel
theorem dX7_buy_63 : decode cX7_buy 63 = .ok (.getfield 116, 3) := by decide +kernel
theorem dX7_buy_66 : decode cX7_buy 66 = .ok (.ireturn, 1) := by decide +kernel
theorem dX7_back_0 : decode cX7_back 0 = .ok (.aload_n 0, 1) := by decide +kernel
theorem dX7_back_1 : decode cX7_back 1 = .ok (.getfield 19, 3) := by decide +kernel
theorem dX7_back_4 : decode cX7_back 4 = .ok (.iload_n 1, 1) := by decide +kernel
theorem dX7_back_5 : decode cX7_back 5 = .ok (.invokevirtual 109, 3) := by decide +kernel
theorem dX7_back_8 : decode cX7_back 8 = .ok (.ifCond .ne 6, 3) := by decide +kernel
theorem dX7_back_11 : decode cX7_back 11 = .ok (.bipush (-101), 2) := by decide +kernel
theorem dX7_back_13 : decode cX7_back 13 = .ok (.ireturn, 1) := by decide +kernel
theorem dX7_back_14 : decode cX7_back 14 = .ok (.iload_n 2, 1) := by decide +kernel
theorem dX7_back_15 : decode cX7_back 15 = .ok (.iconst 1, 1) := by decide +kernel
theorem dX7_back_16 : decode cX7_back 16 = .ok (.if_icmp .lt 9, 3) := by decide +kernel
theorem dX7_back_19 : decode cX7_back 19 = .ok (.iload_n 2, 1) := by decide +kernel
theorem dX7_back_20 : decode cX7_back 20 = .ok (.bipush 9, 2) := by decide +kernel
theorem dX7_back_22 : decode cX7_back 22 = .ok (.if_icmp .le 6, 3) := by decide +kernel
theorem dX7_back_25 : decode cX7_back 25 = .ok (.bipush (-102), 2) := by decide +kernel
theorem dX7_back_27 : decode cX7_back 27 = .ok (.ireturn, 1) := by decide +kernel
theorem dX7_back_28 : decode cX7_back 28 = .ok (.aload_n 0, 1) := by decide +kernel
theorem dX7_back_29 : decode cX7_back 29 = .ok (.getfield 19, 3) := by decide +kernel
theorem dX7_back_32 : decode cX7_back 32 = .ok (.getfield 101, 3) := by decide +kernel
theorem dX7_back_35 : decode cX7_back 35 = .ok (.iload_n 1, 1) := by decide +kernel
theorem dX7_back_36 : decode cX7_back 36 = .ok (.aaload, 1) := by decide +kernel
theorem dX7_back_37 : decode cX7_back 37 = .ok (.astore_n 3, 1) := by decide +kernel
theorem dX7_back_38 : decode cX7_back 38 = .ok (.aload_n 3, 1) := by decide +kernel
theorem dX7_back_39 : decode cX7_back 39 = .ok (.getfield 116, 3) := by decide +kernel
theorem dX7_back_42 : decode cX7_back 42 = .ok (.iload_n 2, 1) := by decide +kernel
theorem dX7_back_43 : decode cX7_back 43 = .ok (.if_icmp .ge 6, 3) := by decide +kernel
theorem dX7_back_46 : decode cX7_back 46 = .ok (.bipush (-103), 2) := by decide +kernel
theorem dX7_back_48 : decode cX7_back 48 = .ok (.ireturn, 1) := by decide +kernel
theorem dX7_back_49 : decode cX7_back 49 = .ok (.aload_n 3, 1) := by decide +kernel
theorem dX7_back_50 : decode cX7_back 50 = .ok (.dup, 1) := by decide +kernel
theorem dX7_back_51 : decode cX7_back 51 = .ok (.getfield 116, 3) := by decide +kernel
theorem dX7_back_54 : decode cX7_back 54 = .ok (.iload_n 2, 1) := by decide +kernel
theorem dX7_back_55 : decode cX7_back 55 = .ok (.isub, 1) := by decide +kernel
theorem dX7_back_56 : decode cX7_back 56 = .ok (.putfield 116, 3) := by decide +kernel
theorem dX7_back_59 : decode cX7_back 59 = .ok (.aload_n 3, 1) := by decide +kernel
theorem dX7_back_60 : decode cX7_back 60 = .ok (.getfield 116, 3) := by decide +kernel
theorem dX7_back_63 : decode cX7_back 63 = .ok (.ireturn, 1) := by decide +kernel
theorem dX7_knit_0 : decode cX7_knit 0 = .ok (.aload_n 0, 1) := by decide +kernel
theorem dX7_knit_1 : decode cX7_knit 1 = .ok (.getfield 19, 3) := by decide +kernel
theorem dX7_knit_4 : decode cX7_knit 4 = .ok (.iload_n 1, 1) := by decide +kernel
theorem dX7_knit_5 : decode cX7_knit 5 = .ok (.invokevirtual 77, 3) := by decide +kernel
theorem dX7_knit_8 : decode cX7_knit 8 = .ok (.ifCond .eq 25, 3) := by decide +kernel
theorem dX7_knit_11 : decode cX7_knit 11 = .ok (.aload_n 0, 1) := by decide +kernel
theorem dX7_knit_12 : decode cX7_knit 12 = .ok (.getfield 19, 3) := by decide +kernel
theorem dX7_knit_15 : decode cX7_knit 15 = .ok (.iload_n 2, 1) := by decide +kernel
theorem dX7_knit_16 : decode cX7_knit 16 = .ok (.invokevirtual 109, 3) := by decide +kernel
theorem dX7_knit_19 : decode cX7_knit 19 = .ok (.ifCond .eq 14, 3) := by decide +kernel
theorem dX7_knit_22 : decode cX7_knit 22 = .ok (.aload_n 0, 1) := by decide +kernel
theorem dX7_knit_23 : decode cX7_knit 23 = .ok (.getfield 19, 3) := by decide +kernel
theorem dX7_knit_26 : decode cX7_knit 26 = .ok (.iload_n 3, 1) := by decide +kernel
theorem dX7_knit_27 : decode cX7_knit 27 = .ok (.invokevirtual 109, 3) := by decide +kernel
theorem dX7_knit_30 : decode cX7_knit 30 = .ok (.ifCond .ne 6, 3) := by decide +kernel
theorem dX7_knit_33 : decode cX7_knit 33 = .ok (.bipush (-101), 2) := by decide +kernel
theorem dX7_knit_35 : decode cX7_knit 35 = .ok (.ireturn, 1) := by decide +kernel
theorem dX7_knit_36 : decode cX7_knit 36 = .ok (.aload_n 0, 1) := by decide +kernel
theorem dX7_knit_37 : decode cX7_knit 37 = .ok (.getfield 19, 3) := by decide +kernel
theorem dX7_knit_40 : decode cX7_knit 40 = .ok (.getfield 89, 3) := by decide +kernel
theorem dX7_knit_43 : decode cX7_knit 43 = .ok (.iload_n 1, 1) := by decide +kernel
theorem dX7_knit_44 : decode cX7_knit 44 = .ok (.aaload, 1) := by decide +kernel
theorem dX7_knit_45 : decode cX7_knit 45 = .ok (.invokevirtual 119, 3) := by decide +kernel
theorem dX7_knit_48 : decode cX7_knit 48 = .ok (.ifCond .ne 16, 3) := by decide +kernel
theorem dX7_knit_51 : decode cX7_knit 51 = .ok (.aload_n 0, 1) := by decide +kernel
theorem dX7_knit_52 : decode cX7_knit 52 = .ok (.getfield 19, 3) := by decide +kernel
theorem dX7_knit_55 : decode cX7_knit 55 = .ok (.iload_n 1, 1) := by decide +kernel
theorem dX7_knit_56 : decode cX7_knit 56 = .ok (.iload_n 2, 1) := by decide +kernel
theorem dX7_knit_57 : decode cX7_knit 57 = .ok (.iload_n 3, 1) := by decide +kernel
theorem dX7_knit_58 : decode cX7_knit 58 = .ok (.invokevirtual 122, 3) := by decide +kernel
theorem dX7_knit_61 : decode cX7_knit 61 = .ok (.ifCond .ne 6, 3) := by decide +kernel
theorem dX7_knit_64 : decode cX7_knit 64 = .ok (.bipush (-103), 2) := by decide +kernel
theorem dX7_knit_66 : decode cX7_knit 66 = .ok (.ireturn, 1) := by decide +kernel
theorem dX7_knit_67 : decode cX7_knit 67 = .ok (.aload_n 0, 1) := by decide +kernel
theorem dX7_knit_68 : decode cX7_knit 68 = .ok (.getfield 19, 3) := by decide +kernel
theorem dX7_knit_71 : decode cX7_knit 71 = .ok (.iload_n 1, 1) := by decide +kernel
theorem dX7_knit_72 : decode cX7_knit 72 = .ok (.iload_n 2, 1) := by decide +kernel
theorem dX7_knit_73 : decode cX7_knit 73 = .ok (.iload_n 3, 1) := by decide +kernel
theorem dX7_knit_74 : decode cX7_knit 74 = .ok (.invokevirtual 126, 3) := by decide +kernel
theorem dX7_knit_77 : decode cX7_knit 77 = .ok (.aload_n 0, 1) := by decide +kernel
theorem dX7_knit_78 : decode cX7_knit 78 = .ok (.getfield 19, 3) := by decide +kernel
theorem dX7_knit_81 : decode cX7_knit 81 = .ok (.invokevirtual 130, 3) := by decide +kernel
theorem dX7_knit_84 : decode cX7_knit 84 = .ok (.ireturn, 1) := by decide +kernel
theorem dX7_undo_0 : decode cX7_undo 0 = .ok (.aload_n 0, 1) := by decide +kernel
theorem dX7_undo_1 : decode cX7_undo 1 = .ok (.getfield 19, 3) := by decide +kernel
theorem dX7_undo_4 : decode cX7_undo 4 = .ok (.iload_n 1, 1) := by decide +kernel
theorem dX7_undo_5 : decode cX7_undo 5 = .ok (.invokevirtual 77, 3) := by decide +kernel
theorem dX7_undo_8 : decode cX7_undo 8 = .ok (.ifCond .ne 6, 3) := by decide +kernel
theorem dX7_undo_11 : decode cX7_undo 11 = .ok (.bipush (-101), 2) := by decide +kernel
theorem dX7_undo_13 : decode cX7_undo 13 = .ok (.ireturn, 1) := by decide +kernel
theorem dX7_undo_14 : decode cX7_undo 14 = .ok (.aload_n 0, 1) := by decide +kernel
theorem dX7_undo_15 : decode cX7_undo 15 = .ok (.getfield 19, 3) := by decide +kernel
theorem dX7_undo_18 : decode cX7_undo 18 = .ok (.getfield 89, 3) := by decide +kernel
theorem dX7_undo_21 : decode cX7_undo 21 = .ok (.iload_n 1, 1) := by decide +kernel
theorem dX7_undo_22 : decode cX7_undo 22 = .ok (.aaload, 1) := by decide +kernel
theorem dX7_undo_23 : decode cX7_undo 23 = .ok (.invokevirtual 119, 3) := by decide +kernel
theorem dX7_undo_26 : decode cX7_undo 26 = .ok (.ifCond .ne 6, 3) := by decide +kernel
theorem dX7_undo_29 : decode cX7_undo 29 = .ok (.bipush (-103), 2) := by decide +kernel
theorem dX7_undo_31 : decode cX7_undo 31 = .ok (.ireturn, 1) := by decide +kernel
theorem dX7_undo_32 : decode cX7_undo 32 = .ok (.aload_n 0, 1) := by decide +kernel
theorem dX7_undo_33 : decode cX7_undo 33 = .ok (.getfield 19, 3) := by decide +kernel
theorem dX7_undo_36 : decode cX7_undo 36 = .ok (.iload_n 1, 1) := by decide +kernel
theorem dX7_undo_37 : decode cX7_undo 37 = .ok (.invokevirtual 133, 3) := by decide +kernel
theorem dX7_undo_40 : decode cX7_undo 40 = .ok (.ireturn, 1) := by decide +kernel
theorem dX7_gauge_0 : decode cX7_gauge 0 = .ok (.aload_n 0, 1) := by decide +kernel
theorem dX7_gauge_1 : decode cX7_gauge 1 = .ok (.getfield 19, 3) := by decide +kernel
theorem dX7_gauge_4 : decode cX7_gauge 4 = .ok (.iload_n 1, 1) := by decide +kernel
theorem dX7_gauge_5 : decode cX7_gauge 5 = .ok (.invokevirtual 77, 3) := by decide +kernel
theorem dX7_gauge_8 : decode cX7_gauge 8 = .ok (.ifCond .ne 6, 3) := by decide +kernel
theorem dX7_gauge_11 : decode cX7_gauge 11 = .ok (.bipush (-101), 2) := by decide +kernel
theorem dX7_gauge_13 : decode cX7_gauge 13 = .ok (.ireturn, 1) := by decide +kernel
theorem dX7_gauge_14 : decode cX7_gauge 14 = .ok (.iload_n 2, 1) := by decide +kernel
theorem dX7_gauge_15 : decode cX7_gauge 15 = .ok (.iconst 1, 1) := by decide +kernel
theorem dX7_gauge_16 : decode cX7_gauge 16 = .ok (.if_icmp .lt 9, 3) := by decide +kernel
theorem dX7_gauge_19 : decode cX7_gauge 19 = .ok (.iload_n 2, 1) := by decide +kernel
theorem dX7_gauge_20 : decode cX7_gauge 20 = .ok (.bipush 18, 2) := by decide +kernel
theorem dX7_gauge_22 : decode cX7_gauge 22 = .ok (.if_icmp .le 6, 3) := by decide +kernel
theorem dX7_gauge_25 : decode cX7_gauge 25 = .ok (.bipush (-102), 2) := by decide +kernel
theorem dX7_gauge_27 : decode cX7_gauge 27 = .ok (.ireturn, 1) := by decide +kernel
theorem dX7_gauge_28 : decode cX7_gauge 28 = .ok (.aload_n 0, 1) := by decide +kernel
theorem dX7_gauge_29 : decode cX7_gauge 29 = .ok (.getfield 19, 3) := by decide +kernel
theorem dX7_gauge_32 : decode cX7_gauge 32 = .ok (.getfield 89, 3) := by decide +kernel
theorem dX7_gauge_35 : decode cX7_gauge 35 = .ok (.iload_n 1, 1) := by decide +kernel
theorem dX7_gauge_36 : decode cX7_gauge 36 = .ok (.aaload, 1) := by decide +kernel
theorem dX7_gauge_37 : decode cX7_gauge 37 = .ok (.astore_n 3, 1) := by decide +kernel
theorem dX7_gauge_38 : decode cX7_gauge 38 = .ok (.aload_n 0, 1) := by decide +kernel
theorem dX7_gauge_39 : decode cX7_gauge 39 = .ok (.getfield 19, 3) := by decide +kernel
theorem dX7_gauge_42 : decode cX7_gauge 42 = .ok (.aload_n 3, 1) := by decide +kernel
theorem dX7_gauge_43 : decode cX7_gauge 43 = .ok (.getfield 136, 3) := by decide +kernel
theorem dX7_gauge_46 : decode cX7_gauge 46 = .ok (.invokevirtual 109, 3) := by decide +kernel
theorem dX7_gauge_49 : decode cX7_gauge 49 = .ok (.ifCond .eq 10, 3) := by decide +kernel
theorem dX7_gauge_52 : decode cX7_gauge 52 = .ok (.aload_n 3, 1) := by decide +kernel
theorem dX7_gauge_53 : decode cX7_gauge 53 = .ok (.invokevirtual 139, 3) := by decide +kernel
theorem dX7_gauge_56 : decode cX7_gauge 56 = .ok (.ifCond .eq 6, 3) := by decide +kernel
theorem dX7_gauge_59 : decode cX7_gauge 59 = .ok (.bipush (-103), 2) := by decide +kernel
theorem dX7_gauge_61 : decode cX7_gauge 61 = .ok (.ireturn, 1) := by decide +kernel
theorem dX7_gauge_62 : decode cX7_gauge 62 = .ok (.iload_n 2, 1) := by decide +kernel
theorem dX7_gauge_63 : decode cX7_gauge 63 = .ok (.aload_n 3, 1) := by decide +kernel
theorem dX7_gauge_64 : decode cX7_gauge 64 = .ok (.getfield 142, 3) := by decide +kernel
theorem dX7_gauge_67 : decode cX7_gauge 67 = .ok (.isub, 1) := by decide +kernel
theorem dX7_gauge_68 : decode cX7_gauge 68 = .ok (.istore 4, 2) := by decide +kernel
theorem dX7_gauge_70 : decode cX7_gauge 70 = .ok (.aload_n 0, 1) := by decide +kernel
theorem dX7_gauge_71 : decode cX7_gauge 71 = .ok (.getfield 19, 3) := by decide +kernel
theorem dX7_gauge_74 : decode cX7_gauge 74 = .ok (.getfield 101, 3) := by decide +kernel
theorem dX7_gauge_77 : decode cX7_gauge 77 = .ok (.aload_n 3, 1) := by decide +kernel
theorem dX7_gauge_78 : decode cX7_gauge 78 = .ok (.getfield 136, 3) := by decide +kernel
theorem dX7_gauge_81 : decode cX7_gauge 81 = .ok (.aaload, 1) := by decide +kernel
theorem dX7_gauge_82 : decode cX7_gauge 82 = .ok (.astore 5, 2) := by decide +kernel
theorem dX7_gauge_84 : decode cX7_gauge 84 = .ok (.aload 5, 2) := by decide +kernel
theorem dX7_gauge_86 : decode cX7_gauge 86 = .ok (.invokevirtual 145, 3) := by decide +kernel
theorem dX7_gauge_89 : decode cX7_gauge 89 = .ok (.iload 4, 2) := by decide +kernel
theorem dX7_gauge_91 : decode cX7_gauge 91 = .ok (.if_icmp .ge 6, 3) := by decide +kernel
theorem dX7_gauge_94 : decode cX7_gauge 94 = .ok (.bipush (-103), 2) := by decide +kernel
theorem dX7_gauge_96 : decode cX7_gauge 96 = .ok (.ireturn, 1) := by decide +kernel
theorem dX7_gauge_97 : decode cX7_gauge 97 = .ok (.aload 5, 2) := by decide +kernel
theorem dX7_gauge_99 : decode cX7_gauge 99 = .ok (.iload 4, 2) := by decide +kernel
theorem dX7_gauge_101 : decode cX7_gauge 101 = .ok (.invokevirtual 148, 3) := by decide +kernel
theorem dX7_gauge_104 : decode cX7_gauge 104 = .ok (.aload_n 3, 1) := by decide +kernel
theorem dX7_gauge_105 : decode cX7_gauge 105 = .ok (.iload_n 2, 1) := by decide +kernel
theorem dX7_gauge_106 : decode cX7_gauge 106 = .ok (.putfield 142, 3) := by decide +kernel
theorem dX7_gauge_109 : decode cX7_gauge 109 = .ok (.aload_n 3, 1) := by decide +kernel
theorem dX7_gauge_110 : decode cX7_gauge 110 = .ok (.iconst 1, 1) := by decide +kernel
theorem dX7_gauge_111 : decode cX7_gauge 111 = .ok (.putfield 151, 3) := by decide +kernel
theorem dX7_gauge_114 : decode cX7_gauge 114 = .ok (.iload 4, 2) := by decide +kernel
theorem dX7_gauge_116 : decode cX7_gauge 116 = .ok (.ireturn, 1) := by decide +kernel
theorem dX7_wash_0 : decode cX7_wash 0 = .ok (.aload_n 0, 1) := by decide +kernel
theorem dX7_wash_1 : decode cX7_wash 1 = .ok (.getfield 19, 3) := by decide +kernel
theorem dX7_wash_4 : decode cX7_wash 4 = .ok (.getfield 74, 3) := by decide +kernel
theorem dX7_wash_7 : decode cX7_wash 7 = .ok (.ifCond .ne 6, 3) := by decide +kernel
theorem dX7_wash_10 : decode cX7_wash 10 = .ok (.bipush (-103), 2) := by decide +kernel
theorem dX7_wash_12 : decode cX7_wash 12 = .ok (.ireturn, 1) := by decide +kernel
theorem dX7_wash_13 : decode cX7_wash 13 = .ok (.iconst 0, 1) := by decide +kernel
theorem dX7_wash_14 : decode cX7_wash 14 = .ok (.istore_n 1, 1) := by decide +kernel
theorem dX7_wash_15 : decode cX7_wash 15 = .ok (.iload_n 1, 1) := by decide +kernel
theorem dX7_wash_16 : decode cX7_wash 16 = .ok (.aload_n 0, 1) := by decide +kernel
theorem dX7_wash_17 : decode cX7_wash 17 = .ok (.getfield 19, 3) := by decide +kernel
theorem dX7_wash_20 : decode cX7_wash 20 = .ok (.getfield 98, 3) := by decide +kernel
theorem dX7_wash_23 : decode cX7_wash 23 = .ok (.if_icmp .ge 43, 3) := by decide +kernel
theorem dX7_wash_26 : decode cX7_wash 26 = .ok (.aload_n 0, 1) := by decide +kernel
theorem dX7_wash_27 : decode cX7_wash 27 = .ok (.getfield 19, 3) := by decide +kernel
theorem dX7_wash_30 : decode cX7_wash 30 = .ok (.getfield 101, 3) := by decide +kernel
theorem dX7_wash_33 : decode cX7_wash 33 = .ok (.iload_n 1, 1) := by decide +kernel
theorem dX7_wash_34 : decode cX7_wash 34 = .ok (.aaload, 1) := by decide +kernel
theorem dX7_wash_35 : decode cX7_wash 35 = .ok (.aload_n 0, 1) := by decide +kernel
theorem dX7_wash_36 : decode cX7_wash 36 = .ok (.getfield 19, 3) := by decide +kernel
theorem dX7_wash_39 : decode cX7_wash 39 = .ok (.getfield 101, 3) := by decide +kernel
theorem dX7_wash_42 : decode cX7_wash 42 = .ok (.iload_n 1, 1) := by decide +kernel
theorem dX7_wash_43 : decode cX7_wash 43 = .ok (.aaload, 1) := by decide +kernel
theorem dX7_wash_44 : decode cX7_wash 44 = .ok (.getfield 154, 3) := by decide +kernel
theorem dX7_wash_47 : decode cX7_wash 47 = .ok (.aload_n 0, 1) := by decide +kernel
theorem dX7_wash_48 : decode cX7_wash 48 = .ok (.getfield 19, 3) := by decide +kernel
theorem dX7_wash_51 : decode cX7_wash 51 = .ok (.getfield 157, 3) := by decide +kernel
theorem dX7_wash_54 : decode cX7_wash 54 = .ok (.invokestatic 160, 3) := by decide +kernel
theorem dX7_wash_57 : decode cX7_wash 57 = .ok (.putfield 154, 3) := by decide +kernel
theorem dX7_wash_60 : decode cX7_wash 60 = .ok (.iinc 1 1, 3) := by decide +kernel
theorem dX7_wash_63 : decode cX7_wash 63 = .ok (.goto (-48), 3) := by decide +kernel
theorem dX7_wash_66 : decode cX7_wash 66 = .ok (.aload_n 0, 1) := by decide +kernel
theorem dX7_wash_67 : decode cX7_wash 67 = .ok (.getfield 19, 3) := by decide +kernel
theorem dX7_wash_70 : decode cX7_wash 70 = .ok (.invokevirtual 130, 3) := by decide +kernel
theorem dX7_wash_73 : decode cX7_wash 73 = .ok (.ireturn, 1) := by decide +kernel
theorem dX7_least_0 : decode cX7_least 0 = .ok (.iload_n 1, 1) := by decide +kernel
theorem dX7_least_1 : decode cX7_least 1 = .ok (.bipush 10, 2) := by decide +kernel
theorem dX7_least_3 : decode cX7_least 3 = .ok (.isub, 1) := by decide +kernel
theorem dX7_least_4 : decode cX7_least 4 = .ok (.istore_n 2, 1) := by decide +kernel
theorem dX7_least_5 : decode cX7_least 5 = .ok (.iload_n 1, 1) := by decide +kernel
theorem dX7_least_6 : decode cX7_least 6 = .ok (.ifCond .eq 17, 3) := by decide +kernel
theorem dX7_least_9 : decode cX7_least 9 = .ok (.iload_n 1, 1) := by decide +kernel
theorem dX7_least_10 : decode cX7_least 10 = .ok (.bipush 10, 2) := by decide +kernel
theorem dX7_least_12 : decode cX7_least 12 = .ok (.if_icmp .lt 8, 3) := by decide +kernel
theorem dX7_least_15 : decode cX7_least 15 = .ok (.iload_n 2, 1) := by decide +kernel
theorem dX7_least_16 : decode cX7_least 16 = .ok (.iconst 5, 1) := by decide +kernel
theorem dX7_least_17 : decode cX7_least 17 = .ok (.if_icmp .lt 6, 3) := by decide +kernel
theorem dX7_least_20 : decode cX7_least 20 = .ok (.bipush (-102), 2) := by decide +kernel
theorem dX7_least_22 : decode cX7_least 22 = .ok (.ireturn, 1) := by decide +kernel
theorem dX7_least_23 : decode cX7_least 23 = .ok (.aload_n 0, 1) := by decide +kernel
theorem dX7_least_24 : decode cX7_least 24 = .ok (.getfield 19, 3) := by decide +kernel
theorem dX7_least_27 : decode cX7_least 27 = .ok (.getfield 74, 3) := by decide +kernel
theorem dX7_least_30 : decode cX7_least 30 = .ok (.ifCond .eq 12, 3) := by decide +kernel
theorem dX7_least_33 : decode cX7_least 33 = .ok (.aload_n 0, 1) := by decide +kernel
theorem dX7_least_34 : decode cX7_least 34 = .ok (.getfield 163, 3) := by decide +kernel
theorem dX7_least_37 : decode cX7_least 37 = .ok (.bipush 20, 2) := by decide +kernel
theorem dX7_least_39 : decode cX7_least 39 = .ok (.if_icmp .lt 6, 3) := by decide +kernel
theorem dX7_least_42 : decode cX7_least 42 = .ok (.bipush (-103), 2) := by decide +kernel
theorem dX7_least_44 : decode cX7_least 44 = .ok (.ireturn, 1) := by decide +kernel
theorem dX7_least_45 : decode cX7_least 45 = .ok (.aload_n 0, 1) := by decide +kernel
theorem dX7_least_46 : decode cX7_least 46 = .ok (.dup, 1) := by decide +kernel
theorem dX7_least_47 : decode cX7_least 47 = .ok (.getfield 163, 3) := by decide +kernel
theorem dX7_least_50 : decode cX7_least 50 = .ok (.iconst 1, 1) := by decide +kernel
theorem dX7_least_51 : decode cX7_least 51 = .ok (.iadd, 1) := by decide +kernel
theorem dX7_least_52 : decode cX7_least 52 = .ok (.putfield 163, 3) := by decide +kernel
theorem dX7_least_55 : decode cX7_least 55 = .ok (.aload_n 0, 1) := by decide +kernel
theorem dX7_least_56 : decode cX7_least 56 = .ok (.getfield 29, 3) := by decide +kernel
theorem dX7_least_59 : decode cX7_least 59 = .ok (.aload_n 0, 1) := by decide +kernel
theorem dX7_least_60 : decode cX7_least 60 = .ok (.getfield 19, 3) := by decide +kernel
theorem dX7_least_63 : decode cX7_least 63 = .ok (.invokevirtual 166, 3) := by decide +kernel
theorem dX7_least_66 : decode cX7_least 66 = .ok (.aload_n 0, 1) := by decide +kernel
theorem dX7_least_67 : decode cX7_least 67 = .ok (.getfield 29, 3) := by decide +kernel
theorem dX7_least_70 : decode cX7_least 70 = .ok (.getfield 170, 3) := by decide +kernel
theorem dX7_least_73 : decode cX7_least 73 = .ok (.ifCond .ne 5, 3) := by decide +kernel
theorem dX7_least_76 : decode cX7_least 76 = .ok (.iconst (-1), 1) := by decide +kernel
theorem dX7_least_77 : decode cX7_least 77 = .ok (.ireturn, 1) := by decide +kernel
theorem dX7_least_78 : decode cX7_least 78 = .ok (.iload_n 1, 1) := by decide +kernel
theorem dX7_least_79 : decode cX7_least 79 = .ok (.ifCond .ne 11, 3) := by decide +kernel
theorem dX7_least_82 : decode cX7_least 82 = .ok (.aload_n 0, 1) := by decide +kernel
theorem dX7_least_83 : decode cX7_least 83 = .ok (.getfield 29, 3) := by decide +kernel
theorem dX7_least_86 : decode cX7_least 86 = .ok (.getfield 173, 3) := by decide +kernel
theorem dX7_least_89 : decode cX7_least 89 = .ok (.ireturn, 1) := by decide +kernel
theorem dX7_least_90 : decode cX7_least 90 = .ok (.aload_n 0, 1) := by decide +kernel
theorem dX7_least_91 : decode cX7_least 91 = .ok (.getfield 19, 3) := by decide +kernel
theorem dX7_least_94 : decode cX7_least 94 = .ok (.iload_n 2, 1) := by decide +kernel
theorem dX7_least_95 : decode cX7_least 95 = .ok (.invokevirtual 77, 3) := by decide +kernel
theorem dX7_least_98 : decode cX7_least 98 = .ok (.ifCond .eq 15, 3) := by decide +kernel
theorem dX7_least_101 : decode cX7_least 101 = .ok (.aload_n 0, 1) := by decide +kernel
theorem dX7_least_102 : decode cX7_least 102 = .ok (.getfield 29, 3) := by decide +kernel
theorem dX7_least_105 : decode cX7_least 105 = .ok (.getfield 176, 3) := by decide +kernel
theorem dX7_least_108 : decode cX7_least 108 = .ok (.iload_n 2, 1) := by decide +kernel
theorem dX7_least_109 : decode cX7_least 109 = .ok (.iaload, 1) := by decide +kernel
theorem dX7_least_110 : decode cX7_least 110 = .ok (.goto 4, 3) := by decide +kernel
theorem dX7_least_113 : decode cX7_least 113 = .ok (.iconst (-1), 1) := by decide +kernel
theorem dX7_least_114 : decode cX7_least 114 = .ok (.ireturn, 1) := by decide +kernel
theorem dX7_wanted_0 : decode cX7_wanted 0 = .ok (.aload_n 0, 1) := by decide +kernel
theorem dX7_wanted_1 : decode cX7_wanted 1 = .ok (.getfield 19, 3) := by decide +kernel
theorem dX7_wanted_4 : decode cX7_wanted 4 = .ok (.iload_n 1, 1) := by decide +kernel
theorem dX7_wanted_5 : decode cX7_wanted 5 = .ok (.invokevirtual 109, 3) := by decide +kernel
theorem dX7_wanted_8 : decode cX7_wanted 8 = .ok (.ifCond .ne 6, 3) := by decide +kernel
theorem dX7_wanted_11 : decode cX7_wanted 11 = .ok (.bipush (-101), 2) := by decide +kernel
theorem dX7_wanted_13 : decode cX7_wanted 13 = .ok (.ireturn, 1) := by decide +kernel
theorem dX7_wanted_14 : decode cX7_wanted 14 = .ok (.iload_n 2, 1) := by decide +kernel
theorem dX7_wanted_15 : decode cX7_wanted 15 = .ok (.ifCond .lt 8, 3) := by decide +kernel
theorem dX7_wanted_18 : decode cX7_wanted 18 = .ok (.iload_n 2, 1) := by decide +kernel
theorem dX7_wanted_19 : decode cX7_wanted 19 = .ok (.iconst 1, 1) := by decide +kernel
theorem dX7_wanted_20 : decode cX7_wanted 20 = .ok (.if_icmp .le 6, 3) := by decide +kernel
theorem dX7_wanted_23 : decode cX7_wanted 23 = .ok (.bipush (-102), 2) := by decide +kernel
theorem dX7_wanted_25 : decode cX7_wanted 25 = .ok (.ireturn, 1) := by decide +kernel
theorem dX7_wanted_26 : decode cX7_wanted 26 = .ok (.aload_n 0, 1) := by decide +kernel
theorem dX7_wanted_27 : decode cX7_wanted 27 = .ok (.getfield 19, 3) := by decide +kernel
theorem dX7_wanted_30 : decode cX7_wanted 30 = .ok (.iload_n 1, 1) := by decide +kernel
theorem dX7_wanted_31 : decode cX7_wanted 31 = .ok (.iload_n 2, 1) := by decide +kernel
theorem dX7_wanted_32 : decode cX7_wanted 32 = .ok (.iconst 1, 1) := by decide +kernel
theorem dX7_wanted_33 : decode cX7_wanted 33 = .ok (.if_icmp .ne 7, 3) := by decide +kernel
theorem dX7_wanted_36 : decode cX7_wanted 36 = .ok (.iconst 1, 1) := by decide +kernel
theorem dX7_wanted_37 : decode cX7_wanted 37 = .ok (.goto 4, 3) := by decide +kernel
theorem dX7_wanted_40 : decode cX7_wanted 40 = .ok (.iconst 0, 1) := by decide +kernel
theorem dX7_wanted_41 : decode cX7_wanted 41 = .ok (.invokevirtual 179, 3) := by decide +kernel
theorem dX7_wanted_44 : decode cX7_wanted 44 = .ok (.ireturn, 1) := by decide +kernel
theorem dX7_found_0 : decode cX7_found 0 = .ok (.aload_n 0, 1) := by decide +kernel
theorem dX7_found_1 : decode cX7_found 1 = .ok (.getfield 19, 3) := by decide +kernel
theorem dX7_found_4 : decode cX7_found 4 = .ok (.iload_n 1, 1) := by decide +kernel
theorem dX7_found_5 : decode cX7_found 5 = .ok (.invokevirtual 77, 3) := by decide +kernel
theorem dX7_found_8 : decode cX7_found 8 = .ok (.ifCond .eq 16, 3) := by decide +kernel
theorem dX7_found_11 : decode cX7_found 11 = .ok (.aload_n 0, 1) := by decide +kernel
theorem dX7_found_12 : decode cX7_found 12 = .ok (.getfield 19, 3) := by decide +kernel
theorem dX7_found_15 : decode cX7_found 15 = .ok (.iload_n 1, 1) := by decide +kernel
theorem dX7_found_16 : decode cX7_found 16 = .ok (.iconst 1, 1) := by decide +kernel
theorem dX7_found_17 : decode cX7_found 17 = .ok (.iadd, 1) := by decide +kernel
theorem dX7_found_18 : decode cX7_found 18 = .ok (.invokevirtual 77, 3) := by decide +kernel
theorem dX7_found_21 : decode cX7_found 21 = .ok (.ifCond .ne 6, 3) := by decide +kernel
theorem dX7_found_24 : decode cX7_found 24 = .ok (.bipush (-101), 2) := by decide +kernel
theorem dX7_found_26 : decode cX7_found 26 = .ok (.ireturn, 1) := by decide +kernel
theorem dX7_found_27 : decode cX7_found 27 = .ok (.iload_n 2, 1) := by decide +kernel
theorem dX7_found_28 : decode cX7_found 28 = .ok (.iconst (-1), 1) := by decide +kernel
theorem dX7_found_29 : decode cX7_found 29 = .ok (.if_icmp .lt 10, 3) := by decide +kernel
theorem dX7_found_32 : decode cX7_found 32 = .ok (.iload_n 2, 1) := by decide +kernel
theorem dX7_found_33 : decode cX7_found 33 = .ok (.sipush 320, 3) := by decide +kernel
theorem dX7_found_36 : decode cX7_found 36 = .ok (.if_icmp .le 6, 3) := by decide +kernel
theorem dX7_found_39 : decode cX7_found 39 = .ok (.bipush (-102), 2) := by decide +kernel
theorem dX7_found_41 : decode cX7_found 41 = .ok (.ireturn, 1) := by decide +kernel
theorem dX7_found_42 : decode cX7_found 42 = .ok (.aload_n 0, 1) := by decide +kernel
theorem dX7_found_43 : decode cX7_found 43 = .ok (.getfield 19, 3) := by decide +kernel
theorem dX7_found_46 : decode cX7_found 46 = .ok (.getfield 89, 3) := by decide +kernel
theorem dX7_found_49 : decode cX7_found 49 = .ok (.iload_n 1, 1) := by decide +kernel
theorem dX7_found_50 : decode cX7_found 50 = .ok (.aaload, 1) := by decide +kernel
theorem dX7_found_51 : decode cX7_found 51 = .ok (.astore_n 3, 1) := by decide +kernel
theorem dX7_found_52 : decode cX7_found 52 = .ok (.aload_n 3, 1) := by decide +kernel
theorem dX7_found_53 : decode cX7_found 53 = .ok (.getfield 183, 3) := by decide +kernel
theorem dX7_found_56 : decode cX7_found 56 = .ok (.istore 4, 2) := by decide +kernel
theorem dX7_found_58 : decode cX7_found 58 = .ok (.aload_n 3, 1) := by decide +kernel
theorem dX7_found_59 : decode cX7_found 59 = .ok (.iload_n 2, 1) := by decide +kernel
theorem dX7_found_60 : decode cX7_found 60 = .ok (.putfield 183, 3) := by decide +kernel
theorem dX7_found_63 : decode cX7_found 63 = .ok (.iload 4, 2) := by decide +kernel
theorem dX7_found_65 : decode cX7_found 65 = .ok (.ireturn, 1) := by decide +kernel
theorem dX7_fits_0 : decode cX7_fits 0 = .ok (.aload_n 0, 1) := by decide +kernel
theorem dX7_fits_1 : decode cX7_fits 1 = .ok (.getfield 19, 3) := by decide +kernel
theorem dX7_fits_4 : decode cX7_fits 4 = .ok (.getfield 74, 3) := by decide +kernel
theorem dX7_fits_7 : decode cX7_fits 7 = .ok (.ifCond .ne 6, 3) := by decide +kernel
theorem dX7_fits_10 : decode cX7_fits 10 = .ok (.bipush (-103), 2) := by decide +kernel
theorem dX7_fits_12 : decode cX7_fits 12 = .ok (.ireturn, 1) := by decide +kernel
theorem dX7_fits_13 : decode cX7_fits 13 = .ok (.aload_n 0, 1) := by decide +kernel
theorem dX7_fits_14 : decode cX7_fits 14 = .ok (.getfield 36, 3) := by decide +kernel
theorem dX7_fits_17 : decode cX7_fits 17 = .ok (.aload_n 0, 1) := by decide +kernel
theorem dX7_fits_18 : decode cX7_fits 18 = .ok (.getfield 19, 3) := by decide +kernel
theorem dX7_fits_21 : decode cX7_fits 21 = .ok (.invokevirtual 186, 3) := by decide +kernel
theorem dX7_fits_24 : decode cX7_fits 24 = .ok (.aload_n 0, 1) := by decide +kernel
theorem dX7_fits_25 : decode cX7_fits 25 = .ok (.getfield 36, 3) := by decide +kernel
theorem dX7_fits_28 : decode cX7_fits 28 = .ok (.invokevirtual 189, 3) := by decide +kernel
theorem dX7_fits_31 : decode cX7_fits 31 = .ok (.ireturn, 1) := by decide +kernel
theorem dX7_sure_0 : decode cX7_sure 0 = .ok (.aload_n 0, 1) := by decide +kernel
theorem dX7_sure_1 : decode cX7_sure 1 = .ok (.getfield 19, 3) := by decide +kernel
theorem dX7_sure_4 : decode cX7_sure 4 = .ok (.iload_n 1, 1) := by decide +kernel
theorem dX7_sure_5 : decode cX7_sure 5 = .ok (.invokevirtual 77, 3) := by decide +kernel
theorem dX7_sure_8 : decode cX7_sure 8 = .ok (.ifCond .ne 6, 3) := by decide +kernel
theorem dX7_sure_11 : decode cX7_sure 11 = .ok (.bipush (-101), 2) := by decide +kernel
theorem dX7_sure_13 : decode cX7_sure 13 = .ok (.ireturn, 1) := by decide +kernel
theorem dX7_sure_14 : decode cX7_sure 14 = .ok (.aload_n 0, 1) := by decide +kernel
theorem dX7_sure_15 : decode cX7_sure 15 = .ok (.getfield 36, 3) := by decide +kernel
theorem dX7_sure_18 : decode cX7_sure 18 = .ok (.aload_n 0, 1) := by decide +kernel
theorem dX7_sure_19 : decode cX7_sure 19 = .ok (.getfield 19, 3) := by decide +kernel
theorem dX7_sure_22 : decode cX7_sure 22 = .ok (.invokevirtual 186, 3) := by decide +kernel
theorem dX7_sure_25 : decode cX7_sure 25 = .ok (.aload_n 0, 1) := by decide +kernel
theorem dX7_sure_26 : decode cX7_sure 26 = .ok (.getfield 36, 3) := by decide +kernel
theorem dX7_sure_29 : decode cX7_sure 29 = .ok (.iload_n 1, 1) := by decide +kernel
theorem dX7_sure_30 : decode cX7_sure 30 = .ok (.invokevirtual 192, 3) := by decide +kernel
theorem dX7_sure_33 : decode cX7_sure 33 = .ok (.ireturn, 1) := by decide +kernel
theorem dX7_years_0 : decode cX7_years 0 = .ok (.iload_n 1, 1) := by decide +kernel
theorem dX7_years_1 : decode cX7_years 1 = .ok (.iconst 1, 1) := by decide +kernel
theorem dX7_years_2 : decode cX7_years 2 = .ok (.if_icmp .lt 22, 3) := by decide +kernel
theorem dX7_years_5 : decode cX7_years 5 = .ok (.iload_n 1, 1) := by decide +kernel
theorem dX7_years_6 : decode cX7_years 6 = .ok (.bipush 30, 2) := by decide +kernel
theorem dX7_years_8 : decode cX7_years 8 = .ok (.if_icmp .gt 16, 3) := by decide +kernel
theorem dX7_years_11 : decode cX7_years 11 = .ok (.iload_n 2, 1) := by decide +kernel
theorem dX7_years_12 : decode cX7_years 12 = .ok (.ifCond .lt 12, 3) := by decide +kernel
theorem dX7_years_15 : decode cX7_years 15 = .ok (.iload_n 3, 1) := by decide +kernel
theorem dX7_years_16 : decode cX7_years 16 = .ok (.ifCond .lt 8, 3) := by decide +kernel
theorem dX7_years_19 : decode cX7_years 19 = .ok (.iload_n 3, 1) := by decide +kernel
theorem dX7_years_20 : decode cX7_years 20 = .ok (.iconst 1, 1) := by decide +kernel
theorem dX7_years_21 : decode cX7_years 21 = .ok (.if_icmp .le 6, 3) := by decide +kernel
theorem dX7_years_24 : decode cX7_years 24 = .ok (.bipush (-102), 2) := by decide +kernel
theorem dX7_years_26 : decode cX7_years 26 = .ok (.ireturn, 1) := by decide +kernel
theorem dX7_years_27 : decode cX7_years 27 = .ok (.aload_n 0, 1) := by decide +kernel
theorem dX7_years_28 : decode cX7_years 28 = .ok (.getfield 19, 3) := by decide +kernel
theorem dX7_years_31 : decode cX7_years 31 = .ok (.getfield 98, 3) := by decide +kernel
theorem dX7_years_34 : decode cX7_years 34 = .ok (.ifCond .ne 6, 3) := by decide +kernel
theorem dX7_years_37 : decode cX7_years 37 = .ok (.bipush (-103), 2) := by decide +kernel
theorem dX7_years_39 : decode cX7_years 39 = .ok (.ireturn, 1) := by decide +kernel
theorem dX7_years_40 : decode cX7_years 40 = .ok (.aload_n 0, 1) := by decide +kernel
theorem dX7_years_41 : decode cX7_years 41 = .ok (.getfield 43, 3) := by decide +kernel
theorem dX7_years_44 : decode cX7_years 44 = .ok (.iload_n 2, 1) := by decide +kernel
theorem dX7_years_45 : decode cX7_years 45 = .ok (.i2l, 1) := by decide +kernel
theorem dX7_years_46 : decode cX7_years 46 = .ok (.putfield 195, 3) := by decide +kernel
theorem dX7_years_49 : decode cX7_years 49 = .ok (.iconst 0, 1) := by decide +kernel
theorem dX7_years_50 : decode cX7_years 50 = .ok (.istore 4, 2) := by decide +kernel
theorem dX7_years_52 : decode cX7_years 52 = .ok (.iconst 0, 1) := by decide +kernel
theorem dX7_years_53 : decode cX7_years 53 = .ok (.istore 5, 2) := by decide +kernel
theorem dX7_years_55 : decode cX7_years 55 = .ok (.iload 5, 2) := by decide +kernel
theorem dX7_years_57 : decode cX7_years 57 = .ok (.iload_n 1, 1) := by decide +kernel
theorem dX7_years_58 : decode cX7_years 58 = .ok (.if_icmp .ge 25, 3) := by decide +kernel
theorem dX7_years_61 : decode cX7_years 61 = .ok (.iload 4, 2) := by decide +kernel
theorem dX7_years_63 : decode cX7_years 63 = .ok (.aload_n 0, 1) := by decide +kernel
theorem dX7_years_64 : decode cX7_years 64 = .ok (.getfield 43, 3) := by decide +kernel
theorem dX7_years_67 : decode cX7_years 67 = .ok (.aload_n 0, 1) := by decide +kernel
theorem dX7_years_68 : decode cX7_years 68 = .ok (.getfield 19, 3) := by decide +kernel
theorem dX7_years_71 : decode cX7_years 71 = .ok (.invokevirtual 199, 3) := by decide +kernel
theorem dX7_years_74 : decode cX7_years 74 = .ok (.iadd, 1) := by decide +kernel
theorem dX7_years_75 : decode cX7_years 75 = .ok (.istore 4, 2) := by decide +kernel
theorem dX7_years_77 : decode cX7_years 77 = .ok (.iinc 5 1, 3) := by decide +kernel
theorem dX7_years_80 : decode cX7_years 80 = .ok (.goto (-25), 3) := by decide +kernel
theorem dX7_years_83 : decode cX7_years 83 = .ok (.iload_n 3, 1) := by decide +kernel
theorem dX7_years_84 : decode cX7_years 84 = .ok (.ifCond .ne 8, 3) := by decide +kernel
theorem dX7_years_87 : decode cX7_years 87 = .ok (.iload 4, 2) := by decide +kernel
theorem dX7_years_89 : decode cX7_years 89 = .ok (.goto 11, 3) := by decide +kernel
theorem dX7_years_92 : decode cX7_years 92 = .ok (.aload_n 0, 1) := by decide +kernel
theorem dX7_years_93 : decode cX7_years 93 = .ok (.getfield 43, 3) := by decide +kernel
theorem dX7_years_96 : decode cX7_years 96 = .ok (.getfield 195, 3) := by decide +kernel
theorem dX7_years_99 : decode cX7_years 99 = .ok (.l2i, 1) := by decide +kernel
theorem dX7_years_100 : decode cX7_years 100 = .ok (.ireturn, 1) := by decide +kernel
theorem dX7_image_0 : decode cX7_image 0 = .ok (.aload_n 0, 1) := by decide +kernel
theorem dX7_image_1 : decode cX7_image 1 = .ok (.getfield 19, 3) := by decide +kernel
theorem dX7_image_4 : decode cX7_image 4 = .ok (.getfield 74, 3) := by decide +kernel
theorem dX7_image_7 : decode cX7_image 7 = .ok (.ifCond .ne 6, 3) := by decide +kernel
theorem dX7_image_10 : decode cX7_image 10 = .ok (.bipush (-103), 2) := by decide +kernel
theorem dX7_image_12 : decode cX7_image 12 = .ok (.ireturn, 1) := by decide +kernel
theorem dX7_image_13 : decode cX7_image 13 = .ok (.aload_n 0, 1) := by decide +kernel
theorem dX7_image_14 : decode cX7_image 14 = .ok (.getfield 23, 3) := by decide +kernel
theorem dX7_image_17 : decode cX7_image 17 = .ok (.aload_n 0, 1) := by decide +kernel
theorem dX7_image_18 : decode cX7_image 18 = .ok (.getfield 19, 3) := by decide +kernel
theorem dX7_image_21 : decode cX7_image 21 = .ok (.invokevirtual 203, 3) := by decide +kernel
theorem dX7_image_24 : decode cX7_image 24 = .ok (.aload_n 0, 1) := by decide +kernel
theorem dX7_image_25 : decode cX7_image 25 = .ok (.iconst 1, 1) := by decide +kernel
theorem dX7_image_26 : decode cX7_image 26 = .ok (.putfield 67, 3) := by decide +kernel
theorem dX7_image_29 : decode cX7_image 29 = .ok (.aload_n 0, 1) := by decide +kernel
theorem dX7_image_30 : decode cX7_image 30 = .ok (.getfield 19, 3) := by decide +kernel
theorem dX7_image_33 : decode cX7_image 33 = .ok (.invokevirtual 206, 3) := by decide +kernel
theorem dX7_image_36 : decode cX7_image 36 = .ok (.ireturn, 1) := by decide +kernel
theorem dX7_restore_0 : decode cX7_restore 0 = .ok (.aload_n 0, 1) := by decide +kernel
theorem dX7_restore_1 : decode cX7_restore 1 = .ok (.getfield 67, 3) := by decide +kernel
theorem dX7_restore_4 : decode cX7_restore 4 = .ok (.ifCond .ne 6, 3) := by decide +kernel
theorem dX7_restore_7 : decode cX7_restore 7 = .ok (.bipush (-103), 2) := by decide +kernel
theorem dX7_restore_9 : decode cX7_restore 9 = .ok (.ireturn, 1) := by decide +kernel
theorem dX7_restore_10 : decode cX7_restore 10 = .ok (.aload_n 0, 1) := by decide +kernel
theorem dX7_restore_11 : decode cX7_restore 11 = .ok (.getfield 19, 3) := by decide +kernel
theorem dX7_restore_14 : decode cX7_restore 14 = .ok (.aload_n 0, 1) := by decide +kernel
theorem dX7_restore_15 : decode cX7_restore 15 = .ok (.getfield 23, 3) := by decide +kernel
theorem dX7_restore_18 : decode cX7_restore 18 = .ok (.invokevirtual 203, 3) := by decide +kernel
theorem dX7_restore_21 : decode cX7_restore 21 = .ok (.aload_n 0, 1) := by decide +kernel
theorem dX7_restore_22 : decode cX7_restore 22 = .ok (.getfield 19, 3) := by decide +kernel
theorem dX7_restore_25 : decode cX7_restore 25 = .ok (.invokevirtual 206, 3) := by decide +kernel
theorem dX7_restore_28 : decode cX7_restore 28 = .ok (.ireturn, 1) := by decide +kernel
theorem dX7_count_0 : decode cX7_count 0 = .ok (.iload_n 1, 1) := by decide +kernel
theorem dX7_count_1 : decode cX7_count 1 = .ok (.ifCond .lt 9, 3) := by decide +kernel
theorem dX7_count_4 : decode cX7_count 4 = .ok (.iload_n 1, 1) := by decide +kernel
theorem dX7_count_5 : decode cX7_count 5 = .ok (.bipush 10, 2) := by decide +kernel
theorem dX7_count_7 : decode cX7_count 7 = .ok (.if_icmp .le 6, 3) := by decide +kernel
theorem dX7_count_10 : decode cX7_count 10 = .ok (.bipush (-102), 2) := by decide +kernel
theorem dX7_count_12 : decode cX7_count 12 = .ok (.ireturn, 1) := by decide +kernel
theorem dX7_count_13 : decode cX7_count 13 = .ok (.iload_n 1, 1) := by decide +kernel
theorem dX7_count_14 : decode cX7_count 14 = .ok (.tableswitch 44 8 10 #[26, 34, 39], 26) := by decide +kernel
theorem dX7_count_40 : decode cX7_count 40 = .ok (.aload_n 0, 1) := by decide +kernel
theorem dX7_count_41 : decode cX7_count 41 = .ok (.getfield 10, 3) := by decide +kernel
theorem dX7_count_44 : decode cX7_count 44 = .ok (.getfield 47, 3) := by decide +kernel
theorem dX7_count_47 : decode cX7_count 47 = .ok (.ireturn, 1) := by decide +kernel
theorem dX7_count_48 : decode cX7_count 48 = .ok (.aload_n 0, 1) := by decide +kernel
theorem dX7_count_49 : decode cX7_count 49 = .ok (.getfield 71, 3) := by decide +kernel
theorem dX7_count_52 : decode cX7_count 52 = .ok (.ireturn, 1) := by decide +kernel
theorem dX7_count_53 : decode cX7_count 53 = .ok (.aload_n 0, 1) := by decide +kernel
theorem dX7_count_54 : decode cX7_count 54 = .ok (.getfield 163, 3) := by decide +kernel
theorem dX7_count_57 : decode cX7_count 57 = .ok (.ireturn, 1) := by decide +kernel
theorem dX7_count_58 : decode cX7_count 58 = .ok (.aload_n 0, 1) := by decide +kernel
theorem dX7_count_59 : decode cX7_count 59 = .ok (.getfield 19, 3) := by decide +kernel
theorem dX7_count_62 : decode cX7_count 62 = .ok (.iload_n 1, 1) := by decide +kernel
theorem dX7_count_63 : decode cX7_count 63 = .ok (.invokevirtual 209, 3) := by decide +kernel
theorem dX7_count_66 : decode cX7_count 66 = .ok (.ireturn, 1) := by decide +kernel
theorem dX7_digest_0 : decode cX7_digest 0 = .ok (.ldc2_w 212, 3) := by decide +kernel
theorem dX7_digest_3 : decode cX7_digest 3 = .ok (.lstore_n 1, 1) := by decide +kernel
theorem dX7_digest_4 : decode cX7_digest 4 = .ok (.aload_n 0, 1) := by decide +kernel
theorem dX7_digest_5 : decode cX7_digest 5 = .ok (.getfield 36, 3) := by decide +kernel
theorem dX7_digest_8 : decode cX7_digest 8 = .ok (.aload_n 0, 1) := by decide +kernel
theorem dX7_digest_9 : decode cX7_digest 9 = .ok (.getfield 19, 3) := by decide +kernel
theorem dX7_digest_12 : decode cX7_digest 12 = .ok (.invokevirtual 186, 3) := by decide +kernel
theorem dX7_digest_15 : decode cX7_digest 15 = .ok (.iconst 0, 1) := by decide +kernel
theorem dX7_digest_16 : decode cX7_digest 16 = .ok (.istore_n 3, 1) := by decide +kernel
theorem dX7_digest_17 : decode cX7_digest 17 = .ok (.iload_n 3, 1) := by decide +kernel
theorem dX7_digest_18 : decode cX7_digest 18 = .ok (.aload_n 0, 1) := by decide +kernel
theorem dX7_digest_19 : decode cX7_digest 19 = .ok (.getfield 19, 3) := by decide +kernel
theorem dX7_digest_22 : decode cX7_digest 22 = .ok (.getfield 74, 3) := by decide +kernel
theorem dX7_digest_25 : decode cX7_digest 25 = .ok (.if_icmp .ge 59, 3) := by decide +kernel
theorem dX7_digest_28 : decode cX7_digest 28 = .ok (.iconst 0, 1) := by decide +kernel
theorem dX7_digest_29 : decode cX7_digest 29 = .ok (.istore 4, 2) := by decide +kernel
theorem dX7_digest_31 : decode cX7_digest 31 = .ok (.iload 4, 2) := by decide +kernel
theorem dX7_digest_33 : decode cX7_digest 33 = .ok (.bipush 8, 2) := by decide +kernel
theorem dX7_digest_35 : decode cX7_digest 35 = .ok (.if_icmp .gt 27, 3) := by decide +kernel
theorem dX7_digest_38 : decode cX7_digest 38 = .ok (.ldc2_w 214, 3) := by decide +kernel
theorem dX7_digest_41 : decode cX7_digest 41 = .ok (.lload_n 1, 1) := by decide +kernel
theorem dX7_digest_42 : decode cX7_digest 42 = .ok (.lmul, 1) := by decide +kernel
theorem dX7_digest_43 : decode cX7_digest 43 = .ok (.aload_n 0, 1) := by decide +kernel
theorem dX7_digest_44 : decode cX7_digest 44 = .ok (.getfield 19, 3) := by decide +kernel
theorem dX7_digest_47 : decode cX7_digest 47 = .ok (.iload_n 3, 1) := by decide +kernel
theorem dX7_digest_48 : decode cX7_digest 48 = .ok (.iload 4, 2) := by decide +kernel
theorem dX7_digest_50 : decode cX7_digest 50 = .ok (.invokevirtual 81, 3) := by decide +kernel
theorem dX7_digest_53 : decode cX7_digest 53 = .ok (.i2l, 1) := by decide +kernel
theorem dX7_digest_54 : decode cX7_digest 54 = .ok (.ladd, 1) := by decide +kernel
theorem dX7_digest_55 : decode cX7_digest 55 = .ok (.lstore_n 1, 1) := by decide +kernel
theorem dX7_digest_56 : decode cX7_digest 56 = .ok (.iinc 4 1, 3) := by decide +kernel
theorem dX7_digest_59 : decode cX7_digest 59 = .ok (.goto (-28), 3) := by decide +kernel
theorem dX7_digest_62 : decode cX7_digest 62 = .ok (.ldc2_w 214, 3) := by decide +kernel
theorem dX7_digest_65 : decode cX7_digest 65 = .ok (.lload_n 1, 1) := by decide +kernel
theorem dX7_digest_66 : decode cX7_digest 66 = .ok (.lmul, 1) := by decide +kernel
theorem dX7_digest_67 : decode cX7_digest 67 = .ok (.aload_n 0, 1) := by decide +kernel
theorem dX7_digest_68 : decode cX7_digest 68 = .ok (.getfield 36, 3) := by decide +kernel
theorem dX7_digest_71 : decode cX7_digest 71 = .ok (.iload_n 3, 1) := by decide +kernel
theorem dX7_digest_72 : decode cX7_digest 72 = .ok (.invokevirtual 192, 3) := by decide +kernel
theorem dX7_digest_75 : decode cX7_digest 75 = .ok (.i2l, 1) := by decide +kernel
theorem dX7_digest_76 : decode cX7_digest 76 = .ok (.ladd, 1) := by decide +kernel
theorem dX7_digest_77 : decode cX7_digest 77 = .ok (.lstore_n 1, 1) := by decide +kernel
theorem dX7_digest_78 : decode cX7_digest 78 = .ok (.iinc 3 1, 3) := by decide +kernel
theorem dX7_digest_81 : decode cX7_digest 81 = .ok (.goto (-64), 3) := by decide +kernel
theorem dX7_digest_84 : decode cX7_digest 84 = .ok (.iconst 0, 1) := by decide +kernel
theorem dX7_digest_85 : decode cX7_digest 85 = .ok (.istore_n 3, 1) := by decide +kernel
theorem dX7_digest_86 : decode cX7_digest 86 = .ok (.iload_n 3, 1) := by decide +kernel
theorem dX7_digest_87 : decode cX7_digest 87 = .ok (.aload_n 0, 1) := by decide +kernel
theorem dX7_digest_88 : decode cX7_digest 88 = .ok (.getfield 19, 3) := by decide +kernel
theorem dX7_digest_91 : decode cX7_digest 91 = .ok (.getfield 98, 3) := by decide +kernel
theorem dX7_digest_94 : decode cX7_digest 94 = .ok (.if_icmp .ge 80, 3) := by decide +kernel
theorem dX7_digest_97 : decode cX7_digest 97 = .ok (.iconst 0, 1) := by decide +kernel
theorem dX7_digest_98 : decode cX7_digest 98 = .ok (.istore 4, 2) := by decide +kernel
theorem dX7_digest_100 : decode cX7_digest 100 = .ok (.iload 4, 2) := by decide +kernel
theorem dX7_digest_102 : decode cX7_digest 102 = .ok (.iconst 2, 1) := by decide +kernel
theorem dX7_digest_103 : decode cX7_digest 103 = .ok (.if_icmp .gt 31, 3) := by decide +kernel
theorem dX7_digest_106 : decode cX7_digest 106 = .ok (.ldc2_w 214, 3) := by decide +kernel
theorem dX7_digest_109 : decode cX7_digest 109 = .ok (.lload_n 1, 1) := by decide +kernel
theorem dX7_digest_110 : decode cX7_digest 110 = .ok (.lmul, 1) := by decide +kernel
theorem dX7_digest_111 : decode cX7_digest 111 = .ok (.aload_n 0, 1) := by decide +kernel
theorem dX7_digest_112 : decode cX7_digest 112 = .ok (.getfield 19, 3) := by decide +kernel
theorem dX7_digest_115 : decode cX7_digest 115 = .ok (.getfield 101, 3) := by decide +kernel
theorem dX7_digest_118 : decode cX7_digest 118 = .ok (.iload_n 3, 1) := by decide +kernel
theorem dX7_digest_119 : decode cX7_digest 119 = .ok (.aaload, 1) := by decide +kernel
theorem dX7_digest_120 : decode cX7_digest 120 = .ok (.iload 4, 2) := by decide +kernel
theorem dX7_digest_122 : decode cX7_digest 122 = .ok (.invokevirtual 112, 3) := by decide +kernel
theorem dX7_digest_125 : decode cX7_digest 125 = .ok (.i2l, 1) := by decide +kernel
theorem dX7_digest_126 : decode cX7_digest 126 = .ok (.ladd, 1) := by decide +kernel
theorem dX7_digest_127 : decode cX7_digest 127 = .ok (.lstore_n 1, 1) := by decide +kernel
theorem dX7_digest_128 : decode cX7_digest 128 = .ok (.iinc 4 1, 3) := by decide +kernel
theorem dX7_digest_131 : decode cX7_digest 131 = .ok (.goto (-31), 3) := by decide +kernel
theorem dX7_digest_134 : decode cX7_digest 134 = .ok (.ldc2_w 214, 3) := by decide +kernel
theorem dX7_digest_137 : decode cX7_digest 137 = .ok (.lload_n 1, 1) := by decide +kernel
theorem dX7_digest_138 : decode cX7_digest 138 = .ok (.lmul, 1) := by decide +kernel
theorem dX7_digest_139 : decode cX7_digest 139 = .ok (.aload_n 0, 1) := by decide +kernel
theorem dX7_digest_140 : decode cX7_digest 140 = .ok (.getfield 19, 3) := by decide +kernel
theorem dX7_digest_143 : decode cX7_digest 143 = .ok (.iload_n 3, 1) := by decide +kernel
theorem dX7_digest_144 : decode cX7_digest 144 = .ok (.iconst 0, 1) := by decide +kernel
theorem dX7_digest_145 : decode cX7_digest 145 = .ok (.invokevirtual 179, 3) := by decide +kernel
theorem dX7_digest_148 : decode cX7_digest 148 = .ok (.i2l, 1) := by decide +kernel
theorem dX7_digest_149 : decode cX7_digest 149 = .ok (.ladd, 1) := by decide +kernel
theorem dX7_digest_150 : decode cX7_digest 150 = .ok (.lstore_n 1, 1) := by decide +kernel
theorem dX7_digest_151 : decode cX7_digest 151 = .ok (.ldc2_w 214, 3) := by decide +kernel
theorem dX7_digest_154 : decode cX7_digest 154 = .ok (.lload_n 1, 1) := by decide +kernel
theorem dX7_digest_155 : decode cX7_digest 155 = .ok (.lmul, 1) := by decide +kernel
theorem dX7_digest_156 : decode cX7_digest 156 = .ok (.aload_n 0, 1) := by decide +kernel
theorem dX7_digest_157 : decode cX7_digest 157 = .ok (.getfield 19, 3) := by decide +kernel
theorem dX7_digest_160 : decode cX7_digest 160 = .ok (.iload_n 3, 1) := by decide +kernel
theorem dX7_digest_161 : decode cX7_digest 161 = .ok (.iconst 1, 1) := by decide +kernel
theorem dX7_digest_162 : decode cX7_digest 162 = .ok (.invokevirtual 179, 3) := by decide +kernel
theorem dX7_digest_165 : decode cX7_digest 165 = .ok (.i2l, 1) := by decide +kernel
theorem dX7_digest_166 : decode cX7_digest 166 = .ok (.ladd, 1) := by decide +kernel
theorem dX7_digest_167 : decode cX7_digest 167 = .ok (.lstore_n 1, 1) := by decide +kernel
theorem dX7_digest_168 : decode cX7_digest 168 = .ok (.iinc 3 1, 3) := by decide +kernel
theorem dX7_digest_171 : decode cX7_digest 171 = .ok (.goto (-85), 3) := by decide +kernel
theorem dX7_digest_174 : decode cX7_digest 174 = .ok (.aload_n 0, 1) := by decide +kernel
theorem dX7_digest_175 : decode cX7_digest 175 = .ok (.getfield 19, 3) := by decide +kernel
theorem dX7_digest_178 : decode cX7_digest 178 = .ok (.getfield 74, 3) := by decide +kernel
theorem dX7_digest_181 : decode cX7_digest 181 = .ok (.ifCond .le 18, 3) := by decide +kernel
theorem dX7_digest_184 : decode cX7_digest 184 = .ok (.ldc2_w 214, 3) := by decide +kernel
theorem dX7_digest_187 : decode cX7_digest 187 = .ok (.lload_n 1, 1) := by decide +kernel
theorem dX7_digest_188 : decode cX7_digest 188 = .ok (.lmul, 1) := by decide +kernel
theorem dX7_digest_189 : decode cX7_digest 189 = .ok (.aload_n 0, 1) := by decide +kernel
theorem dX7_digest_190 : decode cX7_digest 190 = .ok (.getfield 36, 3) := by decide +kernel
theorem dX7_digest_193 : decode cX7_digest 193 = .ok (.invokevirtual 189, 3) := by decide +kernel
theorem dX7_digest_196 : decode cX7_digest 196 = .ok (.i2l, 1) := by decide +kernel
theorem dX7_digest_197 : decode cX7_digest 197 = .ok (.ladd, 1) := by decide +kernel
theorem dX7_digest_198 : decode cX7_digest 198 = .ok (.lstore_n 1, 1) := by decide +kernel
theorem dX7_digest_199 : decode cX7_digest 199 = .ok (.iconst 0, 1) := by decide +kernel
theorem dX7_digest_200 : decode cX7_digest 200 = .ok (.istore_n 3, 1) := by decide +kernel
theorem dX7_digest_201 : decode cX7_digest 201 = .ok (.iload_n 3, 1) := by decide +kernel
theorem dX7_digest_202 : decode cX7_digest 202 = .ok (.aload_n 0, 1) := by decide +kernel
theorem dX7_digest_203 : decode cX7_digest 203 = .ok (.getfield 10, 3) := by decide +kernel
theorem dX7_digest_206 : decode cX7_digest 206 = .ok (.getfield 47, 3) := by decide +kernel
theorem dX7_digest_209 : decode cX7_digest 209 = .ok (.if_icmp .ge 26, 3) := by decide +kernel
theorem dX7_digest_212 : decode cX7_digest 212 = .ok (.ldc2_w 214, 3) := by decide +kernel
theorem dX7_digest_215 : decode cX7_digest 215 = .ok (.lload_n 1, 1) := by decide +kernel
theorem dX7_digest_216 : decode cX7_digest 216 = .ok (.lmul, 1) := by decide +kernel
theorem dX7_digest_217 : decode cX7_digest 217 = .ok (.aload_n 0, 1) := by decide +kernel
theorem dX7_digest_218 : decode cX7_digest 218 = .ok (.getfield 10, 3) := by decide +kernel
theorem dX7_digest_221 : decode cX7_digest 221 = .ok (.getfield 216, 3) := by decide +kernel
theorem dX7_digest_224 : decode cX7_digest 224 = .ok (.iload_n 3, 1) := by decide +kernel
theorem dX7_digest_225 : decode cX7_digest 225 = .ok (.iaload, 1) := by decide +kernel
theorem dX7_digest_226 : decode cX7_digest 226 = .ok (.i2l, 1) := by decide +kernel
theorem dX7_digest_227 : decode cX7_digest 227 = .ok (.ladd, 1) := by decide +kernel
theorem dX7_digest_228 : decode cX7_digest 228 = .ok (.lstore_n 1, 1) := by decide +kernel
theorem dX7_digest_229 : decode cX7_digest 229 = .ok (.iinc 3 1, 3) := by decide +kernel
theorem dX7_digest_232 : decode cX7_digest 232 = .ok (.goto (-31), 3) := by decide +kernel
theorem dX7_digest_235 : decode cX7_digest 235 = .ok (.iconst 0, 1) := by decide +kernel
theorem dX7_digest_236 : decode cX7_digest 236 = .ok (.istore_n 3, 1) := by decide +kernel
theorem dX7_digest_237 : decode cX7_digest 237 = .ok (.iload_n 3, 1) := by decide +kernel
theorem dX7_digest_238 : decode cX7_digest 238 = .ok (.bipush 10, 2) := by decide +kernel
theorem dX7_digest_240 : decode cX7_digest 240 = .ok (.if_icmp .gt 22, 3) := by decide +kernel
theorem dX7_digest_243 : decode cX7_digest 243 = .ok (.ldc2_w 214, 3) := by decide +kernel
theorem dX7_digest_246 : decode cX7_digest 246 = .ok (.lload_n 1, 1) := by decide +kernel
theorem dX7_digest_247 : decode cX7_digest 247 = .ok (.lmul, 1) := by decide +kernel
theorem dX7_digest_248 : decode cX7_digest 248 = .ok (.aload_n 0, 1) := by decide +kernel
theorem dX7_digest_249 : decode cX7_digest 249 = .ok (.iload_n 3, 1) := by decide +kernel
theorem dX7_digest_250 : decode cX7_digest 250 = .ok (.invokevirtual 219, 3) := by decide +kernel
theorem dX7_digest_253 : decode cX7_digest 253 = .ok (.i2l, 1) := by decide +kernel
theorem dX7_digest_254 : decode cX7_digest 254 = .ok (.ladd, 1) := by decide +kernel
theorem dX7_digest_255 : decode cX7_digest 255 = .ok (.lstore_n 1, 1) := by decide +kernel
theorem dX7_digest_256 : decode cX7_digest 256 = .ok (.iinc 3 1, 3) := by decide +kernel
theorem dX7_digest_259 : decode cX7_digest 259 = .ok (.goto (-22), 3) := by decide +kernel
theorem dX7_digest_262 : decode cX7_digest 262 = .ok (.lload_n 1, 1) := by decide +kernel
theorem dX7_digest_263 : decode cX7_digest 263 = .ok (.lreturn, 1) := by decide +kernel
theorem dX7_faded_0 : decode cX7_faded 0 = .ok (.iload_n 0, 1) := by decide +kernel
theorem dX7_faded_1 : decode cX7_faded 1 = .ok (.bipush 10, 2) := by decide +kernel
theorem dX7_faded_3 : decode cX7_faded 3 = .ok (.if_icmp .le 12, 3) := by decide +kernel
theorem dX7_faded_6 : decode cX7_faded 6 = .ok (.bipush 10, 2) := by decide +kernel
theorem dX7_faded_8 : decode cX7_faded 8 = .ok (.iload_n 0, 1) := by decide +kernel
theorem dX7_faded_9 : decode cX7_faded 9 = .ok (.iload_n 1, 1) := by decide +kernel
theorem dX7_faded_10 : decode cX7_faded 10 = .ok (.isub, 1) := by decide +kernel
theorem dX7_faded_11 : decode cX7_faded 11 = .ok (.invokestatic 222, 3) := by decide +kernel
theorem dX7_faded_14 : decode cX7_faded 14 = .ok (.ireturn, 1) := by decide +kernel
theorem dX7_faded_15 : decode cX7_faded 15 = .ok (.bipush 10, 2) := by decide +kernel
theorem dX7_faded_17 : decode cX7_faded 17 = .ok (.iload_n 0, 1) := by decide +kernel
theorem dX7_faded_18 : decode cX7_faded 18 = .ok (.iload_n 1, 1) := by decide +kernel
theorem dX7_faded_19 : decode cX7_faded 19 = .ok (.iadd, 1) := by decide +kernel
theorem dX7_faded_20 : decode cX7_faded 20 = .ok (.invokestatic 227, 3) := by decide +kernel
theorem dX7_faded_23 : decode cX7_faded 23 = .ok (.ireturn, 1) := by decide +kernel
theorem dX7_rowsOfFirst_0 : decode cX7_rowsOfFirst 0 = .ok (.iload_n 1, 1) := by decide +kernel
theorem dX7_rowsOfFirst_1 : decode cX7_rowsOfFirst 1 = .ok (.iload_n 2, 1) := by decide +kernel
theorem dX7_rowsOfFirst_2 : decode cX7_rowsOfFirst 2 = .ok (.if_icmp .ne 7, 3) := by decide +kernel
theorem dX7_rowsOfFirst_5 : decode cX7_rowsOfFirst 5 = .ok (.iload_n 0, 1) := by decide +kernel
theorem dX7_rowsOfFirst_6 : decode cX7_rowsOfFirst 6 = .ok (.goto 8, 3) := by decide +kernel
theorem dX7_rowsOfFirst_9 : decode cX7_rowsOfFirst 9 = .ok (.iload_n 0, 1) := by decide +kernel
theorem dX7_rowsOfFirst_10 : decode cX7_rowsOfFirst 10 = .ok (.iconst 1, 1) := by decide +kernel
theorem dX7_rowsOfFirst_11 : decode cX7_rowsOfFirst 11 = .ok (.iadd, 1) := by decide +kernel
theorem dX7_rowsOfFirst_12 : decode cX7_rowsOfFirst 12 = .ok (.iconst 2, 1) := by decide +kernel
theorem dX7_rowsOfFirst_13 : decode cX7_rowsOfFirst 13 = .ok (.idiv, 1) := by decide +kernel
theorem dX7_rowsOfFirst_14 : decode cX7_rowsOfFirst 14 = .ok (.ireturn, 1) := by decide +kernel
end
section
theorem dX8_init_0 : decode cX8_init 0 = .ok (.aload_n 0, 1) := by decide +kernel
theorem dX8_init_1 : decode cX8_init 1 = .ok (.invokespecial 1, 3) := by decide +kernel
theorem dX8_init_4 : decode cX8_init 4 = .ok (.aload_n 0, 1) := by decide +kernel
theorem dX8_init_5 : decode cX8_init 5 = .ok (.iconst 5, 1) := by decide +kernel
theorem dX8_init_6 : decode cX8_init 6 = .ok (.newarray .int, 2) := by decide +kernel
theorem dX8_init_8 : decode cX8_init 8 = .ok (.putfield 7, 3) := by decide +kernel
theorem dX8_init_11 : decode cX8_init 11 = .ok (.aload_n 0, 1) := by decide +kernel
theorem dX8_init_12 : decode cX8_init 12 = .ok (.iconst 5, 1) := by decide +kernel
theorem dX8_init_13 : decode cX8_init 13 = .ok (.newarray .int, 2) := by decide +kernel
theorem dX8_init_15 : decode cX8_init 15 = .ok (.putfield 13, 3) := by decide +kernel
theorem dX8_init_18 : decode cX8_init 18 = .ok (.aload_n 0, 1) := by decide +kernel
theorem dX8_init_19 : decode cX8_init 19 = .ok (.iconst 5, 1) := by decide +kernel
theorem dX8_init_20 : decode cX8_init 20 = .ok (.newarray .int, 2) := by decide +kernel
theorem dX8_init_22 : decode cX8_init 22 = .ok (.putfield 16, 3) := by decide +kernel
theorem dX8_init_25 : decode cX8_init 25 = .ok (.aload_n 0, 1) := by decide +kernel
theorem dX8_init_26 : decode cX8_init 26 = .ok (.iconst 5, 1) := by decide +kernel
theorem dX8_init_27 : decode cX8_init 27 = .ok (.newarray .int, 2) := by decide +kernel
theorem dX8_init_29 : decode cX8_init 29 = .ok (.putfield 19, 3) := by decide +kernel
theorem dX8_init_32 : decode cX8_init 32 = .ok (.aload_n 0, 1) := by decide +kernel
theorem dX8_init_33 : decode cX8_init 33 = .ok (.iconst 5, 1) := by decide +kernel
theorem dX8_init_34 : decode cX8_init 34 = .ok (.newarray .int, 2) := by decide +kernel
theorem dX8_init_36 : decode cX8_init 36 = .ok (.putfield 22, 3) := by decide +kernel
theorem dX8_init_39 : decode cX8_init 39 = .ok (.aload_n 0, 1) := by decide +kernel
theorem dX8_init_40 : decode cX8_init 40 = .ok (.iconst 5, 1) := by decide +kernel
theorem dX8_init_41 : decode cX8_init 41 = .ok (.newarray .int, 2) := by decide +kernel
theorem dX8_init_43 : decode cX8_init 43 = .ok (.putfield 25, 3) := by decide +kernel
theorem dX8_init_46 : decode cX8_init 46 = .ok (.aload_n 0, 1) := by decide +kernel
theorem dX8_init_47 : decode cX8_init 47 = .ok (.iconst 5, 1) := by decide +kernel
theorem dX8_init_48 : decode cX8_init 48 = .ok (.newarray .int, 2) := by decide +kernel
theorem dX8_init_50 : decode cX8_init 50 = .ok (.putfield 28, 3) := by decide +kernel
theorem dX8_init_53 : decode cX8_init 53 = .ok (.aload_n 0, 1) := by decide +kernel
theorem dX8_init_54 : decode cX8_init 54 = .ok (.iconst 5, 1) := by decide +kernel
theorem dX8_init_55 : decode cX8_init 55 = .ok (.newarray .int, 2) := by decide +kernel
theorem dX8_init_57 : decode cX8_init 57 = .ok (.putfield 31, 3) := by decide +kernel
theorem dX8_init_60 : decode cX8_init 60 = .ok (.aload_n 0, 1) := by decide +kernel
theorem dX8_init_61 : decode cX8_init 61 = .ok (.iconst 3, 1) := by decide +kernel
theorem dX8_init_62 : decode cX8_init 62 = .ok (.newarray .int, 2) := by decide +kernel
theorem dX8_init_64 : decode cX8_init 64 = .ok (.putfield 34, 3) := by decide +kernel
theorem dX8_init_67 : decode cX8_init 67 = .ok (.aload_n 0, 1) := by decide +kernel
theorem dX8_init_68 : decode cX8_init 68 = .ok (.iconst 3, 1) := by decide +kernel
theorem dX8_init_69 : decode cX8_init 69 = .ok (.newarray .int, 2) := by decide +kernel
theorem dX8_init_71 : decode cX8_init 71 = .ok (.putfield 37, 3) := by decide +kernel
theorem dX8_init_74 : decode cX8_init 74 = .ok (.aload_n 0, 1) := by decide +kernel
theorem dX8_init_75 : decode cX8_init 75 = .ok (.iconst 3, 1) := by decide +kernel
theorem dX8_init_76 : decode cX8_init 76 = .ok (.newarray .int, 2) := by decide +kernel
theorem dX8_init_78 : decode cX8_init 78 = .ok (.putfield 40, 3) := by decide +kernel
theorem dX8_init_81 : decode cX8_init 81 = .ok (.aload_n 0, 1) := by decide +kernel
theorem dX8_init_82 : decode cX8_init 82 = .ok (.bipush 18, 2) := by decide +kernel
theorem dX8_init_84 : decode cX8_init 84 = .ok (.newarray .byte, 2) := by decide +kernel
theorem dX8_init_86 : decode cX8_init 86 = .ok (.putfield 43, 3) := by decide +kernel
theorem dX8_init_89 : decode cX8_init 89 = .ok (.aload_n 0, 1) := by decide +kernel
theorem dX8_init_90 : decode cX8_init 90 = .ok (.iconst 5, 1) := by decide +kernel
theorem dX8_init_91 : decode cX8_init 91 = .ok (.newarray .int, 2) := by decide +kernel
theorem dX8_init_93 : decode cX8_init 93 = .ok (.putfield 47, 3) := by decide +kernel
theorem dX8_init_96 : decode cX8_init 96 = .ok (.aload_n 0, 1) := by decide +kernel
theorem dX8_init_97 : decode cX8_init 97 = .ok (.iconst 5, 1) := by decide +kernel
theorem dX8_init_98 : decode cX8_init 98 = .ok (.newarray .int, 2) := by decide +kernel
theorem dX8_init_100 : decode cX8_init 100 = .ok (.putfield 50, 3) := by decide +kernel
theorem dX8_init_103 : decode cX8_init 103 = .ok (.aload_n 0, 1) := by decide +kernel
theorem dX8_init_104 : decode cX8_init 104 = .ok (.iconst 3, 1) := by decide +kernel
theorem dX8_init_105 : decode cX8_init 105 = .ok (.newarray .int, 2) := by decide +kernel
theorem dX8_init_107 : decode cX8_init 107 = .ok (.putfield 53, 3) := by decide +kernel
theorem dX8_init_110 : decode cX8_init 110 = .ok (.aload_n 0, 1) := by decide +kernel
theorem dX8_init_111 : decode cX8_init 111 = .ok (.iconst 3, 1) := by decide +kernel
theorem dX8_init_112 : decode cX8_init 112 = .ok (.newarray .int, 2) := by decide +kernel
theorem dX8_init_114 : decode cX8_init 114 = .ok (.putfield 56, 3) := by decide +kernel
theorem dX8_init_117 : decode cX8_init 117 = .ok (.aload_n 0, 1) := by decide +kernel
theorem dX8_init_118 : decode cX8_init 118 = .ok (.iconst 5, 1) := by decide +kernel
theorem dX8_init_119 : decode cX8_init 119 = .ok (.newarray .int, 2) := by decide +kernel
theorem dX8_init_121 : decode cX8_init 121 = .ok (.putfield 59, 3) := by decide +kernel
theorem dX8_init_124 : decode cX8_init 124 = .ok (.aload_n 0, 1) := by decide +kernel
theorem dX8_init_125 : decode cX8_init 125 = .ok (.iconst 5, 1) := by decide +kernel
theorem dX8_init_126 : decode cX8_init 126 = .ok (.newarray .int, 2) := by decide +kernel
theorem dX8_init_128 : decode cX8_init 128 = .ok (.putfield 62, 3) := by decide +kernel
theorem dX8_init_131 : decode cX8_init 131 = .ok (.aload_n 0, 1) := by decide +kernel
theorem dX8_init_132 : decode cX8_init 132 = .ok (.iconst 5, 1) := by decide +kernel
theorem dX8_init_133 : decode cX8_init 133 = .ok (.newarray .int, 2) := by decide +kernel
theorem dX8_init_135 : decode cX8_init 135 = .ok (.putfield 65, 3) := by decide +kernel
theorem dX8_init_138 : decode cX8_init 138 = .ok (.aload_n 0, 1) := by decide +kernel
theorem dX8_init_139 : decode cX8_init 139 = .ok (.iconst 5, 1) := by decide +kernel
theorem dX8_init_140 : decode cX8_init 140 = .ok (.newarray .int, 2) := by decide +kernel
theorem dX8_init_142 : decode cX8_init 142 = .ok (.putfield 68, 3) := by decide +kernel
theorem dX8_init_145 : decode cX8_init 145 = .ok (.aload_n 0, 1) := by decide +kernel
theorem dX8_init_146 : decode cX8_init 146 = .ok (.iconst 5, 1) := by decide +kernel
theorem dX8_init_147 : decode cX8_init 147 = .ok (.newarray .int, 2) := by decide +kernel
theorem dX8_init_149 : decode cX8_init 149 = .ok (.putfield 71, 3) := by decide +kernel
theorem dX8_init_152 : decode cX8_init 152 = .ok (.aload_n 0, 1) := by decide +kernel
theorem dX8_init_153 : decode cX8_init 153 = .ok (.iconst 5, 1) := by decide +kernel
theorem dX8_init_154 : decode cX8_init 154 = .ok (.newarray .int, 2) := by decide +kernel
theorem dX8_init_156 : decode cX8_init 156 = .ok (.putfield 74, 3) := by decide +kernel
theorem dX8_init_159 : decode cX8_init 159 = .ok (.aload_n 0, 1) := by decide +kernel
theorem dX8_init_160 : decode cX8_init 160 = .ok (.iconst 3, 1) := by decide +kernel
theorem dX8_init_161 : decode cX8_init 161 = .ok (.newarray .int, 2) := by decide +kernel
theorem dX8_init_163 : decode cX8_init 163 = .ok (.putfield 77, 3) := by decide +kernel
theorem dX8_init_166 : decode cX8_init 166 = .ok (.aload_n 0, 1) := by decide +kernel
theorem dX8_init_167 : decode cX8_init 167 = .ok (.iconst 3, 1) := by decide +kernel
theorem dX8_init_168 : decode cX8_init 168 = .ok (.newarray .int, 2) := by decide +kernel
theorem dX8_init_170 : decode cX8_init 170 = .ok (.putfield 80, 3) := by decide +kernel
theorem dX8_init_173 : decode cX8_init 173 = .ok (.aload_n 0, 1) := by decide +kernel
theorem dX8_init_174 : decode cX8_init 174 = .ok (.iconst 3, 1) := by decide +kernel
theorem dX8_init_175 : decode cX8_init 175 = .ok (.newarray .int, 2) := by decide +kernel
theorem dX8_init_177 : decode cX8_init 177 = .ok (.putfield 83, 3) := by decide +kernel
theorem dX8_init_180 : decode cX8_init 180 = .ok (.return_, 1) := by decide +kernel
theorem dX8_within_0 : decode cX8_within 0 = .ok (.iload_n 0, 1) := by decide +kernel
theorem dX8_within_1 : decode cX8_within 1 = .ok (.iload_n 1, 1) := by decide +kernel
theorem dX8_within_2 : decode cX8_within 2 = .ok (.if_icmp .lt 12, 3) := by decide +kernel
theorem dX8_within_5 : decode cX8_within 5 = .ok (.iload_n 0, 1) := by decide +kernel
theorem dX8_within_6 : decode cX8_within 6 = .ok (.iload_n 2, 1) := by decide +kernel
theorem dX8_within_7 : decode cX8_within 7 = .ok (.if_icmp .gt 7, 3) := by decide +kernel
theorem dX8_within_10 : decode cX8_within 10 = .ok (.iconst 1, 1) := by decide +kernel
theorem dX8_within_11 : decode cX8_within 11 = .ok (.goto 4, 3) := by decide +kernel
theorem dX8_within_14 : decode cX8_within 14 = .ok (.iconst 0, 1) := by decide +kernel
theorem dX8_within_15 : decode cX8_within 15 = .ok (.ireturn, 1) := by decide +kernel
theorem dX8_letter_0 : decode cX8_letter 0 = .ok (.iload_n 1, 1) := by decide +kernel
theorem dX8_letter_1 : decode cX8_letter 1 = .ok (.bipush 32, 2) := by decide +kernel
theorem dX8_letter_3 : decode cX8_letter 3 = .ok (.bipush 126, 2) := by decide +kernel
theorem dX8_letter_5 : decode cX8_letter 5 = .ok (.invokestatic 86, 3) := by decide +kernel
theorem dX8_letter_8 : decode cX8_letter 8 = .ok (.ifCond .ne 6, 3) := by decide +kernel
theorem dX8_letter_11 : decode cX8_letter 11 = .ok (.bipush (-102), 2) := by decide +kernel
theorem dX8_letter_13 : decode cX8_letter 13 = .ok (.ireturn, 1) := by decide +kernel
theorem dX8_letter_14 : decode cX8_letter 14 = .ok (.aload_n 0, 1) := by decide +kernel
theorem dX8_letter_15 : decode cX8_letter 15 = .ok (.getfield 90, 3) := by decide +kernel
theorem dX8_letter_18 : decode cX8_letter 18 = .ok (.bipush 18, 2) := by decide +kernel
theorem dX8_letter_20 : decode cX8_letter 20 = .ok (.if_icmp .ne 6, 3) := by decide +kernel
theorem dX8_letter_23 : decode cX8_letter 23 = .ok (.bipush (-104), 2) := by decide +kernel
theorem dX8_letter_25 : decode cX8_letter 25 = .ok (.ireturn, 1) := by decide +kernel
theorem dX8_letter_26 : decode cX8_letter 26 = .ok (.aload_n 0, 1) := by decide +kernel
theorem dX8_letter_27 : decode cX8_letter 27 = .ok (.getfield 43, 3) := by decide +kernel
theorem dX8_letter_30 : decode cX8_letter 30 = .ok (.aload_n 0, 1) := by decide +kernel
theorem dX8_letter_31 : decode cX8_letter 31 = .ok (.getfield 90, 3) := by decide +kernel
theorem dX8_letter_34 : decode cX8_letter 34 = .ok (.iload_n 1, 1) := by decide +kernel
theorem dX8_letter_35 : decode cX8_letter 35 = .ok (.i2b, 1) := by decide +kernel
theorem dX8_letter_36 : decode cX8_letter 36 = .ok (.bastore, 1) := by decide +kernel
theorem dX8_letter_37 : decode cX8_letter 37 = .ok (.aload_n 0, 1) := by decide +kernel
theorem dX8_letter_38 : decode cX8_letter 38 = .ok (.dup, 1) := by decide +kernel
theorem dX8_letter_39 : decode cX8_letter 39 = .ok (.getfield 90, 3) := by decide +kernel
theorem dX8_letter_42 : decode cX8_letter 42 = .ok (.iconst 1, 1) := by decide +kernel
theorem dX8_letter_43 : decode cX8_letter 43 = .ok (.iadd, 1) := by decide +kernel
theorem dX8_letter_44 : decode cX8_letter 44 = .ok (.putfield 90, 3) := by decide +kernel
theorem dX8_letter_47 : decode cX8_letter 47 = .ok (.aload_n 0, 1) := by decide +kernel
theorem dX8_letter_48 : decode cX8_letter 48 = .ok (.getfield 90, 3) := by decide +kernel
theorem dX8_letter_51 : decode cX8_letter 51 = .ok (.ireturn, 1) := by decide +kernel
theorem dX8_blank_0 : decode cX8_blank 0 = .ok (.aload_n 0, 1) := by decide +kernel
theorem dX8_blank_1 : decode cX8_blank 1 = .ok (.getfield 90, 3) := by decide +kernel
theorem dX8_blank_4 : decode cX8_blank 4 = .ok (.istore_n 1, 1) := by decide +kernel
theorem dX8_blank_5 : decode cX8_blank 5 = .ok (.aload_n 0, 1) := by decide +kernel
theorem dX8_blank_6 : decode cX8_blank 6 = .ok (.iconst 0, 1) := by decide +kernel
theorem dX8_blank_7 : decode cX8_blank 7 = .ok (.putfield 90, 3) := by decide +kernel
theorem dX8_blank_10 : decode cX8_blank 10 = .ok (.iload_n 1, 1) := by decide +kernel
theorem dX8_blank_11 : decode cX8_blank 11 = .ok (.ireturn, 1) := by decide +kernel
theorem dX8_kindBy_0 : decode cX8_kindBy 0 = .ok (.iload_n 0, 1) := by decide +kernel
theorem dX8_kindBy_1 : decode cX8_kindBy 1 = .ok (.lookupswitch 61 #[(98, 53), (99, 57), (104, 59), (112, 51), (115, 55)], 51) := by decide +kernel
theorem dX8_kindBy_52 : decode cX8_kindBy 52 = .ok (.iconst 0, 1) := by decide +kernel
theorem dX8_kindBy_53 : decode cX8_kindBy 53 = .ok (.ireturn, 1) := by decide +kernel
theorem dX8_kindBy_54 : decode cX8_kindBy 54 = .ok (.iconst 1, 1) := by decide +kernel
theorem dX8_kindBy_55 : decode cX8_kindBy 55 = .ok (.ireturn, 1) := by decide +kernel
theorem dX8_kindBy_56 : decode cX8_kindBy 56 = .ok (.iconst 2, 1) := by decide +kernel
theorem dX8_kindBy_57 : decode cX8_kindBy 57 = .ok (.ireturn, 1) := by decide +kernel
theorem dX8_kindBy_58 : decode cX8_kindBy 58 = .ok (.iconst 3, 1) := by decide +kernel
theorem dX8_kindBy_59 : decode cX8_kindBy 59 = .ok (.ireturn, 1) := by decide +kernel
theorem dX8_kindBy_60 : decode cX8_kindBy 60 = .ok (.iconst 4, 1) := by decide +kernel
theorem dX8_kindBy_61 : decode cX8_kindBy 61 = .ok (.ireturn, 1) := by decide +kernel
theorem dX8_kindBy_62 : decode cX8_kindBy 62 = .ok (.iconst (-1), 1) := by decide +kernel
theorem dX8_kindBy_63 : decode cX8_kindBy 63 = .ok (.ireturn, 1) := by decide +kernel
theorem dX8_isFigure_0 : decode cX8_isFigure 0 = .ok (.iload_n 1, 1) := by decide +kernel
theorem dX8_isFigure_1 : decode cX8_isFigure 1 = .ok (.aload_n 0, 1) := by decide +kernel
theorem dX8_isFigure_2 : decode cX8_isFigure 2 = .ok (.getfield 90, 3) := by decide +kernel
theorem dX8_isFigure_5 : decode cX8_isFigure 5 = .ok (.if_icmp .ge 24, 3) := by decide +kernel
theorem dX8_isFigure_8 : decode cX8_isFigure 8 = .ok (.aload_n 0, 1) := by decide +kernel
theorem dX8_isFigure_9 : decode cX8_isFigure 9 = .ok (.getfield 43, 3) := by decide +kernel
theorem dX8_isFigure_12 : decode cX8_isFigure 12 = .ok (.iload_n 1, 1) := by decide +kernel
theorem dX8_isFigure_13 : decode cX8_isFigure 13 = .ok (.baload, 1) := by decide +kernel
theorem dX8_isFigure_14 : decode cX8_isFigure 14 = .ok (.bipush 48, 2) := by decide +kernel
theorem dX8_isFigure_16 : decode cX8_isFigure 16 = .ok (.isub, 1) := by decide +kernel
theorem dX8_isFigure_17 : decode cX8_isFigure 17 = .ok (.iload_n 2, 1) := by decide +kernel
theorem dX8_isFigure_18 : decode cX8_isFigure 18 = .ok (.iload_n 3, 1) := by decide +kernel
theorem dX8_isFigure_19 : decode cX8_isFigure 19 = .ok (.invokestatic 86, 3) := by decide +kernel
theorem dX8_isFigure_22 : decode cX8_isFigure 22 = .ok (.ifCond .eq 7, 3) := by decide +kernel
theorem dX8_isFigure_25 : decode cX8_isFigure 25 = .ok (.iconst 1, 1) := by decide +kernel
theorem dX8_isFigure_26 : decode cX8_isFigure 26 = .ok (.goto 4, 3) := by decide +kernel
theorem dX8_isFigure_29 : decode cX8_isFigure 29 = .ok (.iconst 0, 1) := by decide +kernel
theorem dX8_isFigure_30 : decode cX8_isFigure 30 = .ok (.ireturn, 1) := by decide +kernel
theorem dX8_isSign_0 : decode cX8_isSign 0 = .ok (.iload_n 1, 1) := by decide +kernel
theorem dX8_isSign_1 : decode cX8_isSign 1 = .ok (.aload_n 0, 1) := by decide +kernel
theorem dX8_isSign_2 : decode cX8_isSign 2 = .ok (.getfield 90, 3) := by decide +kernel
theorem dX8_isSign_5 : decode cX8_isSign 5 = .ok (.if_icmp .ge 17, 3) := by decide +kernel
theorem dX8_isSign_8 : decode cX8_isSign 8 = .ok (.aload_n 0, 1) := by decide +kernel
theorem dX8_isSign_9 : decode cX8_isSign 9 = .ok (.getfield 43, 3) := by decide +kernel
theorem dX8_isSign_12 : decode cX8_isSign 12 = .ok (.iload_n 1, 1) := by decide +kernel
theorem dX8_isSign_13 : decode cX8_isSign 13 = .ok (.baload, 1) := by decide +kernel
theorem dX8_isSign_14 : decode cX8_isSign 14 = .ok (.iload_n 2, 1) := by decide +kernel
theorem dX8_isSign_15 : decode cX8_isSign 15 = .ok (.if_icmp .ne 7, 3) := by decide +kernel
theorem dX8_isSign_18 : decode cX8_isSign 18 = .ok (.iconst 1, 1) := by decide +kernel
theorem dX8_isSign_19 : decode cX8_isSign 19 = .ok (.goto 4, 3) := by decide +kernel
theorem dX8_isSign_22 : decode cX8_isSign 22 = .ok (.iconst 0, 1) := by decide +kernel
theorem dX8_isSign_23 : decode cX8_isSign 23 = .ok (.ireturn, 1) := by decide +kernel
theorem dX8_read_0 : decode cX8_read 0 = .ok (.aload_n 0, 1) := by decide +kernel
theorem dX8_read_1 : decode cX8_read 1 = .ok (.iconst 0, 1) := by decide +kernel
theorem dX8_read_2 : decode cX8_read 2 = .ok (.putfield 94, 3) := by decide +kernel
theorem dX8_read_5 : decode cX8_read 5 = .ok (.aload_n 0, 1) := by decide +kernel
theorem dX8_read_6 : decode cX8_read 6 = .ok (.iconst 0, 1) := by decide +kernel
theorem dX8_read_7 : decode cX8_read 7 = .ok (.putfield 97, 3) := by decide +kernel
theorem dX8_read_10 : decode cX8_read 10 = .ok (.iconst 0, 1) := by decide +kernel
theorem dX8_read_11 : decode cX8_read 11 = .ok (.istore_n 1, 1) := by decide +kernel
theorem dX8_read_12 : decode cX8_read 12 = .ok (.aload_n 0, 1) := by decide +kernel
theorem dX8_read_13 : decode cX8_read 13 = .ok (.getfield 94, 3) := by decide +kernel
theorem dX8_read_16 : decode cX8_read 16 = .ok (.iconst 5, 1) := by decide +kernel
theorem dX8_read_17 : decode cX8_read 17 = .ok (.if_icmp .ge 108, 3) := by decide +kernel
theorem dX8_read_20 : decode cX8_read 20 = .ok (.iload_n 1, 1) := by decide +kernel
theorem dX8_read_21 : decode cX8_read 21 = .ok (.aload_n 0, 1) := by decide +kernel
theorem dX8_read_22 : decode cX8_read 22 = .ok (.getfield 90, 3) := by decide +kernel
theorem dX8_read_25 : decode cX8_read 25 = .ok (.if_icmp .eq 16, 3) := by decide +kernel
theorem dX8_read_28 : decode cX8_read 28 = .ok (.aload_n 0, 1) := by decide +kernel
theorem dX8_read_29 : decode cX8_read 29 = .ok (.getfield 43, 3) := by decide +kernel
theorem dX8_read_32 : decode cX8_read 32 = .ok (.iload_n 1, 1) := by decide +kernel
theorem dX8_read_33 : decode cX8_read 33 = .ok (.baload, 1) := by decide +kernel
theorem dX8_read_34 : decode cX8_read 34 = .ok (.invokestatic 101, 3) := by decide +kernel
theorem dX8_read_37 : decode cX8_read 37 = .ok (.iconst (-1), 1) := by decide +kernel
theorem dX8_read_38 : decode cX8_read 38 = .ok (.if_icmp .ne 5, 3) := by decide +kernel
theorem dX8_read_41 : decode cX8_read 41 = .ok (.iload_n 1, 1) := by decide +kernel
theorem dX8_read_42 : decode cX8_read 42 = .ok (.ireturn, 1) := by decide +kernel
theorem dX8_read_43 : decode cX8_read 43 = .ok (.aload_n 0, 1) := by decide +kernel
theorem dX8_read_44 : decode cX8_read 44 = .ok (.iload_n 1, 1) := by decide +kernel
theorem dX8_read_45 : decode cX8_read 45 = .ok (.iconst 1, 1) := by decide +kernel
theorem dX8_read_46 : decode cX8_read 46 = .ok (.iadd, 1) := by decide +kernel
theorem dX8_read_47 : decode cX8_read 47 = .ok (.iconst 1, 1) := by decide +kernel
theorem dX8_read_48 : decode cX8_read 48 = .ok (.bipush 9, 2) := by decide +kernel
theorem dX8_read_50 : decode cX8_read 50 = .ok (.invokevirtual 105, 3) := by decide +kernel
theorem dX8_read_53 : decode cX8_read 53 = .ok (.ifCond .ne 7, 3) := by decide +kernel
theorem dX8_read_56 : decode cX8_read 56 = .ok (.iload_n 1, 1) := by decide +kernel
theorem dX8_read_57 : decode cX8_read 57 = .ok (.iconst 1, 1) := by decide +kernel
theorem dX8_read_58 : decode cX8_read 58 = .ok (.iadd, 1) := by decide +kernel
theorem dX8_read_59 : decode cX8_read 59 = .ok (.ireturn, 1) := by decide +kernel
theorem dX8_read_60 : decode cX8_read 60 = .ok (.aload_n 0, 1) := by decide +kernel
theorem dX8_read_61 : decode cX8_read 61 = .ok (.dup, 1) := by decide +kernel
theorem dX8_read_62 : decode cX8_read 62 = .ok (.getfield 94, 3) := by decide +kernel
theorem dX8_read_65 : decode cX8_read 65 = .ok (.iconst 1, 1) := by decide +kernel
theorem dX8_read_66 : decode cX8_read 66 = .ok (.iadd, 1) := by decide +kernel
theorem dX8_read_67 : decode cX8_read 67 = .ok (.putfield 94, 3) := by decide +kernel
theorem dX8_read_70 : decode cX8_read 70 = .ok (.iinc 1 2, 3) := by decide +kernel
theorem dX8_read_73 : decode cX8_read 73 = .ok (.aload_n 0, 1) := by decide +kernel
theorem dX8_read_74 : decode cX8_read 74 = .ok (.getfield 94, 3) := by decide +kernel
theorem dX8_read_77 : decode cX8_read 77 = .ok (.iconst 1, 1) := by decide +kernel
theorem dX8_read_78 : decode cX8_read 78 = .ok (.if_icmp .le 21, 3) := by decide +kernel
theorem dX8_read_81 : decode cX8_read 81 = .ok (.aload_n 0, 1) := by decide +kernel
theorem dX8_read_82 : decode cX8_read 82 = .ok (.iload_n 1, 1) := by decide +kernel
theorem dX8_read_83 : decode cX8_read 83 = .ok (.bipush 59, 2) := by decide +kernel
theorem dX8_read_85 : decode cX8_read 85 = .ok (.invokevirtual 108, 3) := by decide +kernel
theorem dX8_read_88 : decode cX8_read 88 = .ok (.ifCond .eq 11, 3) := by decide +kernel
theorem dX8_read_91 : decode cX8_read 91 = .ok (.aload_n 0, 1) := by decide +kernel
theorem dX8_read_92 : decode cX8_read 92 = .ok (.iload_n 1, 1) := by decide +kernel
theorem dX8_read_93 : decode cX8_read 93 = .ok (.iconst 1, 1) := by decide +kernel
theorem dX8_read_94 : decode cX8_read 94 = .ok (.iadd, 1) := by decide +kernel
theorem dX8_read_95 : decode cX8_read 95 = .ok (.invokevirtual 112, 3) := by decide +kernel
theorem dX8_read_98 : decode cX8_read 98 = .ok (.ireturn, 1) := by decide +kernel
theorem dX8_read_99 : decode cX8_read 99 = .ok (.aload_n 0, 1) := by decide +kernel
theorem dX8_read_100 : decode cX8_read 100 = .ok (.getfield 94, 3) := by decide +kernel
theorem dX8_read_103 : decode cX8_read 103 = .ok (.iconst 5, 1) := by decide +kernel
theorem dX8_read_104 : decode cX8_read 104 = .ok (.if_icmp .eq 13, 3) := by decide +kernel
theorem dX8_read_107 : decode cX8_read 107 = .ok (.aload_n 0, 1) := by decide +kernel
theorem dX8_read_108 : decode cX8_read 108 = .ok (.iload_n 1, 1) := by decide +kernel
theorem dX8_read_109 : decode cX8_read 109 = .ok (.bipush 44, 2) := by decide +kernel
theorem dX8_read_111 : decode cX8_read 111 = .ok (.invokevirtual 108, 3) := by decide +kernel
theorem dX8_read_114 : decode cX8_read 114 = .ok (.ifCond .ne 5, 3) := by decide +kernel
theorem dX8_read_117 : decode cX8_read 117 = .ok (.iload_n 1, 1) := by decide +kernel
theorem dX8_read_118 : decode cX8_read 118 = .ok (.ireturn, 1) := by decide +kernel
theorem dX8_read_119 : decode cX8_read 119 = .ok (.iinc 1 1, 3) := by decide +kernel
theorem dX8_read_122 : decode cX8_read 122 = .ok (.goto (-110), 3) := by decide +kernel
theorem dX8_read_125 : decode cX8_read 125 = .ok (.iload_n 1, 1) := by decide +kernel
theorem dX8_read_126 : decode cX8_read 126 = .ok (.ireturn, 1) := by decide +kernel
theorem dX8_readFade_0 : decode cX8_readFade 0 = .ok (.aload_n 0, 1) := by decide +kernel
theorem dX8_readFade_1 : decode cX8_readFade 1 = .ok (.iload_n 1, 1) := by decide +kernel
theorem dX8_readFade_2 : decode cX8_readFade 2 = .ok (.iconst 0, 1) := by decide +kernel
theorem dX8_readFade_3 : decode cX8_readFade 3 = .ok (.iconst 3, 1) := by decide +kernel
theorem dX8_readFade_4 : decode cX8_readFade 4 = .ok (.invokevirtual 105, 3) := by decide +kernel
theorem dX8_readFade_7 : decode cX8_readFade 7 = .ok (.ifCond .ne 5, 3) := by decide +kernel
theorem dX8_readFade_10 : decode cX8_readFade 10 = .ok (.iload_n 1, 1) := by decide +kernel
theorem dX8_readFade_11 : decode cX8_readFade 11 = .ok (.ireturn, 1) := by decide +kernel
theorem dX8_readFade_12 : decode cX8_readFade 12 = .ok (.aload_n 0, 1) := by decide +kernel
theorem dX8_readFade_13 : decode cX8_readFade 13 = .ok (.iload_n 1, 1) := by decide +kernel
theorem dX8_readFade_14 : decode cX8_readFade 14 = .ok (.iconst 1, 1) := by decide +kernel
theorem dX8_readFade_15 : decode cX8_readFade 15 = .ok (.iadd, 1) := by decide +kernel
theorem dX8_readFade_16 : decode cX8_readFade 16 = .ok (.aload_n 0, 1) := by decide +kernel
theorem dX8_readFade_17 : decode cX8_readFade 17 = .ok (.getfield 90, 3) := by decide +kernel
theorem dX8_readFade_20 : decode cX8_readFade 20 = .ok (.if_icmp .ne 7, 3) := by decide +kernel
theorem dX8_readFade_23 : decode cX8_readFade 23 = .ok (.iconst 1, 1) := by decide +kernel
theorem dX8_readFade_24 : decode cX8_readFade 24 = .ok (.goto 4, 3) := by decide +kernel
theorem dX8_readFade_27 : decode cX8_readFade 27 = .ok (.iconst 0, 1) := by decide +kernel
theorem dX8_readFade_28 : decode cX8_readFade 28 = .ok (.putfield 97, 3) := by decide +kernel
theorem dX8_readFade_31 : decode cX8_readFade 31 = .ok (.iload_n 1, 1) := by decide +kernel
theorem dX8_readFade_32 : decode cX8_readFade 32 = .ok (.iconst 1, 1) := by decide +kernel
theorem dX8_readFade_33 : decode cX8_readFade 33 = .ok (.iadd, 1) := by decide +kernel
theorem dX8_readFade_34 : decode cX8_readFade 34 = .ok (.ireturn, 1) := by decide +kernel
theorem dX8_fault_0 : decode cX8_fault 0 = .ok (.aload_n 0, 1) := by decide +kernel
theorem dX8_fault_1 : decode cX8_fault 1 = .ok (.invokevirtual 115, 3) := by decide +kernel
theorem dX8_fault_4 : decode cX8_fault 4 = .ok (.ireturn, 1) := by decide +kernel
theorem dX8_garment_0 : decode cX8_garment 0 = .ok (.aload_n 0, 1) := by decide +kernel
theorem dX8_garment_1 : decode cX8_garment 1 = .ok (.invokevirtual 115, 3) := by decide +kernel
theorem dX8_garment_4 : decode cX8_garment 4 = .ok (.istore_n 1, 1) := by decide +kernel
theorem dX8_garment_5 : decode cX8_garment 5 = .ok (.aload_n 0, 1) := by decide +kernel
theorem dX8_garment_6 : decode cX8_garment 6 = .ok (.getfield 97, 3) := by decide +kernel
theorem dX8_garment_9 : decode cX8_garment 9 = .ok (.ifCond .ne 6, 3) := by decide +kernel
theorem dX8_garment_12 : decode cX8_garment 12 = .ok (.bipush (-103), 2) := by decide +kernel
theorem dX8_garment_14 : decode cX8_garment 14 = .ok (.ireturn, 1) := by decide +kernel
theorem dX8_garment_15 : decode cX8_garment 15 = .ok (.aload_n 0, 1) := by decide +kernel
theorem dX8_garment_16 : decode cX8_garment 16 = .ok (.aload_n 0, 1) := by decide +kernel
theorem dX8_garment_17 : decode cX8_garment 17 = .ok (.getfield 94, 3) := by decide +kernel
theorem dX8_garment_20 : decode cX8_garment 20 = .ok (.putfield 119, 3) := by decide +kernel
theorem dX8_garment_23 : decode cX8_garment 23 = .ok (.aload_n 0, 1) := by decide +kernel
theorem dX8_garment_24 : decode cX8_garment 24 = .ok (.aload_n 0, 1) := by decide +kernel
theorem dX8_garment_25 : decode cX8_garment 25 = .ok (.getfield 43, 3) := by decide +kernel
theorem dX8_garment_28 : decode cX8_garment 28 = .ok (.iload_n 1, 1) := by decide +kernel
theorem dX8_garment_29 : decode cX8_garment 29 = .ok (.iconst 1, 1) := by decide +kernel
theorem dX8_garment_30 : decode cX8_garment 30 = .ok (.isub, 1) := by decide +kernel
theorem dX8_garment_31 : decode cX8_garment 31 = .ok (.baload, 1) := by decide +kernel
theorem dX8_garment_32 : decode cX8_garment 32 = .ok (.bipush 48, 2) := by decide +kernel
theorem dX8_garment_34 : decode cX8_garment 34 = .ok (.isub, 1) := by decide +kernel
theorem dX8_garment_35 : decode cX8_garment 35 = .ok (.putfield 122, 3) := by decide +kernel
theorem dX8_garment_38 : decode cX8_garment 38 = .ok (.iconst 0, 1) := by decide +kernel
theorem dX8_garment_39 : decode cX8_garment 39 = .ok (.istore_n 2, 1) := by decide +kernel
theorem dX8_garment_40 : decode cX8_garment 40 = .ok (.iload_n 2, 1) := by decide +kernel
theorem dX8_garment_41 : decode cX8_garment 41 = .ok (.aload_n 0, 1) := by decide +kernel
theorem dX8_garment_42 : decode cX8_garment 42 = .ok (.getfield 119, 3) := by decide +kernel
theorem dX8_garment_45 : decode cX8_garment 45 = .ok (.if_icmp .ge 57, 3) := by decide +kernel
theorem dX8_garment_48 : decode cX8_garment 48 = .ok (.aload_n 0, 1) := by decide +kernel
theorem dX8_garment_49 : decode cX8_garment 49 = .ok (.getfield 7, 3) := by decide +kernel
theorem dX8_garment_52 : decode cX8_garment 52 = .ok (.iload_n 2, 1) := by decide +kernel
theorem dX8_garment_53 : decode cX8_garment 53 = .ok (.aload_n 0, 1) := by decide +kernel
theorem dX8_garment_54 : decode cX8_garment 54 = .ok (.getfield 43, 3) := by decide +kernel
theorem dX8_garment_57 : decode cX8_garment 57 = .ok (.iconst 3, 1) := by decide +kernel
theorem dX8_garment_58 : decode cX8_garment 58 = .ok (.iload_n 2, 1) := by decide +kernel
theorem dX8_garment_59 : decode cX8_garment 59 = .ok (.imul, 1) := by decide +kernel
theorem dX8_garment_60 : decode cX8_garment 60 = .ok (.baload, 1) := by decide +kernel
theorem dX8_garment_61 : decode cX8_garment 61 = .ok (.invokestatic 101, 3) := by decide +kernel
theorem dX8_garment_64 : decode cX8_garment 64 = .ok (.iastore, 1) := by decide +kernel
theorem dX8_garment_65 : decode cX8_garment 65 = .ok (.aload_n 0, 1) := by decide +kernel
theorem dX8_garment_66 : decode cX8_garment 66 = .ok (.getfield 13, 3) := by decide +kernel
theorem dX8_garment_69 : decode cX8_garment 69 = .ok (.iload_n 2, 1) := by decide +kernel
theorem dX8_garment_70 : decode cX8_garment 70 = .ok (.aload_n 0, 1) := by decide +kernel
theorem dX8_garment_71 : decode cX8_garment 71 = .ok (.getfield 43, 3) := by decide +kernel
theorem dX8_garment_74 : decode cX8_garment 74 = .ok (.iconst 3, 1) := by decide +kernel
theorem dX8_garment_75 : decode cX8_garment 75 = .ok (.iload_n 2, 1) := by decide +kernel
theorem dX8_garment_76 : decode cX8_garment 76 = .ok (.imul, 1) := by decide +kernel
theorem dX8_garment_77 : decode cX8_garment 77 = .ok (.iconst 1, 1) := by decide +kernel
theorem dX8_garment_78 : decode cX8_garment 78 = .ok (.iadd, 1) := by decide +kernel
theorem dX8_garment_79 : decode cX8_garment 79 = .ok (.baload, 1) := by decide +kernel
theorem dX8_garment_80 : decode cX8_garment 80 = .ok (.bipush 48, 2) := by decide +kernel
theorem dX8_garment_82 : decode cX8_garment 82 = .ok (.isub, 1) := by decide +kernel
theorem dX8_garment_83 : decode cX8_garment 83 = .ok (.iastore, 1) := by decide +kernel
theorem dX8_garment_84 : decode cX8_garment 84 = .ok (.aload_n 0, 1) := by decide +kernel
theorem dX8_garment_85 : decode cX8_garment 85 = .ok (.getfield 31, 3) := by decide +kernel
theorem dX8_garment_88 : decode cX8_garment 88 = .ok (.iload_n 2, 1) := by decide +kernel
theorem dX8_garment_89 : decode cX8_garment 89 = .ok (.iconst (-1), 1) := by decide +kernel
theorem dX8_garment_90 : decode cX8_garment 90 = .ok (.iastore, 1) := by decide +kernel
theorem dX8_garment_91 : decode cX8_garment 91 = .ok (.aload_n 0, 1) := by decide +kernel
theorem dX8_garment_92 : decode cX8_garment 92 = .ok (.iload_n 2, 1) := by decide +kernel
theorem dX8_garment_93 : decode cX8_garment 93 = .ok (.invokevirtual 125, 3) := by decide +kernel
theorem dX8_garment_96 : decode cX8_garment 96 = .ok (.iinc 2 1, 3) := by decide +kernel
theorem dX8_garment_99 : decode cX8_garment 99 = .ok (.goto (-59), 3) := by decide +kernel
theorem dX8_garment_102 : decode cX8_garment 102 = .ok (.aload_n 0, 1) := by decide +kernel
theorem dX8_garment_103 : decode cX8_garment 103 = .ok (.dup, 1) := by decide +kernel
theorem dX8_garment_104 : decode cX8_garment 104 = .ok (.getfield 129, 3) := by decide +kernel
theorem dX8_garment_107 : decode cX8_garment 107 = .ok (.iconst 1, 1) := by decide +kernel
theorem dX8_garment_108 : decode cX8_garment 108 = .ok (.iadd, 1) := by decide +kernel
theorem dX8_garment_109 : decode cX8_garment 109 = .ok (.putfield 129, 3) := by decide +kernel
theorem dX8_garment_112 : decode cX8_garment 112 = .ok (.aload_n 0, 1) := by decide +kernel
theorem dX8_garment_113 : decode cX8_garment 113 = .ok (.iconst 0, 1) := by decide +kernel
theorem dX8_garment_114 : decode cX8_garment 114 = .ok (.putfield 132, 3) := by decide +kernel
theorem dX8_garment_117 : decode cX8_garment 117 = .ok (.aload_n 0, 1) := by decide +kernel
theorem dX8_garment_118 : decode cX8_garment 118 = .ok (.iconst 0, 1) := by decide +kernel
theorem dX8_garment_119 : decode cX8_garment 119 = .ok (.putfield 90, 3) := by decide +kernel
theorem dX8_garment_122 : decode cX8_garment 122 = .ok (.aload_n 0, 1) := by decide +kernel
theorem dX8_garment_123 : decode cX8_garment 123 = .ok (.getfield 119, 3) := by decide +kernel
theorem dX8_garment_126 : decode cX8_garment 126 = .ok (.ireturn, 1) := by decide +kernel
theorem dX8_clear_0 : decode cX8_clear 0 = .ok (.aload_n 0, 1) := by decide +kernel
theorem dX8_clear_1 : decode cX8_clear 1 = .ok (.getfield 16, 3) := by decide +kernel
theorem dX8_clear_4 : decode cX8_clear 4 = .ok (.iload_n 1, 1) := by decide +kernel
theorem dX8_clear_5 : decode cX8_clear 5 = .ok (.iconst (-1), 1) := by decide +kernel
theorem dX8_clear_6 : decode cX8_clear 6 = .ok (.iastore, 1) := by decide +kernel
theorem dX8_clear_7 : decode cX8_clear 7 = .ok (.aload_n 0, 1) := by decide +kernel
theorem dX8_clear_8 : decode cX8_clear 8 = .ok (.getfield 19, 3) := by decide +kernel
theorem dX8_clear_11 : decode cX8_clear 11 = .ok (.iload_n 1, 1) := by decide +kernel
theorem dX8_clear_12 : decode cX8_clear 12 = .ok (.iconst (-1), 1) := by decide +kernel
theorem dX8_clear_13 : decode cX8_clear 13 = .ok (.iastore, 1) := by decide +kernel
theorem dX8_clear_14 : decode cX8_clear 14 = .ok (.aload_n 0, 1) := by decide +kernel
theorem dX8_clear_15 : decode cX8_clear 15 = .ok (.getfield 22, 3) := by decide +kernel
theorem dX8_clear_18 : decode cX8_clear 18 = .ok (.iload_n 1, 1) := by decide +kernel
theorem dX8_clear_19 : decode cX8_clear 19 = .ok (.iconst 0, 1) := by decide +kernel
theorem dX8_clear_20 : decode cX8_clear 20 = .ok (.iastore, 1) := by decide +kernel
theorem dX8_clear_21 : decode cX8_clear 21 = .ok (.aload_n 0, 1) := by decide +kernel
theorem dX8_clear_22 : decode cX8_clear 22 = .ok (.getfield 25, 3) := by decide +kernel
theorem dX8_clear_25 : decode cX8_clear 25 = .ok (.iload_n 1, 1) := by decide +kernel
theorem dX8_clear_26 : decode cX8_clear 26 = .ok (.iconst 0, 1) := by decide +kernel
theorem dX8_clear_27 : decode cX8_clear 27 = .ok (.iastore, 1) := by decide +kernel
theorem dX8_clear_28 : decode cX8_clear 28 = .ok (.aload_n 0, 1) := by decide +kernel
theorem dX8_clear_29 : decode cX8_clear 29 = .ok (.getfield 28, 3) := by decide +kernel
theorem dX8_clear_32 : decode cX8_clear 32 = .ok (.iload_n 1, 1) := by decide +kernel
theorem dX8_clear_33 : decode cX8_clear 33 = .ok (.iconst (-1), 1) := by decide +kernel
theorem dX8_clear_34 : decode cX8_clear 34 = .ok (.iastore, 1) := by decide +kernel
theorem dX8_clear_35 : decode cX8_clear 35 = .ok (.return_, 1) := by decide +kernel
theorem dX8_isPart_0 : decode cX8_isPart 0 = .ok (.iload_n 1, 1) := by decide +kernel
theorem dX8_isPart_1 : decode cX8_isPart 1 = .ok (.iconst 0, 1) := by decide +kernel
theorem dX8_isPart_2 : decode cX8_isPart 2 = .ok (.aload_n 0, 1) := by decide +kernel
theorem dX8_isPart_3 : decode cX8_isPart 3 = .ok (.getfield 119, 3) := by decide +kernel
theorem dX8_isPart_6 : decode cX8_isPart 6 = .ok (.iconst 1, 1) := by decide +kernel
theorem dX8_isPart_7 : decode cX8_isPart 7 = .ok (.isub, 1) := by decide +kernel
theorem dX8_isPart_8 : decode cX8_isPart 8 = .ok (.invokestatic 86, 3) := by decide +kernel
theorem dX8_isPart_11 : decode cX8_isPart 11 = .ok (.ireturn, 1) := by decide +kernel
theorem dX8_isLot_0 : decode cX8_isLot 0 = .ok (.iload_n 1, 1) := by decide +kernel
theorem dX8_isLot_1 : decode cX8_isLot 1 = .ok (.iconst 0, 1) := by decide +kernel
theorem dX8_isLot_2 : decode cX8_isLot 2 = .ok (.aload_n 0, 1) := by decide +kernel
theorem dX8_isLot_3 : decode cX8_isLot 3 = .ok (.getfield 132, 3) := by decide +kernel
theorem dX8_isLot_6 : decode cX8_isLot 6 = .ok (.iconst 1, 1) := by decide +kernel
theorem dX8_isLot_7 : decode cX8_isLot 7 = .ok (.isub, 1) := by decide +kernel
theorem dX8_isLot_8 : decode cX8_isLot 8 = .ok (.invokestatic 86, 3) := by decide +kernel
theorem dX8_isLot_11 : decode cX8_isLot 11 = .ok (.ireturn, 1) := by decide +kernel
theorem dX8_lightOf_0 : decode cX8_lightOf 0 = .ok (.iload_n 0, 1) := by decide +kernel
theorem dX8_lightOf_1 : decode cX8_lightOf 1 = .ok (.tableswitch 39 1 4 #[31, 33, 35, 37], 31) := by decide +kernel
theorem dX8_lightOf_32 : decode cX8_lightOf 32 = .ok (.iconst 4, 1) := by decide +kernel
theorem dX8_lightOf_33 : decode cX8_lightOf 33 = .ok (.ireturn, 1) := by decide +kernel
theorem dX8_lightOf_34 : decode cX8_lightOf 34 = .ok (.iconst 3, 1) := by decide +kernel
theorem dX8_lightOf_35 : decode cX8_lightOf 35 = .ok (.ireturn, 1) := by decide +kernel
theorem dX8_lightOf_36 : decode cX8_lightOf 36 = .ok (.iconst 1, 1) := by decide +kernel
theorem dX8_lightOf_37 : decode cX8_lightOf 37 = .ok (.ireturn, 1) := by decide +kernel
theorem dX8_lightOf_38 : decode cX8_lightOf 38 = .ok (.iconst 0, 1) := by decide +kernel
theorem dX8_lightOf_39 : decode cX8_lightOf 39 = .ok (.ireturn, 1) := by decide +kernel
theorem dX8_lightOf_40 : decode cX8_lightOf 40 = .ok (.iconst 2, 1) := by decide +kernel
theorem dX8_lightOf_41 : decode cX8_lightOf 41 = .ok (.ireturn, 1) := by decide +kernel
theorem dX8_toneOf_0 : decode cX8_toneOf 0 = .ok (.aload_n 0, 1) := by decide +kernel
theorem dX8_toneOf_1 : decode cX8_toneOf 1 = .ok (.getfield 16, 3) := by decide +kernel
theorem dX8_toneOf_4 : decode cX8_toneOf 4 = .ok (.iload_n 1, 1) := by decide +kernel
theorem dX8_toneOf_5 : decode cX8_toneOf 5 = .ok (.iaload, 1) := by decide +kernel
theorem dX8_toneOf_6 : decode cX8_toneOf 6 = .ok (.iconst (-1), 1) := by decide +kernel
theorem dX8_toneOf_7 : decode cX8_toneOf 7 = .ok (.if_icmp .ne 5, 3) := by decide +kernel
theorem dX8_toneOf_10 : decode cX8_toneOf 10 = .ok (.iconst (-1), 1) := by decide +kernel
theorem dX8_toneOf_11 : decode cX8_toneOf 11 = .ok (.ireturn, 1) := by decide +kernel
theorem dX8_toneOf_12 : decode cX8_toneOf 12 = .ok (.aload_n 0, 1) := by decide +kernel
theorem dX8_toneOf_13 : decode cX8_toneOf 13 = .ok (.getfield 34, 3) := by decide +kernel
theorem dX8_toneOf_16 : decode cX8_toneOf 16 = .ok (.aload_n 0, 1) := by decide +kernel
theorem dX8_toneOf_17 : decode cX8_toneOf 17 = .ok (.getfield 16, 3) := by decide +kernel
theorem dX8_toneOf_20 : decode cX8_toneOf 20 = .ok (.iload_n 1, 1) := by decide +kernel
theorem dX8_toneOf_21 : decode cX8_toneOf 21 = .ok (.iaload, 1) := by decide +kernel
theorem dX8_toneOf_22 : decode cX8_toneOf 22 = .ok (.iaload, 1) := by decide +kernel
theorem dX8_toneOf_23 : decode cX8_toneOf 23 = .ok (.aload_n 0, 1) := by decide +kernel
theorem dX8_toneOf_24 : decode cX8_toneOf 24 = .ok (.getfield 34, 3) := by decide +kernel
theorem dX8_toneOf_27 : decode cX8_toneOf 27 = .ok (.aload_n 0, 1) := by decide +kernel
theorem dX8_toneOf_28 : decode cX8_toneOf 28 = .ok (.getfield 19, 3) := by decide +kernel
theorem dX8_toneOf_31 : decode cX8_toneOf 31 = .ok (.iload_n 1, 1) := by decide +kernel
theorem dX8_toneOf_32 : decode cX8_toneOf 32 = .ok (.iaload, 1) := by decide +kernel
theorem dX8_toneOf_33 : decode cX8_toneOf 33 = .ok (.iconst (-1), 1) := by decide +kernel
theorem dX8_toneOf_34 : decode cX8_toneOf 34 = .ok (.if_icmp .ne 12, 3) := by decide +kernel
theorem dX8_toneOf_37 : decode cX8_toneOf 37 = .ok (.aload_n 0, 1) := by decide +kernel
theorem dX8_toneOf_38 : decode cX8_toneOf 38 = .ok (.getfield 16, 3) := by decide +kernel
theorem dX8_toneOf_41 : decode cX8_toneOf 41 = .ok (.iload_n 1, 1) := by decide +kernel
theorem dX8_toneOf_42 : decode cX8_toneOf 42 = .ok (.iaload, 1) := by decide +kernel
theorem dX8_toneOf_43 : decode cX8_toneOf 43 = .ok (.goto 9, 3) := by decide +kernel
theorem dX8_toneOf_46 : decode cX8_toneOf 46 = .ok (.aload_n 0, 1) := by decide +kernel
theorem dX8_toneOf_47 : decode cX8_toneOf 47 = .ok (.getfield 19, 3) := by decide +kernel
theorem dX8_toneOf_50 : decode cX8_toneOf 50 = .ok (.iload_n 1, 1) := by decide +kernel
theorem dX8_toneOf_51 : decode cX8_toneOf 51 = .ok (.iaload, 1) := by decide +kernel
theorem dX8_toneOf_52 : decode cX8_toneOf 52 = .ok (.iaload, 1) := by decide +kernel
theorem dX8_toneOf_53 : decode cX8_toneOf 53 = .ok (.iadd, 1) := by decide +kernel
theorem dX8_toneOf_54 : decode cX8_toneOf 54 = .ok (.ireturn, 1) := by decide +kernel
theorem dX8_seenBy_0 : decode cX8_seenBy 0 = .ok (.iload_n 2, 1) := by decide +kernel
theorem dX8_seenBy_1 : decode cX8_seenBy 1 = .ok (.iload_n 3, 1) := by decide +kernel
theorem dX8_seenBy_2 : decode cX8_seenBy 2 = .ok (.if_icmp .le 9, 3) := by decide +kernel
theorem dX8_seenBy_5 : decode cX8_seenBy 5 = .ok (.iload_n 2, 1) := by decide +kernel
theorem dX8_seenBy_6 : decode cX8_seenBy 6 = .ok (.iload_n 3, 1) := by decide +kernel
theorem dX8_seenBy_7 : decode cX8_seenBy 7 = .ok (.isub, 1) := by decide +kernel
theorem dX8_seenBy_8 : decode cX8_seenBy 8 = .ok (.goto 6, 3) := by decide +kernel
theorem dX8_seenBy_11 : decode cX8_seenBy 11 = .ok (.iload_n 3, 1) := by decide +kernel
theorem dX8_seenBy_12 : decode cX8_seenBy 12 = .ok (.iload_n 2, 1) := by decide +kernel
theorem dX8_seenBy_13 : decode cX8_seenBy 13 = .ok (.isub, 1) := by decide +kernel
theorem dX8_seenBy_14 : decode cX8_seenBy 14 = .ok (.istore 4, 2) := by decide +kernel
theorem dX8_seenBy_16 : decode cX8_seenBy 16 = .ok (.aload_n 0, 1) := by decide +kernel
theorem dX8_seenBy_17 : decode cX8_seenBy 17 = .ok (.getfield 7, 3) := by decide +kernel
theorem dX8_seenBy_20 : decode cX8_seenBy 20 = .ok (.iload_n 1, 1) := by decide +kernel
theorem dX8_seenBy_21 : decode cX8_seenBy 21 = .ok (.iaload, 1) := by decide +kernel
theorem dX8_seenBy_22 : decode cX8_seenBy 22 = .ok (.invokestatic 135, 3) := by decide +kernel
theorem dX8_seenBy_25 : decode cX8_seenBy 25 = .ok (.istore 5, 2) := by decide +kernel
theorem dX8_seenBy_27 : decode cX8_seenBy 27 = .ok (.aload_n 0, 1) := by decide +kernel
theorem dX8_seenBy_28 : decode cX8_seenBy 28 = .ok (.getfield 7, 3) := by decide +kernel
theorem dX8_seenBy_31 : decode cX8_seenBy 31 = .ok (.iload_n 1, 1) := by decide +kernel
theorem dX8_seenBy_32 : decode cX8_seenBy 32 = .ok (.iconst 1, 1) := by decide +kernel
theorem dX8_seenBy_33 : decode cX8_seenBy 33 = .ok (.iadd, 1) := by decide +kernel
theorem dX8_seenBy_34 : decode cX8_seenBy 34 = .ok (.iaload, 1) := by decide +kernel
theorem dX8_seenBy_35 : decode cX8_seenBy 35 = .ok (.invokestatic 135, 3) := by decide +kernel
theorem dX8_seenBy_38 : decode cX8_seenBy 38 = .ok (.istore 6, 2) := by decide +kernel
theorem dX8_seenBy_40 : decode cX8_seenBy 40 = .ok (.iload 5, 2) := by decide +kernel
theorem dX8_seenBy_42 : decode cX8_seenBy 42 = .ok (.iload 6, 2) := by decide +kernel
theorem dX8_seenBy_44 : decode cX8_seenBy 44 = .ok (.if_icmp .ge 8, 3) := by decide +kernel
theorem dX8_seenBy_47 : decode cX8_seenBy 47 = .ok (.iload 5, 2) := by decide +kernel
theorem dX8_seenBy_49 : decode cX8_seenBy 49 = .ok (.goto 5, 3) := by decide +kernel
theorem dX8_seenBy_52 : decode cX8_seenBy 52 = .ok (.iload 6, 2) := by decide +kernel
theorem dX8_seenBy_54 : decode cX8_seenBy 54 = .ok (.istore 7, 2) := by decide +kernel
theorem dX8_seenBy_56 : decode cX8_seenBy 56 = .ok (.iload 4, 2) := by decide +kernel
theorem dX8_seenBy_58 : decode cX8_seenBy 58 = .ok (.iload 7, 2) := by decide +kernel
theorem dX8_seenBy_60 : decode cX8_seenBy 60 = .ok (.imul, 1) := by decide +kernel
theorem dX8_seenBy_61 : decode cX8_seenBy 61 = .ok (.aload_n 0, 1) := by decide +kernel
theorem dX8_seenBy_62 : decode cX8_seenBy 62 = .ok (.getfield 7, 3) := by decide +kernel
theorem dX8_seenBy_65 : decode cX8_seenBy 65 = .ok (.iload_n 1, 1) := by decide +kernel
theorem dX8_seenBy_66 : decode cX8_seenBy 66 = .ok (.iaload, 1) := by decide +kernel
theorem dX8_seenBy_67 : decode cX8_seenBy 67 = .ok (.iconst 2, 1) := by decide +kernel
theorem dX8_seenBy_68 : decode cX8_seenBy 68 = .ok (.if_icmp .ne 19, 3) := by decide +kernel
theorem dX8_seenBy_71 : decode cX8_seenBy 71 = .ok (.aload_n 0, 1) := by decide +kernel
theorem dX8_seenBy_72 : decode cX8_seenBy 72 = .ok (.getfield 7, 3) := by decide +kernel
theorem dX8_seenBy_75 : decode cX8_seenBy 75 = .ok (.iload_n 1, 1) := by decide +kernel
theorem dX8_seenBy_76 : decode cX8_seenBy 76 = .ok (.iconst 1, 1) := by decide +kernel
theorem dX8_seenBy_77 : decode cX8_seenBy 77 = .ok (.iadd, 1) := by decide +kernel
theorem dX8_seenBy_78 : decode cX8_seenBy 78 = .ok (.iaload, 1) := by decide +kernel
theorem dX8_seenBy_79 : decode cX8_seenBy 79 = .ok (.iconst 2, 1) := by decide +kernel
theorem dX8_seenBy_80 : decode cX8_seenBy 80 = .ok (.if_icmp .ne 7, 3) := by decide +kernel
theorem dX8_seenBy_83 : decode cX8_seenBy 83 = .ok (.iconst 2, 1) := by decide +kernel
theorem dX8_seenBy_84 : decode cX8_seenBy 84 = .ok (.goto 4, 3) := by decide +kernel
theorem dX8_seenBy_87 : decode cX8_seenBy 87 = .ok (.iconst 1, 1) := by decide +kernel
theorem dX8_seenBy_88 : decode cX8_seenBy 88 = .ok (.imul, 1) := by decide +kernel
theorem dX8_seenBy_89 : decode cX8_seenBy 89 = .ok (.ireturn, 1) := by decide +kernel
theorem dX8_seenAt_0 : decode cX8_seenAt 0 = .ok (.iload_n 1, 1) := by decide +kernel
theorem dX8_seenAt_1 : decode cX8_seenAt 1 = .ok (.aload_n 0, 1) := by decide +kernel
theorem dX8_seenAt_2 : decode cX8_seenAt 2 = .ok (.getfield 119, 3) := by decide +kernel
theorem dX8_seenAt_5 : decode cX8_seenAt 5 = .ok (.iconst 1, 1) := by decide +kernel
theorem dX8_seenAt_6 : decode cX8_seenAt 6 = .ok (.isub, 1) := by decide +kernel
theorem dX8_seenAt_7 : decode cX8_seenAt 7 = .ok (.if_icmp .ge 25, 3) := by decide +kernel
theorem dX8_seenAt_10 : decode cX8_seenAt 10 = .ok (.aload_n 0, 1) := by decide +kernel
theorem dX8_seenAt_11 : decode cX8_seenAt 11 = .ok (.getfield 16, 3) := by decide +kernel
theorem dX8_seenAt_14 : decode cX8_seenAt 14 = .ok (.iload_n 1, 1) := by decide +kernel
theorem dX8_seenAt_15 : decode cX8_seenAt 15 = .ok (.iaload, 1) := by decide +kernel
theorem dX8_seenAt_16 : decode cX8_seenAt 16 = .ok (.iconst (-1), 1) := by decide +kernel
theorem dX8_seenAt_17 : decode cX8_seenAt 17 = .ok (.if_icmp .eq 15, 3) := by decide +kernel
theorem dX8_seenAt_20 : decode cX8_seenAt 20 = .ok (.aload_n 0, 1) := by decide +kernel
theorem dX8_seenAt_21 : decode cX8_seenAt 21 = .ok (.getfield 16, 3) := by decide +kernel
theorem dX8_seenAt_24 : decode cX8_seenAt 24 = .ok (.iload_n 1, 1) := by decide +kernel
theorem dX8_seenAt_25 : decode cX8_seenAt 25 = .ok (.iconst 1, 1) := by decide +kernel
theorem dX8_seenAt_26 : decode cX8_seenAt 26 = .ok (.iadd, 1) := by decide +kernel
theorem dX8_seenAt_27 : decode cX8_seenAt 27 = .ok (.iaload, 1) := by decide +kernel
theorem dX8_seenAt_28 : decode cX8_seenAt 28 = .ok (.iconst (-1), 1) := by decide +kernel
theorem dX8_seenAt_29 : decode cX8_seenAt 29 = .ok (.if_icmp .ne 5, 3) := by decide +kernel
theorem dX8_seenAt_32 : decode cX8_seenAt 32 = .ok (.iconst 0, 1) := by decide +kernel
theorem dX8_seenAt_33 : decode cX8_seenAt 33 = .ok (.ireturn, 1) := by decide +kernel
theorem dX8_seenAt_34 : decode cX8_seenAt 34 = .ok (.aload_n 0, 1) := by decide +kernel
theorem dX8_seenAt_35 : decode cX8_seenAt 35 = .ok (.iload_n 1, 1) := by decide +kernel
theorem dX8_seenAt_36 : decode cX8_seenAt 36 = .ok (.aload_n 0, 1) := by decide +kernel
theorem dX8_seenAt_37 : decode cX8_seenAt 37 = .ok (.iload_n 1, 1) := by decide +kernel
theorem dX8_seenAt_38 : decode cX8_seenAt 38 = .ok (.invokevirtual 138, 3) := by decide +kernel
theorem dX8_seenAt_41 : decode cX8_seenAt 41 = .ok (.aload_n 0, 1) := by decide +kernel
theorem dX8_seenAt_42 : decode cX8_seenAt 42 = .ok (.iload_n 1, 1) := by decide +kernel
theorem dX8_seenAt_43 : decode cX8_seenAt 43 = .ok (.iconst 1, 1) := by decide +kernel
theorem dX8_seenAt_44 : decode cX8_seenAt 44 = .ok (.iadd, 1) := by decide +kernel
theorem dX8_seenAt_45 : decode cX8_seenAt 45 = .ok (.invokevirtual 138, 3) := by decide +kernel
theorem dX8_seenAt_48 : decode cX8_seenAt 48 = .ok (.invokevirtual 141, 3) := by decide +kernel
theorem dX8_seenAt_51 : decode cX8_seenAt 51 = .ok (.ireturn, 1) := by decide +kernel
theorem dX8_seenAll_0 : decode cX8_seenAll 0 = .ok (.iconst 0, 1) := by decide +kernel
theorem dX8_seenAll_1 : decode cX8_seenAll 1 = .ok (.istore_n 1, 1) := by decide +kernel
theorem dX8_seenAll_2 : decode cX8_seenAll 2 = .ok (.iconst 0, 1) := by decide +kernel
theorem dX8_seenAll_3 : decode cX8_seenAll 3 = .ok (.istore_n 2, 1) := by decide +kernel
theorem dX8_seenAll_4 : decode cX8_seenAll 4 = .ok (.iload_n 2, 1) := by decide +kernel
theorem dX8_seenAll_5 : decode cX8_seenAll 5 = .ok (.aload_n 0, 1) := by decide +kernel
theorem dX8_seenAll_6 : decode cX8_seenAll 6 = .ok (.getfield 119, 3) := by decide +kernel
theorem dX8_seenAll_9 : decode cX8_seenAll 9 = .ok (.if_icmp .ge 17, 3) := by decide +kernel
theorem dX8_seenAll_12 : decode cX8_seenAll 12 = .ok (.iload_n 1, 1) := by decide +kernel
theorem dX8_seenAll_13 : decode cX8_seenAll 13 = .ok (.aload_n 0, 1) := by decide +kernel
theorem dX8_seenAll_14 : decode cX8_seenAll 14 = .ok (.iload_n 2, 1) := by decide +kernel
theorem dX8_seenAll_15 : decode cX8_seenAll 15 = .ok (.invokevirtual 145, 3) := by decide +kernel
theorem dX8_seenAll_18 : decode cX8_seenAll 18 = .ok (.iadd, 1) := by decide +kernel
theorem dX8_seenAll_19 : decode cX8_seenAll 19 = .ok (.istore_n 1, 1) := by decide +kernel
theorem dX8_seenAll_20 : decode cX8_seenAll 20 = .ok (.iinc 2 1, 3) := by decide +kernel
theorem dX8_seenAll_23 : decode cX8_seenAll 23 = .ok (.goto (-19), 3) := by decide +kernel
theorem dX8_seenAll_26 : decode cX8_seenAll 26 = .ok (.iload_n 1, 1) := by decide +kernel
theorem dX8_seenAll_27 : decode cX8_seenAll 27 = .ok (.ireturn, 1) := by decide +kernel
theorem dX8_partNow_0 : decode cX8_partNow 0 = .ok (.iload_n 2, 1) := by decide +kernel
theorem dX8_partNow_1 : decode cX8_partNow 1 = .ok (.tableswitch 111 0 7 #[47, 54, 61, 71, 78, 85, 91, 97], 47) := by decide +kernel
theorem dX8_partNow_48 : decode cX8_partNow 48 = .ok (.aload_n 0, 1) := by decide +kernel
theorem dX8_partNow_49 : decode cX8_partNow 49 = .ok (.getfield 7, 3) := by decide +kernel
theorem dX8_partNow_52 : decode cX8_partNow 52 = .ok (.iload_n 1, 1) := by decide +kernel
theorem dX8_partNow_53 : decode cX8_partNow 53 = .ok (.iaload, 1) := by decide +kernel
theorem dX8_partNow_54 : decode cX8_partNow 54 = .ok (.ireturn, 1) := by decide +kernel
theorem dX8_partNow_55 : decode cX8_partNow 55 = .ok (.aload_n 0, 1) := by decide +kernel
theorem dX8_partNow_56 : decode cX8_partNow 56 = .ok (.getfield 13, 3) := by decide +kernel
theorem dX8_partNow_59 : decode cX8_partNow 59 = .ok (.iload_n 1, 1) := by decide +kernel
theorem dX8_partNow_60 : decode cX8_partNow 60 = .ok (.iaload, 1) := by decide +kernel
theorem dX8_partNow_61 : decode cX8_partNow 61 = .ok (.ireturn, 1) := by decide +kernel
theorem dX8_partNow_62 : decode cX8_partNow 62 = .ok (.aload_n 0, 1) := by decide +kernel
theorem dX8_partNow_63 : decode cX8_partNow 63 = .ok (.getfield 7, 3) := by decide +kernel
theorem dX8_partNow_66 : decode cX8_partNow 66 = .ok (.iload_n 1, 1) := by decide +kernel
theorem dX8_partNow_67 : decode cX8_partNow 67 = .ok (.iaload, 1) := by decide +kernel
theorem dX8_partNow_68 : decode cX8_partNow 68 = .ok (.invokestatic 135, 3) := by decide +kernel
theorem dX8_partNow_71 : decode cX8_partNow 71 = .ok (.ireturn, 1) := by decide +kernel
theorem dX8_partNow_72 : decode cX8_partNow 72 = .ok (.aload_n 0, 1) := by decide +kernel
theorem dX8_partNow_73 : decode cX8_partNow 73 = .ok (.getfield 16, 3) := by decide +kernel
theorem dX8_partNow_76 : decode cX8_partNow 76 = .ok (.iload_n 1, 1) := by decide +kernel
theorem dX8_partNow_77 : decode cX8_partNow 77 = .ok (.iaload, 1) := by decide +kernel
theorem dX8_partNow_78 : decode cX8_partNow 78 = .ok (.ireturn, 1) := by decide +kernel
theorem dX8_partNow_79 : decode cX8_partNow 79 = .ok (.aload_n 0, 1) := by decide +kernel
theorem dX8_partNow_80 : decode cX8_partNow 80 = .ok (.getfield 19, 3) := by decide +kernel
theorem dX8_partNow_83 : decode cX8_partNow 83 = .ok (.iload_n 1, 1) := by decide +kernel
theorem dX8_partNow_84 : decode cX8_partNow 84 = .ok (.iaload, 1) := by decide +kernel
theorem dX8_partNow_85 : decode cX8_partNow 85 = .ok (.ireturn, 1) := by decide +kernel
theorem dX8_partNow_86 : decode cX8_partNow 86 = .ok (.aload_n 0, 1) := by decide +kernel
theorem dX8_partNow_87 : decode cX8_partNow 87 = .ok (.iload_n 1, 1) := by decide +kernel
theorem dX8_partNow_88 : decode cX8_partNow 88 = .ok (.invokevirtual 138, 3) := by decide +kernel
theorem dX8_partNow_91 : decode cX8_partNow 91 = .ok (.ireturn, 1) := by decide +kernel
theorem dX8_partNow_92 : decode cX8_partNow 92 = .ok (.aload_n 0, 1) := by decide +kernel
theorem dX8_partNow_93 : decode cX8_partNow 93 = .ok (.iload_n 1, 1) := by decide +kernel
theorem dX8_partNow_94 : decode cX8_partNow 94 = .ok (.invokevirtual 145, 3) := by decide +kernel
theorem dX8_partNow_97 : decode cX8_partNow 97 = .ok (.ireturn, 1) := by decide +kernel
theorem dX8_partNow_98 : decode cX8_partNow 98 = .ok (.aload_n 0, 1) := by decide +kernel
theorem dX8_partNow_99 : decode cX8_partNow 99 = .ok (.getfield 22, 3) := by decide +kernel
theorem dX8_partNow_102 : decode cX8_partNow 102 = .ok (.iload_n 1, 1) := by decide +kernel
theorem dX8_partNow_103 : decode cX8_partNow 103 = .ok (.iaload, 1) := by decide +kernel
theorem dX8_partNow_104 : decode cX8_partNow 104 = .ok (.aload_n 0, 1) := by decide +kernel
theorem dX8_partNow_105 : decode cX8_partNow 105 = .ok (.getfield 25, 3) := by decide +kernel
theorem dX8_partNow_108 : decode cX8_partNow 108 = .ok (.iload_n 1, 1) := by decide +kernel
theorem dX8_partNow_109 : decode cX8_partNow 109 = .ok (.iaload, 1) := by decide +kernel
theorem dX8_partNow_110 : decode cX8_partNow 110 = .ok (.iadd, 1) := by decide +kernel
theorem dX8_partNow_111 : decode cX8_partNow 111 = .ok (.ireturn, 1) := by decide +kernel
theorem dX8_partNow_112 : decode cX8_partNow 112 = .ok (.aload_n 0, 1) := by decide +kernel
theorem dX8_partNow_113 : decode cX8_partNow 113 = .ok (.getfield 31, 3) := by decide +kernel
theorem dX8_partNow_116 : decode cX8_partNow 116 = .ok (.iload_n 1, 1) := by decide +kernel
theorem dX8_partNow_117 : decode cX8_partNow 117 = .ok (.iaload, 1) := by decide +kernel
theorem dX8_partNow_118 : decode cX8_partNow 118 = .ok (.ireturn, 1) := by decide +kernel
theorem dX8_about_0 : decode cX8_about 0 = .ok (.aload_n 0, 1) := by decide +kernel
theorem dX8_about_1 : decode cX8_about 1 = .ok (.iload_n 1, 1) := by decide +kernel
theorem dX8_about_2 : decode cX8_about 2 = .ok (.invokevirtual 148, 3) := by decide +kernel
theorem dX8_about_5 : decode cX8_about 5 = .ok (.ifCond .ne 8, 3) := by decide +kernel
theorem dX8_about_8 : decode cX8_about 8 = .ok (.bipush (-101), 2) := by decide +kernel
theorem dX8_about_10 : decode cX8_about 10 = .ok (.goto 24, 3) := by decide +kernel
theorem dX8_about_13 : decode cX8_about 13 = .ok (.iload_n 2, 1) := by decide +kernel
theorem dX8_about_14 : decode cX8_about 14 = .ok (.iconst 0, 1) := by decide +kernel
theorem dX8_about_15 : decode cX8_about 15 = .ok (.bipush 8, 2) := by decide +kernel
theorem dX8_about_17 : decode cX8_about 17 = .ok (.invokestatic 86, 3) := by decide +kernel
theorem dX8_about_20 : decode cX8_about 20 = .ok (.ifCond .eq 12, 3) := by decide +kernel
theorem dX8_about_23 : decode cX8_about 23 = .ok (.aload_n 0, 1) := by decide +kernel
theorem dX8_about_24 : decode cX8_about 24 = .ok (.iload_n 1, 1) := by decide +kernel
theorem dX8_about_25 : decode cX8_about 25 = .ok (.iload_n 2, 1) := by decide +kernel
theorem dX8_about_26 : decode cX8_about 26 = .ok (.invokevirtual 152, 3) := by decide +kernel
theorem dX8_about_29 : decode cX8_about 29 = .ok (.goto 5, 3) := by decide +kernel
theorem dX8_about_32 : decode cX8_about 32 = .ok (.bipush (-102), 2) := by decide +kernel
theorem dX8_about_34 : decode cX8_about 34 = .ok (.ireturn, 1) := by decide +kernel
theorem dX8_as_0 : decode cX8_as 0 = .ok (.aload_n 0, 1) := by decide +kernel
theorem dX8_as_1 : decode cX8_as 1 = .ok (.iload_n 1, 1) := by decide +kernel
theorem dX8_as_2 : decode cX8_as 2 = .ok (.invokevirtual 148, 3) := by decide +kernel
theorem dX8_as_5 : decode cX8_as 5 = .ok (.ifCond .ne 6, 3) := by decide +kernel
theorem dX8_as_8 : decode cX8_as 8 = .ok (.bipush (-101), 2) := by decide +kernel
theorem dX8_as_10 : decode cX8_as 10 = .ok (.ireturn, 1) := by decide +kernel
theorem dX8_as_11 : decode cX8_as 11 = .ok (.iload_n 2, 1) := by decide +kernel
theorem dX8_as_12 : decode cX8_as 12 = .ok (.iconst 0, 1) := by decide +kernel
theorem dX8_as_13 : decode cX8_as 13 = .ok (.iconst 4, 1) := by decide +kernel
theorem dX8_as_14 : decode cX8_as 14 = .ok (.invokestatic 86, 3) := by decide +kernel
theorem dX8_as_17 : decode cX8_as 17 = .ok (.ifCond .ne 6, 3) := by decide +kernel
theorem dX8_as_20 : decode cX8_as 20 = .ok (.bipush (-102), 2) := by decide +kernel
theorem dX8_as_22 : decode cX8_as 22 = .ok (.ireturn, 1) := by decide +kernel
theorem dX8_as_23 : decode cX8_as 23 = .ok (.aload_n 0, 1) := by decide +kernel
theorem dX8_as_24 : decode cX8_as 24 = .ok (.getfield 7, 3) := by decide +kernel
theorem dX8_as_27 : decode cX8_as 27 = .ok (.iload_n 1, 1) := by decide +kernel
theorem dX8_as_28 : decode cX8_as 28 = .ok (.iaload, 1) := by decide +kernel
theorem dX8_as_29 : decode cX8_as 29 = .ok (.istore_n 3, 1) := by decide +kernel
theorem dX8_as_30 : decode cX8_as 30 = .ok (.iload_n 2, 1) := by decide +kernel
theorem dX8_as_31 : decode cX8_as 31 = .ok (.ifCond .eq 18, 3) := by decide +kernel
theorem dX8_as_34 : decode cX8_as 34 = .ok (.iload_n 3, 1) := by decide +kernel
theorem dX8_as_35 : decode cX8_as 35 = .ok (.iload_n 2, 1) := by decide +kernel
theorem dX8_as_36 : decode cX8_as 36 = .ok (.if_icmp .eq 13, 3) := by decide +kernel
theorem dX8_as_39 : decode cX8_as 39 = .ok (.iload_n 2, 1) := by decide +kernel
theorem dX8_as_40 : decode cX8_as 40 = .ok (.iconst 3, 1) := by decide +kernel
theorem dX8_as_41 : decode cX8_as 41 = .ok (.if_icmp .ne 12, 3) := by decide +kernel
theorem dX8_as_44 : decode cX8_as 44 = .ok (.iload_n 3, 1) := by decide +kernel
theorem dX8_as_45 : decode cX8_as 45 = .ok (.iconst 4, 1) := by decide +kernel
theorem dX8_as_46 : decode cX8_as 46 = .ok (.if_icmp .ne 7, 3) := by decide +kernel
theorem dX8_as_49 : decode cX8_as 49 = .ok (.iload_n 1, 1) := by decide +kernel
theorem dX8_as_50 : decode cX8_as 50 = .ok (.goto 4, 3) := by decide +kernel
theorem dX8_as_53 : decode cX8_as 53 = .ok (.iconst (-1), 1) := by decide +kernel
theorem dX8_as_54 : decode cX8_as 54 = .ok (.ireturn, 1) := by decide +kernel
theorem dX8_lot_0 : decode cX8_lot 0 = .ok (.iload_n 1, 1) := by decide +kernel
theorem dX8_lot_1 : decode cX8_lot 1 = .ok (.iconst 0, 1) := by decide +kernel
theorem dX8_lot_2 : decode cX8_lot 2 = .ok (.bipush 20, 2) := by decide +kernel
theorem dX8_lot_4 : decode cX8_lot 4 = .ok (.invokestatic 86, 3) := by decide +kernel
theorem dX8_lot_7 : decode cX8_lot 7 = .ok (.ifCond .ne 6, 3) := by decide +kernel
theorem dX8_lot_10 : decode cX8_lot 10 = .ok (.bipush (-102), 2) := by decide +kernel
theorem dX8_lot_12 : decode cX8_lot 12 = .ok (.ireturn, 1) := by decide +kernel
theorem dX8_lot_13 : decode cX8_lot 13 = .ok (.aload_n 0, 1) := by decide +kernel
theorem dX8_lot_14 : decode cX8_lot 14 = .ok (.getfield 119, 3) := by decide +kernel
theorem dX8_lot_17 : decode cX8_lot 17 = .ok (.ifCond .ne 6, 3) := by decide +kernel
theorem dX8_lot_20 : decode cX8_lot 20 = .ok (.bipush (-103), 2) := by decide +kernel
theorem dX8_lot_22 : decode cX8_lot 22 = .ok (.ireturn, 1) := by decide +kernel
theorem dX8_lot_23 : decode cX8_lot 23 = .ok (.aload_n 0, 1) := by decide +kernel
theorem dX8_lot_24 : decode cX8_lot 24 = .ok (.getfield 132, 3) := by decide +kernel
theorem dX8_lot_27 : decode cX8_lot 27 = .ok (.iconst 3, 1) := by decide +kernel
theorem dX8_lot_28 : decode cX8_lot 28 = .ok (.if_icmp .ne 6, 3) := by decide +kernel
theorem dX8_lot_31 : decode cX8_lot 31 = .ok (.bipush (-104), 2) := by decide +kernel
theorem dX8_lot_33 : decode cX8_lot 33 = .ok (.ireturn, 1) := by decide +kernel
theorem dX8_lot_34 : decode cX8_lot 34 = .ok (.aload_n 0, 1) := by decide +kernel
theorem dX8_lot_35 : decode cX8_lot 35 = .ok (.getfield 34, 3) := by decide +kernel
theorem dX8_lot_38 : decode cX8_lot 38 = .ok (.aload_n 0, 1) := by decide +kernel
theorem dX8_lot_39 : decode cX8_lot 39 = .ok (.getfield 132, 3) := by decide +kernel
theorem dX8_lot_42 : decode cX8_lot 42 = .ok (.iload_n 1, 1) := by decide +kernel
theorem dX8_lot_43 : decode cX8_lot 43 = .ok (.iastore, 1) := by decide +kernel
theorem dX8_lot_44 : decode cX8_lot 44 = .ok (.aload_n 0, 1) := by decide +kernel
theorem dX8_lot_45 : decode cX8_lot 45 = .ok (.getfield 37, 3) := by decide +kernel
theorem dX8_lot_48 : decode cX8_lot 48 = .ok (.aload_n 0, 1) := by decide +kernel
theorem dX8_lot_49 : decode cX8_lot 49 = .ok (.getfield 132, 3) := by decide +kernel
theorem dX8_lot_52 : decode cX8_lot 52 = .ok (.iconst 0, 1) := by decide +kernel
theorem dX8_lot_53 : decode cX8_lot 53 = .ok (.iastore, 1) := by decide +kernel
theorem dX8_lot_54 : decode cX8_lot 54 = .ok (.aload_n 0, 1) := by decide +kernel
theorem dX8_lot_55 : decode cX8_lot 55 = .ok (.getfield 40, 3) := by decide +kernel
theorem dX8_lot_58 : decode cX8_lot 58 = .ok (.aload_n 0, 1) := by decide +kernel
theorem dX8_lot_59 : decode cX8_lot 59 = .ok (.getfield 132, 3) := by decide +kernel
theorem dX8_lot_62 : decode cX8_lot 62 = .ok (.iconst 0, 1) := by decide +kernel
theorem dX8_lot_63 : decode cX8_lot 63 = .ok (.iastore, 1) := by decide +kernel
theorem dX8_lot_64 : decode cX8_lot 64 = .ok (.aload_n 0, 1) := by decide +kernel
theorem dX8_lot_65 : decode cX8_lot 65 = .ok (.dup, 1) := by decide +kernel
theorem dX8_lot_66 : decode cX8_lot 66 = .ok (.getfield 132, 3) := by decide +kernel
theorem dX8_lot_69 : decode cX8_lot 69 = .ok (.iconst 1, 1) := by decide +kernel
theorem dX8_lot_70 : decode cX8_lot 70 = .ok (.iadd, 1) := by decide +kernel
theorem dX8_lot_71 : decode cX8_lot 71 = .ok (.putfield 132, 3) := by decide +kernel
theorem dX8_lot_74 : decode cX8_lot 74 = .ok (.aload_n 0, 1) := by decide +kernel
theorem dX8_lot_75 : decode cX8_lot 75 = .ok (.getfield 132, 3) := by decide +kernel
theorem dX8_lot_78 : decode cX8_lot 78 = .ok (.iconst 1, 1) := by decide +kernel
theorem dX8_lot_79 : decode cX8_lot 79 = .ok (.isub, 1) := by decide +kernel
theorem dX8_lot_80 : decode cX8_lot 80 = .ok (.ireturn, 1) := by decide +kernel
theorem dX8_lotNow_0 : decode cX8_lotNow 0 = .ok (.iload_n 2, 1) := by decide +kernel
theorem dX8_lotNow_1 : decode cX8_lotNow 1 = .ok (.ifCond .ne 12, 3) := by decide +kernel
theorem dX8_lotNow_4 : decode cX8_lotNow 4 = .ok (.aload_n 0, 1) := by decide +kernel
theorem dX8_lotNow_5 : decode cX8_lotNow 5 = .ok (.getfield 34, 3) := by decide +kernel
theorem dX8_lotNow_8 : decode cX8_lotNow 8 = .ok (.iload_n 1, 1) := by decide +kernel
theorem dX8_lotNow_9 : decode cX8_lotNow 9 = .ok (.iaload, 1) := by decide +kernel
theorem dX8_lotNow_10 : decode cX8_lotNow 10 = .ok (.goto 23, 3) := by decide +kernel
theorem dX8_lotNow_13 : decode cX8_lotNow 13 = .ok (.iload_n 2, 1) := by decide +kernel
theorem dX8_lotNow_14 : decode cX8_lotNow 14 = .ok (.iconst 1, 1) := by decide +kernel
theorem dX8_lotNow_15 : decode cX8_lotNow 15 = .ok (.if_icmp .ne 12, 3) := by decide +kernel
theorem dX8_lotNow_18 : decode cX8_lotNow 18 = .ok (.aload_n 0, 1) := by decide +kernel
theorem dX8_lotNow_19 : decode cX8_lotNow 19 = .ok (.getfield 37, 3) := by decide +kernel
theorem dX8_lotNow_22 : decode cX8_lotNow 22 = .ok (.iload_n 1, 1) := by decide +kernel
theorem dX8_lotNow_23 : decode cX8_lotNow 23 = .ok (.iaload, 1) := by decide +kernel
theorem dX8_lotNow_24 : decode cX8_lotNow 24 = .ok (.goto 9, 3) := by decide +kernel
theorem dX8_lotNow_27 : decode cX8_lotNow 27 = .ok (.aload_n 0, 1) := by decide +kernel
theorem dX8_lotNow_28 : decode cX8_lotNow 28 = .ok (.getfield 40, 3) := by decide +kernel
theorem dX8_lotNow_31 : decode cX8_lotNow 31 = .ok (.iload_n 1, 1) := by decide +kernel
theorem dX8_lotNow_32 : decode cX8_lotNow 32 = .ok (.iaload, 1) := by decide +kernel
theorem dX8_lotNow_33 : decode cX8_lotNow 33 = .ok (.ireturn, 1) := by decide +kernel
theorem dX8_lotOf_0 : decode cX8_lotOf 0 = .ok (.aload_n 0, 1) := by decide +kernel
theorem dX8_lotOf_1 : decode cX8_lotOf 1 = .ok (.iload_n 1, 1) := by decide +kernel
theorem dX8_lotOf_2 : decode cX8_lotOf 2 = .ok (.invokevirtual 156, 3) := by decide +kernel
theorem dX8_lotOf_5 : decode cX8_lotOf 5 = .ok (.ifCond .ne 8, 3) := by decide +kernel
theorem dX8_lotOf_8 : decode cX8_lotOf 8 = .ok (.bipush (-101), 2) := by decide +kernel
theorem dX8_lotOf_10 : decode cX8_lotOf 10 = .ok (.goto 23, 3) := by decide +kernel
theorem dX8_lotOf_13 : decode cX8_lotOf 13 = .ok (.iload_n 2, 1) := by decide +kernel
theorem dX8_lotOf_14 : decode cX8_lotOf 14 = .ok (.iconst 0, 1) := by decide +kernel
theorem dX8_lotOf_15 : decode cX8_lotOf 15 = .ok (.iconst 2, 1) := by decide +kernel
theorem dX8_lotOf_16 : decode cX8_lotOf 16 = .ok (.invokestatic 86, 3) := by decide +kernel
theorem dX8_lotOf_19 : decode cX8_lotOf 19 = .ok (.ifCond .eq 12, 3) := by decide +kernel
theorem dX8_lotOf_22 : decode cX8_lotOf 22 = .ok (.aload_n 0, 1) := by decide +kernel
theorem dX8_lotOf_23 : decode cX8_lotOf 23 = .ok (.iload_n 1, 1) := by decide +kernel
theorem dX8_lotOf_24 : decode cX8_lotOf 24 = .ok (.iload_n 2, 1) := by decide +kernel
theorem dX8_lotOf_25 : decode cX8_lotOf 25 = .ok (.invokevirtual 159, 3) := by decide +kernel
theorem dX8_lotOf_28 : decode cX8_lotOf 28 = .ok (.goto 5, 3) := by decide +kernel
theorem dX8_lotOf_31 : decode cX8_lotOf 31 = .ok (.bipush (-102), 2) := by decide +kernel
theorem dX8_lotOf_33 : decode cX8_lotOf 33 = .ok (.ireturn, 1) := by decide +kernel
theorem dX8_buy_0 : decode cX8_buy 0 = .ok (.aload_n 0, 1) := by decide +kernel
theorem dX8_buy_1 : decode cX8_buy 1 = .ok (.iload_n 1, 1) := by decide +kernel
theorem dX8_buy_2 : decode cX8_buy 2 = .ok (.invokevirtual 156, 3) := by decide +kernel
theorem dX8_buy_5 : decode cX8_buy 5 = .ok (.ifCond .ne 6, 3) := by decide +kernel
theorem dX8_buy_8 : decode cX8_buy 8 = .ok (.bipush (-101), 2) := by decide +kernel
theorem dX8_buy_10 : decode cX8_buy 10 = .ok (.ireturn, 1) := by decide +kernel
theorem dX8_buy_11 : decode cX8_buy 11 = .ok (.iload_n 2, 1) := by decide +kernel
theorem dX8_buy_12 : decode cX8_buy 12 = .ok (.iconst 1, 1) := by decide +kernel
theorem dX8_buy_13 : decode cX8_buy 13 = .ok (.bipush 9, 2) := by decide +kernel
theorem dX8_buy_15 : decode cX8_buy 15 = .ok (.invokestatic 86, 3) := by decide +kernel
theorem dX8_buy_18 : decode cX8_buy 18 = .ok (.ifCond .ne 6, 3) := by decide +kernel
theorem dX8_buy_21 : decode cX8_buy 21 = .ok (.bipush (-102), 2) := by decide +kernel
theorem dX8_buy_23 : decode cX8_buy 23 = .ok (.ireturn, 1) := by decide +kernel
theorem dX8_buy_24 : decode cX8_buy 24 = .ok (.aload_n 0, 1) := by decide +kernel
theorem dX8_buy_25 : decode cX8_buy 25 = .ok (.getfield 37, 3) := by decide +kernel
theorem dX8_buy_28 : decode cX8_buy 28 = .ok (.iload_n 1, 1) := by decide +kernel
theorem dX8_buy_29 : decode cX8_buy 29 = .ok (.iaload, 1) := by decide +kernel
theorem dX8_buy_30 : decode cX8_buy 30 = .ok (.iload_n 2, 1) := by decide +kernel
theorem dX8_buy_31 : decode cX8_buy 31 = .ok (.iadd, 1) := by decide +kernel
theorem dX8_buy_32 : decode cX8_buy 32 = .ok (.bipush 40, 2) := by decide +kernel
theorem dX8_buy_34 : decode cX8_buy 34 = .ok (.if_icmp .le 6, 3) := by decide +kernel
theorem dX8_buy_37 : decode cX8_buy 37 = .ok (.bipush (-104), 2) := by decide +kernel
theorem dX8_buy_39 : decode cX8_buy 39 = .ok (.ireturn, 1) := by decide +kernel
theorem dX8_buy_40 : decode cX8_buy 40 = .ok (.aload_n 0, 1) := by decide +kernel
theorem dX8_buy_41 : decode cX8_buy 41 = .ok (.getfield 37, 3) := by decide +kernel
theorem dX8_buy_44 : decode cX8_buy 44 = .ok (.iload_n 1, 1) := by decide +kernel
theorem dX8_buy_45 : decode cX8_buy 45 = .ok (.dup2, 1) := by decide +kernel
theorem dX8_buy_46 : decode cX8_buy 46 = .ok (.iaload, 1) := by decide +kernel
theorem dX8_buy_47 : decode cX8_buy 47 = .ok (.iload_n 2, 1) := by decide +kernel
theorem dX8_buy_48 : decode cX8_buy 48 = .ok (.iadd, 1) := by decide +kernel
theorem dX8_buy_49 : decode cX8_buy 49 = .ok (.iastore, 1) := by decide +kernel
theorem dX8_buy_50 : decode cX8_buy 50 = .ok (.aload_n 0, 1) := by decide +kernel
theorem dX8_buy_51 : decode cX8_buy 51 = .ok (.getfield 37, 3) := by decide +kernel
theorem dX8_buy_54 : decode cX8_buy 54 = .ok (.iload_n 1, 1) := by decide +kernel
theorem dX8_buy_55 : decode cX8_buy 55 = .ok (.iaload, 1) := by decide +kernel
theorem dX8_buy_56 : decode cX8_buy 56 = .ok (.ireturn, 1) := by decide +kernel
theorem dX8_back_0 : decode cX8_back 0 = .ok (.aload_n 0, 1) := by decide +kernel
theorem dX8_back_1 : decode cX8_back 1 = .ok (.iload_n 1, 1) := by decide +kernel
theorem dX8_back_2 : decode cX8_back 2 = .ok (.invokevirtual 156, 3) := by decide +kernel
theorem dX8_back_5 : decode cX8_back 5 = .ok (.ifCond .ne 6, 3) := by decide +kernel
theorem dX8_back_8 : decode cX8_back 8 = .ok (.bipush (-101), 2) := by decide +kernel
theorem dX8_back_10 : decode cX8_back 10 = .ok (.ireturn, 1) := by decide +kernel
theorem dX8_back_11 : decode cX8_back 11 = .ok (.iload_n 2, 1) := by decide +kernel
theorem dX8_back_12 : decode cX8_back 12 = .ok (.iconst 1, 1) := by decide +kernel
theorem dX8_back_13 : decode cX8_back 13 = .ok (.bipush 9, 2) := by decide +kernel
theorem dX8_back_15 : decode cX8_back 15 = .ok (.invokestatic 86, 3) := by decide +kernel
theorem dX8_back_18 : decode cX8_back 18 = .ok (.ifCond .ne 6, 3) := by decide +kernel
theorem dX8_back_21 : decode cX8_back 21 = .ok (.bipush (-102), 2) := by decide +kernel
theorem dX8_back_23 : decode cX8_back 23 = .ok (.ireturn, 1) := by decide +kernel
theorem dX8_back_24 : decode cX8_back 24 = .ok (.aload_n 0, 1) := by decide +kernel
theorem dX8_back_25 : decode cX8_back 25 = .ok (.getfield 37, 3) := by decide +kernel
theorem dX8_back_28 : decode cX8_back 28 = .ok (.iload_n 1, 1) := by decide +kernel
theorem dX8_back_29 : decode cX8_back 29 = .ok (.iaload, 1) := by decide +kernel
theorem dX8_back_30 : decode cX8_back 30 = .ok (.iload_n 2, 1) := by decide +kernel
theorem dX8_back_31 : decode cX8_back 31 = .ok (.if_icmp .ge 6, 3) := by decide +kernel
theorem dX8_back_34 : decode cX8_back 34 = .ok (.bipush (-103), 2) := by decide +kernel
theorem dX8_back_36 : decode cX8_back 36 = .ok (.ireturn, 1) := by decide +kernel
theorem dX8_back_37 : decode cX8_back 37 = .ok (.aload_n 0, 1) := by decide +kernel
theorem dX8_back_38 : decode cX8_back 38 = .ok (.getfield 37, 3) := by decide +kernel
theorem dX8_back_41 : decode cX8_back 41 = .ok (.iload_n 1, 1) := by decide +kernel
theorem dX8_back_42 : decode cX8_back 42 = .ok (.dup2, 1) := by decide +kernel
theorem dX8_back_43 : decode cX8_back 43 = .ok (.iaload, 1) := by decide +kernel
theorem dX8_back_44 : decode cX8_back 44 = .ok (.iload_n 2, 1) := by decide +kernel
theorem dX8_back_45 : decode cX8_back 45 = .ok (.isub, 1) := by decide +kernel
theorem dX8_back_46 : decode cX8_back 46 = .ok (.iastore, 1) := by decide +kernel
theorem dX8_back_47 : decode cX8_back 47 = .ok (.aload_n 0, 1) := by decide +kernel
theorem dX8_back_48 : decode cX8_back 48 = .ok (.getfield 37, 3) := by decide +kernel
theorem dX8_back_51 : decode cX8_back 51 = .ok (.iload_n 1, 1) := by decide +kernel
theorem dX8_back_52 : decode cX8_back 52 = .ok (.iaload, 1) := by decide +kernel
theorem dX8_back_53 : decode cX8_back 53 = .ok (.ireturn, 1) := by decide +kernel
theorem dX8_rowsIn_0 : decode cX8_rowsIn 0 = .ok (.aload_n 0, 1) := by decide +kernel
theorem dX8_rowsIn_1 : decode cX8_rowsIn 1 = .ok (.getfield 40, 3) := by decide +kernel
theorem dX8_rowsIn_4 : decode cX8_rowsIn 4 = .ok (.iload_n 1, 1) := by decide +kernel
theorem dX8_rowsIn_5 : decode cX8_rowsIn 5 = .ok (.iaload, 1) := by decide +kernel
theorem dX8_rowsIn_6 : decode cX8_rowsIn 6 = .ok (.iconst 4, 1) := by decide +kernel
theorem dX8_rowsIn_7 : decode cX8_rowsIn 7 = .ok (.aload_n 0, 1) := by decide +kernel
theorem dX8_rowsIn_8 : decode cX8_rowsIn 8 = .ok (.getfield 37, 3) := by decide +kernel
theorem dX8_rowsIn_11 : decode cX8_rowsIn 11 = .ok (.iload_n 1, 1) := by decide +kernel
theorem dX8_rowsIn_12 : decode cX8_rowsIn 12 = .ok (.iaload, 1) := by decide +kernel
theorem dX8_rowsIn_13 : decode cX8_rowsIn 13 = .ok (.imul, 1) := by decide +kernel
theorem dX8_rowsIn_14 : decode cX8_rowsIn 14 = .ok (.iadd, 1) := by decide +kernel
theorem dX8_rowsIn_15 : decode cX8_rowsIn 15 = .ok (.ireturn, 1) := by decide +kernel
theorem dX8_take_0 : decode cX8_take 0 = .ok (.aload_n 0, 1) := by decide +kernel
theorem dX8_take_1 : decode cX8_take 1 = .ok (.getfield 40, 3) := by decide +kernel
theorem dX8_take_4 : decode cX8_take 4 = .ok (.iload_n 1, 1) := by decide +kernel
theorem dX8_take_5 : decode cX8_take 5 = .ok (.iaload, 1) := by decide +kernel
theorem dX8_take_6 : decode cX8_take 6 = .ok (.iload_n 2, 1) := by decide +kernel
theorem dX8_take_7 : decode cX8_take 7 = .ok (.if_icmp .ge 26, 3) := by decide +kernel
theorem dX8_take_10 : decode cX8_take 10 = .ok (.aload_n 0, 1) := by decide +kernel
theorem dX8_take_11 : decode cX8_take 11 = .ok (.getfield 37, 3) := by decide +kernel
theorem dX8_take_14 : decode cX8_take 14 = .ok (.iload_n 1, 1) := by decide +kernel
theorem dX8_take_15 : decode cX8_take 15 = .ok (.dup2, 1) := by decide +kernel
theorem dX8_take_16 : decode cX8_take 16 = .ok (.iaload, 1) := by decide +kernel
theorem dX8_take_17 : decode cX8_take 17 = .ok (.iconst 1, 1) := by decide +kernel
theorem dX8_take_18 : decode cX8_take 18 = .ok (.isub, 1) := by decide +kernel
theorem dX8_take_19 : decode cX8_take 19 = .ok (.iastore, 1) := by decide +kernel
theorem dX8_take_20 : decode cX8_take 20 = .ok (.aload_n 0, 1) := by decide +kernel
theorem dX8_take_21 : decode cX8_take 21 = .ok (.getfield 40, 3) := by decide +kernel
theorem dX8_take_24 : decode cX8_take 24 = .ok (.iload_n 1, 1) := by decide +kernel
theorem dX8_take_25 : decode cX8_take 25 = .ok (.dup2, 1) := by decide +kernel
theorem dX8_take_26 : decode cX8_take 26 = .ok (.iaload, 1) := by decide +kernel
theorem dX8_take_27 : decode cX8_take 27 = .ok (.iconst 4, 1) := by decide +kernel
theorem dX8_take_28 : decode cX8_take 28 = .ok (.iadd, 1) := by decide +kernel
theorem dX8_take_29 : decode cX8_take 29 = .ok (.iastore, 1) := by decide +kernel
theorem dX8_take_30 : decode cX8_take 30 = .ok (.goto (-30), 3) := by decide +kernel
theorem dX8_take_33 : decode cX8_take 33 = .ok (.aload_n 0, 1) := by decide +kernel
theorem dX8_take_34 : decode cX8_take 34 = .ok (.getfield 40, 3) := by decide +kernel
theorem dX8_take_37 : decode cX8_take 37 = .ok (.iload_n 1, 1) := by decide +kernel
theorem dX8_take_38 : decode cX8_take 38 = .ok (.dup2, 1) := by decide +kernel
theorem dX8_take_39 : decode cX8_take 39 = .ok (.iaload, 1) := by decide +kernel
theorem dX8_take_40 : decode cX8_take 40 = .ok (.iload_n 2, 1) := by decide +kernel
theorem dX8_take_41 : decode cX8_take 41 = .ok (.isub, 1) := by decide +kernel
theorem dX8_take_42 : decode cX8_take 42 = .ok (.iastore, 1) := by decide +kernel
theorem dX8_take_43 : decode cX8_take 43 = .ok (.return_, 1) := by decide +kernel
theorem dX8_firstHalf_0 : decode cX8_firstHalf 0 = .ok (.iload_n 0, 1) := by decide +kernel
theorem dX8_firstHalf_1 : decode cX8_firstHalf 1 = .ok (.iconst 1, 1) := by decide +kernel
theorem dX8_firstHalf_2 : decode cX8_firstHalf 2 = .ok (.iadd, 1) := by decide +kernel
theorem dX8_firstHalf_3 : decode cX8_firstHalf 3 = .ok (.iconst 2, 1) := by decide +kernel
theorem dX8_firstHalf_4 : decode cX8_firstHalf 4 = .ok (.idiv, 1) := by decide +kernel
theorem dX8_firstHalf_5 : decode cX8_firstHalf 5 = .ok (.ireturn, 1) := by decide +kernel
theorem dX8_knit_0 : decode cX8_knit 0 = .ok (.aload_n 0, 1) := by decide +kernel
theorem dX8_knit_1 : decode cX8_knit 1 = .ok (.iload_n 1, 1) := by decide +kernel
theorem dX8_knit_2 : decode cX8_knit 2 = .ok (.invokevirtual 148, 3) := by decide +kernel
theorem dX8_knit_5 : decode cX8_knit 5 = .ok (.ifCond .eq 19, 3) := by decide +kernel
theorem dX8_knit_8 : decode cX8_knit 8 = .ok (.aload_n 0, 1) := by decide +kernel
theorem dX8_knit_9 : decode cX8_knit 9 = .ok (.iload_n 2, 1) := by decide +kernel
theorem dX8_knit_10 : decode cX8_knit 10 = .ok (.invokevirtual 156, 3) := by decide +kernel
theorem dX8_knit_13 : decode cX8_knit 13 = .ok (.ifCond .eq 11, 3) := by decide +kernel
theorem dX8_knit_16 : decode cX8_knit 16 = .ok (.aload_n 0, 1) := by decide +kernel
theorem dX8_knit_17 : decode cX8_knit 17 = .ok (.iload_n 3, 1) := by decide +kernel
theorem dX8_knit_18 : decode cX8_knit 18 = .ok (.invokevirtual 156, 3) := by decide +kernel
theorem dX8_knit_21 : decode cX8_knit 21 = .ok (.ifCond .ne 6, 3) := by decide +kernel
theorem dX8_knit_24 : decode cX8_knit 24 = .ok (.bipush (-101), 2) := by decide +kernel
theorem dX8_knit_26 : decode cX8_knit 26 = .ok (.ireturn, 1) := by decide +kernel
theorem dX8_knit_27 : decode cX8_knit 27 = .ok (.iload_n 2, 1) := by decide +kernel
theorem dX8_knit_28 : decode cX8_knit 28 = .ok (.iload_n 3, 1) := by decide +kernel
theorem dX8_knit_29 : decode cX8_knit 29 = .ok (.if_icmp .ne 12, 3) := by decide +kernel
theorem dX8_knit_32 : decode cX8_knit 32 = .ok (.aload_n 0, 1) := by decide +kernel
theorem dX8_knit_33 : decode cX8_knit 33 = .ok (.getfield 13, 3) := by decide +kernel
theorem dX8_knit_36 : decode cX8_knit 36 = .ok (.iload_n 1, 1) := by decide +kernel
theorem dX8_knit_37 : decode cX8_knit 37 = .ok (.iaload, 1) := by decide +kernel
theorem dX8_knit_38 : decode cX8_knit 38 = .ok (.goto 12, 3) := by decide +kernel
theorem dX8_knit_41 : decode cX8_knit 41 = .ok (.aload_n 0, 1) := by decide +kernel
theorem dX8_knit_42 : decode cX8_knit 42 = .ok (.getfield 13, 3) := by decide +kernel
theorem dX8_knit_45 : decode cX8_knit 45 = .ok (.iload_n 1, 1) := by decide +kernel
theorem dX8_knit_46 : decode cX8_knit 46 = .ok (.iaload, 1) := by decide +kernel
theorem dX8_knit_47 : decode cX8_knit 47 = .ok (.invokestatic 162, 3) := by decide +kernel
theorem dX8_knit_50 : decode cX8_knit 50 = .ok (.istore 4, 2) := by decide +kernel
theorem dX8_knit_52 : decode cX8_knit 52 = .ok (.aload_n 0, 1) := by decide +kernel
theorem dX8_knit_53 : decode cX8_knit 53 = .ok (.getfield 13, 3) := by decide +kernel
theorem dX8_knit_56 : decode cX8_knit 56 = .ok (.iload_n 1, 1) := by decide +kernel
theorem dX8_knit_57 : decode cX8_knit 57 = .ok (.iaload, 1) := by decide +kernel
theorem dX8_knit_58 : decode cX8_knit 58 = .ok (.iload 4, 2) := by decide +kernel
theorem dX8_knit_60 : decode cX8_knit 60 = .ok (.isub, 1) := by decide +kernel
theorem dX8_knit_61 : decode cX8_knit 61 = .ok (.istore 5, 2) := by decide +kernel
theorem dX8_knit_63 : decode cX8_knit 63 = .ok (.aload_n 0, 1) := by decide +kernel
theorem dX8_knit_64 : decode cX8_knit 64 = .ok (.getfield 16, 3) := by decide +kernel
theorem dX8_knit_67 : decode cX8_knit 67 = .ok (.iload_n 1, 1) := by decide +kernel
theorem dX8_knit_68 : decode cX8_knit 68 = .ok (.iaload, 1) := by decide +kernel
theorem dX8_knit_69 : decode cX8_knit 69 = .ok (.iconst (-1), 1) := by decide +kernel
theorem dX8_knit_70 : decode cX8_knit 70 = .ok (.if_icmp .ne 23, 3) := by decide +kernel
theorem dX8_knit_73 : decode cX8_knit 73 = .ok (.aload_n 0, 1) := by decide +kernel
theorem dX8_knit_74 : decode cX8_knit 74 = .ok (.iload_n 2, 1) := by decide +kernel
theorem dX8_knit_75 : decode cX8_knit 75 = .ok (.invokevirtual 165, 3) := by decide +kernel
theorem dX8_knit_78 : decode cX8_knit 78 = .ok (.iload 4, 2) := by decide +kernel
theorem dX8_knit_80 : decode cX8_knit 80 = .ok (.if_icmp .lt 13, 3) := by decide +kernel
theorem dX8_knit_83 : decode cX8_knit 83 = .ok (.aload_n 0, 1) := by decide +kernel
theorem dX8_knit_84 : decode cX8_knit 84 = .ok (.iload_n 3, 1) := by decide +kernel
theorem dX8_knit_85 : decode cX8_knit 85 = .ok (.invokevirtual 165, 3) := by decide +kernel
theorem dX8_knit_88 : decode cX8_knit 88 = .ok (.iload 5, 2) := by decide +kernel
theorem dX8_knit_90 : decode cX8_knit 90 = .ok (.if_icmp .ge 6, 3) := by decide +kernel
theorem dX8_knit_93 : decode cX8_knit 93 = .ok (.bipush (-103), 2) := by decide +kernel
theorem dX8_knit_95 : decode cX8_knit 95 = .ok (.ireturn, 1) := by decide +kernel
theorem dX8_knit_96 : decode cX8_knit 96 = .ok (.aload_n 0, 1) := by decide +kernel
theorem dX8_knit_97 : decode cX8_knit 97 = .ok (.iload_n 2, 1) := by decide +kernel
theorem dX8_knit_98 : decode cX8_knit 98 = .ok (.iload 4, 2) := by decide +kernel
theorem dX8_knit_100 : decode cX8_knit 100 = .ok (.invokevirtual 168, 3) := by decide +kernel
theorem dX8_knit_103 : decode cX8_knit 103 = .ok (.aload_n 0, 1) := by decide +kernel
theorem dX8_knit_104 : decode cX8_knit 104 = .ok (.iload_n 3, 1) := by decide +kernel
theorem dX8_knit_105 : decode cX8_knit 105 = .ok (.iload 5, 2) := by decide +kernel
theorem dX8_knit_107 : decode cX8_knit 107 = .ok (.invokevirtual 168, 3) := by decide +kernel
theorem dX8_knit_110 : decode cX8_knit 110 = .ok (.aload_n 0, 1) := by decide +kernel
theorem dX8_knit_111 : decode cX8_knit 111 = .ok (.getfield 16, 3) := by decide +kernel
theorem dX8_knit_114 : decode cX8_knit 114 = .ok (.iload_n 1, 1) := by decide +kernel
theorem dX8_knit_115 : decode cX8_knit 115 = .ok (.iload_n 2, 1) := by decide +kernel
theorem dX8_knit_116 : decode cX8_knit 116 = .ok (.iastore, 1) := by decide +kernel
theorem dX8_knit_117 : decode cX8_knit 117 = .ok (.aload_n 0, 1) := by decide +kernel
theorem dX8_knit_118 : decode cX8_knit 118 = .ok (.getfield 19, 3) := by decide +kernel
theorem dX8_knit_121 : decode cX8_knit 121 = .ok (.iload_n 1, 1) := by decide +kernel
theorem dX8_knit_122 : decode cX8_knit 122 = .ok (.iload_n 2, 1) := by decide +kernel
theorem dX8_knit_123 : decode cX8_knit 123 = .ok (.iload_n 3, 1) := by decide +kernel
theorem dX8_knit_124 : decode cX8_knit 124 = .ok (.if_icmp .ne 7, 3) := by decide +kernel
theorem dX8_knit_127 : decode cX8_knit 127 = .ok (.iconst (-1), 1) := by decide +kernel
theorem dX8_knit_128 : decode cX8_knit 128 = .ok (.goto 4, 3) := by decide +kernel
theorem dX8_knit_131 : decode cX8_knit 131 = .ok (.iload_n 3, 1) := by decide +kernel
theorem dX8_knit_132 : decode cX8_knit 132 = .ok (.iastore, 1) := by decide +kernel
theorem dX8_knit_133 : decode cX8_knit 133 = .ok (.aload_n 0, 1) := by decide +kernel
theorem dX8_knit_134 : decode cX8_knit 134 = .ok (.getfield 22, 3) := by decide +kernel
theorem dX8_knit_137 : decode cX8_knit 137 = .ok (.iload_n 1, 1) := by decide +kernel
theorem dX8_knit_138 : decode cX8_knit 138 = .ok (.iload 4, 2) := by decide +kernel
theorem dX8_knit_140 : decode cX8_knit 140 = .ok (.iastore, 1) := by decide +kernel
theorem dX8_knit_141 : decode cX8_knit 141 = .ok (.aload_n 0, 1) := by decide +kernel
theorem dX8_knit_142 : decode cX8_knit 142 = .ok (.getfield 25, 3) := by decide +kernel
theorem dX8_knit_145 : decode cX8_knit 145 = .ok (.iload_n 1, 1) := by decide +kernel
theorem dX8_knit_146 : decode cX8_knit 146 = .ok (.iload 5, 2) := by decide +kernel
theorem dX8_knit_148 : decode cX8_knit 148 = .ok (.iastore, 1) := by decide +kernel
theorem dX8_knit_149 : decode cX8_knit 149 = .ok (.aload_n 0, 1) := by decide +kernel
theorem dX8_knit_150 : decode cX8_knit 150 = .ok (.invokevirtual 172, 3) := by decide +kernel
theorem dX8_knit_153 : decode cX8_knit 153 = .ok (.ireturn, 1) := by decide +kernel
theorem dX8_comeBack_0 : decode cX8_comeBack 0 = .ok (.iload_n 2, 1) := by decide +kernel
theorem dX8_comeBack_1 : decode cX8_comeBack 1 = .ok (.ifCond .le 7, 3) := by decide +kernel
theorem dX8_comeBack_4 : decode cX8_comeBack 4 = .ok (.iconst 1, 1) := by decide +kernel
theorem dX8_comeBack_5 : decode cX8_comeBack 5 = .ok (.goto 4, 3) := by decide +kernel
theorem dX8_comeBack_8 : decode cX8_comeBack 8 = .ok (.iconst 0, 1) := by decide +kernel
theorem dX8_comeBack_9 : decode cX8_comeBack 9 = .ok (.istore_n 3, 1) := by decide +kernel
theorem dX8_comeBack_10 : decode cX8_comeBack 10 = .ok (.aload_n 0, 1) := by decide +kernel
theorem dX8_comeBack_11 : decode cX8_comeBack 11 = .ok (.getfield 40, 3) := by decide +kernel
theorem dX8_comeBack_14 : decode cX8_comeBack 14 = .ok (.iload_n 1, 1) := by decide +kernel
theorem dX8_comeBack_15 : decode cX8_comeBack 15 = .ok (.dup2, 1) := by decide +kernel
theorem dX8_comeBack_16 : decode cX8_comeBack 16 = .ok (.iaload, 1) := by decide +kernel
theorem dX8_comeBack_17 : decode cX8_comeBack 17 = .ok (.iload_n 2, 1) := by decide +kernel
theorem dX8_comeBack_18 : decode cX8_comeBack 18 = .ok (.iload_n 3, 1) := by decide +kernel
theorem dX8_comeBack_19 : decode cX8_comeBack 19 = .ok (.isub, 1) := by decide +kernel
theorem dX8_comeBack_20 : decode cX8_comeBack 20 = .ok (.iadd, 1) := by decide +kernel
theorem dX8_comeBack_21 : decode cX8_comeBack 21 = .ok (.iastore, 1) := by decide +kernel
theorem dX8_comeBack_22 : decode cX8_comeBack 22 = .ok (.iload_n 3, 1) := by decide +kernel
theorem dX8_comeBack_23 : decode cX8_comeBack 23 = .ok (.ireturn, 1) := by decide +kernel
theorem dX8_undo_0 : decode cX8_undo 0 = .ok (.aload_n 0, 1) := by decide +kernel
theorem dX8_undo_1 : decode cX8_undo 1 = .ok (.iload_n 1, 1) := by decide +kernel
theorem dX8_undo_2 : decode cX8_undo 2 = .ok (.invokevirtual 148, 3) := by decide +kernel
theorem dX8_undo_5 : decode cX8_undo 5 = .ok (.ifCond .ne 6, 3) := by decide +kernel
theorem dX8_undo_8 : decode cX8_undo 8 = .ok (.bipush (-101), 2) := by decide +kernel
theorem dX8_undo_10 : decode cX8_undo 10 = .ok (.ireturn, 1) := by decide +kernel
theorem dX8_undo_11 : decode cX8_undo 11 = .ok (.aload_n 0, 1) := by decide +kernel
theorem dX8_undo_12 : decode cX8_undo 12 = .ok (.getfield 16, 3) := by decide +kernel
theorem dX8_undo_15 : decode cX8_undo 15 = .ok (.iload_n 1, 1) := by decide +kernel
theorem dX8_undo_16 : decode cX8_undo 16 = .ok (.iaload, 1) := by decide +kernel
theorem dX8_undo_17 : decode cX8_undo 17 = .ok (.iconst (-1), 1) := by decide +kernel
theorem dX8_undo_18 : decode cX8_undo 18 = .ok (.if_icmp .ne 6, 3) := by decide +kernel
theorem dX8_undo_21 : decode cX8_undo 21 = .ok (.bipush (-103), 2) := by decide +kernel
theorem dX8_undo_23 : decode cX8_undo 23 = .ok (.ireturn, 1) := by decide +kernel
theorem dX8_undo_24 : decode cX8_undo 24 = .ok (.aload_n 0, 1) := by decide +kernel
theorem dX8_undo_25 : decode cX8_undo 25 = .ok (.aload_n 0, 1) := by decide +kernel
theorem dX8_undo_26 : decode cX8_undo 26 = .ok (.getfield 16, 3) := by decide +kernel
theorem dX8_undo_29 : decode cX8_undo 29 = .ok (.iload_n 1, 1) := by decide +kernel
theorem dX8_undo_30 : decode cX8_undo 30 = .ok (.iaload, 1) := by decide +kernel
theorem dX8_undo_31 : decode cX8_undo 31 = .ok (.aload_n 0, 1) := by decide +kernel
theorem dX8_undo_32 : decode cX8_undo 32 = .ok (.getfield 22, 3) := by decide +kernel
theorem dX8_undo_35 : decode cX8_undo 35 = .ok (.iload_n 1, 1) := by decide +kernel
theorem dX8_undo_36 : decode cX8_undo 36 = .ok (.iaload, 1) := by decide +kernel
theorem dX8_undo_37 : decode cX8_undo 37 = .ok (.invokevirtual 175, 3) := by decide +kernel
theorem dX8_undo_40 : decode cX8_undo 40 = .ok (.istore_n 2, 1) := by decide +kernel
theorem dX8_undo_41 : decode cX8_undo 41 = .ok (.aload_n 0, 1) := by decide +kernel
theorem dX8_undo_42 : decode cX8_undo 42 = .ok (.getfield 19, 3) := by decide +kernel
theorem dX8_undo_45 : decode cX8_undo 45 = .ok (.iload_n 1, 1) := by decide +kernel
theorem dX8_undo_46 : decode cX8_undo 46 = .ok (.iaload, 1) := by decide +kernel
theorem dX8_undo_47 : decode cX8_undo 47 = .ok (.iconst (-1), 1) := by decide +kernel
theorem dX8_undo_48 : decode cX8_undo 48 = .ok (.if_icmp .eq 22, 3) := by decide +kernel
theorem dX8_undo_51 : decode cX8_undo 51 = .ok (.iload_n 2, 1) := by decide +kernel
theorem dX8_undo_52 : decode cX8_undo 52 = .ok (.aload_n 0, 1) := by decide +kernel
theorem dX8_undo_53 : decode cX8_undo 53 = .ok (.aload_n 0, 1) := by decide +kernel
theorem dX8_undo_54 : decode cX8_undo 54 = .ok (.getfield 19, 3) := by decide +kernel
theorem dX8_undo_57 : decode cX8_undo 57 = .ok (.iload_n 1, 1) := by decide +kernel
theorem dX8_undo_58 : decode cX8_undo 58 = .ok (.iaload, 1) := by decide +kernel
theorem dX8_undo_59 : decode cX8_undo 59 = .ok (.aload_n 0, 1) := by decide +kernel
theorem dX8_undo_60 : decode cX8_undo 60 = .ok (.getfield 25, 3) := by decide +kernel
theorem dX8_undo_63 : decode cX8_undo 63 = .ok (.iload_n 1, 1) := by decide +kernel
theorem dX8_undo_64 : decode cX8_undo 64 = .ok (.iaload, 1) := by decide +kernel
theorem dX8_undo_65 : decode cX8_undo 65 = .ok (.invokevirtual 175, 3) := by decide +kernel
theorem dX8_undo_68 : decode cX8_undo 68 = .ok (.iadd, 1) := by decide +kernel
theorem dX8_undo_69 : decode cX8_undo 69 = .ok (.istore_n 2, 1) := by decide +kernel
theorem dX8_undo_70 : decode cX8_undo 70 = .ok (.aload_n 0, 1) := by decide +kernel
theorem dX8_undo_71 : decode cX8_undo 71 = .ok (.iload_n 1, 1) := by decide +kernel
theorem dX8_undo_72 : decode cX8_undo 72 = .ok (.invokevirtual 125, 3) := by decide +kernel
theorem dX8_undo_75 : decode cX8_undo 75 = .ok (.iload_n 2, 1) := by decide +kernel
theorem dX8_undo_76 : decode cX8_undo 76 = .ok (.ireturn, 1) := by decide +kernel
theorem dX8_gauge_0 : decode cX8_gauge 0 = .ok (.aload_n 0, 1) := by decide +kernel
theorem dX8_gauge_1 : decode cX8_gauge 1 = .ok (.iload_n 1, 1) := by decide +kernel
theorem dX8_gauge_2 : decode cX8_gauge 2 = .ok (.invokevirtual 148, 3) := by decide +kernel
theorem dX8_gauge_5 : decode cX8_gauge 5 = .ok (.ifCond .ne 6, 3) := by decide +kernel
theorem dX8_gauge_8 : decode cX8_gauge 8 = .ok (.bipush (-101), 2) := by decide +kernel
theorem dX8_gauge_10 : decode cX8_gauge 10 = .ok (.ireturn, 1) := by decide +kernel
theorem dX8_gauge_11 : decode cX8_gauge 11 = .ok (.iload_n 2, 1) := by decide +kernel
theorem dX8_gauge_12 : decode cX8_gauge 12 = .ok (.iconst 1, 1) := by decide +kernel
theorem dX8_gauge_13 : decode cX8_gauge 13 = .ok (.bipush 18, 2) := by decide +kernel
theorem dX8_gauge_15 : decode cX8_gauge 15 = .ok (.invokestatic 86, 3) := by decide +kernel
theorem dX8_gauge_18 : decode cX8_gauge 18 = .ok (.ifCond .ne 6, 3) := by decide +kernel
theorem dX8_gauge_21 : decode cX8_gauge 21 = .ok (.bipush (-102), 2) := by decide +kernel
theorem dX8_gauge_23 : decode cX8_gauge 23 = .ok (.ireturn, 1) := by decide +kernel
theorem dX8_gauge_24 : decode cX8_gauge 24 = .ok (.aload_n 0, 1) := by decide +kernel
theorem dX8_gauge_25 : decode cX8_gauge 25 = .ok (.getfield 16, 3) := by decide +kernel
theorem dX8_gauge_28 : decode cX8_gauge 28 = .ok (.iload_n 1, 1) := by decide +kernel
theorem dX8_gauge_29 : decode cX8_gauge 29 = .ok (.iaload, 1) := by decide +kernel
theorem dX8_gauge_30 : decode cX8_gauge 30 = .ok (.iconst (-1), 1) := by decide +kernel
theorem dX8_gauge_31 : decode cX8_gauge 31 = .ok (.if_icmp .eq 34, 3) := by decide +kernel
theorem dX8_gauge_34 : decode cX8_gauge 34 = .ok (.aload_n 0, 1) := by decide +kernel
theorem dX8_gauge_35 : decode cX8_gauge 35 = .ok (.getfield 19, 3) := by decide +kernel
theorem dX8_gauge_38 : decode cX8_gauge 38 = .ok (.iload_n 1, 1) := by decide +kernel
theorem dX8_gauge_39 : decode cX8_gauge 39 = .ok (.iaload, 1) := by decide +kernel
theorem dX8_gauge_40 : decode cX8_gauge 40 = .ok (.iconst (-1), 1) := by decide +kernel
theorem dX8_gauge_41 : decode cX8_gauge 41 = .ok (.if_icmp .ne 24, 3) := by decide +kernel
theorem dX8_gauge_44 : decode cX8_gauge 44 = .ok (.aload_n 0, 1) := by decide +kernel
theorem dX8_gauge_45 : decode cX8_gauge 45 = .ok (.aload_n 0, 1) := by decide +kernel
theorem dX8_gauge_46 : decode cX8_gauge 46 = .ok (.getfield 16, 3) := by decide +kernel
theorem dX8_gauge_49 : decode cX8_gauge 49 = .ok (.iload_n 1, 1) := by decide +kernel
theorem dX8_gauge_50 : decode cX8_gauge 50 = .ok (.iaload, 1) := by decide +kernel
theorem dX8_gauge_51 : decode cX8_gauge 51 = .ok (.invokevirtual 165, 3) := by decide +kernel
theorem dX8_gauge_54 : decode cX8_gauge 54 = .ok (.iload_n 2, 1) := by decide +kernel
theorem dX8_gauge_55 : decode cX8_gauge 55 = .ok (.aload_n 0, 1) := by decide +kernel
theorem dX8_gauge_56 : decode cX8_gauge 56 = .ok (.getfield 22, 3) := by decide +kernel
theorem dX8_gauge_59 : decode cX8_gauge 59 = .ok (.iload_n 1, 1) := by decide +kernel
theorem dX8_gauge_60 : decode cX8_gauge 60 = .ok (.iaload, 1) := by decide +kernel
theorem dX8_gauge_61 : decode cX8_gauge 61 = .ok (.isub, 1) := by decide +kernel
theorem dX8_gauge_62 : decode cX8_gauge 62 = .ok (.if_icmp .ge 6, 3) := by decide +kernel
theorem dX8_gauge_65 : decode cX8_gauge 65 = .ok (.bipush (-103), 2) := by decide +kernel
theorem dX8_gauge_67 : decode cX8_gauge 67 = .ok (.ireturn, 1) := by decide +kernel
theorem dX8_gauge_68 : decode cX8_gauge 68 = .ok (.iload_n 2, 1) := by decide +kernel
theorem dX8_gauge_69 : decode cX8_gauge 69 = .ok (.aload_n 0, 1) := by decide +kernel
theorem dX8_gauge_70 : decode cX8_gauge 70 = .ok (.getfield 22, 3) := by decide +kernel
theorem dX8_gauge_73 : decode cX8_gauge 73 = .ok (.iload_n 1, 1) := by decide +kernel
theorem dX8_gauge_74 : decode cX8_gauge 74 = .ok (.iaload, 1) := by decide +kernel
theorem dX8_gauge_75 : decode cX8_gauge 75 = .ok (.isub, 1) := by decide +kernel
theorem dX8_gauge_76 : decode cX8_gauge 76 = .ok (.istore_n 3, 1) := by decide +kernel
theorem dX8_gauge_77 : decode cX8_gauge 77 = .ok (.iload_n 3, 1) := by decide +kernel
theorem dX8_gauge_78 : decode cX8_gauge 78 = .ok (.ifCond .le 17, 3) := by decide +kernel
theorem dX8_gauge_81 : decode cX8_gauge 81 = .ok (.aload_n 0, 1) := by decide +kernel
theorem dX8_gauge_82 : decode cX8_gauge 82 = .ok (.aload_n 0, 1) := by decide +kernel
theorem dX8_gauge_83 : decode cX8_gauge 83 = .ok (.getfield 16, 3) := by decide +kernel
theorem dX8_gauge_86 : decode cX8_gauge 86 = .ok (.iload_n 1, 1) := by decide +kernel
theorem dX8_gauge_87 : decode cX8_gauge 87 = .ok (.iaload, 1) := by decide +kernel
theorem dX8_gauge_88 : decode cX8_gauge 88 = .ok (.iload_n 3, 1) := by decide +kernel
theorem dX8_gauge_89 : decode cX8_gauge 89 = .ok (.invokevirtual 168, 3) := by decide +kernel
theorem dX8_gauge_92 : decode cX8_gauge 92 = .ok (.goto 18, 3) := by decide +kernel
theorem dX8_gauge_95 : decode cX8_gauge 95 = .ok (.aload_n 0, 1) := by decide +kernel
theorem dX8_gauge_96 : decode cX8_gauge 96 = .ok (.getfield 40, 3) := by decide +kernel
theorem dX8_gauge_99 : decode cX8_gauge 99 = .ok (.aload_n 0, 1) := by decide +kernel
theorem dX8_gauge_100 : decode cX8_gauge 100 = .ok (.getfield 16, 3) := by decide +kernel
theorem dX8_gauge_103 : decode cX8_gauge 103 = .ok (.iload_n 1, 1) := by decide +kernel
theorem dX8_gauge_104 : decode cX8_gauge 104 = .ok (.iaload, 1) := by decide +kernel
theorem dX8_gauge_105 : decode cX8_gauge 105 = .ok (.dup2, 1) := by decide +kernel
theorem dX8_gauge_106 : decode cX8_gauge 106 = .ok (.iaload, 1) := by decide +kernel
theorem dX8_gauge_107 : decode cX8_gauge 107 = .ok (.iload_n 3, 1) := by decide +kernel
theorem dX8_gauge_108 : decode cX8_gauge 108 = .ok (.isub, 1) := by decide +kernel
theorem dX8_gauge_109 : decode cX8_gauge 109 = .ok (.iastore, 1) := by decide +kernel
theorem dX8_gauge_110 : decode cX8_gauge 110 = .ok (.aload_n 0, 1) := by decide +kernel
theorem dX8_gauge_111 : decode cX8_gauge 111 = .ok (.getfield 22, 3) := by decide +kernel
theorem dX8_gauge_114 : decode cX8_gauge 114 = .ok (.iload_n 1, 1) := by decide +kernel
theorem dX8_gauge_115 : decode cX8_gauge 115 = .ok (.iload_n 2, 1) := by decide +kernel
theorem dX8_gauge_116 : decode cX8_gauge 116 = .ok (.iastore, 1) := by decide +kernel
theorem dX8_gauge_117 : decode cX8_gauge 117 = .ok (.aload_n 0, 1) := by decide +kernel
theorem dX8_gauge_118 : decode cX8_gauge 118 = .ok (.getfield 28, 3) := by decide +kernel
theorem dX8_gauge_121 : decode cX8_gauge 121 = .ok (.iload_n 1, 1) := by decide +kernel
theorem dX8_gauge_122 : decode cX8_gauge 122 = .ok (.iload_n 2, 1) := by decide +kernel
theorem dX8_gauge_123 : decode cX8_gauge 123 = .ok (.iastore, 1) := by decide +kernel
theorem dX8_gauge_124 : decode cX8_gauge 124 = .ok (.iload_n 3, 1) := by decide +kernel
theorem dX8_gauge_125 : decode cX8_gauge 125 = .ok (.ireturn, 1) := by decide +kernel
theorem dX8_washed_0 : decode cX8_washed 0 = .ok (.iload_n 1, 1) := by decide +kernel
theorem dX8_washed_1 : decode cX8_washed 1 = .ok (.bipush 10, 2) := by decide +kernel
theorem dX8_washed_3 : decode cX8_washed 3 = .ok (.if_icmp .le 26, 3) := by decide +kernel
theorem dX8_washed_6 : decode cX8_washed 6 = .ok (.iload_n 1, 1) := by decide +kernel
theorem dX8_washed_7 : decode cX8_washed 7 = .ok (.aload_n 0, 1) := by decide +kernel
theorem dX8_washed_8 : decode cX8_washed 8 = .ok (.getfield 122, 3) := by decide +kernel
theorem dX8_washed_11 : decode cX8_washed 11 = .ok (.isub, 1) := by decide +kernel
theorem dX8_washed_12 : decode cX8_washed 12 = .ok (.bipush 10, 2) := by decide +kernel
theorem dX8_washed_14 : decode cX8_washed 14 = .ok (.if_icmp .ge 8, 3) := by decide +kernel
theorem dX8_washed_17 : decode cX8_washed 17 = .ok (.bipush 10, 2) := by decide +kernel
theorem dX8_washed_19 : decode cX8_washed 19 = .ok (.goto 9, 3) := by decide +kernel
theorem dX8_washed_22 : decode cX8_washed 22 = .ok (.iload_n 1, 1) := by decide +kernel
theorem dX8_washed_23 : decode cX8_washed 23 = .ok (.aload_n 0, 1) := by decide +kernel
theorem dX8_washed_24 : decode cX8_washed 24 = .ok (.getfield 122, 3) := by decide +kernel
theorem dX8_washed_27 : decode cX8_washed 27 = .ok (.isub, 1) := by decide +kernel
theorem dX8_washed_28 : decode cX8_washed 28 = .ok (.ireturn, 1) := by decide +kernel
theorem dX8_washed_29 : decode cX8_washed 29 = .ok (.iload_n 1, 1) := by decide +kernel
theorem dX8_washed_30 : decode cX8_washed 30 = .ok (.aload_n 0, 1) := by decide +kernel
theorem dX8_washed_31 : decode cX8_washed 31 = .ok (.getfield 122, 3) := by decide +kernel
theorem dX8_washed_34 : decode cX8_washed 34 = .ok (.iadd, 1) := by decide +kernel
theorem dX8_washed_35 : decode cX8_washed 35 = .ok (.bipush 10, 2) := by decide +kernel
theorem dX8_washed_37 : decode cX8_washed 37 = .ok (.if_icmp .le 8, 3) := by decide +kernel
theorem dX8_washed_40 : decode cX8_washed 40 = .ok (.bipush 10, 2) := by decide +kernel
theorem dX8_washed_42 : decode cX8_washed 42 = .ok (.goto 9, 3) := by decide +kernel
theorem dX8_washed_45 : decode cX8_washed 45 = .ok (.iload_n 1, 1) := by decide +kernel
theorem dX8_washed_46 : decode cX8_washed 46 = .ok (.aload_n 0, 1) := by decide +kernel
theorem dX8_washed_47 : decode cX8_washed 47 = .ok (.getfield 122, 3) := by decide +kernel
theorem dX8_washed_50 : decode cX8_washed 50 = .ok (.iadd, 1) := by decide +kernel
theorem dX8_washed_51 : decode cX8_washed 51 = .ok (.ireturn, 1) := by decide +kernel
theorem dX8_wash_0 : decode cX8_wash 0 = .ok (.aload_n 0, 1) := by decide +kernel
theorem dX8_wash_1 : decode cX8_wash 1 = .ok (.getfield 119, 3) := by decide +kernel
theorem dX8_wash_4 : decode cX8_wash 4 = .ok (.ifCond .ne 6, 3) := by decide +kernel
theorem dX8_wash_7 : decode cX8_wash 7 = .ok (.bipush (-103), 2) := by decide +kernel
theorem dX8_wash_9 : decode cX8_wash 9 = .ok (.ireturn, 1) := by decide +kernel
theorem dX8_wash_10 : decode cX8_wash 10 = .ok (.iconst 0, 1) := by decide +kernel
theorem dX8_wash_11 : decode cX8_wash 11 = .ok (.istore_n 1, 1) := by decide +kernel
theorem dX8_wash_12 : decode cX8_wash 12 = .ok (.iload_n 1, 1) := by decide +kernel
theorem dX8_wash_13 : decode cX8_wash 13 = .ok (.aload_n 0, 1) := by decide +kernel
theorem dX8_wash_14 : decode cX8_wash 14 = .ok (.getfield 132, 3) := by decide +kernel
theorem dX8_wash_17 : decode cX8_wash 17 = .ok (.if_icmp .ge 25, 3) := by decide +kernel
theorem dX8_wash_20 : decode cX8_wash 20 = .ok (.aload_n 0, 1) := by decide +kernel
theorem dX8_wash_21 : decode cX8_wash 21 = .ok (.getfield 34, 3) := by decide +kernel
theorem dX8_wash_24 : decode cX8_wash 24 = .ok (.iload_n 1, 1) := by decide +kernel
theorem dX8_wash_25 : decode cX8_wash 25 = .ok (.aload_n 0, 1) := by decide +kernel
theorem dX8_wash_26 : decode cX8_wash 26 = .ok (.aload_n 0, 1) := by decide +kernel
theorem dX8_wash_27 : decode cX8_wash 27 = .ok (.getfield 34, 3) := by decide +kernel
theorem dX8_wash_30 : decode cX8_wash 30 = .ok (.iload_n 1, 1) := by decide +kernel
theorem dX8_wash_31 : decode cX8_wash 31 = .ok (.iaload, 1) := by decide +kernel
theorem dX8_wash_32 : decode cX8_wash 32 = .ok (.invokevirtual 178, 3) := by decide +kernel
theorem dX8_wash_35 : decode cX8_wash 35 = .ok (.iastore, 1) := by decide +kernel
theorem dX8_wash_36 : decode cX8_wash 36 = .ok (.iinc 1 1, 3) := by decide +kernel
theorem dX8_wash_39 : decode cX8_wash 39 = .ok (.goto (-27), 3) := by decide +kernel
theorem dX8_wash_42 : decode cX8_wash 42 = .ok (.aload_n 0, 1) := by decide +kernel
theorem dX8_wash_43 : decode cX8_wash 43 = .ok (.invokevirtual 172, 3) := by decide +kernel
theorem dX8_wash_46 : decode cX8_wash 46 = .ok (.ireturn, 1) := by decide +kernel
theorem dX8_openParts_0 : decode cX8_openParts 0 = .ok (.iconst 0, 1) := by decide +kernel
theorem dX8_openParts_1 : decode cX8_openParts 1 = .ok (.istore_n 1, 1) := by decide +kernel
theorem dX8_openParts_2 : decode cX8_openParts 2 = .ok (.iconst 0, 1) := by decide +kernel
theorem dX8_openParts_3 : decode cX8_openParts 3 = .ok (.istore_n 2, 1) := by decide +kernel
theorem dX8_openParts_4 : decode cX8_openParts 4 = .ok (.iload_n 2, 1) := by decide +kernel
theorem dX8_openParts_5 : decode cX8_openParts 5 = .ok (.aload_n 0, 1) := by decide +kernel
theorem dX8_openParts_6 : decode cX8_openParts 6 = .ok (.getfield 119, 3) := by decide +kernel
theorem dX8_openParts_9 : decode cX8_openParts 9 = .ok (.if_icmp .ge 27, 3) := by decide +kernel
theorem dX8_openParts_12 : decode cX8_openParts 12 = .ok (.iload_n 1, 1) := by decide +kernel
theorem dX8_openParts_13 : decode cX8_openParts 13 = .ok (.aload_n 0, 1) := by decide +kernel
theorem dX8_openParts_14 : decode cX8_openParts 14 = .ok (.getfield 16, 3) := by decide +kernel
theorem dX8_openParts_17 : decode cX8_openParts 17 = .ok (.iload_n 2, 1) := by decide +kernel
theorem dX8_openParts_18 : decode cX8_openParts 18 = .ok (.iaload, 1) := by decide +kernel
theorem dX8_openParts_19 : decode cX8_openParts 19 = .ok (.iconst (-1), 1) := by decide +kernel
theorem dX8_openParts_20 : decode cX8_openParts 20 = .ok (.if_icmp .ne 7, 3) := by decide +kernel
theorem dX8_openParts_23 : decode cX8_openParts 23 = .ok (.iconst 1, 1) := by decide +kernel
theorem dX8_openParts_24 : decode cX8_openParts 24 = .ok (.goto 4, 3) := by decide +kernel
end
section
theorem dX8_openParts_27 : decode cX8_openParts 27 = .ok (.iconst 0, 1) := by decide +kernel
theorem dX8_openParts_28 : decode cX8_openParts 28 = .ok (.iadd, 1) := by decide +kernel
theorem dX8_openParts_29 : decode cX8_openParts 29 = .ok (.istore_n 1, 1) := by decide +kernel
theorem dX8_openParts_30 : decode cX8_openParts 30 = .ok (.iinc 2 1, 3) := by decide +kernel
theorem dX8_openParts_33 : decode cX8_openParts 33 = .ok (.goto (-29), 3) := by decide +kernel
theorem dX8_openParts_36 : decode cX8_openParts 36 = .ok (.iload_n 1, 1) := by decide +kernel
theorem dX8_openParts_37 : decode cX8_openParts 37 = .ok (.ireturn, 1) := by decide +kernel
theorem dX8_plans_0 : decode cX8_plans 0 = .ok (.iconst 1, 1) := by decide +kernel
theorem dX8_plans_1 : decode cX8_plans 1 = .ok (.istore_n 1, 1) := by decide +kernel
theorem dX8_plans_2 : decode cX8_plans 2 = .ok (.aload_n 0, 1) := by decide +kernel
theorem dX8_plans_3 : decode cX8_plans 3 = .ok (.invokevirtual 181, 3) := by decide +kernel
theorem dX8_plans_6 : decode cX8_plans 6 = .ok (.istore_n 2, 1) := by decide +kernel
theorem dX8_plans_7 : decode cX8_plans 7 = .ok (.iload_n 2, 1) := by decide +kernel
theorem dX8_plans_8 : decode cX8_plans 8 = .ok (.ifCond .le 21, 3) := by decide +kernel
theorem dX8_plans_11 : decode cX8_plans 11 = .ok (.iload_n 1, 1) := by decide +kernel
theorem dX8_plans_12 : decode cX8_plans 12 = .ok (.aload_n 0, 1) := by decide +kernel
theorem dX8_plans_13 : decode cX8_plans 13 = .ok (.getfield 132, 3) := by decide +kernel
theorem dX8_plans_16 : decode cX8_plans 16 = .ok (.aload_n 0, 1) := by decide +kernel
theorem dX8_plans_17 : decode cX8_plans 17 = .ok (.getfield 132, 3) := by decide +kernel
theorem dX8_plans_20 : decode cX8_plans 20 = .ok (.imul, 1) := by decide +kernel
theorem dX8_plans_21 : decode cX8_plans 21 = .ok (.imul, 1) := by decide +kernel
theorem dX8_plans_22 : decode cX8_plans 22 = .ok (.istore_n 1, 1) := by decide +kernel
theorem dX8_plans_23 : decode cX8_plans 23 = .ok (.iinc 2 (-1), 3) := by decide +kernel
theorem dX8_plans_26 : decode cX8_plans 26 = .ok (.goto (-19), 3) := by decide +kernel
theorem dX8_plans_29 : decode cX8_plans 29 = .ok (.iload_n 1, 1) := by decide +kernel
theorem dX8_plans_30 : decode cX8_plans 30 = .ok (.ireturn, 1) := by decide +kernel
theorem dX8_layPlan_0 : decode cX8_layPlan 0 = .ok (.iload_n 1, 1) := by decide +kernel
theorem dX8_layPlan_1 : decode cX8_layPlan 1 = .ok (.istore_n 2, 1) := by decide +kernel
theorem dX8_layPlan_2 : decode cX8_layPlan 2 = .ok (.iconst 0, 1) := by decide +kernel
theorem dX8_layPlan_3 : decode cX8_layPlan 3 = .ok (.istore_n 3, 1) := by decide +kernel
theorem dX8_layPlan_4 : decode cX8_layPlan 4 = .ok (.iload_n 3, 1) := by decide +kernel
theorem dX8_layPlan_5 : decode cX8_layPlan 5 = .ok (.iconst 3, 1) := by decide +kernel
theorem dX8_layPlan_6 : decode cX8_layPlan 6 = .ok (.if_icmp .ge 16, 3) := by decide +kernel
theorem dX8_layPlan_9 : decode cX8_layPlan 9 = .ok (.aload_n 0, 1) := by decide +kernel
theorem dX8_layPlan_10 : decode cX8_layPlan 10 = .ok (.getfield 53, 3) := by decide +kernel
theorem dX8_layPlan_13 : decode cX8_layPlan 13 = .ok (.iload_n 3, 1) := by decide +kernel
theorem dX8_layPlan_14 : decode cX8_layPlan 14 = .ok (.iconst 0, 1) := by decide +kernel
theorem dX8_layPlan_15 : decode cX8_layPlan 15 = .ok (.iastore, 1) := by decide +kernel
theorem dX8_layPlan_16 : decode cX8_layPlan 16 = .ok (.iinc 3 1, 3) := by decide +kernel
theorem dX8_layPlan_19 : decode cX8_layPlan 19 = .ok (.goto (-15), 3) := by decide +kernel
theorem dX8_layPlan_22 : decode cX8_layPlan 22 = .ok (.aload_n 0, 1) := by decide +kernel
theorem dX8_layPlan_23 : decode cX8_layPlan 23 = .ok (.getfield 119, 3) := by decide +kernel
theorem dX8_layPlan_26 : decode cX8_layPlan 26 = .ok (.iconst 1, 1) := by decide +kernel
theorem dX8_layPlan_27 : decode cX8_layPlan 27 = .ok (.isub, 1) := by decide +kernel
theorem dX8_layPlan_28 : decode cX8_layPlan 28 = .ok (.istore_n 3, 1) := by decide +kernel
theorem dX8_layPlan_29 : decode cX8_layPlan 29 = .ok (.iload_n 3, 1) := by decide +kernel
theorem dX8_layPlan_30 : decode cX8_layPlan 30 = .ok (.ifCond .lt 162, 3) := by decide +kernel
theorem dX8_layPlan_33 : decode cX8_layPlan 33 = .ok (.aload_n 0, 1) := by decide +kernel
theorem dX8_layPlan_34 : decode cX8_layPlan 34 = .ok (.getfield 50, 3) := by decide +kernel
theorem dX8_layPlan_37 : decode cX8_layPlan 37 = .ok (.iload_n 3, 1) := by decide +kernel
theorem dX8_layPlan_38 : decode cX8_layPlan 38 = .ok (.iconst (-1), 1) := by decide +kernel
theorem dX8_layPlan_39 : decode cX8_layPlan 39 = .ok (.iastore, 1) := by decide +kernel
theorem dX8_layPlan_40 : decode cX8_layPlan 40 = .ok (.aload_n 0, 1) := by decide +kernel
theorem dX8_layPlan_41 : decode cX8_layPlan 41 = .ok (.getfield 47, 3) := by decide +kernel
theorem dX8_layPlan_44 : decode cX8_layPlan 44 = .ok (.iload_n 3, 1) := by decide +kernel
theorem dX8_layPlan_45 : decode cX8_layPlan 45 = .ok (.aload_n 0, 1) := by decide +kernel
theorem dX8_layPlan_46 : decode cX8_layPlan 46 = .ok (.iload_n 3, 1) := by decide +kernel
theorem dX8_layPlan_47 : decode cX8_layPlan 47 = .ok (.invokevirtual 138, 3) := by decide +kernel
theorem dX8_layPlan_50 : decode cX8_layPlan 50 = .ok (.iastore, 1) := by decide +kernel
theorem dX8_layPlan_51 : decode cX8_layPlan 51 = .ok (.aload_n 0, 1) := by decide +kernel
theorem dX8_layPlan_52 : decode cX8_layPlan 52 = .ok (.getfield 16, 3) := by decide +kernel
theorem dX8_layPlan_55 : decode cX8_layPlan 55 = .ok (.iload_n 3, 1) := by decide +kernel
theorem dX8_layPlan_56 : decode cX8_layPlan 56 = .ok (.iaload, 1) := by decide +kernel
theorem dX8_layPlan_57 : decode cX8_layPlan 57 = .ok (.iconst (-1), 1) := by decide +kernel
theorem dX8_layPlan_58 : decode cX8_layPlan 58 = .ok (.if_icmp .ne 128, 3) := by decide +kernel
theorem dX8_layPlan_61 : decode cX8_layPlan 61 = .ok (.iload_n 2, 1) := by decide +kernel
theorem dX8_layPlan_62 : decode cX8_layPlan 62 = .ok (.aload_n 0, 1) := by decide +kernel
theorem dX8_layPlan_63 : decode cX8_layPlan 63 = .ok (.getfield 132, 3) := by decide +kernel
theorem dX8_layPlan_66 : decode cX8_layPlan 66 = .ok (.idiv, 1) := by decide +kernel
theorem dX8_layPlan_67 : decode cX8_layPlan 67 = .ok (.aload_n 0, 1) := by decide +kernel
theorem dX8_layPlan_68 : decode cX8_layPlan 68 = .ok (.getfield 132, 3) := by decide +kernel
theorem dX8_layPlan_71 : decode cX8_layPlan 71 = .ok (.irem, 1) := by decide +kernel
theorem dX8_layPlan_72 : decode cX8_layPlan 72 = .ok (.istore 4, 2) := by decide +kernel
theorem dX8_layPlan_74 : decode cX8_layPlan 74 = .ok (.iload_n 2, 1) := by decide +kernel
theorem dX8_layPlan_75 : decode cX8_layPlan 75 = .ok (.aload_n 0, 1) := by decide +kernel
theorem dX8_layPlan_76 : decode cX8_layPlan 76 = .ok (.getfield 132, 3) := by decide +kernel
theorem dX8_layPlan_79 : decode cX8_layPlan 79 = .ok (.irem, 1) := by decide +kernel
theorem dX8_layPlan_80 : decode cX8_layPlan 80 = .ok (.istore 5, 2) := by decide +kernel
theorem dX8_layPlan_82 : decode cX8_layPlan 82 = .ok (.iload_n 2, 1) := by decide +kernel
theorem dX8_layPlan_83 : decode cX8_layPlan 83 = .ok (.aload_n 0, 1) := by decide +kernel
theorem dX8_layPlan_84 : decode cX8_layPlan 84 = .ok (.getfield 132, 3) := by decide +kernel
theorem dX8_layPlan_87 : decode cX8_layPlan 87 = .ok (.aload_n 0, 1) := by decide +kernel
theorem dX8_layPlan_88 : decode cX8_layPlan 88 = .ok (.getfield 132, 3) := by decide +kernel
theorem dX8_layPlan_91 : decode cX8_layPlan 91 = .ok (.imul, 1) := by decide +kernel
theorem dX8_layPlan_92 : decode cX8_layPlan 92 = .ok (.idiv, 1) := by decide +kernel
theorem dX8_layPlan_93 : decode cX8_layPlan 93 = .ok (.istore_n 2, 1) := by decide +kernel
theorem dX8_layPlan_94 : decode cX8_layPlan 94 = .ok (.aload_n 0, 1) := by decide +kernel
theorem dX8_layPlan_95 : decode cX8_layPlan 95 = .ok (.getfield 50, 3) := by decide +kernel
theorem dX8_layPlan_98 : decode cX8_layPlan 98 = .ok (.iload_n 3, 1) := by decide +kernel
theorem dX8_layPlan_99 : decode cX8_layPlan 99 = .ok (.iconst 4, 1) := by decide +kernel
theorem dX8_layPlan_100 : decode cX8_layPlan 100 = .ok (.iload 4, 2) := by decide +kernel
theorem dX8_layPlan_102 : decode cX8_layPlan 102 = .ok (.imul, 1) := by decide +kernel
theorem dX8_layPlan_103 : decode cX8_layPlan 103 = .ok (.iload 5, 2) := by decide +kernel
theorem dX8_layPlan_105 : decode cX8_layPlan 105 = .ok (.iadd, 1) := by decide +kernel
theorem dX8_layPlan_106 : decode cX8_layPlan 106 = .ok (.iastore, 1) := by decide +kernel
theorem dX8_layPlan_107 : decode cX8_layPlan 107 = .ok (.aload_n 0, 1) := by decide +kernel
theorem dX8_layPlan_108 : decode cX8_layPlan 108 = .ok (.getfield 47, 3) := by decide +kernel
theorem dX8_layPlan_111 : decode cX8_layPlan 111 = .ok (.iload_n 3, 1) := by decide +kernel
theorem dX8_layPlan_112 : decode cX8_layPlan 112 = .ok (.aload_n 0, 1) := by decide +kernel
theorem dX8_layPlan_113 : decode cX8_layPlan 113 = .ok (.getfield 34, 3) := by decide +kernel
theorem dX8_layPlan_116 : decode cX8_layPlan 116 = .ok (.iload 4, 2) := by decide +kernel
theorem dX8_layPlan_118 : decode cX8_layPlan 118 = .ok (.iaload, 1) := by decide +kernel
theorem dX8_layPlan_119 : decode cX8_layPlan 119 = .ok (.aload_n 0, 1) := by decide +kernel
theorem dX8_layPlan_120 : decode cX8_layPlan 120 = .ok (.getfield 34, 3) := by decide +kernel
theorem dX8_layPlan_123 : decode cX8_layPlan 123 = .ok (.iload 5, 2) := by decide +kernel
theorem dX8_layPlan_125 : decode cX8_layPlan 125 = .ok (.iaload, 1) := by decide +kernel
theorem dX8_layPlan_126 : decode cX8_layPlan 126 = .ok (.iadd, 1) := by decide +kernel
theorem dX8_layPlan_127 : decode cX8_layPlan 127 = .ok (.iastore, 1) := by decide +kernel
theorem dX8_layPlan_128 : decode cX8_layPlan 128 = .ok (.iload 4, 2) := by decide +kernel
theorem dX8_layPlan_130 : decode cX8_layPlan 130 = .ok (.iload 5, 2) := by decide +kernel
theorem dX8_layPlan_132 : decode cX8_layPlan 132 = .ok (.if_icmp .ne 12, 3) := by decide +kernel
theorem dX8_layPlan_135 : decode cX8_layPlan 135 = .ok (.aload_n 0, 1) := by decide +kernel
theorem dX8_layPlan_136 : decode cX8_layPlan 136 = .ok (.getfield 13, 3) := by decide +kernel
theorem dX8_layPlan_139 : decode cX8_layPlan 139 = .ok (.iload_n 3, 1) := by decide +kernel
theorem dX8_layPlan_140 : decode cX8_layPlan 140 = .ok (.iaload, 1) := by decide +kernel
theorem dX8_layPlan_141 : decode cX8_layPlan 141 = .ok (.goto 12, 3) := by decide +kernel
theorem dX8_layPlan_144 : decode cX8_layPlan 144 = .ok (.aload_n 0, 1) := by decide +kernel
theorem dX8_layPlan_145 : decode cX8_layPlan 145 = .ok (.getfield 13, 3) := by decide +kernel
theorem dX8_layPlan_148 : decode cX8_layPlan 148 = .ok (.iload_n 3, 1) := by decide +kernel
theorem dX8_layPlan_149 : decode cX8_layPlan 149 = .ok (.iaload, 1) := by decide +kernel
theorem dX8_layPlan_150 : decode cX8_layPlan 150 = .ok (.invokestatic 162, 3) := by decide +kernel
theorem dX8_layPlan_153 : decode cX8_layPlan 153 = .ok (.istore 6, 2) := by decide +kernel
theorem dX8_layPlan_155 : decode cX8_layPlan 155 = .ok (.aload_n 0, 1) := by decide +kernel
theorem dX8_layPlan_156 : decode cX8_layPlan 156 = .ok (.getfield 53, 3) := by decide +kernel
theorem dX8_layPlan_159 : decode cX8_layPlan 159 = .ok (.iload 4, 2) := by decide +kernel
theorem dX8_layPlan_161 : decode cX8_layPlan 161 = .ok (.dup2, 1) := by decide +kernel
theorem dX8_layPlan_162 : decode cX8_layPlan 162 = .ok (.iaload, 1) := by decide +kernel
theorem dX8_layPlan_163 : decode cX8_layPlan 163 = .ok (.iload 6, 2) := by decide +kernel
theorem dX8_layPlan_165 : decode cX8_layPlan 165 = .ok (.iadd, 1) := by decide +kernel
theorem dX8_layPlan_166 : decode cX8_layPlan 166 = .ok (.iastore, 1) := by decide +kernel
theorem dX8_layPlan_167 : decode cX8_layPlan 167 = .ok (.aload_n 0, 1) := by decide +kernel
theorem dX8_layPlan_168 : decode cX8_layPlan 168 = .ok (.getfield 53, 3) := by decide +kernel
theorem dX8_layPlan_171 : decode cX8_layPlan 171 = .ok (.iload 5, 2) := by decide +kernel
theorem dX8_layPlan_173 : decode cX8_layPlan 173 = .ok (.dup2, 1) := by decide +kernel
theorem dX8_layPlan_174 : decode cX8_layPlan 174 = .ok (.iaload, 1) := by decide +kernel
theorem dX8_layPlan_175 : decode cX8_layPlan 175 = .ok (.aload_n 0, 1) := by decide +kernel
theorem dX8_layPlan_176 : decode cX8_layPlan 176 = .ok (.getfield 13, 3) := by decide +kernel
theorem dX8_layPlan_179 : decode cX8_layPlan 179 = .ok (.iload_n 3, 1) := by decide +kernel
theorem dX8_layPlan_180 : decode cX8_layPlan 180 = .ok (.iaload, 1) := by decide +kernel
theorem dX8_layPlan_181 : decode cX8_layPlan 181 = .ok (.iload 6, 2) := by decide +kernel
theorem dX8_layPlan_183 : decode cX8_layPlan 183 = .ok (.isub, 1) := by decide +kernel
theorem dX8_layPlan_184 : decode cX8_layPlan 184 = .ok (.iadd, 1) := by decide +kernel
theorem dX8_layPlan_185 : decode cX8_layPlan 185 = .ok (.iastore, 1) := by decide +kernel
theorem dX8_layPlan_186 : decode cX8_layPlan 186 = .ok (.iinc 3 (-1), 3) := by decide +kernel
theorem dX8_layPlan_189 : decode cX8_layPlan 189 = .ok (.goto (-160), 3) := by decide +kernel
theorem dX8_layPlan_192 : decode cX8_layPlan 192 = .ok (.iconst 1, 1) := by decide +kernel
theorem dX8_layPlan_193 : decode cX8_layPlan 193 = .ok (.istore_n 3, 1) := by decide +kernel
theorem dX8_layPlan_194 : decode cX8_layPlan 194 = .ok (.iconst 0, 1) := by decide +kernel
theorem dX8_layPlan_195 : decode cX8_layPlan 195 = .ok (.istore 4, 2) := by decide +kernel
theorem dX8_layPlan_197 : decode cX8_layPlan 197 = .ok (.iload 4, 2) := by decide +kernel
theorem dX8_layPlan_199 : decode cX8_layPlan 199 = .ok (.aload_n 0, 1) := by decide +kernel
theorem dX8_layPlan_200 : decode cX8_layPlan 200 = .ok (.getfield 132, 3) := by decide +kernel
theorem dX8_layPlan_203 : decode cX8_layPlan 203 = .ok (.if_icmp .ge 35, 3) := by decide +kernel
theorem dX8_layPlan_206 : decode cX8_layPlan 206 = .ok (.iload_n 3, 1) := by decide +kernel
theorem dX8_layPlan_207 : decode cX8_layPlan 207 = .ok (.ifCond .eq 23, 3) := by decide +kernel
theorem dX8_layPlan_210 : decode cX8_layPlan 210 = .ok (.aload_n 0, 1) := by decide +kernel
theorem dX8_layPlan_211 : decode cX8_layPlan 211 = .ok (.getfield 53, 3) := by decide +kernel
theorem dX8_layPlan_214 : decode cX8_layPlan 214 = .ok (.iload 4, 2) := by decide +kernel
theorem dX8_layPlan_216 : decode cX8_layPlan 216 = .ok (.iaload, 1) := by decide +kernel
theorem dX8_layPlan_217 : decode cX8_layPlan 217 = .ok (.aload_n 0, 1) := by decide +kernel
theorem dX8_layPlan_218 : decode cX8_layPlan 218 = .ok (.iload 4, 2) := by decide +kernel
theorem dX8_layPlan_220 : decode cX8_layPlan 220 = .ok (.invokevirtual 165, 3) := by decide +kernel
theorem dX8_layPlan_223 : decode cX8_layPlan 223 = .ok (.if_icmp .gt 7, 3) := by decide +kernel
theorem dX8_layPlan_226 : decode cX8_layPlan 226 = .ok (.iconst 1, 1) := by decide +kernel
theorem dX8_layPlan_227 : decode cX8_layPlan 227 = .ok (.goto 4, 3) := by decide +kernel
theorem dX8_layPlan_230 : decode cX8_layPlan 230 = .ok (.iconst 0, 1) := by decide +kernel
theorem dX8_layPlan_231 : decode cX8_layPlan 231 = .ok (.istore_n 3, 1) := by decide +kernel
theorem dX8_layPlan_232 : decode cX8_layPlan 232 = .ok (.iinc 4 1, 3) := by decide +kernel
theorem dX8_layPlan_235 : decode cX8_layPlan 235 = .ok (.goto (-38), 3) := by decide +kernel
theorem dX8_layPlan_238 : decode cX8_layPlan 238 = .ok (.iload_n 3, 1) := by decide +kernel
theorem dX8_layPlan_239 : decode cX8_layPlan 239 = .ok (.ireturn, 1) := by decide +kernel
theorem dX8_planSeen_0 : decode cX8_planSeen 0 = .ok (.iconst 0, 1) := by decide +kernel
theorem dX8_planSeen_1 : decode cX8_planSeen 1 = .ok (.istore_n 1, 1) := by decide +kernel
theorem dX8_planSeen_2 : decode cX8_planSeen 2 = .ok (.iconst 0, 1) := by decide +kernel
theorem dX8_planSeen_3 : decode cX8_planSeen 3 = .ok (.istore_n 2, 1) := by decide +kernel
theorem dX8_planSeen_4 : decode cX8_planSeen 4 = .ok (.iload_n 2, 1) := by decide +kernel
theorem dX8_planSeen_5 : decode cX8_planSeen 5 = .ok (.iconst 1, 1) := by decide +kernel
theorem dX8_planSeen_6 : decode cX8_planSeen 6 = .ok (.iadd, 1) := by decide +kernel
theorem dX8_planSeen_7 : decode cX8_planSeen 7 = .ok (.aload_n 0, 1) := by decide +kernel
theorem dX8_planSeen_8 : decode cX8_planSeen 8 = .ok (.getfield 119, 3) := by decide +kernel
theorem dX8_planSeen_11 : decode cX8_planSeen 11 = .ok (.if_icmp .ge 31, 3) := by decide +kernel
theorem dX8_planSeen_14 : decode cX8_planSeen 14 = .ok (.iload_n 1, 1) := by decide +kernel
theorem dX8_planSeen_15 : decode cX8_planSeen 15 = .ok (.aload_n 0, 1) := by decide +kernel
theorem dX8_planSeen_16 : decode cX8_planSeen 16 = .ok (.iload_n 2, 1) := by decide +kernel
theorem dX8_planSeen_17 : decode cX8_planSeen 17 = .ok (.aload_n 0, 1) := by decide +kernel
theorem dX8_planSeen_18 : decode cX8_planSeen 18 = .ok (.getfield 47, 3) := by decide +kernel
theorem dX8_planSeen_21 : decode cX8_planSeen 21 = .ok (.iload_n 2, 1) := by decide +kernel
theorem dX8_planSeen_22 : decode cX8_planSeen 22 = .ok (.iaload, 1) := by decide +kernel
theorem dX8_planSeen_23 : decode cX8_planSeen 23 = .ok (.aload_n 0, 1) := by decide +kernel
theorem dX8_planSeen_24 : decode cX8_planSeen 24 = .ok (.getfield 47, 3) := by decide +kernel
theorem dX8_planSeen_27 : decode cX8_planSeen 27 = .ok (.iload_n 2, 1) := by decide +kernel
theorem dX8_planSeen_28 : decode cX8_planSeen 28 = .ok (.iconst 1, 1) := by decide +kernel
theorem dX8_planSeen_29 : decode cX8_planSeen 29 = .ok (.iadd, 1) := by decide +kernel
theorem dX8_planSeen_30 : decode cX8_planSeen 30 = .ok (.iaload, 1) := by decide +kernel
theorem dX8_planSeen_31 : decode cX8_planSeen 31 = .ok (.invokevirtual 141, 3) := by decide +kernel
theorem dX8_planSeen_34 : decode cX8_planSeen 34 = .ok (.iadd, 1) := by decide +kernel
theorem dX8_planSeen_35 : decode cX8_planSeen 35 = .ok (.istore_n 1, 1) := by decide +kernel
theorem dX8_planSeen_36 : decode cX8_planSeen 36 = .ok (.iinc 2 1, 3) := by decide +kernel
theorem dX8_planSeen_39 : decode cX8_planSeen 39 = .ok (.goto (-35), 3) := by decide +kernel
theorem dX8_planSeen_42 : decode cX8_planSeen 42 = .ok (.iload_n 1, 1) := by decide +kernel
theorem dX8_planSeen_43 : decode cX8_planSeen 43 = .ok (.ireturn, 1) := by decide +kernel
theorem dX8_leastNow_0 : decode cX8_leastNow 0 = .ok (.iconst (-1), 1) := by decide +kernel
theorem dX8_leastNow_1 : decode cX8_leastNow 1 = .ok (.istore_n 2, 1) := by decide +kernel
theorem dX8_leastNow_2 : decode cX8_leastNow 2 = .ok (.ldc 184, 2) := by decide +kernel
theorem dX8_leastNow_4 : decode cX8_leastNow 4 = .ok (.istore_n 3, 1) := by decide +kernel
theorem dX8_leastNow_5 : decode cX8_leastNow 5 = .ok (.iconst 0, 1) := by decide +kernel
theorem dX8_leastNow_6 : decode cX8_leastNow 6 = .ok (.istore 4, 2) := by decide +kernel
theorem dX8_leastNow_8 : decode cX8_leastNow 8 = .ok (.iload 4, 2) := by decide +kernel
theorem dX8_leastNow_10 : decode cX8_leastNow 10 = .ok (.aload_n 0, 1) := by decide +kernel
theorem dX8_leastNow_11 : decode cX8_leastNow 11 = .ok (.invokevirtual 185, 3) := by decide +kernel
theorem dX8_leastNow_14 : decode cX8_leastNow 14 = .ok (.if_icmp .ge 50, 3) := by decide +kernel
theorem dX8_leastNow_17 : decode cX8_leastNow 17 = .ok (.aload_n 0, 1) := by decide +kernel
theorem dX8_leastNow_18 : decode cX8_leastNow 18 = .ok (.iload 4, 2) := by decide +kernel
theorem dX8_leastNow_20 : decode cX8_leastNow 20 = .ok (.invokevirtual 188, 3) := by decide +kernel
theorem dX8_leastNow_23 : decode cX8_leastNow 23 = .ok (.ifCond .eq 35, 3) := by decide +kernel
theorem dX8_leastNow_26 : decode cX8_leastNow 26 = .ok (.aload_n 0, 1) := by decide +kernel
theorem dX8_leastNow_27 : decode cX8_leastNow 27 = .ok (.invokevirtual 191, 3) := by decide +kernel
theorem dX8_leastNow_30 : decode cX8_leastNow 30 = .ok (.istore 5, 2) := by decide +kernel
theorem dX8_leastNow_32 : decode cX8_leastNow 32 = .ok (.iload 5, 2) := by decide +kernel
theorem dX8_leastNow_34 : decode cX8_leastNow 34 = .ok (.iload_n 3, 1) := by decide +kernel
theorem dX8_leastNow_35 : decode cX8_leastNow 35 = .ok (.if_icmp .ge 8, 3) := by decide +kernel
theorem dX8_leastNow_38 : decode cX8_leastNow 38 = .ok (.iload 4, 2) := by decide +kernel
theorem dX8_leastNow_40 : decode cX8_leastNow 40 = .ok (.goto 4, 3) := by decide +kernel
theorem dX8_leastNow_43 : decode cX8_leastNow 43 = .ok (.iload_n 2, 1) := by decide +kernel
theorem dX8_leastNow_44 : decode cX8_leastNow 44 = .ok (.istore_n 2, 1) := by decide +kernel
theorem dX8_leastNow_45 : decode cX8_leastNow 45 = .ok (.iload 5, 2) := by decide +kernel
theorem dX8_leastNow_47 : decode cX8_leastNow 47 = .ok (.iload_n 3, 1) := by decide +kernel
theorem dX8_leastNow_48 : decode cX8_leastNow 48 = .ok (.if_icmp .ge 8, 3) := by decide +kernel
theorem dX8_leastNow_51 : decode cX8_leastNow 51 = .ok (.iload 5, 2) := by decide +kernel
theorem dX8_leastNow_53 : decode cX8_leastNow 53 = .ok (.goto 4, 3) := by decide +kernel
theorem dX8_leastNow_56 : decode cX8_leastNow 56 = .ok (.iload_n 3, 1) := by decide +kernel
theorem dX8_leastNow_57 : decode cX8_leastNow 57 = .ok (.istore_n 3, 1) := by decide +kernel
theorem dX8_leastNow_58 : decode cX8_leastNow 58 = .ok (.iinc 4 1, 3) := by decide +kernel
theorem dX8_leastNow_61 : decode cX8_leastNow 61 = .ok (.goto (-53), 3) := by decide +kernel
theorem dX8_leastNow_64 : decode cX8_leastNow 64 = .ok (.iload_n 2, 1) := by decide +kernel
theorem dX8_leastNow_65 : decode cX8_leastNow 65 = .ok (.iconst (-1), 1) := by decide +kernel
theorem dX8_leastNow_66 : decode cX8_leastNow 66 = .ok (.if_icmp .eq 7, 3) := by decide +kernel
theorem dX8_leastNow_69 : decode cX8_leastNow 69 = .ok (.iload_n 1, 1) := by decide +kernel
theorem dX8_leastNow_70 : decode cX8_leastNow 70 = .ok (.ifCond .ne 14, 3) := by decide +kernel
theorem dX8_leastNow_73 : decode cX8_leastNow 73 = .ok (.iload_n 2, 1) := by decide +kernel
theorem dX8_leastNow_74 : decode cX8_leastNow 74 = .ok (.iconst (-1), 1) := by decide +kernel
theorem dX8_leastNow_75 : decode cX8_leastNow 75 = .ok (.if_icmp .ne 7, 3) := by decide +kernel
theorem dX8_leastNow_78 : decode cX8_leastNow 78 = .ok (.iconst (-1), 1) := by decide +kernel
theorem dX8_leastNow_79 : decode cX8_leastNow 79 = .ok (.goto 4, 3) := by decide +kernel
theorem dX8_leastNow_82 : decode cX8_leastNow 82 = .ok (.iload_n 3, 1) := by decide +kernel
theorem dX8_leastNow_83 : decode cX8_leastNow 83 = .ok (.ireturn, 1) := by decide +kernel
theorem dX8_leastNow_84 : decode cX8_leastNow 84 = .ok (.aload_n 0, 1) := by decide +kernel
theorem dX8_leastNow_85 : decode cX8_leastNow 85 = .ok (.iload_n 2, 1) := by decide +kernel
theorem dX8_leastNow_86 : decode cX8_leastNow 86 = .ok (.invokevirtual 188, 3) := by decide +kernel
theorem dX8_leastNow_89 : decode cX8_leastNow 89 = .ok (.pop, 1) := by decide +kernel
theorem dX8_leastNow_90 : decode cX8_leastNow 90 = .ok (.iload_n 1, 1) := by decide +kernel
theorem dX8_leastNow_91 : decode cX8_leastNow 91 = .ok (.bipush 10, 2) := by decide +kernel
theorem dX8_leastNow_93 : decode cX8_leastNow 93 = .ok (.isub, 1) := by decide +kernel
theorem dX8_leastNow_94 : decode cX8_leastNow 94 = .ok (.aload_n 0, 1) := by decide +kernel
theorem dX8_leastNow_95 : decode cX8_leastNow 95 = .ok (.getfield 119, 3) := by decide +kernel
theorem dX8_leastNow_98 : decode cX8_leastNow 98 = .ok (.if_icmp .ge 15, 3) := by decide +kernel
theorem dX8_leastNow_101 : decode cX8_leastNow 101 = .ok (.aload_n 0, 1) := by decide +kernel
theorem dX8_leastNow_102 : decode cX8_leastNow 102 = .ok (.getfield 50, 3) := by decide +kernel
theorem dX8_leastNow_105 : decode cX8_leastNow 105 = .ok (.iload_n 1, 1) := by decide +kernel
theorem dX8_leastNow_106 : decode cX8_leastNow 106 = .ok (.bipush 10, 2) := by decide +kernel
theorem dX8_leastNow_108 : decode cX8_leastNow 108 = .ok (.isub, 1) := by decide +kernel
theorem dX8_leastNow_109 : decode cX8_leastNow 109 = .ok (.iaload, 1) := by decide +kernel
theorem dX8_leastNow_110 : decode cX8_leastNow 110 = .ok (.goto 4, 3) := by decide +kernel
theorem dX8_leastNow_113 : decode cX8_leastNow 113 = .ok (.iconst (-1), 1) := by decide +kernel
theorem dX8_leastNow_114 : decode cX8_leastNow 114 = .ok (.ireturn, 1) := by decide +kernel
theorem dX8_least_0 : decode cX8_least 0 = .ok (.iload_n 1, 1) := by decide +kernel
theorem dX8_least_1 : decode cX8_least 1 = .ok (.ifCond .eq 17, 3) := by decide +kernel
theorem dX8_least_4 : decode cX8_least 4 = .ok (.iload_n 1, 1) := by decide +kernel
theorem dX8_least_5 : decode cX8_least 5 = .ok (.bipush 10, 2) := by decide +kernel
theorem dX8_least_7 : decode cX8_least 7 = .ok (.bipush 14, 2) := by decide +kernel
theorem dX8_least_9 : decode cX8_least 9 = .ok (.invokestatic 86, 3) := by decide +kernel
theorem dX8_least_12 : decode cX8_least 12 = .ok (.ifCond .ne 6, 3) := by decide +kernel
theorem dX8_least_15 : decode cX8_least 15 = .ok (.bipush (-102), 2) := by decide +kernel
theorem dX8_least_17 : decode cX8_least 17 = .ok (.ireturn, 1) := by decide +kernel
theorem dX8_least_18 : decode cX8_least 18 = .ok (.aload_n 0, 1) := by decide +kernel
theorem dX8_least_19 : decode cX8_least 19 = .ok (.getfield 119, 3) := by decide +kernel
theorem dX8_least_22 : decode cX8_least 22 = .ok (.ifCond .eq 12, 3) := by decide +kernel
theorem dX8_least_25 : decode cX8_least 25 = .ok (.aload_n 0, 1) := by decide +kernel
theorem dX8_least_26 : decode cX8_least 26 = .ok (.getfield 194, 3) := by decide +kernel
theorem dX8_least_29 : decode cX8_least 29 = .ok (.bipush 20, 2) := by decide +kernel
theorem dX8_least_31 : decode cX8_least 31 = .ok (.if_icmp .ne 6, 3) := by decide +kernel
theorem dX8_least_34 : decode cX8_least 34 = .ok (.bipush (-103), 2) := by decide +kernel
theorem dX8_least_36 : decode cX8_least 36 = .ok (.ireturn, 1) := by decide +kernel
theorem dX8_least_37 : decode cX8_least 37 = .ok (.aload_n 0, 1) := by decide +kernel
theorem dX8_least_38 : decode cX8_least 38 = .ok (.dup, 1) := by decide +kernel
theorem dX8_least_39 : decode cX8_least 39 = .ok (.getfield 194, 3) := by decide +kernel
theorem dX8_least_42 : decode cX8_least 42 = .ok (.iconst 1, 1) := by decide +kernel
theorem dX8_least_43 : decode cX8_least 43 = .ok (.iadd, 1) := by decide +kernel
theorem dX8_least_44 : decode cX8_least 44 = .ok (.putfield 194, 3) := by decide +kernel
theorem dX8_least_47 : decode cX8_least 47 = .ok (.aload_n 0, 1) := by decide +kernel
theorem dX8_least_48 : decode cX8_least 48 = .ok (.iload_n 1, 1) := by decide +kernel
theorem dX8_least_49 : decode cX8_least 49 = .ok (.invokevirtual 197, 3) := by decide +kernel
theorem dX8_least_52 : decode cX8_least 52 = .ok (.ireturn, 1) := by decide +kernel
theorem dX8_wantedNow_0 : decode cX8_wantedNow 0 = .ok (.iconst 0, 1) := by decide +kernel
theorem dX8_wantedNow_1 : decode cX8_wantedNow 1 = .ok (.istore_n 3, 1) := by decide +kernel
theorem dX8_wantedNow_2 : decode cX8_wantedNow 2 = .ok (.iconst 0, 1) := by decide +kernel
theorem dX8_wantedNow_3 : decode cX8_wantedNow 3 = .ok (.istore 4, 2) := by decide +kernel
theorem dX8_wantedNow_5 : decode cX8_wantedNow 5 = .ok (.iconst 0, 1) := by decide +kernel
theorem dX8_wantedNow_6 : decode cX8_wantedNow 6 = .ok (.istore 5, 2) := by decide +kernel
theorem dX8_wantedNow_8 : decode cX8_wantedNow 8 = .ok (.iconst 0, 1) := by decide +kernel
theorem dX8_wantedNow_9 : decode cX8_wantedNow 9 = .ok (.istore 6, 2) := by decide +kernel
theorem dX8_wantedNow_11 : decode cX8_wantedNow 11 = .ok (.iload 6, 2) := by decide +kernel
theorem dX8_wantedNow_13 : decode cX8_wantedNow 13 = .ok (.aload_n 0, 1) := by decide +kernel
theorem dX8_wantedNow_14 : decode cX8_wantedNow 14 = .ok (.getfield 119, 3) := by decide +kernel
theorem dX8_wantedNow_17 : decode cX8_wantedNow 17 = .ok (.if_icmp .ge 88, 3) := by decide +kernel
theorem dX8_wantedNow_20 : decode cX8_wantedNow 20 = .ok (.iload_n 3, 1) := by decide +kernel
theorem dX8_wantedNow_21 : decode cX8_wantedNow 21 = .ok (.aload_n 0, 1) := by decide +kernel
theorem dX8_wantedNow_22 : decode cX8_wantedNow 22 = .ok (.getfield 16, 3) := by decide +kernel
theorem dX8_wantedNow_25 : decode cX8_wantedNow 25 = .ok (.iload 6, 2) := by decide +kernel
theorem dX8_wantedNow_27 : decode cX8_wantedNow 27 = .ok (.iaload, 1) := by decide +kernel
theorem dX8_wantedNow_28 : decode cX8_wantedNow 28 = .ok (.iconst (-1), 1) := by decide +kernel
theorem dX8_wantedNow_29 : decode cX8_wantedNow 29 = .ok (.if_icmp .ne 13, 3) := by decide +kernel
theorem dX8_wantedNow_32 : decode cX8_wantedNow 32 = .ok (.aload_n 0, 1) := by decide +kernel
theorem dX8_wantedNow_33 : decode cX8_wantedNow 33 = .ok (.getfield 13, 3) := by decide +kernel
theorem dX8_wantedNow_36 : decode cX8_wantedNow 36 = .ok (.iload 6, 2) := by decide +kernel
theorem dX8_wantedNow_38 : decode cX8_wantedNow 38 = .ok (.iaload, 1) := by decide +kernel
theorem dX8_wantedNow_39 : decode cX8_wantedNow 39 = .ok (.goto 4, 3) := by decide +kernel
theorem dX8_wantedNow_42 : decode cX8_wantedNow 42 = .ok (.iconst 0, 1) := by decide +kernel
theorem dX8_wantedNow_43 : decode cX8_wantedNow 43 = .ok (.iadd, 1) := by decide +kernel
theorem dX8_wantedNow_44 : decode cX8_wantedNow 44 = .ok (.istore_n 3, 1) := by decide +kernel
theorem dX8_wantedNow_45 : decode cX8_wantedNow 45 = .ok (.iload 4, 2) := by decide +kernel
theorem dX8_wantedNow_47 : decode cX8_wantedNow 47 = .ok (.aload_n 0, 1) := by decide +kernel
theorem dX8_wantedNow_48 : decode cX8_wantedNow 48 = .ok (.getfield 28, 3) := by decide +kernel
theorem dX8_wantedNow_51 : decode cX8_wantedNow 51 = .ok (.iload 6, 2) := by decide +kernel
theorem dX8_wantedNow_53 : decode cX8_wantedNow 53 = .ok (.iaload, 1) := by decide +kernel
theorem dX8_wantedNow_54 : decode cX8_wantedNow 54 = .ok (.iconst (-1), 1) := by decide +kernel
theorem dX8_wantedNow_55 : decode cX8_wantedNow 55 = .ok (.if_icmp .ne 7, 3) := by decide +kernel
theorem dX8_wantedNow_58 : decode cX8_wantedNow 58 = .ok (.iconst 0, 1) := by decide +kernel
theorem dX8_wantedNow_59 : decode cX8_wantedNow 59 = .ok (.goto 10, 3) := by decide +kernel
theorem dX8_wantedNow_62 : decode cX8_wantedNow 62 = .ok (.aload_n 0, 1) := by decide +kernel
theorem dX8_wantedNow_63 : decode cX8_wantedNow 63 = .ok (.getfield 28, 3) := by decide +kernel
theorem dX8_wantedNow_66 : decode cX8_wantedNow 66 = .ok (.iload 6, 2) := by decide +kernel
theorem dX8_wantedNow_68 : decode cX8_wantedNow 68 = .ok (.iaload, 1) := by decide +kernel
theorem dX8_wantedNow_69 : decode cX8_wantedNow 69 = .ok (.iadd, 1) := by decide +kernel
theorem dX8_wantedNow_70 : decode cX8_wantedNow 70 = .ok (.istore 4, 2) := by decide +kernel
theorem dX8_wantedNow_72 : decode cX8_wantedNow 72 = .ok (.iload 5, 2) := by decide +kernel
theorem dX8_wantedNow_74 : decode cX8_wantedNow 74 = .ok (.aload_n 0, 1) := by decide +kernel
theorem dX8_wantedNow_75 : decode cX8_wantedNow 75 = .ok (.getfield 28, 3) := by decide +kernel
theorem dX8_wantedNow_78 : decode cX8_wantedNow 78 = .ok (.iload 6, 2) := by decide +kernel
theorem dX8_wantedNow_80 : decode cX8_wantedNow 80 = .ok (.iaload, 1) := by decide +kernel
theorem dX8_wantedNow_81 : decode cX8_wantedNow 81 = .ok (.iconst (-1), 1) := by decide +kernel
theorem dX8_wantedNow_82 : decode cX8_wantedNow 82 = .ok (.if_icmp .ne 7, 3) := by decide +kernel
theorem dX8_wantedNow_85 : decode cX8_wantedNow 85 = .ok (.iconst 0, 1) := by decide +kernel
theorem dX8_wantedNow_86 : decode cX8_wantedNow 86 = .ok (.goto 10, 3) := by decide +kernel
theorem dX8_wantedNow_89 : decode cX8_wantedNow 89 = .ok (.aload_n 0, 1) := by decide +kernel
theorem dX8_wantedNow_90 : decode cX8_wantedNow 90 = .ok (.getfield 13, 3) := by decide +kernel
theorem dX8_wantedNow_93 : decode cX8_wantedNow 93 = .ok (.iload 6, 2) := by decide +kernel
theorem dX8_wantedNow_95 : decode cX8_wantedNow 95 = .ok (.iaload, 1) := by decide +kernel
theorem dX8_wantedNow_96 : decode cX8_wantedNow 96 = .ok (.iadd, 1) := by decide +kernel
theorem dX8_wantedNow_97 : decode cX8_wantedNow 97 = .ok (.istore 5, 2) := by decide +kernel
theorem dX8_wantedNow_99 : decode cX8_wantedNow 99 = .ok (.iinc 6 1, 3) := by decide +kernel
theorem dX8_wantedNow_102 : decode cX8_wantedNow 102 = .ok (.goto (-91), 3) := by decide +kernel
theorem dX8_wantedNow_105 : decode cX8_wantedNow 105 = .ok (.iload_n 2, 1) := by decide +kernel
theorem dX8_wantedNow_106 : decode cX8_wantedNow 106 = .ok (.ifCond .eq 8, 3) := by decide +kernel
theorem dX8_wantedNow_109 : decode cX8_wantedNow 109 = .ok (.iload 5, 2) := by decide +kernel
theorem dX8_wantedNow_111 : decode cX8_wantedNow 111 = .ok (.ifCond .ne 7, 3) := by decide +kernel
theorem dX8_wantedNow_114 : decode cX8_wantedNow 114 = .ok (.iload_n 3, 1) := by decide +kernel
theorem dX8_wantedNow_115 : decode cX8_wantedNow 115 = .ok (.goto 15, 3) := by decide +kernel
theorem dX8_wantedNow_118 : decode cX8_wantedNow 118 = .ok (.iload_n 3, 1) := by decide +kernel
theorem dX8_wantedNow_119 : decode cX8_wantedNow 119 = .ok (.iload 4, 2) := by decide +kernel
theorem dX8_wantedNow_121 : decode cX8_wantedNow 121 = .ok (.imul, 1) := by decide +kernel
theorem dX8_wantedNow_122 : decode cX8_wantedNow 122 = .ok (.iload 5, 2) := by decide +kernel
theorem dX8_wantedNow_124 : decode cX8_wantedNow 124 = .ok (.iadd, 1) := by decide +kernel
theorem dX8_wantedNow_125 : decode cX8_wantedNow 125 = .ok (.iconst 1, 1) := by decide +kernel
theorem dX8_wantedNow_126 : decode cX8_wantedNow 126 = .ok (.isub, 1) := by decide +kernel
theorem dX8_wantedNow_127 : decode cX8_wantedNow 127 = .ok (.iload 5, 2) := by decide +kernel
theorem dX8_wantedNow_129 : decode cX8_wantedNow 129 = .ok (.idiv, 1) := by decide +kernel
theorem dX8_wantedNow_130 : decode cX8_wantedNow 130 = .ok (.istore 6, 2) := by decide +kernel
theorem dX8_wantedNow_132 : decode cX8_wantedNow 132 = .ok (.iload 6, 2) := by decide +kernel
theorem dX8_wantedNow_134 : decode cX8_wantedNow 134 = .ok (.aload_n 0, 1) := by decide +kernel
theorem dX8_wantedNow_135 : decode cX8_wantedNow 135 = .ok (.iload_n 1, 1) := by decide +kernel
theorem dX8_wantedNow_136 : decode cX8_wantedNow 136 = .ok (.invokevirtual 165, 3) := by decide +kernel
theorem dX8_wantedNow_139 : decode cX8_wantedNow 139 = .ok (.isub, 1) := by decide +kernel
theorem dX8_wantedNow_140 : decode cX8_wantedNow 140 = .ok (.istore 7, 2) := by decide +kernel
theorem dX8_wantedNow_142 : decode cX8_wantedNow 142 = .ok (.iload 7, 2) := by decide +kernel
theorem dX8_wantedNow_144 : decode cX8_wantedNow 144 = .ok (.ifCond .gt 7, 3) := by decide +kernel
theorem dX8_wantedNow_147 : decode cX8_wantedNow 147 = .ok (.iconst 0, 1) := by decide +kernel
theorem dX8_wantedNow_148 : decode cX8_wantedNow 148 = .ok (.goto 11, 3) := by decide +kernel
theorem dX8_wantedNow_151 : decode cX8_wantedNow 151 = .ok (.iload 7, 2) := by decide +kernel
theorem dX8_wantedNow_153 : decode cX8_wantedNow 153 = .ok (.iconst 4, 1) := by decide +kernel
theorem dX8_wantedNow_154 : decode cX8_wantedNow 154 = .ok (.iadd, 1) := by decide +kernel
theorem dX8_wantedNow_155 : decode cX8_wantedNow 155 = .ok (.iconst 1, 1) := by decide +kernel
theorem dX8_wantedNow_156 : decode cX8_wantedNow 156 = .ok (.isub, 1) := by decide +kernel
theorem dX8_wantedNow_157 : decode cX8_wantedNow 157 = .ok (.iconst 4, 1) := by decide +kernel
theorem dX8_wantedNow_158 : decode cX8_wantedNow 158 = .ok (.idiv, 1) := by decide +kernel
theorem dX8_wantedNow_159 : decode cX8_wantedNow 159 = .ok (.ireturn, 1) := by decide +kernel
theorem dX8_wanted_0 : decode cX8_wanted 0 = .ok (.aload_n 0, 1) := by decide +kernel
theorem dX8_wanted_1 : decode cX8_wanted 1 = .ok (.iload_n 1, 1) := by decide +kernel
theorem dX8_wanted_2 : decode cX8_wanted 2 = .ok (.invokevirtual 156, 3) := by decide +kernel
theorem dX8_wanted_5 : decode cX8_wanted 5 = .ok (.ifCond .ne 6, 3) := by decide +kernel
theorem dX8_wanted_8 : decode cX8_wanted 8 = .ok (.bipush (-101), 2) := by decide +kernel
theorem dX8_wanted_10 : decode cX8_wanted 10 = .ok (.ireturn, 1) := by decide +kernel
theorem dX8_wanted_11 : decode cX8_wanted 11 = .ok (.iload_n 2, 1) := by decide +kernel
theorem dX8_wanted_12 : decode cX8_wanted 12 = .ok (.iconst 0, 1) := by decide +kernel
theorem dX8_wanted_13 : decode cX8_wanted 13 = .ok (.iconst 1, 1) := by decide +kernel
theorem dX8_wanted_14 : decode cX8_wanted 14 = .ok (.invokestatic 86, 3) := by decide +kernel
theorem dX8_wanted_17 : decode cX8_wanted 17 = .ok (.ifCond .eq 12, 3) := by decide +kernel
theorem dX8_wanted_20 : decode cX8_wanted 20 = .ok (.aload_n 0, 1) := by decide +kernel
theorem dX8_wanted_21 : decode cX8_wanted 21 = .ok (.iload_n 1, 1) := by decide +kernel
theorem dX8_wanted_22 : decode cX8_wanted 22 = .ok (.iload_n 2, 1) := by decide +kernel
theorem dX8_wanted_23 : decode cX8_wanted 23 = .ok (.invokevirtual 200, 3) := by decide +kernel
theorem dX8_wanted_26 : decode cX8_wanted 26 = .ok (.goto 5, 3) := by decide +kernel
theorem dX8_wanted_29 : decode cX8_wanted 29 = .ok (.bipush (-102), 2) := by decide +kernel
theorem dX8_wanted_31 : decode cX8_wanted 31 = .ok (.ireturn, 1) := by decide +kernel
theorem dX8_found_0 : decode cX8_found 0 = .ok (.iload_n 1, 1) := by decide +kernel
theorem dX8_found_1 : decode cX8_found 1 = .ok (.iconst 0, 1) := by decide +kernel
theorem dX8_found_2 : decode cX8_found 2 = .ok (.aload_n 0, 1) := by decide +kernel
theorem dX8_found_3 : decode cX8_found 3 = .ok (.getfield 119, 3) := by decide +kernel
theorem dX8_found_6 : decode cX8_found 6 = .ok (.iconst 2, 1) := by decide +kernel
theorem dX8_found_7 : decode cX8_found 7 = .ok (.isub, 1) := by decide +kernel
theorem dX8_found_8 : decode cX8_found 8 = .ok (.invokestatic 86, 3) := by decide +kernel
theorem dX8_found_11 : decode cX8_found 11 = .ok (.ifCond .ne 6, 3) := by decide +kernel
theorem dX8_found_14 : decode cX8_found 14 = .ok (.bipush (-101), 2) := by decide +kernel
theorem dX8_found_16 : decode cX8_found 16 = .ok (.ireturn, 1) := by decide +kernel
theorem dX8_found_17 : decode cX8_found 17 = .ok (.iload_n 2, 1) := by decide +kernel
theorem dX8_found_18 : decode cX8_found 18 = .ok (.iconst (-1), 1) := by decide +kernel
theorem dX8_found_19 : decode cX8_found 19 = .ok (.sipush 320, 3) := by decide +kernel
theorem dX8_found_22 : decode cX8_found 22 = .ok (.invokestatic 86, 3) := by decide +kernel
theorem dX8_found_25 : decode cX8_found 25 = .ok (.ifCond .ne 6, 3) := by decide +kernel
theorem dX8_found_28 : decode cX8_found 28 = .ok (.bipush (-102), 2) := by decide +kernel
theorem dX8_found_30 : decode cX8_found 30 = .ok (.ireturn, 1) := by decide +kernel
theorem dX8_found_31 : decode cX8_found 31 = .ok (.aload_n 0, 1) := by decide +kernel
theorem dX8_found_32 : decode cX8_found 32 = .ok (.getfield 31, 3) := by decide +kernel
theorem dX8_found_35 : decode cX8_found 35 = .ok (.iload_n 1, 1) := by decide +kernel
theorem dX8_found_36 : decode cX8_found 36 = .ok (.iaload, 1) := by decide +kernel
theorem dX8_found_37 : decode cX8_found 37 = .ok (.istore_n 3, 1) := by decide +kernel
theorem dX8_found_38 : decode cX8_found 38 = .ok (.aload_n 0, 1) := by decide +kernel
theorem dX8_found_39 : decode cX8_found 39 = .ok (.getfield 31, 3) := by decide +kernel
theorem dX8_found_42 : decode cX8_found 42 = .ok (.iload_n 1, 1) := by decide +kernel
theorem dX8_found_43 : decode cX8_found 43 = .ok (.iload_n 2, 1) := by decide +kernel
theorem dX8_found_44 : decode cX8_found 44 = .ok (.iastore, 1) := by decide +kernel
theorem dX8_found_45 : decode cX8_found 45 = .ok (.iload_n 3, 1) := by decide +kernel
theorem dX8_found_46 : decode cX8_found 46 = .ok (.ireturn, 1) := by decide +kernel
theorem dX8_sorts_0 : decode cX8_sorts 0 = .ok (.aload_n 0, 1) := by decide +kernel
theorem dX8_sorts_1 : decode cX8_sorts 1 = .ok (.getfield 132, 3) := by decide +kernel
theorem dX8_sorts_4 : decode cX8_sorts 4 = .ok (.aload_n 0, 1) := by decide +kernel
theorem dX8_sorts_5 : decode cX8_sorts 5 = .ok (.getfield 132, 3) := by decide +kernel
theorem dX8_sorts_8 : decode cX8_sorts 8 = .ok (.aload_n 0, 1) := by decide +kernel
theorem dX8_sorts_9 : decode cX8_sorts 9 = .ok (.getfield 132, 3) := by decide +kernel
theorem dX8_sorts_12 : decode cX8_sorts 12 = .ok (.iconst 1, 1) := by decide +kernel
theorem dX8_sorts_13 : decode cX8_sorts 13 = .ok (.isub, 1) := by decide +kernel
theorem dX8_sorts_14 : decode cX8_sorts 14 = .ok (.imul, 1) := by decide +kernel
theorem dX8_sorts_15 : decode cX8_sorts 15 = .ok (.iconst 2, 1) := by decide +kernel
theorem dX8_sorts_16 : decode cX8_sorts 16 = .ok (.idiv, 1) := by decide +kernel
theorem dX8_sorts_17 : decode cX8_sorts 17 = .ok (.iadd, 1) := by decide +kernel
theorem dX8_sorts_18 : decode cX8_sorts 18 = .ok (.ireturn, 1) := by decide +kernel
theorem dX8_sortTone_0 : decode cX8_sortTone 0 = .ok (.iload_n 1, 1) := by decide +kernel
theorem dX8_sortTone_1 : decode cX8_sortTone 1 = .ok (.aload_n 0, 1) := by decide +kernel
theorem dX8_sortTone_2 : decode cX8_sortTone 2 = .ok (.getfield 132, 3) := by decide +kernel
theorem dX8_sortTone_5 : decode cX8_sortTone 5 = .ok (.if_icmp .ge 12, 3) := by decide +kernel
theorem dX8_sortTone_8 : decode cX8_sortTone 8 = .ok (.iconst 2, 1) := by decide +kernel
theorem dX8_sortTone_9 : decode cX8_sortTone 9 = .ok (.aload_n 0, 1) := by decide +kernel
theorem dX8_sortTone_10 : decode cX8_sortTone 10 = .ok (.getfield 34, 3) := by decide +kernel
theorem dX8_sortTone_13 : decode cX8_sortTone 13 = .ok (.iload_n 1, 1) := by decide +kernel
theorem dX8_sortTone_14 : decode cX8_sortTone 14 = .ok (.iaload, 1) := by decide +kernel
theorem dX8_sortTone_15 : decode cX8_sortTone 15 = .ok (.imul, 1) := by decide +kernel
theorem dX8_sortTone_16 : decode cX8_sortTone 16 = .ok (.ireturn, 1) := by decide +kernel
theorem dX8_sortTone_17 : decode cX8_sortTone 17 = .ok (.iload_n 1, 1) := by decide +kernel
theorem dX8_sortTone_18 : decode cX8_sortTone 18 = .ok (.aload_n 0, 1) := by decide +kernel
theorem dX8_sortTone_19 : decode cX8_sortTone 19 = .ok (.getfield 132, 3) := by decide +kernel
theorem dX8_sortTone_22 : decode cX8_sortTone 22 = .ok (.isub, 1) := by decide +kernel
theorem dX8_sortTone_23 : decode cX8_sortTone 23 = .ok (.istore_n 2, 1) := by decide +kernel
theorem dX8_sortTone_24 : decode cX8_sortTone 24 = .ok (.iload_n 2, 1) := by decide +kernel
theorem dX8_sortTone_25 : decode cX8_sortTone 25 = .ok (.iconst 2, 1) := by decide +kernel
theorem dX8_sortTone_26 : decode cX8_sortTone 26 = .ok (.if_icmp .ne 7, 3) := by decide +kernel
theorem dX8_sortTone_29 : decode cX8_sortTone 29 = .ok (.iconst 1, 1) := by decide +kernel
theorem dX8_sortTone_30 : decode cX8_sortTone 30 = .ok (.goto 4, 3) := by decide +kernel
theorem dX8_sortTone_33 : decode cX8_sortTone 33 = .ok (.iconst 0, 1) := by decide +kernel
theorem dX8_sortTone_34 : decode cX8_sortTone 34 = .ok (.istore_n 3, 1) := by decide +kernel
theorem dX8_sortTone_35 : decode cX8_sortTone 35 = .ok (.iload_n 2, 1) := by decide +kernel
theorem dX8_sortTone_36 : decode cX8_sortTone 36 = .ok (.ifCond .ne 7, 3) := by decide +kernel
theorem dX8_sortTone_39 : decode cX8_sortTone 39 = .ok (.iconst 1, 1) := by decide +kernel
theorem dX8_sortTone_40 : decode cX8_sortTone 40 = .ok (.goto 4, 3) := by decide +kernel
theorem dX8_sortTone_43 : decode cX8_sortTone 43 = .ok (.iconst 2, 1) := by decide +kernel
theorem dX8_sortTone_44 : decode cX8_sortTone 44 = .ok (.istore 4, 2) := by decide +kernel
theorem dX8_sortTone_46 : decode cX8_sortTone 46 = .ok (.aload_n 0, 1) := by decide +kernel
theorem dX8_sortTone_47 : decode cX8_sortTone 47 = .ok (.getfield 34, 3) := by decide +kernel
theorem dX8_sortTone_50 : decode cX8_sortTone 50 = .ok (.iload_n 3, 1) := by decide +kernel
theorem dX8_sortTone_51 : decode cX8_sortTone 51 = .ok (.iaload, 1) := by decide +kernel
theorem dX8_sortTone_52 : decode cX8_sortTone 52 = .ok (.aload_n 0, 1) := by decide +kernel
theorem dX8_sortTone_53 : decode cX8_sortTone 53 = .ok (.getfield 34, 3) := by decide +kernel
theorem dX8_sortTone_56 : decode cX8_sortTone 56 = .ok (.iload 4, 2) := by decide +kernel
theorem dX8_sortTone_58 : decode cX8_sortTone 58 = .ok (.iaload, 1) := by decide +kernel
theorem dX8_sortTone_59 : decode cX8_sortTone 59 = .ok (.iadd, 1) := by decide +kernel
theorem dX8_sortTone_60 : decode cX8_sortTone 60 = .ok (.ireturn, 1) := by decide +kernel
theorem dX8_waysMany_0 : decode cX8_waysMany 0 = .ok (.iconst 1, 1) := by decide +kernel
theorem dX8_waysMany_1 : decode cX8_waysMany 1 = .ok (.istore_n 1, 1) := by decide +kernel
theorem dX8_waysMany_2 : decode cX8_waysMany 2 = .ok (.iconst 0, 1) := by decide +kernel
theorem dX8_waysMany_3 : decode cX8_waysMany 3 = .ok (.istore_n 2, 1) := by decide +kernel
theorem dX8_waysMany_4 : decode cX8_waysMany 4 = .ok (.iload_n 2, 1) := by decide +kernel
theorem dX8_waysMany_5 : decode cX8_waysMany 5 = .ok (.aload_n 0, 1) := by decide +kernel
theorem dX8_waysMany_6 : decode cX8_waysMany 6 = .ok (.getfield 119, 3) := by decide +kernel
theorem dX8_waysMany_9 : decode cX8_waysMany 9 = .ok (.if_icmp .ge 16, 3) := by decide +kernel
theorem dX8_waysMany_12 : decode cX8_waysMany 12 = .ok (.iload_n 1, 1) := by decide +kernel
theorem dX8_waysMany_13 : decode cX8_waysMany 13 = .ok (.aload_n 0, 1) := by decide +kernel
theorem dX8_waysMany_14 : decode cX8_waysMany 14 = .ok (.invokevirtual 203, 3) := by decide +kernel
theorem dX8_waysMany_17 : decode cX8_waysMany 17 = .ok (.imul, 1) := by decide +kernel
theorem dX8_waysMany_18 : decode cX8_waysMany 18 = .ok (.istore_n 1, 1) := by decide +kernel
theorem dX8_waysMany_19 : decode cX8_waysMany 19 = .ok (.iinc 2 1, 3) := by decide +kernel
theorem dX8_waysMany_22 : decode cX8_waysMany 22 = .ok (.goto (-18), 3) := by decide +kernel
theorem dX8_waysMany_25 : decode cX8_waysMany 25 = .ok (.iload_n 1, 1) := by decide +kernel
theorem dX8_waysMany_26 : decode cX8_waysMany 26 = .ok (.ireturn, 1) := by decide +kernel
theorem dX8_couldBe_0 : decode cX8_couldBe 0 = .ok (.iload_n 1, 1) := by decide +kernel
theorem dX8_couldBe_1 : decode cX8_couldBe 1 = .ok (.istore_n 2, 1) := by decide +kernel
theorem dX8_couldBe_2 : decode cX8_couldBe 2 = .ok (.iconst 0, 1) := by decide +kernel
theorem dX8_couldBe_3 : decode cX8_couldBe 3 = .ok (.istore_n 3, 1) := by decide +kernel
theorem dX8_couldBe_4 : decode cX8_couldBe 4 = .ok (.iload_n 3, 1) := by decide +kernel
theorem dX8_couldBe_5 : decode cX8_couldBe 5 = .ok (.aload_n 0, 1) := by decide +kernel
theorem dX8_couldBe_6 : decode cX8_couldBe 6 = .ok (.getfield 119, 3) := by decide +kernel
theorem dX8_couldBe_9 : decode cX8_couldBe 9 = .ok (.if_icmp .ge 32, 3) := by decide +kernel
theorem dX8_couldBe_12 : decode cX8_couldBe 12 = .ok (.aload_n 0, 1) := by decide +kernel
theorem dX8_couldBe_13 : decode cX8_couldBe 13 = .ok (.getfield 47, 3) := by decide +kernel
theorem dX8_couldBe_16 : decode cX8_couldBe 16 = .ok (.iload_n 3, 1) := by decide +kernel
theorem dX8_couldBe_17 : decode cX8_couldBe 17 = .ok (.aload_n 0, 1) := by decide +kernel
theorem dX8_couldBe_18 : decode cX8_couldBe 18 = .ok (.iload_n 2, 1) := by decide +kernel
theorem dX8_couldBe_19 : decode cX8_couldBe 19 = .ok (.aload_n 0, 1) := by decide +kernel
theorem dX8_couldBe_20 : decode cX8_couldBe 20 = .ok (.invokevirtual 203, 3) := by decide +kernel
theorem dX8_couldBe_23 : decode cX8_couldBe 23 = .ok (.irem, 1) := by decide +kernel
theorem dX8_couldBe_24 : decode cX8_couldBe 24 = .ok (.invokevirtual 206, 3) := by decide +kernel
theorem dX8_couldBe_27 : decode cX8_couldBe 27 = .ok (.iastore, 1) := by decide +kernel
theorem dX8_couldBe_28 : decode cX8_couldBe 28 = .ok (.iload_n 2, 1) := by decide +kernel
theorem dX8_couldBe_29 : decode cX8_couldBe 29 = .ok (.aload_n 0, 1) := by decide +kernel
theorem dX8_couldBe_30 : decode cX8_couldBe 30 = .ok (.invokevirtual 203, 3) := by decide +kernel
theorem dX8_couldBe_33 : decode cX8_couldBe 33 = .ok (.idiv, 1) := by decide +kernel
theorem dX8_couldBe_34 : decode cX8_couldBe 34 = .ok (.istore_n 2, 1) := by decide +kernel
theorem dX8_couldBe_35 : decode cX8_couldBe 35 = .ok (.iinc 3 1, 3) := by decide +kernel
theorem dX8_couldBe_38 : decode cX8_couldBe 38 = .ok (.goto (-34), 3) := by decide +kernel
theorem dX8_couldBe_41 : decode cX8_couldBe 41 = .ok (.iconst 1, 1) := by decide +kernel
theorem dX8_couldBe_42 : decode cX8_couldBe 42 = .ok (.istore_n 3, 1) := by decide +kernel
theorem dX8_couldBe_43 : decode cX8_couldBe 43 = .ok (.iconst 0, 1) := by decide +kernel
theorem dX8_couldBe_44 : decode cX8_couldBe 44 = .ok (.istore 4, 2) := by decide +kernel
theorem dX8_couldBe_46 : decode cX8_couldBe 46 = .ok (.iload 4, 2) := by decide +kernel
theorem dX8_couldBe_48 : decode cX8_couldBe 48 = .ok (.iconst 1, 1) := by decide +kernel
theorem dX8_couldBe_49 : decode cX8_couldBe 49 = .ok (.iadd, 1) := by decide +kernel
theorem dX8_couldBe_50 : decode cX8_couldBe 50 = .ok (.aload_n 0, 1) := by decide +kernel
theorem dX8_couldBe_51 : decode cX8_couldBe 51 = .ok (.getfield 119, 3) := by decide +kernel
theorem dX8_couldBe_54 : decode cX8_couldBe 54 = .ok (.if_icmp .ge 62, 3) := by decide +kernel
theorem dX8_couldBe_57 : decode cX8_couldBe 57 = .ok (.iload_n 3, 1) := by decide +kernel
theorem dX8_couldBe_58 : decode cX8_couldBe 58 = .ok (.ifCond .eq 50, 3) := by decide +kernel
theorem dX8_couldBe_61 : decode cX8_couldBe 61 = .ok (.aload_n 0, 1) := by decide +kernel
theorem dX8_couldBe_62 : decode cX8_couldBe 62 = .ok (.getfield 31, 3) := by decide +kernel
theorem dX8_couldBe_65 : decode cX8_couldBe 65 = .ok (.iload 4, 2) := by decide +kernel
theorem dX8_couldBe_67 : decode cX8_couldBe 67 = .ok (.iaload, 1) := by decide +kernel
theorem dX8_couldBe_68 : decode cX8_couldBe 68 = .ok (.iconst (-1), 1) := by decide +kernel
theorem dX8_couldBe_69 : decode cX8_couldBe 69 = .ok (.if_icmp .eq 35, 3) := by decide +kernel
theorem dX8_couldBe_72 : decode cX8_couldBe 72 = .ok (.aload_n 0, 1) := by decide +kernel
theorem dX8_couldBe_73 : decode cX8_couldBe 73 = .ok (.getfield 31, 3) := by decide +kernel
theorem dX8_couldBe_76 : decode cX8_couldBe 76 = .ok (.iload 4, 2) := by decide +kernel
theorem dX8_couldBe_78 : decode cX8_couldBe 78 = .ok (.iaload, 1) := by decide +kernel
theorem dX8_couldBe_79 : decode cX8_couldBe 79 = .ok (.aload_n 0, 1) := by decide +kernel
theorem dX8_couldBe_80 : decode cX8_couldBe 80 = .ok (.iload 4, 2) := by decide +kernel
theorem dX8_couldBe_82 : decode cX8_couldBe 82 = .ok (.aload_n 0, 1) := by decide +kernel
theorem dX8_couldBe_83 : decode cX8_couldBe 83 = .ok (.getfield 47, 3) := by decide +kernel
theorem dX8_couldBe_86 : decode cX8_couldBe 86 = .ok (.iload 4, 2) := by decide +kernel
theorem dX8_couldBe_88 : decode cX8_couldBe 88 = .ok (.iaload, 1) := by decide +kernel
theorem dX8_couldBe_89 : decode cX8_couldBe 89 = .ok (.aload_n 0, 1) := by decide +kernel
theorem dX8_couldBe_90 : decode cX8_couldBe 90 = .ok (.getfield 47, 3) := by decide +kernel
theorem dX8_couldBe_93 : decode cX8_couldBe 93 = .ok (.iload 4, 2) := by decide +kernel
theorem dX8_couldBe_95 : decode cX8_couldBe 95 = .ok (.iconst 1, 1) := by decide +kernel
theorem dX8_couldBe_96 : decode cX8_couldBe 96 = .ok (.iadd, 1) := by decide +kernel
theorem dX8_couldBe_97 : decode cX8_couldBe 97 = .ok (.iaload, 1) := by decide +kernel
theorem dX8_couldBe_98 : decode cX8_couldBe 98 = .ok (.invokevirtual 141, 3) := by decide +kernel
theorem dX8_couldBe_101 : decode cX8_couldBe 101 = .ok (.if_icmp .ne 7, 3) := by decide +kernel
theorem dX8_couldBe_104 : decode cX8_couldBe 104 = .ok (.iconst 1, 1) := by decide +kernel
theorem dX8_couldBe_105 : decode cX8_couldBe 105 = .ok (.goto 4, 3) := by decide +kernel
theorem dX8_couldBe_108 : decode cX8_couldBe 108 = .ok (.iconst 0, 1) := by decide +kernel
theorem dX8_couldBe_109 : decode cX8_couldBe 109 = .ok (.istore_n 3, 1) := by decide +kernel
theorem dX8_couldBe_110 : decode cX8_couldBe 110 = .ok (.iinc 4 1, 3) := by decide +kernel
theorem dX8_couldBe_113 : decode cX8_couldBe 113 = .ok (.goto (-67), 3) := by decide +kernel
theorem dX8_couldBe_116 : decode cX8_couldBe 116 = .ok (.iload_n 3, 1) := by decide +kernel
theorem dX8_couldBe_117 : decode cX8_couldBe 117 = .ok (.ireturn, 1) := by decide +kernel
theorem dX8_fitsNow_0 : decode cX8_fitsNow 0 = .ok (.iconst 0, 1) := by decide +kernel
theorem dX8_fitsNow_1 : decode cX8_fitsNow 1 = .ok (.istore_n 1, 1) := by decide +kernel
theorem dX8_fitsNow_2 : decode cX8_fitsNow 2 = .ok (.iconst 0, 1) := by decide +kernel
theorem dX8_fitsNow_3 : decode cX8_fitsNow 3 = .ok (.istore_n 2, 1) := by decide +kernel
theorem dX8_fitsNow_4 : decode cX8_fitsNow 4 = .ok (.iload_n 2, 1) := by decide +kernel
theorem dX8_fitsNow_5 : decode cX8_fitsNow 5 = .ok (.aload_n 0, 1) := by decide +kernel
theorem dX8_fitsNow_6 : decode cX8_fitsNow 6 = .ok (.invokevirtual 209, 3) := by decide +kernel
theorem dX8_fitsNow_9 : decode cX8_fitsNow 9 = .ok (.if_icmp .ge 25, 3) := by decide +kernel
theorem dX8_fitsNow_12 : decode cX8_fitsNow 12 = .ok (.iload_n 1, 1) := by decide +kernel
theorem dX8_fitsNow_13 : decode cX8_fitsNow 13 = .ok (.aload_n 0, 1) := by decide +kernel
theorem dX8_fitsNow_14 : decode cX8_fitsNow 14 = .ok (.iload_n 2, 1) := by decide +kernel
theorem dX8_fitsNow_15 : decode cX8_fitsNow 15 = .ok (.invokevirtual 212, 3) := by decide +kernel
theorem dX8_fitsNow_18 : decode cX8_fitsNow 18 = .ok (.ifCond .eq 7, 3) := by decide +kernel
theorem dX8_fitsNow_21 : decode cX8_fitsNow 21 = .ok (.iconst 1, 1) := by decide +kernel
theorem dX8_fitsNow_22 : decode cX8_fitsNow 22 = .ok (.goto 4, 3) := by decide +kernel
theorem dX8_fitsNow_25 : decode cX8_fitsNow 25 = .ok (.iconst 0, 1) := by decide +kernel
theorem dX8_fitsNow_26 : decode cX8_fitsNow 26 = .ok (.iadd, 1) := by decide +kernel
theorem dX8_fitsNow_27 : decode cX8_fitsNow 27 = .ok (.istore_n 1, 1) := by decide +kernel
theorem dX8_fitsNow_28 : decode cX8_fitsNow 28 = .ok (.iinc 2 1, 3) := by decide +kernel
theorem dX8_fitsNow_31 : decode cX8_fitsNow 31 = .ok (.goto (-27), 3) := by decide +kernel
theorem dX8_fitsNow_34 : decode cX8_fitsNow 34 = .ok (.iload_n 1, 1) := by decide +kernel
theorem dX8_fitsNow_35 : decode cX8_fitsNow 35 = .ok (.ireturn, 1) := by decide +kernel
theorem dX8_fits_0 : decode cX8_fits 0 = .ok (.aload_n 0, 1) := by decide +kernel
theorem dX8_fits_1 : decode cX8_fits 1 = .ok (.getfield 119, 3) := by decide +kernel
theorem dX8_fits_4 : decode cX8_fits 4 = .ok (.ifCond .ne 8, 3) := by decide +kernel
theorem dX8_fits_7 : decode cX8_fits 7 = .ok (.bipush (-103), 2) := by decide +kernel
theorem dX8_fits_9 : decode cX8_fits 9 = .ok (.goto 7, 3) := by decide +kernel
theorem dX8_fits_12 : decode cX8_fits 12 = .ok (.aload_n 0, 1) := by decide +kernel
theorem dX8_fits_13 : decode cX8_fits 13 = .ok (.invokevirtual 215, 3) := by decide +kernel
theorem dX8_fits_16 : decode cX8_fits 16 = .ok (.ireturn, 1) := by decide +kernel
theorem dX8_sureNow_0 : decode cX8_sureNow 0 = .ok (.iconst (-1), 1) := by decide +kernel
theorem dX8_sureNow_1 : decode cX8_sureNow 1 = .ok (.istore_n 2, 1) := by decide +kernel
theorem dX8_sureNow_2 : decode cX8_sureNow 2 = .ok (.iconst 1, 1) := by decide +kernel
theorem dX8_sureNow_3 : decode cX8_sureNow 3 = .ok (.istore_n 3, 1) := by decide +kernel
theorem dX8_sureNow_4 : decode cX8_sureNow 4 = .ok (.iconst 0, 1) := by decide +kernel
theorem dX8_sureNow_5 : decode cX8_sureNow 5 = .ok (.istore 4, 2) := by decide +kernel
theorem dX8_sureNow_7 : decode cX8_sureNow 7 = .ok (.iload 4, 2) := by decide +kernel
theorem dX8_sureNow_9 : decode cX8_sureNow 9 = .ok (.aload_n 0, 1) := by decide +kernel
theorem dX8_sureNow_10 : decode cX8_sureNow 10 = .ok (.invokevirtual 209, 3) := by decide +kernel
theorem dX8_sureNow_13 : decode cX8_sureNow 13 = .ok (.if_icmp .ge 50, 3) := by decide +kernel
theorem dX8_sureNow_16 : decode cX8_sureNow 16 = .ok (.aload_n 0, 1) := by decide +kernel
theorem dX8_sureNow_17 : decode cX8_sureNow 17 = .ok (.iload 4, 2) := by decide +kernel
theorem dX8_sureNow_19 : decode cX8_sureNow 19 = .ok (.invokevirtual 212, 3) := by decide +kernel
theorem dX8_sureNow_22 : decode cX8_sureNow 22 = .ok (.ifCond .eq 35, 3) := by decide +kernel
theorem dX8_sureNow_25 : decode cX8_sureNow 25 = .ok (.iload_n 3, 1) := by decide +kernel
theorem dX8_sureNow_26 : decode cX8_sureNow 26 = .ok (.ifCond .eq 22, 3) := by decide +kernel
theorem dX8_sureNow_29 : decode cX8_sureNow 29 = .ok (.iload_n 2, 1) := by decide +kernel
theorem dX8_sureNow_30 : decode cX8_sureNow 30 = .ok (.iconst (-1), 1) := by decide +kernel
theorem dX8_sureNow_31 : decode cX8_sureNow 31 = .ok (.if_icmp .eq 13, 3) := by decide +kernel
theorem dX8_sureNow_34 : decode cX8_sureNow 34 = .ok (.iload_n 2, 1) := by decide +kernel
theorem dX8_sureNow_35 : decode cX8_sureNow 35 = .ok (.aload_n 0, 1) := by decide +kernel
theorem dX8_sureNow_36 : decode cX8_sureNow 36 = .ok (.getfield 47, 3) := by decide +kernel
theorem dX8_sureNow_39 : decode cX8_sureNow 39 = .ok (.iload_n 1, 1) := by decide +kernel
theorem dX8_sureNow_40 : decode cX8_sureNow 40 = .ok (.iaload, 1) := by decide +kernel
theorem dX8_sureNow_41 : decode cX8_sureNow 41 = .ok (.if_icmp .ne 7, 3) := by decide +kernel
theorem dX8_sureNow_44 : decode cX8_sureNow 44 = .ok (.iconst 1, 1) := by decide +kernel
theorem dX8_sureNow_45 : decode cX8_sureNow 45 = .ok (.goto 4, 3) := by decide +kernel
theorem dX8_sureNow_48 : decode cX8_sureNow 48 = .ok (.iconst 0, 1) := by decide +kernel
theorem dX8_sureNow_49 : decode cX8_sureNow 49 = .ok (.istore_n 3, 1) := by decide +kernel
theorem dX8_sureNow_50 : decode cX8_sureNow 50 = .ok (.aload_n 0, 1) := by decide +kernel
theorem dX8_sureNow_51 : decode cX8_sureNow 51 = .ok (.getfield 47, 3) := by decide +kernel
theorem dX8_sureNow_54 : decode cX8_sureNow 54 = .ok (.iload_n 1, 1) := by decide +kernel
theorem dX8_sureNow_55 : decode cX8_sureNow 55 = .ok (.iaload, 1) := by decide +kernel
theorem dX8_sureNow_56 : decode cX8_sureNow 56 = .ok (.istore_n 2, 1) := by decide +kernel
theorem dX8_sureNow_57 : decode cX8_sureNow 57 = .ok (.iinc 4 1, 3) := by decide +kernel
theorem dX8_sureNow_60 : decode cX8_sureNow 60 = .ok (.goto (-53), 3) := by decide +kernel
theorem dX8_sureNow_63 : decode cX8_sureNow 63 = .ok (.iload_n 3, 1) := by decide +kernel
theorem dX8_sureNow_64 : decode cX8_sureNow 64 = .ok (.ifCond .eq 7, 3) := by decide +kernel
theorem dX8_sureNow_67 : decode cX8_sureNow 67 = .ok (.iload_n 2, 1) := by decide +kernel
theorem dX8_sureNow_68 : decode cX8_sureNow 68 = .ok (.goto 4, 3) := by decide +kernel
theorem dX8_sureNow_71 : decode cX8_sureNow 71 = .ok (.iconst (-1), 1) := by decide +kernel
theorem dX8_sureNow_72 : decode cX8_sureNow 72 = .ok (.ireturn, 1) := by decide +kernel
theorem dX8_sure_0 : decode cX8_sure 0 = .ok (.aload_n 0, 1) := by decide +kernel
theorem dX8_sure_1 : decode cX8_sure 1 = .ok (.iload_n 1, 1) := by decide +kernel
theorem dX8_sure_2 : decode cX8_sure 2 = .ok (.invokevirtual 148, 3) := by decide +kernel
theorem dX8_sure_5 : decode cX8_sure 5 = .ok (.ifCond .eq 11, 3) := by decide +kernel
theorem dX8_sure_8 : decode cX8_sure 8 = .ok (.aload_n 0, 1) := by decide +kernel
theorem dX8_sure_9 : decode cX8_sure 9 = .ok (.iload_n 1, 1) := by decide +kernel
theorem dX8_sure_10 : decode cX8_sure 10 = .ok (.invokevirtual 218, 3) := by decide +kernel
theorem dX8_sure_13 : decode cX8_sure 13 = .ok (.goto 5, 3) := by decide +kernel
theorem dX8_sure_16 : decode cX8_sure 16 = .ok (.bipush (-101), 2) := by decide +kernel
theorem dX8_sure_18 : decode cX8_sure 18 = .ok (.ireturn, 1) := by decide +kernel
theorem dX8_draw_0 : decode cX8_draw 0 = .ok (.aload_n 0, 1) := by decide +kernel
theorem dX8_draw_1 : decode cX8_draw 1 = .ok (.ldc2_w 221, 3) := by decide +kernel
theorem dX8_draw_4 : decode cX8_draw 4 = .ok (.aload_n 0, 1) := by decide +kernel
theorem dX8_draw_5 : decode cX8_draw 5 = .ok (.getfield 223, 3) := by decide +kernel
theorem dX8_draw_8 : decode cX8_draw 8 = .ok (.lmul, 1) := by decide +kernel
theorem dX8_draw_9 : decode cX8_draw 9 = .ok (.ldc2_w 227, 3) := by decide +kernel
theorem dX8_draw_12 : decode cX8_draw 12 = .ok (.ladd, 1) := by decide +kernel
theorem dX8_draw_13 : decode cX8_draw 13 = .ok (.ldc2_w 229, 3) := by decide +kernel
theorem dX8_draw_16 : decode cX8_draw 16 = .ok (.land, 1) := by decide +kernel
theorem dX8_draw_17 : decode cX8_draw 17 = .ok (.putfield 223, 3) := by decide +kernel
theorem dX8_draw_20 : decode cX8_draw 20 = .ok (.aload_n 0, 1) := by decide +kernel
theorem dX8_draw_21 : decode cX8_draw 21 = .ok (.getfield 223, 3) := by decide +kernel
theorem dX8_draw_24 : decode cX8_draw 24 = .ok (.ldc2_w 231, 3) := by decide +kernel
theorem dX8_draw_27 : decode cX8_draw 27 = .ok (.ldiv, 1) := by decide +kernel
theorem dX8_draw_28 : decode cX8_draw 28 = .ok (.iload_n 1, 1) := by decide +kernel
theorem dX8_draw_29 : decode cX8_draw 29 = .ok (.i2l, 1) := by decide +kernel
theorem dX8_draw_30 : decode cX8_draw 30 = .ok (.lrem, 1) := by decide +kernel
theorem dX8_draw_31 : decode cX8_draw 31 = .ok (.l2i, 1) := by decide +kernel
theorem dX8_draw_32 : decode cX8_draw 32 = .ok (.ireturn, 1) := by decide +kernel
theorem dX8_goYear_0 : decode cX8_goYear 0 = .ok (.iconst 0, 1) := by decide +kernel
theorem dX8_goYear_1 : decode cX8_goYear 1 = .ok (.istore_n 1, 1) := by decide +kernel
theorem dX8_goYear_2 : decode cX8_goYear 2 = .ok (.iload_n 1, 1) := by decide +kernel
theorem dX8_goYear_3 : decode cX8_goYear 3 = .ok (.aload_n 0, 1) := by decide +kernel
theorem dX8_goYear_4 : decode cX8_goYear 4 = .ok (.getfield 132, 3) := by decide +kernel
theorem dX8_goYear_7 : decode cX8_goYear 7 = .ok (.if_icmp .ge 25, 3) := by decide +kernel
theorem dX8_goYear_10 : decode cX8_goYear 10 = .ok (.aload_n 0, 1) := by decide +kernel
theorem dX8_goYear_11 : decode cX8_goYear 11 = .ok (.getfield 56, 3) := by decide +kernel
theorem dX8_goYear_14 : decode cX8_goYear 14 = .ok (.iload_n 1, 1) := by decide +kernel
theorem dX8_goYear_15 : decode cX8_goYear 15 = .ok (.aload_n 0, 1) := by decide +kernel
theorem dX8_goYear_16 : decode cX8_goYear 16 = .ok (.aload_n 0, 1) := by decide +kernel
theorem dX8_goYear_17 : decode cX8_goYear 17 = .ok (.bipush 21, 2) := by decide +kernel
theorem dX8_goYear_19 : decode cX8_goYear 19 = .ok (.invokevirtual 233, 3) := by decide +kernel
theorem dX8_goYear_22 : decode cX8_goYear 22 = .ok (.invokevirtual 178, 3) := by decide +kernel
theorem dX8_goYear_25 : decode cX8_goYear 25 = .ok (.iastore, 1) := by decide +kernel
theorem dX8_goYear_26 : decode cX8_goYear 26 = .ok (.iinc 1 1, 3) := by decide +kernel
theorem dX8_goYear_29 : decode cX8_goYear 29 = .ok (.goto (-27), 3) := by decide +kernel
theorem dX8_goYear_32 : decode cX8_goYear 32 = .ok (.iconst 0, 1) := by decide +kernel
theorem dX8_goYear_33 : decode cX8_goYear 33 = .ok (.istore_n 1, 1) := by decide +kernel
theorem dX8_goYear_34 : decode cX8_goYear 34 = .ok (.iload_n 1, 1) := by decide +kernel
theorem dX8_goYear_35 : decode cX8_goYear 35 = .ok (.aload_n 0, 1) := by decide +kernel
theorem dX8_goYear_36 : decode cX8_goYear 36 = .ok (.getfield 119, 3) := by decide +kernel
theorem dX8_goYear_39 : decode cX8_goYear 39 = .ok (.if_icmp .ge 30, 3) := by decide +kernel
theorem dX8_goYear_42 : decode cX8_goYear 42 = .ok (.aload_n 0, 1) := by decide +kernel
theorem dX8_goYear_43 : decode cX8_goYear 43 = .ok (.getfield 47, 3) := by decide +kernel
theorem dX8_goYear_46 : decode cX8_goYear 46 = .ok (.iload_n 1, 1) := by decide +kernel
theorem dX8_goYear_47 : decode cX8_goYear 47 = .ok (.iconst 2, 1) := by decide +kernel
theorem dX8_goYear_48 : decode cX8_goYear 48 = .ok (.aload_n 0, 1) := by decide +kernel
theorem dX8_goYear_49 : decode cX8_goYear 49 = .ok (.getfield 56, 3) := by decide +kernel
theorem dX8_goYear_52 : decode cX8_goYear 52 = .ok (.aload_n 0, 1) := by decide +kernel
theorem dX8_goYear_53 : decode cX8_goYear 53 = .ok (.aload_n 0, 1) := by decide +kernel
theorem dX8_goYear_54 : decode cX8_goYear 54 = .ok (.getfield 132, 3) := by decide +kernel
theorem dX8_goYear_57 : decode cX8_goYear 57 = .ok (.invokevirtual 233, 3) := by decide +kernel
theorem dX8_goYear_60 : decode cX8_goYear 60 = .ok (.iaload, 1) := by decide +kernel
theorem dX8_goYear_61 : decode cX8_goYear 61 = .ok (.imul, 1) := by decide +kernel
theorem dX8_goYear_62 : decode cX8_goYear 62 = .ok (.iastore, 1) := by decide +kernel
theorem dX8_goYear_63 : decode cX8_goYear 63 = .ok (.iinc 1 1, 3) := by decide +kernel
theorem dX8_goYear_66 : decode cX8_goYear 66 = .ok (.goto (-32), 3) := by decide +kernel
theorem dX8_goYear_69 : decode cX8_goYear 69 = .ok (.aload_n 0, 1) := by decide +kernel
theorem dX8_goYear_70 : decode cX8_goYear 70 = .ok (.invokevirtual 191, 3) := by decide +kernel
theorem dX8_goYear_73 : decode cX8_goYear 73 = .ok (.ireturn, 1) := by decide +kernel
theorem dX8_yearsNow_0 : decode cX8_yearsNow 0 = .ok (.aload_n 0, 1) := by decide +kernel
theorem dX8_yearsNow_1 : decode cX8_yearsNow 1 = .ok (.iload_n 2, 1) := by decide +kernel
theorem dX8_yearsNow_2 : decode cX8_yearsNow 2 = .ok (.i2l, 1) := by decide +kernel
theorem dX8_yearsNow_3 : decode cX8_yearsNow 3 = .ok (.putfield 223, 3) := by decide +kernel
theorem dX8_yearsNow_6 : decode cX8_yearsNow 6 = .ok (.iconst 0, 1) := by decide +kernel
theorem dX8_yearsNow_7 : decode cX8_yearsNow 7 = .ok (.istore 4, 2) := by decide +kernel
theorem dX8_yearsNow_9 : decode cX8_yearsNow 9 = .ok (.iconst 0, 1) := by decide +kernel
theorem dX8_yearsNow_10 : decode cX8_yearsNow 10 = .ok (.istore 5, 2) := by decide +kernel
theorem dX8_yearsNow_12 : decode cX8_yearsNow 12 = .ok (.iload 5, 2) := by decide +kernel
theorem dX8_yearsNow_14 : decode cX8_yearsNow 14 = .ok (.iload_n 1, 1) := by decide +kernel
theorem dX8_yearsNow_15 : decode cX8_yearsNow 15 = .ok (.if_icmp .ge 18, 3) := by decide +kernel
theorem dX8_yearsNow_18 : decode cX8_yearsNow 18 = .ok (.iload 4, 2) := by decide +kernel
theorem dX8_yearsNow_20 : decode cX8_yearsNow 20 = .ok (.aload_n 0, 1) := by decide +kernel
theorem dX8_yearsNow_21 : decode cX8_yearsNow 21 = .ok (.invokevirtual 236, 3) := by decide +kernel
theorem dX8_yearsNow_24 : decode cX8_yearsNow 24 = .ok (.iadd, 1) := by decide +kernel
theorem dX8_yearsNow_25 : decode cX8_yearsNow 25 = .ok (.istore 4, 2) := by decide +kernel
theorem dX8_yearsNow_27 : decode cX8_yearsNow 27 = .ok (.iinc 5 1, 3) := by decide +kernel
theorem dX8_yearsNow_30 : decode cX8_yearsNow 30 = .ok (.goto (-18), 3) := by decide +kernel
theorem dX8_yearsNow_33 : decode cX8_yearsNow 33 = .ok (.iload_n 3, 1) := by decide +kernel
theorem dX8_yearsNow_34 : decode cX8_yearsNow 34 = .ok (.ifCond .ne 8, 3) := by decide +kernel
theorem dX8_yearsNow_37 : decode cX8_yearsNow 37 = .ok (.iload 4, 2) := by decide +kernel
theorem dX8_yearsNow_39 : decode cX8_yearsNow 39 = .ok (.goto 8, 3) := by decide +kernel
theorem dX8_yearsNow_42 : decode cX8_yearsNow 42 = .ok (.aload_n 0, 1) := by decide +kernel
theorem dX8_yearsNow_43 : decode cX8_yearsNow 43 = .ok (.getfield 223, 3) := by decide +kernel
theorem dX8_yearsNow_46 : decode cX8_yearsNow 46 = .ok (.l2i, 1) := by decide +kernel
theorem dX8_yearsNow_47 : decode cX8_yearsNow 47 = .ok (.ireturn, 1) := by decide +kernel
theorem dX8_years_0 : decode cX8_years 0 = .ok (.iload_n 1, 1) := by decide +kernel
theorem dX8_years_1 : decode cX8_years 1 = .ok (.iconst 1, 1) := by decide +kernel
theorem dX8_years_2 : decode cX8_years 2 = .ok (.bipush 30, 2) := by decide +kernel
theorem dX8_years_4 : decode cX8_years 4 = .ok (.invokestatic 86, 3) := by decide +kernel
theorem dX8_years_7 : decode cX8_years 7 = .ok (.ifCond .eq 16, 3) := by decide +kernel
theorem dX8_years_10 : decode cX8_years 10 = .ok (.iload_n 2, 1) := by decide +kernel
theorem dX8_years_11 : decode cX8_years 11 = .ok (.ifCond .lt 12, 3) := by decide +kernel
theorem dX8_years_14 : decode cX8_years 14 = .ok (.iload_n 3, 1) := by decide +kernel
theorem dX8_years_15 : decode cX8_years 15 = .ok (.iconst 0, 1) := by decide +kernel
theorem dX8_years_16 : decode cX8_years 16 = .ok (.iconst 1, 1) := by decide +kernel
theorem dX8_years_17 : decode cX8_years 17 = .ok (.invokestatic 86, 3) := by decide +kernel
theorem dX8_years_20 : decode cX8_years 20 = .ok (.ifCond .ne 6, 3) := by decide +kernel
theorem dX8_years_23 : decode cX8_years 23 = .ok (.bipush (-102), 2) := by decide +kernel
theorem dX8_years_25 : decode cX8_years 25 = .ok (.ireturn, 1) := by decide +kernel
theorem dX8_years_26 : decode cX8_years 26 = .ok (.aload_n 0, 1) := by decide +kernel
theorem dX8_years_27 : decode cX8_years 27 = .ok (.getfield 132, 3) := by decide +kernel
theorem dX8_years_30 : decode cX8_years 30 = .ok (.ifCond .ne 8, 3) := by decide +kernel
theorem dX8_years_33 : decode cX8_years 33 = .ok (.bipush (-103), 2) := by decide +kernel
theorem dX8_years_35 : decode cX8_years 35 = .ok (.goto 10, 3) := by decide +kernel
theorem dX8_years_38 : decode cX8_years 38 = .ok (.aload_n 0, 1) := by decide +kernel
theorem dX8_years_39 : decode cX8_years 39 = .ok (.iload_n 1, 1) := by decide +kernel
theorem dX8_years_40 : decode cX8_years 40 = .ok (.iload_n 2, 1) := by decide +kernel
theorem dX8_years_41 : decode cX8_years 41 = .ok (.iload_n 3, 1) := by decide +kernel
theorem dX8_years_42 : decode cX8_years 42 = .ok (.invokevirtual 239, 3) := by decide +kernel
theorem dX8_years_45 : decode cX8_years 45 = .ok (.ireturn, 1) := by decide +kernel
theorem dX8_image_0 : decode cX8_image 0 = .ok (.aload_n 0, 1) := by decide +kernel
theorem dX8_image_1 : decode cX8_image 1 = .ok (.getfield 119, 3) := by decide +kernel
theorem dX8_image_4 : decode cX8_image 4 = .ok (.ifCond .ne 6, 3) := by decide +kernel
theorem dX8_image_7 : decode cX8_image 7 = .ok (.bipush (-103), 2) := by decide +kernel
theorem dX8_image_9 : decode cX8_image 9 = .ok (.ireturn, 1) := by decide +kernel
theorem dX8_image_10 : decode cX8_image 10 = .ok (.aload_n 0, 1) := by decide +kernel
theorem dX8_image_11 : decode cX8_image 11 = .ok (.iconst 1, 1) := by decide +kernel
theorem dX8_image_12 : decode cX8_image 12 = .ok (.putfield 242, 3) := by decide +kernel
theorem dX8_image_15 : decode cX8_image 15 = .ok (.aload_n 0, 1) := by decide +kernel
theorem dX8_image_16 : decode cX8_image 16 = .ok (.aload_n 0, 1) := by decide +kernel
theorem dX8_image_17 : decode cX8_image 17 = .ok (.getfield 129, 3) := by decide +kernel
theorem dX8_image_20 : decode cX8_image 20 = .ok (.putfield 245, 3) := by decide +kernel
theorem dX8_image_23 : decode cX8_image 23 = .ok (.aload_n 0, 1) := by decide +kernel
theorem dX8_image_24 : decode cX8_image 24 = .ok (.aload_n 0, 1) := by decide +kernel
theorem dX8_image_25 : decode cX8_image 25 = .ok (.getfield 132, 3) := by decide +kernel
theorem dX8_image_28 : decode cX8_image 28 = .ok (.putfield 248, 3) := by decide +kernel
theorem dX8_image_31 : decode cX8_image 31 = .ok (.iconst 0, 1) := by decide +kernel
theorem dX8_image_32 : decode cX8_image 32 = .ok (.istore_n 1, 1) := by decide +kernel
theorem dX8_image_33 : decode cX8_image 33 = .ok (.iload_n 1, 1) := by decide +kernel
theorem dX8_image_34 : decode cX8_image 34 = .ok (.aload_n 0, 1) := by decide +kernel
theorem dX8_image_35 : decode cX8_image 35 = .ok (.getfield 119, 3) := by decide +kernel
theorem dX8_image_38 : decode cX8_image 38 = .ok (.if_icmp .ge 81, 3) := by decide +kernel
theorem dX8_image_41 : decode cX8_image 41 = .ok (.aload_n 0, 1) := by decide +kernel
theorem dX8_image_42 : decode cX8_image 42 = .ok (.getfield 59, 3) := by decide +kernel
theorem dX8_image_45 : decode cX8_image 45 = .ok (.iload_n 1, 1) := by decide +kernel
theorem dX8_image_46 : decode cX8_image 46 = .ok (.aload_n 0, 1) := by decide +kernel
theorem dX8_image_47 : decode cX8_image 47 = .ok (.getfield 16, 3) := by decide +kernel
theorem dX8_image_50 : decode cX8_image 50 = .ok (.iload_n 1, 1) := by decide +kernel
theorem dX8_image_51 : decode cX8_image 51 = .ok (.iaload, 1) := by decide +kernel
theorem dX8_image_52 : decode cX8_image 52 = .ok (.iastore, 1) := by decide +kernel
theorem dX8_image_53 : decode cX8_image 53 = .ok (.aload_n 0, 1) := by decide +kernel
theorem dX8_image_54 : decode cX8_image 54 = .ok (.getfield 62, 3) := by decide +kernel
theorem dX8_image_57 : decode cX8_image 57 = .ok (.iload_n 1, 1) := by decide +kernel
theorem dX8_image_58 : decode cX8_image 58 = .ok (.aload_n 0, 1) := by decide +kernel
theorem dX8_image_59 : decode cX8_image 59 = .ok (.getfield 19, 3) := by decide +kernel
theorem dX8_image_62 : decode cX8_image 62 = .ok (.iload_n 1, 1) := by decide +kernel
theorem dX8_image_63 : decode cX8_image 63 = .ok (.iaload, 1) := by decide +kernel
theorem dX8_image_64 : decode cX8_image 64 = .ok (.iastore, 1) := by decide +kernel
theorem dX8_image_65 : decode cX8_image 65 = .ok (.aload_n 0, 1) := by decide +kernel
theorem dX8_image_66 : decode cX8_image 66 = .ok (.getfield 65, 3) := by decide +kernel
theorem dX8_image_69 : decode cX8_image 69 = .ok (.iload_n 1, 1) := by decide +kernel
theorem dX8_image_70 : decode cX8_image 70 = .ok (.aload_n 0, 1) := by decide +kernel
theorem dX8_image_71 : decode cX8_image 71 = .ok (.getfield 22, 3) := by decide +kernel
theorem dX8_image_74 : decode cX8_image 74 = .ok (.iload_n 1, 1) := by decide +kernel
theorem dX8_image_75 : decode cX8_image 75 = .ok (.iaload, 1) := by decide +kernel
theorem dX8_image_76 : decode cX8_image 76 = .ok (.iastore, 1) := by decide +kernel
theorem dX8_image_77 : decode cX8_image 77 = .ok (.aload_n 0, 1) := by decide +kernel
theorem dX8_image_78 : decode cX8_image 78 = .ok (.getfield 68, 3) := by decide +kernel
theorem dX8_image_81 : decode cX8_image 81 = .ok (.iload_n 1, 1) := by decide +kernel
theorem dX8_image_82 : decode cX8_image 82 = .ok (.aload_n 0, 1) := by decide +kernel
theorem dX8_image_83 : decode cX8_image 83 = .ok (.getfield 25, 3) := by decide +kernel
theorem dX8_image_86 : decode cX8_image 86 = .ok (.iload_n 1, 1) := by decide +kernel
theorem dX8_image_87 : decode cX8_image 87 = .ok (.iaload, 1) := by decide +kernel
theorem dX8_image_88 : decode cX8_image 88 = .ok (.iastore, 1) := by decide +kernel
theorem dX8_image_89 : decode cX8_image 89 = .ok (.aload_n 0, 1) := by decide +kernel
theorem dX8_image_90 : decode cX8_image 90 = .ok (.getfield 71, 3) := by decide +kernel
theorem dX8_image_93 : decode cX8_image 93 = .ok (.iload_n 1, 1) := by decide +kernel
theorem dX8_image_94 : decode cX8_image 94 = .ok (.aload_n 0, 1) := by decide +kernel
theorem dX8_image_95 : decode cX8_image 95 = .ok (.getfield 28, 3) := by decide +kernel
theorem dX8_image_98 : decode cX8_image 98 = .ok (.iload_n 1, 1) := by decide +kernel
theorem dX8_image_99 : decode cX8_image 99 = .ok (.iaload, 1) := by decide +kernel
theorem dX8_image_100 : decode cX8_image 100 = .ok (.iastore, 1) := by decide +kernel
theorem dX8_image_101 : decode cX8_image 101 = .ok (.aload_n 0, 1) := by decide +kernel
theorem dX8_image_102 : decode cX8_image 102 = .ok (.getfield 74, 3) := by decide +kernel
theorem dX8_image_105 : decode cX8_image 105 = .ok (.iload_n 1, 1) := by decide +kernel
theorem dX8_image_106 : decode cX8_image 106 = .ok (.aload_n 0, 1) := by decide +kernel
theorem dX8_image_107 : decode cX8_image 107 = .ok (.getfield 31, 3) := by decide +kernel
theorem dX8_image_110 : decode cX8_image 110 = .ok (.iload_n 1, 1) := by decide +kernel
theorem dX8_image_111 : decode cX8_image 111 = .ok (.iaload, 1) := by decide +kernel
theorem dX8_image_112 : decode cX8_image 112 = .ok (.iastore, 1) := by decide +kernel
theorem dX8_image_113 : decode cX8_image 113 = .ok (.iinc 1 1, 3) := by decide +kernel
theorem dX8_image_116 : decode cX8_image 116 = .ok (.goto (-83), 3) := by decide +kernel
theorem dX8_image_119 : decode cX8_image 119 = .ok (.iconst 0, 1) := by decide +kernel
theorem dX8_image_120 : decode cX8_image 120 = .ok (.istore_n 1, 1) := by decide +kernel
theorem dX8_image_121 : decode cX8_image 121 = .ok (.iload_n 1, 1) := by decide +kernel
theorem dX8_image_122 : decode cX8_image 122 = .ok (.iconst 3, 1) := by decide +kernel
theorem dX8_image_123 : decode cX8_image 123 = .ok (.if_icmp .ge 45, 3) := by decide +kernel
theorem dX8_image_126 : decode cX8_image 126 = .ok (.aload_n 0, 1) := by decide +kernel
theorem dX8_image_127 : decode cX8_image 127 = .ok (.getfield 77, 3) := by decide +kernel
theorem dX8_image_130 : decode cX8_image 130 = .ok (.iload_n 1, 1) := by decide +kernel
theorem dX8_image_131 : decode cX8_image 131 = .ok (.aload_n 0, 1) := by decide +kernel
theorem dX8_image_132 : decode cX8_image 132 = .ok (.getfield 34, 3) := by decide +kernel
theorem dX8_image_135 : decode cX8_image 135 = .ok (.iload_n 1, 1) := by decide +kernel
theorem dX8_image_136 : decode cX8_image 136 = .ok (.iaload, 1) := by decide +kernel
theorem dX8_image_137 : decode cX8_image 137 = .ok (.iastore, 1) := by decide +kernel
theorem dX8_image_138 : decode cX8_image 138 = .ok (.aload_n 0, 1) := by decide +kernel
theorem dX8_image_139 : decode cX8_image 139 = .ok (.getfield 80, 3) := by decide +kernel
theorem dX8_image_142 : decode cX8_image 142 = .ok (.iload_n 1, 1) := by decide +kernel
theorem dX8_image_143 : decode cX8_image 143 = .ok (.aload_n 0, 1) := by decide +kernel
theorem dX8_image_144 : decode cX8_image 144 = .ok (.getfield 37, 3) := by decide +kernel
theorem dX8_image_147 : decode cX8_image 147 = .ok (.iload_n 1, 1) := by decide +kernel
theorem dX8_image_148 : decode cX8_image 148 = .ok (.iaload, 1) := by decide +kernel
theorem dX8_image_149 : decode cX8_image 149 = .ok (.iastore, 1) := by decide +kernel
theorem dX8_image_150 : decode cX8_image 150 = .ok (.aload_n 0, 1) := by decide +kernel
theorem dX8_image_151 : decode cX8_image 151 = .ok (.getfield 83, 3) := by decide +kernel
theorem dX8_image_154 : decode cX8_image 154 = .ok (.iload_n 1, 1) := by decide +kernel
theorem dX8_image_155 : decode cX8_image 155 = .ok (.aload_n 0, 1) := by decide +kernel
theorem dX8_image_156 : decode cX8_image 156 = .ok (.getfield 40, 3) := by decide +kernel
theorem dX8_image_159 : decode cX8_image 159 = .ok (.iload_n 1, 1) := by decide +kernel
theorem dX8_image_160 : decode cX8_image 160 = .ok (.iaload, 1) := by decide +kernel
theorem dX8_image_161 : decode cX8_image 161 = .ok (.iastore, 1) := by decide +kernel
theorem dX8_image_162 : decode cX8_image 162 = .ok (.iinc 1 1, 3) := by decide +kernel
theorem dX8_image_165 : decode cX8_image 165 = .ok (.goto (-44), 3) := by decide +kernel
theorem dX8_image_168 : decode cX8_image 168 = .ok (.aload_n 0, 1) := by decide +kernel
theorem dX8_image_169 : decode cX8_image 169 = .ok (.getfield 119, 3) := by decide +kernel
theorem dX8_image_172 : decode cX8_image 172 = .ok (.aload_n 0, 1) := by decide +kernel
theorem dX8_image_173 : decode cX8_image 173 = .ok (.invokevirtual 181, 3) := by decide +kernel
theorem dX8_image_176 : decode cX8_image 176 = .ok (.isub, 1) := by decide +kernel
theorem dX8_image_177 : decode cX8_image 177 = .ok (.ireturn, 1) := by decide +kernel
theorem dX8_restore_0 : decode cX8_restore 0 = .ok (.aload_n 0, 1) := by decide +kernel
theorem dX8_restore_1 : decode cX8_restore 1 = .ok (.getfield 242, 3) := by decide +kernel
theorem dX8_restore_4 : decode cX8_restore 4 = .ok (.ifCond .eq 14, 3) := by decide +kernel
theorem dX8_restore_7 : decode cX8_restore 7 = .ok (.aload_n 0, 1) := by decide +kernel
theorem dX8_restore_8 : decode cX8_restore 8 = .ok (.getfield 245, 3) := by decide +kernel
theorem dX8_restore_11 : decode cX8_restore 11 = .ok (.aload_n 0, 1) := by decide +kernel
theorem dX8_restore_12 : decode cX8_restore 12 = .ok (.getfield 129, 3) := by decide +kernel
theorem dX8_restore_15 : decode cX8_restore 15 = .ok (.if_icmp .eq 6, 3) := by decide +kernel
theorem dX8_restore_18 : decode cX8_restore 18 = .ok (.bipush (-103), 2) := by decide +kernel
theorem dX8_restore_20 : decode cX8_restore 20 = .ok (.ireturn, 1) := by decide +kernel
theorem dX8_restore_21 : decode cX8_restore 21 = .ok (.aload_n 0, 1) := by decide +kernel
theorem dX8_restore_22 : decode cX8_restore 22 = .ok (.aload_n 0, 1) := by decide +kernel
theorem dX8_restore_23 : decode cX8_restore 23 = .ok (.getfield 248, 3) := by decide +kernel
theorem dX8_restore_26 : decode cX8_restore 26 = .ok (.putfield 132, 3) := by decide +kernel
theorem dX8_restore_29 : decode cX8_restore 29 = .ok (.iconst 0, 1) := by decide +kernel
theorem dX8_restore_30 : decode cX8_restore 30 = .ok (.istore_n 1, 1) := by decide +kernel
theorem dX8_restore_31 : decode cX8_restore 31 = .ok (.iload_n 1, 1) := by decide +kernel
theorem dX8_restore_32 : decode cX8_restore 32 = .ok (.aload_n 0, 1) := by decide +kernel
theorem dX8_restore_33 : decode cX8_restore 33 = .ok (.getfield 119, 3) := by decide +kernel
theorem dX8_restore_36 : decode cX8_restore 36 = .ok (.if_icmp .ge 81, 3) := by decide +kernel
theorem dX8_restore_39 : decode cX8_restore 39 = .ok (.aload_n 0, 1) := by decide +kernel
theorem dX8_restore_40 : decode cX8_restore 40 = .ok (.getfield 16, 3) := by decide +kernel
theorem dX8_restore_43 : decode cX8_restore 43 = .ok (.iload_n 1, 1) := by decide +kernel
theorem dX8_restore_44 : decode cX8_restore 44 = .ok (.aload_n 0, 1) := by decide +kernel
theorem dX8_restore_45 : decode cX8_restore 45 = .ok (.getfield 59, 3) := by decide +kernel
theorem dX8_restore_48 : decode cX8_restore 48 = .ok (.iload_n 1, 1) := by decide +kernel
theorem dX8_restore_49 : decode cX8_restore 49 = .ok (.iaload, 1) := by decide +kernel
theorem dX8_restore_50 : decode cX8_restore 50 = .ok (.iastore, 1) := by decide +kernel
theorem dX8_restore_51 : decode cX8_restore 51 = .ok (.aload_n 0, 1) := by decide +kernel
theorem dX8_restore_52 : decode cX8_restore 52 = .ok (.getfield 19, 3) := by decide +kernel
theorem dX8_restore_55 : decode cX8_restore 55 = .ok (.iload_n 1, 1) := by decide +kernel
theorem dX8_restore_56 : decode cX8_restore 56 = .ok (.aload_n 0, 1) := by decide +kernel
theorem dX8_restore_57 : decode cX8_restore 57 = .ok (.getfield 62, 3) := by decide +kernel
theorem dX8_restore_60 : decode cX8_restore 60 = .ok (.iload_n 1, 1) := by decide +kernel
theorem dX8_restore_61 : decode cX8_restore 61 = .ok (.iaload, 1) := by decide +kernel
theorem dX8_restore_62 : decode cX8_restore 62 = .ok (.iastore, 1) := by decide +kernel
theorem dX8_restore_63 : decode cX8_restore 63 = .ok (.aload_n 0, 1) := by decide +kernel
theorem dX8_restore_64 : decode cX8_restore 64 = .ok (.getfield 22, 3) := by decide +kernel
theorem dX8_restore_67 : decode cX8_restore 67 = .ok (.iload_n 1, 1) := by decide +kernel
theorem dX8_restore_68 : decode cX8_restore 68 = .ok (.aload_n 0, 1) := by decide +kernel
theorem dX8_restore_69 : decode cX8_restore 69 = .ok (.getfield 65, 3) := by decide +kernel
theorem dX8_restore_72 : decode cX8_restore 72 = .ok (.iload_n 1, 1) := by decide +kernel
theorem dX8_restore_73 : decode cX8_restore 73 = .ok (.iaload, 1) := by decide +kernel
theorem dX8_restore_74 : decode cX8_restore 74 = .ok (.iastore, 1) := by decide +kernel
theorem dX8_restore_75 : decode cX8_restore 75 = .ok (.aload_n 0, 1) := by decide +kernel
theorem dX8_restore_76 : decode cX8_restore 76 = .ok (.getfield 25, 3) := by decide +kernel
theorem dX8_restore_79 : decode cX8_restore 79 = .ok (.iload_n 1, 1) := by decide +kernel
theorem dX8_restore_80 : decode cX8_restore 80 = .ok (.aload_n 0, 1) := by decide +kernel
theorem dX8_restore_81 : decode cX8_restore 81 = .ok (.getfield 68, 3) := by decide +kernel
theorem dX8_restore_84 : decode cX8_restore 84 = .ok (.iload_n 1, 1) := by decide +kernel
theorem dX8_restore_85 : decode cX8_restore 85 = .ok (.iaload, 1) := by decide +kernel
theorem dX8_restore_86 : decode cX8_restore 86 = .ok (.iastore, 1) := by decide +kernel
theorem dX8_restore_87 : decode cX8_restore 87 = .ok (.aload_n 0, 1) := by decide +kernel
theorem dX8_restore_88 : decode cX8_restore 88 = .ok (.getfield 28, 3) := by decide +kernel
theorem dX8_restore_91 : decode cX8_restore 91 = .ok (.iload_n 1, 1) := by decide +kernel
theorem dX8_restore_92 : decode cX8_restore 92 = .ok (.aload_n 0, 1) := by decide +kernel
theorem dX8_restore_93 : decode cX8_restore 93 = .ok (.getfield 71, 3) := by decide +kernel
theorem dX8_restore_96 : decode cX8_restore 96 = .ok (.iload_n 1, 1) := by decide +kernel
theorem dX8_restore_97 : decode cX8_restore 97 = .ok (.iaload, 1) := by decide +kernel
theorem dX8_restore_98 : decode cX8_restore 98 = .ok (.iastore, 1) := by decide +kernel
theorem dX8_restore_99 : decode cX8_restore 99 = .ok (.aload_n 0, 1) := by decide +kernel
theorem dX8_restore_100 : decode cX8_restore 100 = .ok (.getfield 31, 3) := by decide +kernel
theorem dX8_restore_103 : decode cX8_restore 103 = .ok (.iload_n 1, 1) := by decide +kernel
theorem dX8_restore_104 : decode cX8_restore 104 = .ok (.aload_n 0, 1) := by decide +kernel
theorem dX8_restore_105 : decode cX8_restore 105 = .ok (.getfield 74, 3) := by decide +kernel
theorem dX8_restore_108 : decode cX8_restore 108 = .ok (.iload_n 1, 1) := by decide +kernel
theorem dX8_restore_109 : decode cX8_restore 109 = .ok (.iaload, 1) := by decide +kernel
theorem dX8_restore_110 : decode cX8_restore 110 = .ok (.iastore, 1) := by decide +kernel
theorem dX8_restore_111 : decode cX8_restore 111 = .ok (.iinc 1 1, 3) := by decide +kernel
theorem dX8_restore_114 : decode cX8_restore 114 = .ok (.goto (-83), 3) := by decide +kernel
theorem dX8_restore_117 : decode cX8_restore 117 = .ok (.iconst 0, 1) := by decide +kernel
theorem dX8_restore_118 : decode cX8_restore 118 = .ok (.istore_n 1, 1) := by decide +kernel
theorem dX8_restore_119 : decode cX8_restore 119 = .ok (.iload_n 1, 1) := by decide +kernel
theorem dX8_restore_120 : decode cX8_restore 120 = .ok (.iconst 3, 1) := by decide +kernel
theorem dX8_restore_121 : decode cX8_restore 121 = .ok (.if_icmp .ge 45, 3) := by decide +kernel
theorem dX8_restore_124 : decode cX8_restore 124 = .ok (.aload_n 0, 1) := by decide +kernel
theorem dX8_restore_125 : decode cX8_restore 125 = .ok (.getfield 34, 3) := by decide +kernel
theorem dX8_restore_128 : decode cX8_restore 128 = .ok (.iload_n 1, 1) := by decide +kernel
theorem dX8_restore_129 : decode cX8_restore 129 = .ok (.aload_n 0, 1) := by decide +kernel
theorem dX8_restore_130 : decode cX8_restore 130 = .ok (.getfield 77, 3) := by decide +kernel
theorem dX8_restore_133 : decode cX8_restore 133 = .ok (.iload_n 1, 1) := by decide +kernel
theorem dX8_restore_134 : decode cX8_restore 134 = .ok (.iaload, 1) := by decide +kernel
theorem dX8_restore_135 : decode cX8_restore 135 = .ok (.iastore, 1) := by decide +kernel
theorem dX8_restore_136 : decode cX8_restore 136 = .ok (.aload_n 0, 1) := by decide +kernel
theorem dX8_restore_137 : decode cX8_restore 137 = .ok (.getfield 37, 3) := by decide +kernel
theorem dX8_restore_140 : decode cX8_restore 140 = .ok (.iload_n 1, 1) := by decide +kernel
theorem dX8_restore_141 : decode cX8_restore 141 = .ok (.aload_n 0, 1) := by decide +kernel
theorem dX8_restore_142 : decode cX8_restore 142 = .ok (.getfield 80, 3) := by decide +kernel
theorem dX8_restore_145 : decode cX8_restore 145 = .ok (.iload_n 1, 1) := by decide +kernel
theorem dX8_restore_146 : decode cX8_restore 146 = .ok (.iaload, 1) := by decide +kernel
theorem dX8_restore_147 : decode cX8_restore 147 = .ok (.iastore, 1) := by decide +kernel
theorem dX8_restore_148 : decode cX8_restore 148 = .ok (.aload_n 0, 1) := by decide +kernel
theorem dX8_restore_149 : decode cX8_restore 149 = .ok (.getfield 40, 3) := by decide +kernel
theorem dX8_restore_152 : decode cX8_restore 152 = .ok (.iload_n 1, 1) := by decide +kernel
theorem dX8_restore_153 : decode cX8_restore 153 = .ok (.aload_n 0, 1) := by decide +kernel
theorem dX8_restore_154 : decode cX8_restore 154 = .ok (.getfield 83, 3) := by decide +kernel
theorem dX8_restore_157 : decode cX8_restore 157 = .ok (.iload_n 1, 1) := by decide +kernel
theorem dX8_restore_158 : decode cX8_restore 158 = .ok (.iaload, 1) := by decide +kernel
theorem dX8_restore_159 : decode cX8_restore 159 = .ok (.iastore, 1) := by decide +kernel
theorem dX8_restore_160 : decode cX8_restore 160 = .ok (.iinc 1 1, 3) := by decide +kernel
theorem dX8_restore_163 : decode cX8_restore 163 = .ok (.goto (-44), 3) := by decide +kernel
theorem dX8_restore_166 : decode cX8_restore 166 = .ok (.aload_n 0, 1) := by decide +kernel
theorem dX8_restore_167 : decode cX8_restore 167 = .ok (.getfield 119, 3) := by decide +kernel
theorem dX8_restore_170 : decode cX8_restore 170 = .ok (.aload_n 0, 1) := by decide +kernel
theorem dX8_restore_171 : decode cX8_restore 171 = .ok (.invokevirtual 181, 3) := by decide +kernel
theorem dX8_restore_174 : decode cX8_restore 174 = .ok (.isub, 1) := by decide +kernel
theorem dX8_restore_175 : decode cX8_restore 175 = .ok (.ireturn, 1) := by decide +kernel
theorem dX8_sum_0 : decode cX8_sum 0 = .ok (.iconst 0, 1) := by decide +kernel
theorem dX8_sum_1 : decode cX8_sum 1 = .ok (.istore_n 2, 1) := by decide +kernel
theorem dX8_sum_2 : decode cX8_sum 2 = .ok (.iconst 0, 1) := by decide +kernel
theorem dX8_sum_3 : decode cX8_sum 3 = .ok (.istore_n 3, 1) := by decide +kernel
theorem dX8_sum_4 : decode cX8_sum 4 = .ok (.iload_n 3, 1) := by decide +kernel
theorem dX8_sum_5 : decode cX8_sum 5 = .ok (.aload_n 0, 1) := by decide +kernel
theorem dX8_sum_6 : decode cX8_sum 6 = .ok (.getfield 132, 3) := by decide +kernel
theorem dX8_sum_9 : decode cX8_sum 9 = .ok (.if_icmp .ge 18, 3) := by decide +kernel
theorem dX8_sum_12 : decode cX8_sum 12 = .ok (.iload_n 2, 1) := by decide +kernel
theorem dX8_sum_13 : decode cX8_sum 13 = .ok (.aload_n 0, 1) := by decide +kernel
theorem dX8_sum_14 : decode cX8_sum 14 = .ok (.iload_n 3, 1) := by decide +kernel
theorem dX8_sum_15 : decode cX8_sum 15 = .ok (.iload_n 1, 1) := by decide +kernel
theorem dX8_sum_16 : decode cX8_sum 16 = .ok (.invokevirtual 159, 3) := by decide +kernel
theorem dX8_sum_19 : decode cX8_sum 19 = .ok (.iadd, 1) := by decide +kernel
theorem dX8_sum_20 : decode cX8_sum 20 = .ok (.istore_n 2, 1) := by decide +kernel
theorem dX8_sum_21 : decode cX8_sum 21 = .ok (.iinc 3 1, 3) := by decide +kernel
theorem dX8_sum_24 : decode cX8_sum 24 = .ok (.goto (-20), 3) := by decide +kernel
theorem dX8_sum_27 : decode cX8_sum 27 = .ok (.iload_n 2, 1) := by decide +kernel
theorem dX8_sum_28 : decode cX8_sum 28 = .ok (.ireturn, 1) := by decide +kernel
theorem dX8_foundMany_0 : decode cX8_foundMany 0 = .ok (.iconst 0, 1) := by decide +kernel
theorem dX8_foundMany_1 : decode cX8_foundMany 1 = .ok (.istore_n 1, 1) := by decide +kernel
theorem dX8_foundMany_2 : decode cX8_foundMany 2 = .ok (.iconst 0, 1) := by decide +kernel
theorem dX8_foundMany_3 : decode cX8_foundMany 3 = .ok (.istore_n 2, 1) := by decide +kernel
theorem dX8_foundMany_4 : decode cX8_foundMany 4 = .ok (.iload_n 2, 1) := by decide +kernel
theorem dX8_foundMany_5 : decode cX8_foundMany 5 = .ok (.aload_n 0, 1) := by decide +kernel
theorem dX8_foundMany_6 : decode cX8_foundMany 6 = .ok (.getfield 119, 3) := by decide +kernel
theorem dX8_foundMany_9 : decode cX8_foundMany 9 = .ok (.if_icmp .ge 27, 3) := by decide +kernel
theorem dX8_foundMany_12 : decode cX8_foundMany 12 = .ok (.iload_n 1, 1) := by decide +kernel
theorem dX8_foundMany_13 : decode cX8_foundMany 13 = .ok (.aload_n 0, 1) := by decide +kernel
theorem dX8_foundMany_14 : decode cX8_foundMany 14 = .ok (.getfield 31, 3) := by decide +kernel
theorem dX8_foundMany_17 : decode cX8_foundMany 17 = .ok (.iload_n 2, 1) := by decide +kernel
theorem dX8_foundMany_18 : decode cX8_foundMany 18 = .ok (.iaload, 1) := by decide +kernel
theorem dX8_foundMany_19 : decode cX8_foundMany 19 = .ok (.iconst (-1), 1) := by decide +kernel
theorem dX8_foundMany_20 : decode cX8_foundMany 20 = .ok (.if_icmp .ne 7, 3) := by decide +kernel
theorem dX8_foundMany_23 : decode cX8_foundMany 23 = .ok (.iconst 0, 1) := by decide +kernel
theorem dX8_foundMany_24 : decode cX8_foundMany 24 = .ok (.goto 4, 3) := by decide +kernel
theorem dX8_foundMany_27 : decode cX8_foundMany 27 = .ok (.iconst 1, 1) := by decide +kernel
theorem dX8_foundMany_28 : decode cX8_foundMany 28 = .ok (.iadd, 1) := by decide +kernel
theorem dX8_foundMany_29 : decode cX8_foundMany 29 = .ok (.istore_n 1, 1) := by decide +kernel
theorem dX8_foundMany_30 : decode cX8_foundMany 30 = .ok (.iinc 2 1, 3) := by decide +kernel
theorem dX8_foundMany_33 : decode cX8_foundMany 33 = .ok (.goto (-29), 3) := by decide +kernel
theorem dX8_foundMany_36 : decode cX8_foundMany 36 = .ok (.iload_n 1, 1) := by decide +kernel
theorem dX8_foundMany_37 : decode cX8_foundMany 37 = .ok (.ireturn, 1) := by decide +kernel
theorem dX8_howMany_0 : decode cX8_howMany 0 = .ok (.iload_n 1, 1) := by decide +kernel
theorem dX8_howMany_1 : decode cX8_howMany 1 = .ok (.tableswitch 121 0 10 #[59, 64, 69, 74, 84, 89, 95, 101, 106, 111, 116], 59) := by decide +kernel
theorem dX8_howMany_60 : decode cX8_howMany 60 = .ok (.aload_n 0, 1) := by decide +kernel
theorem dX8_howMany_61 : decode cX8_howMany 61 = .ok (.getfield 119, 3) := by decide +kernel
theorem dX8_howMany_64 : decode cX8_howMany 64 = .ok (.ireturn, 1) := by decide +kernel
theorem dX8_howMany_65 : decode cX8_howMany 65 = .ok (.aload_n 0, 1) := by decide +kernel
theorem dX8_howMany_66 : decode cX8_howMany 66 = .ok (.getfield 122, 3) := by decide +kernel
theorem dX8_howMany_69 : decode cX8_howMany 69 = .ok (.ireturn, 1) := by decide +kernel
theorem dX8_howMany_70 : decode cX8_howMany 70 = .ok (.aload_n 0, 1) := by decide +kernel
theorem dX8_howMany_71 : decode cX8_howMany 71 = .ok (.getfield 132, 3) := by decide +kernel
theorem dX8_howMany_74 : decode cX8_howMany 74 = .ok (.ireturn, 1) := by decide +kernel
theorem dX8_howMany_75 : decode cX8_howMany 75 = .ok (.aload_n 0, 1) := by decide +kernel
theorem dX8_howMany_76 : decode cX8_howMany 76 = .ok (.getfield 119, 3) := by decide +kernel
theorem dX8_howMany_79 : decode cX8_howMany 79 = .ok (.aload_n 0, 1) := by decide +kernel
theorem dX8_howMany_80 : decode cX8_howMany 80 = .ok (.invokevirtual 181, 3) := by decide +kernel
theorem dX8_howMany_83 : decode cX8_howMany 83 = .ok (.isub, 1) := by decide +kernel
theorem dX8_howMany_84 : decode cX8_howMany 84 = .ok (.ireturn, 1) := by decide +kernel
theorem dX8_howMany_85 : decode cX8_howMany 85 = .ok (.aload_n 0, 1) := by decide +kernel
theorem dX8_howMany_86 : decode cX8_howMany 86 = .ok (.invokevirtual 172, 3) := by decide +kernel
theorem dX8_howMany_89 : decode cX8_howMany 89 = .ok (.ireturn, 1) := by decide +kernel
theorem dX8_howMany_90 : decode cX8_howMany 90 = .ok (.aload_n 0, 1) := by decide +kernel
theorem dX8_howMany_91 : decode cX8_howMany 91 = .ok (.iconst 1, 1) := by decide +kernel
theorem dX8_howMany_92 : decode cX8_howMany 92 = .ok (.invokevirtual 251, 3) := by decide +kernel
theorem dX8_howMany_95 : decode cX8_howMany 95 = .ok (.ireturn, 1) := by decide +kernel
theorem dX8_howMany_96 : decode cX8_howMany 96 = .ok (.aload_n 0, 1) := by decide +kernel
theorem dX8_howMany_97 : decode cX8_howMany 97 = .ok (.iconst 2, 1) := by decide +kernel
theorem dX8_howMany_98 : decode cX8_howMany 98 = .ok (.invokevirtual 251, 3) := by decide +kernel
theorem dX8_howMany_101 : decode cX8_howMany 101 = .ok (.ireturn, 1) := by decide +kernel
theorem dX8_howMany_102 : decode cX8_howMany 102 = .ok (.aload_n 0, 1) := by decide +kernel
theorem dX8_howMany_103 : decode cX8_howMany 103 = .ok (.invokevirtual 254, 3) := by decide +kernel
theorem dX8_howMany_106 : decode cX8_howMany 106 = .ok (.ireturn, 1) := by decide +kernel
theorem dX8_howMany_107 : decode cX8_howMany 107 = .ok (.aload_n 0, 1) := by decide +kernel
theorem dX8_howMany_108 : decode cX8_howMany 108 = .ok (.getfield 90, 3) := by decide +kernel
theorem dX8_howMany_111 : decode cX8_howMany 111 = .ok (.ireturn, 1) := by decide +kernel
theorem dX8_howMany_112 : decode cX8_howMany 112 = .ok (.aload_n 0, 1) := by decide +kernel
theorem dX8_howMany_113 : decode cX8_howMany 113 = .ok (.getfield 129, 3) := by decide +kernel
theorem dX8_howMany_116 : decode cX8_howMany 116 = .ok (.ireturn, 1) := by decide +kernel
theorem dX8_howMany_117 : decode cX8_howMany 117 = .ok (.aload_n 0, 1) := by decide +kernel
theorem dX8_howMany_118 : decode cX8_howMany 118 = .ok (.getfield 194, 3) := by decide +kernel
theorem dX8_howMany_121 : decode cX8_howMany 121 = .ok (.ireturn, 1) := by decide +kernel
theorem dX8_howMany_122 : decode cX8_howMany 122 = .ok (.bipush (-102), 2) := by decide +kernel
theorem dX8_howMany_124 : decode cX8_howMany 124 = .ok (.ireturn, 1) := by decide +kernel
theorem dX8_count_0 : decode cX8_count 0 = .ok (.aload_n 0, 1) := by decide +kernel
theorem dX8_count_1 : decode cX8_count 1 = .ok (.iload_n 1, 1) := by decide +kernel
theorem dX8_count_2 : decode cX8_count 2 = .ok (.invokevirtual 257, 3) := by decide +kernel
theorem dX8_count_5 : decode cX8_count 5 = .ok (.ireturn, 1) := by decide +kernel
theorem dX8_mix_0 : decode cX8_mix 0 = .ok (.aload_n 0, 1) := by decide +kernel
theorem dX8_mix_1 : decode cX8_mix 1 = .ok (.ldc2_w 260, 3) := by decide +kernel
theorem dX8_mix_4 : decode cX8_mix 4 = .ok (.aload_n 0, 1) := by decide +kernel
theorem dX8_mix_5 : decode cX8_mix 5 = .ok (.getfield 262, 3) := by decide +kernel
theorem dX8_mix_8 : decode cX8_mix 8 = .ok (.lmul, 1) := by decide +kernel
theorem dX8_mix_9 : decode cX8_mix 9 = .ok (.lload_n 1, 1) := by decide +kernel
theorem dX8_mix_10 : decode cX8_mix 10 = .ok (.ladd, 1) := by decide +kernel
theorem dX8_mix_11 : decode cX8_mix 11 = .ok (.putfield 262, 3) := by decide +kernel
theorem dX8_mix_14 : decode cX8_mix 14 = .ok (.return_, 1) := by decide +kernel
theorem dX8_digest_0 : decode cX8_digest 0 = .ok (.aload_n 0, 1) := by decide +kernel
theorem dX8_digest_1 : decode cX8_digest 1 = .ok (.ldc2_w 265, 3) := by decide +kernel
theorem dX8_digest_4 : decode cX8_digest 4 = .ok (.putfield 262, 3) := by decide +kernel
theorem dX8_digest_7 : decode cX8_digest 7 = .ok (.iconst 0, 1) := by decide +kernel
theorem dX8_digest_8 : decode cX8_digest 8 = .ok (.istore_n 1, 1) := by decide +kernel
theorem dX8_digest_9 : decode cX8_digest 9 = .ok (.iload_n 1, 1) := by decide +kernel
theorem dX8_digest_10 : decode cX8_digest 10 = .ok (.aload_n 0, 1) := by decide +kernel
theorem dX8_digest_11 : decode cX8_digest 11 = .ok (.getfield 119, 3) := by decide +kernel
theorem dX8_digest_14 : decode cX8_digest 14 = .ok (.if_icmp .ge 44, 3) := by decide +kernel
theorem dX8_digest_17 : decode cX8_digest 17 = .ok (.iconst 0, 1) := by decide +kernel
theorem dX8_digest_18 : decode cX8_digest 18 = .ok (.istore_n 2, 1) := by decide +kernel
theorem dX8_digest_19 : decode cX8_digest 19 = .ok (.iload_n 2, 1) := by decide +kernel
theorem dX8_digest_20 : decode cX8_digest 20 = .ok (.bipush 9, 2) := by decide +kernel
theorem dX8_digest_22 : decode cX8_digest 22 = .ok (.if_icmp .ge 20, 3) := by decide +kernel
theorem dX8_digest_25 : decode cX8_digest 25 = .ok (.aload_n 0, 1) := by decide +kernel
theorem dX8_digest_26 : decode cX8_digest 26 = .ok (.aload_n 0, 1) := by decide +kernel
theorem dX8_digest_27 : decode cX8_digest 27 = .ok (.iload_n 1, 1) := by decide +kernel
theorem dX8_digest_28 : decode cX8_digest 28 = .ok (.iload_n 2, 1) := by decide +kernel
theorem dX8_digest_29 : decode cX8_digest 29 = .ok (.invokevirtual 152, 3) := by decide +kernel
theorem dX8_digest_32 : decode cX8_digest 32 = .ok (.i2l, 1) := by decide +kernel
theorem dX8_digest_33 : decode cX8_digest 33 = .ok (.invokevirtual 267, 3) := by decide +kernel
theorem dX8_digest_36 : decode cX8_digest 36 = .ok (.iinc 2 1, 3) := by decide +kernel
theorem dX8_digest_39 : decode cX8_digest 39 = .ok (.goto (-20), 3) := by decide +kernel
theorem dX8_digest_42 : decode cX8_digest 42 = .ok (.aload_n 0, 1) := by decide +kernel
theorem dX8_digest_43 : decode cX8_digest 43 = .ok (.aload_n 0, 1) := by decide +kernel
theorem dX8_digest_44 : decode cX8_digest 44 = .ok (.iload_n 1, 1) := by decide +kernel
theorem dX8_digest_45 : decode cX8_digest 45 = .ok (.invokevirtual 218, 3) := by decide +kernel
theorem dX8_digest_48 : decode cX8_digest 48 = .ok (.i2l, 1) := by decide +kernel
theorem dX8_digest_49 : decode cX8_digest 49 = .ok (.invokevirtual 267, 3) := by decide +kernel
theorem dX8_digest_52 : decode cX8_digest 52 = .ok (.iinc 1 1, 3) := by decide +kernel
theorem dX8_digest_55 : decode cX8_digest 55 = .ok (.goto (-46), 3) := by decide +kernel
theorem dX8_digest_58 : decode cX8_digest 58 = .ok (.iconst 0, 1) := by decide +kernel
theorem dX8_digest_59 : decode cX8_digest 59 = .ok (.istore_n 1, 1) := by decide +kernel
theorem dX8_digest_60 : decode cX8_digest 60 = .ok (.iload_n 1, 1) := by decide +kernel
theorem dX8_digest_61 : decode cX8_digest 61 = .ok (.aload_n 0, 1) := by decide +kernel
theorem dX8_digest_62 : decode cX8_digest 62 = .ok (.getfield 132, 3) := by decide +kernel
theorem dX8_digest_65 : decode cX8_digest 65 = .ok (.if_icmp .ge 55, 3) := by decide +kernel
theorem dX8_digest_68 : decode cX8_digest 68 = .ok (.iconst 0, 1) := by decide +kernel
theorem dX8_digest_69 : decode cX8_digest 69 = .ok (.istore_n 2, 1) := by decide +kernel
theorem dX8_digest_70 : decode cX8_digest 70 = .ok (.iload_n 2, 1) := by decide +kernel
theorem dX8_digest_71 : decode cX8_digest 71 = .ok (.iconst 3, 1) := by decide +kernel
theorem dX8_digest_72 : decode cX8_digest 72 = .ok (.if_icmp .ge 20, 3) := by decide +kernel
theorem dX8_digest_75 : decode cX8_digest 75 = .ok (.aload_n 0, 1) := by decide +kernel
theorem dX8_digest_76 : decode cX8_digest 76 = .ok (.aload_n 0, 1) := by decide +kernel
theorem dX8_digest_77 : decode cX8_digest 77 = .ok (.iload_n 1, 1) := by decide +kernel
theorem dX8_digest_78 : decode cX8_digest 78 = .ok (.iload_n 2, 1) := by decide +kernel
theorem dX8_digest_79 : decode cX8_digest 79 = .ok (.invokevirtual 159, 3) := by decide +kernel
theorem dX8_digest_82 : decode cX8_digest 82 = .ok (.i2l, 1) := by decide +kernel
theorem dX8_digest_83 : decode cX8_digest 83 = .ok (.invokevirtual 267, 3) := by decide +kernel
theorem dX8_digest_86 : decode cX8_digest 86 = .ok (.iinc 2 1, 3) := by decide +kernel
theorem dX8_digest_89 : decode cX8_digest 89 = .ok (.goto (-19), 3) := by decide +kernel
theorem dX8_digest_92 : decode cX8_digest 92 = .ok (.aload_n 0, 1) := by decide +kernel
theorem dX8_digest_93 : decode cX8_digest 93 = .ok (.aload_n 0, 1) := by decide +kernel
theorem dX8_digest_94 : decode cX8_digest 94 = .ok (.iload_n 1, 1) := by decide +kernel
theorem dX8_digest_95 : decode cX8_digest 95 = .ok (.iconst 0, 1) := by decide +kernel
theorem dX8_digest_96 : decode cX8_digest 96 = .ok (.invokevirtual 200, 3) := by decide +kernel
theorem dX8_digest_99 : decode cX8_digest 99 = .ok (.i2l, 1) := by decide +kernel
theorem dX8_digest_100 : decode cX8_digest 100 = .ok (.invokevirtual 267, 3) := by decide +kernel
theorem dX8_digest_103 : decode cX8_digest 103 = .ok (.aload_n 0, 1) := by decide +kernel
theorem dX8_digest_104 : decode cX8_digest 104 = .ok (.aload_n 0, 1) := by decide +kernel
theorem dX8_digest_105 : decode cX8_digest 105 = .ok (.iload_n 1, 1) := by decide +kernel
theorem dX8_digest_106 : decode cX8_digest 106 = .ok (.iconst 1, 1) := by decide +kernel
theorem dX8_digest_107 : decode cX8_digest 107 = .ok (.invokevirtual 200, 3) := by decide +kernel
theorem dX8_digest_110 : decode cX8_digest 110 = .ok (.i2l, 1) := by decide +kernel
theorem dX8_digest_111 : decode cX8_digest 111 = .ok (.invokevirtual 267, 3) := by decide +kernel
theorem dX8_digest_114 : decode cX8_digest 114 = .ok (.iinc 1 1, 3) := by decide +kernel
theorem dX8_digest_117 : decode cX8_digest 117 = .ok (.goto (-57), 3) := by decide +kernel
theorem dX8_digest_120 : decode cX8_digest 120 = .ok (.aload_n 0, 1) := by decide +kernel
theorem dX8_digest_121 : decode cX8_digest 121 = .ok (.getfield 119, 3) := by decide +kernel
theorem dX8_digest_124 : decode cX8_digest 124 = .ok (.ifCond .le 12, 3) := by decide +kernel
theorem dX8_digest_127 : decode cX8_digest 127 = .ok (.aload_n 0, 1) := by decide +kernel
theorem dX8_digest_128 : decode cX8_digest 128 = .ok (.aload_n 0, 1) := by decide +kernel
theorem dX8_digest_129 : decode cX8_digest 129 = .ok (.invokevirtual 215, 3) := by decide +kernel
theorem dX8_digest_132 : decode cX8_digest 132 = .ok (.i2l, 1) := by decide +kernel
theorem dX8_digest_133 : decode cX8_digest 133 = .ok (.invokevirtual 267, 3) := by decide +kernel
theorem dX8_digest_136 : decode cX8_digest 136 = .ok (.iconst 0, 1) := by decide +kernel
theorem dX8_digest_137 : decode cX8_digest 137 = .ok (.istore_n 1, 1) := by decide +kernel
theorem dX8_digest_138 : decode cX8_digest 138 = .ok (.iload_n 1, 1) := by decide +kernel
theorem dX8_digest_139 : decode cX8_digest 139 = .ok (.aload_n 0, 1) := by decide +kernel
theorem dX8_digest_140 : decode cX8_digest 140 = .ok (.getfield 90, 3) := by decide +kernel
theorem dX8_digest_143 : decode cX8_digest 143 = .ok (.if_icmp .ge 20, 3) := by decide +kernel
theorem dX8_digest_146 : decode cX8_digest 146 = .ok (.aload_n 0, 1) := by decide +kernel
theorem dX8_digest_147 : decode cX8_digest 147 = .ok (.aload_n 0, 1) := by decide +kernel
theorem dX8_digest_148 : decode cX8_digest 148 = .ok (.getfield 43, 3) := by decide +kernel
theorem dX8_digest_151 : decode cX8_digest 151 = .ok (.iload_n 1, 1) := by decide +kernel
theorem dX8_digest_152 : decode cX8_digest 152 = .ok (.baload, 1) := by decide +kernel
theorem dX8_digest_153 : decode cX8_digest 153 = .ok (.i2l, 1) := by decide +kernel
theorem dX8_digest_154 : decode cX8_digest 154 = .ok (.invokevirtual 267, 3) := by decide +kernel
theorem dX8_digest_157 : decode cX8_digest 157 = .ok (.iinc 1 1, 3) := by decide +kernel
theorem dX8_digest_160 : decode cX8_digest 160 = .ok (.goto (-22), 3) := by decide +kernel
theorem dX8_digest_163 : decode cX8_digest 163 = .ok (.iconst 0, 1) := by decide +kernel
theorem dX8_digest_164 : decode cX8_digest 164 = .ok (.istore_n 1, 1) := by decide +kernel
theorem dX8_digest_165 : decode cX8_digest 165 = .ok (.iload_n 1, 1) := by decide +kernel
theorem dX8_digest_166 : decode cX8_digest 166 = .ok (.bipush 11, 2) := by decide +kernel
theorem dX8_digest_168 : decode cX8_digest 168 = .ok (.if_icmp .ge 19, 3) := by decide +kernel
theorem dX8_digest_171 : decode cX8_digest 171 = .ok (.aload_n 0, 1) := by decide +kernel
theorem dX8_digest_172 : decode cX8_digest 172 = .ok (.aload_n 0, 1) := by decide +kernel
theorem dX8_digest_173 : decode cX8_digest 173 = .ok (.iload_n 1, 1) := by decide +kernel
theorem dX8_digest_174 : decode cX8_digest 174 = .ok (.invokevirtual 257, 3) := by decide +kernel
theorem dX8_digest_177 : decode cX8_digest 177 = .ok (.i2l, 1) := by decide +kernel
theorem dX8_digest_178 : decode cX8_digest 178 = .ok (.invokevirtual 267, 3) := by decide +kernel
theorem dX8_digest_181 : decode cX8_digest 181 = .ok (.iinc 1 1, 3) := by decide +kernel
theorem dX8_digest_184 : decode cX8_digest 184 = .ok (.goto (-19), 3) := by decide +kernel
theorem dX8_digest_187 : decode cX8_digest 187 = .ok (.aload_n 0, 1) := by decide +kernel
theorem dX8_digest_188 : decode cX8_digest 188 = .ok (.getfield 262, 3) := by decide +kernel
theorem dX8_digest_191 : decode cX8_digest 191 = .ok (.lreturn, 1) := by decide +kernel
end
section
theorem dL_law_0 : decode cL_law 0 = .ok (.new 7, 3) := by decide +kernel
theorem dL_law_3 : decode cL_law 3 = .ok (.dup, 1) := by decide +kernel
theorem dL_law_4 : decode cL_law 4 = .ok (.invokespecial 9, 3) := by decide +kernel
theorem dL_law_7 : decode cL_law 7 = .ok (.astore_n 1, 1) := by decide +kernel
theorem dL_law_8 : decode cL_law 8 = .ok (.new 10, 3) := by decide +kernel
theorem dL_law_11 : decode cL_law 11 = .ok (.dup, 1) := by decide +kernel
theorem dL_law_12 : decode cL_law 12 = .ok (.invokespecial 12, 3) := by decide +kernel
theorem dL_law_15 : decode cL_law 15 = .ok (.astore_n 2, 1) := by decide +kernel
theorem dL_law_16 : decode cL_law 16 = .ok (.iconst 0, 1) := by decide +kernel
theorem dL_law_17 : decode cL_law 17 = .ok (.istore_n 3, 1) := by decide +kernel
theorem dL_law_18 : decode cL_law 18 = .ok (.iload_n 3, 1) := by decide +kernel
theorem dL_law_19 : decode cL_law 19 = .ok (.aload_n 0, 1) := by decide +kernel
theorem dL_law_20 : decode cL_law 20 = .ok (.arraylength, 1) := by decide +kernel
theorem dL_law_21 : decode cL_law 21 = .ok (.iconst 4, 1) := by decide +kernel
theorem dL_law_22 : decode cL_law 22 = .ok (.isub, 1) := by decide +kernel
theorem dL_law_23 : decode cL_law 23 = .ok (.if_icmp .gt 720, 3) := by decide +kernel
theorem dL_law_26 : decode cL_law 26 = .ok (.aload_n 0, 1) := by decide +kernel
theorem dL_law_27 : decode cL_law 27 = .ok (.iload_n 3, 1) := by decide +kernel
theorem dL_law_28 : decode cL_law 28 = .ok (.iaload, 1) := by decide +kernel
theorem dL_law_29 : decode cL_law 29 = .ok (.bipush 31, 2) := by decide +kernel
theorem dL_law_31 : decode cL_law 31 = .ok (.iand, 1) := by decide +kernel
theorem dL_law_32 : decode cL_law 32 = .ok (.tableswitch 705 0 23 #[112, 135, 148, 161, 174, 207, 240, 263, 296, 329, 362, 405, 428, 461, 474, 497, 530, 563, 576, 599, 642, 655, 668, 691], 112) := by decide +kernel
theorem dL_law_144 : decode cL_law 144 = .ok (.aload_n 1, 1) := by decide +kernel
theorem dL_law_145 : decode cL_law 145 = .ok (.aload_n 0, 1) := by decide +kernel
theorem dL_law_146 : decode cL_law 146 = .ok (.iload_n 3, 1) := by decide +kernel
theorem dL_law_147 : decode cL_law 147 = .ok (.iconst 1, 1) := by decide +kernel
theorem dL_law_148 : decode cL_law 148 = .ok (.iadd, 1) := by decide +kernel
theorem dL_law_149 : decode cL_law 149 = .ok (.iaload, 1) := by decide +kernel
theorem dL_law_150 : decode cL_law 150 = .ok (.invokevirtual 13, 3) := by decide +kernel
theorem dL_law_153 : decode cL_law 153 = .ok (.aload_n 2, 1) := by decide +kernel
theorem dL_law_154 : decode cL_law 154 = .ok (.aload_n 0, 1) := by decide +kernel
theorem dL_law_155 : decode cL_law 155 = .ok (.iload_n 3, 1) := by decide +kernel
theorem dL_law_156 : decode cL_law 156 = .ok (.iconst 1, 1) := by decide +kernel
theorem dL_law_157 : decode cL_law 157 = .ok (.iadd, 1) := by decide +kernel
theorem dL_law_158 : decode cL_law 158 = .ok (.iaload, 1) := by decide +kernel
theorem dL_law_159 : decode cL_law 159 = .ok (.invokevirtual 17, 3) := by decide +kernel
theorem dL_law_162 : decode cL_law 162 = .ok (.if_icmp .eq 575, 3) := by decide +kernel
theorem dL_law_165 : decode cL_law 165 = .ok (.iconst 0, 1) := by decide +kernel
theorem dL_law_166 : decode cL_law 166 = .ok (.ireturn, 1) := by decide +kernel
theorem dL_law_167 : decode cL_law 167 = .ok (.aload_n 1, 1) := by decide +kernel
theorem dL_law_168 : decode cL_law 168 = .ok (.invokevirtual 18, 3) := by decide +kernel
theorem dL_law_171 : decode cL_law 171 = .ok (.aload_n 2, 1) := by decide +kernel
theorem dL_law_172 : decode cL_law 172 = .ok (.invokevirtual 22, 3) := by decide +kernel
theorem dL_law_175 : decode cL_law 175 = .ok (.if_icmp .eq 562, 3) := by decide +kernel
theorem dL_law_178 : decode cL_law 178 = .ok (.iconst 0, 1) := by decide +kernel
theorem dL_law_179 : decode cL_law 179 = .ok (.ireturn, 1) := by decide +kernel
theorem dL_law_180 : decode cL_law 180 = .ok (.aload_n 1, 1) := by decide +kernel
theorem dL_law_181 : decode cL_law 181 = .ok (.invokevirtual 23, 3) := by decide +kernel
theorem dL_law_184 : decode cL_law 184 = .ok (.aload_n 2, 1) := by decide +kernel
theorem dL_law_185 : decode cL_law 185 = .ok (.invokevirtual 26, 3) := by decide +kernel
theorem dL_law_188 : decode cL_law 188 = .ok (.if_icmp .eq 549, 3) := by decide +kernel
theorem dL_law_191 : decode cL_law 191 = .ok (.iconst 0, 1) := by decide +kernel
theorem dL_law_192 : decode cL_law 192 = .ok (.ireturn, 1) := by decide +kernel
theorem dL_law_193 : decode cL_law 193 = .ok (.aload_n 1, 1) := by decide +kernel
theorem dL_law_194 : decode cL_law 194 = .ok (.invokevirtual 27, 3) := by decide +kernel
theorem dL_law_197 : decode cL_law 197 = .ok (.aload_n 2, 1) := by decide +kernel
theorem dL_law_198 : decode cL_law 198 = .ok (.invokevirtual 30, 3) := by decide +kernel
theorem dL_law_201 : decode cL_law 201 = .ok (.if_icmp .eq 536, 3) := by decide +kernel
theorem dL_law_204 : decode cL_law 204 = .ok (.iconst 0, 1) := by decide +kernel
theorem dL_law_205 : decode cL_law 205 = .ok (.ireturn, 1) := by decide +kernel
theorem dL_law_206 : decode cL_law 206 = .ok (.aload_n 1, 1) := by decide +kernel
theorem dL_law_207 : decode cL_law 207 = .ok (.aload_n 0, 1) := by decide +kernel
theorem dL_law_208 : decode cL_law 208 = .ok (.iload_n 3, 1) := by decide +kernel
theorem dL_law_209 : decode cL_law 209 = .ok (.iconst 1, 1) := by decide +kernel
theorem dL_law_210 : decode cL_law 210 = .ok (.iadd, 1) := by decide +kernel
theorem dL_law_211 : decode cL_law 211 = .ok (.iaload, 1) := by decide +kernel
theorem dL_law_212 : decode cL_law 212 = .ok (.aload_n 0, 1) := by decide +kernel
theorem dL_law_213 : decode cL_law 213 = .ok (.iload_n 3, 1) := by decide +kernel
theorem dL_law_214 : decode cL_law 214 = .ok (.iconst 2, 1) := by decide +kernel
theorem dL_law_215 : decode cL_law 215 = .ok (.iadd, 1) := by decide +kernel
theorem dL_law_216 : decode cL_law 216 = .ok (.iaload, 1) := by decide +kernel
theorem dL_law_217 : decode cL_law 217 = .ok (.invokevirtual 31, 3) := by decide +kernel
theorem dL_law_220 : decode cL_law 220 = .ok (.aload_n 2, 1) := by decide +kernel
theorem dL_law_221 : decode cL_law 221 = .ok (.aload_n 0, 1) := by decide +kernel
theorem dL_law_222 : decode cL_law 222 = .ok (.iload_n 3, 1) := by decide +kernel
theorem dL_law_223 : decode cL_law 223 = .ok (.iconst 1, 1) := by decide +kernel
theorem dL_law_224 : decode cL_law 224 = .ok (.iadd, 1) := by decide +kernel
theorem dL_law_225 : decode cL_law 225 = .ok (.iaload, 1) := by decide +kernel
theorem dL_law_226 : decode cL_law 226 = .ok (.aload_n 0, 1) := by decide +kernel
theorem dL_law_227 : decode cL_law 227 = .ok (.iload_n 3, 1) := by decide +kernel
theorem dL_law_228 : decode cL_law 228 = .ok (.iconst 2, 1) := by decide +kernel
theorem dL_law_229 : decode cL_law 229 = .ok (.iadd, 1) := by decide +kernel
theorem dL_law_230 : decode cL_law 230 = .ok (.iaload, 1) := by decide +kernel
theorem dL_law_231 : decode cL_law 231 = .ok (.invokevirtual 35, 3) := by decide +kernel
theorem dL_law_234 : decode cL_law 234 = .ok (.if_icmp .eq 503, 3) := by decide +kernel
theorem dL_law_237 : decode cL_law 237 = .ok (.iconst 0, 1) := by decide +kernel
theorem dL_law_238 : decode cL_law 238 = .ok (.ireturn, 1) := by decide +kernel
theorem dL_law_239 : decode cL_law 239 = .ok (.aload_n 1, 1) := by decide +kernel
theorem dL_law_240 : decode cL_law 240 = .ok (.aload_n 0, 1) := by decide +kernel
theorem dL_law_241 : decode cL_law 241 = .ok (.iload_n 3, 1) := by decide +kernel
theorem dL_law_242 : decode cL_law 242 = .ok (.iconst 1, 1) := by decide +kernel
theorem dL_law_243 : decode cL_law 243 = .ok (.iadd, 1) := by decide +kernel
theorem dL_law_244 : decode cL_law 244 = .ok (.iaload, 1) := by decide +kernel
theorem dL_law_245 : decode cL_law 245 = .ok (.aload_n 0, 1) := by decide +kernel
theorem dL_law_246 : decode cL_law 246 = .ok (.iload_n 3, 1) := by decide +kernel
theorem dL_law_247 : decode cL_law 247 = .ok (.iconst 2, 1) := by decide +kernel
theorem dL_law_248 : decode cL_law 248 = .ok (.iadd, 1) := by decide +kernel
theorem dL_law_249 : decode cL_law 249 = .ok (.iaload, 1) := by decide +kernel
theorem dL_law_250 : decode cL_law 250 = .ok (.invokevirtual 36, 3) := by decide +kernel
theorem dL_law_253 : decode cL_law 253 = .ok (.aload_n 2, 1) := by decide +kernel
theorem dL_law_254 : decode cL_law 254 = .ok (.aload_n 0, 1) := by decide +kernel
theorem dL_law_255 : decode cL_law 255 = .ok (.iload_n 3, 1) := by decide +kernel
theorem dL_law_256 : decode cL_law 256 = .ok (.iconst 1, 1) := by decide +kernel
theorem dL_law_257 : decode cL_law 257 = .ok (.iadd, 1) := by decide +kernel
theorem dL_law_258 : decode cL_law 258 = .ok (.iaload, 1) := by decide +kernel
theorem dL_law_259 : decode cL_law 259 = .ok (.aload_n 0, 1) := by decide +kernel
theorem dL_law_260 : decode cL_law 260 = .ok (.iload_n 3, 1) := by decide +kernel
theorem dL_law_261 : decode cL_law 261 = .ok (.iconst 2, 1) := by decide +kernel
theorem dL_law_262 : decode cL_law 262 = .ok (.iadd, 1) := by decide +kernel
theorem dL_law_263 : decode cL_law 263 = .ok (.iaload, 1) := by decide +kernel
theorem dL_law_264 : decode cL_law 264 = .ok (.invokevirtual 39, 3) := by decide +kernel
theorem dL_law_267 : decode cL_law 267 = .ok (.if_icmp .eq 470, 3) := by decide +kernel
theorem dL_law_270 : decode cL_law 270 = .ok (.iconst 0, 1) := by decide +kernel
theorem dL_law_271 : decode cL_law 271 = .ok (.ireturn, 1) := by decide +kernel
theorem dL_law_272 : decode cL_law 272 = .ok (.aload_n 1, 1) := by decide +kernel
theorem dL_law_273 : decode cL_law 273 = .ok (.aload_n 0, 1) := by decide +kernel
theorem dL_law_274 : decode cL_law 274 = .ok (.iload_n 3, 1) := by decide +kernel
theorem dL_law_275 : decode cL_law 275 = .ok (.iconst 1, 1) := by decide +kernel
theorem dL_law_276 : decode cL_law 276 = .ok (.iadd, 1) := by decide +kernel
theorem dL_law_277 : decode cL_law 277 = .ok (.iaload, 1) := by decide +kernel
theorem dL_law_278 : decode cL_law 278 = .ok (.invokevirtual 40, 3) := by decide +kernel
theorem dL_law_281 : decode cL_law 281 = .ok (.aload_n 2, 1) := by decide +kernel
theorem dL_law_282 : decode cL_law 282 = .ok (.aload_n 0, 1) := by decide +kernel
theorem dL_law_283 : decode cL_law 283 = .ok (.iload_n 3, 1) := by decide +kernel
theorem dL_law_284 : decode cL_law 284 = .ok (.iconst 1, 1) := by decide +kernel
theorem dL_law_285 : decode cL_law 285 = .ok (.iadd, 1) := by decide +kernel
theorem dL_law_286 : decode cL_law 286 = .ok (.iaload, 1) := by decide +kernel
theorem dL_law_287 : decode cL_law 287 = .ok (.invokevirtual 43, 3) := by decide +kernel
theorem dL_law_290 : decode cL_law 290 = .ok (.if_icmp .eq 447, 3) := by decide +kernel
theorem dL_law_293 : decode cL_law 293 = .ok (.iconst 0, 1) := by decide +kernel
theorem dL_law_294 : decode cL_law 294 = .ok (.ireturn, 1) := by decide +kernel
theorem dL_law_295 : decode cL_law 295 = .ok (.aload_n 1, 1) := by decide +kernel
theorem dL_law_296 : decode cL_law 296 = .ok (.aload_n 0, 1) := by decide +kernel
theorem dL_law_297 : decode cL_law 297 = .ok (.iload_n 3, 1) := by decide +kernel
theorem dL_law_298 : decode cL_law 298 = .ok (.iconst 1, 1) := by decide +kernel
theorem dL_law_299 : decode cL_law 299 = .ok (.iadd, 1) := by decide +kernel
theorem dL_law_300 : decode cL_law 300 = .ok (.iaload, 1) := by decide +kernel
theorem dL_law_301 : decode cL_law 301 = .ok (.aload_n 0, 1) := by decide +kernel
theorem dL_law_302 : decode cL_law 302 = .ok (.iload_n 3, 1) := by decide +kernel
theorem dL_law_303 : decode cL_law 303 = .ok (.iconst 2, 1) := by decide +kernel
theorem dL_law_304 : decode cL_law 304 = .ok (.iadd, 1) := by decide +kernel
theorem dL_law_305 : decode cL_law 305 = .ok (.iaload, 1) := by decide +kernel
theorem dL_law_306 : decode cL_law 306 = .ok (.invokevirtual 44, 3) := by decide +kernel
theorem dL_law_309 : decode cL_law 309 = .ok (.aload_n 2, 1) := by decide +kernel
theorem dL_law_310 : decode cL_law 310 = .ok (.aload_n 0, 1) := by decide +kernel
theorem dL_law_311 : decode cL_law 311 = .ok (.iload_n 3, 1) := by decide +kernel
theorem dL_law_312 : decode cL_law 312 = .ok (.iconst 1, 1) := by decide +kernel
theorem dL_law_313 : decode cL_law 313 = .ok (.iadd, 1) := by decide +kernel
theorem dL_law_314 : decode cL_law 314 = .ok (.iaload, 1) := by decide +kernel
theorem dL_law_315 : decode cL_law 315 = .ok (.aload_n 0, 1) := by decide +kernel
theorem dL_law_316 : decode cL_law 316 = .ok (.iload_n 3, 1) := by decide +kernel
theorem dL_law_317 : decode cL_law 317 = .ok (.iconst 2, 1) := by decide +kernel
theorem dL_law_318 : decode cL_law 318 = .ok (.iadd, 1) := by decide +kernel
theorem dL_law_319 : decode cL_law 319 = .ok (.iaload, 1) := by decide +kernel
theorem dL_law_320 : decode cL_law 320 = .ok (.invokevirtual 47, 3) := by decide +kernel
theorem dL_law_323 : decode cL_law 323 = .ok (.if_icmp .eq 414, 3) := by decide +kernel
theorem dL_law_326 : decode cL_law 326 = .ok (.iconst 0, 1) := by decide +kernel
theorem dL_law_327 : decode cL_law 327 = .ok (.ireturn, 1) := by decide +kernel
theorem dL_law_328 : decode cL_law 328 = .ok (.aload_n 1, 1) := by decide +kernel
theorem dL_law_329 : decode cL_law 329 = .ok (.aload_n 0, 1) := by decide +kernel
theorem dL_law_330 : decode cL_law 330 = .ok (.iload_n 3, 1) := by decide +kernel
theorem dL_law_331 : decode cL_law 331 = .ok (.iconst 1, 1) := by decide +kernel
theorem dL_law_332 : decode cL_law 332 = .ok (.iadd, 1) := by decide +kernel
theorem dL_law_333 : decode cL_law 333 = .ok (.iaload, 1) := by decide +kernel
theorem dL_law_334 : decode cL_law 334 = .ok (.aload_n 0, 1) := by decide +kernel
theorem dL_law_335 : decode cL_law 335 = .ok (.iload_n 3, 1) := by decide +kernel
theorem dL_law_336 : decode cL_law 336 = .ok (.iconst 2, 1) := by decide +kernel
theorem dL_law_337 : decode cL_law 337 = .ok (.iadd, 1) := by decide +kernel
theorem dL_law_338 : decode cL_law 338 = .ok (.iaload, 1) := by decide +kernel
theorem dL_law_339 : decode cL_law 339 = .ok (.invokevirtual 48, 3) := by decide +kernel
theorem dL_law_342 : decode cL_law 342 = .ok (.aload_n 2, 1) := by decide +kernel
theorem dL_law_343 : decode cL_law 343 = .ok (.aload_n 0, 1) := by decide +kernel
theorem dL_law_344 : decode cL_law 344 = .ok (.iload_n 3, 1) := by decide +kernel
theorem dL_law_345 : decode cL_law 345 = .ok (.iconst 1, 1) := by decide +kernel
theorem dL_law_346 : decode cL_law 346 = .ok (.iadd, 1) := by decide +kernel
theorem dL_law_347 : decode cL_law 347 = .ok (.iaload, 1) := by decide +kernel
theorem dL_law_348 : decode cL_law 348 = .ok (.aload_n 0, 1) := by decide +kernel
theorem dL_law_349 : decode cL_law 349 = .ok (.iload_n 3, 1) := by decide +kernel
theorem dL_law_350 : decode cL_law 350 = .ok (.iconst 2, 1) := by decide +kernel
theorem dL_law_351 : decode cL_law 351 = .ok (.iadd, 1) := by decide +kernel
theorem dL_law_352 : decode cL_law 352 = .ok (.iaload, 1) := by decide +kernel
theorem dL_law_353 : decode cL_law 353 = .ok (.invokevirtual 51, 3) := by decide +kernel
theorem dL_law_356 : decode cL_law 356 = .ok (.if_icmp .eq 381, 3) := by decide +kernel
theorem dL_law_359 : decode cL_law 359 = .ok (.iconst 0, 1) := by decide +kernel
theorem dL_law_360 : decode cL_law 360 = .ok (.ireturn, 1) := by decide +kernel
theorem dL_law_361 : decode cL_law 361 = .ok (.aload_n 1, 1) := by decide +kernel
theorem dL_law_362 : decode cL_law 362 = .ok (.aload_n 0, 1) := by decide +kernel
theorem dL_law_363 : decode cL_law 363 = .ok (.iload_n 3, 1) := by decide +kernel
theorem dL_law_364 : decode cL_law 364 = .ok (.iconst 1, 1) := by decide +kernel
theorem dL_law_365 : decode cL_law 365 = .ok (.iadd, 1) := by decide +kernel
theorem dL_law_366 : decode cL_law 366 = .ok (.iaload, 1) := by decide +kernel
theorem dL_law_367 : decode cL_law 367 = .ok (.aload_n 0, 1) := by decide +kernel
theorem dL_law_368 : decode cL_law 368 = .ok (.iload_n 3, 1) := by decide +kernel
theorem dL_law_369 : decode cL_law 369 = .ok (.iconst 2, 1) := by decide +kernel
theorem dL_law_370 : decode cL_law 370 = .ok (.iadd, 1) := by decide +kernel
theorem dL_law_371 : decode cL_law 371 = .ok (.iaload, 1) := by decide +kernel
theorem dL_law_372 : decode cL_law 372 = .ok (.invokevirtual 52, 3) := by decide +kernel
theorem dL_law_375 : decode cL_law 375 = .ok (.aload_n 2, 1) := by decide +kernel
theorem dL_law_376 : decode cL_law 376 = .ok (.aload_n 0, 1) := by decide +kernel
theorem dL_law_377 : decode cL_law 377 = .ok (.iload_n 3, 1) := by decide +kernel
theorem dL_law_378 : decode cL_law 378 = .ok (.iconst 1, 1) := by decide +kernel
theorem dL_law_379 : decode cL_law 379 = .ok (.iadd, 1) := by decide +kernel
theorem dL_law_380 : decode cL_law 380 = .ok (.iaload, 1) := by decide +kernel
theorem dL_law_381 : decode cL_law 381 = .ok (.aload_n 0, 1) := by decide +kernel
theorem dL_law_382 : decode cL_law 382 = .ok (.iload_n 3, 1) := by decide +kernel
theorem dL_law_383 : decode cL_law 383 = .ok (.iconst 2, 1) := by decide +kernel
theorem dL_law_384 : decode cL_law 384 = .ok (.iadd, 1) := by decide +kernel
theorem dL_law_385 : decode cL_law 385 = .ok (.iaload, 1) := by decide +kernel
theorem dL_law_386 : decode cL_law 386 = .ok (.invokevirtual 55, 3) := by decide +kernel
theorem dL_law_389 : decode cL_law 389 = .ok (.if_icmp .eq 348, 3) := by decide +kernel
theorem dL_law_392 : decode cL_law 392 = .ok (.iconst 0, 1) := by decide +kernel
theorem dL_law_393 : decode cL_law 393 = .ok (.ireturn, 1) := by decide +kernel
theorem dL_law_394 : decode cL_law 394 = .ok (.aload_n 1, 1) := by decide +kernel
theorem dL_law_395 : decode cL_law 395 = .ok (.aload_n 0, 1) := by decide +kernel
theorem dL_law_396 : decode cL_law 396 = .ok (.iload_n 3, 1) := by decide +kernel
theorem dL_law_397 : decode cL_law 397 = .ok (.iconst 1, 1) := by decide +kernel
theorem dL_law_398 : decode cL_law 398 = .ok (.iadd, 1) := by decide +kernel
theorem dL_law_399 : decode cL_law 399 = .ok (.iaload, 1) := by decide +kernel
theorem dL_law_400 : decode cL_law 400 = .ok (.aload_n 0, 1) := by decide +kernel
theorem dL_law_401 : decode cL_law 401 = .ok (.iload_n 3, 1) := by decide +kernel
theorem dL_law_402 : decode cL_law 402 = .ok (.iconst 2, 1) := by decide +kernel
theorem dL_law_403 : decode cL_law 403 = .ok (.iadd, 1) := by decide +kernel
theorem dL_law_404 : decode cL_law 404 = .ok (.iaload, 1) := by decide +kernel
theorem dL_law_405 : decode cL_law 405 = .ok (.aload_n 0, 1) := by decide +kernel
theorem dL_law_406 : decode cL_law 406 = .ok (.iload_n 3, 1) := by decide +kernel
theorem dL_law_407 : decode cL_law 407 = .ok (.iconst 3, 1) := by decide +kernel
theorem dL_law_408 : decode cL_law 408 = .ok (.iadd, 1) := by decide +kernel
theorem dL_law_409 : decode cL_law 409 = .ok (.iaload, 1) := by decide +kernel
theorem dL_law_410 : decode cL_law 410 = .ok (.invokevirtual 56, 3) := by decide +kernel
theorem dL_law_413 : decode cL_law 413 = .ok (.aload_n 2, 1) := by decide +kernel
theorem dL_law_414 : decode cL_law 414 = .ok (.aload_n 0, 1) := by decide +kernel
theorem dL_law_415 : decode cL_law 415 = .ok (.iload_n 3, 1) := by decide +kernel
theorem dL_law_416 : decode cL_law 416 = .ok (.iconst 1, 1) := by decide +kernel
theorem dL_law_417 : decode cL_law 417 = .ok (.iadd, 1) := by decide +kernel
theorem dL_law_418 : decode cL_law 418 = .ok (.iaload, 1) := by decide +kernel
theorem dL_law_419 : decode cL_law 419 = .ok (.aload_n 0, 1) := by decide +kernel
theorem dL_law_420 : decode cL_law 420 = .ok (.iload_n 3, 1) := by decide +kernel
theorem dL_law_421 : decode cL_law 421 = .ok (.iconst 2, 1) := by decide +kernel
theorem dL_law_422 : decode cL_law 422 = .ok (.iadd, 1) := by decide +kernel
theorem dL_law_423 : decode cL_law 423 = .ok (.iaload, 1) := by decide +kernel
theorem dL_law_424 : decode cL_law 424 = .ok (.aload_n 0, 1) := by decide +kernel
theorem dL_law_425 : decode cL_law 425 = .ok (.iload_n 3, 1) := by decide +kernel
theorem dL_law_426 : decode cL_law 426 = .ok (.iconst 3, 1) := by decide +kernel
theorem dL_law_427 : decode cL_law 427 = .ok (.iadd, 1) := by decide +kernel
theorem dL_law_428 : decode cL_law 428 = .ok (.iaload, 1) := by decide +kernel
theorem dL_law_429 : decode cL_law 429 = .ok (.invokevirtual 60, 3) := by decide +kernel
theorem dL_law_432 : decode cL_law 432 = .ok (.if_icmp .eq 305, 3) := by decide +kernel
theorem dL_law_435 : decode cL_law 435 = .ok (.iconst 0, 1) := by decide +kernel
theorem dL_law_436 : decode cL_law 436 = .ok (.ireturn, 1) := by decide +kernel
theorem dL_law_437 : decode cL_law 437 = .ok (.aload_n 1, 1) := by decide +kernel
theorem dL_law_438 : decode cL_law 438 = .ok (.aload_n 0, 1) := by decide +kernel
theorem dL_law_439 : decode cL_law 439 = .ok (.iload_n 3, 1) := by decide +kernel
theorem dL_law_440 : decode cL_law 440 = .ok (.iconst 1, 1) := by decide +kernel
theorem dL_law_441 : decode cL_law 441 = .ok (.iadd, 1) := by decide +kernel
theorem dL_law_442 : decode cL_law 442 = .ok (.iaload, 1) := by decide +kernel
theorem dL_law_443 : decode cL_law 443 = .ok (.invokevirtual 61, 3) := by decide +kernel
theorem dL_law_446 : decode cL_law 446 = .ok (.aload_n 2, 1) := by decide +kernel
theorem dL_law_447 : decode cL_law 447 = .ok (.aload_n 0, 1) := by decide +kernel
theorem dL_law_448 : decode cL_law 448 = .ok (.iload_n 3, 1) := by decide +kernel
theorem dL_law_449 : decode cL_law 449 = .ok (.iconst 1, 1) := by decide +kernel
theorem dL_law_450 : decode cL_law 450 = .ok (.iadd, 1) := by decide +kernel
theorem dL_law_451 : decode cL_law 451 = .ok (.iaload, 1) := by decide +kernel
theorem dL_law_452 : decode cL_law 452 = .ok (.invokevirtual 64, 3) := by decide +kernel
theorem dL_law_455 : decode cL_law 455 = .ok (.if_icmp .eq 282, 3) := by decide +kernel
theorem dL_law_458 : decode cL_law 458 = .ok (.iconst 0, 1) := by decide +kernel
theorem dL_law_459 : decode cL_law 459 = .ok (.ireturn, 1) := by decide +kernel
theorem dL_law_460 : decode cL_law 460 = .ok (.aload_n 1, 1) := by decide +kernel
theorem dL_law_461 : decode cL_law 461 = .ok (.aload_n 0, 1) := by decide +kernel
theorem dL_law_462 : decode cL_law 462 = .ok (.iload_n 3, 1) := by decide +kernel
theorem dL_law_463 : decode cL_law 463 = .ok (.iconst 1, 1) := by decide +kernel
theorem dL_law_464 : decode cL_law 464 = .ok (.iadd, 1) := by decide +kernel
theorem dL_law_465 : decode cL_law 465 = .ok (.iaload, 1) := by decide +kernel
theorem dL_law_466 : decode cL_law 466 = .ok (.aload_n 0, 1) := by decide +kernel
theorem dL_law_467 : decode cL_law 467 = .ok (.iload_n 3, 1) := by decide +kernel
theorem dL_law_468 : decode cL_law 468 = .ok (.iconst 2, 1) := by decide +kernel
theorem dL_law_469 : decode cL_law 469 = .ok (.iadd, 1) := by decide +kernel
theorem dL_law_470 : decode cL_law 470 = .ok (.iaload, 1) := by decide +kernel
theorem dL_law_471 : decode cL_law 471 = .ok (.invokevirtual 65, 3) := by decide +kernel
theorem dL_law_474 : decode cL_law 474 = .ok (.aload_n 2, 1) := by decide +kernel
theorem dL_law_475 : decode cL_law 475 = .ok (.aload_n 0, 1) := by decide +kernel
theorem dL_law_476 : decode cL_law 476 = .ok (.iload_n 3, 1) := by decide +kernel
theorem dL_law_477 : decode cL_law 477 = .ok (.iconst 1, 1) := by decide +kernel
theorem dL_law_478 : decode cL_law 478 = .ok (.iadd, 1) := by decide +kernel
theorem dL_law_479 : decode cL_law 479 = .ok (.iaload, 1) := by decide +kernel
theorem dL_law_480 : decode cL_law 480 = .ok (.aload_n 0, 1) := by decide +kernel
theorem dL_law_481 : decode cL_law 481 = .ok (.iload_n 3, 1) := by decide +kernel
theorem dL_law_482 : decode cL_law 482 = .ok (.iconst 2, 1) := by decide +kernel
theorem dL_law_483 : decode cL_law 483 = .ok (.iadd, 1) := by decide +kernel
theorem dL_law_484 : decode cL_law 484 = .ok (.iaload, 1) := by decide +kernel
theorem dL_law_485 : decode cL_law 485 = .ok (.invokevirtual 68, 3) := by decide +kernel
theorem dL_law_488 : decode cL_law 488 = .ok (.if_icmp .eq 249, 3) := by decide +kernel
theorem dL_law_491 : decode cL_law 491 = .ok (.iconst 0, 1) := by decide +kernel
theorem dL_law_492 : decode cL_law 492 = .ok (.ireturn, 1) := by decide +kernel
theorem dL_law_493 : decode cL_law 493 = .ok (.aload_n 1, 1) := by decide +kernel
theorem dL_law_494 : decode cL_law 494 = .ok (.invokevirtual 69, 3) := by decide +kernel
theorem dL_law_497 : decode cL_law 497 = .ok (.aload_n 2, 1) := by decide +kernel
theorem dL_law_498 : decode cL_law 498 = .ok (.invokevirtual 72, 3) := by decide +kernel
theorem dL_law_501 : decode cL_law 501 = .ok (.if_icmp .eq 236, 3) := by decide +kernel
theorem dL_law_504 : decode cL_law 504 = .ok (.iconst 0, 1) := by decide +kernel
theorem dL_law_505 : decode cL_law 505 = .ok (.ireturn, 1) := by decide +kernel
theorem dL_law_506 : decode cL_law 506 = .ok (.aload_n 1, 1) := by decide +kernel
theorem dL_law_507 : decode cL_law 507 = .ok (.aload_n 0, 1) := by decide +kernel
theorem dL_law_508 : decode cL_law 508 = .ok (.iload_n 3, 1) := by decide +kernel
theorem dL_law_509 : decode cL_law 509 = .ok (.iconst 1, 1) := by decide +kernel
theorem dL_law_510 : decode cL_law 510 = .ok (.iadd, 1) := by decide +kernel
theorem dL_law_511 : decode cL_law 511 = .ok (.iaload, 1) := by decide +kernel
theorem dL_law_512 : decode cL_law 512 = .ok (.invokevirtual 73, 3) := by decide +kernel
theorem dL_law_515 : decode cL_law 515 = .ok (.aload_n 2, 1) := by decide +kernel
theorem dL_law_516 : decode cL_law 516 = .ok (.aload_n 0, 1) := by decide +kernel
theorem dL_law_517 : decode cL_law 517 = .ok (.iload_n 3, 1) := by decide +kernel
theorem dL_law_518 : decode cL_law 518 = .ok (.iconst 1, 1) := by decide +kernel
theorem dL_law_519 : decode cL_law 519 = .ok (.iadd, 1) := by decide +kernel
theorem dL_law_520 : decode cL_law 520 = .ok (.iaload, 1) := by decide +kernel
theorem dL_law_521 : decode cL_law 521 = .ok (.invokevirtual 76, 3) := by decide +kernel
theorem dL_law_524 : decode cL_law 524 = .ok (.if_icmp .eq 213, 3) := by decide +kernel
theorem dL_law_527 : decode cL_law 527 = .ok (.iconst 0, 1) := by decide +kernel
theorem dL_law_528 : decode cL_law 528 = .ok (.ireturn, 1) := by decide +kernel
theorem dL_law_529 : decode cL_law 529 = .ok (.aload_n 1, 1) := by decide +kernel
theorem dL_law_530 : decode cL_law 530 = .ok (.aload_n 0, 1) := by decide +kernel
theorem dL_law_531 : decode cL_law 531 = .ok (.iload_n 3, 1) := by decide +kernel
theorem dL_law_532 : decode cL_law 532 = .ok (.iconst 1, 1) := by decide +kernel
theorem dL_law_533 : decode cL_law 533 = .ok (.iadd, 1) := by decide +kernel
theorem dL_law_534 : decode cL_law 534 = .ok (.iaload, 1) := by decide +kernel
theorem dL_law_535 : decode cL_law 535 = .ok (.aload_n 0, 1) := by decide +kernel
theorem dL_law_536 : decode cL_law 536 = .ok (.iload_n 3, 1) := by decide +kernel
theorem dL_law_537 : decode cL_law 537 = .ok (.iconst 2, 1) := by decide +kernel
theorem dL_law_538 : decode cL_law 538 = .ok (.iadd, 1) := by decide +kernel
theorem dL_law_539 : decode cL_law 539 = .ok (.iaload, 1) := by decide +kernel
theorem dL_law_540 : decode cL_law 540 = .ok (.invokevirtual 77, 3) := by decide +kernel
theorem dL_law_543 : decode cL_law 543 = .ok (.aload_n 2, 1) := by decide +kernel
theorem dL_law_544 : decode cL_law 544 = .ok (.aload_n 0, 1) := by decide +kernel
theorem dL_law_545 : decode cL_law 545 = .ok (.iload_n 3, 1) := by decide +kernel
theorem dL_law_546 : decode cL_law 546 = .ok (.iconst 1, 1) := by decide +kernel
theorem dL_law_547 : decode cL_law 547 = .ok (.iadd, 1) := by decide +kernel
theorem dL_law_548 : decode cL_law 548 = .ok (.iaload, 1) := by decide +kernel
theorem dL_law_549 : decode cL_law 549 = .ok (.aload_n 0, 1) := by decide +kernel
theorem dL_law_550 : decode cL_law 550 = .ok (.iload_n 3, 1) := by decide +kernel
theorem dL_law_551 : decode cL_law 551 = .ok (.iconst 2, 1) := by decide +kernel
theorem dL_law_552 : decode cL_law 552 = .ok (.iadd, 1) := by decide +kernel
theorem dL_law_553 : decode cL_law 553 = .ok (.iaload, 1) := by decide +kernel
theorem dL_law_554 : decode cL_law 554 = .ok (.invokevirtual 80, 3) := by decide +kernel
theorem dL_law_557 : decode cL_law 557 = .ok (.if_icmp .eq 180, 3) := by decide +kernel
theorem dL_law_560 : decode cL_law 560 = .ok (.iconst 0, 1) := by decide +kernel
theorem dL_law_561 : decode cL_law 561 = .ok (.ireturn, 1) := by decide +kernel
theorem dL_law_562 : decode cL_law 562 = .ok (.aload_n 1, 1) := by decide +kernel
theorem dL_law_563 : decode cL_law 563 = .ok (.aload_n 0, 1) := by decide +kernel
theorem dL_law_564 : decode cL_law 564 = .ok (.iload_n 3, 1) := by decide +kernel
theorem dL_law_565 : decode cL_law 565 = .ok (.iconst 1, 1) := by decide +kernel
theorem dL_law_566 : decode cL_law 566 = .ok (.iadd, 1) := by decide +kernel
theorem dL_law_567 : decode cL_law 567 = .ok (.iaload, 1) := by decide +kernel
theorem dL_law_568 : decode cL_law 568 = .ok (.aload_n 0, 1) := by decide +kernel
theorem dL_law_569 : decode cL_law 569 = .ok (.iload_n 3, 1) := by decide +kernel
theorem dL_law_570 : decode cL_law 570 = .ok (.iconst 2, 1) := by decide +kernel
theorem dL_law_571 : decode cL_law 571 = .ok (.iadd, 1) := by decide +kernel
theorem dL_law_572 : decode cL_law 572 = .ok (.iaload, 1) := by decide +kernel
theorem dL_law_573 : decode cL_law 573 = .ok (.invokevirtual 81, 3) := by decide +kernel
theorem dL_law_576 : decode cL_law 576 = .ok (.aload_n 2, 1) := by decide +kernel
theorem dL_law_577 : decode cL_law 577 = .ok (.aload_n 0, 1) := by decide +kernel
theorem dL_law_578 : decode cL_law 578 = .ok (.iload_n 3, 1) := by decide +kernel
theorem dL_law_579 : decode cL_law 579 = .ok (.iconst 1, 1) := by decide +kernel
theorem dL_law_580 : decode cL_law 580 = .ok (.iadd, 1) := by decide +kernel
theorem dL_law_581 : decode cL_law 581 = .ok (.iaload, 1) := by decide +kernel
theorem dL_law_582 : decode cL_law 582 = .ok (.aload_n 0, 1) := by decide +kernel
theorem dL_law_583 : decode cL_law 583 = .ok (.iload_n 3, 1) := by decide +kernel
theorem dL_law_584 : decode cL_law 584 = .ok (.iconst 2, 1) := by decide +kernel
theorem dL_law_585 : decode cL_law 585 = .ok (.iadd, 1) := by decide +kernel
theorem dL_law_586 : decode cL_law 586 = .ok (.iaload, 1) := by decide +kernel
theorem dL_law_587 : decode cL_law 587 = .ok (.invokevirtual 84, 3) := by decide +kernel
theorem dL_law_590 : decode cL_law 590 = .ok (.if_icmp .eq 147, 3) := by decide +kernel
theorem dL_law_593 : decode cL_law 593 = .ok (.iconst 0, 1) := by decide +kernel
theorem dL_law_594 : decode cL_law 594 = .ok (.ireturn, 1) := by decide +kernel
theorem dL_law_595 : decode cL_law 595 = .ok (.aload_n 1, 1) := by decide +kernel
theorem dL_law_596 : decode cL_law 596 = .ok (.invokevirtual 85, 3) := by decide +kernel
theorem dL_law_599 : decode cL_law 599 = .ok (.aload_n 2, 1) := by decide +kernel
theorem dL_law_600 : decode cL_law 600 = .ok (.invokevirtual 88, 3) := by decide +kernel
theorem dL_law_603 : decode cL_law 603 = .ok (.if_icmp .eq 134, 3) := by decide +kernel
theorem dL_law_606 : decode cL_law 606 = .ok (.iconst 0, 1) := by decide +kernel
theorem dL_law_607 : decode cL_law 607 = .ok (.ireturn, 1) := by decide +kernel
theorem dL_law_608 : decode cL_law 608 = .ok (.aload_n 1, 1) := by decide +kernel
theorem dL_law_609 : decode cL_law 609 = .ok (.aload_n 0, 1) := by decide +kernel
theorem dL_law_610 : decode cL_law 610 = .ok (.iload_n 3, 1) := by decide +kernel
theorem dL_law_611 : decode cL_law 611 = .ok (.iconst 1, 1) := by decide +kernel
theorem dL_law_612 : decode cL_law 612 = .ok (.iadd, 1) := by decide +kernel
theorem dL_law_613 : decode cL_law 613 = .ok (.iaload, 1) := by decide +kernel
theorem dL_law_614 : decode cL_law 614 = .ok (.invokevirtual 89, 3) := by decide +kernel
theorem dL_law_617 : decode cL_law 617 = .ok (.aload_n 2, 1) := by decide +kernel
theorem dL_law_618 : decode cL_law 618 = .ok (.aload_n 0, 1) := by decide +kernel
theorem dL_law_619 : decode cL_law 619 = .ok (.iload_n 3, 1) := by decide +kernel
theorem dL_law_620 : decode cL_law 620 = .ok (.iconst 1, 1) := by decide +kernel
theorem dL_law_621 : decode cL_law 621 = .ok (.iadd, 1) := by decide +kernel
theorem dL_law_622 : decode cL_law 622 = .ok (.iaload, 1) := by decide +kernel
theorem dL_law_623 : decode cL_law 623 = .ok (.invokevirtual 92, 3) := by decide +kernel
theorem dL_law_626 : decode cL_law 626 = .ok (.if_icmp .eq 111, 3) := by decide +kernel
theorem dL_law_629 : decode cL_law 629 = .ok (.iconst 0, 1) := by decide +kernel
theorem dL_law_630 : decode cL_law 630 = .ok (.ireturn, 1) := by decide +kernel
theorem dL_law_631 : decode cL_law 631 = .ok (.aload_n 1, 1) := by decide +kernel
theorem dL_law_632 : decode cL_law 632 = .ok (.aload_n 0, 1) := by decide +kernel
theorem dL_law_633 : decode cL_law 633 = .ok (.iload_n 3, 1) := by decide +kernel
theorem dL_law_634 : decode cL_law 634 = .ok (.iconst 1, 1) := by decide +kernel
theorem dL_law_635 : decode cL_law 635 = .ok (.iadd, 1) := by decide +kernel
theorem dL_law_636 : decode cL_law 636 = .ok (.iaload, 1) := by decide +kernel
theorem dL_law_637 : decode cL_law 637 = .ok (.aload_n 0, 1) := by decide +kernel
theorem dL_law_638 : decode cL_law 638 = .ok (.iload_n 3, 1) := by decide +kernel
theorem dL_law_639 : decode cL_law 639 = .ok (.iconst 2, 1) := by decide +kernel
theorem dL_law_640 : decode cL_law 640 = .ok (.iadd, 1) := by decide +kernel
theorem dL_law_641 : decode cL_law 641 = .ok (.iaload, 1) := by decide +kernel
theorem dL_law_642 : decode cL_law 642 = .ok (.aload_n 0, 1) := by decide +kernel
theorem dL_law_643 : decode cL_law 643 = .ok (.iload_n 3, 1) := by decide +kernel
theorem dL_law_644 : decode cL_law 644 = .ok (.iconst 3, 1) := by decide +kernel
theorem dL_law_645 : decode cL_law 645 = .ok (.iadd, 1) := by decide +kernel
theorem dL_law_646 : decode cL_law 646 = .ok (.iaload, 1) := by decide +kernel
theorem dL_law_647 : decode cL_law 647 = .ok (.invokevirtual 93, 3) := by decide +kernel
theorem dL_law_650 : decode cL_law 650 = .ok (.aload_n 2, 1) := by decide +kernel
theorem dL_law_651 : decode cL_law 651 = .ok (.aload_n 0, 1) := by decide +kernel
theorem dL_law_652 : decode cL_law 652 = .ok (.iload_n 3, 1) := by decide +kernel
theorem dL_law_653 : decode cL_law 653 = .ok (.iconst 1, 1) := by decide +kernel
theorem dL_law_654 : decode cL_law 654 = .ok (.iadd, 1) := by decide +kernel
theorem dL_law_655 : decode cL_law 655 = .ok (.iaload, 1) := by decide +kernel
theorem dL_law_656 : decode cL_law 656 = .ok (.aload_n 0, 1) := by decide +kernel
theorem dL_law_657 : decode cL_law 657 = .ok (.iload_n 3, 1) := by decide +kernel
theorem dL_law_658 : decode cL_law 658 = .ok (.iconst 2, 1) := by decide +kernel
theorem dL_law_659 : decode cL_law 659 = .ok (.iadd, 1) := by decide +kernel
theorem dL_law_660 : decode cL_law 660 = .ok (.iaload, 1) := by decide +kernel
theorem dL_law_661 : decode cL_law 661 = .ok (.aload_n 0, 1) := by decide +kernel
theorem dL_law_662 : decode cL_law 662 = .ok (.iload_n 3, 1) := by decide +kernel
theorem dL_law_663 : decode cL_law 663 = .ok (.iconst 3, 1) := by decide +kernel
theorem dL_law_664 : decode cL_law 664 = .ok (.iadd, 1) := by decide +kernel
theorem dL_law_665 : decode cL_law 665 = .ok (.iaload, 1) := by decide +kernel
theorem dL_law_666 : decode cL_law 666 = .ok (.invokevirtual 96, 3) := by decide +kernel
theorem dL_law_669 : decode cL_law 669 = .ok (.if_icmp .eq 68, 3) := by decide +kernel
theorem dL_law_672 : decode cL_law 672 = .ok (.iconst 0, 1) := by decide +kernel
theorem dL_law_673 : decode cL_law 673 = .ok (.ireturn, 1) := by decide +kernel
theorem dL_law_674 : decode cL_law 674 = .ok (.aload_n 1, 1) := by decide +kernel
theorem dL_law_675 : decode cL_law 675 = .ok (.invokevirtual 97, 3) := by decide +kernel
theorem dL_law_678 : decode cL_law 678 = .ok (.aload_n 2, 1) := by decide +kernel
theorem dL_law_679 : decode cL_law 679 = .ok (.invokevirtual 100, 3) := by decide +kernel
theorem dL_law_682 : decode cL_law 682 = .ok (.if_icmp .eq 55, 3) := by decide +kernel
theorem dL_law_685 : decode cL_law 685 = .ok (.iconst 0, 1) := by decide +kernel
theorem dL_law_686 : decode cL_law 686 = .ok (.ireturn, 1) := by decide +kernel
theorem dL_law_687 : decode cL_law 687 = .ok (.aload_n 1, 1) := by decide +kernel
theorem dL_law_688 : decode cL_law 688 = .ok (.invokevirtual 101, 3) := by decide +kernel
theorem dL_law_691 : decode cL_law 691 = .ok (.aload_n 2, 1) := by decide +kernel
theorem dL_law_692 : decode cL_law 692 = .ok (.invokevirtual 104, 3) := by decide +kernel
theorem dL_law_695 : decode cL_law 695 = .ok (.if_icmp .eq 42, 3) := by decide +kernel
theorem dL_law_698 : decode cL_law 698 = .ok (.iconst 0, 1) := by decide +kernel
theorem dL_law_699 : decode cL_law 699 = .ok (.ireturn, 1) := by decide +kernel
theorem dL_law_700 : decode cL_law 700 = .ok (.aload_n 1, 1) := by decide +kernel
theorem dL_law_701 : decode cL_law 701 = .ok (.aload_n 0, 1) := by decide +kernel
theorem dL_law_702 : decode cL_law 702 = .ok (.iload_n 3, 1) := by decide +kernel
theorem dL_law_703 : decode cL_law 703 = .ok (.iconst 1, 1) := by decide +kernel
theorem dL_law_704 : decode cL_law 704 = .ok (.iadd, 1) := by decide +kernel
theorem dL_law_705 : decode cL_law 705 = .ok (.iaload, 1) := by decide +kernel
theorem dL_law_706 : decode cL_law 706 = .ok (.invokevirtual 105, 3) := by decide +kernel
theorem dL_law_709 : decode cL_law 709 = .ok (.aload_n 2, 1) := by decide +kernel
theorem dL_law_710 : decode cL_law 710 = .ok (.aload_n 0, 1) := by decide +kernel
theorem dL_law_711 : decode cL_law 711 = .ok (.iload_n 3, 1) := by decide +kernel
theorem dL_law_712 : decode cL_law 712 = .ok (.iconst 1, 1) := by decide +kernel
theorem dL_law_713 : decode cL_law 713 = .ok (.iadd, 1) := by decide +kernel
theorem dL_law_714 : decode cL_law 714 = .ok (.iaload, 1) := by decide +kernel
theorem dL_law_715 : decode cL_law 715 = .ok (.invokevirtual 108, 3) := by decide +kernel
theorem dL_law_718 : decode cL_law 718 = .ok (.if_icmp .eq 19, 3) := by decide +kernel
theorem dL_law_721 : decode cL_law 721 = .ok (.iconst 0, 1) := by decide +kernel
theorem dL_law_722 : decode cL_law 722 = .ok (.ireturn, 1) := by decide +kernel
theorem dL_law_723 : decode cL_law 723 = .ok (.aload_n 1, 1) := by decide +kernel
theorem dL_law_724 : decode cL_law 724 = .ok (.invokevirtual 109, 3) := by decide +kernel
theorem dL_law_727 : decode cL_law 727 = .ok (.aload_n 2, 1) := by decide +kernel
theorem dL_law_728 : decode cL_law 728 = .ok (.invokevirtual 113, 3) := by decide +kernel
theorem dL_law_731 : decode cL_law 731 = .ok (.lcmp, 1) := by decide +kernel
theorem dL_law_732 : decode cL_law 732 = .ok (.ifCond .eq 5, 3) := by decide +kernel
theorem dL_law_735 : decode cL_law 735 = .ok (.iconst 0, 1) := by decide +kernel
theorem dL_law_736 : decode cL_law 736 = .ok (.ireturn, 1) := by decide +kernel
theorem dL_law_737 : decode cL_law 737 = .ok (.iinc 3 4, 3) := by decide +kernel
theorem dL_law_740 : decode cL_law 740 = .ok (.goto (-722), 3) := by decide +kernel
theorem dL_law_743 : decode cL_law 743 = .ok (.iconst 1, 1) := by decide +kernel
theorem dL_law_744 : decode cL_law 744 = .ok (.ireturn, 1) := by decide +kernel
end
section
/-! the tables of the world, and the words of the tables by their places: by program (wip/gen/tables.py) -/
def skL : List Nat := [7, 3, 10, 6, 13, 12, 4, 4, 4, 4, 4, 2, 2, 2, 6, 13, 12, 4, 4, 4, 4, 4, 2, 2, 2, 5, 10, 10, 10, 10, 1, 10, 14, 10, 10, 10, 10, 10, 14, 10, 10, 10, 10, 10, 0, 10, 8, 10, 10, 10, 10, 10, 10, 10, 10, 10, 10, 10, 11, 10, 10, 10, 10, 10, 10, 10, 10, 10, 10, 10, 10, 10]
def lnL : List Nat := [0, 0, 18, 0, 5, 3, 0, 0, 0, 0, 0, 0, 0, 0, 0, 5, 3, 0, 0, 0, 0, 0, 0, 0, 0, 0, 5, 5, 5, 3, 0, 6, 5, 6, 6, 6, 6, 6, 5, 6, 6, 6, 6, 6, 0, 3, 0, 5, 5, 5, 5, 5, 5, 5, 5, 3, 3, 3, 18, 5, 5, 3, 3, 5, 5, 5, 5, 5, 5, 3, 3, 3]
def raL : List Nat := [0, 0, 0, 0, 6, 11, 0, 0, 0, 0, 0, 0, 0, 0, 0, 17, 22, 0, 0, 0, 0, 0, 0, 0, 0, 0, 0, 0, 0, 0, 0, 0, 33, 0, 0, 0, 0, 0, 39, 0, 0, 0, 0, 0, 0, 0, 0, 0, 0, 0, 0, 0, 0, 0, 0, 0, 0, 0, 0, 0, 0, 0, 0, 0, 0, 0, 0, 0, 0, 0, 0, 0]
def rfL : List (List Nat) := [[1, 3, 14, 25, 30, 44, 0, 0, 0], [2, 0], [], [4, 5, 0, 0, 0], [], [], [0, 0, 0, 0, 0, 0, 0, 0], [0, 0, 0, 0, 0, 0, 0, 0], [0, 0, 0, 0, 0, 0, 0, 0], [0, 0, 0, 0, 0, 0, 0, 0], [0, 0, 0, 0, 0, 0, 0, 0], [0, 0, 0], [0, 0, 0], [0, 0, 0], [15, 16, 0, 0, 0], [], [], [0, 0, 0, 0, 0, 0, 0, 0], [0, 0, 0, 0, 0, 0, 0, 0], [0, 0, 0, 0, 0, 0, 0, 0], [0, 0, 0, 0, 0, 0, 0, 0], [0, 0, 0, 0, 0, 0, 0, 0], [0, 0, 0], [0, 0, 0], [0, 0, 0], [26, 27, 28, 29, 0, 0], [], [], [], [], [31, 32, 38, 0, 0], [], [], [], [], [], [], [], [], [], [], [], [], [], [45, 0], [], [0, 0, 0, 47, 48, 49, 50, 51, 52, 53, 54, 0, 55, 56, 57, 0, 0, 58, 0, 0, 59, 60, 61, 0, 62, 0, 0, 0, 63, 64, 65, 66, 67, 68, 69, 70, 71, 0], [], [], [], [], [], [], [], [], [], [], [], [], [], [], [], [], [], [], [], [], [], [], [], [], []]
def fkL : List (List Nat) := [[2, 1], [2, 2, 2, 0, 0], [0, 0, 0], [2, 0], [0, 0, 0, 0, 0, 0, 3, 0], [2, 2, 2, 2, 3, 0], [2, 2, 0, 0, 0], [2, 2, 2, 2, 2, 2, 3, 0, 0], [0, 0, 0, 2, 2, 2, 2, 2, 2, 2, 2, 0, 2, 2, 2, 0, 0, 2, 0, 3, 2, 2, 2, 1, 2, 3, 0, 0, 2, 2, 2, 2, 2, 2, 2, 2, 2, 1]]
def nfL : List Nat := [2, 5, 3, 2, 8, 6, 5, 9, 38]
def sk (k : Nat) : Nat := skL.getD k 99
def ln (k : Nat) : Nat := lnL.getD k 0
def ra (k : Nat) : Nat := raL.getD k 0
def rf (k j : Nat) : Nat := (rfL.getD k []).getD j 0
def fk (ci j : Nat) : Nat := (fkL.getD ci []).getD j 0
def nf (ci : Nat) : Nat := nfL.getD ci 0
def TB : List Cond := lw_tbl.filter goodWord
theorem inTB {w : Cond} (i : Nat) (h : lw_tbl[i]? = some w) (g : goodWord w = true) : w ∈ TB := List.mem_filter.mpr ⟨List.mem_of_getElem? h, g⟩
theorem TB_in : ∀ w ∈ TB, w ∈ lw_tbl := fun _ h => (List.mem_filter.mp h).1
theorem TB_good : ∀ w ∈ TB, goodWord w = true := fun _ h => (List.mem_filter.mp h).2
abbrev Mt : Type := MethodName × ByteArray × Nat × Option FieldType
abbrev mcode (M : Mt) : Cond := .code M.1 M.2.1 M.2.2.1 M.2.2.2
def ftk (t : FieldType) : Nat := match t with | .int => 0 | .long => 1 | .boolean => 3 | _ => 2
def FXk (ci : Nat) (C : String) (T : u_T) (N : Nat) (ty : Nat → FieldType) : Prop := vwCl[ci]? = some (C, T, N) ∧ (∀ w ∈ u_ws C T N, w ∈ TB) ∧ (∀ k, k < N → parseFieldDescriptor (T k).2.2.1 = some (ty k)) ∧ (∀ a, a < N → ∀ b, b < N → a ≠ b → (T a).2.1 ≠ (T b).2.1) ∧ N = nf ci
/-- a field instruction of class own, pool place idx: field j of class ci -/
def FLk (own : String) (idx ci j : Nat) : Prop := ∃ (C : String) (T : u_T) (N : Nat) (ty : Nat → FieldType), FXk ci C T N ty ∧ j < N ∧ Cond.fieldLink own idx C (T j).2.1 (T j).2.2.1 ∈ TB ∧ (T j).1 = C ∧ ftk (ty j) = fk ci j ∧ ((T j).2.2.2 = false ∨ fk ci j = 2)
def MG (M : Mt) : Prop := plainName M.1.cls = true ∧ mcode M ∈ TB ∧ Cond.initialized M.1.cls ∈ TB ∧ (M.1.cls ≠ "java/lang/invoke/MethodHandle" ∧ M.1.cls ≠ "java/lang/invoke/VarHandle") ∧ M.2.2.1 ≤ 40
/-- a call of an instance method with n parameters -/
def LkV (own : String) (idx : Nat) (M : Mt) (n : Nat) : Prop := Cond.methodLink own idx M.1 ∈ TB ∧ Cond.instanceMethod M.1 ∈ TB ∧ Cond.selects M.1.cls M.1 M.1 ∈ TB ∧ (parseMethodDescriptor M.1.desc).map (fun d => d.parameters.length) = some n ∧ MG M
/-- a call of a static method -/
def LkS (own : String) (idx : Nat) (M : Mt) (n : Nat) : Prop := Cond.methodLink own idx M.1 ∈ TB ∧ Cond.static M.1 ∈ TB ∧ (parseMethodDescriptor M.1.desc).map (fun d => d.parameters.length) = some n ∧ MG M
def isNest (w : Cond) : Bool := match w with | .methodLinkNest .. => true | .fieldLinkNest .. => true | _ => false
def nestW : List Cond := lw_tbl.filter isNest
theorem inNest {w : Cond} (i : Nat) (h : lw_tbl[i]? = some w) (g : isNest w = true) : w ∈ nestW := List.mem_filter.mpr ⟨List.mem_of_getElem? h, g⟩
/-- a nest mate's static method -/
def LkN (own : String) (idx : Nat) (M : Mt) (host : String) (n : Nat) : Prop := Cond.methodLinkNest own idx M.1 host ∈ nestW ∧ Cond.static M.1 ∈ TB ∧ (parseMethodDescriptor M.1.desc).map (fun d => d.parameters.length) = some n ∧ MG M
def ixF0 : List Nat := [252, 254]
theorem uin0 : ∀ k, k < 2 → lw_tbl[ixF0.getD k 0]? = some (u_lay RX0 TX0 k) ∧ goodWord (u_lay RX0 TX0 k) = true := by decide +kernel
theorem fx0 : FXk 0 RX0 TX0 2 tyX0 := ⟨rfl, fun w h => by
  obtain ⟨k, hk, rfl⟩ := List.mem_map.mp h
  have h1 := uin0 k (List.mem_range.mp hk)
  exact inTB _ h1.1 h1.2, tyX0_ok, nmX0, rfl⟩
def ixF1 : List Nat := [232, 234, 236, 238, 240]
theorem uin1 : ∀ k, k < 5 → lw_tbl[ixF1.getD k 0]? = some (u_lay RX1 TX1 k) ∧ goodWord (u_lay RX1 TX1 k) = true := by decide +kernel
theorem fx1 : FXk 1 RX1 TX1 5 tyX1 := ⟨rfl, fun w h => by
  obtain ⟨k, hk, rfl⟩ := List.mem_map.mp h
  have h1 := uin1 k (List.mem_range.mp hk)
  exact inTB _ h1.1 h1.2, tyX1_ok, nmX1, rfl⟩
def ixF2 : List Nat := [152, 154, 156]
theorem uin2 : ∀ k, k < 3 → lw_tbl[ixF2.getD k 0]? = some (u_lay RX2 TX2 k) ∧ goodWord (u_lay RX2 TX2 k) = true := by decide +kernel
theorem fx2 : FXk 2 RX2 TX2 3 tyX2 := ⟨rfl, fun w h => by
  obtain ⟨k, hk, rfl⟩ := List.mem_map.mp h
  have h1 := uin2 k (List.mem_range.mp hk)
  exact inTB _ h1.1 h1.2, tyX2_ok, nmX2, rfl⟩
def ixF3 : List Nat := [79, 81]
theorem uin3 : ∀ k, k < 2 → lw_tbl[ixF3.getD k 0]? = some (u_lay RX3 TX3 k) ∧ goodWord (u_lay RX3 TX3 k) = true := by decide +kernel
theorem fx3 : FXk 3 RX3 TX3 2 tyX3 := ⟨rfl, fun w h => by
  obtain ⟨k, hk, rfl⟩ := List.mem_map.mp h
  have h1 := uin3 k (List.mem_range.mp hk)
  exact inTB _ h1.1 h1.2, tyX3_ok, nmX3, rfl⟩
def ixF4 : List Nat := [122, 124, 126, 128, 130, 132, 134, 136]
theorem uin4 : ∀ k, k < 8 → lw_tbl[ixF4.getD k 0]? = some (u_lay RX4 TX4 k) ∧ goodWord (u_lay RX4 TX4 k) = true := by decide +kernel
theorem fx4 : FXk 4 RX4 TX4 8 tyX4 := ⟨rfl, fun w h => by
  obtain ⟨k, hk, rfl⟩ := List.mem_map.mp h
  have h1 := uin4 k (List.mem_range.mp hk)
  exact inTB _ h1.1 h1.2, tyX4_ok, nmX4, rfl⟩
def ixF5 : List Nat := [206, 208, 210, 212, 214, 216]
theorem uin5 : ∀ k, k < 6 → lw_tbl[ixF5.getD k 0]? = some (u_lay RX5 TX5 k) ∧ goodWord (u_lay RX5 TX5 k) = true := by decide +kernel
theorem fx5 : FXk 5 RX5 TX5 6 tyX5 := ⟨rfl, fun w h => by
  obtain ⟨k, hk, rfl⟩ := List.mem_map.mp h
  have h1 := uin5 k (List.mem_range.mp hk)
  exact inTB _ h1.1 h1.2, tyX5_ok, nmX5, rfl⟩
def ixF6 : List Nat := [180, 182, 184, 186, 188]
theorem uin6 : ∀ k, k < 5 → lw_tbl[ixF6.getD k 0]? = some (u_lay RX6 TX6 k) ∧ goodWord (u_lay RX6 TX6 k) = true := by decide +kernel
theorem fx6 : FXk 6 RX6 TX6 5 tyX6 := ⟨rfl, fun w h => by
  obtain ⟨k, hk, rfl⟩ := List.mem_map.mp h
  have h1 := uin6 k (List.mem_range.mp hk)
  exact inTB _ h1.1 h1.2, tyX6_ok, nmX6, rfl⟩
def ixF7 : List Nat := [266, 268, 270, 272, 274, 276, 278, 280, 282]
theorem uin7 : ∀ k, k < 9 → lw_tbl[ixF7.getD k 0]? = some (u_lay RX7 TX7 k) ∧ goodWord (u_lay RX7 TX7 k) = true := by decide +kernel
theorem fx7 : FXk 7 RX7 TX7 9 tyX7 := ⟨rfl, fun w h => by
  obtain ⟨k, hk, rfl⟩ := List.mem_map.mp h
  have h1 := uin7 k (List.mem_range.mp hk)
  exact inTB _ h1.1 h1.2, tyX7_ok, nmX7, rfl⟩
def ixF8 : List Nat := [748, 750, 752, 754, 756, 758, 760, 762, 764, 766, 768, 770, 772, 774, 776, 778, 780, 782, 784, 786, 788, 790, 792, 794, 796, 798, 800, 802, 804, 806, 808, 810, 812, 814, 816, 818, 820, 822]
theorem uin8 : ∀ k, k < 38 → lw_tbl[ixF8.getD k 0]? = some (u_lay RX8 TX8 k) ∧ goodWord (u_lay RX8 TX8 k) = true := by decide +kernel
theorem fx8 : FXk 8 RX8 TX8 38 tyX8 := ⟨rfl, fun w h => by
  obtain ⟨k, hk, rfl⟩ := List.mem_map.mp h
  have h1 := uin8 k (List.mem_range.mp hk)
  exact inTB _ h1.1 h1.2, tyX8_ok, nmX8, rfl⟩
abbrev mX7_letter : Mt := (yX7_letter, cX7_letter, 2, (some .int))
theorem gmX7_letter : MG mX7_letter := ⟨by decide +kernel, inTB 288 (by decide +kernel) (by decide +kernel), inTB 43 (by decide +kernel) (by decide +kernel), by decide +kernel, by decide⟩
abbrev mX3_put : Mt := (yX3_put, cX3_put, 2, none)
theorem gmX3_put : MG mX3_put := ⟨by decide +kernel, inTB 292 (by decide +kernel) (by decide +kernel), inTB 44 (by decide +kernel) (by decide +kernel), by decide +kernel, by decide⟩
abbrev mX7_blank : Mt := (yX7_blank, cX7_blank, 2, (some .int))
theorem gmX7_blank : MG mX7_blank := ⟨by decide +kernel, inTB 296 (by decide +kernel) (by decide +kernel), inTB 43 (by decide +kernel) (by decide +kernel), by decide +kernel, by decide⟩
abbrev mX7_fault : Mt := (yX7_fault, cX7_fault, 1, (some .int))
theorem gmX7_fault : MG mX7_fault := ⟨by decide +kernel, inTB 300 (by decide +kernel) (by decide +kernel), inTB 43 (by decide +kernel) (by decide +kernel), by decide +kernel, by decide⟩
abbrev mX3_firstFault : Mt := (yX3_firstFault, cX3_firstFault, 3, (some .int))
theorem gmX3_firstFault : MG mX3_firstFault := ⟨by decide +kernel, inTB 304 (by decide +kernel) (by decide +kernel), inTB 44 (by decide +kernel) (by decide +kernel), by decide +kernel, by decide⟩
abbrev mX3_mayStand : Mt := (yX3_mayStand, cX3_mayStand, 4, (some .boolean))
theorem gmX3_mayStand : MG mX3_mayStand := ⟨by decide +kernel, inTB 307 (by decide +kernel) (by decide +kernel), inTB 44 (by decide +kernel) (by decide +kernel), by decide +kernel, by decide⟩
abbrev mJ0_indexOf_0f7a4 : Mt := (yJ0_indexOf_0f7a4, cJ0_indexOf_0f7a4, 2, (some .int))
theorem gmJ0_indexOf_0f7a4 : MG mJ0_indexOf_0f7a4 := ⟨by decide +kernel, inTB 312 (by decide +kernel) (by decide +kernel), inTB 52 (by decide +kernel) (by decide +kernel), by decide +kernel, by decide⟩
abbrev mJ0_indexOf_7cf53 : Mt := (yJ0_indexOf_7cf53, cJ0_indexOf_7cf53, 3, (some .int))
theorem gmJ0_indexOf_7cf53 : MG mJ0_indexOf_7cf53 := ⟨by decide +kernel, inTB 316 (by decide +kernel) (by decide +kernel), inTB 52 (by decide +kernel) (by decide +kernel), by decide +kernel, by decide⟩
abbrev mJ0_isLatin1_aae02 : Mt := (yJ0_isLatin1_aae02, cJ0_isLatin1_aae02, 1, (some .boolean))
theorem gmJ0_isLatin1_aae02 : MG mJ0_isLatin1_aae02 := ⟨by decide +kernel, inTB 320 (by decide +kernel) (by decide +kernel), inTB 52 (by decide +kernel) (by decide +kernel), by decide +kernel, by decide⟩
abbrev mJ0_length_8abf5 : Mt := (yJ0_length_8abf5, cJ0_length_8abf5, 1, (some .int))
theorem gmJ0_length_8abf5 : MG mJ0_length_8abf5 := ⟨by decide +kernel, inTB 326 (by decide +kernel) (by decide +kernel), inTB 52 (by decide +kernel) (by decide +kernel), by decide +kernel, by decide⟩
abbrev mJ0_coder_7d493 : Mt := (yJ0_coder_7d493, cJ0_coder_7d493, 1, (some .byte))
theorem gmJ0_coder_7d493 : MG mJ0_coder_7d493 := ⟨by decide +kernel, inTB 330 (by decide +kernel) (by decide +kernel), inTB 52 (by decide +kernel) (by decide +kernel), by decide +kernel, by decide⟩
abbrev mJ1_indexOf_4cfef : Mt := (yJ1_indexOf_4cfef, cJ1_indexOf_4cfef, 4, (some .int))
theorem gmJ1_indexOf_4cfef : MG mJ1_indexOf_4cfef := ⟨by decide +kernel, inTB 333 (by decide +kernel) (by decide +kernel), inTB 53 (by decide +kernel) (by decide +kernel), by decide +kernel, by decide⟩
abbrev mJ1_canEncode_9a6ad : Mt := (yJ1_canEncode_9a6ad, cJ1_canEncode_9a6ad, 1, (some .boolean))
theorem gmJ1_canEncode_9a6ad : MG mJ1_canEncode_9a6ad := ⟨by decide +kernel, inTB 336 (by decide +kernel) (by decide +kernel), inTB 53 (by decide +kernel) (by decide +kernel), by decide +kernel, by decide⟩
abbrev mJ1_indexOfChar_4cfef : Mt := (yJ1_indexOfChar_4cfef, cJ1_indexOfChar_4cfef, 6, (some .int))
theorem gmJ1_indexOfChar_4cfef : MG mJ1_indexOfChar_4cfef := ⟨by decide +kernel, inTB 345 (by decide +kernel) (by decide +kernel), inTB 53 (by decide +kernel) (by decide +kernel), by decide +kernel, by decide⟩
abbrev mJ0_checkBoundsBeginEnd_23922 : Mt := (yJ0_checkBoundsBeginEnd_23922, cJ0_checkBoundsBeginEnd_23922, 3, none)
theorem gmJ0_checkBoundsBeginEnd_23922 : MG mJ0_checkBoundsBeginEnd_23922 := ⟨by decide +kernel, inTB 363 (by decide +kernel) (by decide +kernel), inTB 52 (by decide +kernel) (by decide +kernel), by decide +kernel, by decide⟩
abbrev mX7_garment : Mt := (yX7_garment, cX7_garment, 1, (some .int))
theorem gmX7_garment : MG mX7_garment := ⟨by decide +kernel, inTB 399 (by decide +kernel) (by decide +kernel), inTB 43 (by decide +kernel) (by decide +kernel), by decide +kernel, by decide⟩
abbrev mX3_isWhole : Mt := (yX3_isWhole, cX3_isWhole, 1, (some .boolean))
theorem gmX3_isWhole : MG mX3_isWhole := ⟨by decide +kernel, inTB 403 (by decide +kernel) (by decide +kernel), inTB 44 (by decide +kernel) (by decide +kernel), by decide +kernel, by decide⟩
abbrev mX6_begin : Mt := (yX6_begin, cX6_begin, 4, none)
theorem gmX6_begin : MG mX6_begin := ⟨by decide +kernel, inTB 408 (by decide +kernel) (by decide +kernel), inTB 45 (by decide +kernel) (by decide +kernel), by decide +kernel, by decide⟩
abbrev mX4_begin : Mt := (yX4_begin, cX4_begin, 3, none)
theorem gmX4_begin : MG mX4_begin := ⟨by decide +kernel, inTB 415 (by decide +kernel) (by decide +kernel), inTB 46 (by decide +kernel) (by decide +kernel), by decide +kernel, by decide⟩
abbrev mX4_clear : Mt := (yX4_clear, cX4_clear, 1, none)
theorem gmX4_clear : MG mX4_clear := ⟨by decide +kernel, inTB 419 (by decide +kernel) (by decide +kernel), inTB 46 (by decide +kernel) (by decide +kernel), by decide +kernel, by decide⟩
abbrev mX7_about : Mt := (yX7_about, cX7_about, 3, (some .int))
theorem gmX7_about : MG mX7_about := ⟨by decide +kernel, inTB 423 (by decide +kernel) (by decide +kernel), inTB 43 (by decide +kernel) (by decide +kernel), by decide +kernel, by decide⟩
abbrev mX6_hasPart : Mt := (yX6_hasPart, cX6_hasPart, 2, (some .boolean))
theorem gmX6_hasPart : MG mX6_hasPart := ⟨by decide +kernel, inTB 427 (by decide +kernel) (by decide +kernel), inTB 45 (by decide +kernel) (by decide +kernel), by decide +kernel, by decide⟩
abbrev mX6_tellPart : Mt := (yX6_tellPart, cX6_tellPart, 4, (some .int))
theorem gmX6_tellPart : MG mX6_tellPart := ⟨by decide +kernel, inTB 431 (by decide +kernel) (by decide +kernel), inTB 45 (by decide +kernel) (by decide +kernel), by decide +kernel, by decide⟩
abbrev mX4_light : Mt := (yX4_light, cX4_light, 1, (some .int))
theorem gmX4_light : MG mX4_light := ⟨by decide +kernel, inTB 435 (by decide +kernel) (by decide +kernel), inTB 46 (by decide +kernel) (by decide +kernel), by decide +kernel, by decide⟩
abbrev mX6_tone : Mt := (yX6_tone, cX6_tone, 4, (some .int))
theorem gmX6_tone : MG mX6_tone := ⟨by decide +kernel, inTB 441 (by decide +kernel) (by decide +kernel), inTB 45 (by decide +kernel) (by decide +kernel), by decide +kernel, by decide⟩
abbrev mX6_hasLot : Mt := (yX6_hasLot, cX6_hasLot, 2, (some .boolean))
theorem gmX6_hasLot : MG mX6_hasLot := ⟨by decide +kernel, inTB 445 (by decide +kernel) (by decide +kernel), inTB 45 (by decide +kernel) (by decide +kernel), by decide +kernel, by decide⟩
abbrev mX6_seenNext : Mt := (yX6_seenNext, cX6_seenNext, 2, (some .int))
theorem gmX6_seenNext : MG mX6_seenNext := ⟨by decide +kernel, inTB 449 (by decide +kernel) (by decide +kernel), inTB 45 (by decide +kernel) (by decide +kernel), by decide +kernel, by decide⟩
abbrev mX4_isKnitted : Mt := (yX4_isKnitted, cX4_isKnitted, 1, (some .boolean))
theorem gmX4_isKnitted : MG mX4_isKnitted := ⟨by decide +kernel, inTB 454 (by decide +kernel) (by decide +kernel), inTB 46 (by decide +kernel) (by decide +kernel), by decide +kernel, by decide⟩
abbrev mX6_seenWith : Mt := (yX6_seenWith, cX6_seenWith, 7, (some .int))
theorem gmX6_seenWith : MG mX6_seenWith := ⟨by decide +kernel, inTB 458 (by decide +kernel) (by decide +kernel), inTB 45 (by decide +kernel) (by decide +kernel), by decide +kernel, by decide⟩
abbrev mX7_as : Mt := (yX7_as, cX7_as, 3, (some .int))
theorem gmX7_as : MG mX7_as := ⟨by decide +kernel, inTB 465 (by decide +kernel) (by decide +kernel), inTB 43 (by decide +kernel) (by decide +kernel), by decide +kernel, by decide⟩
abbrev mX4_isOf : Mt := (yX4_isOf, cX4_isOf, 2, (some .boolean))
theorem gmX4_isOf : MG mX4_isOf := ⟨by decide +kernel, inTB 470 (by decide +kernel) (by decide +kernel), inTB 46 (by decide +kernel) (by decide +kernel), by decide +kernel, by decide⟩
abbrev mX7_lot : Mt := (yX7_lot, cX7_lot, 2, (some .int))
theorem gmX7_lot : MG mX7_lot := ⟨by decide +kernel, inTB 474 (by decide +kernel) (by decide +kernel), inTB 43 (by decide +kernel) (by decide +kernel), by decide +kernel, by decide⟩
abbrev mX2_begin : Mt := (yX2_begin, cX2_begin, 2, none)
theorem gmX2_begin : MG mX2_begin := ⟨by decide +kernel, inTB 478 (by decide +kernel) (by decide +kernel), inTB 47 (by decide +kernel) (by decide +kernel), by decide +kernel, by decide⟩
abbrev mX7_lotOf : Mt := (yX7_lotOf, cX7_lotOf, 3, (some .int))
theorem gmX7_lotOf : MG mX7_lotOf := ⟨by decide +kernel, inTB 482 (by decide +kernel) (by decide +kernel), inTB 43 (by decide +kernel) (by decide +kernel), by decide +kernel, by decide⟩
abbrev mX2_tell : Mt := (yX2_tell, cX2_tell, 2, (some .int))
theorem gmX2_tell : MG mX2_tell := ⟨by decide +kernel, inTB 487 (by decide +kernel) (by decide +kernel), inTB 47 (by decide +kernel) (by decide +kernel), by decide +kernel, by decide⟩
abbrev mX7_buy : Mt := (yX7_buy, cX7_buy, 4, (some .int))
theorem gmX7_buy : MG mX7_buy := ⟨by decide +kernel, inTB 491 (by decide +kernel) (by decide +kernel), inTB 43 (by decide +kernel) (by decide +kernel), by decide +kernel, by decide⟩
abbrev mX7_back : Mt := (yX7_back, cX7_back, 4, (some .int))
theorem gmX7_back : MG mX7_back := ⟨by decide +kernel, inTB 495 (by decide +kernel) (by decide +kernel), inTB 43 (by decide +kernel) (by decide +kernel), by decide +kernel, by decide⟩
abbrev mX7_knit : Mt := (yX7_knit, cX7_knit, 4, (some .int))
theorem gmX7_knit : MG mX7_knit := ⟨by decide +kernel, inTB 499 (by decide +kernel) (by decide +kernel), inTB 43 (by decide +kernel) (by decide +kernel), by decide +kernel, by decide⟩
abbrev mX6_canMake : Mt := (yX6_canMake, cX6_canMake, 6, (some .boolean))
theorem gmX6_canMake : MG mX6_canMake := ⟨by decide +kernel, inTB 504 (by decide +kernel) (by decide +kernel), inTB 45 (by decide +kernel) (by decide +kernel), by decide +kernel, by decide⟩
abbrev mX7_rowsOfFirst : Mt := (yX7_rowsOfFirst, cX7_rowsOfFirst, 3, (some .int))
theorem gmX7_rowsOfFirst : MG mX7_rowsOfFirst := ⟨by decide +kernel, inTB 507 (by decide +kernel) (by decide +kernel), inTB 43 (by decide +kernel) (by decide +kernel), by decide +kernel, by decide⟩
abbrev mX2_rows : Mt := (yX2_rows, cX2_rows, 1, (some .int))
theorem gmX2_rows : MG mX2_rows := ⟨by decide +kernel, inTB 511 (by decide +kernel) (by decide +kernel), inTB 47 (by decide +kernel) (by decide +kernel), by decide +kernel, by decide⟩
abbrev mX6_make : Mt := (yX6_make, cX6_make, 5, none)
theorem gmX6_make : MG mX6_make := ⟨by decide +kernel, inTB 515 (by decide +kernel) (by decide +kernel), inTB 45 (by decide +kernel) (by decide +kernel), by decide +kernel, by decide⟩
abbrev mX2_take : Mt := (yX2_take, cX2_take, 4, none)
theorem gmX2_take : MG mX2_take := ⟨by decide +kernel, inTB 519 (by decide +kernel) (by decide +kernel), inTB 47 (by decide +kernel) (by decide +kernel), by decide +kernel, by decide⟩
abbrev mX6_seenOfAll : Mt := (yX6_seenOfAll, cX6_seenOfAll, 3, (some .int))
theorem gmX6_seenOfAll : MG mX6_seenOfAll := ⟨by decide +kernel, inTB 524 (by decide +kernel) (by decide +kernel), inTB 45 (by decide +kernel) (by decide +kernel), by decide +kernel, by decide⟩
abbrev mX7_undo : Mt := (yX7_undo, cX7_undo, 2, (some .int))
theorem gmX7_undo : MG mX7_undo := ⟨by decide +kernel, inTB 528 (by decide +kernel) (by decide +kernel), inTB 43 (by decide +kernel) (by decide +kernel), by decide +kernel, by decide⟩
abbrev mX6_unravel : Mt := (yX6_unravel, cX6_unravel, 4, (some .int))
theorem gmX6_unravel : MG mX6_unravel := ⟨by decide +kernel, inTB 532 (by decide +kernel) (by decide +kernel), inTB 45 (by decide +kernel) (by decide +kernel), by decide +kernel, by decide⟩
abbrev mX2_loosen : Mt := (yX2_loosen, cX2_loosen, 2, (some .int))
theorem gmX2_loosen : MG mX2_loosen := ⟨by decide +kernel, inTB 536 (by decide +kernel) (by decide +kernel), inTB 47 (by decide +kernel) (by decide +kernel), by decide +kernel, by decide⟩
abbrev mX7_gauge : Mt := (yX7_gauge, cX7_gauge, 6, (some .int))
theorem gmX7_gauge : MG mX7_gauge := ⟨by decide +kernel, inTB 541 (by decide +kernel) (by decide +kernel), inTB 43 (by decide +kernel) (by decide +kernel), by decide +kernel, by decide⟩
abbrev mX4_isMixed : Mt := (yX4_isMixed, cX4_isMixed, 1, (some .boolean))
theorem gmX4_isMixed : MG mX4_isMixed := ⟨by decide +kernel, inTB 545 (by decide +kernel) (by decide +kernel), inTB 46 (by decide +kernel) (by decide +kernel), by decide +kernel, by decide⟩
abbrev mX7_wash : Mt := (yX7_wash, cX7_wash, 2, (some .int))
theorem gmX7_wash : MG mX7_wash := ⟨by decide +kernel, inTB 551 (by decide +kernel) (by decide +kernel), inTB 43 (by decide +kernel) (by decide +kernel), by decide +kernel, by decide⟩
abbrev mX7_faded : Mt := (yX7_faded, cX7_faded, 2, (some .int))
theorem gmX7_faded : MG mX7_faded := ⟨by decide +kernel, inTB 554 (by decide +kernel) (by decide +kernel), inTB 43 (by decide +kernel) (by decide +kernel), by decide +kernel, by decide⟩
abbrev mX7_least : Mt := (yX7_least, cX7_least, 3, (some .int))
theorem gmX7_least : MG mX7_least := ⟨by decide +kernel, inTB 560 (by decide +kernel) (by decide +kernel), inTB 43 (by decide +kernel) (by decide +kernel), by decide +kernel, by decide⟩
abbrev mX5_search : Mt := (yX5_search, cX5_search, 3, none)
theorem gmX5_search : MG mX5_search := ⟨by decide +kernel, inTB 564 (by decide +kernel) (by decide +kernel), inTB 48 (by decide +kernel) (by decide +kernel), by decide +kernel, by decide⟩
abbrev mX5_choose : Mt := (yX5_choose, cX5_choose, 6, none)
theorem gmX5_choose : MG mX5_choose := ⟨by decide +kernel, inTB 568 (by decide +kernel) (by decide +kernel), inTB 48 (by decide +kernel) (by decide +kernel), by decide +kernel, by decide⟩
abbrev mX5_keep : Mt := (yX5_keep, cX5_keep, 2, none)
theorem gmX5_keep : MG mX5_keep := ⟨by decide +kernel, inTB 572 (by decide +kernel) (by decide +kernel), inTB 48 (by decide +kernel) (by decide +kernel), by decide +kernel, by decide⟩
abbrev mX5_goOn : Mt := (yX5_goOn, cX5_goOn, 6, none)
theorem gmX5_goOn : MG mX5_goOn := ⟨by decide +kernel, inTB 580 (by decide +kernel) (by decide +kernel), inTB 48 (by decide +kernel) (by decide +kernel), by decide +kernel, by decide⟩
abbrev mX5_chooseOf : Mt := (yX5_chooseOf, cX5_chooseOf, 9, none)
theorem gmX5_chooseOf : MG mX5_chooseOf := ⟨by decide +kernel, inTB 584 (by decide +kernel) (by decide +kernel), inTB 48 (by decide +kernel) (by decide +kernel), by decide +kernel, by decide⟩
abbrev mX7_wanted : Mt := (yX7_wanted, cX7_wanted, 3, (some .int))
theorem gmX7_wanted : MG mX7_wanted := ⟨by decide +kernel, inTB 589 (by decide +kernel) (by decide +kernel), inTB 43 (by decide +kernel) (by decide +kernel), by decide +kernel, by decide⟩
abbrev mX6_ballsWanted : Mt := (yX6_ballsWanted, cX6_ballsWanted, 8, (some .int))
theorem gmX6_ballsWanted : MG mX6_ballsWanted := ⟨by decide +kernel, inTB 593 (by decide +kernel) (by decide +kernel), inTB 45 (by decide +kernel) (by decide +kernel), by decide +kernel, by decide⟩
abbrev mX7_found : Mt := (yX7_found, cX7_found, 5, (some .int))
theorem gmX7_found : MG mX7_found := ⟨by decide +kernel, inTB 598 (by decide +kernel) (by decide +kernel), inTB 43 (by decide +kernel) (by decide +kernel), by decide +kernel, by decide⟩
abbrev mX7_fits : Mt := (yX7_fits, cX7_fits, 1, (some .int))
theorem gmX7_fits : MG mX7_fits := ⟨by decide +kernel, inTB 602 (by decide +kernel) (by decide +kernel), inTB 43 (by decide +kernel) (by decide +kernel), by decide +kernel, by decide⟩
abbrev mX1_study : Mt := (yX1_study, cX1_study, 3, none)
theorem gmX1_study : MG mX1_study := ⟨by decide +kernel, inTB 606 (by decide +kernel) (by decide +kernel), inTB 49 (by decide +kernel) (by decide +kernel), by decide +kernel, by decide⟩
abbrev mX1_listMakes : Mt := (yX1_listMakes, cX1_listMakes, 4, none)
theorem gmX1_listMakes : MG mX1_listMakes := ⟨by decide +kernel, inTB 610 (by decide +kernel) (by decide +kernel), inTB 49 (by decide +kernel) (by decide +kernel), by decide +kernel, by decide⟩
abbrev mX1_countAhead : Mt := (yX1_countAhead, cX1_countAhead, 6, none)
theorem gmX1_countAhead : MG mX1_countAhead := ⟨by decide +kernel, inTB 614 (by decide +kernel) (by decide +kernel), inTB 49 (by decide +kernel) (by decide +kernel), by decide +kernel, by decide⟩
abbrev mX1_mayMeet : Mt := (yX1_mayMeet, cX1_mayMeet, 6, (some .boolean))
theorem gmX1_mayMeet : MG mX1_mayMeet := ⟨by decide +kernel, inTB 618 (by decide +kernel) (by decide +kernel), inTB 49 (by decide +kernel) (by decide +kernel), by decide +kernel, by decide⟩
abbrev mX1_countBehind : Mt := (yX1_countBehind, cX1_countBehind, 7, none)
theorem gmX1_countBehind : MG mX1_countBehind := ⟨by decide +kernel, inTB 623 (by decide +kernel) (by decide +kernel), inTB 49 (by decide +kernel) (by decide +kernel), by decide +kernel, by decide⟩
abbrev mX1_ways : Mt := (yX1_ways, cX1_ways, 3, (some .int))
theorem gmX1_ways : MG mX1_ways := ⟨by decide +kernel, inTB 627 (by decide +kernel) (by decide +kernel), inTB 49 (by decide +kernel) (by decide +kernel), by decide +kernel, by decide⟩
abbrev mX7_sure : Mt := (yX7_sure, cX7_sure, 2, (some .int))
theorem gmX7_sure : MG mX7_sure := ⟨by decide +kernel, inTB 631 (by decide +kernel) (by decide +kernel), inTB 43 (by decide +kernel) (by decide +kernel), by decide +kernel, by decide⟩
abbrev mX1_toneOf : Mt := (yX1_toneOf, cX1_toneOf, 4, (some .int))
theorem gmX1_toneOf : MG mX1_toneOf := ⟨by decide +kernel, inTB 635 (by decide +kernel) (by decide +kernel), inTB 49 (by decide +kernel) (by decide +kernel), by decide +kernel, by decide⟩
abbrev mX7_years : Mt := (yX7_years, cX7_years, 6, (some .int))
theorem gmX7_years : MG mX7_years := ⟨by decide +kernel, inTB 639 (by decide +kernel) (by decide +kernel), inTB 43 (by decide +kernel) (by decide +kernel), by decide +kernel, by decide⟩
abbrev mX0_seenInAYear : Mt := (yX0_seenInAYear, cX0_seenInAYear, 6, (some .int))
theorem gmX0_seenInAYear : MG mX0_seenInAYear := ⟨by decide +kernel, inTB 643 (by decide +kernel) (by decide +kernel), inTB 50 (by decide +kernel) (by decide +kernel), by decide +kernel, by decide⟩
abbrev mX0_draw : Mt := (yX0_draw, cX0_draw, 2, (some .int))
theorem gmX0_draw : MG mX0_draw := ⟨by decide +kernel, inTB 647 (by decide +kernel) (by decide +kernel), inTB 50 (by decide +kernel) (by decide +kernel), by decide +kernel, by decide⟩
abbrev mX7_image : Mt := (yX7_image, cX7_image, 1, (some .int))
theorem gmX7_image : MG mX7_image := ⟨by decide +kernel, inTB 657 (by decide +kernel) (by decide +kernel), inTB 43 (by decide +kernel) (by decide +kernel), by decide +kernel, by decide⟩
abbrev mX6_copy : Mt := (yX6_copy, cX6_copy, 3, none)
theorem gmX6_copy : MG mX6_copy := ⟨by decide +kernel, inTB 661 (by decide +kernel) (by decide +kernel), inTB 45 (by decide +kernel) (by decide +kernel), by decide +kernel, by decide⟩
abbrev mX4_copy : Mt := (yX4_copy, cX4_copy, 2, none)
theorem gmX4_copy : MG mX4_copy := ⟨by decide +kernel, inTB 665 (by decide +kernel) (by decide +kernel), inTB 46 (by decide +kernel) (by decide +kernel), by decide +kernel, by decide⟩
abbrev mX2_copy : Mt := (yX2_copy, cX2_copy, 2, none)
theorem gmX2_copy : MG mX2_copy := ⟨by decide +kernel, inTB 669 (by decide +kernel) (by decide +kernel), inTB 47 (by decide +kernel) (by decide +kernel), by decide +kernel, by decide⟩
abbrev mX6_knittedCount : Mt := (yX6_knittedCount, cX6_knittedCount, 3, (some .int))
theorem gmX6_knittedCount : MG mX6_knittedCount := ⟨by decide +kernel, inTB 673 (by decide +kernel) (by decide +kernel), inTB 45 (by decide +kernel) (by decide +kernel), by decide +kernel, by decide⟩
abbrev mX7_restore : Mt := (yX7_restore, cX7_restore, 1, (some .int))
theorem gmX7_restore : MG mX7_restore := ⟨by decide +kernel, inTB 677 (by decide +kernel) (by decide +kernel), inTB 43 (by decide +kernel) (by decide +kernel), by decide +kernel, by decide⟩
abbrev mX7_count : Mt := (yX7_count, cX7_count, 2, (some .int))
theorem gmX7_count : MG mX7_count := ⟨by decide +kernel, inTB 681 (by decide +kernel) (by decide +kernel), inTB 43 (by decide +kernel) (by decide +kernel), by decide +kernel, by decide⟩
abbrev mX6_tellAll : Mt := (yX6_tellAll, cX6_tellAll, 2, (some .int))
theorem gmX6_tellAll : MG mX6_tellAll := ⟨by decide +kernel, inTB 685 (by decide +kernel) (by decide +kernel), inTB 45 (by decide +kernel) (by decide +kernel), by decide +kernel, by decide⟩
abbrev mX6_sumOfLots : Mt := (yX6_sumOfLots, cX6_sumOfLots, 4, (some .int))
theorem gmX6_sumOfLots : MG mX6_sumOfLots := ⟨by decide +kernel, inTB 691 (by decide +kernel) (by decide +kernel), inTB 45 (by decide +kernel) (by decide +kernel), by decide +kernel, by decide⟩
abbrev mX6_foundCount : Mt := (yX6_foundCount, cX6_foundCount, 3, (some .int))
theorem gmX6_foundCount : MG mX6_foundCount := ⟨by decide +kernel, inTB 696 (by decide +kernel) (by decide +kernel), inTB 45 (by decide +kernel) (by decide +kernel), by decide +kernel, by decide⟩
abbrev mX7_digest : Mt := (yX7_digest, cX7_digest, 5, (some .long))
theorem gmX7_digest : MG mX7_digest := ⟨by decide +kernel, inTB 700 (by decide +kernel) (by decide +kernel), inTB 43 (by decide +kernel) (by decide +kernel), by decide +kernel, by decide⟩
abbrev mX8_letter : Mt := (yX8_letter, cX8_letter, 2, (some .int))
theorem gmX8_letter : MG mX8_letter := ⟨by decide +kernel, inTB 828 (by decide +kernel) (by decide +kernel), inTB 51 (by decide +kernel) (by decide +kernel), by decide +kernel, by decide⟩
abbrev mX8_within : Mt := (yX8_within, cX8_within, 3, (some .boolean))
theorem gmX8_within : MG mX8_within := ⟨by decide +kernel, inTB 831 (by decide +kernel) (by decide +kernel), inTB 51 (by decide +kernel) (by decide +kernel), by decide +kernel, by decide⟩
abbrev mX8_blank : Mt := (yX8_blank, cX8_blank, 2, (some .int))
theorem gmX8_blank : MG mX8_blank := ⟨by decide +kernel, inTB 835 (by decide +kernel) (by decide +kernel), inTB 51 (by decide +kernel) (by decide +kernel), by decide +kernel, by decide⟩
abbrev mX8_fault : Mt := (yX8_fault, cX8_fault, 1, (some .int))
theorem gmX8_fault : MG mX8_fault := ⟨by decide +kernel, inTB 839 (by decide +kernel) (by decide +kernel), inTB 51 (by decide +kernel) (by decide +kernel), by decide +kernel, by decide⟩
abbrev mX8_read : Mt := (yX8_read, cX8_read, 2, (some .int))
theorem gmX8_read : MG mX8_read := ⟨by decide +kernel, inTB 843 (by decide +kernel) (by decide +kernel), inTB 51 (by decide +kernel) (by decide +kernel), by decide +kernel, by decide⟩
abbrev mX8_kindBy : Mt := (yX8_kindBy, cX8_kindBy, 1, (some .int))
theorem gmX8_kindBy : MG mX8_kindBy := ⟨by decide +kernel, inTB 846 (by decide +kernel) (by decide +kernel), inTB 51 (by decide +kernel) (by decide +kernel), by decide +kernel, by decide⟩
abbrev mX8_isFigure : Mt := (yX8_isFigure, cX8_isFigure, 4, (some .boolean))
theorem gmX8_isFigure : MG mX8_isFigure := ⟨by decide +kernel, inTB 850 (by decide +kernel) (by decide +kernel), inTB 51 (by decide +kernel) (by decide +kernel), by decide +kernel, by decide⟩
abbrev mX8_isSign : Mt := (yX8_isSign, cX8_isSign, 3, (some .boolean))
theorem gmX8_isSign : MG mX8_isSign := ⟨by decide +kernel, inTB 854 (by decide +kernel) (by decide +kernel), inTB 51 (by decide +kernel) (by decide +kernel), by decide +kernel, by decide⟩
abbrev mX8_readFade : Mt := (yX8_readFade, cX8_readFade, 2, (some .int))
theorem gmX8_readFade : MG mX8_readFade := ⟨by decide +kernel, inTB 858 (by decide +kernel) (by decide +kernel), inTB 51 (by decide +kernel) (by decide +kernel), by decide +kernel, by decide⟩
abbrev mX8_garment : Mt := (yX8_garment, cX8_garment, 3, (some .int))
theorem gmX8_garment : MG mX8_garment := ⟨by decide +kernel, inTB 862 (by decide +kernel) (by decide +kernel), inTB 51 (by decide +kernel) (by decide +kernel), by decide +kernel, by decide⟩
abbrev mX8_clear : Mt := (yX8_clear, cX8_clear, 2, none)
theorem gmX8_clear : MG mX8_clear := ⟨by decide +kernel, inTB 866 (by decide +kernel) (by decide +kernel), inTB 51 (by decide +kernel) (by decide +kernel), by decide +kernel, by decide⟩
abbrev mX8_about : Mt := (yX8_about, cX8_about, 3, (some .int))
theorem gmX8_about : MG mX8_about := ⟨by decide +kernel, inTB 870 (by decide +kernel) (by decide +kernel), inTB 51 (by decide +kernel) (by decide +kernel), by decide +kernel, by decide⟩
abbrev mX8_isPart : Mt := (yX8_isPart, cX8_isPart, 2, (some .boolean))
theorem gmX8_isPart : MG mX8_isPart := ⟨by decide +kernel, inTB 874 (by decide +kernel) (by decide +kernel), inTB 51 (by decide +kernel) (by decide +kernel), by decide +kernel, by decide⟩
abbrev mX8_partNow : Mt := (yX8_partNow, cX8_partNow, 3, (some .int))
theorem gmX8_partNow : MG mX8_partNow := ⟨by decide +kernel, inTB 878 (by decide +kernel) (by decide +kernel), inTB 51 (by decide +kernel) (by decide +kernel), by decide +kernel, by decide⟩
abbrev mX8_lightOf : Mt := (yX8_lightOf, cX8_lightOf, 1, (some .int))
theorem gmX8_lightOf : MG mX8_lightOf := ⟨by decide +kernel, inTB 881 (by decide +kernel) (by decide +kernel), inTB 51 (by decide +kernel) (by decide +kernel), by decide +kernel, by decide⟩
abbrev mX8_toneOf : Mt := (yX8_toneOf, cX8_toneOf, 2, (some .int))
theorem gmX8_toneOf : MG mX8_toneOf := ⟨by decide +kernel, inTB 885 (by decide +kernel) (by decide +kernel), inTB 51 (by decide +kernel) (by decide +kernel), by decide +kernel, by decide⟩
abbrev mX8_seenAt : Mt := (yX8_seenAt, cX8_seenAt, 2, (some .int))
theorem gmX8_seenAt : MG mX8_seenAt := ⟨by decide +kernel, inTB 889 (by decide +kernel) (by decide +kernel), inTB 51 (by decide +kernel) (by decide +kernel), by decide +kernel, by decide⟩
abbrev mX8_seenBy : Mt := (yX8_seenBy, cX8_seenBy, 8, (some .int))
theorem gmX8_seenBy : MG mX8_seenBy := ⟨by decide +kernel, inTB 893 (by decide +kernel) (by decide +kernel), inTB 51 (by decide +kernel) (by decide +kernel), by decide +kernel, by decide⟩
abbrev mX8_as : Mt := (yX8_as, cX8_as, 4, (some .int))
theorem gmX8_as : MG mX8_as := ⟨by decide +kernel, inTB 897 (by decide +kernel) (by decide +kernel), inTB 51 (by decide +kernel) (by decide +kernel), by decide +kernel, by decide⟩
abbrev mX8_lot : Mt := (yX8_lot, cX8_lot, 2, (some .int))
theorem gmX8_lot : MG mX8_lot := ⟨by decide +kernel, inTB 901 (by decide +kernel) (by decide +kernel), inTB 51 (by decide +kernel) (by decide +kernel), by decide +kernel, by decide⟩
abbrev mX8_lotOf : Mt := (yX8_lotOf, cX8_lotOf, 3, (some .int))
theorem gmX8_lotOf : MG mX8_lotOf := ⟨by decide +kernel, inTB 905 (by decide +kernel) (by decide +kernel), inTB 51 (by decide +kernel) (by decide +kernel), by decide +kernel, by decide⟩
abbrev mX8_isLot : Mt := (yX8_isLot, cX8_isLot, 2, (some .boolean))
theorem gmX8_isLot : MG mX8_isLot := ⟨by decide +kernel, inTB 909 (by decide +kernel) (by decide +kernel), inTB 51 (by decide +kernel) (by decide +kernel), by decide +kernel, by decide⟩
abbrev mX8_lotNow : Mt := (yX8_lotNow, cX8_lotNow, 3, (some .int))
theorem gmX8_lotNow : MG mX8_lotNow := ⟨by decide +kernel, inTB 913 (by decide +kernel) (by decide +kernel), inTB 51 (by decide +kernel) (by decide +kernel), by decide +kernel, by decide⟩
abbrev mX8_buy : Mt := (yX8_buy, cX8_buy, 3, (some .int))
theorem gmX8_buy : MG mX8_buy := ⟨by decide +kernel, inTB 917 (by decide +kernel) (by decide +kernel), inTB 51 (by decide +kernel) (by decide +kernel), by decide +kernel, by decide⟩
abbrev mX8_back : Mt := (yX8_back, cX8_back, 3, (some .int))
theorem gmX8_back : MG mX8_back := ⟨by decide +kernel, inTB 921 (by decide +kernel) (by decide +kernel), inTB 51 (by decide +kernel) (by decide +kernel), by decide +kernel, by decide⟩
abbrev mX8_knit : Mt := (yX8_knit, cX8_knit, 6, (some .int))
theorem gmX8_knit : MG mX8_knit := ⟨by decide +kernel, inTB 925 (by decide +kernel) (by decide +kernel), inTB 51 (by decide +kernel) (by decide +kernel), by decide +kernel, by decide⟩
abbrev mX8_firstHalf : Mt := (yX8_firstHalf, cX8_firstHalf, 1, (some .int))
theorem gmX8_firstHalf : MG mX8_firstHalf := ⟨by decide +kernel, inTB 928 (by decide +kernel) (by decide +kernel), inTB 51 (by decide +kernel) (by decide +kernel), by decide +kernel, by decide⟩
abbrev mX8_rowsIn : Mt := (yX8_rowsIn, cX8_rowsIn, 2, (some .int))
theorem gmX8_rowsIn : MG mX8_rowsIn := ⟨by decide +kernel, inTB 932 (by decide +kernel) (by decide +kernel), inTB 51 (by decide +kernel) (by decide +kernel), by decide +kernel, by decide⟩
abbrev mX8_take : Mt := (yX8_take, cX8_take, 3, none)
theorem gmX8_take : MG mX8_take := ⟨by decide +kernel, inTB 936 (by decide +kernel) (by decide +kernel), inTB 51 (by decide +kernel) (by decide +kernel), by decide +kernel, by decide⟩
abbrev mX8_seenAll : Mt := (yX8_seenAll, cX8_seenAll, 3, (some .int))
theorem gmX8_seenAll : MG mX8_seenAll := ⟨by decide +kernel, inTB 940 (by decide +kernel) (by decide +kernel), inTB 51 (by decide +kernel) (by decide +kernel), by decide +kernel, by decide⟩
abbrev mX8_undo : Mt := (yX8_undo, cX8_undo, 3, (some .int))
theorem gmX8_undo : MG mX8_undo := ⟨by decide +kernel, inTB 944 (by decide +kernel) (by decide +kernel), inTB 51 (by decide +kernel) (by decide +kernel), by decide +kernel, by decide⟩
abbrev mX8_comeBack : Mt := (yX8_comeBack, cX8_comeBack, 4, (some .int))
theorem gmX8_comeBack : MG mX8_comeBack := ⟨by decide +kernel, inTB 948 (by decide +kernel) (by decide +kernel), inTB 51 (by decide +kernel) (by decide +kernel), by decide +kernel, by decide⟩
abbrev mX8_gauge : Mt := (yX8_gauge, cX8_gauge, 4, (some .int))
theorem gmX8_gauge : MG mX8_gauge := ⟨by decide +kernel, inTB 952 (by decide +kernel) (by decide +kernel), inTB 51 (by decide +kernel) (by decide +kernel), by decide +kernel, by decide⟩
abbrev mX8_wash : Mt := (yX8_wash, cX8_wash, 2, (some .int))
theorem gmX8_wash : MG mX8_wash := ⟨by decide +kernel, inTB 956 (by decide +kernel) (by decide +kernel), inTB 51 (by decide +kernel) (by decide +kernel), by decide +kernel, by decide⟩
abbrev mX8_washed : Mt := (yX8_washed, cX8_washed, 2, (some .int))
theorem gmX8_washed : MG mX8_washed := ⟨by decide +kernel, inTB 960 (by decide +kernel) (by decide +kernel), inTB 51 (by decide +kernel) (by decide +kernel), by decide +kernel, by decide⟩
abbrev mX8_least : Mt := (yX8_least, cX8_least, 2, (some .int))
theorem gmX8_least : MG mX8_least := ⟨by decide +kernel, inTB 964 (by decide +kernel) (by decide +kernel), inTB 51 (by decide +kernel) (by decide +kernel), by decide +kernel, by decide⟩
abbrev mX8_leastNow : Mt := (yX8_leastNow, cX8_leastNow, 6, (some .int))
theorem gmX8_leastNow : MG mX8_leastNow := ⟨by decide +kernel, inTB 968 (by decide +kernel) (by decide +kernel), inTB 51 (by decide +kernel) (by decide +kernel), by decide +kernel, by decide⟩
abbrev mX8_plans : Mt := (yX8_plans, cX8_plans, 3, (some .int))
theorem gmX8_plans : MG mX8_plans := ⟨by decide +kernel, inTB 973 (by decide +kernel) (by decide +kernel), inTB 51 (by decide +kernel) (by decide +kernel), by decide +kernel, by decide⟩
abbrev mX8_openParts : Mt := (yX8_openParts, cX8_openParts, 3, (some .int))
theorem gmX8_openParts : MG mX8_openParts := ⟨by decide +kernel, inTB 977 (by decide +kernel) (by decide +kernel), inTB 51 (by decide +kernel) (by decide +kernel), by decide +kernel, by decide⟩
abbrev mX8_layPlan : Mt := (yX8_layPlan, cX8_layPlan, 7, (some .boolean))
theorem gmX8_layPlan : MG mX8_layPlan := ⟨by decide +kernel, inTB 981 (by decide +kernel) (by decide +kernel), inTB 51 (by decide +kernel) (by decide +kernel), by decide +kernel, by decide⟩
abbrev mX8_planSeen : Mt := (yX8_planSeen, cX8_planSeen, 3, (some .int))
theorem gmX8_planSeen : MG mX8_planSeen := ⟨by decide +kernel, inTB 985 (by decide +kernel) (by decide +kernel), inTB 51 (by decide +kernel) (by decide +kernel), by decide +kernel, by decide⟩
abbrev mX8_wanted : Mt := (yX8_wanted, cX8_wanted, 3, (some .int))
theorem gmX8_wanted : MG mX8_wanted := ⟨by decide +kernel, inTB 989 (by decide +kernel) (by decide +kernel), inTB 51 (by decide +kernel) (by decide +kernel), by decide +kernel, by decide⟩
abbrev mX8_wantedNow : Mt := (yX8_wantedNow, cX8_wantedNow, 8, (some .int))
theorem gmX8_wantedNow : MG mX8_wantedNow := ⟨by decide +kernel, inTB 993 (by decide +kernel) (by decide +kernel), inTB 51 (by decide +kernel) (by decide +kernel), by decide +kernel, by decide⟩
abbrev mX8_found : Mt := (yX8_found, cX8_found, 4, (some .int))
theorem gmX8_found : MG mX8_found := ⟨by decide +kernel, inTB 997 (by decide +kernel) (by decide +kernel), inTB 51 (by decide +kernel) (by decide +kernel), by decide +kernel, by decide⟩
abbrev mX8_fits : Mt := (yX8_fits, cX8_fits, 1, (some .int))
theorem gmX8_fits : MG mX8_fits := ⟨by decide +kernel, inTB 1001 (by decide +kernel) (by decide +kernel), inTB 51 (by decide +kernel) (by decide +kernel), by decide +kernel, by decide⟩
abbrev mX8_fitsNow : Mt := (yX8_fitsNow, cX8_fitsNow, 3, (some .int))
theorem gmX8_fitsNow : MG mX8_fitsNow := ⟨by decide +kernel, inTB 1005 (by decide +kernel) (by decide +kernel), inTB 51 (by decide +kernel) (by decide +kernel), by decide +kernel, by decide⟩
abbrev mX8_waysMany : Mt := (yX8_waysMany, cX8_waysMany, 3, (some .int))
theorem gmX8_waysMany : MG mX8_waysMany := ⟨by decide +kernel, inTB 1009 (by decide +kernel) (by decide +kernel), inTB 51 (by decide +kernel) (by decide +kernel), by decide +kernel, by decide⟩
abbrev mX8_sorts : Mt := (yX8_sorts, cX8_sorts, 1, (some .int))
theorem gmX8_sorts : MG mX8_sorts := ⟨by decide +kernel, inTB 1013 (by decide +kernel) (by decide +kernel), inTB 51 (by decide +kernel) (by decide +kernel), by decide +kernel, by decide⟩
abbrev mX8_couldBe : Mt := (yX8_couldBe, cX8_couldBe, 5, (some .boolean))
theorem gmX8_couldBe : MG mX8_couldBe := ⟨by decide +kernel, inTB 1017 (by decide +kernel) (by decide +kernel), inTB 51 (by decide +kernel) (by decide +kernel), by decide +kernel, by decide⟩
abbrev mX8_sortTone : Mt := (yX8_sortTone, cX8_sortTone, 5, (some .int))
theorem gmX8_sortTone : MG mX8_sortTone := ⟨by decide +kernel, inTB 1021 (by decide +kernel) (by decide +kernel), inTB 51 (by decide +kernel) (by decide +kernel), by decide +kernel, by decide⟩
abbrev mX8_sure : Mt := (yX8_sure, cX8_sure, 2, (some .int))
theorem gmX8_sure : MG mX8_sure := ⟨by decide +kernel, inTB 1025 (by decide +kernel) (by decide +kernel), inTB 51 (by decide +kernel) (by decide +kernel), by decide +kernel, by decide⟩
abbrev mX8_sureNow : Mt := (yX8_sureNow, cX8_sureNow, 5, (some .int))
theorem gmX8_sureNow : MG mX8_sureNow := ⟨by decide +kernel, inTB 1029 (by decide +kernel) (by decide +kernel), inTB 51 (by decide +kernel) (by decide +kernel), by decide +kernel, by decide⟩
abbrev mX8_years : Mt := (yX8_years, cX8_years, 4, (some .int))
theorem gmX8_years : MG mX8_years := ⟨by decide +kernel, inTB 1033 (by decide +kernel) (by decide +kernel), inTB 51 (by decide +kernel) (by decide +kernel), by decide +kernel, by decide⟩
abbrev mX8_yearsNow : Mt := (yX8_yearsNow, cX8_yearsNow, 6, (some .int))
theorem gmX8_yearsNow : MG mX8_yearsNow := ⟨by decide +kernel, inTB 1037 (by decide +kernel) (by decide +kernel), inTB 51 (by decide +kernel) (by decide +kernel), by decide +kernel, by decide⟩
abbrev mX8_goYear : Mt := (yX8_goYear, cX8_goYear, 2, (some .int))
theorem gmX8_goYear : MG mX8_goYear := ⟨by decide +kernel, inTB 1041 (by decide +kernel) (by decide +kernel), inTB 51 (by decide +kernel) (by decide +kernel), by decide +kernel, by decide⟩
abbrev mX8_draw : Mt := (yX8_draw, cX8_draw, 2, (some .int))
theorem gmX8_draw : MG mX8_draw := ⟨by decide +kernel, inTB 1045 (by decide +kernel) (by decide +kernel), inTB 51 (by decide +kernel) (by decide +kernel), by decide +kernel, by decide⟩
abbrev mX8_image : Mt := (yX8_image, cX8_image, 2, (some .int))
theorem gmX8_image : MG mX8_image := ⟨by decide +kernel, inTB 1053 (by decide +kernel) (by decide +kernel), inTB 51 (by decide +kernel) (by decide +kernel), by decide +kernel, by decide⟩
abbrev mX8_restore : Mt := (yX8_restore, cX8_restore, 2, (some .int))
theorem gmX8_restore : MG mX8_restore := ⟨by decide +kernel, inTB 1057 (by decide +kernel) (by decide +kernel), inTB 51 (by decide +kernel) (by decide +kernel), by decide +kernel, by decide⟩
abbrev mX8_count : Mt := (yX8_count, cX8_count, 2, (some .int))
theorem gmX8_count : MG mX8_count := ⟨by decide +kernel, inTB 1061 (by decide +kernel) (by decide +kernel), inTB 51 (by decide +kernel) (by decide +kernel), by decide +kernel, by decide⟩
abbrev mX8_howMany : Mt := (yX8_howMany, cX8_howMany, 2, (some .int))
theorem gmX8_howMany : MG mX8_howMany := ⟨by decide +kernel, inTB 1065 (by decide +kernel) (by decide +kernel), inTB 51 (by decide +kernel) (by decide +kernel), by decide +kernel, by decide⟩
abbrev mX8_sum : Mt := (yX8_sum, cX8_sum, 4, (some .int))
theorem gmX8_sum : MG mX8_sum := ⟨by decide +kernel, inTB 1069 (by decide +kernel) (by decide +kernel), inTB 51 (by decide +kernel) (by decide +kernel), by decide +kernel, by decide⟩
abbrev mX8_foundMany : Mt := (yX8_foundMany, cX8_foundMany, 3, (some .int))
theorem gmX8_foundMany : MG mX8_foundMany := ⟨by decide +kernel, inTB 1073 (by decide +kernel) (by decide +kernel), inTB 51 (by decide +kernel) (by decide +kernel), by decide +kernel, by decide⟩
abbrev mX8_digest : Mt := (yX8_digest, cX8_digest, 3, (some .long))
theorem gmX8_digest : MG mX8_digest := ⟨by decide +kernel, inTB 1077 (by decide +kernel) (by decide +kernel), inTB 51 (by decide +kernel) (by decide +kernel), by decide +kernel, by decide⟩
abbrev mX8_mix : Mt := (yX8_mix, cX8_mix, 3, none)
theorem gmX8_mix : MG mX8_mix := ⟨by decide +kernel, inTB 1082 (by decide +kernel) (by decide +kernel), inTB 51 (by decide +kernel) (by decide +kernel), by decide +kernel, by decide⟩
theorem flX3_9 : FLk RX3 9 3 0 := ⟨RX3, TX3, 2, tyX3, fx3, by decide, inTB 73 (by decide +kernel) (by decide +kernel), rfl, rfl, by decide⟩
theorem flX6_45 : FLk RX6 45 3 0 := ⟨RX3, TX3, 2, tyX3, fx3, by decide, inTB 74 (by decide +kernel) (by decide +kernel), rfl, rfl, by decide⟩
theorem flX7_216 : FLk RX7 216 3 0 := ⟨RX3, TX3, 2, tyX3, fx3, by decide, inTB 75 (by decide +kernel) (by decide +kernel), rfl, rfl, by decide⟩
theorem flX3_15 : FLk RX3 15 3 1 := ⟨RX3, TX3, 2, tyX3, fx3, by decide, inTB 76 (by decide +kernel) (by decide +kernel), rfl, rfl, by decide⟩
theorem flX6_25 : FLk RX6 25 3 1 := ⟨RX3, TX3, 2, tyX3, fx3, by decide, inTB 77 (by decide +kernel) (by decide +kernel), rfl, rfl, by decide⟩
theorem flX7_47 : FLk RX7 47 3 1 := ⟨RX3, TX3, 2, tyX3, fx3, by decide, inTB 78 (by decide +kernel) (by decide +kernel), rfl, rfl, by decide⟩
theorem flX4_9 : FLk RX4 9 4 0 := ⟨RX4, TX4, 8, tyX4, fx4, by decide, inTB 100 (by decide +kernel) (by decide +kernel), rfl, rfl, by decide⟩
theorem flX6_117 : FLk RX6 117 4 0 := ⟨RX4, TX4, 8, tyX4, fx4, by decide, inTB 101 (by decide +kernel) (by decide +kernel), rfl, rfl, by decide⟩
theorem flX4_15 : FLk RX4 15 4 1 := ⟨RX4, TX4, 8, tyX4, fx4, by decide, inTB 102 (by decide +kernel) (by decide +kernel), rfl, rfl, by decide⟩
theorem flX5_80 : FLk RX5 80 4 1 := ⟨RX4, TX4, 8, tyX4, fx4, by decide, inTB 103 (by decide +kernel) (by decide +kernel), rfl, rfl, by decide⟩
theorem flX6_69 : FLk RX6 69 4 1 := ⟨RX4, TX4, 8, tyX4, fx4, by decide, inTB 104 (by decide +kernel) (by decide +kernel), rfl, rfl, by decide⟩
theorem flX4_24 : FLk RX4 24 4 2 := ⟨RX4, TX4, 8, tyX4, fx4, by decide, inTB 105 (by decide +kernel) (by decide +kernel), rfl, rfl, by decide⟩
theorem flX6_79 : FLk RX6 79 4 2 := ⟨RX4, TX4, 8, tyX4, fx4, by decide, inTB 106 (by decide +kernel) (by decide +kernel), rfl, rfl, by decide⟩
theorem flX7_136 : FLk RX7 136 4 2 := ⟨RX4, TX4, 8, tyX4, fx4, by decide, inTB 107 (by decide +kernel) (by decide +kernel), rfl, rfl, by decide⟩
theorem flX4_27 : FLk RX4 27 4 3 := ⟨RX4, TX4, 8, tyX4, fx4, by decide, inTB 108 (by decide +kernel) (by decide +kernel), rfl, rfl, by decide⟩
theorem flX6_82 : FLk RX6 82 4 3 := ⟨RX4, TX4, 8, tyX4, fx4, by decide, inTB 109 (by decide +kernel) (by decide +kernel), rfl, rfl, by decide⟩
theorem flX4_30 : FLk RX4 30 4 4 := ⟨RX4, TX4, 8, tyX4, fx4, by decide, inTB 110 (by decide +kernel) (by decide +kernel), rfl, rfl, by decide⟩
theorem flX6_85 : FLk RX6 85 4 4 := ⟨RX4, TX4, 8, tyX4, fx4, by decide, inTB 111 (by decide +kernel) (by decide +kernel), rfl, rfl, by decide⟩
theorem flX7_142 : FLk RX7 142 4 4 := ⟨RX4, TX4, 8, tyX4, fx4, by decide, inTB 112 (by decide +kernel) (by decide +kernel), rfl, rfl, by decide⟩
theorem flX4_33 : FLk RX4 33 4 5 := ⟨RX4, TX4, 8, tyX4, fx4, by decide, inTB 113 (by decide +kernel) (by decide +kernel), rfl, rfl, by decide⟩
theorem flX6_88 : FLk RX6 88 4 5 := ⟨RX4, TX4, 8, tyX4, fx4, by decide, inTB 114 (by decide +kernel) (by decide +kernel), rfl, rfl, by decide⟩
theorem flX4_36 : FLk RX4 36 4 6 := ⟨RX4, TX4, 8, tyX4, fx4, by decide, inTB 115 (by decide +kernel) (by decide +kernel), rfl, rfl, by decide⟩
theorem flX7_151 : FLk RX7 151 4 6 := ⟨RX4, TX4, 8, tyX4, fx4, by decide, inTB 116 (by decide +kernel) (by decide +kernel), rfl, rfl, by decide⟩
theorem flX6_139 : FLk RX6 139 4 6 := ⟨RX4, TX4, 8, tyX4, fx4, by decide, inTB 117 (by decide +kernel) (by decide +kernel), rfl, rfl, by decide⟩
theorem flX4_18 : FLk RX4 18 4 7 := ⟨RX4, TX4, 8, tyX4, fx4, by decide, inTB 118 (by decide +kernel) (by decide +kernel), rfl, rfl, by decide⟩
theorem flX1_64 : FLk RX1 64 4 7 := ⟨RX4, TX4, 8, tyX4, fx4, by decide, inTB 119 (by decide +kernel) (by decide +kernel), rfl, rfl, by decide⟩
theorem flX6_133 : FLk RX6 133 4 7 := ⟨RX4, TX4, 8, tyX4, fx4, by decide, inTB 120 (by decide +kernel) (by decide +kernel), rfl, rfl, by decide⟩
theorem flX7_183 : FLk RX7 183 4 7 := ⟨RX4, TX4, 8, tyX4, fx4, by decide, inTB 121 (by decide +kernel) (by decide +kernel), rfl, rfl, by decide⟩
theorem flX2_9 : FLk RX2 9 2 0 := ⟨RX2, TX2, 3, tyX2, fx2, by decide, inTB 144 (by decide +kernel) (by decide +kernel), rfl, rfl, by decide⟩
theorem flX1_51 : FLk RX1 51 2 0 := ⟨RX2, TX2, 3, tyX2, fx2, by decide, inTB 145 (by decide +kernel) (by decide +kernel), rfl, rfl, by decide⟩
theorem flX5_86 : FLk RX5 86 2 0 := ⟨RX2, TX2, 3, tyX2, fx2, by decide, inTB 146 (by decide +kernel) (by decide +kernel), rfl, rfl, by decide⟩
theorem flX6_105 : FLk RX6 105 2 0 := ⟨RX2, TX2, 3, tyX2, fx2, by decide, inTB 147 (by decide +kernel) (by decide +kernel), rfl, rfl, by decide⟩
theorem flX7_154 : FLk RX7 154 2 0 := ⟨RX2, TX2, 3, tyX2, fx2, by decide, inTB 148 (by decide +kernel) (by decide +kernel), rfl, rfl, by decide⟩
theorem flX2_15 : FLk RX2 15 2 1 := ⟨RX2, TX2, 3, tyX2, fx2, by decide, inTB 149 (by decide +kernel) (by decide +kernel), rfl, rfl, by decide⟩
theorem flX7_116 : FLk RX7 116 2 1 := ⟨RX2, TX2, 3, tyX2, fx2, by decide, inTB 150 (by decide +kernel) (by decide +kernel), rfl, rfl, by decide⟩
theorem flX2_18 : FLk RX2 18 2 2 := ⟨RX2, TX2, 3, tyX2, fx2, by decide, inTB 151 (by decide +kernel) (by decide +kernel), rfl, rfl, by decide⟩
theorem flX6_11 : FLk RX6 11 6 0 := ⟨RX6, TX6, 5, tyX6, fx6, by decide, inTB 159 (by decide +kernel) (by decide +kernel), rfl, rfl, by decide⟩
theorem flX5_58 : FLk RX5 58 6 0 := ⟨RX6, TX6, 5, tyX6, fx6, by decide, inTB 160 (by decide +kernel) (by decide +kernel), rfl, rfl, by decide⟩
theorem flX1_60 : FLk RX1 60 6 0 := ⟨RX6, TX6, 5, tyX6, fx6, by decide, inTB 161 (by decide +kernel) (by decide +kernel), rfl, rfl, by decide⟩
theorem flX7_89 : FLk RX7 89 6 0 := ⟨RX6, TX6, 5, tyX6, fx6, by decide, inTB 162 (by decide +kernel) (by decide +kernel), rfl, rfl, by decide⟩
theorem flX6_19 : FLk RX6 19 6 1 := ⟨RX6, TX6, 5, tyX6, fx6, by decide, inTB 163 (by decide +kernel) (by decide +kernel), rfl, rfl, by decide⟩
theorem flX5_37 : FLk RX5 37 6 1 := ⟨RX6, TX6, 5, tyX6, fx6, by decide, inTB 164 (by decide +kernel) (by decide +kernel), rfl, rfl, by decide⟩
theorem flX1_47 : FLk RX1 47 6 1 := ⟨RX6, TX6, 5, tyX6, fx6, by decide, inTB 165 (by decide +kernel) (by decide +kernel), rfl, rfl, by decide⟩
theorem flX7_101 : FLk RX7 101 6 1 := ⟨RX6, TX6, 5, tyX6, fx6, by decide, inTB 166 (by decide +kernel) (by decide +kernel), rfl, rfl, by decide⟩
theorem flX1_23 : FLk RX1 23 6 2 := ⟨RX6, TX6, 5, tyX6, fx6, by decide, inTB 167 (by decide +kernel) (by decide +kernel), rfl, rfl, by decide⟩
theorem flX6_37 : FLk RX6 37 6 2 := ⟨RX6, TX6, 5, tyX6, fx6, by decide, inTB 168 (by decide +kernel) (by decide +kernel), rfl, rfl, by decide⟩
theorem flX5_51 : FLk RX5 51 6 2 := ⟨RX6, TX6, 5, tyX6, fx6, by decide, inTB 169 (by decide +kernel) (by decide +kernel), rfl, rfl, by decide⟩
theorem flX0_44 : FLk RX0 44 6 2 := ⟨RX6, TX6, 5, tyX6, fx6, by decide, inTB 170 (by decide +kernel) (by decide +kernel), rfl, rfl, by decide⟩
theorem flX7_74 : FLk RX7 74 6 2 := ⟨RX6, TX6, 5, tyX6, fx6, by decide, inTB 171 (by decide +kernel) (by decide +kernel), rfl, rfl, by decide⟩
theorem flX5_32 : FLk RX5 32 6 3 := ⟨RX6, TX6, 5, tyX6, fx6, by decide, inTB 172 (by decide +kernel) (by decide +kernel), rfl, rfl, by decide⟩
theorem flX6_40 : FLk RX6 40 6 3 := ⟨RX6, TX6, 5, tyX6, fx6, by decide, inTB 173 (by decide +kernel) (by decide +kernel), rfl, rfl, by decide⟩
theorem flX0_27 : FLk RX0 27 6 3 := ⟨RX6, TX6, 5, tyX6, fx6, by decide, inTB 174 (by decide +kernel) (by decide +kernel), rfl, rfl, by decide⟩
theorem flX1_44 : FLk RX1 44 6 3 := ⟨RX6, TX6, 5, tyX6, fx6, by decide, inTB 175 (by decide +kernel) (by decide +kernel), rfl, rfl, by decide⟩
theorem flX7_98 : FLk RX7 98 6 3 := ⟨RX6, TX6, 5, tyX6, fx6, by decide, inTB 176 (by decide +kernel) (by decide +kernel), rfl, rfl, by decide⟩
theorem flX6_59 : FLk RX6 59 6 4 := ⟨RX6, TX6, 5, tyX6, fx6, by decide, inTB 177 (by decide +kernel) (by decide +kernel), rfl, rfl, by decide⟩
theorem flX0_37 : FLk RX0 37 6 4 := ⟨RX6, TX6, 5, tyX6, fx6, by decide, inTB 178 (by decide +kernel) (by decide +kernel), rfl, rfl, by decide⟩
theorem flX7_157 : FLk RX7 157 6 4 := ⟨RX6, TX6, 5, tyX6, fx6, by decide, inTB 179 (by decide +kernel) (by decide +kernel), rfl, rfl, by decide⟩
theorem flX5_9 : FLk RX5 9 5 0 := ⟨RX5, TX5, 6, tyX5, fx5, by decide, inTB 197 (by decide +kernel) (by decide +kernel), rfl, rfl, by decide⟩
theorem flX5_15 : FLk RX5 15 5 1 := ⟨RX5, TX5, 6, tyX5, fx5, by decide, inTB 198 (by decide +kernel) (by decide +kernel), rfl, rfl, by decide⟩
theorem flX7_176 : FLk RX7 176 5 1 := ⟨RX5, TX5, 6, tyX5, fx5, by decide, inTB 199 (by decide +kernel) (by decide +kernel), rfl, rfl, by decide⟩
theorem flX5_18 : FLk RX5 18 5 2 := ⟨RX5, TX5, 6, tyX5, fx5, by decide, inTB 200 (by decide +kernel) (by decide +kernel), rfl, rfl, by decide⟩
theorem flX5_21 : FLk RX5 21 5 3 := ⟨RX5, TX5, 6, tyX5, fx5, by decide, inTB 201 (by decide +kernel) (by decide +kernel), rfl, rfl, by decide⟩
theorem flX5_24 : FLk RX5 24 5 4 := ⟨RX5, TX5, 6, tyX5, fx5, by decide, inTB 202 (by decide +kernel) (by decide +kernel), rfl, rfl, by decide⟩
theorem flX7_170 : FLk RX7 170 5 4 := ⟨RX5, TX5, 6, tyX5, fx5, by decide, inTB 203 (by decide +kernel) (by decide +kernel), rfl, rfl, by decide⟩
theorem flX5_28 : FLk RX5 28 5 5 := ⟨RX5, TX5, 6, tyX5, fx5, by decide, inTB 204 (by decide +kernel) (by decide +kernel), rfl, rfl, by decide⟩
theorem flX7_173 : FLk RX7 173 5 5 := ⟨RX5, TX5, 6, tyX5, fx5, by decide, inTB 205 (by decide +kernel) (by decide +kernel), rfl, rfl, by decide⟩
theorem flX1_9 : FLk RX1 9 1 0 := ⟨RX1, TX1, 5, tyX1, fx1, by decide, inTB 227 (by decide +kernel) (by decide +kernel), rfl, rfl, by decide⟩
theorem flX1_17 : FLk RX1 17 1 1 := ⟨RX1, TX1, 5, tyX1, fx1, by decide, inTB 228 (by decide +kernel) (by decide +kernel), rfl, rfl, by decide⟩
theorem flX1_20 : FLk RX1 20 1 2 := ⟨RX1, TX1, 5, tyX1, fx1, by decide, inTB 229 (by decide +kernel) (by decide +kernel), rfl, rfl, by decide⟩
theorem flX1_41 : FLk RX1 41 1 3 := ⟨RX1, TX1, 5, tyX1, fx1, by decide, inTB 230 (by decide +kernel) (by decide +kernel), rfl, rfl, by decide⟩
theorem flX1_29 : FLk RX1 29 1 4 := ⟨RX1, TX1, 5, tyX1, fx1, by decide, inTB 231 (by decide +kernel) (by decide +kernel), rfl, rfl, by decide⟩
theorem flX0_9 : FLk RX0 9 0 0 := ⟨RX0, TX0, 2, tyX0, fx0, by decide, inTB 249 (by decide +kernel) (by decide +kernel), rfl, rfl, by decide⟩
theorem flX0_17 : FLk RX0 17 0 1 := ⟨RX0, TX0, 2, tyX0, fx0, by decide, inTB 250 (by decide +kernel) (by decide +kernel), rfl, rfl, by decide⟩
theorem flX7_195 : FLk RX7 195 0 1 := ⟨RX0, TX0, 2, tyX0, fx0, by decide, inTB 251 (by decide +kernel) (by decide +kernel), rfl, rfl, by decide⟩
theorem flX7_10 : FLk RX7 10 7 0 := ⟨RX7, TX7, 9, tyX7, fx7, by decide, inTB 257 (by decide +kernel) (by decide +kernel), rfl, rfl, by decide⟩
theorem flX7_19 : FLk RX7 19 7 1 := ⟨RX7, TX7, 9, tyX7, fx7, by decide, inTB 258 (by decide +kernel) (by decide +kernel), rfl, rfl, by decide⟩
theorem flX7_23 : FLk RX7 23 7 2 := ⟨RX7, TX7, 9, tyX7, fx7, by decide, inTB 259 (by decide +kernel) (by decide +kernel), rfl, rfl, by decide⟩
theorem flX7_29 : FLk RX7 29 7 3 := ⟨RX7, TX7, 9, tyX7, fx7, by decide, inTB 260 (by decide +kernel) (by decide +kernel), rfl, rfl, by decide⟩
theorem flX7_36 : FLk RX7 36 7 4 := ⟨RX7, TX7, 9, tyX7, fx7, by decide, inTB 261 (by decide +kernel) (by decide +kernel), rfl, rfl, by decide⟩
theorem flX7_43 : FLk RX7 43 7 5 := ⟨RX7, TX7, 9, tyX7, fx7, by decide, inTB 262 (by decide +kernel) (by decide +kernel), rfl, rfl, by decide⟩
theorem flX7_67 : FLk RX7 67 7 6 := ⟨RX7, TX7, 9, tyX7, fx7, by decide, inTB 263 (by decide +kernel) (by decide +kernel), rfl, rfl, by decide⟩
theorem flX7_71 : FLk RX7 71 7 7 := ⟨RX7, TX7, 9, tyX7, fx7, by decide, inTB 264 (by decide +kernel) (by decide +kernel), rfl, rfl, by decide⟩
theorem flX7_163 : FLk RX7 163 7 8 := ⟨RX7, TX7, 9, tyX7, fx7, by decide, inTB 265 (by decide +kernel) (by decide +kernel), rfl, rfl, by decide⟩
theorem lkL_13 : LkV RL 13 mX7_letter 1 := ⟨inTB 285 (by decide +kernel) (by decide +kernel), inTB 286 (by decide +kernel) (by decide +kernel), inTB 287 (by decide +kernel) (by decide +kernel), by decide +kernel, gmX7_letter⟩
theorem lkX7_51 : LkV RX7 51 mX3_put 1 := ⟨inTB 289 (by decide +kernel) (by decide +kernel), inTB 290 (by decide +kernel) (by decide +kernel), inTB 291 (by decide +kernel) (by decide +kernel), by decide +kernel, gmX3_put⟩
theorem lkL_18 : LkV RL 18 mX7_blank 0 := ⟨inTB 293 (by decide +kernel) (by decide +kernel), inTB 294 (by decide +kernel) (by decide +kernel), inTB 295 (by decide +kernel) (by decide +kernel), by decide +kernel, gmX7_blank⟩
theorem lkL_23 : LkV RL 23 mX7_fault 0 := ⟨inTB 297 (by decide +kernel) (by decide +kernel), inTB 298 (by decide +kernel) (by decide +kernel), inTB 299 (by decide +kernel) (by decide +kernel), by decide +kernel, gmX7_fault⟩
theorem lkX7_55 : LkV RX7 55 mX3_firstFault 0 := ⟨inTB 301 (by decide +kernel) (by decide +kernel), inTB 302 (by decide +kernel) (by decide +kernel), inTB 303 (by decide +kernel) (by decide +kernel), by decide +kernel, gmX3_firstFault⟩
theorem lkX3_19 : LkS RX3 19 mX3_mayStand 3 := ⟨inTB 305 (by decide +kernel) (by decide +kernel), inTB 306 (by decide +kernel) (by decide +kernel), by decide +kernel, gmX3_mayStand⟩
theorem lkX3_25 : LkV RX3 25 mJ0_indexOf_0f7a4 1 := ⟨inTB 309 (by decide +kernel) (by decide +kernel), inTB 310 (by decide +kernel) (by decide +kernel), inTB 311 (by decide +kernel) (by decide +kernel), by decide +kernel, gmJ0_indexOf_0f7a4⟩
theorem lkJ0_633 : LkV RJ0 633 mJ0_indexOf_7cf53 2 := ⟨inTB 313 (by decide +kernel) (by decide +kernel), inTB 314 (by decide +kernel) (by decide +kernel), inTB 315 (by decide +kernel) (by decide +kernel), by decide +kernel, gmJ0_indexOf_7cf53⟩
theorem lkJ0_492 : LkV RJ0 492 mJ0_isLatin1_aae02 0 := ⟨inTB 317 (by decide +kernel) (by decide +kernel), inTB 318 (by decide +kernel) (by decide +kernel), inTB 319 (by decide +kernel) (by decide +kernel), by decide +kernel, gmJ0_isLatin1_aae02⟩
theorem lkJ0_505 : LkV RJ0 505 mJ0_length_8abf5 0 := ⟨inTB 323 (by decide +kernel) (by decide +kernel), inTB 324 (by decide +kernel) (by decide +kernel), inTB 325 (by decide +kernel) (by decide +kernel), by decide +kernel, gmJ0_length_8abf5⟩
theorem lkJ0_335 : LkV RJ0 335 mJ0_coder_7d493 0 := ⟨inTB 327 (by decide +kernel) (by decide +kernel), inTB 328 (by decide +kernel) (by decide +kernel), inTB 329 (by decide +kernel) (by decide +kernel), by decide +kernel, gmJ0_coder_7d493⟩
theorem lkJ0_637 : LkS RJ0 637 mJ1_indexOf_4cfef 4 := ⟨inTB 331 (by decide +kernel) (by decide +kernel), inTB 332 (by decide +kernel) (by decide +kernel), by decide +kernel, gmJ1_indexOf_4cfef⟩
theorem lkJ1_88 : LkS RJ1 88 mJ1_canEncode_9a6ad 1 := ⟨inTB 334 (by decide +kernel) (by decide +kernel), inTB 335 (by decide +kernel) (by decide +kernel), by decide +kernel, gmJ1_canEncode_9a6ad⟩
theorem lkJ1_95 : LkS RJ1 95 mJ1_indexOfChar_4cfef 4 := ⟨inTB 343 (by decide +kernel) (by decide +kernel), inTB 344 (by decide +kernel) (by decide +kernel), by decide +kernel, gmJ1_indexOfChar_4cfef⟩
theorem lkJ2_241 : LkS RJ2 241 mJ0_checkBoundsBeginEnd_23922 3 := ⟨inTB 361 (by decide +kernel) (by decide +kernel), inTB 362 (by decide +kernel) (by decide +kernel), by decide +kernel, gmJ0_checkBoundsBeginEnd_23922⟩
theorem lkL_27 : LkV RL 27 mX7_garment 0 := ⟨inTB 396 (by decide +kernel) (by decide +kernel), inTB 397 (by decide +kernel) (by decide +kernel), inTB 398 (by decide +kernel) (by decide +kernel), by decide +kernel, gmX7_garment⟩
theorem lkX7_59 : LkV RX7 59 mX3_isWhole 0 := ⟨inTB 400 (by decide +kernel) (by decide +kernel), inTB 401 (by decide +kernel) (by decide +kernel), inTB 402 (by decide +kernel) (by decide +kernel), by decide +kernel, gmX3_isWhole⟩
theorem lkX3_31 : LkV RX3 31 mX3_firstFault 0 := ⟨inTB 404 (by decide +kernel) (by decide +kernel), inTB 302 (by decide +kernel) (by decide +kernel), inTB 303 (by decide +kernel) (by decide +kernel), by decide +kernel, gmX3_firstFault⟩
theorem lkX7_63 : LkV RX7 63 mX6_begin 1 := ⟨inTB 405 (by decide +kernel) (by decide +kernel), inTB 406 (by decide +kernel) (by decide +kernel), inTB 407 (by decide +kernel) (by decide +kernel), by decide +kernel, gmX6_begin⟩
theorem lkX6_49 : LkV RX6 49 mJ0_indexOf_0f7a4 1 := ⟨inTB 411 (by decide +kernel) (by decide +kernel), inTB 310 (by decide +kernel) (by decide +kernel), inTB 311 (by decide +kernel) (by decide +kernel), by decide +kernel, gmJ0_indexOf_0f7a4⟩
theorem lkX6_55 : LkV RX6 55 mX4_begin 2 := ⟨inTB 412 (by decide +kernel) (by decide +kernel), inTB 413 (by decide +kernel) (by decide +kernel), inTB 414 (by decide +kernel) (by decide +kernel), by decide +kernel, gmX4_begin⟩
theorem lkX4_21 : LkV RX4 21 mX4_clear 0 := ⟨inTB 416 (by decide +kernel) (by decide +kernel), inTB 417 (by decide +kernel) (by decide +kernel), inTB 418 (by decide +kernel) (by decide +kernel), by decide +kernel, gmX4_clear⟩
theorem lkL_31 : LkV RL 31 mX7_about 2 := ⟨inTB 420 (by decide +kernel) (by decide +kernel), inTB 421 (by decide +kernel) (by decide +kernel), inTB 422 (by decide +kernel) (by decide +kernel), by decide +kernel, gmX7_about⟩
theorem lkX7_77 : LkV RX7 77 mX6_hasPart 1 := ⟨inTB 424 (by decide +kernel) (by decide +kernel), inTB 425 (by decide +kernel) (by decide +kernel), inTB 426 (by decide +kernel) (by decide +kernel), by decide +kernel, gmX6_hasPart⟩
theorem lkX7_81 : LkV RX7 81 mX6_tellPart 2 := ⟨inTB 428 (by decide +kernel) (by decide +kernel), inTB 429 (by decide +kernel) (by decide +kernel), inTB 430 (by decide +kernel) (by decide +kernel), by decide +kernel, gmX6_tellPart⟩
theorem lkX6_114 : LkV RX6 114 mX4_light 0 := ⟨inTB 432 (by decide +kernel) (by decide +kernel), inTB 433 (by decide +kernel) (by decide +kernel), inTB 434 (by decide +kernel) (by decide +kernel), by decide +kernel, gmX4_light⟩
theorem lkX6_124 : LkV RX6 124 mX6_tone 1 := ⟨inTB 438 (by decide +kernel) (by decide +kernel), inTB 439 (by decide +kernel) (by decide +kernel), inTB 440 (by decide +kernel) (by decide +kernel), by decide +kernel, gmX6_tone⟩
theorem lkX6_95 : LkV RX6 95 mX6_hasLot 1 := ⟨inTB 442 (by decide +kernel) (by decide +kernel), inTB 443 (by decide +kernel) (by decide +kernel), inTB 444 (by decide +kernel) (by decide +kernel), by decide +kernel, gmX6_hasLot⟩
theorem lkX6_130 : LkV RX6 130 mX6_seenNext 1 := ⟨inTB 446 (by decide +kernel) (by decide +kernel), inTB 447 (by decide +kernel) (by decide +kernel), inTB 448 (by decide +kernel) (by decide +kernel), by decide +kernel, gmX6_seenNext⟩
theorem lkX6_108 : LkV RX6 108 mX6_hasPart 1 := ⟨inTB 450 (by decide +kernel) (by decide +kernel), inTB 425 (by decide +kernel) (by decide +kernel), inTB 426 (by decide +kernel) (by decide +kernel), by decide +kernel, gmX6_hasPart⟩
theorem lkX6_120 : LkV RX6 120 mX4_isKnitted 0 := ⟨inTB 451 (by decide +kernel) (by decide +kernel), inTB 452 (by decide +kernel) (by decide +kernel), inTB 453 (by decide +kernel) (by decide +kernel), by decide +kernel, gmX4_isKnitted⟩
theorem lkX6_127 : LkV RX6 127 mX6_seenWith 3 := ⟨inTB 455 (by decide +kernel) (by decide +kernel), inTB 456 (by decide +kernel) (by decide +kernel), inTB 457 (by decide +kernel) (by decide +kernel), by decide +kernel, gmX6_seenWith⟩
theorem lkL_36 : LkV RL 36 mX7_as 2 := ⟨inTB 462 (by decide +kernel) (by decide +kernel), inTB 463 (by decide +kernel) (by decide +kernel), inTB 464 (by decide +kernel) (by decide +kernel), by decide +kernel, gmX7_as⟩
theorem lkX7_93 : LkV RX7 93 mX4_isOf 1 := ⟨inTB 467 (by decide +kernel) (by decide +kernel), inTB 468 (by decide +kernel) (by decide +kernel), inTB 469 (by decide +kernel) (by decide +kernel), by decide +kernel, gmX4_isOf⟩
theorem lkL_40 : LkV RL 40 mX7_lot 1 := ⟨inTB 471 (by decide +kernel) (by decide +kernel), inTB 472 (by decide +kernel) (by decide +kernel), inTB 473 (by decide +kernel) (by decide +kernel), by decide +kernel, gmX7_lot⟩
theorem lkX7_105 : LkV RX7 105 mX2_begin 1 := ⟨inTB 475 (by decide +kernel) (by decide +kernel), inTB 476 (by decide +kernel) (by decide +kernel), inTB 477 (by decide +kernel) (by decide +kernel), by decide +kernel, gmX2_begin⟩
theorem lkL_44 : LkV RL 44 mX7_lotOf 2 := ⟨inTB 479 (by decide +kernel) (by decide +kernel), inTB 480 (by decide +kernel) (by decide +kernel), inTB 481 (by decide +kernel) (by decide +kernel), by decide +kernel, gmX7_lotOf⟩
theorem lkX7_109 : LkV RX7 109 mX6_hasLot 1 := ⟨inTB 483 (by decide +kernel) (by decide +kernel), inTB 443 (by decide +kernel) (by decide +kernel), inTB 444 (by decide +kernel) (by decide +kernel), by decide +kernel, gmX6_hasLot⟩
theorem lkX7_112 : LkV RX7 112 mX2_tell 1 := ⟨inTB 484 (by decide +kernel) (by decide +kernel), inTB 485 (by decide +kernel) (by decide +kernel), inTB 486 (by decide +kernel) (by decide +kernel), by decide +kernel, gmX2_tell⟩
theorem lkL_48 : LkV RL 48 mX7_buy 2 := ⟨inTB 488 (by decide +kernel) (by decide +kernel), inTB 489 (by decide +kernel) (by decide +kernel), inTB 490 (by decide +kernel) (by decide +kernel), by decide +kernel, gmX7_buy⟩
theorem lkL_52 : LkV RL 52 mX7_back 2 := ⟨inTB 492 (by decide +kernel) (by decide +kernel), inTB 493 (by decide +kernel) (by decide +kernel), inTB 494 (by decide +kernel) (by decide +kernel), by decide +kernel, gmX7_back⟩
theorem lkL_56 : LkV RL 56 mX7_knit 3 := ⟨inTB 496 (by decide +kernel) (by decide +kernel), inTB 497 (by decide +kernel) (by decide +kernel), inTB 498 (by decide +kernel) (by decide +kernel), by decide +kernel, gmX7_knit⟩
theorem lkX7_119 : LkV RX7 119 mX4_isKnitted 0 := ⟨inTB 500 (by decide +kernel) (by decide +kernel), inTB 452 (by decide +kernel) (by decide +kernel), inTB 453 (by decide +kernel) (by decide +kernel), by decide +kernel, gmX4_isKnitted⟩
theorem lkX7_122 : LkV RX7 122 mX6_canMake 3 := ⟨inTB 501 (by decide +kernel) (by decide +kernel), inTB 502 (by decide +kernel) (by decide +kernel), inTB 503 (by decide +kernel) (by decide +kernel), by decide +kernel, gmX6_canMake⟩
theorem lkX6_72 : LkN RX6 72 mX7_rowsOfFirst "DyeLots" 3 := ⟨inNest 505 (by decide +kernel) (by decide +kernel), inTB 506 (by decide +kernel) (by decide +kernel), by decide +kernel, gmX7_rowsOfFirst⟩
theorem lkX6_76 : LkV RX6 76 mX2_rows 0 := ⟨inTB 508 (by decide +kernel) (by decide +kernel), inTB 509 (by decide +kernel) (by decide +kernel), inTB 510 (by decide +kernel) (by decide +kernel), by decide +kernel, gmX2_rows⟩
theorem lkX7_126 : LkV RX7 126 mX6_make 3 := ⟨inTB 512 (by decide +kernel) (by decide +kernel), inTB 513 (by decide +kernel) (by decide +kernel), inTB 514 (by decide +kernel) (by decide +kernel), by decide +kernel, gmX6_make⟩
theorem lkX6_91 : LkV RX6 91 mX2_take 1 := ⟨inTB 516 (by decide +kernel) (by decide +kernel), inTB 517 (by decide +kernel) (by decide +kernel), inTB 518 (by decide +kernel) (by decide +kernel), by decide +kernel, gmX2_take⟩
theorem lkX7_130 : LkV RX7 130 mX6_seenOfAll 0 := ⟨inTB 521 (by decide +kernel) (by decide +kernel), inTB 522 (by decide +kernel) (by decide +kernel), inTB 523 (by decide +kernel) (by decide +kernel), by decide +kernel, gmX6_seenOfAll⟩
theorem lkL_61 : LkV RL 61 mX7_undo 1 := ⟨inTB 525 (by decide +kernel) (by decide +kernel), inTB 526 (by decide +kernel) (by decide +kernel), inTB 527 (by decide +kernel) (by decide +kernel), by decide +kernel, gmX7_undo⟩
theorem lkX7_133 : LkV RX7 133 mX6_unravel 1 := ⟨inTB 529 (by decide +kernel) (by decide +kernel), inTB 530 (by decide +kernel) (by decide +kernel), inTB 531 (by decide +kernel) (by decide +kernel), by decide +kernel, gmX6_unravel⟩
theorem lkX6_99 : LkV RX6 99 mX2_loosen 1 := ⟨inTB 533 (by decide +kernel) (by decide +kernel), inTB 534 (by decide +kernel) (by decide +kernel), inTB 535 (by decide +kernel) (by decide +kernel), by decide +kernel, gmX2_loosen⟩
theorem lkX6_102 : LkV RX6 102 mX4_clear 0 := ⟨inTB 537 (by decide +kernel) (by decide +kernel), inTB 417 (by decide +kernel) (by decide +kernel), inTB 418 (by decide +kernel) (by decide +kernel), by decide +kernel, gmX4_clear⟩
theorem lkL_65 : LkV RL 65 mX7_gauge 2 := ⟨inTB 538 (by decide +kernel) (by decide +kernel), inTB 539 (by decide +kernel) (by decide +kernel), inTB 540 (by decide +kernel) (by decide +kernel), by decide +kernel, gmX7_gauge⟩
theorem lkX7_139 : LkV RX7 139 mX4_isMixed 0 := ⟨inTB 542 (by decide +kernel) (by decide +kernel), inTB 543 (by decide +kernel) (by decide +kernel), inTB 544 (by decide +kernel) (by decide +kernel), by decide +kernel, gmX4_isMixed⟩
theorem lkX7_145 : LkV RX7 145 mX2_rows 0 := ⟨inTB 546 (by decide +kernel) (by decide +kernel), inTB 509 (by decide +kernel) (by decide +kernel), inTB 510 (by decide +kernel) (by decide +kernel), by decide +kernel, gmX2_rows⟩
theorem lkX7_148 : LkV RX7 148 mX2_take 1 := ⟨inTB 547 (by decide +kernel) (by decide +kernel), inTB 517 (by decide +kernel) (by decide +kernel), inTB 518 (by decide +kernel) (by decide +kernel), by decide +kernel, gmX2_take⟩
theorem lkL_69 : LkV RL 69 mX7_wash 0 := ⟨inTB 548 (by decide +kernel) (by decide +kernel), inTB 549 (by decide +kernel) (by decide +kernel), inTB 550 (by decide +kernel) (by decide +kernel), by decide +kernel, gmX7_wash⟩
theorem lkX7_160 : LkS RX7 160 mX7_faded 2 := ⟨inTB 552 (by decide +kernel) (by decide +kernel), inTB 553 (by decide +kernel) (by decide +kernel), by decide +kernel, gmX7_faded⟩
theorem lkL_73 : LkV RL 73 mX7_least 1 := ⟨inTB 557 (by decide +kernel) (by decide +kernel), inTB 558 (by decide +kernel) (by decide +kernel), inTB 559 (by decide +kernel) (by decide +kernel), by decide +kernel, gmX7_least⟩
theorem lkX7_166 : LkV RX7 166 mX5_search 1 := ⟨inTB 561 (by decide +kernel) (by decide +kernel), inTB 562 (by decide +kernel) (by decide +kernel), inTB 563 (by decide +kernel) (by decide +kernel), by decide +kernel, gmX5_search⟩
theorem lkX5_41 : LkV RX5 41 mX2_rows 0 := ⟨inTB 565 (by decide +kernel) (by decide +kernel), inTB 509 (by decide +kernel) (by decide +kernel), inTB 510 (by decide +kernel) (by decide +kernel), by decide +kernel, gmX2_rows⟩
theorem lkX5_47 : LkS RX5 47 mX5_choose 4 := ⟨inTB 566 (by decide +kernel) (by decide +kernel), inTB 567 (by decide +kernel) (by decide +kernel), by decide +kernel, gmX5_choose⟩
theorem lkX5_54 : LkV RX5 54 mX5_keep 1 := ⟨inTB 569 (by decide +kernel) (by decide +kernel), inTB 571 (by decide +kernel) (by decide +kernel), inTB 0 (by decide +kernel) (by decide +kernel), by decide +kernel, gmX5_keep⟩
theorem lkX5_62 : LkV RX5 62 mX4_isKnitted 0 := ⟨inTB 576 (by decide +kernel) (by decide +kernel), inTB 452 (by decide +kernel) (by decide +kernel), inTB 453 (by decide +kernel) (by decide +kernel), by decide +kernel, gmX4_isKnitted⟩
theorem lkX5_68 : LkV RX5 68 mX6_tone 1 := ⟨inTB 577 (by decide +kernel) (by decide +kernel), inTB 439 (by decide +kernel) (by decide +kernel), inTB 440 (by decide +kernel) (by decide +kernel), by decide +kernel, gmX6_tone⟩
theorem lkX5_72 : LkS RX5 72 mX5_goOn 5 := ⟨inTB 578 (by decide +kernel) (by decide +kernel), inTB 579 (by decide +kernel) (by decide +kernel), by decide +kernel, gmX5_goOn⟩
theorem lkX5_89 : LkV RX5 89 mX6_seenWith 3 := ⟨inTB 581 (by decide +kernel) (by decide +kernel), inTB 456 (by decide +kernel) (by decide +kernel), inTB 457 (by decide +kernel) (by decide +kernel), by decide +kernel, gmX6_seenWith⟩
theorem lkX5_76 : LkS RX5 76 mX5_chooseOf 6 := ⟨inTB 582 (by decide +kernel) (by decide +kernel), inTB 583 (by decide +kernel) (by decide +kernel), by decide +kernel, gmX5_chooseOf⟩
theorem lkX5_82 : LkN RX5 82 mX7_rowsOfFirst "DyeLots" 3 := ⟨inNest 585 (by decide +kernel) (by decide +kernel), inTB 506 (by decide +kernel) (by decide +kernel), by decide +kernel, gmX7_rowsOfFirst⟩
theorem lkL_77 : LkV RL 77 mX7_wanted 2 := ⟨inTB 586 (by decide +kernel) (by decide +kernel), inTB 587 (by decide +kernel) (by decide +kernel), inTB 588 (by decide +kernel) (by decide +kernel), by decide +kernel, gmX7_wanted⟩
theorem lkX7_179 : LkV RX7 179 mX6_ballsWanted 2 := ⟨inTB 590 (by decide +kernel) (by decide +kernel), inTB 591 (by decide +kernel) (by decide +kernel), inTB 592 (by decide +kernel) (by decide +kernel), by decide +kernel, gmX6_ballsWanted⟩
theorem lkL_81 : LkV RL 81 mX7_found 2 := ⟨inTB 595 (by decide +kernel) (by decide +kernel), inTB 596 (by decide +kernel) (by decide +kernel), inTB 597 (by decide +kernel) (by decide +kernel), by decide +kernel, gmX7_found⟩
theorem lkL_85 : LkV RL 85 mX7_fits 0 := ⟨inTB 599 (by decide +kernel) (by decide +kernel), inTB 600 (by decide +kernel) (by decide +kernel), inTB 601 (by decide +kernel) (by decide +kernel), by decide +kernel, gmX7_fits⟩
theorem lkX7_186 : LkV RX7 186 mX1_study 1 := ⟨inTB 603 (by decide +kernel) (by decide +kernel), inTB 604 (by decide +kernel) (by decide +kernel), inTB 605 (by decide +kernel) (by decide +kernel), by decide +kernel, gmX1_study⟩
theorem lkX1_30 : LkV RX1 30 mX1_listMakes 1 := ⟨inTB 607 (by decide +kernel) (by decide +kernel), inTB 609 (by decide +kernel) (by decide +kernel), inTB 1 (by decide +kernel) (by decide +kernel), by decide +kernel, gmX1_listMakes⟩
theorem lkX1_34 : LkV RX1 34 mX1_countAhead 2 := ⟨inTB 611 (by decide +kernel) (by decide +kernel), inTB 613 (by decide +kernel) (by decide +kernel), inTB 2 (by decide +kernel) (by decide +kernel), by decide +kernel, gmX1_countAhead⟩
theorem lkX1_56 : LkV RX1 56 mX1_mayMeet 4 := ⟨inTB 615 (by decide +kernel) (by decide +kernel), inTB 617 (by decide +kernel) (by decide +kernel), inTB 3 (by decide +kernel) (by decide +kernel), by decide +kernel, gmX1_mayMeet⟩
theorem lkX1_69 : LkV RX1 69 mX6_seenWith 3 := ⟨inTB 619 (by decide +kernel) (by decide +kernel), inTB 456 (by decide +kernel) (by decide +kernel), inTB 457 (by decide +kernel) (by decide +kernel), by decide +kernel, gmX6_seenWith⟩
theorem lkX1_38 : LkV RX1 38 mX1_countBehind 2 := ⟨inTB 620 (by decide +kernel) (by decide +kernel), inTB 622 (by decide +kernel) (by decide +kernel), inTB 4 (by decide +kernel) (by decide +kernel), by decide +kernel, gmX1_countBehind⟩
theorem lkX7_189 : LkV RX7 189 mX1_ways 0 := ⟨inTB 624 (by decide +kernel) (by decide +kernel), inTB 625 (by decide +kernel) (by decide +kernel), inTB 626 (by decide +kernel) (by decide +kernel), by decide +kernel, gmX1_ways⟩
theorem lkL_89 : LkV RL 89 mX7_sure 1 := ⟨inTB 628 (by decide +kernel) (by decide +kernel), inTB 629 (by decide +kernel) (by decide +kernel), inTB 630 (by decide +kernel) (by decide +kernel), by decide +kernel, gmX7_sure⟩
theorem lkX7_192 : LkV RX7 192 mX1_toneOf 1 := ⟨inTB 632 (by decide +kernel) (by decide +kernel), inTB 633 (by decide +kernel) (by decide +kernel), inTB 634 (by decide +kernel) (by decide +kernel), by decide +kernel, gmX1_toneOf⟩
theorem lkL_93 : LkV RL 93 mX7_years 3 := ⟨inTB 636 (by decide +kernel) (by decide +kernel), inTB 637 (by decide +kernel) (by decide +kernel), inTB 638 (by decide +kernel) (by decide +kernel), by decide +kernel, gmX7_years⟩
theorem lkX7_199 : LkV RX7 199 mX0_seenInAYear 1 := ⟨inTB 640 (by decide +kernel) (by decide +kernel), inTB 641 (by decide +kernel) (by decide +kernel), inTB 642 (by decide +kernel) (by decide +kernel), by decide +kernel, gmX0_seenInAYear⟩
theorem lkX0_33 : LkV RX0 33 mX0_draw 1 := ⟨inTB 644 (by decide +kernel) (by decide +kernel), inTB 646 (by decide +kernel) (by decide +kernel), inTB 5 (by decide +kernel) (by decide +kernel), by decide +kernel, gmX0_draw⟩
theorem lcX0_15 : Cond.constantLong RX0 15 1103515245 ∈ TB := inTB 648 (by decide +kernel) (by decide +kernel)
theorem lcX0_21 : Cond.constantLong RX0 21 12345 ∈ TB := inTB 649 (by decide +kernel) (by decide +kernel)
theorem lcX0_23 : Cond.constantLong RX0 23 2147483647 ∈ TB := inTB 650 (by decide +kernel) (by decide +kernel)
theorem lcX0_25 : Cond.constantLong RX0 25 65536 ∈ TB := inTB 651 (by decide +kernel) (by decide +kernel)
theorem lkX0_40 : LkN RX0 40 mX7_faded "DyeLots" 2 := ⟨inNest 652 (by decide +kernel) (by decide +kernel), inTB 553 (by decide +kernel) (by decide +kernel), by decide +kernel, gmX7_faded⟩
theorem lkX0_47 : LkV RX0 47 mX6_seenWith 3 := ⟨inTB 653 (by decide +kernel) (by decide +kernel), inTB 456 (by decide +kernel) (by decide +kernel), inTB 457 (by decide +kernel) (by decide +kernel), by decide +kernel, gmX6_seenWith⟩
theorem lkL_97 : LkV RL 97 mX7_image 0 := ⟨inTB 654 (by decide +kernel) (by decide +kernel), inTB 655 (by decide +kernel) (by decide +kernel), inTB 656 (by decide +kernel) (by decide +kernel), by decide +kernel, gmX7_image⟩
theorem lkX7_203 : LkV RX7 203 mX6_copy 1 := ⟨inTB 658 (by decide +kernel) (by decide +kernel), inTB 659 (by decide +kernel) (by decide +kernel), inTB 660 (by decide +kernel) (by decide +kernel), by decide +kernel, gmX6_copy⟩
theorem lkX6_62 : LkV RX6 62 mX4_copy 1 := ⟨inTB 662 (by decide +kernel) (by decide +kernel), inTB 663 (by decide +kernel) (by decide +kernel), inTB 664 (by decide +kernel) (by decide +kernel), by decide +kernel, gmX4_copy⟩
theorem lkX6_66 : LkV RX6 66 mX2_copy 1 := ⟨inTB 666 (by decide +kernel) (by decide +kernel), inTB 667 (by decide +kernel) (by decide +kernel), inTB 668 (by decide +kernel) (by decide +kernel), by decide +kernel, gmX2_copy⟩
theorem lkX7_206 : LkV RX7 206 mX6_knittedCount 0 := ⟨inTB 670 (by decide +kernel) (by decide +kernel), inTB 671 (by decide +kernel) (by decide +kernel), inTB 672 (by decide +kernel) (by decide +kernel), by decide +kernel, gmX6_knittedCount⟩
theorem lkL_101 : LkV RL 101 mX7_restore 0 := ⟨inTB 674 (by decide +kernel) (by decide +kernel), inTB 675 (by decide +kernel) (by decide +kernel), inTB 676 (by decide +kernel) (by decide +kernel), by decide +kernel, gmX7_restore⟩
theorem lkL_105 : LkV RL 105 mX7_count 1 := ⟨inTB 678 (by decide +kernel) (by decide +kernel), inTB 679 (by decide +kernel) (by decide +kernel), inTB 680 (by decide +kernel) (by decide +kernel), by decide +kernel, gmX7_count⟩
theorem lkX7_209 : LkV RX7 209 mX6_tellAll 1 := ⟨inTB 682 (by decide +kernel) (by decide +kernel), inTB 683 (by decide +kernel) (by decide +kernel), inTB 684 (by decide +kernel) (by decide +kernel), by decide +kernel, gmX6_tellAll⟩
theorem lkX6_146 : LkV RX6 146 mX6_knittedCount 0 := ⟨inTB 686 (by decide +kernel) (by decide +kernel), inTB 671 (by decide +kernel) (by decide +kernel), inTB 672 (by decide +kernel) (by decide +kernel), by decide +kernel, gmX6_knittedCount⟩
theorem lkX6_149 : LkV RX6 149 mX6_seenOfAll 0 := ⟨inTB 687 (by decide +kernel) (by decide +kernel), inTB 522 (by decide +kernel) (by decide +kernel), inTB 523 (by decide +kernel) (by decide +kernel), by decide +kernel, gmX6_seenOfAll⟩
theorem lkX6_152 : LkV RX6 152 mX6_sumOfLots 1 := ⟨inTB 688 (by decide +kernel) (by decide +kernel), inTB 689 (by decide +kernel) (by decide +kernel), inTB 690 (by decide +kernel) (by decide +kernel), by decide +kernel, gmX6_sumOfLots⟩
theorem lkX6_136 : LkV RX6 136 mX2_tell 1 := ⟨inTB 692 (by decide +kernel) (by decide +kernel), inTB 485 (by decide +kernel) (by decide +kernel), inTB 486 (by decide +kernel) (by decide +kernel), by decide +kernel, gmX2_tell⟩
theorem lkX6_155 : LkV RX6 155 mX6_foundCount 0 := ⟨inTB 693 (by decide +kernel) (by decide +kernel), inTB 694 (by decide +kernel) (by decide +kernel), inTB 695 (by decide +kernel) (by decide +kernel), by decide +kernel, gmX6_foundCount⟩
theorem lkL_109 : LkV RL 109 mX7_digest 0 := ⟨inTB 697 (by decide +kernel) (by decide +kernel), inTB 698 (by decide +kernel) (by decide +kernel), inTB 699 (by decide +kernel) (by decide +kernel), by decide +kernel, gmX7_digest⟩
theorem lcX7_212 : Cond.constantLong RX7 212 829 ∈ TB := inTB 701 (by decide +kernel) (by decide +kernel)
theorem lcX7_214 : Cond.constantLong RX7 214 31 ∈ TB := inTB 702 (by decide +kernel) (by decide +kernel)
theorem lkX7_219 : LkV RX7 219 mX7_count 1 := ⟨inTB 703 (by decide +kernel) (by decide +kernel), inTB 679 (by decide +kernel) (by decide +kernel), inTB 680 (by decide +kernel) (by decide +kernel), by decide +kernel, gmX7_count⟩
theorem flX8_129 : FLk RX8 129 8 0 := ⟨RX8, TX8, 38, tyX8, fx8, by decide, inTB 710 (by decide +kernel) (by decide +kernel), rfl, rfl, by decide⟩
theorem flX8_119 : FLk RX8 119 8 1 := ⟨RX8, TX8, 38, tyX8, fx8, by decide, inTB 711 (by decide +kernel) (by decide +kernel), rfl, rfl, by decide⟩
theorem flX8_122 : FLk RX8 122 8 2 := ⟨RX8, TX8, 38, tyX8, fx8, by decide, inTB 712 (by decide +kernel) (by decide +kernel), rfl, rfl, by decide⟩
theorem flX8_7 : FLk RX8 7 8 3 := ⟨RX8, TX8, 38, tyX8, fx8, by decide, inTB 713 (by decide +kernel) (by decide +kernel), rfl, rfl, by decide⟩
theorem flX8_13 : FLk RX8 13 8 4 := ⟨RX8, TX8, 38, tyX8, fx8, by decide, inTB 714 (by decide +kernel) (by decide +kernel), rfl, rfl, by decide⟩
theorem flX8_16 : FLk RX8 16 8 5 := ⟨RX8, TX8, 38, tyX8, fx8, by decide, inTB 715 (by decide +kernel) (by decide +kernel), rfl, rfl, by decide⟩
theorem flX8_19 : FLk RX8 19 8 6 := ⟨RX8, TX8, 38, tyX8, fx8, by decide, inTB 716 (by decide +kernel) (by decide +kernel), rfl, rfl, by decide⟩
theorem flX8_22 : FLk RX8 22 8 7 := ⟨RX8, TX8, 38, tyX8, fx8, by decide, inTB 717 (by decide +kernel) (by decide +kernel), rfl, rfl, by decide⟩
theorem flX8_25 : FLk RX8 25 8 8 := ⟨RX8, TX8, 38, tyX8, fx8, by decide, inTB 718 (by decide +kernel) (by decide +kernel), rfl, rfl, by decide⟩
theorem flX8_28 : FLk RX8 28 8 9 := ⟨RX8, TX8, 38, tyX8, fx8, by decide, inTB 719 (by decide +kernel) (by decide +kernel), rfl, rfl, by decide⟩
theorem flX8_31 : FLk RX8 31 8 10 := ⟨RX8, TX8, 38, tyX8, fx8, by decide, inTB 720 (by decide +kernel) (by decide +kernel), rfl, rfl, by decide⟩
theorem flX8_132 : FLk RX8 132 8 11 := ⟨RX8, TX8, 38, tyX8, fx8, by decide, inTB 721 (by decide +kernel) (by decide +kernel), rfl, rfl, by decide⟩
theorem flX8_34 : FLk RX8 34 8 12 := ⟨RX8, TX8, 38, tyX8, fx8, by decide, inTB 722 (by decide +kernel) (by decide +kernel), rfl, rfl, by decide⟩
theorem flX8_37 : FLk RX8 37 8 13 := ⟨RX8, TX8, 38, tyX8, fx8, by decide, inTB 723 (by decide +kernel) (by decide +kernel), rfl, rfl, by decide⟩
theorem flX8_40 : FLk RX8 40 8 14 := ⟨RX8, TX8, 38, tyX8, fx8, by decide, inTB 724 (by decide +kernel) (by decide +kernel), rfl, rfl, by decide⟩
theorem flX8_194 : FLk RX8 194 8 15 := ⟨RX8, TX8, 38, tyX8, fx8, by decide, inTB 725 (by decide +kernel) (by decide +kernel), rfl, rfl, by decide⟩
theorem flX8_90 : FLk RX8 90 8 16 := ⟨RX8, TX8, 38, tyX8, fx8, by decide, inTB 726 (by decide +kernel) (by decide +kernel), rfl, rfl, by decide⟩
theorem flX8_43 : FLk RX8 43 8 17 := ⟨RX8, TX8, 38, tyX8, fx8, by decide, inTB 727 (by decide +kernel) (by decide +kernel), rfl, rfl, by decide⟩
theorem flX8_94 : FLk RX8 94 8 18 := ⟨RX8, TX8, 38, tyX8, fx8, by decide, inTB 728 (by decide +kernel) (by decide +kernel), rfl, rfl, by decide⟩
theorem flX8_97 : FLk RX8 97 8 19 := ⟨RX8, TX8, 38, tyX8, fx8, by decide, inTB 729 (by decide +kernel) (by decide +kernel), rfl, rfl, by decide⟩
theorem flX8_47 : FLk RX8 47 8 20 := ⟨RX8, TX8, 38, tyX8, fx8, by decide, inTB 730 (by decide +kernel) (by decide +kernel), rfl, rfl, by decide⟩
theorem flX8_50 : FLk RX8 50 8 21 := ⟨RX8, TX8, 38, tyX8, fx8, by decide, inTB 731 (by decide +kernel) (by decide +kernel), rfl, rfl, by decide⟩
theorem flX8_53 : FLk RX8 53 8 22 := ⟨RX8, TX8, 38, tyX8, fx8, by decide, inTB 732 (by decide +kernel) (by decide +kernel), rfl, rfl, by decide⟩
theorem flX8_223 : FLk RX8 223 8 23 := ⟨RX8, TX8, 38, tyX8, fx8, by decide, inTB 733 (by decide +kernel) (by decide +kernel), rfl, rfl, by decide⟩
theorem flX8_56 : FLk RX8 56 8 24 := ⟨RX8, TX8, 38, tyX8, fx8, by decide, inTB 734 (by decide +kernel) (by decide +kernel), rfl, rfl, by decide⟩
theorem flX8_242 : FLk RX8 242 8 25 := ⟨RX8, TX8, 38, tyX8, fx8, by decide, inTB 735 (by decide +kernel) (by decide +kernel), rfl, rfl, by decide⟩
theorem flX8_245 : FLk RX8 245 8 26 := ⟨RX8, TX8, 38, tyX8, fx8, by decide, inTB 736 (by decide +kernel) (by decide +kernel), rfl, rfl, by decide⟩
theorem flX8_248 : FLk RX8 248 8 27 := ⟨RX8, TX8, 38, tyX8, fx8, by decide, inTB 737 (by decide +kernel) (by decide +kernel), rfl, rfl, by decide⟩
theorem flX8_59 : FLk RX8 59 8 28 := ⟨RX8, TX8, 38, tyX8, fx8, by decide, inTB 738 (by decide +kernel) (by decide +kernel), rfl, rfl, by decide⟩
theorem flX8_62 : FLk RX8 62 8 29 := ⟨RX8, TX8, 38, tyX8, fx8, by decide, inTB 739 (by decide +kernel) (by decide +kernel), rfl, rfl, by decide⟩
theorem flX8_65 : FLk RX8 65 8 30 := ⟨RX8, TX8, 38, tyX8, fx8, by decide, inTB 740 (by decide +kernel) (by decide +kernel), rfl, rfl, by decide⟩
theorem flX8_68 : FLk RX8 68 8 31 := ⟨RX8, TX8, 38, tyX8, fx8, by decide, inTB 741 (by decide +kernel) (by decide +kernel), rfl, rfl, by decide⟩
theorem flX8_71 : FLk RX8 71 8 32 := ⟨RX8, TX8, 38, tyX8, fx8, by decide, inTB 742 (by decide +kernel) (by decide +kernel), rfl, rfl, by decide⟩
theorem flX8_74 : FLk RX8 74 8 33 := ⟨RX8, TX8, 38, tyX8, fx8, by decide, inTB 743 (by decide +kernel) (by decide +kernel), rfl, rfl, by decide⟩
theorem flX8_77 : FLk RX8 77 8 34 := ⟨RX8, TX8, 38, tyX8, fx8, by decide, inTB 744 (by decide +kernel) (by decide +kernel), rfl, rfl, by decide⟩
theorem flX8_80 : FLk RX8 80 8 35 := ⟨RX8, TX8, 38, tyX8, fx8, by decide, inTB 745 (by decide +kernel) (by decide +kernel), rfl, rfl, by decide⟩
theorem flX8_83 : FLk RX8 83 8 36 := ⟨RX8, TX8, 38, tyX8, fx8, by decide, inTB 746 (by decide +kernel) (by decide +kernel), rfl, rfl, by decide⟩
theorem flX8_262 : FLk RX8 262 8 37 := ⟨RX8, TX8, 38, tyX8, fx8, by decide, inTB 747 (by decide +kernel) (by decide +kernel), rfl, rfl, by decide⟩
theorem lkL_17 : LkV RL 17 mX8_letter 1 := ⟨inTB 825 (by decide +kernel) (by decide +kernel), inTB 826 (by decide +kernel) (by decide +kernel), inTB 827 (by decide +kernel) (by decide +kernel), by decide +kernel, gmX8_letter⟩
theorem lkX8_86 : LkS RX8 86 mX8_within 3 := ⟨inTB 829 (by decide +kernel) (by decide +kernel), inTB 830 (by decide +kernel) (by decide +kernel), by decide +kernel, gmX8_within⟩
theorem lkL_22 : LkV RL 22 mX8_blank 0 := ⟨inTB 832 (by decide +kernel) (by decide +kernel), inTB 833 (by decide +kernel) (by decide +kernel), inTB 834 (by decide +kernel) (by decide +kernel), by decide +kernel, gmX8_blank⟩
theorem lkL_26 : LkV RL 26 mX8_fault 0 := ⟨inTB 836 (by decide +kernel) (by decide +kernel), inTB 837 (by decide +kernel) (by decide +kernel), inTB 838 (by decide +kernel) (by decide +kernel), by decide +kernel, gmX8_fault⟩
theorem lkX8_115 : LkV RX8 115 mX8_read 0 := ⟨inTB 840 (by decide +kernel) (by decide +kernel), inTB 842 (by decide +kernel) (by decide +kernel), inTB 6 (by decide +kernel) (by decide +kernel), by decide +kernel, gmX8_read⟩
theorem lkX8_101 : LkS RX8 101 mX8_kindBy 1 := ⟨inTB 844 (by decide +kernel) (by decide +kernel), inTB 845 (by decide +kernel) (by decide +kernel), by decide +kernel, gmX8_kindBy⟩
theorem lkX8_105 : LkV RX8 105 mX8_isFigure 3 := ⟨inTB 847 (by decide +kernel) (by decide +kernel), inTB 849 (by decide +kernel) (by decide +kernel), inTB 7 (by decide +kernel) (by decide +kernel), by decide +kernel, gmX8_isFigure⟩
theorem lkX8_108 : LkV RX8 108 mX8_isSign 2 := ⟨inTB 851 (by decide +kernel) (by decide +kernel), inTB 853 (by decide +kernel) (by decide +kernel), inTB 8 (by decide +kernel) (by decide +kernel), by decide +kernel, gmX8_isSign⟩
theorem lkX8_112 : LkV RX8 112 mX8_readFade 1 := ⟨inTB 855 (by decide +kernel) (by decide +kernel), inTB 857 (by decide +kernel) (by decide +kernel), inTB 9 (by decide +kernel) (by decide +kernel), by decide +kernel, gmX8_readFade⟩
theorem lkL_30 : LkV RL 30 mX8_garment 0 := ⟨inTB 859 (by decide +kernel) (by decide +kernel), inTB 860 (by decide +kernel) (by decide +kernel), inTB 861 (by decide +kernel) (by decide +kernel), by decide +kernel, gmX8_garment⟩
theorem lkX8_125 : LkV RX8 125 mX8_clear 1 := ⟨inTB 863 (by decide +kernel) (by decide +kernel), inTB 865 (by decide +kernel) (by decide +kernel), inTB 10 (by decide +kernel) (by decide +kernel), by decide +kernel, gmX8_clear⟩
theorem lkL_35 : LkV RL 35 mX8_about 2 := ⟨inTB 867 (by decide +kernel) (by decide +kernel), inTB 868 (by decide +kernel) (by decide +kernel), inTB 869 (by decide +kernel) (by decide +kernel), by decide +kernel, gmX8_about⟩
theorem lkX8_148 : LkV RX8 148 mX8_isPart 1 := ⟨inTB 871 (by decide +kernel) (by decide +kernel), inTB 873 (by decide +kernel) (by decide +kernel), inTB 11 (by decide +kernel) (by decide +kernel), by decide +kernel, gmX8_isPart⟩
theorem lkX8_152 : LkV RX8 152 mX8_partNow 2 := ⟨inTB 875 (by decide +kernel) (by decide +kernel), inTB 877 (by decide +kernel) (by decide +kernel), inTB 12 (by decide +kernel) (by decide +kernel), by decide +kernel, gmX8_partNow⟩
theorem lkX8_135 : LkS RX8 135 mX8_lightOf 1 := ⟨inTB 879 (by decide +kernel) (by decide +kernel), inTB 880 (by decide +kernel) (by decide +kernel), by decide +kernel, gmX8_lightOf⟩
theorem lkX8_138 : LkV RX8 138 mX8_toneOf 1 := ⟨inTB 882 (by decide +kernel) (by decide +kernel), inTB 884 (by decide +kernel) (by decide +kernel), inTB 13 (by decide +kernel) (by decide +kernel), by decide +kernel, gmX8_toneOf⟩
theorem lkX8_145 : LkV RX8 145 mX8_seenAt 1 := ⟨inTB 886 (by decide +kernel) (by decide +kernel), inTB 888 (by decide +kernel) (by decide +kernel), inTB 14 (by decide +kernel) (by decide +kernel), by decide +kernel, gmX8_seenAt⟩
theorem lkX8_141 : LkV RX8 141 mX8_seenBy 3 := ⟨inTB 890 (by decide +kernel) (by decide +kernel), inTB 892 (by decide +kernel) (by decide +kernel), inTB 15 (by decide +kernel) (by decide +kernel), by decide +kernel, gmX8_seenBy⟩
theorem lkL_39 : LkV RL 39 mX8_as 2 := ⟨inTB 894 (by decide +kernel) (by decide +kernel), inTB 895 (by decide +kernel) (by decide +kernel), inTB 896 (by decide +kernel) (by decide +kernel), by decide +kernel, gmX8_as⟩
theorem lkL_43 : LkV RL 43 mX8_lot 1 := ⟨inTB 898 (by decide +kernel) (by decide +kernel), inTB 899 (by decide +kernel) (by decide +kernel), inTB 900 (by decide +kernel) (by decide +kernel), by decide +kernel, gmX8_lot⟩
theorem lkL_47 : LkV RL 47 mX8_lotOf 2 := ⟨inTB 902 (by decide +kernel) (by decide +kernel), inTB 903 (by decide +kernel) (by decide +kernel), inTB 904 (by decide +kernel) (by decide +kernel), by decide +kernel, gmX8_lotOf⟩
theorem lkX8_156 : LkV RX8 156 mX8_isLot 1 := ⟨inTB 906 (by decide +kernel) (by decide +kernel), inTB 908 (by decide +kernel) (by decide +kernel), inTB 16 (by decide +kernel) (by decide +kernel), by decide +kernel, gmX8_isLot⟩
theorem lkX8_159 : LkV RX8 159 mX8_lotNow 2 := ⟨inTB 910 (by decide +kernel) (by decide +kernel), inTB 912 (by decide +kernel) (by decide +kernel), inTB 17 (by decide +kernel) (by decide +kernel), by decide +kernel, gmX8_lotNow⟩
theorem lkL_51 : LkV RL 51 mX8_buy 2 := ⟨inTB 914 (by decide +kernel) (by decide +kernel), inTB 915 (by decide +kernel) (by decide +kernel), inTB 916 (by decide +kernel) (by decide +kernel), by decide +kernel, gmX8_buy⟩
theorem lkL_55 : LkV RL 55 mX8_back 2 := ⟨inTB 918 (by decide +kernel) (by decide +kernel), inTB 919 (by decide +kernel) (by decide +kernel), inTB 920 (by decide +kernel) (by decide +kernel), by decide +kernel, gmX8_back⟩
theorem lkL_60 : LkV RL 60 mX8_knit 3 := ⟨inTB 922 (by decide +kernel) (by decide +kernel), inTB 923 (by decide +kernel) (by decide +kernel), inTB 924 (by decide +kernel) (by decide +kernel), by decide +kernel, gmX8_knit⟩
theorem lkX8_162 : LkS RX8 162 mX8_firstHalf 1 := ⟨inTB 926 (by decide +kernel) (by decide +kernel), inTB 927 (by decide +kernel) (by decide +kernel), by decide +kernel, gmX8_firstHalf⟩
theorem lkX8_165 : LkV RX8 165 mX8_rowsIn 1 := ⟨inTB 929 (by decide +kernel) (by decide +kernel), inTB 931 (by decide +kernel) (by decide +kernel), inTB 18 (by decide +kernel) (by decide +kernel), by decide +kernel, gmX8_rowsIn⟩
theorem lkX8_168 : LkV RX8 168 mX8_take 2 := ⟨inTB 933 (by decide +kernel) (by decide +kernel), inTB 935 (by decide +kernel) (by decide +kernel), inTB 19 (by decide +kernel) (by decide +kernel), by decide +kernel, gmX8_take⟩
theorem lkX8_172 : LkV RX8 172 mX8_seenAll 0 := ⟨inTB 937 (by decide +kernel) (by decide +kernel), inTB 939 (by decide +kernel) (by decide +kernel), inTB 20 (by decide +kernel) (by decide +kernel), by decide +kernel, gmX8_seenAll⟩
theorem lkL_64 : LkV RL 64 mX8_undo 1 := ⟨inTB 941 (by decide +kernel) (by decide +kernel), inTB 942 (by decide +kernel) (by decide +kernel), inTB 943 (by decide +kernel) (by decide +kernel), by decide +kernel, gmX8_undo⟩
theorem lkX8_175 : LkV RX8 175 mX8_comeBack 2 := ⟨inTB 945 (by decide +kernel) (by decide +kernel), inTB 947 (by decide +kernel) (by decide +kernel), inTB 21 (by decide +kernel) (by decide +kernel), by decide +kernel, gmX8_comeBack⟩
theorem lkL_68 : LkV RL 68 mX8_gauge 2 := ⟨inTB 949 (by decide +kernel) (by decide +kernel), inTB 950 (by decide +kernel) (by decide +kernel), inTB 951 (by decide +kernel) (by decide +kernel), by decide +kernel, gmX8_gauge⟩
theorem lkL_72 : LkV RL 72 mX8_wash 0 := ⟨inTB 953 (by decide +kernel) (by decide +kernel), inTB 954 (by decide +kernel) (by decide +kernel), inTB 955 (by decide +kernel) (by decide +kernel), by decide +kernel, gmX8_wash⟩
theorem lkX8_178 : LkV RX8 178 mX8_washed 1 := ⟨inTB 957 (by decide +kernel) (by decide +kernel), inTB 959 (by decide +kernel) (by decide +kernel), inTB 22 (by decide +kernel) (by decide +kernel), by decide +kernel, gmX8_washed⟩
theorem lkL_76 : LkV RL 76 mX8_least 1 := ⟨inTB 961 (by decide +kernel) (by decide +kernel), inTB 962 (by decide +kernel) (by decide +kernel), inTB 963 (by decide +kernel) (by decide +kernel), by decide +kernel, gmX8_least⟩
theorem lkX8_197 : LkV RX8 197 mX8_leastNow 1 := ⟨inTB 965 (by decide +kernel) (by decide +kernel), inTB 967 (by decide +kernel) (by decide +kernel), inTB 23 (by decide +kernel) (by decide +kernel), by decide +kernel, gmX8_leastNow⟩
theorem lcX8_184 : Cond.constant RX8 184 268435456 ∈ TB := inTB 969 (by decide +kernel) (by decide +kernel)
theorem lkX8_185 : LkV RX8 185 mX8_plans 0 := ⟨inTB 970 (by decide +kernel) (by decide +kernel), inTB 972 (by decide +kernel) (by decide +kernel), inTB 24 (by decide +kernel) (by decide +kernel), by decide +kernel, gmX8_plans⟩
theorem lkX8_181 : LkV RX8 181 mX8_openParts 0 := ⟨inTB 974 (by decide +kernel) (by decide +kernel), inTB 976 (by decide +kernel) (by decide +kernel), inTB 25 (by decide +kernel) (by decide +kernel), by decide +kernel, gmX8_openParts⟩
theorem lkX8_188 : LkV RX8 188 mX8_layPlan 1 := ⟨inTB 978 (by decide +kernel) (by decide +kernel), inTB 980 (by decide +kernel) (by decide +kernel), inTB 26 (by decide +kernel) (by decide +kernel), by decide +kernel, gmX8_layPlan⟩
theorem lkX8_191 : LkV RX8 191 mX8_planSeen 0 := ⟨inTB 982 (by decide +kernel) (by decide +kernel), inTB 984 (by decide +kernel) (by decide +kernel), inTB 27 (by decide +kernel) (by decide +kernel), by decide +kernel, gmX8_planSeen⟩
theorem lkL_80 : LkV RL 80 mX8_wanted 2 := ⟨inTB 986 (by decide +kernel) (by decide +kernel), inTB 987 (by decide +kernel) (by decide +kernel), inTB 988 (by decide +kernel) (by decide +kernel), by decide +kernel, gmX8_wanted⟩
theorem lkX8_200 : LkV RX8 200 mX8_wantedNow 2 := ⟨inTB 990 (by decide +kernel) (by decide +kernel), inTB 992 (by decide +kernel) (by decide +kernel), inTB 28 (by decide +kernel) (by decide +kernel), by decide +kernel, gmX8_wantedNow⟩
theorem lkL_84 : LkV RL 84 mX8_found 2 := ⟨inTB 994 (by decide +kernel) (by decide +kernel), inTB 995 (by decide +kernel) (by decide +kernel), inTB 996 (by decide +kernel) (by decide +kernel), by decide +kernel, gmX8_found⟩
theorem lkL_88 : LkV RL 88 mX8_fits 0 := ⟨inTB 998 (by decide +kernel) (by decide +kernel), inTB 999 (by decide +kernel) (by decide +kernel), inTB 1000 (by decide +kernel) (by decide +kernel), by decide +kernel, gmX8_fits⟩
theorem lkX8_215 : LkV RX8 215 mX8_fitsNow 0 := ⟨inTB 1002 (by decide +kernel) (by decide +kernel), inTB 1004 (by decide +kernel) (by decide +kernel), inTB 29 (by decide +kernel) (by decide +kernel), by decide +kernel, gmX8_fitsNow⟩
theorem lkX8_209 : LkV RX8 209 mX8_waysMany 0 := ⟨inTB 1006 (by decide +kernel) (by decide +kernel), inTB 1008 (by decide +kernel) (by decide +kernel), inTB 30 (by decide +kernel) (by decide +kernel), by decide +kernel, gmX8_waysMany⟩
theorem lkX8_203 : LkV RX8 203 mX8_sorts 0 := ⟨inTB 1010 (by decide +kernel) (by decide +kernel), inTB 1012 (by decide +kernel) (by decide +kernel), inTB 31 (by decide +kernel) (by decide +kernel), by decide +kernel, gmX8_sorts⟩
theorem lkX8_212 : LkV RX8 212 mX8_couldBe 1 := ⟨inTB 1014 (by decide +kernel) (by decide +kernel), inTB 1016 (by decide +kernel) (by decide +kernel), inTB 32 (by decide +kernel) (by decide +kernel), by decide +kernel, gmX8_couldBe⟩
theorem lkX8_206 : LkV RX8 206 mX8_sortTone 1 := ⟨inTB 1018 (by decide +kernel) (by decide +kernel), inTB 1020 (by decide +kernel) (by decide +kernel), inTB 33 (by decide +kernel) (by decide +kernel), by decide +kernel, gmX8_sortTone⟩
theorem lkL_92 : LkV RL 92 mX8_sure 1 := ⟨inTB 1022 (by decide +kernel) (by decide +kernel), inTB 1023 (by decide +kernel) (by decide +kernel), inTB 1024 (by decide +kernel) (by decide +kernel), by decide +kernel, gmX8_sure⟩
theorem lkX8_218 : LkV RX8 218 mX8_sureNow 1 := ⟨inTB 1026 (by decide +kernel) (by decide +kernel), inTB 1028 (by decide +kernel) (by decide +kernel), inTB 34 (by decide +kernel) (by decide +kernel), by decide +kernel, gmX8_sureNow⟩
theorem lkL_96 : LkV RL 96 mX8_years 3 := ⟨inTB 1030 (by decide +kernel) (by decide +kernel), inTB 1031 (by decide +kernel) (by decide +kernel), inTB 1032 (by decide +kernel) (by decide +kernel), by decide +kernel, gmX8_years⟩
theorem lkX8_239 : LkV RX8 239 mX8_yearsNow 3 := ⟨inTB 1034 (by decide +kernel) (by decide +kernel), inTB 1036 (by decide +kernel) (by decide +kernel), inTB 35 (by decide +kernel) (by decide +kernel), by decide +kernel, gmX8_yearsNow⟩
theorem lkX8_236 : LkV RX8 236 mX8_goYear 0 := ⟨inTB 1038 (by decide +kernel) (by decide +kernel), inTB 1040 (by decide +kernel) (by decide +kernel), inTB 36 (by decide +kernel) (by decide +kernel), by decide +kernel, gmX8_goYear⟩
theorem lkX8_233 : LkV RX8 233 mX8_draw 1 := ⟨inTB 1042 (by decide +kernel) (by decide +kernel), inTB 1044 (by decide +kernel) (by decide +kernel), inTB 37 (by decide +kernel) (by decide +kernel), by decide +kernel, gmX8_draw⟩
theorem lcX8_221 : Cond.constantLong RX8 221 1103515245 ∈ TB := inTB 1046 (by decide +kernel) (by decide +kernel)
theorem lcX8_227 : Cond.constantLong RX8 227 12345 ∈ TB := inTB 1047 (by decide +kernel) (by decide +kernel)
theorem lcX8_229 : Cond.constantLong RX8 229 2147483647 ∈ TB := inTB 1048 (by decide +kernel) (by decide +kernel)
theorem lcX8_231 : Cond.constantLong RX8 231 65536 ∈ TB := inTB 1049 (by decide +kernel) (by decide +kernel)
theorem lkL_100 : LkV RL 100 mX8_image 0 := ⟨inTB 1050 (by decide +kernel) (by decide +kernel), inTB 1051 (by decide +kernel) (by decide +kernel), inTB 1052 (by decide +kernel) (by decide +kernel), by decide +kernel, gmX8_image⟩
theorem lkL_104 : LkV RL 104 mX8_restore 0 := ⟨inTB 1054 (by decide +kernel) (by decide +kernel), inTB 1055 (by decide +kernel) (by decide +kernel), inTB 1056 (by decide +kernel) (by decide +kernel), by decide +kernel, gmX8_restore⟩
theorem lkL_108 : LkV RL 108 mX8_count 1 := ⟨inTB 1058 (by decide +kernel) (by decide +kernel), inTB 1059 (by decide +kernel) (by decide +kernel), inTB 1060 (by decide +kernel) (by decide +kernel), by decide +kernel, gmX8_count⟩
theorem lkX8_257 : LkV RX8 257 mX8_howMany 1 := ⟨inTB 1062 (by decide +kernel) (by decide +kernel), inTB 1064 (by decide +kernel) (by decide +kernel), inTB 38 (by decide +kernel) (by decide +kernel), by decide +kernel, gmX8_howMany⟩
theorem lkX8_251 : LkV RX8 251 mX8_sum 1 := ⟨inTB 1066 (by decide +kernel) (by decide +kernel), inTB 1068 (by decide +kernel) (by decide +kernel), inTB 39 (by decide +kernel) (by decide +kernel), by decide +kernel, gmX8_sum⟩
theorem lkX8_254 : LkV RX8 254 mX8_foundMany 0 := ⟨inTB 1070 (by decide +kernel) (by decide +kernel), inTB 1072 (by decide +kernel) (by decide +kernel), inTB 40 (by decide +kernel) (by decide +kernel), by decide +kernel, gmX8_foundMany⟩
theorem lkL_113 : LkV RL 113 mX8_digest 0 := ⟨inTB 1074 (by decide +kernel) (by decide +kernel), inTB 1075 (by decide +kernel) (by decide +kernel), inTB 1076 (by decide +kernel) (by decide +kernel), by decide +kernel, gmX8_digest⟩
theorem lcX8_265 : Cond.constantLong RX8 265 829 ∈ TB := inTB 1078 (by decide +kernel) (by decide +kernel)
theorem lkX8_267 : LkV RX8 267 mX8_mix 1 := ⟨inTB 1079 (by decide +kernel) (by decide +kernel), inTB 1081 (by decide +kernel) (by decide +kernel), inTB 41 (by decide +kernel) (by decide +kernel), by decide +kernel, gmX8_mix⟩
theorem lcX8_260 : Cond.constantLong RX8 260 31 ∈ TB := inTB 1083 (by decide +kernel) (by decide +kernel)
theorem lkJ1_92 : Cond.methodLink RJ1 92 yJ9_max_7cf53 ∈ TB := inTB 337 (by decide +kernel) (by decide +kernel)
theorem lkJ1_38 : Cond.methodLink RJ1 38 yJ9_min_7cf53 ∈ TB := inTB 340 (by decide +kernel) (by decide +kernel)
theorem lkJ2_224 : Cond.methodLink RJ2 224 yJ9_max_7cf53 ∈ TB := inTB 349 (by decide +kernel) (by decide +kernel)
theorem lkJ2_183 : Cond.methodLink RJ2 183 yJ9_min_7cf53 ∈ TB := inTB 350 (by decide +kernel) (by decide +kernel)
theorem lkX6_31 : Cond.methodLink RX6 31 yJ9_min_7cf53 ∈ TB := inTB 409 (by decide +kernel) (by decide +kernel)
theorem lkX6_111 : Cond.methodLink RX6 111 yJ9_abs_0f7a4 ∈ TB := inTB 459 (by decide +kernel) (by decide +kernel)
theorem lkX2_21 : Cond.methodLink RX2 21 yJ9_max_7cf53 ∈ TB := inTB 520 (by decide +kernel) (by decide +kernel)
theorem lkX7_222 : Cond.methodLink RX7 222 yJ9_max_7cf53 ∈ TB := inTB 555 (by decide +kernel) (by decide +kernel)
theorem lkX7_227 : Cond.methodLink RX7 227 yJ9_min_7cf53 ∈ TB := inTB 556 (by decide +kernel) (by decide +kernel)
theorem lkX5_92 : Cond.methodLink RX5 92 arraycopyName ∈ TB := inTB 573 (by decide +kernel) (by decide +kernel)
theorem lkX6_143 : Cond.methodLink RX6 143 yJ9_max_7cf53 ∈ TB := inTB 594 (by decide +kernel) (by decide +kernel)
theorem tw_max_s : Cond.static Lib.Math.max.name ∈ TB := inTB 338 (by decide +kernel) (by decide +kernel)
theorem tw_max_c : Cond.code Lib.Math.max.name Lib.Math.max.code 2 (some .int) ∈ TB := inTB 339 (by decide +kernel) (by decide +kernel)
theorem tw_min_s : Cond.static Lib.Math.min.name ∈ TB := inTB 341 (by decide +kernel) (by decide +kernel)
theorem tw_min_c : Cond.code Lib.Math.min.name Lib.Math.min.code 2 (some .int) ∈ TB := inTB 342 (by decide +kernel) (by decide +kernel)
theorem tw_abs_s : Cond.static Lib.Math.abs.name ∈ TB := inTB 460 (by decide +kernel) (by decide +kernel)
theorem tw_abs_c : Cond.code Lib.Math.abs.name Lib.Math.abs.code 1 (some .int) ∈ TB := inTB 461 (by decide +kernel) (by decide +kernel)
theorem tw_math : Cond.initialized "java/lang/Math" ∈ TB := inTB 54 (by decide +kernel) (by decide +kernel)
theorem tw_ac_s : Cond.static arraycopyName ∈ TB := inTB 574 (by decide +kernel) (by decide +kernel)
theorem tw_ac_n : Cond.native arraycopyName ∈ TB := inTB 575 (by decide +kernel) (by decide +kernel)
theorem tw_ac_i : Cond.initialized "java/lang/System" ∈ TB := inTB 58 (by decide +kernel) (by decide +kernel)
end
section
/-! ===== my machine: numbers as Int, one fixed world of 72 cells ===== -/
abbrev mv : Type := Int ⊕ (Int64 ⊕ Nat)
abbrev vI (z : Int) : mv := .inl z
abbrev vL (x : Int64) : mv := .inr (.inl x)
abbrev vR (k : Nat) : mv := .inr (.inr k)
def zi (z : Int) : Int32 := Int32.ofInt z
abbrev bd (z : Int) : Prop := -2147483648 ≤ z ∧ z < 2147483648
theorem zi_toInt {z : Int} (h : bd z) : (zi z).toInt = z := Int32.toInt_ofInt_of_le h.1 (by omega)
theorem zi_of (x : Int32) : zi x.toInt = x := Int32.ofInt_toInt x
theorem zi_add (a b : Int) : zi a + zi b = zi (a + b) := (Int32.ofInt_add a b).symm
theorem zi_sub (a b : Int) : zi a - zi b = zi (a - b) := (Int32.ofInt_sub a b).symm
theorem zi_mul (a b : Int) : zi a * zi b = zi (a * b) := (Int32.ofInt_mul a b).symm
theorem zi_neg (a : Int) : -zi a = zi (-a) := (Int32.ofInt_neg a).symm
theorem zi_lt {a b : Int} (ha : bd a) (hb : bd b) : zi a < zi b ↔ a < b := by rw [Int32.lt_iff_toInt_lt, zi_toInt ha, zi_toInt hb]
theorem zi_le {a b : Int} (ha : bd a) (hb : bd b) : zi a ≤ zi b ↔ a ≤ b := by rw [Int32.le_iff_toInt_le, zi_toInt ha, zi_toInt hb]
theorem zi_eq {a b : Int} (ha : bd a) (hb : bd b) : zi a = zi b ↔ a = b := ⟨fun h => by rw [← zi_toInt ha, ← zi_toInt hb, h], fun h => by rw [h]⟩
theorem zi_0 : zi 0 = 0 := rfl
theorem zi_nat (n : Nat) : zi (n : Int) = Int32.ofNat n := by
  apply Int32.toInt_inj.mp
  simp [zi, Int32.toInt_ofInt, Int32.toInt_ofNat]
theorem zi_clamp {z : Int} (h0 : 0 ≤ z) (h1 : z < 2147483648) : (zi z).toNatClampNeg = z.toNat := by
  rw [Int32.toNatClampNeg, zi_toInt ⟨by omega, h1⟩]
theorem zi_in {z : Int} {n : Nat} (h0 : 0 ≤ z) (h1 : z < n) (hn : n ≤ 2147483647) : vp_in (zi z) n := by
  have hb : bd z := ⟨by omega, by omega⟩
  rw [vp_in_iff, zi_toInt hb]
  exact ⟨h0, h1⟩
theorem zi_div {a b : Int} (ha : 0 ≤ a) (ha2 : a < 2147483648) (hb : 0 < b) (hb2 : b < 2147483648) : zi a / zi b = zi (a / b) := by
  have h1 : bd a := ⟨by omega, ha2⟩
  have h2 : bd b := ⟨by omega, hb2⟩
  have hq : 0 ≤ a / b := Int.ediv_nonneg ha (by omega)
  have hq2 : a / b ≤ a := Int.ediv_le_self _ ha
  have h3 : bd (a / b) := ⟨by omega, by omega⟩
  apply Int32.toInt_inj.mp
  rw [Int32.toInt_div_of_ne_right _ _ (by
    intro hh
    have h4 : (zi b).toInt = (-1 : Int32).toInt := by rw [hh]
    rw [zi_toInt h2] at h4
    have h5 : (-1 : Int32).toInt = -1 := by decide
    omega), zi_toInt h1, zi_toInt h2, zi_toInt h3, Int.tdiv_eq_ediv_of_nonneg ha]
theorem zi_rem {a b : Int} (ha : 0 ≤ a) (ha2 : a < 2147483648) (hb : 0 < b) (hb2 : b < 2147483648) : zi a - zi a / zi b * zi b = zi (a % b) := by
  rw [zi_div ha ha2 hb hb2, zi_mul, zi_sub, Int.emod_def, Int.mul_comm]
theorem zi_b {a : Int} (h : -128 ≤ a ∧ a < 128) : (zi a).toInt8.toInt32 = zi a := by
  apply Int32.toInt_inj.mp
  rw [Int8.toInt_toInt32, Int32.toInt_toInt8, zi_toInt ⟨by omega, by omega⟩, Int.bmod_eq_of_le (by omega) (by omega)]
theorem zi_c {a : Int} (h : 0 ≤ a ∧ a < 65536) : ((zi a).toUInt32 % 65536).toInt32 = zi a := by
  obtain ⟨n, rfl⟩ := Int.eq_ofNat_of_zero_le h.1
  have hn : n < 65536 := by omega
  rw [zi_nat]
  exact (pk_char (nI n)).trans (by rw [pk_tn (by omega), Nat.mod_eq_of_lt hn]; rfl)
abbrev Mm : Type := (Nat → Nat → Int) × (Nat → Nat → Int64)
def wr (g : Mm) (k j : Nat) (v : Int) : Mm := (fun a b => if a = k ∧ b = j then v else g.1 a b, g.2)
def wl (g : Mm) (k j : Nat) (v : Int64) : Mm := (g.1, fun a b => if a = k ∧ b = j then v else g.2 a b)
theorem wr_1 (g : Mm) (k j : Nat) (v : Int) (a b : Nat) : (wr g k j v).1 a b = if a = k ∧ b = j then v else g.1 a b := rfl
theorem wr_2 (g : Mm) (k j : Nat) (v : Int) : (wr g k j v).2 = g.2 := rfl
theorem wl_1 (g : Mm) (k j : Nat) (v : Int64) : (wl g k j v).1 = g.1 := rfl
theorem wl_2 (g : Mm) (k j : Nat) (v : Int64) (a b : Nat) : (wl g k j v).2 a b = if a = k ∧ b = j then v else g.2 a b := rfl
/-- the surroundings: the launch, the classes' numbers and slots, the cells' addresses, the array classes -/
abbrev En : Type := Launch × va_G × (Nat → Nat) × (Nat → ClassId)
abbrev eL (E : En) : Launch := E.1
abbrev eD (E : En) : va_G := E.2.1
abbrev ea (E : En) : Nat → Nat := E.2.2.1
abbrev ey (E : En) : Nat → ClassId := E.2.2.2
def tv (E : En) (v : mv) : Value := match v with | .inl z => .int (zi z) | .inr (.inl x) => .long x | .inr (.inr k) => .ref (ea E k)
def fv (E : En) (g : Mm) (k j : Nat) : Value := if fk (sk k) j = 1 then .long (g.2 k j) else if fk (sk k) j = 2 then .ref (ea E (rf k j)) else .int (zi (g.1 k j))
def ent (E : En) (g : Mm) (k : Nat) : va_E := if sk k < 9 then .inr (sk k, (List.range (nf (sk k))).map (fv E g k)) else if sk k < 12 then .inl (ey E (sk k), ln k, .inl (fun j => zi (g.1 k j))) else .inl (ey E (sk k), ln k, .inr (.inr (.inr (.inr (fun j => some (ea E (ra k + j)))))))
def wsO (E : En) (g : Mm) : va_W := (List.range 72).map (fun k => (ea E k, ent E g k))
def wA (E : En) (q : Nat) : Prop := ∃ k, k < 72 ∧ q = ea E k
def einj (E : En) : Prop := ∀ i j, i < 72 → j < 72 → ea E i = ea E j → i = j
theorem wsO_get (E : En) (g : Mm) {k : Nat} (h : k < 72) : (wsO E g)[k]? = some (ea E k, ent E g k) := by
  simp [wsO, List.getElem?_map, List.getElem?_range h]
theorem wsO_of (E : En) (g : Mm) {k : Nat} {q : Nat × va_E} (h : (wsO E g)[k]? = some q) : k < 72 ∧ q = (ea E k, ent E g k) := by
  have hl : k < 72 := by
    have := (List.getElem?_eq_some_iff.mp h).1
    simpa [wsO] using this
  rw [wsO_get E g hl] at h
  exact ⟨hl, (Option.some.inj h).symm⟩
theorem wsO_D {E : En} (hi : einj E) (g : Mm) {A : Nat → Prop} (hA : ∀ q, wA E q → A q) : va_D A (wsO E g) := by
  refine ⟨fun i j p q h1 h2 h3 => ?_, fun k q h => ?_⟩
  · obtain ⟨a1, rfl⟩ := wsO_of E g h1
    obtain ⟨a2, rfl⟩ := wsO_of E g h2
    exact hi i j a1 a2 h3
  · obtain ⟨a1, rfl⟩ := wsO_of E g h
    exact hA _ ⟨k, a1, rfl⟩
theorem wsO_set {E : En} {g g' : Mm} {k : Nat} {x : va_E} (hk : k < 72) (hx : ent E g' k = x) (ho : ∀ a, a ≠ k → ent E g' a = ent E g a) : (wsO E g).set k (ea E k, x) = wsO E g' := by
  apply List.ext_getElem?
  intro i
  by_cases hi : i < 72
  · by_cases e : i = k
    · subst e
      rw [wsO_get E g' hi, List.getElem?_set_self (by simpa [wsO] using hi), hx]
    · rw [List.getElem?_set_ne (fun q => e q.symm), wsO_get E g hi, wsO_get E g' hi, ho i e]
  · rw [List.getElem?_eq_none (by simp [wsO]; omega), List.getElem?_eq_none (by simp [wsO]; omega)]
theorem ent_ne {E : En} {g g' : Mm} {a : Nat} (h1 : g'.1 a = g.1 a) (h2 : g'.2 a = g.2 a) : ent E g' a = ent E g a := by
  unfold ent
  have h3 : fv E g' a = fv E g a := by funext j; simp [fv, h1, h2]
  rw [h1, h3]
theorem ent_obj {E : En} {g : Mm} {k ci : Nat} (h : sk k = ci) (hc : ci < 9) : ent E g k = .inr (ci, (List.range (nf ci)).map (fv E g k)) := by
  subst h; simp [ent, hc]
theorem ent_ints {E : En} {g : Mm} {k t : Nat} (h : sk k = t) (h1 : ¬ t < 9) (h2 : t < 12) : ent E g k = .inl (ey E t, ln k, .inl (fun j => zi (g.1 k j))) := by
  subst h; simp [ent, h1, h2]
theorem ent_refs {E : En} {g : Mm} {k t : Nat} (h : sk k = t) (h2 : ¬ t < 12) : ent E g k = .inl (ey E t, ln k, .inr (.inr (.inr (.inr (fun j => some (ea E (ra k + j))))))) := by
  subst h
  have h1 : ¬ sk k < 9 := by omega
  simp [ent, h1, h2]
theorem sk_lt {k t : Nat} (h : sk k = t) (ht : t < 99) : k < 72 := by
  apply Classical.byContradiction
  intro hk
  have : sk k = 99 := by
    unfold sk
    rw [List.getD_eq_getElem?_getD, List.getElem?_eq_none (by show 72 ≤ k; omega)]
    rfl
  omega
abbrev tyL (E : En) : List (ClassId × FieldType) := [(ey E 10, .int), (ey E 11, .byte), (ey E 12, .object RX2), (ey E 13, .object RX4), (ey E 14, .array .int)]
def lgt (j : Nat) : Int := [2, 4, 3, 1, 0].getD j 0
def pbs (j : Nat) : Int := [112, 98, 115, 99, 104].getD j 0
/-- what a state gives: classes, the constant cells 900 (LIGHTS), 901 (the kinds' letters), 902 (its bytes), nest words -/
def cs (E : En) (A : Nat → Prop) (U : State) : Prop :=
  va_K (eD E) vwCl (tyL E) U ∧ einj E ∧ va_Z "DyeLots" "LIGHTS" "[I" (.ref (ea E 900)) A U U.heap ∧ va_T .int (ea E 900) 5 (fun j => .int (zi (lgt j))) A U U.heap ∧
  va_Z "java/lang/String" "COMPACT_STRINGS" "Z" (.int 1) A U U.heap ∧ vk_S 1 [5] [[112, 98, 115, 99, 104]] (fun _ => ea E 901) (fun _ => ea E 902) A U U.heap ∧
  vk_R "DyeLots$Page" 23 "pbsch" (ea E 901) U ∧ vk_R "DyeLots$Work" 43 "pbsch" (ea E 901) U ∧ ∀ w ∈ nestW, va_Nw w U
theorem nest_warm {w : Cond} (hw : w ∈ nestW) {s U : State} (hW : s.WarmedH U.vm) (h : va_Nw w s) : va_Nw w U := by
  have hg := (List.mem_filter.mp hw).2
  cases w <;> first | exact va_Nw.warmF hW h | exact va_Nw.warmM hW h | (simp [isNest] at hg)
theorem cs.go {E : En} {A B : Nat → Prop} {s U : State} (h : cs E A s) (hW : s.WarmedH U.vm) (hq : ∀ a : Nat, a < s.heap.size → ¬ A a → U.heap[a]? = s.heap[a]?) (hAB : ∀ q, B q → A q) : cs E B U := by
  obtain ⟨h1, h2, h3, h4, h5, h6, h7, h8, h9⟩ := h
  exact ⟨va_K.moved hW.alike h1, h2, ((h3.kept hq).moved hW.alike).narrow hAB, ((h4.kept hq).moved hW.alike).narrow hAB, ((h5.kept hq).moved hW.alike).narrow hAB, ((h6.kept hq).moved hW.alike).narrow hAB, h7.warm hW, h8.warm hW, fun w hw => nest_warm hw hW (h9 w hw)⟩
theorem cs.blind {E : En} {A : Nat → Prop} {s U : State} (h : cs E A s) (hv : U.vm = s.vm) (hh : U.heap = s.heap) : cs E A U := by
  obtain ⟨h1, h2, h3, h4, h5, h6, h7, h8, h9⟩ := h
  have al : s.vm.Alike U.vm := by rw [hv]; exact Vm.Alike.refl _
  refine ⟨va_K.moved al h1, h2, ?_, ?_, ?_, ?_, h7.same hv, h8.same hv, fun w hw => ?_⟩
  · rw [hh]; exact h3.moved al
  · rw [hh]; exact h4.moved al
  · rw [hh]; exact h5.moved al
  · rw [hh]; exact h6.moved al
  · have hg := (List.mem_filter.mp hw).2
    have h10 := h9 w hw
    cases w <;> first | exact va_Nw.same rfl hv.symm h10 | (simp [isNest] at hg)
abbrev Cx : Type := Program × Env × Room × State × MethodId × Array Value × List Frame × Method × Code × Nat × Nat × (State → Prop) × (Nat → Prop)
/-- the listed locals, by their places -/
def asc (E : En) : Nat → List (Option mv) → List (Nat × Value)
  | _, [] => []
  | i, none :: l => asc E (i + 1) l
  | i, some v :: l => (i, tv E v) :: asc E (i + 1) l
theorem asc_mem (E : En) : ∀ (ls : List (Option mv)) (i n : Nat) (v : mv), ls[n]? = some (some v) → (i + n, tv E v) ∈ asc E i ls
  | [], i, n, v, h => by simp at h
  | x :: l, i, 0, v, h => by
    simp at h
    subst h
    simp [asc]
  | x :: l, i, n + 1, v, h => by
    have h1 := asc_mem E l (i + 1) n v (by simpa using h)
    have e : i + (n + 1) = i + 1 + n := by omega
    rw [e]
    cases x with
    | none => exact h1
    | some w => exact List.mem_cons_of_mem _ h1
theorem asc_of (E : En) : ∀ (ls : List (Option mv)) (i : Nat) (q : Nat × Value), q ∈ asc E i ls → ∃ n v, ls[n]? = some (some v) ∧ q = (i + n, tv E v)
  | [], i, q, h => by simp [asc] at h
  | x :: l, i, q, h => by
    cases x with
    | none =>
      obtain ⟨n, v, h1, h2⟩ := asc_of E l (i + 1) q h
      exact ⟨n + 1, v, by simpa using h1, by rw [h2]; congr 1; omega⟩
    | some w =>
      rcases List.mem_cons.mp h with h | h
      · exact ⟨0, w, by simp, h⟩
      · obtain ⟨n, v, h1, h2⟩ := asc_of E l (i + 1) q h
        exact ⟨n + 1, v, by simpa using h1, by rw [h2]; congr 1; omega⟩
theorem lv_less {rl : Array Slot} {n : Nat} {l l' : List (Nat × Value)} (h : lv_has rl n l) (hl : ∀ q ∈ l', q ∈ l) : lv_has rl n l' := ⟨h.1, h.2.1, fun q hq => h.2.2 q (hl q hq)⟩
/-- V: from pc, with these locals, stack and memory, the machine comes to X's end -/
def V (E : En) (X : Cx) (pc : Nat) (ls : List (Option mv)) (st : List mv) (g : Mm) : Prop := match X with
  | (p, e, R, s, m, args, below, meth, c, cells, slots, Q, A0) => ∀ (H : Heap) (locs : List Loc) (rl : Array Slot), va_P (eD E) vwCl (wsO E g) H → va_S A0 s.heap H locs → lv_has rl c.maxLocals (asc E 0 ls) → W p (eL E) e R s m args below meth c H locs cells slots Q (F0 m pc rl (st.map (tv E)))
def Xk (E : En) (M : Mt) (X : Cx) : Prop := match X with
  | (p, _, R, s, m, args, _, _, c, cells, slots, _, A0) => p.tables.exec = Jvm.exec ∧ c.code = M.2.1 ∧ c.maxLocals = M.2.2.1 ∧ s.vm.findClass M.1.cls = some m.cls ∧ (∀ w ∈ TB, w.before args s = true) ∧ cs E A0 s ∧ (∀ q, wA E q → A0 q) ∧ 1 ≤ R.frames ∧ 60 ≤ R.locals ∧ cells ≤ R.cells ∧ slots ≤ R.slots
def rm (d : Nat) : Room := { frames := d, cells := 0, slots := 0, locals := 64 * d }
def Pq (E : En) (as : List mv) (g : Mm) : Array Value → State → Prop := fun a U => a = (as.map (tv E)).toArray ∧ va_P (eD E) vwCl (wsO E g) U.heap ∧ cs E (wA E) U
def Qq (E : En) (post : Option mv → Mm → Prop) : Array Value → State → Outcome → State → Prop := fun _ st o t => (∃ (r : Option mv) (g : Mm), o = .returned (r.map (tv E)) ∧ post r g ∧ va_P (eD E) vwCl (wsO E g) t.heap) ∧ va_F (wA E) st t
def Ok (E : En) (d : Nat) (M : Mt) (as : List mv) (g : Mm) (post : Option mv → Mm → Prop) : Prop := Met (eL E) M.1 (mcode M :: TB) (rm d) (Pq E as g) (Qq E post) 0 0 (wA E)
/-- the end of a method's own frame -/
abbrev mQ (E : En) (X : Cx) (post : Option mv → Mm → Prop) : Prop := match X with
  | (_, _, _, s, _, args, below, meth, _, cells, slots, Q, A0) => Q = MQ below (Qq E post) args s cells slots (wA E) ∧ meth.locks = false ∧ A0 = wA E
abbrev mRt (M : Mt) (X : Cx) : Prop := match X with | (_, _, _, _, _, _, _, meth, _, _, _, _, _) => meth.sig.returnType = M.2.2.2
/-- a method's walk: its surroundings and its end -/
def Wk (E : En) (M : Mt) (X : Cx) (d : Nat) (post : Option mv → Mm → Prop) : Prop := Xk E M X ∧ mQ E X post ∧ mRt M X ∧ X.2.2.1 = rm d
/-- locals at entry: arguments, a long takes two places -/
def lin : List mv → List (Option mv)
  | [] => []
  | .inr (.inl x) :: l => some (vL x) :: none :: lin l
  | v :: l => some v :: lin l
theorem asc_lin (E : En) : ∀ (as : List mv) (i : Nat), asc E i (lin as) = lv_args i (as.map (tv E))
  | [], i => rfl
  | .inl z :: l, i => by simp [lin, asc, lv_args, tv, Value.category, asc_lin E l (i + 1)]
  | .inr (.inl x) :: l, i => by simp [lin, asc, lv_args, tv, Value.category, asc_lin E l (i + 2)]
  | .inr (.inr k) :: l, i => by simp [lin, asc, lv_args, tv, Value.category, asc_lin E l (i + 1)]
theorem asc_rep (E : En) : ∀ (n i : Nat) (l : List (Option mv)), asc E i (l ++ List.replicate n none) = asc E i l
  | n, i, [] => by
    induction n generalizing i with
    | zero => rfl
    | succ n ih => simpa [List.replicate_succ, asc] using ih (i + 1)
  | n, i, none :: l => by simpa [asc] using asc_rep E n (i + 1) l
  | n, i, some v :: l => by simpa [asc] using asc_rep E n (i + 1) l
theorem lin_len (E : En) : ∀ as : List mv, (lg_sl (as.map (tv E))).length = (lin as).length
  | [] => rfl
  | .inl z :: l => by simpa [lin, lg_sl, tv, Value.category] using lin_len E l
  | .inr (.inl x) :: l => by simpa [lin, lg_sl, tv, Value.category] using lin_len E l
  | .inr (.inr k) :: l => by simpa [lin, lg_sl, tv, Value.category] using lin_len E l
theorem Ok_of {E : En} {d : Nat} {M : Mt} {as : List mv} {g : Mm} {post : Option mv → Mm → Prop} (hM : MG M) (hd : 1 ≤ d) (hl : (lin as).length ≤ M.2.2.1)
    (h : ∀ X : Cx, Wk E M X d post → V E X 0 (lin as ++ List.replicate (M.2.2.1 - (lin as).length) none) [] g) : Ok E d M as g post := by
  obtain ⟨hpl, hc, hini, hne, -⟩ := hM
  refine Met.ofW (cc := M.2.1) (maxL := M.2.2.1) (ret := M.2.2.2) hpl rfl ?_
  intro p e s m args below meth c s₁ B hml hv
  obtain ⟨rfl, hP, hcs⟩ := hv
  have hts := atoms_spec (ws := mcode M :: TB) B.pre
  have hown : s.vm.findClass M.1.cls = some m.cls := findClass_of_methodNamed B.named
  have hlocks := B.notSynchronized
  have hx := h (p, e, rm d, s, m, (as.map (tv E)).toArray, below, meth, c, 0, 0, MQ below (Qq E post) (as.map (tv E)).toArray s 0 0 (wA E), wA E)
    ⟨⟨B.exec, B.bytes, hml, hown, fun w hw => hts w (List.mem_cons_of_mem _ hw), hcs, fun _ q => q, hd, by show 60 ≤ 64 * d; omega, Nat.le_refl _, Nat.le_refl _⟩, ⟨rfl, hlocks, rfl⟩, B.returns, rfl⟩
  have he := lv_entry (as.map (tv E)) (n := M.2.2.1) (by rw [lin_len]; exact hl)
  rw [lg_entry_eq]
  refine hx s.heap [] _ hP va_S.rf ?_
  rw [asc_rep, asc_lin, hml]
  exact he
section KR
variable {E : En} {M : Mt} {X : Cx} {pc : Nat} {ls : List (Option mv)} {st : List mv} {g : Mm}
/-- fewer locals -/
def lsub : List (Option mv) → List (Option mv) → Prop
  | [], _ => True
  | none :: a, [] => lsub a []
  | none :: a, _ :: b => lsub a b
  | some _ :: _, [] => False
  | some x :: a, y :: b => y = some x ∧ lsub a b
theorem lsub_at : ∀ (a b : List (Option mv)) (n : Nat) (v : mv), lsub a b → a[n]? = some (some v) → b[n]? = some (some v)
  | [], b, n, v, h, ha => by simp at ha
  | none :: a, [], n, v, h, ha => by
    cases n with
    | zero => simp at ha
    | succ n => have := lsub_at a [] n v h (by simpa using ha); simp at this
  | none :: a, y :: b, n, v, h, ha => by
    cases n with
    | zero => simp at ha
    | succ n => simpa using lsub_at a b n v h (by simpa using ha)
  | some x :: a, [], n, v, h, ha => h.elim
  | some x :: a, y :: b, n, v, h, ha => by
    cases n with
    | zero => simp at ha; simp [h.1, ha]
    | succ n => simpa using lsub_at a b n v h.2 (by simpa using ha)
theorem k_sub {ls' : List (Option mv)} (h : lsub ls' ls) (k : V E X pc ls' st g) : V E X pc ls st g := by
  obtain ⟨p, e, R, s, m, args, below, meth, c, cells, slots, Q, A0⟩ := X
  intro H locs rl hP hS hl
  refine k H locs rl hP hS (lv_less hl fun q hq => ?_)
  obtain ⟨n, v, h1, rfl⟩ := asc_of E ls' 0 q hq
  exact asc_mem E ls 0 n v (lsub_at ls' ls n v h h1)
theorem k_mem {g' : Mm} (h : g = g') (k : V E X pc ls st g') : V E X pc ls st g := h ▸ k
theorem k_top {a b : Int} (h : a = b) (k : V E X pc ls (vI b :: st) g) : V E X pc ls (vI a :: st) g := h ▸ k
def okst (ls : List (Option mv)) (n : Nat) : Bool := match n with
  | 0 => true
  | n + 1 => match ls[n]? with | some (some (.inr (.inl _))) => false | _ => true
theorem tv_cat (v : mv) : (tv E v).category = 2 → ∃ x, v = vL x := by
  rcases v with z | x | k
  · intro h; simp [tv, Value.category] at h
  · intro _; exact ⟨x, rfl⟩
  · intro h; simp [tv, Value.category] at h
theorem okst_no {n k : Nat} {v : mv} (h : okst ls n = true) (hk : ls[k]? = some (some v)) (hn : k + 1 = n) : ¬ (tv E v).category = 2 := by
  subst hn
  intro hc
  obtain ⟨x, rfl⟩ := tv_cat v hc
  simp [okst, hk] at h
theorem lv_put1 {rl : Array Slot} {N n : Nat} {v : mv} {ls' : List (Option mv)} (h : lv_has rl N (asc E 0 ls)) (ho : okst ls n = true) (hs : ls.set n (some v) = ls') : ∀ rl', lv_has rl' N ((n, tv E v) :: (asc E 0 ls).filter (fun q => !(q.1 == n) && !(q.1 + 1 == n && q.2.category == 2))) → lv_has rl' N (asc E 0 ls') := by
  intro rl' h'
  refine lv_less h' fun q hq => ?_
  obtain ⟨k, w, h1, rfl⟩ := asc_of E ls' 0 q hq
  subst hs
  rw [Nat.zero_add]
  by_cases e : k = n
  · subst e
    have hlt : k < ls.length := by
      have := (List.getElem?_eq_some_iff.mp h1).1
      simpa using this
    rw [List.getElem?_set_self hlt] at h1
    cases h1
    exact List.mem_cons_self
  · rw [List.getElem?_set_ne (fun q => e q.symm)] at h1
    refine List.mem_cons_of_mem _ (List.mem_filter.mpr ⟨?_, ?_⟩)
    · have := asc_mem E ls 0 k w h1
      rwa [Nat.zero_add] at this
    · have h2 : (k == n) = false := by simpa using e
      rw [Bool.and_eq_true]
      refine ⟨by simp [h2], ?_⟩
      by_cases e2 : k + 1 = n
      · have := okst_no (E := E) ho h1 e2
        have h3 : ((tv E w).category == 2) = false := by simpa using this
        simp [h3]
      · have h4 : (k + 1 == n) = false := by simpa using e2
        simp [h4]
theorem lv_put2 {rl : Array Slot} {N n : Nat} {x : Int64} {ls' : List (Option mv)} (h : lv_has rl N (asc E 0 ls)) (ho : okst ls n = true) (hs : (ls.set n (some (vL x))).set (n + 1) none = ls') : ∀ rl', lv_has rl' N ((n, .long x) :: (asc E 0 ls).filter (fun q => !(q.1 == n) && (!(q.1 == n + 1) && !(q.1 + 1 == n && q.2.category == 2)))) → lv_has rl' N (asc E 0 ls') := by
  intro rl' h'
  refine lv_less h' fun q hq => ?_
  obtain ⟨k, w, h1, rfl⟩ := asc_of E ls' 0 q hq
  subst hs
  rw [Nat.zero_add]
  by_cases e1 : k = n + 1
  · subst e1
    have hlt := (List.getElem?_eq_some_iff.mp h1).1
    rw [List.getElem?_set_self (by simpa using hlt)] at h1
    cases h1
  · rw [List.getElem?_set_ne (fun q => e1 q.symm)] at h1
    by_cases e : k = n
    · subst e
      have hlt : k < ls.length := by
        have := (List.getElem?_eq_some_iff.mp h1).1
        simpa using this
      rw [List.getElem?_set_self hlt] at h1
      cases h1
      exact List.mem_cons_self
    · rw [List.getElem?_set_ne (fun q => e q.symm)] at h1
      refine List.mem_cons_of_mem _ (List.mem_filter.mpr ⟨?_, ?_⟩)
      · have := asc_mem E ls 0 k w h1
        rwa [Nat.zero_add] at this
      · have h2 : (k == n) = false := by simpa using e
        have h5 : (k == n + 1) = false := by simpa using e1
        rw [Bool.and_eq_true]
        refine ⟨by simp [h2], ?_⟩
        rw [Bool.and_eq_true]
        refine ⟨by simp [h5], ?_⟩
        by_cases e2 : k + 1 = n
        · have := okst_no (E := E) ho h1 e2
          have h3 : ((tv E w).category == 2) = false := by simpa using this
          simp [h3]
        · have h4 : (k + 1 == n) = false := by simpa using e2
          simp [h4]
theorem lv_rd {rl : Array Slot} {N n : Nat} {v : mv} (h : lv_has rl N (asc E 0 ls)) (hn : ls[n]? = some (some v)) : rl[n]? = some (.val (tv E v)) := by
  have := h.2.2 _ (asc_mem E ls 0 n v hn)
  simpa using this
theorem k_iconst (hX : Xk E M X) {n : Int} (hd : decode M.2.1 pc = .ok (.iconst n, 1)) (k : V E X (pc + 1) ls (vI n :: st) g) : V E X pc ls st g := by
  obtain ⟨p, e, R, s, m, args, below, meth, c, cells, slots, Q, A0⟩ := X
  obtain ⟨hx, hb, hml, hown, hts, hcs, hAA, hfr, hlo, hce, hsl⟩ := id hX
  intro H locs rl hP hS hl
  exact lv_iconst hx hb hd rfl (k H locs rl hP hS hl)
theorem k_bipush (hX : Xk E M X) {n : Int} (hd : decode M.2.1 pc = .ok (.bipush n, 2)) (hn : (Int8.ofInt n).toInt32 = zi n) (k : V E X (pc + 2) ls (vI n :: st) g) : V E X pc ls st g := by
  obtain ⟨p, e, R, s, m, args, below, meth, c, cells, slots, Q, A0⟩ := X
  obtain ⟨hx, hb, hml, hown, hts, hcs, hAA, hfr, hlo, hce, hsl⟩ := id hX
  intro H locs rl hP hS hl
  exact lv_bipush hx hb hd hn (k H locs rl hP hS hl)
theorem k_sipush (hX : Xk E M X) {n : Int} (hd : decode M.2.1 pc = .ok (.sipush n, 3)) (hn : (Int16.ofInt n).toInt32 = zi n) (k : V E X (pc + 3) ls (vI n :: st) g) : V E X pc ls st g := by
  obtain ⟨p, e, R, s, m, args, below, meth, c, cells, slots, Q, A0⟩ := X
  obtain ⟨hx, hb, hml, hown, hts, hcs, hAA, hfr, hlo, hce, hsl⟩ := id hX
  intro H locs rl hP hS hl
  exact lv_sipush hx hb hd hn (k H locs rl hP hS hl)
theorem k_ldc (hX : Xk E M X) {i : Nat} {x : Int32} {n : Int} (hd : decode M.2.1 pc = .ok (.ldc i, 2)) (hc : Cond.constant M.1.cls i x ∈ TB) (hn : x = zi n) (k : V E X (pc + 2) ls (vI n :: st) g) : V E X pc ls st g := by
  obtain ⟨p, e, R, s, m, args, below, meth, c, cells, slots, Q, A0⟩ := X
  obtain ⟨hx, hb, hml, hown, hts, hcs, hAA, hfr, hlo, hce, hsl⟩ := id hX
  intro H locs rl hP hS hl
  subst hn
  exact lv_ldc hx hb hown (hts _ hc) hd (k H locs rl hP hS hl)
theorem k_ldc2 (hX : Xk E M X) {i : Nat} {x : Int64} (hd : decode M.2.1 pc = .ok (.ldc2_w i, 3)) (hc : Cond.constantLong M.1.cls i x ∈ TB) (k : V E X (pc + 3) ls (vL x :: st) g) : V E X pc ls st g := by
  obtain ⟨p, e, R, s, m, args, below, meth, c, cells, slots, Q, A0⟩ := X
  obtain ⟨hx, hb, hml, hown, hts, hcs, hAA, hfr, hlo, hce, hsl⟩ := id hX
  intro H locs rl hP hS hl
  exact lv_ldc2 hx hb hown (hts _ hc) hd (k H locs rl hP hS hl)
theorem k_iload_n (hX : Xk E M X) {q : Fin 4} {i : Nat} {z : Int} (hd : decode M.2.1 pc = .ok (.iload_n q, 1)) (hi : (q : Nat) = i) (hv : ls[i]? = some (some (vI z))) (k : V E X (pc + 1) ls (vI z :: st) g) : V E X pc ls st g := by
  obtain ⟨p, e, R, s, m, args, below, meth, c, cells, slots, Q, A0⟩ := X
  obtain ⟨hx, hb, hml, hown, hts, hcs, hAA, hfr, hlo, hce, hsl⟩ := id hX
  intro H locs rl hP hS hl
  exact lv_iload_n hx hb hd hi (lv_rd hl hv) (k H locs rl hP hS hl)
theorem k_iload (hX : Xk E M X) {i : Nat} {z : Int} (hd : decode M.2.1 pc = .ok (.iload i, 2)) (hv : ls[i]? = some (some (vI z))) (k : V E X (pc + 2) ls (vI z :: st) g) : V E X pc ls st g := by
  obtain ⟨p, e, R, s, m, args, below, meth, c, cells, slots, Q, A0⟩ := X
  obtain ⟨hx, hb, hml, hown, hts, hcs, hAA, hfr, hlo, hce, hsl⟩ := id hX
  intro H locs rl hP hS hl
  exact lv_iload hx hb hd (lv_rd hl hv) (k H locs rl hP hS hl)
theorem k_lload_n (hX : Xk E M X) {q : Fin 4} {i : Nat} {z : Int64} (hd : decode M.2.1 pc = .ok (.lload_n q, 1)) (hi : (q : Nat) = i) (hv : ls[i]? = some (some (vL z))) (k : V E X (pc + 1) ls (vL z :: st) g) : V E X pc ls st g := by
  obtain ⟨p, e, R, s, m, args, below, meth, c, cells, slots, Q, A0⟩ := X
  obtain ⟨hx, hb, hml, hown, hts, hcs, hAA, hfr, hlo, hce, hsl⟩ := id hX
  intro H locs rl hP hS hl
  exact lv_lload_n hx hb hd hi (lv_rd hl hv) (k H locs rl hP hS hl)
theorem k_lload (hX : Xk E M X) {i : Nat} {z : Int64} (hd : decode M.2.1 pc = .ok (.lload i, 2)) (hv : ls[i]? = some (some (vL z))) (k : V E X (pc + 2) ls (vL z :: st) g) : V E X pc ls st g := by
  obtain ⟨p, e, R, s, m, args, below, meth, c, cells, slots, Q, A0⟩ := X
  obtain ⟨hx, hb, hml, hown, hts, hcs, hAA, hfr, hlo, hce, hsl⟩ := id hX
  intro H locs rl hP hS hl
  exact lv_lload hx hb hd (lv_rd hl hv) (k H locs rl hP hS hl)
theorem k_aload_n (hX : Xk E M X) {q : Fin 4} {i : Nat} {z : Nat} (hd : decode M.2.1 pc = .ok (.aload_n q, 1)) (hi : (q : Nat) = i) (hv : ls[i]? = some (some (vR z))) (k : V E X (pc + 1) ls (vR z :: st) g) : V E X pc ls st g := by
  obtain ⟨p, e, R, s, m, args, below, meth, c, cells, slots, Q, A0⟩ := X
  obtain ⟨hx, hb, hml, hown, hts, hcs, hAA, hfr, hlo, hce, hsl⟩ := id hX
  intro H locs rl hP hS hl
  exact lv_aload_n hx hb hd hi (lv_rd hl hv) (k H locs rl hP hS hl)
theorem k_aload (hX : Xk E M X) {i : Nat} {z : Nat} (hd : decode M.2.1 pc = .ok (.aload i, 2)) (hv : ls[i]? = some (some (vR z))) (k : V E X (pc + 2) ls (vR z :: st) g) : V E X pc ls st g := by
  obtain ⟨p, e, R, s, m, args, below, meth, c, cells, slots, Q, A0⟩ := X
  obtain ⟨hx, hb, hml, hown, hts, hcs, hAA, hfr, hlo, hce, hsl⟩ := id hX
  intro H locs rl hP hS hl
  exact lv_aload hx hb hd (lv_rd hl hv) (k H locs rl hP hS hl)
theorem k_istore_n (hX : Xk E M X) {q : Fin 4} {i : Nat} {z : Int} {ls' : List (Option mv)} (hd : decode M.2.1 pc = .ok (.istore_n q, 1)) (hi : (q : Nat) = i) (hn : i < M.2.2.1) (ho : okst ls i = true) (hs : ls.set i (some (vI z)) = ls') (k : V E X (pc + 1) ls' st g) : V E X pc ls (vI z :: st) g := by
  obtain ⟨p, e, R, s, m, args, below, meth, c, cells, slots, Q, A0⟩ := X
  obtain ⟨hx, hb, hml, hown, hts, hcs, hAA, hfr, hlo, hce, hsl⟩ := id hX
  intro H locs rl hP hS hl
  exact lv_istore_n hx hb hd hi hl (by rw [hml]; exact hn) rfl (fun rl' h => k H locs rl' hP hS (lv_put1 hl ho hs rl' h))
theorem k_istore (hX : Xk E M X) {i : Nat} {z : Int} {ls' : List (Option mv)} (hd : decode M.2.1 pc = .ok (.istore i, 2)) (hn : i < M.2.2.1) (ho : okst ls i = true) (hs : ls.set i (some (vI z)) = ls') (k : V E X (pc + 2) ls' st g) : V E X pc ls (vI z :: st) g := by
  obtain ⟨p, e, R, s, m, args, below, meth, c, cells, slots, Q, A0⟩ := X
  obtain ⟨hx, hb, hml, hown, hts, hcs, hAA, hfr, hlo, hce, hsl⟩ := id hX
  intro H locs rl hP hS hl
  exact lv_istore hx hb hd hl (by rw [hml]; exact hn) rfl (fun rl' h => k H locs rl' hP hS (lv_put1 hl ho hs rl' h))
theorem k_astore_n (hX : Xk E M X) {q : Fin 4} {i : Nat} {z : Nat} {ls' : List (Option mv)} (hd : decode M.2.1 pc = .ok (.astore_n q, 1)) (hi : (q : Nat) = i) (hn : i < M.2.2.1) (ho : okst ls i = true) (hs : ls.set i (some (vR z)) = ls') (k : V E X (pc + 1) ls' st g) : V E X pc ls (vR z :: st) g := by
  obtain ⟨p, e, R, s, m, args, below, meth, c, cells, slots, Q, A0⟩ := X
  obtain ⟨hx, hb, hml, hown, hts, hcs, hAA, hfr, hlo, hce, hsl⟩ := id hX
  intro H locs rl hP hS hl
  exact lv_astore_n hx hb hd hi hl (by rw [hml]; exact hn) rfl (fun rl' h => k H locs rl' hP hS (lv_put1 hl ho hs rl' h))
theorem k_astore (hX : Xk E M X) {i : Nat} {z : Nat} {ls' : List (Option mv)} (hd : decode M.2.1 pc = .ok (.astore i, 2)) (hn : i < M.2.2.1) (ho : okst ls i = true) (hs : ls.set i (some (vR z)) = ls') (k : V E X (pc + 2) ls' st g) : V E X pc ls (vR z :: st) g := by
  obtain ⟨p, e, R, s, m, args, below, meth, c, cells, slots, Q, A0⟩ := X
  obtain ⟨hx, hb, hml, hown, hts, hcs, hAA, hfr, hlo, hce, hsl⟩ := id hX
  intro H locs rl hP hS hl
  exact lv_astore hx hb hd hl (by rw [hml]; exact hn) rfl (fun rl' h => k H locs rl' hP hS (lv_put1 hl ho hs rl' h))
theorem k_lstore_n (hX : Xk E M X) {q : Fin 4} {i : Nat} {z : Int64} {ls' : List (Option mv)} (hd : decode M.2.1 pc = .ok (.lstore_n q, 1)) (hi : (q : Nat) = i) (hn : i + 1 < M.2.2.1) (ho : okst ls i = true) (hs : (ls.set i (some (vL z))).set (i + 1) none = ls') (k : V E X (pc + 1) ls' st g) : V E X pc ls (vL z :: st) g := by
  obtain ⟨p, e, R, s, m, args, below, meth, c, cells, slots, Q, A0⟩ := X
  obtain ⟨hx, hb, hml, hown, hts, hcs, hAA, hfr, hlo, hce, hsl⟩ := id hX
  intro H locs rl hP hS hl
  exact lv_lstore_n hx hb hd hi hl (by rw [hml]; exact hn) rfl (fun rl' h => k H locs rl' hP hS (lv_put2 hl ho hs rl' h))
theorem k_iinc (hX : Xk E M X) {i : Nat} {n z : Int} {ls' : List (Option mv)} (hd : decode M.2.1 pc = .ok (.iinc i n, 3)) (hv : ls[i]? = some (some (vI z))) (hn : i < M.2.2.1) (ho : okst ls i = true) (hs : ls.set i (some (vI (z + n))) = ls') (k : V E X (pc + 3) ls' st g) : V E X pc ls st g := by
  obtain ⟨p, e, R, s, m, args, below, meth, c, cells, slots, Q, A0⟩ := X
  obtain ⟨hx, hb, hml, hown, hts, hcs, hAA, hfr, hlo, hce, hsl⟩ := id hX
  intro H locs rl hP hS hl
  have hm := asc_mem E ls 0 i _ hv
  rw [Nat.zero_add] at hm
  obtain ⟨j, hj⟩ := List.getElem?_of_mem hm
  exact lv_iinc (x := zi z) (v := zi (z + n)) hx hb hd hl hj (zi_add z n) (by rw [hml]; exact hn) rfl (fun rl' h => k H locs rl' hP hS (lv_put1 hl ho hs rl' h))
theorem k_iadd (hX : Xk E M X) {a b : Int} (hd : decode M.2.1 pc = .ok (.iadd, 1)) (k : V E X (pc + 1) ls (vI (a + b) :: st) g) : V E X pc ls (vI b :: vI a :: st) g := by
  obtain ⟨p, e, R, s, m, args, below, meth, c, cells, slots, Q, A0⟩ := X
  obtain ⟨hx, hb, hml, hown, hts, hcs, hAA, hfr, hlo, hce, hsl⟩ := id hX
  intro H locs rl hP hS hl
  refine lv_iadd hx hb hd ?_
  rw [zi_add]
  exact k H locs rl hP hS hl
theorem k_isub (hX : Xk E M X) {a b : Int} (hd : decode M.2.1 pc = .ok (.isub, 1)) (k : V E X (pc + 1) ls (vI (a - b) :: st) g) : V E X pc ls (vI b :: vI a :: st) g := by
  obtain ⟨p, e, R, s, m, args, below, meth, c, cells, slots, Q, A0⟩ := X
  obtain ⟨hx, hb, hml, hown, hts, hcs, hAA, hfr, hlo, hce, hsl⟩ := id hX
  intro H locs rl hP hS hl
  refine lv_isub hx hb hd ?_
  rw [zi_sub]
  exact k H locs rl hP hS hl
theorem k_imul (hX : Xk E M X) {a b : Int} (hd : decode M.2.1 pc = .ok (.imul, 1)) (k : V E X (pc + 1) ls (vI (a * b) :: st) g) : V E X pc ls (vI b :: vI a :: st) g := by
  obtain ⟨p, e, R, s, m, args, below, meth, c, cells, slots, Q, A0⟩ := X
  obtain ⟨hx, hb, hml, hown, hts, hcs, hAA, hfr, hlo, hce, hsl⟩ := id hX
  intro H locs rl hP hS hl
  refine lv_imul hx hb hd ?_
  rw [zi_mul]
  exact k H locs rl hP hS hl
theorem k_idiv (hX : Xk E M X) {a b : Int} (hd : decode M.2.1 pc = .ok (.idiv, 1)) (ha : 0 ≤ a ∧ a < 2147483648) (hb0 : 0 < b ∧ b < 2147483648) (k : V E X (pc + 1) ls (vI (a / b) :: st) g) : V E X pc ls (vI b :: vI a :: st) g := by
  obtain ⟨p, e, R, s, m, args, below, meth, c, cells, slots, Q, A0⟩ := X
  obtain ⟨hx, hb, hml, hown, hts, hcs, hAA, hfr, hlo, hce, hsl⟩ := id hX
  intro H locs rl hP hS hl
  refine lv_idiv hx hb hd (fun q => ?_) ?_
  · have := (zi_eq (a := b) (b := 0) ⟨by omega, by omega⟩ (by decide)).mp q
    omega
  · rw [zi_div ha.1 ha.2 hb0.1 hb0.2]
    exact k H locs rl hP hS hl
theorem k_irem (hX : Xk E M X) {a b : Int} (hd : decode M.2.1 pc = .ok (.irem, 1)) (ha : 0 ≤ a ∧ a < 2147483648) (hb0 : 0 < b ∧ b < 2147483648) (k : V E X (pc + 1) ls (vI (a % b) :: st) g) : V E X pc ls (vI b :: vI a :: st) g := by
  obtain ⟨p, e, R, s, m, args, below, meth, c, cells, slots, Q, A0⟩ := X
  obtain ⟨hx, hb, hml, hown, hts, hcs, hAA, hfr, hlo, hce, hsl⟩ := id hX
  intro H locs rl hP hS hl
  refine lv_irem hx hb hd (fun q => ?_) ?_
  · have := (zi_eq (a := b) (b := 0) ⟨by omega, by omega⟩ (by decide)).mp q
    omega
  · rw [zi_rem ha.1 ha.2 hb0.1 hb0.2]
    exact k H locs rl hP hS hl
theorem k_ladd (hX : Xk E M X) {a b : Int64} (hd : decode M.2.1 pc = .ok (.ladd, 1)) (k : V E X (pc + 1) ls (vL (a + b) :: st) g) : V E X pc ls (vL b :: vL a :: st) g := by
  obtain ⟨p, e, R, s, m, args, below, meth, c, cells, slots, Q, A0⟩ := X
  obtain ⟨hx, hb, hml, hown, hts, hcs, hAA, hfr, hlo, hce, hsl⟩ := id hX
  intro H locs rl hP hS hl
  exact lv_ladd hx hb hd (k H locs rl hP hS hl)
theorem k_lmul (hX : Xk E M X) {a b : Int64} (hd : decode M.2.1 pc = .ok (.lmul, 1)) (k : V E X (pc + 1) ls (vL (a * b) :: st) g) : V E X pc ls (vL b :: vL a :: st) g := by
  obtain ⟨p, e, R, s, m, args, below, meth, c, cells, slots, Q, A0⟩ := X
  obtain ⟨hx, hb, hml, hown, hts, hcs, hAA, hfr, hlo, hce, hsl⟩ := id hX
  intro H locs rl hP hS hl
  exact lv_lmul hx hb hd (k H locs rl hP hS hl)
theorem k_land (hX : Xk E M X) {a b : Int64} (hd : decode M.2.1 pc = .ok (.land, 1)) (k : V E X (pc + 1) ls (vL (a &&& b) :: st) g) : V E X pc ls (vL b :: vL a :: st) g := by
  obtain ⟨p, e, R, s, m, args, below, meth, c, cells, slots, Q, A0⟩ := X
  obtain ⟨hx, hb, hml, hown, hts, hcs, hAA, hfr, hlo, hce, hsl⟩ := id hX
  intro H locs rl hP hS hl
  exact lv_land hx hb hd (k H locs rl hP hS hl)
theorem k_ldiv (hX : Xk E M X) {a b : Int64} (hd : decode M.2.1 pc = .ok (.ldiv, 1)) (hne : ¬ b = 0) (k : V E X (pc + 1) ls (vL (a / b) :: st) g) : V E X pc ls (vL b :: vL a :: st) g := by
  obtain ⟨p, e, R, s, m, args, below, meth, c, cells, slots, Q, A0⟩ := X
  obtain ⟨hx, hb, hml, hown, hts, hcs, hAA, hfr, hlo, hce, hsl⟩ := id hX
  intro H locs rl hP hS hl
  exact lv_ldiv hx hb hd hne (k H locs rl hP hS hl)
theorem k_lrem (hX : Xk E M X) {a b : Int64} (hd : decode M.2.1 pc = .ok (.lrem, 1)) (hne : ¬ b = 0) (k : V E X (pc + 1) ls (vL (a - a / b * b) :: st) g) : V E X pc ls (vL b :: vL a :: st) g := by
  obtain ⟨p, e, R, s, m, args, below, meth, c, cells, slots, Q, A0⟩ := X
  obtain ⟨hx, hb, hml, hown, hts, hcs, hAA, hfr, hlo, hce, hsl⟩ := id hX
  intro H locs rl hP hS hl
  exact lv_lrem hx hb hd hne (k H locs rl hP hS hl)
theorem k_i2l (hX : Xk E M X) {a : Int} (hd : decode M.2.1 pc = .ok (.i2l, 1)) (k : V E X (pc + 1) ls (vL (zi a).toInt64 :: st) g) : V E X pc ls (vI a :: st) g := by
  obtain ⟨p, e, R, s, m, args, below, meth, c, cells, slots, Q, A0⟩ := X
  obtain ⟨hx, hb, hml, hown, hts, hcs, hAA, hfr, hlo, hce, hsl⟩ := id hX
  intro H locs rl hP hS hl
  exact lv_i2l hx hb hd rfl (k H locs rl hP hS hl)
theorem k_l2i (hX : Xk E M X) {a : Int64} (hd : decode M.2.1 pc = .ok (.l2i, 1)) (k : V E X (pc + 1) ls (vI a.toInt32.toInt :: st) g) : V E X pc ls (vL a :: st) g := by
  obtain ⟨p, e, R, s, m, args, below, meth, c, cells, slots, Q, A0⟩ := X
  obtain ⟨hx, hb, hml, hown, hts, hcs, hAA, hfr, hlo, hce, hsl⟩ := id hX
  intro H locs rl hP hS hl
  refine lv_l2i hx hb hd (zi_of _).symm (k H locs rl hP hS hl)
theorem k_i2b (hX : Xk E M X) {a : Int} (hd : decode M.2.1 pc = .ok (.i2b, 1)) (ha : -128 ≤ a ∧ a < 128) (k : V E X (pc + 1) ls (vI a :: st) g) : V E X pc ls (vI a :: st) g := by
  obtain ⟨p, e, R, s, m, args, below, meth, c, cells, slots, Q, A0⟩ := X
  obtain ⟨hx, hb, hml, hown, hts, hcs, hAA, hfr, hlo, hce, hsl⟩ := id hX
  intro H locs rl hP hS hl
  exact lv_i2b hx hb hd (zi_b ha) (k H locs rl hP hS hl)
theorem k_i2c (hX : Xk E M X) {a : Int} (hd : decode M.2.1 pc = .ok (.i2c, 1)) (ha : 0 ≤ a ∧ a < 65536) (k : V E X (pc + 1) ls (vI a :: st) g) : V E X pc ls (vI a :: st) g := by
  obtain ⟨p, e, R, s, m, args, below, meth, c, cells, slots, Q, A0⟩ := X
  obtain ⟨hx, hb, hml, hown, hts, hcs, hAA, hfr, hlo, hce, hsl⟩ := id hX
  intro H locs rl hP hS hl
  exact lv_i2c hx hb hd (zi_c ha) (k H locs rl hP hS hl)
theorem k_lcmp (hX : Xk E M X) {a b : Int64} (hd : decode M.2.1 pc = .ok (.lcmp, 1)) (k : V E X (pc + 1) ls (vI (lg_cmp a b).toInt :: st) g) : V E X pc ls (vL b :: vL a :: st) g := by
  obtain ⟨p, e, R, s, m, args, below, meth, c, cells, slots, Q, A0⟩ := X
  obtain ⟨hx, hb, hml, hown, hts, hcs, hAA, hfr, hlo, hce, hsl⟩ := id hX
  intro H locs rl hP hS hl
  refine W.lcmp hx hb hd ?_
  rw [← zi_of (lg_cmp a b)]
  exact k H locs rl hP hS hl
theorem k_dup (hX : Xk E M X) {z : Int} (hd : decode M.2.1 pc = .ok (.dup, 1)) (k : V E X (pc + 1) ls (vI z :: vI z :: st) g) : V E X pc ls (vI z :: st) g := by
  obtain ⟨p, e, R, s, m, args, below, meth, c, cells, slots, Q, A0⟩ := X
  obtain ⟨hx, hb, hml, hown, hts, hcs, hAA, hfr, hlo, hce, hsl⟩ := id hX
  intro H locs rl hP hS hl
  exact lv_dup hx hb hd rfl (k H locs rl hP hS hl)
theorem k_dupR (hX : Xk E M X) {z : Nat} (hd : decode M.2.1 pc = .ok (.dup, 1)) (k : V E X (pc + 1) ls (vR z :: vR z :: st) g) : V E X pc ls (vR z :: st) g := by
  obtain ⟨p, e, R, s, m, args, below, meth, c, cells, slots, Q, A0⟩ := X
  obtain ⟨hx, hb, hml, hown, hts, hcs, hAA, hfr, hlo, hce, hsl⟩ := id hX
  intro H locs rl hP hS hl
  exact lv_dup hx hb hd rfl (k H locs rl hP hS hl)
theorem k_dup2 (hX : Xk E M X) {z : Int} {q : Nat} (hd : decode M.2.1 pc = .ok (.dup2, 1)) (k : V E X (pc + 1) ls (vI z :: vR q :: vI z :: vR q :: st) g) : V E X pc ls (vI z :: vR q :: st) g := by
  obtain ⟨p, e, R, s, m, args, below, meth, c, cells, slots, Q, A0⟩ := X
  obtain ⟨hx, hb, hml, hown, hts, hcs, hAA, hfr, hlo, hce, hsl⟩ := id hX
  intro H locs rl hP hS hl
  exact lv_dup2_11 hx hb hd rfl rfl (k H locs rl hP hS hl)
theorem k_pop (hX : Xk E M X) {z : Int} (hd : decode M.2.1 pc = .ok (.pop, 1)) (k : V E X (pc + 1) ls st g) : V E X pc ls (vI z :: st) g := by
  obtain ⟨p, e, R, s, m, args, below, meth, c, cells, slots, Q, A0⟩ := X
  obtain ⟨hx, hb, hml, hown, hts, hcs, hAA, hfr, hlo, hce, hsl⟩ := id hX
  intro H locs rl hP hS hl
  exact lv_pop hx hb hd rfl (k H locs rl hP hS hl)
theorem k_icmp_eq (hX : Xk E M X) {a b : Int} {off : Int} {tgt : Nat} (hd : decode M.2.1 pc = .ok (.if_icmp .eq off, 3)) (ht : (pc : Int) + off = (tgt : Int)) (ha : bd a) (hb0 : bd b) (kt : a = b → V E X tgt ls st g) (kf : ¬ a = b → V E X (pc + 3) ls st g) : V E X pc ls (vI b :: vI a :: st) g := by
  obtain ⟨p, e, R, s, m, args, below, meth, c, cells, slots, Q, A0⟩ := X
  obtain ⟨hx, hb, hml, hown, hts, hcs, hAA, hfr, hlo, hce, hsl⟩ := id hX
  intro H locs rl hP hS hl
  have hc := zi_eq ha hb0
  exact lv_icmp_eq hx hb hd ht (fun q => kt (by first | exact hc.mp q | exact fun z => q (hc.mpr z)) H locs rl hP hS hl) (fun q => kf (by first | exact hc.mp q | exact fun z => q (hc.mpr z)) H locs rl hP hS hl)
theorem k_if_eq (hX : Xk E M X) {a : Int} {off : Int} {tgt : Nat} (hd : decode M.2.1 pc = .ok (.ifCond .eq off, 3)) (ht : (pc : Int) + off = (tgt : Int)) (ha : bd a) (kt : a = 0 → V E X tgt ls st g) (kf : ¬ a = 0 → V E X (pc + 3) ls st g) : V E X pc ls (vI a :: st) g := by
  obtain ⟨p, e, R, s, m, args, below, meth, c, cells, slots, Q, A0⟩ := X
  obtain ⟨hx, hb, hml, hown, hts, hcs, hAA, hfr, hlo, hce, hsl⟩ := id hX
  intro H locs rl hP hS hl
  have hb0 : bd 0 := by decide
  have hc := zi_eq ha hb0
  rw [zi_0] at hc
  exact lv_if_eq hx hb hd ht (fun q => kt (by first | exact hc.mp q | exact fun z => q (hc.mpr z)) H locs rl hP hS hl) (fun q => kf (by first | exact hc.mp q | exact fun z => q (hc.mpr z)) H locs rl hP hS hl)
theorem k_icmp_ne (hX : Xk E M X) {a b : Int} {off : Int} {tgt : Nat} (hd : decode M.2.1 pc = .ok (.if_icmp .ne off, 3)) (ht : (pc : Int) + off = (tgt : Int)) (ha : bd a) (hb0 : bd b) (kt : ¬ a = b → V E X tgt ls st g) (kf : a = b → V E X (pc + 3) ls st g) : V E X pc ls (vI b :: vI a :: st) g := by
  obtain ⟨p, e, R, s, m, args, below, meth, c, cells, slots, Q, A0⟩ := X
  obtain ⟨hx, hb, hml, hown, hts, hcs, hAA, hfr, hlo, hce, hsl⟩ := id hX
  intro H locs rl hP hS hl
  have hc := zi_eq ha hb0
  exact lv_icmp_ne hx hb hd ht (fun q => kt (by first | exact hc.mp q | exact fun z => q (hc.mpr z)) H locs rl hP hS hl) (fun q => kf (by first | exact hc.mp q | exact fun z => q (hc.mpr z)) H locs rl hP hS hl)
theorem k_if_ne (hX : Xk E M X) {a : Int} {off : Int} {tgt : Nat} (hd : decode M.2.1 pc = .ok (.ifCond .ne off, 3)) (ht : (pc : Int) + off = (tgt : Int)) (ha : bd a) (kt : ¬ a = 0 → V E X tgt ls st g) (kf : a = 0 → V E X (pc + 3) ls st g) : V E X pc ls (vI a :: st) g := by
  obtain ⟨p, e, R, s, m, args, below, meth, c, cells, slots, Q, A0⟩ := X
  obtain ⟨hx, hb, hml, hown, hts, hcs, hAA, hfr, hlo, hce, hsl⟩ := id hX
  intro H locs rl hP hS hl
  have hb0 : bd 0 := by decide
  have hc := zi_eq ha hb0
  rw [zi_0] at hc
  exact lv_if_ne hx hb hd ht (fun q => kt (by first | exact hc.mp q | exact fun z => q (hc.mpr z)) H locs rl hP hS hl) (fun q => kf (by first | exact hc.mp q | exact fun z => q (hc.mpr z)) H locs rl hP hS hl)
theorem k_icmp_lt (hX : Xk E M X) {a b : Int} {off : Int} {tgt : Nat} (hd : decode M.2.1 pc = .ok (.if_icmp .lt off, 3)) (ht : (pc : Int) + off = (tgt : Int)) (ha : bd a) (hb0 : bd b) (kt : a < b → V E X tgt ls st g) (kf : ¬ a < b → V E X (pc + 3) ls st g) : V E X pc ls (vI b :: vI a :: st) g := by
  obtain ⟨p, e, R, s, m, args, below, meth, c, cells, slots, Q, A0⟩ := X
  obtain ⟨hx, hb, hml, hown, hts, hcs, hAA, hfr, hlo, hce, hsl⟩ := id hX
  intro H locs rl hP hS hl
  have hc := zi_lt ha hb0
  exact lv_icmp_lt hx hb hd ht (fun q => kt (by first | exact hc.mp q | exact fun z => q (hc.mpr z)) H locs rl hP hS hl) (fun q => kf (by first | exact hc.mp q | exact fun z => q (hc.mpr z)) H locs rl hP hS hl)
theorem k_if_lt (hX : Xk E M X) {a : Int} {off : Int} {tgt : Nat} (hd : decode M.2.1 pc = .ok (.ifCond .lt off, 3)) (ht : (pc : Int) + off = (tgt : Int)) (ha : bd a) (kt : a < 0 → V E X tgt ls st g) (kf : ¬ a < 0 → V E X (pc + 3) ls st g) : V E X pc ls (vI a :: st) g := by
  obtain ⟨p, e, R, s, m, args, below, meth, c, cells, slots, Q, A0⟩ := X
  obtain ⟨hx, hb, hml, hown, hts, hcs, hAA, hfr, hlo, hce, hsl⟩ := id hX
  intro H locs rl hP hS hl
  have hb0 : bd 0 := by decide
  have hc := zi_lt ha hb0
  rw [zi_0] at hc
  exact lv_if_lt hx hb hd ht (fun q => kt (by first | exact hc.mp q | exact fun z => q (hc.mpr z)) H locs rl hP hS hl) (fun q => kf (by first | exact hc.mp q | exact fun z => q (hc.mpr z)) H locs rl hP hS hl)
theorem k_icmp_ge (hX : Xk E M X) {a b : Int} {off : Int} {tgt : Nat} (hd : decode M.2.1 pc = .ok (.if_icmp .ge off, 3)) (ht : (pc : Int) + off = (tgt : Int)) (ha : bd a) (hb0 : bd b) (kt : b ≤ a → V E X tgt ls st g) (kf : ¬ b ≤ a → V E X (pc + 3) ls st g) : V E X pc ls (vI b :: vI a :: st) g := by
  obtain ⟨p, e, R, s, m, args, below, meth, c, cells, slots, Q, A0⟩ := X
  obtain ⟨hx, hb, hml, hown, hts, hcs, hAA, hfr, hlo, hce, hsl⟩ := id hX
  intro H locs rl hP hS hl
  have hc := zi_le hb0 ha
  exact lv_icmp_ge hx hb hd ht (fun q => kt (by first | exact hc.mp q | exact fun z => q (hc.mpr z)) H locs rl hP hS hl) (fun q => kf (by first | exact hc.mp q | exact fun z => q (hc.mpr z)) H locs rl hP hS hl)
theorem k_if_ge (hX : Xk E M X) {a : Int} {off : Int} {tgt : Nat} (hd : decode M.2.1 pc = .ok (.ifCond .ge off, 3)) (ht : (pc : Int) + off = (tgt : Int)) (ha : bd a) (kt : 0 ≤ a → V E X tgt ls st g) (kf : ¬ 0 ≤ a → V E X (pc + 3) ls st g) : V E X pc ls (vI a :: st) g := by
  obtain ⟨p, e, R, s, m, args, below, meth, c, cells, slots, Q, A0⟩ := X
  obtain ⟨hx, hb, hml, hown, hts, hcs, hAA, hfr, hlo, hce, hsl⟩ := id hX
  intro H locs rl hP hS hl
  have hb0 : bd 0 := by decide
  have hc := zi_le hb0 ha
  rw [zi_0] at hc
  exact lv_if_ge hx hb hd ht (fun q => kt (by first | exact hc.mp q | exact fun z => q (hc.mpr z)) H locs rl hP hS hl) (fun q => kf (by first | exact hc.mp q | exact fun z => q (hc.mpr z)) H locs rl hP hS hl)
theorem k_icmp_gt (hX : Xk E M X) {a b : Int} {off : Int} {tgt : Nat} (hd : decode M.2.1 pc = .ok (.if_icmp .gt off, 3)) (ht : (pc : Int) + off = (tgt : Int)) (ha : bd a) (hb0 : bd b) (kt : b < a → V E X tgt ls st g) (kf : ¬ b < a → V E X (pc + 3) ls st g) : V E X pc ls (vI b :: vI a :: st) g := by
  obtain ⟨p, e, R, s, m, args, below, meth, c, cells, slots, Q, A0⟩ := X
  obtain ⟨hx, hb, hml, hown, hts, hcs, hAA, hfr, hlo, hce, hsl⟩ := id hX
  intro H locs rl hP hS hl
  have hc := zi_lt hb0 ha
  exact lv_icmp_gt hx hb hd ht (fun q => kt (by first | exact hc.mp q | exact fun z => q (hc.mpr z)) H locs rl hP hS hl) (fun q => kf (by first | exact hc.mp q | exact fun z => q (hc.mpr z)) H locs rl hP hS hl)
theorem k_if_gt (hX : Xk E M X) {a : Int} {off : Int} {tgt : Nat} (hd : decode M.2.1 pc = .ok (.ifCond .gt off, 3)) (ht : (pc : Int) + off = (tgt : Int)) (ha : bd a) (kt : 0 < a → V E X tgt ls st g) (kf : ¬ 0 < a → V E X (pc + 3) ls st g) : V E X pc ls (vI a :: st) g := by
  obtain ⟨p, e, R, s, m, args, below, meth, c, cells, slots, Q, A0⟩ := X
  obtain ⟨hx, hb, hml, hown, hts, hcs, hAA, hfr, hlo, hce, hsl⟩ := id hX
  intro H locs rl hP hS hl
  have hb0 : bd 0 := by decide
  have hc := zi_lt hb0 ha
  rw [zi_0] at hc
  exact lv_if_gt hx hb hd ht (fun q => kt (by first | exact hc.mp q | exact fun z => q (hc.mpr z)) H locs rl hP hS hl) (fun q => kf (by first | exact hc.mp q | exact fun z => q (hc.mpr z)) H locs rl hP hS hl)
theorem k_icmp_le (hX : Xk E M X) {a b : Int} {off : Int} {tgt : Nat} (hd : decode M.2.1 pc = .ok (.if_icmp .le off, 3)) (ht : (pc : Int) + off = (tgt : Int)) (ha : bd a) (hb0 : bd b) (kt : a ≤ b → V E X tgt ls st g) (kf : ¬ a ≤ b → V E X (pc + 3) ls st g) : V E X pc ls (vI b :: vI a :: st) g := by
  obtain ⟨p, e, R, s, m, args, below, meth, c, cells, slots, Q, A0⟩ := X
  obtain ⟨hx, hb, hml, hown, hts, hcs, hAA, hfr, hlo, hce, hsl⟩ := id hX
  intro H locs rl hP hS hl
  have hc := zi_le ha hb0
  exact lv_icmp_le hx hb hd ht (fun q => kt (by first | exact hc.mp q | exact fun z => q (hc.mpr z)) H locs rl hP hS hl) (fun q => kf (by first | exact hc.mp q | exact fun z => q (hc.mpr z)) H locs rl hP hS hl)
theorem k_if_le (hX : Xk E M X) {a : Int} {off : Int} {tgt : Nat} (hd : decode M.2.1 pc = .ok (.ifCond .le off, 3)) (ht : (pc : Int) + off = (tgt : Int)) (ha : bd a) (kt : a ≤ 0 → V E X tgt ls st g) (kf : ¬ a ≤ 0 → V E X (pc + 3) ls st g) : V E X pc ls (vI a :: st) g := by
  obtain ⟨p, e, R, s, m, args, below, meth, c, cells, slots, Q, A0⟩ := X
  obtain ⟨hx, hb, hml, hown, hts, hcs, hAA, hfr, hlo, hce, hsl⟩ := id hX
  intro H locs rl hP hS hl
  have hb0 : bd 0 := by decide
  have hc := zi_le ha hb0
  rw [zi_0] at hc
  exact lv_if_le hx hb hd ht (fun q => kt (by first | exact hc.mp q | exact fun z => q (hc.mpr z)) H locs rl hP hS hl) (fun q => kf (by first | exact hc.mp q | exact fun z => q (hc.mpr z)) H locs rl hP hS hl)
theorem k_goto (hX : Xk E M X) {off : Int} {tgt : Nat} (hd : decode M.2.1 pc = .ok (.goto off, 3)) (ht : (pc : Int) + off = (tgt : Int)) (k : V E X tgt ls st g) : V E X pc ls st g := by
  obtain ⟨p, e, R, s, m, args, below, meth, c, cells, slots, Q, A0⟩ := X
  obtain ⟨hx, hb, hml, hown, hts, hcs, hAA, hfr, hlo, hce, hsl⟩ := id hX
  intro H locs rl hP hS hl
  exact lv_goto hx hb hd ht (k H locs rl hP hS hl)
theorem k_tableIn (hX : Xk E M X) {dflt lo hi : Int} {offs : Array Int} {len : Nat} {a : Int} {off : Int} {tgt : Nat} (hd : decode M.2.1 pc = .ok (.tableswitch dflt lo hi offs, len)) (ha : bd a) (h1 : lo ≤ a) (h2 : a ≤ hi) (ho : offs[(a - lo).toNat]? = some off) (ht : (pc : Int) + off = (tgt : Int)) (k : V E X tgt ls st g) : V E X pc ls (vI a :: st) g := by
  obtain ⟨p, e, R, s, m, args, below, meth, c, cells, slots, Q, A0⟩ := X
  obtain ⟨hx, hb, hml, hown, hts, hcs, hAA, hfr, hlo, hce, hsl⟩ := id hX
  intro H locs rl hP hS hl
  exact lv_tableIn hx hb hd (by rw [zi_toInt ha]; omega) (by rw [zi_toInt ha]; omega) (by rw [zi_toInt ha]; exact ho) ht (k H locs rl hP hS hl)
theorem k_tableOut (hX : Xk E M X) {dflt lo hi : Int} {offs : Array Int} {len : Nat} {a : Int} {tgt : Nat} (hd : decode M.2.1 pc = .ok (.tableswitch dflt lo hi offs, len)) (ha : bd a) (h1 : a < lo ∨ hi < a) (ht : (pc : Int) + dflt = (tgt : Int)) (k : V E X tgt ls st g) : V E X pc ls (vI a :: st) g := by
  obtain ⟨p, e, R, s, m, args, below, meth, c, cells, slots, Q, A0⟩ := X
  obtain ⟨hx, hb, hml, hown, hts, hcs, hAA, hfr, hlo, hce, hsl⟩ := id hX
  intro H locs rl hP hS hl
  exact lv_tableOut hx hb hd (by rw [zi_toInt ha]; exact h1) ht (k H locs rl hP hS hl)
theorem k_lookup (hX : Xk E M X) {dflt : Int} {ps : Array (Int × Int)} {len : Nat} {a : Int} {off : Int} {tgt : Nat} (hd : decode M.2.1 pc = .ok (.lookupswitch dflt ps, len)) (ha : bd a) (hp : (ps.toList.zip (ps.toList.drop 1)).all (fun (a, next) => a.1 < next.1) = true) (ho : Op.lookupswitch.offset ps.toList dflt a = off) (ht : (pc : Int) + off = (tgt : Int)) (k : V E X tgt ls st g) : V E X pc ls (vI a :: st) g := by
  obtain ⟨p, e, R, s, m, args, below, meth, c, cells, slots, Q, A0⟩ := X
  obtain ⟨hx, hb, hml, hown, hts, hcs, hAA, hfr, hlo, hce, hsl⟩ := id hX
  intro H locs rl hP hS hl
  exact lv_lookup hx hb hd hp (by rw [zi_toInt ha]; exact ho) ht (k H locs rl hP hS hl)
end KR
end
section
section KM
variable {E : En} {M : Mt} {X : Cx} {pc : Nat} {ls : List (Option mv)} {st : List mv} {g : Mm}
theorem wr_o (E : En) (g : Mm) (k j : Nat) (v : Int) : ∀ a, a ≠ k → ent E (wr g k j v) a = ent E g a := fun a h => ent_ne (by funext b; simp [wr, h]) rfl
theorem wl_o (E : En) (g : Mm) (k j : Nat) (v : Int64) : ∀ a, a ≠ k → ent E (wl g k j v) a = ent E g a := fun a h => ent_ne rfl (by funext b; simp [wl, h])
theorem fv_get (E : En) (g : Mm) (k : Nat) {n j : Nat} (h : j < n) : ((List.range n).map (fv E g k))[j]? = some (fv E g k j) := by
  simp [List.getElem?_map, List.getElem?_range h]
theorem fv_set {E : En} {g g' : Mm} {k n j : Nat} {v : Value} (h : j < n) (hv : fv E g' k j = v) (ho : ∀ b, b ≠ j → fv E g' k b = fv E g k b) : ((List.range n).map (fv E g k)).set j v = (List.range n).map (fv E g' k) := by
  apply List.ext_getElem?
  intro i
  by_cases hi : i < n
  · by_cases e : i = j
    · subst e
      rw [List.getElem?_set_self (by simpa using hi), fv_get E g' k hi, hv]
    · rw [List.getElem?_set_ne (fun q => e q.symm), fv_get E g k hi, fv_get E g' k hi, ho i e]
  · rw [List.getElem?_eq_none (by simpa using Nat.not_lt.mp hi), List.getElem?_eq_none (by simpa using Nat.not_lt.mp hi)]
theorem k_geti (hX : Xk E M X) {i ci j k : Nat} (hd : decode M.2.1 pc = .ok (.getfield i, 3)) (hf : FLk M.1.cls i ci j) (hk : sk k = ci) (hc : ci < 9) (hq : fk ci j = 0) (kk : V E X (pc + 3) ls (vI (g.1 k j) :: st) g) : V E X pc ls (vR k :: st) g := by
  obtain ⟨p, e, R, s, m, args, below, meth, c, cells, slots, Q, A0⟩ := X
  obtain ⟨hx, hb, hml, hown, hts, hcs, hAA, hfr, hlo, hce, hsl⟩ := id hX
  intro H locs rl hP hS hl
  obtain ⟨C, T, N, ty, ⟨f1, f2, f3, f4, rfl⟩, hj, hlink, hT, hft, -⟩ := hf
  have hk72 : k < 72 := sk_lt hk (by omega)
  refine va_get (C := C) (T := T) (N := nf ci) (ci := ci) (ref := C) (index := i) hx hb hts f2 hown hcs.1 hP k ((wsO_get E g hk72).trans (by rw [ent_obj hk hc])) f1 j hj (hts _ hlink) (by rw [hT]; exact fun _ h => h) (fv_get E g k hj) hd ?_
  have hfv : fv E g k j = tv E (vI (g.1 k j)) := by simp [fv, hk, hq, tv]
  rw [hfv]
  exact kk H locs rl hP hS hl
theorem k_getz (hX : Xk E M X) {i ci j k : Nat} (hd : decode M.2.1 pc = .ok (.getfield i, 3)) (hf : FLk M.1.cls i ci j) (hk : sk k = ci) (hc : ci < 9) (hq : fk ci j = 3) (kk : V E X (pc + 3) ls (vI (g.1 k j) :: st) g) : V E X pc ls (vR k :: st) g := by
  obtain ⟨p, e, R, s, m, args, below, meth, c, cells, slots, Q, A0⟩ := X
  obtain ⟨hx, hb, hml, hown, hts, hcs, hAA, hfr, hlo, hce, hsl⟩ := id hX
  intro H locs rl hP hS hl
  obtain ⟨C, T, N, ty, ⟨f1, f2, f3, f4, rfl⟩, hj, hlink, hT, hft, -⟩ := hf
  have hk72 : k < 72 := sk_lt hk (by omega)
  refine va_get (C := C) (T := T) (N := nf ci) (ci := ci) (ref := C) (index := i) hx hb hts f2 hown hcs.1 hP k ((wsO_get E g hk72).trans (by rw [ent_obj hk hc])) f1 j hj (hts _ hlink) (by rw [hT]; exact fun _ h => h) (fv_get E g k hj) hd ?_
  have hfv : fv E g k j = tv E (vI (g.1 k j)) := by simp [fv, hk, hq, tv]
  rw [hfv]
  exact kk H locs rl hP hS hl
theorem k_getl (hX : Xk E M X) {i ci j k : Nat} (hd : decode M.2.1 pc = .ok (.getfield i, 3)) (hf : FLk M.1.cls i ci j) (hk : sk k = ci) (hc : ci < 9) (hq : fk ci j = 1) (kk : V E X (pc + 3) ls (vL (g.2 k j) :: st) g) : V E X pc ls (vR k :: st) g := by
  obtain ⟨p, e, R, s, m, args, below, meth, c, cells, slots, Q, A0⟩ := X
  obtain ⟨hx, hb, hml, hown, hts, hcs, hAA, hfr, hlo, hce, hsl⟩ := id hX
  intro H locs rl hP hS hl
  obtain ⟨C, T, N, ty, ⟨f1, f2, f3, f4, rfl⟩, hj, hlink, hT, hft, -⟩ := hf
  have hk72 : k < 72 := sk_lt hk (by omega)
  refine va_get (C := C) (T := T) (N := nf ci) (ci := ci) (ref := C) (index := i) hx hb hts f2 hown hcs.1 hP k ((wsO_get E g hk72).trans (by rw [ent_obj hk hc])) f1 j hj (hts _ hlink) (by rw [hT]; exact fun _ h => h) (fv_get E g k hj) hd ?_
  have hfv : fv E g k j = tv E (vL (g.2 k j)) := by simp [fv, hk, hq, tv]
  rw [hfv]
  exact kk H locs rl hP hS hl
theorem k_getr (hX : Xk E M X) {i ci j k t : Nat} (hd : decode M.2.1 pc = .ok (.getfield i, 3)) (hf : FLk M.1.cls i ci j) (hk : sk k = ci) (hc : ci < 9) (hq : fk ci j = 2) (hr : rf k j = t) (kk : V E X (pc + 3) ls (vR t :: st) g) : V E X pc ls (vR k :: st) g := by
  obtain ⟨p, e, R, s, m, args, below, meth, c, cells, slots, Q, A0⟩ := X
  obtain ⟨hx, hb, hml, hown, hts, hcs, hAA, hfr, hlo, hce, hsl⟩ := id hX
  intro H locs rl hP hS hl
  subst hr
  obtain ⟨C, T, N, ty, ⟨f1, f2, f3, f4, rfl⟩, hj, hlink, hT, hft, -⟩ := hf
  have hk72 : k < 72 := sk_lt hk (by omega)
  refine va_get (C := C) (T := T) (N := nf ci) (ci := ci) (ref := C) (index := i) hx hb hts f2 hown hcs.1 hP k ((wsO_get E g hk72).trans (by rw [ent_obj hk hc])) f1 j hj (hts _ hlink) (by rw [hT]; exact fun _ h => h) (fv_get E g k hj) hd ?_
  have hfv : fv E g k j = tv E (vR (rf k j)) := by simp [fv, hk, hq, tv]
  rw [hfv]
  exact kk H locs rl hP hS hl
theorem k_puti (hX : Xk E M X) {i ci j k : Nat} {z : Int} (hd : decode M.2.1 pc = .ok (.putfield i, 3)) (hf : FLk M.1.cls i ci j) (hk : sk k = ci) (hc : ci < 9) (hq : fk ci j = 0) (kk : V E X (pc + 3) ls st (wr g k j z)) : V E X pc ls (vI z :: vR k :: st) g := by
  obtain ⟨p, e, R, s, m, args, below, meth, c, cells, slots, Q, A0⟩ := X
  obtain ⟨hx, hb, hml, hown, hts, hcs, hAA, hfr, hlo, hce, hsl⟩ := id hX
  intro H locs rl hP hS hl
  obtain ⟨C, T, N, ty, ⟨f1, f2, f3, f4, rfl⟩, hj, hlink, hT, hft, hfin⟩ := hf
  have hk72 : k < 72 := sk_lt hk (by omega)
  have hty : ty j = .int := by
    have h1 : ftk (ty j) = 0 := by rw [hft, hq]
    revert h1
    cases ty j <;> simp [ftk]
  refine va_put (C := C) (T := T) (N := nf ci) (ci := ci) (ref := C) (index := i) (ty := .int) hx hb hts f2 ty f3 f4 hown hcs.1 hP (wsO_D hcs.2.1 g hAA) hS k ((wsO_get E g hk72).trans (by rw [ent_obj hk hc])) f1 j hj (hts _ hlink) (by rw [hT]; exact fun _ h => h) (hfin.resolve_right (by omega)) (by rw [f3 j hj, hty]) rfl rfl (by simpa using hj) hd (fun H1 locs1 hP1 _ hS1 => ?_)
  have he : (wsO E g).set k (ea E k, .inr (ci, ((List.range (nf ci)).map (fv E g k)).set j (.int (zi z)))) = wsO E (wr g k j z) := by
    refine wsO_set hk72 ?_ (wr_o E g k j z)
    rw [ent_obj hk hc, fv_set (g' := wr g k j z) hj]
    · simp [fv, hk, hq, wr]
    · intro b hb'
      simp [fv, wr, hb']
  exact kk H1 locs1 rl (he ▸ (show va_P (eD E) vwCl ((wsO E g).set k (ea E k, .inr (ci, ((List.range (nf ci)).map (fv E g k)).set j (.int (zi z))))) H1 from hP1)) hS1 hl
theorem k_putz (hX : Xk E M X) {i ci j k : Nat} {z : Int} (hd : decode M.2.1 pc = .ok (.putfield i, 3)) (hf : FLk M.1.cls i ci j) (hk : sk k = ci) (hc : ci < 9) (hq : fk ci j = 3) (hz : z = 0 ∨ z = 1) (kk : V E X (pc + 3) ls st (wr g k j z)) : V E X pc ls (vI z :: vR k :: st) g := by
  obtain ⟨p, e, R, s, m, args, below, meth, c, cells, slots, Q, A0⟩ := X
  obtain ⟨hx, hb, hml, hown, hts, hcs, hAA, hfr, hlo, hce, hsl⟩ := id hX
  intro H locs rl hP hS hl
  have hz1 : narrow .boolean (.int (zi z)) = .int (zi z) := by rcases hz with rfl | rfl <;> decide +kernel
  have hz2 : fits .boolean (.int (zi z)) = true := by rcases hz with rfl | rfl <;> decide +kernel
  obtain ⟨C, T, N, ty, ⟨f1, f2, f3, f4, rfl⟩, hj, hlink, hT, hft, hfin⟩ := hf
  have hk72 : k < 72 := sk_lt hk (by omega)
  have hty : ty j = .boolean := by
    have h1 : ftk (ty j) = 3 := by rw [hft, hq]
    revert h1
    cases ty j <;> simp [ftk]
  refine va_put (C := C) (T := T) (N := nf ci) (ci := ci) (ref := C) (index := i) (ty := .boolean) hx hb hts f2 ty f3 f4 hown hcs.1 hP (wsO_D hcs.2.1 g hAA) hS k ((wsO_get E g hk72).trans (by rw [ent_obj hk hc])) f1 j hj (hts _ hlink) (by rw [hT]; exact fun _ h => h) (hfin.resolve_right (by omega)) (by rw [f3 j hj, hty]) hz1 hz2 (by simpa using hj) hd (fun H1 locs1 hP1 _ hS1 => ?_)
  have he : (wsO E g).set k (ea E k, .inr (ci, ((List.range (nf ci)).map (fv E g k)).set j (.int (zi z)))) = wsO E (wr g k j z) := by
    refine wsO_set hk72 ?_ (wr_o E g k j z)
    rw [ent_obj hk hc, fv_set (g' := wr g k j z) hj]
    · simp [fv, hk, hq, wr]
    · intro b hb'
      simp [fv, wr, hb']
  exact kk H1 locs1 rl (he ▸ (show va_P (eD E) vwCl ((wsO E g).set k (ea E k, .inr (ci, ((List.range (nf ci)).map (fv E g k)).set j (.int (zi z))))) H1 from hP1)) hS1 hl
theorem k_putl (hX : Xk E M X) {i ci j k : Nat} {z : Int64} (hd : decode M.2.1 pc = .ok (.putfield i, 3)) (hf : FLk M.1.cls i ci j) (hk : sk k = ci) (hc : ci < 9) (hq : fk ci j = 1) (kk : V E X (pc + 3) ls st (wl g k j z)) : V E X pc ls (vL z :: vR k :: st) g := by
  obtain ⟨p, e, R, s, m, args, below, meth, c, cells, slots, Q, A0⟩ := X
  obtain ⟨hx, hb, hml, hown, hts, hcs, hAA, hfr, hlo, hce, hsl⟩ := id hX
  intro H locs rl hP hS hl
  obtain ⟨C, T, N, ty, ⟨f1, f2, f3, f4, rfl⟩, hj, hlink, hT, hft, hfin⟩ := hf
  have hk72 : k < 72 := sk_lt hk (by omega)
  have hty : ty j = .long := by
    have h1 : ftk (ty j) = 1 := by rw [hft, hq]
    revert h1
    cases ty j <;> simp [ftk]
  refine va_put (C := C) (T := T) (N := nf ci) (ci := ci) (ref := C) (index := i) (ty := .long) hx hb hts f2 ty f3 f4 hown hcs.1 hP (wsO_D hcs.2.1 g hAA) hS k ((wsO_get E g hk72).trans (by rw [ent_obj hk hc])) f1 j hj (hts _ hlink) (by rw [hT]; exact fun _ h => h) (hfin.resolve_right (by omega)) (by rw [f3 j hj, hty]) rfl rfl (by simpa using hj) hd (fun H1 locs1 hP1 _ hS1 => ?_)
  have he : (wsO E g).set k (ea E k, .inr (ci, ((List.range (nf ci)).map (fv E g k)).set j (.long z))) = wsO E (wl g k j z) := by
    refine wsO_set hk72 ?_ (wl_o E g k j z)
    rw [ent_obj hk hc, fv_set (g' := wl g k j z) hj]
    · simp [fv, hk, hq, wl]
    · intro b hb'
      simp [fv, wl, hb']
  exact kk H1 locs1 rl (he ▸ (show va_P (eD E) vwCl ((wsO E g).set k (ea E k, .inr (ci, ((List.range (nf ci)).map (fv E g k)).set j (.long z)))) H1 from hP1)) hS1 hl
theorem ln_le (k : Nat) : ln k ≤ 18 := by
  by_cases h : k < 72
  · have h1 : ∀ k, k < 72 → ln k ≤ 18 := by decide +kernel
    exact h1 k h
  · unfold ln
    rw [List.getD_eq_getElem?_getD, List.getElem?_eq_none (by show 72 ≤ k; omega)]
    exact Nat.zero_le _
theorem k_iald (hX : Xk E M X) {k : Nat} {i : Int} (j : Nat) (hd : decode M.2.1 pc = .ok (.iaload, 1)) (hk : sk k = 10) (h0 : 0 ≤ i) {n : Nat} (hln0 : ln k = n) (h1n : i < (n : Int)) (hj : i.toNat = j) (kk : V E X (pc + 1) ls (vI (g.1 k j) :: st) g) : V E X pc ls (vI i :: vR k :: st) g := by
  obtain ⟨p, e, R, s, m, args, below, meth, c, cells, slots, Q, A0⟩ := X
  obtain ⟨hx, hb, hml, hown, hts, hcs, hAA, hfr, hlo, hce, hsl⟩ := id hX
  intro H locs rl hP hS hl
  have hk72 : k < 72 := sk_lt hk (by omega)
  have hln := ln_le k
  have h1 : i < (ln k : Int) := by rw [hln0]; exact h1n
  refine va_iald hx hb hcs.1 hP k 0 ((wsO_get E g hk72).trans (by rw [ent_ints hk (by omega) (by omega)])) rfl (zi_in h0 h1 (by omega)) hd ?_
  rw [zi_clamp h0 (by omega), hj]
  exact kk H locs rl hP hS hl
theorem k_bald (hX : Xk E M X) {k : Nat} {i : Int} (j : Nat) (hd : decode M.2.1 pc = .ok (.baload, 1)) (hk : sk k = 11) (h0 : 0 ≤ i) {n : Nat} (hln0 : ln k = n) (h1n : i < (n : Int)) (hj : i.toNat = j) (kk : V E X (pc + 1) ls (vI (g.1 k j) :: st) g) : V E X pc ls (vI i :: vR k :: st) g := by
  obtain ⟨p, e, R, s, m, args, below, meth, c, cells, slots, Q, A0⟩ := X
  obtain ⟨hx, hb, hml, hown, hts, hcs, hAA, hfr, hlo, hce, hsl⟩ := id hX
  intro H locs rl hP hS hl
  have hk72 : k < 72 := sk_lt hk (by omega)
  have hln := ln_le k
  have h1 : i < (ln k : Int) := by rw [hln0]; exact h1n
  refine va_bald hx hb hcs.1 hP k 1 ((wsO_get E g hk72).trans (by rw [ent_ints hk (by omega) (by omega)])) rfl (zi_in h0 h1 (by omega)) hd ?_
  rw [zi_clamp h0 (by omega), hj]
  exact kk H locs rl hP hS hl
theorem k_iast (hX : Xk E M X) {k : Nat} {i x : Int} (j : Nat) (hd : decode M.2.1 pc = .ok (.iastore, 1)) (hk : sk k = 10) (h0 : 0 ≤ i) {n : Nat} (hln0 : ln k = n) (h1n : i < (n : Int)) (hj : i.toNat = j) (kk : V E X (pc + 1) ls st (wr g k j x)) : V E X pc ls (vI x :: vI i :: vR k :: st) g := by
  obtain ⟨p, e, R, s, m, args, below, meth, c, cells, slots, Q, A0⟩ := X
  obtain ⟨hx, hb, hml, hown, hts, hcs, hAA, hfr, hlo, hce, hsl⟩ := id hX
  intro H locs rl hP hS hl
  have hk72 : k < 72 := sk_lt hk (by omega)
  have hln := ln_le k
  have h1 : i < (ln k : Int) := by rw [hln0]; exact h1n
  refine va_iast hx hb hcs.1 hP (wsO_D hcs.2.1 g hAA) hS k 0 ((wsO_get E g hk72).trans (by rw [ent_ints hk (by omega) (by omega)])) rfl (zi_in h0 h1 (by omega)) hd (fun H1 locs1 hP1 _ hS1 => ?_)
  rw [zi_clamp h0 (by omega), hj] at hP1
  rw [wsO_set (g' := wr g k j x) hk72 ?_ (wr_o E g k j x)] at hP1
  · exact kk H1 locs1 rl hP1 hS1 hl
  · rw [ent_ints hk (by omega) (by omega)]
    congr 4
    funext b
    by_cases hb' : b = j <;> simp [wr, upd, hb']
theorem k_bast (hX : Xk E M X) {k : Nat} {i x : Int} (j : Nat) (hd : decode M.2.1 pc = .ok (.bastore, 1)) (hk : sk k = 11) (h0 : 0 ≤ i) {n : Nat} (hln0 : ln k = n) (h1n : i < (n : Int)) (hj : i.toNat = j) (hx0 : -128 ≤ x ∧ x < 128) (kk : V E X (pc + 1) ls st (wr g k j x)) : V E X pc ls (vI x :: vI i :: vR k :: st) g := by
  obtain ⟨p, e, R, s, m, args, below, meth, c, cells, slots, Q, A0⟩ := X
  obtain ⟨hx, hb, hml, hown, hts, hcs, hAA, hfr, hlo, hce, hsl⟩ := id hX
  intro H locs rl hP hS hl
  have hk72 : k < 72 := sk_lt hk (by omega)
  have hln := ln_le k
  have h1 : i < (ln k : Int) := by rw [hln0]; exact h1n
  refine va_bast hx hb hcs.1 hP (wsO_D hcs.2.1 g hAA) hS k 1 ((wsO_get E g hk72).trans (by rw [ent_ints hk (by omega) (by omega)])) rfl (zi_in h0 h1 (by omega)) hd (fun H1 locs1 hP1 _ hS1 => ?_)
  rw [zi_clamp h0 (by omega), hj, vp_nar_byte, zi_b hx0] at hP1
  rw [wsO_set (g' := wr g k j x) hk72 ?_ (wr_o E g k j x)] at hP1
  · exact kk H1 locs1 rl hP1 hS1 hl
  · rw [ent_ints hk (by omega) (by omega)]
    congr 4
    funext b
    by_cases hb' : b = j <;> simp [wr, upd, hb']
theorem k_aaldL (hX : Xk E M X) {k q : Nat} {i : Int} (j : Nat) (hd : decode M.2.1 pc = .ok (.aaload, 1)) (hk : sk k = 12) (h0 : 0 ≤ i) {n : Nat} (hln0 : ln k = n) (h1n : i < (n : Int)) (hj : i.toNat = j) (hq : ra k + j = q) (kk : V E X (pc + 1) ls (vR q :: st) g) : V E X pc ls (vI i :: vR k :: st) g := by
  obtain ⟨p, e, R, s, m, args, below, meth, c, cells, slots, Q, A0⟩ := X
  obtain ⟨hx, hb, hml, hown, hts, hcs, hAA, hfr, hlo, hce, hsl⟩ := id hX
  intro H locs rl hP hS hl
  have hk72 : k < 72 := sk_lt hk (by omega)
  have hln := ln_le k
  have h1 : i < (ln k : Int) := by rw [hln0]; exact h1n
  refine va_aldq (C := RX2) hx hb hcs.1 hP k 2 ((wsO_get E g hk72).trans (by rw [ent_refs hk (by omega)])) rfl (zi_in h0 h1 (by omega)) hd ?_
  rw [zi_clamp h0 (by omega), hj, hq]
  exact kk H locs rl hP hS hl
theorem k_aaldP (hX : Xk E M X) {k q : Nat} {i : Int} (j : Nat) (hd : decode M.2.1 pc = .ok (.aaload, 1)) (hk : sk k = 13) (h0 : 0 ≤ i) {n : Nat} (hln0 : ln k = n) (h1n : i < (n : Int)) (hj : i.toNat = j) (hq : ra k + j = q) (kk : V E X (pc + 1) ls (vR q :: st) g) : V E X pc ls (vI i :: vR k :: st) g := by
  obtain ⟨p, e, R, s, m, args, below, meth, c, cells, slots, Q, A0⟩ := X
  obtain ⟨hx, hb, hml, hown, hts, hcs, hAA, hfr, hlo, hce, hsl⟩ := id hX
  intro H locs rl hP hS hl
  have hk72 : k < 72 := sk_lt hk (by omega)
  have hln := ln_le k
  have h1 : i < (ln k : Int) := by rw [hln0]; exact h1n
  refine va_aldq (C := RX4) hx hb hcs.1 hP k 3 ((wsO_get E g hk72).trans (by rw [ent_refs hk (by omega)])) rfl (zi_in h0 h1 (by omega)) hd ?_
  rw [zi_clamp h0 (by omega), hj, hq]
  exact kk H locs rl hP hS hl
theorem k_aaldI (hX : Xk E M X) {k q : Nat} {i : Int} (j : Nat) (hd : decode M.2.1 pc = .ok (.aaload, 1)) (hk : sk k = 14) (h0 : 0 ≤ i) {n : Nat} (hln0 : ln k = n) (h1n : i < (n : Int)) (hj : i.toNat = j) (hq : ra k + j = q) (kk : V E X (pc + 1) ls (vR q :: st) g) : V E X pc ls (vI i :: vR k :: st) g := by
  obtain ⟨p, e, R, s, m, args, below, meth, c, cells, slots, Q, A0⟩ := X
  obtain ⟨hx, hb, hml, hown, hts, hcs, hAA, hfr, hlo, hce, hsl⟩ := id hX
  intro H locs rl hP hS hl
  have hk72 : k < 72 := sk_lt hk (by omega)
  have hln := ln_le k
  have h1 : i < (ln k : Int) := by rw [hln0]; exact h1n
  have hin := zi_in h0 h1 (by omega)
  have hlt : (zi i).toNatClampNeg < ln k := Nat.not_le.mp fun q => hin (Or.inr q)
  have hcell : H[ea E k]? = some (arrV (ey E 14) (ln k) (fun j => va_rf (some (ea E (ra k + j))))) := hP k (ea E k, .inl (ey E 14, ln k, .inr (.inr (.inr (.inr (fun j => some (ea E (ra k + j)))))))) ((wsO_get E g hk72).trans (by rw [ent_refs hk (by omega)]))
  refine W.aald (v := .ref (ea E q)) (ty := .array .int) hx hb hcell ((hcs.1.2 4 _ rfl).1 (ln k) _) rfl (fun q => by cases q) (by rw [arrV_size]; exact hin) ?_ rfl rfl hd (kk H locs rl hP hS hl)
  rw [arrV_read _ _ hlt, zi_clamp h0 (by omega), hj, hq]
  rfl
theorem k_alen (hX : Xk E M X) {k t : Nat} (hd : decode M.2.1 pc = .ok (.arraylength, 1)) (hk : sk k = t) (ht : t = 10 ∨ t = 12 ∨ t = 13) {z : Int} (hz : (ln k : Int) = z) (kk : V E X (pc + 1) ls (vI z :: st) g) : V E X pc ls (vR k :: st) g := by
  obtain ⟨p, e, R, s, m, args, below, meth, c, cells, slots, Q, A0⟩ := X
  obtain ⟨hx, hb, hml, hown, hts, hcs, hAA, hfr, hlo, hce, hsl⟩ := id hX
  intro H locs rl hP hS hl
  subst hz
  have hk72 : k < 72 := sk_lt hk (by omega)
  have hw : W p (eL E) e R s m args below meth c H locs cells slots Q (F0 m (pc + 1) rl (.int (Int32.ofNat (ln k)) :: st.map (tv E))) := by
    rw [← zi_nat]
    exact kk H locs rl hP hS hl
  rcases ht with rfl | rfl | rfl
  · exact va_alen hx hb hcs.1 hP k 0 ((wsO_get E g hk72).trans (by rw [ent_ints hk (by omega) (by omega)])) rfl rfl hd hw
  · exact va_alen hx hb hcs.1 hP k 2 ((wsO_get E g hk72).trans (by rw [ent_refs hk (by omega)])) rfl rfl hd hw
  · exact va_alen hx hb hcs.1 hP k 3 ((wsO_get E g hk72).trans (by rw [ent_refs hk (by omega)])) rfl rfl hd hw
theorem k_clen (hX : Xk E M X) (hd : decode M.2.1 pc = .ok (.arraylength, 1)) (kk : V E X (pc + 1) ls (vI 5 :: st) g) : V E X pc ls (vR 900 :: st) g := by
  obtain ⟨p, e, R, s, m, args, below, meth, c, cells, slots, Q, A0⟩ := X
  obtain ⟨hx, hb, hml, hown, hts, hcs, hAA, hfr, hlo, hce, hsl⟩ := id hX
  intro H locs rl hP hS hl
  exact va_tlen (t := ea E 900) hx hb (hT := by
    obtain ⟨-, -, -, h4, -⟩ := hcs
    exact h4) (A := A0) hS (v := zi 5) rfl hd (kk H locs rl hP hS hl)
theorem k_cld (hX : Xk E M X) {i : Int} (j : Nat) (hd : decode M.2.1 pc = .ok (.iaload, 1)) (h0 : 0 ≤ i) (h1 : i < 5) (hj : i.toNat = j) (kk : V E X (pc + 1) ls (vI (lgt j) :: st) g) : V E X pc ls (vI i :: vR 900 :: st) g := by
  obtain ⟨p, e, R, s, m, args, below, meth, c, cells, slots, Q, A0⟩ := X
  obtain ⟨hx, hb, hml, hown, hts, hcs, hAA, hfr, hlo, hce, hsl⟩ := id hX
  intro H locs rl hP hS hl
  refine va_ti (A := A0) hx hb (hcs.2.2.2.1) hS (zi_in h0 h1 (by omega)) (v := .int (zi (lgt j))) ?_ hd (kk H locs rl hP hS hl)
  rw [zi_clamp h0 (by omega), hj]
theorem k_gsL (hX : Xk E M X) {i : Nat} (hd : decode M.2.1 pc = .ok (.getstatic i, 3)) (hf : Cond.fieldLink M.1.cls i "DyeLots" "LIGHTS" "[I" ∈ TB) (kk : V E X (pc + 3) ls (vR 900 :: st) g) : V E X pc ls st g := by
  obtain ⟨p, e, R, s, m, args, below, meth, c, cells, slots, Q, A0⟩ := X
  obtain ⟨hx, hb, hml, hown, hts, hcs, hAA, hfr, hlo, hce, hsl⟩ := id hX
  intro H locs rl hP hS hl
  exact va_gets (A := A0) hx hb hcs.2.2.1 hS hown (hts _ hf) (fun _ h => h) hd (kk H locs rl hP hS hl)
theorem k_gsLN (hX : Xk E M X) {i : Nat} {host : String} (hd : decode M.2.1 pc = .ok (.getstatic i, 3)) (hf : Cond.fieldLinkNest M.1.cls i "DyeLots" "LIGHTS" "[I" host ∈ nestW) (kk : V E X (pc + 3) ls (vR 900 :: st) g) : V E X pc ls st g := by
  obtain ⟨p, e, R, s, m, args, below, meth, c, cells, slots, Q, A0⟩ := X
  obtain ⟨hx, hb, hml, hown, hts, hcs, hAA, hfr, hlo, hce, hsl⟩ := id hX
  intro H locs rl hP hS hl
  exact va_getsN (A := A0) hx hb hcs.2.2.1 hS hown (va_Nw.use rfl (hcs.2.2.2.2.2.2.2.2 _ hf)) (fun _ h => h) hd (kk H locs rl hP hS hl)
theorem k_ldcs (hX : Xk E M X) {i : Nat} (hd : decode M.2.1 pc = .ok (.ldc i, 2)) (hf : (M.1.cls = "DyeLots$Page" ∧ i = 23) ∨ (M.1.cls = "DyeLots$Work" ∧ i = 43)) (kk : V E X (pc + 2) ls (vR 901 :: st) g) : V E X pc ls st g := by
  obtain ⟨p, e, R, s, m, args, below, meth, c, cells, slots, Q, A0⟩ := X
  obtain ⟨hx, hb, hml, hown, hts, hcs, hAA, hfr, hlo, hce, hsl⟩ := id hX
  intro H locs rl hP hS hl
  obtain ⟨-, -, -, -, -, -, h7, h8, -⟩ := hcs
  rcases hf with ⟨h1, rfl⟩ | ⟨h1, rfl⟩
  · exact va_ldcS (own := M.1.cls) hx hb hown (by rw [h1]; exact h7) hd (kk H locs rl hP hS hl)
  · exact va_ldcS (own := M.1.cls) hx hb hown (by rw [h1]; exact h8) hd (kk H locs rl hP hS hl)
theorem k_csS (hX : Xk E M X) {i : Nat} (hd : decode M.2.1 pc = .ok (.getstatic i, 3)) (hf : Cond.fieldLink M.1.cls i "java/lang/String" "COMPACT_STRINGS" "Z" ∈ TB) (kk : V E X (pc + 3) ls (vI 1 :: st) g) : V E X pc ls st g := by
  obtain ⟨p, e, R, s, m, args, below, meth, c, cells, slots, Q, A0⟩ := X
  obtain ⟨hx, hb, hml, hown, hts, hcs, hAA, hfr, hlo, hce, hsl⟩ := id hX
  intro H locs rl hP hS hl
  exact va_gets (A := A0) hx hb hcs.2.2.2.2.1 hS hown (hts _ hf) (fun _ h => h) hd (kk H locs rl hP hS hl)
theorem k_cod (hX : Xk E M X) {i : Nat} (hd : decode M.2.1 pc = .ok (.getfield i, 3)) (hf : Cond.fieldLink M.1.cls i "java/lang/String" "coder" "B" ∈ TB) (kk : V E X (pc + 3) ls (vI 0 :: st) g) : V E X pc ls (vR 901 :: st) g := by
  obtain ⟨p, e, R, s, m, args, below, meth, c, cells, slots, Q, A0⟩ := X
  obtain ⟨hx, hb, hml, hown, hts, hcs, hAA, hfr, hlo, hce, hsl⟩ := id hX
  intro H locs rl hP hS hl
  exact vk_getf (A := A0) hx hb (hcs.2.2.2.2.2.1.1 0 (by decide)).2.1 hS hown (hts _ hf) (fun _ h => h) hd (kk H locs rl hP hS hl)
theorem k_val (hX : Xk E M X) {i : Nat} (hd : decode M.2.1 pc = .ok (.getfield i, 3)) (hf : Cond.fieldLink M.1.cls i "java/lang/String" "value" "[B" ∈ TB) (kk : V E X (pc + 3) ls (vR 902 :: st) g) : V E X pc ls (vR 901 :: st) g := by
  obtain ⟨p, e, R, s, m, args, below, meth, c, cells, slots, Q, A0⟩ := X
  obtain ⟨hx, hb, hml, hown, hts, hcs, hAA, hfr, hlo, hce, hsl⟩ := id hX
  intro H locs rl hP hS hl
  exact vk_getf (A := A0) hx hb (hcs.2.2.2.2.2.1.1 0 (by decide)).2.2.1 hS hown (hts _ hf) (fun _ h => h) hd (kk H locs rl hP hS hl)
theorem k_vlen (hX : Xk E M X) (hd : decode M.2.1 pc = .ok (.arraylength, 1)) (kk : V E X (pc + 1) ls (vI 5 :: st) g) : V E X pc ls (vR 902 :: st) g := by
  obtain ⟨p, e, R, s, m, args, below, meth, c, cells, slots, Q, A0⟩ := X
  obtain ⟨hx, hb, hml, hown, hts, hcs, hAA, hfr, hlo, hce, hsl⟩ := id hX
  intro H locs rl hP hS hl
  exact va_tlen (t := ea E 902) (A := A0) hx hb (hcs.2.2.2.2.2.1.1 0 (by decide)).2.2.2 hS (v := zi 5) rfl hd (kk H locs rl hP hS hl)
theorem k_vld (hX : Xk E M X) {i : Int} (j : Nat) (hd : decode M.2.1 pc = .ok (.baload, 1)) (h0 : 0 ≤ i) (h1 : i < 5) (hj : i.toNat = j) (kk : V E X (pc + 1) ls (vI (pbs j) :: st) g) : V E X pc ls (vI i :: vR 902 :: st) g := by
  obtain ⟨p, e, R, s, m, args, below, meth, c, cells, slots, Q, A0⟩ := X
  obtain ⟨hx, hb, hml, hown, hts, hcs, hAA, hfr, hlo, hce, hsl⟩ := id hX
  intro H locs rl hP hS hl
  refine va_tb (t := ea E 902) (A := A0) hx hb (hcs.2.2.2.2.2.1.1 0 (by decide)).2.2.2 hS (zi_in h0 h1 (by decide)) (v := .int (zi (pbs j))) ?_ hd (kk H locs rl hP hS hl)
  rw [zi_clamp h0 (by omega), hj]
  have hj5 : j < 5 := by omega
  have : ∀ j, j < 5 → (([[112, 98, 115, 99, 104]] : List (List Int32)).getD 0 []).getD j 0 = zi (pbs j) := by decide +kernel
  exact congrArg Value.int (this j hj5)
theorem rest_le {st : List mv} (h : 2 * st.length ≤ 8) : ((st.map (tv E)).map fun v => v.category).sum ≤ 8 := by
  have h1 : ∀ l : List mv, ((l.map (tv E)).map fun v => v.category).sum ≤ 2 * l.length := by
    intro l
    induction l with
    | nil => simp
    | cons a l ih =>
      have h2 : (tv E a).category ≤ 2 := by rcases lv_cat (tv E a) with h | h <;> omega
      simp only [List.map_cons, List.sum_cons, List.length_cons]
      omega
  exact Nat.le_trans (h1 st) h
/-- the words that a stack takes -/
def scat : List mv → Nat
  | [] => 0
  | .inr (.inl _) :: l => scat l + 2
  | _ :: l => scat l + 1
theorem scat_eq (E : En) : ∀ st : List mv, ((st.map (tv E)).map fun v => v.category).sum = scat st
  | [] => rfl
  | .inl z :: l => by
    rw [List.map_cons, List.map_cons, List.sum_cons, scat_eq E l]
    show 1 + scat l = scat l + 1
    omega
  | .inr (.inl x) :: l => by
    rw [List.map_cons, List.map_cons, List.sum_cons, scat_eq E l]
    show 2 + scat l = scat l + 2
    omega
  | .inr (.inr k) :: l => by
    rw [List.map_cons, List.map_cons, List.sum_cons, scat_eq E l]
    show 1 + scat l = scat l + 1
    omega
theorem k_max (hX : Xk E M X) {i : Nat} {a b : Int} (hd : decode M.2.1 pc = .ok (.invokestatic i, 3)) (hf : Cond.methodLink M.1.cls i Lib.Math.max.name ∈ TB) (ha : bd a) (hb0 : bd b) (hr : scat st ≤ 8) (kk : V E X (pc + 3) ls (vI (max a b) :: st) g) : V E X pc ls (vI b :: vI a :: st) g := by
  obtain ⟨p, e, R, s, m, args, below, meth, c, cells, slots, Q, A0⟩ := X
  obtain ⟨hx, hb, hml, hown, hts, hcs, hAA, hfr, hlo, hce, hsl⟩ := id hX
  intro H locs rl hP hS hl
  refine va_mmax hx hb hl.1.symm hown (hts _ hf) (hts _ tw_max_s) (hts _ tw_math) (hts _ tw_max_c) hfr (by rw [scat_eq]; omega) hce hsl hd ?_
  have he : (if zi a < zi b then zi b else zi a) = zi (max a b) := by
    by_cases h : a < b
    · rw [if_pos ((zi_lt ha hb0).mpr h)]; congr 1; omega
    · rw [if_neg (fun q => h ((zi_lt ha hb0).mp q))]; congr 1; omega
  rw [he]
  exact kk H locs rl hP hS hl
theorem k_min (hX : Xk E M X) {i : Nat} {a b : Int} (hd : decode M.2.1 pc = .ok (.invokestatic i, 3)) (hf : Cond.methodLink M.1.cls i Lib.Math.min.name ∈ TB) (ha : bd a) (hb0 : bd b) (hr : scat st ≤ 8) (kk : V E X (pc + 3) ls (vI (min a b) :: st) g) : V E X pc ls (vI b :: vI a :: st) g := by
  obtain ⟨p, e, R, s, m, args, below, meth, c, cells, slots, Q, A0⟩ := X
  obtain ⟨hx, hb, hml, hown, hts, hcs, hAA, hfr, hlo, hce, hsl⟩ := id hX
  intro H locs rl hP hS hl
  refine va_mmin hx hb hl.1.symm hown (hts _ hf) (hts _ tw_min_s) (hts _ tw_math) (hts _ tw_min_c) hfr (by rw [scat_eq]; omega) hce hsl hd ?_
  have he : (if zi b < zi a then zi b else zi a) = zi (min a b) := by
    by_cases h : b < a
    · rw [if_pos ((zi_lt hb0 ha).mpr h)]; congr 1; omega
    · rw [if_neg (fun q => h ((zi_lt hb0 ha).mp q))]; congr 1; omega
  rw [he]
  exact kk H locs rl hP hS hl
theorem k_abs (hX : Xk E M X) {i : Nat} {a : Int} (hd : decode M.2.1 pc = .ok (.invokestatic i, 3)) (hf : Cond.methodLink M.1.cls i Lib.Math.abs.name ∈ TB) (ha : bd a) (hr : scat st ≤ 8) (kk : V E X (pc + 3) ls (vI (a.natAbs : Int) :: st) g) : V E X pc ls (vI a :: st) g := by
  obtain ⟨p, e, R, s, m, args, below, meth, c, cells, slots, Q, A0⟩ := X
  obtain ⟨hx, hb, hml, hown, hts, hcs, hAA, hfr, hlo, hce, hsl⟩ := id hX
  intro H locs rl hP hS hl
  refine va_mabs hx hb hl.1.symm hown (hts _ hf) (hts _ tw_abs_s) (hts _ tw_math) (hts _ tw_abs_c) hfr (by rw [scat_eq]; omega) hce hsl hd ?_
  have he : (if 0 ≤ zi a then zi a else 0 - zi a) = zi (a.natAbs : Int) := by
    have h0 : bd 0 := by decide
    have h1 := zi_le h0 ha
    rw [zi_0] at h1
    by_cases h : 0 ≤ a
    · rw [if_pos (h1.mpr h)]; congr 1; omega
    · rw [if_neg (fun q => h (h1.mp q)), ← zi_0, zi_sub]; congr 1; omega
  rw [he]
  exact kk H locs rl hP hS hl
theorem k_acopy (hX : Xk E M X) {i : Nat} (hd : decode M.2.1 pc = .ok (.invokestatic i, 3)) (hf : Cond.methodLink M.1.cls i arraycopyName ∈ TB) (hr : scat st ≤ 8) (kk : V E X (pc + 3) ls st (fun a b => if a = 27 ∧ b < 5 then g.1 26 b else g.1 a b, g.2)) : V E X pc ls (vI 5 :: vI 0 :: vR 27 :: vI 0 :: vR 26 :: st) g := by
  obtain ⟨p, e, R, s, m, args, below, meth, c, cells, slots, Q, A0⟩ := X
  obtain ⟨hx, hb, hml, hown, hts, hcs, hAA, hfr, hlo, hce, hsl⟩ := id hX
  intro H locs rl hP hS hl
  have z0 : (zi 0).toNatClampNeg = 0 := by decide
  have z5 : (zi 5).toNatClampNeg = 5 := by decide
  refine va_copyi (ty := .int) hx hb hl.1.symm hown (hts _ hf) (hts _ tw_ac_n) (hts _ tw_ac_s) (hts _ tw_ac_i) hcs.1 hP (wsO_D hcs.2.1 g hAA) hS 26 27 0 0 ((wsO_get E g (by decide)).trans (by rw [ent_ints (k := 26) (t := 10) rfl (by decide) (by decide)])) ((wsO_get E g (by decide)).trans (by rw [ent_ints (k := 27) (t := 10) rfl (by decide) (by decide)])) rfl rfl rfl (by decide) (by decide) (by decide) (by rw [z0, z5]; decide) (by rw [z0, z5]; decide) (fun _ _ => rfl) hfr ?_ hd (fun H1 locs1 hP1 _ hS1 => ?_)
  · rw [scat_eq]
    have : nativeFrameWords "java/lang/System" "arraycopy" 5 + 11 ≤ 50 := by decide +kernel
    omega
  · rw [z0, z5] at hP1
    rw [wsO_set (E := E) (g := g) (k := 27) (g' := (fun a b => if a = 27 ∧ b < 5 then g.1 26 b else g.1 a b, g.2)) (by decide) ?_ (fun a ha => ent_ne (by funext b; simp [ha]) rfl)] at hP1
    · exact kk H1 locs1 rl hP1 hS1 hl
    · rw [ent_ints (k := 27) (t := 10) rfl (by decide) (by decide)]
      congr 4
      funext b
      by_cases hb' : b < 5 <;> simp [va_cpy, hb']
theorem k_iret {d : Nat} {post : Option mv → Mm → Prop} (hX : Wk E M X d post) {z : Int} (hd : decode M.2.1 pc = .ok (.ireturn, 1)) (hr : M.2.2.2 = some .int) (hp : post (some (vI z)) g) : V E X pc ls [vI z] g := by
  obtain ⟨p, e, R, s, m, args, below, meth, c, cells, slots, Q, A0⟩ := X
  obtain ⟨⟨hx, hb, hml, hown, hts, hcs, hAA, hfr, hlo, hce, hsl⟩, ⟨rfl, hlocks, rfl⟩, hrt, -⟩ := id hX
  intro H locs rl hP hS hl
  exact W.iret hx hb (hrt.trans hr) (fun t ht hw => ⟨⟨some (vI z), g, rfl, hp, by rw [ht]; exact hP⟩, hS.F ht⟩) hS.2.2 hd hlocks
theorem k_zret {d : Nat} {post : Option mv → Mm → Prop} (hX : Wk E M X d post) {z : Int} (hd : decode M.2.1 pc = .ok (.ireturn, 1)) (hr : M.2.2.2 = some .boolean) (hz : z = 0 ∨ z = 1) (hp : post (some (vI z)) g) : V E X pc ls [vI z] g := by
  obtain ⟨p, e, R, s, m, args, below, meth, c, cells, slots, Q, A0⟩ := X
  obtain ⟨⟨hx, hb, hml, hown, hts, hcs, hAA, hfr, hlo, hce, hsl⟩, ⟨rfl, hlocks, rfl⟩, hrt, -⟩ := id hX
  intro H locs rl hP hS hl
  exact W.zret hx hb (hrt.trans hr) (by rcases hz with rfl | rfl <;> decide +kernel) (fun t ht hw => ⟨⟨some (vI z), g, rfl, hp, by rw [ht]; exact hP⟩, hS.F ht⟩) hS.2.2 hd hlocks
theorem k_lret {d : Nat} {post : Option mv → Mm → Prop} (hX : Wk E M X d post) {z : Int64} (hd : decode M.2.1 pc = .ok (.lreturn, 1)) (hr : M.2.2.2 = some .long) (hp : post (some (vL z)) g) : V E X pc ls [vL z] g := by
  obtain ⟨p, e, R, s, m, args, below, meth, c, cells, slots, Q, A0⟩ := X
  obtain ⟨⟨hx, hb, hml, hown, hts, hcs, hAA, hfr, hlo, hce, hsl⟩, ⟨rfl, hlocks, rfl⟩, hrt, -⟩ := id hX
  intro H locs rl hP hS hl
  exact W.lret hx hb (hrt.trans hr) (fun t ht hw => ⟨⟨some (vL z), g, rfl, hp, by rw [ht]; exact hP⟩, hS.F ht⟩) hS.2.2 hd hlocks
theorem k_vret {d : Nat} {post : Option mv → Mm → Prop} (hX : Wk E M X d post) (hd : decode M.2.1 pc = .ok (.return_, 1)) (hr : M.2.2.2 = none) (hp : post none g) : V E X pc ls [] g := by
  obtain ⟨p, e, R, s, m, args, below, meth, c, cells, slots, Q, A0⟩ := X
  obtain ⟨⟨hx, hb, hml, hown, hts, hcs, hAA, hfr, hlo, hce, hsl⟩, ⟨rfl, hlocks, rfl⟩, hrt, -⟩ := id hX
  intro H locs rl hP hS hl
  exact W.vret hx hb (hrt.trans hr) (fun t ht hw => ⟨⟨none, g, rfl, hp, by rw [ht]; exact hP⟩, hS.F ht⟩) hS.2.2 hd hlocks
theorem Pq_blind (E : En) (as : List mv) (g : Mm) : FrameBlind (Pq E as g) := fun a U fr mk h => ⟨h.1, h.2.1, h.2.2.blind rfl rfl⟩
/-- what of a call goes on -/
theorem k_run {p : Program} {e : Env} {R : Room} {s : State} {m : MethodId} {args : Array Value} {below : List Frame} {meth : Method} {c : Code} {cells slots : Nat} {Q : State → Prop} {A0 : Nat → Prop} {H : Heap} {locs : List Loc} {rl : Array Slot} {st0 rest : List mv} {a : Array Value} {post : Option mv → Mm → Prop}
    (hr : va_Run p (eL E) e R s m args below meth c H locs cells slots 0 0 (F0 m pc rl (st0.map (tv E))) (rest.map (tv E)) (Qq E post a) (wA E)) (hS : va_S A0 s.heap H locs) (hAA : ∀ q, wA E q → A0 q) (hl : lv_has rl c.maxLocals (asc E 0 ls))
    (kk : ∀ (r : Option mv) (g' : Mm), post r g' → V E (p, e, R, s, m, args, below, meth, c, cells, slots, Q, A0) (pc + 3) ls (r.toList ++ rest) g') : W p (eL E) e R s m args below meth c H locs cells slots Q (F0 m pc rl (st0.map (tv E))) := by
  intro T hT X
  obtain ⟨v, st₀, t, T', L, h0, X', hL, e1, e2, ⟨⟨r, g', hv, hp, hP'⟩, hz, hk⟩, stp⟩ := hr T hT X
  rw [h0] at hz hk
  have hv2 : v = r.map (tv E) := Outcome.returned.inj hv
  subst hv2
  obtain ⟨t2, a1, b1⟩ := kk r g' hp T'.heap (locs ++ L) rl (by rw [e1]; exact hP')
    ⟨Nat.le_trans hS.1 (by rw [e1]; exact hz), fun q h1 h2 => by rw [e1, hk q (Nat.lt_of_lt_of_le h1 hS.1) (fun z => h2 (hAA q z))]; exact hS.2.1 q h1 h2, fun q hq => by
      rcases List.mem_append.mp hq with h | h
      · exact hS.2.2 q h
      · exact hAA _ (hL q h)⟩ hl T' rfl X'
  refine ⟨t2, stp t2 ?_, b1⟩
  cases r with
  | none => exact a1
  | some w => exact a1
theorem cs_call {A0 : Nat → Prop} {s : State} {H : Heap} {locs : List Loc} (hcs : cs E A0 s) (hAA : ∀ q, wA E q → A0 q) (hS : va_S A0 s.heap H locs) (hP : va_P (eD E) vwCl (wsO E g) H) (as : List mv) : ∀ U : State, U.heap = H → s.WarmedH U.vm → Pq E as g (as.map (tv E)).toArray U :=
  fun U hU hW => ⟨rfl, by rw [hU]; exact hP, hcs.go hW (fun a h1 h2 => by rw [hU]; exact hS.2.1 a h1 h2) hAA⟩
def fitR (d2 : Nat) (M2 : Mt) (X : Cx) : Prop := d2 + 1 ≤ X.2.2.1.frames ∧ 8 + (M2.2.2.1 + 11) + 64 * d2 ≤ X.2.2.1.locals
theorem fit_of {d d2 : Nat} {M2 : Mt} {post : Option mv → Mm → Prop} (hX : Wk E M X d post) (h : d2 < d) (hM : MG M2) : fitR d2 M2 X := by
  have h1 := hM.2.2.2.2
  unfold fitR
  rw [hX.2.2.2]
  show d2 + 1 ≤ d ∧ 8 + (M2.2.2.1 + 11) + 64 * d2 ≤ 64 * d
  omega
theorem good_all (M2 : Mt) (h : mcode M2 ∈ TB) : GoodIn TB (mcode M2 :: TB) := fun w hw => by
  rcases List.mem_cons.mp hw with rfl | hw
  · exact ⟨h, good_of_word (TB_good _ h)⟩
  · exact ⟨hw, good_of_word (TB_good _ hw)⟩
theorem k_callV (hX : Xk E M X) {i n d2 k ci : Nat} {M2 : Mt} {as rest st0 : List mv} {q : Option mv → Mm → Prop} {C : vw_C} (hd : decode M.2.1 pc = .ok (.invokevirtual i, 3)) (hlk : LkV M.1.cls i M2 n) (hfit : fitR d2 M2 X) (hn : as.length = n) (hk : sk k = ci) (hc : ci < 9) (hC : vwCl[ci]? = some C) (hC2 : C.1 = M2.1.cls) (hst : as.reverse ++ vR k :: rest = st0) (hr : scat rest ≤ 8) (hok : Ok E d2 M2 (vR k :: as) g q) (kk : ∀ (r : Option mv) (g' : Mm), q r g' → V E X (pc + 3) ls (r.toList ++ rest) g') : V E X pc ls st0 g := by
  obtain ⟨p, e, R, s, m, args, below, meth, c, cells, slots, Q, A0⟩ := X
  obtain ⟨hx, hb, hml, hown, hts, hcs, hAA, hfr, hlo, hce, hsl⟩ := id hX
  intro H locs rl hP hS hl
  subst hst
  have hk72 : k < 72 := sk_lt hk (by omega)
  obtain ⟨l1, l2, l3, l4, hpl, hco, hini, hne, -⟩ := hlk
  refine k_run (va_runV (As := as.map (tv E)) (b := ea E k) (C := M2.1.cls) (n := n) (bytes := M2.2.1) (maxL := M2.2.2.1) (ret := M2.2.2.2) ⟨hx, hb, hml, hown, hts⟩ hok ⟨callB_of n hts (good_all M2 hco) rfl rfl rfl (hts _ hini) (hts _ l1) ⟨hne.1, hne.2, l4⟩ hfit, hts _ l2, hts _ l3⟩ ⟨Pq_blind E _ _, ?_, cs_call hcs hAA hS hP (vR k :: as)⟩ rfl (by simpa using hn) (hl.1.trans hml) ?_ ?_ hd ⟨hce, hsl⟩) hS hAA hl kk
  · rw [← hC2]
    exact va_recv hcs.1 hP (q0 := k) hC ((wsO_get E g hk72).trans (by rw [ent_obj hk hc]))
  · simp [tv]
  · show 2 * 0 + _ ≤ 8
    rw [scat_eq]; omega
theorem k_callS (hX : Xk E M X) {i n d2 : Nat} {M2 : Mt} {as rest st0 : List mv} {q : Option mv → Mm → Prop} (hd : decode M.2.1 pc = .ok (.invokestatic i, 3)) (hlk : LkS M.1.cls i M2 n) (hfit : fitR d2 M2 X) (hn : as.length = n) (hst : as.reverse ++ rest = st0) (hr : scat rest ≤ 8) (hok : Ok E d2 M2 as g q) (kk : ∀ (r : Option mv) (g' : Mm), q r g' → V E X (pc + 3) ls (r.toList ++ rest) g') : V E X pc ls st0 g := by
  obtain ⟨p, e, R, s, m, args, below, meth, c, cells, slots, Q, A0⟩ := X
  obtain ⟨hx, hb, hml, hown, hts, hcs, hAA, hfr, hlo, hce, hsl⟩ := id hX
  intro H locs rl hP hS hl
  subst hst
  obtain ⟨l1, l2, l4, hpl, hco, hini, hne, -⟩ := hlk
  refine k_run (va_runS (As := as.map (tv E)) (n := n) (bytes := M2.2.1) (maxL := M2.2.2.1) (ret := M2.2.2.2) ⟨hx, hb, hml, hown, hts⟩ hok ⟨callB_of n hts (good_all M2 hco) rfl rfl rfl (hts _ hini) (hts _ l1) ⟨hne.1, hne.2, l4⟩ hfit, hts _ l2⟩ ⟨Pq_blind E _ _, cs_call hcs hAA hS hP as⟩ rfl (by simpa using hn) (hl.1.trans hml) ?_ ?_ hd ⟨hce, hsl⟩) hS hAA hl kk
  · simp
  · show 2 * 0 + _ ≤ 8
    rw [scat_eq]; omega
theorem k_callN (hX : Xk E M X) {i n d2 : Nat} {M2 : Mt} {host : String} {as rest st0 : List mv} {q : Option mv → Mm → Prop} (hd : decode M.2.1 pc = .ok (.invokestatic i, 3)) (hlk : LkN M.1.cls i M2 host n) (hfit : fitR d2 M2 X) (hn : as.length = n) (hst : as.reverse ++ rest = st0) (hr : scat rest ≤ 8) (hok : Ok E d2 M2 as g q) (kk : ∀ (r : Option mv) (g' : Mm), q r g' → V E X (pc + 3) ls (r.toList ++ rest) g') : V E X pc ls st0 g := by
  obtain ⟨p, e, R, s, m, args, below, meth, c, cells, slots, Q, A0⟩ := X
  obtain ⟨hx, hb, hml, hown, hts, hcs, hAA, hfr, hlo, hce, hsl⟩ := id hX
  intro H locs rl hP hS hl
  subst hst
  obtain ⟨l1, l2, l4, hpl, hco, hini, hne, -⟩ := hlk
  refine k_run (va_runSN (As := as.map (tv E)) (n := n) (bytes := M2.2.1) (maxL := M2.2.2.1) (ret := M2.2.2.2) ⟨hx, hb, hml, hown, hts⟩ hok ⟨va_cnB n hts (good_all M2 hco) rfl rfl rfl (hcs.2.2.2.2.2.2.2.2 _ l1) (hts _ hini) ⟨hne.1, hne.2, l4⟩ hfit, hts _ l2, trivial⟩ ⟨Pq_blind E _ _, cs_call hcs hAA hS hP as⟩ rfl (by simpa using hn) (hl.1.trans hml) ?_ ?_ hd ⟨hce, hsl⟩) hS hAA hl kk
  · simp
  · show 2 * 0 + _ ≤ 8
    rw [scat_eq]; omega
theorem k_callT (hX : Xk E M X) {i n d2 : Nat} {M2 : Mt} {as rest st0 : List mv} {q : Option mv → Mm → Prop} (hd : decode M.2.1 pc = .ok (.invokevirtual i, 3)) (hlk : LkV M.1.cls i M2 n) (hfit : fitR d2 M2 X) (hn : as.length = n) (hC2 : M2.1.cls = "java/lang/String") (hst : as.reverse ++ vR 901 :: rest = st0) (hr : scat rest ≤ 8) (hok : Ok E d2 M2 (vR 901 :: as) g q) (kk : ∀ (r : Option mv) (g' : Mm), q r g' → V E X (pc + 3) ls (r.toList ++ rest) g') : V E X pc ls st0 g := by
  obtain ⟨p, e, R, s, m, args, below, meth, c, cells, slots, Q, A0⟩ := X
  obtain ⟨hx, hb, hml, hown, hts, hcs, hAA, hfr, hlo, hce, hsl⟩ := id hX
  intro H locs rl hP hS hl
  subst hst
  obtain ⟨l1, l2, l3, l4, hpl, hco, hini, hne, -⟩ := hlk
  refine k_run (va_runV (As := as.map (tv E)) (b := ea E 901) (C := M2.1.cls) (n := n) (bytes := M2.2.1) (maxL := M2.2.2.1) (ret := M2.2.2.2) ⟨hx, hb, hml, hown, hts⟩ hok ⟨callB_of n hts (good_all M2 hco) rfl rfl rfl (hts _ hini) (hts _ l1) ⟨hne.1, hne.2, l4⟩ hfit, hts _ l2, hts _ l3⟩ ⟨Pq_blind E _ _, ?_, cs_call hcs hAA hS hP (vR 901 :: as)⟩ rfl (by simpa using hn) (hl.1.trans hml) ?_ ?_ hd ⟨hce, hsl⟩) hS hAA hl kk
  · rw [hC2]
    exact vk_recv (i := 0) (A := A0) hcs.2.2.2.2.2.1 (by decide) hS
  · simp [tv]
  · show 2 * 0 + _ ≤ 8
    rw [scat_eq]; omega
/-- a method that answers v and changes nothing -/
abbrev Fn (E : En) (d : Nat) (M : Mt) (as : List mv) (g : Mm) (v : mv) : Prop := Ok E d M as g (fun r g' => r = some v ∧ g' = g)
/-- a method that answers nothing and leaves the memory g1 -/
abbrev Pr (E : En) (d : Nat) (M : Mt) (as : List mv) (g g1 : Mm) : Prop := Ok E d M as g (fun r g' => r = none ∧ g' = g1)
/-- a method that answers v and leaves the memory g1 -/
abbrev Fp (E : En) (d : Nat) (M : Mt) (as : List mv) (g : Mm) (v : mv) (g1 : Mm) : Prop := Ok E d M as g (fun r g' => r = some v ∧ g' = g1)
theorem k_join2 {a b : Int} (J : Nat) (P : Int → Prop) (hJ : ∀ z, P z → V E X J ls (vI z :: st) g) (h : (∀ z, P z → V E X J ls (vI z :: st) g) → V E X pc ls (vI b :: vI a :: st) g) : V E X pc ls (vI b :: vI a :: st) g := h hJ
theorem k_join1 {a : Int} (J : Nat) (P : Int → Prop) (hJ : ∀ z, P z → V E X J ls (vI z :: st) g) (h : (∀ z, P z → V E X J ls (vI z :: st) g) → V E X pc ls (vI a :: st) g) : V E X pc ls (vI a :: st) g := h hJ
theorem k_cut2 {a b : Int} (J : Nat) (hJ : V E X J ls st g) (h : V E X J ls st g → V E X pc ls (vI b :: vI a :: st) g) : V E X pc ls (vI b :: vI a :: st) g := h hJ
theorem k_cut1 {a : Int} (J : Nat) (hJ : V E X J ls st g) (h : V E X J ls st g → V E X pc ls (vI a :: st) g) : V E X pc ls (vI a :: st) g := h hJ
theorem k_callVf (hX : Xk E M X) {i n d2 : Nat} {M2 : Mt} {ci : Nat} {C : vw_C} {k : Nat} {as rest st0 : List mv} {v : mv} (hd : decode M.2.1 pc = .ok (.invokevirtual i, 3)) (hlk : LkV M.1.cls i M2 n) (hfit : fitR d2 M2 X) (hn : as.length = n) (hk : sk k = ci) (hc : ci < 9) (hC : vwCl[ci]? = some C) (hC2 : C.1 = M2.1.cls) (hst : as.reverse ++ vR k :: rest = st0) (hr : scat rest ≤ 8) (hok : Fn E d2 M2 (vR k :: as) g v) (kk : V E X (pc + 3) ls (v :: rest) g) : V E X pc ls st0 g :=
  k_callV hX hd hlk hfit hn hk hc hC hC2 hst hr hok (fun r g2 hq => by obtain ⟨rfl, rfl⟩ := hq; exact kk)
theorem k_callVp (hX : Xk E M X) {i n d2 : Nat} {M2 : Mt} {ci : Nat} {C : vw_C} {k : Nat} {as rest st0 : List mv} {g1 : Mm} (hd : decode M.2.1 pc = .ok (.invokevirtual i, 3)) (hlk : LkV M.1.cls i M2 n) (hfit : fitR d2 M2 X) (hn : as.length = n) (hk : sk k = ci) (hc : ci < 9) (hC : vwCl[ci]? = some C) (hC2 : C.1 = M2.1.cls) (hst : as.reverse ++ vR k :: rest = st0) (hr : scat rest ≤ 8) (hok : Pr E d2 M2 (vR k :: as) g g1) (kk : V E X (pc + 3) ls (rest) g1) : V E X pc ls st0 g :=
  k_callV hX hd hlk hfit hn hk hc hC hC2 hst hr hok (fun r g2 hq => by obtain ⟨rfl, rfl⟩ := hq; exact kk)
theorem k_callVq (hX : Xk E M X) {i n d2 : Nat} {M2 : Mt} {ci : Nat} {C : vw_C} {k : Nat} {as rest st0 : List mv} {v : mv} {g1 : Mm} (hd : decode M.2.1 pc = .ok (.invokevirtual i, 3)) (hlk : LkV M.1.cls i M2 n) (hfit : fitR d2 M2 X) (hn : as.length = n) (hk : sk k = ci) (hc : ci < 9) (hC : vwCl[ci]? = some C) (hC2 : C.1 = M2.1.cls) (hst : as.reverse ++ vR k :: rest = st0) (hr : scat rest ≤ 8) (hok : Fp E d2 M2 (vR k :: as) g v g1) (kk : V E X (pc + 3) ls (v :: rest) g1) : V E X pc ls st0 g :=
  k_callV hX hd hlk hfit hn hk hc hC hC2 hst hr hok (fun r g2 hq => by obtain ⟨rfl, rfl⟩ := hq; exact kk)
theorem k_callSf (hX : Xk E M X) {i n d2 : Nat} {M2 : Mt}  {as rest st0 : List mv} {v : mv} (hd : decode M.2.1 pc = .ok (.invokestatic i, 3)) (hlk : LkS M.1.cls i M2 n) (hfit : fitR d2 M2 X) (hn : as.length = n) (hst : as.reverse ++ rest = st0) (hr : scat rest ≤ 8) (hok : Fn E d2 M2 (as) g v) (kk : V E X (pc + 3) ls (v :: rest) g) : V E X pc ls st0 g :=
  k_callS hX hd hlk hfit hn hst hr hok (fun r g2 hq => by obtain ⟨rfl, rfl⟩ := hq; exact kk)
theorem k_callSp (hX : Xk E M X) {i n d2 : Nat} {M2 : Mt}  {as rest st0 : List mv} {g1 : Mm} (hd : decode M.2.1 pc = .ok (.invokestatic i, 3)) (hlk : LkS M.1.cls i M2 n) (hfit : fitR d2 M2 X) (hn : as.length = n) (hst : as.reverse ++ rest = st0) (hr : scat rest ≤ 8) (hok : Pr E d2 M2 (as) g g1) (kk : V E X (pc + 3) ls (rest) g1) : V E X pc ls st0 g :=
  k_callS hX hd hlk hfit hn hst hr hok (fun r g2 hq => by obtain ⟨rfl, rfl⟩ := hq; exact kk)
theorem k_callSq (hX : Xk E M X) {i n d2 : Nat} {M2 : Mt}  {as rest st0 : List mv} {v : mv} {g1 : Mm} (hd : decode M.2.1 pc = .ok (.invokestatic i, 3)) (hlk : LkS M.1.cls i M2 n) (hfit : fitR d2 M2 X) (hn : as.length = n) (hst : as.reverse ++ rest = st0) (hr : scat rest ≤ 8) (hok : Fp E d2 M2 (as) g v g1) (kk : V E X (pc + 3) ls (v :: rest) g1) : V E X pc ls st0 g :=
  k_callS hX hd hlk hfit hn hst hr hok (fun r g2 hq => by obtain ⟨rfl, rfl⟩ := hq; exact kk)
theorem k_callNf (hX : Xk E M X) {i n d2 : Nat} {M2 : Mt} {host : String} {as rest st0 : List mv} {v : mv} (hd : decode M.2.1 pc = .ok (.invokestatic i, 3)) (hlk : LkN M.1.cls i M2 host n) (hfit : fitR d2 M2 X) (hn : as.length = n) (hst : as.reverse ++ rest = st0) (hr : scat rest ≤ 8) (hok : Fn E d2 M2 (as) g v) (kk : V E X (pc + 3) ls (v :: rest) g) : V E X pc ls st0 g :=
  k_callN hX hd hlk hfit hn hst hr hok (fun r g2 hq => by obtain ⟨rfl, rfl⟩ := hq; exact kk)
theorem k_callNp (hX : Xk E M X) {i n d2 : Nat} {M2 : Mt} {host : String} {as rest st0 : List mv} {g1 : Mm} (hd : decode M.2.1 pc = .ok (.invokestatic i, 3)) (hlk : LkN M.1.cls i M2 host n) (hfit : fitR d2 M2 X) (hn : as.length = n) (hst : as.reverse ++ rest = st0) (hr : scat rest ≤ 8) (hok : Pr E d2 M2 (as) g g1) (kk : V E X (pc + 3) ls (rest) g1) : V E X pc ls st0 g :=
  k_callN hX hd hlk hfit hn hst hr hok (fun r g2 hq => by obtain ⟨rfl, rfl⟩ := hq; exact kk)
theorem k_callNq (hX : Xk E M X) {i n d2 : Nat} {M2 : Mt} {host : String} {as rest st0 : List mv} {v : mv} {g1 : Mm} (hd : decode M.2.1 pc = .ok (.invokestatic i, 3)) (hlk : LkN M.1.cls i M2 host n) (hfit : fitR d2 M2 X) (hn : as.length = n) (hst : as.reverse ++ rest = st0) (hr : scat rest ≤ 8) (hok : Fp E d2 M2 (as) g v g1) (kk : V E X (pc + 3) ls (v :: rest) g1) : V E X pc ls st0 g :=
  k_callN hX hd hlk hfit hn hst hr hok (fun r g2 hq => by obtain ⟨rfl, rfl⟩ := hq; exact kk)
theorem k_callTf (hX : Xk E M X) {i n d2 : Nat} {M2 : Mt}  {as rest st0 : List mv} {v : mv} (hd : decode M.2.1 pc = .ok (.invokevirtual i, 3)) (hlk : LkV M.1.cls i M2 n) (hfit : fitR d2 M2 X) (hn : as.length = n) (hC2 : M2.1.cls = "java/lang/String") (hst : as.reverse ++ vR 901 :: rest = st0) (hr : scat rest ≤ 8) (hok : Fn E d2 M2 (vR 901 :: as) g v) (kk : V E X (pc + 3) ls (v :: rest) g) : V E X pc ls st0 g :=
  k_callT hX hd hlk hfit hn hC2 hst hr hok (fun r g2 hq => by obtain ⟨rfl, rfl⟩ := hq; exact kk)
theorem k_callTp (hX : Xk E M X) {i n d2 : Nat} {M2 : Mt}  {as rest st0 : List mv} {g1 : Mm} (hd : decode M.2.1 pc = .ok (.invokevirtual i, 3)) (hlk : LkV M.1.cls i M2 n) (hfit : fitR d2 M2 X) (hn : as.length = n) (hC2 : M2.1.cls = "java/lang/String") (hst : as.reverse ++ vR 901 :: rest = st0) (hr : scat rest ≤ 8) (hok : Pr E d2 M2 (vR 901 :: as) g g1) (kk : V E X (pc + 3) ls (rest) g1) : V E X pc ls st0 g :=
  k_callT hX hd hlk hfit hn hC2 hst hr hok (fun r g2 hq => by obtain ⟨rfl, rfl⟩ := hq; exact kk)
theorem k_callTq (hX : Xk E M X) {i n d2 : Nat} {M2 : Mt}  {as rest st0 : List mv} {v : mv} {g1 : Mm} (hd : decode M.2.1 pc = .ok (.invokevirtual i, 3)) (hlk : LkV M.1.cls i M2 n) (hfit : fitR d2 M2 X) (hn : as.length = n) (hC2 : M2.1.cls = "java/lang/String") (hst : as.reverse ++ vR 901 :: rest = st0) (hr : scat rest ≤ 8) (hok : Fp E d2 M2 (vR 901 :: as) g v g1) (kk : V E X (pc + 3) ls (v :: rest) g1) : V E X pc ls st0 g :=
  k_callT hX hd hlk hfit hn hC2 hst hr hok (fun r g2 hq => by obtain ⟨rfl, rfl⟩ := hq; exact kk)
theorem sk_P6 {p : Nat} (h : p < 5) : sk (6 + p) = 4 := by
  have h1 : ∀ p, p < 5 → sk (6 + p) = 4 := by decide +kernel
  exact h1 p h
theorem sk_P17 {p : Nat} (h : p < 5) : sk (17 + p) = 4 := by
  have h1 : ∀ p, p < 5 → sk (17 + p) = 4 := by decide +kernel
  exact h1 p h
theorem sk_L11 {p : Nat} (h : p < 3) : sk (11 + p) = 2 := by
  have h1 : ∀ p, p < 3 → sk (11 + p) = 2 := by decide +kernel
  exact h1 p h
theorem sk_L22 {p : Nat} (h : p < 3) : sk (22 + p) = 2 := by
  have h1 : ∀ p, p < 3 → sk (22 + p) = 2 := by decide +kernel
  exact h1 p h
theorem sk_A33 {p : Nat} (h : p < 5) : sk (33 + p) = 10 := by
  have h1 : ∀ p, p < 5 → sk (33 + p) = 10 := by decide +kernel
  exact h1 p h
theorem ln_A33 {p : Nat} (h : p < 5) : ln (33 + p) = 6 := by
  have h1 : ∀ p, p < 5 → ln (33 + p) = 6 := by decide +kernel
  exact h1 p h
theorem sk_A39 {p : Nat} (h : p < 5) : sk (39 + p) = 10 := by
  have h1 : ∀ p, p < 5 → sk (39 + p) = 10 := by decide +kernel
  exact h1 p h
theorem ln_A39 {p : Nat} (h : p < 5) : ln (39 + p) = 6 := by
  have h1 : ∀ p, p < 5 → ln (39 + p) = 6 := by decide +kernel
  exact h1 p h
end KM
end
section
/-! ===== what a state of the system is: numbers by a kind and a place ===== -/
abbrev St : Type := Nat → Nat → Int
/-- f summed up below n -/
def sm (f : Nat → Int) : Nat → Int
  | 0 => 0
  | n + 1 => sm f n + f n
theorem sm_congr {f h : Nat → Int} : ∀ {n : Nat}, (∀ p, p < n → f p = h p) → sm f n = sm h n
  | 0, _ => rfl
  | n + 1, hq => by rw [sm, sm, sm_congr (fun p hp => hq p (by omega)), hq n (by omega)]
theorem sm_bd {f : Nat → Int} {a b : Int} : ∀ {n : Nat}, (∀ p, p < n → a ≤ f p ∧ f p ≤ b) → n * a ≤ sm f n ∧ sm f n ≤ n * b
  | 0, _ => by simp [sm]
  | n + 1, hq => by
    have h1 := sm_bd (n := n) (fun p hp => hq p (by omega))
    have h2 := hq n (by omega)
    simp only [sm, Int.natCast_add, Int.natCast_one, Int.add_mul, Int.one_mul]
    omega
def lig (k : Int) : Int := if k = 1 then 4 else if k = 2 then 3 else if k = 3 then 1 else if k = 4 then 0 else 2
theorem lig_bd (k : Int) : 0 ≤ lig k ∧ lig k ≤ 4 := by unfold lig; split <;> (try split) <;> (try split) <;> (try split) <;> omega
theorem lig_lgt {k : Int} (h0 : 0 ≤ k) (h1 : k < 5) : lgt k.toNat = lig k := by
  rcases (show k = 0 ∨ k = 1 ∨ k = 2 ∨ k = 3 ∨ k = 4 by omega) with rfl | rfl | rfl | rfl | rfl <;> rfl
/-- what is seen between p and the next one, by their tones -/
def s2 (A : St) (p : Nat) (a b : Int) : Int := ((a - b).natAbs : Int) * min (lig (A 0 p)) (lig (A 0 (p + 1))) * (if A 0 p = 2 ∧ A 0 (p + 1) = 2 then 2 else 1)
def tn (A : St) (p : Nat) : Int := if A 2 p = -1 then -1 else A 8 (A 2 p).toNat + A 8 (if A 3 p = -1 then (A 2 p).toNat else (A 3 p).toNat)
def sN (A : St) (p : Nat) : Int := if (p : Int) + 1 < A 12 0 ∧ A 2 p ≠ -1 ∧ A 2 (p + 1) ≠ -1 then s2 A p (tn A p) (tn A (p + 1)) else 0
def sAll (A : St) : Int := sm (sN A) (A 12 0).toNat
def kC (A : St) : Int := sm (fun p => if A 2 p = -1 then 0 else 1) (A 12 0).toNat
def fC (A : St) : Int := sm (fun p => if A 7 p = -1 then 0 else 1) (A 12 0).toNat
def lt1 (A : St) (t : Nat) (w : Int) : Int := if w = 0 then A 8 t else if w = 1 then A 9 t else A 10 t
def lS (A : St) (w : Int) : Int := sm (fun t => lt1 A t w) (A 12 2).toNat
def rws (A : St) (t : Nat) : Int := 4 * A 9 t + A 10 t
def wNeed (A : St) (n : Nat) : Int := sm (fun p => if A 2 p = -1 then A 1 p else 0) n
def wTold (A : St) (n : Nat) : Int := sm (fun p => if A 6 p = -1 then 0 else A 6 p) n
def wOf (A : St) (n : Nat) : Int := sm (fun p => if A 6 p = -1 then 0 else A 1 p) n
def wRows (A : St) (b : Int) : Int := if b = 0 ∨ wOf A (A 12 0).toNat = 0 then wNeed A (A 12 0).toNat else (wNeed A (A 12 0).toNat * wTold A (A 12 0).toNat + wOf A (A 12 0).toNat - 1) / wOf A (A 12 0).toNat
def want (A : St) (t : Nat) (b : Int) : Int := if wRows A b - rws A t ≤ 0 then 0 else (wRows A b - rws A t + 3) / 4
def pn (A : St) (p : Nat) (w : Int) : Int := if w = 0 then A 0 p else if w = 1 then A 1 p else if w = 2 then lig (A 0 p) else if w = 3 then A 2 p else if w = 4 then A 3 p else if w = 5 then tn A p else if w = 6 then sN A p else if w = 7 then A 4 p + A 5 p else A 7 p
/-- what a part may be, and a lot; of the work (0) and of what is kept (K) -/
def wPt0 (A : St) (nl : Int) (p : Nat) : Prop := (A 2 p = -1 ∨ (0 ≤ A 2 p ∧ A 2 p < nl)) ∧ (A 3 p = -1 ∨ (0 ≤ A 3 p ∧ A 3 p < nl ∧ A 2 p ≠ -1)) ∧ (0 ≤ A 4 p ∧ A 4 p ≤ 18) ∧ (0 ≤ A 5 p ∧ A 5 p ≤ 9) ∧ (A 6 p = -1 ∨ (A 6 p = A 4 p ∧ A 2 p ≠ -1)) ∧ (-1 ≤ A 7 p ∧ A 7 p ≤ 320)
def wPtK (A : St) (nl : Int) (p : Nat) : Prop := (A 13 p = -1 ∨ (0 ≤ A 13 p ∧ A 13 p < nl)) ∧ (A 14 p = -1 ∨ (0 ≤ A 14 p ∧ A 14 p < nl ∧ A 13 p ≠ -1)) ∧ (0 ≤ A 15 p ∧ A 15 p ≤ 18) ∧ (0 ≤ A 16 p ∧ A 16 p ≤ 9) ∧ (A 17 p = -1 ∨ (A 17 p = A 15 p ∧ A 13 p ≠ -1)) ∧ (-1 ≤ A 18 p ∧ A 18 p ≤ 320)
def wLt0 (A : St) (n : Int) (t : Nat) : Prop := (0 ≤ A 8 t ∧ A 8 t ≤ 20) ∧ (0 ≤ A 9 t ∧ A 9 t ≤ 40) ∧ (0 ≤ A 10 t ∧ A 10 t ≤ 20 * n)
def wLtK (A : St) (n : Int) (t : Nat) : Prop := (0 ≤ A 19 t ∧ A 19 t ≤ 20) ∧ (0 ≤ A 20 t ∧ A 20 t ≤ 40) ∧ (0 ≤ A 21 t ∧ A 21 t ≤ 20 * n)
/-- the work is well made, after n calls -/
def WW (A : St) (n : Int) : Prop := (0 ≤ A 12 0 ∧ A 12 0 ≤ 5 ∧ 0 ≤ A 12 2 ∧ A 12 2 ≤ 3 ∧ 0 ≤ A 12 1 ∧ A 12 1 ≤ 3 ∧ 0 ≤ n ∧ n ≤ 512) ∧ (∀ p : Nat, (p : Int) < A 12 0 → (0 ≤ A 0 p ∧ A 0 p ≤ 4) ∧ (1 ≤ A 1 p ∧ A 1 p ≤ 9) ∧ wPt0 A (A 12 2) p) ∧ ∀ t : Nat, (t : Int) < A 12 2 → wLt0 A n t
def cPt0 (A : St) (p : Nat) (g : Mm) : Prop := g.1 (6 + p) 0 = A 0 p ∧ g.1 (6 + p) 1 = A 1 p ∧ g.1 (6 + p) 2 = A 2 p ∧ g.1 (6 + p) 3 = A 3 p ∧ g.1 (6 + p) 4 = A 4 p ∧ g.1 (6 + p) 5 = A 5 p ∧ g.1 (6 + p) 6 = (if A 6 p = -1 then 0 else 1) ∧ g.1 (6 + p) 7 = A 7 p
def cPtK (A : St) (p : Nat) (g : Mm) : Prop := g.1 (17 + p) 0 = A 0 p ∧ g.1 (17 + p) 1 = A 1 p ∧ g.1 (17 + p) 2 = A 13 p ∧ g.1 (17 + p) 3 = A 14 p ∧ g.1 (17 + p) 4 = A 15 p ∧ g.1 (17 + p) 5 = A 16 p ∧ g.1 (17 + p) 6 = (if A 17 p = -1 then 0 else 1) ∧ g.1 (17 + p) 7 = A 18 p
def cLt0 (A : St) (t : Nat) (g : Mm) : Prop := g.1 (11 + t) 0 = A 8 t ∧ g.1 (11 + t) 1 = A 9 t ∧ g.1 (11 + t) 2 = A 10 t
def cLtK (A : St) (t : Nat) (g : Mm) : Prop := g.1 (22 + t) 0 = A 19 t ∧ g.1 (22 + t) 1 = A 20 t ∧ g.1 (22 + t) 2 = A 21 t
def CW (A : St) (g : Mm) : Prop := (g.1 3 2 = A 12 0 ∧ g.1 3 3 = A 12 2 ∧ g.1 3 4 = A 12 1) ∧ (∀ p : Nat, (p : Int) < A 12 0 → cPt0 A p g) ∧ ∀ t : Nat, (t : Int) < A 12 2 → cLt0 A t g
/-- the model's work -/
def MW (A : St) (g : Mm) : Prop := (g.1 46 1 = A 12 0 ∧ g.1 46 11 = A 12 2 ∧ g.1 46 2 = A 12 1) ∧ (∀ p : Nat, (p : Int) < A 12 0 → g.1 47 p = A 0 p ∧ g.1 48 p = A 1 p ∧ g.1 49 p = A 2 p ∧ g.1 50 p = A 3 p ∧ g.1 51 p = A 4 p ∧ g.1 52 p = A 5 p ∧ g.1 53 p = A 6 p ∧ g.1 54 p = A 7 p) ∧ ∀ t : Nat, (t : Int) < A 12 2 → g.1 55 t = A 8 t ∧ g.1 56 t = A 9 t ∧ g.1 57 t = A 10 t
theorem s2_bd {A : St} {p : Nat} {a b c : Int} (h1 : ((a - b).natAbs : Int) ≤ c) : 0 ≤ s2 A p a b ∧ s2 A p a b ≤ 8 * c := by
  have l1 := lig_bd (A 0 p)
  have l2 := lig_bd (A 0 (p + 1))
  have hn : (0 : Int) ≤ ((a - b).natAbs : Int) := by omega
  have hm : 0 ≤ min (lig (A 0 p)) (lig (A 0 (p + 1))) ∧ min (lig (A 0 p)) (lig (A 0 (p + 1))) ≤ 4 := by omega
  unfold s2
  generalize min (lig (A 0 p)) (lig (A 0 (p + 1))) = m at hm
  generalize ((a - b).natAbs : Int) = x at h1 hn
  rcases (show m = 0 ∨ m = 1 ∨ m = 2 ∨ m = 3 ∨ m = 4 by omega) with rfl | rfl | rfl | rfl | rfl <;> split <;> omega
theorem tn_bd {A : St} {n : Int} (hW : WW A n) {p : Nat} (hp : (p : Int) < A 12 0) : (A 2 p = -1 → tn A p = -1) ∧ (A 2 p ≠ -1 → 0 ≤ tn A p ∧ tn A p ≤ 40) := by
  obtain ⟨w1, w2, w3⟩ := hW
  obtain ⟨-, -, h1, h2, -⟩ := w2 p hp
  unfold tn
  refine ⟨fun h => by rw [if_pos h], fun h => ?_⟩
  rw [if_neg h]
  have e1 := w3 (A 2 p).toNat (by omega)
  have h5 : 0 ≤ A 8 (A 2 p).toNat ∧ A 8 (A 2 p).toNat ≤ 20 := e1.1
  split
  · omega
  · rename_i h3
    have e2 := w3 (A 3 p).toNat (by omega)
    have h6 : 0 ≤ A 8 (A 3 p).toNat ∧ A 8 (A 3 p).toNat ≤ 20 := e2.1
    omega
theorem sN_bd {A : St} {n : Int} (hW : WW A n) (p : Nat) : 0 ≤ sN A p ∧ sN A p ≤ 320 := by
  unfold sN
  split
  · rename_i h
    have h1 := (tn_bd hW (p := p) (by omega)).2 h.2.1
    have h2 := (tn_bd hW (p := p + 1) (by omega)).2 h.2.2
    have := s2_bd (A := A) (p := p) (a := tn A p) (b := tn A (p + 1)) (c := 40) (by omega)
    omega
  · omega
end
section
set_option maxRecDepth 100000 in
set_option maxHeartbeats 4000000 in
theorem cP_isKnitted (E : En) (g : Mm) {p : Nat} (hp : p < 5) (h : bd (g.1 (6 + p) 2)) : Fn E 1 mX4_isKnitted [vR (6 + p)] g (vI (if g.1 (6 + p) 2 = -1 then 0 else 1)) := by
  refine Ok_of gmX4_isKnitted (by omega) (Nat.le_of_ble_eq_true rfl) (fun X hX => ?_)
  show V E X 0 [some (vR (6 + p))] [] g
  refine k_aload_n hX.1 dX4_isKnitted_0 rfl rfl ?_
  refine k_geti hX.1 dX4_isKnitted_1 flX4_24 (sk_P6 (by omega)) (by decide) rfl ?_
  refine k_iconst hX.1 dX4_isKnitted_4 ?_
  refine k_icmp_eq (tgt := 12) hX.1 dX4_isKnitted_5 (by decide) (by omega) (by omega) (fun c_5 => ?_) (fun c_5 => ?_)
  · skip
    refine k_iconst hX.1 dX4_isKnitted_12 ?_
    refine k_zret hX dX4_isKnitted_13 rfl (by omega) ?_
    refine ⟨?_, rfl⟩
    congr 2
    split <;> omega
  · skip
    refine k_iconst hX.1 dX4_isKnitted_8 ?_
    refine k_goto (tgt := 13) hX.1 dX4_isKnitted_9 (by decide) ?_
    refine k_zret hX dX4_isKnitted_13 rfl (by omega) ?_
    refine ⟨?_, rfl⟩
    congr 2
    split <;> omega

set_option maxRecDepth 100000 in
set_option maxHeartbeats 4000000 in
theorem cP_isMixed (E : En) (g : Mm) {p : Nat} (hp : p < 5) (h : bd (g.1 (6 + p) 3)) : Fn E 1 mX4_isMixed [vR (6 + p)] g (vI (if g.1 (6 + p) 3 = -1 then 0 else 1)) := by
  refine Ok_of gmX4_isMixed (by omega) (Nat.le_of_ble_eq_true rfl) (fun X hX => ?_)
  show V E X 0 [some (vR (6 + p))] [] g
  refine k_aload_n hX.1 dX4_isMixed_0 rfl rfl ?_
  refine k_geti hX.1 dX4_isMixed_1 flX4_27 (sk_P6 (by omega)) (by decide) rfl ?_
  refine k_iconst hX.1 dX4_isMixed_4 ?_
  refine k_icmp_eq (tgt := 12) hX.1 dX4_isMixed_5 (by decide) (by omega) (by omega) (fun c_5 => ?_) (fun c_5 => ?_)
  · skip
    refine k_iconst hX.1 dX4_isMixed_12 ?_
    refine k_zret hX dX4_isMixed_13 rfl (by omega) ?_
    refine ⟨?_, rfl⟩
    congr 2
    split <;> omega
  · skip
    refine k_iconst hX.1 dX4_isMixed_8 ?_
    refine k_goto (tgt := 13) hX.1 dX4_isMixed_9 (by decide) ?_
    refine k_zret hX dX4_isMixed_13 rfl (by omega) ?_
    refine ⟨?_, rfl⟩
    congr 2
    split <;> omega

set_option maxRecDepth 100000 in
set_option maxHeartbeats 4000000 in
theorem cP_isOf (E : En) (g : Mm) {p : Nat} (hp : p < 5) (h : bd (g.1 (6 + p) 0)) {q : Int} (hq : bd q) : Fn E 1 mX4_isOf [vR (6 + p), vI q] g (vI (if q = 0 ∨ q = g.1 (6 + p) 0 ∨ (g.1 (6 + p) 0 = 4 ∧ q = 3) then 1 else 0)) := by
  refine Ok_of gmX4_isOf (by omega) (Nat.le_of_ble_eq_true rfl) (fun X hX => ?_)
  show V E X 0 [some (vR (6 + p)), some (vI q)] [] g
  refine k_iload_n hX.1 dX4_isOf_0 rfl rfl ?_
  refine k_if_eq (tgt := 25) hX.1 dX4_isOf_1 (by decide) (by omega) (fun c_1 => ?_) (fun c_1 => ?_)
  · skip
    refine k_iconst hX.1 dX4_isOf_25 ?_
    refine k_goto (tgt := 30) hX.1 dX4_isOf_26 (by decide) ?_
    refine k_zret hX dX4_isOf_30 rfl (by omega) ?_
    refine ⟨?_, rfl⟩
    congr 2
    split <;> omega
  · skip
    refine k_iload_n hX.1 dX4_isOf_4 rfl rfl ?_
    refine k_aload_n hX.1 dX4_isOf_5 rfl rfl ?_
    refine k_geti hX.1 dX4_isOf_6 flX4_9 (sk_P6 (by omega)) (by decide) rfl ?_
    refine k_icmp_eq (tgt := 25) hX.1 dX4_isOf_9 (by decide) (by omega) (by omega) (fun c_9 => ?_) (fun c_9 => ?_)
    · skip
      refine k_iconst hX.1 dX4_isOf_25 ?_
      refine k_goto (tgt := 30) hX.1 dX4_isOf_26 (by decide) ?_
      refine k_zret hX dX4_isOf_30 rfl (by omega) ?_
      refine ⟨?_, rfl⟩
      congr 2
      split <;> omega
    · skip
      refine k_aload_n hX.1 dX4_isOf_12 rfl rfl ?_
      refine k_geti hX.1 dX4_isOf_13 flX4_9 (sk_P6 (by omega)) (by decide) rfl ?_
      refine k_iconst hX.1 dX4_isOf_16 ?_
      refine k_icmp_ne (tgt := 29) hX.1 dX4_isOf_17 (by decide) (by omega) (by omega) (fun c_17 => ?_) (fun c_17 => ?_)
      · skip
        refine k_iconst hX.1 dX4_isOf_29 ?_
        refine k_zret hX dX4_isOf_30 rfl (by omega) ?_
        refine ⟨?_, rfl⟩
        congr 2
        split <;> omega
      · skip
        refine k_iload_n hX.1 dX4_isOf_20 rfl rfl ?_
        refine k_iconst hX.1 dX4_isOf_21 ?_
        refine k_icmp_ne (tgt := 29) hX.1 dX4_isOf_22 (by decide) (by omega) (by omega) (fun c_22 => ?_) (fun c_22 => ?_)
        · skip
          refine k_iconst hX.1 dX4_isOf_29 ?_
          refine k_zret hX dX4_isOf_30 rfl (by omega) ?_
          refine ⟨?_, rfl⟩
          congr 2
          split <;> omega
        · skip
          refine k_iconst hX.1 dX4_isOf_25 ?_
          refine k_goto (tgt := 30) hX.1 dX4_isOf_26 (by decide) ?_
          refine k_zret hX dX4_isOf_30 rfl (by omega) ?_
          refine ⟨?_, rfl⟩
          congr 2
          split <;> omega

theorem flN40 : Cond.fieldLinkNest RX4 40 "DyeLots" "LIGHTS" "[I" "DyeLots" ∈ nestW := inNest 436 (by decide +kernel) (by decide +kernel)
set_option maxRecDepth 100000 in
set_option maxHeartbeats 4000000 in
theorem cP_light (E : En) (g : Mm) {p : Nat} (hp : p < 5) (h : 0 ≤ g.1 (6 + p) 0 ∧ g.1 (6 + p) 0 ≤ 4) : Fn E 1 mX4_light [vR (6 + p)] g (vI (lig (g.1 (6 + p) 0))) := by
  refine Ok_of gmX4_light (by omega) (Nat.le_of_ble_eq_true rfl) (fun X hX => ?_)
  show V E X 0 [some (vR (6 + p))] [] g
  refine k_aload_n hX.1 dX4_light_0 rfl rfl ?_
  refine k_geti hX.1 dX4_light_1 flX4_9 (sk_P6 (by omega)) (by decide) rfl ?_
  refine k_if_lt (tgt := 29) hX.1 dX4_light_4 (by decide) (by omega) (fun c_4 => ?_) (fun c_4 => ?_)
  · skip
    exact absurd c_4 (by omega)
  · skip
    refine k_aload_n hX.1 dX4_light_7 rfl rfl ?_
    refine k_geti hX.1 dX4_light_8 flX4_9 (sk_P6 (by omega)) (by decide) rfl ?_
    refine k_gsLN hX.1 dX4_light_11 flN40 ?_
    refine k_clen hX.1 dX4_light_14 ?_
    refine k_icmp_ge (tgt := 29) hX.1 dX4_light_15 (by decide) (by omega) (by omega) (fun c_15 => ?_) (fun c_15 => ?_)
    · skip
      exact absurd c_15 (by omega)
    · skip
      refine k_gsLN hX.1 dX4_light_18 flN40 ?_
      refine k_aload_n hX.1 dX4_light_21 rfl rfl ?_
      refine k_geti hX.1 dX4_light_22 flX4_9 (sk_P6 (by omega)) (by decide) rfl ?_
      refine k_cld (j := _) hX.1 dX4_light_25 (by omega) (by omega) rfl ?_
      refine k_goto (tgt := 30) hX.1 dX4_light_26 (by decide) ?_
      refine k_iret hX dX4_light_30 rfl ?_
      rw [lig_lgt h.1 (by omega)]
      exact ⟨rfl, rfl⟩

set_option maxRecDepth 100000 in
set_option maxHeartbeats 4000000 in
theorem cL_rows (E : En) (g : Mm) {t : Nat} (hp : t < 3) : Fn E 1 mX2_rows [vR (11 + t)] g (vI (4 * g.1 (11 + t) 1 + g.1 (11 + t) 2)) := by
  refine Ok_of gmX2_rows (by omega) (Nat.le_of_ble_eq_true rfl) (fun X hX => ?_)
  show V E X 0 [some (vR (11 + t))] [] g
  refine k_iconst hX.1 dX2_rows_0 ?_
  refine k_aload_n hX.1 dX2_rows_1 rfl rfl ?_
  refine k_geti hX.1 dX2_rows_2 flX2_15 (sk_L11 (by omega)) (by decide) rfl ?_
  refine k_imul hX.1 dX2_rows_5 ?_
  refine k_aload_n hX.1 dX2_rows_6 rfl rfl ?_
  refine k_geti hX.1 dX2_rows_7 flX2_18 (sk_L11 (by omega)) (by decide) rfl ?_
  refine k_iadd hX.1 dX2_rows_10 ?_
  refine k_iret hX dX2_rows_11 rfl ?_
  exact ⟨rfl, rfl⟩

set_option maxRecDepth 100000 in
set_option maxHeartbeats 4000000 in
theorem cL_tell (E : En) (g : Mm) {t : Nat} (hp : t < 3) {q : Int} (hq : bd q) : Fn E 1 mX2_tell [vR (11 + t), vI q] g (vI (if q = 0 then g.1 (11 + t) 0 else if q = 1 then g.1 (11 + t) 1 else g.1 (11 + t) 2)) := by
  refine Ok_of gmX2_tell (by omega) (Nat.le_of_ble_eq_true rfl) (fun X hX => ?_)
  show V E X 0 [some (vR (11 + t)), some (vI q)] [] g
  refine k_iload_n hX.1 dX2_tell_0 rfl rfl ?_
  rcases (show q = 0 ∨ q = 1 ∨ (¬ q = 0 ∧ ¬ q = 1) by omega) with s_1 | s_1 | s_1
  · refine k_lookup (tgt := 28) (off := 27) hX.1 dX2_tell_1 (by omega) (by decide) (by rw [s_1]; rfl) (by decide) ?_
    skip
    refine k_aload_n hX.1 dX2_tell_28 rfl rfl ?_
    refine k_geti hX.1 dX2_tell_29 flX2_9 (sk_L11 (by omega)) (by decide) rfl ?_
    refine k_iret hX dX2_tell_32 rfl ?_
    refine ⟨?_, rfl⟩
    simp [s_1]
  · refine k_lookup (tgt := 33) (off := 32) hX.1 dX2_tell_1 (by omega) (by decide) (by rw [s_1]; rfl) (by decide) ?_
    skip
    refine k_aload_n hX.1 dX2_tell_33 rfl rfl ?_
    refine k_geti hX.1 dX2_tell_34 flX2_15 (sk_L11 (by omega)) (by decide) rfl ?_
    refine k_iret hX dX2_tell_37 rfl ?_
    refine ⟨?_, rfl⟩
    simp [s_1]
  · refine k_lookup (tgt := 38) (off := 37) hX.1 dX2_tell_1 (by omega) (by decide) (by have := s_1; simp [Op.lookupswitch.offset]; omega) (by decide) ?_
    skip
    refine k_aload_n hX.1 dX2_tell_38 rfl rfl ?_
    refine k_geti hX.1 dX2_tell_39 flX2_18 (sk_L11 (by omega)) (by decide) rfl ?_
    refine k_iret hX dX2_tell_42 rfl ?_
    refine ⟨?_, rfl⟩
    simp [s_1]

set_option maxRecDepth 100000 in
set_option maxHeartbeats 4000000 in
theorem cW_hasPart (E : En) (g : Mm) {p : Int} (hp : bd p) (h : bd (g.1 3 2)) : Fn E 1 mX6_hasPart [vR 3, vI p] g (vI (if 0 ≤ p ∧ p < g.1 3 2 then 1 else 0)) := by
  refine Ok_of gmX6_hasPart (by omega) (Nat.le_of_ble_eq_true rfl) (fun X hX => ?_)
  show V E X 0 [some (vR 3), some (vI p)] [] g
  refine k_iload_n hX.1 dX6_hasPart_0 rfl rfl ?_
  refine k_if_lt (tgt := 16) hX.1 dX6_hasPart_1 (by decide) (by omega) (fun c_1 => ?_) (fun c_1 => ?_)
  · skip
    refine k_iconst hX.1 dX6_hasPart_16 ?_
    refine k_zret hX dX6_hasPart_17 rfl (by omega) ?_
    refine ⟨?_, rfl⟩
    congr 2
    split <;> omega
  · skip
    refine k_iload_n hX.1 dX6_hasPart_4 rfl rfl ?_
    refine k_aload_n hX.1 dX6_hasPart_5 rfl rfl ?_
    refine k_geti hX.1 dX6_hasPart_6 flX6_37 rfl (by decide) rfl ?_
    refine k_icmp_ge (tgt := 16) hX.1 dX6_hasPart_9 (by decide) (by omega) (by omega) (fun c_9 => ?_) (fun c_9 => ?_)
    · skip
      refine k_iconst hX.1 dX6_hasPart_16 ?_
      refine k_zret hX dX6_hasPart_17 rfl (by omega) ?_
      refine ⟨?_, rfl⟩
      congr 2
      split <;> omega
    · skip
      refine k_iconst hX.1 dX6_hasPart_12 ?_
      refine k_goto (tgt := 17) hX.1 dX6_hasPart_13 (by decide) ?_
      refine k_zret hX dX6_hasPart_17 rfl (by omega) ?_
      refine ⟨?_, rfl⟩
      congr 2
      split <;> omega

theorem cW_hasPart1 (E : En) (g : Mm) {p : Int} (h0 : 0 ≤ p) (h1 : p < g.1 3 2) (h : bd (g.1 3 2)) : Fn E 1 mX6_hasPart [vR 3, vI p] g (vI 1) := by
  have hq := cW_hasPart E g (p := p) (by omega) h
  rwa [if_pos ⟨h0, h1⟩] at hq
theorem cW_hasPart0 (E : En) (g : Mm) {p : Int} (hp : bd p) (h1 : ¬ (0 ≤ p ∧ p < g.1 3 2)) (h : bd (g.1 3 2)) : Fn E 1 mX6_hasPart [vR 3, vI p] g (vI 0) := by
  have hq := cW_hasPart E g (p := p) hp h
  rwa [if_neg h1] at hq
set_option maxRecDepth 100000 in
set_option maxHeartbeats 4000000 in
theorem cW_hasLot (E : En) (g : Mm) {p : Int} (hp : bd p) (h : bd (g.1 3 3)) : Fn E 1 mX6_hasLot [vR 3, vI p] g (vI (if 0 ≤ p ∧ p < g.1 3 3 then 1 else 0)) := by
  refine Ok_of gmX6_hasLot (by omega) (Nat.le_of_ble_eq_true rfl) (fun X hX => ?_)
  show V E X 0 [some (vR 3), some (vI p)] [] g
  refine k_iload_n hX.1 dX6_hasLot_0 rfl rfl ?_
  refine k_if_lt (tgt := 16) hX.1 dX6_hasLot_1 (by decide) (by omega) (fun c_1 => ?_) (fun c_1 => ?_)
  · skip
    refine k_iconst hX.1 dX6_hasLot_16 ?_
    refine k_zret hX dX6_hasLot_17 rfl (by omega) ?_
    refine ⟨?_, rfl⟩
    congr 2
    split <;> omega
  · skip
    refine k_iload_n hX.1 dX6_hasLot_4 rfl rfl ?_
    refine k_aload_n hX.1 dX6_hasLot_5 rfl rfl ?_
    refine k_geti hX.1 dX6_hasLot_6 flX6_40 rfl (by decide) rfl ?_
    refine k_icmp_ge (tgt := 16) hX.1 dX6_hasLot_9 (by decide) (by omega) (by omega) (fun c_9 => ?_) (fun c_9 => ?_)
    · skip
      refine k_iconst hX.1 dX6_hasLot_16 ?_
      refine k_zret hX dX6_hasLot_17 rfl (by omega) ?_
      refine ⟨?_, rfl⟩
      congr 2
      split <;> omega
    · skip
      refine k_iconst hX.1 dX6_hasLot_12 ?_
      refine k_goto (tgt := 17) hX.1 dX6_hasLot_13 (by decide) ?_
      refine k_zret hX dX6_hasLot_17 rfl (by omega) ?_
      refine ⟨?_, rfl⟩
      congr 2
      split <;> omega

theorem cW_hasLot1 (E : En) (g : Mm) {p : Int} (h0 : 0 ≤ p) (h1 : p < g.1 3 3) (h : bd (g.1 3 3)) : Fn E 1 mX6_hasLot [vR 3, vI p] g (vI 1) := by
  have hq := cW_hasLot E g (p := p) (by omega) h
  rwa [if_pos ⟨h0, h1⟩] at hq
theorem cW_hasLot0 (E : En) (g : Mm) {p : Int} (hp : bd p) (h1 : ¬ (0 ≤ p ∧ p < g.1 3 3)) (h : bd (g.1 3 3)) : Fn E 1 mX6_hasLot [vR 3, vI p] g (vI 0) := by
  have hq := cW_hasLot E g (p := p) hp h
  rwa [if_neg h1] at hq

set_option maxRecDepth 100000 in
set_option maxHeartbeats 4000000 in
theorem cW_tone (E : En) {A : St} {g : Mm} {n : Int} (hC : CW A g) (hW : WW A n) {p : Nat} (hp : (p : Int) < A 12 0) : Fn E 2 mX6_tone [vR 3, vI (p : Int)] g (vI (tn A p)) := by
  obtain ⟨⟨hc1, hc2, hc3⟩, hcp, hcl⟩ := hC
  obtain ⟨⟨hw1, hw2, hw3, hw4, hw5, hw6, hw7, hw8⟩, hwp, hwl⟩ := id hW
  obtain ⟨e0, e1, e2, e3, e4, e5, e6, e7⟩ := hcp (p) (by omega)
  obtain ⟨⟨ek1, ek2⟩, ⟨er1, er2⟩, ew2, ew3, ew4, ew5, ew6, ew7⟩ := hwp (p) (by omega)
  refine Ok_of gmX6_tone (by omega) (Nat.le_of_ble_eq_true rfl) (fun X hX => ?_)
  show V E X 0 [some (vR 3), some (vI (p : Int)), none, none] [] g
  by_cases h1 : A 2 p = -1
  · skip
    refine k_aload_n hX.1 dX6_tone_0 rfl rfl ?_
    refine k_getr (t := 4) hX.1 dX6_tone_1 flX6_11 rfl (by decide) rfl rfl ?_
    refine k_iload_n hX.1 dX6_tone_4 rfl rfl ?_
    refine k_aaldP (j := p) (q := 6 + p) hX.1 dX6_tone_5 rfl (by omega) (n := 5) rfl (by omega) (by omega) rfl ?_
    refine k_astore_n hX.1 dX6_tone_6 rfl (by decide) rfl rfl ?_
    try simp only [List.set_cons_zero, List.set_cons_succ]
    refine k_aload_n hX.1 dX6_tone_7 rfl rfl ?_
    refine k_aload_n hX.1 dX6_tone_8 rfl rfl ?_
    refine k_geti hX.1 dX6_tone_9 flX6_79 (sk_P6 (by omega)) (by decide) rfl ?_
    refine k_callVf (d2 := 1) (n := 1) (as := [_]) hX.1 dX6_tone_12 lkX6_95 (fit_of hX (by omega) gmX6_hasLot) rfl rfl (by decide) rfl rfl rfl (Nat.le_of_ble_eq_true rfl) (cW_hasLot0 E g (by omega) (by omega) (by omega)) ?_
    refine k_if_ne (tgt := 20) hX.1 dX6_tone_15 (by decide) (by omega) (fun c_15 => ?_) (fun c_15 => ?_)
    · skip
      exact absurd rfl c_15
    · skip
      refine k_iconst hX.1 dX6_tone_18 ?_
      refine k_iret hX dX6_tone_19 rfl ?_
      refine ⟨?_, rfl⟩
      rw [tn, if_pos h1]
  · skip
    have f1 := hcl (A 2 p).toNat (by omega)
    obtain ⟨f1, f2, f3⟩ := f1
    by_cases h2 : A 3 p = -1
    · skip
      refine k_aload_n hX.1 dX6_tone_0 rfl rfl ?_
      refine k_getr (t := 4) hX.1 dX6_tone_1 flX6_11 rfl (by decide) rfl rfl ?_
      refine k_iload_n hX.1 dX6_tone_4 rfl rfl ?_
      refine k_aaldP (j := p) (q := 6 + p) hX.1 dX6_tone_5 rfl (by omega) (n := 5) rfl (by omega) (by omega) rfl ?_
      refine k_astore_n hX.1 dX6_tone_6 rfl (by decide) rfl rfl ?_
      try simp only [List.set_cons_zero, List.set_cons_succ]
      refine k_aload_n hX.1 dX6_tone_7 rfl rfl ?_
      refine k_aload_n hX.1 dX6_tone_8 rfl rfl ?_
      refine k_geti hX.1 dX6_tone_9 flX6_79 (sk_P6 (by omega)) (by decide) rfl ?_
      refine k_callVf (d2 := 1) (n := 1) (as := [_]) hX.1 dX6_tone_12 lkX6_95 (fit_of hX (by omega) gmX6_hasLot) rfl rfl (by decide) rfl rfl rfl (Nat.le_of_ble_eq_true rfl) (cW_hasLot1 E g (by omega) (by omega) (by omega)) ?_
      refine k_if_ne (tgt := 20) hX.1 dX6_tone_15 (by decide) (by omega) (fun c_15 => ?_) (fun c_15 => ?_)
      · skip
        refine k_aload_n hX.1 dX6_tone_20 rfl rfl ?_
        refine k_aload_n hX.1 dX6_tone_21 rfl rfl ?_
        refine k_geti hX.1 dX6_tone_22 flX6_82 (sk_P6 (by omega)) (by decide) rfl ?_
        refine k_callVf (d2 := 1) (n := 1) (as := [_]) hX.1 dX6_tone_25 lkX6_95 (fit_of hX (by omega) gmX6_hasLot) rfl rfl (by decide) rfl rfl rfl (Nat.le_of_ble_eq_true rfl) (cW_hasLot0 E g (by omega) (by omega) (by omega)) ?_
        refine k_if_eq (tgt := 38) hX.1 dX6_tone_28 (by decide) (by omega) (fun c_28 => ?_) (fun c_28 => ?_)
        · skip
          refine k_aload_n hX.1 dX6_tone_38 rfl rfl ?_
          refine k_geti hX.1 dX6_tone_39 flX6_79 (sk_P6 (by omega)) (by decide) rfl ?_
          refine k_istore_n hX.1 dX6_tone_42 rfl (by decide) rfl rfl ?_
          try simp only [List.set_cons_zero, List.set_cons_succ]
          refine k_aload_n hX.1 dX6_tone_43 rfl rfl ?_
          refine k_getr (t := 5) hX.1 dX6_tone_44 flX6_19 rfl (by decide) rfl rfl ?_
          refine k_aload_n hX.1 dX6_tone_47 rfl rfl ?_
          refine k_geti hX.1 dX6_tone_48 flX6_79 (sk_P6 (by omega)) (by decide) rfl ?_
          refine k_aaldL (j := (A 2 p).toNat) (q := 11 + (A 2 p).toNat) hX.1 dX6_tone_51 rfl (by omega) (n := 3) rfl (by omega) (by omega) rfl ?_
          refine k_geti hX.1 dX6_tone_52 flX6_105 (sk_L11 (by omega)) (by decide) rfl ?_
          refine k_aload_n hX.1 dX6_tone_55 rfl rfl ?_
          refine k_getr (t := 5) hX.1 dX6_tone_56 flX6_19 rfl (by decide) rfl rfl ?_
          refine k_iload_n hX.1 dX6_tone_59 rfl rfl ?_
          refine k_aaldL (j := (A 2 p).toNat) (q := 11 + (A 2 p).toNat) hX.1 dX6_tone_60 rfl (by omega) (n := 3) rfl (by omega) (by omega) rfl ?_
          refine k_geti hX.1 dX6_tone_61 flX6_105 (sk_L11 (by omega)) (by decide) rfl ?_
          refine k_iadd hX.1 dX6_tone_64 ?_
          refine k_iret hX dX6_tone_65 rfl ?_
          refine ⟨?_, rfl⟩
          rw [tn, if_neg h1, if_pos h2, f1]
        · skip
          exact absurd rfl c_28
      · skip
        exact absurd c_15 (by decide)
    · skip
      have q1 := hcl (A 3 p).toNat (by omega)
      obtain ⟨q1, q2, q3⟩ := q1
      refine k_aload_n hX.1 dX6_tone_0 rfl rfl ?_
      refine k_getr (t := 4) hX.1 dX6_tone_1 flX6_11 rfl (by decide) rfl rfl ?_
      refine k_iload_n hX.1 dX6_tone_4 rfl rfl ?_
      refine k_aaldP (j := p) (q := 6 + p) hX.1 dX6_tone_5 rfl (by omega) (n := 5) rfl (by omega) (by omega) rfl ?_
      refine k_astore_n hX.1 dX6_tone_6 rfl (by decide) rfl rfl ?_
      try simp only [List.set_cons_zero, List.set_cons_succ]
      refine k_aload_n hX.1 dX6_tone_7 rfl rfl ?_
      refine k_aload_n hX.1 dX6_tone_8 rfl rfl ?_
      refine k_geti hX.1 dX6_tone_9 flX6_79 (sk_P6 (by omega)) (by decide) rfl ?_
      refine k_callVf (d2 := 1) (n := 1) (as := [_]) hX.1 dX6_tone_12 lkX6_95 (fit_of hX (by omega) gmX6_hasLot) rfl rfl (by decide) rfl rfl rfl (Nat.le_of_ble_eq_true rfl) (cW_hasLot1 E g (by omega) (by omega) (by omega)) ?_
      refine k_if_ne (tgt := 20) hX.1 dX6_tone_15 (by decide) (by omega) (fun c_15 => ?_) (fun c_15 => ?_)
      · skip
        refine k_aload_n hX.1 dX6_tone_20 rfl rfl ?_
        refine k_aload_n hX.1 dX6_tone_21 rfl rfl ?_
        refine k_geti hX.1 dX6_tone_22 flX6_82 (sk_P6 (by omega)) (by decide) rfl ?_
        refine k_callVf (d2 := 1) (n := 1) (as := [_]) hX.1 dX6_tone_25 lkX6_95 (fit_of hX (by omega) gmX6_hasLot) rfl rfl (by decide) rfl rfl rfl (Nat.le_of_ble_eq_true rfl) (cW_hasLot1 E g (by omega) (by omega) (by omega)) ?_
        refine k_if_eq (tgt := 38) hX.1 dX6_tone_28 (by decide) (by omega) (fun c_28 => ?_) (fun c_28 => ?_)
        · skip
          exact absurd c_28 (by decide)
        · skip
          refine k_aload_n hX.1 dX6_tone_31 rfl rfl ?_
          refine k_geti hX.1 dX6_tone_32 flX6_82 (sk_P6 (by omega)) (by decide) rfl ?_
          refine k_goto (tgt := 42) hX.1 dX6_tone_35 (by decide) ?_
          refine k_istore_n hX.1 dX6_tone_42 rfl (by decide) rfl rfl ?_
          try simp only [List.set_cons_zero, List.set_cons_succ]
          refine k_aload_n hX.1 dX6_tone_43 rfl rfl ?_
          refine k_getr (t := 5) hX.1 dX6_tone_44 flX6_19 rfl (by decide) rfl rfl ?_
          refine k_aload_n hX.1 dX6_tone_47 rfl rfl ?_
          refine k_geti hX.1 dX6_tone_48 flX6_79 (sk_P6 (by omega)) (by decide) rfl ?_
          refine k_aaldL (j := (A 2 p).toNat) (q := 11 + (A 2 p).toNat) hX.1 dX6_tone_51 rfl (by omega) (n := 3) rfl (by omega) (by omega) rfl ?_
          refine k_geti hX.1 dX6_tone_52 flX6_105 (sk_L11 (by omega)) (by decide) rfl ?_
          refine k_aload_n hX.1 dX6_tone_55 rfl rfl ?_
          refine k_getr (t := 5) hX.1 dX6_tone_56 flX6_19 rfl (by decide) rfl rfl ?_
          refine k_iload_n hX.1 dX6_tone_59 rfl rfl ?_
          refine k_aaldL (j := (A 3 p).toNat) (q := 11 + (A 3 p).toNat) hX.1 dX6_tone_60 rfl (by omega) (n := 3) rfl (by omega) (by omega) rfl ?_
          refine k_geti hX.1 dX6_tone_61 flX6_105 (sk_L11 (by omega)) (by decide) rfl ?_
          refine k_iadd hX.1 dX6_tone_64 ?_
          refine k_iret hX dX6_tone_65 rfl ?_
          refine ⟨?_, rfl⟩
          rw [tn, if_neg h1, if_neg h2, f1, q1]
      · skip
        exact absurd c_15 (by decide)

set_option maxRecDepth 100000 in
set_option maxHeartbeats 4000000 in
theorem cW_seenWith (E : En) {A : St} {g : Mm} {n : Int} (hC : CW A g) (hW : WW A n) {p : Nat} (hp : (p : Int) + 1 < A 12 0) {a b : Int} (ha : -1 ≤ a ∧ a ≤ 100) (hb : -1 ≤ b ∧ b ≤ 100) : Fn E 2 mX6_seenWith [vR 3, vI (p : Int), vI a, vI b] g (vI (s2 A p a b)) := by
  obtain ⟨⟨hc1, hc2, hc3⟩, hcp, hcl⟩ := hC
  obtain ⟨⟨hw1, hw2, hw3, hw4, hw5, hw6, hw7, hw8⟩, hwp, hwl⟩ := id hW
  obtain ⟨e0, e1, e2, e3, e4, e5, e6, e7⟩ := hcp (p) (by omega)
  obtain ⟨⟨ek1, ek2⟩, ⟨er1, er2⟩, ew2, ew3, ew4, ew5, ew6, ew7⟩ := hwp (p) (by omega)
  obtain ⟨f0, f1, f2, f3, f4, f5, f6, f7⟩ := hcp (p + 1) (by omega)
  obtain ⟨⟨fk1, fk2⟩, ⟨fr1, fr2⟩, fw2, fw3, fw4, fw5, fw6, fw7⟩ := hwp (p + 1) (by omega)
  have l1 := lig_bd (g.1 (6 + p) 0)
  have l2 := lig_bd (g.1 (6 + (p + 1)) 0)
  refine Ok_of gmX6_seenWith (by omega) (Nat.le_of_ble_eq_true rfl) (fun X hX => ?_)
  show V E X 0 [some (vR 3), some (vI (p : Int)), some (vI a), some (vI b), none, none, none] [] g
  refine k_aload_n hX.1 dX6_seenWith_0 rfl rfl ?_
  refine k_iload_n hX.1 dX6_seenWith_1 rfl rfl ?_
  refine k_callVf (d2 := 1) (n := 1) (as := [_]) hX.1 dX6_seenWith_2 lkX6_108 (fit_of hX (by omega) gmX6_hasPart) rfl rfl (by decide) rfl rfl rfl (Nat.le_of_ble_eq_true rfl) (cW_hasPart1 E g (by omega) (by omega) (by omega)) ?_
  refine k_if_eq (tgt := 18) hX.1 dX6_seenWith_5 (by decide) (by omega) (fun c_5 => ?_) (fun c_5 => ?_)
  · skip
    exact absurd c_5 (by decide)
  · skip
    refine k_aload_n hX.1 dX6_seenWith_8 rfl rfl ?_
    refine k_iload_n hX.1 dX6_seenWith_9 rfl rfl ?_
    refine k_iconst hX.1 dX6_seenWith_10 ?_
    refine k_iadd hX.1 dX6_seenWith_11 ?_
    refine k_callVf (d2 := 1) (n := 1) (as := [_]) hX.1 dX6_seenWith_12 lkX6_108 (fit_of hX (by omega) gmX6_hasPart) rfl rfl (by decide) rfl rfl rfl (Nat.le_of_ble_eq_true rfl) (cW_hasPart1 E g (by omega) (by omega) (by omega)) ?_
    refine k_if_ne (tgt := 20) hX.1 dX6_seenWith_15 (by decide) (by omega) (fun c_15 => ?_) (fun c_15 => ?_)
    · skip
      refine k_aload_n hX.1 dX6_seenWith_20 rfl rfl ?_
      refine k_getr (t := 4) hX.1 dX6_seenWith_21 flX6_11 rfl (by decide) rfl rfl ?_
      refine k_iload_n hX.1 dX6_seenWith_24 rfl rfl ?_
      refine k_aaldP (j := p) (q := 6 + p) hX.1 dX6_seenWith_25 rfl (by omega) (n := 5) rfl (by omega) (by omega) rfl ?_
      refine k_astore hX.1 dX6_seenWith_26 (by decide) rfl rfl ?_
      try simp only [List.set_cons_zero, List.set_cons_succ]
      refine k_aload_n hX.1 dX6_seenWith_28 rfl rfl ?_
      refine k_getr (t := 4) hX.1 dX6_seenWith_29 flX6_11 rfl (by decide) rfl rfl ?_
      refine k_iload_n hX.1 dX6_seenWith_32 rfl rfl ?_
      refine k_iconst hX.1 dX6_seenWith_33 ?_
      refine k_iadd hX.1 dX6_seenWith_34 ?_
      refine k_aaldP (j := (p + 1)) (q := 6 + (p + 1)) hX.1 dX6_seenWith_35 rfl (by omega) (n := 5) rfl (by omega) (by omega) rfl ?_
      refine k_astore hX.1 dX6_seenWith_36 (by decide) rfl rfl ?_
      try simp only [List.set_cons_zero, List.set_cons_succ]
      refine k_iload_n hX.1 dX6_seenWith_38 rfl rfl ?_
      refine k_iload_n hX.1 dX6_seenWith_39 rfl rfl ?_
      refine k_isub hX.1 dX6_seenWith_40 ?_
      refine k_abs hX.1 dX6_seenWith_41 lkX6_111 (by omega) (Nat.le_of_ble_eq_true rfl) ?_
      refine k_aload hX.1 dX6_seenWith_44 rfl ?_
      refine k_callVf (d2 := 1) (n := 0) (as := []) hX.1 dX6_seenWith_46 lkX6_114 (fit_of hX (by omega) gmX4_light) rfl (sk_P6 (by omega)) (by decide) rfl rfl rfl (Nat.le_of_ble_eq_true rfl) (cP_light E g (by omega) (by omega)) ?_
      refine k_aload hX.1 dX6_seenWith_49 rfl ?_
      refine k_callVf (d2 := 1) (n := 0) (as := []) hX.1 dX6_seenWith_51 lkX6_114 (fit_of hX (by omega) gmX4_light) rfl (sk_P6 (by omega)) (by decide) rfl rfl rfl (Nat.le_of_ble_eq_true rfl) (cP_light E g (by omega) (by omega)) ?_
      refine k_min hX.1 dX6_seenWith_54 lkX6_31 (by omega) (by omega) (Nat.le_of_ble_eq_true rfl) ?_
      refine k_imul hX.1 dX6_seenWith_57 ?_
      refine k_istore hX.1 dX6_seenWith_58 (by decide) rfl rfl ?_
      try simp only [List.set_cons_zero, List.set_cons_succ]
      refine k_aload hX.1 dX6_seenWith_60 rfl ?_
      refine k_geti hX.1 dX6_seenWith_62 flX6_117 (sk_P6 (by omega)) (by decide) rfl ?_
      refine k_iconst hX.1 dX6_seenWith_65 ?_
      refine k_icmp_ne (tgt := 85) hX.1 dX6_seenWith_66 (by decide) (by omega) (by omega) (fun c_66 => ?_) (fun c_66 => ?_)
      · skip
        refine k_iload hX.1 dX6_seenWith_85 rfl ?_
        refine k_iret hX dX6_seenWith_87 rfl ?_
        refine ⟨?_, rfl⟩
        unfold s2
        simp only [e0, f0] at *
        first | (rw [if_pos (by omega), Int.mul_comm 2]) | (rw [if_neg (by omega), Int.mul_one])
      · skip
        refine k_aload hX.1 dX6_seenWith_69 rfl ?_
        refine k_geti hX.1 dX6_seenWith_71 flX6_117 (sk_P6 (by omega)) (by decide) rfl ?_
        refine k_iconst hX.1 dX6_seenWith_74 ?_
        refine k_icmp_ne (tgt := 85) hX.1 dX6_seenWith_75 (by decide) (by omega) (by omega) (fun c_75 => ?_) (fun c_75 => ?_)
        · skip
          refine k_iload hX.1 dX6_seenWith_85 rfl ?_
          refine k_iret hX dX6_seenWith_87 rfl ?_
          refine ⟨?_, rfl⟩
          unfold s2
          simp only [e0, f0] at *
          first | (rw [if_pos (by omega), Int.mul_comm 2]) | (rw [if_neg (by omega), Int.mul_one])
        · skip
          refine k_iconst hX.1 dX6_seenWith_78 ?_
          refine k_iload hX.1 dX6_seenWith_79 rfl ?_
          refine k_imul hX.1 dX6_seenWith_81 ?_
          refine k_goto (tgt := 87) hX.1 dX6_seenWith_82 (by decide) ?_
          refine k_iret hX dX6_seenWith_87 rfl ?_
          refine ⟨?_, rfl⟩
          unfold s2
          simp only [e0, f0] at *
          first | (rw [if_pos (by omega), Int.mul_comm 2]) | (rw [if_neg (by omega), Int.mul_one])
    · skip
      exact absurd c_15 (by decide)

set_option maxRecDepth 100000 in
set_option maxHeartbeats 4000000 in
theorem cW_seenNext (E : En) {A : St} {g : Mm} {n : Int} (hC : CW A g) (hW : WW A n) {p : Nat} (hp : (p : Int) < A 12 0) : Fn E 3 mX6_seenNext [vR 3, vI (p : Int)] g (vI (sN A p)) := by
  have hC0 := hC
  obtain ⟨⟨hc1, hc2, hc3⟩, hcp, hcl⟩ := hC
  obtain ⟨⟨hw1, hw2, hw3, hw4, hw5, hw6, hw7, hw8⟩, hwp, hwl⟩ := id hW
  obtain ⟨e0, e1, e2, e3, e4, e5, e6, e7⟩ := hcp (p) (by omega)
  obtain ⟨⟨ek1, ek2⟩, ⟨er1, er2⟩, ew2, ew3, ew4, ew5, ew6, ew7⟩ := hwp (p) (by omega)
  refine Ok_of gmX6_seenNext (by omega) (Nat.le_of_ble_eq_true rfl) (fun X hX => ?_)
  show V E X 0 [some (vR 3), some (vI (p : Int))] [] g
  by_cases h1 : (p : Int) + 1 < A 12 0
  · skip
    obtain ⟨f0, f1, f2, f3, f4, f5, f6, f7⟩ := hcp (p + 1) (by omega)
    obtain ⟨⟨fk1, fk2⟩, ⟨fr1, fr2⟩, fw2, fw3, fw4, fw5, fw6, fw7⟩ := hwp (p + 1) (by omega)
    by_cases h2 : A 2 p = -1
    · skip
      refine k_aload_n hX.1 dX6_seenNext_0 rfl rfl ?_
      refine k_iload_n hX.1 dX6_seenNext_1 rfl rfl ?_
      refine k_callVf (d2 := 1) (n := 1) (as := [_]) hX.1 dX6_seenNext_2 lkX6_108 (fit_of hX (by omega) gmX6_hasPart) rfl rfl (by decide) rfl rfl rfl (Nat.le_of_ble_eq_true rfl) (cW_hasPart1 E g (by omega) (by omega) (by omega)) ?_
      refine k_if_eq (tgt := 18) hX.1 dX6_seenNext_5 (by decide) (by omega) (fun c_5 => ?_) (fun c_5 => ?_)
      · skip
        exact absurd c_5 (by decide)
      · skip
        refine k_aload_n hX.1 dX6_seenNext_8 rfl rfl ?_
        refine k_iload_n hX.1 dX6_seenNext_9 rfl rfl ?_
        refine k_iconst hX.1 dX6_seenNext_10 ?_
        refine k_iadd hX.1 dX6_seenNext_11 ?_
        refine k_callVf (d2 := 1) (n := 1) (as := [_]) hX.1 dX6_seenNext_12 lkX6_108 (fit_of hX (by omega) gmX6_hasPart) rfl rfl (by decide) rfl rfl rfl (Nat.le_of_ble_eq_true rfl) (cW_hasPart1 E g (by omega) (by omega) (by omega)) ?_
        refine k_if_ne (tgt := 20) hX.1 dX6_seenNext_15 (by decide) (by omega) (fun c_15 => ?_) (fun c_15 => ?_)
        · skip
          refine k_aload_n hX.1 dX6_seenNext_20 rfl rfl ?_
          refine k_getr (t := 4) hX.1 dX6_seenNext_21 flX6_11 rfl (by decide) rfl rfl ?_
          refine k_iload_n hX.1 dX6_seenNext_24 rfl rfl ?_
          refine k_aaldP (j := p) (q := 6 + p) hX.1 dX6_seenNext_25 rfl (by omega) (n := 5) rfl (by omega) (by omega) rfl ?_
          refine k_callVf (d2 := 1) (n := 0) (as := []) hX.1 dX6_seenNext_26 lkX6_120 (fit_of hX (by omega) gmX4_isKnitted) rfl (sk_P6 (by omega)) (by decide) rfl rfl rfl (Nat.le_of_ble_eq_true rfl) (cP_isKnitted E g (by omega) (by omega)) ?_
          refine k_if_eq (tgt := 46) hX.1 dX6_seenNext_29 (by decide) (by split <;> omega) (fun c_29 => ?_) (fun c_29 => ?_)
          · skip
            refine k_iconst hX.1 dX6_seenNext_46 ?_
            refine k_iret hX dX6_seenNext_47 rfl ?_
            refine ⟨?_, rfl⟩
            rw [sN, if_neg (fun q => q.2.1 h2)]
          · skip
            exact absurd (if_pos (by omega)) c_29
        · skip
          exact absurd c_15 (by decide)
    · skip
      by_cases h3 : A 2 (p + 1) = -1
      · skip
        refine k_aload_n hX.1 dX6_seenNext_0 rfl rfl ?_
        refine k_iload_n hX.1 dX6_seenNext_1 rfl rfl ?_
        refine k_callVf (d2 := 1) (n := 1) (as := [_]) hX.1 dX6_seenNext_2 lkX6_108 (fit_of hX (by omega) gmX6_hasPart) rfl rfl (by decide) rfl rfl rfl (Nat.le_of_ble_eq_true rfl) (cW_hasPart1 E g (by omega) (by omega) (by omega)) ?_
        refine k_if_eq (tgt := 18) hX.1 dX6_seenNext_5 (by decide) (by omega) (fun c_5 => ?_) (fun c_5 => ?_)
        · skip
          exact absurd c_5 (by decide)
        · skip
          refine k_aload_n hX.1 dX6_seenNext_8 rfl rfl ?_
          refine k_iload_n hX.1 dX6_seenNext_9 rfl rfl ?_
          refine k_iconst hX.1 dX6_seenNext_10 ?_
          refine k_iadd hX.1 dX6_seenNext_11 ?_
          refine k_callVf (d2 := 1) (n := 1) (as := [_]) hX.1 dX6_seenNext_12 lkX6_108 (fit_of hX (by omega) gmX6_hasPart) rfl rfl (by decide) rfl rfl rfl (Nat.le_of_ble_eq_true rfl) (cW_hasPart1 E g (by omega) (by omega) (by omega)) ?_
          refine k_if_ne (tgt := 20) hX.1 dX6_seenNext_15 (by decide) (by omega) (fun c_15 => ?_) (fun c_15 => ?_)
          · skip
            refine k_aload_n hX.1 dX6_seenNext_20 rfl rfl ?_
            refine k_getr (t := 4) hX.1 dX6_seenNext_21 flX6_11 rfl (by decide) rfl rfl ?_
            refine k_iload_n hX.1 dX6_seenNext_24 rfl rfl ?_
            refine k_aaldP (j := p) (q := 6 + p) hX.1 dX6_seenNext_25 rfl (by omega) (n := 5) rfl (by omega) (by omega) rfl ?_
            refine k_callVf (d2 := 1) (n := 0) (as := []) hX.1 dX6_seenNext_26 lkX6_120 (fit_of hX (by omega) gmX4_isKnitted) rfl (sk_P6 (by omega)) (by decide) rfl rfl rfl (Nat.le_of_ble_eq_true rfl) (cP_isKnitted E g (by omega) (by omega)) ?_
            refine k_if_eq (tgt := 46) hX.1 dX6_seenNext_29 (by decide) (by split <;> omega) (fun c_29 => ?_) (fun c_29 => ?_)
            · skip
              rw [if_neg (by omega)] at c_29; exact absurd c_29 (by decide)
            · skip
              refine k_aload_n hX.1 dX6_seenNext_32 rfl rfl ?_
              refine k_getr (t := 4) hX.1 dX6_seenNext_33 flX6_11 rfl (by decide) rfl rfl ?_
              refine k_iload_n hX.1 dX6_seenNext_36 rfl rfl ?_
              refine k_iconst hX.1 dX6_seenNext_37 ?_
              refine k_iadd hX.1 dX6_seenNext_38 ?_
              refine k_aaldP (j := (p + 1)) (q := 6 + (p + 1)) hX.1 dX6_seenNext_39 rfl (by omega) (n := 5) rfl (by omega) (by omega) rfl ?_
              refine k_callVf (d2 := 1) (n := 0) (as := []) hX.1 dX6_seenNext_40 lkX6_120 (fit_of hX (by omega) gmX4_isKnitted) rfl (sk_P6 (by omega)) (by decide) rfl rfl rfl (Nat.le_of_ble_eq_true rfl) (cP_isKnitted E g (by omega) (by omega)) ?_
              refine k_if_ne (tgt := 48) hX.1 dX6_seenNext_43 (by decide) (by split <;> omega) (fun c_43 => ?_) (fun c_43 => ?_)
              · skip
                exact absurd (if_pos (by omega)) c_43
              · skip
                refine k_iconst hX.1 dX6_seenNext_46 ?_
                refine k_iret hX dX6_seenNext_47 rfl ?_
                refine ⟨?_, rfl⟩
                rw [sN, if_neg (fun q => q.2.2 h3)]
          · skip
            exact absurd c_15 (by decide)
      · skip
        have b1 := (tn_bd hW hp).2 h2
        have b2 := (tn_bd hW (p := p + 1) (by omega)).2 h3
        refine k_aload_n hX.1 dX6_seenNext_0 rfl rfl ?_
        refine k_iload_n hX.1 dX6_seenNext_1 rfl rfl ?_
        refine k_callVf (d2 := 1) (n := 1) (as := [_]) hX.1 dX6_seenNext_2 lkX6_108 (fit_of hX (by omega) gmX6_hasPart) rfl rfl (by decide) rfl rfl rfl (Nat.le_of_ble_eq_true rfl) (cW_hasPart1 E g (by omega) (by omega) (by omega)) ?_
        refine k_if_eq (tgt := 18) hX.1 dX6_seenNext_5 (by decide) (by omega) (fun c_5 => ?_) (fun c_5 => ?_)
        · skip
          exact absurd c_5 (by decide)
        · skip
          refine k_aload_n hX.1 dX6_seenNext_8 rfl rfl ?_
          refine k_iload_n hX.1 dX6_seenNext_9 rfl rfl ?_
          refine k_iconst hX.1 dX6_seenNext_10 ?_
          refine k_iadd hX.1 dX6_seenNext_11 ?_
          refine k_callVf (d2 := 1) (n := 1) (as := [_]) hX.1 dX6_seenNext_12 lkX6_108 (fit_of hX (by omega) gmX6_hasPart) rfl rfl (by decide) rfl rfl rfl (Nat.le_of_ble_eq_true rfl) (cW_hasPart1 E g (by omega) (by omega) (by omega)) ?_
          refine k_if_ne (tgt := 20) hX.1 dX6_seenNext_15 (by decide) (by omega) (fun c_15 => ?_) (fun c_15 => ?_)
          · skip
            refine k_aload_n hX.1 dX6_seenNext_20 rfl rfl ?_
            refine k_getr (t := 4) hX.1 dX6_seenNext_21 flX6_11 rfl (by decide) rfl rfl ?_
            refine k_iload_n hX.1 dX6_seenNext_24 rfl rfl ?_
            refine k_aaldP (j := p) (q := 6 + p) hX.1 dX6_seenNext_25 rfl (by omega) (n := 5) rfl (by omega) (by omega) rfl ?_
            refine k_callVf (d2 := 1) (n := 0) (as := []) hX.1 dX6_seenNext_26 lkX6_120 (fit_of hX (by omega) gmX4_isKnitted) rfl (sk_P6 (by omega)) (by decide) rfl rfl rfl (Nat.le_of_ble_eq_true rfl) (cP_isKnitted E g (by omega) (by omega)) ?_
            refine k_if_eq (tgt := 46) hX.1 dX6_seenNext_29 (by decide) (by split <;> omega) (fun c_29 => ?_) (fun c_29 => ?_)
            · skip
              rw [if_neg (by omega)] at c_29; exact absurd c_29 (by decide)
            · skip
              refine k_aload_n hX.1 dX6_seenNext_32 rfl rfl ?_
              refine k_getr (t := 4) hX.1 dX6_seenNext_33 flX6_11 rfl (by decide) rfl rfl ?_
              refine k_iload_n hX.1 dX6_seenNext_36 rfl rfl ?_
              refine k_iconst hX.1 dX6_seenNext_37 ?_
              refine k_iadd hX.1 dX6_seenNext_38 ?_
              refine k_aaldP (j := (p + 1)) (q := 6 + (p + 1)) hX.1 dX6_seenNext_39 rfl (by omega) (n := 5) rfl (by omega) (by omega) rfl ?_
              refine k_callVf (d2 := 1) (n := 0) (as := []) hX.1 dX6_seenNext_40 lkX6_120 (fit_of hX (by omega) gmX4_isKnitted) rfl (sk_P6 (by omega)) (by decide) rfl rfl rfl (Nat.le_of_ble_eq_true rfl) (cP_isKnitted E g (by omega) (by omega)) ?_
              refine k_if_ne (tgt := 48) hX.1 dX6_seenNext_43 (by decide) (by split <;> omega) (fun c_43 => ?_) (fun c_43 => ?_)
              · skip
                refine k_aload_n hX.1 dX6_seenNext_48 rfl rfl ?_
                refine k_iload_n hX.1 dX6_seenNext_49 rfl rfl ?_
                refine k_aload_n hX.1 dX6_seenNext_50 rfl rfl ?_
                refine k_iload_n hX.1 dX6_seenNext_51 rfl rfl ?_
                refine k_callVf (d2 := 2) (n := 1) (as := [_]) hX.1 dX6_seenNext_52 lkX6_124 (fit_of hX (by omega) gmX6_tone) rfl rfl (by decide) rfl rfl rfl (Nat.le_of_ble_eq_true rfl) (cW_tone E hC0 hW (p := p) (by omega)) ?_
                refine k_aload_n hX.1 dX6_seenNext_55 rfl rfl ?_
                refine k_iload_n hX.1 dX6_seenNext_56 rfl rfl ?_
                refine k_iconst hX.1 dX6_seenNext_57 ?_
                refine k_iadd hX.1 dX6_seenNext_58 ?_
                refine k_callVf (d2 := 2) (n := 1) (as := [_]) hX.1 dX6_seenNext_59 lkX6_124 (fit_of hX (by omega) gmX6_tone) rfl rfl (by decide) rfl rfl rfl (Nat.le_of_ble_eq_true rfl) (cW_tone E hC0 hW (p := p + 1) (by omega)) ?_
                refine k_callVf (d2 := 2) (n := 3) (as := [_, _, _]) hX.1 dX6_seenNext_62 lkX6_127 (fit_of hX (by omega) gmX6_seenWith) rfl rfl (by decide) rfl rfl rfl (Nat.le_of_ble_eq_true rfl) (cW_seenWith E hC0 hW (p := p) (by omega) (by omega) (by omega)) ?_
                refine k_iret hX dX6_seenNext_65 rfl ?_
                refine ⟨?_, rfl⟩
                rw [sN, if_pos ⟨h1, h2, h3⟩]
              · skip
                rw [if_neg (by omega)] at c_43; exact absurd c_43 (by decide)
          · skip
            exact absurd c_15 (by decide)
  · skip
    refine k_aload_n hX.1 dX6_seenNext_0 rfl rfl ?_
    refine k_iload_n hX.1 dX6_seenNext_1 rfl rfl ?_
    refine k_callVf (d2 := 1) (n := 1) (as := [_]) hX.1 dX6_seenNext_2 lkX6_108 (fit_of hX (by omega) gmX6_hasPart) rfl rfl (by decide) rfl rfl rfl (Nat.le_of_ble_eq_true rfl) (cW_hasPart1 E g (by omega) (by omega) (by omega)) ?_
    refine k_if_eq (tgt := 18) hX.1 dX6_seenNext_5 (by decide) (by omega) (fun c_5 => ?_) (fun c_5 => ?_)
    · skip
      exact absurd c_5 (by decide)
    · skip
      refine k_aload_n hX.1 dX6_seenNext_8 rfl rfl ?_
      refine k_iload_n hX.1 dX6_seenNext_9 rfl rfl ?_
      refine k_iconst hX.1 dX6_seenNext_10 ?_
      refine k_iadd hX.1 dX6_seenNext_11 ?_
      refine k_callVf (d2 := 1) (n := 1) (as := [_]) hX.1 dX6_seenNext_12 lkX6_108 (fit_of hX (by omega) gmX6_hasPart) rfl rfl (by decide) rfl rfl rfl (Nat.le_of_ble_eq_true rfl) (cW_hasPart0 E g (by omega) (by omega) (by omega)) ?_
      refine k_if_ne (tgt := 20) hX.1 dX6_seenNext_15 (by decide) (by omega) (fun c_15 => ?_) (fun c_15 => ?_)
      · skip
        exact absurd rfl c_15
      · skip
        refine k_iconst hX.1 dX6_seenNext_18 ?_
        refine k_iret hX dX6_seenNext_19 rfl ?_
        refine ⟨?_, rfl⟩
        rw [sN, if_neg (fun q => h1 q.1)]
end
section
set_option maxRecDepth 100000 in
set_option maxHeartbeats 4000000 in
theorem lp_seenOfAll (E : En) {A : St} {g : Mm} {n : Int} (hC : CW A g) (hW : WW A n) {X : Cx} (hX : Wk E mX6_seenOfAll X 4 (fun r g' => r = some (vI (sAll A)) ∧ g' = g)) : ∀ (m : Nat) (p : Nat) (acc : Int), m + p = (A 12 0).toNat ∧ acc = sm (sN A) p → V E X 4 [some (vR 3), some (vI acc), some (vI (p : Int))] [] g := by
  have hC0 := hC
  obtain ⟨⟨hc1, hc2, hc3⟩, hcp, hcl⟩ := hC
  obtain ⟨⟨hw1, hw2, hw3, hw4, hw5, hw6, hw7, hw8⟩, hwp, hwl⟩ := id hW
  intro m
  induction m with
  | zero =>
    intro p acc hm
    refine k_iload_n hX.1 dX6_seenOfAll_4 rfl rfl ?_
    refine k_aload_n hX.1 dX6_seenOfAll_5 rfl rfl ?_
    refine k_geti hX.1 dX6_seenOfAll_6 flX6_37 rfl (by decide) rfl ?_
    refine k_icmp_ge (tgt := 26) hX.1 dX6_seenOfAll_9 (by decide) (by omega) (by omega) (fun c_9 => ?_) (fun c_9 => ?_)
    · skip
      refine k_iload_n hX.1 dX6_seenOfAll_26 rfl rfl ?_
      refine k_iret hX dX6_seenOfAll_27 rfl ?_
      refine ⟨?_, rfl⟩
      obtain ⟨h1, h2⟩ := hm
      rw [h2, show p = (A 12 0).toNat by omega]
      rfl
    · skip
      exact absurd c_9 (by omega)
  | succ m ih =>
    intro p acc hm
    obtain ⟨e0, e1, e2, e3, e4, e5, e6, e7⟩ := hcp (p) (by omega)
    obtain ⟨⟨ek1, ek2⟩, ⟨er1, er2⟩, ew2, ew3, ew4, ew5, ew6, ew7⟩ := hwp (p) (by omega)
    refine k_iload_n hX.1 dX6_seenOfAll_4 rfl rfl ?_
    refine k_aload_n hX.1 dX6_seenOfAll_5 rfl rfl ?_
    refine k_geti hX.1 dX6_seenOfAll_6 flX6_37 rfl (by decide) rfl ?_
    refine k_icmp_ge (tgt := 26) hX.1 dX6_seenOfAll_9 (by decide) (by omega) (by omega) (fun c_9 => ?_) (fun c_9 => ?_)
    · skip
      exact absurd c_9 (by omega)
    · skip
      refine k_iload_n hX.1 dX6_seenOfAll_12 rfl rfl ?_
      refine k_aload_n hX.1 dX6_seenOfAll_13 rfl rfl ?_
      refine k_iload_n hX.1 dX6_seenOfAll_14 rfl rfl ?_
      refine k_callVf (d2 := 3) (n := 1) (as := [_]) hX.1 dX6_seenOfAll_15 lkX6_130 (fit_of hX (by omega) gmX6_seenNext) rfl rfl (by decide) rfl rfl rfl (Nat.le_of_ble_eq_true rfl) (cW_seenNext E hC0 hW (p := p) (by omega)) ?_
      refine k_iadd hX.1 dX6_seenOfAll_18 ?_
      refine k_istore_n hX.1 dX6_seenOfAll_19 rfl (by decide) rfl rfl ?_
      try simp only [List.set_cons_zero, List.set_cons_succ]
      refine k_iinc hX.1 dX6_seenOfAll_20 rfl (by decide) rfl rfl ?_
      try simp only [List.set_cons_zero, List.set_cons_succ]
      refine k_goto (tgt := 4) hX.1 dX6_seenOfAll_23 (by decide) ?_
      exact ih (p + 1) _ ⟨by omega, by rw [sm, hm.2]⟩

set_option maxRecDepth 100000 in
set_option maxHeartbeats 4000000 in
theorem cW_seenOfAll (E : En) {A : St} {g : Mm} {n : Int} (hC : CW A g) (hW : WW A n) : Fn E 4 mX6_seenOfAll [vR 3] g (vI (sAll A)) := by
  have hC0 := hC
  obtain ⟨⟨hc1, hc2, hc3⟩, hcp, hcl⟩ := hC
  obtain ⟨⟨hw1, hw2, hw3, hw4, hw5, hw6, hw7, hw8⟩, hwp, hwl⟩ := id hW
  refine Ok_of gmX6_seenOfAll (by omega) (Nat.le_of_ble_eq_true rfl) (fun X hX => ?_)
  show V E X 0 [some (vR 3), none, none] [] g
  refine k_iconst hX.1 dX6_seenOfAll_0 ?_
  refine k_istore_n hX.1 dX6_seenOfAll_1 rfl (by decide) rfl rfl ?_
  try simp only [List.set_cons_zero, List.set_cons_succ]
  refine k_iconst hX.1 dX6_seenOfAll_2 ?_
  refine k_istore_n hX.1 dX6_seenOfAll_3 rfl (by decide) rfl rfl ?_
  try simp only [List.set_cons_zero, List.set_cons_succ]
  exact lp_seenOfAll E hC0 hW hX (A 12 0).toNat 0 0 ⟨by omega, rfl⟩

set_option maxRecDepth 100000 in
set_option maxHeartbeats 4000000 in
theorem lp_knittedCount (E : En) {A : St} {g : Mm} {n : Int} (hC : CW A g) (hW : WW A n) {X : Cx} (hX : Wk E mX6_knittedCount X 2 (fun r g' => r = some (vI (kC A)) ∧ g' = g)) : ∀ (m : Nat) (p : Nat) (acc : Int), m + p = (A 12 0).toNat ∧ acc = sm (fun p => if A 2 p = -1 then 0 else 1) p → V E X 4 [some (vR 3), some (vI acc), some (vI (p : Int))] [] g := by
  have hC0 := hC
  obtain ⟨⟨hc1, hc2, hc3⟩, hcp, hcl⟩ := hC
  obtain ⟨⟨hw1, hw2, hw3, hw4, hw5, hw6, hw7, hw8⟩, hwp, hwl⟩ := id hW
  intro m
  induction m with
  | zero =>
    intro p acc hm
    refine k_iload_n hX.1 dX6_knittedCount_4 rfl rfl ?_
    refine k_aload_n hX.1 dX6_knittedCount_5 rfl rfl ?_
    refine k_geti hX.1 dX6_knittedCount_6 flX6_37 rfl (by decide) rfl ?_
    refine k_icmp_ge (tgt := 33) hX.1 dX6_knittedCount_9 (by decide) (by omega) (by omega) (fun c_9 => ?_) (fun c_9 => ?_)
    · skip
      refine k_iload_n hX.1 dX6_knittedCount_33 rfl rfl ?_
      refine k_iret hX dX6_knittedCount_34 rfl ?_
      refine ⟨?_, rfl⟩
      obtain ⟨h1, h2⟩ := hm
      rw [h2, show p = (A 12 0).toNat by omega]
      rfl
    · skip
      exact absurd c_9 (by omega)
  | succ m ih =>
    intro p acc hm
    obtain ⟨e0, e1, e2, e3, e4, e5, e6, e7⟩ := hcp (p) (by omega)
    obtain ⟨⟨ek1, ek2⟩, ⟨er1, er2⟩, ew2, ew3, ew4, ew5, ew6, ew7⟩ := hwp (p) (by omega)
    refine k_iload_n hX.1 dX6_knittedCount_4 rfl rfl ?_
    refine k_aload_n hX.1 dX6_knittedCount_5 rfl rfl ?_
    refine k_geti hX.1 dX6_knittedCount_6 flX6_37 rfl (by decide) rfl ?_
    refine k_icmp_ge (tgt := 33) hX.1 dX6_knittedCount_9 (by decide) (by omega) (by omega) (fun c_9 => ?_) (fun c_9 => ?_)
    · skip
      exact absurd c_9 (by omega)
    · skip
      refine k_aload_n hX.1 dX6_knittedCount_12 rfl rfl ?_
      refine k_getr (t := 4) hX.1 dX6_knittedCount_13 flX6_11 rfl (by decide) rfl rfl ?_
      refine k_iload_n hX.1 dX6_knittedCount_16 rfl rfl ?_
      refine k_aaldP (j := p) (q := 6 + p) hX.1 dX6_knittedCount_17 rfl (by omega) (n := 5) rfl (by omega) (by omega) rfl ?_
      refine k_callVf (d2 := 1) (n := 0) (as := []) hX.1 dX6_knittedCount_18 lkX6_120 (fit_of hX (by omega) gmX4_isKnitted) rfl (sk_P6 (by omega)) (by decide) rfl rfl rfl (Nat.le_of_ble_eq_true rfl) (cP_isKnitted E g (by omega) (by omega)) ?_
      refine k_if_eq (tgt := 27) hX.1 dX6_knittedCount_21 (by decide) (by split <;> omega) (fun c_21 => ?_) (fun c_21 => ?_)
      · skip
        have h0 : A 2 p = -1 := by
          apply Classical.byContradiction; intro q; rw [if_neg (by omega)] at c_21; exact absurd c_21 (by decide)
        refine k_iinc hX.1 dX6_knittedCount_27 rfl (by decide) rfl rfl ?_
        try simp only [List.set_cons_zero, List.set_cons_succ]
        refine k_goto (tgt := 4) hX.1 dX6_knittedCount_30 (by decide) ?_
        exact ih (p + 1) _ ⟨by omega, by simp only [sm, hm.2]; first | (rw [if_pos h0]; omega) | (rw [if_neg h0])⟩
      · skip
        have h0 : ¬ A 2 p = -1 := by
          intro q; exact c_21 (if_pos (by omega))
        refine k_iinc hX.1 dX6_knittedCount_24 rfl (by decide) rfl rfl ?_
        try simp only [List.set_cons_zero, List.set_cons_succ]
        refine k_iinc hX.1 dX6_knittedCount_27 rfl (by decide) rfl rfl ?_
        try simp only [List.set_cons_zero, List.set_cons_succ]
        refine k_goto (tgt := 4) hX.1 dX6_knittedCount_30 (by decide) ?_
        exact ih (p + 1) _ ⟨by omega, by simp only [sm, hm.2]; first | (rw [if_pos h0]; omega) | (rw [if_neg h0])⟩

set_option maxRecDepth 100000 in
set_option maxHeartbeats 4000000 in
theorem cW_knittedCount (E : En) {A : St} {g : Mm} {n : Int} (hC : CW A g) (hW : WW A n) : Fn E 2 mX6_knittedCount [vR 3] g (vI (kC A)) := by
  have hC0 := hC
  obtain ⟨⟨hc1, hc2, hc3⟩, hcp, hcl⟩ := hC
  obtain ⟨⟨hw1, hw2, hw3, hw4, hw5, hw6, hw7, hw8⟩, hwp, hwl⟩ := id hW
  refine Ok_of gmX6_knittedCount (by omega) (Nat.le_of_ble_eq_true rfl) (fun X hX => ?_)
  show V E X 0 [some (vR 3), none, none] [] g
  refine k_iconst hX.1 dX6_knittedCount_0 ?_
  refine k_istore_n hX.1 dX6_knittedCount_1 rfl (by decide) rfl rfl ?_
  try simp only [List.set_cons_zero, List.set_cons_succ]
  refine k_iconst hX.1 dX6_knittedCount_2 ?_
  refine k_istore_n hX.1 dX6_knittedCount_3 rfl (by decide) rfl rfl ?_
  try simp only [List.set_cons_zero, List.set_cons_succ]
  exact lp_knittedCount E hC0 hW hX (A 12 0).toNat 0 0 ⟨by omega, rfl⟩

set_option maxRecDepth 100000 in
set_option maxHeartbeats 4000000 in
theorem lp_foundCount (E : En) {A : St} {g : Mm} {n : Int} (hC : CW A g) (hW : WW A n) {X : Cx} (hX : Wk E mX6_foundCount X 1 (fun r g' => r = some (vI (fC A)) ∧ g' = g)) : ∀ (m : Nat) (p : Nat) (acc : Int), m + p = (A 12 0).toNat ∧ acc = sm (fun p => if A 7 p = -1 then 0 else 1) p → V E X 4 [some (vR 3), some (vI acc), some (vI (p : Int))] [] g := by
  have hC0 := hC
  obtain ⟨⟨hc1, hc2, hc3⟩, hcp, hcl⟩ := hC
  obtain ⟨⟨hw1, hw2, hw3, hw4, hw5, hw6, hw7, hw8⟩, hwp, hwl⟩ := id hW
  intro m
  induction m with
  | zero =>
    intro p acc hm
    refine k_iload_n hX.1 dX6_foundCount_4 rfl rfl ?_
    refine k_aload_n hX.1 dX6_foundCount_5 rfl rfl ?_
    refine k_geti hX.1 dX6_foundCount_6 flX6_37 rfl (by decide) rfl ?_
    refine k_icmp_ge (tgt := 34) hX.1 dX6_foundCount_9 (by decide) (by omega) (by omega) (fun c_9 => ?_) (fun c_9 => ?_)
    · skip
      refine k_iload_n hX.1 dX6_foundCount_34 rfl rfl ?_
      refine k_iret hX dX6_foundCount_35 rfl ?_
      refine ⟨?_, rfl⟩
      obtain ⟨h1, h2⟩ := hm
      rw [h2, show p = (A 12 0).toNat by omega]
      rfl
    · skip
      exact absurd c_9 (by omega)
  | succ m ih =>
    intro p acc hm
    obtain ⟨e0, e1, e2, e3, e4, e5, e6, e7⟩ := hcp (p) (by omega)
    obtain ⟨⟨ek1, ek2⟩, ⟨er1, er2⟩, ew2, ew3, ew4, ew5, ew6, ew7⟩ := hwp (p) (by omega)
    refine k_iload_n hX.1 dX6_foundCount_4 rfl rfl ?_
    refine k_aload_n hX.1 dX6_foundCount_5 rfl rfl ?_
    refine k_geti hX.1 dX6_foundCount_6 flX6_37 rfl (by decide) rfl ?_
    refine k_icmp_ge (tgt := 34) hX.1 dX6_foundCount_9 (by decide) (by omega) (by omega) (fun c_9 => ?_) (fun c_9 => ?_)
    · skip
      exact absurd c_9 (by omega)
    · skip
      refine k_aload_n hX.1 dX6_foundCount_12 rfl rfl ?_
      refine k_getr (t := 4) hX.1 dX6_foundCount_13 flX6_11 rfl (by decide) rfl rfl ?_
      refine k_iload_n hX.1 dX6_foundCount_16 rfl rfl ?_
      refine k_aaldP (j := p) (q := 6 + p) hX.1 dX6_foundCount_17 rfl (by omega) (n := 5) rfl (by omega) (by omega) rfl ?_
      refine k_geti hX.1 dX6_foundCount_18 flX6_133 (sk_P6 (by omega)) (by decide) rfl ?_
      refine k_iconst hX.1 dX6_foundCount_21 ?_
      refine k_icmp_eq (tgt := 28) hX.1 dX6_foundCount_22 (by decide) (by omega) (by omega) (fun c_22 => ?_) (fun c_22 => ?_)
      · skip
        refine k_iinc hX.1 dX6_foundCount_28 rfl (by decide) rfl rfl ?_
        try simp only [List.set_cons_zero, List.set_cons_succ]
        refine k_goto (tgt := 4) hX.1 dX6_foundCount_31 (by decide) ?_
        exact ih (p + 1) _ ⟨by omega, by simp only [sm, hm.2]; first | (rw [if_pos (by omega)]; omega) | (rw [if_neg (by omega)])⟩
      · skip
        refine k_iinc hX.1 dX6_foundCount_25 rfl (by decide) rfl rfl ?_
        try simp only [List.set_cons_zero, List.set_cons_succ]
        refine k_iinc hX.1 dX6_foundCount_28 rfl (by decide) rfl rfl ?_
        try simp only [List.set_cons_zero, List.set_cons_succ]
        refine k_goto (tgt := 4) hX.1 dX6_foundCount_31 (by decide) ?_
        exact ih (p + 1) _ ⟨by omega, by simp only [sm, hm.2]; first | (rw [if_pos (by omega)]; omega) | (rw [if_neg (by omega)])⟩

set_option maxRecDepth 100000 in
set_option maxHeartbeats 4000000 in
theorem cW_foundCount (E : En) {A : St} {g : Mm} {n : Int} (hC : CW A g) (hW : WW A n) : Fn E 1 mX6_foundCount [vR 3] g (vI (fC A)) := by
  have hC0 := hC
  obtain ⟨⟨hc1, hc2, hc3⟩, hcp, hcl⟩ := hC
  obtain ⟨⟨hw1, hw2, hw3, hw4, hw5, hw6, hw7, hw8⟩, hwp, hwl⟩ := id hW
  refine Ok_of gmX6_foundCount (by omega) (Nat.le_of_ble_eq_true rfl) (fun X hX => ?_)
  show V E X 0 [some (vR 3), none, none] [] g
  refine k_iconst hX.1 dX6_foundCount_0 ?_
  refine k_istore_n hX.1 dX6_foundCount_1 rfl (by decide) rfl rfl ?_
  try simp only [List.set_cons_zero, List.set_cons_succ]
  refine k_iconst hX.1 dX6_foundCount_2 ?_
  refine k_istore_n hX.1 dX6_foundCount_3 rfl (by decide) rfl rfl ?_
  try simp only [List.set_cons_zero, List.set_cons_succ]
  exact lp_foundCount E hC0 hW hX (A 12 0).toNat 0 0 ⟨by omega, rfl⟩

set_option maxRecDepth 100000 in
set_option maxHeartbeats 4000000 in
theorem lp_sumOfLots (E : En) {A : St} {g : Mm} {n : Int} (hC : CW A g) (hW : WW A n) {w : Int} (hw : 0 ≤ w ∧ w ≤ 2) {X : Cx} (hX : Wk E mX6_sumOfLots X 2 (fun r g' => r = some (vI (lS A w)) ∧ g' = g)) : ∀ (m : Nat) (t : Nat) (acc : Int), m + t = (A 12 2).toNat ∧ acc = sm (fun t => lt1 A t w) t → V E X 4 [some (vR 3), some (vI w), some (vI acc), some (vI (t : Int))] [] g := by
  have hC0 := hC
  obtain ⟨⟨hc1, hc2, hc3⟩, hcp, hcl⟩ := hC
  obtain ⟨⟨hw1, hw2, hw3, hw4, hw5, hw6, hw7, hw8⟩, hwp, hwl⟩ := id hW
  intro m
  induction m with
  | zero =>
    intro t acc hm
    refine k_iload_n hX.1 dX6_sumOfLots_4 rfl rfl ?_
    refine k_aload_n hX.1 dX6_sumOfLots_5 rfl rfl ?_
    refine k_geti hX.1 dX6_sumOfLots_6 flX6_40 rfl (by decide) rfl ?_
    refine k_icmp_ge (tgt := 31) hX.1 dX6_sumOfLots_9 (by decide) (by omega) (by omega) (fun c_9 => ?_) (fun c_9 => ?_)
    · skip
      refine k_iload_n hX.1 dX6_sumOfLots_31 rfl rfl ?_
      refine k_iret hX dX6_sumOfLots_32 rfl ?_
      refine ⟨?_, rfl⟩
      obtain ⟨h1, h2⟩ := hm
      rw [h2, show t = (A 12 2).toNat by omega]
      rfl
    · skip
      exact absurd c_9 (by omega)
  | succ m ih =>
    intro t acc hm
    obtain ⟨e0, e1, e2⟩ := hcl t (by omega)
    refine k_iload_n hX.1 dX6_sumOfLots_4 rfl rfl ?_
    refine k_aload_n hX.1 dX6_sumOfLots_5 rfl rfl ?_
    refine k_geti hX.1 dX6_sumOfLots_6 flX6_40 rfl (by decide) rfl ?_
    refine k_icmp_ge (tgt := 31) hX.1 dX6_sumOfLots_9 (by decide) (by omega) (by omega) (fun c_9 => ?_) (fun c_9 => ?_)
    · skip
      exact absurd c_9 (by omega)
    · skip
      refine k_iload_n hX.1 dX6_sumOfLots_12 rfl rfl ?_
      refine k_aload_n hX.1 dX6_sumOfLots_13 rfl rfl ?_
      refine k_getr (t := 5) hX.1 dX6_sumOfLots_14 flX6_19 rfl (by decide) rfl rfl ?_
      refine k_iload_n hX.1 dX6_sumOfLots_17 rfl rfl ?_
      refine k_aaldL (j := t) (q := 11 + t) hX.1 dX6_sumOfLots_18 rfl (by omega) (n := 3) rfl (by omega) (by omega) rfl ?_
      refine k_iload_n hX.1 dX6_sumOfLots_19 rfl rfl ?_
      refine k_callVf (d2 := 1) (n := 1) (as := [_]) hX.1 dX6_sumOfLots_20 lkX6_136 (fit_of hX (by omega) gmX2_tell) rfl (sk_L11 (by omega)) (by decide) rfl rfl rfl (Nat.le_of_ble_eq_true rfl) (cL_tell E g (t := t) (by omega) (by omega)) ?_
      refine k_iadd hX.1 dX6_sumOfLots_23 ?_
      refine k_istore_n hX.1 dX6_sumOfLots_24 rfl (by decide) rfl rfl ?_
      try simp only [List.set_cons_zero, List.set_cons_succ]
      refine k_iinc hX.1 dX6_sumOfLots_25 rfl (by decide) rfl rfl ?_
      try simp only [List.set_cons_zero, List.set_cons_succ]
      refine k_goto (tgt := 4) hX.1 dX6_sumOfLots_28 (by decide) ?_
      exact ih (t + 1) _ ⟨by omega, by rw [sm, hm.2, lt1, e0, e1, e2]⟩

set_option maxRecDepth 100000 in
set_option maxHeartbeats 4000000 in
theorem cW_sumOfLots (E : En) {A : St} {g : Mm} {n : Int} (hC : CW A g) (hW : WW A n) {w : Int} (hw : 0 ≤ w ∧ w ≤ 2) : Fn E 2 mX6_sumOfLots [vR 3, vI w] g (vI (lS A w)) := by
  have hC0 := hC
  obtain ⟨⟨hc1, hc2, hc3⟩, hcp, hcl⟩ := hC
  obtain ⟨⟨hw1, hw2, hw3, hw4, hw5, hw6, hw7, hw8⟩, hwp, hwl⟩ := id hW
  refine Ok_of gmX6_sumOfLots (by omega) (Nat.le_of_ble_eq_true rfl) (fun X hX => ?_)
  show V E X 0 [some (vR 3), some (vI w), none, none] [] g
  refine k_iconst hX.1 dX6_sumOfLots_0 ?_
  refine k_istore_n hX.1 dX6_sumOfLots_1 rfl (by decide) rfl rfl ?_
  try simp only [List.set_cons_zero, List.set_cons_succ]
  refine k_iconst hX.1 dX6_sumOfLots_2 ?_
  refine k_istore_n hX.1 dX6_sumOfLots_3 rfl (by decide) rfl rfl ?_
  try simp only [List.set_cons_zero, List.set_cons_succ]
  exact lp_sumOfLots E hC0 hW hw hX (A 12 2).toNat 0 0 ⟨by omega, rfl⟩
end
section
theorem wNeed_bd {A : St} {n : Int} (hW : WW A n) {m : Nat} (hm : (m : Int) ≤ A 12 0) : 0 ≤ wNeed A m ∧ wNeed A m ≤ 45 := by
  obtain ⟨⟨hw1, hw2, -⟩, hwp, -⟩ := hW
  have h := sm_bd (f := fun p => if A 2 p = -1 then A 1 p else 0) (a := 0) (b := 9) (n := m) (fun p hp => by
    obtain ⟨-, ⟨h1, h2⟩, -⟩ := hwp p (by omega)

    split <;> omega)
  unfold wNeed
  omega
theorem wTold_bd {A : St} {n : Int} (hW : WW A n) {m : Nat} (hm : (m : Int) ≤ A 12 0) : 0 ≤ wTold A m ∧ wTold A m ≤ 90 := by
  obtain ⟨⟨hw1, hw2, -⟩, hwp, -⟩ := hW
  have h := sm_bd (f := fun p => if A 6 p = -1 then 0 else A 6 p) (a := 0) (b := 18) (n := m) (fun p hp => by
    obtain ⟨-, -, h2, h3, h4, h5, h6, h7⟩ := hwp p (by omega)

    split <;> omega)
  unfold wTold
  omega
theorem wOf_bd {A : St} {n : Int} (hW : WW A n) {m : Nat} (hm : (m : Int) ≤ A 12 0) : 0 ≤ wOf A m ∧ wOf A m ≤ 45 := by
  obtain ⟨⟨hw1, hw2, -⟩, hwp, -⟩ := hW
  have h := sm_bd (f := fun p => if A 6 p = -1 then 0 else A 1 p) (a := 0) (b := 9) (n := m) (fun p hp => by
    obtain ⟨-, ⟨h1, h2⟩, -⟩ := hwp p (by omega)

    split <;> omega)
  unfold wOf
  omega
theorem wProd_bd {A : St} {n : Int} (hW : WW A n) {m : Nat} (hm : (m : Int) ≤ A 12 0) : 0 ≤ wNeed A m * wTold A m ∧ wNeed A m * wTold A m ≤ 4050 := by
  have h1 := wNeed_bd hW hm
  have h2 := wTold_bd hW hm
  refine ⟨Int.mul_nonneg h1.1 h2.1, ?_⟩
  exact Int.mul_le_mul h1.2 h2.2 h2.1 (by decide)
set_option maxRecDepth 100000 in
set_option maxHeartbeats 4000000 in
theorem lp_ballsWanted (E : En) {A : St} {g : Mm} {n : Int} (hC : CW A g) (hW : WW A n) {t : Nat} (ht : (t : Int) < A 12 2) {b : Int} (hb : b = 0 ∨ b = 1) {X : Cx} (hX : Wk E mX6_ballsWanted X 2 (fun r g' => r = some (vI (want A t b)) ∧ g' = g)) : ∀ (m : Nat) (p : Nat) (o q f : Int), m + p = (A 12 0).toNat ∧ o = wNeed A p ∧ q = wTold A p ∧ f = wOf A p → V E X 11 [some (vR 3), some (vI (t : Int)), some (vI b), some (vI o), some (vI q), some (vI f), some (vI (p : Int)), none] [] g := by
  have hC0 := hC
  obtain ⟨⟨hc1, hc2, hc3⟩, hcp, hcl⟩ := hC
  obtain ⟨⟨hw1, hw2, hw3, hw4, hw5, hw6, hw7, hw8⟩, hwp, hwl⟩ := id hW
  obtain ⟨l0, l1, l2⟩ := hcl (t) (by omega)
  obtain ⟨⟨la, lb⟩, ⟨lc, ld⟩, ⟨le, lf⟩⟩ := hwl (t) (by omega)
  intro m
  induction m with
  | zero =>
    intro p o q f hm
    obtain ⟨h1, rfl, rfl, rfl⟩ := hm
    obtain rfl : p = (A 12 0).toNat := by omega
    have b1 := wNeed_bd hW (m := (A 12 0).toNat) (by omega)
    have b2 := wTold_bd hW (m := (A 12 0).toNat) (by omega)
    have b3 := wOf_bd hW (m := (A 12 0).toNat) (by omega)
    have b4 := wProd_bd hW (m := (A 12 0).toNat) (by omega)
    refine k_iload hX.1 dX6_ballsWanted_11 rfl ?_
    refine k_aload_n hX.1 dX6_ballsWanted_13 rfl rfl ?_
    refine k_geti hX.1 dX6_ballsWanted_14 flX6_37 rfl (by decide) rfl ?_
    refine k_icmp_ge (tgt := 82) hX.1 dX6_ballsWanted_17 (by decide) (by omega) (by omega) (fun c_17 => ?_) (fun c_17 => ?_)
    · skip
      refine k_iload_n hX.1 dX6_ballsWanted_82 rfl rfl ?_
      refine k_if_eq (tgt := 104) hX.1 dX6_ballsWanted_83 (by decide) (by omega) (fun c_83 => ?_) (fun c_83 => ?_)
      · skip
        refine k_iconst hX.1 dX6_ballsWanted_104 ?_
        refine k_iload_n hX.1 dX6_ballsWanted_105 rfl rfl ?_
        refine k_aload_n hX.1 dX6_ballsWanted_106 rfl rfl ?_
        refine k_getr (t := 5) hX.1 dX6_ballsWanted_107 flX6_19 rfl (by decide) rfl rfl ?_
        refine k_iload_n hX.1 dX6_ballsWanted_110 rfl rfl ?_
        refine k_aaldL (j := t) (q := 11 + t) hX.1 dX6_ballsWanted_111 rfl (by omega) (n := 3) rfl (by omega) (by omega) rfl ?_
        refine k_callVf (d2 := 1) (n := 0) (as := []) hX.1 dX6_ballsWanted_112 lkX6_76 (fit_of hX (by omega) gmX2_rows) rfl (sk_L11 (by omega)) (by decide) rfl rfl rfl (Nat.le_of_ble_eq_true rfl) (cL_rows E g (t := t) (by omega)) ?_
        refine k_isub hX.1 dX6_ballsWanted_115 ?_
        have b5 : 0 ≤ (wNeed A (A 12 0).toNat * wTold A (A 12 0).toNat + wOf A (A 12 0).toNat - 1) / wOf A (A 12 0).toNat → True := fun _ => trivial
        refine k_max hX.1 dX6_ballsWanted_116 lkX6_143 (by omega) (by omega) (Nat.le_of_ble_eq_true rfl) ?_
        refine k_istore hX.1 dX6_ballsWanted_119 (by decide) rfl rfl ?_
        try simp only [List.set_cons_zero, List.set_cons_succ]
        refine k_iload hX.1 dX6_ballsWanted_121 rfl ?_
        refine k_iconst hX.1 dX6_ballsWanted_123 ?_
        refine k_iadd hX.1 dX6_ballsWanted_124 ?_
        refine k_iconst hX.1 dX6_ballsWanted_125 ?_
        refine k_isub hX.1 dX6_ballsWanted_126 ?_
        refine k_iconst hX.1 dX6_ballsWanted_127 ?_
        refine k_idiv hX.1 dX6_ballsWanted_128 (by omega) (by omega) ?_
        refine k_iret hX dX6_ballsWanted_129 rfl ?_
        refine ⟨?_, rfl⟩
        first
          | (have hr : wRows A b = wNeed A (A 12 0).toNat := by unfold wRows; rw [if_pos (by omega)]
             unfold want rws; rw [hr, l1, l2]; congr 2; split <;> omega)
          | (have hr : wRows A b = (wNeed A (A 12 0).toNat * wTold A (A 12 0).toNat + wOf A (A 12 0).toNat - 1) / wOf A (A 12 0).toNat := by unfold wRows; rw [if_neg (by omega)]
             unfold want rws; rw [hr, l1, l2]; congr 2; split <;> omega)
      · skip
        refine k_iload hX.1 dX6_ballsWanted_86 rfl ?_
        refine k_if_le (tgt := 104) hX.1 dX6_ballsWanted_88 (by decide) (by omega) (fun c_88 => ?_) (fun c_88 => ?_)
        · skip
          refine k_iconst hX.1 dX6_ballsWanted_104 ?_
          refine k_iload_n hX.1 dX6_ballsWanted_105 rfl rfl ?_
          refine k_aload_n hX.1 dX6_ballsWanted_106 rfl rfl ?_
          refine k_getr (t := 5) hX.1 dX6_ballsWanted_107 flX6_19 rfl (by decide) rfl rfl ?_
          refine k_iload_n hX.1 dX6_ballsWanted_110 rfl rfl ?_
          refine k_aaldL (j := t) (q := 11 + t) hX.1 dX6_ballsWanted_111 rfl (by omega) (n := 3) rfl (by omega) (by omega) rfl ?_
          refine k_callVf (d2 := 1) (n := 0) (as := []) hX.1 dX6_ballsWanted_112 lkX6_76 (fit_of hX (by omega) gmX2_rows) rfl (sk_L11 (by omega)) (by decide) rfl rfl rfl (Nat.le_of_ble_eq_true rfl) (cL_rows E g (t := t) (by omega)) ?_
          refine k_isub hX.1 dX6_ballsWanted_115 ?_
          have b5 : 0 ≤ (wNeed A (A 12 0).toNat * wTold A (A 12 0).toNat + wOf A (A 12 0).toNat - 1) / wOf A (A 12 0).toNat → True := fun _ => trivial
          refine k_max hX.1 dX6_ballsWanted_116 lkX6_143 (by omega) (by omega) (Nat.le_of_ble_eq_true rfl) ?_
          refine k_istore hX.1 dX6_ballsWanted_119 (by decide) rfl rfl ?_
          try simp only [List.set_cons_zero, List.set_cons_succ]
          refine k_iload hX.1 dX6_ballsWanted_121 rfl ?_
          refine k_iconst hX.1 dX6_ballsWanted_123 ?_
          refine k_iadd hX.1 dX6_ballsWanted_124 ?_
          refine k_iconst hX.1 dX6_ballsWanted_125 ?_
          refine k_isub hX.1 dX6_ballsWanted_126 ?_
          refine k_iconst hX.1 dX6_ballsWanted_127 ?_
          refine k_idiv hX.1 dX6_ballsWanted_128 (by omega) (by omega) ?_
          refine k_iret hX dX6_ballsWanted_129 rfl ?_
          refine ⟨?_, rfl⟩
          first
            | (have hr : wRows A b = wNeed A (A 12 0).toNat := by unfold wRows; rw [if_pos (by omega)]
               unfold want rws; rw [hr, l1, l2]; congr 2; split <;> omega)
            | (have hr : wRows A b = (wNeed A (A 12 0).toNat * wTold A (A 12 0).toNat + wOf A (A 12 0).toNat - 1) / wOf A (A 12 0).toNat := by unfold wRows; rw [if_neg (by omega)]
               unfold want rws; rw [hr, l1, l2]; congr 2; split <;> omega)
        · skip
          refine k_iload_n hX.1 dX6_ballsWanted_91 rfl rfl ?_
          refine k_iload hX.1 dX6_ballsWanted_92 rfl ?_
          refine k_imul hX.1 dX6_ballsWanted_94 ?_
          refine k_iload hX.1 dX6_ballsWanted_95 rfl ?_
          refine k_iadd hX.1 dX6_ballsWanted_97 ?_
          refine k_iconst hX.1 dX6_ballsWanted_98 ?_
          refine k_isub hX.1 dX6_ballsWanted_99 ?_
          refine k_iload hX.1 dX6_ballsWanted_100 rfl ?_
          refine k_idiv hX.1 dX6_ballsWanted_102 (by omega) (by omega) ?_
          have b6 : 0 ≤ (wNeed A (A 12 0).toNat * wTold A (A 12 0).toNat + wOf A (A 12 0).toNat - 1) / wOf A (A 12 0).toNat ∧ (wNeed A (A 12 0).toNat * wTold A (A 12 0).toNat + wOf A (A 12 0).toNat - 1) / wOf A (A 12 0).toNat ≤ 5000 := ⟨Int.ediv_nonneg (by omega) (by omega), Int.le_trans (Int.ediv_le_self _ (by omega)) (by omega)⟩
          refine k_istore_n hX.1 dX6_ballsWanted_103 rfl (by decide) rfl rfl ?_
          try simp only [List.set_cons_zero, List.set_cons_succ]
          refine k_iconst hX.1 dX6_ballsWanted_104 ?_
          refine k_iload_n hX.1 dX6_ballsWanted_105 rfl rfl ?_
          refine k_aload_n hX.1 dX6_ballsWanted_106 rfl rfl ?_
          refine k_getr (t := 5) hX.1 dX6_ballsWanted_107 flX6_19 rfl (by decide) rfl rfl ?_
          refine k_iload_n hX.1 dX6_ballsWanted_110 rfl rfl ?_
          refine k_aaldL (j := t) (q := 11 + t) hX.1 dX6_ballsWanted_111 rfl (by omega) (n := 3) rfl (by omega) (by omega) rfl ?_
          refine k_callVf (d2 := 1) (n := 0) (as := []) hX.1 dX6_ballsWanted_112 lkX6_76 (fit_of hX (by omega) gmX2_rows) rfl (sk_L11 (by omega)) (by decide) rfl rfl rfl (Nat.le_of_ble_eq_true rfl) (cL_rows E g (t := t) (by omega)) ?_
          refine k_isub hX.1 dX6_ballsWanted_115 ?_
          have b5 : 0 ≤ (wNeed A (A 12 0).toNat * wTold A (A 12 0).toNat + wOf A (A 12 0).toNat - 1) / wOf A (A 12 0).toNat → True := fun _ => trivial
          refine k_max hX.1 dX6_ballsWanted_116 lkX6_143 (by omega) (by omega) (Nat.le_of_ble_eq_true rfl) ?_
          refine k_istore hX.1 dX6_ballsWanted_119 (by decide) rfl rfl ?_
          try simp only [List.set_cons_zero, List.set_cons_succ]
          refine k_iload hX.1 dX6_ballsWanted_121 rfl ?_
          refine k_iconst hX.1 dX6_ballsWanted_123 ?_
          refine k_iadd hX.1 dX6_ballsWanted_124 ?_
          refine k_iconst hX.1 dX6_ballsWanted_125 ?_
          refine k_isub hX.1 dX6_ballsWanted_126 ?_
          refine k_iconst hX.1 dX6_ballsWanted_127 ?_
          refine k_idiv hX.1 dX6_ballsWanted_128 (by omega) (by omega) ?_
          refine k_iret hX dX6_ballsWanted_129 rfl ?_
          refine ⟨?_, rfl⟩
          first
            | (have hr : wRows A b = wNeed A (A 12 0).toNat := by unfold wRows; rw [if_pos (by omega)]
               unfold want rws; rw [hr, l1, l2]; congr 2; split <;> omega)
            | (have hr : wRows A b = (wNeed A (A 12 0).toNat * wTold A (A 12 0).toNat + wOf A (A 12 0).toNat - 1) / wOf A (A 12 0).toNat := by unfold wRows; rw [if_neg (by omega)]
               unfold want rws; rw [hr, l1, l2]; congr 2; split <;> omega)
    · skip
      exact absurd c_17 (by omega)
  | succ m ih =>
    intro p o q f hm
    obtain ⟨e0, e1, e2, e3, e4, e5, e6, e7⟩ := hcp (p) (by omega)
    obtain ⟨⟨ek1, ek2⟩, ⟨er1, er2⟩, ew2, ew3, ew4, ew5, ew6, ew7⟩ := hwp (p) (by omega)
    refine k_iload hX.1 dX6_ballsWanted_11 rfl ?_
    refine k_aload_n hX.1 dX6_ballsWanted_13 rfl rfl ?_
    refine k_geti hX.1 dX6_ballsWanted_14 flX6_37 rfl (by decide) rfl ?_
    refine k_icmp_ge (tgt := 82) hX.1 dX6_ballsWanted_17 (by decide) (by omega) (by omega) (fun c_17 => ?_) (fun c_17 => ?_)
    · skip
      exact absurd c_17 (by omega)
    · skip
      refine k_aload_n hX.1 dX6_ballsWanted_20 rfl rfl ?_
      refine k_getr (t := 4) hX.1 dX6_ballsWanted_21 flX6_11 rfl (by decide) rfl rfl ?_
      refine k_iload hX.1 dX6_ballsWanted_24 rfl ?_
      refine k_aaldP (j := p) (q := 6 + p) hX.1 dX6_ballsWanted_26 rfl (by omega) (n := 5) rfl (by omega) (by omega) rfl ?_
      refine k_astore hX.1 dX6_ballsWanted_27 (by decide) rfl rfl ?_
      try simp only [List.set_cons_zero, List.set_cons_succ]
      refine k_aload hX.1 dX6_ballsWanted_29 rfl ?_
      refine k_callVf (d2 := 1) (n := 0) (as := []) hX.1 dX6_ballsWanted_31 lkX6_120 (fit_of hX (by omega) gmX4_isKnitted) rfl (sk_P6 (by omega)) (by decide) rfl rfl rfl (Nat.le_of_ble_eq_true rfl) (cP_isKnitted E g (by omega) (by omega)) ?_
      refine k_if_ne (tgt := 48) hX.1 dX6_ballsWanted_34 (by decide) (by split <;> omega) (fun c_34 => ?_) (fun c_34 => ?_)
      · skip
        have h0 : ¬ A 2 p = -1 := by
          intro z; exact c_34 (if_pos (by omega))
        refine k_aload hX.1 dX6_ballsWanted_48 rfl ?_
        refine k_getz hX.1 dX6_ballsWanted_50 flX6_139 (sk_P6 (by omega)) (by decide) rfl ?_
        refine k_if_eq (tgt := 76) hX.1 dX6_ballsWanted_53 (by decide) (by rw [e6]; split <;> omega) (fun c_53 => ?_) (fun c_53 => ?_)
        · skip
          have h1 : A 6 p = -1 := by
            apply Classical.byContradiction; intro z; rw [e6, if_neg z] at c_53; exact absurd c_53 (by decide)
          refine k_iinc hX.1 dX6_ballsWanted_76 rfl (by decide) rfl rfl ?_
          try simp only [List.set_cons_zero, List.set_cons_succ]
          refine k_goto (tgt := 11) hX.1 dX6_ballsWanted_79 (by decide) ?_
          exact k_sub (by repeat first | exact trivial | refine And.intro rfl ?_) (ih (p + 1) _ _ _ ⟨by omega, by obtain ⟨-, rfl, -, -⟩ := hm; simp only [wNeed, sm]; first | (rw [if_pos h0]; omega) | (rw [if_neg h0]; omega), by obtain ⟨-, -, rfl, -⟩ := hm; simp only [wTold, sm]; first | (rw [if_pos h1]; omega) | (rw [if_neg h1]; omega) | (rw [if_pos (by omega)]; omega), by obtain ⟨-, -, -, rfl⟩ := hm; simp only [wOf, sm]; first | (rw [if_pos h1]; omega) | (rw [if_neg h1]; omega) | (rw [if_pos (by omega)]; omega)⟩)
        · skip
          have h1 : ¬ A 6 p = -1 := by
            intro z; exact c_53 (e6.trans (if_pos z))
          refine k_iload hX.1 dX6_ballsWanted_56 rfl ?_
          refine k_aload hX.1 dX6_ballsWanted_58 rfl ?_
          refine k_geti hX.1 dX6_ballsWanted_60 flX6_85 (sk_P6 (by omega)) (by decide) rfl ?_
          refine k_iadd hX.1 dX6_ballsWanted_63 ?_
          refine k_istore hX.1 dX6_ballsWanted_64 (by decide) rfl rfl ?_
          try simp only [List.set_cons_zero, List.set_cons_succ]
          refine k_iload hX.1 dX6_ballsWanted_66 rfl ?_
          refine k_aload hX.1 dX6_ballsWanted_68 rfl ?_
          refine k_geti hX.1 dX6_ballsWanted_70 flX6_69 (sk_P6 (by omega)) (by decide) rfl ?_
          refine k_iadd hX.1 dX6_ballsWanted_73 ?_
          refine k_istore hX.1 dX6_ballsWanted_74 (by decide) rfl rfl ?_
          try simp only [List.set_cons_zero, List.set_cons_succ]
          refine k_iinc hX.1 dX6_ballsWanted_76 rfl (by decide) rfl rfl ?_
          try simp only [List.set_cons_zero, List.set_cons_succ]
          refine k_goto (tgt := 11) hX.1 dX6_ballsWanted_79 (by decide) ?_
          exact k_sub (by repeat first | exact trivial | refine And.intro rfl ?_) (ih (p + 1) _ _ _ ⟨by omega, by obtain ⟨-, rfl, -, -⟩ := hm; simp only [wNeed, sm]; first | (rw [if_pos h0]; omega) | (rw [if_neg h0]; omega), by obtain ⟨-, -, rfl, -⟩ := hm; simp only [wTold, sm]; first | (rw [if_pos h1]; omega) | (rw [if_neg h1]; omega) | (rw [if_pos (by omega)]; omega), by obtain ⟨-, -, -, rfl⟩ := hm; simp only [wOf, sm]; first | (rw [if_pos h1]; omega) | (rw [if_neg h1]; omega) | (rw [if_pos (by omega)]; omega)⟩)
      · skip
        have h0 : A 2 p = -1 := by
          apply Classical.byContradiction; intro z; rw [if_neg (by omega)] at c_34; exact absurd c_34 (by decide)
        refine k_iload_n hX.1 dX6_ballsWanted_37 rfl rfl ?_
        refine k_aload hX.1 dX6_ballsWanted_38 rfl ?_
        refine k_geti hX.1 dX6_ballsWanted_40 flX6_69 (sk_P6 (by omega)) (by decide) rfl ?_
        refine k_iadd hX.1 dX6_ballsWanted_43 ?_
        refine k_istore_n hX.1 dX6_ballsWanted_44 rfl (by decide) rfl rfl ?_
        try simp only [List.set_cons_zero, List.set_cons_succ]
        refine k_goto (tgt := 76) hX.1 dX6_ballsWanted_45 (by decide) ?_
        refine k_iinc hX.1 dX6_ballsWanted_76 rfl (by decide) rfl rfl ?_
        try simp only [List.set_cons_zero, List.set_cons_succ]
        refine k_goto (tgt := 11) hX.1 dX6_ballsWanted_79 (by decide) ?_
        exact k_sub (by repeat first | exact trivial | refine And.intro rfl ?_) (ih (p + 1) _ _ _ ⟨by omega, by obtain ⟨-, rfl, -, -⟩ := hm; simp only [wNeed, sm]; first | (rw [if_pos h0]; omega) | (rw [if_neg h0]; omega), by obtain ⟨-, -, rfl, -⟩ := hm; simp only [wTold, sm]; first | (rw [if_pos h1]; omega) | (rw [if_neg h1]; omega) | (rw [if_pos (by omega)]; omega), by obtain ⟨-, -, -, rfl⟩ := hm; simp only [wOf, sm]; first | (rw [if_pos h1]; omega) | (rw [if_neg h1]; omega) | (rw [if_pos (by omega)]; omega)⟩)

set_option maxRecDepth 100000 in
set_option maxHeartbeats 4000000 in
theorem cW_ballsWanted (E : En) {A : St} {g : Mm} {n : Int} (hC : CW A g) (hW : WW A n) {t : Nat} (ht : (t : Int) < A 12 2) {b : Int} (hb : b = 0 ∨ b = 1) : Fn E 2 mX6_ballsWanted [vR 3, vI (t : Int), vI b] g (vI (want A t b)) := by
  have hC0 := hC
  obtain ⟨⟨hc1, hc2, hc3⟩, hcp, hcl⟩ := hC
  obtain ⟨⟨hw1, hw2, hw3, hw4, hw5, hw6, hw7, hw8⟩, hwp, hwl⟩ := id hW
  refine Ok_of gmX6_ballsWanted (by omega) (Nat.le_of_ble_eq_true rfl) (fun X hX => ?_)
  show V E X 0 [some (vR 3), some (vI (t : Int)), some (vI b), none, none, none, none, none] [] g
  refine k_iconst hX.1 dX6_ballsWanted_0 ?_
  refine k_istore_n hX.1 dX6_ballsWanted_1 rfl (by decide) rfl rfl ?_
  try simp only [List.set_cons_zero, List.set_cons_succ]
  refine k_iconst hX.1 dX6_ballsWanted_2 ?_
  refine k_istore hX.1 dX6_ballsWanted_3 (by decide) rfl rfl ?_
  try simp only [List.set_cons_zero, List.set_cons_succ]
  refine k_iconst hX.1 dX6_ballsWanted_5 ?_
  refine k_istore hX.1 dX6_ballsWanted_6 (by decide) rfl rfl ?_
  try simp only [List.set_cons_zero, List.set_cons_succ]
  refine k_iconst hX.1 dX6_ballsWanted_8 ?_
  refine k_istore hX.1 dX6_ballsWanted_9 (by decide) rfl rfl ?_
  try simp only [List.set_cons_zero, List.set_cons_succ]
  exact lp_ballsWanted E hC0 hW ht hb hX (A 12 0).toNat 0 0 0 0 ⟨by omega, rfl, rfl, rfl⟩

set_option maxRecDepth 100000 in
set_option maxHeartbeats 4000000 in
theorem cW_tellPart (E : En) {A : St} {g : Mm} {n : Int} (hC : CW A g) (hW : WW A n) {p : Nat} (hp : (p : Int) < A 12 0) {q : Int} (hq : 0 ≤ q ∧ q ≤ 8) : Fn E 4 mX6_tellPart [vR 3, vI (p : Int), vI q] g (vI (pn A p q)) := by
  have hC0 := hC
  obtain ⟨⟨hc1, hc2, hc3⟩, hcp, hcl⟩ := hC
  obtain ⟨⟨hw1, hw2, hw3, hw4, hw5, hw6, hw7, hw8⟩, hwp, hwl⟩ := id hW
  obtain ⟨e0, e1, e2, e3, e4, e5, e6, e7⟩ := hcp (p) (by omega)
  obtain ⟨⟨ek1, ek2⟩, ⟨er1, er2⟩, ew2, ew3, ew4, ew5, ew6, ew7⟩ := hwp (p) (by omega)
  refine Ok_of gmX6_tellPart (by omega) (Nat.le_of_ble_eq_true rfl) (fun X hX => ?_)
  show V E X 0 [some (vR 3), some (vI (p : Int)), some (vI q), none] [] g
  refine k_aload_n hX.1 dX6_tellPart_0 rfl rfl ?_
  refine k_getr (t := 4) hX.1 dX6_tellPart_1 flX6_11 rfl (by decide) rfl rfl ?_
  refine k_iload_n hX.1 dX6_tellPart_4 rfl rfl ?_
  refine k_aaldP (j := p) (q := 6 + p) hX.1 dX6_tellPart_5 rfl (by omega) (n := 5) rfl (by omega) (by omega) rfl ?_
  refine k_astore_n hX.1 dX6_tellPart_6 rfl (by decide) rfl rfl ?_
  try simp only [List.set_cons_zero, List.set_cons_succ]
  refine k_iload_n hX.1 dX6_tellPart_7 rfl rfl ?_
  rcases (show q = 0 ∨ q = 1 ∨ q = 2 ∨ q = 3 ∨ q = 4 ∨ q = 5 ∨ q = 6 ∨ q = 7 ∨ (¬ q = 0 ∧ ¬ q = 1 ∧ ¬ q = 2 ∧ ¬ q = 3 ∧ ¬ q = 4 ∧ ¬ q = 5 ∧ ¬ q = 6 ∧ ¬ q = 7) by omega) with s_8 | s_8 | s_8 | s_8 | s_8 | s_8 | s_8 | s_8 | s_8
  · refine k_tableIn (tgt := 56) (off := 48) hX.1 dX6_tellPart_8 (by omega) (by omega) (by omega) (by rw [s_8]; rfl) (by decide) ?_
    skip
    refine k_aload_n hX.1 dX6_tellPart_56 rfl rfl ?_
    refine k_geti hX.1 dX6_tellPart_57 flX6_117 (sk_P6 (by omega)) (by decide) rfl ?_
    refine k_iret hX dX6_tellPart_60 rfl ?_
    refine ⟨?_, rfl⟩
    simp [pn, s_8, e0, e1, e2, e3, e4, e5, e7]
  · refine k_tableIn (tgt := 61) (off := 53) hX.1 dX6_tellPart_8 (by omega) (by omega) (by omega) (by rw [s_8]; rfl) (by decide) ?_
    skip
    refine k_aload_n hX.1 dX6_tellPart_61 rfl rfl ?_
    refine k_geti hX.1 dX6_tellPart_62 flX6_69 (sk_P6 (by omega)) (by decide) rfl ?_
    refine k_iret hX dX6_tellPart_65 rfl ?_
    refine ⟨?_, rfl⟩
    simp [pn, s_8, e0, e1, e2, e3, e4, e5, e7]
  · refine k_tableIn (tgt := 66) (off := 58) hX.1 dX6_tellPart_8 (by omega) (by omega) (by omega) (by rw [s_8]; rfl) (by decide) ?_
    skip
    refine k_aload_n hX.1 dX6_tellPart_66 rfl rfl ?_
    refine k_callVf (d2 := 1) (n := 0) (as := []) hX.1 dX6_tellPart_67 lkX6_114 (fit_of hX (by omega) gmX4_light) rfl (sk_P6 (by omega)) (by decide) rfl rfl rfl (Nat.le_of_ble_eq_true rfl) (cP_light E g (by omega) (by omega)) ?_
    refine k_iret hX dX6_tellPart_70 rfl ?_
    refine ⟨?_, rfl⟩
    simp [pn, s_8, e0, e1, e2, e3, e4, e5, e7]
  · refine k_tableIn (tgt := 71) (off := 63) hX.1 dX6_tellPart_8 (by omega) (by omega) (by omega) (by rw [s_8]; rfl) (by decide) ?_
    skip
    refine k_aload_n hX.1 dX6_tellPart_71 rfl rfl ?_
    refine k_geti hX.1 dX6_tellPart_72 flX6_79 (sk_P6 (by omega)) (by decide) rfl ?_
    refine k_iret hX dX6_tellPart_75 rfl ?_
    refine ⟨?_, rfl⟩
    simp [pn, s_8, e0, e1, e2, e3, e4, e5, e7]
  · refine k_tableIn (tgt := 76) (off := 68) hX.1 dX6_tellPart_8 (by omega) (by omega) (by omega) (by rw [s_8]; rfl) (by decide) ?_
    skip
    refine k_aload_n hX.1 dX6_tellPart_76 rfl rfl ?_
    refine k_geti hX.1 dX6_tellPart_77 flX6_82 (sk_P6 (by omega)) (by decide) rfl ?_
    refine k_iret hX dX6_tellPart_80 rfl ?_
    refine ⟨?_, rfl⟩
    simp [pn, s_8, e0, e1, e2, e3, e4, e5, e7]
  · refine k_tableIn (tgt := 81) (off := 73) hX.1 dX6_tellPart_8 (by omega) (by omega) (by omega) (by rw [s_8]; rfl) (by decide) ?_
    skip
    refine k_aload_n hX.1 dX6_tellPart_81 rfl rfl ?_
    refine k_iload_n hX.1 dX6_tellPart_82 rfl rfl ?_
    refine k_callVf (d2 := 2) (n := 1) (as := [_]) hX.1 dX6_tellPart_83 lkX6_124 (fit_of hX (by omega) gmX6_tone) rfl rfl (by decide) rfl rfl rfl (Nat.le_of_ble_eq_true rfl) (cW_tone E hC0 hW hp) ?_
    refine k_iret hX dX6_tellPart_86 rfl ?_
    refine ⟨?_, rfl⟩
    simp [pn, s_8, e0, e1, e2, e3, e4, e5, e7]
  · refine k_tableIn (tgt := 87) (off := 79) hX.1 dX6_tellPart_8 (by omega) (by omega) (by omega) (by rw [s_8]; rfl) (by decide) ?_
    skip
    refine k_aload_n hX.1 dX6_tellPart_87 rfl rfl ?_
    refine k_iload_n hX.1 dX6_tellPart_88 rfl rfl ?_
    refine k_callVf (d2 := 3) (n := 1) (as := [_]) hX.1 dX6_tellPart_89 lkX6_130 (fit_of hX (by omega) gmX6_seenNext) rfl rfl (by decide) rfl rfl rfl (Nat.le_of_ble_eq_true rfl) (cW_seenNext E hC0 hW hp) ?_
    refine k_iret hX dX6_tellPart_92 rfl ?_
    refine ⟨?_, rfl⟩
    simp [pn, s_8, e0, e1, e2, e3, e4, e5, e7]
  · refine k_tableIn (tgt := 93) (off := 85) hX.1 dX6_tellPart_8 (by omega) (by omega) (by omega) (by rw [s_8]; rfl) (by decide) ?_
    skip
    refine k_aload_n hX.1 dX6_tellPart_93 rfl rfl ?_
    refine k_geti hX.1 dX6_tellPart_94 flX6_85 (sk_P6 (by omega)) (by decide) rfl ?_
    refine k_aload_n hX.1 dX6_tellPart_97 rfl rfl ?_
    refine k_geti hX.1 dX6_tellPart_98 flX6_88 (sk_P6 (by omega)) (by decide) rfl ?_
    refine k_iadd hX.1 dX6_tellPart_101 ?_
    refine k_iret hX dX6_tellPart_102 rfl ?_
    refine ⟨?_, rfl⟩
    simp [pn, s_8, e0, e1, e2, e3, e4, e5, e7]
  · refine k_tableOut (tgt := 103) hX.1 dX6_tellPart_8 (by omega) (by omega) (by decide) ?_
    skip
    refine k_aload_n hX.1 dX6_tellPart_103 rfl rfl ?_
    refine k_geti hX.1 dX6_tellPart_104 flX6_133 (sk_P6 (by omega)) (by decide) rfl ?_
    refine k_iret hX dX6_tellPart_107 rfl ?_
    refine ⟨?_, rfl⟩
    simp [pn, s_8, e0, e1, e2, e3, e4, e5, e7]

def cA (A : St) (q : Int) : Int := if q = 0 then A 12 0 else if q = 1 then A 12 1 else if q = 2 then A 12 2 else if q = 3 then kC A else if q = 4 then sAll A else if q = 5 then lS A 1 else if q = 6 then lS A 2 else fC A
set_option maxRecDepth 100000 in
set_option maxHeartbeats 4000000 in
theorem cW_tellAll (E : En) {A : St} {g : Mm} {n : Int} (hC : CW A g) (hW : WW A n) {q : Int} (hq : 0 ≤ q ∧ q ≤ 7) : Fn E 5 mX6_tellAll [vR 3, vI q] g (vI (cA A q)) := by
  have hC0 := hC
  obtain ⟨⟨hc1, hc2, hc3⟩, hcp, hcl⟩ := hC
  obtain ⟨⟨hw1, hw2, hw3, hw4, hw5, hw6, hw7, hw8⟩, hwp, hwl⟩ := id hW
  refine Ok_of gmX6_tellAll (by omega) (Nat.le_of_ble_eq_true rfl) (fun X hX => ?_)
  show V E X 0 [some (vR 3), some (vI q)] [] g
  refine k_iload_n hX.1 dX6_tellAll_0 rfl rfl ?_
  rcases (show q = 0 ∨ q = 1 ∨ q = 2 ∨ q = 3 ∨ q = 4 ∨ q = 5 ∨ q = 6 ∨ (¬ q = 0 ∧ ¬ q = 1 ∧ ¬ q = 2 ∧ ¬ q = 3 ∧ ¬ q = 4 ∧ ¬ q = 5 ∧ ¬ q = 6) by omega) with s_1 | s_1 | s_1 | s_1 | s_1 | s_1 | s_1 | s_1
  · refine k_tableIn (tgt := 44) (off := 43) hX.1 dX6_tellAll_1 (by omega) (by omega) (by omega) (by rw [s_1]; rfl) (by decide) ?_
    skip
    refine k_aload_n hX.1 dX6_tellAll_44 rfl rfl ?_
    refine k_geti hX.1 dX6_tellAll_45 flX6_37 rfl (by decide) rfl ?_
    refine k_iret hX dX6_tellAll_48 rfl ?_
    refine ⟨?_, rfl⟩
    simp [cA, s_1, hc1, hc2, hc3]
  · refine k_tableIn (tgt := 49) (off := 48) hX.1 dX6_tellAll_1 (by omega) (by omega) (by omega) (by rw [s_1]; rfl) (by decide) ?_
    skip
    refine k_aload_n hX.1 dX6_tellAll_49 rfl rfl ?_
    refine k_geti hX.1 dX6_tellAll_50 flX6_59 rfl (by decide) rfl ?_
    refine k_iret hX dX6_tellAll_53 rfl ?_
    refine ⟨?_, rfl⟩
    simp [cA, s_1, hc1, hc2, hc3]
  · refine k_tableIn (tgt := 54) (off := 53) hX.1 dX6_tellAll_1 (by omega) (by omega) (by omega) (by rw [s_1]; rfl) (by decide) ?_
    skip
    refine k_aload_n hX.1 dX6_tellAll_54 rfl rfl ?_
    refine k_geti hX.1 dX6_tellAll_55 flX6_40 rfl (by decide) rfl ?_
    refine k_iret hX dX6_tellAll_58 rfl ?_
    refine ⟨?_, rfl⟩
    simp [cA, s_1, hc1, hc2, hc3]
  · refine k_tableIn (tgt := 59) (off := 58) hX.1 dX6_tellAll_1 (by omega) (by omega) (by omega) (by rw [s_1]; rfl) (by decide) ?_
    skip
    refine k_aload_n hX.1 dX6_tellAll_59 rfl rfl ?_
    refine k_callVf (d2 := 2) (n := 0) (as := []) hX.1 dX6_tellAll_60 lkX6_146 (fit_of hX (by omega) gmX6_knittedCount) rfl rfl (by decide) rfl rfl rfl (Nat.le_of_ble_eq_true rfl) (cW_knittedCount E hC0 hW) ?_
    refine k_iret hX dX6_tellAll_63 rfl ?_
    refine ⟨?_, rfl⟩
    simp [cA, s_1, hc1, hc2, hc3]
  · refine k_tableIn (tgt := 64) (off := 63) hX.1 dX6_tellAll_1 (by omega) (by omega) (by omega) (by rw [s_1]; rfl) (by decide) ?_
    skip
    refine k_aload_n hX.1 dX6_tellAll_64 rfl rfl ?_
    refine k_callVf (d2 := 4) (n := 0) (as := []) hX.1 dX6_tellAll_65 lkX6_149 (fit_of hX (by omega) gmX6_seenOfAll) rfl rfl (by decide) rfl rfl rfl (Nat.le_of_ble_eq_true rfl) (cW_seenOfAll E hC0 hW) ?_
    refine k_iret hX dX6_tellAll_68 rfl ?_
    refine ⟨?_, rfl⟩
    simp [cA, s_1, hc1, hc2, hc3]
  · refine k_tableIn (tgt := 69) (off := 68) hX.1 dX6_tellAll_1 (by omega) (by omega) (by omega) (by rw [s_1]; rfl) (by decide) ?_
    skip
    refine k_aload_n hX.1 dX6_tellAll_69 rfl rfl ?_
    refine k_iconst hX.1 dX6_tellAll_70 ?_
    refine k_callVf (d2 := 2) (n := 1) (as := [_]) hX.1 dX6_tellAll_71 lkX6_152 (fit_of hX (by omega) gmX6_sumOfLots) rfl rfl (by decide) rfl rfl rfl (Nat.le_of_ble_eq_true rfl) (cW_sumOfLots E hC0 hW (by omega)) ?_
    refine k_iret hX dX6_tellAll_74 rfl ?_
    refine ⟨?_, rfl⟩
    simp [cA, s_1, hc1, hc2, hc3]
  · refine k_tableIn (tgt := 75) (off := 74) hX.1 dX6_tellAll_1 (by omega) (by omega) (by omega) (by rw [s_1]; rfl) (by decide) ?_
    skip
    refine k_aload_n hX.1 dX6_tellAll_75 rfl rfl ?_
    refine k_iconst hX.1 dX6_tellAll_76 ?_
    refine k_callVf (d2 := 2) (n := 1) (as := [_]) hX.1 dX6_tellAll_77 lkX6_152 (fit_of hX (by omega) gmX6_sumOfLots) rfl rfl (by decide) rfl rfl rfl (Nat.le_of_ble_eq_true rfl) (cW_sumOfLots E hC0 hW (by omega)) ?_
    refine k_iret hX dX6_tellAll_80 rfl ?_
    refine ⟨?_, rfl⟩
    simp [cA, s_1, hc1, hc2, hc3]
  · refine k_tableOut (tgt := 81) hX.1 dX6_tellAll_1 (by omega) (by omega) (by decide) ?_
    skip
    refine k_aload_n hX.1 dX6_tellAll_81 rfl rfl ?_
    refine k_callVf (d2 := 1) (n := 0) (as := []) hX.1 dX6_tellAll_82 lkX6_155 (fit_of hX (by omega) gmX6_foundCount) rfl rfl (by decide) rfl rfl rfl (Nat.le_of_ble_eq_true rfl) (cW_foundCount E hC0 hW) ?_
    refine k_iret hX dX6_tellAll_85 rfl ?_
    refine ⟨?_, rfl⟩
    simp [cA, s_1, hc1, hc2, hc3]

set_option maxRecDepth 100000 in
set_option maxHeartbeats 4000000 in
theorem cX_rof (E : En) (g : Mm) {r a b : Int} (hr : 0 ≤ r ∧ r ≤ 100) (ha : bd a) (hb : bd b) : Fn E 1 mX7_rowsOfFirst [vI r, vI a, vI b] g (vI (if a = b then r else (r + 1) / 2)) := by
  refine Ok_of gmX7_rowsOfFirst (by omega) (Nat.le_of_ble_eq_true rfl) (fun X hX => ?_)
  show V E X 0 [some (vI r), some (vI a), some (vI b)] [] g
  refine k_iload_n hX.1 dX7_rowsOfFirst_0 rfl rfl ?_
  refine k_iload_n hX.1 dX7_rowsOfFirst_1 rfl rfl ?_
  refine k_icmp_ne (tgt := 9) hX.1 dX7_rowsOfFirst_2 (by decide) (by omega) (by omega) (fun c_2 => ?_) (fun c_2 => ?_)
  · skip
    refine k_iload_n hX.1 dX7_rowsOfFirst_9 rfl rfl ?_
    refine k_iconst hX.1 dX7_rowsOfFirst_10 ?_
    refine k_iadd hX.1 dX7_rowsOfFirst_11 ?_
    refine k_iconst hX.1 dX7_rowsOfFirst_12 ?_
    refine k_idiv hX.1 dX7_rowsOfFirst_13 (by omega) (by omega) ?_
    refine k_iret hX dX7_rowsOfFirst_14 rfl ?_
    refine ⟨?_, rfl⟩
    congr 2
    split <;> omega
  · skip
    refine k_iload_n hX.1 dX7_rowsOfFirst_5 rfl rfl ?_
    refine k_goto (tgt := 14) hX.1 dX7_rowsOfFirst_6 (by decide) ?_
    refine k_iret hX dX7_rowsOfFirst_14 rfl ?_
    refine ⟨?_, rfl⟩
    congr 2
    split <;> omega

def fdd (s f : Int) : Int := if s > 10 then max 10 (s - f) else min 10 (s + f)
set_option maxRecDepth 100000 in
set_option maxHeartbeats 4000000 in
theorem cX_faded (E : En) (g : Mm) {s f : Int} (hs : 0 ≤ s ∧ s ≤ 100) (hf : 0 ≤ f ∧ f ≤ 100) : Fn E 2 mX7_faded [vI s, vI f] g (vI (fdd s f)) := by
  refine Ok_of gmX7_faded (by omega) (Nat.le_of_ble_eq_true rfl) (fun X hX => ?_)
  show V E X 0 [some (vI s), some (vI f)] [] g
  refine k_iload_n hX.1 dX7_faded_0 rfl rfl ?_
  refine k_bipush hX.1 dX7_faded_1 (by decide) ?_
  refine k_icmp_le (tgt := 15) hX.1 dX7_faded_3 (by decide) (by omega) (by omega) (fun c_3 => ?_) (fun c_3 => ?_)
  · skip
    refine k_bipush hX.1 dX7_faded_15 (by decide) ?_
    refine k_iload_n hX.1 dX7_faded_17 rfl rfl ?_
    refine k_iload_n hX.1 dX7_faded_18 rfl rfl ?_
    refine k_iadd hX.1 dX7_faded_19 ?_
    refine k_min hX.1 dX7_faded_20 lkX7_227 (by omega) (by omega) (Nat.le_of_ble_eq_true rfl) ?_
    refine k_iret hX dX7_faded_23 rfl ?_
    refine ⟨?_, rfl⟩
    congr 2
    unfold fdd
    split <;> omega
  · skip
    refine k_bipush hX.1 dX7_faded_6 (by decide) ?_
    refine k_iload_n hX.1 dX7_faded_8 rfl rfl ?_
    refine k_iload_n hX.1 dX7_faded_9 rfl rfl ?_
    refine k_isub hX.1 dX7_faded_10 ?_
    refine k_max hX.1 dX7_faded_11 lkX7_222 (by omega) (by omega) (Nat.le_of_ble_eq_true rfl) ?_
    refine k_iret hX dX7_faded_14 rfl ?_
    refine ⟨?_, rfl⟩
    congr 2
    unfold fdd
    split <;> omega

def hf (A : St) (p a b : Nat) : Int := if (a : Int) = (b : Int) then A 1 p else (A 1 p + 1) / 2
set_option maxRecDepth 100000 in
set_option maxHeartbeats 4000000 in
theorem cW_canMake (E : En) {A : St} {g : Mm} {n : Int} (hC : CW A g) (hW : WW A n) {p a b : Nat} (hp : (p : Int) < A 12 0) (ha : (a : Int) < A 12 2) (hb : (b : Int) < A 12 2) : Fn E 2 mX6_canMake [vR 3, vI (p : Int), vI (a : Int), vI (b : Int)] g (vI (if hf A p a b ≤ rws A a ∧ A 1 p - hf A p a b ≤ rws A b then 1 else 0)) := by
  have hC0 := hC
  obtain ⟨⟨hc1, hc2, hc3⟩, hcp, hcl⟩ := hC
  obtain ⟨⟨hw1, hw2, hw3, hw4, hw5, hw6, hw7, hw8⟩, hwp, hwl⟩ := id hW
  obtain ⟨e0, e1, e2, e3, e4, e5, e6, e7⟩ := hcp (p) (by omega)
  obtain ⟨⟨ek1, ek2⟩, ⟨er1, er2⟩, ew2, ew3, ew4, ew5, ew6, ew7⟩ := hwp (p) (by omega)
  obtain ⟨k0, k1, k2⟩ := hcl (a) (by omega)
  obtain ⟨⟨ka, kb⟩, ⟨kc, kd⟩, ⟨ke, kf⟩⟩ := hwl (a) (by omega)
  obtain ⟨l0, l1, l2⟩ := hcl (b) (by omega)
  obtain ⟨⟨la, lb⟩, ⟨lc, ld⟩, ⟨le, lf⟩⟩ := hwl (b) (by omega)
  have hh : 0 ≤ hf A p a b ∧ hf A p a b ≤ A 1 p := by unfold hf; split <;> omega
  have he : (if (a : Int) = (b : Int) then g.1 (6 + p) 1 else (g.1 (6 + p) 1 + 1) / 2) = hf A p a b := by rw [e1]; rfl
  refine Ok_of gmX6_canMake (by omega) (Nat.le_of_ble_eq_true rfl) (fun X hX => ?_)
  show V E X 0 [some (vR 3), some (vI (p : Int)), some (vI (a : Int)), some (vI (b : Int)), none, none] [] g
  refine k_aload_n hX.1 dX6_canMake_0 rfl rfl ?_
  refine k_getr (t := 4) hX.1 dX6_canMake_1 flX6_11 rfl (by decide) rfl rfl ?_
  refine k_iload_n hX.1 dX6_canMake_4 rfl rfl ?_
  refine k_aaldP (j := p) (q := 6 + p) hX.1 dX6_canMake_5 rfl (by omega) (n := 5) rfl (by omega) (by omega) rfl ?_
  refine k_geti hX.1 dX6_canMake_6 flX6_69 (sk_P6 (by omega)) (by decide) rfl ?_
  refine k_istore hX.1 dX6_canMake_9 (by decide) rfl rfl ?_
  try simp only [List.set_cons_zero, List.set_cons_succ]
  refine k_iload hX.1 dX6_canMake_11 rfl ?_
  refine k_iload_n hX.1 dX6_canMake_13 rfl rfl ?_
  refine k_iload_n hX.1 dX6_canMake_14 rfl rfl ?_
  refine k_callNf (d2 := 1) (n := 3) (as := [_, _, _]) hX.1 dX6_canMake_15 lkX6_72 (fit_of hX (by omega) gmX7_rowsOfFirst) rfl rfl (Nat.le_of_ble_eq_true rfl) (cX_rof E g (by omega) (by omega) (by omega)) ?_
  rw [he]
  refine k_istore hX.1 dX6_canMake_18 (by decide) rfl rfl ?_
  try simp only [List.set_cons_zero, List.set_cons_succ]
  refine k_aload_n hX.1 dX6_canMake_20 rfl rfl ?_
  refine k_getr (t := 5) hX.1 dX6_canMake_21 flX6_19 rfl (by decide) rfl rfl ?_
  refine k_iload_n hX.1 dX6_canMake_24 rfl rfl ?_
  refine k_aaldL (j := a) (q := 11 + a) hX.1 dX6_canMake_25 rfl (by omega) (n := 3) rfl (by omega) (by omega) rfl ?_
  refine k_callVf (d2 := 1) (n := 0) (as := []) hX.1 dX6_canMake_26 lkX6_76 (fit_of hX (by omega) gmX2_rows) rfl (sk_L11 (by omega)) (by decide) rfl rfl rfl (Nat.le_of_ble_eq_true rfl) (cL_rows E g (t := a) (by omega)) ?_
  refine k_iload hX.1 dX6_canMake_29 rfl ?_
  refine k_icmp_lt (tgt := 55) hX.1 dX6_canMake_31 (by decide) (by omega) (by omega) (fun c_31 => ?_) (fun c_31 => ?_)
  · skip
    refine k_iconst hX.1 dX6_canMake_55 ?_
    refine k_zret hX dX6_canMake_56 rfl (by omega) ?_
    refine ⟨?_, rfl⟩
    congr 2
    unfold rws
    split <;> omega
  · skip
    refine k_aload_n hX.1 dX6_canMake_34 rfl rfl ?_
    refine k_getr (t := 5) hX.1 dX6_canMake_35 flX6_19 rfl (by decide) rfl rfl ?_
    refine k_iload_n hX.1 dX6_canMake_38 rfl rfl ?_
    refine k_aaldL (j := b) (q := 11 + b) hX.1 dX6_canMake_39 rfl (by omega) (n := 3) rfl (by omega) (by omega) rfl ?_
    refine k_callVf (d2 := 1) (n := 0) (as := []) hX.1 dX6_canMake_40 lkX6_76 (fit_of hX (by omega) gmX2_rows) rfl (sk_L11 (by omega)) (by decide) rfl rfl rfl (Nat.le_of_ble_eq_true rfl) (cL_rows E g (t := b) (by omega)) ?_
    refine k_iload hX.1 dX6_canMake_43 rfl ?_
    refine k_iload hX.1 dX6_canMake_45 rfl ?_
    refine k_isub hX.1 dX6_canMake_47 ?_
    refine k_icmp_lt (tgt := 55) hX.1 dX6_canMake_48 (by decide) (by omega) (by omega) (fun c_48 => ?_) (fun c_48 => ?_)
    · skip
      refine k_iconst hX.1 dX6_canMake_55 ?_
      refine k_zret hX dX6_canMake_56 rfl (by omega) ?_
      refine ⟨?_, rfl⟩
      congr 2
      unfold rws
      split <;> omega
    · skip
      refine k_iconst hX.1 dX6_canMake_51 ?_
      refine k_goto (tgt := 56) hX.1 dX6_canMake_52 (by decide) ?_
      refine k_zret hX dX6_canMake_56 rfl (by omega) ?_
      refine ⟨?_, rfl⟩
      congr 2
      unfold rws
      split <;> omega

def bgn (lo x : Int) : Int := (max 0 (x - lo) + 4 - 1) / 4
def tkM (g : Mm) (k : Nat) (x : Int) : Mm := wr (wr g k 1 (g.1 k 1 - bgn (g.1 k 2) x)) k 2 (g.1 k 2 + (4 * bgn (g.1 k 2) x - x))
set_option maxRecDepth 100000 in
set_option maxHeartbeats 4000000 in
theorem cL_take (E : En) (g : Mm) {t : Nat} (ht : t < 3) {x : Int} (hx : -100 ≤ x ∧ x ≤ 100) (hl : 0 ≤ g.1 (11 + t) 2 ∧ g.1 (11 + t) 2 ≤ 100000) : Pr E 2 mX2_take [vR (11 + t), vI x] g (tkM g (11 + t) x) := by
  refine Ok_of gmX2_take (by omega) (Nat.le_of_ble_eq_true rfl) (fun X hX => ?_)
  show V E X 0 [some (vR (11 + t)), some (vI x), none, none] [] g
  refine k_iconst hX.1 dX2_take_0 ?_
  refine k_iload_n hX.1 dX2_take_1 rfl rfl ?_
  refine k_aload_n hX.1 dX2_take_2 rfl rfl ?_
  refine k_geti hX.1 dX2_take_3 flX2_18 (sk_L11 (by omega)) (by decide) rfl ?_
  refine k_isub hX.1 dX2_take_6 ?_
  refine k_max hX.1 dX2_take_7 lkX2_21 (by omega) (by omega) (Nat.le_of_ble_eq_true rfl) ?_
  refine k_istore_n hX.1 dX2_take_10 rfl (by decide) rfl rfl ?_
  try simp only [List.set_cons_zero, List.set_cons_succ]
  refine k_iload_n hX.1 dX2_take_11 rfl rfl ?_
  refine k_iconst hX.1 dX2_take_12 ?_
  refine k_iadd hX.1 dX2_take_13 ?_
  refine k_iconst hX.1 dX2_take_14 ?_
  refine k_isub hX.1 dX2_take_15 ?_
  refine k_iconst hX.1 dX2_take_16 ?_
  refine k_idiv hX.1 dX2_take_17 (by omega) (by omega) ?_
  refine k_istore_n hX.1 dX2_take_18 rfl (by decide) rfl rfl ?_
  try simp only [List.set_cons_zero, List.set_cons_succ]
  refine k_aload_n hX.1 dX2_take_19 rfl rfl ?_
  refine k_dupR hX.1 dX2_take_20 ?_
  refine k_geti hX.1 dX2_take_21 flX2_15 (sk_L11 (by omega)) (by decide) rfl ?_
  refine k_iload_n hX.1 dX2_take_24 rfl rfl ?_
  refine k_isub hX.1 dX2_take_25 ?_
  refine k_puti hX.1 dX2_take_26 flX2_15 (sk_L11 (by omega)) (by decide) rfl ?_
  refine k_aload_n hX.1 dX2_take_29 rfl rfl ?_
  refine k_dupR hX.1 dX2_take_30 ?_
  refine k_geti hX.1 dX2_take_31 flX2_18 (sk_L11 (by omega)) (by decide) rfl ?_
  refine k_top (b := g.1 (11 + t) 2) (by simp [wr_1]) ?_
  refine k_iconst hX.1 dX2_take_34 ?_
  refine k_iload_n hX.1 dX2_take_35 rfl rfl ?_
  refine k_imul hX.1 dX2_take_36 ?_
  refine k_iload_n hX.1 dX2_take_37 rfl rfl ?_
  refine k_isub hX.1 dX2_take_38 ?_
  refine k_iadd hX.1 dX2_take_39 ?_
  refine k_puti hX.1 dX2_take_40 flX2_18 (sk_L11 (by omega)) (by decide) rfl ?_
  refine k_vret hX dX2_take_43 rfl ?_
  exact ⟨rfl, rfl⟩

set_option maxRecDepth 100000 in
set_option maxHeartbeats 4000000 in
theorem cL_loosen (E : En) (g : Mm) {t : Nat} (ht : t < 3) {x : Int} (hx : bd x) : Ok E 1 mX2_loosen [vR (11 + t), vI x] g (fun r g' => r = some (vI (if x = 0 then 0 else 1)) ∧ g' = if x = 0 then g else wr g (11 + t) 2 (g.1 (11 + t) 2 + (x - 1))) := by
  refine Ok_of gmX2_loosen (by omega) (Nat.le_of_ble_eq_true rfl) (fun X hX => ?_)
  show V E X 0 [some (vR (11 + t)), some (vI x)] [] g
  refine k_iload_n hX.1 dX2_loosen_0 rfl rfl ?_
  refine k_if_ne (tgt := 6) hX.1 dX2_loosen_1 (by decide) (by omega) (fun c_1 => ?_) (fun c_1 => ?_)
  · skip
    refine k_aload_n hX.1 dX2_loosen_6 rfl rfl ?_
    refine k_dupR hX.1 dX2_loosen_7 ?_
    refine k_geti hX.1 dX2_loosen_8 flX2_18 (sk_L11 (by omega)) (by decide) rfl ?_
    refine k_iload_n hX.1 dX2_loosen_11 rfl rfl ?_
    refine k_iconst hX.1 dX2_loosen_12 ?_
    refine k_isub hX.1 dX2_loosen_13 ?_
    refine k_iadd hX.1 dX2_loosen_14 ?_
    refine k_puti hX.1 dX2_loosen_15 flX2_18 (sk_L11 (by omega)) (by decide) rfl ?_
    refine k_iconst hX.1 dX2_loosen_18 ?_
    refine k_iret hX dX2_loosen_19 rfl ?_
    first | (rw [if_pos c_1, if_pos c_1]; exact ⟨rfl, rfl⟩) | (rw [if_neg c_1, if_neg c_1]; exact ⟨rfl, rfl⟩) | (rw [if_pos (by omega), if_pos (by omega)]; exact ⟨rfl, rfl⟩)
  · skip
    refine k_iconst hX.1 dX2_loosen_4 ?_
    refine k_iret hX dX2_loosen_5 rfl ?_
    first | (rw [if_pos c_1, if_pos c_1]; exact ⟨rfl, rfl⟩) | (rw [if_neg c_1, if_neg c_1]; exact ⟨rfl, rfl⟩) | (rw [if_pos (by omega), if_pos (by omega)]; exact ⟨rfl, rfl⟩)

set_option maxRecDepth 100000 in
set_option maxHeartbeats 4000000 in
theorem cL_begin (E : En) (g : Mm) {t : Nat} (ht : t < 3) {x : Int} : Pr E 1 mX2_begin [vR (11 + t), vI x] g (wr (wr (wr g (11 + t) 0 x) (11 + t) 1 0) (11 + t) 2 0) := by
  refine Ok_of gmX2_begin (by omega) (Nat.le_of_ble_eq_true rfl) (fun X hX => ?_)
  show V E X 0 [some (vR (11 + t)), some (vI x)] [] g
  refine k_aload_n hX.1 dX2_begin_0 rfl rfl ?_
  refine k_iload_n hX.1 dX2_begin_1 rfl rfl ?_
  refine k_puti hX.1 dX2_begin_2 flX2_9 (sk_L11 (by omega)) (by decide) rfl ?_
  refine k_aload_n hX.1 dX2_begin_5 rfl rfl ?_
  refine k_iconst hX.1 dX2_begin_6 ?_
  refine k_puti hX.1 dX2_begin_7 flX2_15 (sk_L11 (by omega)) (by decide) rfl ?_
  refine k_aload_n hX.1 dX2_begin_10 rfl rfl ?_
  refine k_iconst hX.1 dX2_begin_11 ?_
  refine k_puti hX.1 dX2_begin_12 flX2_18 (sk_L11 (by omega)) (by decide) rfl ?_
  refine k_vret hX dX2_begin_15 rfl ?_
  exact ⟨rfl, rfl⟩

def clM (g : Mm) (k : Nat) : Mm := wr (wr (wr (wr (wr g k 2 (-1)) k 3 (-1)) k 4 0) k 5 0) k 6 0
set_option maxRecDepth 100000 in
set_option maxHeartbeats 4000000 in
theorem cP_clear (E : En) (g : Mm) {p : Nat} (hp : p < 5) : Pr E 1 mX4_clear [vR (6 + p)] g (clM g (6 + p)) := by
  refine Ok_of gmX4_clear (by omega) (Nat.le_of_ble_eq_true rfl) (fun X hX => ?_)
  show V E X 0 [some (vR (6 + p))] [] g
  refine k_aload_n hX.1 dX4_clear_0 rfl rfl ?_
  refine k_iconst hX.1 dX4_clear_1 ?_
  refine k_puti hX.1 dX4_clear_2 flX4_24 (sk_P6 (by omega)) (by decide) rfl ?_
  refine k_aload_n hX.1 dX4_clear_5 rfl rfl ?_
  refine k_iconst hX.1 dX4_clear_6 ?_
  refine k_puti hX.1 dX4_clear_7 flX4_27 (sk_P6 (by omega)) (by decide) rfl ?_
  refine k_aload_n hX.1 dX4_clear_10 rfl rfl ?_
  refine k_iconst hX.1 dX4_clear_11 ?_
  refine k_puti hX.1 dX4_clear_12 flX4_30 (sk_P6 (by omega)) (by decide) rfl ?_
  refine k_aload_n hX.1 dX4_clear_15 rfl rfl ?_
  refine k_iconst hX.1 dX4_clear_16 ?_
  refine k_puti hX.1 dX4_clear_17 flX4_33 (sk_P6 (by omega)) (by decide) rfl ?_
  refine k_aload_n hX.1 dX4_clear_20 rfl rfl ?_
  refine k_iconst hX.1 dX4_clear_21 ?_
  refine k_putz hX.1 dX4_clear_22 flX4_36 (sk_P6 (by omega)) (by decide) rfl (by omega) ?_
  refine k_vret hX dX4_clear_25 rfl ?_
  exact ⟨rfl, rfl⟩

set_option maxRecDepth 100000 in
set_option maxHeartbeats 4000000 in
theorem cP_begin (E : En) (g : Mm) {p : Nat} (hp : p < 5) {a b : Int} : Pr E 2 mX4_begin [vR (6 + p), vI a, vI b] g (clM (wr (wr (wr g (6 + p) 0 a) (6 + p) 1 b) (6 + p) 7 (-1)) (6 + p)) := by
  refine Ok_of gmX4_begin (by omega) (Nat.le_of_ble_eq_true rfl) (fun X hX => ?_)
  show V E X 0 [some (vR (6 + p)), some (vI a), some (vI b)] [] g
  refine k_aload_n hX.1 dX4_begin_0 rfl rfl ?_
  refine k_iload_n hX.1 dX4_begin_1 rfl rfl ?_
  refine k_puti hX.1 dX4_begin_2 flX4_9 (sk_P6 (by omega)) (by decide) rfl ?_
  refine k_aload_n hX.1 dX4_begin_5 rfl rfl ?_
  refine k_iload_n hX.1 dX4_begin_6 rfl rfl ?_
  refine k_puti hX.1 dX4_begin_7 flX4_15 (sk_P6 (by omega)) (by decide) rfl ?_
  refine k_aload_n hX.1 dX4_begin_10 rfl rfl ?_
  refine k_iconst hX.1 dX4_begin_11 ?_
  refine k_puti hX.1 dX4_begin_12 flX4_18 (sk_P6 (by omega)) (by decide) rfl ?_
  refine k_aload_n hX.1 dX4_begin_15 rfl rfl ?_
  refine k_callVp (d2 := 1) (n := 0) (as := []) hX.1 dX4_begin_16 lkX4_21 (fit_of hX (by omega) gmX4_clear) rfl (sk_P6 (by omega)) (by decide) rfl rfl rfl (Nat.le_of_ble_eq_true rfl) (cP_clear E _ hp) ?_
  refine k_vret hX dX4_begin_19 rfl ?_
  exact ⟨rfl, rfl⟩

/-- the first c slots of h copied to k -/
def cpM (g : Mm) (k h c : Nat) : Mm := (fun a b => if a = k ∧ b < c then g.1 h b else g.1 a b, g.2)
set_option maxRecDepth 100000 in
set_option maxHeartbeats 4000000 in
theorem cP_copy (E : En) (g : Mm) {k h : Nat} (hk : sk k = 4) (hh : sk h = 4) (hn : h ≠ k) (h6 : g.1 h 6 = 0 ∨ g.1 h 6 = 1) : Pr E 1 mX4_copy [vR k, vR h] g (cpM g k h 8) := by
  refine Ok_of gmX4_copy (by omega) (Nat.le_of_ble_eq_true rfl) (fun X hX => ?_)
  show V E X 0 [some (vR k), some (vR h)] [] g
  refine k_aload_n hX.1 dX4_copy_0 rfl rfl ?_
  refine k_aload_n hX.1 dX4_copy_1 rfl rfl ?_
  refine k_geti hX.1 dX4_copy_2 flX4_9 hh (by decide) rfl ?_
  refine k_top (b := g.1 h 0) (by simp [wr_1, hn]) ?_
  refine k_puti hX.1 dX4_copy_5 flX4_9 hk (by decide) rfl ?_
  refine k_aload_n hX.1 dX4_copy_8 rfl rfl ?_
  refine k_aload_n hX.1 dX4_copy_9 rfl rfl ?_
  refine k_geti hX.1 dX4_copy_10 flX4_15 hh (by decide) rfl ?_
  refine k_top (b := g.1 h 1) (by simp [wr_1, hn]) ?_
  refine k_puti hX.1 dX4_copy_13 flX4_15 hk (by decide) rfl ?_
  refine k_aload_n hX.1 dX4_copy_16 rfl rfl ?_
  refine k_aload_n hX.1 dX4_copy_17 rfl rfl ?_
  refine k_geti hX.1 dX4_copy_18 flX4_24 hh (by decide) rfl ?_
  refine k_top (b := g.1 h 2) (by simp [wr_1, hn]) ?_
  refine k_puti hX.1 dX4_copy_21 flX4_24 hk (by decide) rfl ?_
  refine k_aload_n hX.1 dX4_copy_24 rfl rfl ?_
  refine k_aload_n hX.1 dX4_copy_25 rfl rfl ?_
  refine k_geti hX.1 dX4_copy_26 flX4_27 hh (by decide) rfl ?_
  refine k_top (b := g.1 h 3) (by simp [wr_1, hn]) ?_
  refine k_puti hX.1 dX4_copy_29 flX4_27 hk (by decide) rfl ?_
  refine k_aload_n hX.1 dX4_copy_32 rfl rfl ?_
  refine k_aload_n hX.1 dX4_copy_33 rfl rfl ?_
  refine k_geti hX.1 dX4_copy_34 flX4_30 hh (by decide) rfl ?_
  refine k_top (b := g.1 h 4) (by simp [wr_1, hn]) ?_
  refine k_puti hX.1 dX4_copy_37 flX4_30 hk (by decide) rfl ?_
  refine k_aload_n hX.1 dX4_copy_40 rfl rfl ?_
  refine k_aload_n hX.1 dX4_copy_41 rfl rfl ?_
  refine k_geti hX.1 dX4_copy_42 flX4_33 hh (by decide) rfl ?_
  refine k_top (b := g.1 h 5) (by simp [wr_1, hn]) ?_
  refine k_puti hX.1 dX4_copy_45 flX4_33 hk (by decide) rfl ?_
  refine k_aload_n hX.1 dX4_copy_48 rfl rfl ?_
  refine k_aload_n hX.1 dX4_copy_49 rfl rfl ?_
  refine k_getz hX.1 dX4_copy_50 flX4_36 hh (by decide) rfl ?_
  refine k_top (b := g.1 h 6) (by simp [wr_1, hn]) ?_
  refine k_putz hX.1 dX4_copy_53 flX4_36 hk (by decide) rfl (by omega) ?_
  refine k_aload_n hX.1 dX4_copy_56 rfl rfl ?_
  refine k_aload_n hX.1 dX4_copy_57 rfl rfl ?_
  refine k_geti hX.1 dX4_copy_58 flX4_18 hh (by decide) rfl ?_
  refine k_top (b := g.1 h 7) (by simp [wr_1, hn]) ?_
  refine k_puti hX.1 dX4_copy_61 flX4_18 hk (by decide) rfl ?_
  refine k_vret hX dX4_copy_64 rfl ?_
  refine ⟨rfl, Prod.ext ?_ rfl⟩
  funext a b
  show _ = if a = k ∧ b < 8 then g.1 h b else g.1 a b
  by_cases ha : a = k
  · by_cases hb : b < 8
    · rw [if_pos ⟨ha, hb⟩]
      subst ha
      rcases (show b = 0 ∨ b = 1 ∨ b = 2 ∨ b = 3 ∨ b = 4 ∨ b = 5 ∨ b = 6 ∨ b = 7 by omega) with rfl | rfl | rfl | rfl | rfl | rfl | rfl | rfl <;> simp [wr_1]
    · rw [if_neg (fun q => hb q.2)]
      simp only [wr_1]
      rw [if_neg (fun q => hb (by omega)), if_neg (fun q => hb (by omega)), if_neg (fun q => hb (by omega)), if_neg (fun q => hb (by omega)), if_neg (fun q => hb (by omega)), if_neg (fun q => hb (by omega)), if_neg (fun q => hb (by omega)), if_neg (fun q => hb (by omega))]
  · rw [if_neg (fun q => ha q.1)]
    simp [wr_1, ha]

set_option maxRecDepth 100000 in
set_option maxHeartbeats 4000000 in
theorem cL_copy (E : En) (g : Mm) {k h : Nat} (hk : sk k = 2) (hh : sk h = 2) (hn : h ≠ k) : Pr E 1 mX2_copy [vR k, vR h] g (cpM g k h 3) := by
  refine Ok_of gmX2_copy (by omega) (Nat.le_of_ble_eq_true rfl) (fun X hX => ?_)
  show V E X 0 [some (vR k), some (vR h)] [] g
  refine k_aload_n hX.1 dX2_copy_0 rfl rfl ?_
  refine k_aload_n hX.1 dX2_copy_1 rfl rfl ?_
  refine k_geti hX.1 dX2_copy_2 flX2_9 hh (by decide) rfl ?_
  refine k_top (b := g.1 h 0) (by simp [wr_1, hn]) ?_
  refine k_puti hX.1 dX2_copy_5 flX2_9 hk (by decide) rfl ?_
  refine k_aload_n hX.1 dX2_copy_8 rfl rfl ?_
  refine k_aload_n hX.1 dX2_copy_9 rfl rfl ?_
  refine k_geti hX.1 dX2_copy_10 flX2_15 hh (by decide) rfl ?_
  refine k_top (b := g.1 h 1) (by simp [wr_1, hn]) ?_
  refine k_puti hX.1 dX2_copy_13 flX2_15 hk (by decide) rfl ?_
  refine k_aload_n hX.1 dX2_copy_16 rfl rfl ?_
  refine k_aload_n hX.1 dX2_copy_17 rfl rfl ?_
  refine k_geti hX.1 dX2_copy_18 flX2_18 hh (by decide) rfl ?_
  refine k_top (b := g.1 h 2) (by simp [wr_1, hn]) ?_
  refine k_puti hX.1 dX2_copy_21 flX2_18 hk (by decide) rfl ?_
  refine k_vret hX dX2_copy_24 rfl ?_
  refine ⟨rfl, Prod.ext ?_ rfl⟩
  funext a b
  show _ = if a = k ∧ b < 3 then g.1 h b else g.1 a b
  by_cases ha : a = k
  · by_cases hb : b < 3
    · rw [if_pos ⟨ha, hb⟩]
      subst ha
      rcases (show b = 0 ∨ b = 1 ∨ b = 2 by omega) with rfl | rfl | rfl <;> simp [wr_1]
    · rw [if_neg (fun q => hb q.2)]
      simp only [wr_1]
      rw [if_neg (fun q => hb (by omega)), if_neg (fun q => hb (by omega)), if_neg (fun q => hb (by omega))]
  · rw [if_neg (fun q => ha q.1)]
    simp [wr_1, ha]
end
section
/-! ===== the relations, and what writes do to them ===== -/
def up (A : St) (i j : Nat) (v : Int) : St := fun a b => if a = i ∧ b = j then v else A a b
theorem up_1 (A : St) (i j : Nat) (v : Int) (a b : Nat) : up A i j v a b = if a = i ∧ b = j then v else A a b := rfl
def CPg (A : St) (g : Mm) : Prop := g.1 1 1 = A 12 3 ∧ ∀ k : Nat, (k : Int) < A 12 3 → g.1 2 k = A 11 k
def WPg (A : St) : Prop := 0 ≤ A 12 3 ∧ A 12 3 ≤ 18 ∧ ∀ k : Nat, (k : Int) < A 12 3 → 32 ≤ A 11 k ∧ A 11 k ≤ 126
def CT (A : St) (g : Mm) : Prop := g.1 0 6 = A 12 6 ∧ g.1 0 7 = A 12 4 ∧ g.1 0 8 = A 12 5
def WT (A : St) (n : Int) : Prop := (A 12 6 = 0 ∨ A 12 6 = 1) ∧ (0 ≤ A 12 4 ∧ A 12 4 ≤ n) ∧ (0 ≤ A 12 5 ∧ A 12 5 ≤ 20)
def CK (A : St) (g : Mm) : Prop := (g.1 14 2 = A 12 0 ∧ g.1 14 3 = A 12 7 ∧ g.1 14 4 = A 12 1) ∧ (∀ p : Nat, (p : Int) < A 12 0 → cPtK A p g) ∧ ∀ t : Nat, (t : Int) < A 12 7 → cLtK A t g
def WK (A : St) (n : Int) : Prop := (0 ≤ A 12 7 ∧ A 12 7 ≤ 3) ∧ (∀ p : Nat, (p : Int) < A 12 0 → wPtK A (A 12 7) p) ∧ ∀ t : Nat, (t : Int) < A 12 7 → wLtK A n t
def CB (g : Mm) : Prop := ∀ p : Nat, p < 5 → (g.1 (6 + p) 6 = 0 ∨ g.1 (6 + p) 6 = 1) ∧ (g.1 (17 + p) 6 = 0 ∨ g.1 (17 + p) 6 = 1)
def RC (A : St) (g : Mm) : Prop := CW A g ∧ CPg A g ∧ CT A g ∧ (A 12 6 = 1 → CK A g) ∧ CB g
def Wf (A : St) (n : Int) : Prop := WW A n ∧ WPg A ∧ WT A n ∧ (A 12 6 = 1 → WK A n)
/-- the least that is needed of a state -/
def Wb (A : St) : Prop := (0 ≤ A 12 0 ∧ A 12 0 ≤ 5) ∧ (0 ≤ A 12 2 ∧ A 12 2 ≤ 3) ∧ (A 12 6 = 1 → 0 ≤ A 12 7 ∧ A 12 7 ≤ 3)
theorem Wf.b {A : St} {n : Int} (h : Wf A n) : Wb A := ⟨⟨h.1.1.1, h.1.1.2.1⟩, ⟨h.1.1.2.2.1, h.1.1.2.2.2.1⟩, fun k => (h.2.2.2 k).1⟩
def MPg (A : St) (g : Mm) : Prop := g.1 46 16 = A 12 3 ∧ ∀ k : Nat, (k : Int) < A 12 3 → g.1 58 k = A 11 k
def MT_ (A : St) (g : Mm) : Prop := g.1 46 0 = A 12 4 ∧ g.1 46 15 = A 12 5 ∧ (g.1 46 25 = 0 ∨ g.1 46 25 = 1) ∧ (0 ≤ g.1 46 26 ∧ g.1 46 26 ≤ A 12 4) ∧ (A 12 6 = 1 ↔ g.1 46 25 = 1 ∧ g.1 46 26 = A 12 4)
def MK (A : St) (g : Mm) : Prop := g.1 46 27 = A 12 7 ∧ (∀ p : Nat, (p : Int) < A 12 0 → g.1 63 p = A 13 p ∧ g.1 64 p = A 14 p ∧ g.1 65 p = A 15 p ∧ g.1 66 p = A 16 p ∧ g.1 67 p = A 17 p ∧ g.1 68 p = A 18 p) ∧ ∀ t : Nat, (t : Int) < A 12 7 → g.1 69 t = A 19 t ∧ g.1 70 t = A 20 t ∧ g.1 71 t = A 21 t
def RM (A : St) (g : Mm) : Prop := MW A g ∧ MPg A g ∧ MT_ A g ∧ (A 12 6 = 1 → MK A g)
theorem Wb_up {A : St} (h : Wb A) {i j : Nat} {v : Int} (hi : i ≠ 12) : Wb (up A i j v) := by
  have e : ∀ q, up A i j v 12 q = A 12 q := fun q => by rw [up_1, if_neg (fun z => hi z.1.symm)]
  unfold Wb
  rw [e, e, e, e]
  exact h
/-- what the class leaves, what the model leaves -/
def sameM (g g' : Mm) : Prop := ∀ a, 46 ≤ a → g'.1 a = g.1 a ∧ g'.2 a = g.2 a
def sameC (g g' : Mm) : Prop := ∀ a, a < 46 → g'.1 a = g.1 a ∧ g'.2 a = g.2 a
theorem sameM.rf (g : Mm) : sameM g g := fun _ _ => ⟨rfl, rfl⟩
theorem sameC.rf (g : Mm) : sameC g g := fun _ _ => ⟨rfl, rfl⟩
theorem sameM.tr {g h k : Mm} (h1 : sameM g h) (h2 : sameM h k) : sameM g k := fun a ha => ⟨(h2 a ha).1.trans (h1 a ha).1, (h2 a ha).2.trans (h1 a ha).2⟩
theorem sameC.tr {g h k : Mm} (h1 : sameC g h) (h2 : sameC h k) : sameC g k := fun a ha => ⟨(h2 a ha).1.trans (h1 a ha).1, (h2 a ha).2.trans (h1 a ha).2⟩
theorem sameM.wr {g h : Mm} (h1 : sameM g h) {k j : Nat} {v : Int} (hk : k < 46) : sameM g (wr h k j v) := fun a ha => ⟨by funext b; rw [wr_1, if_neg (by omega), (h1 a ha).1], (h1 a ha).2⟩
theorem sameC.wr {g h : Mm} (h1 : sameC g h) {k j : Nat} {v : Int} (hk : 46 ≤ k) : sameC g (wr h k j v) := fun a ha => ⟨by funext b; rw [wr_1, if_neg (by omega), (h1 a ha).1], (h1 a ha).2⟩
theorem CW_part {A : St} {g : Mm} (hC : CW A g) {j p : Nat} (hj : j < 8) (h6 : j ≠ 6) (v : Int) (hp : p < 5) : CW (up A j p v) (wr g (6 + p) j v) := by
  obtain ⟨h1, h2, h3⟩ := hC
  rcases (show j = 0 ∨ j = 1 ∨ j = 2 ∨ j = 3 ∨ j = 4 ∨ j = 5 ∨ j = 7 by omega) with rfl | rfl | rfl | rfl | rfl | rfl | rfl
  all_goals
    have e3 : ¬ (3 = 6 + p) := by omega
    refine ⟨by simpa [up, wr, e3] using h1, fun q hq => ?_, fun t ht => ?_⟩
    · have h4 := h2 q (by simpa [up] using hq)
      by_cases e : q = p
      · subst e
        simp only [cPt0] at h4
        simp [cPt0, up, wr, h4]
      · simp only [cPt0] at h4
        simp [cPt0, up, wr, e, h4]
    · obtain ⟨a, b, c⟩ := h3 t (by simpa [up] using ht)
      exact ⟨by rw [wr_1, if_neg (by omega)]; simpa [up] using a, by rw [wr_1, if_neg (by omega)]; simpa [up] using b, by rw [wr_1, if_neg (by omega)]; simpa [up] using c⟩
theorem CW_told {A : St} {g : Mm} (hC : CW A g) {p : Nat} (v w : Int) (hp : p < 5) (hw : w = if v = -1 then 0 else 1) : CW (up A 6 p v) (wr g (6 + p) 6 w) := by
  obtain ⟨h1, h2, h3⟩ := hC
  refine ⟨by simpa [up, wr] using h1, fun q hq => ?_, fun t ht => ?_⟩
  · have h4 := h2 q (by simpa [up] using hq)
    by_cases e : q = p
    · subst e
      simp only [cPt0] at h4
      simp [cPt0, up, wr, h4, hw]
    · simp only [cPt0] at h4
      simp [cPt0, up, wr, e, h4]
  · obtain ⟨a, b, c⟩ := h3 t (by simpa [up] using ht)
    exact ⟨by rw [wr_1, if_neg (by omega)]; simpa [up] using a, by rw [wr_1, if_neg (by omega)]; simpa [up] using b, by rw [wr_1, if_neg (by omega)]; simpa [up] using c⟩
theorem CW_lot {A : St} {g : Mm} (w2 : A 12 0 ≤ 5) (hC : CW A g) {j t : Nat} (hj : j < 3) (v : Int) : CW (up A (8 + j) t v) (wr g (11 + t) j v) := by
  obtain ⟨h1, h2, h3⟩ := hC
  rcases (show j = 0 ∨ j = 1 ∨ j = 2 by omega) with rfl | rfl | rfl
  all_goals
    have e3 : ¬ (3 = 11 + t) := by omega
    refine ⟨by simpa [up, wr, e3] using h1, fun q hq => ?_, fun s hs => ?_⟩
    · have hq' : (q : Int) < A 12 0 := by simpa [up] using hq
      obtain ⟨a, b, c, d, e, f, k, l⟩ := h2 q hq'
      exact ⟨by rw [wr_1, if_neg (by omega)]; simpa [up] using a, by rw [wr_1, if_neg (by omega)]; simpa [up] using b, by rw [wr_1, if_neg (by omega)]; simpa [up] using c, by rw [wr_1, if_neg (by omega)]; simpa [up] using d, by rw [wr_1, if_neg (by omega)]; simpa [up] using e, by rw [wr_1, if_neg (by omega)]; simpa [up] using f, by rw [wr_1, if_neg (by omega)]; simpa [up] using k, by rw [wr_1, if_neg (by omega)]; simpa [up] using l⟩
    · have h4 := h3 s (by simpa [up] using hs)
      by_cases e : s = t
      · subst e
        simp only [cLt0] at h4
        simp [cLt0, up, wr, h4]
      · simp only [cLt0] at h4
        simp [cLt0, up, wr, e, h4]
/-- the work's cells alone count -/
theorem CW_fr {A A' : St} {g g' : Mm} (hC : CW A g) (hg : ∀ a, 3 ≤ a → a < 14 → g'.1 a = g.1 a) (hn : A' 12 0 = A 12 0 ∧ A' 12 2 = A 12 2 ∧ A' 12 1 = A 12 1) (hp : ∀ i p : Nat, i < 8 → (p : Int) < A 12 0 → A' i p = A i p) (hl : ∀ i t : Nat, 8 ≤ i → i < 11 → (t : Int) < A 12 2 → A' i t = A i t) (h5 : A 12 0 ≤ 5) (h3 : A 12 2 ≤ 3) : CW A' g' := by
  obtain ⟨h1, h2, h4⟩ := hC
  obtain ⟨n1, n2, n3⟩ := hn
  refine ⟨by rw [hg 3 (by omega) (by omega), n1, n2, n3]; exact h1, fun q hq => ?_, fun t ht => ?_⟩
  · rw [n1] at hq
    have e := h2 q hq
    simp only [cPt0] at e ⊢
    rw [hg (6 + q) (by omega) (by omega), hp 0 q (by omega) hq, hp 1 q (by omega) hq, hp 2 q (by omega) hq, hp 3 q (by omega) hq, hp 4 q (by omega) hq, hp 5 q (by omega) hq, hp 6 q (by omega) hq, hp 7 q (by omega) hq]
    exact e
  · rw [n2] at ht
    have e := h4 t ht
    simp only [cLt0] at e ⊢
    rw [hg (11 + t) (by omega) (by omega), hl 8 t (by omega) (by omega) ht, hl 9 t (by omega) (by omega) ht, hl 10 t (by omega) (by omega) ht]
    exact e
theorem MW_part {A : St} {g : Mm} (hC : MW A g) {j p : Nat} (hj : j < 8) (v : Int) : MW (up A j p v) (wr g (47 + j) p v) := by
  obtain ⟨h1, h2, h3⟩ := hC
  rcases (show j = 0 ∨ j = 1 ∨ j = 2 ∨ j = 3 ∨ j = 4 ∨ j = 5 ∨ j = 6 ∨ j = 7 by omega) with rfl | rfl | rfl | rfl | rfl | rfl | rfl | rfl
  all_goals
    refine ⟨by simpa [up, wr] using h1, fun q hq => ?_, fun t ht => ?_⟩
    · have h4 := h2 q (by simpa [up] using hq)
      by_cases e : q = p
      · subst e
        simp [up, wr, h4]
      · simp [up, wr, e, h4]
    · have h5 := h3 t (by simpa [up] using ht)
      simpa [up, wr] using h5
theorem MW_lot {A : St} {g : Mm} (hC : MW A g) {j t : Nat} (hj : j < 3) (v : Int) : MW (up A (8 + j) t v) (wr g (55 + j) t v) := by
  obtain ⟨h1, h2, h3⟩ := hC
  rcases (show j = 0 ∨ j = 1 ∨ j = 2 by omega) with rfl | rfl | rfl
  all_goals
    refine ⟨by simpa [up, wr] using h1, fun q hq => ?_, fun s hs => ?_⟩
    · have h4 := h2 q (by simpa [up] using hq)
      simpa [up, wr] using h4
    · have h5 := h3 s (by simpa [up] using hs)
      by_cases e : s = t
      · subst e
        simp [up, wr, h5]
      · simp [up, wr, e, h5]
theorem MW_fr {A A' : St} {g g' : Mm} (hC : MW A g) (hg : ∀ a, 47 ≤ a → a < 58 → g'.1 a = g.1 a) (h0 : g'.1 46 1 = g.1 46 1 ∧ g'.1 46 11 = g.1 46 11 ∧ g'.1 46 2 = g.1 46 2) (hn : A' 12 0 = A 12 0 ∧ A' 12 2 = A 12 2 ∧ A' 12 1 = A 12 1) (hp : ∀ i p : Nat, i < 8 → (p : Int) < A 12 0 → A' i p = A i p) (hl : ∀ i t : Nat, 8 ≤ i → i < 11 → (t : Int) < A 12 2 → A' i t = A i t) : MW A' g' := by
  obtain ⟨h1, h2, h4⟩ := hC
  obtain ⟨n1, n2, n3⟩ := hn
  obtain ⟨z1, z2, z3⟩ := h0
  refine ⟨by rw [z1, z2, z3, n1, n2, n3]; exact h1, fun q hq => ?_, fun t ht => ?_⟩
  · rw [n1] at hq
    have e := h2 q hq
    rw [hg 47 (by omega) (by omega), hg 48 (by omega) (by omega), hg 49 (by omega) (by omega), hg 50 (by omega) (by omega), hg 51 (by omega) (by omega), hg 52 (by omega) (by omega), hg 53 (by omega) (by omega), hg 54 (by omega) (by omega), hp 0 q (by omega) hq, hp 1 q (by omega) hq, hp 2 q (by omega) hq, hp 3 q (by omega) hq, hp 4 q (by omega) hq, hp 5 q (by omega) hq, hp 6 q (by omega) hq, hp 7 q (by omega) hq]
    exact e
  · rw [n2] at ht
    have e := h4 t ht
    rw [hg 55 (by omega) (by omega), hg 56 (by omega) (by omega), hg 57 (by omega) (by omega), hl 8 t (by omega) (by omega) ht, hl 9 t (by omega) (by omega) ht, hl 10 t (by omega) (by omega) ht]
    exact e
end
section
/-! ===== frames of the relations; single writes ===== -/
theorem CK_fr {A A' : St} {g g' : Mm} (h : CK A g) (hg : ∀ a, 14 ≤ a → a < 25 → g'.1 a = g.1 a) (hn : A' 12 0 = A 12 0 ∧ A' 12 7 = A 12 7 ∧ A' 12 1 = A 12 1) (h01 : ∀ i p : Nat, i < 2 → A' i p = A i p) (hk : ∀ i p : Nat, 13 ≤ i → i < 22 → A' i p = A i p) (h5 : A 12 0 ≤ 5) (h3 : A 12 7 ≤ 3) : CK A' g' := by
  obtain ⟨h1, h2, h4⟩ := h
  obtain ⟨n1, n2, n3⟩ := hn
  refine ⟨by rw [hg 14 (by omega) (by omega), n1, n2, n3]; exact h1, fun q hq => ?_, fun t ht => ?_⟩
  · rw [n1] at hq
    have e := h2 q hq
    simp only [cPtK] at e ⊢
    rw [hg (17 + q) (by omega) (by omega), h01 0 q (by omega), h01 1 q (by omega), hk 13 q (by omega) (by omega), hk 14 q (by omega) (by omega), hk 15 q (by omega) (by omega), hk 16 q (by omega) (by omega), hk 17 q (by omega) (by omega), hk 18 q (by omega) (by omega)]
    exact e
  · rw [n2] at ht
    have e := h4 t ht
    simp only [cLtK] at e ⊢
    rw [hg (22 + t) (by omega) (by omega), hk 19 t (by omega) (by omega), hk 20 t (by omega) (by omega), hk 21 t (by omega) (by omega)]
    exact e
theorem MK_fr {A A' : St} {g g' : Mm} (h : MK A g) (hg : ∀ a, 63 ≤ a → a < 72 → g'.1 a = g.1 a) (h0 : g'.1 46 27 = g.1 46 27) (hn : A' 12 0 = A 12 0 ∧ A' 12 7 = A 12 7) (hk : ∀ i p : Nat, 13 ≤ i → i < 22 → A' i p = A i p) : MK A' g' := by
  obtain ⟨h1, h2, h4⟩ := h
  obtain ⟨n1, n2⟩ := hn
  refine ⟨by rw [h0, n2]; exact h1, fun q hq => ?_, fun t ht => ?_⟩
  · rw [n1] at hq
    have e := h2 q hq
    rw [hg 63 (by omega) (by omega), hg 64 (by omega) (by omega), hg 65 (by omega) (by omega), hg 66 (by omega) (by omega), hg 67 (by omega) (by omega), hg 68 (by omega) (by omega), hk 13 q (by omega) (by omega), hk 14 q (by omega) (by omega), hk 15 q (by omega) (by omega), hk 16 q (by omega) (by omega), hk 17 q (by omega) (by omega), hk 18 q (by omega) (by omega)]
    exact e
  · rw [n2] at ht
    have e := h4 t ht
    rw [hg 69 (by omega) (by omega), hg 70 (by omega) (by omega), hg 71 (by omega) (by omega), hk 19 t (by omega) (by omega), hk 20 t (by omega) (by omega), hk 21 t (by omega) (by omega)]
    exact e
theorem wr_off {g : Mm} {k j : Nat} {v : Int} {a : Nat} (h : a ≠ k) : (wr g k j v).1 a = g.1 a := by funext b; rw [wr_1, if_neg (fun q => h q.1)]
theorem up_off {A : St} {i j : Nat} {v : Int} {a b : Nat} (h : a ≠ i ∨ b ≠ j) : up A i j v a b = A a b := by rw [up_1, if_neg (fun q => by omega)]
theorem up_at {A : St} {i j : Nat} {v : Int} : up A i j v i j = v := by simp [up]
theorem wr_at {g : Mm} {k j : Nat} {v : Int} : (wr g k j v).1 k j = v := by simp [wr]
/-- one write in the work: the rest of the relation stays -/
theorem RC_w {A A' : St} {g : Mm} {k j : Nat} {v : Int} (hR : RC A g) (hW : Wb A) (hk : 3 ≤ k ∧ k < 14) (h6 : 6 ≤ k → k < 11 → j = 6 → v = 0 ∨ v = 1) (hA : ∀ i p : Nat, (i = 11 ∨ i = 12 ∨ i < 2 ∨ (13 ≤ i ∧ i < 22)) → A' i p = A i p) (hC : CW A' (wr g k j v)) : RC A' (wr g k j v) := by
  obtain ⟨-, h2, h3, h4, h5⟩ := hR
  obtain ⟨⟨w1, w2⟩, -, wk⟩ := hW
  refine ⟨hC, ⟨?_, fun q hq => ?_⟩, ⟨?_, ?_, ?_⟩, fun hK => ?_, fun p hp => ⟨?_, ?_⟩⟩
  · rw [wr_off (by omega), hA 12 3 (by omega)]; exact h2.1
  · rw [hA 12 3 (by omega)] at hq
    rw [wr_off (by omega), hA 11 q (by omega)]; exact h2.2 q hq
  · rw [wr_off (by omega), hA 12 6 (by omega)]; exact h3.1
  · rw [wr_off (by omega), hA 12 4 (by omega)]; exact h3.2.1
  · rw [wr_off (by omega), hA 12 5 (by omega)]; exact h3.2.2
  · rw [hA 12 6 (by omega)] at hK
    have wk1 := wk hK
    exact CK_fr (h4 hK) (fun a h1 h2 => wr_off (by omega)) ⟨hA 12 0 (by omega), hA 12 7 (by omega), hA 12 1 (by omega)⟩ (fun i p h => hA i p (by omega)) (fun i p h1 h2 => hA i p (by omega)) w2 (by omega)
  · by_cases e : 6 + p = k ∧ 6 = j
    · rw [wr_1, if_pos e]; exact h6 (by omega) (by omega) e.2.symm
    · rw [wr_1, if_neg e]; exact (h5 p hp).1
  · rw [wr_off (by omega)]; exact (h5 p hp).2
theorem RC_part {A : St} {g : Mm} (hR : RC A g) (hW : Wb A) {j p : Nat} (hj : 2 ≤ j ∧ j < 8 ∧ j ≠ 6) (v : Int) (hp : p < 5) : RC (up A j p v) (wr g (6 + p) j v) :=
  RC_w hR hW (by omega) (fun _ _ h => by omega) (fun i q h => up_off (by omega)) (CW_part hR.1 (by omega) (by omega) v hp)
theorem RC_told {A : St} {g : Mm} (hR : RC A g) (hW : Wb A) {p : Nat} (v w : Int) (hp : p < 5) (hw : w = if v = -1 then 0 else 1) : RC (up A 6 p v) (wr g (6 + p) 6 w) :=
  RC_w hR hW (by omega) (fun _ _ h => by rw [hw]; split <;> omega) (fun i q h => up_off (by omega)) (CW_told hR.1 v w hp hw)
theorem RC_lot {A : St} {g : Mm} (hR : RC A g) (hW : Wb A) {j t : Nat} (hj : j < 3) (v : Int) (ht : t < 3) : RC (up A (8 + j) t v) (wr g (11 + t) j v) :=
  RC_w hR hW (by omega) (fun _ _ h => by omega) (fun i q h => up_off (by omega)) (CW_lot hW.1.2 hR.1 hj v)
/-- writes outside the work (the page, the top object, the helpers): the work and what is kept stay -/
theorem RC_o {A A' : St} {g g' : Mm} (hR : RC A g) (hW : Wb A) (hg : ∀ a, 3 ≤ a → a < 25 → g'.1 a = g.1 a) (hA : ∀ i p : Nat, (i < 11 ∨ (13 ≤ i ∧ i < 22) ∨ (i = 12 ∧ (p < 3 ∨ p = 7))) → A' i p = A i p) (hK : A' 12 6 = 1 → A 12 6 = 1) (hP : CPg A' g') (hT : CT A' g') : RC A' g' := by
  obtain ⟨h1, h2, h3, h4, h5⟩ := hR
  obtain ⟨⟨w1, w2⟩, ⟨w3, w4⟩, wk⟩ := hW
  refine ⟨CW_fr h1 (fun a ha hb => hg a ha (by omega)) ⟨hA 12 0 (by omega), hA 12 2 (by omega), hA 12 1 (by omega)⟩ (fun i p h _ => hA i p (by omega)) (fun i t ha hb _ => hA i t (by omega)) w2 w4, hP, hT, fun hk => ?_, fun p hp => ?_⟩
  · have wk1 := wk (hK hk)
    exact CK_fr (h4 (hK hk)) (fun a ha hb => hg a (by omega) hb) ⟨hA 12 0 (by omega), hA 12 7 (by omega), hA 12 1 (by omega)⟩ (fun i p h => hA i p (by omega)) (fun i p ha hb => hA i p (by omega)) w2 (by omega)
  · rw [hg (6 + p) (by omega) (by omega), hg (17 + p) (by omega) (by omega)]; exact h5 p hp
/-- the helpers' cells (25 to 45) don't count -/
theorem RC_help {A : St} {g g' : Mm} (hR : RC A g) (hg : ∀ a, a < 25 → g'.1 a = g.1 a) (h5 : A 12 0 ≤ 5) (h3 : A 12 2 ≤ 3) (h7 : A 12 6 = 1 → A 12 7 ≤ 3) : RC A g' := by
  obtain ⟨h1, h2, h3', h4, h6⟩ := hR
  refine ⟨CW_fr h1 (fun a ha hb => hg a (by omega)) ⟨rfl, rfl, rfl⟩ (fun _ _ _ _ => rfl) (fun _ _ _ _ _ => rfl) h5 h3, ?_, ?_, fun hk => CK_fr (h4 hk) (fun a ha hb => hg a (by omega)) ⟨rfl, rfl, rfl⟩ (fun _ _ _ => rfl) (fun _ _ _ _ => rfl) h5 (h7 hk), fun p hp => ?_⟩
  · unfold CPg; rw [hg 1 (by omega), hg 2 (by omega)]; exact h2
  · unfold CT; rw [hg 0 (by omega)]; exact h3'
  · rw [hg (6 + p) (by omega), hg (17 + p) (by omega)]; exact h6 p hp
theorem RC_same {A : St} {g g' : Mm} {n : Int} (hR : RC A g) (hW : Wf A n) (hs : sameC g g') : RC A g' := RC_help hR (fun a ha => (hs a (by omega)).1) hW.1.1.2.1 hW.1.1.2.2.2.1 (fun hk => (hW.2.2.2 hk).1.2)
/-- one write in the model's work -/
theorem RM_w {A A' : St} {g : Mm} {k j : Nat} {v : Int} (hR : RM A g) (hk : 47 ≤ k ∧ k < 58) (hA : ∀ i p : Nat, (i = 11 ∨ i = 12 ∨ (13 ≤ i ∧ i < 22)) → A' i p = A i p) (hC : MW A' (wr g k j v)) : RM A' (wr g k j v) := by
  obtain ⟨-, h2, h3, h4⟩ := hR
  refine ⟨hC, ⟨?_, fun q hq => ?_⟩, ?_, fun hK => ?_⟩
  · rw [wr_off (by omega), hA 12 3 (by omega)]; exact h2.1
  · rw [hA 12 3 (by omega)] at hq
    rw [wr_off (by omega), hA 11 q (by omega)]; exact h2.2 q hq
  · unfold MT_
    rw [wr_off (by omega), hA 12 4 (by omega), hA 12 5 (by omega), hA 12 6 (by omega)]
    exact h3
  · rw [hA 12 6 (by omega)] at hK
    exact MK_fr (h4 hK) (fun a h1 h2 => wr_off (by omega)) (by rw [wr_off (by omega)]) ⟨hA 12 0 (by omega), hA 12 7 (by omega)⟩ (fun i p h1 h2 => hA i p (by omega))
theorem RM_part {A : St} {g : Mm} (hR : RM A g) {j p : Nat} (hj : j < 8) (v : Int) : RM (up A j p v) (wr g (47 + j) p v) :=
  RM_w hR (by omega) (fun i q h => up_off (by omega)) (MW_part hR.1 hj v)
theorem RM_lot {A : St} {g : Mm} (hR : RM A g) {j t : Nat} (hj : j < 3) (v : Int) : RM (up A (8 + j) t v) (wr g (55 + j) t v) :=
  RM_w hR (by omega) (fun i q h => up_off (by omega)) (MW_lot hR.1 hj v)
theorem RM_o {A A' : St} {g g' : Mm} (hR : RM A g) (hg : ∀ a, 47 ≤ a → a < 72 → a ≠ 58 → (a < 59 ∨ 62 < a) → g'.1 a = g.1 a) (h0 : g'.1 46 1 = g.1 46 1 ∧ g'.1 46 11 = g.1 46 11 ∧ g'.1 46 2 = g.1 46 2 ∧ g'.1 46 27 = g.1 46 27) (hA : ∀ i p : Nat, (i < 11 ∨ (13 ≤ i ∧ i < 22) ∨ (i = 12 ∧ (p < 3 ∨ p = 7))) → A' i p = A i p) (hK : A' 12 6 = 1 → A 12 6 = 1) (hP : MPg A' g') (hT : MT_ A' g') : RM A' g' := by
  obtain ⟨h1, h2, h3, h4⟩ := hR
  refine ⟨MW_fr h1 (fun a ha hb => hg a ha (by omega) (by omega) (by omega)) ⟨h0.1, h0.2.1, h0.2.2.1⟩ ⟨hA 12 0 (by omega), hA 12 2 (by omega), hA 12 1 (by omega)⟩ (fun i p h _ => hA i p (by omega)) (fun i t ha hb _ => hA i t (by omega)), hP, hT, fun hk => ?_⟩
  exact MK_fr (h4 (hK hk)) (fun a ha hb => hg a (by omega) hb (by omega) (by omega)) h0.2.2.2 ⟨hA 12 0 (by omega), hA 12 7 (by omega)⟩ (fun i p ha hb => hA i p (by omega))
theorem RM_same {A : St} {g g' : Mm} (hR : RM A g) (hs : sameM g g') : RM A g' := by
  refine RM_o hR (fun a h1 h2 _ _ => (hs a (by omega)).1) ?_ (fun _ _ _ => rfl) (fun h => h) ?_ ?_
  · have := (hs 46 (by omega)).1
    rw [this]; exact ⟨rfl, rfl, rfl, rfl⟩
  · unfold MPg; rw [(hs 46 (by omega)).1, (hs 58 (by omega)).1]; exact hR.2.1
  · unfold MT_; rw [(hs 46 (by omega)).1]; exact hR.2.2.1
/-- the model's scratch cells (59 to 62) and its scratch fields don't count -/
theorem RM_scr {A : St} {g g' : Mm} (hR : RM A g) (hg : ∀ a, 47 ≤ a → a < 72 → (a < 59 ∨ 62 < a) → g'.1 a = g.1 a) (h0 : ∀ j, j ≠ 18 → j ≠ 19 → g'.1 46 j = g.1 46 j) : RM A g' := by
  refine RM_o hR (fun a h1 h2 _ h => hg a h1 h2 h) ⟨h0 1 (by omega) (by omega), h0 11 (by omega) (by omega), h0 2 (by omega) (by omega), h0 27 (by omega) (by omega)⟩ (fun _ _ _ => rfl) (fun h => h) ?_ ?_
  · unfold MPg; rw [h0 16 (by omega) (by omega), hg 58 (by omega) (by omega) (by omega)]; exact hR.2.1
  · unfold MT_; rw [h0 0 (by omega) (by omega), h0 15 (by omega) (by omega), h0 25 (by omega) (by omega), h0 26 (by omega) (by omega)]; exact hR.2.2.1
end
section
/-! ===== the calls: what each answers (r..) and what becomes of the state (n..) ===== -/
def rAbout (A : St) (p w : Int) : Int := if 0 ≤ p ∧ p < A 12 0 then (if 0 ≤ w ∧ w ≤ 8 then pn A p.toNat w else -102) else -101
def rAs (A : St) (p k : Int) : Int := if 0 ≤ p ∧ p < A 12 0 then (if 0 ≤ k ∧ k ≤ 4 then (if k = 0 ∨ k = A 0 p.toNat ∨ (A 0 p.toNat = 4 ∧ k = 3) then p else -1) else -102) else -101
def rLot (A : St) (s : Int) : Int := if s < 0 ∨ 20 < s then -102 else if A 12 0 = 0 then -103 else if 3 ≤ A 12 2 then -104 else A 12 2
def nLot (A : St) (s : Int) : St := if s < 0 ∨ 20 < s then A else if A 12 0 = 0 then A else if 3 ≤ A 12 2 then A else up (up (up (up A 8 (A 12 2).toNat s) 9 (A 12 2).toNat 0) 10 (A 12 2).toNat 0) 12 2 (A 12 2 + 1)
def rLotOf (A : St) (t w : Int) : Int := if 0 ≤ t ∧ t < A 12 2 then (if 0 ≤ w ∧ w ≤ 2 then lt1 A t.toNat w else -102) else -101
def rBuy (A : St) (t b : Int) : Int := if 0 ≤ t ∧ t < A 12 2 then (if 1 ≤ b ∧ b ≤ 9 then (if 40 < A 9 t.toNat + b then -104 else A 9 t.toNat + b) else -102) else -101
def nBuy (A : St) (t b : Int) : St := if 0 ≤ t ∧ t < A 12 2 then (if 1 ≤ b ∧ b ≤ 9 then (if 40 < A 9 t.toNat + b then A else up A 9 t.toNat (A 9 t.toNat + b)) else A) else A
def rBack (A : St) (t b : Int) : Int := if 0 ≤ t ∧ t < A 12 2 then (if 1 ≤ b ∧ b ≤ 9 then (if A 9 t.toNat < b then -103 else A 9 t.toNat - b) else -102) else -101
def nBack (A : St) (t b : Int) : St := if 0 ≤ t ∧ t < A 12 2 then (if 1 ≤ b ∧ b ≤ 9 then (if A 9 t.toNat < b then A else up A 9 t.toNat (A 9 t.toNat - b)) else A) else A
/-- rows taken of a lot -/
def tkA (A : St) (t : Nat) (x : Int) : St := up (up A 9 t (A 9 t - bgn (A 10 t) x)) 10 t (A 10 t + (4 * bgn (A 10 t) x - x))
def mkA (A : St) (p a b : Nat) : St := tkA (tkA (up (up (up (up A 2 p (a : Int)) 3 p (if (a : Int) = (b : Int) then -1 else (b : Int))) 4 p (hf A p a b)) 5 p (A 1 p - hf A p a b)) a (hf A p a b)) b (A 1 p - hf A p a b)
def rKnit (A : St) (p a b : Int) : Int := if (0 ≤ p ∧ p < A 12 0) ∧ (0 ≤ a ∧ a < A 12 2) ∧ (0 ≤ b ∧ b < A 12 2) then (if A 2 p.toNat = -1 ∧ (hf A p.toNat a.toNat b.toNat ≤ rws A a.toNat ∧ A 1 p.toNat - hf A p.toNat a.toNat b.toNat ≤ rws A b.toNat) then sAll (mkA A p.toNat a.toNat b.toNat) else -103) else -101
def nKnit (A : St) (p a b : Int) : St := if (0 ≤ p ∧ p < A 12 0) ∧ (0 ≤ a ∧ a < A 12 2) ∧ (0 ≤ b ∧ b < A 12 2) then (if A 2 p.toNat = -1 ∧ (hf A p.toNat a.toNat b.toNat ≤ rws A a.toNat ∧ A 1 p.toNat - hf A p.toNat a.toNat b.toNat ≤ rws A b.toNat) then mkA A p.toNat a.toNat b.toNat else A) else A
/-- rows come back loose, but one -/
def lsA (A : St) (t : Nat) (x : Int) : St := if x = 0 then A else up A 10 t (A 10 t + (x - 1))
def clA (A : St) (p : Nat) : St := up (up (up (up (up A 2 p (-1)) 3 p (-1)) 4 p 0) 5 p 0) 6 p (-1)
def unA (A : St) (p : Nat) : St := clA (if A 3 p = -1 then lsA A (A 2 p).toNat (A 4 p) else lsA (lsA A (A 2 p).toNat (A 4 p)) (A 3 p).toNat (A 5 p)) p
def lost (A : St) (p : Nat) : Int := (if A 4 p = 0 then 0 else 1) + (if A 3 p = -1 then 0 else if A 5 p = 0 then 0 else 1)
def rUndo (A : St) (p : Int) : Int := if 0 ≤ p ∧ p < A 12 0 then (if A 2 p.toNat = -1 then -103 else lost A p.toNat) else -101
def nUndo (A : St) (p : Int) : St := if 0 ≤ p ∧ p < A 12 0 then (if A 2 p.toNat = -1 then A else unA A p.toNat) else A
def gaA (A : St) (p : Nat) (r : Int) : St := up (up (tkA A (A 2 p).toNat (r - A 4 p)) 4 p r) 6 p r
def rGauge (A : St) (p r : Int) : Int := if 0 ≤ p ∧ p < A 12 0 then (if 1 ≤ r ∧ r ≤ 18 then (if A 2 p.toNat ≠ -1 ∧ A 3 p.toNat = -1 ∧ r - A 4 p.toNat ≤ rws A (A 2 p.toNat).toNat then r - A 4 p.toNat else -103) else -102) else -101
def nGauge (A : St) (p r : Int) : St := if 0 ≤ p ∧ p < A 12 0 then (if 1 ≤ r ∧ r ≤ 18 then (if A 2 p.toNat ≠ -1 ∧ A 3 p.toNat = -1 ∧ r - A 4 p.toNat ≤ rws A (A 2 p.toNat).toNat then gaA A p.toNat r else A) else A) else A
def waA (A : St) : St := fun i j => if i = 8 ∧ (j : Int) < A 12 2 then fdd (A 8 j) (A 12 1) else A i j
def rWash (A : St) : Int := if A 12 0 = 0 then -103 else sAll (waA A)
def nWash (A : St) : St := if A 12 0 = 0 then A else waA A
def rWanted (A : St) (t b : Int) : Int := if 0 ≤ t ∧ t < A 12 2 then (if 0 ≤ b ∧ b ≤ 1 then want A t.toNat b else -102) else -101
def rFound (A : St) (p s : Int) : Int := if 0 ≤ p ∧ p + 1 < A 12 0 then (if -1 ≤ s ∧ s ≤ 320 then A 7 p.toNat else -102) else -101
def nFound (A : St) (p s : Int) : St := if 0 ≤ p ∧ p + 1 < A 12 0 then (if -1 ≤ s ∧ s ≤ 320 then up A 7 p.toNat s else A) else A
def imA (A : St) : St := fun i j => if i = 12 ∧ j = 6 then 1 else if i = 12 ∧ j = 7 then A 12 2 else if 13 ≤ i ∧ i < 22 then A (i - 11) j else A i j
def rImage (A : St) : Int := if A 12 0 = 0 then -103 else kC A
def nImage (A : St) : St := if A 12 0 = 0 then A else imA A
def reA (A : St) : St := fun i j => if i = 12 ∧ j = 2 then A 12 7 else if 2 ≤ i ∧ i < 11 then A (i + 11) j else A i j
def rRestore (A : St) : Int := if A 12 6 = 1 then kC (reA A) else -103
def nRestore (A : St) : St := if A 12 6 = 1 then reA A else A
def rCount (A : St) (q : Int) : Int := if q < 0 ∨ 10 < q then -102 else if q = 8 then A 12 3 else if q = 9 then A 12 4 else if q = 10 then A 12 5 else cA A q
def rLetter (A : St) (c : Int) : Int := if c < 32 ∨ 126 < c then -102 else if 18 ≤ A 12 3 then -104 else A 12 3 + 1
def nLetter (A : St) (c : Int) : St := if c < 32 ∨ 126 < c then A else if 18 ≤ A 12 3 then A else up (up A 11 (A 12 3).toNat c) 12 3 (A 12 3 + 1)
def nBlank (A : St) : St := up A 12 3 0
end
section
set_option maxRecDepth 100000 in
set_option maxHeartbeats 4000000 in
theorem c7_about (E : En) {A : St} {g : Mm} {n : Int} (hR : RC A g) (hW : Wf A n) {q w : Int} (hq : bd q) (hw : bd w) : Ok E 5 mX7_about [vR 0, vI q, vI w] g (fun r g' => r = some (vI (rAbout A q w)) ∧ RC (A) g' ∧ sameM g g') := by
  have hC0 := hR.1
  have hW0 := hW.1
  obtain ⟨⟨⟨hc1, hc2, hc3⟩, hcp, hcl⟩, ⟨hg1, hg2⟩, ⟨ht1, ht2, ht3⟩, hck, hcb⟩ := id hR
  obtain ⟨⟨⟨hw1, hw2, hw3, hw4, hw5, hw6, hw7, hw8⟩, hwp, hwl⟩, ⟨hq1, hq2, hq3⟩, ⟨hz1, ⟨hz2, hz3⟩, ⟨hz4, hz5⟩⟩, hwk⟩ := id hW
  refine Ok_of gmX7_about (by omega) (Nat.le_of_ble_eq_true rfl) (fun X hX => ?_)
  show V E X 0 [some (vR 0), some (vI q), some (vI w)] [] g
  by_cases hin : 0 ≤ q ∧ q < A 12 0
  · skip
    obtain ⟨p, rfl⟩ : ∃ m : Nat, q = (m : Int) := ⟨q.toNat, by omega⟩
    refine k_aload_n hX.1 dX7_about_0 rfl rfl ?_
    refine k_getr (t := 3) hX.1 dX7_about_1 flX7_19 rfl (by decide) rfl rfl ?_
    refine k_iload_n hX.1 dX7_about_4 rfl rfl ?_
    refine k_callVf (d2 := 1) (n := 1) (as := [_]) hX.1 dX7_about_5 lkX7_77 (fit_of hX (by omega) gmX6_hasPart) rfl rfl (by decide) rfl rfl rfl (Nat.le_of_ble_eq_true rfl) (cW_hasPart1 E g (by omega) (by omega) (by omega)) ?_
    refine k_if_ne (tgt := 14) hX.1 dX7_about_8 (by decide) (by omega) (fun c_8 => ?_) (fun c_8 => ?_)
    · skip
      refine k_iload_n hX.1 dX7_about_14 rfl rfl ?_
      refine k_if_lt (tgt := 24) hX.1 dX7_about_15 (by decide) (by omega) (fun c_15 => ?_) (fun c_15 => ?_)
      · skip
        refine k_bipush hX.1 dX7_about_24 (by decide) ?_
        refine k_iret hX dX7_about_26 rfl ?_
        refine ⟨?_, hR, sameM.rf g⟩
        congr 2
        unfold rAbout
        (repeat first | rw [if_pos (by omega)] | rw [if_neg (by omega)])
        try rw [Int.toNat_natCast]
      · skip
        refine k_iload_n hX.1 dX7_about_18 rfl rfl ?_
        refine k_bipush hX.1 dX7_about_19 (by decide) ?_
        refine k_icmp_le (tgt := 27) hX.1 dX7_about_21 (by decide) (by omega) (by omega) (fun c_21 => ?_) (fun c_21 => ?_)
        · skip
          refine k_aload_n hX.1 dX7_about_27 rfl rfl ?_
          refine k_getr (t := 3) hX.1 dX7_about_28 flX7_19 rfl (by decide) rfl rfl ?_
          refine k_iload_n hX.1 dX7_about_31 rfl rfl ?_
          refine k_iload_n hX.1 dX7_about_32 rfl rfl ?_
          refine k_callVf (d2 := 4) (n := 2) (as := [_, _]) hX.1 dX7_about_33 lkX7_81 (fit_of hX (by omega) gmX6_tellPart) rfl rfl (by decide) rfl rfl rfl (Nat.le_of_ble_eq_true rfl) (cW_tellPart E hC0 hW0 (p := p) (by omega) (by omega)) ?_
          refine k_iret hX dX7_about_36 rfl ?_
          refine ⟨?_, hR, sameM.rf g⟩
          congr 2
          unfold rAbout
          (repeat first | rw [if_pos (by omega)] | rw [if_neg (by omega)])
          try rw [Int.toNat_natCast]
        · skip
          refine k_bipush hX.1 dX7_about_24 (by decide) ?_
          refine k_iret hX dX7_about_26 rfl ?_
          refine ⟨?_, hR, sameM.rf g⟩
          congr 2
          unfold rAbout
          (repeat first | rw [if_pos (by omega)] | rw [if_neg (by omega)])
          try rw [Int.toNat_natCast]
    · skip
      exact absurd c_8 (by decide)
  · skip
    refine k_aload_n hX.1 dX7_about_0 rfl rfl ?_
    refine k_getr (t := 3) hX.1 dX7_about_1 flX7_19 rfl (by decide) rfl rfl ?_
    refine k_iload_n hX.1 dX7_about_4 rfl rfl ?_
    refine k_callVf (d2 := 1) (n := 1) (as := [_]) hX.1 dX7_about_5 lkX7_77 (fit_of hX (by omega) gmX6_hasPart) rfl rfl (by decide) rfl rfl rfl (Nat.le_of_ble_eq_true rfl) (cW_hasPart0 E g (by omega) (by omega) (by omega)) ?_
    refine k_if_ne (tgt := 14) hX.1 dX7_about_8 (by decide) (by omega) (fun c_8 => ?_) (fun c_8 => ?_)
    · skip
      exact absurd rfl c_8
    · skip
      refine k_bipush hX.1 dX7_about_11 (by decide) ?_
      refine k_iret hX dX7_about_13 rfl ?_
      refine ⟨?_, hR, sameM.rf g⟩
      congr 2
      unfold rAbout
      (repeat first | rw [if_pos (by omega)] | rw [if_neg (by omega)])
      skip

theorem fs85 : Cond.fieldLink RX7 85 "DyeLots" "LIGHTS" "[I" ∈ TB := inTB 466 (by decide +kernel) (by decide +kernel)
set_option maxRecDepth 100000 in
set_option maxHeartbeats 4000000 in
theorem c7_as (E : En) {A : St} {g : Mm} {n : Int} (hR : RC A g) (hW : Wf A n) {q w : Int} (hq : bd q) (hw : bd w) : Ok E 5 mX7_as [vR 0, vI q, vI w] g (fun r g' => r = some (vI (rAs A q w)) ∧ RC (A) g' ∧ sameM g g') := by
  have hC0 := hR.1
  have hW0 := hW.1
  obtain ⟨⟨⟨hc1, hc2, hc3⟩, hcp, hcl⟩, ⟨hg1, hg2⟩, ⟨ht1, ht2, ht3⟩, hck, hcb⟩ := id hR
  obtain ⟨⟨⟨hw1, hw2, hw3, hw4, hw5, hw6, hw7, hw8⟩, hwp, hwl⟩, ⟨hq1, hq2, hq3⟩, ⟨hz1, ⟨hz2, hz3⟩, ⟨hz4, hz5⟩⟩, hwk⟩ := id hW
  refine Ok_of gmX7_as (by omega) (Nat.le_of_ble_eq_true rfl) (fun X hX => ?_)
  show V E X 0 [some (vR 0), some (vI q), some (vI w)] [] g
  by_cases hin : 0 ≤ q ∧ q < A 12 0
  · skip
    obtain ⟨p, rfl⟩ : ∃ m : Nat, q = (m : Int) := ⟨q.toNat, by omega⟩
    obtain ⟨e0, e1, e2, e3, e4, e5, e6, e7⟩ := hcp (p) (by omega)
    obtain ⟨⟨ek1, ek2⟩, ⟨er1, er2⟩, ew2, ew3, ew4, ew5, ew6, ew7⟩ := hwp (p) (by omega)
    refine k_aload_n hX.1 dX7_as_0 rfl rfl ?_
    refine k_getr (t := 3) hX.1 dX7_as_1 flX7_19 rfl (by decide) rfl rfl ?_
    refine k_iload_n hX.1 dX7_as_4 rfl rfl ?_
    refine k_callVf (d2 := 1) (n := 1) (as := [_]) hX.1 dX7_as_5 lkX7_77 (fit_of hX (by omega) gmX6_hasPart) rfl rfl (by decide) rfl rfl rfl (Nat.le_of_ble_eq_true rfl) (cW_hasPart1 E g (by omega) (by omega) (by omega)) ?_
    refine k_if_ne (tgt := 14) hX.1 dX7_as_8 (by decide) (by omega) (fun c_8 => ?_) (fun c_8 => ?_)
    · skip
      refine k_iload_n hX.1 dX7_as_14 rfl rfl ?_
      refine k_if_lt (tgt := 26) hX.1 dX7_as_15 (by decide) (by omega) (fun c_15 => ?_) (fun c_15 => ?_)
      · skip
        refine k_bipush hX.1 dX7_as_26 (by decide) ?_
        refine k_iret hX dX7_as_28 rfl ?_
        refine ⟨?_, hR, sameM.rf g⟩
        congr 2
        unfold rAs
        rw [Int.toNat_natCast]
        (repeat first | rw [if_pos (by omega)] | rw [if_neg (by omega)])
      · skip
        refine k_iload_n hX.1 dX7_as_18 rfl rfl ?_
        refine k_gsL hX.1 dX7_as_19 fs85 ?_
        refine k_clen hX.1 dX7_as_22 ?_
        refine k_icmp_lt (tgt := 29) hX.1 dX7_as_23 (by decide) (by omega) (by omega) (fun c_23 => ?_) (fun c_23 => ?_)
        · skip
          refine k_aload_n hX.1 dX7_as_29 rfl rfl ?_
          refine k_getr (t := 3) hX.1 dX7_as_30 flX7_19 rfl (by decide) rfl rfl ?_
          refine k_getr (t := 4) hX.1 dX7_as_33 flX7_89 rfl (by decide) rfl rfl ?_
          refine k_iload_n hX.1 dX7_as_36 rfl rfl ?_
          refine k_aaldP (j := p) (q := 6 + p) hX.1 dX7_as_37 rfl (by omega) (n := 5) rfl (by omega) (by omega) rfl ?_
          refine k_iload_n hX.1 dX7_as_38 rfl rfl ?_
          refine k_callVf (d2 := 1) (n := 1) (as := [_]) hX.1 dX7_as_39 lkX7_93 (fit_of hX (by omega) gmX4_isOf) rfl (sk_P6 (by omega)) (by decide) rfl rfl rfl (Nat.le_of_ble_eq_true rfl) (cP_isOf E g (p := p) (by omega) (by omega) (by omega)) ?_
          refine k_if_eq (tgt := 49) hX.1 dX7_as_42 (by decide) (by split <;> omega) (fun c_42 => ?_) (fun c_42 => ?_)
          · skip
            have h0 : ¬ (w = 0 ∨ w = A 0 p ∨ (A 0 p = 4 ∧ w = 3)) := by
              intro z; rw [if_pos (by omega)] at c_42; exact absurd c_42 (by decide)
            refine k_iconst hX.1 dX7_as_49 ?_
            refine k_iret hX dX7_as_50 rfl ?_
            refine ⟨?_, hR, sameM.rf g⟩
            congr 2
            unfold rAs
            rw [Int.toNat_natCast]
            (repeat first | rw [if_pos (by omega)] | rw [if_neg (by omega)])
          · skip
            have h0 : (w = 0 ∨ w = A 0 p ∨ (A 0 p = 4 ∧ w = 3)) := by
              apply Classical.byContradiction; intro z; exact c_42 (if_neg (by omega))
            refine k_iload_n hX.1 dX7_as_45 rfl rfl ?_
            refine k_goto (tgt := 50) hX.1 dX7_as_46 (by decide) ?_
            refine k_iret hX dX7_as_50 rfl ?_
            refine ⟨?_, hR, sameM.rf g⟩
            congr 2
            unfold rAs
            rw [Int.toNat_natCast]
            (repeat first | rw [if_pos (by omega)] | rw [if_neg (by omega)])
        · skip
          refine k_bipush hX.1 dX7_as_26 (by decide) ?_
          refine k_iret hX dX7_as_28 rfl ?_
          refine ⟨?_, hR, sameM.rf g⟩
          congr 2
          unfold rAs
          rw [Int.toNat_natCast]
          (repeat first | rw [if_pos (by omega)] | rw [if_neg (by omega)])
    · skip
      exact absurd c_8 (by decide)
  · skip
    refine k_aload_n hX.1 dX7_as_0 rfl rfl ?_
    refine k_getr (t := 3) hX.1 dX7_as_1 flX7_19 rfl (by decide) rfl rfl ?_
    refine k_iload_n hX.1 dX7_as_4 rfl rfl ?_
    refine k_callVf (d2 := 1) (n := 1) (as := [_]) hX.1 dX7_as_5 lkX7_77 (fit_of hX (by omega) gmX6_hasPart) rfl rfl (by decide) rfl rfl rfl (Nat.le_of_ble_eq_true rfl) (cW_hasPart0 E g (by omega) (by omega) (by omega)) ?_
    refine k_if_ne (tgt := 14) hX.1 dX7_as_8 (by decide) (by omega) (fun c_8 => ?_) (fun c_8 => ?_)
    · skip
      exact absurd rfl c_8
    · skip
      refine k_bipush hX.1 dX7_as_11 (by decide) ?_
      refine k_iret hX dX7_as_13 rfl ?_
      refine ⟨?_, hR, sameM.rf g⟩
      congr 2
      unfold rAs
      (repeat first | rw [if_pos (by omega)] | rw [if_neg (by omega)])
      skip

set_option maxRecDepth 100000 in
set_option maxHeartbeats 4000000 in
theorem c7_lotOf (E : En) {A : St} {g : Mm} {n : Int} (hR : RC A g) (hW : Wf A n) {q w : Int} (hq : bd q) (hw : bd w) : Ok E 5 mX7_lotOf [vR 0, vI q, vI w] g (fun r g' => r = some (vI (rLotOf A q w)) ∧ RC (A) g' ∧ sameM g g') := by
  have hC0 := hR.1
  have hW0 := hW.1
  obtain ⟨⟨⟨hc1, hc2, hc3⟩, hcp, hcl⟩, ⟨hg1, hg2⟩, ⟨ht1, ht2, ht3⟩, hck, hcb⟩ := id hR
  obtain ⟨⟨⟨hw1, hw2, hw3, hw4, hw5, hw6, hw7, hw8⟩, hwp, hwl⟩, ⟨hq1, hq2, hq3⟩, ⟨hz1, ⟨hz2, hz3⟩, ⟨hz4, hz5⟩⟩, hwk⟩ := id hW
  refine Ok_of gmX7_lotOf (by omega) (Nat.le_of_ble_eq_true rfl) (fun X hX => ?_)
  show V E X 0 [some (vR 0), some (vI q), some (vI w)] [] g
  by_cases hin : 0 ≤ q ∧ q < A 12 2
  · skip
    obtain ⟨t, rfl⟩ : ∃ m : Nat, q = (m : Int) := ⟨q.toNat, by omega⟩
    obtain ⟨e0, e1, e2⟩ := hcl (t) (by omega)
    obtain ⟨⟨ea, eb⟩, ⟨ec, ed⟩, ⟨ee, ef⟩⟩ := hwl (t) (by omega)
    refine k_aload_n hX.1 dX7_lotOf_0 rfl rfl ?_
    refine k_getr (t := 3) hX.1 dX7_lotOf_1 flX7_19 rfl (by decide) rfl rfl ?_
    refine k_iload_n hX.1 dX7_lotOf_4 rfl rfl ?_
    refine k_callVf (d2 := 1) (n := 1) (as := [_]) hX.1 dX7_lotOf_5 lkX7_109 (fit_of hX (by omega) gmX6_hasLot) rfl rfl (by decide) rfl rfl rfl (Nat.le_of_ble_eq_true rfl) (cW_hasLot1 E g (by omega) (by omega) (by omega)) ?_
    refine k_if_ne (tgt := 14) hX.1 dX7_lotOf_8 (by decide) (by omega) (fun c_8 => ?_) (fun c_8 => ?_)
    · skip
      refine k_iload_n hX.1 dX7_lotOf_14 rfl rfl ?_
      refine k_if_lt (tgt := 23) hX.1 dX7_lotOf_15 (by decide) (by omega) (fun c_15 => ?_) (fun c_15 => ?_)
      · skip
        refine k_bipush hX.1 dX7_lotOf_23 (by decide) ?_
        refine k_iret hX dX7_lotOf_25 rfl ?_
        refine ⟨?_, hR, sameM.rf g⟩
        congr 2
        unfold rLotOf
        (repeat first | rw [if_pos (show 0 ≤ (t : Int) ∧ (t : Int) < A 12 2 by omega)] | rw [if_pos (show 0 ≤ w ∧ w ≤ 2 by omega)] | rw [if_neg (show ¬ (0 ≤ w ∧ w ≤ 2) by omega)])
        try rw [Int.toNat_natCast, lt1, e0, e1, e2]
      · skip
        refine k_iload_n hX.1 dX7_lotOf_18 rfl rfl ?_
        refine k_iconst hX.1 dX7_lotOf_19 ?_
        refine k_icmp_le (tgt := 26) hX.1 dX7_lotOf_20 (by decide) (by omega) (by omega) (fun c_20 => ?_) (fun c_20 => ?_)
        · skip
          refine k_aload_n hX.1 dX7_lotOf_26 rfl rfl ?_
          refine k_getr (t := 3) hX.1 dX7_lotOf_27 flX7_19 rfl (by decide) rfl rfl ?_
          refine k_getr (t := 5) hX.1 dX7_lotOf_30 flX7_101 rfl (by decide) rfl rfl ?_
          refine k_iload_n hX.1 dX7_lotOf_33 rfl rfl ?_
          refine k_aaldL (j := t) (q := 11 + t) hX.1 dX7_lotOf_34 rfl (by omega) (n := 3) rfl (by omega) (by omega) rfl ?_
          refine k_iload_n hX.1 dX7_lotOf_35 rfl rfl ?_
          refine k_callVf (d2 := 1) (n := 1) (as := [_]) hX.1 dX7_lotOf_36 lkX7_112 (fit_of hX (by omega) gmX2_tell) rfl (sk_L11 (by omega)) (by decide) rfl rfl rfl (Nat.le_of_ble_eq_true rfl) (cL_tell E g (t := t) (by omega) (by omega)) ?_
          refine k_iret hX dX7_lotOf_39 rfl ?_
          refine ⟨?_, hR, sameM.rf g⟩
          congr 2
          unfold rLotOf
          (repeat first | rw [if_pos (show 0 ≤ (t : Int) ∧ (t : Int) < A 12 2 by omega)] | rw [if_pos (show 0 ≤ w ∧ w ≤ 2 by omega)] | rw [if_neg (show ¬ (0 ≤ w ∧ w ≤ 2) by omega)])
          try rw [Int.toNat_natCast, lt1, e0, e1, e2]
        · skip
          refine k_bipush hX.1 dX7_lotOf_23 (by decide) ?_
          refine k_iret hX dX7_lotOf_25 rfl ?_
          refine ⟨?_, hR, sameM.rf g⟩
          congr 2
          unfold rLotOf
          (repeat first | rw [if_pos (show 0 ≤ (t : Int) ∧ (t : Int) < A 12 2 by omega)] | rw [if_pos (show 0 ≤ w ∧ w ≤ 2 by omega)] | rw [if_neg (show ¬ (0 ≤ w ∧ w ≤ 2) by omega)])
          try rw [Int.toNat_natCast, lt1, e0, e1, e2]
    · skip
      exact absurd c_8 (by decide)
  · skip
    refine k_aload_n hX.1 dX7_lotOf_0 rfl rfl ?_
    refine k_getr (t := 3) hX.1 dX7_lotOf_1 flX7_19 rfl (by decide) rfl rfl ?_
    refine k_iload_n hX.1 dX7_lotOf_4 rfl rfl ?_
    refine k_callVf (d2 := 1) (n := 1) (as := [_]) hX.1 dX7_lotOf_5 lkX7_109 (fit_of hX (by omega) gmX6_hasLot) rfl rfl (by decide) rfl rfl rfl (Nat.le_of_ble_eq_true rfl) (cW_hasLot0 E g (by omega) (by omega) (by omega)) ?_
    refine k_if_ne (tgt := 14) hX.1 dX7_lotOf_8 (by decide) (by omega) (fun c_8 => ?_) (fun c_8 => ?_)
    · skip
      exact absurd rfl c_8
    · skip
      refine k_bipush hX.1 dX7_lotOf_11 (by decide) ?_
      refine k_iret hX dX7_lotOf_13 rfl ?_
      refine ⟨?_, hR, sameM.rf g⟩
      congr 2
      unfold rLotOf
      (repeat first | rw [if_pos (by omega)] | rw [if_neg (by omega)])
      skip

set_option maxRecDepth 100000 in
set_option maxHeartbeats 4000000 in
theorem c7_wanted (E : En) {A : St} {g : Mm} {n : Int} (hR : RC A g) (hW : Wf A n) {q w : Int} (hq : bd q) (hw : bd w) : Ok E 5 mX7_wanted [vR 0, vI q, vI w] g (fun r g' => r = some (vI (rWanted A q w)) ∧ RC (A) g' ∧ sameM g g') := by
  have hC0 := hR.1
  have hW0 := hW.1
  obtain ⟨⟨⟨hc1, hc2, hc3⟩, hcp, hcl⟩, ⟨hg1, hg2⟩, ⟨ht1, ht2, ht3⟩, hck, hcb⟩ := id hR
  obtain ⟨⟨⟨hw1, hw2, hw3, hw4, hw5, hw6, hw7, hw8⟩, hwp, hwl⟩, ⟨hq1, hq2, hq3⟩, ⟨hz1, ⟨hz2, hz3⟩, ⟨hz4, hz5⟩⟩, hwk⟩ := id hW
  refine Ok_of gmX7_wanted (by omega) (Nat.le_of_ble_eq_true rfl) (fun X hX => ?_)
  show V E X 0 [some (vR 0), some (vI q), some (vI w)] [] g
  by_cases hin : 0 ≤ q ∧ q < A 12 2
  · skip
    obtain ⟨t, rfl⟩ : ∃ m : Nat, q = (m : Int) := ⟨q.toNat, by omega⟩
    obtain ⟨e0, e1, e2⟩ := hcl (t) (by omega)
    obtain ⟨⟨ea, eb⟩, ⟨ec, ed⟩, ⟨ee, ef⟩⟩ := hwl (t) (by omega)
    refine k_aload_n hX.1 dX7_wanted_0 rfl rfl ?_
    refine k_getr (t := 3) hX.1 dX7_wanted_1 flX7_19 rfl (by decide) rfl rfl ?_
    refine k_iload_n hX.1 dX7_wanted_4 rfl rfl ?_
    refine k_callVf (d2 := 1) (n := 1) (as := [_]) hX.1 dX7_wanted_5 lkX7_109 (fit_of hX (by omega) gmX6_hasLot) rfl rfl (by decide) rfl rfl rfl (Nat.le_of_ble_eq_true rfl) (cW_hasLot1 E g (by omega) (by omega) (by omega)) ?_
    refine k_if_ne (tgt := 14) hX.1 dX7_wanted_8 (by decide) (by omega) (fun c_8 => ?_) (fun c_8 => ?_)
    · skip
      refine k_iload_n hX.1 dX7_wanted_14 rfl rfl ?_
      refine k_if_lt (tgt := 23) hX.1 dX7_wanted_15 (by decide) (by omega) (fun c_15 => ?_) (fun c_15 => ?_)
      · skip
        refine k_bipush hX.1 dX7_wanted_23 (by decide) ?_
        refine k_iret hX dX7_wanted_25 rfl ?_
        refine ⟨?_, hR, sameM.rf g⟩
        congr 2
        unfold rWanted
        (repeat first | rw [if_pos (by omega)] | rw [if_neg (by omega)])
        try rw [Int.toNat_natCast]
      · skip
        refine k_iload_n hX.1 dX7_wanted_18 rfl rfl ?_
        refine k_iconst hX.1 dX7_wanted_19 ?_
        refine k_icmp_le (tgt := 26) hX.1 dX7_wanted_20 (by decide) (by omega) (by omega) (fun c_20 => ?_) (fun c_20 => ?_)
        · skip
          refine k_aload_n hX.1 dX7_wanted_26 rfl rfl ?_
          refine k_getr (t := 3) hX.1 dX7_wanted_27 flX7_19 rfl (by decide) rfl rfl ?_
          refine k_iload_n hX.1 dX7_wanted_30 rfl rfl ?_
          refine k_iload_n hX.1 dX7_wanted_31 rfl rfl ?_
          refine k_iconst hX.1 dX7_wanted_32 ?_
          refine k_join2 41 (fun z => z = w) (fun z hz => ?_) (fun jn_33 => ?_)
          · skip
            subst hz
            refine k_callVf (d2 := 2) (n := 2) (as := [_, _]) hX.1 dX7_wanted_41 lkX7_179 (fit_of hX (by omega) gmX6_ballsWanted) rfl rfl (by decide) rfl rfl rfl (Nat.le_of_ble_eq_true rfl) (cW_ballsWanted E hC0 hW0 (t := t) (by omega) (by omega)) ?_
            refine k_iret hX dX7_wanted_44 rfl ?_
            refine ⟨?_, hR, sameM.rf g⟩
            congr 2
            unfold rWanted
            (repeat first | rw [if_pos (by omega)] | rw [if_neg (by omega)])
            try rw [Int.toNat_natCast]
          · refine k_icmp_ne (tgt := 40) hX.1 dX7_wanted_33 (by decide) (by omega) (by omega) (fun c_33 => ?_) (fun c_33 => ?_)
            · skip
              refine k_iconst hX.1 dX7_wanted_40 ?_
              exact jn_33 _ (by omega)
            · skip
              refine k_iconst hX.1 dX7_wanted_36 ?_
              refine k_goto (tgt := 41) hX.1 dX7_wanted_37 (by decide) ?_
              exact jn_33 _ (by omega)
        · skip
          refine k_bipush hX.1 dX7_wanted_23 (by decide) ?_
          refine k_iret hX dX7_wanted_25 rfl ?_
          refine ⟨?_, hR, sameM.rf g⟩
          congr 2
          unfold rWanted
          (repeat first | rw [if_pos (by omega)] | rw [if_neg (by omega)])
          try rw [Int.toNat_natCast]
    · skip
      exact absurd c_8 (by decide)
  · skip
    refine k_aload_n hX.1 dX7_wanted_0 rfl rfl ?_
    refine k_getr (t := 3) hX.1 dX7_wanted_1 flX7_19 rfl (by decide) rfl rfl ?_
    refine k_iload_n hX.1 dX7_wanted_4 rfl rfl ?_
    refine k_callVf (d2 := 1) (n := 1) (as := [_]) hX.1 dX7_wanted_5 lkX7_109 (fit_of hX (by omega) gmX6_hasLot) rfl rfl (by decide) rfl rfl rfl (Nat.le_of_ble_eq_true rfl) (cW_hasLot0 E g (by omega) (by omega) (by omega)) ?_
    refine k_if_ne (tgt := 14) hX.1 dX7_wanted_8 (by decide) (by omega) (fun c_8 => ?_) (fun c_8 => ?_)
    · skip
      exact absurd rfl c_8
    · skip
      refine k_bipush hX.1 dX7_wanted_11 (by decide) ?_
      refine k_iret hX dX7_wanted_13 rfl ?_
      refine ⟨?_, hR, sameM.rf g⟩
      congr 2
      unfold rWanted
      (repeat first | rw [if_pos (by omega)] | rw [if_neg (by omega)])
      skip

set_option maxRecDepth 100000 in
set_option maxHeartbeats 4000000 in
theorem c7_count (E : En) {A : St} {g : Mm} {n : Int} (hR : RC A g) (hW : Wf A n) {q : Int} (hq : bd q) : Ok E 6 mX7_count [vR 0, vI q] g (fun r g' => r = some (vI (rCount A q)) ∧ RC (A) g' ∧ sameM g g') := by
  have hC0 := hR.1
  have hW0 := hW.1
  obtain ⟨⟨⟨hc1, hc2, hc3⟩, hcp, hcl⟩, ⟨hg1, hg2⟩, ⟨ht1, ht2, ht3⟩, hck, hcb⟩ := id hR
  obtain ⟨⟨⟨hw1, hw2, hw3, hw4, hw5, hw6, hw7, hw8⟩, hwp, hwl⟩, ⟨hq1, hq2, hq3⟩, ⟨hz1, ⟨hz2, hz3⟩, ⟨hz4, hz5⟩⟩, hwk⟩ := id hW
  refine Ok_of gmX7_count (by omega) (Nat.le_of_ble_eq_true rfl) (fun X hX => ?_)
  show V E X 0 [some (vR 0), some (vI q)] [] g
  refine k_iload_n hX.1 dX7_count_0 rfl rfl ?_
  refine k_if_lt (tgt := 10) hX.1 dX7_count_1 (by decide) (by omega) (fun c_1 => ?_) (fun c_1 => ?_)
  · skip
    refine k_bipush hX.1 dX7_count_10 (by decide) ?_
    refine k_iret hX dX7_count_12 rfl ?_
    refine ⟨?_, hR, sameM.rf g⟩
    congr 2
    unfold rCount
    (repeat first | rw [if_pos (by omega)] | rw [if_neg (by omega)])
    try assumption
  · skip
    refine k_iload_n hX.1 dX7_count_4 rfl rfl ?_
    refine k_bipush hX.1 dX7_count_5 (by decide) ?_
    refine k_icmp_le (tgt := 13) hX.1 dX7_count_7 (by decide) (by omega) (by omega) (fun c_7 => ?_) (fun c_7 => ?_)
    · skip
      refine k_iload_n hX.1 dX7_count_13 rfl rfl ?_
      rcases (show q = 8 ∨ q = 9 ∨ q = 10 ∨ (¬ q = 8 ∧ ¬ q = 9 ∧ ¬ q = 10) by omega) with s_14 | s_14 | s_14 | s_14
      · refine k_tableIn (tgt := 40) (off := 26) hX.1 dX7_count_14 (by omega) (by omega) (by omega) (by rw [s_14]; rfl) (by decide) ?_
        skip
        refine k_aload_n hX.1 dX7_count_40 rfl rfl ?_
        refine k_getr (t := 1) hX.1 dX7_count_41 flX7_10 rfl (by decide) rfl rfl ?_
        refine k_geti hX.1 dX7_count_44 flX7_47 rfl (by decide) rfl ?_
        refine k_iret hX dX7_count_47 rfl ?_
        refine ⟨?_, hR, sameM.rf g⟩
        congr 2
        unfold rCount
        (repeat first | rw [if_pos (by omega)] | rw [if_neg (by omega)])
        try assumption
      · refine k_tableIn (tgt := 48) (off := 34) hX.1 dX7_count_14 (by omega) (by omega) (by omega) (by rw [s_14]; rfl) (by decide) ?_
        skip
        refine k_aload_n hX.1 dX7_count_48 rfl rfl ?_
        refine k_geti hX.1 dX7_count_49 flX7_71 rfl (by decide) rfl ?_
        refine k_iret hX dX7_count_52 rfl ?_
        refine ⟨?_, hR, sameM.rf g⟩
        congr 2
        unfold rCount
        (repeat first | rw [if_pos (by omega)] | rw [if_neg (by omega)])
        try assumption
      · refine k_tableIn (tgt := 53) (off := 39) hX.1 dX7_count_14 (by omega) (by omega) (by omega) (by rw [s_14]; rfl) (by decide) ?_
        skip
        refine k_aload_n hX.1 dX7_count_53 rfl rfl ?_
        refine k_geti hX.1 dX7_count_54 flX7_163 rfl (by decide) rfl ?_
        refine k_iret hX dX7_count_57 rfl ?_
        refine ⟨?_, hR, sameM.rf g⟩
        congr 2
        unfold rCount
        (repeat first | rw [if_pos (by omega)] | rw [if_neg (by omega)])
        try assumption
      · refine k_tableOut (tgt := 58) hX.1 dX7_count_14 (by omega) (by omega) (by decide) ?_
        skip
        refine k_aload_n hX.1 dX7_count_58 rfl rfl ?_
        refine k_getr (t := 3) hX.1 dX7_count_59 flX7_19 rfl (by decide) rfl rfl ?_
        refine k_iload_n hX.1 dX7_count_62 rfl rfl ?_
        refine k_callVf (d2 := 5) (n := 1) (as := [_]) hX.1 dX7_count_63 lkX7_209 (fit_of hX (by omega) gmX6_tellAll) rfl rfl (by decide) rfl rfl rfl (Nat.le_of_ble_eq_true rfl) (cW_tellAll E hC0 hW0 (by omega)) ?_
        refine k_iret hX dX7_count_66 rfl ?_
        refine ⟨?_, hR, sameM.rf g⟩
        congr 2
        unfold rCount
        (repeat first | rw [if_pos (by omega)] | rw [if_neg (by omega)])
        try assumption
    · skip
      refine k_bipush hX.1 dX7_count_10 (by decide) ?_
      refine k_iret hX dX7_count_12 rfl ?_
      refine ⟨?_, hR, sameM.rf g⟩
      congr 2
      unfold rCount
      (repeat first | rw [if_pos (by omega)] | rw [if_neg (by omega)])
      try assumption

set_option maxRecDepth 100000 in
set_option maxHeartbeats 4000000 in
theorem c7_buy (E : En) {A : St} {g : Mm} {n : Int} (hR : RC A g) (hW : Wf A n) {q w : Int} (hq : bd q) (hw : bd w) : Ok E 5 mX7_buy [vR 0, vI q, vI w] g (fun r g' => r = some (vI (rBuy A q w)) ∧ RC (nBuy A q w) g' ∧ sameM g g') := by
  have hC0 := hR.1
  have hW0 := hW.1
  obtain ⟨⟨⟨hc1, hc2, hc3⟩, hcp, hcl⟩, ⟨hg1, hg2⟩, ⟨ht1, ht2, ht3⟩, hck, hcb⟩ := id hR
  obtain ⟨⟨⟨hw1, hw2, hw3, hw4, hw5, hw6, hw7, hw8⟩, hwp, hwl⟩, ⟨hq1, hq2, hq3⟩, ⟨hz1, ⟨hz2, hz3⟩, ⟨hz4, hz5⟩⟩, hwk⟩ := id hW
  refine Ok_of gmX7_buy (by omega) (Nat.le_of_ble_eq_true rfl) (fun X hX => ?_)
  show V E X 0 [some (vR 0), some (vI q), some (vI w), none] [] g
  by_cases hin : 0 ≤ q ∧ q < A 12 2
  · skip
    obtain ⟨t, rfl⟩ : ∃ m : Nat, q = (m : Int) := ⟨q.toNat, by omega⟩
    obtain ⟨e0, e1, e2⟩ := hcl (t) (by omega)
    obtain ⟨⟨ea, eb⟩, ⟨ec, ed⟩, ⟨ee, ef⟩⟩ := hwl (t) (by omega)
    refine k_aload_n hX.1 dX7_buy_0 rfl rfl ?_
    refine k_getr (t := 3) hX.1 dX7_buy_1 flX7_19 rfl (by decide) rfl rfl ?_
    refine k_iload_n hX.1 dX7_buy_4 rfl rfl ?_
    refine k_callVf (d2 := 1) (n := 1) (as := [_]) hX.1 dX7_buy_5 lkX7_109 (fit_of hX (by omega) gmX6_hasLot) rfl rfl (by decide) rfl rfl rfl (Nat.le_of_ble_eq_true rfl) (cW_hasLot1 E g (by omega) (by omega) (by omega)) ?_
    refine k_if_ne (tgt := 14) hX.1 dX7_buy_8 (by decide) (by omega) (fun c_8 => ?_) (fun c_8 => ?_)
    · skip
      refine k_iload_n hX.1 dX7_buy_14 rfl rfl ?_
      refine k_iconst hX.1 dX7_buy_15 ?_
      refine k_icmp_lt (tgt := 25) hX.1 dX7_buy_16 (by decide) (by omega) (by omega) (fun c_16 => ?_) (fun c_16 => ?_)
      · skip
        refine k_bipush hX.1 dX7_buy_25 (by decide) ?_
        refine k_iret hX dX7_buy_27 rfl ?_
        refine ⟨?_, ?_, sameM.rf g⟩
        · congr 2
          unfold rBuy
          rw [Int.toNat_natCast]
          (repeat first | rw [if_pos (by omega)] | rw [if_neg (by omega)])
        · unfold nBuy
          rw [Int.toNat_natCast]
          (repeat first | rw [if_pos (by omega)] | rw [if_neg (by omega)])
          exact hR
      · skip
        refine k_iload_n hX.1 dX7_buy_19 rfl rfl ?_
        refine k_bipush hX.1 dX7_buy_20 (by decide) ?_
        refine k_icmp_le (tgt := 28) hX.1 dX7_buy_22 (by decide) (by omega) (by omega) (fun c_22 => ?_) (fun c_22 => ?_)
        · skip
          refine k_aload_n hX.1 dX7_buy_28 rfl rfl ?_
          refine k_getr (t := 3) hX.1 dX7_buy_29 flX7_19 rfl (by decide) rfl rfl ?_
          refine k_getr (t := 5) hX.1 dX7_buy_32 flX7_101 rfl (by decide) rfl rfl ?_
          refine k_iload_n hX.1 dX7_buy_35 rfl rfl ?_
          refine k_aaldL (j := t) (q := 11 + t) hX.1 dX7_buy_36 rfl (by omega) (n := 3) rfl (by omega) (by omega) rfl ?_
          refine k_astore_n hX.1 dX7_buy_37 rfl (by decide) rfl rfl ?_
          try simp only [List.set_cons_zero, List.set_cons_succ]
          refine k_aload_n hX.1 dX7_buy_38 rfl rfl ?_
          refine k_geti hX.1 dX7_buy_39 flX7_116 (sk_L11 (by omega)) (by decide) rfl ?_
          refine k_iload_n hX.1 dX7_buy_42 rfl rfl ?_
          refine k_iadd hX.1 dX7_buy_43 ?_
          refine k_bipush hX.1 dX7_buy_44 (by decide) ?_
          refine k_icmp_le (tgt := 52) hX.1 dX7_buy_46 (by decide) (by omega) (by omega) (fun c_46 => ?_) (fun c_46 => ?_)
          · skip
            refine k_aload_n hX.1 dX7_buy_52 rfl rfl ?_
            refine k_dupR hX.1 dX7_buy_53 ?_
            refine k_geti hX.1 dX7_buy_54 flX7_116 (sk_L11 (by omega)) (by decide) rfl ?_
            refine k_iload_n hX.1 dX7_buy_57 rfl rfl ?_
            refine k_iadd hX.1 dX7_buy_58 ?_
            refine k_puti hX.1 dX7_buy_59 flX7_116 (sk_L11 (by omega)) (by decide) rfl ?_
            refine k_aload_n hX.1 dX7_buy_62 rfl rfl ?_
            refine k_geti hX.1 dX7_buy_63 flX7_116 (sk_L11 (by omega)) (by decide) rfl ?_
            refine k_top (b := g.1 (11 + t) 1 + w) (by simp [wr_1]) ?_
            refine k_iret hX dX7_buy_66 rfl ?_
            refine ⟨?_, ?_, sameM.wr (sameM.rf g) (by omega)⟩
            · congr 2
              unfold rBuy
              rw [Int.toNat_natCast]
              (repeat first | rw [if_pos (by omega)] | rw [if_neg (by omega)])
              omega
            · unfold nBuy
              rw [Int.toNat_natCast]
              (repeat first | rw [if_pos (by omega)] | rw [if_neg (by omega)])
              rw [e1]
              exact RC_lot (j := 1) hR hW.b (by omega) _ (by omega)
          · skip
            refine k_bipush hX.1 dX7_buy_49 (by decide) ?_
            refine k_iret hX dX7_buy_51 rfl ?_
            refine ⟨?_, ?_, sameM.rf g⟩
            · congr 2
              unfold rBuy
              rw [Int.toNat_natCast]
              (repeat first | rw [if_pos (by omega)] | rw [if_neg (by omega)])
            · unfold nBuy
              rw [Int.toNat_natCast]
              (repeat first | rw [if_pos (by omega)] | rw [if_neg (by omega)])
              exact hR
        · skip
          refine k_bipush hX.1 dX7_buy_25 (by decide) ?_
          refine k_iret hX dX7_buy_27 rfl ?_
          refine ⟨?_, ?_, sameM.rf g⟩
          · congr 2
            unfold rBuy
            rw [Int.toNat_natCast]
            (repeat first | rw [if_pos (by omega)] | rw [if_neg (by omega)])
          · unfold nBuy
            rw [Int.toNat_natCast]
            (repeat first | rw [if_pos (by omega)] | rw [if_neg (by omega)])
            exact hR
    · skip
      exact absurd c_8 (by decide)
  · skip
    refine k_aload_n hX.1 dX7_buy_0 rfl rfl ?_
    refine k_getr (t := 3) hX.1 dX7_buy_1 flX7_19 rfl (by decide) rfl rfl ?_
    refine k_iload_n hX.1 dX7_buy_4 rfl rfl ?_
    refine k_callVf (d2 := 1) (n := 1) (as := [_]) hX.1 dX7_buy_5 lkX7_109 (fit_of hX (by omega) gmX6_hasLot) rfl rfl (by decide) rfl rfl rfl (Nat.le_of_ble_eq_true rfl) (cW_hasLot0 E g (by omega) (by omega) (by omega)) ?_
    refine k_if_ne (tgt := 14) hX.1 dX7_buy_8 (by decide) (by omega) (fun c_8 => ?_) (fun c_8 => ?_)
    · skip
      exact absurd rfl c_8
    · skip
      refine k_bipush hX.1 dX7_buy_11 (by decide) ?_
      refine k_iret hX dX7_buy_13 rfl ?_
      refine ⟨?_, ?_, sameM.rf g⟩
      · congr 2
        unfold rBuy
        (repeat first | rw [if_pos (by omega)] | rw [if_neg (by omega)])
      · unfold nBuy
        (repeat first | rw [if_pos (by omega)] | rw [if_neg (by omega)])
        exact hR

set_option maxRecDepth 100000 in
set_option maxHeartbeats 4000000 in
theorem c7_back (E : En) {A : St} {g : Mm} {n : Int} (hR : RC A g) (hW : Wf A n) {q w : Int} (hq : bd q) (hw : bd w) : Ok E 5 mX7_back [vR 0, vI q, vI w] g (fun r g' => r = some (vI (rBack A q w)) ∧ RC (nBack A q w) g' ∧ sameM g g') := by
  have hC0 := hR.1
  have hW0 := hW.1
  obtain ⟨⟨⟨hc1, hc2, hc3⟩, hcp, hcl⟩, ⟨hg1, hg2⟩, ⟨ht1, ht2, ht3⟩, hck, hcb⟩ := id hR
  obtain ⟨⟨⟨hw1, hw2, hw3, hw4, hw5, hw6, hw7, hw8⟩, hwp, hwl⟩, ⟨hq1, hq2, hq3⟩, ⟨hz1, ⟨hz2, hz3⟩, ⟨hz4, hz5⟩⟩, hwk⟩ := id hW
  refine Ok_of gmX7_back (by omega) (Nat.le_of_ble_eq_true rfl) (fun X hX => ?_)
  show V E X 0 [some (vR 0), some (vI q), some (vI w), none] [] g
  by_cases hin : 0 ≤ q ∧ q < A 12 2
  · skip
    obtain ⟨t, rfl⟩ : ∃ m : Nat, q = (m : Int) := ⟨q.toNat, by omega⟩
    obtain ⟨e0, e1, e2⟩ := hcl (t) (by omega)
    obtain ⟨⟨ea, eb⟩, ⟨ec, ed⟩, ⟨ee, ef⟩⟩ := hwl (t) (by omega)
    refine k_aload_n hX.1 dX7_back_0 rfl rfl ?_
    refine k_getr (t := 3) hX.1 dX7_back_1 flX7_19 rfl (by decide) rfl rfl ?_
    refine k_iload_n hX.1 dX7_back_4 rfl rfl ?_
    refine k_callVf (d2 := 1) (n := 1) (as := [_]) hX.1 dX7_back_5 lkX7_109 (fit_of hX (by omega) gmX6_hasLot) rfl rfl (by decide) rfl rfl rfl (Nat.le_of_ble_eq_true rfl) (cW_hasLot1 E g (by omega) (by omega) (by omega)) ?_
    refine k_if_ne (tgt := 14) hX.1 dX7_back_8 (by decide) (by omega) (fun c_8 => ?_) (fun c_8 => ?_)
    · skip
      refine k_iload_n hX.1 dX7_back_14 rfl rfl ?_
      refine k_iconst hX.1 dX7_back_15 ?_
      refine k_icmp_lt (tgt := 25) hX.1 dX7_back_16 (by decide) (by omega) (by omega) (fun c_16 => ?_) (fun c_16 => ?_)
      · skip
        refine k_bipush hX.1 dX7_back_25 (by decide) ?_
        refine k_iret hX dX7_back_27 rfl ?_
        refine ⟨?_, ?_, sameM.rf g⟩
        · congr 2
          unfold rBack
          rw [Int.toNat_natCast]
          (repeat first | rw [if_pos (by omega)] | rw [if_neg (by omega)])
        · unfold nBack
          rw [Int.toNat_natCast]
          (repeat first | rw [if_pos (by omega)] | rw [if_neg (by omega)])
          exact hR
      · skip
        refine k_iload_n hX.1 dX7_back_19 rfl rfl ?_
        refine k_bipush hX.1 dX7_back_20 (by decide) ?_
        refine k_icmp_le (tgt := 28) hX.1 dX7_back_22 (by decide) (by omega) (by omega) (fun c_22 => ?_) (fun c_22 => ?_)
        · skip
          refine k_aload_n hX.1 dX7_back_28 rfl rfl ?_
          refine k_getr (t := 3) hX.1 dX7_back_29 flX7_19 rfl (by decide) rfl rfl ?_
          refine k_getr (t := 5) hX.1 dX7_back_32 flX7_101 rfl (by decide) rfl rfl ?_
          refine k_iload_n hX.1 dX7_back_35 rfl rfl ?_
          refine k_aaldL (j := t) (q := 11 + t) hX.1 dX7_back_36 rfl (by omega) (n := 3) rfl (by omega) (by omega) rfl ?_
          refine k_astore_n hX.1 dX7_back_37 rfl (by decide) rfl rfl ?_
          try simp only [List.set_cons_zero, List.set_cons_succ]
          refine k_aload_n hX.1 dX7_back_38 rfl rfl ?_
          refine k_geti hX.1 dX7_back_39 flX7_116 (sk_L11 (by omega)) (by decide) rfl ?_
          refine k_iload_n hX.1 dX7_back_42 rfl rfl ?_
          refine k_icmp_ge (tgt := 49) hX.1 dX7_back_43 (by decide) (by omega) (by omega) (fun c_43 => ?_) (fun c_43 => ?_)
          · skip
            refine k_aload_n hX.1 dX7_back_49 rfl rfl ?_
            refine k_dupR hX.1 dX7_back_50 ?_
            refine k_geti hX.1 dX7_back_51 flX7_116 (sk_L11 (by omega)) (by decide) rfl ?_
            refine k_iload_n hX.1 dX7_back_54 rfl rfl ?_
            refine k_isub hX.1 dX7_back_55 ?_
            refine k_puti hX.1 dX7_back_56 flX7_116 (sk_L11 (by omega)) (by decide) rfl ?_
            refine k_aload_n hX.1 dX7_back_59 rfl rfl ?_
            refine k_geti hX.1 dX7_back_60 flX7_116 (sk_L11 (by omega)) (by decide) rfl ?_
            refine k_top (b := g.1 (11 + t) 1 - w) (by simp [wr_1]) ?_
            refine k_iret hX dX7_back_63 rfl ?_
            refine ⟨?_, ?_, sameM.wr (sameM.rf g) (by omega)⟩
            · congr 2
              unfold rBack
              rw [Int.toNat_natCast]
              (repeat first | rw [if_pos (by omega)] | rw [if_neg (by omega)])
              omega
            · unfold nBack
              rw [Int.toNat_natCast]
              (repeat first | rw [if_pos (by omega)] | rw [if_neg (by omega)])
              rw [e1]
              exact RC_lot (j := 1) hR hW.b (by omega) _ (by omega)
          · skip
            refine k_bipush hX.1 dX7_back_46 (by decide) ?_
            refine k_iret hX dX7_back_48 rfl ?_
            refine ⟨?_, ?_, sameM.rf g⟩
            · congr 2
              unfold rBack
              rw [Int.toNat_natCast]
              (repeat first | rw [if_pos (by omega)] | rw [if_neg (by omega)])
            · unfold nBack
              rw [Int.toNat_natCast]
              (repeat first | rw [if_pos (by omega)] | rw [if_neg (by omega)])
              exact hR
        · skip
          refine k_bipush hX.1 dX7_back_25 (by decide) ?_
          refine k_iret hX dX7_back_27 rfl ?_
          refine ⟨?_, ?_, sameM.rf g⟩
          · congr 2
            unfold rBack
            rw [Int.toNat_natCast]
            (repeat first | rw [if_pos (by omega)] | rw [if_neg (by omega)])
          · unfold nBack
            rw [Int.toNat_natCast]
            (repeat first | rw [if_pos (by omega)] | rw [if_neg (by omega)])
            exact hR
    · skip
      exact absurd c_8 (by decide)
  · skip
    refine k_aload_n hX.1 dX7_back_0 rfl rfl ?_
    refine k_getr (t := 3) hX.1 dX7_back_1 flX7_19 rfl (by decide) rfl rfl ?_
    refine k_iload_n hX.1 dX7_back_4 rfl rfl ?_
    refine k_callVf (d2 := 1) (n := 1) (as := [_]) hX.1 dX7_back_5 lkX7_109 (fit_of hX (by omega) gmX6_hasLot) rfl rfl (by decide) rfl rfl rfl (Nat.le_of_ble_eq_true rfl) (cW_hasLot0 E g (by omega) (by omega) (by omega)) ?_
    refine k_if_ne (tgt := 14) hX.1 dX7_back_8 (by decide) (by omega) (fun c_8 => ?_) (fun c_8 => ?_)
    · skip
      exact absurd rfl c_8
    · skip
      refine k_bipush hX.1 dX7_back_11 (by decide) ?_
      refine k_iret hX dX7_back_13 rfl ?_
      refine ⟨?_, ?_, sameM.rf g⟩
      · congr 2
        unfold rBack
        (repeat first | rw [if_pos (by omega)] | rw [if_neg (by omega)])
      · unfold nBack
        (repeat first | rw [if_pos (by omega)] | rw [if_neg (by omega)])
        exact hR

set_option maxRecDepth 100000 in
set_option maxHeartbeats 4000000 in
theorem c7_found (E : En) {A : St} {g : Mm} {n : Int} (hR : RC A g) (hW : Wf A n) {q w : Int} (hq : bd q) (hw : bd w) : Ok E 5 mX7_found [vR 0, vI q, vI w] g (fun r g' => r = some (vI (rFound A q w)) ∧ RC (nFound A q w) g' ∧ sameM g g') := by
  have hC0 := hR.1
  have hW0 := hW.1
  obtain ⟨⟨⟨hc1, hc2, hc3⟩, hcp, hcl⟩, ⟨hg1, hg2⟩, ⟨ht1, ht2, ht3⟩, hck, hcb⟩ := id hR
  obtain ⟨⟨⟨hw1, hw2, hw3, hw4, hw5, hw6, hw7, hw8⟩, hwp, hwl⟩, ⟨hq1, hq2, hq3⟩, ⟨hz1, ⟨hz2, hz3⟩, ⟨hz4, hz5⟩⟩, hwk⟩ := id hW
  refine Ok_of gmX7_found (by omega) (Nat.le_of_ble_eq_true rfl) (fun X hX => ?_)
  show V E X 0 [some (vR 0), some (vI q), some (vI w), none, none] [] g
  by_cases hin : 0 ≤ q ∧ q < A 12 0
  · skip
    obtain ⟨p, rfl⟩ : ∃ m : Nat, q = (m : Int) := ⟨q.toNat, by omega⟩
    obtain ⟨e0, e1, e2, e3, e4, e5, e6, e7⟩ := hcp (p) (by omega)
    obtain ⟨⟨ek1, ek2⟩, ⟨er1, er2⟩, ew2, ew3, ew4, ew5, ew6, ew7⟩ := hwp (p) (by omega)
    by_cases h2 : (p : Int) + 1 < A 12 0
    · skip
      refine k_aload_n hX.1 dX7_found_0 rfl rfl ?_
      refine k_getr (t := 3) hX.1 dX7_found_1 flX7_19 rfl (by decide) rfl rfl ?_
      refine k_iload_n hX.1 dX7_found_4 rfl rfl ?_
      refine k_callVf (d2 := 1) (n := 1) (as := [_]) hX.1 dX7_found_5 lkX7_77 (fit_of hX (by omega) gmX6_hasPart) rfl rfl (by decide) rfl rfl rfl (Nat.le_of_ble_eq_true rfl) (cW_hasPart1 E g (by omega) (by omega) (by omega)) ?_
      refine k_if_eq (tgt := 24) hX.1 dX7_found_8 (by decide) (by omega) (fun c_8 => ?_) (fun c_8 => ?_)
      · skip
        exact absurd c_8 (by decide)
      · skip
        refine k_aload_n hX.1 dX7_found_11 rfl rfl ?_
        refine k_getr (t := 3) hX.1 dX7_found_12 flX7_19 rfl (by decide) rfl rfl ?_
        refine k_iload_n hX.1 dX7_found_15 rfl rfl ?_
        refine k_iconst hX.1 dX7_found_16 ?_
        refine k_iadd hX.1 dX7_found_17 ?_
        refine k_callVf (d2 := 1) (n := 1) (as := [_]) hX.1 dX7_found_18 lkX7_77 (fit_of hX (by omega) gmX6_hasPart) rfl rfl (by decide) rfl rfl rfl (Nat.le_of_ble_eq_true rfl) (cW_hasPart1 E g (by omega) (by omega) (by omega)) ?_
        refine k_if_ne (tgt := 27) hX.1 dX7_found_21 (by decide) (by omega) (fun c_21 => ?_) (fun c_21 => ?_)
        · skip
          refine k_iload_n hX.1 dX7_found_27 rfl rfl ?_
          refine k_iconst hX.1 dX7_found_28 ?_
          refine k_icmp_lt (tgt := 39) hX.1 dX7_found_29 (by decide) (by omega) (by omega) (fun c_29 => ?_) (fun c_29 => ?_)
          · skip
            refine k_bipush hX.1 dX7_found_39 (by decide) ?_
            refine k_iret hX dX7_found_41 rfl ?_
            refine ⟨?_, ?_, sameM.rf g⟩
            · congr 2
              unfold rFound
              (repeat first | rw [if_pos (by omega)] | rw [if_neg (by omega)])
            · unfold nFound
              (repeat first | rw [if_pos (by omega)] | rw [if_neg (by omega)])
              exact hR
          · skip
            refine k_iload_n hX.1 dX7_found_32 rfl rfl ?_
            refine k_sipush hX.1 dX7_found_33 (by decide) ?_
            refine k_icmp_le (tgt := 42) hX.1 dX7_found_36 (by decide) (by omega) (by omega) (fun c_36 => ?_) (fun c_36 => ?_)
            · skip
              refine k_aload_n hX.1 dX7_found_42 rfl rfl ?_
              refine k_getr (t := 3) hX.1 dX7_found_43 flX7_19 rfl (by decide) rfl rfl ?_
              refine k_getr (t := 4) hX.1 dX7_found_46 flX7_89 rfl (by decide) rfl rfl ?_
              refine k_iload_n hX.1 dX7_found_49 rfl rfl ?_
              refine k_aaldP (j := p) (q := 6 + p) hX.1 dX7_found_50 rfl (by omega) (n := 5) rfl (by omega) (by omega) rfl ?_
              refine k_astore_n hX.1 dX7_found_51 rfl (by decide) rfl rfl ?_
              try simp only [List.set_cons_zero, List.set_cons_succ]
              refine k_aload_n hX.1 dX7_found_52 rfl rfl ?_
              refine k_geti hX.1 dX7_found_53 flX7_183 (sk_P6 (by omega)) (by decide) rfl ?_
              refine k_istore hX.1 dX7_found_56 (by decide) rfl rfl ?_
              try simp only [List.set_cons_zero, List.set_cons_succ]
              refine k_aload_n hX.1 dX7_found_58 rfl rfl ?_
              refine k_iload_n hX.1 dX7_found_59 rfl rfl ?_
              refine k_puti hX.1 dX7_found_60 flX7_183 (sk_P6 (by omega)) (by decide) rfl ?_
              refine k_iload hX.1 dX7_found_63 rfl ?_
              refine k_iret hX dX7_found_65 rfl ?_
              refine ⟨?_, ?_, sameM.wr (sameM.rf g) (by omega)⟩
              · congr 2
                unfold rFound
                rw [Int.toNat_natCast]
                (repeat first | rw [if_pos (by omega)] | rw [if_neg (by omega)])
                exact e7
              · unfold nFound
                rw [Int.toNat_natCast]
                (repeat first | rw [if_pos (by omega)] | rw [if_neg (by omega)])
                exact RC_part hR hW.b (by omega) _ (by omega)
            · skip
              refine k_bipush hX.1 dX7_found_39 (by decide) ?_
              refine k_iret hX dX7_found_41 rfl ?_
              refine ⟨?_, ?_, sameM.rf g⟩
              · congr 2
                unfold rFound
                (repeat first | rw [if_pos (by omega)] | rw [if_neg (by omega)])
              · unfold nFound
                (repeat first | rw [if_pos (by omega)] | rw [if_neg (by omega)])
                exact hR
        · skip
          exact absurd c_21 (by decide)
    · skip
      refine k_aload_n hX.1 dX7_found_0 rfl rfl ?_
      refine k_getr (t := 3) hX.1 dX7_found_1 flX7_19 rfl (by decide) rfl rfl ?_
      refine k_iload_n hX.1 dX7_found_4 rfl rfl ?_
      refine k_callVf (d2 := 1) (n := 1) (as := [_]) hX.1 dX7_found_5 lkX7_77 (fit_of hX (by omega) gmX6_hasPart) rfl rfl (by decide) rfl rfl rfl (Nat.le_of_ble_eq_true rfl) (cW_hasPart1 E g (by omega) (by omega) (by omega)) ?_
      refine k_if_eq (tgt := 24) hX.1 dX7_found_8 (by decide) (by omega) (fun c_8 => ?_) (fun c_8 => ?_)
      · skip
        exact absurd c_8 (by decide)
      · skip
        refine k_aload_n hX.1 dX7_found_11 rfl rfl ?_
        refine k_getr (t := 3) hX.1 dX7_found_12 flX7_19 rfl (by decide) rfl rfl ?_
        refine k_iload_n hX.1 dX7_found_15 rfl rfl ?_
        refine k_iconst hX.1 dX7_found_16 ?_
        refine k_iadd hX.1 dX7_found_17 ?_
        refine k_callVf (d2 := 1) (n := 1) (as := [_]) hX.1 dX7_found_18 lkX7_77 (fit_of hX (by omega) gmX6_hasPart) rfl rfl (by decide) rfl rfl rfl (Nat.le_of_ble_eq_true rfl) (cW_hasPart0 E g (by omega) (by omega) (by omega)) ?_
        refine k_if_ne (tgt := 27) hX.1 dX7_found_21 (by decide) (by omega) (fun c_21 => ?_) (fun c_21 => ?_)
        · skip
          exact absurd rfl c_21
        · skip
          refine k_bipush hX.1 dX7_found_24 (by decide) ?_
          refine k_iret hX dX7_found_26 rfl ?_
          refine ⟨?_, ?_, sameM.rf g⟩
          · congr 2
            unfold rFound
            (repeat first | rw [if_pos (by omega)] | rw [if_neg (by omega)])
          · unfold nFound
            (repeat first | rw [if_pos (by omega)] | rw [if_neg (by omega)])
            exact hR
  · skip
    refine k_aload_n hX.1 dX7_found_0 rfl rfl ?_
    refine k_getr (t := 3) hX.1 dX7_found_1 flX7_19 rfl (by decide) rfl rfl ?_
    refine k_iload_n hX.1 dX7_found_4 rfl rfl ?_
    refine k_callVf (d2 := 1) (n := 1) (as := [_]) hX.1 dX7_found_5 lkX7_77 (fit_of hX (by omega) gmX6_hasPart) rfl rfl (by decide) rfl rfl rfl (Nat.le_of_ble_eq_true rfl) (cW_hasPart0 E g (by omega) (by omega) (by omega)) ?_
    refine k_if_eq (tgt := 24) hX.1 dX7_found_8 (by decide) (by omega) (fun c_8 => ?_) (fun c_8 => ?_)
    · skip
      refine k_bipush hX.1 dX7_found_24 (by decide) ?_
      refine k_iret hX dX7_found_26 rfl ?_
      refine ⟨?_, ?_, sameM.rf g⟩
      · congr 2
        unfold rFound
        (repeat first | rw [if_pos (by omega)] | rw [if_neg (by omega)])
      · unfold nFound
        (repeat first | rw [if_pos (by omega)] | rw [if_neg (by omega)])
        exact hR
    · skip
      exact absurd rfl c_8
end
section
theorem RC_tk {A : St} {g : Mm} (hR : RC A g) (hW : Wb A) {t : Nat} (ht : (t : Int) < A 12 2) (x : Int) : RC (tkA A t x) (tkM g (11 + t) x) := by
  have h3 : t < 3 := by have := hW.2.1.2; omega
  obtain ⟨-, e1, e2⟩ := hR.1.2.2 t ht
  unfold tkA tkM
  rw [e1, e2]
  have h1 := RC_lot (j := 1) hR hW (by omega) (A 9 t - bgn (A 10 t) x) h3
  exact RC_lot (j := 2) h1 (Wb_up hW (by omega)) (by omega) _ h3
theorem tkA_12 (A : St) (t : Nat) (x : Int) (q : Nat) : tkA A t x 12 q = A 12 q := by unfold tkA; rw [up_off (by omega), up_off (by omega)]
theorem Wb_tk {A : St} (h : Wb A) (t : Nat) (x : Int) : Wb (tkA A t x) := Wb_up (Wb_up h (by omega)) (by omega)
theorem RC_ls {A : St} {g : Mm} (hR : RC A g) (hW : Wb A) {t : Nat} (ht : (t : Int) < A 12 2) (x : Int) : RC (lsA A t x) (if x = 0 then g else wr g (11 + t) 2 (g.1 (11 + t) 2 + (x - 1))) := by
  have h3 : t < 3 := by have := hW.2.1.2; omega
  obtain ⟨-, e1, e2⟩ := hR.1.2.2 t ht
  unfold lsA
  split
  · exact hR
  · rw [e2]
    exact RC_lot (j := 2) hR hW (by omega) _ h3
theorem lsA_12 (A : St) (t : Nat) (x : Int) (q : Nat) : lsA A t x 12 q = A 12 q := by
  unfold lsA
  split
  · rfl
  · rw [up_off (by omega)]
theorem Wb_ls {A : St} (h : Wb A) (t : Nat) (x : Int) : Wb (lsA A t x) := by
  unfold lsA
  split
  · exact h
  · exact Wb_up h (by omega)
theorem RC_cl {A : St} {g : Mm} (hR : RC A g) (hW : Wb A) {p : Nat} (hp : p < 5) : RC (clA A p) (clM g (6 + p)) := by
  have h1 := RC_part (j := 2) hR hW (by omega) (-1) hp
  have w1 := Wb_up (i := 2) (j := p) (v := -1) hW (by omega)
  have h2 := RC_part (j := 3) h1 w1 (by omega) (-1) hp
  have w2 := Wb_up (i := 3) (j := p) (v := -1) w1 (by omega)
  have h3 := RC_part (j := 4) h2 w2 (by omega) 0 hp
  have w3 := Wb_up (i := 4) (j := p) (v := 0) w2 (by omega)
  have h4 := RC_part (j := 5) h3 w3 (by omega) 0 hp
  have w4 := Wb_up (i := 5) (j := p) (v := 0) w3 (by omega)
  exact RC_told h4 w4 (-1) 0 hp rfl
theorem sameM_tk {g h : Mm} (h1 : sameM g h) {k : Nat} (hk : k < 46) (x : Int) : sameM g (tkM h k x) := (h1.wr hk).wr hk
theorem sameM_cl {g h : Mm} (h1 : sameM g h) {k : Nat} (hk : k < 46) : sameM g (clM h k) := ((((h1.wr hk).wr hk).wr hk).wr hk).wr hk
def mkM (g : Mm) (p a b : Nat) (s f1 f2 : Int) : Mm := tkM (tkM (wr (wr (wr (wr g (6 + p) 2 (a : Int)) (6 + p) 3 s) (6 + p) 4 f1) (6 + p) 5 f2) (11 + a) f1) (11 + b) f2
theorem RC_mk {A : St} {g : Mm} (hR : RC A g) (hW : Wb A) {p a b : Nat} (hp : p < 5) (ha : (a : Int) < A 12 2) (hb : (b : Int) < A 12 2) : RC (mkA A p a b) (mkM g p a b (if (a : Int) = (b : Int) then -1 else (b : Int)) (hf A p a b) (A 1 p - hf A p a b)) := by
  have h1 := RC_part (j := 2) hR hW (by omega) (a : Int) hp
  have w1 := Wb_up (i := 2) (j := p) (v := (a : Int)) hW (by omega)
  have h2 := RC_part (j := 3) h1 w1 (by omega) (if (a : Int) = (b : Int) then -1 else (b : Int)) hp
  have w2 := Wb_up (i := 3) (j := p) (v := (if (a : Int) = (b : Int) then -1 else (b : Int))) w1 (by omega)
  have h3 := RC_part (j := 4) h2 w2 (by omega) (hf A p a b) hp
  have w3 := Wb_up (i := 4) (j := p) (v := hf A p a b) w2 (by omega)
  have h4 := RC_part (j := 5) h3 w3 (by omega) (A 1 p - hf A p a b) hp
  have w4 := Wb_up (i := 5) (j := p) (v := A 1 p - hf A p a b) w3 (by omega)
  have h5 := RC_tk h4 w4 (t := a) (by rw [up_off (by omega), up_off (by omega), up_off (by omega), up_off (by omega)]; exact ha) (hf A p a b)
  exact RC_tk h5 (Wb_tk w4 _ _) (t := b) (by rw [tkA_12, up_off (by omega), up_off (by omega), up_off (by omega), up_off (by omega)]; exact hb) (A 1 p - hf A p a b)
theorem sameM_mk (g : Mm) {p a b : Nat} (hp : p < 5) (ha : a < 3) (hb : b < 3) (s f1 f2 : Int) : sameM g (mkM g p a b s f1 f2) := by
  unfold mkM
  exact sameM_tk (sameM_tk (((((sameM.rf g).wr (by omega)).wr (by omega)).wr (by omega)).wr (by omega)) (by omega) _) (by omega) _
theorem tkM_off {g : Mm} {k a : Nat} (h : a ≠ k) (x : Int) : (tkM g k x).1 a = g.1 a := by unfold tkM; rw [wr_off h, wr_off h]
theorem tkM_2 (g : Mm) (k : Nat) (x : Int) : (tkM g k x).1 k 2 = g.1 k 2 + (4 * bgn (g.1 k 2) x - x) := by simp [tkM, wr_1]
theorem bgn_bd {lo x : Int} (h1 : 0 ≤ lo) (h2 : x ≤ 100) : 0 ≤ bgn lo x ∧ bgn lo x ≤ 30 ∧ x ≤ lo + 4 * bgn lo x ∧ (bgn lo x = 0 ∨ lo + 4 * bgn lo x ≤ x + 3) := by unfold bgn; omega
set_option maxRecDepth 100000 in
set_option maxHeartbeats 4000000 in
theorem cW_make (E : En) {A : St} {g : Mm} {n : Int} (hR : RC A g) (hW : Wf A n) {p a b : Nat} (hp : (p : Int) < A 12 0) (ha : (a : Int) < A 12 2) (hb : (b : Int) < A 12 2) : Pr E 3 mX6_make [vR 3, vI (p : Int), vI (a : Int), vI (b : Int)] g (mkM g p a b (if (a : Int) = (b : Int) then -1 else (b : Int)) (hf A p a b) (A 1 p - hf A p a b)) := by
  have hC0 := hR.1
  have hW0 := hW.1
  obtain ⟨⟨⟨hc1, hc2, hc3⟩, hcp, hcl⟩, ⟨hg1, hg2⟩, ⟨ht1, ht2, ht3⟩, hck, hcb⟩ := id hR
  obtain ⟨⟨⟨hw1, hw2, hw3, hw4, hw5, hw6, hw7, hw8⟩, hwp, hwl⟩, ⟨hq1, hq2, hq3⟩, ⟨hz1, ⟨hz2, hz3⟩, ⟨hz4, hz5⟩⟩, hwk⟩ := id hW
  obtain ⟨e0, e1, e2, e3, e4, e5, e6, e7⟩ := hcp (p) (by omega)
  obtain ⟨⟨ek1, ek2⟩, ⟨er1, er2⟩, ew2, ew3, ew4, ew5, ew6, ew7⟩ := hwp (p) (by omega)
  obtain ⟨k0, k1, k2⟩ := hcl (a) (by omega)
  obtain ⟨⟨ka, kb⟩, ⟨kc, kd⟩, ⟨ke, kf⟩⟩ := hwl (a) (by omega)
  obtain ⟨l0, l1, l2⟩ := hcl (b) (by omega)
  obtain ⟨⟨la, lb⟩, ⟨lc, ld⟩, ⟨le, lf⟩⟩ := hwl (b) (by omega)
  have hh : 0 ≤ hf A p a b ∧ hf A p a b ≤ A 1 p := by unfold hf; split <;> omega
  have he : (if (a : Int) = (b : Int) then A 1 p else (A 1 p + 1) / 2) = hf A p a b := rfl
  refine Ok_of gmX6_make (by omega) (Nat.le_of_ble_eq_true rfl) (fun X hX => ?_)
  show V E X 0 [some (vR 3), some (vI (p : Int)), some (vI (a : Int)), some (vI (b : Int)), none] [] g
  refine k_aload_n hX.1 dX6_make_0 rfl rfl ?_
  refine k_getr (t := 4) hX.1 dX6_make_1 flX6_11 rfl (by decide) rfl rfl ?_
  refine k_iload_n hX.1 dX6_make_4 rfl rfl ?_
  refine k_aaldP (j := p) (q := 6 + p) hX.1 dX6_make_5 rfl (by omega) (n := 5) rfl (by omega) (by omega) rfl ?_
  refine k_astore hX.1 dX6_make_6 (by decide) rfl rfl ?_
  try simp only [List.set_cons_zero, List.set_cons_succ]
  refine k_aload hX.1 dX6_make_8 rfl ?_
  refine k_iload_n hX.1 dX6_make_10 rfl rfl ?_
  refine k_puti hX.1 dX6_make_11 flX6_79 (sk_P6 (by omega)) (by decide) rfl ?_
  refine k_aload hX.1 dX6_make_14 rfl ?_
  refine k_iload_n hX.1 dX6_make_16 rfl rfl ?_
  refine k_iload_n hX.1 dX6_make_17 rfl rfl ?_
  refine k_join2 26 (fun z => z = if (a : Int) = (b : Int) then -1 else (b : Int)) (fun z hz => ?_) (fun jn_18 => ?_)
  · skip
    rw [hz]
    refine k_puti hX.1 dX6_make_26 flX6_82 (sk_P6 (by omega)) (by decide) rfl ?_
    refine k_aload hX.1 dX6_make_29 rfl ?_
    refine k_aload hX.1 dX6_make_31 rfl ?_
    refine k_geti hX.1 dX6_make_33 flX6_69 (sk_P6 (by omega)) (by decide) rfl ?_
    refine k_top (b := A 1 p) (by simp [wr_1]; omega) ?_
    refine k_iload_n hX.1 dX6_make_36 rfl rfl ?_
    refine k_iload_n hX.1 dX6_make_37 rfl rfl ?_
    refine k_callNf (d2 := 1) (n := 3) (as := [_, _, _]) hX.1 dX6_make_38 lkX6_72 (fit_of hX (by omega) gmX7_rowsOfFirst) rfl rfl (Nat.le_of_ble_eq_true rfl) (cX_rof E _ (r := A 1 p) (by omega) (by omega) (by omega)) ?_
    rw [he]
    refine k_puti hX.1 dX6_make_41 flX6_85 (sk_P6 (by omega)) (by decide) rfl ?_
    refine k_aload hX.1 dX6_make_44 rfl ?_
    refine k_aload hX.1 dX6_make_46 rfl ?_
    refine k_geti hX.1 dX6_make_48 flX6_69 (sk_P6 (by omega)) (by decide) rfl ?_
    refine k_top (b := A 1 p) (by simp [wr_1]; omega) ?_
    refine k_aload hX.1 dX6_make_51 rfl ?_
    refine k_geti hX.1 dX6_make_53 flX6_85 (sk_P6 (by omega)) (by decide) rfl ?_
    refine k_top (b := hf A p a b) (by simp [wr_1]) ?_
    refine k_isub hX.1 dX6_make_56 ?_
    refine k_puti hX.1 dX6_make_57 flX6_88 (sk_P6 (by omega)) (by decide) rfl ?_
    refine k_aload_n hX.1 dX6_make_60 rfl rfl ?_
    refine k_getr (t := 5) hX.1 dX6_make_61 flX6_19 rfl (by decide) rfl rfl ?_
    refine k_iload_n hX.1 dX6_make_64 rfl rfl ?_
    refine k_aaldL (j := a) (q := 11 + a) hX.1 dX6_make_65 rfl (by omega) (n := 3) rfl (by omega) (by omega) rfl ?_
    refine k_aload hX.1 dX6_make_66 rfl ?_
    refine k_geti hX.1 dX6_make_68 flX6_85 (sk_P6 (by omega)) (by decide) rfl ?_
    refine k_top (b := hf A p a b) (by simp [wr_1]) ?_
    refine k_callVp (d2 := 2) (n := 1) (as := [_]) hX.1 dX6_make_71 lkX6_91 (fit_of hX (by omega) gmX2_take) rfl (sk_L11 (by omega)) (by decide) rfl rfl rfl (Nat.le_of_ble_eq_true rfl) (cL_take E _ (t := a) (by omega) (by omega) (by rw [wr_off (by omega), wr_off (by omega), wr_off (by omega), wr_off (by omega)]; omega)) ?_
    refine k_aload_n hX.1 dX6_make_74 rfl rfl ?_
    refine k_getr (t := 5) hX.1 dX6_make_75 flX6_19 rfl (by decide) rfl rfl ?_
    refine k_iload_n hX.1 dX6_make_78 rfl rfl ?_
    refine k_aaldL (j := b) (q := 11 + b) hX.1 dX6_make_79 rfl (by omega) (n := 3) rfl (by omega) (by omega) rfl ?_
    refine k_aload hX.1 dX6_make_80 rfl ?_
    refine k_geti hX.1 dX6_make_82 flX6_88 (sk_P6 (by omega)) (by decide) rfl ?_
    refine k_top (b := A 1 p - hf A p a b) (by rw [tkM_off (by omega)]; simp [wr_1]) ?_
    refine k_callVp (d2 := 2) (n := 1) (as := [_]) hX.1 dX6_make_85 lkX6_91 (fit_of hX (by omega) gmX2_take) rfl (sk_L11 (by omega)) (by decide) rfl rfl rfl (Nat.le_of_ble_eq_true rfl) (cL_take E _ (t := b) (by omega) (by omega) ?_) ?_
    · by_cases hab : a = b
      · subst hab
        rw [tkM_2, wr_off (by omega), wr_off (by omega), wr_off (by omega), wr_off (by omega)]
        have := bgn_bd (lo := g.1 (11 + a) 2) (x := hf A p a a) (by omega) (by omega)
        omega
      · rw [tkM_off (by omega), wr_off (by omega), wr_off (by omega), wr_off (by omega), wr_off (by omega)]
        omega
    refine k_vret hX dX6_make_88 rfl ?_
    exact ⟨rfl, rfl⟩
  · refine k_icmp_ne (tgt := 25) hX.1 dX6_make_18 (by decide) (by omega) (by omega) (fun c_18 => ?_) (fun c_18 => ?_)
    · skip
      refine k_iload_n hX.1 dX6_make_25 rfl rfl ?_
      exact jn_18 _ (by first | rw [if_pos (by omega)] | rw [if_neg (by omega)])
    · skip
      refine k_iconst hX.1 dX6_make_21 ?_
      refine k_goto (tgt := 26) hX.1 dX6_make_22 (by decide) ?_
      exact jn_18 _ (by first | rw [if_pos (by omega)] | rw [if_neg (by omega)])

theorem sameM_ls {g h : Mm} (h1 : sameM g h) {t : Nat} (ht : t < 3) (x : Int) : sameM g (if x = 0 then h else wr h (11 + t) 2 (h.1 (11 + t) 2 + (x - 1))) := by
  split
  · exact h1
  · exact h1.wr (by omega)
theorem ls_off {h : Mm} {t a : Nat} (ha : a ≠ 11 + t) (x : Int) : (if x = 0 then h else wr h (11 + t) 2 (h.1 (11 + t) 2 + (x - 1))).1 a = h.1 a := by
  split
  · rfl
  · exact wr_off ha
set_option maxRecDepth 100000 in
set_option maxHeartbeats 4000000 in
theorem cW_unravel (E : En) {A : St} {g : Mm} {n : Int} (hR : RC A g) (hW : Wf A n) {p : Nat} (hp : (p : Int) < A 12 0) (ho : A 2 p ≠ -1) : Ok E 2 mX6_unravel [vR 3, vI (p : Int)] g (fun r g' => r = some (vI (lost A p)) ∧ RC (unA A p) g' ∧ sameM g g') := by
  have hC0 := hR.1
  have hW0 := hW.1
  obtain ⟨⟨⟨hc1, hc2, hc3⟩, hcp, hcl⟩, ⟨hg1, hg2⟩, ⟨ht1, ht2, ht3⟩, hck, hcb⟩ := id hR
  obtain ⟨⟨⟨hw1, hw2, hw3, hw4, hw5, hw6, hw7, hw8⟩, hwp, hwl⟩, ⟨hq1, hq2, hq3⟩, ⟨hz1, ⟨hz2, hz3⟩, ⟨hz4, hz5⟩⟩, hwk⟩ := id hW
  obtain ⟨e0, e1, e2, e3, e4, e5, e6, e7⟩ := hcp (p) (by omega)
  obtain ⟨⟨ek1, ek2⟩, ⟨er1, er2⟩, ew2, ew3, ew4, ew5, ew6, ew7⟩ := hwp (p) (by omega)
  obtain ⟨a, ha⟩ : ∃ m : Nat, A 2 p = (m : Int) := ⟨(A 2 p).toNat, by omega⟩
  obtain ⟨k0, k1, k2⟩ := hcl (a) (by omega)
  obtain ⟨⟨ka, kb⟩, ⟨kc, kd⟩, ⟨ke, kf⟩⟩ := hwl (a) (by omega)
  refine Ok_of gmX6_unravel (by omega) (Nat.le_of_ble_eq_true rfl) (fun X hX => ?_)
  show V E X 0 [some (vR 3), some (vI (p : Int)), none, none] [] g
  by_cases h2 : A 3 p = -1
  · skip
    refine k_aload_n hX.1 dX6_unravel_0 rfl rfl ?_
    refine k_getr (t := 4) hX.1 dX6_unravel_1 flX6_11 rfl (by decide) rfl rfl ?_
    refine k_iload_n hX.1 dX6_unravel_4 rfl rfl ?_
    refine k_aaldP (j := p) (q := 6 + p) hX.1 dX6_unravel_5 rfl (by omega) (n := 5) rfl (by omega) (by omega) rfl ?_
    refine k_astore_n hX.1 dX6_unravel_6 rfl (by decide) rfl rfl ?_
    try simp only [List.set_cons_zero, List.set_cons_succ]
    refine k_iconst hX.1 dX6_unravel_7 ?_
    refine k_istore_n hX.1 dX6_unravel_8 rfl (by decide) rfl rfl ?_
    try simp only [List.set_cons_zero, List.set_cons_succ]
    refine k_aload_n hX.1 dX6_unravel_9 rfl rfl ?_
    refine k_aload_n hX.1 dX6_unravel_10 rfl rfl ?_
    refine k_geti hX.1 dX6_unravel_11 flX6_79 (sk_P6 (by omega)) (by decide) rfl ?_
    refine k_callVf (d2 := 1) (n := 1) (as := [_]) hX.1 dX6_unravel_14 lkX6_95 (fit_of hX (by omega) gmX6_hasLot) rfl rfl (by decide) rfl rfl rfl (Nat.le_of_ble_eq_true rfl) (cW_hasLot1 E g (by omega) (by omega) (by omega)) ?_
    refine k_if_eq (tgt := 39) hX.1 dX6_unravel_17 (by decide) (by omega) (fun c_17 => ?_) (fun c_17 => ?_)
    · skip
      exact absurd c_17 (by decide)
    · skip
      refine k_iload_n hX.1 dX6_unravel_20 rfl rfl ?_
      refine k_aload_n hX.1 dX6_unravel_21 rfl rfl ?_
      refine k_getr (t := 5) hX.1 dX6_unravel_22 flX6_19 rfl (by decide) rfl rfl ?_
      refine k_aload_n hX.1 dX6_unravel_25 rfl rfl ?_
      refine k_geti hX.1 dX6_unravel_26 flX6_79 (sk_P6 (by omega)) (by decide) rfl ?_
      refine k_aaldL (j := a) (q := 11 + a) hX.1 dX6_unravel_29 rfl (by omega) (n := 3) rfl (by omega) (by omega) rfl ?_
      refine k_aload_n hX.1 dX6_unravel_30 rfl rfl ?_
      refine k_geti hX.1 dX6_unravel_31 flX6_85 (sk_P6 (by omega)) (by decide) rfl ?_
      refine k_callV (d2 := 1) (n := 1) (as := [_]) hX.1 dX6_unravel_34 lkX6_99 (fit_of hX (by omega) gmX2_loosen) rfl (sk_L11 (by omega)) (by decide) rfl rfl rfl (Nat.le_of_ble_eq_true rfl) (cL_loosen E g (t := a) (by omega) (by omega)) (fun r_34 g_34 q_34 => ?_)
      obtain ⟨rfl, rfl⟩ := q_34
      show V E X 37 _ (vI _ :: _) _
      refine k_iadd hX.1 dX6_unravel_37 ?_
      refine k_istore_n hX.1 dX6_unravel_38 rfl (by decide) rfl rfl ?_
      try simp only [List.set_cons_zero, List.set_cons_succ]
      refine k_aload_n hX.1 dX6_unravel_39 rfl rfl ?_
      refine k_aload_n hX.1 dX6_unravel_40 rfl rfl ?_
      refine k_geti hX.1 dX6_unravel_41 flX6_82 (sk_P6 (by omega)) (by decide) rfl ?_
      refine k_top (b := -1) (by rw [ls_off (by omega)]; omega) ?_
      refine k_callVf (d2 := 1) (n := 1) (as := [_]) hX.1 dX6_unravel_44 lkX6_95 (fit_of hX (by omega) gmX6_hasLot) rfl rfl (by decide) rfl rfl rfl (Nat.le_of_ble_eq_true rfl) (cW_hasLot0 E _ (by omega) (by omega) (by rw [ls_off (by omega)]; omega)) ?_
      refine k_if_eq (tgt := 69) hX.1 dX6_unravel_47 (by decide) (by omega) (fun c_47 => ?_) (fun c_47 => ?_)
      · skip
        refine k_aload_n hX.1 dX6_unravel_69 rfl rfl ?_
        refine k_callVp (d2 := 1) (n := 0) (as := []) hX.1 dX6_unravel_70 lkX6_102 (fit_of hX (by omega) gmX4_clear) rfl (sk_P6 (by omega)) (by decide) rfl rfl rfl (Nat.le_of_ble_eq_true rfl) (cP_clear E _ (p := p) (by omega)) ?_
        refine k_iload_n hX.1 dX6_unravel_73 rfl rfl ?_
        refine k_iret hX dX6_unravel_74 rfl ?_
        refine ⟨?_, ?_, ?_⟩
        · congr 2
          unfold lost
          rw [if_pos h2, e4]
          omega
        · unfold unA
          rw [if_pos h2, ha, Int.toNat_natCast, e4]
          exact RC_cl (RC_ls hR hW.b (by omega) _) (Wb_ls hW.b _ _) (by omega)
        · exact sameM_cl (sameM_ls (sameM.rf g) (by omega) _) (by omega)
      · skip
        exact absurd rfl c_47
  · skip
    obtain ⟨b, hb⟩ : ∃ m : Nat, A 3 p = (m : Int) := ⟨(A 3 p).toNat, by omega⟩
    obtain ⟨l0, l1, l2⟩ := hcl (b) (by omega)
    obtain ⟨⟨la, lb⟩, ⟨lc, ld⟩, ⟨le, lf⟩⟩ := hwl (b) (by omega)
    refine k_aload_n hX.1 dX6_unravel_0 rfl rfl ?_
    refine k_getr (t := 4) hX.1 dX6_unravel_1 flX6_11 rfl (by decide) rfl rfl ?_
    refine k_iload_n hX.1 dX6_unravel_4 rfl rfl ?_
    refine k_aaldP (j := p) (q := 6 + p) hX.1 dX6_unravel_5 rfl (by omega) (n := 5) rfl (by omega) (by omega) rfl ?_
    refine k_astore_n hX.1 dX6_unravel_6 rfl (by decide) rfl rfl ?_
    try simp only [List.set_cons_zero, List.set_cons_succ]
    refine k_iconst hX.1 dX6_unravel_7 ?_
    refine k_istore_n hX.1 dX6_unravel_8 rfl (by decide) rfl rfl ?_
    try simp only [List.set_cons_zero, List.set_cons_succ]
    refine k_aload_n hX.1 dX6_unravel_9 rfl rfl ?_
    refine k_aload_n hX.1 dX6_unravel_10 rfl rfl ?_
    refine k_geti hX.1 dX6_unravel_11 flX6_79 (sk_P6 (by omega)) (by decide) rfl ?_
    refine k_callVf (d2 := 1) (n := 1) (as := [_]) hX.1 dX6_unravel_14 lkX6_95 (fit_of hX (by omega) gmX6_hasLot) rfl rfl (by decide) rfl rfl rfl (Nat.le_of_ble_eq_true rfl) (cW_hasLot1 E g (by omega) (by omega) (by omega)) ?_
    refine k_if_eq (tgt := 39) hX.1 dX6_unravel_17 (by decide) (by omega) (fun c_17 => ?_) (fun c_17 => ?_)
    · skip
      exact absurd c_17 (by decide)
    · skip
      refine k_iload_n hX.1 dX6_unravel_20 rfl rfl ?_
      refine k_aload_n hX.1 dX6_unravel_21 rfl rfl ?_
      refine k_getr (t := 5) hX.1 dX6_unravel_22 flX6_19 rfl (by decide) rfl rfl ?_
      refine k_aload_n hX.1 dX6_unravel_25 rfl rfl ?_
      refine k_geti hX.1 dX6_unravel_26 flX6_79 (sk_P6 (by omega)) (by decide) rfl ?_
      refine k_aaldL (j := a) (q := 11 + a) hX.1 dX6_unravel_29 rfl (by omega) (n := 3) rfl (by omega) (by omega) rfl ?_
      refine k_aload_n hX.1 dX6_unravel_30 rfl rfl ?_
      refine k_geti hX.1 dX6_unravel_31 flX6_85 (sk_P6 (by omega)) (by decide) rfl ?_
      refine k_callV (d2 := 1) (n := 1) (as := [_]) hX.1 dX6_unravel_34 lkX6_99 (fit_of hX (by omega) gmX2_loosen) rfl (sk_L11 (by omega)) (by decide) rfl rfl rfl (Nat.le_of_ble_eq_true rfl) (cL_loosen E g (t := a) (by omega) (by omega)) (fun r_34 g_34 q_34 => ?_)
      obtain ⟨rfl, rfl⟩ := q_34
      show V E X 37 _ (vI _ :: _) _
      refine k_iadd hX.1 dX6_unravel_37 ?_
      refine k_istore_n hX.1 dX6_unravel_38 rfl (by decide) rfl rfl ?_
      try simp only [List.set_cons_zero, List.set_cons_succ]
      refine k_aload_n hX.1 dX6_unravel_39 rfl rfl ?_
      refine k_aload_n hX.1 dX6_unravel_40 rfl rfl ?_
      refine k_geti hX.1 dX6_unravel_41 flX6_82 (sk_P6 (by omega)) (by decide) rfl ?_
      refine k_top (b := (b : Int)) (by rw [ls_off (by omega)]; omega) ?_
      refine k_callVf (d2 := 1) (n := 1) (as := [_]) hX.1 dX6_unravel_44 lkX6_95 (fit_of hX (by omega) gmX6_hasLot) rfl rfl (by decide) rfl rfl rfl (Nat.le_of_ble_eq_true rfl) (cW_hasLot1 E _ (by omega) (by rw [ls_off (by omega)]; omega) (by rw [ls_off (by omega)]; omega)) ?_
      refine k_if_eq (tgt := 69) hX.1 dX6_unravel_47 (by decide) (by omega) (fun c_47 => ?_) (fun c_47 => ?_)
      · skip
        exact absurd c_47 (by decide)
      · skip
        refine k_iload_n hX.1 dX6_unravel_50 rfl rfl ?_
        refine k_aload_n hX.1 dX6_unravel_51 rfl rfl ?_
        refine k_getr (t := 5) hX.1 dX6_unravel_52 flX6_19 rfl (by decide) rfl rfl ?_
        refine k_aload_n hX.1 dX6_unravel_55 rfl rfl ?_
        refine k_geti hX.1 dX6_unravel_56 flX6_82 (sk_P6 (by omega)) (by decide) rfl ?_
        refine k_top (b := (b : Int)) (by rw [ls_off (by omega)]; omega) ?_
        refine k_aaldL (j := b) (q := 11 + b) hX.1 dX6_unravel_59 rfl (by omega) (n := 3) rfl (by omega) (by omega) rfl ?_
        refine k_aload_n hX.1 dX6_unravel_60 rfl rfl ?_
        refine k_geti hX.1 dX6_unravel_61 flX6_88 (sk_P6 (by omega)) (by decide) rfl ?_
        refine k_top (b := A 5 p) (by rw [ls_off (by omega)]; omega) ?_
        refine k_callV (d2 := 1) (n := 1) (as := [_]) hX.1 dX6_unravel_64 lkX6_99 (fit_of hX (by omega) gmX2_loosen) rfl (sk_L11 (by omega)) (by decide) rfl rfl rfl (Nat.le_of_ble_eq_true rfl) (cL_loosen E _ (t := b) (by omega) (by omega)) (fun r_64 g_64 q_64 => ?_)
        obtain ⟨rfl, rfl⟩ := q_64
        show V E X 67 _ (vI _ :: _) _
        refine k_iadd hX.1 dX6_unravel_67 ?_
        refine k_istore_n hX.1 dX6_unravel_68 rfl (by decide) rfl rfl ?_
        try simp only [List.set_cons_zero, List.set_cons_succ]
        refine k_aload_n hX.1 dX6_unravel_69 rfl rfl ?_
        refine k_callVp (d2 := 1) (n := 0) (as := []) hX.1 dX6_unravel_70 lkX6_102 (fit_of hX (by omega) gmX4_clear) rfl (sk_P6 (by omega)) (by decide) rfl rfl rfl (Nat.le_of_ble_eq_true rfl) (cP_clear E _ (p := p) (by omega)) ?_
        refine k_iload_n hX.1 dX6_unravel_73 rfl rfl ?_
        refine k_iret hX dX6_unravel_74 rfl ?_
        refine ⟨?_, ?_, ?_⟩
        · congr 2
          unfold lost
          rw [if_neg h2, e4]
          omega
        · unfold unA
          rw [if_neg h2, ha, hb, Int.toNat_natCast, Int.toNat_natCast, e4]
          exact RC_cl (RC_ls (RC_ls hR hW.b (by omega) _) (Wb_ls hW.b _ _) (by rw [lsA_12]; omega) _) (Wb_ls (Wb_ls hW.b _ _) _ _) (by omega)
        · exact sameM_cl (sameM_ls (sameM_ls (sameM.rf g) (by omega) _) (by omega) _) (by omega)

theorem nKnit_W0 : True := trivial
set_option maxRecDepth 100000 in
set_option maxHeartbeats 4000000 in
theorem c7_knit (E : En) {A : St} {g : Mm} {n : Int} (hR : RC A g) (hW : Wf A n) {q x y : Int} (hq : bd q) (hx : bd x) (hy : bd y) (hWn : Wf (nKnit A q x y) (n + 1)) : Ok E 5 mX7_knit [vR 0, vI q, vI x, vI y] g (fun r g' => r = some (vI (rKnit A q x y)) ∧ RC (nKnit A q x y) g' ∧ sameM g g') := by
  have hC0 := hR.1
  have hW0 := hW.1
  obtain ⟨⟨⟨hc1, hc2, hc3⟩, hcp, hcl⟩, ⟨hg1, hg2⟩, ⟨ht1, ht2, ht3⟩, hck, hcb⟩ := id hR
  obtain ⟨⟨⟨hw1, hw2, hw3, hw4, hw5, hw6, hw7, hw8⟩, hwp, hwl⟩, ⟨hq1, hq2, hq3⟩, ⟨hz1, ⟨hz2, hz3⟩, ⟨hz4, hz5⟩⟩, hwk⟩ := id hW
  refine Ok_of gmX7_knit (by omega) (Nat.le_of_ble_eq_true rfl) (fun X hX => ?_)
  show V E X 0 [some (vR 0), some (vI q), some (vI x), some (vI y)] [] g
  by_cases i1 : 0 ≤ q ∧ q < A 12 0
  · skip
    by_cases i2 : 0 ≤ x ∧ x < A 12 2
    · skip
      by_cases i3 : 0 ≤ y ∧ y < A 12 2
      · skip
        obtain ⟨p, rfl⟩ : ∃ m : Nat, q = (m : Int) := ⟨q.toNat, by omega⟩
        obtain ⟨a, rfl⟩ : ∃ m : Nat, x = (m : Int) := ⟨x.toNat, by omega⟩
        obtain ⟨b, rfl⟩ : ∃ m : Nat, y = (m : Int) := ⟨y.toNat, by omega⟩
        obtain ⟨e0, e1, e2, e3, e4, e5, e6, e7⟩ := hcp (p) (by omega)
        obtain ⟨⟨ek1, ek2⟩, ⟨er1, er2⟩, ew2, ew3, ew4, ew5, ew6, ew7⟩ := hwp (p) (by omega)
        obtain ⟨k0, k1, k2⟩ := hcl (a) (by omega)
        obtain ⟨⟨ka, kb⟩, ⟨kc, kd⟩, ⟨ke, kf⟩⟩ := hwl (a) (by omega)
        obtain ⟨l0, l1, l2⟩ := hcl (b) (by omega)
        obtain ⟨⟨la, lb⟩, ⟨lc, ld⟩, ⟨le, lf⟩⟩ := hwl (b) (by omega)
        by_cases h1 : A 2 p = -1
        · skip
          by_cases h2 : hf A p a b ≤ rws A a ∧ A 1 p - hf A p a b ≤ rws A b
          · skip
            have hn : nKnit A p a b = mkA A p a b := by
              unfold nKnit
              rw [Int.toNat_natCast, Int.toNat_natCast, Int.toNat_natCast, if_pos (by omega), if_pos ⟨h1, h2⟩]
            rw [hn] at hWn
            refine k_aload_n hX.1 dX7_knit_0 rfl rfl ?_
            refine k_getr (t := 3) hX.1 dX7_knit_1 flX7_19 rfl (by decide) rfl rfl ?_
            refine k_iload_n hX.1 dX7_knit_4 rfl rfl ?_
            refine k_callVf (d2 := 1) (n := 1) (as := [_]) hX.1 dX7_knit_5 lkX7_77 (fit_of hX (by omega) gmX6_hasPart) rfl rfl (by decide) rfl rfl rfl (Nat.le_of_ble_eq_true rfl) (cW_hasPart1 E g (by omega) (by omega) (by omega)) ?_
            refine k_if_eq (tgt := 33) hX.1 dX7_knit_8 (by decide) (by omega) (fun c_8 => ?_) (fun c_8 => ?_)
            · skip
              exact absurd c_8 (by decide)
            · skip
              refine k_aload_n hX.1 dX7_knit_11 rfl rfl ?_
              refine k_getr (t := 3) hX.1 dX7_knit_12 flX7_19 rfl (by decide) rfl rfl ?_
              refine k_iload_n hX.1 dX7_knit_15 rfl rfl ?_
              refine k_callVf (d2 := 1) (n := 1) (as := [_]) hX.1 dX7_knit_16 lkX7_109 (fit_of hX (by omega) gmX6_hasLot) rfl rfl (by decide) rfl rfl rfl (Nat.le_of_ble_eq_true rfl) (cW_hasLot1 E g (by omega) (by omega) (by omega)) ?_
              refine k_if_eq (tgt := 33) hX.1 dX7_knit_19 (by decide) (by omega) (fun c_19 => ?_) (fun c_19 => ?_)
              · skip
                exact absurd c_19 (by decide)
              · skip
                refine k_aload_n hX.1 dX7_knit_22 rfl rfl ?_
                refine k_getr (t := 3) hX.1 dX7_knit_23 flX7_19 rfl (by decide) rfl rfl ?_
                refine k_iload_n hX.1 dX7_knit_26 rfl rfl ?_
                refine k_callVf (d2 := 1) (n := 1) (as := [_]) hX.1 dX7_knit_27 lkX7_109 (fit_of hX (by omega) gmX6_hasLot) rfl rfl (by decide) rfl rfl rfl (Nat.le_of_ble_eq_true rfl) (cW_hasLot1 E g (by omega) (by omega) (by omega)) ?_
                refine k_if_ne (tgt := 36) hX.1 dX7_knit_30 (by decide) (by omega) (fun c_30 => ?_) (fun c_30 => ?_)
                · skip
                  refine k_aload_n hX.1 dX7_knit_36 rfl rfl ?_
                  refine k_getr (t := 3) hX.1 dX7_knit_37 flX7_19 rfl (by decide) rfl rfl ?_
                  refine k_getr (t := 4) hX.1 dX7_knit_40 flX7_89 rfl (by decide) rfl rfl ?_
                  refine k_iload_n hX.1 dX7_knit_43 rfl rfl ?_
                  refine k_aaldP (j := p) (q := 6 + p) hX.1 dX7_knit_44 rfl (by omega) (n := 5) rfl (by omega) (by omega) rfl ?_
                  refine k_callVf (d2 := 1) (n := 0) (as := []) hX.1 dX7_knit_45 lkX7_119 (fit_of hX (by omega) gmX4_isKnitted) rfl (sk_P6 (by omega)) (by decide) rfl rfl rfl (Nat.le_of_ble_eq_true rfl) (cP_isKnitted E g (p := p) (by omega) (by omega)) ?_
                  refine k_if_ne (tgt := 64) hX.1 dX7_knit_48 (by decide) (by split <;> omega) (fun c_48 => ?_) (fun c_48 => ?_)
                  · skip
                    exact absurd (if_pos (by omega)) c_48
                  · skip
                    refine k_aload_n hX.1 dX7_knit_51 rfl rfl ?_
                    refine k_getr (t := 3) hX.1 dX7_knit_52 flX7_19 rfl (by decide) rfl rfl ?_
                    refine k_iload_n hX.1 dX7_knit_55 rfl rfl ?_
                    refine k_iload_n hX.1 dX7_knit_56 rfl rfl ?_
                    refine k_iload_n hX.1 dX7_knit_57 rfl rfl ?_
                    refine k_callVf (d2 := 2) (n := 3) (as := [_, _, _]) hX.1 dX7_knit_58 lkX7_122 (fit_of hX (by omega) gmX6_canMake) rfl rfl (by decide) rfl rfl rfl (Nat.le_of_ble_eq_true rfl) (cW_canMake E hC0 hW0 (p := p) (a := a) (b := b) (by omega) (by omega) (by omega)) ?_
                    refine k_if_ne (tgt := 67) hX.1 dX7_knit_61 (by decide) (by split <;> omega) (fun c_61 => ?_) (fun c_61 => ?_)
                    · skip
                      refine k_aload_n hX.1 dX7_knit_67 rfl rfl ?_
                      refine k_getr (t := 3) hX.1 dX7_knit_68 flX7_19 rfl (by decide) rfl rfl ?_
                      refine k_iload_n hX.1 dX7_knit_71 rfl rfl ?_
                      refine k_iload_n hX.1 dX7_knit_72 rfl rfl ?_
                      refine k_iload_n hX.1 dX7_knit_73 rfl rfl ?_
                      refine k_callVp (d2 := 3) (n := 3) (as := [_, _, _]) hX.1 dX7_knit_74 lkX7_126 (fit_of hX (by omega) gmX6_make) rfl rfl (by decide) rfl rfl rfl (Nat.le_of_ble_eq_true rfl) (cW_make E hR hW (p := p) (a := a) (b := b) (by omega) (by omega) (by omega)) ?_
                      have hR2 := RC_mk hR hW.b (p := p) (a := a) (b := b) (by omega) (by omega) (by omega)
                      refine k_aload_n hX.1 dX7_knit_77 rfl rfl ?_
                      refine k_getr (t := 3) hX.1 dX7_knit_78 flX7_19 rfl (by decide) rfl rfl ?_
                      refine k_callVf (d2 := 4) (n := 0) (as := []) hX.1 dX7_knit_81 lkX7_130 (fit_of hX (by omega) gmX6_seenOfAll) rfl rfl (by decide) rfl rfl rfl (Nat.le_of_ble_eq_true rfl) (cW_seenOfAll E hR2.1 hWn.1) ?_
                      refine k_iret hX dX7_knit_84 rfl ?_
                      refine ⟨?_, ?_, sameM_mk g (by omega) (by omega) (by omega) _ _ _⟩
                      · congr 2
                        unfold rKnit
                        rw [Int.toNat_natCast, Int.toNat_natCast, Int.toNat_natCast, if_pos (by omega), if_pos ⟨h1, h2⟩]
                      · rw [hn]; exact hR2
                    · skip
                      rw [if_pos h2] at c_61; exact absurd c_61 (by decide)
                · skip
                  exact absurd c_30 (by decide)
          · skip
            refine k_aload_n hX.1 dX7_knit_0 rfl rfl ?_
            refine k_getr (t := 3) hX.1 dX7_knit_1 flX7_19 rfl (by decide) rfl rfl ?_
            refine k_iload_n hX.1 dX7_knit_4 rfl rfl ?_
            refine k_callVf (d2 := 1) (n := 1) (as := [_]) hX.1 dX7_knit_5 lkX7_77 (fit_of hX (by omega) gmX6_hasPart) rfl rfl (by decide) rfl rfl rfl (Nat.le_of_ble_eq_true rfl) (cW_hasPart1 E g (by omega) (by omega) (by omega)) ?_
            refine k_if_eq (tgt := 33) hX.1 dX7_knit_8 (by decide) (by omega) (fun c_8 => ?_) (fun c_8 => ?_)
            · skip
              exact absurd c_8 (by decide)
            · skip
              refine k_aload_n hX.1 dX7_knit_11 rfl rfl ?_
              refine k_getr (t := 3) hX.1 dX7_knit_12 flX7_19 rfl (by decide) rfl rfl ?_
              refine k_iload_n hX.1 dX7_knit_15 rfl rfl ?_
              refine k_callVf (d2 := 1) (n := 1) (as := [_]) hX.1 dX7_knit_16 lkX7_109 (fit_of hX (by omega) gmX6_hasLot) rfl rfl (by decide) rfl rfl rfl (Nat.le_of_ble_eq_true rfl) (cW_hasLot1 E g (by omega) (by omega) (by omega)) ?_
              refine k_if_eq (tgt := 33) hX.1 dX7_knit_19 (by decide) (by omega) (fun c_19 => ?_) (fun c_19 => ?_)
              · skip
                exact absurd c_19 (by decide)
              · skip
                refine k_aload_n hX.1 dX7_knit_22 rfl rfl ?_
                refine k_getr (t := 3) hX.1 dX7_knit_23 flX7_19 rfl (by decide) rfl rfl ?_
                refine k_iload_n hX.1 dX7_knit_26 rfl rfl ?_
                refine k_callVf (d2 := 1) (n := 1) (as := [_]) hX.1 dX7_knit_27 lkX7_109 (fit_of hX (by omega) gmX6_hasLot) rfl rfl (by decide) rfl rfl rfl (Nat.le_of_ble_eq_true rfl) (cW_hasLot1 E g (by omega) (by omega) (by omega)) ?_
                refine k_if_ne (tgt := 36) hX.1 dX7_knit_30 (by decide) (by omega) (fun c_30 => ?_) (fun c_30 => ?_)
                · skip
                  refine k_aload_n hX.1 dX7_knit_36 rfl rfl ?_
                  refine k_getr (t := 3) hX.1 dX7_knit_37 flX7_19 rfl (by decide) rfl rfl ?_
                  refine k_getr (t := 4) hX.1 dX7_knit_40 flX7_89 rfl (by decide) rfl rfl ?_
                  refine k_iload_n hX.1 dX7_knit_43 rfl rfl ?_
                  refine k_aaldP (j := p) (q := 6 + p) hX.1 dX7_knit_44 rfl (by omega) (n := 5) rfl (by omega) (by omega) rfl ?_
                  refine k_callVf (d2 := 1) (n := 0) (as := []) hX.1 dX7_knit_45 lkX7_119 (fit_of hX (by omega) gmX4_isKnitted) rfl (sk_P6 (by omega)) (by decide) rfl rfl rfl (Nat.le_of_ble_eq_true rfl) (cP_isKnitted E g (p := p) (by omega) (by omega)) ?_
                  refine k_if_ne (tgt := 64) hX.1 dX7_knit_48 (by decide) (by split <;> omega) (fun c_48 => ?_) (fun c_48 => ?_)
                  · skip
                    exact absurd (if_pos (by omega)) c_48
                  · skip
                    refine k_aload_n hX.1 dX7_knit_51 rfl rfl ?_
                    refine k_getr (t := 3) hX.1 dX7_knit_52 flX7_19 rfl (by decide) rfl rfl ?_
                    refine k_iload_n hX.1 dX7_knit_55 rfl rfl ?_
                    refine k_iload_n hX.1 dX7_knit_56 rfl rfl ?_
                    refine k_iload_n hX.1 dX7_knit_57 rfl rfl ?_
                    refine k_callVf (d2 := 2) (n := 3) (as := [_, _, _]) hX.1 dX7_knit_58 lkX7_122 (fit_of hX (by omega) gmX6_canMake) rfl rfl (by decide) rfl rfl rfl (Nat.le_of_ble_eq_true rfl) (cW_canMake E hC0 hW0 (p := p) (a := a) (b := b) (by omega) (by omega) (by omega)) ?_
                    refine k_if_ne (tgt := 67) hX.1 dX7_knit_61 (by decide) (by split <;> omega) (fun c_61 => ?_) (fun c_61 => ?_)
                    · skip
                      exact absurd (if_neg h2) c_61
                    · skip
                      refine k_bipush hX.1 dX7_knit_64 (by decide) ?_
                      refine k_iret hX dX7_knit_66 rfl ?_
                      refine ⟨?_, ?_, sameM.rf g⟩
                      · congr 2
                        unfold rKnit
                        try rw [Int.toNat_natCast, Int.toNat_natCast, Int.toNat_natCast]
                        (repeat first | rw [if_pos (by omega)] | rw [if_neg (by omega)])
                      · unfold nKnit
                        try rw [Int.toNat_natCast, Int.toNat_natCast, Int.toNat_natCast]
                        (repeat first | rw [if_pos (by omega)] | rw [if_neg (by omega)])
                        exact hR
                · skip
                  exact absurd c_30 (by decide)
        · skip
          refine k_aload_n hX.1 dX7_knit_0 rfl rfl ?_
          refine k_getr (t := 3) hX.1 dX7_knit_1 flX7_19 rfl (by decide) rfl rfl ?_
          refine k_iload_n hX.1 dX7_knit_4 rfl rfl ?_
          refine k_callVf (d2 := 1) (n := 1) (as := [_]) hX.1 dX7_knit_5 lkX7_77 (fit_of hX (by omega) gmX6_hasPart) rfl rfl (by decide) rfl rfl rfl (Nat.le_of_ble_eq_true rfl) (cW_hasPart1 E g (by omega) (by omega) (by omega)) ?_
          refine k_if_eq (tgt := 33) hX.1 dX7_knit_8 (by decide) (by omega) (fun c_8 => ?_) (fun c_8 => ?_)
          · skip
            exact absurd c_8 (by decide)
          · skip
            refine k_aload_n hX.1 dX7_knit_11 rfl rfl ?_
            refine k_getr (t := 3) hX.1 dX7_knit_12 flX7_19 rfl (by decide) rfl rfl ?_
            refine k_iload_n hX.1 dX7_knit_15 rfl rfl ?_
            refine k_callVf (d2 := 1) (n := 1) (as := [_]) hX.1 dX7_knit_16 lkX7_109 (fit_of hX (by omega) gmX6_hasLot) rfl rfl (by decide) rfl rfl rfl (Nat.le_of_ble_eq_true rfl) (cW_hasLot1 E g (by omega) (by omega) (by omega)) ?_
            refine k_if_eq (tgt := 33) hX.1 dX7_knit_19 (by decide) (by omega) (fun c_19 => ?_) (fun c_19 => ?_)
            · skip
              exact absurd c_19 (by decide)
            · skip
              refine k_aload_n hX.1 dX7_knit_22 rfl rfl ?_
              refine k_getr (t := 3) hX.1 dX7_knit_23 flX7_19 rfl (by decide) rfl rfl ?_
              refine k_iload_n hX.1 dX7_knit_26 rfl rfl ?_
              refine k_callVf (d2 := 1) (n := 1) (as := [_]) hX.1 dX7_knit_27 lkX7_109 (fit_of hX (by omega) gmX6_hasLot) rfl rfl (by decide) rfl rfl rfl (Nat.le_of_ble_eq_true rfl) (cW_hasLot1 E g (by omega) (by omega) (by omega)) ?_
              refine k_if_ne (tgt := 36) hX.1 dX7_knit_30 (by decide) (by omega) (fun c_30 => ?_) (fun c_30 => ?_)
              · skip
                refine k_aload_n hX.1 dX7_knit_36 rfl rfl ?_
                refine k_getr (t := 3) hX.1 dX7_knit_37 flX7_19 rfl (by decide) rfl rfl ?_
                refine k_getr (t := 4) hX.1 dX7_knit_40 flX7_89 rfl (by decide) rfl rfl ?_
                refine k_iload_n hX.1 dX7_knit_43 rfl rfl ?_
                refine k_aaldP (j := p) (q := 6 + p) hX.1 dX7_knit_44 rfl (by omega) (n := 5) rfl (by omega) (by omega) rfl ?_
                refine k_callVf (d2 := 1) (n := 0) (as := []) hX.1 dX7_knit_45 lkX7_119 (fit_of hX (by omega) gmX4_isKnitted) rfl (sk_P6 (by omega)) (by decide) rfl rfl rfl (Nat.le_of_ble_eq_true rfl) (cP_isKnitted E g (p := p) (by omega) (by omega)) ?_
                refine k_if_ne (tgt := 64) hX.1 dX7_knit_48 (by decide) (by split <;> omega) (fun c_48 => ?_) (fun c_48 => ?_)
                · skip
                  refine k_bipush hX.1 dX7_knit_64 (by decide) ?_
                  refine k_iret hX dX7_knit_66 rfl ?_
                  refine ⟨?_, ?_, sameM.rf g⟩
                  · congr 2
                    unfold rKnit
                    try rw [Int.toNat_natCast, Int.toNat_natCast, Int.toNat_natCast]
                    (repeat first | rw [if_pos (by omega)] | rw [if_neg (by omega)])
                  · unfold nKnit
                    try rw [Int.toNat_natCast, Int.toNat_natCast, Int.toNat_natCast]
                    (repeat first | rw [if_pos (by omega)] | rw [if_neg (by omega)])
                    exact hR
                · skip
                  rw [if_neg (by omega)] at c_48; exact absurd c_48 (by decide)
              · skip
                exact absurd c_30 (by decide)
      · skip
        refine k_aload_n hX.1 dX7_knit_0 rfl rfl ?_
        refine k_getr (t := 3) hX.1 dX7_knit_1 flX7_19 rfl (by decide) rfl rfl ?_
        refine k_iload_n hX.1 dX7_knit_4 rfl rfl ?_
        refine k_callVf (d2 := 1) (n := 1) (as := [_]) hX.1 dX7_knit_5 lkX7_77 (fit_of hX (by omega) gmX6_hasPart) rfl rfl (by decide) rfl rfl rfl (Nat.le_of_ble_eq_true rfl) (cW_hasPart1 E g (by omega) (by omega) (by omega)) ?_
        refine k_if_eq (tgt := 33) hX.1 dX7_knit_8 (by decide) (by omega) (fun c_8 => ?_) (fun c_8 => ?_)
        · skip
          exact absurd c_8 (by decide)
        · skip
          refine k_aload_n hX.1 dX7_knit_11 rfl rfl ?_
          refine k_getr (t := 3) hX.1 dX7_knit_12 flX7_19 rfl (by decide) rfl rfl ?_
          refine k_iload_n hX.1 dX7_knit_15 rfl rfl ?_
          refine k_callVf (d2 := 1) (n := 1) (as := [_]) hX.1 dX7_knit_16 lkX7_109 (fit_of hX (by omega) gmX6_hasLot) rfl rfl (by decide) rfl rfl rfl (Nat.le_of_ble_eq_true rfl) (cW_hasLot1 E g (by omega) (by omega) (by omega)) ?_
          refine k_if_eq (tgt := 33) hX.1 dX7_knit_19 (by decide) (by omega) (fun c_19 => ?_) (fun c_19 => ?_)
          · skip
            exact absurd c_19 (by decide)
          · skip
            refine k_aload_n hX.1 dX7_knit_22 rfl rfl ?_
            refine k_getr (t := 3) hX.1 dX7_knit_23 flX7_19 rfl (by decide) rfl rfl ?_
            refine k_iload_n hX.1 dX7_knit_26 rfl rfl ?_
            refine k_callVf (d2 := 1) (n := 1) (as := [_]) hX.1 dX7_knit_27 lkX7_109 (fit_of hX (by omega) gmX6_hasLot) rfl rfl (by decide) rfl rfl rfl (Nat.le_of_ble_eq_true rfl) (cW_hasLot0 E g (by omega) (by omega) (by omega)) ?_
            refine k_if_ne (tgt := 36) hX.1 dX7_knit_30 (by decide) (by omega) (fun c_30 => ?_) (fun c_30 => ?_)
            · skip
              exact absurd rfl c_30
            · skip
              refine k_bipush hX.1 dX7_knit_33 (by decide) ?_
              refine k_iret hX dX7_knit_35 rfl ?_
              refine ⟨?_, ?_, sameM.rf g⟩
              · congr 2
                unfold rKnit
                (repeat first | rw [if_pos (by omega)] | rw [if_neg (by omega)])
              · unfold nKnit
                (repeat first | rw [if_pos (by omega)] | rw [if_neg (by omega)])
                exact hR
    · skip
      refine k_aload_n hX.1 dX7_knit_0 rfl rfl ?_
      refine k_getr (t := 3) hX.1 dX7_knit_1 flX7_19 rfl (by decide) rfl rfl ?_
      refine k_iload_n hX.1 dX7_knit_4 rfl rfl ?_
      refine k_callVf (d2 := 1) (n := 1) (as := [_]) hX.1 dX7_knit_5 lkX7_77 (fit_of hX (by omega) gmX6_hasPart) rfl rfl (by decide) rfl rfl rfl (Nat.le_of_ble_eq_true rfl) (cW_hasPart1 E g (by omega) (by omega) (by omega)) ?_
      refine k_if_eq (tgt := 33) hX.1 dX7_knit_8 (by decide) (by omega) (fun c_8 => ?_) (fun c_8 => ?_)
      · skip
        exact absurd c_8 (by decide)
      · skip
        refine k_aload_n hX.1 dX7_knit_11 rfl rfl ?_
        refine k_getr (t := 3) hX.1 dX7_knit_12 flX7_19 rfl (by decide) rfl rfl ?_
        refine k_iload_n hX.1 dX7_knit_15 rfl rfl ?_
        refine k_callVf (d2 := 1) (n := 1) (as := [_]) hX.1 dX7_knit_16 lkX7_109 (fit_of hX (by omega) gmX6_hasLot) rfl rfl (by decide) rfl rfl rfl (Nat.le_of_ble_eq_true rfl) (cW_hasLot0 E g (by omega) (by omega) (by omega)) ?_
        refine k_if_eq (tgt := 33) hX.1 dX7_knit_19 (by decide) (by omega) (fun c_19 => ?_) (fun c_19 => ?_)
        · skip
          refine k_bipush hX.1 dX7_knit_33 (by decide) ?_
          refine k_iret hX dX7_knit_35 rfl ?_
          refine ⟨?_, ?_, sameM.rf g⟩
          · congr 2
            unfold rKnit
            (repeat first | rw [if_pos (by omega)] | rw [if_neg (by omega)])
          · unfold nKnit
            (repeat first | rw [if_pos (by omega)] | rw [if_neg (by omega)])
            exact hR
        · skip
          exact absurd rfl c_19
  · skip
    refine k_aload_n hX.1 dX7_knit_0 rfl rfl ?_
    refine k_getr (t := 3) hX.1 dX7_knit_1 flX7_19 rfl (by decide) rfl rfl ?_
    refine k_iload_n hX.1 dX7_knit_4 rfl rfl ?_
    refine k_callVf (d2 := 1) (n := 1) (as := [_]) hX.1 dX7_knit_5 lkX7_77 (fit_of hX (by omega) gmX6_hasPart) rfl rfl (by decide) rfl rfl rfl (Nat.le_of_ble_eq_true rfl) (cW_hasPart0 E g (by omega) (by omega) (by omega)) ?_
    refine k_if_eq (tgt := 33) hX.1 dX7_knit_8 (by decide) (by omega) (fun c_8 => ?_) (fun c_8 => ?_)
    · skip
      refine k_bipush hX.1 dX7_knit_33 (by decide) ?_
      refine k_iret hX dX7_knit_35 rfl ?_
      refine ⟨?_, ?_, sameM.rf g⟩
      · congr 2
        unfold rKnit
        (repeat first | rw [if_pos (by omega)] | rw [if_neg (by omega)])
      · unfold nKnit
        (repeat first | rw [if_pos (by omega)] | rw [if_neg (by omega)])
        exact hR
    · skip
      exact absurd rfl c_8

set_option maxRecDepth 100000 in
set_option maxHeartbeats 4000000 in
theorem c7_undo (E : En) {A : St} {g : Mm} {n : Int} (hR : RC A g) (hW : Wf A n) {q : Int} (hq : bd q) : Ok E 5 mX7_undo [vR 0, vI q] g (fun r g' => r = some (vI (rUndo A q)) ∧ RC (nUndo A q) g' ∧ sameM g g') := by
  have hC0 := hR.1
  have hW0 := hW.1
  obtain ⟨⟨⟨hc1, hc2, hc3⟩, hcp, hcl⟩, ⟨hg1, hg2⟩, ⟨ht1, ht2, ht3⟩, hck, hcb⟩ := id hR
  obtain ⟨⟨⟨hw1, hw2, hw3, hw4, hw5, hw6, hw7, hw8⟩, hwp, hwl⟩, ⟨hq1, hq2, hq3⟩, ⟨hz1, ⟨hz2, hz3⟩, ⟨hz4, hz5⟩⟩, hwk⟩ := id hW
  refine Ok_of gmX7_undo (by omega) (Nat.le_of_ble_eq_true rfl) (fun X hX => ?_)
  show V E X 0 [some (vR 0), some (vI q)] [] g
  by_cases i1 : 0 ≤ q ∧ q < A 12 0
  · skip
    obtain ⟨p, rfl⟩ : ∃ m : Nat, q = (m : Int) := ⟨q.toNat, by omega⟩
    obtain ⟨e0, e1, e2, e3, e4, e5, e6, e7⟩ := hcp (p) (by omega)
    obtain ⟨⟨ek1, ek2⟩, ⟨er1, er2⟩, ew2, ew3, ew4, ew5, ew6, ew7⟩ := hwp (p) (by omega)
    by_cases h1 : A 2 p = -1
    · skip
      refine k_aload_n hX.1 dX7_undo_0 rfl rfl ?_
      refine k_getr (t := 3) hX.1 dX7_undo_1 flX7_19 rfl (by decide) rfl rfl ?_
      refine k_iload_n hX.1 dX7_undo_4 rfl rfl ?_
      refine k_callVf (d2 := 1) (n := 1) (as := [_]) hX.1 dX7_undo_5 lkX7_77 (fit_of hX (by omega) gmX6_hasPart) rfl rfl (by decide) rfl rfl rfl (Nat.le_of_ble_eq_true rfl) (cW_hasPart1 E g (by omega) (by omega) (by omega)) ?_
      refine k_if_ne (tgt := 14) hX.1 dX7_undo_8 (by decide) (by omega) (fun c_8 => ?_) (fun c_8 => ?_)
      · skip
        refine k_aload_n hX.1 dX7_undo_14 rfl rfl ?_
        refine k_getr (t := 3) hX.1 dX7_undo_15 flX7_19 rfl (by decide) rfl rfl ?_
        refine k_getr (t := 4) hX.1 dX7_undo_18 flX7_89 rfl (by decide) rfl rfl ?_
        refine k_iload_n hX.1 dX7_undo_21 rfl rfl ?_
        refine k_aaldP (j := p) (q := 6 + p) hX.1 dX7_undo_22 rfl (by omega) (n := 5) rfl (by omega) (by omega) rfl ?_
        refine k_callVf (d2 := 1) (n := 0) (as := []) hX.1 dX7_undo_23 lkX7_119 (fit_of hX (by omega) gmX4_isKnitted) rfl (sk_P6 (by omega)) (by decide) rfl rfl rfl (Nat.le_of_ble_eq_true rfl) (cP_isKnitted E g (p := p) (by omega) (by omega)) ?_
        refine k_if_ne (tgt := 32) hX.1 dX7_undo_26 (by decide) (by split <;> omega) (fun c_26 => ?_) (fun c_26 => ?_)
        · skip
          exact absurd (if_pos (by omega)) c_26
        · skip
          refine k_bipush hX.1 dX7_undo_29 (by decide) ?_
          refine k_iret hX dX7_undo_31 rfl ?_
          refine ⟨?_, ?_, sameM.rf g⟩
          · congr 2
            unfold rUndo
            try rw [Int.toNat_natCast]
            (repeat first | rw [if_pos (by omega)] | rw [if_neg (by omega)])
          · unfold nUndo
            try rw [Int.toNat_natCast]
            (repeat first | rw [if_pos (by omega)] | rw [if_neg (by omega)])
            exact hR
      · skip
        exact absurd c_8 (by decide)
    · skip
      refine k_aload_n hX.1 dX7_undo_0 rfl rfl ?_
      refine k_getr (t := 3) hX.1 dX7_undo_1 flX7_19 rfl (by decide) rfl rfl ?_
      refine k_iload_n hX.1 dX7_undo_4 rfl rfl ?_
      refine k_callVf (d2 := 1) (n := 1) (as := [_]) hX.1 dX7_undo_5 lkX7_77 (fit_of hX (by omega) gmX6_hasPart) rfl rfl (by decide) rfl rfl rfl (Nat.le_of_ble_eq_true rfl) (cW_hasPart1 E g (by omega) (by omega) (by omega)) ?_
      refine k_if_ne (tgt := 14) hX.1 dX7_undo_8 (by decide) (by omega) (fun c_8 => ?_) (fun c_8 => ?_)
      · skip
        refine k_aload_n hX.1 dX7_undo_14 rfl rfl ?_
        refine k_getr (t := 3) hX.1 dX7_undo_15 flX7_19 rfl (by decide) rfl rfl ?_
        refine k_getr (t := 4) hX.1 dX7_undo_18 flX7_89 rfl (by decide) rfl rfl ?_
        refine k_iload_n hX.1 dX7_undo_21 rfl rfl ?_
        refine k_aaldP (j := p) (q := 6 + p) hX.1 dX7_undo_22 rfl (by omega) (n := 5) rfl (by omega) (by omega) rfl ?_
        refine k_callVf (d2 := 1) (n := 0) (as := []) hX.1 dX7_undo_23 lkX7_119 (fit_of hX (by omega) gmX4_isKnitted) rfl (sk_P6 (by omega)) (by decide) rfl rfl rfl (Nat.le_of_ble_eq_true rfl) (cP_isKnitted E g (p := p) (by omega) (by omega)) ?_
        refine k_if_ne (tgt := 32) hX.1 dX7_undo_26 (by decide) (by split <;> omega) (fun c_26 => ?_) (fun c_26 => ?_)
        · skip
          refine k_aload_n hX.1 dX7_undo_32 rfl rfl ?_
          refine k_getr (t := 3) hX.1 dX7_undo_33 flX7_19 rfl (by decide) rfl rfl ?_
          refine k_iload_n hX.1 dX7_undo_36 rfl rfl ?_
          refine k_callV (d2 := 2) (n := 1) (as := [_]) hX.1 dX7_undo_37 lkX7_133 (fit_of hX (by omega) gmX6_unravel) rfl rfl (by decide) rfl rfl rfl (Nat.le_of_ble_eq_true rfl) (cW_unravel E hR hW (p := p) (by omega) h1) (fun r_37 g_37 q_37 => ?_)
          obtain ⟨rfl, hR2, hS2⟩ := q_37
          show V E X 40 _ (vI _ :: _) _
          refine k_iret hX dX7_undo_40 rfl ?_
          refine ⟨?_, ?_, hS2⟩
          · congr 2
            unfold rUndo
            rw [Int.toNat_natCast]
            (repeat first | rw [if_pos (by omega)] | rw [if_neg (by omega)])
          · unfold nUndo
            rw [Int.toNat_natCast]
            (repeat first | rw [if_pos (by omega)] | rw [if_neg (by omega)])
            exact hR2
        · skip
          rw [if_neg (by omega)] at c_26; exact absurd c_26 (by decide)
      · skip
        exact absurd c_8 (by decide)
  · skip
    refine k_aload_n hX.1 dX7_undo_0 rfl rfl ?_
    refine k_getr (t := 3) hX.1 dX7_undo_1 flX7_19 rfl (by decide) rfl rfl ?_
    refine k_iload_n hX.1 dX7_undo_4 rfl rfl ?_
    refine k_callVf (d2 := 1) (n := 1) (as := [_]) hX.1 dX7_undo_5 lkX7_77 (fit_of hX (by omega) gmX6_hasPart) rfl rfl (by decide) rfl rfl rfl (Nat.le_of_ble_eq_true rfl) (cW_hasPart0 E g (by omega) (by omega) (by omega)) ?_
    refine k_if_ne (tgt := 14) hX.1 dX7_undo_8 (by decide) (by omega) (fun c_8 => ?_) (fun c_8 => ?_)
    · skip
      exact absurd rfl c_8
    · skip
      refine k_bipush hX.1 dX7_undo_11 (by decide) ?_
      refine k_iret hX dX7_undo_13 rfl ?_
      refine ⟨?_, ?_, sameM.rf g⟩
      · congr 2
        unfold rUndo
        (repeat first | rw [if_pos (by omega)] | rw [if_neg (by omega)])
      · unfold nUndo
        (repeat first | rw [if_pos (by omega)] | rw [if_neg (by omega)])
        exact hR
end
