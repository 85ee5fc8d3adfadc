section
-- ===== PART A: goes FIRST, ahead of the names: the tables' words, and 'selects' of the private methods out of them =====
/-- a private method of a class that the tables say can be made, by its rows of tables_1 -/
def lw_okq (q : MethodName × Nat) : Prop := (q.1.cls ≠ "java/lang/invoke/MethodHandle" ∧ q.1.cls ≠ "java/lang/invoke/VarHandle") ∧ Cond.instantiable q.1.cls q.2 ∈ tables_1 ∧ Cond.privateMethod q.1 ∈ tables_1 ∧ Cond.instanceMethod q.1 ∈ tables_1
theorem lw_p0 : lw_okq (⟨"PaidInLeaves", "refuse", "(I)I"⟩, 8) := ⟨⟨by decide +kernel, by decide +kernel⟩, List.mem_of_getElem? (i := 18) (by decide +kernel), List.mem_of_getElem? (i := 262) (by decide +kernel), List.mem_of_getElem? (i := 263) (by decide +kernel)⟩
theorem lw_p1 : lw_okq (⟨"PaidInLeaves", "rowTrouble", "(I)I"⟩, 8) := ⟨⟨by decide +kernel, by decide +kernel⟩, List.mem_of_getElem? (i := 18) (by decide +kernel), List.mem_of_getElem? (i := 277) (by decide +kernel), List.mem_of_getElem? (i := 278) (by decide +kernel)⟩
theorem lw_p2 : lw_okq (⟨"PaidInLeaves", "isShop", "(I)Z"⟩, 8) := ⟨⟨by decide +kernel, by decide +kernel⟩, List.mem_of_getElem? (i := 18) (by decide +kernel), List.mem_of_getElem? (i := 312) (by decide +kernel), List.mem_of_getElem? (i := 313) (by decide +kernel)⟩
theorem lw_p3 : lw_okq (⟨"PaidInLeaves", "isChild", "(I)Z"⟩, 8) := ⟨⟨by decide +kernel, by decide +kernel⟩, List.mem_of_getElem? (i := 18) (by decide +kernel), List.mem_of_getElem? (i := 386) (by decide +kernel), List.mem_of_getElem? (i := 387) (by decide +kernel)⟩
theorem lw_p4 : lw_okq (⟨"PaidInLeaves", "foresee", "(II)I"⟩, 8) := ⟨⟨by decide +kernel, by decide +kernel⟩, List.mem_of_getElem? (i := 18) (by decide +kernel), List.mem_of_getElem? (i := 598) (by decide +kernel), List.mem_of_getElem? (i := 599) (by decide +kernel)⟩
theorem lw_p5 : lw_okq (⟨"PaidInLeaves", "settledBehind", "(I)I"⟩, 8) := ⟨⟨by decide +kernel, by decide +kernel⟩, List.mem_of_getElem? (i := 18) (by decide +kernel), List.mem_of_getElem? (i := 642) (by decide +kernel), List.mem_of_getElem? (i := 643) (by decide +kernel)⟩
theorem lw_p6 : lw_okq (⟨"PaidInLeaves", "stoppedFrom", "(I)I"⟩, 8) := ⟨⟨by decide +kernel, by decide +kernel⟩, List.mem_of_getElem? (i := 18) (by decide +kernel), List.mem_of_getElem? (i := 650) (by decide +kernel), List.mem_of_getElem? (i := 651) (by decide +kernel)⟩
theorem lw_p7 : lw_okq (⟨"PaidInLeaves", "bestWay", "(I)I"⟩, 8) := ⟨⟨by decide +kernel, by decide +kernel⟩, List.mem_of_getElem? (i := 18) (by decide +kernel), List.mem_of_getElem? (i := 674) (by decide +kernel), List.mem_of_getElem? (i := 675) (by decide +kernel)⟩
theorem lw_p8 : lw_okq (⟨"PaidInLeaves", "dealsOfWay", "(II)I"⟩, 8) := ⟨⟨by decide +kernel, by decide +kernel⟩, List.mem_of_getElem? (i := 18) (by decide +kernel), List.mem_of_getElem? (i := 678) (by decide +kernel), List.mem_of_getElem? (i := 679) (by decide +kernel)⟩
theorem lw_p9 : lw_okq (⟨"PaidInLeaves", "keeperIn", "(III)I"⟩, 8) := ⟨⟨by decide +kernel, by decide +kernel⟩, List.mem_of_getElem? (i := 18) (by decide +kernel), List.mem_of_getElem? (i := 682) (by decide +kernel), List.mem_of_getElem? (i := 683) (by decide +kernel)⟩
theorem lw_p10 : lw_okq (⟨"PaidInLeaves", "toldTrouble", "(II)I"⟩, 8) := ⟨⟨by decide +kernel, by decide +kernel⟩, List.mem_of_getElem? (i := 18) (by decide +kernel), List.mem_of_getElem? (i := 715) (by decide +kernel), List.mem_of_getElem? (i := 716) (by decide +kernel)⟩
theorem lw_p11 : lw_okq (⟨"PaidInLeaves", "wrongDeed", "(II)I"⟩, 8) := ⟨⟨by decide +kernel, by decide +kernel⟩, List.mem_of_getElem? (i := 18) (by decide +kernel), List.mem_of_getElem? (i := 719) (by decide +kernel), List.mem_of_getElem? (i := 720) (by decide +kernel)⟩
theorem lw_p12 : lw_okq (⟨"PaidInLeavesModel", "isShelf", "(I)Z"⟩, 48) := ⟨⟨by decide +kernel, by decide +kernel⟩, List.mem_of_getElem? (i := 794) (by decide +kernel), List.mem_of_getElem? (i := 949) (by decide +kernel), List.mem_of_getElem? (i := 950) (by decide +kernel)⟩
theorem lw_p13 : lw_okq (⟨"PaidInLeavesModel", "no", "(I)I"⟩, 48) := ⟨⟨by decide +kernel, by decide +kernel⟩, List.mem_of_getElem? (i := 794) (by decide +kernel), List.mem_of_getElem? (i := 953) (by decide +kernel), List.mem_of_getElem? (i := 954) (by decide +kernel)⟩
theorem lw_p14 : lw_okq (⟨"PaidInLeavesModel", "isShop", "(I)Z"⟩, 48) := ⟨⟨by decide +kernel, by decide +kernel⟩, List.mem_of_getElem? (i := 794) (by decide +kernel), List.mem_of_getElem? (i := 973) (by decide +kernel), List.mem_of_getElem? (i := 974) (by decide +kernel)⟩
theorem lw_p15 : lw_okq (⟨"PaidInLeavesModel", "asked", "(I)I"⟩, 48) := ⟨⟨by decide +kernel, by decide +kernel⟩, List.mem_of_getElem? (i := 794) (by decide +kernel), List.mem_of_getElem? (i := 985) (by decide +kernel), List.mem_of_getElem? (i := 986) (by decide +kernel)⟩
def lw_privs_1 : List (MethodName × Nat) := [(⟨"PaidInLeaves", "refuse", "(I)I"⟩, 8), (⟨"PaidInLeaves", "rowTrouble", "(I)I"⟩, 8), (⟨"PaidInLeaves", "isShop", "(I)Z"⟩, 8), (⟨"PaidInLeaves", "isChild", "(I)Z"⟩, 8), (⟨"PaidInLeaves", "foresee", "(II)I"⟩, 8), (⟨"PaidInLeaves", "settledBehind", "(I)I"⟩, 8), (⟨"PaidInLeaves", "stoppedFrom", "(I)I"⟩, 8), (⟨"PaidInLeaves", "bestWay", "(I)I"⟩, 8), (⟨"PaidInLeaves", "dealsOfWay", "(II)I"⟩, 8), (⟨"PaidInLeaves", "keeperIn", "(III)I"⟩, 8), (⟨"PaidInLeaves", "toldTrouble", "(II)I"⟩, 8), (⟨"PaidInLeaves", "wrongDeed", "(II)I"⟩, 8), (⟨"PaidInLeavesModel", "isShelf", "(I)Z"⟩, 48), (⟨"PaidInLeavesModel", "no", "(I)I"⟩, 48), (⟨"PaidInLeavesModel", "isShop", "(I)Z"⟩, 48), (⟨"PaidInLeavesModel", "asked", "(I)I"⟩, 48)]
theorem lw_r1 : ∀ q ∈ lw_privs_1, lw_okq q := List.forall_mem_cons.mpr ⟨lw_p0, List.forall_mem_cons.mpr ⟨lw_p1, List.forall_mem_cons.mpr ⟨lw_p2, List.forall_mem_cons.mpr ⟨lw_p3, List.forall_mem_cons.mpr ⟨lw_p4, List.forall_mem_cons.mpr ⟨lw_p5, List.forall_mem_cons.mpr ⟨lw_p6, List.forall_mem_cons.mpr ⟨lw_p7, List.forall_mem_cons.mpr ⟨lw_p8, List.forall_mem_cons.mpr ⟨lw_p9, List.forall_mem_cons.mpr ⟨lw_p10, List.forall_mem_cons.mpr ⟨lw_p11, List.forall_mem_cons.mpr ⟨lw_p12, List.forall_mem_cons.mpr ⟨lw_p13, List.forall_mem_cons.mpr ⟨lw_p14, List.forall_mem_cons.mpr ⟨lw_p15, fun _ h => absurd h List.not_mem_nil⟩⟩⟩⟩⟩⟩⟩⟩⟩⟩⟩⟩⟩⟩⟩⟩
theorem lw_p16 : lw_okq (⟨"PaidInLeavesModel", "addsShop", "(III)I"⟩, 48) := ⟨⟨by decide +kernel, by decide +kernel⟩, List.mem_of_getElem? (i := 794) (by decide +kernel), List.mem_of_getElem? (i := 994) (by decide +kernel), List.mem_of_getElem? (i := 995) (by decide +kernel)⟩
theorem lw_p17 : lw_okq (⟨"PaidInLeavesModel", "addsChild", "(II)I"⟩, 48) := ⟨⟨by decide +kernel, by decide +kernel⟩, List.mem_of_getElem? (i := 794) (by decide +kernel), List.mem_of_getElem? (i := 1002) (by decide +kernel), List.mem_of_getElem? (i := 1003) (by decide +kernel)⟩
theorem lw_p18 : lw_okq (⟨"PaidInLeavesModel", "isChild", "(I)Z"⟩, 48) := ⟨⟨by decide +kernel, by decide +kernel⟩, List.mem_of_getElem? (i := 794) (by decide +kernel), List.mem_of_getElem? (i := 1014) (by decide +kernel), List.mem_of_getElem? (i := 1015) (by decide +kernel)⟩
theorem lw_p19 : lw_okq (⟨"PaidInLeavesModel", "noTen", "(I)I"⟩, 48) := ⟨⟨by decide +kernel, by decide +kernel⟩, List.mem_of_getElem? (i := 794) (by decide +kernel), List.mem_of_getElem? (i := 1026) (by decide +kernel), List.mem_of_getElem? (i := 1027) (by decide +kernel)⟩
theorem lw_p20 : lw_okq (⟨"PaidInLeavesModel", "wanted", "(I)I"⟩, 48) := ⟨⟨by decide +kernel, by decide +kernel⟩, List.mem_of_getElem? (i := 794) (by decide +kernel), List.mem_of_getElem? (i := 1038) (by decide +kernel), List.mem_of_getElem? (i := 1039) (by decide +kernel)⟩
theorem lw_p21 : lw_okq (⟨"PaidInLeavesModel", "all", "([IZ)V"⟩, 48) := ⟨⟨by decide +kernel, by decide +kernel⟩, List.mem_of_getElem? (i := 794) (by decide +kernel), List.mem_of_getElem? (i := 1042) (by decide +kernel), List.mem_of_getElem? (i := 1043) (by decide +kernel)⟩
theorem lw_p22 : lw_okq (⟨"PaidInLeavesModel", "carries", "([I[IIZ)I"⟩, 48) := ⟨⟨by decide +kernel, by decide +kernel⟩, List.mem_of_getElem? (i := 794) (by decide +kernel), List.mem_of_getElem? (i := 1046) (by decide +kernel), List.mem_of_getElem? (i := 1047) (by decide +kernel)⟩
theorem lw_p23 : lw_okq (⟨"PaidInLeavesModel", "item", "()Z"⟩, 48) := ⟨⟨by decide +kernel, by decide +kernel⟩, List.mem_of_getElem? (i := 794) (by decide +kernel), List.mem_of_getElem? (i := 1050) (by decide +kernel), List.mem_of_getElem? (i := 1051) (by decide +kernel)⟩
theorem lw_p24 : lw_okq (⟨"PaidInLeavesModel", "stands", "(I)Z"⟩, 48) := ⟨⟨by decide +kernel, by decide +kernel⟩, List.mem_of_getElem? (i := 794) (by decide +kernel), List.mem_of_getElem? (i := 1054) (by decide +kernel), List.mem_of_getElem? (i := 1055) (by decide +kernel)⟩
theorem lw_p25 : lw_okq (⟨"PaidInLeavesModel", "wrong", "(I)Z"⟩, 48) := ⟨⟨by decide +kernel, by decide +kernel⟩, List.mem_of_getElem? (i := 794) (by decide +kernel), List.mem_of_getElem? (i := 1058) (by decide +kernel), List.mem_of_getElem? (i := 1059) (by decide +kernel)⟩
theorem lw_p26 : lw_okq (⟨"PaidInLeavesModel", "word", "()I"⟩, 48) := ⟨⟨by decide +kernel, by decide +kernel⟩, List.mem_of_getElem? (i := 794) (by decide +kernel), List.mem_of_getElem? (i := 1062) (by decide +kernel), List.mem_of_getElem? (i := 1063) (by decide +kernel)⟩
theorem lw_p27 : lw_okq (⟨"PaidInLeavesModel", "reads", "()Z"⟩, 48) := ⟨⟨by decide +kernel, by decide +kernel⟩, List.mem_of_getElem? (i := 794) (by decide +kernel), List.mem_of_getElem? (i := 1066) (by decide +kernel), List.mem_of_getElem? (i := 1067) (by decide +kernel)⟩
theorem lw_p28 : lw_okq (⟨"PaidInLeavesModel", "isDigit", "()Z"⟩, 48) := ⟨⟨by decide +kernel, by decide +kernel⟩, List.mem_of_getElem? (i := 794) (by decide +kernel), List.mem_of_getElem? (i := 1070) (by decide +kernel), List.mem_of_getElem? (i := 1071) (by decide +kernel)⟩
theorem lw_p29 : lw_okq (⟨"PaidInLeavesModel", "isSo", "(II)Z"⟩, 48) := ⟨⟨by decide +kernel, by decide +kernel⟩, List.mem_of_getElem? (i := 794) (by decide +kernel), List.mem_of_getElem? (i := 1074) (by decide +kernel), List.mem_of_getElem? (i := 1075) (by decide +kernel)⟩
theorem lw_p30 : lw_okq (⟨"PaidInLeavesModel", "mayBe", "(II)Z"⟩, 48) := ⟨⟨by decide +kernel, by decide +kernel⟩, List.mem_of_getElem? (i := 794) (by decide +kernel), List.mem_of_getElem? (i := 1078) (by decide +kernel), List.mem_of_getElem? (i := 1079) (by decide +kernel)⟩
theorem lw_p31 : lw_okq (⟨"PaidInLeavesModel", "mayBuy", "(II)Z"⟩, 48) := ⟨⟨by decide +kernel, by decide +kernel⟩, List.mem_of_getElem? (i := 794) (by decide +kernel), List.mem_of_getElem? (i := 1082) (by decide +kernel), List.mem_of_getElem? (i := 1083) (by decide +kernel)⟩
def lw_privs_2 : List (MethodName × Nat) := [(⟨"PaidInLeavesModel", "addsShop", "(III)I"⟩, 48), (⟨"PaidInLeavesModel", "addsChild", "(II)I"⟩, 48), (⟨"PaidInLeavesModel", "isChild", "(I)Z"⟩, 48), (⟨"PaidInLeavesModel", "noTen", "(I)I"⟩, 48), (⟨"PaidInLeavesModel", "wanted", "(I)I"⟩, 48), (⟨"PaidInLeavesModel", "all", "([IZ)V"⟩, 48), (⟨"PaidInLeavesModel", "carries", "([I[IIZ)I"⟩, 48), (⟨"PaidInLeavesModel", "item", "()Z"⟩, 48), (⟨"PaidInLeavesModel", "stands", "(I)Z"⟩, 48), (⟨"PaidInLeavesModel", "wrong", "(I)Z"⟩, 48), (⟨"PaidInLeavesModel", "word", "()I"⟩, 48), (⟨"PaidInLeavesModel", "reads", "()Z"⟩, 48), (⟨"PaidInLeavesModel", "isDigit", "()Z"⟩, 48), (⟨"PaidInLeavesModel", "isSo", "(II)Z"⟩, 48), (⟨"PaidInLeavesModel", "mayBe", "(II)Z"⟩, 48), (⟨"PaidInLeavesModel", "mayBuy", "(II)Z"⟩, 48)]
theorem lw_r2 : ∀ q ∈ lw_privs_2, lw_okq q := List.forall_mem_cons.mpr ⟨lw_p16, List.forall_mem_cons.mpr ⟨lw_p17, List.forall_mem_cons.mpr ⟨lw_p18, List.forall_mem_cons.mpr ⟨lw_p19, List.forall_mem_cons.mpr ⟨lw_p20, List.forall_mem_cons.mpr ⟨lw_p21, List.forall_mem_cons.mpr ⟨lw_p22, List.forall_mem_cons.mpr ⟨lw_p23, List.forall_mem_cons.mpr ⟨lw_p24, List.forall_mem_cons.mpr ⟨lw_p25, List.forall_mem_cons.mpr ⟨lw_p26, List.forall_mem_cons.mpr ⟨lw_p27, List.forall_mem_cons.mpr ⟨lw_p28, List.forall_mem_cons.mpr ⟨lw_p29, List.forall_mem_cons.mpr ⟨lw_p30, List.forall_mem_cons.mpr ⟨lw_p31, fun _ h => absurd h List.not_mem_nil⟩⟩⟩⟩⟩⟩⟩⟩⟩⟩⟩⟩⟩⟩⟩⟩
theorem lw_p32 : lw_okq (⟨"PaidInLeavesModel", "isForStamps", "(I)Z"⟩, 48) := ⟨⟨by decide +kernel, by decide +kernel⟩, List.mem_of_getElem? (i := 794) (by decide +kernel), List.mem_of_getElem? (i := 1086) (by decide +kernel), List.mem_of_getElem? (i := 1087) (by decide +kernel)⟩
theorem lw_p33 : lw_okq (⟨"PaidInLeavesModel", "makes", "(II)V"⟩, 48) := ⟨⟨by decide +kernel, by decide +kernel⟩, List.mem_of_getElem? (i := 794) (by decide +kernel), List.mem_of_getElem? (i := 1090) (by decide +kernel), List.mem_of_getElem? (i := 1091) (by decide +kernel)⟩
theorem lw_p34 : lw_okq (⟨"PaidInLeavesModel", "full", "(I)I"⟩, 48) := ⟨⟨by decide +kernel, by decide +kernel⟩, List.mem_of_getElem? (i := 794) (by decide +kernel), List.mem_of_getElem? (i := 1094) (by decide +kernel), List.mem_of_getElem? (i := 1095) (by decide +kernel)⟩
theorem lw_p35 : lw_okq (⟨"PaidInLeavesModel", "buys", "(II)V"⟩, 48) := ⟨⟨by decide +kernel, by decide +kernel⟩, List.mem_of_getElem? (i := 794) (by decide +kernel), List.mem_of_getElem? (i := 1098) (by decide +kernel), List.mem_of_getElem? (i := 1099) (by decide +kernel)⟩
theorem lw_p36 : lw_okq (⟨"PaidInLeavesModel", "rots", "()I"⟩, 48) := ⟨⟨by decide +kernel, by decide +kernel⟩, List.mem_of_getElem? (i := 794) (by decide +kernel), List.mem_of_getElem? (i := 1102) (by decide +kernel), List.mem_of_getElem? (i := 1103) (by decide +kernel)⟩
theorem lw_p37 : lw_okq (⟨"PaidInLeavesModel", "isAfternoon", "(II)Z"⟩, 48) := ⟨⟨by decide +kernel, by decide +kernel⟩, List.mem_of_getElem? (i := 794) (by decide +kernel), List.mem_of_getElem? (i := 1118) (by decide +kernel), List.mem_of_getElem? (i := 1119) (by decide +kernel)⟩
theorem lw_p38 : lw_okq (⟨"PaidInLeavesModel", "isRule", "(I)Z"⟩, 48) := ⟨⟨by decide +kernel, by decide +kernel⟩, List.mem_of_getElem? (i := 794) (by decide +kernel), List.mem_of_getElem? (i := 1122) (by decide +kernel), List.mem_of_getElem? (i := 1123) (by decide +kernel)⟩
theorem lw_p39 : lw_okq (⟨"PaidInLeavesModel", "tries", "(II)V"⟩, 48) := ⟨⟨by decide +kernel, by decide +kernel⟩, List.mem_of_getElem? (i := 794) (by decide +kernel), List.mem_of_getElem? (i := 1126) (by decide +kernel), List.mem_of_getElem? (i := 1127) (by decide +kernel)⟩
theorem lw_p40 : lw_okq (⟨"PaidInLeavesModel", "livesOn", "(II)V"⟩, 48) := ⟨⟨by decide +kernel, by decide +kernel⟩, List.mem_of_getElem? (i := 794) (by decide +kernel), List.mem_of_getElem? (i := 1130) (by decide +kernel), List.mem_of_getElem? (i := 1131) (by decide +kernel)⟩
theorem lw_p41 : lw_okq (⟨"PaidInLeavesModel", "lives", "(I)V"⟩, 48) := ⟨⟨by decide +kernel, by decide +kernel⟩, List.mem_of_getElem? (i := 794) (by decide +kernel), List.mem_of_getElem? (i := 1134) (by decide +kernel), List.mem_of_getElem? (i := 1135) (by decide +kernel)⟩
theorem lw_p42 : lw_okq (⟨"PaidInLeavesModel", "begins", "()V"⟩, 48) := ⟨⟨by decide +kernel, by decide +kernel⟩, List.mem_of_getElem? (i := 794) (by decide +kernel), List.mem_of_getElem? (i := 1138) (by decide +kernel), List.mem_of_getElem? (i := 1139) (by decide +kernel)⟩
theorem lw_p43 : lw_okq (⟨"PaidInLeavesModel", "ruled", "(II)I"⟩, 48) := ⟨⟨by decide +kernel, by decide +kernel⟩, List.mem_of_getElem? (i := 794) (by decide +kernel), List.mem_of_getElem? (i := 1142) (by decide +kernel), List.mem_of_getElem? (i := 1143) (by decide +kernel)⟩
theorem lw_p44 : lw_okq (⟨"PaidInLeavesModel", "greed", "(II)I"⟩, 48) := ⟨⟨by decide +kernel, by decide +kernel⟩, List.mem_of_getElem? (i := 794) (by decide +kernel), List.mem_of_getElem? (i := 1146) (by decide +kernel), List.mem_of_getElem? (i := 1147) (by decide +kernel)⟩
theorem lw_p45 : lw_okq (⟨"PaidInLeavesModel", "ends", "()V"⟩, 48) := ⟨⟨by decide +kernel, by decide +kernel⟩, List.mem_of_getElem? (i := 794) (by decide +kernel), List.mem_of_getElem? (i := 1150) (by decide +kernel), List.mem_of_getElem? (i := 1151) (by decide +kernel)⟩
theorem lw_p46 : lw_okq (⟨"PaidInLeavesModel", "takesBack", "()V"⟩, 48) := ⟨⟨by decide +kernel, by decide +kernel⟩, List.mem_of_getElem? (i := 794) (by decide +kernel), List.mem_of_getElem? (i := 1154) (by decide +kernel), List.mem_of_getElem? (i := 1155) (by decide +kernel)⟩
theorem lw_p47 : lw_okq (⟨"PaidInLeavesModel", "askedBehind", "(III)I"⟩, 48) := ⟨⟨by decide +kernel, by decide +kernel⟩, List.mem_of_getElem? (i := 794) (by decide +kernel), List.mem_of_getElem? (i := 1162) (by decide +kernel), List.mem_of_getElem? (i := 1163) (by decide +kernel)⟩
def lw_privs_3 : List (MethodName × Nat) := [(⟨"PaidInLeavesModel", "isForStamps", "(I)Z"⟩, 48), (⟨"PaidInLeavesModel", "makes", "(II)V"⟩, 48), (⟨"PaidInLeavesModel", "full", "(I)I"⟩, 48), (⟨"PaidInLeavesModel", "buys", "(II)V"⟩, 48), (⟨"PaidInLeavesModel", "rots", "()I"⟩, 48), (⟨"PaidInLeavesModel", "isAfternoon", "(II)Z"⟩, 48), (⟨"PaidInLeavesModel", "isRule", "(I)Z"⟩, 48), (⟨"PaidInLeavesModel", "tries", "(II)V"⟩, 48), (⟨"PaidInLeavesModel", "livesOn", "(II)V"⟩, 48), (⟨"PaidInLeavesModel", "lives", "(I)V"⟩, 48), (⟨"PaidInLeavesModel", "begins", "()V"⟩, 48), (⟨"PaidInLeavesModel", "ruled", "(II)I"⟩, 48), (⟨"PaidInLeavesModel", "greed", "(II)I"⟩, 48), (⟨"PaidInLeavesModel", "ends", "()V"⟩, 48), (⟨"PaidInLeavesModel", "takesBack", "()V"⟩, 48), (⟨"PaidInLeavesModel", "askedBehind", "(III)I"⟩, 48)]
theorem lw_r3 : ∀ q ∈ lw_privs_3, lw_okq q := List.forall_mem_cons.mpr ⟨lw_p32, List.forall_mem_cons.mpr ⟨lw_p33, List.forall_mem_cons.mpr ⟨lw_p34, List.forall_mem_cons.mpr ⟨lw_p35, List.forall_mem_cons.mpr ⟨lw_p36, List.forall_mem_cons.mpr ⟨lw_p37, List.forall_mem_cons.mpr ⟨lw_p38, List.forall_mem_cons.mpr ⟨lw_p39, List.forall_mem_cons.mpr ⟨lw_p40, List.forall_mem_cons.mpr ⟨lw_p41, List.forall_mem_cons.mpr ⟨lw_p42, List.forall_mem_cons.mpr ⟨lw_p43, List.forall_mem_cons.mpr ⟨lw_p44, List.forall_mem_cons.mpr ⟨lw_p45, List.forall_mem_cons.mpr ⟨lw_p46, List.forall_mem_cons.mpr ⟨lw_p47, fun _ h => absurd h List.not_mem_nil⟩⟩⟩⟩⟩⟩⟩⟩⟩⟩⟩⟩⟩⟩⟩⟩
theorem lw_p48 : lw_okq (⟨"PaidInLeavesModel", "changes", "()Z"⟩, 48) := ⟨⟨by decide +kernel, by decide +kernel⟩, List.mem_of_getElem? (i := 794) (by decide +kernel), List.mem_of_getElem? (i := 1178) (by decide +kernel), List.mem_of_getElem? (i := 1179) (by decide +kernel)⟩
theorem lw_p49 : lw_okq (⟨"PaidInLeavesModel", "dealsIn", "(II)I"⟩, 48) := ⟨⟨by decide +kernel, by decide +kernel⟩, List.mem_of_getElem? (i := 794) (by decide +kernel), List.mem_of_getElem? (i := 1194) (by decide +kernel), List.mem_of_getElem? (i := 1195) (by decide +kernel)⟩
theorem lw_p50 : lw_okq (⟨"PaidInLeavesModel", "gives", "(III)V"⟩, 48) := ⟨⟨by decide +kernel, by decide +kernel⟩, List.mem_of_getElem? (i := 794) (by decide +kernel), List.mem_of_getElem? (i := 1206) (by decide +kernel), List.mem_of_getElem? (i := 1207) (by decide +kernel)⟩
theorem lw_p51 : lw_okq (⟨"PaidInLeavesModel", "barsOf", "(II)I"⟩, 48) := ⟨⟨by decide +kernel, by decide +kernel⟩, List.mem_of_getElem? (i := 794) (by decide +kernel), List.mem_of_getElem? (i := 1230) (by decide +kernel), List.mem_of_getElem? (i := 1231) (by decide +kernel)⟩
theorem lw_p52 : lw_okq (⟨"PaidInLeavesModel", "wrongIn", "(II)I"⟩, 48) := ⟨⟨by decide +kernel, by decide +kernel⟩, List.mem_of_getElem? (i := 794) (by decide +kernel), List.mem_of_getElem? (i := 1234) (by decide +kernel), List.mem_of_getElem? (i := 1235) (by decide +kernel)⟩
theorem lw_p53 : lw_okq (⟨"PaidInLeavesModel", "intAt", "(II)I"⟩, 48) := ⟨⟨by decide +kernel, by decide +kernel⟩, List.mem_of_getElem? (i := 794) (by decide +kernel), List.mem_of_getElem? (i := 1238) (by decide +kernel), List.mem_of_getElem? (i := 1239) (by decide +kernel)⟩
theorem lw_p54 : lw_okq (⟨"PaidInLeavesModel", "draw", "(I)I"⟩, 48) := ⟨⟨by decide +kernel, by decide +kernel⟩, List.mem_of_getElem? (i := 794) (by decide +kernel), List.mem_of_getElem? (i := 1270) (by decide +kernel), List.mem_of_getElem? (i := 1271) (by decide +kernel)⟩
theorem lw_p55 : lw_okq (⟨"PaidInLeavesModel", "asking", "(II)I"⟩, 48) := ⟨⟨by decide +kernel, by decide +kernel⟩, List.mem_of_getElem? (i := 794) (by decide +kernel), List.mem_of_getElem? (i := 1283) (by decide +kernel), List.mem_of_getElem? (i := 1284) (by decide +kernel)⟩
theorem lw_p56 : lw_okq (⟨"PaidInLeavesModel", "body", "(I)V"⟩, 48) := ⟨⟨by decide +kernel, by decide +kernel⟩, List.mem_of_getElem? (i := 794) (by decide +kernel), List.mem_of_getElem? (i := 1287) (by decide +kernel), List.mem_of_getElem? (i := 1288) (by decide +kernel)⟩
theorem lw_p57 : lw_okq (⟨"PaidInLeavesModel", "selling", "(II)I"⟩, 48) := ⟨⟨by decide +kernel, by decide +kernel⟩, List.mem_of_getElem? (i := 794) (by decide +kernel), List.mem_of_getElem? (i := 1291) (by decide +kernel), List.mem_of_getElem? (i := 1292) (by decide +kernel)⟩
theorem lw_p58 : lw_okq (⟨"PaidInLeavesModel", "shutting", "(II)I"⟩, 48) := ⟨⟨by decide +kernel, by decide +kernel⟩, List.mem_of_getElem? (i := 794) (by decide +kernel), List.mem_of_getElem? (i := 1295) (by decide +kernel), List.mem_of_getElem? (i := 1296) (by decide +kernel)⟩
def lw_privs_4 : List (MethodName × Nat) := [(⟨"PaidInLeavesModel", "changes", "()Z"⟩, 48), (⟨"PaidInLeavesModel", "dealsIn", "(II)I"⟩, 48), (⟨"PaidInLeavesModel", "gives", "(III)V"⟩, 48), (⟨"PaidInLeavesModel", "barsOf", "(II)I"⟩, 48), (⟨"PaidInLeavesModel", "wrongIn", "(II)I"⟩, 48), (⟨"PaidInLeavesModel", "intAt", "(II)I"⟩, 48), (⟨"PaidInLeavesModel", "draw", "(I)I"⟩, 48), (⟨"PaidInLeavesModel", "asking", "(II)I"⟩, 48), (⟨"PaidInLeavesModel", "body", "(I)V"⟩, 48), (⟨"PaidInLeavesModel", "selling", "(II)I"⟩, 48), (⟨"PaidInLeavesModel", "shutting", "(II)I"⟩, 48)]
theorem lw_r4 : ∀ q ∈ lw_privs_4, lw_okq q := List.forall_mem_cons.mpr ⟨lw_p48, List.forall_mem_cons.mpr ⟨lw_p49, List.forall_mem_cons.mpr ⟨lw_p50, List.forall_mem_cons.mpr ⟨lw_p51, List.forall_mem_cons.mpr ⟨lw_p52, List.forall_mem_cons.mpr ⟨lw_p53, List.forall_mem_cons.mpr ⟨lw_p54, List.forall_mem_cons.mpr ⟨lw_p55, List.forall_mem_cons.mpr ⟨lw_p56, List.forall_mem_cons.mpr ⟨lw_p57, List.forall_mem_cons.mpr ⟨lw_p58, fun _ h => absurd h List.not_mem_nil⟩⟩⟩⟩⟩⟩⟩⟩⟩⟩⟩
def lw_privs : List (MethodName × Nat) := lw_privs_1 ++ (lw_privs_2 ++ (lw_privs_3 ++ (lw_privs_4)))
def lw_tbl : List Cond := k2_sels lw_privs ++ tables_1
theorem lw_privs_ok : ∀ q ∈ lw_privs, lw_okq q := by
  show ∀ q ∈ lw_privs_1 ++ (lw_privs_2 ++ (lw_privs_3 ++ (lw_privs_4))), lw_okq q
  exact List.forall_mem_append.mpr ⟨lw_r1, List.forall_mem_append.mpr ⟨lw_r2, List.forall_mem_append.mpr ⟨lw_r3, lw_r4⟩⟩⟩
-- ===== end of PART A =====
def RX0 : String := "PaidInLeaves$Child"
def TX0 : u_T := fun k => match k with
  | 0 => ("PaidInLeaves$Child", "nimble", "I", false)
  | 1 => ("PaidInLeaves$Child", "leaves", "I", false)
  | 2 => ("PaidInLeaves$Child", "stamps", "I", false)
  | 3 => ("PaidInLeaves$Child", "feathers", "I", false)
  | 4 => ("PaidInLeaves$Child", "cakes", "I", false)
  | _ => ("PaidInLeaves$Child", "shopKept", "I", false)
def tyX0 : Nat → FieldType := fun k => match k with
  | 0 => .int
  | 1 => .int
  | 2 => .int
  | 3 => .int
  | 4 => .int
  | _ => .int
theorem nmX0 : ∀ a, a < 6 → ∀ b, b < 6 → a ≠ b → (TX0 a).2.1 ≠ (TX0 b).2.1 := by decide +kernel
theorem tyX0_ok : ∀ k, k < 6 → parseFieldDescriptor (TX0 k).2.2.1 = some (tyX0 k) := by decide +kernel
abbrev cX0_init : ByteArray := prog_2_method_1_code
def yX0_init : MethodName := ⟨RX0, "<init>", "()V"⟩
abbrev cX0_come : ByteArray := prog_2_method_2_code
def yX0_come : MethodName := ⟨RX0, "come", "(II)V"⟩
abbrev cX0_takeChild : ByteArray := prog_2_method_3_code
def yX0_takeChild : MethodName := ⟨RX0, "takeChild", "(LPaidInLeaves$Child;)V"⟩
abbrev cX0_gain : ByteArray := prog_2_method_4_code
def yX0_gain : MethodName := ⟨RX0, "gain", "(II)V"⟩
def RX1 : String := "PaidInLeaves$Garden"
def TX1 : u_T := fun k => match k with
  | 0 => ("PaidInLeaves$Garden", "shops", "[LPaidInLeaves$Shop;", true)
  | 1 => ("PaidInLeaves$Garden", "children", "[LPaidInLeaves$Child;", true)
  | 2 => ("PaidInLeaves$Garden", "shopCount", "I", false)
  | 3 => ("PaidInLeaves$Garden", "childCount", "I", false)
  | 4 => ("PaidInLeaves$Garden", "clock", "I", false)
  | 5 => ("PaidInLeaves$Garden", "till", "I", false)
  | 6 => ("PaidInLeaves$Garden", "ink", "I", false)
  | 7 => ("PaidInLeaves$Garden", "tree", "I", false)
  | 8 => ("PaidInLeaves$Garden", "deals", "I", false)
  | _ => ("PaidInLeaves$Garden", "seed", "I", false)
def tyX1 : Nat → FieldType := fun k => match k with
  | 0 => .array (.object "PaidInLeaves$Shop")
  | 1 => .array (.object "PaidInLeaves$Child")
  | 2 => .int
  | 3 => .int
  | 4 => .int
  | 5 => .int
  | 6 => .int
  | 7 => .int
  | 8 => .int
  | _ => .int
theorem nmX1 : ∀ a, a < 10 → ∀ b, b < 10 → a ≠ b → (TX1 a).2.1 ≠ (TX1 b).2.1 := by decide +kernel
theorem tyX1_ok : ∀ k, k < 10 → parseFieldDescriptor (TX1 k).2.2.1 = some (tyX1 k) := by decide +kernel
abbrev cX1_init : ByteArray := prog_3_method_1_code
def yX1_init : MethodName := ⟨RX1, "<init>", "()V"⟩
abbrev cX1_takeAll : ByteArray := prog_3_method_2_code
def yX1_takeAll : MethodName := ⟨RX1, "takeAll", "(LPaidInLeaves$Garden;)V"⟩
abbrev cX1_addShop : ByteArray := prog_3_method_3_code
def yX1_addShop : MethodName := ⟨RX1, "addShop", "(III)I"⟩
abbrev cX1_addChild : ByteArray := prog_3_method_4_code
def yX1_addChild : MethodName := ⟨RX1, "addChild", "(II)I"⟩
abbrev cX1_can : ByteArray := prog_3_method_5_code
def yX1_can : MethodName := ⟨RX1, "can", "(II)Z"⟩
abbrev cX1_canBuy : ByteArray := prog_3_method_6_code
def yX1_canBuy : MethodName := ⟨RX1, "canBuy", "(LPaidInLeaves$Child;II)Z"⟩
abbrev cX1_perform : ByteArray := prog_3_method_7_code
def yX1_perform : MethodName := ⟨RX1, "perform", "(II)V"⟩
abbrev cX1_buy : ByteArray := prog_3_method_8_code
def yX1_buy : MethodName := ⟨RX1, "buy", "(LPaidInLeaves$Child;I)V"⟩
abbrev cX1_deedBy : ByteArray := prog_3_method_9_code
def yX1_deedBy : MethodName := ⟨RX1, "deedBy", "(II)I"⟩
abbrev cX1_cheapestFor : ByteArray := prog_3_method_10_code
def yX1_cheapestFor : MethodName := ⟨RX1, "cheapestFor", "(LPaidInLeaves$Child;I)I"⟩
abbrev cX1_passMinutes : ByteArray := prog_3_method_11_code
def yX1_passMinutes : MethodName := ⟨RX1, "passMinutes", "(II)V"⟩
abbrev cX1_passDrawnMinutes : ByteArray := prog_3_method_12_code
def yX1_passDrawnMinutes : MethodName := ⟨RX1, "passDrawnMinutes", "(I)V"⟩
abbrev cX1_drawnDeed : ByteArray := prog_3_method_13_code
def yX1_drawnDeed : MethodName := ⟨RX1, "drawnDeed", "(I)I"⟩
abbrev cX1_beginMinute : ByteArray := prog_3_method_14_code
def yX1_beginMinute : MethodName := ⟨RX1, "beginMinute", "()V"⟩
abbrev cX1_endMinute : ByteArray := prog_3_method_15_code
def yX1_endMinute : MethodName := ⟨RX1, "endMinute", "()V"⟩
abbrev cX1_passNight : ByteArray := prog_3_method_16_code
def yX1_passNight : MethodName := ⟨RX1, "passNight", "()I"⟩
abbrev cX1_noteAsked : ByteArray := prog_3_method_17_code
def yX1_noteAsked : MethodName := ⟨RX1, "noteAsked", "()Z"⟩
def RX2 : String := "PaidInLeaves$Reader"
def TX2 : u_T := fun k => match k with
  | 0 => ("PaidInLeaves$Reader", "draft", "LPaidInLeaves$Garden;", true)
  | 1 => ("PaidInLeaves$Reader", "letters", "[I", true)
  | 2 => ("PaidInLeaves$Reader", "length", "I", false)
  | 3 => ("PaidInLeaves$Reader", "at", "I", false)
  | 4 => ("PaidInLeaves$Reader", "faultPlace", "I", false)
  | _ => ("PaidInLeaves$Reader", "numberPlace", "I", false)
def tyX2 : Nat → FieldType := fun k => match k with
  | 0 => .object "PaidInLeaves$Garden"
  | 1 => .array .int
  | 2 => .int
  | 3 => .int
  | 4 => .int
  | _ => .int
theorem nmX2 : ∀ a, a < 6 → ∀ b, b < 6 → a ≠ b → (TX2 a).2.1 ≠ (TX2 b).2.1 := by decide +kernel
theorem tyX2_ok : ∀ k, k < 6 → parseFieldDescriptor (TX2 k).2.2.1 = some (tyX2 k) := by decide +kernel
abbrev cX2_init : ByteArray := prog_4_method_1_code
def yX2_init : MethodName := ⟨RX2, "<init>", "()V"⟩
abbrev cX2_read : ByteArray := prog_4_method_2_code
def yX2_read : MethodName := ⟨RX2, "read", "(LPaidInLeaves$Garden;LPaidInLeaves$Shelf;)I"⟩
abbrev cX2_next : ByteArray := prog_4_method_3_code
def yX2_next : MethodName := ⟨RX2, "next", "()I"⟩
abbrev cX2_expect : ByteArray := prog_4_method_4_code
def yX2_expect : MethodName := ⟨RX2, "expect", "(I)V"⟩
abbrev cX2_readItem : ByteArray := prog_4_method_5_code
def yX2_readItem : MethodName := ⟨RX2, "readItem", "()V"⟩
abbrev cX2_blame : ByteArray := prog_4_method_6_code
def yX2_blame : MethodName := ⟨RX2, "blame", "(I)V"⟩
abbrev cX2_readWord : ByteArray := prog_4_method_7_code
def yX2_readWord : MethodName := ⟨RX2, "readWord", "(Ljava/lang/String;)V"⟩
abbrev cX2_readNumber : ByteArray := prog_4_method_8_code
def yX2_readNumber : MethodName := ⟨RX2, "readNumber", "(II)I"⟩
abbrev cX2_wantRoom : ByteArray := prog_4_method_9_code
def yX2_wantRoom : MethodName := ⟨RX2, "wantRoom", "(ZI)V"⟩
abbrev cX2_readShop : ByteArray := prog_4_method_10_code
def yX2_readShop : MethodName := ⟨RX2, "readShop", "()V"⟩
abbrev cX2_readChild : ByteArray := prog_4_method_11_code
def yX2_readChild : MethodName := ⟨RX2, "readChild", "()V"⟩
abbrev cX2_readFeathers : ByteArray := prog_4_method_12_code
def yX2_readFeathers : MethodName := ⟨RX2, "readFeathers", "()V"⟩
abbrev cX2_readKeeps : ByteArray := prog_4_method_13_code
def yX2_readKeeps : MethodName := ⟨RX2, "readKeeps", "()V"⟩
abbrev cX2_readInk : ByteArray := prog_4_method_14_code
def yX2_readInk : MethodName := ⟨RX2, "readInk", "()V"⟩
abbrev cX2_readTree : ByteArray := prog_4_method_15_code
def yX2_readTree : MethodName := ⟨RX2, "readTree", "()V"⟩
abbrev cX2_readDeed : ByteArray := prog_4_method_16_code
def yX2_readDeed : MethodName := ⟨RX2, "readDeed", "()V"⟩
abbrev cX2_readNight : ByteArray := prog_4_method_17_code
def yX2_readNight : MethodName := ⟨RX2, "readNight", "()V"⟩
def RX3 : String := "PaidInLeaves$Shelf"
def TX3 : u_T := fun k => match k with
  | 0 => ("PaidInLeaves$Shelf", "elements", "[J", true)
  | 1 => ("PaidInLeaves$Shelf", "held", "I", false)
  | _ => ("PaidInLeaves$Shelf", "length", "I", false)
def tyX3 : Nat → FieldType := fun k => match k with
  | 0 => .array .long
  | 1 => .int
  | _ => .int
theorem nmX3 : ∀ a, a < 3 → ∀ b, b < 3 → a ≠ b → (TX3 a).2.1 ≠ (TX3 b).2.1 := by decide +kernel
theorem tyX3_ok : ∀ k, k < 3 → parseFieldDescriptor (TX3 k).2.2.1 = some (tyX3 k) := by decide +kernel
abbrev cX3_init : ByteArray := prog_5_method_1_code
def yX3_init : MethodName := ⟨RX3, "<init>", "()V"⟩
abbrev cX3_hasRow : ByteArray := prog_5_method_2_code
def yX3_hasRow : MethodName := ⟨RX3, "hasRow", "()Z"⟩
abbrev cX3_hasShop : ByteArray := prog_5_method_3_code
def yX3_hasShop : MethodName := ⟨RX3, "hasShop", "()Z"⟩
abbrev cX3_hold : ByteArray := prog_5_method_4_code
def yX3_hold : MethodName := ⟨RX3, "hold", "(I)V"⟩
abbrev cX3_layRow : ByteArray := prog_5_method_5_code
def yX3_layRow : MethodName := ⟨RX3, "layRow", "(II)V"⟩
abbrev cX3_hasPart : ByteArray := prog_5_method_6_code
def yX3_hasPart : MethodName := ⟨RX3, "hasPart", "(II)Z"⟩
abbrev cX3_put : ByteArray := prog_5_method_7_code
def yX3_put : MethodName := ⟨RX3, "put", "(IJ)V"⟩
abbrev cX3_asInt : ByteArray := prog_5_method_8_code
def yX3_asInt : MethodName := ⟨RX3, "asInt", "(I)I"⟩
def RX4 : String := "PaidInLeaves$Shop"
def TX4 : u_T := fun k => match k with
  | 0 => ("PaidInLeaves$Shop", "kind", "I", false)
  | 1 => ("PaidInLeaves$Shop", "a", "I", false)
  | 2 => ("PaidInLeaves$Shop", "price", "I", false)
  | 3 => ("PaidInLeaves$Shop", "sold", "I", false)
  | 4 => ("PaidInLeaves$Shop", "quiet", "I", false)
  | 5 => ("PaidInLeaves$Shop", "busy", "Z", false)
  | _ => ("PaidInLeaves$Shop", "noted", "I", false)
def tyX4 : Nat → FieldType := fun k => match k with
  | 0 => .int
  | 1 => .int
  | 2 => .int
  | 3 => .int
  | 4 => .int
  | 5 => .boolean
  | _ => .int
theorem nmX4 : ∀ a, a < 7 → ∀ b, b < 7 → a ≠ b → (TX4 a).2.1 ≠ (TX4 b).2.1 := by decide +kernel
theorem tyX4_ok : ∀ k, k < 7 → parseFieldDescriptor (TX4 k).2.2.1 = some (tyX4 k) := by decide +kernel
abbrev cX4_init : ByteArray := prog_6_method_1_code
def yX4_init : MethodName := ⟨RX4, "<init>", "()V"⟩
abbrev cX4_open : ByteArray := prog_6_method_2_code
def yX4_open : MethodName := ⟨RX4, "open", "(III)V"⟩
abbrev cX4_takeShop : ByteArray := prog_6_method_3_code
def yX4_takeShop : MethodName := ⟨RX4, "takeShop", "(LPaidInLeaves$Shop;)V"⟩
abbrev cX4_isOf : ByteArray := prog_6_method_4_code
def yX4_isOf : MethodName := ⟨RX4, "isOf", "(I)Z"⟩
abbrev cX4_takesStampsOnly : ByteArray := prog_6_method_5_code
def yX4_takesStampsOnly : MethodName := ⟨RX4, "takesStampsOnly", "()Z"⟩
abbrev cX4_asksNow : ByteArray := prog_6_method_6_code
def yX4_asksNow : MethodName := ⟨RX4, "asksNow", "()I"⟩
abbrev cX4_saysAs : ByteArray := prog_6_method_7_code
def yX4_saysAs : MethodName := ⟨RX4, "saysAs", "(I)I"⟩
def RX5 : String := "PaidInLeaves$Stage"
def TX5 : u_T := fun k => match k with
  | 0 => ("PaidInLeaves$Stage", "begun", "[I", true)
  | 1 => ("PaidInLeaves$Stage", "ran", "I", false)
  | 2 => ("PaidInLeaves$Stage", "kind", "I", false)
  | 3 => ("PaidInLeaves$Stage", "m", "I", false)
  | _ => ("PaidInLeaves$Stage", "k", "I", false)
def tyX5 : Nat → FieldType := fun k => match k with
  | 0 => .array .int
  | 1 => .int
  | 2 => .int
  | 3 => .int
  | _ => .int
theorem nmX5 : ∀ a, a < 5 → ∀ b, b < 5 → a ≠ b → (TX5 a).2.1 ≠ (TX5 b).2.1 := by decide +kernel
theorem tyX5_ok : ∀ k, k < 5 → parseFieldDescriptor (TX5 k).2.2.1 = some (tyX5 k) := by decide +kernel
abbrev cX5_init : ByteArray := prog_7_method_1_code
def yX5_init : MethodName := ⟨RX5, "<init>", "()V"⟩
abbrev cX5_begin : ByteArray := prog_7_method_2_code
def yX5_begin : MethodName := ⟨RX5, "begin", "(I)V"⟩
def RX6 : String := "PaidInLeaves"
def TX6 : u_T := fun k => match k with
  | 0 => ("PaidInLeaves", "shelves", "[LPaidInLeaves$Shelf;", true)
  | 1 => ("PaidInLeaves", "refusals", "[I", true)
  | 2 => ("PaidInLeaves", "truth", "LPaidInLeaves$Garden;", true)
  | 3 => ("PaidInLeaves", "thought", "LPaidInLeaves$Garden;", true)
  | 4 => ("PaidInLeaves", "kept", "LPaidInLeaves$Garden;", true)
  | 5 => ("PaidInLeaves", "reader", "LPaidInLeaves$Reader;", true)
  | 6 => ("PaidInLeaves", "stage", "LPaidInLeaves$Stage;", true)
  | _ => ("PaidInLeaves", "hasKept", "Z", false)
def tyX6 : Nat → FieldType := fun k => match k with
  | 0 => .array (.object "PaidInLeaves$Shelf")
  | 1 => .array .int
  | 2 => .object "PaidInLeaves$Garden"
  | 3 => .object "PaidInLeaves$Garden"
  | 4 => .object "PaidInLeaves$Garden"
  | 5 => .object "PaidInLeaves$Reader"
  | 6 => .object "PaidInLeaves$Stage"
  | _ => .boolean
theorem nmX6 : ∀ a, a < 8 → ∀ b, b < 8 → a ≠ b → (TX6 a).2.1 ≠ (TX6 b).2.1 := by decide +kernel
theorem tyX6_ok : ∀ k, k < 8 → parseFieldDescriptor (TX6 k).2.2.1 = some (tyX6 k) := by decide +kernel
abbrev cX6_init : ByteArray := prog_1_method_1_code
def yX6_init : MethodName := ⟨RX6, "<init>", "()V"⟩
abbrev cX6_row : ByteArray := prog_1_method_2_code
def yX6_row : MethodName := ⟨RX6, "row", "(III)I"⟩
abbrev cX6_set : ByteArray := prog_1_method_3_code
def yX6_set : MethodName := ⟨RX6, "set", "(IIJ)I"⟩
abbrev cX6_copy : ByteArray := prog_1_method_4_code
def yX6_copy : MethodName := ⟨RX6, "copy", "(IIIII)I"⟩
abbrev cX6_element : ByteArray := prog_1_method_5_code
def yX6_element : MethodName := ⟨RX6, "element", "(II)J"⟩
abbrev cX6_show : ByteArray := prog_1_method_6_code
def yX6_show : MethodName := ⟨RX6, "show", "(II)I"⟩
abbrev cX6_holds : ByteArray := prog_1_method_7_code
def yX6_holds : MethodName := ⟨RX6, "holds", "(I)I"⟩
abbrev cX6_says : ByteArray := prog_1_method_8_code
def yX6_says : MethodName := ⟨RX6, "says", "(II)I"⟩
abbrev cX6_shop : ByteArray := prog_1_method_9_code
def yX6_shop : MethodName := ⟨RX6, "shop", "(III)I"⟩
abbrev cX6_child : ByteArray := prog_1_method_10_code
def yX6_child : MethodName := ⟨RX6, "child", "(II)I"⟩
abbrev cX6_shopOf : ByteArray := prog_1_method_11_code
def yX6_shopOf : MethodName := ⟨RX6, "shopOf", "(II)I"⟩
abbrev cX6_childOf : ByteArray := prog_1_method_12_code
def yX6_childOf : MethodName := ⟨RX6, "childOf", "(II)I"⟩
abbrev cX6_tell : ByteArray := prog_1_method_13_code
def yX6_tell : MethodName := ⟨RX6, "tell", "(III)I"⟩
abbrev cX6_keeps : ByteArray := prog_1_method_14_code
def yX6_keeps : MethodName := ⟨RX6, "keeps", "(II)I"⟩
abbrev cX6_ask : ByteArray := prog_1_method_15_code
def yX6_ask : MethodName := ⟨RX6, "ask", "(II)I"⟩
abbrev cX6_garden : ByteArray := prog_1_method_16_code
def yX6_garden : MethodName := ⟨RX6, "garden", "(I)I"⟩
abbrev cX6_fault : ByteArray := prog_1_method_17_code
def yX6_fault : MethodName := ⟨RX6, "fault", "()I"⟩
abbrev cX6_may : ByteArray := prog_1_method_18_code
def yX6_may : MethodName := ⟨RX6, "may", "(I)I"⟩
abbrev cX6_behind : ByteArray := prog_1_method_19_code
def yX6_behind : MethodName := ⟨RX6, "behind", "(IIII)I"⟩
abbrev cX6_asks : ByteArray := prog_1_method_20_code
def yX6_asks : MethodName := ⟨RX6, "asks", "(III)I"⟩
abbrev cX6_deals : ByteArray := prog_1_method_21_code
def yX6_deals : MethodName := ⟨RX6, "deals", "(III)I"⟩
abbrev cX6_runs : ByteArray := prog_1_method_22_code
def yX6_runs : MethodName := ⟨RX6, "runs", "(III)I"⟩
abbrev cX6_settles : ByteArray := prog_1_method_23_code
def yX6_settles : MethodName := ⟨RX6, "settles", "(II)I"⟩
abbrev cX6_picked : ByteArray := prog_1_method_24_code
def yX6_picked : MethodName := ⟨RX6, "picked", "(II)I"⟩
abbrev cX6_cheapest : ByteArray := prog_1_method_25_code
def yX6_cheapest : MethodName := ⟨RX6, "cheapest", "()I"⟩
abbrev cX6_money : ByteArray := prog_1_method_26_code
def yX6_money : MethodName := ⟨RX6, "money", "(I)I"⟩
abbrev cX6_inked : ByteArray := prog_1_method_27_code
def yX6_inked : MethodName := ⟨RX6, "inked", "(I)I"⟩
abbrev cX6_keepers : ByteArray := prog_1_method_28_code
def yX6_keepers : MethodName := ⟨RX6, "keepers", "(II)I"⟩
abbrev cX6_bored : ByteArray := prog_1_method_29_code
def yX6_bored : MethodName := ⟨RX6, "bored", "(II)I"⟩
abbrev cX6_bank : ByteArray := prog_1_method_30_code
def yX6_bank : MethodName := ⟨RX6, "bank", "(I)I"⟩
abbrev cX6_rot : ByteArray := prog_1_method_31_code
def yX6_rot : MethodName := ⟨RX6, "rot", "(II)I"⟩
abbrev cX6_trust : ByteArray := prog_1_method_32_code
def yX6_trust : MethodName := ⟨RX6, "trust", "(II)I"⟩
abbrev cX6_heap : ByteArray := prog_1_method_33_code
def yX6_heap : MethodName := ⟨RX6, "heap", "(II)I"⟩
abbrev cX6_judge : ByteArray := prog_1_method_34_code
def yX6_judge : MethodName := ⟨RX6, "judge", "(II)I"⟩
abbrev cX6_told : ByteArray := prog_1_method_35_code
def yX6_told : MethodName := ⟨RX6, "told", "(III)I"⟩
abbrev cX6_done : ByteArray := prog_1_method_36_code
def yX6_done : MethodName := ⟨RX6, "done", "(II)I"⟩
abbrev cX6_does : ByteArray := prog_1_method_37_code
def yX6_does : MethodName := ⟨RX6, "does", "(II)I"⟩
abbrev cX6_minute : ByteArray := prog_1_method_38_code
def yX6_minute : MethodName := ⟨RX6, "minute", "(I)I"⟩
abbrev cX6_night : ByteArray := prog_1_method_39_code
def yX6_night : MethodName := ⟨RX6, "night", "()I"⟩
abbrev cX6_afternoon : ByteArray := prog_1_method_40_code
def yX6_afternoon : MethodName := ⟨RX6, "afternoon", "(I)I"⟩
abbrev cX6_seed : ByteArray := prog_1_method_41_code
def yX6_seed : MethodName := ⟨RX6, "seed", "(I)I"⟩
abbrev cX6_act : ByteArray := prog_1_method_42_code
def yX6_act : MethodName := ⟨RX6, "act", "(III)I"⟩
abbrev cX6_trace : ByteArray := prog_1_method_43_code
def yX6_trace : MethodName := ⟨RX6, "trace", "(I)I"⟩
abbrev cX6_image : ByteArray := prog_1_method_44_code
def yX6_image : MethodName := ⟨RX6, "image", "()I"⟩
abbrev cX6_restore : ByteArray := prog_1_method_45_code
def yX6_restore : MethodName := ⟨RX6, "restore", "()I"⟩
abbrev cX6_status : ByteArray := prog_1_method_46_code
def yX6_status : MethodName := ⟨RX6, "status", "(I)I"⟩
abbrev cX6_isShelf : ByteArray := prog_1_method_47_code
def yX6_isShelf : MethodName := ⟨RX6, "isShelf", "(I)Z"⟩
abbrev cX6_isKind : ByteArray := prog_1_method_48_code
def yX6_isKind : MethodName := ⟨RX6, "isKind", "(I)Z"⟩
abbrev cX6_isRule : ByteArray := prog_1_method_49_code
def yX6_isRule : MethodName := ⟨RX6, "isRule", "(I)Z"⟩
abbrev cX6_isTime : ByteArray := prog_1_method_50_code
def yX6_isTime : MethodName := ⟨RX6, "isTime", "(I)Z"⟩
abbrev cX6_isShop : ByteArray := prog_1_method_51_code
def yX6_isShop : MethodName := ⟨RX6, "isShop", "(I)Z"⟩
abbrev cX6_isChild : ByteArray := prog_1_method_52_code
def yX6_isChild : MethodName := ⟨RX6, "isChild", "(I)Z"⟩
abbrev cX6_refuse : ByteArray := prog_1_method_53_code
def yX6_refuse : MethodName := ⟨RX6, "refuse", "(I)I"⟩
abbrev cX6_rowTrouble : ByteArray := prog_1_method_54_code
def yX6_rowTrouble : MethodName := ⟨RX6, "rowTrouble", "(I)I"⟩
abbrev cX6_toldTrouble : ByteArray := prog_1_method_55_code
def yX6_toldTrouble : MethodName := ⟨RX6, "toldTrouble", "(II)I"⟩
abbrev cX6_foresee : ByteArray := prog_1_method_56_code
def yX6_foresee : MethodName := ⟨RX6, "foresee", "(II)I"⟩
abbrev cX6_settledBehind : ByteArray := prog_1_method_57_code
def yX6_settledBehind : MethodName := ⟨RX6, "settledBehind", "(I)I"⟩
abbrev cX6_stoppedFrom : ByteArray := prog_1_method_58_code
def yX6_stoppedFrom : MethodName := ⟨RX6, "stoppedFrom", "(I)I"⟩
abbrev cX6_bestWay : ByteArray := prog_1_method_59_code
def yX6_bestWay : MethodName := ⟨RX6, "bestWay", "(I)I"⟩
abbrev cX6_dealsOfWay : ByteArray := prog_1_method_60_code
def yX6_dealsOfWay : MethodName := ⟨RX6, "dealsOfWay", "(II)I"⟩
abbrev cX6_keeperIn : ByteArray := prog_1_method_61_code
def yX6_keeperIn : MethodName := ⟨RX6, "keeperIn", "(III)I"⟩
abbrev cX6_wrongDeed : ByteArray := prog_1_method_62_code
def yX6_wrongDeed : MethodName := ⟨RX6, "wrongDeed", "(II)I"⟩
abbrev cX6_runBody : ByteArray := prog_1_method_63_code
def yX6_runBody : MethodName := ⟨RX6, "runBody", "(LPaidInLeaves$Stage;IIII)I"⟩
def RX7 : String := "PaidInLeavesModel"
def TX7 : u_T := fun k => match k with
  | 0 => ("PaidInLeavesModel", "shops", "I", false)
  | 1 => ("PaidInLeavesModel", "many", "I", false)
  | 2 => ("PaidInLeavesModel", "clock", "I", false)
  | 3 => ("PaidInLeavesModel", "till", "I", false)
  | 4 => ("PaidInLeavesModel", "ink", "I", false)
  | 5 => ("PaidInLeavesModel", "tree", "I", false)
  | 6 => ("PaidInLeavesModel", "deals", "I", false)
  | 7 => ("PaidInLeavesModel", "seed", "I", false)
  | 8 => ("PaidInLeavesModel", "fault", "I", false)
  | 9 => ("PaidInLeavesModel", "refused", "[I", true)
  | 10 => ("PaidInLeavesModel", "kind", "[I", true)
  | 11 => ("PaidInLeavesModel", "part", "[I", true)
  | 12 => ("PaidInLeavesModel", "price", "[I", true)
  | 13 => ("PaidInLeavesModel", "sold", "[I", true)
  | 14 => ("PaidInLeavesModel", "quiet", "[I", true)
  | 15 => ("PaidInLeavesModel", "nimble", "[I", true)
  | 16 => ("PaidInLeavesModel", "leaves", "[I", true)
  | 17 => ("PaidInLeavesModel", "stamps", "[I", true)
  | 18 => ("PaidInLeavesModel", "feathers", "[I", true)
  | 19 => ("PaidInLeavesModel", "cakes", "[I", true)
  | 20 => ("PaidInLeavesModel", "kept", "[I", true)
  | 21 => ("PaidInLeavesModel", "held", "[I", true)
  | 22 => ("PaidInLeavesModel", "sort", "[I", true)
  | 23 => ("PaidInLeavesModel", "size", "[I", true)
  | 24 => ("PaidInLeavesModel", "shown", "[I", true)
  | 25 => ("PaidInLeavesModel", "cells", "[J", true)
  | 26 => ("PaidInLeavesModel", "carried", "[J", true)
  | 27 => ("PaidInLeavesModel", "words", "[I", true)
  | 28 => ("PaidInLeavesModel", "numbers", "[I", true)
  | 29 => ("PaidInLeavesModel", "tell", "[I", true)
  | 30 => ("PaidInLeavesModel", "base", "I", false)
  | 31 => ("PaidInLeavesModel", "at", "I", false)
  | 32 => ("PaidInLeavesModel", "end", "I", false)
  | 33 => ("PaidInLeavesModel", "number", "I", false)
  | 34 => ("PaidInLeavesModel", "wrongAt", "I", false)
  | 35 => ("PaidInLeavesModel", "was", "[I", true)
  | 36 => ("PaidInLeavesModel", "image", "[I", true)
  | 37 => ("PaidInLeavesModel", "tried", "[I", true)
  | 38 => ("PaidInLeavesModel", "before", "[I", true)
  | 39 => ("PaidInLeavesModel", "made", "I", false)
  | 40 => ("PaidInLeavesModel", "then", "[I", true)
  | 41 => ("PaidInLeavesModel", "keeper", "[I", true)
  | 42 => ("PaidInLeavesModel", "best", "[I", true)
  | 43 => ("PaidInLeavesModel", "keptNow", "[I", true)
  | 44 => ("PaidInLeavesModel", "bestDeals", "I", false)
  | 45 => ("PaidInLeavesModel", "trace", "[I", true)
  | 46 => ("PaidInLeavesModel", "ran", "I", false)
  | _ => ("PaidInLeavesModel", "isKept", "Z", false)
def tyX7 : Nat → FieldType := fun k => match k with
  | 0 => .int
  | 1 => .int
  | 2 => .int
  | 3 => .int
  | 4 => .int
  | 5 => .int
  | 6 => .int
  | 7 => .int
  | 8 => .int
  | 9 => .array .int
  | 10 => .array .int
  | 11 => .array .int
  | 12 => .array .int
  | 13 => .array .int
  | 14 => .array .int
  | 15 => .array .int
  | 16 => .array .int
  | 17 => .array .int
  | 18 => .array .int
  | 19 => .array .int
  | 20 => .array .int
  | 21 => .array .int
  | 22 => .array .int
  | 23 => .array .int
  | 24 => .array .int
  | 25 => .array .long
  | 26 => .array .long
  | 27 => .array .int
  | 28 => .array .int
  | 29 => .array .int
  | 30 => .int
  | 31 => .int
  | 32 => .int
  | 33 => .int
  | 34 => .int
  | 35 => .array .int
  | 36 => .array .int
  | 37 => .array .int
  | 38 => .array .int
  | 39 => .int
  | 40 => .array .int
  | 41 => .array .int
  | 42 => .array .int
  | 43 => .array .int
  | 44 => .int
  | 45 => .array .int
  | 46 => .int
  | _ => .boolean
theorem nmX7 : ∀ a, a < 48 → ∀ b, b < 48 → a ≠ b → (TX7 a).2.1 ≠ (TX7 b).2.1 := by decide +kernel
theorem tyX7_ok : ∀ k, k < 48 → parseFieldDescriptor (TX7 k).2.2.1 = some (tyX7 k) := by decide +kernel
abbrev cX7_init : ByteArray := prog_9_method_1_code
def yX7_init : MethodName := ⟨RX7, "<init>", "()V"⟩
abbrev cX7_no : ByteArray := prog_9_method_2_code
def yX7_no : MethodName := ⟨RX7, "no", "(I)I"⟩
abbrev cX7_noTen : ByteArray := prog_9_method_3_code
def yX7_noTen : MethodName := ⟨RX7, "noTen", "(I)I"⟩
abbrev cX7_isShelf : ByteArray := prog_9_method_4_code
def yX7_isShelf : MethodName := ⟨RX7, "isShelf", "(I)Z"⟩
abbrev cX7_isShop : ByteArray := prog_9_method_5_code
def yX7_isShop : MethodName := ⟨RX7, "isShop", "(I)Z"⟩
abbrev cX7_isChild : ByteArray := prog_9_method_6_code
def yX7_isChild : MethodName := ⟨RX7, "isChild", "(I)Z"⟩
abbrev cX7_row : ByteArray := prog_9_method_7_code
def yX7_row : MethodName := ⟨RX7, "row", "(III)I"⟩
abbrev cX7_set : ByteArray := prog_9_method_8_code
def yX7_set : MethodName := ⟨RX7, "set", "(IIJ)I"⟩
abbrev cX7_copy : ByteArray := prog_9_method_9_code
def yX7_copy : MethodName := ⟨RX7, "copy", "(IIIII)I"⟩
abbrev cX7_element : ByteArray := prog_9_method_10_code
def yX7_element : MethodName := ⟨RX7, "element", "(II)J"⟩
abbrev cX7_show : ByteArray := prog_9_method_11_code
def yX7_show : MethodName := ⟨RX7, "show", "(II)I"⟩
abbrev cX7_holds : ByteArray := prog_9_method_12_code
def yX7_holds : MethodName := ⟨RX7, "holds", "(I)I"⟩
abbrev cX7_says : ByteArray := prog_9_method_13_code
def yX7_says : MethodName := ⟨RX7, "says", "(II)I"⟩
abbrev cX7_wanted : ByteArray := prog_9_method_14_code
def yX7_wanted : MethodName := ⟨RX7, "wanted", "(I)I"⟩
abbrev cX7_intAt : ByteArray := prog_9_method_15_code
def yX7_intAt : MethodName := ⟨RX7, "intAt", "(II)I"⟩
abbrev cX7_addsShop : ByteArray := prog_9_method_16_code
def yX7_addsShop : MethodName := ⟨RX7, "addsShop", "(III)I"⟩
abbrev cX7_addsChild : ByteArray := prog_9_method_17_code
def yX7_addsChild : MethodName := ⟨RX7, "addsChild", "(II)I"⟩
abbrev cX7_shop : ByteArray := prog_9_method_18_code
def yX7_shop : MethodName := ⟨RX7, "shop", "(III)I"⟩
abbrev cX7_child : ByteArray := prog_9_method_19_code
def yX7_child : MethodName := ⟨RX7, "child", "(II)I"⟩
abbrev cX7_shopOf : ByteArray := prog_9_method_20_code
def yX7_shopOf : MethodName := ⟨RX7, "shopOf", "(II)I"⟩
abbrev cX7_childOf : ByteArray := prog_9_method_21_code
def yX7_childOf : MethodName := ⟨RX7, "childOf", "(II)I"⟩
abbrev cX7_tell : ByteArray := prog_9_method_22_code
def yX7_tell : MethodName := ⟨RX7, "tell", "(III)I"⟩
abbrev cX7_keeps : ByteArray := prog_9_method_23_code
def yX7_keeps : MethodName := ⟨RX7, "keeps", "(II)I"⟩
abbrev cX7_ask : ByteArray := prog_9_method_24_code
def yX7_ask : MethodName := ⟨RX7, "ask", "(II)I"⟩
abbrev cX7_wrong : ByteArray := prog_9_method_25_code
def yX7_wrong : MethodName := ⟨RX7, "wrong", "(I)Z"⟩
abbrev cX7_stands : ByteArray := prog_9_method_26_code
def yX7_stands : MethodName := ⟨RX7, "stands", "(I)Z"⟩
abbrev cX7_word : ByteArray := prog_9_method_27_code
def yX7_word : MethodName := ⟨RX7, "word", "()I"⟩
abbrev cX7_isDigit : ByteArray := prog_9_method_28_code
def yX7_isDigit : MethodName := ⟨RX7, "isDigit", "()Z"⟩
abbrev cX7_reads : ByteArray := prog_9_method_29_code
def yX7_reads : MethodName := ⟨RX7, "reads", "()Z"⟩
abbrev cX7_isSo : ByteArray := prog_9_method_30_code
def yX7_isSo : MethodName := ⟨RX7, "isSo", "(II)Z"⟩
abbrev cX7_item : ByteArray := prog_9_method_31_code
def yX7_item : MethodName := ⟨RX7, "item", "()Z"⟩
abbrev cX7_carries : ByteArray := prog_9_method_32_code
def yX7_carries : MethodName := ⟨RX7, "carries", "([I[IIZ)I"⟩
abbrev cX7_all : ByteArray := prog_9_method_33_code
def yX7_all : MethodName := ⟨RX7, "all", "([IZ)V"⟩
abbrev cX7_garden : ByteArray := prog_9_method_34_code
def yX7_garden : MethodName := ⟨RX7, "garden", "(I)I"⟩
abbrev cX7_fault : ByteArray := prog_9_method_35_code
def yX7_fault : MethodName := ⟨RX7, "fault", "()I"⟩
abbrev cX7_asked : ByteArray := prog_9_method_36_code
def yX7_asked : MethodName := ⟨RX7, "asked", "(I)I"⟩
abbrev cX7_isForStamps : ByteArray := prog_9_method_37_code
def yX7_isForStamps : MethodName := ⟨RX7, "isForStamps", "(I)Z"⟩
abbrev cX7_mayBuy : ByteArray := prog_9_method_38_code
def yX7_mayBuy : MethodName := ⟨RX7, "mayBuy", "(II)Z"⟩
abbrev cX7_mayBe : ByteArray := prog_9_method_39_code
def yX7_mayBe : MethodName := ⟨RX7, "mayBe", "(II)Z"⟩
abbrev cX7_full : ByteArray := prog_9_method_40_code
def yX7_full : MethodName := ⟨RX7, "full", "(I)I"⟩
abbrev cX7_buys : ByteArray := prog_9_method_41_code
def yX7_buys : MethodName := ⟨RX7, "buys", "(II)V"⟩
abbrev cX7_makes : ByteArray := prog_9_method_42_code
def yX7_makes : MethodName := ⟨RX7, "makes", "(II)V"⟩
abbrev cX7_begins : ByteArray := prog_9_method_43_code
def yX7_begins : MethodName := ⟨RX7, "begins", "()V"⟩
abbrev cX7_ends : ByteArray := prog_9_method_44_code
def yX7_ends : MethodName := ⟨RX7, "ends", "()V"⟩
abbrev cX7_rots : ByteArray := prog_9_method_45_code
def yX7_rots : MethodName := ⟨RX7, "rots", "()I"⟩
abbrev cX7_may : ByteArray := prog_9_method_46_code
def yX7_may : MethodName := ⟨RX7, "may", "(I)I"⟩
abbrev cX7_greed : ByteArray := prog_9_method_47_code
def yX7_greed : MethodName := ⟨RX7, "greed", "(II)I"⟩
abbrev cX7_ruled : ByteArray := prog_9_method_48_code
def yX7_ruled : MethodName := ⟨RX7, "ruled", "(II)I"⟩
abbrev cX7_lives : ByteArray := prog_9_method_49_code
def yX7_lives : MethodName := ⟨RX7, "lives", "(I)V"⟩
abbrev cX7_livesOn : ByteArray := prog_9_method_50_code
def yX7_livesOn : MethodName := ⟨RX7, "livesOn", "(II)V"⟩
abbrev cX7_isRule : ByteArray := prog_9_method_51_code
def yX7_isRule : MethodName := ⟨RX7, "isRule", "(I)Z"⟩
abbrev cX7_isAfternoon : ByteArray := prog_9_method_52_code
def yX7_isAfternoon : MethodName := ⟨RX7, "isAfternoon", "(II)Z"⟩
abbrev cX7_tries : ByteArray := prog_9_method_53_code
def yX7_tries : MethodName := ⟨RX7, "tries", "(II)V"⟩
abbrev cX7_takesBack : ByteArray := prog_9_method_54_code
def yX7_takesBack : MethodName := ⟨RX7, "takesBack", "()V"⟩
abbrev cX7_behind : ByteArray := prog_9_method_55_code
def yX7_behind : MethodName := ⟨RX7, "behind", "(IIII)I"⟩
abbrev cX7_askedBehind : ByteArray := prog_9_method_56_code
def yX7_askedBehind : MethodName := ⟨RX7, "askedBehind", "(III)I"⟩
abbrev cX7_asks : ByteArray := prog_9_method_57_code
def yX7_asks : MethodName := ⟨RX7, "asks", "(III)I"⟩
abbrev cX7_deals : ByteArray := prog_9_method_58_code
def yX7_deals : MethodName := ⟨RX7, "deals", "(III)I"⟩
abbrev cX7_runs : ByteArray := prog_9_method_59_code
def yX7_runs : MethodName := ⟨RX7, "runs", "(III)I"⟩
abbrev cX7_changes : ByteArray := prog_9_method_60_code
def yX7_changes : MethodName := ⟨RX7, "changes", "()Z"⟩
abbrev cX7_settles : ByteArray := prog_9_method_61_code
def yX7_settles : MethodName := ⟨RX7, "settles", "(II)I"⟩
abbrev cX7_picked : ByteArray := prog_9_method_62_code
def yX7_picked : MethodName := ⟨RX7, "picked", "(II)I"⟩
abbrev cX7_cheapest : ByteArray := prog_9_method_63_code
def yX7_cheapest : MethodName := ⟨RX7, "cheapest", "()I"⟩
abbrev cX7_dealsIn : ByteArray := prog_9_method_64_code
def yX7_dealsIn : MethodName := ⟨RX7, "dealsIn", "(II)I"⟩
abbrev cX7_money : ByteArray := prog_9_method_65_code
def yX7_money : MethodName := ⟨RX7, "money", "(I)I"⟩
abbrev cX7_inked : ByteArray := prog_9_method_66_code
def yX7_inked : MethodName := ⟨RX7, "inked", "(I)I"⟩
abbrev cX7_gives : ByteArray := prog_9_method_67_code
def yX7_gives : MethodName := ⟨RX7, "gives", "(III)V"⟩
abbrev cX7_keepers : ByteArray := prog_9_method_68_code
def yX7_keepers : MethodName := ⟨RX7, "keepers", "(II)I"⟩
abbrev cX7_bored : ByteArray := prog_9_method_69_code
def yX7_bored : MethodName := ⟨RX7, "bored", "(II)I"⟩
abbrev cX7_bank : ByteArray := prog_9_method_70_code
def yX7_bank : MethodName := ⟨RX7, "bank", "(I)I"⟩
abbrev cX7_rot : ByteArray := prog_9_method_71_code
def yX7_rot : MethodName := ⟨RX7, "rot", "(II)I"⟩
abbrev cX7_trust : ByteArray := prog_9_method_72_code
def yX7_trust : MethodName := ⟨RX7, "trust", "(II)I"⟩
abbrev cX7_wrongIn : ByteArray := prog_9_method_73_code
def yX7_wrongIn : MethodName := ⟨RX7, "wrongIn", "(II)I"⟩
abbrev cX7_barsOf : ByteArray := prog_9_method_74_code
def yX7_barsOf : MethodName := ⟨RX7, "barsOf", "(II)I"⟩
abbrev cX7_judge : ByteArray := prog_9_method_75_code
def yX7_judge : MethodName := ⟨RX7, "judge", "(II)I"⟩
abbrev cX7_told : ByteArray := prog_9_method_76_code
def yX7_told : MethodName := ⟨RX7, "told", "(III)I"⟩
abbrev cX7_done : ByteArray := prog_9_method_77_code
def yX7_done : MethodName := ⟨RX7, "done", "(II)I"⟩
abbrev cX7_heap : ByteArray := prog_9_method_78_code
def yX7_heap : MethodName := ⟨RX7, "heap", "(II)I"⟩
abbrev cX7_does : ByteArray := prog_9_method_79_code
def yX7_does : MethodName := ⟨RX7, "does", "(II)I"⟩
abbrev cX7_minute : ByteArray := prog_9_method_80_code
def yX7_minute : MethodName := ⟨RX7, "minute", "(I)I"⟩
abbrev cX7_night : ByteArray := prog_9_method_81_code
def yX7_night : MethodName := ⟨RX7, "night", "()I"⟩
abbrev cX7_draw : ByteArray := prog_9_method_82_code
def yX7_draw : MethodName := ⟨RX7, "draw", "(I)I"⟩
abbrev cX7_afternoon : ByteArray := prog_9_method_83_code
def yX7_afternoon : MethodName := ⟨RX7, "afternoon", "(I)I"⟩
abbrev cX7_seed : ByteArray := prog_9_method_84_code
def yX7_seed : MethodName := ⟨RX7, "seed", "(I)I"⟩
abbrev cX7_body : ByteArray := prog_9_method_85_code
def yX7_body : MethodName := ⟨RX7, "body", "(I)V"⟩
abbrev cX7_asking : ByteArray := prog_9_method_86_code
def yX7_asking : MethodName := ⟨RX7, "asking", "(II)I"⟩
abbrev cX7_selling : ByteArray := prog_9_method_87_code
def yX7_selling : MethodName := ⟨RX7, "selling", "(II)I"⟩
abbrev cX7_shutting : ByteArray := prog_9_method_88_code
def yX7_shutting : MethodName := ⟨RX7, "shutting", "(II)I"⟩
abbrev cX7_act : ByteArray := prog_9_method_89_code
def yX7_act : MethodName := ⟨RX7, "act", "(III)I"⟩
abbrev cX7_trace : ByteArray := prog_9_method_90_code
def yX7_trace : MethodName := ⟨RX7, "trace", "(I)I"⟩
abbrev cX7_image : ByteArray := prog_9_method_91_code
def yX7_image : MethodName := ⟨RX7, "image", "()I"⟩
abbrev cX7_restore : ByteArray := prog_9_method_92_code
def yX7_restore : MethodName := ⟨RX7, "restore", "()I"⟩
abbrev cX7_status : ByteArray := prog_9_method_93_code
def yX7_status : MethodName := ⟨RX7, "status", "(I)I"⟩
def RJ6 : String := "java/lang/Integer"
abbrev cJ6_compare_7cf53 : ByteArray := prog_10_method_40_code
def yJ6_compare_7cf53 : MethodName := ⟨RJ6, "compare", "(II)I"⟩
def RJ9 : String := "java/lang/Math"
abbrev cJ9_max_7cf53 : ByteArray := prog_11_method_65_code
def yJ9_max_7cf53 : MethodName := ⟨RJ9, "max", "(II)I"⟩
abbrev cJ9_max_f86c9 : ByteArray := prog_11_method_66_code
def yJ9_max_f86c9 : MethodName := ⟨RJ9, "max", "(JJ)J"⟩
abbrev cJ9_min_7cf53 : ByteArray := prog_11_method_69_code
def yJ9_min_7cf53 : MethodName := ⟨RJ9, "min", "(II)I"⟩
abbrev cJ9_min_f86c9 : ByteArray := prog_11_method_70_code
def yJ9_min_f86c9 : MethodName := ⟨RJ9, "min", "(JJ)J"⟩
def RJ0 : String := "java/lang/String"
abbrev cJ0_length_8abf5 : ByteArray := prog_12_method_54_code
def yJ0_length_8abf5 : MethodName := ⟨RJ0, "length", "()I"⟩
abbrev cJ0_charAt_5068e : ByteArray := prog_12_method_56_code
def yJ0_charAt_5068e : MethodName := ⟨RJ0, "charAt", "(I)C"⟩
abbrev cJ0_coder_7d493 : ByteArray := prog_12_method_152_code
def yJ0_coder_7d493 : MethodName := ⟨RJ0, "coder", "()B"⟩
abbrev cJ0_isLatin1_aae02 : ByteArray := prog_12_method_154_code
def yJ0_isLatin1_aae02 : MethodName := ⟨RJ0, "isLatin1", "()Z"⟩
abbrev cJ0_checkIndex_df160 : ByteArray := prog_12_method_155_code
def yJ0_checkIndex_df160 : MethodName := ⟨RJ0, "checkIndex", "(II)V"⟩
def RJ1 : String := "java/lang/StringLatin1"
abbrev cJ1_charAt_3b067 : ByteArray := prog_13_method_2_code
def yJ1_charAt_3b067 : MethodName := ⟨RJ1, "charAt", "([BI)C"⟩
def RJ2 : String := "java/lang/StringUTF16"
abbrev cJ2_getChar_3b067 : ByteArray := prog_14_method_5_code
def yJ2_getChar_3b067 : MethodName := ⟨RJ2, "getChar", "([BI)C"⟩
abbrev cJ2_length_9d52b : ByteArray := prog_14_method_6_code
def yJ2_length_9d52b : MethodName := ⟨RJ2, "length", "([B)I"⟩
abbrev cJ2_charAt_3b067 : ByteArray := prog_14_method_83_code
def yJ2_charAt_3b067 : MethodName := ⟨RJ2, "charAt", "([BI)C"⟩
abbrev cJ2_checkIndex_2214a : ByteArray := prog_14_method_91_code
def yJ2_checkIndex_2214a : MethodName := ⟨RJ2, "checkIndex", "(I[B)V"⟩
def RJ10 : String := "java/lang/System"
def RJ7 : String := "java/util/Arrays"
abbrev cJ7_fill_d0a16 : ByteArray := prog_16_method_101_code
def yJ7_fill_d0a16 : MethodName := ⟨RJ7, "fill", "([JJ)V"⟩
def RJ3 : String := "jdk/internal/util/Preconditions"
abbrev cJ3_checkIndex_8e157 : ByteArray := prog_17_method_11_code
def yJ3_checkIndex_8e157 : MethodName := ⟨RJ3, "checkIndex", "(IILjava/util/function/BiFunction;)I"⟩
def RL : String := "PaidInLeavesLaw"
abbrev cL_law : ByteArray := code
def yL_law : MethodName := ⟨RL, "law", "([I)Z"⟩
/-- the words of the tables that every method's contract rests on -/
def zTB : List Cond := lw_tbl.filter goodWord
theorem zin {w : Cond} (h : w ∈ lw_tbl) (hg : goodWord w = true) : w ∈ zTB := List.mem_filter.mpr ⟨h, hg⟩
theorem zi {w : Cond} (i : Nat) (h : tables_1[i]? = some w) (hg : goodWord w = true) : w ∈ zTB := zin (List.mem_append_right _ (List.mem_of_getElem? h)) hg
theorem zj {w : Cond} (i : Nat) (h : (k2_sels lw_privs)[i]? = some w) (hg : goodWord w = true) : w ∈ zTB := zin (List.mem_append_left _ (List.mem_of_getElem? h)) hg
theorem zTB_good : GoodIn lw_tbl zTB := fun w h => ⟨(List.mem_filter.mp h).1, good_of_word (List.mem_filter.mp h).2⟩
theorem zTB_self : GoodIn zTB zTB := fun w h => ⟨h, good_of_word (List.mem_filter.mp h).2⟩
theorem zws {C : String} {T : u_T} {N : Nat} (h : ∀ w ∈ u_ws C T N, w ∈ lw_tbl) (hg : (u_ws C T N).all goodWord = true) : ∀ w ∈ u_ws C T N, w ∈ zTB := fun w hw => zin (h w hw) (List.all_eq_true.mp hg w hw)

theorem wi_X0 : ∀ w ∈ u_ws RX0 TX0 6, w ∈ zTB := zws (by decide +kernel) (by decide +kernel)
theorem wi_X1 : ∀ w ∈ u_ws RX1 TX1 10, w ∈ zTB := zws (by decide +kernel) (by decide +kernel)
theorem wi_X2 : ∀ w ∈ u_ws RX2 TX2 6, w ∈ zTB := zws (by decide +kernel) (by decide +kernel)
theorem wi_X3 : ∀ w ∈ u_ws RX3 TX3 3, w ∈ zTB := zws (by decide +kernel) (by decide +kernel)
theorem wi_X4 : ∀ w ∈ u_ws RX4 TX4 7, w ∈ zTB := zws (by decide +kernel) (by decide +kernel)
theorem wi_X5 : ∀ w ∈ u_ws RX5 TX5 5, w ∈ zTB := zws (by decide +kernel) (by decide +kernel)
theorem wi_X6 : ∀ w ∈ u_ws RX6 TX6 8, w ∈ zTB := zws (by decide +kernel) (by decide +kernel)
theorem wi_X7 : ∀ w ∈ u_ws RX7 TX7 48, w ∈ zTB := zws (by decide +kernel) (by decide +kernel)
theorem kf_X4_9 : Cond.fieldLink RX4 9 "PaidInLeaves$Shop" "kind" "I" ∈ zTB := zi 42 (by decide +kernel) (by decide +kernel)
theorem kf_X6_130 : Cond.fieldLink RX6 130 "PaidInLeaves$Shop" "kind" "I" ∈ zTB := zi 43 (by decide +kernel) (by decide +kernel)
theorem kf_X4_15 : Cond.fieldLink RX4 15 "PaidInLeaves$Shop" "a" "I" ∈ zTB := zi 44 (by decide +kernel) (by decide +kernel)
theorem kf_X6_133 : Cond.fieldLink RX6 133 "PaidInLeaves$Shop" "a" "I" ∈ zTB := zi 45 (by decide +kernel) (by decide +kernel)
theorem kf_X4_18 : Cond.fieldLink RX4 18 "PaidInLeaves$Shop" "price" "I" ∈ zTB := zi 46 (by decide +kernel) (by decide +kernel)
theorem kf_X6_136 : Cond.fieldLink RX6 136 "PaidInLeaves$Shop" "price" "I" ∈ zTB := zi 47 (by decide +kernel) (by decide +kernel)
theorem kf_X4_21 : Cond.fieldLink RX4 21 "PaidInLeaves$Shop" "sold" "I" ∈ zTB := zi 48 (by decide +kernel) (by decide +kernel)
theorem kf_X1_109 : Cond.fieldLink RX1 109 "PaidInLeaves$Shop" "sold" "I" ∈ zTB := zi 49 (by decide +kernel) (by decide +kernel)
theorem kf_X6_139 : Cond.fieldLink RX6 139 "PaidInLeaves$Shop" "sold" "I" ∈ zTB := zi 50 (by decide +kernel) (by decide +kernel)
theorem kf_X4_24 : Cond.fieldLink RX4 24 "PaidInLeaves$Shop" "quiet" "I" ∈ zTB := zi 51 (by decide +kernel) (by decide +kernel)
theorem kf_X1_112 : Cond.fieldLink RX1 112 "PaidInLeaves$Shop" "quiet" "I" ∈ zTB := zi 52 (by decide +kernel) (by decide +kernel)
theorem kf_X6_142 : Cond.fieldLink RX6 142 "PaidInLeaves$Shop" "quiet" "I" ∈ zTB := zi 53 (by decide +kernel) (by decide +kernel)
theorem kf_X1_115 : Cond.fieldLink RX1 115 "PaidInLeaves$Shop" "busy" "Z" ∈ zTB := zi 54 (by decide +kernel) (by decide +kernel)
theorem kf_X1_144 : Cond.fieldLink RX1 144 "PaidInLeaves$Shop" "noted" "I" ∈ zTB := zi 55 (by decide +kernel) (by decide +kernel)
theorem kf_X0_15 : Cond.fieldLink RX0 15 "PaidInLeaves$Child" "nimble" "I" ∈ zTB := zi 77 (by decide +kernel) (by decide +kernel)
theorem kf_X1_90 : Cond.fieldLink RX1 90 "PaidInLeaves$Child" "nimble" "I" ∈ zTB := zi 78 (by decide +kernel) (by decide +kernel)
theorem kf_X6_156 : Cond.fieldLink RX6 156 "PaidInLeaves$Child" "nimble" "I" ∈ zTB := zi 79 (by decide +kernel) (by decide +kernel)
theorem kf_X0_18 : Cond.fieldLink RX0 18 "PaidInLeaves$Child" "leaves" "I" ∈ zTB := zi 80 (by decide +kernel) (by decide +kernel)
theorem kf_X1_66 : Cond.fieldLink RX1 66 "PaidInLeaves$Child" "leaves" "I" ∈ zTB := zi 81 (by decide +kernel) (by decide +kernel)
theorem kf_X6_161 : Cond.fieldLink RX6 161 "PaidInLeaves$Child" "leaves" "I" ∈ zTB := zi 82 (by decide +kernel) (by decide +kernel)
theorem kf_X0_21 : Cond.fieldLink RX0 21 "PaidInLeaves$Child" "stamps" "I" ∈ zTB := zi 83 (by decide +kernel) (by decide +kernel)
theorem kf_X1_87 : Cond.fieldLink RX1 87 "PaidInLeaves$Child" "stamps" "I" ∈ zTB := zi 84 (by decide +kernel) (by decide +kernel)
theorem kf_X6_164 : Cond.fieldLink RX6 164 "PaidInLeaves$Child" "stamps" "I" ∈ zTB := zi 85 (by decide +kernel) (by decide +kernel)
theorem kf_X0_24 : Cond.fieldLink RX0 24 "PaidInLeaves$Child" "feathers" "I" ∈ zTB := zi 86 (by decide +kernel) (by decide +kernel)
theorem kf_X1_69 : Cond.fieldLink RX1 69 "PaidInLeaves$Child" "feathers" "I" ∈ zTB := zi 87 (by decide +kernel) (by decide +kernel)
theorem kf_X2_127 : Cond.fieldLink RX2 127 "PaidInLeaves$Child" "feathers" "I" ∈ zTB := zi 88 (by decide +kernel) (by decide +kernel)
theorem kf_X6_167 : Cond.fieldLink RX6 167 "PaidInLeaves$Child" "feathers" "I" ∈ zTB := zi 89 (by decide +kernel) (by decide +kernel)
theorem kf_X0_27 : Cond.fieldLink RX0 27 "PaidInLeaves$Child" "cakes" "I" ∈ zTB := zi 90 (by decide +kernel) (by decide +kernel)
theorem kf_X1_106 : Cond.fieldLink RX1 106 "PaidInLeaves$Child" "cakes" "I" ∈ zTB := zi 91 (by decide +kernel) (by decide +kernel)
theorem kf_X6_170 : Cond.fieldLink RX6 170 "PaidInLeaves$Child" "cakes" "I" ∈ zTB := zi 92 (by decide +kernel) (by decide +kernel)
theorem kf_X0_9 : Cond.fieldLink RX0 9 "PaidInLeaves$Child" "shopKept" "I" ∈ zTB := zi 93 (by decide +kernel) (by decide +kernel)
theorem kf_X1_80 : Cond.fieldLink RX1 80 "PaidInLeaves$Child" "shopKept" "I" ∈ zTB := zi 94 (by decide +kernel) (by decide +kernel)
theorem kf_X6_173 : Cond.fieldLink RX6 173 "PaidInLeaves$Child" "shopKept" "I" ∈ zTB := zi 95 (by decide +kernel) (by decide +kernel)
theorem kf_X2_133 : Cond.fieldLink RX2 133 "PaidInLeaves$Child" "shopKept" "I" ∈ zTB := zi 96 (by decide +kernel) (by decide +kernel)
theorem kf_X1_11 : Cond.fieldLink RX1 11 "PaidInLeaves$Garden" "shops" "[LPaidInLeaves$Shop;" ∈ zTB := zi 110 (by decide +kernel) (by decide +kernel)
theorem kf_X6_104 : Cond.fieldLink RX6 104 "PaidInLeaves$Garden" "shops" "[LPaidInLeaves$Shop;" ∈ zTB := zi 111 (by decide +kernel) (by decide +kernel)
theorem kf_X1_19 : Cond.fieldLink RX1 19 "PaidInLeaves$Garden" "children" "[LPaidInLeaves$Child;" ∈ zTB := zi 112 (by decide +kernel) (by decide +kernel)
theorem kf_X6_152 : Cond.fieldLink RX6 152 "PaidInLeaves$Garden" "children" "[LPaidInLeaves$Child;" ∈ zTB := zi 113 (by decide +kernel) (by decide +kernel)
theorem kf_X2_123 : Cond.fieldLink RX2 123 "PaidInLeaves$Garden" "children" "[LPaidInLeaves$Child;" ∈ zTB := zi 114 (by decide +kernel) (by decide +kernel)
theorem kf_X1_35 : Cond.fieldLink RX1 35 "PaidInLeaves$Garden" "shopCount" "I" ∈ zTB := zi 115 (by decide +kernel) (by decide +kernel)
theorem kf_X6_116 : Cond.fieldLink RX6 116 "PaidInLeaves$Garden" "shopCount" "I" ∈ zTB := zi 116 (by decide +kernel) (by decide +kernel)
theorem kf_X2_98 : Cond.fieldLink RX2 98 "PaidInLeaves$Garden" "shopCount" "I" ∈ zTB := zi 117 (by decide +kernel) (by decide +kernel)
theorem kf_X1_38 : Cond.fieldLink RX1 38 "PaidInLeaves$Garden" "childCount" "I" ∈ zTB := zi 118 (by decide +kernel) (by decide +kernel)
theorem kf_X6_123 : Cond.fieldLink RX6 123 "PaidInLeaves$Garden" "childCount" "I" ∈ zTB := zi 119 (by decide +kernel) (by decide +kernel)
theorem kf_X2_115 : Cond.fieldLink RX2 115 "PaidInLeaves$Garden" "childCount" "I" ∈ zTB := zi 120 (by decide +kernel) (by decide +kernel)
theorem kf_X1_41 : Cond.fieldLink RX1 41 "PaidInLeaves$Garden" "clock" "I" ∈ zTB := zi 121 (by decide +kernel) (by decide +kernel)
theorem kf_X6_254 : Cond.fieldLink RX6 254 "PaidInLeaves$Garden" "clock" "I" ∈ zTB := zi 122 (by decide +kernel) (by decide +kernel)
theorem kf_X1_44 : Cond.fieldLink RX1 44 "PaidInLeaves$Garden" "till" "I" ∈ zTB := zi 123 (by decide +kernel) (by decide +kernel)
theorem kf_X6_208 : Cond.fieldLink RX6 208 "PaidInLeaves$Garden" "till" "I" ∈ zTB := zi 124 (by decide +kernel) (by decide +kernel)
theorem kf_X1_23 : Cond.fieldLink RX1 23 "PaidInLeaves$Garden" "ink" "I" ∈ zTB := zi 125 (by decide +kernel) (by decide +kernel)
theorem kf_X2_138 : Cond.fieldLink RX2 138 "PaidInLeaves$Garden" "ink" "I" ∈ zTB := zi 126 (by decide +kernel) (by decide +kernel)
theorem kf_X6_176 : Cond.fieldLink RX6 176 "PaidInLeaves$Garden" "ink" "I" ∈ zTB := zi 127 (by decide +kernel) (by decide +kernel)
theorem kf_X1_27 : Cond.fieldLink RX1 27 "PaidInLeaves$Garden" "tree" "I" ∈ zTB := zi 128 (by decide +kernel) (by decide +kernel)
theorem kf_X2_142 : Cond.fieldLink RX2 142 "PaidInLeaves$Garden" "tree" "I" ∈ zTB := zi 129 (by decide +kernel) (by decide +kernel)
theorem kf_X6_179 : Cond.fieldLink RX6 179 "PaidInLeaves$Garden" "tree" "I" ∈ zTB := zi 130 (by decide +kernel) (by decide +kernel)
theorem kf_X1_47 : Cond.fieldLink RX1 47 "PaidInLeaves$Garden" "deals" "I" ∈ zTB := zi 131 (by decide +kernel) (by decide +kernel)
theorem kf_X6_225 : Cond.fieldLink RX6 225 "PaidInLeaves$Garden" "deals" "I" ∈ zTB := zi 132 (by decide +kernel) (by decide +kernel)
theorem kf_X1_30 : Cond.fieldLink RX1 30 "PaidInLeaves$Garden" "seed" "I" ∈ zTB := zi 133 (by decide +kernel) (by decide +kernel)
theorem kf_X6_260 : Cond.fieldLink RX6 260 "PaidInLeaves$Garden" "seed" "I" ∈ zTB := zi 134 (by decide +kernel) (by decide +kernel)
theorem kf_X2_12 : Cond.fieldLink RX2 12 "PaidInLeaves$Reader" "draft" "LPaidInLeaves$Garden;" ∈ zTB := zi 164 (by decide +kernel) (by decide +kernel)
theorem kf_X6_189 : Cond.fieldLink RX6 189 "PaidInLeaves$Reader" "draft" "LPaidInLeaves$Garden;" ∈ zTB := zi 165 (by decide +kernel) (by decide +kernel)
theorem kf_X2_18 : Cond.fieldLink RX2 18 "PaidInLeaves$Reader" "letters" "[I" ∈ zTB := zi 166 (by decide +kernel) (by decide +kernel)
theorem kf_X2_35 : Cond.fieldLink RX2 35 "PaidInLeaves$Reader" "length" "I" ∈ zTB := zi 167 (by decide +kernel) (by decide +kernel)
theorem kf_X2_40 : Cond.fieldLink RX2 40 "PaidInLeaves$Reader" "at" "I" ∈ zTB := zi 168 (by decide +kernel) (by decide +kernel)
theorem kf_X2_22 : Cond.fieldLink RX2 22 "PaidInLeaves$Reader" "faultPlace" "I" ∈ zTB := zi 169 (by decide +kernel) (by decide +kernel)
theorem kf_X6_186 : Cond.fieldLink RX6 186 "PaidInLeaves$Reader" "faultPlace" "I" ∈ zTB := zi 170 (by decide +kernel) (by decide +kernel)
theorem kf_X2_89 : Cond.fieldLink RX2 89 "PaidInLeaves$Reader" "numberPlace" "I" ∈ zTB := zi 171 (by decide +kernel) (by decide +kernel)
theorem kf_X5_9 : Cond.fieldLink RX5 9 "PaidInLeaves$Stage" "begun" "[I" ∈ zTB := zi 191 (by decide +kernel) (by decide +kernel)
theorem kf_X6_277 : Cond.fieldLink RX6 277 "PaidInLeaves$Stage" "begun" "[I" ∈ zTB := zi 192 (by decide +kernel) (by decide +kernel)
theorem kf_X5_15 : Cond.fieldLink RX5 15 "PaidInLeaves$Stage" "ran" "I" ∈ zTB := zi 193 (by decide +kernel) (by decide +kernel)
theorem kf_X6_263 : Cond.fieldLink RX6 263 "PaidInLeaves$Stage" "ran" "I" ∈ zTB := zi 194 (by decide +kernel) (by decide +kernel)
theorem kf_X6_266 : Cond.fieldLink RX6 266 "PaidInLeaves$Stage" "kind" "I" ∈ zTB := zi 195 (by decide +kernel) (by decide +kernel)
theorem kf_X6_267 : Cond.fieldLink RX6 267 "PaidInLeaves$Stage" "m" "I" ∈ zTB := zi 196 (by decide +kernel) (by decide +kernel)
theorem kf_X6_270 : Cond.fieldLink RX6 270 "PaidInLeaves$Stage" "k" "I" ∈ zTB := zi 197 (by decide +kernel) (by decide +kernel)
theorem kf_X3_9 : Cond.fieldLink RX3 9 "PaidInLeaves$Shelf" "elements" "[J" ∈ zTB := zi 214 (by decide +kernel) (by decide +kernel)
theorem kf_X6_84 : Cond.fieldLink RX6 84 "PaidInLeaves$Shelf" "elements" "[J" ∈ zTB := zi 215 (by decide +kernel) (by decide +kernel)
theorem kf_X3_15 : Cond.fieldLink RX3 15 "PaidInLeaves$Shelf" "held" "I" ∈ zTB := zi 216 (by decide +kernel) (by decide +kernel)
theorem kf_X6_77 : Cond.fieldLink RX6 77 "PaidInLeaves$Shelf" "held" "I" ∈ zTB := zi 217 (by decide +kernel) (by decide +kernel)
theorem kf_X2_30 : Cond.fieldLink RX2 30 "PaidInLeaves$Shelf" "length" "I" ∈ zTB := zi 218 (by decide +kernel) (by decide +kernel)
theorem kf_X6_62 : Cond.fieldLink RX6 62 "PaidInLeaves$Shelf" "length" "I" ∈ zTB := zi 219 (by decide +kernel) (by decide +kernel)
theorem kf_X3_19 : Cond.fieldLink RX3 19 "PaidInLeaves$Shelf" "length" "I" ∈ zTB := zi 220 (by decide +kernel) (by decide +kernel)
theorem kf_X6_11 : Cond.fieldLink RX6 11 "PaidInLeaves" "shelves" "[LPaidInLeaves$Shelf;" ∈ zTB := zi 229 (by decide +kernel) (by decide +kernel)
theorem kf_X6_15 : Cond.fieldLink RX6 15 "PaidInLeaves" "refusals" "[I" ∈ zTB := zi 230 (by decide +kernel) (by decide +kernel)
theorem kf_X6_22 : Cond.fieldLink RX6 22 "PaidInLeaves" "truth" "LPaidInLeaves$Garden;" ∈ zTB := zi 231 (by decide +kernel) (by decide +kernel)
theorem kf_X6_26 : Cond.fieldLink RX6 26 "PaidInLeaves" "thought" "LPaidInLeaves$Garden;" ∈ zTB := zi 232 (by decide +kernel) (by decide +kernel)
theorem kf_X6_29 : Cond.fieldLink RX6 29 "PaidInLeaves" "kept" "LPaidInLeaves$Garden;" ∈ zTB := zi 233 (by decide +kernel) (by decide +kernel)
theorem kf_X6_35 : Cond.fieldLink RX6 35 "PaidInLeaves" "reader" "LPaidInLeaves$Reader;" ∈ zTB := zi 234 (by decide +kernel) (by decide +kernel)
theorem kf_X6_42 : Cond.fieldLink RX6 42 "PaidInLeaves" "stage" "LPaidInLeaves$Stage;" ∈ zTB := zi 235 (by decide +kernel) (by decide +kernel)
theorem kf_X6_280 : Cond.fieldLink RX6 280 "PaidInLeaves" "hasKept" "Z" ∈ zTB := zi 236 (by decide +kernel) (by decide +kernel)
theorem kf_J0_38 : Cond.fieldLink RJ0 38 "java/lang/String" "COMPACT_STRINGS" "Z" ∈ zTB := zi 450 (by decide +kernel) (by decide +kernel)
theorem kf_J0_1053 : Cond.fieldLink RJ0 1053 "jdk/internal/util/Preconditions" "SIOOBE_FORMATTER" "Ljava/util/function/BiFunction;" ∈ zTB := zi 466 (by decide +kernel) (by decide +kernel)
theorem kf_J2_44 : Cond.fieldLink RJ2 44 "java/lang/StringUTF16" "$assertionsDisabled" "Z" ∈ zTB := zi 484 (by decide +kernel) (by decide +kernel)
theorem kf_J2_59 : Cond.fieldLink RJ2 59 "java/lang/StringUTF16" "HI_BYTE_SHIFT" "I" ∈ zTB := zi 486 (by decide +kernel) (by decide +kernel)
theorem kf_J2_63 : Cond.fieldLink RJ2 63 "java/lang/StringUTF16" "LO_BYTE_SHIFT" "I" ∈ zTB := zi 488 (by decide +kernel) (by decide +kernel)
theorem kf_X6_296 : Cond.fieldLink RX6 296 "PaidInLeaves" "BODIES" "[I" ∈ zTB := zi 770 (by decide +kernel) (by decide +kernel)
theorem kf_X6_299 : Cond.fieldLink RX6 299 "PaidInLeaves" "ABOVE" "[I" ∈ zTB := zi 772 (by decide +kernel) (by decide +kernel)
theorem kf_X7_114 : Cond.fieldLink RX7 114 "PaidInLeavesModel" "shops" "I" ∈ zTB := zi 799 (by decide +kernel) (by decide +kernel)
theorem kf_X7_117 : Cond.fieldLink RX7 117 "PaidInLeavesModel" "many" "I" ∈ zTB := zi 800 (by decide +kernel) (by decide +kernel)
theorem kf_X7_198 : Cond.fieldLink RX7 198 "PaidInLeavesModel" "clock" "I" ∈ zTB := zi 801 (by decide +kernel) (by decide +kernel)
theorem kf_X7_201 : Cond.fieldLink RX7 201 "PaidInLeavesModel" "till" "I" ∈ zTB := zi 802 (by decide +kernel) (by decide +kernel)
theorem kf_X7_7 : Cond.fieldLink RX7 7 "PaidInLeavesModel" "ink" "I" ∈ zTB := zi 803 (by decide +kernel) (by decide +kernel)
theorem kf_X7_13 : Cond.fieldLink RX7 13 "PaidInLeavesModel" "tree" "I" ∈ zTB := zi 804 (by decide +kernel) (by decide +kernel)
theorem kf_X7_204 : Cond.fieldLink RX7 204 "PaidInLeavesModel" "deals" "I" ∈ zTB := zi 805 (by decide +kernel) (by decide +kernel)
theorem kf_X7_16 : Cond.fieldLink RX7 16 "PaidInLeavesModel" "seed" "I" ∈ zTB := zi 806 (by decide +kernel) (by decide +kernel)
theorem kf_X7_19 : Cond.fieldLink RX7 19 "PaidInLeavesModel" "fault" "I" ∈ zTB := zi 807 (by decide +kernel) (by decide +kernel)
theorem kf_X7_22 : Cond.fieldLink RX7 22 "PaidInLeavesModel" "refused" "[I" ∈ zTB := zi 808 (by decide +kernel) (by decide +kernel)
theorem kf_X7_26 : Cond.fieldLink RX7 26 "PaidInLeavesModel" "kind" "[I" ∈ zTB := zi 809 (by decide +kernel) (by decide +kernel)
theorem kf_X7_29 : Cond.fieldLink RX7 29 "PaidInLeavesModel" "part" "[I" ∈ zTB := zi 810 (by decide +kernel) (by decide +kernel)
theorem kf_X7_32 : Cond.fieldLink RX7 32 "PaidInLeavesModel" "price" "[I" ∈ zTB := zi 811 (by decide +kernel) (by decide +kernel)
theorem kf_X7_35 : Cond.fieldLink RX7 35 "PaidInLeavesModel" "sold" "[I" ∈ zTB := zi 812 (by decide +kernel) (by decide +kernel)
theorem kf_X7_38 : Cond.fieldLink RX7 38 "PaidInLeavesModel" "quiet" "[I" ∈ zTB := zi 813 (by decide +kernel) (by decide +kernel)
theorem kf_X7_41 : Cond.fieldLink RX7 41 "PaidInLeavesModel" "nimble" "[I" ∈ zTB := zi 814 (by decide +kernel) (by decide +kernel)
theorem kf_X7_44 : Cond.fieldLink RX7 44 "PaidInLeavesModel" "leaves" "[I" ∈ zTB := zi 815 (by decide +kernel) (by decide +kernel)
theorem kf_X7_47 : Cond.fieldLink RX7 47 "PaidInLeavesModel" "stamps" "[I" ∈ zTB := zi 816 (by decide +kernel) (by decide +kernel)
theorem kf_X7_50 : Cond.fieldLink RX7 50 "PaidInLeavesModel" "feathers" "[I" ∈ zTB := zi 817 (by decide +kernel) (by decide +kernel)
theorem kf_X7_53 : Cond.fieldLink RX7 53 "PaidInLeavesModel" "cakes" "[I" ∈ zTB := zi 818 (by decide +kernel) (by decide +kernel)
theorem kf_X7_56 : Cond.fieldLink RX7 56 "PaidInLeavesModel" "kept" "[I" ∈ zTB := zi 819 (by decide +kernel) (by decide +kernel)
theorem kf_X7_59 : Cond.fieldLink RX7 59 "PaidInLeavesModel" "held" "[I" ∈ zTB := zi 820 (by decide +kernel) (by decide +kernel)
theorem kf_X7_62 : Cond.fieldLink RX7 62 "PaidInLeavesModel" "sort" "[I" ∈ zTB := zi 821 (by decide +kernel) (by decide +kernel)
theorem kf_X7_65 : Cond.fieldLink RX7 65 "PaidInLeavesModel" "size" "[I" ∈ zTB := zi 822 (by decide +kernel) (by decide +kernel)
theorem kf_X7_68 : Cond.fieldLink RX7 68 "PaidInLeavesModel" "shown" "[I" ∈ zTB := zi 823 (by decide +kernel) (by decide +kernel)
theorem kf_X7_71 : Cond.fieldLink RX7 71 "PaidInLeavesModel" "cells" "[J" ∈ zTB := zi 824 (by decide +kernel) (by decide +kernel)
theorem kf_X7_75 : Cond.fieldLink RX7 75 "PaidInLeavesModel" "carried" "[J" ∈ zTB := zi 825 (by decide +kernel) (by decide +kernel)
theorem kf_X7_78 : Cond.fieldLink RX7 78 "PaidInLeavesModel" "words" "[I" ∈ zTB := zi 826 (by decide +kernel) (by decide +kernel)
theorem kf_X7_81 : Cond.fieldLink RX7 81 "PaidInLeavesModel" "numbers" "[I" ∈ zTB := zi 827 (by decide +kernel) (by decide +kernel)
theorem kf_X7_84 : Cond.fieldLink RX7 84 "PaidInLeavesModel" "tell" "[I" ∈ zTB := zi 828 (by decide +kernel) (by decide +kernel)
theorem kf_X7_157 : Cond.fieldLink RX7 157 "PaidInLeavesModel" "base" "I" ∈ zTB := zi 829 (by decide +kernel) (by decide +kernel)
theorem kf_X7_151 : Cond.fieldLink RX7 151 "PaidInLeavesModel" "at" "I" ∈ zTB := zi 830 (by decide +kernel) (by decide +kernel)
theorem kf_X7_154 : Cond.fieldLink RX7 154 "PaidInLeavesModel" "end" "I" ∈ zTB := zi 831 (by decide +kernel) (by decide +kernel)
theorem kf_X7_160 : Cond.fieldLink RX7 160 "PaidInLeavesModel" "number" "I" ∈ zTB := zi 832 (by decide +kernel) (by decide +kernel)
theorem kf_X7_148 : Cond.fieldLink RX7 148 "PaidInLeavesModel" "wrongAt" "I" ∈ zTB := zi 833 (by decide +kernel) (by decide +kernel)
theorem kf_X7_87 : Cond.fieldLink RX7 87 "PaidInLeavesModel" "was" "[I" ∈ zTB := zi 834 (by decide +kernel) (by decide +kernel)
theorem kf_X7_90 : Cond.fieldLink RX7 90 "PaidInLeavesModel" "image" "[I" ∈ zTB := zi 835 (by decide +kernel) (by decide +kernel)
theorem kf_X7_93 : Cond.fieldLink RX7 93 "PaidInLeavesModel" "tried" "[I" ∈ zTB := zi 836 (by decide +kernel) (by decide +kernel)
theorem kf_X7_96 : Cond.fieldLink RX7 96 "PaidInLeavesModel" "before" "[I" ∈ zTB := zi 837 (by decide +kernel) (by decide +kernel)
theorem kf_X7_253 : Cond.fieldLink RX7 253 "PaidInLeavesModel" "made" "I" ∈ zTB := zi 838 (by decide +kernel) (by decide +kernel)
theorem kf_X7_99 : Cond.fieldLink RX7 99 "PaidInLeavesModel" "then" "[I" ∈ zTB := zi 839 (by decide +kernel) (by decide +kernel)
theorem kf_X7_102 : Cond.fieldLink RX7 102 "PaidInLeavesModel" "keeper" "[I" ∈ zTB := zi 840 (by decide +kernel) (by decide +kernel)
theorem kf_X7_105 : Cond.fieldLink RX7 105 "PaidInLeavesModel" "best" "[I" ∈ zTB := zi 841 (by decide +kernel) (by decide +kernel)
theorem kf_X7_108 : Cond.fieldLink RX7 108 "PaidInLeavesModel" "keptNow" "[I" ∈ zTB := zi 842 (by decide +kernel) (by decide +kernel)
theorem kf_X7_274 : Cond.fieldLink RX7 274 "PaidInLeavesModel" "bestDeals" "I" ∈ zTB := zi 843 (by decide +kernel) (by decide +kernel)
theorem kf_X7_111 : Cond.fieldLink RX7 111 "PaidInLeavesModel" "trace" "[I" ∈ zTB := zi 844 (by decide +kernel) (by decide +kernel)
theorem kf_X7_294 : Cond.fieldLink RX7 294 "PaidInLeavesModel" "ran" "I" ∈ zTB := zi 845 (by decide +kernel) (by decide +kernel)
theorem kf_X7_309 : Cond.fieldLink RX7 309 "PaidInLeavesModel" "isKept" "Z" ∈ zTB := zi 846 (by decide +kernel) (by decide +kernel)
theorem kf_J0_9 : Cond.fieldLink RJ0 9 "java/lang/String" "value" "[B" ∈ zTB := zi 1315 (by decide +kernel) (by decide +kernel)
theorem kf_J0_15 : Cond.fieldLink RJ0 15 "java/lang/String" "coder" "B" ∈ zTB := zi 1316 (by decide +kernel) (by decide +kernel)
theorem ki_L : Cond.initialized RL ∈ zTB := zi 0 (by decide +kernel) (by decide +kernel)
theorem ki_X6 : Cond.initialized RX6 ∈ zTB := zi 1 (by decide +kernel) (by decide +kernel)
theorem ki_X1 : Cond.initialized RX1 ∈ zTB := zi 2 (by decide +kernel) (by decide +kernel)
theorem ki_X4 : Cond.initialized RX4 ∈ zTB := zi 3 (by decide +kernel) (by decide +kernel)
theorem ki_X0 : Cond.initialized RX0 ∈ zTB := zi 4 (by decide +kernel) (by decide +kernel)
theorem ki_X2 : Cond.initialized RX2 ∈ zTB := zi 5 (by decide +kernel) (by decide +kernel)
theorem ki_X5 : Cond.initialized RX5 ∈ zTB := zi 6 (by decide +kernel) (by decide +kernel)
theorem ki_X3 : Cond.initialized RX3 ∈ zTB := zi 7 (by decide +kernel) (by decide +kernel)
theorem ki_X7 : Cond.initialized RX7 ∈ zTB := zi 8 (by decide +kernel) (by decide +kernel)
theorem ki_J7 : Cond.initialized RJ7 ∈ zTB := zi 9 (by decide +kernel) (by decide +kernel)
theorem ki_J10 : Cond.initialized RJ10 ∈ zTB := zi 10 (by decide +kernel) (by decide +kernel)
theorem ki_J9 : Cond.initialized RJ9 ∈ zTB := zi 11 (by decide +kernel) (by decide +kernel)
theorem ki_J0 : Cond.initialized RJ0 ∈ zTB := zi 12 (by decide +kernel) (by decide +kernel)
theorem ki_J1 : Cond.initialized RJ1 ∈ zTB := zi 13 (by decide +kernel) (by decide +kernel)
theorem ki_J3 : Cond.initialized RJ3 ∈ zTB := zi 14 (by decide +kernel) (by decide +kernel)
theorem ki_J2 : Cond.initialized RJ2 ∈ zTB := zi 15 (by decide +kernel) (by decide +kernel)
theorem ki_J6 : Cond.initialized RJ6 ∈ zTB := zi 16 (by decide +kernel) (by decide +kernel)
theorem kc_X6_init : Cond.code yX6_init cX6_init 2 none ∈ zTB := zi 21 (by decide +kernel) (by decide +kernel)
theorem kc_X1_init : Cond.code yX1_init cX1_init 2 none ∈ zTB := zi 31 (by decide +kernel) (by decide +kernel)
theorem kc_X4_init : Cond.code yX4_init cX4_init 1 none ∈ zTB := zi 40 (by decide +kernel) (by decide +kernel)
theorem kc_X0_init : Cond.code yX0_init cX0_init 1 none ∈ zTB := zi 75 (by decide +kernel) (by decide +kernel)
theorem kc_X2_init : Cond.code yX2_init cX2_init 1 none ∈ zTB := zi 160 (by decide +kernel) (by decide +kernel)
theorem kc_X5_init : Cond.code yX5_init cX5_init 1 none ∈ zTB := zi 189 (by decide +kernel) (by decide +kernel)
theorem kc_X3_init : Cond.code yX3_init cX3_init 1 none ∈ zTB := zi 212 (by decide +kernel) (by decide +kernel)
theorem kc_X6_row : Cond.code yX6_row cX6_row 4 (some .int) ∈ zTB := zi 257 (by decide +kernel) (by decide +kernel)
theorem kc_X6_isShelf : Cond.code yX6_isShelf cX6_isShelf 1 (some .boolean) ∈ zTB := zi 260 (by decide +kernel) (by decide +kernel)
theorem kc_X6_refuse : Cond.code yX6_refuse cX6_refuse 3 (some .int) ∈ zTB := zi 264 (by decide +kernel) (by decide +kernel)
theorem kc_X3_layRow : Cond.code yX3_layRow cX3_layRow 3 none ∈ zTB := zi 268 (by decide +kernel) (by decide +kernel)
theorem kc_J7_fill_d0a16 : Cond.code yJ7_fill_d0a16 cJ7_fill_d0a16 5 none ∈ zTB := zi 271 (by decide +kernel) (by decide +kernel)
theorem kc_X6_set : Cond.code yX6_set cX6_set 6 (some .int) ∈ zTB := zi 275 (by decide +kernel) (by decide +kernel)
theorem kc_X6_rowTrouble : Cond.code yX6_rowTrouble cX6_rowTrouble 2 (some .int) ∈ zTB := zi 279 (by decide +kernel) (by decide +kernel)
theorem kc_X3_hasShop : Cond.code yX3_hasShop cX3_hasShop 1 (some .boolean) ∈ zTB := zi 283 (by decide +kernel) (by decide +kernel)
theorem kc_X3_hasRow : Cond.code yX3_hasRow cX3_hasRow 1 (some .boolean) ∈ zTB := zi 287 (by decide +kernel) (by decide +kernel)
theorem kc_X3_put : Cond.code yX3_put cX3_put 4 none ∈ zTB := zi 291 (by decide +kernel) (by decide +kernel)
theorem kc_X6_copy : Cond.code yX6_copy cX6_copy 8 (some .int) ∈ zTB := zi 295 (by decide +kernel) (by decide +kernel)
theorem kc_X3_hasPart : Cond.code yX3_hasPart cX3_hasPart 3 (some .boolean) ∈ zTB := zi 299 (by decide +kernel) (by decide +kernel)
theorem kc_X6_element : Cond.code yX6_element cX6_element 3 (some .long) ∈ zTB := zi 306 (by decide +kernel) (by decide +kernel)
theorem kc_X6_show : Cond.code yX6_show cX6_show 3 (some .int) ∈ zTB := zi 310 (by decide +kernel) (by decide +kernel)
theorem kc_X6_isShop : Cond.code yX6_isShop cX6_isShop 2 (some .boolean) ∈ zTB := zi 314 (by decide +kernel) (by decide +kernel)
theorem kc_X3_hold : Cond.code yX3_hold cX3_hold 2 none ∈ zTB := zi 318 (by decide +kernel) (by decide +kernel)
theorem kc_X6_holds : Cond.code yX6_holds cX6_holds 2 (some .int) ∈ zTB := zi 322 (by decide +kernel) (by decide +kernel)
theorem kc_X6_says : Cond.code yX6_says cX6_says 5 (some .int) ∈ zTB := zi 326 (by decide +kernel) (by decide +kernel)
theorem kc_X6_isKind : Cond.code yX6_isKind cX6_isKind 1 (some .boolean) ∈ zTB := zi 329 (by decide +kernel) (by decide +kernel)
theorem kc_X4_isOf : Cond.code yX4_isOf cX4_isOf 4 (some .boolean) ∈ zTB := zi 333 (by decide +kernel) (by decide +kernel)
theorem kc_X4_saysAs : Cond.code yX4_saysAs cX4_saysAs 2 (some .int) ∈ zTB := zi 340 (by decide +kernel) (by decide +kernel)
theorem kc_X4_asksNow : Cond.code yX4_asksNow cX4_asksNow 3 (some .int) ∈ zTB := zi 344 (by decide +kernel) (by decide +kernel)
theorem kc_J9_min_f86c9 : Cond.code yJ9_min_f86c9 cJ9_min_f86c9 4 (some .long) ∈ zTB := zi 348 (by decide +kernel) (by decide +kernel)
theorem kc_J9_max_f86c9 : Cond.code yJ9_max_f86c9 cJ9_max_f86c9 4 (some .long) ∈ zTB := zi 351 (by decide +kernel) (by decide +kernel)
theorem kc_X6_shop : Cond.code yX6_shop cX6_shop 4 (some .int) ∈ zTB := zi 355 (by decide +kernel) (by decide +kernel)
theorem kc_X1_addShop : Cond.code yX1_addShop cX1_addShop 4 (some .int) ∈ zTB := zi 359 (by decide +kernel) (by decide +kernel)
theorem kc_X4_open : Cond.code yX4_open cX4_open 4 none ∈ zTB := zi 363 (by decide +kernel) (by decide +kernel)
theorem kc_X6_child : Cond.code yX6_child cX6_child 3 (some .int) ∈ zTB := zi 367 (by decide +kernel) (by decide +kernel)
theorem kc_X1_addChild : Cond.code yX1_addChild cX1_addChild 3 (some .int) ∈ zTB := zi 371 (by decide +kernel) (by decide +kernel)
theorem kc_X0_come : Cond.code yX0_come cX0_come 3 none ∈ zTB := zi 375 (by decide +kernel) (by decide +kernel)
theorem kc_X6_shopOf : Cond.code yX6_shopOf cX6_shopOf 4 (some .int) ∈ zTB := zi 379 (by decide +kernel) (by decide +kernel)
theorem kc_X6_childOf : Cond.code yX6_childOf cX6_childOf 4 (some .int) ∈ zTB := zi 384 (by decide +kernel) (by decide +kernel)
theorem kc_X6_isChild : Cond.code yX6_isChild cX6_isChild 2 (some .boolean) ∈ zTB := zi 388 (by decide +kernel) (by decide +kernel)
theorem kc_X6_tell : Cond.code yX6_tell cX6_tell 7 (some .int) ∈ zTB := zi 392 (by decide +kernel) (by decide +kernel)
theorem kc_X6_keeps : Cond.code yX6_keeps cX6_keeps 4 (some .int) ∈ zTB := zi 396 (by decide +kernel) (by decide +kernel)
theorem kc_X6_ask : Cond.code yX6_ask cX6_ask 4 (some .int) ∈ zTB := zi 400 (by decide +kernel) (by decide +kernel)
theorem kc_X6_garden : Cond.code yX6_garden cX6_garden 4 (some .int) ∈ zTB := zi 404 (by decide +kernel) (by decide +kernel)
theorem kc_X2_read : Cond.code yX2_read cX2_read 4 (some .int) ∈ zTB := zi 408 (by decide +kernel) (by decide +kernel)
theorem kc_X1_takeAll : Cond.code yX1_takeAll cX1_takeAll 3 none ∈ zTB := zi 412 (by decide +kernel) (by decide +kernel)
theorem kc_X4_takeShop : Cond.code yX4_takeShop cX4_takeShop 2 none ∈ zTB := zi 416 (by decide +kernel) (by decide +kernel)
theorem kc_X0_takeChild : Cond.code yX0_takeChild cX0_takeChild 2 none ∈ zTB := zi 420 (by decide +kernel) (by decide +kernel)
theorem kc_X3_asInt : Cond.code yX3_asInt cX3_asInt 2 (some .int) ∈ zTB := zi 424 (by decide +kernel) (by decide +kernel)
theorem kc_X2_readItem : Cond.code yX2_readItem cX2_readItem 1 none ∈ zTB := zi 428 (by decide +kernel) (by decide +kernel)
theorem kc_X2_next : Cond.code yX2_next cX2_next 1 (some .int) ∈ zTB := zi 432 (by decide +kernel) (by decide +kernel)
theorem kc_X2_readShop : Cond.code yX2_readShop cX2_readShop 5 none ∈ zTB := zi 436 (by decide +kernel) (by decide +kernel)
theorem kc_X2_readWord : Cond.code yX2_readWord cX2_readWord 3 none ∈ zTB := zi 441 (by decide +kernel) (by decide +kernel)
theorem kc_J0_length_8abf5 : Cond.code yJ0_length_8abf5 cJ0_length_8abf5 1 (some .int) ∈ zTB := zi 445 (by decide +kernel) (by decide +kernel)
theorem kc_J0_coder_7d493 : Cond.code yJ0_coder_7d493 cJ0_coder_7d493 1 (some .byte) ∈ zTB := zi 449 (by decide +kernel) (by decide +kernel)
theorem kc_J0_charAt_5068e : Cond.code yJ0_charAt_5068e cJ0_charAt_5068e 2 (some .char) ∈ zTB := zi 455 (by decide +kernel) (by decide +kernel)
theorem kc_J0_isLatin1_aae02 : Cond.code yJ0_isLatin1_aae02 cJ0_isLatin1_aae02 1 (some .boolean) ∈ zTB := zi 459 (by decide +kernel) (by decide +kernel)
theorem kc_J1_charAt_3b067 : Cond.code yJ1_charAt_3b067 cJ1_charAt_3b067 2 (some .char) ∈ zTB := zi 462 (by decide +kernel) (by decide +kernel)
theorem kc_J0_checkIndex_df160 : Cond.code yJ0_checkIndex_df160 cJ0_checkIndex_df160 2 none ∈ zTB := zi 465 (by decide +kernel) (by decide +kernel)
theorem kc_J3_checkIndex_8e157 : Cond.code yJ3_checkIndex_8e157 cJ3_checkIndex_8e157 3 (some .int) ∈ zTB := zi 470 (by decide +kernel) (by decide +kernel)
theorem kc_J2_charAt_3b067 : Cond.code yJ2_charAt_3b067 cJ2_charAt_3b067 2 (some .char) ∈ zTB := zi 473 (by decide +kernel) (by decide +kernel)
theorem kc_J2_checkIndex_2214a : Cond.code yJ2_checkIndex_2214a cJ2_checkIndex_2214a 2 none ∈ zTB := zi 476 (by decide +kernel) (by decide +kernel)
theorem kc_J2_length_9d52b : Cond.code yJ2_length_9d52b cJ2_length_9d52b 1 (some .int) ∈ zTB := zi 479 (by decide +kernel) (by decide +kernel)
theorem kc_J2_getChar_3b067 : Cond.code yJ2_getChar_3b067 cJ2_getChar_3b067 2 (some .char) ∈ zTB := zi 483 (by decide +kernel) (by decide +kernel)
theorem kc_X2_expect : Cond.code yX2_expect cX2_expect 2 none ∈ zTB := zi 493 (by decide +kernel) (by decide +kernel)
theorem kc_X2_blame : Cond.code yX2_blame cX2_blame 2 none ∈ zTB := zi 497 (by decide +kernel) (by decide +kernel)
theorem kc_X2_wantRoom : Cond.code yX2_wantRoom cX2_wantRoom 3 none ∈ zTB := zi 501 (by decide +kernel) (by decide +kernel)
theorem kc_X2_readNumber : Cond.code yX2_readNumber cX2_readNumber 5 (some .int) ∈ zTB := zi 505 (by decide +kernel) (by decide +kernel)
theorem kc_X2_readChild : Cond.code yX2_readChild cX2_readChild 4 none ∈ zTB := zi 510 (by decide +kernel) (by decide +kernel)
theorem kc_X2_readFeathers : Cond.code yX2_readFeathers cX2_readFeathers 3 none ∈ zTB := zi 516 (by decide +kernel) (by decide +kernel)
theorem kc_X2_readKeeps : Cond.code yX2_readKeeps cX2_readKeeps 3 none ∈ zTB := zi 521 (by decide +kernel) (by decide +kernel)
theorem kc_X2_readInk : Cond.code yX2_readInk cX2_readInk 2 none ∈ zTB := zi 526 (by decide +kernel) (by decide +kernel)
theorem kc_X2_readTree : Cond.code yX2_readTree cX2_readTree 2 none ∈ zTB := zi 531 (by decide +kernel) (by decide +kernel)
theorem kc_X2_readDeed : Cond.code yX2_readDeed cX2_readDeed 3 none ∈ zTB := zi 536 (by decide +kernel) (by decide +kernel)
theorem kc_X1_can : Cond.code yX1_can cX1_can 4 (some .boolean) ∈ zTB := zi 541 (by decide +kernel) (by decide +kernel)
theorem kc_X1_canBuy : Cond.code yX1_canBuy cX1_canBuy 4 (some .boolean) ∈ zTB := zi 546 (by decide +kernel) (by decide +kernel)
theorem kc_X4_takesStampsOnly : Cond.code yX4_takesStampsOnly cX4_takesStampsOnly 1 (some .boolean) ∈ zTB := zi 550 (by decide +kernel) (by decide +kernel)
theorem kc_X1_perform : Cond.code yX1_perform cX1_perform 6 none ∈ zTB := zi 554 (by decide +kernel) (by decide +kernel)
theorem kc_J9_min_7cf53 : Cond.code yJ9_min_7cf53 cJ9_min_7cf53 2 (some .int) ∈ zTB := zi 557 (by decide +kernel) (by decide +kernel)
theorem kc_X0_gain : Cond.code yX0_gain cX0_gain 3 none ∈ zTB := zi 561 (by decide +kernel) (by decide +kernel)
theorem kc_X1_buy : Cond.code yX1_buy cX1_buy 8 none ∈ zTB := zi 566 (by decide +kernel) (by decide +kernel)
theorem kc_X2_readNight : Cond.code yX2_readNight cX2_readNight 1 none ∈ zTB := zi 570 (by decide +kernel) (by decide +kernel)
theorem kc_X1_passNight : Cond.code yX1_passNight cX1_passNight 4 (some .int) ∈ zTB := zi 575 (by decide +kernel) (by decide +kernel)
theorem kc_X6_fault : Cond.code yX6_fault cX6_fault 1 (some .int) ∈ zTB := zi 581 (by decide +kernel) (by decide +kernel)
theorem kc_X6_may : Cond.code yX6_may cX6_may 4 (some .int) ∈ zTB := zi 585 (by decide +kernel) (by decide +kernel)
theorem kc_X6_behind : Cond.code yX6_behind cX6_behind 6 (some .int) ∈ zTB := zi 590 (by decide +kernel) (by decide +kernel)
theorem kc_X6_isRule : Cond.code yX6_isRule cX6_isRule 1 (some .boolean) ∈ zTB := zi 593 (by decide +kernel) (by decide +kernel)
theorem kc_X6_isTime : Cond.code yX6_isTime cX6_isTime 1 (some .boolean) ∈ zTB := zi 596 (by decide +kernel) (by decide +kernel)
theorem kc_X6_foresee : Cond.code yX6_foresee cX6_foresee 3 (some .int) ∈ zTB := zi 600 (by decide +kernel) (by decide +kernel)
theorem kc_X1_passMinutes : Cond.code yX1_passMinutes cX1_passMinutes 5 none ∈ zTB := zi 604 (by decide +kernel) (by decide +kernel)
theorem kc_X1_beginMinute : Cond.code yX1_beginMinute cX1_beginMinute 2 none ∈ zTB := zi 608 (by decide +kernel) (by decide +kernel)
theorem kc_X1_deedBy : Cond.code yX1_deedBy cX1_deedBy 7 (some .int) ∈ zTB := zi 612 (by decide +kernel) (by decide +kernel)
theorem kc_X1_cheapestFor : Cond.code yX1_cheapestFor cX1_cheapestFor 7 (some .int) ∈ zTB := zi 616 (by decide +kernel) (by decide +kernel)
theorem kc_X1_endMinute : Cond.code yX1_endMinute cX1_endMinute 2 none ∈ zTB := zi 621 (by decide +kernel) (by decide +kernel)
theorem kc_X6_asks : Cond.code yX6_asks cX6_asks 4 (some .int) ∈ zTB := zi 625 (by decide +kernel) (by decide +kernel)
theorem kc_X6_deals : Cond.code yX6_deals cX6_deals 5 (some .int) ∈ zTB := zi 629 (by decide +kernel) (by decide +kernel)
theorem kc_X6_runs : Cond.code yX6_runs cX6_runs 4 (some .int) ∈ zTB := zi 633 (by decide +kernel) (by decide +kernel)
theorem kc_J6_compare_7cf53 : Cond.code yJ6_compare_7cf53 cJ6_compare_7cf53 2 (some .int) ∈ zTB := zi 636 (by decide +kernel) (by decide +kernel)
theorem kc_X6_settles : Cond.code yX6_settles cX6_settles 3 (some .int) ∈ zTB := zi 640 (by decide +kernel) (by decide +kernel)
theorem kc_X6_settledBehind : Cond.code yX6_settledBehind cX6_settledBehind 4 (some .int) ∈ zTB := zi 644 (by decide +kernel) (by decide +kernel)
theorem kc_X1_noteAsked : Cond.code yX1_noteAsked cX1_noteAsked 4 (some .boolean) ∈ zTB := zi 648 (by decide +kernel) (by decide +kernel)
theorem kc_X6_stoppedFrom : Cond.code yX6_stoppedFrom cX6_stoppedFrom 5 (some .int) ∈ zTB := zi 652 (by decide +kernel) (by decide +kernel)
theorem kc_X6_picked : Cond.code yX6_picked cX6_picked 5 (some .int) ∈ zTB := zi 656 (by decide +kernel) (by decide +kernel)
theorem kc_X6_cheapest : Cond.code yX6_cheapest cX6_cheapest 3 (some .int) ∈ zTB := zi 660 (by decide +kernel) (by decide +kernel)
theorem kc_X6_money : Cond.code yX6_money cX6_money 6 (some .int) ∈ zTB := zi 664 (by decide +kernel) (by decide +kernel)
theorem kc_X6_inked : Cond.code yX6_inked cX6_inked 5 (some .int) ∈ zTB := zi 668 (by decide +kernel) (by decide +kernel)
theorem kc_X6_keepers : Cond.code yX6_keepers cX6_keepers 4 (some .int) ∈ zTB := zi 672 (by decide +kernel) (by decide +kernel)
theorem kc_X6_bestWay : Cond.code yX6_bestWay cX6_bestWay 7 (some .int) ∈ zTB := zi 676 (by decide +kernel) (by decide +kernel)
theorem kc_X6_dealsOfWay : Cond.code yX6_dealsOfWay cX6_dealsOfWay 5 (some .int) ∈ zTB := zi 680 (by decide +kernel) (by decide +kernel)
theorem kc_X6_keeperIn : Cond.code yX6_keeperIn cX6_keeperIn 7 (some .int) ∈ zTB := zi 684 (by decide +kernel) (by decide +kernel)
theorem kc_X6_bored : Cond.code yX6_bored cX6_bored 5 (some .int) ∈ zTB := zi 688 (by decide +kernel) (by decide +kernel)
theorem kc_X6_bank : Cond.code yX6_bank cX6_bank 4 (some .int) ∈ zTB := zi 692 (by decide +kernel) (by decide +kernel)
theorem kc_J9_max_7cf53 : Cond.code yJ9_max_7cf53 cJ9_max_7cf53 2 (some .int) ∈ zTB := zi 695 (by decide +kernel) (by decide +kernel)
theorem kc_X6_rot : Cond.code yX6_rot cX6_rot 3 (some .int) ∈ zTB := zi 699 (by decide +kernel) (by decide +kernel)
theorem kc_X6_trust : Cond.code yX6_trust cX6_trust 5 (some .int) ∈ zTB := zi 704 (by decide +kernel) (by decide +kernel)
theorem kc_X6_heap : Cond.code yX6_heap cX6_heap 4 (some .int) ∈ zTB := zi 709 (by decide +kernel) (by decide +kernel)
theorem kc_X6_judge : Cond.code yX6_judge cX6_judge 4 (some .int) ∈ zTB := zi 713 (by decide +kernel) (by decide +kernel)
theorem kc_X6_toldTrouble : Cond.code yX6_toldTrouble cX6_toldTrouble 4 (some .int) ∈ zTB := zi 717 (by decide +kernel) (by decide +kernel)
theorem kc_X6_wrongDeed : Cond.code yX6_wrongDeed cX6_wrongDeed 8 (some .int) ∈ zTB := zi 721 (by decide +kernel) (by decide +kernel)
theorem kc_X6_told : Cond.code yX6_told cX6_told 6 (some .int) ∈ zTB := zi 728 (by decide +kernel) (by decide +kernel)
theorem kc_X6_done : Cond.code yX6_done cX6_done 4 (some .int) ∈ zTB := zi 732 (by decide +kernel) (by decide +kernel)
theorem kc_X6_does : Cond.code yX6_does cX6_does 3 (some .int) ∈ zTB := zi 736 (by decide +kernel) (by decide +kernel)
theorem kc_X6_minute : Cond.code yX6_minute cX6_minute 2 (some .int) ∈ zTB := zi 740 (by decide +kernel) (by decide +kernel)
theorem kc_X6_night : Cond.code yX6_night cX6_night 1 (some .int) ∈ zTB := zi 744 (by decide +kernel) (by decide +kernel)
theorem kc_X6_afternoon : Cond.code yX6_afternoon cX6_afternoon 3 (some .int) ∈ zTB := zi 748 (by decide +kernel) (by decide +kernel)
theorem kc_X1_passDrawnMinutes : Cond.code yX1_passDrawnMinutes cX1_passDrawnMinutes 4 none ∈ zTB := zi 752 (by decide +kernel) (by decide +kernel)
theorem kc_X1_drawnDeed : Cond.code yX1_drawnDeed cX1_drawnDeed 2 (some .int) ∈ zTB := zi 756 (by decide +kernel) (by decide +kernel)
theorem kc_X6_seed : Cond.code yX6_seed cX6_seed 3 (some .int) ∈ zTB := zi 762 (by decide +kernel) (by decide +kernel)
theorem kc_X6_act : Cond.code yX6_act cX6_act 4 (some .int) ∈ zTB := zi 766 (by decide +kernel) (by decide +kernel)
theorem kc_X6_runBody : Cond.code yX6_runBody cX6_runBody 9 (some .int) ∈ zTB := zi 769 (by decide +kernel) (by decide +kernel)
theorem kc_X5_begin : Cond.code yX5_begin cX5_begin 2 none ∈ zTB := zi 776 (by decide +kernel) (by decide +kernel)
theorem kc_X6_trace : Cond.code yX6_trace cX6_trace 2 (some .int) ∈ zTB := zi 780 (by decide +kernel) (by decide +kernel)
theorem kc_X6_image : Cond.code yX6_image cX6_image 1 (some .int) ∈ zTB := zi 784 (by decide +kernel) (by decide +kernel)
theorem kc_X6_restore : Cond.code yX6_restore cX6_restore 2 (some .int) ∈ zTB := zi 788 (by decide +kernel) (by decide +kernel)
theorem kc_X6_status : Cond.code yX6_status cX6_status 2 (some .int) ∈ zTB := zi 792 (by decide +kernel) (by decide +kernel)
theorem kc_X7_init : Cond.code yX7_init cX7_init 1 none ∈ zTB := zi 797 (by decide +kernel) (by decide +kernel)
theorem kc_X7_row : Cond.code yX7_row cX7_row 5 (some .int) ∈ zTB := zi 947 (by decide +kernel) (by decide +kernel)
theorem kc_X7_isShelf : Cond.code yX7_isShelf cX7_isShelf 2 (some .boolean) ∈ zTB := zi 951 (by decide +kernel) (by decide +kernel)
theorem kc_X7_no : Cond.code yX7_no cX7_no 2 (some .int) ∈ zTB := zi 955 (by decide +kernel) (by decide +kernel)
theorem kc_X7_set : Cond.code yX7_set cX7_set 5 (some .int) ∈ zTB := zi 959 (by decide +kernel) (by decide +kernel)
theorem kc_X7_copy : Cond.code yX7_copy cX7_copy 7 (some .int) ∈ zTB := zi 963 (by decide +kernel) (by decide +kernel)
theorem kc_X7_element : Cond.code yX7_element cX7_element 3 (some .long) ∈ zTB := zi 967 (by decide +kernel) (by decide +kernel)
theorem kc_X7_show : Cond.code yX7_show cX7_show 3 (some .int) ∈ zTB := zi 971 (by decide +kernel) (by decide +kernel)
theorem kc_X7_isShop : Cond.code yX7_isShop cX7_isShop 2 (some .boolean) ∈ zTB := zi 975 (by decide +kernel) (by decide +kernel)
theorem kc_X7_holds : Cond.code yX7_holds cX7_holds 2 (some .int) ∈ zTB := zi 979 (by decide +kernel) (by decide +kernel)
theorem kc_X7_says : Cond.code yX7_says cX7_says 6 (some .int) ∈ zTB := zi 983 (by decide +kernel) (by decide +kernel)
theorem kc_X7_asked : Cond.code yX7_asked cX7_asked 4 (some .int) ∈ zTB := zi 987 (by decide +kernel) (by decide +kernel)
theorem kc_X7_shop : Cond.code yX7_shop cX7_shop 4 (some .int) ∈ zTB := zi 992 (by decide +kernel) (by decide +kernel)
theorem kc_X7_addsShop : Cond.code yX7_addsShop cX7_addsShop 4 (some .int) ∈ zTB := zi 996 (by decide +kernel) (by decide +kernel)
theorem kc_X7_child : Cond.code yX7_child cX7_child 3 (some .int) ∈ zTB := zi 1000 (by decide +kernel) (by decide +kernel)
theorem kc_X7_addsChild : Cond.code yX7_addsChild cX7_addsChild 3 (some .int) ∈ zTB := zi 1004 (by decide +kernel) (by decide +kernel)
theorem kc_X7_shopOf : Cond.code yX7_shopOf cX7_shopOf 3 (some .int) ∈ zTB := zi 1008 (by decide +kernel) (by decide +kernel)
theorem kc_X7_childOf : Cond.code yX7_childOf cX7_childOf 3 (some .int) ∈ zTB := zi 1012 (by decide +kernel) (by decide +kernel)
theorem kc_X7_isChild : Cond.code yX7_isChild cX7_isChild 2 (some .boolean) ∈ zTB := zi 1016 (by decide +kernel) (by decide +kernel)
theorem kc_X7_tell : Cond.code yX7_tell cX7_tell 5 (some .int) ∈ zTB := zi 1020 (by decide +kernel) (by decide +kernel)
theorem kc_X7_keeps : Cond.code yX7_keeps cX7_keeps 4 (some .int) ∈ zTB := zi 1024 (by decide +kernel) (by decide +kernel)
theorem kc_X7_noTen : Cond.code yX7_noTen cX7_noTen 2 (some .int) ∈ zTB := zi 1028 (by decide +kernel) (by decide +kernel)
theorem kc_X7_ask : Cond.code yX7_ask cX7_ask 4 (some .int) ∈ zTB := zi 1032 (by decide +kernel) (by decide +kernel)
theorem kc_X7_garden : Cond.code yX7_garden cX7_garden 5 (some .int) ∈ zTB := zi 1036 (by decide +kernel) (by decide +kernel)
theorem kc_X7_wanted : Cond.code yX7_wanted cX7_wanted 2 (some .int) ∈ zTB := zi 1040 (by decide +kernel) (by decide +kernel)
theorem kc_X7_all : Cond.code yX7_all cX7_all 4 none ∈ zTB := zi 1044 (by decide +kernel) (by decide +kernel)
theorem kc_X7_carries : Cond.code yX7_carries cX7_carries 6 (some .int) ∈ zTB := zi 1048 (by decide +kernel) (by decide +kernel)
theorem kc_X7_item : Cond.code yX7_item cX7_item 4 (some .boolean) ∈ zTB := zi 1052 (by decide +kernel) (by decide +kernel)
theorem kc_X7_stands : Cond.code yX7_stands cX7_stands 4 (some .boolean) ∈ zTB := zi 1056 (by decide +kernel) (by decide +kernel)
theorem kc_X7_wrong : Cond.code yX7_wrong cX7_wrong 2 (some .boolean) ∈ zTB := zi 1060 (by decide +kernel) (by decide +kernel)
theorem kc_X7_word : Cond.code yX7_word cX7_word 6 (some .int) ∈ zTB := zi 1064 (by decide +kernel) (by decide +kernel)
theorem kc_X7_reads : Cond.code yX7_reads cX7_reads 2 (some .boolean) ∈ zTB := zi 1068 (by decide +kernel) (by decide +kernel)
theorem kc_X7_isDigit : Cond.code yX7_isDigit cX7_isDigit 1 (some .boolean) ∈ zTB := zi 1072 (by decide +kernel) (by decide +kernel)
theorem kc_X7_isSo : Cond.code yX7_isSo cX7_isSo 3 (some .boolean) ∈ zTB := zi 1076 (by decide +kernel) (by decide +kernel)
theorem kc_X7_mayBe : Cond.code yX7_mayBe cX7_mayBe 3 (some .boolean) ∈ zTB := zi 1080 (by decide +kernel) (by decide +kernel)
theorem kc_X7_mayBuy : Cond.code yX7_mayBuy cX7_mayBuy 3 (some .boolean) ∈ zTB := zi 1084 (by decide +kernel) (by decide +kernel)
theorem kc_X7_isForStamps : Cond.code yX7_isForStamps cX7_isForStamps 2 (some .boolean) ∈ zTB := zi 1088 (by decide +kernel) (by decide +kernel)
theorem kc_X7_makes : Cond.code yX7_makes cX7_makes 4 none ∈ zTB := zi 1092 (by decide +kernel) (by decide +kernel)
theorem kc_X7_full : Cond.code yX7_full cX7_full 2 (some .int) ∈ zTB := zi 1096 (by decide +kernel) (by decide +kernel)
theorem kc_X7_buys : Cond.code yX7_buys cX7_buys 6 none ∈ zTB := zi 1100 (by decide +kernel) (by decide +kernel)
theorem kc_X7_rots : Cond.code yX7_rots cX7_rots 4 (some .int) ∈ zTB := zi 1104 (by decide +kernel) (by decide +kernel)
theorem kc_X7_fault : Cond.code yX7_fault cX7_fault 1 (some .int) ∈ zTB := zi 1108 (by decide +kernel) (by decide +kernel)
theorem kc_X7_may : Cond.code yX7_may cX7_may 4 (some .int) ∈ zTB := zi 1112 (by decide +kernel) (by decide +kernel)
theorem kc_X7_behind : Cond.code yX7_behind cX7_behind 6 (some .int) ∈ zTB := zi 1116 (by decide +kernel) (by decide +kernel)
theorem kc_X7_isAfternoon : Cond.code yX7_isAfternoon cX7_isAfternoon 3 (some .boolean) ∈ zTB := zi 1120 (by decide +kernel) (by decide +kernel)
theorem kc_X7_isRule : Cond.code yX7_isRule cX7_isRule 2 (some .boolean) ∈ zTB := zi 1124 (by decide +kernel) (by decide +kernel)
theorem kc_X7_tries : Cond.code yX7_tries cX7_tries 4 none ∈ zTB := zi 1128 (by decide +kernel) (by decide +kernel)
theorem kc_X7_livesOn : Cond.code yX7_livesOn cX7_livesOn 4 none ∈ zTB := zi 1132 (by decide +kernel) (by decide +kernel)
theorem kc_X7_lives : Cond.code yX7_lives cX7_lives 3 none ∈ zTB := zi 1136 (by decide +kernel) (by decide +kernel)
theorem kc_X7_begins : Cond.code yX7_begins cX7_begins 2 none ∈ zTB := zi 1140 (by decide +kernel) (by decide +kernel)
theorem kc_X7_ruled : Cond.code yX7_ruled cX7_ruled 4 (some .int) ∈ zTB := zi 1144 (by decide +kernel) (by decide +kernel)
theorem kc_X7_greed : Cond.code yX7_greed cX7_greed 5 (some .int) ∈ zTB := zi 1148 (by decide +kernel) (by decide +kernel)
theorem kc_X7_ends : Cond.code yX7_ends cX7_ends 2 none ∈ zTB := zi 1152 (by decide +kernel) (by decide +kernel)
theorem kc_X7_takesBack : Cond.code yX7_takesBack cX7_takesBack 1 none ∈ zTB := zi 1156 (by decide +kernel) (by decide +kernel)
theorem kc_X7_asks : Cond.code yX7_asks cX7_asks 4 (some .int) ∈ zTB := zi 1160 (by decide +kernel) (by decide +kernel)
theorem kc_X7_askedBehind : Cond.code yX7_askedBehind cX7_askedBehind 5 (some .int) ∈ zTB := zi 1164 (by decide +kernel) (by decide +kernel)
theorem kc_X7_deals : Cond.code yX7_deals cX7_deals 5 (some .int) ∈ zTB := zi 1168 (by decide +kernel) (by decide +kernel)
theorem kc_X7_runs : Cond.code yX7_runs cX7_runs 6 (some .int) ∈ zTB := zi 1172 (by decide +kernel) (by decide +kernel)
theorem kc_X7_settles : Cond.code yX7_settles cX7_settles 7 (some .int) ∈ zTB := zi 1176 (by decide +kernel) (by decide +kernel)
theorem kc_X7_changes : Cond.code yX7_changes cX7_changes 3 (some .boolean) ∈ zTB := zi 1180 (by decide +kernel) (by decide +kernel)
theorem kc_X7_picked : Cond.code yX7_picked cX7_picked 3 (some .int) ∈ zTB := zi 1184 (by decide +kernel) (by decide +kernel)
theorem kc_X7_cheapest : Cond.code yX7_cheapest cX7_cheapest 3 (some .int) ∈ zTB := zi 1188 (by decide +kernel) (by decide +kernel)
theorem kc_X7_money : Cond.code yX7_money cX7_money 6 (some .int) ∈ zTB := zi 1192 (by decide +kernel) (by decide +kernel)
theorem kc_X7_dealsIn : Cond.code yX7_dealsIn cX7_dealsIn 3 (some .int) ∈ zTB := zi 1196 (by decide +kernel) (by decide +kernel)
theorem kc_X7_inked : Cond.code yX7_inked cX7_inked 7 (some .int) ∈ zTB := zi 1200 (by decide +kernel) (by decide +kernel)
theorem kc_X7_keepers : Cond.code yX7_keepers cX7_keepers 4 (some .int) ∈ zTB := zi 1204 (by decide +kernel) (by decide +kernel)
theorem kc_X7_gives : Cond.code yX7_gives cX7_gives 6 none ∈ zTB := zi 1208 (by decide +kernel) (by decide +kernel)
theorem kc_X7_bored : Cond.code yX7_bored cX7_bored 5 (some .int) ∈ zTB := zi 1212 (by decide +kernel) (by decide +kernel)
theorem kc_X7_bank : Cond.code yX7_bank cX7_bank 4 (some .int) ∈ zTB := zi 1216 (by decide +kernel) (by decide +kernel)
theorem kc_X7_rot : Cond.code yX7_rot cX7_rot 4 (some .int) ∈ zTB := zi 1220 (by decide +kernel) (by decide +kernel)
theorem kc_X7_trust : Cond.code yX7_trust cX7_trust 7 (some .int) ∈ zTB := zi 1224 (by decide +kernel) (by decide +kernel)
theorem kc_X7_judge : Cond.code yX7_judge cX7_judge 5 (some .int) ∈ zTB := zi 1228 (by decide +kernel) (by decide +kernel)
theorem kc_X7_barsOf : Cond.code yX7_barsOf cX7_barsOf 4 (some .int) ∈ zTB := zi 1232 (by decide +kernel) (by decide +kernel)
theorem kc_X7_wrongIn : Cond.code yX7_wrongIn cX7_wrongIn 7 (some .int) ∈ zTB := zi 1236 (by decide +kernel) (by decide +kernel)
theorem kc_X7_intAt : Cond.code yX7_intAt cX7_intAt 3 (some .int) ∈ zTB := zi 1240 (by decide +kernel) (by decide +kernel)
theorem kc_X7_told : Cond.code yX7_told cX7_told 8 (some .int) ∈ zTB := zi 1244 (by decide +kernel) (by decide +kernel)
theorem kc_X7_done : Cond.code yX7_done cX7_done 4 (some .int) ∈ zTB := zi 1248 (by decide +kernel) (by decide +kernel)
theorem kc_X7_heap : Cond.code yX7_heap cX7_heap 5 (some .int) ∈ zTB := zi 1252 (by decide +kernel) (by decide +kernel)
theorem kc_X7_does : Cond.code yX7_does cX7_does 3 (some .int) ∈ zTB := zi 1256 (by decide +kernel) (by decide +kernel)
theorem kc_X7_minute : Cond.code yX7_minute cX7_minute 2 (some .int) ∈ zTB := zi 1260 (by decide +kernel) (by decide +kernel)
theorem kc_X7_night : Cond.code yX7_night cX7_night 1 (some .int) ∈ zTB := zi 1264 (by decide +kernel) (by decide +kernel)
theorem kc_X7_afternoon : Cond.code yX7_afternoon cX7_afternoon 7 (some .int) ∈ zTB := zi 1268 (by decide +kernel) (by decide +kernel)
theorem kc_X7_draw : Cond.code yX7_draw cX7_draw 2 (some .int) ∈ zTB := zi 1272 (by decide +kernel) (by decide +kernel)
theorem kc_X7_seed : Cond.code yX7_seed cX7_seed 3 (some .int) ∈ zTB := zi 1277 (by decide +kernel) (by decide +kernel)
theorem kc_X7_act : Cond.code yX7_act cX7_act 4 (some .int) ∈ zTB := zi 1281 (by decide +kernel) (by decide +kernel)
theorem kc_X7_asking : Cond.code yX7_asking cX7_asking 5 (some .int) ∈ zTB := zi 1285 (by decide +kernel) (by decide +kernel)
theorem kc_X7_body : Cond.code yX7_body cX7_body 2 none ∈ zTB := zi 1289 (by decide +kernel) (by decide +kernel)
theorem kc_X7_selling : Cond.code yX7_selling cX7_selling 7 (some .int) ∈ zTB := zi 1293 (by decide +kernel) (by decide +kernel)
theorem kc_X7_shutting : Cond.code yX7_shutting cX7_shutting 5 (some .int) ∈ zTB := zi 1297 (by decide +kernel) (by decide +kernel)
theorem kc_X7_trace : Cond.code yX7_trace cX7_trace 2 (some .int) ∈ zTB := zi 1301 (by decide +kernel) (by decide +kernel)
theorem kc_X7_image : Cond.code yX7_image cX7_image 1 (some .int) ∈ zTB := zi 1305 (by decide +kernel) (by decide +kernel)
theorem kc_X7_restore : Cond.code yX7_restore cX7_restore 2 (some .int) ∈ zTB := zi 1309 (by decide +kernel) (by decide +kernel)
theorem kc_X7_status : Cond.code yX7_status cX7_status 2 (some .int) ∈ zTB := zi 1313 (by decide +kernel) (by decide +kernel)
theorem ks_J2_charAt_3b067 : Cond.static yJ2_charAt_3b067 ∈ zTB := zi 472 (by decide +kernel) (by decide +kernel)
theorem ks_J1_charAt_3b067 : Cond.static yJ1_charAt_3b067 ∈ zTB := zi 461 (by decide +kernel) (by decide +kernel)
theorem ks_J2_checkIndex_2214a : Cond.static yJ2_checkIndex_2214a ∈ zTB := zi 475 (by decide +kernel) (by decide +kernel)
theorem ks_J2_length_9d52b : Cond.static yJ2_length_9d52b ∈ zTB := zi 478 (by decide +kernel) (by decide +kernel)
theorem ks_J9_max_7cf53 : Cond.static yJ9_max_7cf53 ∈ zTB := zi 694 (by decide +kernel) (by decide +kernel)
theorem ks_X6_isTime : Cond.static yX6_isTime ∈ zTB := zi 595 (by decide +kernel) (by decide +kernel)
theorem ks_X6_runBody : Cond.static yX6_runBody ∈ zTB := zi 768 (by decide +kernel) (by decide +kernel)
theorem ks_J9_min_f86c9 : Cond.static yJ9_min_f86c9 ∈ zTB := zi 347 (by decide +kernel) (by decide +kernel)
theorem ks_X6_isRule : Cond.static yX6_isRule ∈ zTB := zi 592 (by decide +kernel) (by decide +kernel)
theorem ks_J9_max_f86c9 : Cond.static yJ9_max_f86c9 ∈ zTB := zi 350 (by decide +kernel) (by decide +kernel)
theorem ks_J7_fill_d0a16 : Cond.static yJ7_fill_d0a16 ∈ zTB := zi 270 (by decide +kernel) (by decide +kernel)
theorem ks_J2_getChar_3b067 : Cond.static yJ2_getChar_3b067 ∈ zTB := zi 482 (by decide +kernel) (by decide +kernel)
theorem ks_X6_isKind : Cond.static yX6_isKind ∈ zTB := zi 328 (by decide +kernel) (by decide +kernel)
theorem ks_J3_checkIndex_8e157 : Cond.static yJ3_checkIndex_8e157 ∈ zTB := zi 469 (by decide +kernel) (by decide +kernel)
theorem ks_J0_checkIndex_df160 : Cond.static yJ0_checkIndex_df160 ∈ zTB := zi 464 (by decide +kernel) (by decide +kernel)
theorem ks_X6_isShelf : Cond.static yX6_isShelf ∈ zTB := zi 259 (by decide +kernel) (by decide +kernel)
theorem ks_J6_compare_7cf53 : Cond.static yJ6_compare_7cf53 ∈ zTB := zi 635 (by decide +kernel) (by decide +kernel)
theorem ks_J9_min_7cf53 : Cond.static yJ9_min_7cf53 ∈ zTB := zi 556 (by decide +kernel) (by decide +kernel)
theorem kn_X6_settles : Cond.instanceMethod yX6_settles ∈ zTB := zi 638 (by decide +kernel) (by decide +kernel)
theorem kn_X6_may : Cond.instanceMethod yX6_may ∈ zTB := zi 583 (by decide +kernel) (by decide +kernel)
theorem kn_X7_asking : Cond.instanceMethod yX7_asking ∈ zTB := zi 1284 (by decide +kernel) (by decide +kernel)
theorem kn_X1_beginMinute : Cond.instanceMethod yX1_beginMinute ∈ zTB := zi 606 (by decide +kernel) (by decide +kernel)
theorem kn_X6_judge : Cond.instanceMethod yX6_judge ∈ zTB := zi 711 (by decide +kernel) (by decide +kernel)
theorem kn_X7_greed : Cond.instanceMethod yX7_greed ∈ zTB := zi 1147 (by decide +kernel) (by decide +kernel)
theorem kn_X6_child : Cond.instanceMethod yX6_child ∈ zTB := zi 365 (by decide +kernel) (by decide +kernel)
theorem kn_X6_bestWay : Cond.instanceMethod yX6_bestWay ∈ zTB := zi 675 (by decide +kernel) (by decide +kernel)
theorem kn_J0_length_8abf5 : Cond.instanceMethod yJ0_length_8abf5 ∈ zTB := zi 443 (by decide +kernel) (by decide +kernel)
theorem kn_X6_toldTrouble : Cond.instanceMethod yX6_toldTrouble ∈ zTB := zi 716 (by decide +kernel) (by decide +kernel)
theorem kn_X7_bored : Cond.instanceMethod yX7_bored ∈ zTB := zi 1210 (by decide +kernel) (by decide +kernel)
theorem kn_X7_reads : Cond.instanceMethod yX7_reads ∈ zTB := zi 1067 (by decide +kernel) (by decide +kernel)
theorem kn_X6_set : Cond.instanceMethod yX6_set ∈ zTB := zi 273 (by decide +kernel) (by decide +kernel)
theorem kn_X6_tell : Cond.instanceMethod yX6_tell ∈ zTB := zi 390 (by decide +kernel) (by decide +kernel)
theorem kn_X4_takeShop : Cond.instanceMethod yX4_takeShop ∈ zTB := zi 414 (by decide +kernel) (by decide +kernel)
theorem kn_X7_settles : Cond.instanceMethod yX7_settles ∈ zTB := zi 1174 (by decide +kernel) (by decide +kernel)
theorem kn_X1_addChild : Cond.instanceMethod yX1_addChild ∈ zTB := zi 369 (by decide +kernel) (by decide +kernel)
theorem kn_X7_intAt : Cond.instanceMethod yX7_intAt ∈ zTB := zi 1239 (by decide +kernel) (by decide +kernel)
theorem kn_X6_isShop : Cond.instanceMethod yX6_isShop ∈ zTB := zi 313 (by decide +kernel) (by decide +kernel)
theorem kn_X7_draw : Cond.instanceMethod yX7_draw ∈ zTB := zi 1271 (by decide +kernel) (by decide +kernel)
theorem kn_X1_deedBy : Cond.instanceMethod yX1_deedBy ∈ zTB := zi 610 (by decide +kernel) (by decide +kernel)
theorem kn_X7_init : Cond.instanceMethod yX7_init ∈ zTB := zi 796 (by decide +kernel) (by decide +kernel)
theorem kn_X6_ask : Cond.instanceMethod yX6_ask ∈ zTB := zi 398 (by decide +kernel) (by decide +kernel)
theorem kn_X0_come : Cond.instanceMethod yX0_come ∈ zTB := zi 373 (by decide +kernel) (by decide +kernel)
theorem kn_X7_begins : Cond.instanceMethod yX7_begins ∈ zTB := zi 1139 (by decide +kernel) (by decide +kernel)
theorem kn_X7_heap : Cond.instanceMethod yX7_heap ∈ zTB := zi 1250 (by decide +kernel) (by decide +kernel)
theorem kn_X4_asksNow : Cond.instanceMethod yX4_asksNow ∈ zTB := zi 342 (by decide +kernel) (by decide +kernel)
theorem kn_X7_inked : Cond.instanceMethod yX7_inked ∈ zTB := zi 1198 (by decide +kernel) (by decide +kernel)
theorem kn_X7_says : Cond.instanceMethod yX7_says ∈ zTB := zi 981 (by decide +kernel) (by decide +kernel)
theorem kn_X7_isChild : Cond.instanceMethod yX7_isChild ∈ zTB := zi 1015 (by decide +kernel) (by decide +kernel)
theorem kn_X2_init : Cond.instanceMethod yX2_init ∈ zTB := zi 159 (by decide +kernel) (by decide +kernel)
theorem kn_X3_init : Cond.instanceMethod yX3_init ∈ zTB := zi 211 (by decide +kernel) (by decide +kernel)
theorem kn_X6_says : Cond.instanceMethod yX6_says ∈ zTB := zi 324 (by decide +kernel) (by decide +kernel)
theorem kn_X6_init : Cond.instanceMethod yX6_init ∈ zTB := zi 20 (by decide +kernel) (by decide +kernel)
theorem kn_X1_takeAll : Cond.instanceMethod yX1_takeAll ∈ zTB := zi 410 (by decide +kernel) (by decide +kernel)
theorem kn_X7_makes : Cond.instanceMethod yX7_makes ∈ zTB := zi 1091 (by decide +kernel) (by decide +kernel)
theorem kn_X7_trust : Cond.instanceMethod yX7_trust ∈ zTB := zi 1222 (by decide +kernel) (by decide +kernel)
theorem kn_X0_gain : Cond.instanceMethod yX0_gain ∈ zTB := zi 559 (by decide +kernel) (by decide +kernel)
theorem kn_X7_full : Cond.instanceMethod yX7_full ∈ zTB := zi 1095 (by decide +kernel) (by decide +kernel)
theorem kn_X7_show : Cond.instanceMethod yX7_show ∈ zTB := zi 969 (by decide +kernel) (by decide +kernel)
theorem kn_X6_restore : Cond.instanceMethod yX6_restore ∈ zTB := zi 786 (by decide +kernel) (by decide +kernel)
theorem kn_X7_ask : Cond.instanceMethod yX7_ask ∈ zTB := zi 1030 (by decide +kernel) (by decide +kernel)
theorem kn_X1_endMinute : Cond.instanceMethod yX1_endMinute ∈ zTB := zi 619 (by decide +kernel) (by decide +kernel)
theorem kn_X2_readItem : Cond.instanceMethod yX2_readItem ∈ zTB := zi 426 (by decide +kernel) (by decide +kernel)
theorem kn_X7_element : Cond.instanceMethod yX7_element ∈ zTB := zi 965 (by decide +kernel) (by decide +kernel)
theorem kn_X1_passNight : Cond.instanceMethod yX1_passNight ∈ zTB := zi 573 (by decide +kernel) (by decide +kernel)
theorem kn_X6_refuse : Cond.instanceMethod yX6_refuse ∈ zTB := zi 263 (by decide +kernel) (by decide +kernel)
theorem kn_X7_addsChild : Cond.instanceMethod yX7_addsChild ∈ zTB := zi 1003 (by decide +kernel) (by decide +kernel)
theorem kn_X5_init : Cond.instanceMethod yX5_init ∈ zTB := zi 188 (by decide +kernel) (by decide +kernel)
theorem kn_X7_wrongIn : Cond.instanceMethod yX7_wrongIn ∈ zTB := zi 1235 (by decide +kernel) (by decide +kernel)
theorem kn_X7_isRule : Cond.instanceMethod yX7_isRule ∈ zTB := zi 1123 (by decide +kernel) (by decide +kernel)
theorem kn_X7_does : Cond.instanceMethod yX7_does ∈ zTB := zi 1254 (by decide +kernel) (by decide +kernel)
theorem kn_X7_tell : Cond.instanceMethod yX7_tell ∈ zTB := zi 1018 (by decide +kernel) (by decide +kernel)
theorem kn_X7_wanted : Cond.instanceMethod yX7_wanted ∈ zTB := zi 1039 (by decide +kernel) (by decide +kernel)
theorem kn_X7_picked : Cond.instanceMethod yX7_picked ∈ zTB := zi 1182 (by decide +kernel) (by decide +kernel)
theorem kn_X7_row : Cond.instanceMethod yX7_row ∈ zTB := zi 945 (by decide +kernel) (by decide +kernel)
theorem kn_X6_bank : Cond.instanceMethod yX6_bank ∈ zTB := zi 690 (by decide +kernel) (by decide +kernel)
theorem kn_X6_shop : Cond.instanceMethod yX6_shop ∈ zTB := zi 353 (by decide +kernel) (by decide +kernel)
theorem kn_X7_isSo : Cond.instanceMethod yX7_isSo ∈ zTB := zi 1075 (by decide +kernel) (by decide +kernel)
theorem kn_X7_mayBuy : Cond.instanceMethod yX7_mayBuy ∈ zTB := zi 1083 (by decide +kernel) (by decide +kernel)
theorem kn_X7_trace : Cond.instanceMethod yX7_trace ∈ zTB := zi 1299 (by decide +kernel) (by decide +kernel)
theorem kn_X1_passMinutes : Cond.instanceMethod yX1_passMinutes ∈ zTB := zi 602 (by decide +kernel) (by decide +kernel)
theorem kn_X6_row : Cond.instanceMethod yX6_row ∈ zTB := zi 255 (by decide +kernel) (by decide +kernel)
theorem kn_X7_addsShop : Cond.instanceMethod yX7_addsShop ∈ zTB := zi 995 (by decide +kernel) (by decide +kernel)
theorem kn_X2_readKeeps : Cond.instanceMethod yX2_readKeeps ∈ zTB := zi 519 (by decide +kernel) (by decide +kernel)
theorem kn_X3_layRow : Cond.instanceMethod yX3_layRow ∈ zTB := zi 266 (by decide +kernel) (by decide +kernel)
theorem kn_X7_rots : Cond.instanceMethod yX7_rots ∈ zTB := zi 1103 (by decide +kernel) (by decide +kernel)
theorem kn_X7_wrong : Cond.instanceMethod yX7_wrong ∈ zTB := zi 1059 (by decide +kernel) (by decide +kernel)
theorem kn_X1_drawnDeed : Cond.instanceMethod yX1_drawnDeed ∈ zTB := zi 754 (by decide +kernel) (by decide +kernel)
theorem kn_X1_canBuy : Cond.instanceMethod yX1_canBuy ∈ zTB := zi 544 (by decide +kernel) (by decide +kernel)
theorem kn_J0_coder_7d493 : Cond.instanceMethod yJ0_coder_7d493 ∈ zTB := zi 447 (by decide +kernel) (by decide +kernel)
theorem kn_X6_inked : Cond.instanceMethod yX6_inked ∈ zTB := zi 666 (by decide +kernel) (by decide +kernel)
theorem kn_X7_shopOf : Cond.instanceMethod yX7_shopOf ∈ zTB := zi 1006 (by decide +kernel) (by decide +kernel)
theorem kn_X7_deals : Cond.instanceMethod yX7_deals ∈ zTB := zi 1166 (by decide +kernel) (by decide +kernel)
theorem kn_X4_init : Cond.instanceMethod yX4_init ∈ zTB := zi 39 (by decide +kernel) (by decide +kernel)
theorem kn_X2_readNumber : Cond.instanceMethod yX2_readNumber ∈ zTB := zi 503 (by decide +kernel) (by decide +kernel)
theorem kn_X7_dealsIn : Cond.instanceMethod yX7_dealsIn ∈ zTB := zi 1195 (by decide +kernel) (by decide +kernel)
theorem kn_X7_money : Cond.instanceMethod yX7_money ∈ zTB := zi 1190 (by decide +kernel) (by decide +kernel)
theorem kn_X6_minute : Cond.instanceMethod yX6_minute ∈ zTB := zi 738 (by decide +kernel) (by decide +kernel)
theorem kn_X7_copy : Cond.instanceMethod yX7_copy ∈ zTB := zi 961 (by decide +kernel) (by decide +kernel)
theorem kn_X2_wantRoom : Cond.instanceMethod yX2_wantRoom ∈ zTB := zi 499 (by decide +kernel) (by decide +kernel)
theorem kn_X7_set : Cond.instanceMethod yX7_set ∈ zTB := zi 957 (by decide +kernel) (by decide +kernel)
theorem kn_X7_cheapest : Cond.instanceMethod yX7_cheapest ∈ zTB := zi 1186 (by decide +kernel) (by decide +kernel)
theorem kn_X6_asks : Cond.instanceMethod yX6_asks ∈ zTB := zi 623 (by decide +kernel) (by decide +kernel)
theorem kn_X7_no : Cond.instanceMethod yX7_no ∈ zTB := zi 954 (by decide +kernel) (by decide +kernel)
theorem kn_X6_behind : Cond.instanceMethod yX6_behind ∈ zTB := zi 588 (by decide +kernel) (by decide +kernel)
theorem kn_X1_init : Cond.instanceMethod yX1_init ∈ zTB := zi 30 (by decide +kernel) (by decide +kernel)
theorem kn_X6_dealsOfWay : Cond.instanceMethod yX6_dealsOfWay ∈ zTB := zi 679 (by decide +kernel) (by decide +kernel)
theorem kn_X3_put : Cond.instanceMethod yX3_put ∈ zTB := zi 289 (by decide +kernel) (by decide +kernel)
theorem kn_X7_judge : Cond.instanceMethod yX7_judge ∈ zTB := zi 1226 (by decide +kernel) (by decide +kernel)
theorem kn_X6_bored : Cond.instanceMethod yX6_bored ∈ zTB := zi 686 (by decide +kernel) (by decide +kernel)
theorem kn_X1_cheapestFor : Cond.instanceMethod yX1_cheapestFor ∈ zTB := zi 614 (by decide +kernel) (by decide +kernel)
theorem kn_X6_stoppedFrom : Cond.instanceMethod yX6_stoppedFrom ∈ zTB := zi 651 (by decide +kernel) (by decide +kernel)
theorem kn_X6_told : Cond.instanceMethod yX6_told ∈ zTB := zi 726 (by decide +kernel) (by decide +kernel)
theorem kn_X6_does : Cond.instanceMethod yX6_does ∈ zTB := zi 734 (by decide +kernel) (by decide +kernel)
theorem kn_X1_noteAsked : Cond.instanceMethod yX1_noteAsked ∈ zTB := zi 646 (by decide +kernel) (by decide +kernel)
theorem kn_X6_foresee : Cond.instanceMethod yX6_foresee ∈ zTB := zi 599 (by decide +kernel) (by decide +kernel)
theorem kn_X7_isDigit : Cond.instanceMethod yX7_isDigit ∈ zTB := zi 1071 (by decide +kernel) (by decide +kernel)
theorem kn_J0_isLatin1_aae02 : Cond.instanceMethod yJ0_isLatin1_aae02 ∈ zTB := zi 457 (by decide +kernel) (by decide +kernel)
theorem kn_X7_isForStamps : Cond.instanceMethod yX7_isForStamps ∈ zTB := zi 1087 (by decide +kernel) (by decide +kernel)
theorem kn_X7_takesBack : Cond.instanceMethod yX7_takesBack ∈ zTB := zi 1155 (by decide +kernel) (by decide +kernel)
theorem kn_X6_trace : Cond.instanceMethod yX6_trace ∈ zTB := zi 778 (by decide +kernel) (by decide +kernel)
theorem kn_X2_read : Cond.instanceMethod yX2_read ∈ zTB := zi 406 (by decide +kernel) (by decide +kernel)
theorem kn_X7_barsOf : Cond.instanceMethod yX7_barsOf ∈ zTB := zi 1231 (by decide +kernel) (by decide +kernel)
theorem kn_X6_picked : Cond.instanceMethod yX6_picked ∈ zTB := zi 654 (by decide +kernel) (by decide +kernel)
theorem kn_X7_ruled : Cond.instanceMethod yX7_ruled ∈ zTB := zi 1143 (by decide +kernel) (by decide +kernel)
theorem kn_X7_keepers : Cond.instanceMethod yX7_keepers ∈ zTB := zi 1202 (by decide +kernel) (by decide +kernel)
theorem kn_X7_done : Cond.instanceMethod yX7_done ∈ zTB := zi 1246 (by decide +kernel) (by decide +kernel)
theorem kn_X7_isShop : Cond.instanceMethod yX7_isShop ∈ zTB := zi 974 (by decide +kernel) (by decide +kernel)
theorem kn_X6_deals : Cond.instanceMethod yX6_deals ∈ zTB := zi 627 (by decide +kernel) (by decide +kernel)
theorem kn_X6_seed : Cond.instanceMethod yX6_seed ∈ zTB := zi 760 (by decide +kernel) (by decide +kernel)
theorem kn_X2_readTree : Cond.instanceMethod yX2_readTree ∈ zTB := zi 529 (by decide +kernel) (by decide +kernel)
theorem kn_X3_hold : Cond.instanceMethod yX3_hold ∈ zTB := zi 316 (by decide +kernel) (by decide +kernel)
theorem kn_X6_garden : Cond.instanceMethod yX6_garden ∈ zTB := zi 402 (by decide +kernel) (by decide +kernel)
theorem kn_X6_keepers : Cond.instanceMethod yX6_keepers ∈ zTB := zi 670 (by decide +kernel) (by decide +kernel)
theorem kn_X7_asks : Cond.instanceMethod yX7_asks ∈ zTB := zi 1158 (by decide +kernel) (by decide +kernel)
theorem kn_X7_minute : Cond.instanceMethod yX7_minute ∈ zTB := zi 1258 (by decide +kernel) (by decide +kernel)
theorem kn_X7_bank : Cond.instanceMethod yX7_bank ∈ zTB := zi 1214 (by decide +kernel) (by decide +kernel)
theorem kn_X6_keeps : Cond.instanceMethod yX6_keeps ∈ zTB := zi 394 (by decide +kernel) (by decide +kernel)
theorem kn_X7_status : Cond.instanceMethod yX7_status ∈ zTB := zi 1311 (by decide +kernel) (by decide +kernel)
theorem kn_X7_all : Cond.instanceMethod yX7_all ∈ zTB := zi 1043 (by decide +kernel) (by decide +kernel)
theorem kn_X7_asked : Cond.instanceMethod yX7_asked ∈ zTB := zi 986 (by decide +kernel) (by decide +kernel)
theorem kn_X7_shutting : Cond.instanceMethod yX7_shutting ∈ zTB := zi 1296 (by decide +kernel) (by decide +kernel)
theorem kn_X6_fault : Cond.instanceMethod yX6_fault ∈ zTB := zi 579 (by decide +kernel) (by decide +kernel)
theorem kn_X2_readDeed : Cond.instanceMethod yX2_readDeed ∈ zTB := zi 534 (by decide +kernel) (by decide +kernel)
theorem kn_X6_done : Cond.instanceMethod yX6_done ∈ zTB := zi 730 (by decide +kernel) (by decide +kernel)
theorem kn_X7_child : Cond.instanceMethod yX7_child ∈ zTB := zi 998 (by decide +kernel) (by decide +kernel)
theorem kn_J0_charAt_5068e : Cond.instanceMethod yJ0_charAt_5068e ∈ zTB := zi 453 (by decide +kernel) (by decide +kernel)
theorem kn_X7_act : Cond.instanceMethod yX7_act ∈ zTB := zi 1279 (by decide +kernel) (by decide +kernel)
theorem kn_X6_settledBehind : Cond.instanceMethod yX6_settledBehind ∈ zTB := zi 643 (by decide +kernel) (by decide +kernel)
theorem kn_X6_rowTrouble : Cond.instanceMethod yX6_rowTrouble ∈ zTB := zi 278 (by decide +kernel) (by decide +kernel)
theorem kn_X4_isOf : Cond.instanceMethod yX4_isOf ∈ zTB := zi 331 (by decide +kernel) (by decide +kernel)
theorem kn_X7_holds : Cond.instanceMethod yX7_holds ∈ zTB := zi 977 (by decide +kernel) (by decide +kernel)
theorem kn_X3_hasShop : Cond.instanceMethod yX3_hasShop ∈ zTB := zi 281 (by decide +kernel) (by decide +kernel)
theorem kn_X0_takeChild : Cond.instanceMethod yX0_takeChild ∈ zTB := zi 418 (by decide +kernel) (by decide +kernel)
theorem kn_X6_night : Cond.instanceMethod yX6_night ∈ zTB := zi 742 (by decide +kernel) (by decide +kernel)
theorem kn_X7_image : Cond.instanceMethod yX7_image ∈ zTB := zi 1303 (by decide +kernel) (by decide +kernel)
theorem kn_X7_may : Cond.instanceMethod yX7_may ∈ zTB := zi 1110 (by decide +kernel) (by decide +kernel)
theorem kn_X7_body : Cond.instanceMethod yX7_body ∈ zTB := zi 1288 (by decide +kernel) (by decide +kernel)
theorem kn_X6_runs : Cond.instanceMethod yX6_runs ∈ zTB := zi 631 (by decide +kernel) (by decide +kernel)
theorem kn_X6_keeperIn : Cond.instanceMethod yX6_keeperIn ∈ zTB := zi 683 (by decide +kernel) (by decide +kernel)
theorem kn_X7_buys : Cond.instanceMethod yX7_buys ∈ zTB := zi 1099 (by decide +kernel) (by decide +kernel)
theorem kn_X6_cheapest : Cond.instanceMethod yX6_cheapest ∈ zTB := zi 658 (by decide +kernel) (by decide +kernel)
theorem kn_X6_afternoon : Cond.instanceMethod yX6_afternoon ∈ zTB := zi 746 (by decide +kernel) (by decide +kernel)
theorem kn_X2_readInk : Cond.instanceMethod yX2_readInk ∈ zTB := zi 524 (by decide +kernel) (by decide +kernel)
theorem kn_X6_show : Cond.instanceMethod yX6_show ∈ zTB := zi 308 (by decide +kernel) (by decide +kernel)
theorem kn_X7_runs : Cond.instanceMethod yX7_runs ∈ zTB := zi 1170 (by decide +kernel) (by decide +kernel)
theorem kn_X7_rot : Cond.instanceMethod yX7_rot ∈ zTB := zi 1218 (by decide +kernel) (by decide +kernel)
theorem kn_X2_readWord : Cond.instanceMethod yX2_readWord ∈ zTB := zi 439 (by decide +kernel) (by decide +kernel)
theorem kn_X2_blame : Cond.instanceMethod yX2_blame ∈ zTB := zi 495 (by decide +kernel) (by decide +kernel)
theorem kn_X1_buy : Cond.instanceMethod yX1_buy ∈ zTB := zi 564 (by decide +kernel) (by decide +kernel)
theorem kn_X7_told : Cond.instanceMethod yX7_told ∈ zTB := zi 1242 (by decide +kernel) (by decide +kernel)
theorem kn_X7_keeps : Cond.instanceMethod yX7_keeps ∈ zTB := zi 1022 (by decide +kernel) (by decide +kernel)
theorem kn_X6_money : Cond.instanceMethod yX6_money ∈ zTB := zi 662 (by decide +kernel) (by decide +kernel)
theorem kn_X0_init : Cond.instanceMethod yX0_init ∈ zTB := zi 74 (by decide +kernel) (by decide +kernel)
theorem kn_X6_act : Cond.instanceMethod yX6_act ∈ zTB := zi 764 (by decide +kernel) (by decide +kernel)
theorem kn_X2_readShop : Cond.instanceMethod yX2_readShop ∈ zTB := zi 434 (by decide +kernel) (by decide +kernel)
theorem kn_X7_livesOn : Cond.instanceMethod yX7_livesOn ∈ zTB := zi 1131 (by decide +kernel) (by decide +kernel)
theorem kn_X7_lives : Cond.instanceMethod yX7_lives ∈ zTB := zi 1135 (by decide +kernel) (by decide +kernel)
theorem kn_X2_readChild : Cond.instanceMethod yX2_readChild ∈ zTB := zi 508 (by decide +kernel) (by decide +kernel)
theorem kn_X7_fault : Cond.instanceMethod yX7_fault ∈ zTB := zi 1106 (by decide +kernel) (by decide +kernel)
theorem kn_X7_night : Cond.instanceMethod yX7_night ∈ zTB := zi 1262 (by decide +kernel) (by decide +kernel)
theorem kn_X2_expect : Cond.instanceMethod yX2_expect ∈ zTB := zi 491 (by decide +kernel) (by decide +kernel)
theorem kn_X1_perform : Cond.instanceMethod yX1_perform ∈ zTB := zi 552 (by decide +kernel) (by decide +kernel)
theorem kn_X7_restore : Cond.instanceMethod yX7_restore ∈ zTB := zi 1307 (by decide +kernel) (by decide +kernel)
theorem kn_X3_hasPart : Cond.instanceMethod yX3_hasPart ∈ zTB := zi 297 (by decide +kernel) (by decide +kernel)
theorem kn_X6_isChild : Cond.instanceMethod yX6_isChild ∈ zTB := zi 387 (by decide +kernel) (by decide +kernel)
theorem kn_X6_trust : Cond.instanceMethod yX6_trust ∈ zTB := zi 702 (by decide +kernel) (by decide +kernel)
theorem kn_X7_selling : Cond.instanceMethod yX7_selling ∈ zTB := zi 1292 (by decide +kernel) (by decide +kernel)
theorem kn_X1_passDrawnMinutes : Cond.instanceMethod yX1_passDrawnMinutes ∈ zTB := zi 750 (by decide +kernel) (by decide +kernel)
theorem kn_X6_childOf : Cond.instanceMethod yX6_childOf ∈ zTB := zi 382 (by decide +kernel) (by decide +kernel)
theorem kn_X1_can : Cond.instanceMethod yX1_can ∈ zTB := zi 539 (by decide +kernel) (by decide +kernel)
theorem kn_X4_open : Cond.instanceMethod yX4_open ∈ zTB := zi 361 (by decide +kernel) (by decide +kernel)
theorem kn_X7_askedBehind : Cond.instanceMethod yX7_askedBehind ∈ zTB := zi 1163 (by decide +kernel) (by decide +kernel)
theorem kn_X7_noTen : Cond.instanceMethod yX7_noTen ∈ zTB := zi 1027 (by decide +kernel) (by decide +kernel)
theorem kn_X7_behind : Cond.instanceMethod yX7_behind ∈ zTB := zi 1114 (by decide +kernel) (by decide +kernel)
theorem kn_X4_takesStampsOnly : Cond.instanceMethod yX4_takesStampsOnly ∈ zTB := zi 548 (by decide +kernel) (by decide +kernel)
theorem kn_X7_stands : Cond.instanceMethod yX7_stands ∈ zTB := zi 1055 (by decide +kernel) (by decide +kernel)
theorem kn_X6_heap : Cond.instanceMethod yX6_heap ∈ zTB := zi 707 (by decide +kernel) (by decide +kernel)
theorem kn_X2_readNight : Cond.instanceMethod yX2_readNight ∈ zTB := zi 568 (by decide +kernel) (by decide +kernel)
theorem kn_X3_asInt : Cond.instanceMethod yX3_asInt ∈ zTB := zi 422 (by decide +kernel) (by decide +kernel)
theorem kn_X2_next : Cond.instanceMethod yX2_next ∈ zTB := zi 430 (by decide +kernel) (by decide +kernel)
theorem kn_X6_wrongDeed : Cond.instanceMethod yX6_wrongDeed ∈ zTB := zi 720 (by decide +kernel) (by decide +kernel)
theorem kn_X7_childOf : Cond.instanceMethod yX7_childOf ∈ zTB := zi 1010 (by decide +kernel) (by decide +kernel)
theorem kn_X6_status : Cond.instanceMethod yX6_status ∈ zTB := zi 790 (by decide +kernel) (by decide +kernel)
theorem kn_X2_readFeathers : Cond.instanceMethod yX2_readFeathers ∈ zTB := zi 514 (by decide +kernel) (by decide +kernel)
theorem kn_X6_element : Cond.instanceMethod yX6_element ∈ zTB := zi 304 (by decide +kernel) (by decide +kernel)
theorem kn_X7_shop : Cond.instanceMethod yX7_shop ∈ zTB := zi 990 (by decide +kernel) (by decide +kernel)
theorem kn_X7_gives : Cond.instanceMethod yX7_gives ∈ zTB := zi 1207 (by decide +kernel) (by decide +kernel)
theorem kn_X7_garden : Cond.instanceMethod yX7_garden ∈ zTB := zi 1034 (by decide +kernel) (by decide +kernel)
theorem kn_X7_carries : Cond.instanceMethod yX7_carries ∈ zTB := zi 1047 (by decide +kernel) (by decide +kernel)
theorem kn_X7_mayBe : Cond.instanceMethod yX7_mayBe ∈ zTB := zi 1079 (by decide +kernel) (by decide +kernel)
theorem kn_X5_begin : Cond.instanceMethod yX5_begin ∈ zTB := zi 774 (by decide +kernel) (by decide +kernel)
theorem kn_X6_holds : Cond.instanceMethod yX6_holds ∈ zTB := zi 320 (by decide +kernel) (by decide +kernel)
theorem kn_X6_copy : Cond.instanceMethod yX6_copy ∈ zTB := zi 293 (by decide +kernel) (by decide +kernel)
theorem kn_X6_rot : Cond.instanceMethod yX6_rot ∈ zTB := zi 697 (by decide +kernel) (by decide +kernel)
theorem kn_X7_seed : Cond.instanceMethod yX7_seed ∈ zTB := zi 1275 (by decide +kernel) (by decide +kernel)
theorem kn_X7_changes : Cond.instanceMethod yX7_changes ∈ zTB := zi 1179 (by decide +kernel) (by decide +kernel)
theorem kn_X7_isShelf : Cond.instanceMethod yX7_isShelf ∈ zTB := zi 950 (by decide +kernel) (by decide +kernel)
theorem kn_X7_item : Cond.instanceMethod yX7_item ∈ zTB := zi 1051 (by decide +kernel) (by decide +kernel)
theorem kn_X1_addShop : Cond.instanceMethod yX1_addShop ∈ zTB := zi 357 (by decide +kernel) (by decide +kernel)
theorem kn_X7_tries : Cond.instanceMethod yX7_tries ∈ zTB := zi 1127 (by decide +kernel) (by decide +kernel)
theorem kn_X7_afternoon : Cond.instanceMethod yX7_afternoon ∈ zTB := zi 1266 (by decide +kernel) (by decide +kernel)
theorem kn_X6_image : Cond.instanceMethod yX6_image ∈ zTB := zi 782 (by decide +kernel) (by decide +kernel)
theorem kn_X4_saysAs : Cond.instanceMethod yX4_saysAs ∈ zTB := zi 338 (by decide +kernel) (by decide +kernel)
theorem kn_X6_shopOf : Cond.instanceMethod yX6_shopOf ∈ zTB := zi 377 (by decide +kernel) (by decide +kernel)
theorem kn_X7_ends : Cond.instanceMethod yX7_ends ∈ zTB := zi 1151 (by decide +kernel) (by decide +kernel)
theorem kn_X7_word : Cond.instanceMethod yX7_word ∈ zTB := zi 1063 (by decide +kernel) (by decide +kernel)
theorem kn_X7_isAfternoon : Cond.instanceMethod yX7_isAfternoon ∈ zTB := zi 1119 (by decide +kernel) (by decide +kernel)
theorem kn_X3_hasRow : Cond.instanceMethod yX3_hasRow ∈ zTB := zi 285 (by decide +kernel) (by decide +kernel)
theorem kv_X0_come : Cond.selects yX0_come.cls yX0_come yX0_come ∈ zTB := zi 374 (by decide +kernel) (by decide +kernel)
theorem kv_X0_takeChild : Cond.selects yX0_takeChild.cls yX0_takeChild yX0_takeChild ∈ zTB := zi 419 (by decide +kernel) (by decide +kernel)
theorem kv_X0_gain : Cond.selects yX0_gain.cls yX0_gain yX0_gain ∈ zTB := zi 560 (by decide +kernel) (by decide +kernel)
theorem kv_X1_takeAll : Cond.selects yX1_takeAll.cls yX1_takeAll yX1_takeAll ∈ zTB := zi 411 (by decide +kernel) (by decide +kernel)
theorem kv_X1_addShop : Cond.selects yX1_addShop.cls yX1_addShop yX1_addShop ∈ zTB := zi 358 (by decide +kernel) (by decide +kernel)
theorem kv_X1_addChild : Cond.selects yX1_addChild.cls yX1_addChild yX1_addChild ∈ zTB := zi 370 (by decide +kernel) (by decide +kernel)
theorem kv_X1_can : Cond.selects yX1_can.cls yX1_can yX1_can ∈ zTB := zi 540 (by decide +kernel) (by decide +kernel)
theorem kv_X1_canBuy : Cond.selects yX1_canBuy.cls yX1_canBuy yX1_canBuy ∈ zTB := zi 545 (by decide +kernel) (by decide +kernel)
theorem kv_X1_perform : Cond.selects yX1_perform.cls yX1_perform yX1_perform ∈ zTB := zi 553 (by decide +kernel) (by decide +kernel)
theorem kv_X1_buy : Cond.selects yX1_buy.cls yX1_buy yX1_buy ∈ zTB := zi 565 (by decide +kernel) (by decide +kernel)
theorem kv_X1_deedBy : Cond.selects yX1_deedBy.cls yX1_deedBy yX1_deedBy ∈ zTB := zi 611 (by decide +kernel) (by decide +kernel)
theorem kv_X1_cheapestFor : Cond.selects yX1_cheapestFor.cls yX1_cheapestFor yX1_cheapestFor ∈ zTB := zi 615 (by decide +kernel) (by decide +kernel)
theorem kv_X1_passMinutes : Cond.selects yX1_passMinutes.cls yX1_passMinutes yX1_passMinutes ∈ zTB := zi 603 (by decide +kernel) (by decide +kernel)
theorem kv_X1_passDrawnMinutes : Cond.selects yX1_passDrawnMinutes.cls yX1_passDrawnMinutes yX1_passDrawnMinutes ∈ zTB := zi 751 (by decide +kernel) (by decide +kernel)
theorem kv_X1_drawnDeed : Cond.selects yX1_drawnDeed.cls yX1_drawnDeed yX1_drawnDeed ∈ zTB := zi 755 (by decide +kernel) (by decide +kernel)
theorem kv_X1_beginMinute : Cond.selects yX1_beginMinute.cls yX1_beginMinute yX1_beginMinute ∈ zTB := zi 607 (by decide +kernel) (by decide +kernel)
theorem kv_X1_endMinute : Cond.selects yX1_endMinute.cls yX1_endMinute yX1_endMinute ∈ zTB := zi 620 (by decide +kernel) (by decide +kernel)
theorem kv_X1_passNight : Cond.selects yX1_passNight.cls yX1_passNight yX1_passNight ∈ zTB := zi 574 (by decide +kernel) (by decide +kernel)
theorem kv_X1_noteAsked : Cond.selects yX1_noteAsked.cls yX1_noteAsked yX1_noteAsked ∈ zTB := zi 647 (by decide +kernel) (by decide +kernel)
theorem kv_X2_read : Cond.selects yX2_read.cls yX2_read yX2_read ∈ zTB := zi 407 (by decide +kernel) (by decide +kernel)
theorem kv_X2_next : Cond.selects yX2_next.cls yX2_next yX2_next ∈ zTB := zi 431 (by decide +kernel) (by decide +kernel)
theorem kv_X2_expect : Cond.selects yX2_expect.cls yX2_expect yX2_expect ∈ zTB := zi 492 (by decide +kernel) (by decide +kernel)
theorem kv_X2_readItem : Cond.selects yX2_readItem.cls yX2_readItem yX2_readItem ∈ zTB := zi 427 (by decide +kernel) (by decide +kernel)
theorem kv_X2_blame : Cond.selects yX2_blame.cls yX2_blame yX2_blame ∈ zTB := zi 496 (by decide +kernel) (by decide +kernel)
theorem kv_X2_readWord : Cond.selects yX2_readWord.cls yX2_readWord yX2_readWord ∈ zTB := zi 440 (by decide +kernel) (by decide +kernel)
theorem kv_X2_readNumber : Cond.selects yX2_readNumber.cls yX2_readNumber yX2_readNumber ∈ zTB := zi 504 (by decide +kernel) (by decide +kernel)
theorem kv_X2_wantRoom : Cond.selects yX2_wantRoom.cls yX2_wantRoom yX2_wantRoom ∈ zTB := zi 500 (by decide +kernel) (by decide +kernel)
theorem kv_X2_readShop : Cond.selects yX2_readShop.cls yX2_readShop yX2_readShop ∈ zTB := zi 435 (by decide +kernel) (by decide +kernel)
theorem kv_X2_readChild : Cond.selects yX2_readChild.cls yX2_readChild yX2_readChild ∈ zTB := zi 509 (by decide +kernel) (by decide +kernel)
theorem kv_X2_readFeathers : Cond.selects yX2_readFeathers.cls yX2_readFeathers yX2_readFeathers ∈ zTB := zi 515 (by decide +kernel) (by decide +kernel)
theorem kv_X2_readKeeps : Cond.selects yX2_readKeeps.cls yX2_readKeeps yX2_readKeeps ∈ zTB := zi 520 (by decide +kernel) (by decide +kernel)
theorem kv_X2_readInk : Cond.selects yX2_readInk.cls yX2_readInk yX2_readInk ∈ zTB := zi 525 (by decide +kernel) (by decide +kernel)
theorem kv_X2_readTree : Cond.selects yX2_readTree.cls yX2_readTree yX2_readTree ∈ zTB := zi 530 (by decide +kernel) (by decide +kernel)
theorem kv_X2_readDeed : Cond.selects yX2_readDeed.cls yX2_readDeed yX2_readDeed ∈ zTB := zi 535 (by decide +kernel) (by decide +kernel)
theorem kv_X2_readNight : Cond.selects yX2_readNight.cls yX2_readNight yX2_readNight ∈ zTB := zi 569 (by decide +kernel) (by decide +kernel)
theorem kv_X3_hasRow : Cond.selects yX3_hasRow.cls yX3_hasRow yX3_hasRow ∈ zTB := zi 286 (by decide +kernel) (by decide +kernel)
theorem kv_X3_hasShop : Cond.selects yX3_hasShop.cls yX3_hasShop yX3_hasShop ∈ zTB := zi 282 (by decide +kernel) (by decide +kernel)
theorem kv_X3_hold : Cond.selects yX3_hold.cls yX3_hold yX3_hold ∈ zTB := zi 317 (by decide +kernel) (by decide +kernel)
theorem kv_X3_layRow : Cond.selects yX3_layRow.cls yX3_layRow yX3_layRow ∈ zTB := zi 267 (by decide +kernel) (by decide +kernel)
theorem kv_X3_hasPart : Cond.selects yX3_hasPart.cls yX3_hasPart yX3_hasPart ∈ zTB := zi 298 (by decide +kernel) (by decide +kernel)
theorem kv_X3_put : Cond.selects yX3_put.cls yX3_put yX3_put ∈ zTB := zi 290 (by decide +kernel) (by decide +kernel)
theorem kv_X3_asInt : Cond.selects yX3_asInt.cls yX3_asInt yX3_asInt ∈ zTB := zi 423 (by decide +kernel) (by decide +kernel)
theorem kv_X4_open : Cond.selects yX4_open.cls yX4_open yX4_open ∈ zTB := zi 362 (by decide +kernel) (by decide +kernel)
theorem kv_X4_takeShop : Cond.selects yX4_takeShop.cls yX4_takeShop yX4_takeShop ∈ zTB := zi 415 (by decide +kernel) (by decide +kernel)
theorem kv_X4_isOf : Cond.selects yX4_isOf.cls yX4_isOf yX4_isOf ∈ zTB := zi 332 (by decide +kernel) (by decide +kernel)
theorem kv_X4_takesStampsOnly : Cond.selects yX4_takesStampsOnly.cls yX4_takesStampsOnly yX4_takesStampsOnly ∈ zTB := zi 549 (by decide +kernel) (by decide +kernel)
theorem kv_X4_asksNow : Cond.selects yX4_asksNow.cls yX4_asksNow yX4_asksNow ∈ zTB := zi 343 (by decide +kernel) (by decide +kernel)
theorem kv_X4_saysAs : Cond.selects yX4_saysAs.cls yX4_saysAs yX4_saysAs ∈ zTB := zi 339 (by decide +kernel) (by decide +kernel)
theorem kv_X5_begin : Cond.selects yX5_begin.cls yX5_begin yX5_begin ∈ zTB := zi 775 (by decide +kernel) (by decide +kernel)
theorem kv_X6_row : Cond.selects yX6_row.cls yX6_row yX6_row ∈ zTB := zi 256 (by decide +kernel) (by decide +kernel)
theorem kv_X6_set : Cond.selects yX6_set.cls yX6_set yX6_set ∈ zTB := zi 274 (by decide +kernel) (by decide +kernel)
theorem kv_X6_copy : Cond.selects yX6_copy.cls yX6_copy yX6_copy ∈ zTB := zi 294 (by decide +kernel) (by decide +kernel)
theorem kv_X6_element : Cond.selects yX6_element.cls yX6_element yX6_element ∈ zTB := zi 305 (by decide +kernel) (by decide +kernel)
theorem kv_X6_show : Cond.selects yX6_show.cls yX6_show yX6_show ∈ zTB := zi 309 (by decide +kernel) (by decide +kernel)
theorem kv_X6_holds : Cond.selects yX6_holds.cls yX6_holds yX6_holds ∈ zTB := zi 321 (by decide +kernel) (by decide +kernel)
theorem kv_X6_says : Cond.selects yX6_says.cls yX6_says yX6_says ∈ zTB := zi 325 (by decide +kernel) (by decide +kernel)
theorem kv_X6_shop : Cond.selects yX6_shop.cls yX6_shop yX6_shop ∈ zTB := zi 354 (by decide +kernel) (by decide +kernel)
theorem kv_X6_child : Cond.selects yX6_child.cls yX6_child yX6_child ∈ zTB := zi 366 (by decide +kernel) (by decide +kernel)
theorem kv_X6_shopOf : Cond.selects yX6_shopOf.cls yX6_shopOf yX6_shopOf ∈ zTB := zi 378 (by decide +kernel) (by decide +kernel)
theorem kv_X6_childOf : Cond.selects yX6_childOf.cls yX6_childOf yX6_childOf ∈ zTB := zi 383 (by decide +kernel) (by decide +kernel)
theorem kv_X6_tell : Cond.selects yX6_tell.cls yX6_tell yX6_tell ∈ zTB := zi 391 (by decide +kernel) (by decide +kernel)
theorem kv_X6_keeps : Cond.selects yX6_keeps.cls yX6_keeps yX6_keeps ∈ zTB := zi 395 (by decide +kernel) (by decide +kernel)
theorem kv_X6_ask : Cond.selects yX6_ask.cls yX6_ask yX6_ask ∈ zTB := zi 399 (by decide +kernel) (by decide +kernel)
theorem kv_X6_garden : Cond.selects yX6_garden.cls yX6_garden yX6_garden ∈ zTB := zi 403 (by decide +kernel) (by decide +kernel)
theorem kv_X6_fault : Cond.selects yX6_fault.cls yX6_fault yX6_fault ∈ zTB := zi 580 (by decide +kernel) (by decide +kernel)
theorem kv_X6_may : Cond.selects yX6_may.cls yX6_may yX6_may ∈ zTB := zi 584 (by decide +kernel) (by decide +kernel)
theorem kv_X6_behind : Cond.selects yX6_behind.cls yX6_behind yX6_behind ∈ zTB := zi 589 (by decide +kernel) (by decide +kernel)
theorem kv_X6_asks : Cond.selects yX6_asks.cls yX6_asks yX6_asks ∈ zTB := zi 624 (by decide +kernel) (by decide +kernel)
theorem kv_X6_deals : Cond.selects yX6_deals.cls yX6_deals yX6_deals ∈ zTB := zi 628 (by decide +kernel) (by decide +kernel)
theorem kv_X6_runs : Cond.selects yX6_runs.cls yX6_runs yX6_runs ∈ zTB := zi 632 (by decide +kernel) (by decide +kernel)
theorem kv_X6_settles : Cond.selects yX6_settles.cls yX6_settles yX6_settles ∈ zTB := zi 639 (by decide +kernel) (by decide +kernel)
theorem kv_X6_picked : Cond.selects yX6_picked.cls yX6_picked yX6_picked ∈ zTB := zi 655 (by decide +kernel) (by decide +kernel)
theorem kv_X6_cheapest : Cond.selects yX6_cheapest.cls yX6_cheapest yX6_cheapest ∈ zTB := zi 659 (by decide +kernel) (by decide +kernel)
theorem kv_X6_money : Cond.selects yX6_money.cls yX6_money yX6_money ∈ zTB := zi 663 (by decide +kernel) (by decide +kernel)
theorem kv_X6_inked : Cond.selects yX6_inked.cls yX6_inked yX6_inked ∈ zTB := zi 667 (by decide +kernel) (by decide +kernel)
theorem kv_X6_keepers : Cond.selects yX6_keepers.cls yX6_keepers yX6_keepers ∈ zTB := zi 671 (by decide +kernel) (by decide +kernel)
theorem kv_X6_bored : Cond.selects yX6_bored.cls yX6_bored yX6_bored ∈ zTB := zi 687 (by decide +kernel) (by decide +kernel)
theorem kv_X6_bank : Cond.selects yX6_bank.cls yX6_bank yX6_bank ∈ zTB := zi 691 (by decide +kernel) (by decide +kernel)
theorem kv_X6_rot : Cond.selects yX6_rot.cls yX6_rot yX6_rot ∈ zTB := zi 698 (by decide +kernel) (by decide +kernel)
theorem kv_X6_trust : Cond.selects yX6_trust.cls yX6_trust yX6_trust ∈ zTB := zi 703 (by decide +kernel) (by decide +kernel)
theorem kv_X6_heap : Cond.selects yX6_heap.cls yX6_heap yX6_heap ∈ zTB := zi 708 (by decide +kernel) (by decide +kernel)
theorem kv_X6_judge : Cond.selects yX6_judge.cls yX6_judge yX6_judge ∈ zTB := zi 712 (by decide +kernel) (by decide +kernel)
theorem kv_X6_told : Cond.selects yX6_told.cls yX6_told yX6_told ∈ zTB := zi 727 (by decide +kernel) (by decide +kernel)
theorem kv_X6_done : Cond.selects yX6_done.cls yX6_done yX6_done ∈ zTB := zi 731 (by decide +kernel) (by decide +kernel)
theorem kv_X6_does : Cond.selects yX6_does.cls yX6_does yX6_does ∈ zTB := zi 735 (by decide +kernel) (by decide +kernel)
theorem kv_X6_minute : Cond.selects yX6_minute.cls yX6_minute yX6_minute ∈ zTB := zi 739 (by decide +kernel) (by decide +kernel)
theorem kv_X6_night : Cond.selects yX6_night.cls yX6_night yX6_night ∈ zTB := zi 743 (by decide +kernel) (by decide +kernel)
theorem kv_X6_afternoon : Cond.selects yX6_afternoon.cls yX6_afternoon yX6_afternoon ∈ zTB := zi 747 (by decide +kernel) (by decide +kernel)
theorem kv_X6_seed : Cond.selects yX6_seed.cls yX6_seed yX6_seed ∈ zTB := zi 761 (by decide +kernel) (by decide +kernel)
theorem kv_X6_act : Cond.selects yX6_act.cls yX6_act yX6_act ∈ zTB := zi 765 (by decide +kernel) (by decide +kernel)
theorem kv_X6_trace : Cond.selects yX6_trace.cls yX6_trace yX6_trace ∈ zTB := zi 779 (by decide +kernel) (by decide +kernel)
theorem kv_X6_image : Cond.selects yX6_image.cls yX6_image yX6_image ∈ zTB := zi 783 (by decide +kernel) (by decide +kernel)
theorem kv_X6_restore : Cond.selects yX6_restore.cls yX6_restore yX6_restore ∈ zTB := zi 787 (by decide +kernel) (by decide +kernel)
theorem kv_X6_status : Cond.selects yX6_status.cls yX6_status yX6_status ∈ zTB := zi 791 (by decide +kernel) (by decide +kernel)
theorem kv_X6_isShop : Cond.selects yX6_isShop.cls yX6_isShop yX6_isShop ∈ zTB := zj 2 (by decide +kernel) (by decide +kernel)
theorem kv_X6_isChild : Cond.selects yX6_isChild.cls yX6_isChild yX6_isChild ∈ zTB := zj 3 (by decide +kernel) (by decide +kernel)
theorem kv_X6_refuse : Cond.selects yX6_refuse.cls yX6_refuse yX6_refuse ∈ zTB := zj 0 (by decide +kernel) (by decide +kernel)
theorem kv_X6_rowTrouble : Cond.selects yX6_rowTrouble.cls yX6_rowTrouble yX6_rowTrouble ∈ zTB := zj 1 (by decide +kernel) (by decide +kernel)
theorem kv_X6_toldTrouble : Cond.selects yX6_toldTrouble.cls yX6_toldTrouble yX6_toldTrouble ∈ zTB := zj 10 (by decide +kernel) (by decide +kernel)
theorem kv_X6_foresee : Cond.selects yX6_foresee.cls yX6_foresee yX6_foresee ∈ zTB := zj 4 (by decide +kernel) (by decide +kernel)
theorem kv_X6_settledBehind : Cond.selects yX6_settledBehind.cls yX6_settledBehind yX6_settledBehind ∈ zTB := zj 5 (by decide +kernel) (by decide +kernel)
theorem kv_X6_stoppedFrom : Cond.selects yX6_stoppedFrom.cls yX6_stoppedFrom yX6_stoppedFrom ∈ zTB := zj 6 (by decide +kernel) (by decide +kernel)
theorem kv_X6_bestWay : Cond.selects yX6_bestWay.cls yX6_bestWay yX6_bestWay ∈ zTB := zj 7 (by decide +kernel) (by decide +kernel)
theorem kv_X6_dealsOfWay : Cond.selects yX6_dealsOfWay.cls yX6_dealsOfWay yX6_dealsOfWay ∈ zTB := zj 8 (by decide +kernel) (by decide +kernel)
theorem kv_X6_keeperIn : Cond.selects yX6_keeperIn.cls yX6_keeperIn yX6_keeperIn ∈ zTB := zj 9 (by decide +kernel) (by decide +kernel)
theorem kv_X6_wrongDeed : Cond.selects yX6_wrongDeed.cls yX6_wrongDeed yX6_wrongDeed ∈ zTB := zj 11 (by decide +kernel) (by decide +kernel)
theorem kv_X7_no : Cond.selects yX7_no.cls yX7_no yX7_no ∈ zTB := zj 13 (by decide +kernel) (by decide +kernel)
theorem kv_X7_noTen : Cond.selects yX7_noTen.cls yX7_noTen yX7_noTen ∈ zTB := zj 19 (by decide +kernel) (by decide +kernel)
theorem kv_X7_isShelf : Cond.selects yX7_isShelf.cls yX7_isShelf yX7_isShelf ∈ zTB := zj 12 (by decide +kernel) (by decide +kernel)
theorem kv_X7_isShop : Cond.selects yX7_isShop.cls yX7_isShop yX7_isShop ∈ zTB := zj 14 (by decide +kernel) (by decide +kernel)
theorem kv_X7_isChild : Cond.selects yX7_isChild.cls yX7_isChild yX7_isChild ∈ zTB := zj 18 (by decide +kernel) (by decide +kernel)
theorem kv_X7_row : Cond.selects yX7_row.cls yX7_row yX7_row ∈ zTB := zi 946 (by decide +kernel) (by decide +kernel)
theorem kv_X7_set : Cond.selects yX7_set.cls yX7_set yX7_set ∈ zTB := zi 958 (by decide +kernel) (by decide +kernel)
theorem kv_X7_copy : Cond.selects yX7_copy.cls yX7_copy yX7_copy ∈ zTB := zi 962 (by decide +kernel) (by decide +kernel)
theorem kv_X7_element : Cond.selects yX7_element.cls yX7_element yX7_element ∈ zTB := zi 966 (by decide +kernel) (by decide +kernel)
theorem kv_X7_show : Cond.selects yX7_show.cls yX7_show yX7_show ∈ zTB := zi 970 (by decide +kernel) (by decide +kernel)
theorem kv_X7_holds : Cond.selects yX7_holds.cls yX7_holds yX7_holds ∈ zTB := zi 978 (by decide +kernel) (by decide +kernel)
theorem kv_X7_says : Cond.selects yX7_says.cls yX7_says yX7_says ∈ zTB := zi 982 (by decide +kernel) (by decide +kernel)
theorem kv_X7_wanted : Cond.selects yX7_wanted.cls yX7_wanted yX7_wanted ∈ zTB := zj 20 (by decide +kernel) (by decide +kernel)
theorem kv_X7_intAt : Cond.selects yX7_intAt.cls yX7_intAt yX7_intAt ∈ zTB := zj 53 (by decide +kernel) (by decide +kernel)
theorem kv_X7_addsShop : Cond.selects yX7_addsShop.cls yX7_addsShop yX7_addsShop ∈ zTB := zj 16 (by decide +kernel) (by decide +kernel)
theorem kv_X7_addsChild : Cond.selects yX7_addsChild.cls yX7_addsChild yX7_addsChild ∈ zTB := zj 17 (by decide +kernel) (by decide +kernel)
theorem kv_X7_shop : Cond.selects yX7_shop.cls yX7_shop yX7_shop ∈ zTB := zi 991 (by decide +kernel) (by decide +kernel)
theorem kv_X7_child : Cond.selects yX7_child.cls yX7_child yX7_child ∈ zTB := zi 999 (by decide +kernel) (by decide +kernel)
theorem kv_X7_shopOf : Cond.selects yX7_shopOf.cls yX7_shopOf yX7_shopOf ∈ zTB := zi 1007 (by decide +kernel) (by decide +kernel)
theorem kv_X7_childOf : Cond.selects yX7_childOf.cls yX7_childOf yX7_childOf ∈ zTB := zi 1011 (by decide +kernel) (by decide +kernel)
theorem kv_X7_tell : Cond.selects yX7_tell.cls yX7_tell yX7_tell ∈ zTB := zi 1019 (by decide +kernel) (by decide +kernel)
theorem kv_X7_keeps : Cond.selects yX7_keeps.cls yX7_keeps yX7_keeps ∈ zTB := zi 1023 (by decide +kernel) (by decide +kernel)
theorem kv_X7_ask : Cond.selects yX7_ask.cls yX7_ask yX7_ask ∈ zTB := zi 1031 (by decide +kernel) (by decide +kernel)
theorem kv_X7_wrong : Cond.selects yX7_wrong.cls yX7_wrong yX7_wrong ∈ zTB := zj 25 (by decide +kernel) (by decide +kernel)
theorem kv_X7_stands : Cond.selects yX7_stands.cls yX7_stands yX7_stands ∈ zTB := zj 24 (by decide +kernel) (by decide +kernel)
theorem kv_X7_word : Cond.selects yX7_word.cls yX7_word yX7_word ∈ zTB := zj 26 (by decide +kernel) (by decide +kernel)
theorem kv_X7_isDigit : Cond.selects yX7_isDigit.cls yX7_isDigit yX7_isDigit ∈ zTB := zj 28 (by decide +kernel) (by decide +kernel)
theorem kv_X7_reads : Cond.selects yX7_reads.cls yX7_reads yX7_reads ∈ zTB := zj 27 (by decide +kernel) (by decide +kernel)
theorem kv_X7_isSo : Cond.selects yX7_isSo.cls yX7_isSo yX7_isSo ∈ zTB := zj 29 (by decide +kernel) (by decide +kernel)
theorem kv_X7_item : Cond.selects yX7_item.cls yX7_item yX7_item ∈ zTB := zj 23 (by decide +kernel) (by decide +kernel)
theorem kv_X7_carries : Cond.selects yX7_carries.cls yX7_carries yX7_carries ∈ zTB := zj 22 (by decide +kernel) (by decide +kernel)
theorem kv_X7_all : Cond.selects yX7_all.cls yX7_all yX7_all ∈ zTB := zj 21 (by decide +kernel) (by decide +kernel)
theorem kv_X7_garden : Cond.selects yX7_garden.cls yX7_garden yX7_garden ∈ zTB := zi 1035 (by decide +kernel) (by decide +kernel)
theorem kv_X7_fault : Cond.selects yX7_fault.cls yX7_fault yX7_fault ∈ zTB := zi 1107 (by decide +kernel) (by decide +kernel)
theorem kv_X7_asked : Cond.selects yX7_asked.cls yX7_asked yX7_asked ∈ zTB := zj 15 (by decide +kernel) (by decide +kernel)
theorem kv_X7_isForStamps : Cond.selects yX7_isForStamps.cls yX7_isForStamps yX7_isForStamps ∈ zTB := zj 32 (by decide +kernel) (by decide +kernel)
theorem kv_X7_mayBuy : Cond.selects yX7_mayBuy.cls yX7_mayBuy yX7_mayBuy ∈ zTB := zj 31 (by decide +kernel) (by decide +kernel)
theorem kv_X7_mayBe : Cond.selects yX7_mayBe.cls yX7_mayBe yX7_mayBe ∈ zTB := zj 30 (by decide +kernel) (by decide +kernel)
theorem kv_X7_full : Cond.selects yX7_full.cls yX7_full yX7_full ∈ zTB := zj 34 (by decide +kernel) (by decide +kernel)
theorem kv_X7_buys : Cond.selects yX7_buys.cls yX7_buys yX7_buys ∈ zTB := zj 35 (by decide +kernel) (by decide +kernel)
theorem kv_X7_makes : Cond.selects yX7_makes.cls yX7_makes yX7_makes ∈ zTB := zj 33 (by decide +kernel) (by decide +kernel)
theorem kv_X7_begins : Cond.selects yX7_begins.cls yX7_begins yX7_begins ∈ zTB := zj 42 (by decide +kernel) (by decide +kernel)
theorem kv_X7_ends : Cond.selects yX7_ends.cls yX7_ends yX7_ends ∈ zTB := zj 45 (by decide +kernel) (by decide +kernel)
theorem kv_X7_rots : Cond.selects yX7_rots.cls yX7_rots yX7_rots ∈ zTB := zj 36 (by decide +kernel) (by decide +kernel)
theorem kv_X7_may : Cond.selects yX7_may.cls yX7_may yX7_may ∈ zTB := zi 1111 (by decide +kernel) (by decide +kernel)
theorem kv_X7_greed : Cond.selects yX7_greed.cls yX7_greed yX7_greed ∈ zTB := zj 44 (by decide +kernel) (by decide +kernel)
theorem kv_X7_ruled : Cond.selects yX7_ruled.cls yX7_ruled yX7_ruled ∈ zTB := zj 43 (by decide +kernel) (by decide +kernel)
theorem kv_X7_lives : Cond.selects yX7_lives.cls yX7_lives yX7_lives ∈ zTB := zj 41 (by decide +kernel) (by decide +kernel)
theorem kv_X7_livesOn : Cond.selects yX7_livesOn.cls yX7_livesOn yX7_livesOn ∈ zTB := zj 40 (by decide +kernel) (by decide +kernel)
theorem kv_X7_isRule : Cond.selects yX7_isRule.cls yX7_isRule yX7_isRule ∈ zTB := zj 38 (by decide +kernel) (by decide +kernel)
theorem kv_X7_isAfternoon : Cond.selects yX7_isAfternoon.cls yX7_isAfternoon yX7_isAfternoon ∈ zTB := zj 37 (by decide +kernel) (by decide +kernel)
theorem kv_X7_tries : Cond.selects yX7_tries.cls yX7_tries yX7_tries ∈ zTB := zj 39 (by decide +kernel) (by decide +kernel)
theorem kv_X7_takesBack : Cond.selects yX7_takesBack.cls yX7_takesBack yX7_takesBack ∈ zTB := zj 46 (by decide +kernel) (by decide +kernel)
theorem kv_X7_behind : Cond.selects yX7_behind.cls yX7_behind yX7_behind ∈ zTB := zi 1115 (by decide +kernel) (by decide +kernel)
theorem kv_X7_askedBehind : Cond.selects yX7_askedBehind.cls yX7_askedBehind yX7_askedBehind ∈ zTB := zj 47 (by decide +kernel) (by decide +kernel)
theorem kv_X7_asks : Cond.selects yX7_asks.cls yX7_asks yX7_asks ∈ zTB := zi 1159 (by decide +kernel) (by decide +kernel)
theorem kv_X7_deals : Cond.selects yX7_deals.cls yX7_deals yX7_deals ∈ zTB := zi 1167 (by decide +kernel) (by decide +kernel)
theorem kv_X7_runs : Cond.selects yX7_runs.cls yX7_runs yX7_runs ∈ zTB := zi 1171 (by decide +kernel) (by decide +kernel)
theorem kv_X7_changes : Cond.selects yX7_changes.cls yX7_changes yX7_changes ∈ zTB := zj 48 (by decide +kernel) (by decide +kernel)
theorem kv_X7_settles : Cond.selects yX7_settles.cls yX7_settles yX7_settles ∈ zTB := zi 1175 (by decide +kernel) (by decide +kernel)
theorem kv_X7_picked : Cond.selects yX7_picked.cls yX7_picked yX7_picked ∈ zTB := zi 1183 (by decide +kernel) (by decide +kernel)
theorem kv_X7_cheapest : Cond.selects yX7_cheapest.cls yX7_cheapest yX7_cheapest ∈ zTB := zi 1187 (by decide +kernel) (by decide +kernel)
theorem kv_X7_dealsIn : Cond.selects yX7_dealsIn.cls yX7_dealsIn yX7_dealsIn ∈ zTB := zj 49 (by decide +kernel) (by decide +kernel)
theorem kv_X7_money : Cond.selects yX7_money.cls yX7_money yX7_money ∈ zTB := zi 1191 (by decide +kernel) (by decide +kernel)
theorem kv_X7_inked : Cond.selects yX7_inked.cls yX7_inked yX7_inked ∈ zTB := zi 1199 (by decide +kernel) (by decide +kernel)
theorem kv_X7_gives : Cond.selects yX7_gives.cls yX7_gives yX7_gives ∈ zTB := zj 50 (by decide +kernel) (by decide +kernel)
theorem kv_X7_keepers : Cond.selects yX7_keepers.cls yX7_keepers yX7_keepers ∈ zTB := zi 1203 (by decide +kernel) (by decide +kernel)
theorem kv_X7_bored : Cond.selects yX7_bored.cls yX7_bored yX7_bored ∈ zTB := zi 1211 (by decide +kernel) (by decide +kernel)
theorem kv_X7_bank : Cond.selects yX7_bank.cls yX7_bank yX7_bank ∈ zTB := zi 1215 (by decide +kernel) (by decide +kernel)
theorem kv_X7_rot : Cond.selects yX7_rot.cls yX7_rot yX7_rot ∈ zTB := zi 1219 (by decide +kernel) (by decide +kernel)
theorem kv_X7_trust : Cond.selects yX7_trust.cls yX7_trust yX7_trust ∈ zTB := zi 1223 (by decide +kernel) (by decide +kernel)
theorem kv_X7_wrongIn : Cond.selects yX7_wrongIn.cls yX7_wrongIn yX7_wrongIn ∈ zTB := zj 52 (by decide +kernel) (by decide +kernel)
theorem kv_X7_barsOf : Cond.selects yX7_barsOf.cls yX7_barsOf yX7_barsOf ∈ zTB := zj 51 (by decide +kernel) (by decide +kernel)
theorem kv_X7_judge : Cond.selects yX7_judge.cls yX7_judge yX7_judge ∈ zTB := zi 1227 (by decide +kernel) (by decide +kernel)
theorem kv_X7_told : Cond.selects yX7_told.cls yX7_told yX7_told ∈ zTB := zi 1243 (by decide +kernel) (by decide +kernel)
theorem kv_X7_done : Cond.selects yX7_done.cls yX7_done yX7_done ∈ zTB := zi 1247 (by decide +kernel) (by decide +kernel)
theorem kv_X7_heap : Cond.selects yX7_heap.cls yX7_heap yX7_heap ∈ zTB := zi 1251 (by decide +kernel) (by decide +kernel)
theorem kv_X7_does : Cond.selects yX7_does.cls yX7_does yX7_does ∈ zTB := zi 1255 (by decide +kernel) (by decide +kernel)
theorem kv_X7_minute : Cond.selects yX7_minute.cls yX7_minute yX7_minute ∈ zTB := zi 1259 (by decide +kernel) (by decide +kernel)
theorem kv_X7_night : Cond.selects yX7_night.cls yX7_night yX7_night ∈ zTB := zi 1263 (by decide +kernel) (by decide +kernel)
theorem kv_X7_draw : Cond.selects yX7_draw.cls yX7_draw yX7_draw ∈ zTB := zj 54 (by decide +kernel) (by decide +kernel)
theorem kv_X7_afternoon : Cond.selects yX7_afternoon.cls yX7_afternoon yX7_afternoon ∈ zTB := zi 1267 (by decide +kernel) (by decide +kernel)
theorem kv_X7_seed : Cond.selects yX7_seed.cls yX7_seed yX7_seed ∈ zTB := zi 1276 (by decide +kernel) (by decide +kernel)
theorem kv_X7_body : Cond.selects yX7_body.cls yX7_body yX7_body ∈ zTB := zj 56 (by decide +kernel) (by decide +kernel)
theorem kv_X7_asking : Cond.selects yX7_asking.cls yX7_asking yX7_asking ∈ zTB := zj 55 (by decide +kernel) (by decide +kernel)
theorem kv_X7_selling : Cond.selects yX7_selling.cls yX7_selling yX7_selling ∈ zTB := zj 57 (by decide +kernel) (by decide +kernel)
theorem kv_X7_shutting : Cond.selects yX7_shutting.cls yX7_shutting yX7_shutting ∈ zTB := zj 58 (by decide +kernel) (by decide +kernel)
theorem kv_X7_act : Cond.selects yX7_act.cls yX7_act yX7_act ∈ zTB := zi 1280 (by decide +kernel) (by decide +kernel)
theorem kv_X7_trace : Cond.selects yX7_trace.cls yX7_trace yX7_trace ∈ zTB := zi 1300 (by decide +kernel) (by decide +kernel)
theorem kv_X7_image : Cond.selects yX7_image.cls yX7_image yX7_image ∈ zTB := zi 1304 (by decide +kernel) (by decide +kernel)
theorem kv_X7_restore : Cond.selects yX7_restore.cls yX7_restore yX7_restore ∈ zTB := zi 1308 (by decide +kernel) (by decide +kernel)
theorem kv_X7_status : Cond.selects yX7_status.cls yX7_status yX7_status ∈ zTB := zi 1312 (by decide +kernel) (by decide +kernel)
theorem kv_J0_length_8abf5 : Cond.selects yJ0_length_8abf5.cls yJ0_length_8abf5 yJ0_length_8abf5 ∈ zTB := zi 444 (by decide +kernel) (by decide +kernel)
theorem kv_J0_charAt_5068e : Cond.selects yJ0_charAt_5068e.cls yJ0_charAt_5068e yJ0_charAt_5068e ∈ zTB := zi 454 (by decide +kernel) (by decide +kernel)
theorem kv_J0_coder_7d493 : Cond.selects yJ0_coder_7d493.cls yJ0_coder_7d493 yJ0_coder_7d493 ∈ zTB := zi 448 (by decide +kernel) (by decide +kernel)
theorem kv_J0_isLatin1_aae02 : Cond.selects yJ0_isLatin1_aae02.cls yJ0_isLatin1_aae02 yJ0_isLatin1_aae02 ∈ zTB := zi 458 (by decide +kernel) (by decide +kernel)
theorem kl_L_9 : Cond.methodLink RL 9 yX6_init ∈ zTB := zi 19 (by decide +kernel) (by decide +kernel)
theorem kl_X6_21 : Cond.methodLink RX6 21 yX1_init ∈ zTB := zi 29 (by decide +kernel) (by decide +kernel)
theorem kl_X2_11 : Cond.methodLink RX2 11 yX1_init ∈ zTB := zi 163 (by decide +kernel) (by decide +kernel)
theorem kl_L_13 : Cond.methodLink RL 13 yX6_row ∈ zTB := zi 254 (by decide +kernel) (by decide +kernel)
theorem kl_X6_47 : Cond.methodLink RX6 47 yX6_isShelf ∈ zTB := zi 258 (by decide +kernel) (by decide +kernel)
theorem kl_X6_51 : Cond.methodLink RX6 51 yX6_refuse ∈ zTB := zi 261 (by decide +kernel) (by decide +kernel)
theorem kl_X6_55 : Cond.methodLink RX6 55 yX3_layRow ∈ zTB := zi 265 (by decide +kernel) (by decide +kernel)
theorem kl_X3_22 : Cond.methodLink RX3 22 yJ7_fill_d0a16 ∈ zTB := zi 269 (by decide +kernel) (by decide +kernel)
theorem kl_L_20 : Cond.methodLink RL 20 yX6_set ∈ zTB := zi 272 (by decide +kernel) (by decide +kernel)
theorem kl_X6_59 : Cond.methodLink RX6 59 yX6_rowTrouble ∈ zTB := zi 276 (by decide +kernel) (by decide +kernel)
theorem kl_X6_70 : Cond.methodLink RX6 70 yX3_hasShop ∈ zTB := zi 280 (by decide +kernel) (by decide +kernel)
theorem kl_X6_74 : Cond.methodLink RX6 74 yX3_hasRow ∈ zTB := zi 284 (by decide +kernel) (by decide +kernel)
theorem kl_X6_66 : Cond.methodLink RX6 66 yX3_put ∈ zTB := zi 288 (by decide +kernel) (by decide +kernel)
theorem kl_L_25 : Cond.methodLink RL 25 yX6_copy ∈ zTB := zi 292 (by decide +kernel) (by decide +kernel)
theorem kl_X6_80 : Cond.methodLink RX6 80 yX3_hasPart ∈ zTB := zi 296 (by decide +kernel) (by decide +kernel)
theorem kl_L_30 : Cond.methodLink RL 30 yX6_element ∈ zTB := zi 303 (by decide +kernel) (by decide +kernel)
theorem kl_L_35 : Cond.methodLink RL 35 yX6_show ∈ zTB := zi 307 (by decide +kernel) (by decide +kernel)
theorem kl_X6_94 : Cond.methodLink RX6 94 yX6_isShop ∈ zTB := zi 311 (by decide +kernel) (by decide +kernel)
theorem kl_X6_97 : Cond.methodLink RX6 97 yX3_hold ∈ zTB := zi 315 (by decide +kernel) (by decide +kernel)
theorem kl_L_40 : Cond.methodLink RL 40 yX6_holds ∈ zTB := zi 319 (by decide +kernel) (by decide +kernel)
theorem kl_L_45 : Cond.methodLink RL 45 yX6_says ∈ zTB := zi 323 (by decide +kernel) (by decide +kernel)
theorem kl_X6_101 : Cond.methodLink RX6 101 yX6_isKind ∈ zTB := zi 327 (by decide +kernel) (by decide +kernel)
theorem kl_X6_108 : Cond.methodLink RX6 108 yX4_isOf ∈ zTB := zi 330 (by decide +kernel) (by decide +kernel)
theorem kl_X6_113 : Cond.methodLink RX6 113 yX4_saysAs ∈ zTB := zi 337 (by decide +kernel) (by decide +kernel)
theorem kl_X4_46 : Cond.methodLink RX4 46 yX4_asksNow ∈ zTB := zi 341 (by decide +kernel) (by decide +kernel)
theorem kl_X4_37 : Cond.methodLink RX4 37 yJ9_min_f86c9 ∈ zTB := zi 346 (by decide +kernel) (by decide +kernel)
theorem kl_X4_43 : Cond.methodLink RX4 43 yJ9_max_f86c9 ∈ zTB := zi 349 (by decide +kernel) (by decide +kernel)
theorem kl_L_49 : Cond.methodLink RL 49 yX6_shop ∈ zTB := zi 352 (by decide +kernel) (by decide +kernel)
theorem kl_X6_119 : Cond.methodLink RX6 119 yX1_addShop ∈ zTB := zi 356 (by decide +kernel) (by decide +kernel)
theorem kl_X1_58 : Cond.methodLink RX1 58 yX4_open ∈ zTB := zi 360 (by decide +kernel) (by decide +kernel)
theorem kl_L_53 : Cond.methodLink RL 53 yX6_child ∈ zTB := zi 364 (by decide +kernel) (by decide +kernel)
theorem kl_X6_126 : Cond.methodLink RX6 126 yX1_addChild ∈ zTB := zi 368 (by decide +kernel) (by decide +kernel)
theorem kl_X1_62 : Cond.methodLink RX1 62 yX0_come ∈ zTB := zi 372 (by decide +kernel) (by decide +kernel)
theorem kl_L_57 : Cond.methodLink RL 57 yX6_shopOf ∈ zTB := zi 376 (by decide +kernel) (by decide +kernel)
theorem kl_X6_145 : Cond.methodLink RX6 145 yX4_asksNow ∈ zTB := zi 380 (by decide +kernel) (by decide +kernel)
theorem kl_L_61 : Cond.methodLink RL 61 yX6_childOf ∈ zTB := zi 381 (by decide +kernel) (by decide +kernel)
theorem kl_X6_149 : Cond.methodLink RX6 149 yX6_isChild ∈ zTB := zi 385 (by decide +kernel) (by decide +kernel)
theorem kl_L_65 : Cond.methodLink RL 65 yX6_tell ∈ zTB := zi 389 (by decide +kernel) (by decide +kernel)
theorem kl_L_69 : Cond.methodLink RL 69 yX6_keeps ∈ zTB := zi 393 (by decide +kernel) (by decide +kernel)
theorem kl_L_73 : Cond.methodLink RL 73 yX6_ask ∈ zTB := zi 397 (by decide +kernel) (by decide +kernel)
theorem kl_L_77 : Cond.methodLink RL 77 yX6_garden ∈ zTB := zi 401 (by decide +kernel) (by decide +kernel)
theorem kl_X6_182 : Cond.methodLink RX6 182 yX2_read ∈ zTB := zi 405 (by decide +kernel) (by decide +kernel)
theorem kl_X2_26 : Cond.methodLink RX2 26 yX1_takeAll ∈ zTB := zi 409 (by decide +kernel) (by decide +kernel)
theorem kl_X1_50 : Cond.methodLink RX1 50 yX4_takeShop ∈ zTB := zi 413 (by decide +kernel) (by decide +kernel)
theorem kl_X1_54 : Cond.methodLink RX1 54 yX0_takeChild ∈ zTB := zi 417 (by decide +kernel) (by decide +kernel)
theorem kl_X2_36 : Cond.methodLink RX2 36 yX3_asInt ∈ zTB := zi 421 (by decide +kernel) (by decide +kernel)
theorem kl_X2_43 : Cond.methodLink RX2 43 yX2_readItem ∈ zTB := zi 425 (by decide +kernel) (by decide +kernel)
theorem kl_X2_50 : Cond.methodLink RX2 50 yX2_next ∈ zTB := zi 429 (by decide +kernel) (by decide +kernel)
theorem kl_X2_57 : Cond.methodLink RX2 57 yX2_readShop ∈ zTB := zi 433 (by decide +kernel) (by decide +kernel)
theorem kl_X2_94 : Cond.methodLink RX2 94 yX2_readWord ∈ zTB := zi 438 (by decide +kernel) (by decide +kernel)
theorem kl_X2_81 : Cond.methodLink RX2 81 yJ0_length_8abf5 ∈ zTB := zi 442 (by decide +kernel) (by decide +kernel)
theorem kl_J0_335 : Cond.methodLink RJ0 335 yJ0_coder_7d493 ∈ zTB := zi 446 (by decide +kernel) (by decide +kernel)
theorem kl_X2_85 : Cond.methodLink RX2 85 yJ0_charAt_5068e ∈ zTB := zi 452 (by decide +kernel) (by decide +kernel)
theorem kl_J0_492 : Cond.methodLink RJ0 492 yJ0_isLatin1_aae02 ∈ zTB := zi 456 (by decide +kernel) (by decide +kernel)
theorem kl_J0_495 : Cond.methodLink RJ0 495 yJ1_charAt_3b067 ∈ zTB := zi 460 (by decide +kernel) (by decide +kernel)
theorem kl_J1_9 : Cond.methodLink RJ1 9 yJ0_checkIndex_df160 ∈ zTB := zi 463 (by decide +kernel) (by decide +kernel)
theorem kl_J0_1059 : Cond.methodLink RJ0 1059 yJ3_checkIndex_8e157 ∈ zTB := zi 468 (by decide +kernel) (by decide +kernel)
theorem kl_J0_498 : Cond.methodLink RJ0 498 yJ2_charAt_3b067 ∈ zTB := zi 471 (by decide +kernel) (by decide +kernel)
theorem kl_J2_67 : Cond.methodLink RJ2 67 yJ2_checkIndex_2214a ∈ zTB := zi 474 (by decide +kernel) (by decide +kernel)
theorem kl_J2_48 : Cond.methodLink RJ2 48 yJ2_length_9d52b ∈ zTB := zi 477 (by decide +kernel) (by decide +kernel)
theorem kl_J2_414 : Cond.methodLink RJ2 414 yJ0_checkIndex_df160 ∈ zTB := zi 480 (by decide +kernel) (by decide +kernel)
theorem kl_J2_71 : Cond.methodLink RJ2 71 yJ2_getChar_3b067 ∈ zTB := zi 481 (by decide +kernel) (by decide +kernel)
theorem kl_X2_46 : Cond.methodLink RX2 46 yX2_expect ∈ zTB := zi 490 (by decide +kernel) (by decide +kernel)
theorem kl_X2_54 : Cond.methodLink RX2 54 yX2_blame ∈ zTB := zi 494 (by decide +kernel) (by decide +kernel)
theorem kl_X2_101 : Cond.methodLink RX2 101 yX2_wantRoom ∈ zTB := zi 498 (by decide +kernel) (by decide +kernel)
theorem kl_X2_105 : Cond.methodLink RX2 105 yX2_readNumber ∈ zTB := zi 502 (by decide +kernel) (by decide +kernel)
theorem kl_X2_109 : Cond.methodLink RX2 109 yX1_addShop ∈ zTB := zi 506 (by decide +kernel) (by decide +kernel)
theorem kl_X2_60 : Cond.methodLink RX2 60 yX2_readChild ∈ zTB := zi 507 (by decide +kernel) (by decide +kernel)
theorem kl_X2_118 : Cond.methodLink RX2 118 yX1_addChild ∈ zTB := zi 512 (by decide +kernel) (by decide +kernel)
theorem kl_X2_63 : Cond.methodLink RX2 63 yX2_readFeathers ∈ zTB := zi 513 (by decide +kernel) (by decide +kernel)
theorem kl_X2_66 : Cond.methodLink RX2 66 yX2_readKeeps ∈ zTB := zi 518 (by decide +kernel) (by decide +kernel)
theorem kl_X2_69 : Cond.methodLink RX2 69 yX2_readInk ∈ zTB := zi 523 (by decide +kernel) (by decide +kernel)
theorem kl_X2_72 : Cond.methodLink RX2 72 yX2_readTree ∈ zTB := zi 528 (by decide +kernel) (by decide +kernel)
theorem kl_X2_75 : Cond.methodLink RX2 75 yX2_readDeed ∈ zTB := zi 533 (by decide +kernel) (by decide +kernel)
theorem kl_X2_146 : Cond.methodLink RX2 146 yX1_can ∈ zTB := zi 538 (by decide +kernel) (by decide +kernel)
theorem kl_X1_72 : Cond.methodLink RX1 72 yX4_asksNow ∈ zTB := zi 542 (by decide +kernel) (by decide +kernel)
theorem kl_X1_76 : Cond.methodLink RX1 76 yX1_canBuy ∈ zTB := zi 543 (by decide +kernel) (by decide +kernel)
theorem kl_X1_83 : Cond.methodLink RX1 83 yX4_takesStampsOnly ∈ zTB := zi 547 (by decide +kernel) (by decide +kernel)
theorem kl_X2_150 : Cond.methodLink RX2 150 yX1_perform ∈ zTB := zi 551 (by decide +kernel) (by decide +kernel)
theorem kl_X1_93 : Cond.methodLink RX1 93 yJ9_min_7cf53 ∈ zTB := zi 555 (by decide +kernel) (by decide +kernel)
theorem kl_X1_99 : Cond.methodLink RX1 99 yX0_gain ∈ zTB := zi 558 (by decide +kernel) (by decide +kernel)
theorem kl_X0_30 : Cond.methodLink RX0 30 yJ9_min_7cf53 ∈ zTB := zi 562 (by decide +kernel) (by decide +kernel)
theorem kl_X1_102 : Cond.methodLink RX1 102 yX1_buy ∈ zTB := zi 563 (by decide +kernel) (by decide +kernel)
theorem kl_X2_78 : Cond.methodLink RX2 78 yX2_readNight ∈ zTB := zi 567 (by decide +kernel) (by decide +kernel)
theorem kl_X2_156 : Cond.methodLink RX2 156 yX1_passNight ∈ zTB := zi 572 (by decide +kernel) (by decide +kernel)
theorem kl_X6_192 : Cond.methodLink RX6 192 yX1_takeAll ∈ zTB := zi 576 (by decide +kernel) (by decide +kernel)
theorem kl_L_81 : Cond.methodLink RL 81 yX6_fault ∈ zTB := zi 578 (by decide +kernel) (by decide +kernel)
theorem kl_L_86 : Cond.methodLink RL 86 yX6_may ∈ zTB := zi 582 (by decide +kernel) (by decide +kernel)
theorem kl_X6_196 : Cond.methodLink RX6 196 yX1_can ∈ zTB := zi 586 (by decide +kernel) (by decide +kernel)
theorem kl_L_90 : Cond.methodLink RL 90 yX6_behind ∈ zTB := zi 587 (by decide +kernel) (by decide +kernel)
theorem kl_X6_199 : Cond.methodLink RX6 199 yX6_isRule ∈ zTB := zi 591 (by decide +kernel) (by decide +kernel)
theorem kl_X6_202 : Cond.methodLink RX6 202 yX6_isTime ∈ zTB := zi 594 (by decide +kernel) (by decide +kernel)
theorem kl_X6_205 : Cond.methodLink RX6 205 yX6_foresee ∈ zTB := zi 597 (by decide +kernel) (by decide +kernel)
theorem kl_X6_222 : Cond.methodLink RX6 222 yX1_passMinutes ∈ zTB := zi 601 (by decide +kernel) (by decide +kernel)
theorem kl_X1_123 : Cond.methodLink RX1 123 yX1_beginMinute ∈ zTB := zi 605 (by decide +kernel) (by decide +kernel)
theorem kl_X1_126 : Cond.methodLink RX1 126 yX1_deedBy ∈ zTB := zi 609 (by decide +kernel) (by decide +kernel)
theorem kl_X1_119 : Cond.methodLink RX1 119 yX1_cheapestFor ∈ zTB := zi 613 (by decide +kernel) (by decide +kernel)
theorem kl_X1_129 : Cond.methodLink RX1 129 yX1_perform ∈ zTB := zi 617 (by decide +kernel) (by decide +kernel)
theorem kl_X1_132 : Cond.methodLink RX1 132 yX1_endMinute ∈ zTB := zi 618 (by decide +kernel) (by decide +kernel)
theorem kl_L_95 : Cond.methodLink RL 95 yX6_asks ∈ zTB := zi 622 (by decide +kernel) (by decide +kernel)
theorem kl_L_99 : Cond.methodLink RL 99 yX6_deals ∈ zTB := zi 626 (by decide +kernel) (by decide +kernel)
theorem kl_L_103 : Cond.methodLink RL 103 yX6_runs ∈ zTB := zi 630 (by decide +kernel) (by decide +kernel)
theorem kl_X6_211 : Cond.methodLink RX6 211 yJ6_compare_7cf53 ∈ zTB := zi 634 (by decide +kernel) (by decide +kernel)
theorem kl_L_107 : Cond.methodLink RL 107 yX6_settles ∈ zTB := zi 637 (by decide +kernel) (by decide +kernel)
theorem kl_X6_216 : Cond.methodLink RX6 216 yX6_settledBehind ∈ zTB := zi 641 (by decide +kernel) (by decide +kernel)
theorem kl_X6_284 : Cond.methodLink RX6 284 yX1_noteAsked ∈ zTB := zi 645 (by decide +kernel) (by decide +kernel)
theorem kl_X6_219 : Cond.methodLink RX6 219 yX6_stoppedFrom ∈ zTB := zi 649 (by decide +kernel) (by decide +kernel)
theorem kl_L_111 : Cond.methodLink RL 111 yX6_picked ∈ zTB := zi 653 (by decide +kernel) (by decide +kernel)
theorem kl_L_115 : Cond.methodLink RL 115 yX6_cheapest ∈ zTB := zi 657 (by decide +kernel) (by decide +kernel)
theorem kl_L_119 : Cond.methodLink RL 119 yX6_money ∈ zTB := zi 661 (by decide +kernel) (by decide +kernel)
theorem kl_L_123 : Cond.methodLink RL 123 yX6_inked ∈ zTB := zi 665 (by decide +kernel) (by decide +kernel)
theorem kl_L_127 : Cond.methodLink RL 127 yX6_keepers ∈ zTB := zi 669 (by decide +kernel) (by decide +kernel)
theorem kl_X6_228 : Cond.methodLink RX6 228 yX6_bestWay ∈ zTB := zi 673 (by decide +kernel) (by decide +kernel)
theorem kl_X6_231 : Cond.methodLink RX6 231 yX6_dealsOfWay ∈ zTB := zi 677 (by decide +kernel) (by decide +kernel)
theorem kl_X6_234 : Cond.methodLink RX6 234 yX6_keeperIn ∈ zTB := zi 681 (by decide +kernel) (by decide +kernel)
theorem kl_L_131 : Cond.methodLink RL 131 yX6_bored ∈ zTB := zi 685 (by decide +kernel) (by decide +kernel)
theorem kl_L_135 : Cond.methodLink RL 135 yX6_bank ∈ zTB := zi 689 (by decide +kernel) (by decide +kernel)
theorem kl_X6_237 : Cond.methodLink RX6 237 yJ9_max_7cf53 ∈ zTB := zi 693 (by decide +kernel) (by decide +kernel)
theorem kl_L_139 : Cond.methodLink RL 139 yX6_rot ∈ zTB := zi 696 (by decide +kernel) (by decide +kernel)
theorem kl_X6_242 : Cond.methodLink RX6 242 yX1_passNight ∈ zTB := zi 700 (by decide +kernel) (by decide +kernel)
theorem kl_L_143 : Cond.methodLink RL 143 yX6_trust ∈ zTB := zi 701 (by decide +kernel) (by decide +kernel)
theorem kl_X6_245 : Cond.methodLink RX6 245 yX1_perform ∈ zTB := zi 705 (by decide +kernel) (by decide +kernel)
theorem kl_L_159 : Cond.methodLink RL 159 yX6_heap ∈ zTB := zi 706 (by decide +kernel) (by decide +kernel)
theorem kl_L_147 : Cond.methodLink RL 147 yX6_judge ∈ zTB := zi 710 (by decide +kernel) (by decide +kernel)
theorem kl_X6_248 : Cond.methodLink RX6 248 yX6_toldTrouble ∈ zTB := zi 714 (by decide +kernel) (by decide +kernel)
theorem kl_X6_251 : Cond.methodLink RX6 251 yX6_wrongDeed ∈ zTB := zi 718 (by decide +kernel) (by decide +kernel)
theorem kl_X6_287 : Cond.methodLink RX6 287 yX1_beginMinute ∈ zTB := zi 722 (by decide +kernel) (by decide +kernel)
theorem kl_X6_290 : Cond.methodLink RX6 290 yX3_asInt ∈ zTB := zi 723 (by decide +kernel) (by decide +kernel)
theorem kl_X6_293 : Cond.methodLink RX6 293 yX1_endMinute ∈ zTB := zi 724 (by decide +kernel) (by decide +kernel)
theorem kl_L_151 : Cond.methodLink RL 151 yX6_told ∈ zTB := zi 725 (by decide +kernel) (by decide +kernel)
theorem kl_L_155 : Cond.methodLink RL 155 yX6_done ∈ zTB := zi 729 (by decide +kernel) (by decide +kernel)
theorem kl_L_163 : Cond.methodLink RL 163 yX6_does ∈ zTB := zi 733 (by decide +kernel) (by decide +kernel)
theorem kl_L_167 : Cond.methodLink RL 167 yX6_minute ∈ zTB := zi 737 (by decide +kernel) (by decide +kernel)
theorem kl_L_171 : Cond.methodLink RL 171 yX6_night ∈ zTB := zi 741 (by decide +kernel) (by decide +kernel)
theorem kl_L_175 : Cond.methodLink RL 175 yX6_afternoon ∈ zTB := zi 745 (by decide +kernel) (by decide +kernel)
theorem kl_X6_257 : Cond.methodLink RX6 257 yX1_passDrawnMinutes ∈ zTB := zi 749 (by decide +kernel) (by decide +kernel)
theorem kl_X1_135 : Cond.methodLink RX1 135 yX1_drawnDeed ∈ zTB := zi 753 (by decide +kernel) (by decide +kernel)
theorem kl_X1_140 : Cond.methodLink RX1 140 yX1_can ∈ zTB := zi 758 (by decide +kernel) (by decide +kernel)
theorem kl_L_179 : Cond.methodLink RL 179 yX6_seed ∈ zTB := zi 759 (by decide +kernel) (by decide +kernel)
theorem kl_L_183 : Cond.methodLink RL 183 yX6_act ∈ zTB := zi 763 (by decide +kernel) (by decide +kernel)
theorem kl_X6_273 : Cond.methodLink RX6 273 yX6_runBody ∈ zTB := zi 767 (by decide +kernel) (by decide +kernel)
theorem kl_X6_302 : Cond.methodLink RX6 302 yX5_begin ∈ zTB := zi 773 (by decide +kernel) (by decide +kernel)
theorem kl_L_187 : Cond.methodLink RL 187 yX6_trace ∈ zTB := zi 777 (by decide +kernel) (by decide +kernel)
theorem kl_L_191 : Cond.methodLink RL 191 yX6_image ∈ zTB := zi 781 (by decide +kernel) (by decide +kernel)
theorem kl_L_195 : Cond.methodLink RL 195 yX6_restore ∈ zTB := zi 785 (by decide +kernel) (by decide +kernel)
theorem kl_L_199 : Cond.methodLink RL 199 yX6_status ∈ zTB := zi 789 (by decide +kernel) (by decide +kernel)
theorem kl_L_12 : Cond.methodLink RL 12 yX7_init ∈ zTB := zi 795 (by decide +kernel) (by decide +kernel)
theorem kl_L_17 : Cond.methodLink RL 17 yX7_row ∈ zTB := zi 944 (by decide +kernel) (by decide +kernel)
theorem kl_X7_120 : Cond.methodLink RX7 120 yX7_isShelf ∈ zTB := zi 948 (by decide +kernel) (by decide +kernel)
theorem kl_X7_124 : Cond.methodLink RX7 124 yX7_no ∈ zTB := zi 952 (by decide +kernel) (by decide +kernel)
theorem kl_L_24 : Cond.methodLink RL 24 yX7_set ∈ zTB := zi 956 (by decide +kernel) (by decide +kernel)
theorem kl_L_29 : Cond.methodLink RL 29 yX7_copy ∈ zTB := zi 960 (by decide +kernel) (by decide +kernel)
theorem kl_L_34 : Cond.methodLink RL 34 yX7_element ∈ zTB := zi 964 (by decide +kernel) (by decide +kernel)
theorem kl_L_39 : Cond.methodLink RL 39 yX7_show ∈ zTB := zi 968 (by decide +kernel) (by decide +kernel)
theorem kl_X7_128 : Cond.methodLink RX7 128 yX7_isShop ∈ zTB := zi 972 (by decide +kernel) (by decide +kernel)
theorem kl_L_44 : Cond.methodLink RL 44 yX7_holds ∈ zTB := zi 976 (by decide +kernel) (by decide +kernel)
theorem kl_L_48 : Cond.methodLink RL 48 yX7_says ∈ zTB := zi 980 (by decide +kernel) (by decide +kernel)
theorem kl_X7_131 : Cond.methodLink RX7 131 yX7_asked ∈ zTB := zi 984 (by decide +kernel) (by decide +kernel)
theorem kl_L_52 : Cond.methodLink RL 52 yX7_shop ∈ zTB := zi 989 (by decide +kernel) (by decide +kernel)
theorem kl_X7_134 : Cond.methodLink RX7 134 yX7_addsShop ∈ zTB := zi 993 (by decide +kernel) (by decide +kernel)
theorem kl_L_56 : Cond.methodLink RL 56 yX7_child ∈ zTB := zi 997 (by decide +kernel) (by decide +kernel)
theorem kl_X7_138 : Cond.methodLink RX7 138 yX7_addsChild ∈ zTB := zi 1001 (by decide +kernel) (by decide +kernel)
theorem kl_L_60 : Cond.methodLink RL 60 yX7_shopOf ∈ zTB := zi 1005 (by decide +kernel) (by decide +kernel)
theorem kl_L_64 : Cond.methodLink RL 64 yX7_childOf ∈ zTB := zi 1009 (by decide +kernel) (by decide +kernel)
theorem kl_X7_142 : Cond.methodLink RX7 142 yX7_isChild ∈ zTB := zi 1013 (by decide +kernel) (by decide +kernel)
theorem kl_L_68 : Cond.methodLink RL 68 yX7_tell ∈ zTB := zi 1017 (by decide +kernel) (by decide +kernel)
theorem kl_L_72 : Cond.methodLink RL 72 yX7_keeps ∈ zTB := zi 1021 (by decide +kernel) (by decide +kernel)
theorem kl_X7_145 : Cond.methodLink RX7 145 yX7_noTen ∈ zTB := zi 1025 (by decide +kernel) (by decide +kernel)
theorem kl_L_76 : Cond.methodLink RL 76 yX7_ask ∈ zTB := zi 1029 (by decide +kernel) (by decide +kernel)
theorem kl_L_80 : Cond.methodLink RL 80 yX7_garden ∈ zTB := zi 1033 (by decide +kernel) (by decide +kernel)
theorem kl_X7_207 : Cond.methodLink RX7 207 yX7_wanted ∈ zTB := zi 1037 (by decide +kernel) (by decide +kernel)
theorem kl_X7_210 : Cond.methodLink RX7 210 yX7_all ∈ zTB := zi 1041 (by decide +kernel) (by decide +kernel)
theorem kl_X7_194 : Cond.methodLink RX7 194 yX7_carries ∈ zTB := zi 1045 (by decide +kernel) (by decide +kernel)
theorem kl_X7_214 : Cond.methodLink RX7 214 yX7_item ∈ zTB := zi 1049 (by decide +kernel) (by decide +kernel)
theorem kl_X7_174 : Cond.methodLink RX7 174 yX7_stands ∈ zTB := zi 1053 (by decide +kernel) (by decide +kernel)
theorem kl_X7_167 : Cond.methodLink RX7 167 yX7_wrong ∈ zTB := zi 1057 (by decide +kernel) (by decide +kernel)
theorem kl_X7_177 : Cond.methodLink RX7 177 yX7_word ∈ zTB := zi 1061 (by decide +kernel) (by decide +kernel)
theorem kl_X7_181 : Cond.methodLink RX7 181 yX7_reads ∈ zTB := zi 1065 (by decide +kernel) (by decide +kernel)
theorem kl_X7_163 : Cond.methodLink RX7 163 yX7_isDigit ∈ zTB := zi 1069 (by decide +kernel) (by decide +kernel)
theorem kl_X7_184 : Cond.methodLink RX7 184 yX7_isSo ∈ zTB := zi 1073 (by decide +kernel) (by decide +kernel)
theorem kl_X7_170 : Cond.methodLink RX7 170 yX7_mayBe ∈ zTB := zi 1077 (by decide +kernel) (by decide +kernel)
theorem kl_X7_222 : Cond.methodLink RX7 222 yX7_mayBuy ∈ zTB := zi 1081 (by decide +kernel) (by decide +kernel)
theorem kl_X7_219 : Cond.methodLink RX7 219 yX7_isForStamps ∈ zTB := zi 1085 (by decide +kernel) (by decide +kernel)
theorem kl_X7_187 : Cond.methodLink RX7 187 yX7_makes ∈ zTB := zi 1089 (by decide +kernel) (by decide +kernel)
theorem kl_X7_225 : Cond.methodLink RX7 225 yX7_full ∈ zTB := zi 1093 (by decide +kernel) (by decide +kernel)
theorem kl_X7_228 : Cond.methodLink RX7 228 yX7_buys ∈ zTB := zi 1097 (by decide +kernel) (by decide +kernel)
theorem kl_X7_191 : Cond.methodLink RX7 191 yX7_rots ∈ zTB := zi 1101 (by decide +kernel) (by decide +kernel)
theorem kl_L_85 : Cond.methodLink RL 85 yX7_fault ∈ zTB := zi 1105 (by decide +kernel) (by decide +kernel)
theorem kl_L_89 : Cond.methodLink RL 89 yX7_may ∈ zTB := zi 1109 (by decide +kernel) (by decide +kernel)
theorem kl_L_94 : Cond.methodLink RL 94 yX7_behind ∈ zTB := zi 1113 (by decide +kernel) (by decide +kernel)
theorem kl_X7_256 : Cond.methodLink RX7 256 yX7_isAfternoon ∈ zTB := zi 1117 (by decide +kernel) (by decide +kernel)
theorem kl_X7_247 : Cond.methodLink RX7 247 yX7_isRule ∈ zTB := zi 1121 (by decide +kernel) (by decide +kernel)
theorem kl_X7_259 : Cond.methodLink RX7 259 yX7_tries ∈ zTB := zi 1125 (by decide +kernel) (by decide +kernel)
theorem kl_X7_250 : Cond.methodLink RX7 250 yX7_livesOn ∈ zTB := zi 1129 (by decide +kernel) (by decide +kernel)
theorem kl_X7_243 : Cond.methodLink RX7 243 yX7_lives ∈ zTB := zi 1133 (by decide +kernel) (by decide +kernel)
theorem kl_X7_234 : Cond.methodLink RX7 234 yX7_begins ∈ zTB := zi 1137 (by decide +kernel) (by decide +kernel)
theorem kl_X7_237 : Cond.methodLink RX7 237 yX7_ruled ∈ zTB := zi 1141 (by decide +kernel) (by decide +kernel)
theorem kl_X7_231 : Cond.methodLink RX7 231 yX7_greed ∈ zTB := zi 1145 (by decide +kernel) (by decide +kernel)
theorem kl_X7_240 : Cond.methodLink RX7 240 yX7_ends ∈ zTB := zi 1149 (by decide +kernel) (by decide +kernel)
theorem kl_X7_262 : Cond.methodLink RX7 262 yX7_takesBack ∈ zTB := zi 1153 (by decide +kernel) (by decide +kernel)
theorem kl_L_98 : Cond.methodLink RL 98 yX7_asks ∈ zTB := zi 1157 (by decide +kernel) (by decide +kernel)
theorem kl_X7_265 : Cond.methodLink RX7 265 yX7_askedBehind ∈ zTB := zi 1161 (by decide +kernel) (by decide +kernel)
theorem kl_L_102 : Cond.methodLink RL 102 yX7_deals ∈ zTB := zi 1165 (by decide +kernel) (by decide +kernel)
theorem kl_L_106 : Cond.methodLink RL 106 yX7_runs ∈ zTB := zi 1169 (by decide +kernel) (by decide +kernel)
theorem kl_L_110 : Cond.methodLink RL 110 yX7_settles ∈ zTB := zi 1173 (by decide +kernel) (by decide +kernel)
theorem kl_X7_268 : Cond.methodLink RX7 268 yX7_changes ∈ zTB := zi 1177 (by decide +kernel) (by decide +kernel)
theorem kl_L_114 : Cond.methodLink RL 114 yX7_picked ∈ zTB := zi 1181 (by decide +kernel) (by decide +kernel)
theorem kl_L_118 : Cond.methodLink RL 118 yX7_cheapest ∈ zTB := zi 1185 (by decide +kernel) (by decide +kernel)
theorem kl_L_122 : Cond.methodLink RL 122 yX7_money ∈ zTB := zi 1189 (by decide +kernel) (by decide +kernel)
theorem kl_X7_271 : Cond.methodLink RX7 271 yX7_dealsIn ∈ zTB := zi 1193 (by decide +kernel) (by decide +kernel)
theorem kl_L_126 : Cond.methodLink RL 126 yX7_inked ∈ zTB := zi 1197 (by decide +kernel) (by decide +kernel)
theorem kl_L_130 : Cond.methodLink RL 130 yX7_keepers ∈ zTB := zi 1201 (by decide +kernel) (by decide +kernel)
theorem kl_X7_277 : Cond.methodLink RX7 277 yX7_gives ∈ zTB := zi 1205 (by decide +kernel) (by decide +kernel)
theorem kl_L_134 : Cond.methodLink RL 134 yX7_bored ∈ zTB := zi 1209 (by decide +kernel) (by decide +kernel)
theorem kl_L_138 : Cond.methodLink RL 138 yX7_bank ∈ zTB := zi 1213 (by decide +kernel) (by decide +kernel)
theorem kl_L_142 : Cond.methodLink RL 142 yX7_rot ∈ zTB := zi 1217 (by decide +kernel) (by decide +kernel)
theorem kl_L_146 : Cond.methodLink RL 146 yX7_trust ∈ zTB := zi 1221 (by decide +kernel) (by decide +kernel)
theorem kl_L_150 : Cond.methodLink RL 150 yX7_judge ∈ zTB := zi 1225 (by decide +kernel) (by decide +kernel)
theorem kl_X7_284 : Cond.methodLink RX7 284 yX7_barsOf ∈ zTB := zi 1229 (by decide +kernel) (by decide +kernel)
theorem kl_X7_287 : Cond.methodLink RX7 287 yX7_wrongIn ∈ zTB := zi 1233 (by decide +kernel) (by decide +kernel)
theorem kl_X7_281 : Cond.methodLink RX7 281 yX7_intAt ∈ zTB := zi 1237 (by decide +kernel) (by decide +kernel)
theorem kl_L_154 : Cond.methodLink RL 154 yX7_told ∈ zTB := zi 1241 (by decide +kernel) (by decide +kernel)
theorem kl_L_158 : Cond.methodLink RL 158 yX7_done ∈ zTB := zi 1245 (by decide +kernel) (by decide +kernel)
theorem kl_L_162 : Cond.methodLink RL 162 yX7_heap ∈ zTB := zi 1249 (by decide +kernel) (by decide +kernel)
theorem kl_L_166 : Cond.methodLink RL 166 yX7_does ∈ zTB := zi 1253 (by decide +kernel) (by decide +kernel)
theorem kl_L_170 : Cond.methodLink RL 170 yX7_minute ∈ zTB := zi 1257 (by decide +kernel) (by decide +kernel)
theorem kl_L_174 : Cond.methodLink RL 174 yX7_night ∈ zTB := zi 1261 (by decide +kernel) (by decide +kernel)
theorem kl_L_178 : Cond.methodLink RL 178 yX7_afternoon ∈ zTB := zi 1265 (by decide +kernel) (by decide +kernel)
theorem kl_X7_291 : Cond.methodLink RX7 291 yX7_draw ∈ zTB := zi 1269 (by decide +kernel) (by decide +kernel)
theorem kl_L_182 : Cond.methodLink RL 182 yX7_seed ∈ zTB := zi 1274 (by decide +kernel) (by decide +kernel)
theorem kl_L_186 : Cond.methodLink RL 186 yX7_act ∈ zTB := zi 1278 (by decide +kernel) (by decide +kernel)
theorem kl_X7_300 : Cond.methodLink RX7 300 yX7_asking ∈ zTB := zi 1282 (by decide +kernel) (by decide +kernel)
theorem kl_X7_297 : Cond.methodLink RX7 297 yX7_body ∈ zTB := zi 1286 (by decide +kernel) (by decide +kernel)
theorem kl_X7_303 : Cond.methodLink RX7 303 yX7_selling ∈ zTB := zi 1290 (by decide +kernel) (by decide +kernel)
theorem kl_X7_306 : Cond.methodLink RX7 306 yX7_shutting ∈ zTB := zi 1294 (by decide +kernel) (by decide +kernel)
theorem kl_L_190 : Cond.methodLink RL 190 yX7_trace ∈ zTB := zi 1298 (by decide +kernel) (by decide +kernel)
theorem kl_L_194 : Cond.methodLink RL 194 yX7_image ∈ zTB := zi 1302 (by decide +kernel) (by decide +kernel)
theorem kl_L_198 : Cond.methodLink RL 198 yX7_restore ∈ zTB := zi 1306 (by decide +kernel) (by decide +kernel)
theorem kl_L_202 : Cond.methodLink RL 202 yX7_status ∈ zTB := zi 1310 (by decide +kernel) (by decide +kernel)
end
section
/-! A walk with the heap left out: Z K P pc L st says: from every heap that holds P, with locals L and stack st, the walk comes to its end. -/
def zRM (d : Nat) : Room := { frames := d, cells := 0, slots := 0, locals := 40 * d }
abbrev zE : Type := va_G × (Nat → ClassId) × Nat × (Nat → Nat)
abbrev zKey : Type := Nat × Nat × Nat
def zcl : List vw_C := [(RX0, TX0, 6), (RX1, TX1, 10), (RX2, TX2, 6), (RX3, TX3, 3), (RX4, TX4, 7), (RX5, TX5, 5), (RX6, TX6, 8), (RX7, TX7, 48)]
def zT (E : zE) : List (ClassId × FieldType) := [(E.2.1 0, .int), (E.2.1 1, .long), (E.2.1 2, .object RX4), (E.2.1 3, .object RX0), (E.2.1 4, .object RX3)]
/-- the cells of a system, each at the address of its key -/
def zCel {σ : Type} (E : zE) (adr : zKey → Nat) (cell : σ → zKey → va_E) (ok : zKey → Prop) (F : σ) (H : Heap) : Prop := ∀ k, ok k → va_at E.1 zcl (adr k, cell F k) H
/-- what holds of a state of the machine and its heap: what lies still there, and the cells -/
def zPP {σ : Type} (E : zE) (adr : zKey → Nat) (cell : σ → zKey → va_E) (ok : zKey → Prop) (ev : State → Heap → Prop) (F : σ) (U : State) (H : Heap) : Prop := ev U H ∧ zCel E adr cell ok F H
/-- what holds of the machine's tables -/
def zPre (E : zE) (eu : State → Prop) (U : State) : Prop := va_K E.1 zcl (zT E) U ∧ eu U
def zSy (adr : zKey → Nat) (ok : zKey → Prop) (eu : State → Prop) (ev : State → Heap → Prop) (A : Nat → Prop) : Prop :=
  (∀ k k', ok k → ok k' → adr k = adr k' → k = k') ∧ (∀ k, ok k → A (adr k)) ∧ (∀ u U H, u.vm.Alike U.vm → ev u H → ev U H) ∧ (∀ U H H1, ev U H → H.size ≤ H1.size → (∀ q : Nat, q < H.size → ¬ A q → H1[q]? = H[q]?) → ev U H1) ∧ (∀ s U : State, s.WarmedH U.vm → eu s → eu U) ∧ (∀ u U : State, U.vm = u.vm → eu u → eu U)
def zQ (A : Nat → Prop) (Post : Option Value → State → Prop) : Array Value → State → Outcome → State → Prop := fun _ st oc t => (∃ v, oc = .returned v ∧ Post v t) ∧ va_F A st t
/-- a contract: from F, with the arguments as, method y returns, and post holds of the answer and the new state -/
def zMet {σ : Type} (l : Launch) (E : zE) (adr : zKey → Nat) (cell : σ → zKey → va_E) (ok : zKey → Prop) (eu : State → Prop) (ev : State → Heap → Prop) (A : Nat → Prop) (y : MethodName) (cc : ByteArray) (mL : Nat) (ret : Option FieldType) (d : Nat) (as : List Value) (F : σ) (post : Option Value → σ → Prop) : Prop :=
  Met l y (Cond.code y cc mL ret :: zTB) (zRM d) (va_Pc as (fun U => zPre E eu U ∧ zPP E adr cell ok ev F U U.heap)) (zQ A (fun v t => ∃ F', post v F' ∧ zPP E adr cell ok ev F' t t.heap)) 0 0 A
abbrev zK : Type := (Heap → List Loc → JFrame → Prop) × MethodId × (Heap → List Loc → Prop) × Nat
def Z (K : zK) (P : Heap → Prop) (pc : Nat) (L : List (Nat × Value)) (st : List Value) : Prop := ∀ (H : Heap) (locs : List Loc) (ls : Array Slot), K.2.2.1 H locs → P H → lv_has ls K.2.2.2 L → K.1 H locs (F0 K.2.1 pc ls st)
/-- where a walk is: the machine, the method's code, the words, the system's cells -/
def zC {σ : Type} (l : Launch) (E : zE) (adr : zKey → Nat) (cell : σ → zKey → va_E) (ok : zKey → Prop) (eu : State → Prop) (ev : State → Heap → Prop) (A : Nat → Prop) (K : zK) (cc : ByteArray) (own : String) (R : Room) (s : State) (mL : Nat) : Prop :=
  ∃ (p : Program) (e : Env) (m : MethodId) (args : Array Value) (below : List Frame) (meth : Method) (c : Code) (n1 n2 : Nat) (Q : State → Prop),
    K = ((fun H locs g => W p l e R s m args below meth c H locs n1 n2 Q g), m, (fun H locs => va_S A s.heap H locs), mL) ∧ p.tables.exec = Jvm.exec ∧ c.code = cc ∧ c.maxLocals = mL ∧ s.vm.findClass own = some m.cls ∧ (∀ w ∈ zTB, w.before args s = true) ∧ va_K E.1 zcl (zT E) s ∧ eu s ∧ zSy adr ok eu ev A ∧ n1 ≤ R.cells ∧ n2 ≤ R.slots
/-- the same, at a method's end too -/
def zR {σ : Type} (l : Launch) (E : zE) (adr : zKey → Nat) (cell : σ → zKey → va_E) (ok : zKey → Prop) (eu : State → Prop) (ev : State → Heap → Prop) (A : Nat → Prop) (K : zK) (cc : ByteArray) (own : String) (d : Nat) (s : State) (mL : Nat) (ret : Option FieldType) (post : Option Value → σ → Prop) : Prop :=
  ∃ (p : Program) (e : Env) (m : MethodId) (args : Array Value) (below : List Frame) (meth : Method) (c : Code),
    K = ((fun H locs g => W p l e (zRM d) s m args below meth c H locs 0 0 (MQ below (zQ A (fun v t => ∃ F', post v F' ∧ zPP E adr cell ok ev F' t t.heap)) args s 0 0 A) g), m, (fun H locs => va_S A s.heap H locs), mL) ∧ p.tables.exec = Jvm.exec ∧ c.code = cc ∧ c.maxLocals = mL ∧ meth.sig.returnType = ret ∧ meth.locks = false ∧ s.vm.findClass own = some m.cls ∧ (∀ w ∈ zTB, w.before args s = true) ∧ va_K E.1 zcl (zT E) s ∧ eu s ∧ zSy adr ok eu ev A
def zst (L : List (Nat × Value)) (i : Nat) (v : Value) : List (Nat × Value) := (i, v) :: L.filter (fun q => !(q.1 == i) && !(q.1 + 1 == i && q.2.category == 2))
def zst2 (L : List (Nat × Value)) (i : Nat) (v : Value) : List (Nat × Value) := (i, v) :: L.filter (fun q => !(q.1 == i) && (!(q.1 == i + 1) && !(q.1 + 1 == i && q.2.category == 2)))
section ZA
variable {σ : Type} {l : Launch} {E : zE} {adr : zKey → Nat} {cell : σ → zKey → va_E} {ok : zKey → Prop} {eu : State → Prop} {ev : State → Heap → Prop} {A : Nat → Prop} {K : zK} {cc : ByteArray} {own : String} {R : Room} {s : State} {mL : Nat} {d : Nat} {ret : Option FieldType} {post : Option Value → σ → Prop} {F : σ}
theorem zPP.moved {u U : State} {H : Heap} (hs : zSy adr ok eu ev A) (hvm : u.vm.Alike U.vm) (h : zPP E adr cell ok ev F u H) : zPP E adr cell ok ev F U H := ⟨hs.2.2.1 _ _ _ hvm h.1, h.2⟩
theorem zPP.blind (hs : zSy adr ok eu ev A) {as : List Value} : FrameBlind (va_Pc as (fun U => zPre E eu U ∧ zPP E adr cell ok ev F U U.heap)) := fun a U g mk q => ⟨q.1, ⟨va_K.moved (u := U) (U := U.calling g mk a) (Vm.Alike.refl U.vm) q.2.1.1, hs.2.2.2.2.2 U (U.calling g mk a) rfl q.2.1.2⟩, zPP.moved (u := U) (U := U.calling g mk a) hs (Vm.Alike.refl U.vm) q.2.2⟩
theorem zR.c (h : zR l E adr cell ok eu ev A K cc own d s mL ret post) : zC (cell := cell) l E adr ok eu ev A K cc own (zRM d) s mL := by
  obtain ⟨p, e, m, args, below, meth, c, rfl, h1, h2, h3, h4, h5, h6, h7, h8, h8b, h9⟩ := h
  exact ⟨p, e, m, args, below, meth, c, 0, 0, _, rfl, h1, h2, h3, h6, h7, h8, h8b, h9, Nat.zero_le _, Nat.zero_le _⟩
theorem zMet.mk {y : MethodName} {as : List Value} (hs : zSy adr ok eu ev A) (hy : plainName y.cls = true) (hl : (lg_sl as).length ≤ mL)
    (body : ∀ (K : zK) (s : State), zR (cell := cell) l E adr ok eu ev A K cc y.cls d s mL ret post → Z K (zPP E adr cell ok ev F s) 0 (lv_args 0 as) []) : zMet l E adr cell ok eu ev A y cc mL ret d as F post := by
  refine Met.ofW (cc := cc) (maxL := mL) (ret := ret) hy rfl ?_
  intro p e s m args below meth c s₁ B hml hv
  obtain ⟨rfl, hP⟩ := hv
  have hts := atoms_spec (ws := Cond.code y cc mL ret :: zTB) B.pre
  have hown : s.vm.findClass y.cls = some m.cls := findClass_of_methodNamed B.named
  have hZ := body _ s ⟨p, e, m, as.toArray, below, meth, c, rfl, B.exec, B.bytes, hml, B.returns, B.notSynchronized, hown, fun w hw => hts w (List.mem_cons_of_mem _ hw), hP.1.1, hP.1.2, hs⟩
  have hl2 := lv_entry as (n := mL) hl
  have hE := lg_entry_eq (m := m) (vs := as) (n := mL)
  first
    | (rw [lg_entry_eq]; exact hZ s.heap [] _ va_S.rf hP.2 hl2)
    | (have := hZ s.heap [] _ va_S.rf hP.2 hl2; simpa [lg_entry_eq] using this)

variable {P : Heap → Prop} {pc : Nat} {L : List (Nat × Value)} {st : List Value}
theorem z_iconst (C : zC (cell := cell) l E adr ok eu ev A K cc own R s mL) {n : Int} {v : Int32} (hd : decode cc pc = .ok (.iconst n, 1)) (hv : Int32.ofInt n = v) (k : Z K P (pc + 1) L (.int v :: st)) : Z K P pc L (st) := by
  obtain ⟨p, e, m, args, below, meth, c, n1, n2, Q, rfl, hx, hb, hml, hown, hts, hK, he, hs, hc1, hc2⟩ := C
  intro H locs ls hS hP hl
  exact lv_iconst hx hb hd hv (k H locs ls hS hP hl)
theorem z_bipush (C : zC (cell := cell) l E adr ok eu ev A K cc own R s mL) {n : Int} {v : Int32} (hd : decode cc pc = .ok (.bipush n, 2)) (hv : (Int8.ofInt n).toInt32 = v) (k : Z K P (pc + 2) L (.int v :: st)) : Z K P pc L (st) := by
  obtain ⟨p, e, m, args, below, meth, c, n1, n2, Q, rfl, hx, hb, hml, hown, hts, hK, he, hs, hc1, hc2⟩ := C
  intro H locs ls hS hP hl
  exact lv_bipush hx hb hd hv (k H locs ls hS hP hl)
theorem z_sipush (C : zC (cell := cell) l E adr ok eu ev A K cc own R s mL) {n : Int} {v : Int32} (hd : decode cc pc = .ok (.sipush n, 3)) (hv : (Int16.ofInt n).toInt32 = v) (k : Z K P (pc + 3) L (.int v :: st)) : Z K P pc L (st) := by
  obtain ⟨p, e, m, args, below, meth, c, n1, n2, Q, rfl, hx, hb, hml, hown, hts, hK, he, hs, hc1, hc2⟩ := C
  intro H locs ls hS hP hl
  exact lv_sipush hx hb hd hv (k H locs ls hS hP hl)
theorem z_lconst (C : zC (cell := cell) l E adr ok eu ev A K cc own R s mL) {n : Fin 2} {v : Int64} (hd : decode cc pc = .ok (.lconst n, 1)) (hv : Int64.ofNat (n : Nat) = v) (k : Z K P (pc + 1) L (.long v :: st)) : Z K P pc L (st) := by
  obtain ⟨p, e, m, args, below, meth, c, n1, n2, Q, rfl, hx, hb, hml, hown, hts, hK, he, hs, hc1, hc2⟩ := C
  intro H locs ls hS hP hl
  exact lv_lconst hx hb hd hv (k H locs ls hS hP hl)
theorem z_iload_n (C : zC (cell := cell) l E adr ok eu ev A K cc own R s mL) {k : Fin 4} {x : Int32} (q : Nat) (hd : decode cc pc = .ok (.iload_n k, 1)) (hq : L[q]? = some ((k : Nat), .int x)) (k : Z K P (pc + 1) L (.int x :: st)) : Z K P pc L (st) := by
  obtain ⟨p, e, m, args, below, meth, c, n1, n2, Q, rfl, hx, hb, hml, hown, hts, hK, he, hs, hc1, hc2⟩ := C
  intro H locs ls hS hP hl
  exact lv_iload_n hx hb hd rfl (lv_at hl q hq) (k H locs ls hS hP hl)
theorem z_iload (C : zC (cell := cell) l E adr ok eu ev A K cc own R s mL) {i : Nat} {x : Int32} (q : Nat) (hd : decode cc pc = .ok (.iload i, 2)) (hq : L[q]? = some (i, .int x)) (k : Z K P (pc + 2) L (.int x :: st)) : Z K P pc L (st) := by
  obtain ⟨p, e, m, args, below, meth, c, n1, n2, Q, rfl, hx, hb, hml, hown, hts, hK, he, hs, hc1, hc2⟩ := C
  intro H locs ls hS hP hl
  exact lv_iload hx hb hd (lv_at hl q hq) (k H locs ls hS hP hl)
theorem z_istore_n (C : zC (cell := cell) l E adr ok eu ev A K cc own R s mL) {k : Fin 4} {i : Nat} {x : Int32} (hd : decode cc pc = .ok (.istore_n k, 1)) (hi : (k : Nat) = i) (hn : i < mL) (k : Z K P (pc + 1) (zst L i (.int x)) st) : Z K P pc L (.int x :: st) := by
  obtain ⟨p, e, m, args, below, meth, c, n1, n2, Q, rfl, hx, hb, hml, hown, hts, hK, he, hs, hc1, hc2⟩ := C
  intro H locs ls hS hP hl
  exact lv_istore_n hx hb hd hi hl hn rfl (fun ls hl => k H locs ls hS hP hl)
theorem z_istore (C : zC (cell := cell) l E adr ok eu ev A K cc own R s mL) {i : Nat} {x : Int32} (hd : decode cc pc = .ok (.istore i, 2)) (hn : i < mL) (k : Z K P (pc + 2) (zst L i (.int x)) st) : Z K P pc L (.int x :: st) := by
  obtain ⟨p, e, m, args, below, meth, c, n1, n2, Q, rfl, hx, hb, hml, hown, hts, hK, he, hs, hc1, hc2⟩ := C
  intro H locs ls hS hP hl
  exact lv_istore hx hb hd hl hn rfl (fun ls hl => k H locs ls hS hP hl)
theorem z_lload_n (C : zC (cell := cell) l E adr ok eu ev A K cc own R s mL) {k : Fin 4} {x : Int64} (q : Nat) (hd : decode cc pc = .ok (.lload_n k, 1)) (hq : L[q]? = some ((k : Nat), .long x)) (k : Z K P (pc + 1) L (.long x :: st)) : Z K P pc L (st) := by
  obtain ⟨p, e, m, args, below, meth, c, n1, n2, Q, rfl, hx, hb, hml, hown, hts, hK, he, hs, hc1, hc2⟩ := C
  intro H locs ls hS hP hl
  exact lv_lload_n hx hb hd rfl (lv_at hl q hq) (k H locs ls hS hP hl)
theorem z_lload (C : zC (cell := cell) l E adr ok eu ev A K cc own R s mL) {i : Nat} {x : Int64} (q : Nat) (hd : decode cc pc = .ok (.lload i, 2)) (hq : L[q]? = some (i, .long x)) (k : Z K P (pc + 2) L (.long x :: st)) : Z K P pc L (st) := by
  obtain ⟨p, e, m, args, below, meth, c, n1, n2, Q, rfl, hx, hb, hml, hown, hts, hK, he, hs, hc1, hc2⟩ := C
  intro H locs ls hS hP hl
  exact lv_lload hx hb hd (lv_at hl q hq) (k H locs ls hS hP hl)
theorem z_lstore_n (C : zC (cell := cell) l E adr ok eu ev A K cc own R s mL) {k : Fin 4} {i : Nat} {x : Int64} (hd : decode cc pc = .ok (.lstore_n k, 1)) (hi : (k : Nat) = i) (hn : i + 1 < mL) (k : Z K P (pc + 1) (zst2 L i (.long x)) st) : Z K P pc L (.long x :: st) := by
  obtain ⟨p, e, m, args, below, meth, c, n1, n2, Q, rfl, hx, hb, hml, hown, hts, hK, he, hs, hc1, hc2⟩ := C
  intro H locs ls hS hP hl
  exact lv_lstore_n hx hb hd hi hl hn rfl (fun ls hl => k H locs ls hS hP hl)
theorem z_lstore (C : zC (cell := cell) l E adr ok eu ev A K cc own R s mL) {i : Nat} {x : Int64} (hd : decode cc pc = .ok (.lstore i, 2)) (hn : i + 1 < mL) (k : Z K P (pc + 2) (zst2 L i (.long x)) st) : Z K P pc L (.long x :: st) := by
  obtain ⟨p, e, m, args, below, meth, c, n1, n2, Q, rfl, hx, hb, hml, hown, hts, hK, he, hs, hc1, hc2⟩ := C
  intro H locs ls hS hP hl
  exact lv_lstore hx hb hd hl hn rfl (fun ls hl => k H locs ls hS hP hl)
theorem z_aload_n (C : zC (cell := cell) l E adr ok eu ev A K cc own R s mL) {k : Fin 4} {x : Nat} (q : Nat) (hd : decode cc pc = .ok (.aload_n k, 1)) (hq : L[q]? = some ((k : Nat), .ref x)) (k : Z K P (pc + 1) L (.ref x :: st)) : Z K P pc L (st) := by
  obtain ⟨p, e, m, args, below, meth, c, n1, n2, Q, rfl, hx, hb, hml, hown, hts, hK, he, hs, hc1, hc2⟩ := C
  intro H locs ls hS hP hl
  exact lv_aload_n hx hb hd rfl (lv_at hl q hq) (k H locs ls hS hP hl)
theorem z_aload (C : zC (cell := cell) l E adr ok eu ev A K cc own R s mL) {i : Nat} {x : Nat} (q : Nat) (hd : decode cc pc = .ok (.aload i, 2)) (hq : L[q]? = some (i, .ref x)) (k : Z K P (pc + 2) L (.ref x :: st)) : Z K P pc L (st) := by
  obtain ⟨p, e, m, args, below, meth, c, n1, n2, Q, rfl, hx, hb, hml, hown, hts, hK, he, hs, hc1, hc2⟩ := C
  intro H locs ls hS hP hl
  exact lv_aload hx hb hd (lv_at hl q hq) (k H locs ls hS hP hl)
theorem z_astore_n (C : zC (cell := cell) l E adr ok eu ev A K cc own R s mL) {k : Fin 4} {i : Nat} {x : Nat} (hd : decode cc pc = .ok (.astore_n k, 1)) (hi : (k : Nat) = i) (hn : i < mL) (k : Z K P (pc + 1) (zst L i (.ref x)) st) : Z K P pc L (.ref x :: st) := by
  obtain ⟨p, e, m, args, below, meth, c, n1, n2, Q, rfl, hx, hb, hml, hown, hts, hK, he, hs, hc1, hc2⟩ := C
  intro H locs ls hS hP hl
  exact lv_astore_n hx hb hd hi hl hn rfl (fun ls hl => k H locs ls hS hP hl)
theorem z_astore (C : zC (cell := cell) l E adr ok eu ev A K cc own R s mL) {i : Nat} {x : Nat} (hd : decode cc pc = .ok (.astore i, 2)) (hn : i < mL) (k : Z K P (pc + 2) (zst L i (.ref x)) st) : Z K P pc L (.ref x :: st) := by
  obtain ⟨p, e, m, args, below, meth, c, n1, n2, Q, rfl, hx, hb, hml, hown, hts, hK, he, hs, hc1, hc2⟩ := C
  intro H locs ls hS hP hl
  exact lv_astore hx hb hd hl hn rfl (fun ls hl => k H locs ls hS hP hl)
theorem z_iinc (C : zC (cell := cell) l E adr ok eu ev A K cc own R s mL) {i : Nat} {n : Int} {x v : Int32} (q : Nat) (hd : decode cc pc = .ok (.iinc i n, 3)) (hq : L[q]? = some (i, .int x)) (hv : x + Int32.ofInt n = v) (hn : i < mL) (k : Z K P (pc + 3) (zst L i (.int v)) st) : Z K P pc L st := by
  obtain ⟨p, e, m, args, below, meth, c, n1, n2, Q, rfl, hx, hb, hml, hown, hts, hK, he, hs, hc1, hc2⟩ := C
  intro H locs ls hS hP hl
  exact lv_iinc hx hb hd hl hq hv hn rfl (fun ls hl => k H locs ls hS hP hl)
theorem z_iadd (C : zC (cell := cell) l E adr ok eu ev A K cc own R s mL) {x y : Int32} (hd : decode cc pc = .ok (.iadd, 1)) (k : Z K P (pc + 1) L (.int (x + y) :: st)) : Z K P pc L (.int y :: .int x :: st) := by
  obtain ⟨p, e, m, args, below, meth, c, n1, n2, Q, rfl, hx, hb, hml, hown, hts, hK, he, hs, hc1, hc2⟩ := C
  intro H locs ls hS hP hl
  exact lv_iadd hx hb hd (k H locs ls hS hP hl)
theorem z_isub (C : zC (cell := cell) l E adr ok eu ev A K cc own R s mL) {x y : Int32} (hd : decode cc pc = .ok (.isub, 1)) (k : Z K P (pc + 1) L (.int (x - y) :: st)) : Z K P pc L (.int y :: .int x :: st) := by
  obtain ⟨p, e, m, args, below, meth, c, n1, n2, Q, rfl, hx, hb, hml, hown, hts, hK, he, hs, hc1, hc2⟩ := C
  intro H locs ls hS hP hl
  exact lv_isub hx hb hd (k H locs ls hS hP hl)
theorem z_imul (C : zC (cell := cell) l E adr ok eu ev A K cc own R s mL) {x y : Int32} (hd : decode cc pc = .ok (.imul, 1)) (k : Z K P (pc + 1) L (.int (x * y) :: st)) : Z K P pc L (.int y :: .int x :: st) := by
  obtain ⟨p, e, m, args, below, meth, c, n1, n2, Q, rfl, hx, hb, hml, hown, hts, hK, he, hs, hc1, hc2⟩ := C
  intro H locs ls hS hP hl
  exact lv_imul hx hb hd (k H locs ls hS hP hl)
theorem z_iand (C : zC (cell := cell) l E adr ok eu ev A K cc own R s mL) {x y : Int32} (hd : decode cc pc = .ok (.iand, 1)) (k : Z K P (pc + 1) L (.int (x &&& y) :: st)) : Z K P pc L (.int y :: .int x :: st) := by
  obtain ⟨p, e, m, args, below, meth, c, n1, n2, Q, rfl, hx, hb, hml, hown, hts, hK, he, hs, hc1, hc2⟩ := C
  intro H locs ls hS hP hl
  exact lv_iand hx hb hd (k H locs ls hS hP hl)
theorem z_ior (C : zC (cell := cell) l E adr ok eu ev A K cc own R s mL) {x y : Int32} (hd : decode cc pc = .ok (.ior, 1)) (k : Z K P (pc + 1) L (.int (x ||| y) :: st)) : Z K P pc L (.int y :: .int x :: st) := by
  obtain ⟨p, e, m, args, below, meth, c, n1, n2, Q, rfl, hx, hb, hml, hown, hts, hK, he, hs, hc1, hc2⟩ := C
  intro H locs ls hS hP hl
  exact lv_ior hx hb hd (k H locs ls hS hP hl)
theorem z_ixor (C : zC (cell := cell) l E adr ok eu ev A K cc own R s mL) {x y : Int32} (hd : decode cc pc = .ok (.ixor, 1)) (k : Z K P (pc + 1) L (.int (x ^^^ y) :: st)) : Z K P pc L (.int y :: .int x :: st) := by
  obtain ⟨p, e, m, args, below, meth, c, n1, n2, Q, rfl, hx, hb, hml, hown, hts, hK, he, hs, hc1, hc2⟩ := C
  intro H locs ls hS hP hl
  exact lv_ixor hx hb hd (k H locs ls hS hP hl)
theorem z_ishl (C : zC (cell := cell) l E adr ok eu ev A K cc own R s mL) {x y : Int32} (hd : decode cc pc = .ok (.ishl, 1)) (k : Z K P (pc + 1) L (.int (x <<< (y &&& 31)) :: st)) : Z K P pc L (.int y :: .int x :: st) := by
  obtain ⟨p, e, m, args, below, meth, c, n1, n2, Q, rfl, hx, hb, hml, hown, hts, hK, he, hs, hc1, hc2⟩ := C
  intro H locs ls hS hP hl
  exact lv_ishl hx hb hd (k H locs ls hS hP hl)
theorem z_ishr (C : zC (cell := cell) l E adr ok eu ev A K cc own R s mL) {x y : Int32} (hd : decode cc pc = .ok (.ishr, 1)) (k : Z K P (pc + 1) L (.int (x >>> (y &&& 31)) :: st)) : Z K P pc L (.int y :: .int x :: st) := by
  obtain ⟨p, e, m, args, below, meth, c, n1, n2, Q, rfl, hx, hb, hml, hown, hts, hK, he, hs, hc1, hc2⟩ := C
  intro H locs ls hS hP hl
  exact lv_ishr hx hb hd (k H locs ls hS hP hl)
theorem z_idiv (C : zC (cell := cell) l E adr ok eu ev A K cc own R s mL) {x y : Int32} (hd : decode cc pc = .ok (.idiv, 1)) (hne : ¬ y = 0) (k : Z K P (pc + 1) L (.int (x / y) :: st)) : Z K P pc L (.int y :: .int x :: st) := by
  obtain ⟨p, e, m, args, below, meth, c, n1, n2, Q, rfl, hx, hb, hml, hown, hts, hK, he, hs, hc1, hc2⟩ := C
  intro H locs ls hS hP hl
  exact lv_idiv hx hb hd hne (k H locs ls hS hP hl)
theorem z_irem (C : zC (cell := cell) l E adr ok eu ev A K cc own R s mL) {x y : Int32} (hd : decode cc pc = .ok (.irem, 1)) (hne : ¬ y = 0) (k : Z K P (pc + 1) L (.int (x - x / y * y) :: st)) : Z K P pc L (.int y :: .int x :: st) := by
  obtain ⟨p, e, m, args, below, meth, c, n1, n2, Q, rfl, hx, hb, hml, hown, hts, hK, he, hs, hc1, hc2⟩ := C
  intro H locs ls hS hP hl
  exact lv_irem hx hb hd hne (k H locs ls hS hP hl)
theorem z_ladd (C : zC (cell := cell) l E adr ok eu ev A K cc own R s mL) {x y : Int64} (hd : decode cc pc = .ok (.ladd, 1)) (k : Z K P (pc + 1) L (.long (x + y) :: st)) : Z K P pc L (.long y :: .long x :: st) := by
  obtain ⟨p, e, m, args, below, meth, c, n1, n2, Q, rfl, hx, hb, hml, hown, hts, hK, he, hs, hc1, hc2⟩ := C
  intro H locs ls hS hP hl
  exact lv_ladd hx hb hd (k H locs ls hS hP hl)
theorem z_lsub (C : zC (cell := cell) l E adr ok eu ev A K cc own R s mL) {x y : Int64} (hd : decode cc pc = .ok (.lsub, 1)) (k : Z K P (pc + 1) L (.long (x - y) :: st)) : Z K P pc L (.long y :: .long x :: st) := by
  obtain ⟨p, e, m, args, below, meth, c, n1, n2, Q, rfl, hx, hb, hml, hown, hts, hK, he, hs, hc1, hc2⟩ := C
  intro H locs ls hS hP hl
  exact lv_lsub hx hb hd (k H locs ls hS hP hl)
theorem z_lmul (C : zC (cell := cell) l E adr ok eu ev A K cc own R s mL) {x y : Int64} (hd : decode cc pc = .ok (.lmul, 1)) (k : Z K P (pc + 1) L (.long (x * y) :: st)) : Z K P pc L (.long y :: .long x :: st) := by
  obtain ⟨p, e, m, args, below, meth, c, n1, n2, Q, rfl, hx, hb, hml, hown, hts, hK, he, hs, hc1, hc2⟩ := C
  intro H locs ls hS hP hl
  exact lv_lmul hx hb hd (k H locs ls hS hP hl)
theorem z_land (C : zC (cell := cell) l E adr ok eu ev A K cc own R s mL) {x y : Int64} (hd : decode cc pc = .ok (.land, 1)) (k : Z K P (pc + 1) L (.long (x &&& y) :: st)) : Z K P pc L (.long y :: .long x :: st) := by
  obtain ⟨p, e, m, args, below, meth, c, n1, n2, Q, rfl, hx, hb, hml, hown, hts, hK, he, hs, hc1, hc2⟩ := C
  intro H locs ls hS hP hl
  exact lv_land hx hb hd (k H locs ls hS hP hl)
theorem z_lor (C : zC (cell := cell) l E adr ok eu ev A K cc own R s mL) {x y : Int64} (hd : decode cc pc = .ok (.lor, 1)) (k : Z K P (pc + 1) L (.long (x ||| y) :: st)) : Z K P pc L (.long y :: .long x :: st) := by
  obtain ⟨p, e, m, args, below, meth, c, n1, n2, Q, rfl, hx, hb, hml, hown, hts, hK, he, hs, hc1, hc2⟩ := C
  intro H locs ls hS hP hl
  exact lv_lor hx hb hd (k H locs ls hS hP hl)
theorem z_lshl (C : zC (cell := cell) l E adr ok eu ev A K cc own R s mL) {x : Int64} {y : Int32} (hd : decode cc pc = .ok (.lshl, 1)) (k : Z K P (pc + 1) L (.long (x <<< (y.toInt64 &&& 63)) :: st)) : Z K P pc L (.int y :: .long x :: st) := by
  obtain ⟨p, e, m, args, below, meth, c, n1, n2, Q, rfl, hx, hb, hml, hown, hts, hK, he, hs, hc1, hc2⟩ := C
  intro H locs ls hS hP hl
  exact lv_lshl hx hb hd rfl (k H locs ls hS hP hl)
theorem z_iushr (C : zC (cell := cell) l E adr ok eu ev A K cc own R s mL) {x y v : Int32} (hd : decode cc pc = .ok (.iushr, 1)) (hv : (x.toUInt32 >>> (y.toUInt32 &&& Int32.toUInt32 31)).toInt32 = v) (k : Z K P (pc + 1) L (.int v :: st)) : Z K P pc L (.int y :: .int x :: st) := by
  obtain ⟨p, e, m, args, below, meth, c, n1, n2, Q, rfl, hx, hb, hml, hown, hts, hK, he, hs, hc1, hc2⟩ := C
  intro H locs ls hS hP hl
  exact lv_iushr hx hb hd hv (k H locs ls hS hP hl)
theorem z_ineg (C : zC (cell := cell) l E adr ok eu ev A K cc own R s mL) {x : Int32} (hd : decode cc pc = .ok (.ineg, 1)) (k : Z K P (pc + 1) L (.int (-x) :: st)) : Z K P pc L (.int x :: st) := by
  obtain ⟨p, e, m, args, below, meth, c, n1, n2, Q, rfl, hx, hb, hml, hown, hts, hK, he, hs, hc1, hc2⟩ := C
  intro H locs ls hS hP hl
  exact lv_ineg hx hb hd (k H locs ls hS hP hl)
theorem z_i2l (C : zC (cell := cell) l E adr ok eu ev A K cc own R s mL) {x : Int32} (hd : decode cc pc = .ok (.i2l, 1)) (k : Z K P (pc + 1) L (.long x.toInt64 :: st)) : Z K P pc L (.int x :: st) := by
  obtain ⟨p, e, m, args, below, meth, c, n1, n2, Q, rfl, hx, hb, hml, hown, hts, hK, he, hs, hc1, hc2⟩ := C
  intro H locs ls hS hP hl
  exact lv_i2l hx hb hd rfl (k H locs ls hS hP hl)
theorem z_l2i (C : zC (cell := cell) l E adr ok eu ev A K cc own R s mL) {x : Int64} (hd : decode cc pc = .ok (.l2i, 1)) (k : Z K P (pc + 1) L (.int x.toInt32 :: st)) : Z K P pc L (.long x :: st) := by
  obtain ⟨p, e, m, args, below, meth, c, n1, n2, Q, rfl, hx, hb, hml, hown, hts, hK, he, hs, hc1, hc2⟩ := C
  intro H locs ls hS hP hl
  exact lv_l2i hx hb hd rfl (k H locs ls hS hP hl)
theorem z_i2b (C : zC (cell := cell) l E adr ok eu ev A K cc own R s mL) {x : Int32} (hd : decode cc pc = .ok (.i2b, 1)) (k : Z K P (pc + 1) L (.int x.toInt8.toInt32 :: st)) : Z K P pc L (.int x :: st) := by
  obtain ⟨p, e, m, args, below, meth, c, n1, n2, Q, rfl, hx, hb, hml, hown, hts, hK, he, hs, hc1, hc2⟩ := C
  intro H locs ls hS hP hl
  exact lv_i2b hx hb hd rfl (k H locs ls hS hP hl)
theorem z_i2s (C : zC (cell := cell) l E adr ok eu ev A K cc own R s mL) {x : Int32} (hd : decode cc pc = .ok (.i2s, 1)) (k : Z K P (pc + 1) L (.int x.toInt16.toInt32 :: st)) : Z K P pc L (.int x :: st) := by
  obtain ⟨p, e, m, args, below, meth, c, n1, n2, Q, rfl, hx, hb, hml, hown, hts, hK, he, hs, hc1, hc2⟩ := C
  intro H locs ls hS hP hl
  exact lv_i2s hx hb hd rfl (k H locs ls hS hP hl)
theorem z_lcmp (C : zC (cell := cell) l E adr ok eu ev A K cc own R s mL) {x y : Int64} (hd : decode cc pc = .ok (.lcmp, 1)) (k : Z K P (pc + 1) L (.int (lg_cmp x y) :: st)) : Z K P pc L (.long y :: .long x :: st) := by
  obtain ⟨p, e, m, args, below, meth, c, n1, n2, Q, rfl, hx, hb, hml, hown, hts, hK, he, hs, hc1, hc2⟩ := C
  intro H locs ls hS hP hl
  exact W.lcmp hx hb hd (k H locs ls hS hP hl)
theorem z_dup (C : zC (cell := cell) l E adr ok eu ev A K cc own R s mL) {a : Value} (hd : decode cc pc = .ok (.dup, 1)) (ha : a.category = 1) (k : Z K P (pc + 1) L (a :: a :: st)) : Z K P pc L (a :: st) := by
  obtain ⟨p, e, m, args, below, meth, c, n1, n2, Q, rfl, hx, hb, hml, hown, hts, hK, he, hs, hc1, hc2⟩ := C
  intro H locs ls hS hP hl
  exact lv_dup hx hb hd ha (k H locs ls hS hP hl)
theorem z_pop (C : zC (cell := cell) l E adr ok eu ev A K cc own R s mL) {a : Value} (hd : decode cc pc = .ok (.pop, 1)) (ha : a.category = 1) (k : Z K P (pc + 1) L (st)) : Z K P pc L (a :: st) := by
  obtain ⟨p, e, m, args, below, meth, c, n1, n2, Q, rfl, hx, hb, hml, hown, hts, hK, he, hs, hc1, hc2⟩ := C
  intro H locs ls hS hP hl
  exact lv_pop hx hb hd ha (k H locs ls hS hP hl)
theorem z_dup_x1 (C : zC (cell := cell) l E adr ok eu ev A K cc own R s mL) {a b : Value} (hd : decode cc pc = .ok (.dup_x1, 1)) (ha : a.category = 1) (hb2 : b.category = 1) (k : Z K P (pc + 1) L (a :: b :: a :: st)) : Z K P pc L (a :: b :: st) := by
  obtain ⟨p, e, m, args, below, meth, c, n1, n2, Q, rfl, hx, hb, hml, hown, hts, hK, he, hs, hc1, hc2⟩ := C
  intro H locs ls hS hP hl
  exact lv_dup_x1 hx hb hd ha hb2 (k H locs ls hS hP hl)
theorem z_dup2 (C : zC (cell := cell) l E adr ok eu ev A K cc own R s mL) {a b : Value} (hd : decode cc pc = .ok (.dup2, 1)) (ha : a.category = 1) (hb2 : b.category = 1) (k : Z K P (pc + 1) L (a :: b :: a :: b :: st)) : Z K P pc L (a :: b :: st) := by
  obtain ⟨p, e, m, args, below, meth, c, n1, n2, Q, rfl, hx, hb, hml, hown, hts, hK, he, hs, hc1, hc2⟩ := C
  intro H locs ls hS hP hl
  exact lv_dup2_11 hx hb hd ha hb2 (k H locs ls hS hP hl)
theorem z_ldc2 (C : zC (cell := cell) l E adr ok eu ev A K cc own R s mL) {i : Nat} {v : Int64} (hd : decode cc pc = .ok (.ldc2_w i, 3)) (hw : Jvm.Cond.constantLong own i v ∈ zTB) (k : Z K P (pc + 3) L (.long v :: st)) : Z K P pc L (st) := by
  obtain ⟨p, e, m, args, below, meth, c, n1, n2, Q, rfl, hx, hb, hml, hown, hts, hK, he, hs, hc1, hc2⟩ := C
  intro H locs ls hS hP hl
  exact lv_ldc2 hx hb hown (hts _ hw) hd (k H locs ls hS hP hl)
theorem z_ldc (C : zC (cell := cell) l E adr ok eu ev A K cc own R s mL) {i : Nat} {v : Int32} (hd : decode cc pc = .ok (.ldc i, 2)) (hw : Jvm.Cond.constant own i v ∈ zTB) (k : Z K P (pc + 2) L (.int v :: st)) : Z K P pc L (st) := by
  obtain ⟨p, e, m, args, below, meth, c, n1, n2, Q, rfl, hx, hb, hml, hown, hts, hK, he, hs, hc1, hc2⟩ := C
  intro H locs ls hS hP hl
  exact lv_ldc hx hb hown (hts _ hw) hd (k H locs ls hS hP hl)
theorem z_ldcw (C : zC (cell := cell) l E adr ok eu ev A K cc own R s mL) {i : Nat} {v : Int32} (hd : decode cc pc = .ok (.ldc_w i, 3)) (hw : Jvm.Cond.constant own i v ∈ zTB) (k : Z K P (pc + 3) L (.int v :: st)) : Z K P pc L (st) := by
  obtain ⟨p, e, m, args, below, meth, c, n1, n2, Q, rfl, hx, hb, hml, hown, hts, hK, he, hs, hc1, hc2⟩ := C
  intro H locs ls hS hP hl
  exact lv_ldcw hx hb hown (hts _ hw) hd (k H locs ls hS hP hl)
theorem z_goto (C : zC (cell := cell) l E adr ok eu ev A K cc own R s mL) {off : Int} (tgt : Nat) (hd : decode cc pc = .ok (.goto off, 3)) (ht : (pc : Int) + off = (tgt : Int)) (k : Z K P tgt L st) : Z K P pc L st := by
  obtain ⟨p, e, m, args, below, meth, c, n1, n2, Q, rfl, hx, hb, hml, hown, hts, hK, he, hs, hc1, hc2⟩ := C
  intro H locs ls hS hP hl
  exact lv_goto hx hb hd ht (k H locs ls hS hP hl)
theorem z_if_eq (C : zC (cell := cell) l E adr ok eu ev A K cc own R s mL) {x : Int32} {off : Int} (tgt : Nat) (hd : decode cc pc = .ok (.ifCond .eq off, 3)) (ht : (pc : Int) + off = (tgt : Int)) (kt : x = 0 → Z K P tgt L st) (kf : ¬ (x = 0) → Z K P (pc + 3) L st) : Z K P pc L (.int x :: st) := by
  obtain ⟨p, e, m, args, below, meth, c, n1, n2, Q, rfl, hx, hb, hml, hown, hts, hK, he, hs, hc1, hc2⟩ := C
  intro H locs ls hS hP hl
  exact lv_if_eq hx hb hd ht (fun z => kt z H locs ls hS hP hl) (fun z => kf z H locs ls hS hP hl)
theorem z_icmp_eq (C : zC (cell := cell) l E adr ok eu ev A K cc own R s mL) {x y : Int32} {off : Int} (tgt : Nat) (hd : decode cc pc = .ok (.if_icmp .eq off, 3)) (ht : (pc : Int) + off = (tgt : Int)) (kt : x = y → Z K P tgt L st) (kf : ¬ (x = y) → Z K P (pc + 3) L st) : Z K P pc L (.int y :: .int x :: st) := by
  obtain ⟨p, e, m, args, below, meth, c, n1, n2, Q, rfl, hx, hb, hml, hown, hts, hK, he, hs, hc1, hc2⟩ := C
  intro H locs ls hS hP hl
  exact lv_icmp_eq hx hb hd ht (fun z => kt z H locs ls hS hP hl) (fun z => kf z H locs ls hS hP hl)
theorem z_if_ne (C : zC (cell := cell) l E adr ok eu ev A K cc own R s mL) {x : Int32} {off : Int} (tgt : Nat) (hd : decode cc pc = .ok (.ifCond .ne off, 3)) (ht : (pc : Int) + off = (tgt : Int)) (kt : ¬ x = 0 → Z K P tgt L st) (kf : x = 0 → Z K P (pc + 3) L st) : Z K P pc L (.int x :: st) := by
  obtain ⟨p, e, m, args, below, meth, c, n1, n2, Q, rfl, hx, hb, hml, hown, hts, hK, he, hs, hc1, hc2⟩ := C
  intro H locs ls hS hP hl
  exact lv_if_ne hx hb hd ht (fun z => kt z H locs ls hS hP hl) (fun z => kf z H locs ls hS hP hl)
theorem z_icmp_ne (C : zC (cell := cell) l E adr ok eu ev A K cc own R s mL) {x y : Int32} {off : Int} (tgt : Nat) (hd : decode cc pc = .ok (.if_icmp .ne off, 3)) (ht : (pc : Int) + off = (tgt : Int)) (kt : ¬ x = y → Z K P tgt L st) (kf : x = y → Z K P (pc + 3) L st) : Z K P pc L (.int y :: .int x :: st) := by
  obtain ⟨p, e, m, args, below, meth, c, n1, n2, Q, rfl, hx, hb, hml, hown, hts, hK, he, hs, hc1, hc2⟩ := C
  intro H locs ls hS hP hl
  exact lv_icmp_ne hx hb hd ht (fun z => kt z H locs ls hS hP hl) (fun z => kf z H locs ls hS hP hl)
theorem z_if_lt (C : zC (cell := cell) l E adr ok eu ev A K cc own R s mL) {x : Int32} {off : Int} (tgt : Nat) (hd : decode cc pc = .ok (.ifCond .lt off, 3)) (ht : (pc : Int) + off = (tgt : Int)) (kt : x < 0 → Z K P tgt L st) (kf : ¬ (x < 0) → Z K P (pc + 3) L st) : Z K P pc L (.int x :: st) := by
  obtain ⟨p, e, m, args, below, meth, c, n1, n2, Q, rfl, hx, hb, hml, hown, hts, hK, he, hs, hc1, hc2⟩ := C
  intro H locs ls hS hP hl
  exact lv_if_lt hx hb hd ht (fun z => kt z H locs ls hS hP hl) (fun z => kf z H locs ls hS hP hl)
theorem z_icmp_lt (C : zC (cell := cell) l E adr ok eu ev A K cc own R s mL) {x y : Int32} {off : Int} (tgt : Nat) (hd : decode cc pc = .ok (.if_icmp .lt off, 3)) (ht : (pc : Int) + off = (tgt : Int)) (kt : x < y → Z K P tgt L st) (kf : ¬ (x < y) → Z K P (pc + 3) L st) : Z K P pc L (.int y :: .int x :: st) := by
  obtain ⟨p, e, m, args, below, meth, c, n1, n2, Q, rfl, hx, hb, hml, hown, hts, hK, he, hs, hc1, hc2⟩ := C
  intro H locs ls hS hP hl
  exact lv_icmp_lt hx hb hd ht (fun z => kt z H locs ls hS hP hl) (fun z => kf z H locs ls hS hP hl)
theorem z_if_ge (C : zC (cell := cell) l E adr ok eu ev A K cc own R s mL) {x : Int32} {off : Int} (tgt : Nat) (hd : decode cc pc = .ok (.ifCond .ge off, 3)) (ht : (pc : Int) + off = (tgt : Int)) (kt : 0 ≤ x → Z K P tgt L st) (kf : ¬ (0 ≤ x) → Z K P (pc + 3) L st) : Z K P pc L (.int x :: st) := by
  obtain ⟨p, e, m, args, below, meth, c, n1, n2, Q, rfl, hx, hb, hml, hown, hts, hK, he, hs, hc1, hc2⟩ := C
  intro H locs ls hS hP hl
  exact lv_if_ge hx hb hd ht (fun z => kt z H locs ls hS hP hl) (fun z => kf z H locs ls hS hP hl)
theorem z_icmp_ge (C : zC (cell := cell) l E adr ok eu ev A K cc own R s mL) {x y : Int32} {off : Int} (tgt : Nat) (hd : decode cc pc = .ok (.if_icmp .ge off, 3)) (ht : (pc : Int) + off = (tgt : Int)) (kt : y ≤ x → Z K P tgt L st) (kf : ¬ (y ≤ x) → Z K P (pc + 3) L st) : Z K P pc L (.int y :: .int x :: st) := by
  obtain ⟨p, e, m, args, below, meth, c, n1, n2, Q, rfl, hx, hb, hml, hown, hts, hK, he, hs, hc1, hc2⟩ := C
  intro H locs ls hS hP hl
  exact lv_icmp_ge hx hb hd ht (fun z => kt z H locs ls hS hP hl) (fun z => kf z H locs ls hS hP hl)
theorem z_if_gt (C : zC (cell := cell) l E adr ok eu ev A K cc own R s mL) {x : Int32} {off : Int} (tgt : Nat) (hd : decode cc pc = .ok (.ifCond .gt off, 3)) (ht : (pc : Int) + off = (tgt : Int)) (kt : 0 < x → Z K P tgt L st) (kf : ¬ (0 < x) → Z K P (pc + 3) L st) : Z K P pc L (.int x :: st) := by
  obtain ⟨p, e, m, args, below, meth, c, n1, n2, Q, rfl, hx, hb, hml, hown, hts, hK, he, hs, hc1, hc2⟩ := C
  intro H locs ls hS hP hl
  exact lv_if_gt hx hb hd ht (fun z => kt z H locs ls hS hP hl) (fun z => kf z H locs ls hS hP hl)
theorem z_icmp_gt (C : zC (cell := cell) l E adr ok eu ev A K cc own R s mL) {x y : Int32} {off : Int} (tgt : Nat) (hd : decode cc pc = .ok (.if_icmp .gt off, 3)) (ht : (pc : Int) + off = (tgt : Int)) (kt : y < x → Z K P tgt L st) (kf : ¬ (y < x) → Z K P (pc + 3) L st) : Z K P pc L (.int y :: .int x :: st) := by
  obtain ⟨p, e, m, args, below, meth, c, n1, n2, Q, rfl, hx, hb, hml, hown, hts, hK, he, hs, hc1, hc2⟩ := C
  intro H locs ls hS hP hl
  exact lv_icmp_gt hx hb hd ht (fun z => kt z H locs ls hS hP hl) (fun z => kf z H locs ls hS hP hl)
theorem z_if_le (C : zC (cell := cell) l E adr ok eu ev A K cc own R s mL) {x : Int32} {off : Int} (tgt : Nat) (hd : decode cc pc = .ok (.ifCond .le off, 3)) (ht : (pc : Int) + off = (tgt : Int)) (kt : x ≤ 0 → Z K P tgt L st) (kf : ¬ (x ≤ 0) → Z K P (pc + 3) L st) : Z K P pc L (.int x :: st) := by
  obtain ⟨p, e, m, args, below, meth, c, n1, n2, Q, rfl, hx, hb, hml, hown, hts, hK, he, hs, hc1, hc2⟩ := C
  intro H locs ls hS hP hl
  exact lv_if_le hx hb hd ht (fun z => kt z H locs ls hS hP hl) (fun z => kf z H locs ls hS hP hl)
theorem z_icmp_le (C : zC (cell := cell) l E adr ok eu ev A K cc own R s mL) {x y : Int32} {off : Int} (tgt : Nat) (hd : decode cc pc = .ok (.if_icmp .le off, 3)) (ht : (pc : Int) + off = (tgt : Int)) (kt : x ≤ y → Z K P tgt L st) (kf : ¬ (x ≤ y) → Z K P (pc + 3) L st) : Z K P pc L (.int y :: .int x :: st) := by
  obtain ⟨p, e, m, args, below, meth, c, n1, n2, Q, rfl, hx, hb, hml, hown, hts, hK, he, hs, hc1, hc2⟩ := C
  intro H locs ls hS hP hl
  exact lv_icmp_le hx hb hd ht (fun z => kt z H locs ls hS hP hl) (fun z => kf z H locs ls hS hP hl)
theorem z_tabIn (C : zC (cell := cell) l E adr ok eu ev A K cc own R s mL) {dflt lo hi : Int} {offs : Array Int} {len : Nat} {x : Int32} (v : Int32) (off : Int) (tgt : Nat) (hx2 : x = v) (hd : decode cc pc = .ok (.tableswitch dflt lo hi offs, len)) (h : (¬ v.toInt < lo ∧ ¬ hi < v.toInt) ∧ offs[(v.toInt - lo).toNat]? = some off) (ht : (pc : Int) + off = (tgt : Int)) (k : Z K P tgt L st) : Z K P pc L (.int x :: st) := by
  subst hx2
  obtain ⟨p, e, m, args, below, meth, c, n1, n2, Q, rfl, hx, hb, hml, hown, hts, hK, he, hs, hc1, hc2⟩ := C
  intro H locs ls hS hP hl
  exact lv_tableIn hx hb hd h.1.1 h.1.2 h.2 ht (k H locs ls hS hP hl)
theorem z_tabOut (C : zC (cell := cell) l E adr ok eu ev A K cc own R s mL) {dflt lo hi : Int} {offs : Array Int} {len : Nat} {x : Int32} (tgt : Nat) (h : x.toInt < lo ∨ hi < x.toInt) (hd : decode cc pc = .ok (.tableswitch dflt lo hi offs, len)) (ht : (pc : Int) + dflt = (tgt : Int)) (k : Z K P tgt L st) : Z K P pc L (.int x :: st) := by
  obtain ⟨p, e, m, args, below, meth, c, n1, n2, Q, rfl, hx, hb, hml, hown, hts, hK, he, hs, hc1, hc2⟩ := C
  intro H locs ls hS hP hl
  exact lv_tableOut hx hb hd h ht (k H locs ls hS hP hl)
theorem z_lookup (C : zC (cell := cell) l E adr ok eu ev A K cc own R s mL) {dflt : Int} {ps : Array (Int × Int)} {len : Nat} {x : Int32} (off : Int) (tgt : Nat) (hd : decode cc pc = .ok (.lookupswitch dflt ps, len)) (hp : (ps.toList.zip (ps.toList.drop 1)).all (fun (a, next) => a.1 < next.1) = true) (ho : Op.lookupswitch.offset ps.toList dflt x.toInt = off) (ht : (pc : Int) + off = (tgt : Int)) (k : Z K P tgt L st) : Z K P pc L (.int x :: st) := by
  obtain ⟨p, e, m, args, below, meth, c, n1, n2, Q, rfl, hx, hb, hml, hown, hts, hK, he, hs, hc1, hc2⟩ := C
  intro H locs ls hS hP hl
  exact lv_lookup hx hb hd hp ho ht (k H locs ls hS hP hl)
theorem z_case {x : Int32} (v : Int32) {G : Prop} (a : x = v → G) (b : ¬ x = v → G) : G := (Classical.em (x = v)).elim a b
theorem z_eq {P2 : Heap → Prop} {pc2 : Nat} {L2 : List (Nat × Value)} {st2 : List Value} (hP : P = P2) (hpc : pc = pc2) (hL : L = L2) (hst : st = st2) (k : Z K P2 pc2 L2 st2) : Z K P pc L st := by subst hP; subst hpc; subst hL; subst hst; exact k
/-- fewer locals, by their places -/
theorem z_pick (ks : List Nat) {L2 : List (Nat × Value)} (h : lv_pick L ks = L2) (k : Z K P pc L2 st) : Z K P pc L st := fun H locs ls hS hP hl => k H locs ls hS hP (lv_sub hl ks h)
theorem z_mono {P2 : Heap → Prop} (h : ∀ H, P H → P2 H) (k : Z K P2 pc L st) : Z K P pc L st := fun H locs ls hS hP hl => k H locs ls hS (h H hP) hl
/-- the value on top, under another name -/
theorem z_top {x : Int32} (y : Int32) (h : x = y) (k : Z K P pc L (.int y :: st)) : Z K P pc L (.int x :: st) := by subst h; exact k
theorem z_top2 {a : Value} {x : Int32} (y : Int32) (h : x = y) (k : Z K P pc L (a :: .int y :: st)) : Z K P pc L (a :: .int x :: st) := by subst h; exact k
theorem z_topl {x : Int64} (y : Int64) (h : x = y) (k : Z K P pc L (.long y :: st)) : Z K P pc L (.long x :: st) := by subst h; exact k
theorem z_mmin (C : zC (cell := cell) l E adr ok eu ev A K cc own R s mL) {i : Nat} {x y : Int32} (hd : decode cc pc = .ok (.invokestatic i, 3)) (hw : Cond.methodLink own i Lib.Math.min.name ∈ zTB ∧ Cond.static Lib.Math.min.name ∈ zTB ∧ Cond.initialized "java/lang/Math" ∈ zTB ∧ Cond.code Lib.Math.min.name Lib.Math.min.code 2 (some .int) ∈ zTB) (hR : 1 ≤ R.frames ∧ (st.map fun v => v.category).sum + 13 ≤ R.locals) (k : Z K P (pc + 3) L (.int (if y < x then y else x) :: st)) : Z K P pc L (.int y :: .int x :: st) := by
  obtain ⟨p, e, m, args, below, meth, c, n1, n2, Q, rfl, hx, hb, hml, hown, hts, hK, he, hs, hc1, hc2⟩ := C
  intro H locs ls hS hP hl
  exact va_mmin hx hb (hml.trans hl.1.symm) hown (hts _ hw.1) (hts _ hw.2.1) (hts _ hw.2.2.1) (hts _ hw.2.2.2) hR.1 hR.2 hc1 hc2 hd (k H locs ls hS hP hl)
theorem z_mmax (C : zC (cell := cell) l E adr ok eu ev A K cc own R s mL) {i : Nat} {x y : Int32} (hd : decode cc pc = .ok (.invokestatic i, 3)) (hw : Cond.methodLink own i Lib.Math.max.name ∈ zTB ∧ Cond.static Lib.Math.max.name ∈ zTB ∧ Cond.initialized "java/lang/Math" ∈ zTB ∧ Cond.code Lib.Math.max.name Lib.Math.max.code 2 (some .int) ∈ zTB) (hR : 1 ≤ R.frames ∧ (st.map fun v => v.category).sum + 13 ≤ R.locals) (k : Z K P (pc + 3) L (.int (if x < y then y else x) :: st)) : Z K P pc L (.int y :: .int x :: st) := by
  obtain ⟨p, e, m, args, below, meth, c, n1, n2, Q, rfl, hx, hb, hml, hown, hts, hK, he, hs, hc1, hc2⟩ := C
  intro H locs ls hS hP hl
  exact va_mmax hx hb (hml.trans hl.1.symm) hown (hts _ hw.1) (hts _ hw.2.1) (hts _ hw.2.2.1) (hts _ hw.2.2.2) hR.1 hR.2 hc1 hc2 hd (k H locs ls hS hP hl)
theorem z_mmin_long (C : zC (cell := cell) l E adr ok eu ev A K cc own R s mL) {i : Nat} {x y : Int64} (hd : decode cc pc = .ok (.invokestatic i, 3)) (hw : Cond.methodLink own i Lib.MathLoose.min_long.x ∈ zTB ∧ Cond.static Lib.MathLoose.min_long.x ∈ zTB ∧ Cond.initialized "java/lang/Math" ∈ zTB ∧ Cond.code Lib.MathLoose.min_long.x Lib.MathLoose.min_long.code 4 (some .long) ∈ zTB) (hR : 1 ≤ R.frames ∧ (st.map fun v => v.category).sum + 15 ≤ R.locals) (k : Z K P (pc + 3) L (.long (if y < x then y else x) :: st)) : Z K P pc L (.long y :: .long x :: st) := by
  obtain ⟨p, e, m, args, below, meth, c, n1, n2, Q, rfl, hx, hb, hml, hown, hts, hK, he, hs, hc1, hc2⟩ := C
  intro H locs ls hS hP hl
  exact va_mmin_long hx hb (hml.trans hl.1.symm) hown (hts _ hw.1) (hts _ hw.2.1) (hts _ hw.2.2.1) (hts _ hw.2.2.2) hR.1 hR.2 hc1 hc2 hd (k H locs ls hS hP hl)
theorem z_mmax_long (C : zC (cell := cell) l E adr ok eu ev A K cc own R s mL) {i : Nat} {x y : Int64} (hd : decode cc pc = .ok (.invokestatic i, 3)) (hw : Cond.methodLink own i Lib.MathLoose.max_long.x ∈ zTB ∧ Cond.static Lib.MathLoose.max_long.x ∈ zTB ∧ Cond.initialized "java/lang/Math" ∈ zTB ∧ Cond.code Lib.MathLoose.max_long.x Lib.MathLoose.max_long.code 4 (some .long) ∈ zTB) (hR : 1 ≤ R.frames ∧ (st.map fun v => v.category).sum + 15 ≤ R.locals) (k : Z K P (pc + 3) L (.long (if y < x then x else y) :: st)) : Z K P pc L (.long y :: .long x :: st) := by
  obtain ⟨p, e, m, args, below, meth, c, n1, n2, Q, rfl, hx, hb, hml, hown, hts, hK, he, hs, hc1, hc2⟩ := C
  intro H locs ls hS hP hl
  exact va_mmax_long hx hb (hml.trans hl.1.symm) hown (hts _ hw.1) (hts _ hw.2.1) (hts _ hw.2.2.1) (hts _ hw.2.2.2) hR.1 hR.2 hc1 hc2 hd (k H locs ls hS hP hl)
end ZA
end
section
/-! memory, calls and ends, over the cells of a system -/
section ZM
variable {σ : Type} {l : Launch} {E : zE} {adr : zKey → Nat} {cell : σ → zKey → va_E} {ok : zKey → Prop} {eu : State → Prop} {ev : State → Heap → Prop} {A : Nat → Prop} {K : zK} {cc : ByteArray} {own : String} {R : Room} {s : State} {mL : Nat} {d : Nat} {ret : Option FieldType} {post : Option Value → σ → Prop} {F : σ}
variable {pc : Nat} {L : List (Nat × Value)} {st : List Value}
theorem va1 {D : va_G} {cl : List vw_C} {a : Nat} {e : va_E} {H : Heap} (h : va_at D cl (a, e) H) : va_P D cl [(a, e)] H := by
  intro k q hq
  match k, hq with
  | 0, hq => cases hq; exact h
  | k + 1, hq => simp at hq
theorem zPP.upd (hs : zSy adr ok eu ev A) {key : zKey} (hok : ok key) {F' : σ} {H H1 : Heap} (h : zPP E adr cell ok ev F s H) (hsz : H1.size = H.size) (oq : ∀ q : Nat, q ≠ adr key → H1[q]? = H[q]?) (hc : va_at E.1 zcl (adr key, cell F' key) H1) (hoth : ∀ k, ok k → k ≠ key → cell F' k = cell F k) : zPP E adr cell ok ev F' s H1 := by
  refine ⟨hs.2.2.2.1 s H H1 h.1 (by omega) (fun q _ hq => oq q (fun e => hq (e ▸ hs.2.1 key hok))), fun k hk => ?_⟩
  by_cases hne : k = key
  · subst hne; exact hc
  · rw [hoth k hk hne]
    exact (h.2 k hk).kept (oq _ (fun e => hne (hs.1 _ _ hk hok e)))
theorem zPP.go (hs : zSy adr ok eu ev A) {U : State} {H : Heap} (hK : va_K E.1 zcl (zT E) s) (he : eu s) (h : zPP E adr cell ok ev F s H) (hU : U.heap = H) (hW : s.WarmedH U.vm) : zPre E eu U ∧ zPP E adr cell ok ev F U U.heap := ⟨⟨va_K.moved hW.alike hK, hs.2.2.2.2.1 s U hW he⟩, by rw [hU]; exact zPP.moved hs hW.alike h⟩
theorem z_getf (C : zC (cell := cell) l E adr ok eu ev A K cc own R s mL) {key : zKey} {ci k N i : Nat} {fs : List Value} {C0 : String} {T : u_T} {v : Value} (hok : ok key) (hcell : cell F key = .inr (ci, fs)) (hin : ∀ w ∈ u_ws C0 T N, w ∈ zTB) (hcl : zcl[ci]? = some (C0, T, N)) (hk : k < N) (hlink : Cond.fieldLink own i (T k).1 (T k).2.1 (T k).2.2.1 ∈ zTB) (hv : fs[k]? = some v) (hd : decode cc pc = .ok (.getfield i, 3))
    (kk : Z K (zPP E adr cell ok ev F s) (pc + 3) L (v :: st)) : Z K (zPP E adr cell ok ev F s) pc L (.ref (adr key) :: st) := by
  obtain ⟨p, e, m, args, below, meth, c, n1, n2, Q, rfl, hx, hb, hml, hown, hts, hK, he, hs, hc1, hc2⟩ := C
  intro H locs ls hS hP hl
  have h1 := va1 (hcell ▸ hP.2 key hok)
  exact va_get hx hb hts hin hown hK h1 0 rfl hcl k hk (hts _ hlink) (fun _ h => h) hv hd (kk H locs ls hS hP hl)
theorem z_putf (C : zC (cell := cell) l E adr ok eu ev A K cc own R s mL) {key : zKey} {ci k N i : Nat} {fs : List Value} {C0 : String} {T : u_T} {v : Value} (F' : σ) (hok : ok key) (hcell : cell F key = .inr (ci, fs)) (hcell' : cell F' key = .inr (ci, fs.set k v)) (hoth : ∀ k, ok k → k ≠ key → cell F' k = cell F k) (hin : ∀ w ∈ u_ws C0 T N, w ∈ zTB) (ty0 : Nat → FieldType) (hty : ∀ k, k < N → parseFieldDescriptor (T k).2.2.1 = some (ty0 k)) (hnm : ∀ a, a < N → ∀ b, b < N → a ≠ b → (T a).2.1 ≠ (T b).2.1) (hcl : zcl[ci]? = some (C0, T, N)) (hk : k < N) (hlink : Cond.fieldLink own i (T k).1 (T k).2.1 (T k).2.2.1 ∈ zTB) (hfin : (T k).2.2.2 = false) {ty : FieldType} (hde : parseFieldDescriptor (T k).2.2.1 = some ty) (hn : narrow ty v = v) (hfit : fits ty v = true) (hlen : k < fs.length) (hd : decode cc pc = .ok (.putfield i, 3))
    (kk : Z K (zPP E adr cell ok ev F' s) (pc + 3) L st) : Z K (zPP E adr cell ok ev F s) pc L (v :: .ref (adr key) :: st) := by
  obtain ⟨p, e, m, args, below, meth, c, n1, n2, Q, rfl, hx, hb, hml, hown, hts, hK, he, hs, hc1, hc2⟩ := C
  intro H locs ls hS hP hl
  have hap := va_apart (own := own) hts hin ty0 hty hnm hK hcl
  obtain ⟨r, h1, cel, q1, q2, q3, q4⟩ := hcell ▸ hP.2 key hok
  have hr : r = (C0, T, N) := Option.some.inj (h1.symm.trans hcl)
  subst hr
  obtain ⟨hSl, hfc, kC, hkC, hkind⟩ := hK.1 ci _ hcl
  obtain ⟨cf, kf, fi, f, hi, hsl⟩ := hSl k hk
  have hlay := hts _ (hin _ (u_in_lay hk))
  unfold u_lay at hlay
  rw [if_neg (by rw [hfin]; decide)] at hlay
  have hst := (u_facts hfc hkC (u_lays hts hin hk) hi).1
  have h6 := u_store hfc hkC hkind hlay hi hde hn hfit
  refine W.putK hx hb (f := f) ⟨hown, hts _ hlink, ⟨_, _, _, hi⟩, hst⟩ (by rw [q2]; exact h6) q1 q3 (by rw [hsl]; exact k2_hasslot (q4 k hk)) rfl rfl hd fun H' e1 e2 e3 => ?_
  rw [hsl] at e1 ⊢
  refine kk H' _ ls (hS.put e2 e3 (hs.2.1 key hok)) (zPP.upd hs hok hP e2 e3 ?_ hoth) hl
  rw [hcell']
  exact ⟨_, hcl, t_OB.to (V := updV (vp_V fs) k v) ⟨_, e1, q2, q3, t_set q4 hap hk v⟩ (fun j _ => vp_updV_set hlen v j)⟩

theorem z_iald (C : zC (cell := cell) l E adr ok eu ev A K cc own R s mL) {key : zKey} {n : Nat} {f : Nat → Int32} {x : Int32} (j : Nat) (hok : ok key) (hcell : cell F key = .inl (E.2.1 0, n, .inl f)) (hx2 : x = nI j) (hlt : j < n) (hn : n < 2 ^ 31) (hd : decode cc pc = .ok (.iaload, 1))
    (kk : Z K (zPP E adr cell ok ev F s) (pc + 1) L (.int (f j) :: st)) : Z K (zPP E adr cell ok ev F s) pc L (.int x :: .ref (adr key) :: st) := by
  obtain ⟨p, e, m, args, below, meth, c, n1, n2, Q, rfl, hx, hb, hml, hown, hts, hK, he, hs, hc1, hc2⟩ := C
  intro H locs ls hS hP hl
  have h1 := va1 (hcell ▸ hP.2 key hok)
  subst hx2
  refine va_iald hx hb hK h1 0 0 rfl rfl (vp_in_nI hlt hn) hd ?_
  rw [nI_clamp (Nat.lt_trans hlt hn)]
  exact kk H locs ls hS hP hl
theorem z_lald (C : zC (cell := cell) l E adr ok eu ev A K cc own R s mL) {key : zKey} {n : Nat} {f : Nat → Int64} {x : Int32} (j : Nat) (hok : ok key) (hcell : cell F key = .inl (E.2.1 1, n, .inr (.inl f))) (hx2 : x = nI j) (hlt : j < n) (hn : n < 2 ^ 31) (hd : decode cc pc = .ok (.laload, 1))
    (kk : Z K (zPP E adr cell ok ev F s) (pc + 1) L (.long (f j) :: st)) : Z K (zPP E adr cell ok ev F s) pc L (.int x :: .ref (adr key) :: st) := by
  obtain ⟨p, e, m, args, below, meth, c, n1, n2, Q, rfl, hx, hb, hml, hown, hts, hK, he, hs, hc1, hc2⟩ := C
  intro H locs ls hS hP hl
  have h1 := va1 (hcell ▸ hP.2 key hok)
  subst hx2
  refine va_lald hx hb hK h1 0 1 rfl rfl (vp_in_nI hlt hn) hd ?_
  rw [nI_clamp (Nat.lt_trans hlt hn)]
  exact kk H locs ls hS hP hl
theorem z_iast (C : zC (cell := cell) l E adr ok eu ev A K cc own R s mL) {key : zKey} {n : Nat} {f : Nat → Int32} {x : Int32} {v : Int32} (F' : σ) (j : Nat) (hok : ok key) (hcell : cell F key = .inl (E.2.1 0, n, .inl f)) (hcell' : cell F' key = .inl (E.2.1 0, n, .inl (upd f j v))) (hoth : ∀ k, ok k → k ≠ key → cell F' k = cell F k) (hx2 : x = nI j) (hlt : j < n) (hn : n < 2 ^ 31) (hd : decode cc pc = .ok (.iastore, 1))
    (kk : Z K (zPP E adr cell ok ev F' s) (pc + 1) L st) : Z K (zPP E adr cell ok ev F s) pc L (.int v :: .int x :: .ref (adr key) :: st) := by
  obtain ⟨p, e, m, args, below, meth, c, n1, n2, Q, rfl, hx, hb, hml, hown, hts, hK, he, hs, hc1, hc2⟩ := C
  intro H locs ls hS hP hl
  subst hx2
  have hcl := nI_clamp (Nat.lt_trans hlt hn)
  have hc0 := hcell ▸ hP.2 key hok
  refine W.iast hx hb hc0 ((hK.2 0 _ rfl).1 n (fun j => .int (f j))) (fun q => by cases q) (by show ¬ (nI j < 0 ∨ (arrV _ _ _).slots.size ≤ _); rw [arrV_size]; exact vp_in_nI hlt hn) rfl rfl hd fun H1 e1 z oq => ?_
  refine kk H1 _ ls (hS.put z oq (hs.2.1 key hok)) (zPP.upd hs hok hP z oq ?_ hoth) hl
  rw [hcell']
  show H1[adr key]? = some (vp_cell _ _)
  rw [e1, vp_cell_i, vp_cell_i, arrV_store, hcl]
  congr 2
  funext q
  by_cases hq : q = j
  · subst hq
    simp [updV, upd]
  · simp [updV, upd, hq]
theorem z_last (C : zC (cell := cell) l E adr ok eu ev A K cc own R s mL) {key : zKey} {n : Nat} {f : Nat → Int64} {x : Int32} {v : Int64} (F' : σ) (j : Nat) (hok : ok key) (hcell : cell F key = .inl (E.2.1 1, n, .inr (.inl f))) (hcell' : cell F' key = .inl (E.2.1 1, n, .inr (.inl (vp_updL f j v)))) (hoth : ∀ k, ok k → k ≠ key → cell F' k = cell F k) (hx2 : x = nI j) (hlt : j < n) (hn : n < 2 ^ 31) (hd : decode cc pc = .ok (.lastore, 1))
    (kk : Z K (zPP E adr cell ok ev F' s) (pc + 1) L st) : Z K (zPP E adr cell ok ev F s) pc L (.long v :: .int x :: .ref (adr key) :: st) := by
  obtain ⟨p, e, m, args, below, meth, c, n1, n2, Q, rfl, hx, hb, hml, hown, hts, hK, he, hs, hc1, hc2⟩ := C
  intro H locs ls hS hP hl
  subst hx2
  have hcl := nI_clamp (Nat.lt_trans hlt hn)
  have hc0 := hcell ▸ hP.2 key hok
  refine W.last hx hb hc0 ((hK.2 1 _ rfl).1 n (fun j => .long (f j))) (fun q => by cases q) (by show ¬ (nI j < 0 ∨ (arrV _ _ _).slots.size ≤ _); rw [arrV_size]; exact vp_in_nI hlt hn) rfl rfl hd fun H1 e1 z oq => ?_
  refine kk H1 _ ls (hS.put z oq (hs.2.1 key hok)) (zPP.upd hs hok hP z oq ?_ hoth) hl
  rw [hcell']
  show H1[adr key]? = some (vp_cell _ _)
  rw [e1, vp_cell_l, vp_cell_l, arrV_store, hcl]
  congr 2
  funext q
  by_cases hq : q = j
  · subst hq
    simp [updV, vp_updL]
  · simp [updV, vp_updL, hq]
theorem z_aald (C : zC (cell := cell) l E adr ok eu ev A K cc own R s mL) {key : zKey} {n : Nat} {f : Nat → Option Nat} {x : Int32} {b : Nat} (t : Nat) {cA : ClassId} {C0 : String} (j : Nat) (hok : ok key) (hcell : cell F key = .inl (cA, n, .inr (.inr (.inr (.inr f))))) (ht : (zT E)[t]? = some (cA, .object C0)) (hx2 : x = nI j) (hlt : j < n) (hn : n < 2 ^ 31) (hb2 : f j = some b) (hd : decode cc pc = .ok (.aaload, 1))
    (kk : Z K (zPP E adr cell ok ev F s) (pc + 1) L (.ref b :: st)) : Z K (zPP E adr cell ok ev F s) pc L (.int x :: .ref (adr key) :: st) := by
  obtain ⟨p, e, m, args, below, meth, c, n1, n2, Q, rfl, hx, hb, hml, hown, hts, hK, he, hs, hc1, hc2⟩ := C
  intro H locs ls hS hP hl
  have h1 := va1 (hcell ▸ hP.2 key hok)
  subst hx2
  refine va_aldq hx hb hK h1 0 t rfl ht (vp_in_nI hlt hn) hd ?_
  rw [nI_clamp (Nat.lt_trans hlt hn), hb2]
  exact kk H locs ls hS hP hl
theorem z_alen (C : zC (cell := cell) l E adr ok eu ev A K cc own R s mL) {key : zKey} {cA : ClassId} {x : vp_A} {ty : FieldType} {v : Int32} (t : Nat) (hok : ok key) (hcell : cell F key = .inl (cA, x)) (ht : (zT E)[t]? = some (cA, ty)) (hv : Int32.ofNat x.1 = v) (hd : decode cc pc = .ok (.arraylength, 1))
    (kk : Z K (zPP E adr cell ok ev F s) (pc + 1) L (.int v :: st)) : Z K (zPP E adr cell ok ev F s) pc L (.ref (adr key) :: st) := by
  obtain ⟨p, e, m, args, below, meth, c, n1, n2, Q, rfl, hx, hb, hml, hown, hts, hK, he, hs, hc1, hc2⟩ := C
  intro H locs ls hS hP hl
  have h1 := va1 (hcell ▸ hP.2 key hok)
  exact va_alen hx hb hK h1 0 t rfl ht hv hd (kk H locs ls hS hP hl)
/-- a static array of ints that nobody writes -/
theorem z_tald (C : zC (cell := cell) l E adr ok eu ev A K cc own R s mL) {t N : Nat} {f : Nat → Value} {B : Nat → Prop} {x : Int32} {v : Value} (j : Nat) (hT : ∀ H, zPP E adr cell ok ev F s H → va_T .int t N f B s H) (hx2 : x = nI j) (hlt : j < N) (hn : N < 2 ^ 31) (hv : f j = v) (hd : decode cc pc = .ok (.iaload, 1))
    (kk : Z K (zPP E adr cell ok ev F s) (pc + 1) L (v :: st)) : Z K (zPP E adr cell ok ev F s) pc L (.int x :: .ref t :: st) := by
  obtain ⟨p, e, m, args, below, meth, c, n1, n2, Q, rfl, hx, hb, hml, hown, hts, hK, he, hs, hc1, hc2⟩ := C
  intro H locs ls hS hP hl
  obtain ⟨cel, h1, h2, h3, h4, h5, h6, h7⟩ := hT H hP
  subst hx2
  have hcl := nI_clamp (Nat.lt_trans hlt hn)
  have hi : ¬ (nI j < 0 ∨ cel.slots.size ≤ (nI j).toNatClampNeg) := by
    intro q
    rcases q with q | q
    · exact vp_in_nI hlt hn (Or.inl q)
    · omega
  exact W.iald (v := v) hx hb h1 h2 h3 hi (by rw [hcl, h6 _ hlt, hv]) rfl rfl hd (kk H locs ls hS hP hl)
theorem z_gets (C : zC (cell := cell) l E adr ok eu ev A K cc own R s mL) {C0 n dd : String} {i : Nat} {v : Value} {B : Nat → Prop} (hZ : ∀ H, zPP E adr cell ok ev F s H → va_Z C0 n dd v B s H) (hlink : Cond.fieldLink own i C0 n dd ∈ zTB) (hd : decode cc pc = .ok (.getstatic i, 3))
    (kk : Z K (zPP E adr cell ok ev F s) (pc + 3) L (v :: st)) : Z K (zPP E adr cell ok ev F s) pc L st := by
  obtain ⟨p, e, m, args, below, meth, c, n1, n2, Q, rfl, hx, hb, hml, hown, hts, hK, he, hs, hc1, hc2⟩ := C
  intro H locs ls hS hP hl
  obtain ⟨cf, kf, fi, f, a, cel, h1, h2, h3, h4, h5, h6, h7, h8⟩ := hZ H hP
  exact W.gets hx hb hown (hts _ hlink) h1 h2 h3 h4 h5 (fun e => by rw [e] at h6; cases h6) h7 rfl hd (kk H locs ls hS hP hl)
theorem z_getsN (C : zC (cell := cell) l E adr ok eu ev A K cc own R s mL) {C0 n dd host : String} {i : Nat} {v : Value} {B : Nat → Prop} (hZ : ∀ H, zPP E adr cell ok ev F s H → va_Z C0 n dd v B s H) (hlink : ∀ u, eu u → va_Nw (.fieldLinkNest own i C0 n dd host) u) (hd : decode cc pc = .ok (.getstatic i, 3))
    (kk : Z K (zPP E adr cell ok ev F s) (pc + 3) L (v :: st)) : Z K (zPP E adr cell ok ev F s) pc L st := by
  obtain ⟨p, e, m, args, below, meth, c, n1, n2, Q, rfl, hx, hb, hml, hown, hts, hK, he, hs, hc1, hc2⟩ := C
  intro H locs ls hS hP hl
  obtain ⟨cf, kf, fi, f, a, cel, h1, h2, h3, h4, h5, h6, h7, h8⟩ := hZ H hP
  exact va_WgetsN hx hb hown ((hlink s he).use rfl) h1 h2 h3 h4 h5 (fun e => by rw [e] at h6; cases h6) h7 rfl hd (kk H locs ls hS hP hl)

theorem z_ldcS (C : zC (cell := cell) l E adr ok eu ev A K cc own R s mL) {P : Heap → Prop} {tx : String} {i q : Nat} (hZ : ∀ u, eu u → vk_R own i tx q u) (hd : decode cc pc = .ok (.ldc i, 2)) (kk : Z K P (pc + 2) L (.ref q :: st)) : Z K P pc L st := by
  obtain ⟨p, e, m, args, below, meth, c, n1, n2, Q, rfl, hx, hb, hml, hown, hts, hK, he, hs, hc1, hc2⟩ := C
  intro H locs ls hS hP hl
  exact va_ldcS hx hb hown (hZ s he) hd (kk H locs ls hS hP hl)
-- calls
def zPl (y : MethodName) (n : Nat) : Prop := y.cls ≠ "java/lang/invoke/MethodHandle" ∧ y.cls ≠ "java/lang/invoke/VarHandle" ∧ (parseMethodDescriptor y.desc).map (fun d => d.parameters.length) = some n
def zLV (own : String) (i : Nat) (y : MethodName) (cc : ByteArray) (mL : Nat) (ret : Option FieldType) (n : Nat) : Prop := (Cond.methodLink own i y ∈ zTB ∧ Cond.instanceMethod y ∈ zTB ∧ Cond.selects y.cls y y ∈ zTB ∧ Cond.initialized y.cls ∈ zTB ∧ Cond.code y cc mL ret ∈ zTB) ∧ zPl y n
def zLS (own : String) (i : Nat) (y : MethodName) (cc : ByteArray) (mL : Nat) (ret : Option FieldType) (n : Nat) : Prop := (Cond.methodLink own i y ∈ zTB ∧ Cond.static y ∈ zTB ∧ Cond.initialized y.cls ∈ zTB ∧ Cond.code y cc mL ret ∈ zTB) ∧ zPl y n
theorem zgood {w : Cond} (h : w ∈ zTB) : w ∈ zTB ∧ ((w.onTables && w.keeps) = true ∨ ∃ ty, w = .arrayClass ty) := zTB_self w h
theorem zLV.good {i n : Nat} {y : MethodName} {c2 : ByteArray} {m2 : Nat} {r2 : Option FieldType} (h : zLV own i y c2 m2 r2 n) : GoodIn zTB (wsV own i y.cls y (Cond.code y c2 m2 r2 :: zTB)) := by
  intro w hw
  simp only [wsV, List.cons_append, List.nil_append, List.mem_cons] at hw
  rcases hw with rfl | rfl | rfl | rfl | rfl | hw
  · exact zgood h.1.1
  · exact zgood h.1.2.1
  · exact zgood h.1.2.2.1
  · exact zgood h.1.2.2.2.1
  · exact zgood h.1.2.2.2.2
  · exact zgood hw
theorem zLS.good {i n : Nat} {y : MethodName} {c2 : ByteArray} {m2 : Nat} {r2 : Option FieldType} (h : zLS own i y c2 m2 r2 n) : GoodIn zTB (va_wsS own i y (Cond.code y c2 m2 r2 :: zTB)) := by
  intro w hw
  simp only [va_wsS, List.cons_append, List.nil_append, List.mem_cons] at hw
  rcases hw with rfl | rfl | rfl | rfl | hw
  · exact zgood h.1.1
  · exact zgood h.1.2.1
  · exact zgood h.1.2.2.1
  · exact zgood h.1.2.2.2
  · exact zgood hw
theorem z_run {p : Program} {e : Env} {m : MethodId} {args a : Array Value} {below : List Frame} {meth : Method} {c : Code} {n1 n2 : Nat} {Q : State → Prop} {H : Heap} {locs : List Loc} {ls : Array Slot} {st0 : List Value} {post2 : Option Value → σ → Prop} (hs : zSy adr ok eu ev A) (hS : va_S A s.heap H locs) (hl : lv_has ls mL L)
    (hr : va_Run p l e R s m args below meth c H locs n1 n2 0 0 (F0 m pc ls st0) st (zQ A (fun v t => ∃ F', post2 v F' ∧ zPP E adr cell ok ev F' t t.heap) a) A)
    (kk : ∀ v F', post2 v F' → Z ((fun H locs g => W p l e R s m args below meth c H locs n1 n2 Q g), m, (fun H locs => va_S A s.heap H locs), mL) (zPP E adr cell ok ev F' s) (pc + 3) L (v.toList ++ st)) : W p l e R s m args below meth c H locs n1 n2 Q (F0 m pc ls st0) := by
  intro T hT X
  obtain ⟨v, st₀, t, T', L', h0, X', hL, e1, e2, ⟨⟨v', hv, F', hp, hb⟩, hz, hk⟩, stp⟩ := hr T hT X
  cases hv
  rw [h0] at hz hk
  have hvm : s.vm.Alike t.vm := by rw [← e2]; exact X'.warmed.alike
  have hS' : va_S A s.heap T'.heap (locs ++ L') := ⟨Nat.le_trans hS.1 (by rw [e1]; exact hz), fun q h1 h2 => by rw [e1, hk q (Nat.lt_of_lt_of_le h1 hS.1) h2]; exact hS.2.1 q h1 h2, fun q hq => by
      rcases List.mem_append.mp hq with h | h
      · exact hS.2.2 q h
      · exact hL q h⟩
  have hP' : zPP E adr cell ok ev F' s T'.heap := by rw [e1]; exact zPP.moved hs hvm.symm hb
  obtain ⟨t2, a1, b1⟩ := kk v F' hp T'.heap (locs ++ L') ls hS' hP' hl T' rfl X'
  exact ⟨t2, stp t2 a1, b1⟩

theorem z_callV0 (C : zC (cell := cell) l E adr ok eu ev A K cc own R s mL) {key : zKey} {ci i N m2 d2 : Nat} {fs : List Value} {T : u_T} {y : MethodName} {c2 : ByteArray} {r2 : Option FieldType} {post2 : Option Value → σ → Prop} (hM : zMet l E adr cell ok eu ev A y c2 m2 r2 d2 (.ref (adr key) :: []) F post2) (hok : ok key) (hcell : cell F key = .inr (ci, fs)) (hcl : zcl[ci]? = some (y.cls, T, N)) (hw : zLV own i y c2 m2 r2 0) (hR : d2 + 1 ≤ R.frames ∧ 8 + (m2 + 11) + 40 * d2 ≤ R.locals) (hroom : (st.map fun v => v.category).sum ≤ 8) (hd : decode cc pc = .ok (.invokevirtual i, 3))
    (kk : ∀ v F', post2 v F' → Z K (zPP E adr cell ok ev F' s) (pc + 3) L (v.toList ++ st)) : Z K (zPP E adr cell ok ev F s) pc L (.ref (adr key) :: st) := by
  obtain ⟨p, e, m, args, below, meth, c, n1, n2, Q, rfl, hx, hb, hml, hown, hts, hK, he, hs, hc1, hc2⟩ := C
  intro H locs ls hS hP hl
  have h1 := va1 (hcell ▸ hP.2 key hok)
  refine z_run hs hS hl (va_runV (As := []) (rest := st) ⟨hx, hb, hml, hown, hts⟩ hM (cwV 0 hts hw.good rfl rfl rfl ⟨rfl, hw.2⟩ hR) ⟨zPP.blind hs, va_recv hK h1 hcl (q0 := 0) rfl, fun U hU hW => ⟨rfl, zPP.go hs hK he hP hU hW⟩⟩ rfl rfl hl.1 rfl (lv_room hroom) hd ⟨hc1, hc2⟩) kk
theorem z_callS0 (C : zC (cell := cell) l E adr ok eu ev A K cc own R s mL) {i m2 d2 : Nat} {y : MethodName} {c2 : ByteArray} {r2 : Option FieldType} {post2 : Option Value → σ → Prop} (hM : zMet l E adr cell ok eu ev A y c2 m2 r2 d2 [] F post2) (hw : zLS own i y c2 m2 r2 0) (hR : d2 + 1 ≤ R.frames ∧ 8 + (m2 + 11) + 40 * d2 ≤ R.locals) (hroom : (st.map fun v => v.category).sum ≤ 8) (hd : decode cc pc = .ok (.invokestatic i, 3))
    (kk : ∀ v F', post2 v F' → Z K (zPP E adr cell ok ev F' s) (pc + 3) L (v.toList ++ st)) : Z K (zPP E adr cell ok ev F s) pc L (st) := by
  obtain ⟨p, e, m, args, below, meth, c, n1, n2, Q, rfl, hx, hb, hml, hown, hts, hK, he, hs, hc1, hc2⟩ := C
  intro H locs ls hS hP hl
  refine z_run hs hS hl (va_runS (As := []) (rest := st) ⟨hx, hb, hml, hown, hts⟩ hM (va_cwS 0 hts hw.good rfl rfl rfl hw.2 hR) ⟨zPP.blind hs, fun U hU hW => ⟨rfl, zPP.go hs hK he hP hU hW⟩⟩ rfl rfl hl.1 rfl (lv_room hroom) hd ⟨hc1, hc2⟩) kk
theorem z_callV1 (C : zC (cell := cell) l E adr ok eu ev A K cc own R s mL) {key : zKey} {ci i N m2 d2 : Nat} {fs : List Value} {T : u_T} {y : MethodName} {c2 : ByteArray} {r2 : Option FieldType} {post2 : Option Value → σ → Prop} {a1 : Value} (hM : zMet l E adr cell ok eu ev A y c2 m2 r2 d2 (.ref (adr key) :: [a1]) F post2) (hok : ok key) (hcell : cell F key = .inr (ci, fs)) (hcl : zcl[ci]? = some (y.cls, T, N)) (hw : zLV own i y c2 m2 r2 1) (hR : d2 + 1 ≤ R.frames ∧ 8 + (m2 + 11) + 40 * d2 ≤ R.locals) (hroom : (st.map fun v => v.category).sum ≤ 8) (hd : decode cc pc = .ok (.invokevirtual i, 3))
    (kk : ∀ v F', post2 v F' → Z K (zPP E adr cell ok ev F' s) (pc + 3) L (v.toList ++ st)) : Z K (zPP E adr cell ok ev F s) pc L (a1 :: .ref (adr key) :: st) := by
  obtain ⟨p, e, m, args, below, meth, c, n1, n2, Q, rfl, hx, hb, hml, hown, hts, hK, he, hs, hc1, hc2⟩ := C
  intro H locs ls hS hP hl
  have h1 := va1 (hcell ▸ hP.2 key hok)
  refine z_run hs hS hl (va_runV (As := [a1]) (rest := st) ⟨hx, hb, hml, hown, hts⟩ hM (cwV 1 hts hw.good rfl rfl rfl ⟨rfl, hw.2⟩ hR) ⟨zPP.blind hs, va_recv hK h1 hcl (q0 := 0) rfl, fun U hU hW => ⟨rfl, zPP.go hs hK he hP hU hW⟩⟩ rfl rfl hl.1 rfl (lv_room hroom) hd ⟨hc1, hc2⟩) kk
theorem z_callS1 (C : zC (cell := cell) l E adr ok eu ev A K cc own R s mL) {i m2 d2 : Nat} {y : MethodName} {c2 : ByteArray} {r2 : Option FieldType} {post2 : Option Value → σ → Prop} {a1 : Value} (hM : zMet l E adr cell ok eu ev A y c2 m2 r2 d2 [a1] F post2) (hw : zLS own i y c2 m2 r2 1) (hR : d2 + 1 ≤ R.frames ∧ 8 + (m2 + 11) + 40 * d2 ≤ R.locals) (hroom : (st.map fun v => v.category).sum ≤ 8) (hd : decode cc pc = .ok (.invokestatic i, 3))
    (kk : ∀ v F', post2 v F' → Z K (zPP E adr cell ok ev F' s) (pc + 3) L (v.toList ++ st)) : Z K (zPP E adr cell ok ev F s) pc L (a1 :: st) := by
  obtain ⟨p, e, m, args, below, meth, c, n1, n2, Q, rfl, hx, hb, hml, hown, hts, hK, he, hs, hc1, hc2⟩ := C
  intro H locs ls hS hP hl
  refine z_run hs hS hl (va_runS (As := [a1]) (rest := st) ⟨hx, hb, hml, hown, hts⟩ hM (va_cwS 1 hts hw.good rfl rfl rfl hw.2 hR) ⟨zPP.blind hs, fun U hU hW => ⟨rfl, zPP.go hs hK he hP hU hW⟩⟩ rfl rfl hl.1 rfl (lv_room hroom) hd ⟨hc1, hc2⟩) kk
theorem z_callV2 (C : zC (cell := cell) l E adr ok eu ev A K cc own R s mL) {key : zKey} {ci i N m2 d2 : Nat} {fs : List Value} {T : u_T} {y : MethodName} {c2 : ByteArray} {r2 : Option FieldType} {post2 : Option Value → σ → Prop} {a1 a2 : Value} (hM : zMet l E adr cell ok eu ev A y c2 m2 r2 d2 (.ref (adr key) :: [a1, a2]) F post2) (hok : ok key) (hcell : cell F key = .inr (ci, fs)) (hcl : zcl[ci]? = some (y.cls, T, N)) (hw : zLV own i y c2 m2 r2 2) (hR : d2 + 1 ≤ R.frames ∧ 8 + (m2 + 11) + 40 * d2 ≤ R.locals) (hroom : (st.map fun v => v.category).sum ≤ 8) (hd : decode cc pc = .ok (.invokevirtual i, 3))
    (kk : ∀ v F', post2 v F' → Z K (zPP E adr cell ok ev F' s) (pc + 3) L (v.toList ++ st)) : Z K (zPP E adr cell ok ev F s) pc L (a2 :: a1 :: .ref (adr key) :: st) := by
  obtain ⟨p, e, m, args, below, meth, c, n1, n2, Q, rfl, hx, hb, hml, hown, hts, hK, he, hs, hc1, hc2⟩ := C
  intro H locs ls hS hP hl
  have h1 := va1 (hcell ▸ hP.2 key hok)
  refine z_run hs hS hl (va_runV (As := [a1, a2]) (rest := st) ⟨hx, hb, hml, hown, hts⟩ hM (cwV 2 hts hw.good rfl rfl rfl ⟨rfl, hw.2⟩ hR) ⟨zPP.blind hs, va_recv hK h1 hcl (q0 := 0) rfl, fun U hU hW => ⟨rfl, zPP.go hs hK he hP hU hW⟩⟩ rfl rfl hl.1 rfl (lv_room hroom) hd ⟨hc1, hc2⟩) kk
theorem z_callS2 (C : zC (cell := cell) l E adr ok eu ev A K cc own R s mL) {i m2 d2 : Nat} {y : MethodName} {c2 : ByteArray} {r2 : Option FieldType} {post2 : Option Value → σ → Prop} {a1 a2 : Value} (hM : zMet l E adr cell ok eu ev A y c2 m2 r2 d2 [a1, a2] F post2) (hw : zLS own i y c2 m2 r2 2) (hR : d2 + 1 ≤ R.frames ∧ 8 + (m2 + 11) + 40 * d2 ≤ R.locals) (hroom : (st.map fun v => v.category).sum ≤ 8) (hd : decode cc pc = .ok (.invokestatic i, 3))
    (kk : ∀ v F', post2 v F' → Z K (zPP E adr cell ok ev F' s) (pc + 3) L (v.toList ++ st)) : Z K (zPP E adr cell ok ev F s) pc L (a2 :: a1 :: st) := by
  obtain ⟨p, e, m, args, below, meth, c, n1, n2, Q, rfl, hx, hb, hml, hown, hts, hK, he, hs, hc1, hc2⟩ := C
  intro H locs ls hS hP hl
  refine z_run hs hS hl (va_runS (As := [a1, a2]) (rest := st) ⟨hx, hb, hml, hown, hts⟩ hM (va_cwS 2 hts hw.good rfl rfl rfl hw.2 hR) ⟨zPP.blind hs, fun U hU hW => ⟨rfl, zPP.go hs hK he hP hU hW⟩⟩ rfl rfl hl.1 rfl (lv_room hroom) hd ⟨hc1, hc2⟩) kk
theorem z_callV3 (C : zC (cell := cell) l E adr ok eu ev A K cc own R s mL) {key : zKey} {ci i N m2 d2 : Nat} {fs : List Value} {T : u_T} {y : MethodName} {c2 : ByteArray} {r2 : Option FieldType} {post2 : Option Value → σ → Prop} {a1 a2 a3 : Value} (hM : zMet l E adr cell ok eu ev A y c2 m2 r2 d2 (.ref (adr key) :: [a1, a2, a3]) F post2) (hok : ok key) (hcell : cell F key = .inr (ci, fs)) (hcl : zcl[ci]? = some (y.cls, T, N)) (hw : zLV own i y c2 m2 r2 3) (hR : d2 + 1 ≤ R.frames ∧ 8 + (m2 + 11) + 40 * d2 ≤ R.locals) (hroom : (st.map fun v => v.category).sum ≤ 8) (hd : decode cc pc = .ok (.invokevirtual i, 3))
    (kk : ∀ v F', post2 v F' → Z K (zPP E adr cell ok ev F' s) (pc + 3) L (v.toList ++ st)) : Z K (zPP E adr cell ok ev F s) pc L (a3 :: a2 :: a1 :: .ref (adr key) :: st) := by
  obtain ⟨p, e, m, args, below, meth, c, n1, n2, Q, rfl, hx, hb, hml, hown, hts, hK, he, hs, hc1, hc2⟩ := C
  intro H locs ls hS hP hl
  have h1 := va1 (hcell ▸ hP.2 key hok)
  refine z_run hs hS hl (va_runV (As := [a1, a2, a3]) (rest := st) ⟨hx, hb, hml, hown, hts⟩ hM (cwV 3 hts hw.good rfl rfl rfl ⟨rfl, hw.2⟩ hR) ⟨zPP.blind hs, va_recv hK h1 hcl (q0 := 0) rfl, fun U hU hW => ⟨rfl, zPP.go hs hK he hP hU hW⟩⟩ rfl rfl hl.1 rfl (lv_room hroom) hd ⟨hc1, hc2⟩) kk
theorem z_callS3 (C : zC (cell := cell) l E adr ok eu ev A K cc own R s mL) {i m2 d2 : Nat} {y : MethodName} {c2 : ByteArray} {r2 : Option FieldType} {post2 : Option Value → σ → Prop} {a1 a2 a3 : Value} (hM : zMet l E adr cell ok eu ev A y c2 m2 r2 d2 [a1, a2, a3] F post2) (hw : zLS own i y c2 m2 r2 3) (hR : d2 + 1 ≤ R.frames ∧ 8 + (m2 + 11) + 40 * d2 ≤ R.locals) (hroom : (st.map fun v => v.category).sum ≤ 8) (hd : decode cc pc = .ok (.invokestatic i, 3))
    (kk : ∀ v F', post2 v F' → Z K (zPP E adr cell ok ev F' s) (pc + 3) L (v.toList ++ st)) : Z K (zPP E adr cell ok ev F s) pc L (a3 :: a2 :: a1 :: st) := by
  obtain ⟨p, e, m, args, below, meth, c, n1, n2, Q, rfl, hx, hb, hml, hown, hts, hK, he, hs, hc1, hc2⟩ := C
  intro H locs ls hS hP hl
  refine z_run hs hS hl (va_runS (As := [a1, a2, a3]) (rest := st) ⟨hx, hb, hml, hown, hts⟩ hM (va_cwS 3 hts hw.good rfl rfl rfl hw.2 hR) ⟨zPP.blind hs, fun U hU hW => ⟨rfl, zPP.go hs hK he hP hU hW⟩⟩ rfl rfl hl.1 rfl (lv_room hroom) hd ⟨hc1, hc2⟩) kk
theorem z_callV4 (C : zC (cell := cell) l E adr ok eu ev A K cc own R s mL) {key : zKey} {ci i N m2 d2 : Nat} {fs : List Value} {T : u_T} {y : MethodName} {c2 : ByteArray} {r2 : Option FieldType} {post2 : Option Value → σ → Prop} {a1 a2 a3 a4 : Value} (hM : zMet l E adr cell ok eu ev A y c2 m2 r2 d2 (.ref (adr key) :: [a1, a2, a3, a4]) F post2) (hok : ok key) (hcell : cell F key = .inr (ci, fs)) (hcl : zcl[ci]? = some (y.cls, T, N)) (hw : zLV own i y c2 m2 r2 4) (hR : d2 + 1 ≤ R.frames ∧ 8 + (m2 + 11) + 40 * d2 ≤ R.locals) (hroom : (st.map fun v => v.category).sum ≤ 8) (hd : decode cc pc = .ok (.invokevirtual i, 3))
    (kk : ∀ v F', post2 v F' → Z K (zPP E adr cell ok ev F' s) (pc + 3) L (v.toList ++ st)) : Z K (zPP E adr cell ok ev F s) pc L (a4 :: a3 :: a2 :: a1 :: .ref (adr key) :: st) := by
  obtain ⟨p, e, m, args, below, meth, c, n1, n2, Q, rfl, hx, hb, hml, hown, hts, hK, he, hs, hc1, hc2⟩ := C
  intro H locs ls hS hP hl
  have h1 := va1 (hcell ▸ hP.2 key hok)
  refine z_run hs hS hl (va_runV (As := [a1, a2, a3, a4]) (rest := st) ⟨hx, hb, hml, hown, hts⟩ hM (cwV 4 hts hw.good rfl rfl rfl ⟨rfl, hw.2⟩ hR) ⟨zPP.blind hs, va_recv hK h1 hcl (q0 := 0) rfl, fun U hU hW => ⟨rfl, zPP.go hs hK he hP hU hW⟩⟩ rfl rfl hl.1 rfl (lv_room hroom) hd ⟨hc1, hc2⟩) kk
theorem z_callS4 (C : zC (cell := cell) l E adr ok eu ev A K cc own R s mL) {i m2 d2 : Nat} {y : MethodName} {c2 : ByteArray} {r2 : Option FieldType} {post2 : Option Value → σ → Prop} {a1 a2 a3 a4 : Value} (hM : zMet l E adr cell ok eu ev A y c2 m2 r2 d2 [a1, a2, a3, a4] F post2) (hw : zLS own i y c2 m2 r2 4) (hR : d2 + 1 ≤ R.frames ∧ 8 + (m2 + 11) + 40 * d2 ≤ R.locals) (hroom : (st.map fun v => v.category).sum ≤ 8) (hd : decode cc pc = .ok (.invokestatic i, 3))
    (kk : ∀ v F', post2 v F' → Z K (zPP E adr cell ok ev F' s) (pc + 3) L (v.toList ++ st)) : Z K (zPP E adr cell ok ev F s) pc L (a4 :: a3 :: a2 :: a1 :: st) := by
  obtain ⟨p, e, m, args, below, meth, c, n1, n2, Q, rfl, hx, hb, hml, hown, hts, hK, he, hs, hc1, hc2⟩ := C
  intro H locs ls hS hP hl
  refine z_run hs hS hl (va_runS (As := [a1, a2, a3, a4]) (rest := st) ⟨hx, hb, hml, hown, hts⟩ hM (va_cwS 4 hts hw.good rfl rfl rfl hw.2 hR) ⟨zPP.blind hs, fun U hU hW => ⟨rfl, zPP.go hs hK he hP hU hW⟩⟩ rfl rfl hl.1 rfl (lv_room hroom) hd ⟨hc1, hc2⟩) kk
theorem z_callV5 (C : zC (cell := cell) l E adr ok eu ev A K cc own R s mL) {key : zKey} {ci i N m2 d2 : Nat} {fs : List Value} {T : u_T} {y : MethodName} {c2 : ByteArray} {r2 : Option FieldType} {post2 : Option Value → σ → Prop} {a1 a2 a3 a4 a5 : Value} (hM : zMet l E adr cell ok eu ev A y c2 m2 r2 d2 (.ref (adr key) :: [a1, a2, a3, a4, a5]) F post2) (hok : ok key) (hcell : cell F key = .inr (ci, fs)) (hcl : zcl[ci]? = some (y.cls, T, N)) (hw : zLV own i y c2 m2 r2 5) (hR : d2 + 1 ≤ R.frames ∧ 8 + (m2 + 11) + 40 * d2 ≤ R.locals) (hroom : (st.map fun v => v.category).sum ≤ 8) (hd : decode cc pc = .ok (.invokevirtual i, 3))
    (kk : ∀ v F', post2 v F' → Z K (zPP E adr cell ok ev F' s) (pc + 3) L (v.toList ++ st)) : Z K (zPP E adr cell ok ev F s) pc L (a5 :: a4 :: a3 :: a2 :: a1 :: .ref (adr key) :: st) := by
  obtain ⟨p, e, m, args, below, meth, c, n1, n2, Q, rfl, hx, hb, hml, hown, hts, hK, he, hs, hc1, hc2⟩ := C
  intro H locs ls hS hP hl
  have h1 := va1 (hcell ▸ hP.2 key hok)
  refine z_run hs hS hl (va_runV (As := [a1, a2, a3, a4, a5]) (rest := st) ⟨hx, hb, hml, hown, hts⟩ hM (cwV 5 hts hw.good rfl rfl rfl ⟨rfl, hw.2⟩ hR) ⟨zPP.blind hs, va_recv hK h1 hcl (q0 := 0) rfl, fun U hU hW => ⟨rfl, zPP.go hs hK he hP hU hW⟩⟩ rfl rfl hl.1 rfl (lv_room hroom) hd ⟨hc1, hc2⟩) kk
theorem z_callS5 (C : zC (cell := cell) l E adr ok eu ev A K cc own R s mL) {i m2 d2 : Nat} {y : MethodName} {c2 : ByteArray} {r2 : Option FieldType} {post2 : Option Value → σ → Prop} {a1 a2 a3 a4 a5 : Value} (hM : zMet l E adr cell ok eu ev A y c2 m2 r2 d2 [a1, a2, a3, a4, a5] F post2) (hw : zLS own i y c2 m2 r2 5) (hR : d2 + 1 ≤ R.frames ∧ 8 + (m2 + 11) + 40 * d2 ≤ R.locals) (hroom : (st.map fun v => v.category).sum ≤ 8) (hd : decode cc pc = .ok (.invokestatic i, 3))
    (kk : ∀ v F', post2 v F' → Z K (zPP E adr cell ok ev F' s) (pc + 3) L (v.toList ++ st)) : Z K (zPP E adr cell ok ev F s) pc L (a5 :: a4 :: a3 :: a2 :: a1 :: st) := by
  obtain ⟨p, e, m, args, below, meth, c, n1, n2, Q, rfl, hx, hb, hml, hown, hts, hK, he, hs, hc1, hc2⟩ := C
  intro H locs ls hS hP hl
  refine z_run hs hS hl (va_runS (As := [a1, a2, a3, a4, a5]) (rest := st) ⟨hx, hb, hml, hown, hts⟩ hM (va_cwS 5 hts hw.good rfl rfl rfl hw.2 hR) ⟨zPP.blind hs, fun U hU hW => ⟨rfl, zPP.go hs hK he hP hU hW⟩⟩ rfl rfl hl.1 rfl (lv_room hroom) hd ⟨hc1, hc2⟩) kk
theorem z_callSN1 (C : zC (cell := cell) l E adr ok eu ev A K cc own R s mL) {i m2 d2 : Nat} {y : MethodName} {host : String} {c2 : ByteArray} {r2 : Option FieldType} {post2 : Option Value → σ → Prop} {a1 : Value} (hM : zMet l E adr cell ok eu ev A y c2 m2 r2 d2 [a1] F post2) (hlink : ∀ u, eu u → va_Nw (.methodLinkNest own i y host) u) (hw : (Cond.static y ∈ zTB ∧ Cond.initialized y.cls ∈ zTB ∧ Cond.code y c2 m2 r2 ∈ zTB) ∧ zPl y 1) (hR : d2 + 1 ≤ R.frames ∧ 8 + (m2 + 11) + 40 * d2 ≤ R.locals) (hroom : (st.map fun v => v.category).sum ≤ 8) (hd : decode cc pc = .ok (.invokestatic i, 3))
    (kk : ∀ v F', post2 v F' → Z K (zPP E adr cell ok ev F' s) (pc + 3) L (v.toList ++ st)) : Z K (zPP E adr cell ok ev F s) pc L (a1 :: st) := by
  obtain ⟨p, e, m, args, below, meth, c, n1, n2, Q, rfl, hx, hb, hml, hown, hts, hK, he, hs, hc1, hc2⟩ := C
  intro H locs ls hS hP hl
  have hG : GoodIn zTB (Cond.code y c2 m2 r2 :: zTB) := by
    intro w h
    rcases List.mem_cons.mp h with rfl | h
    · exact zgood hw.1.2.2
    · exact zgood h
  refine z_run hs hS hl (va_runSN (As := [a1]) (rest := st) ⟨hx, hb, hml, hown, hts⟩ hM ⟨va_cnB 1 hts hG rfl rfl rfl (hlink s he) (hts _ hw.1.2.1) hw.2 hR, hts _ hw.1.1, trivial⟩ ⟨zPP.blind hs, fun U hU hW => ⟨rfl, zPP.go hs hK he hP hU hW⟩⟩ rfl rfl hl.1 rfl (lv_room hroom) hd ⟨hc1, hc2⟩) kk
-- ends
theorem z_iret (C : zR (cell := cell) l E adr ok eu ev A K cc own d s mL (some .int) post) {v : Int32} (hd : decode cc pc = .ok (.ireturn, 1)) (h : post (some (.int v)) F) : Z K (zPP E adr cell ok ev F s) pc L [.int v] := by
  obtain ⟨p, e, m, args, below, meth, c, rfl, hx, hb, hml, hr, hlo, hown, hts, hK, he, hs⟩ := C
  intro H locs ls hS hP hl
  exact W.iret hx hb hr (fun t ht hW => ⟨⟨_, rfl, F, h, by rw [ht]; exact zPP.moved hs hW.alike hP⟩, hS.F ht⟩) hS.2.2 hd hlo
theorem z_zret (C : zR (cell := cell) l E adr ok eu ev A K cc own d s mL (some .boolean) post) {v : Int32} (hn : narrow .boolean (.int v) = .int v) (hd : decode cc pc = .ok (.ireturn, 1)) (h : post (some (.int v)) F) : Z K (zPP E adr cell ok ev F s) pc L [.int v] := by
  obtain ⟨p, e, m, args, below, meth, c, rfl, hx, hb, hml, hr, hlo, hown, hts, hK, he, hs⟩ := C
  intro H locs ls hS hP hl
  exact W.zret hx hb hr hn (fun t ht hW => ⟨⟨_, rfl, F, h, by rw [ht]; exact zPP.moved hs hW.alike hP⟩, hS.F ht⟩) hS.2.2 hd hlo
theorem z_lret (C : zR (cell := cell) l E adr ok eu ev A K cc own d s mL (some .long) post) {v : Int64} (hd : decode cc pc = .ok (.lreturn, 1)) (h : post (some (.long v)) F) : Z K (zPP E adr cell ok ev F s) pc L [.long v] := by
  obtain ⟨p, e, m, args, below, meth, c, rfl, hx, hb, hml, hr, hlo, hown, hts, hK, he, hs⟩ := C
  intro H locs ls hS hP hl
  exact W.lret hx hb hr (fun t ht hW => ⟨⟨_, rfl, F, h, by rw [ht]; exact zPP.moved hs hW.alike hP⟩, hS.F ht⟩) hS.2.2 hd hlo
theorem z_vret (C : zR (cell := cell) l E adr ok eu ev A K cc own d s mL none post) (hd : decode cc pc = .ok (.return_, 1)) (h : post none F) : Z K (zPP E adr cell ok ev F s) pc L [] := by
  obtain ⟨p, e, m, args, below, meth, c, rfl, hx, hb, hml, hr, hlo, hown, hts, hK, he, hs⟩ := C
  intro H locs ls hS hP hl
  exact W.vret hx hb hr (fun t ht hW => ⟨⟨_, rfl, F, h, by rw [ht]; exact zPP.moved hs hW.alike hP⟩, hS.F ht⟩) hS.2.2 hd hlo
end ZM
end
