/-! the tables' words: PART A of the skeleton; the good ones among them -/
/-- a private method of a class that the tables say can be made, by its rows of tables_1 -/
def lw_okq (q : MethodName × Nat) : Prop := (q.1.cls ≠ "java/lang/invoke/MethodHandle" ∧ q.1.cls ≠ "java/lang/invoke/VarHandle") ∧ Cond.instantiable q.1.cls q.2 ∈ tables_1 ∧ Cond.privateMethod q.1 ∈ tables_1 ∧ Cond.instanceMethod q.1 ∈ tables_1
theorem lw_p0 : lw_okq (⟨"RangeCoders$Odds", "copyCounts", "([I)V"⟩, 5) := ⟨⟨by decide +kernel, by decide +kernel⟩, List.mem_of_getElem? (i := 295) (by decide +kernel), List.mem_of_getElem? (i := 372) (by decide +kernel), List.mem_of_getElem? (i := 373) (by decide +kernel)⟩
theorem lw_p1 : lw_okq (⟨"RangeCoders$Odds", "halve", "()V"⟩, 5) := ⟨⟨by decide +kernel, by decide +kernel⟩, List.mem_of_getElem? (i := 295) (by decide +kernel), List.mem_of_getElem? (i := 376) (by decide +kernel), List.mem_of_getElem? (i := 377) (by decide +kernel)⟩
theorem lw_p2 : lw_okq (⟨"RangeCoders$Odds", "greatest", "()I"⟩, 5) := ⟨⟨by decide +kernel, by decide +kernel⟩, List.mem_of_getElem? (i := 295) (by decide +kernel), List.mem_of_getElem? (i := 389) (by decide +kernel), List.mem_of_getElem? (i := 390) (by decide +kernel)⟩
theorem lw_p3 : lw_okq (⟨"RangeCoders", "modelAt", "(I)LRangeCoders$Model;"⟩, 8) := ⟨⟨by decide +kernel, by decide +kernel⟩, List.mem_of_getElem? (i := 18) (by decide +kernel), List.mem_of_getElem? (i := 413) (by decide +kernel), List.mem_of_getElem? (i := 414) (by decide +kernel)⟩
theorem lw_p4 : lw_okq (⟨"RangeCoders$Bits", "writeBit", "(LRangeCoders$Odds;II)V"⟩, 15) := ⟨⟨by decide +kernel, by decide +kernel⟩, List.mem_of_getElem? (i := 171) (by decide +kernel), List.mem_of_getElem? (i := 446) (by decide +kernel), List.mem_of_getElem? (i := 447) (by decide +kernel)⟩
theorem lw_p5 : lw_okq (⟨"RangeCoders$Bits", "adapt", "(LRangeCoders$Odds;II)V"⟩, 15) := ⟨⟨by decide +kernel, by decide +kernel⟩, List.mem_of_getElem? (i := 171) (by decide +kernel), List.mem_of_getElem? (i := 451) (by decide +kernel), List.mem_of_getElem? (i := 452) (by decide +kernel)⟩
theorem lw_p6 : lw_okq (⟨"RangeCoders$Carries", "shiftLow", "()V"⟩, 11) := ⟨⟨by decide +kernel, by decide +kernel⟩, List.mem_of_getElem? (i := 40) (by decide +kernel), List.mem_of_getElem? (i := 464) (by decide +kernel), List.mem_of_getElem? (i := 465) (by decide +kernel)⟩
theorem lw_p7 : lw_okq (⟨"RangeCoders$Carries", "writeWaiting", "(I)V"⟩, 11) := ⟨⟨by decide +kernel, by decide +kernel⟩, List.mem_of_getElem? (i := 40) (by decide +kernel), List.mem_of_getElem? (i := 469) (by decide +kernel), List.mem_of_getElem? (i := 470) (by decide +kernel)⟩
theorem lw_p8 : lw_okq (⟨"RangeCoders$NoCarries", "writeTop", "()V"⟩, 9) := ⟨⟨by decide +kernel, by decide +kernel⟩, List.mem_of_getElem? (i := 155) (by decide +kernel), List.mem_of_getElem? (i := 522) (by decide +kernel), List.mem_of_getElem? (i := 523) (by decide +kernel)⟩
theorem lw_p9 : lw_okq (⟨"RangeCoders$Stack", "stackPart", "(II)V"⟩, 10) := ⟨⟨by decide +kernel, by decide +kernel⟩, List.mem_of_getElem? (i := 201) (by decide +kernel), List.mem_of_getElem? (i := 616) (by decide +kernel), List.mem_of_getElem? (i := 617) (by decide +kernel)⟩
theorem lw_p10 : lw_okq (⟨"RangeCoders$Stack", "writeLowest", "()V"⟩, 10) := ⟨⟨by decide +kernel, by decide +kernel⟩, List.mem_of_getElem? (i := 201) (by decide +kernel), List.mem_of_getElem? (i := 620) (by decide +kernel), List.mem_of_getElem? (i := 621) (by decide +kernel)⟩
theorem lw_p11 : lw_okq (⟨"RangeCoders$Table", "byteOfWritten", "(I)I"⟩, 10) := ⟨⟨by decide +kernel, by decide +kernel⟩, List.mem_of_getElem? (i := 242) (by decide +kernel), List.mem_of_getElem? (i := 673) (by decide +kernel), List.mem_of_getElem? (i := 674) (by decide +kernel)⟩
theorem lw_p12 : lw_okq (⟨"RangeCoders$Table", "nextInBit", "()I"⟩, 10) := ⟨⟨by decide +kernel, by decide +kernel⟩, List.mem_of_getElem? (i := 242) (by decide +kernel), List.mem_of_getElem? (i := 768) (by decide +kernel), List.mem_of_getElem? (i := 769) (by decide +kernel)⟩
theorem lw_p13 : lw_okq (⟨"RangeCoders$Bits", "keepReading", "()V"⟩, 15) := ⟨⟨by decide +kernel, by decide +kernel⟩, List.mem_of_getElem? (i := 171) (by decide +kernel), List.mem_of_getElem? (i := 782) (by decide +kernel), List.mem_of_getElem? (i := 783) (by decide +kernel)⟩
theorem lw_p14 : lw_okq (⟨"RangeCoders$Bits", "nextBit", "(LRangeCoders$Odds;I)I"⟩, 15) := ⟨⟨by decide +kernel, by decide +kernel⟩, List.mem_of_getElem? (i := 171) (by decide +kernel), List.mem_of_getElem? (i := 786) (by decide +kernel), List.mem_of_getElem? (i := 787) (by decide +kernel)⟩
theorem lw_p15 : lw_okq (⟨"RangeCoders$Bits", "undone", "()I"⟩, 15) := ⟨⟨by decide +kernel, by decide +kernel⟩, List.mem_of_getElem? (i := 171) (by decide +kernel), List.mem_of_getElem? (i := 801) (by decide +kernel), List.mem_of_getElem? (i := 802) (by decide +kernel)⟩
def lw_privs_1 : List (MethodName × Nat) := [(⟨"RangeCoders$Odds", "copyCounts", "([I)V"⟩, 5), (⟨"RangeCoders$Odds", "halve", "()V"⟩, 5), (⟨"RangeCoders$Odds", "greatest", "()I"⟩, 5), (⟨"RangeCoders", "modelAt", "(I)LRangeCoders$Model;"⟩, 8), (⟨"RangeCoders$Bits", "writeBit", "(LRangeCoders$Odds;II)V"⟩, 15), (⟨"RangeCoders$Bits", "adapt", "(LRangeCoders$Odds;II)V"⟩, 15), (⟨"RangeCoders$Carries", "shiftLow", "()V"⟩, 11), (⟨"RangeCoders$Carries", "writeWaiting", "(I)V"⟩, 11), (⟨"RangeCoders$NoCarries", "writeTop", "()V"⟩, 9), (⟨"RangeCoders$Stack", "stackPart", "(II)V"⟩, 10), (⟨"RangeCoders$Stack", "writeLowest", "()V"⟩, 10), (⟨"RangeCoders$Table", "byteOfWritten", "(I)I"⟩, 10), (⟨"RangeCoders$Table", "nextInBit", "()I"⟩, 10), (⟨"RangeCoders$Bits", "keepReading", "()V"⟩, 15), (⟨"RangeCoders$Bits", "nextBit", "(LRangeCoders$Odds;I)I"⟩, 15), (⟨"RangeCoders$Bits", "undone", "()I"⟩, 15)]
theorem lw_r1 : ∀ q ∈ lw_privs_1, lw_okq q := List.forall_mem_cons.mpr ⟨lw_p0, List.forall_mem_cons.mpr ⟨lw_p1, List.forall_mem_cons.mpr ⟨lw_p2, List.forall_mem_cons.mpr ⟨lw_p3, List.forall_mem_cons.mpr ⟨lw_p4, List.forall_mem_cons.mpr ⟨lw_p5, List.forall_mem_cons.mpr ⟨lw_p6, List.forall_mem_cons.mpr ⟨lw_p7, List.forall_mem_cons.mpr ⟨lw_p8, List.forall_mem_cons.mpr ⟨lw_p9, List.forall_mem_cons.mpr ⟨lw_p10, List.forall_mem_cons.mpr ⟨lw_p11, List.forall_mem_cons.mpr ⟨lw_p12, List.forall_mem_cons.mpr ⟨lw_p13, List.forall_mem_cons.mpr ⟨lw_p14, List.forall_mem_cons.mpr ⟨lw_p15, fun _ h => absurd h List.not_mem_nil⟩⟩⟩⟩⟩⟩⟩⟩⟩⟩⟩⟩⟩⟩⟩⟩
theorem lw_p16 : lw_okq (⟨"RangeCoders$Stack", "unstackPart", "(II)V"⟩, 10) := ⟨⟨by decide +kernel, by decide +kernel⟩, List.mem_of_getElem? (i := 201) (by decide +kernel), List.mem_of_getElem? (i := 836) (by decide +kernel), List.mem_of_getElem? (i := 837) (by decide +kernel)⟩
theorem lw_p17 : lw_okq (⟨"RangeCoders", "itemOrBad", "(I)I"⟩, 8) := ⟨⟨by decide +kernel, by decide +kernel⟩, List.mem_of_getElem? (i := 18) (by decide +kernel), List.mem_of_getElem? (i := 855) (by decide +kernel), List.mem_of_getElem? (i := 856) (by decide +kernel)⟩
theorem lw_p18 : lw_okq (⟨"RangeCodersModel", "start", "()V"⟩, 35) := ⟨⟨by decide +kernel, by decide +kernel⟩, List.mem_of_getElem? (i := 918) (by decide +kernel), List.mem_of_getElem? (i := 924) (by decide +kernel), List.mem_of_getElem? (i := 925) (by decide +kernel)⟩
theorem lw_p19 : lw_okq (⟨"RangeCodersModel", "prepare", "([II)V"⟩, 35) := ⟨⟨by decide +kernel, by decide +kernel⟩, List.mem_of_getElem? (i := 918) (by decide +kernel), List.mem_of_getElem? (i := 929) (by decide +kernel), List.mem_of_getElem? (i := 930) (by decide +kernel)⟩
theorem lw_p20 : lw_okq (⟨"RangeCodersModel", "lessen", "([II)V"⟩, 35) := ⟨⟨by decide +kernel, by decide +kernel⟩, List.mem_of_getElem? (i := 918) (by decide +kernel), List.mem_of_getElem? (i := 933) (by decide +kernel), List.mem_of_getElem? (i := 934) (by decide +kernel)⟩
theorem lw_p21 : lw_okq (⟨"RangeCodersModel", "sum", "([II)I"⟩, 35) := ⟨⟨by decide +kernel, by decide +kernel⟩, List.mem_of_getElem? (i := 918) (by decide +kernel), List.mem_of_getElem? (i := 937) (by decide +kernel), List.mem_of_getElem? (i := 938) (by decide +kernel)⟩
theorem lw_p22 : lw_okq (⟨"RangeCodersModel", "halve", "([II)V"⟩, 35) := ⟨⟨by decide +kernel, by decide +kernel⟩, List.mem_of_getElem? (i := 918) (by decide +kernel), List.mem_of_getElem? (i := 941) (by decide +kernel), List.mem_of_getElem? (i := 942) (by decide +kernel)⟩
theorem lw_p23 : lw_okq (⟨"RangeCodersModel", "scale", "([III)V"⟩, 35) := ⟨⟨by decide +kernel, by decide +kernel⟩, List.mem_of_getElem? (i := 918) (by decide +kernel), List.mem_of_getElem? (i := 945) (by decide +kernel), List.mem_of_getElem? (i := 946) (by decide +kernel)⟩
theorem lw_p24 : lw_okq (⟨"RangeCodersModel", "greatest", "([II)I"⟩, 35) := ⟨⟨by decide +kernel, by decide +kernel⟩, List.mem_of_getElem? (i := 918) (by decide +kernel), List.mem_of_getElem? (i := 949) (by decide +kernel), List.mem_of_getElem? (i := 950) (by decide +kernel)⟩
theorem lw_p25 : lw_okq (⟨"RangeCodersModel", "isSign", "(II)Z"⟩, 35) := ⟨⟨by decide +kernel, by decide +kernel⟩, List.mem_of_getElem? (i := 918) (by decide +kernel), List.mem_of_getElem? (i := 1070) (by decide +kernel), List.mem_of_getElem? (i := 1071) (by decide +kernel)⟩
theorem lw_p26 : lw_okq (⟨"RangeCodersModel", "isModel", "(I)Z"⟩, 35) := ⟨⟨by decide +kernel, by decide +kernel⟩, List.mem_of_getElem? (i := 918) (by decide +kernel), List.mem_of_getElem? (i := 1074) (by decide +kernel), List.mem_of_getElem? (i := 1075) (by decide +kernel)⟩
theorem lw_p27 : lw_okq (⟨"RangeCodersModel", "putSign", "(II)V"⟩, 35) := ⟨⟨by decide +kernel, by decide +kernel⟩, List.mem_of_getElem? (i := 918) (by decide +kernel), List.mem_of_getElem? (i := 1086) (by decide +kernel), List.mem_of_getElem? (i := 1087) (by decide +kernel)⟩
theorem lw_p28 : lw_okq (⟨"RangeCodersModel", "before", "([III)I"⟩, 35) := ⟨⟨by decide +kernel, by decide +kernel⟩, List.mem_of_getElem? (i := 918) (by decide +kernel), List.mem_of_getElem? (i := 1090) (by decide +kernel), List.mem_of_getElem? (i := 1091) (by decide +kernel)⟩
theorem lw_p29 : lw_okq (⟨"RangeCodersModel", "narrow", "(III)V"⟩, 35) := ⟨⟨by decide +kernel, by decide +kernel⟩, List.mem_of_getElem? (i := 918) (by decide +kernel), List.mem_of_getElem? (i := 1094) (by decide +kernel), List.mem_of_getElem? (i := 1095) (by decide +kernel)⟩
theorem lw_p30 : lw_okq (⟨"RangeCodersModel", "widen", "()V"⟩, 35) := ⟨⟨by decide +kernel, by decide +kernel⟩, List.mem_of_getElem? (i := 918) (by decide +kernel), List.mem_of_getElem? (i := 1098) (by decide +kernel), List.mem_of_getElem? (i := 1099) (by decide +kernel)⟩
theorem lw_p31 : lw_okq (⟨"RangeCodersModel", "shifted", "()V"⟩, 35) := ⟨⟨by decide +kernel, by decide +kernel⟩, List.mem_of_getElem? (i := 918) (by decide +kernel), List.mem_of_getElem? (i := 1103) (by decide +kernel), List.mem_of_getElem? (i := 1104) (by decide +kernel)⟩
def lw_privs_2 : List (MethodName × Nat) := [(⟨"RangeCoders$Stack", "unstackPart", "(II)V"⟩, 10), (⟨"RangeCoders", "itemOrBad", "(I)I"⟩, 8), (⟨"RangeCodersModel", "start", "()V"⟩, 35), (⟨"RangeCodersModel", "prepare", "([II)V"⟩, 35), (⟨"RangeCodersModel", "lessen", "([II)V"⟩, 35), (⟨"RangeCodersModel", "sum", "([II)I"⟩, 35), (⟨"RangeCodersModel", "halve", "([II)V"⟩, 35), (⟨"RangeCodersModel", "scale", "([III)V"⟩, 35), (⟨"RangeCodersModel", "greatest", "([II)I"⟩, 35), (⟨"RangeCodersModel", "isSign", "(II)Z"⟩, 35), (⟨"RangeCodersModel", "isModel", "(I)Z"⟩, 35), (⟨"RangeCodersModel", "putSign", "(II)V"⟩, 35), (⟨"RangeCodersModel", "before", "([III)I"⟩, 35), (⟨"RangeCodersModel", "narrow", "(III)V"⟩, 35), (⟨"RangeCodersModel", "widen", "()V"⟩, 35), (⟨"RangeCodersModel", "shifted", "()V"⟩, 35)]
theorem lw_r2 : ∀ q ∈ lw_privs_2, lw_okq q := List.forall_mem_cons.mpr ⟨lw_p16, List.forall_mem_cons.mpr ⟨lw_p17, List.forall_mem_cons.mpr ⟨lw_p18, List.forall_mem_cons.mpr ⟨lw_p19, List.forall_mem_cons.mpr ⟨lw_p20, List.forall_mem_cons.mpr ⟨lw_p21, List.forall_mem_cons.mpr ⟨lw_p22, List.forall_mem_cons.mpr ⟨lw_p23, List.forall_mem_cons.mpr ⟨lw_p24, List.forall_mem_cons.mpr ⟨lw_p25, List.forall_mem_cons.mpr ⟨lw_p26, List.forall_mem_cons.mpr ⟨lw_p27, List.forall_mem_cons.mpr ⟨lw_p28, List.forall_mem_cons.mpr ⟨lw_p29, List.forall_mem_cons.mpr ⟨lw_p30, List.forall_mem_cons.mpr ⟨lw_p31, fun _ h => absurd h List.not_mem_nil⟩⟩⟩⟩⟩⟩⟩⟩⟩⟩⟩⟩⟩⟩⟩⟩
theorem lw_p32 : lw_okq (⟨"RangeCodersModel", "write", "(I)V"⟩, 35) := ⟨⟨by decide +kernel, by decide +kernel⟩, List.mem_of_getElem? (i := 918) (by decide +kernel), List.mem_of_getElem? (i := 1108) (by decide +kernel), List.mem_of_getElem? (i := 1109) (by decide +kernel)⟩
theorem lw_p33 : lw_okq (⟨"RangeCodersModel", "widenPlain", "()V"⟩, 35) := ⟨⟨by decide +kernel, by decide +kernel⟩, List.mem_of_getElem? (i := 918) (by decide +kernel), List.mem_of_getElem? (i := 1114) (by decide +kernel), List.mem_of_getElem? (i := 1115) (by decide +kernel)⟩
theorem lw_p34 : lw_okq (⟨"RangeCodersModel", "learn", "([III)V"⟩, 35) := ⟨⟨by decide +kernel, by decide +kernel⟩, List.mem_of_getElem? (i := 918) (by decide +kernel), List.mem_of_getElem? (i := 1120) (by decide +kernel), List.mem_of_getElem? (i := 1121) (by decide +kernel)⟩
theorem lw_p35 : lw_okq (⟨"RangeCodersModel", "levels", "(I)I"⟩, 35) := ⟨⟨by decide +kernel, by decide +kernel⟩, List.mem_of_getElem? (i := 918) (by decide +kernel), List.mem_of_getElem? (i := 1124) (by decide +kernel), List.mem_of_getElem? (i := 1125) (by decide +kernel)⟩
theorem lw_p36 : lw_okq (⟨"RangeCodersModel", "putBit", "(II)V"⟩, 35) := ⟨⟨by decide +kernel, by decide +kernel⟩, List.mem_of_getElem? (i := 918) (by decide +kernel), List.mem_of_getElem? (i := 1128) (by decide +kernel), List.mem_of_getElem? (i := 1129) (by decide +kernel)⟩
theorem lw_p37 : lw_okq (⟨"RangeCodersModel", "moveChance", "([III)V"⟩, 35) := ⟨⟨by decide +kernel, by decide +kernel⟩, List.mem_of_getElem? (i := 918) (by decide +kernel), List.mem_of_getElem? (i := 1132) (by decide +kernel), List.mem_of_getElem? (i := 1133) (by decide +kernel)⟩
theorem lw_p38 : lw_okq (⟨"RangeCodersModel", "addItem", "(II)I"⟩, 35) := ⟨⟨by decide +kernel, by decide +kernel⟩, List.mem_of_getElem? (i := 918) (by decide +kernel), List.mem_of_getElem? (i := 1136) (by decide +kernel), List.mem_of_getElem? (i := 1137) (by decide +kernel)⟩
theorem lw_p39 : lw_okq (⟨"RangeCodersModel", "putValue", "(II)V"⟩, 35) := ⟨⟨by decide +kernel, by decide +kernel⟩, List.mem_of_getElem? (i := 918) (by decide +kernel), List.mem_of_getElem? (i := 1144) (by decide +kernel), List.mem_of_getElem? (i := 1145) (by decide +kernel)⟩
theorem lw_p40 : lw_okq (⟨"RangeCodersModel", "endStack", "()V"⟩, 35) := ⟨⟨by decide +kernel, by decide +kernel⟩, List.mem_of_getElem? (i := 918) (by decide +kernel), List.mem_of_getElem? (i := 1152) (by decide +kernel), List.mem_of_getElem? (i := 1153) (by decide +kernel)⟩
theorem lw_p41 : lw_okq (⟨"RangeCodersModel", "endTable", "()V"⟩, 35) := ⟨⟨by decide +kernel, by decide +kernel⟩, List.mem_of_getElem? (i := 918) (by decide +kernel), List.mem_of_getElem? (i := 1157) (by decide +kernel), List.mem_of_getElem? (i := 1158) (by decide +kernel)⟩
theorem lw_p42 : lw_okq (⟨"RangeCodersModel", "writeBit", "(J)V"⟩, 35) := ⟨⟨by decide +kernel, by decide +kernel⟩, List.mem_of_getElem? (i := 918) (by decide +kernel), List.mem_of_getElem? (i := 1162) (by decide +kernel), List.mem_of_getElem? (i := 1163) (by decide +kernel)⟩
theorem lw_p43 : lw_okq (⟨"RangeCodersModel", "lay", "([II)V"⟩, 35) := ⟨⟨by decide +kernel, by decide +kernel⟩, List.mem_of_getElem? (i := 918) (by decide +kernel), List.mem_of_getElem? (i := 1166) (by decide +kernel), List.mem_of_getElem? (i := 1167) (by decide +kernel)⟩
theorem lw_p44 : lw_okq (⟨"RangeCodersModel", "four", "()J"⟩, 35) := ⟨⟨by decide +kernel, by decide +kernel⟩, List.mem_of_getElem? (i := 918) (by decide +kernel), List.mem_of_getElem? (i := 1191) (by decide +kernel), List.mem_of_getElem? (i := 1192) (by decide +kernel)⟩
theorem lw_p45 : lw_okq (⟨"RangeCodersModel", "next", "()I"⟩, 35) := ⟨⟨by decide +kernel, by decide +kernel⟩, List.mem_of_getElem? (i := 918) (by decide +kernel), List.mem_of_getElem? (i := 1195) (by decide +kernel), List.mem_of_getElem? (i := 1196) (by decide +kernel)⟩
theorem lw_p46 : lw_okq (⟨"RangeCodersModel", "nextBit", "()I"⟩, 35) := ⟨⟨by decide +kernel, by decide +kernel⟩, List.mem_of_getElem? (i := 918) (by decide +kernel), List.mem_of_getElem? (i := 1199) (by decide +kernel), List.mem_of_getElem? (i := 1200) (by decide +kernel)⟩
theorem lw_p47 : lw_okq (⟨"RangeCodersModel", "getRanged", "(I)I"⟩, 35) := ⟨⟨by decide +kernel, by decide +kernel⟩, List.mem_of_getElem? (i := 918) (by decide +kernel), List.mem_of_getElem? (i := 1207) (by decide +kernel), List.mem_of_getElem? (i := 1208) (by decide +kernel)⟩
def lw_privs_3 : List (MethodName × Nat) := [(⟨"RangeCodersModel", "write", "(I)V"⟩, 35), (⟨"RangeCodersModel", "widenPlain", "()V"⟩, 35), (⟨"RangeCodersModel", "learn", "([III)V"⟩, 35), (⟨"RangeCodersModel", "levels", "(I)I"⟩, 35), (⟨"RangeCodersModel", "putBit", "(II)V"⟩, 35), (⟨"RangeCodersModel", "moveChance", "([III)V"⟩, 35), (⟨"RangeCodersModel", "addItem", "(II)I"⟩, 35), (⟨"RangeCodersModel", "putValue", "(II)V"⟩, 35), (⟨"RangeCodersModel", "endStack", "()V"⟩, 35), (⟨"RangeCodersModel", "endTable", "()V"⟩, 35), (⟨"RangeCodersModel", "writeBit", "(J)V"⟩, 35), (⟨"RangeCodersModel", "lay", "([II)V"⟩, 35), (⟨"RangeCodersModel", "four", "()J"⟩, 35), (⟨"RangeCodersModel", "next", "()I"⟩, 35), (⟨"RangeCodersModel", "nextBit", "()I"⟩, 35), (⟨"RangeCodersModel", "getRanged", "(I)I"⟩, 35)]
theorem lw_r3 : ∀ q ∈ lw_privs_3, lw_okq q := List.forall_mem_cons.mpr ⟨lw_p32, List.forall_mem_cons.mpr ⟨lw_p33, List.forall_mem_cons.mpr ⟨lw_p34, List.forall_mem_cons.mpr ⟨lw_p35, List.forall_mem_cons.mpr ⟨lw_p36, List.forall_mem_cons.mpr ⟨lw_p37, List.forall_mem_cons.mpr ⟨lw_p38, List.forall_mem_cons.mpr ⟨lw_p39, List.forall_mem_cons.mpr ⟨lw_p40, List.forall_mem_cons.mpr ⟨lw_p41, List.forall_mem_cons.mpr ⟨lw_p42, List.forall_mem_cons.mpr ⟨lw_p43, List.forall_mem_cons.mpr ⟨lw_p44, List.forall_mem_cons.mpr ⟨lw_p45, List.forall_mem_cons.mpr ⟨lw_p46, List.forall_mem_cons.mpr ⟨lw_p47, fun _ h => absurd h List.not_mem_nil⟩⟩⟩⟩⟩⟩⟩⟩⟩⟩⟩⟩⟩⟩⟩⟩
theorem lw_p48 : lw_okq (⟨"RangeCodersModel", "wanted", "(I)J"⟩, 35) := ⟨⟨by decide +kernel, by decide +kernel⟩, List.mem_of_getElem? (i := 918) (by decide +kernel), List.mem_of_getElem? (i := 1211) (by decide +kernel), List.mem_of_getElem? (i := 1212) (by decide +kernel)⟩
theorem lw_p49 : lw_okq (⟨"RangeCodersModel", "signAt", "(IJ)I"⟩, 35) := ⟨⟨by decide +kernel, by decide +kernel⟩, List.mem_of_getElem? (i := 918) (by decide +kernel), List.mem_of_getElem? (i := 1216) (by decide +kernel), List.mem_of_getElem? (i := 1217) (by decide +kernel)⟩
theorem lw_p50 : lw_okq (⟨"RangeCodersModel", "leave", "(III)V"⟩, 35) := ⟨⟨by decide +kernel, by decide +kernel⟩, List.mem_of_getElem? (i := 918) (by decide +kernel), List.mem_of_getElem? (i := 1220) (by decide +kernel), List.mem_of_getElem? (i := 1221) (by decide +kernel)⟩
theorem lw_p51 : lw_okq (⟨"RangeCodersModel", "widenRead", "()V"⟩, 35) := ⟨⟨by decide +kernel, by decide +kernel⟩, List.mem_of_getElem? (i := 918) (by decide +kernel), List.mem_of_getElem? (i := 1224) (by decide +kernel), List.mem_of_getElem? (i := 1225) (by decide +kernel)⟩
theorem lw_p52 : lw_okq (⟨"RangeCodersModel", "widenReadPlain", "()V"⟩, 35) := ⟨⟨by decide +kernel, by decide +kernel⟩, List.mem_of_getElem? (i := 918) (by decide +kernel), List.mem_of_getElem? (i := 1228) (by decide +kernel), List.mem_of_getElem? (i := 1229) (by decide +kernel)⟩
theorem lw_p53 : lw_okq (⟨"RangeCodersModel", "getNode", "(I)I"⟩, 35) := ⟨⟨by decide +kernel, by decide +kernel⟩, List.mem_of_getElem? (i := 918) (by decide +kernel), List.mem_of_getElem? (i := 1232) (by decide +kernel), List.mem_of_getElem? (i := 1233) (by decide +kernel)⟩
theorem lw_p54 : lw_okq (⟨"RangeCodersModel", "readBit", "(JI)I"⟩, 35) := ⟨⟨by decide +kernel, by decide +kernel⟩, List.mem_of_getElem? (i := 918) (by decide +kernel), List.mem_of_getElem? (i := 1236) (by decide +kernel), List.mem_of_getElem? (i := 1237) (by decide +kernel)⟩
theorem lw_p55 : lw_okq (⟨"RangeCodersModel", "getStacked", "(I)I"⟩, 35) := ⟨⟨by decide +kernel, by decide +kernel⟩, List.mem_of_getElem? (i := 918) (by decide +kernel), List.mem_of_getElem? (i := 1240) (by decide +kernel), List.mem_of_getElem? (i := 1241) (by decide +kernel)⟩
theorem lw_p56 : lw_okq (⟨"RangeCodersModel", "refill", "()V"⟩, 35) := ⟨⟨by decide +kernel, by decide +kernel⟩, List.mem_of_getElem? (i := 918) (by decide +kernel), List.mem_of_getElem? (i := 1245) (by decide +kernel), List.mem_of_getElem? (i := 1246) (by decide +kernel)⟩
theorem lw_p57 : lw_okq (⟨"RangeCodersModel", "getTabled", "(I)I"⟩, 35) := ⟨⟨by decide +kernel, by decide +kernel⟩, List.mem_of_getElem? (i := 918) (by decide +kernel), List.mem_of_getElem? (i := 1249) (by decide +kernel), List.mem_of_getElem? (i := 1250) (by decide +kernel)⟩
theorem lw_p58 : lw_okq (⟨"RangeCodersModel", "spoiled", "()I"⟩, 35) := ⟨⟨by decide +kernel, by decide +kernel⟩, List.mem_of_getElem? (i := 918) (by decide +kernel), List.mem_of_getElem? (i := 1253) (by decide +kernel), List.mem_of_getElem? (i := 1254) (by decide +kernel)⟩
theorem lw_p59 : lw_okq (⟨"RangeCodersModel", "valueOf", "(I)I"⟩, 35) := ⟨⟨by decide +kernel, by decide +kernel⟩, List.mem_of_getElem? (i := 918) (by decide +kernel), List.mem_of_getElem? (i := 1261) (by decide +kernel), List.mem_of_getElem? (i := 1262) (by decide +kernel)⟩
theorem lw_p60 : lw_okq (⟨"RangeCodersModel", "plainBits", "(I)I"⟩, 35) := ⟨⟨by decide +kernel, by decide +kernel⟩, List.mem_of_getElem? (i := 918) (by decide +kernel), List.mem_of_getElem? (i := 1265) (by decide +kernel), List.mem_of_getElem? (i := 1266) (by decide +kernel)⟩
def lw_privs_4 : List (MethodName × Nat) := [(⟨"RangeCodersModel", "wanted", "(I)J"⟩, 35), (⟨"RangeCodersModel", "signAt", "(IJ)I"⟩, 35), (⟨"RangeCodersModel", "leave", "(III)V"⟩, 35), (⟨"RangeCodersModel", "widenRead", "()V"⟩, 35), (⟨"RangeCodersModel", "widenReadPlain", "()V"⟩, 35), (⟨"RangeCodersModel", "getNode", "(I)I"⟩, 35), (⟨"RangeCodersModel", "readBit", "(JI)I"⟩, 35), (⟨"RangeCodersModel", "getStacked", "(I)I"⟩, 35), (⟨"RangeCodersModel", "refill", "()V"⟩, 35), (⟨"RangeCodersModel", "getTabled", "(I)I"⟩, 35), (⟨"RangeCodersModel", "spoiled", "()I"⟩, 35), (⟨"RangeCodersModel", "valueOf", "(I)I"⟩, 35), (⟨"RangeCodersModel", "plainBits", "(I)I"⟩, 35)]
theorem lw_r4 : ∀ q ∈ lw_privs_4, lw_okq q := List.forall_mem_cons.mpr ⟨lw_p48, List.forall_mem_cons.mpr ⟨lw_p49, List.forall_mem_cons.mpr ⟨lw_p50, List.forall_mem_cons.mpr ⟨lw_p51, List.forall_mem_cons.mpr ⟨lw_p52, List.forall_mem_cons.mpr ⟨lw_p53, List.forall_mem_cons.mpr ⟨lw_p54, List.forall_mem_cons.mpr ⟨lw_p55, List.forall_mem_cons.mpr ⟨lw_p56, List.forall_mem_cons.mpr ⟨lw_p57, List.forall_mem_cons.mpr ⟨lw_p58, List.forall_mem_cons.mpr ⟨lw_p59, List.forall_mem_cons.mpr ⟨lw_p60, fun _ h => absurd h List.not_mem_nil⟩⟩⟩⟩⟩⟩⟩⟩⟩⟩⟩⟩⟩
def lw_privs : List (MethodName × Nat) := lw_privs_1 ++ (lw_privs_2 ++ (lw_privs_3 ++ (lw_privs_4)))
def lw_tbl : List Cond := k2_sels lw_privs ++ tables_1
theorem lw_privs_ok : ∀ q ∈ lw_privs, lw_okq q := by
  show ∀ q ∈ lw_privs_1 ++ (lw_privs_2 ++ (lw_privs_3 ++ (lw_privs_4))), lw_okq q
  exact List.forall_mem_append.mpr ⟨lw_r1, List.forall_mem_append.mpr ⟨lw_r2, List.forall_mem_append.mpr ⟨lw_r3, lw_r4⟩⟩⟩
/-- a private method of a class above -/
theorem my_selP {C : String} {y : MethodName} {s : State} {args : Array Value} {n : Nat} (hy : y.cls ≠ "java/lang/invoke/MethodHandle" ∧ y.cls ≠ "java/lang/invoke/VarHandle")
    (hins : (Cond.instantiable C n).before args s = true) (hsame : (Cond.sameMethod y.cls y.cls y.name y.desc).before args s = true) (hpriv : (Cond.privateMethod y).before args s = true) (hinst : (Cond.instanceMethod y).before args s = true) :
    (Cond.selects C y y).before args s = true := by
  obtain ⟨c, k, hc, hk, -, hniab, -, -⟩ := Cond.instantiable_spec hins
  obtain ⟨mk, methM, hnamed, hmethM, -, -⟩ := Cond.instanceMethod_spec hinst
  have hfound : s.methodFound? y.cls y.name y.desc = some mk := State.methodFound?_of_named hnamed hy
  obtain ⟨cn, ck, r1, hcn, hck, hni, hf, hn1⟩ := Cond.sameMethod_found hsame
  have hcls : mk.cls = cn := Option.some.inj ((findClass_of_methodNamed hnamed).symm.trans hcn)
  have hsel : selectMethod {} s.vm c mk = .method mk := selectMethod_private hmethM (Cond.privateMethod_at hpriv mk methM hnamed hmethM)
  have hck2 : s.vm.classes[mk.cls]? = some ck := by rw [hcls]; exact hck
  simp only [Cond.before, Cond.holds, Cond.value, hc, hfound, hnamed, hsel, hck2]
  simp; exact hni
def ex_sel : List Cond := [Cond.selects "RangeCoders$Bits" ⟨"RangeCoders$Carries", "shiftLow", "()V"⟩ ⟨"RangeCoders$Carries", "shiftLow", "()V"⟩, Cond.selects "RangeCoders$Bits" ⟨"RangeCoders$Carries", "writeWaiting", "(I)V"⟩ ⟨"RangeCoders$Carries", "writeWaiting", "(I)V"⟩, Cond.selects "RangeCoders$Stack" ⟨"RangeCoders$Stacked", "keep", "(LRangeCoders$Odds;II)V"⟩ ⟨"RangeCoders$Stacked", "keep", "(LRangeCoders$Odds;II)V"⟩, Cond.selects "RangeCoders$Table" ⟨"RangeCoders$Stacked", "keep", "(LRangeCoders$Odds;II)V"⟩ ⟨"RangeCoders$Stacked", "keep", "(LRangeCoders$Odds;II)V"⟩, Cond.selects "RangeCoders$Carries" ⟨"RangeCoders$Ranged", "nextShare", "(I)I"⟩ ⟨"RangeCoders$Ranged", "nextShare", "(I)I"⟩, Cond.selects "RangeCoders$NoCarries" ⟨"RangeCoders$Ranged", "nextShare", "(I)I"⟩ ⟨"RangeCoders$Ranged", "nextShare", "(I)I"⟩, Cond.selects "RangeCoders$Bits" ⟨"RangeCoders$Ranged", "nextShare", "(I)I"⟩ ⟨"RangeCoders$Ranged", "nextShare", "(I)I"⟩]
/-- all words that a contract may take along -/
def lw_all : List Cond := ex_sel ++ lw_tbl
def gw : List Cond := lw_all.filter goodWord
theorem gw_of {w : Cond} (n : Nat) (h : tables_1[n]? = some w) (hg : goodWord w = true) : w ∈ gw := List.mem_filter.mpr ⟨List.mem_append_right _ (List.mem_append_right _ (List.mem_of_getElem? h)), hg⟩
theorem gw_sel {q : MethodName × Nat} (n : Nat) (h : lw_privs[n]? = some q) : Cond.selects q.1.cls q.1 q.1 ∈ gw := List.mem_filter.mpr ⟨List.mem_append_right _ (List.mem_append_left _ (List.mem_map.mpr ⟨q, List.mem_of_getElem? h, rfl⟩)), rfl⟩
theorem gw_ex {w : Cond} (n : Nat) (h : ex_sel[n]? = some w) (hg : goodWord w = true) : w ∈ gw := List.mem_filter.mpr ⟨List.mem_append_left _ (List.mem_of_getElem? h), hg⟩
theorem gw_all {args : Array Value} {s : State} (hts : ∀ w ∈ lw_tbl, w.before args s = true) : ∀ w ∈ gw, w.before args s = true := by
  intro w hw
  rcases List.mem_append.mp (List.mem_filter.mp hw).1 with h | h
  · revert w
    have tb : ∀ (n : Nat) (w : Cond), tables_1[n]? = some w → w.before args s = true := fun n w h => hts w (List.mem_append_right _ (List.mem_of_getElem? h))
    have key : ∀ w ∈ ex_sel, w.before args s = true := by
      show ∀ w ∈ [Cond.selects "RangeCoders$Bits" ⟨"RangeCoders$Carries", "shiftLow", "()V"⟩ ⟨"RangeCoders$Carries", "shiftLow", "()V"⟩, Cond.selects "RangeCoders$Bits" ⟨"RangeCoders$Carries", "writeWaiting", "(I)V"⟩ ⟨"RangeCoders$Carries", "writeWaiting", "(I)V"⟩, Cond.selects "RangeCoders$Stack" ⟨"RangeCoders$Stacked", "keep", "(LRangeCoders$Odds;II)V"⟩ ⟨"RangeCoders$Stacked", "keep", "(LRangeCoders$Odds;II)V"⟩, Cond.selects "RangeCoders$Table" ⟨"RangeCoders$Stacked", "keep", "(LRangeCoders$Odds;II)V"⟩ ⟨"RangeCoders$Stacked", "keep", "(LRangeCoders$Odds;II)V"⟩, Cond.selects "RangeCoders$Carries" ⟨"RangeCoders$Ranged", "nextShare", "(I)I"⟩ ⟨"RangeCoders$Ranged", "nextShare", "(I)I"⟩, Cond.selects "RangeCoders$NoCarries" ⟨"RangeCoders$Ranged", "nextShare", "(I)I"⟩ ⟨"RangeCoders$Ranged", "nextShare", "(I)I"⟩, Cond.selects "RangeCoders$Bits" ⟨"RangeCoders$Ranged", "nextShare", "(I)I"⟩ ⟨"RangeCoders$Ranged", "nextShare", "(I)I"⟩], w.before args s = true
      exact List.forall_mem_cons.mpr ⟨my_selP (n := 15) (by decide) (tb 171 _ (by decide +kernel)) (tb 1281 _ (by decide +kernel)) (tb 464 _ (by decide +kernel)) (tb 465 _ (by decide +kernel)), List.forall_mem_cons.mpr ⟨my_selP (n := 15) (by decide) (tb 171 _ (by decide +kernel)) (tb 1282 _ (by decide +kernel)) (tb 469 _ (by decide +kernel)) (tb 470 _ (by decide +kernel)), List.forall_mem_cons.mpr ⟨my_selP (n := 10) (by decide) (tb 201 _ (by decide +kernel)) (tb 1286 _ (by decide +kernel)) (tb 535 _ (by decide +kernel)) (tb 536 _ (by decide +kernel)), List.forall_mem_cons.mpr ⟨my_selP (n := 10) (by decide) (tb 242 _ (by decide +kernel)) (tb 1286 _ (by decide +kernel)) (tb 535 _ (by decide +kernel)) (tb 536 _ (by decide +kernel)), List.forall_mem_cons.mpr ⟨my_selP (n := 11) (by decide) (tb 40 _ (by decide +kernel)) (tb 1289 _ (by decide +kernel)) (tb 808 _ (by decide +kernel)) (tb 809 _ (by decide +kernel)), List.forall_mem_cons.mpr ⟨my_selP (n := 9) (by decide) (tb 155 _ (by decide +kernel)) (tb 1289 _ (by decide +kernel)) (tb 808 _ (by decide +kernel)) (tb 809 _ (by decide +kernel)), List.forall_mem_cons.mpr ⟨my_selP (n := 15) (by decide) (tb 171 _ (by decide +kernel)) (tb 1289 _ (by decide +kernel)) (tb 808 _ (by decide +kernel)) (tb 809 _ (by decide +kernel)), fun _ h => absurd h List.not_mem_nil⟩⟩⟩⟩⟩⟩⟩
    exact fun w _ h => key w h
  · exact hts w h
theorem tc_1 {w : Cond} (n : Nat) (h : tables_1_1[n]? = some w) : w ∈ tables_1 := (List.mem_append_left _ (List.mem_of_getElem? h))
theorem gw_c1 {w : Cond} (n : Nat) (h : tables_1_1[n]? = some w) (hg : goodWord w = true) : w ∈ gw := List.mem_filter.mpr ⟨List.mem_append_right _ (List.mem_append_right _ (tc_1 n h)), hg⟩
theorem tb_c1 {w : Cond} (n : Nat) (h : tables_1_1[n]? = some w) : w ∈ lw_tbl := List.mem_append_right _ (tc_1 n h)
theorem tc_2 {w : Cond} (n : Nat) (h : tables_1_2[n]? = some w) : w ∈ tables_1 := (List.mem_append_right _ (List.mem_append_left _ (List.mem_of_getElem? h)))
theorem gw_c2 {w : Cond} (n : Nat) (h : tables_1_2[n]? = some w) (hg : goodWord w = true) : w ∈ gw := List.mem_filter.mpr ⟨List.mem_append_right _ (List.mem_append_right _ (tc_2 n h)), hg⟩
theorem tb_c2 {w : Cond} (n : Nat) (h : tables_1_2[n]? = some w) : w ∈ lw_tbl := List.mem_append_right _ (tc_2 n h)
theorem tc_3 {w : Cond} (n : Nat) (h : tables_1_3[n]? = some w) : w ∈ tables_1 := (List.mem_append_right _ (List.mem_append_right _ (List.mem_append_left _ (List.mem_of_getElem? h))))
theorem gw_c3 {w : Cond} (n : Nat) (h : tables_1_3[n]? = some w) (hg : goodWord w = true) : w ∈ gw := List.mem_filter.mpr ⟨List.mem_append_right _ (List.mem_append_right _ (tc_3 n h)), hg⟩
theorem tb_c3 {w : Cond} (n : Nat) (h : tables_1_3[n]? = some w) : w ∈ lw_tbl := List.mem_append_right _ (tc_3 n h)
theorem tc_4 {w : Cond} (n : Nat) (h : tables_1_4[n]? = some w) : w ∈ tables_1 := (List.mem_append_right _ (List.mem_append_right _ (List.mem_append_right _ (List.mem_append_left _ (List.mem_of_getElem? h)))))
theorem gw_c4 {w : Cond} (n : Nat) (h : tables_1_4[n]? = some w) (hg : goodWord w = true) : w ∈ gw := List.mem_filter.mpr ⟨List.mem_append_right _ (List.mem_append_right _ (tc_4 n h)), hg⟩
theorem tb_c4 {w : Cond} (n : Nat) (h : tables_1_4[n]? = some w) : w ∈ lw_tbl := List.mem_append_right _ (tc_4 n h)
theorem tc_5 {w : Cond} (n : Nat) (h : tables_1_5[n]? = some w) : w ∈ tables_1 := (List.mem_append_right _ (List.mem_append_right _ (List.mem_append_right _ (List.mem_append_right _ (List.mem_append_left _ (List.mem_of_getElem? h))))))
theorem gw_c5 {w : Cond} (n : Nat) (h : tables_1_5[n]? = some w) (hg : goodWord w = true) : w ∈ gw := List.mem_filter.mpr ⟨List.mem_append_right _ (List.mem_append_right _ (tc_5 n h)), hg⟩
theorem tb_c5 {w : Cond} (n : Nat) (h : tables_1_5[n]? = some w) : w ∈ lw_tbl := List.mem_append_right _ (tc_5 n h)
theorem tc_6 {w : Cond} (n : Nat) (h : tables_1_6[n]? = some w) : w ∈ tables_1 := (List.mem_append_right _ (List.mem_append_right _ (List.mem_append_right _ (List.mem_append_right _ (List.mem_append_right _ (List.mem_of_getElem? h))))))
theorem gw_c6 {w : Cond} (n : Nat) (h : tables_1_6[n]? = some w) (hg : goodWord w = true) : w ∈ gw := List.mem_filter.mpr ⟨List.mem_append_right _ (List.mem_append_right _ (tc_6 n h)), hg⟩
theorem tb_c6 {w : Cond} (n : Nat) (h : tables_1_6[n]? = some w) : w ∈ lw_tbl := List.mem_append_right _ (tc_6 n h)
theorem tb_of {w : Cond} (n : Nat) (h : tables_1[n]? = some w) : w ∈ lw_tbl := List.mem_append_right _ (List.mem_of_getElem? h)
/-- words that a contract takes along beside its list: they say the same of every later state -/
def nwOk : Cond → Bool
  | .methodLinkNest _ _ _ _ => true
  | .declares _ => true
  | .castable _ _ => true
  | _ => false
def nw (U : State) : Prop := (∀ w ∈ lw_tbl, nwOk w = true → va_Nw w U) ∧ va_AO "RangeCoders$Model" U ∧ va_AO "RangeCoders$Odds" U
theorem nw_one {w : Cond} {s U : State} (hw : nwOk w = true) (hW : s.WarmedH U.vm) (hZ : va_Nw w s) : va_Nw w U := by
  unfold nwOk at hw
  split at hw
  · exact va_Nw.warmM hW hZ
  · exact va_Nw.warmD hW hZ
  · exact va_Nw.warmC hW hZ
  · cases hw
theorem nw_on {w : Cond} (hw : nwOk w = true) : w.onTables = true := by
  unfold nwOk at hw
  split at hw <;> first | rfl | cases hw
theorem nw.warm {s U : State} (hW : s.WarmedH U.vm) (h : nw s) : nw U := ⟨fun w hw ho => nw_one ho hW (h.1 w hw ho), h.2.1.moved hW.alike, h.2.2.moved hW.alike⟩
theorem nw.same {s U : State} (e : s.vm = U.vm) (h : nw s) : nw U := ⟨fun w hw ho => va_Nw.same (nw_on ho) e (h.1 w hw ho), h.2.1.moved (e ▸ Vm.Alike.refl _), h.2.2.moved (e ▸ Vm.Alike.refl _)⟩
theorem nw.of {s : State} {args : Array Value} (hts : ∀ w ∈ lw_tbl, w.before args s = true) : nw s := ⟨fun w hw ho => va_Nw.of (nw_on ho) (hts w hw), va_AO.of (hts _ (tb_of 26 (by decide +kernel))), va_AO.of (hts _ (tb_of 210 (by decide +kernel)))⟩
theorem gw_good : GoodIn gw gw := fun w h => ⟨h, good_of_word (List.mem_filter.mp h).2⟩
/-! names of methods, classes and fields -/
def y_RC_init : MethodName := ⟨"RangeCoders", "<init>", "(II)V"⟩
def y_Object_init : MethodName := ⟨"java/lang/Object", "<init>", "()V"⟩
def y_RC_nearest : MethodName := ⟨"RangeCoders", "nearest", "(III)I"⟩
def y_Math_min : MethodName := ⟨"java/lang/Math", "min", "(II)I"⟩
def y_Math_max : MethodName := ⟨"java/lang/Math", "max", "(II)I"⟩
def y_RC_coderOf : MethodName := ⟨"RangeCoders", "coderOf", "(II)LRangeCoders$Coder;"⟩
def y_Carries_init : MethodName := ⟨"RangeCoders$Carries", "<init>", "()V"⟩
def y_Ranged_init : MethodName := ⟨"RangeCoders$Ranged", "<init>", "()V"⟩
def y_Coder_init : MethodName := ⟨"RangeCoders$Coder", "<init>", "()V"⟩
def y_Row_init : MethodName := ⟨"RangeCoders$Row", "<init>", "()V"⟩
def y_NoCarries_init : MethodName := ⟨"RangeCoders$NoCarries", "<init>", "()V"⟩
def y_Bits_init : MethodName := ⟨"RangeCoders$Bits", "<init>", "(I)V"⟩
def y_Stack_init : MethodName := ⟨"RangeCoders$Stack", "<init>", "()V"⟩
def y_Stacked_init : MethodName := ⟨"RangeCoders$Stacked", "<init>", "()V"⟩
def y_Table_init : MethodName := ⟨"RangeCoders$Table", "<init>", "()V"⟩
def y_RC_model : MethodName := ⟨"RangeCoders", "model", "(I)I"⟩
def y_Bits_newOdds : MethodName := ⟨"RangeCoders$Bits", "newOdds", "(I)LRangeCoders$Odds;"⟩
def y_Bits_levelsOf : MethodName := ⟨"RangeCoders$Bits", "levelsOf", "(I)I"⟩
def y_Odds_init : MethodName := ⟨"RangeCoders$Odds", "<init>", "(IIII)V"⟩
def y_Table_newOdds : MethodName := ⟨"RangeCoders$Table", "newOdds", "(I)LRangeCoders$Odds;"⟩
def y_Coder_newOdds : MethodName := ⟨"RangeCoders$Coder", "newOdds", "(I)LRangeCoders$Odds;"⟩
def y_Model_init : MethodName := ⟨"RangeCoders$Model", "<init>", "(ILRangeCoders$Odds;LRangeCoders$Odds;)V"⟩
def y_Arrays_fill : MethodName := ⟨"java/util/Arrays", "fill", "([II)V"⟩
def y_Bits_prepare : MethodName := ⟨"RangeCoders$Bits", "prepare", "(LRangeCoders$Odds;[I)V"⟩
def y_Odds_fill : MethodName := ⟨"RangeCoders$Odds", "fill", "(I)V"⟩
def y_Ranged_prepare : MethodName := ⟨"RangeCoders$Ranged", "prepare", "(LRangeCoders$Odds;[I)V"⟩
def y_Odds_fromCounts : MethodName := ⟨"RangeCoders$Odds", "fromCounts", "([I)V"⟩
def y_Odds_copyCounts : MethodName := ⟨"RangeCoders$Odds", "copyCounts", "([I)V"⟩
def y_Odds_halve : MethodName := ⟨"RangeCoders$Odds", "halve", "()V"⟩
def y_Stack_prepare : MethodName := ⟨"RangeCoders$Stack", "prepare", "(LRangeCoders$Odds;[I)V"⟩
def y_Odds_scaleTo : MethodName := ⟨"RangeCoders$Odds", "scaleTo", "(I[I)V"⟩
def y_Odds_greatest : MethodName := ⟨"RangeCoders$Odds", "greatest", "()I"⟩
def y_Odds_grow : MethodName := ⟨"RangeCoders$Odds", "grow", "(II)V"⟩
def y_Odds_hasCell : MethodName := ⟨"RangeCoders$Odds", "hasCell", "(I)Z"⟩
def y_Table_prepare : MethodName := ⟨"RangeCoders$Table", "prepare", "(LRangeCoders$Odds;[I)V"⟩
def y_Odds_spread : MethodName := ⟨"RangeCoders$Odds", "spread", "()V"⟩
def y_RC_count : MethodName := ⟨"RangeCoders", "count", "(III)I"⟩
def y_RC_modelAt : MethodName := ⟨"RangeCoders", "modelAt", "(I)LRangeCoders$Model;"⟩
def y_Model_hasSign : MethodName := ⟨"RangeCoders$Model", "hasSign", "(I)Z"⟩
def y_RC_put : MethodName := ⟨"RangeCoders", "put", "(II)I"⟩
def y_Bits_canWrite : MethodName := ⟨"RangeCoders$Bits", "canWrite", "(LRangeCoders$Odds;I)Z"⟩
def y_Coder_canWrite : MethodName := ⟨"RangeCoders$Coder", "canWrite", "(LRangeCoders$Odds;I)Z"⟩
def y_Odds_at : MethodName := ⟨"RangeCoders$Odds", "at", "(I)I"⟩
def y_Bits_writeSign : MethodName := ⟨"RangeCoders$Bits", "writeSign", "(LRangeCoders$Odds;I)V"⟩
def y_Bits_writeBit : MethodName := ⟨"RangeCoders$Bits", "writeBit", "(LRangeCoders$Odds;II)V"⟩
def y_Bits_adapt : MethodName := ⟨"RangeCoders$Bits", "adapt", "(LRangeCoders$Odds;II)V"⟩
def y_Carries_widen : MethodName := ⟨"RangeCoders$Carries", "widen", "()V"⟩
def y_Carries_shiftLow : MethodName := ⟨"RangeCoders$Carries", "shiftLow", "()V"⟩
def y_Carries_writeWaiting : MethodName := ⟨"RangeCoders$Carries", "writeWaiting", "(I)V"⟩
def y_Row_add : MethodName := ⟨"RangeCoders$Row", "add", "(I)V"⟩
def y_Arrays_copyOf : MethodName := ⟨"java/util/Arrays", "copyOf", "([II)[I"⟩
def y_Ranged_writeSign : MethodName := ⟨"RangeCoders$Ranged", "writeSign", "(LRangeCoders$Odds;I)V"⟩
def y_Odds_below : MethodName := ⟨"RangeCoders$Odds", "below", "(I)I"⟩
def y_Carries_writePart : MethodName := ⟨"RangeCoders$Carries", "writePart", "(III)V"⟩
def y_NoCarries_writePart : MethodName := ⟨"RangeCoders$NoCarries", "writePart", "(III)V"⟩
def y_NoCarries_mustMove : MethodName := ⟨"RangeCoders$NoCarries", "mustMove", "(JJ)Z"⟩
def y_NoCarries_sameTop : MethodName := ⟨"RangeCoders$NoCarries", "sameTop", "(JJ)Z"⟩
def y_NoCarries_moved : MethodName := ⟨"RangeCoders$NoCarries", "moved", "(JJ)J"⟩
def y_NoCarries_writeTop : MethodName := ⟨"RangeCoders$NoCarries", "writeTop", "()V"⟩
def y_Odds_learn : MethodName := ⟨"RangeCoders$Odds", "learn", "(I)V"⟩
def y_Stacked_writeSign : MethodName := ⟨"RangeCoders$Stacked", "writeSign", "(LRangeCoders$Odds;I)V"⟩
def y_Stacked_keep : MethodName := ⟨"RangeCoders$Stacked", "keep", "(LRangeCoders$Odds;II)V"⟩
def y_RC_bits : MethodName := ⟨"RangeCoders", "bits", "(II)I"⟩
def y_Table_hasWidth : MethodName := ⟨"RangeCoders$Table", "hasWidth", "(I)Z"⟩
def y_Coder_hasWidth : MethodName := ⟨"RangeCoders$Coder", "hasWidth", "(I)Z"⟩
def y_Bits_writeValue : MethodName := ⟨"RangeCoders$Bits", "writeValue", "(II)V"⟩
def y_Ranged_writeValue : MethodName := ⟨"RangeCoders$Ranged", "writeValue", "(II)V"⟩
def y_Stacked_writeValue : MethodName := ⟨"RangeCoders$Stacked", "writeValue", "(II)V"⟩
def y_RC_end : MethodName := ⟨"RangeCoders", "end", "()I"⟩
def y_Ranged_closeMessage : MethodName := ⟨"RangeCoders$Ranged", "closeMessage", "()V"⟩
def y_Carries_flush : MethodName := ⟨"RangeCoders$Carries", "flush", "()V"⟩
def y_NoCarries_flush : MethodName := ⟨"RangeCoders$NoCarries", "flush", "()V"⟩
def y_Stacked_closeMessage : MethodName := ⟨"RangeCoders$Stacked", "closeMessage", "()V"⟩
def y_Row_clear : MethodName := ⟨"RangeCoders$Row", "clear", "()V"⟩
def y_Stack_openStack : MethodName := ⟨"RangeCoders$Stack", "openStack", "()V"⟩
def y_Table_openStack : MethodName := ⟨"RangeCoders$Table", "openStack", "()V"⟩
def y_Stack_stackValue : MethodName := ⟨"RangeCoders$Stack", "stackValue", "(II)V"⟩
def y_Stack_stackPart : MethodName := ⟨"RangeCoders$Stack", "stackPart", "(II)V"⟩
def y_Stack_writeLowest : MethodName := ⟨"RangeCoders$Stack", "writeLowest", "()V"⟩
def y_Table_stackValue : MethodName := ⟨"RangeCoders$Table", "stackValue", "(II)V"⟩
def y_Stack_stackSign : MethodName := ⟨"RangeCoders$Stack", "stackSign", "(LRangeCoders$Odds;I)V"⟩
def y_Table_stackSign : MethodName := ⟨"RangeCoders$Table", "stackSign", "(LRangeCoders$Odds;I)V"⟩
def y_Odds_placeOf : MethodName := ⟨"RangeCoders$Odds", "placeOf", "(II)I"⟩
def y_Stack_closeStack : MethodName := ⟨"RangeCoders$Stack", "closeStack", "()V"⟩
def y_Row_becomeReverseOf : MethodName := ⟨"RangeCoders$Row", "becomeReverseOf", "(LRangeCoders$Row;)V"⟩
def y_Row_at : MethodName := ⟨"RangeCoders$Row", "at", "(I)I"⟩
def y_Row_has : MethodName := ⟨"RangeCoders$Row", "has", "(I)Z"⟩
def y_Table_closeStack : MethodName := ⟨"RangeCoders$Table", "closeStack", "()V"⟩
def y_Table_byteOfWritten : MethodName := ⟨"RangeCoders$Table", "byteOfWritten", "(I)I"⟩
def y_RC_begin : MethodName := ⟨"RangeCoders", "begin", "()I"⟩
def y_Carries_openMessage : MethodName := ⟨"RangeCoders$Carries", "openMessage", "()V"⟩
def y_Ranged_openMessage : MethodName := ⟨"RangeCoders$Ranged", "openMessage", "()V"⟩
def y_Stacked_openMessage : MethodName := ⟨"RangeCoders$Stacked", "openMessage", "()V"⟩
def y_RC_out : MethodName := ⟨"RangeCoders", "out", "(I)I"⟩
def y_RC_octets : MethodName := ⟨"RangeCoders", "octets", "(I)I"⟩
def y_RC_take : MethodName := ⟨"RangeCoders", "take", "(I)I"⟩
def y_RC_spoil : MethodName := ⟨"RangeCoders", "spoil", "(II)I"⟩
def y_Row_set : MethodName := ⟨"RangeCoders$Row", "set", "(II)V"⟩
def y_RC_read : MethodName := ⟨"RangeCoders", "read", "()I"⟩
def y_Ranged_openReading : MethodName := ⟨"RangeCoders$Ranged", "openReading", "()Z"⟩
def y_Coder_firstFourBytes : MethodName := ⟨"RangeCoders$Coder", "firstFourBytes", "()J"⟩
def y_Coder_nextByte : MethodName := ⟨"RangeCoders$Coder", "nextByte", "()I"⟩
def y_Stack_openReading : MethodName := ⟨"RangeCoders$Stack", "openReading", "()Z"⟩
def y_Table_openReading : MethodName := ⟨"RangeCoders$Table", "openReading", "()Z"⟩
def y_Table_nextValue : MethodName := ⟨"RangeCoders$Table", "nextValue", "(I)I"⟩
def y_Table_nextInBit : MethodName := ⟨"RangeCoders$Table", "nextInBit", "()I"⟩
def y_RC_get : MethodName := ⟨"RangeCoders", "get", "(I)I"⟩
def y_Bits_nextSign : MethodName := ⟨"RangeCoders$Bits", "nextSign", "(LRangeCoders$Odds;)I"⟩
def y_Bits_keepReading : MethodName := ⟨"RangeCoders$Bits", "keepReading", "()V"⟩
def y_Bits_nextBit : MethodName := ⟨"RangeCoders$Bits", "nextBit", "(LRangeCoders$Odds;I)I"⟩
def y_Carries_widenReading : MethodName := ⟨"RangeCoders$Carries", "widenReading", "()V"⟩
def y_Bits_undone : MethodName := ⟨"RangeCoders$Bits", "undone", "()I"⟩
def y_Ranged_nextSign : MethodName := ⟨"RangeCoders$Ranged", "nextSign", "(LRangeCoders$Odds;)I"⟩
def y_Ranged_nextShare : MethodName := ⟨"RangeCoders$Ranged", "nextShare", "(I)I"⟩
def y_Odds_signAt : MethodName := ⟨"RangeCoders$Odds", "signAt", "(I)I"⟩
def y_Carries_readPart : MethodName := ⟨"RangeCoders$Carries", "readPart", "(III)V"⟩
def y_NoCarries_readPart : MethodName := ⟨"RangeCoders$NoCarries", "readPart", "(III)V"⟩
def y_Stack_nextSign : MethodName := ⟨"RangeCoders$Stack", "nextSign", "(LRangeCoders$Odds;)I"⟩
def y_Stack_unstackPart : MethodName := ⟨"RangeCoders$Stack", "unstackPart", "(II)V"⟩
def y_Table_nextSign : MethodName := ⟨"RangeCoders$Table", "nextSign", "(LRangeCoders$Odds;)I"⟩
def y_Odds_signOfPlace : MethodName := ⟨"RangeCoders$Odds", "signOfPlace", "(I)I"⟩
def y_Odds_numberOfPlace : MethodName := ⟨"RangeCoders$Odds", "numberOfPlace", "(I)I"⟩
def y_RC_itemOrBad : MethodName := ⟨"RangeCoders", "itemOrBad", "(I)I"⟩
def y_RC_getBits : MethodName := ⟨"RangeCoders", "getBits", "(I)I"⟩
def y_Bits_nextValue : MethodName := ⟨"RangeCoders$Bits", "nextValue", "(I)I"⟩
def y_Ranged_nextValue : MethodName := ⟨"RangeCoders$Ranged", "nextValue", "(I)I"⟩
def y_Stack_nextValue : MethodName := ⟨"RangeCoders$Stack", "nextValue", "(I)I"⟩
def y_RC_told : MethodName := ⟨"RangeCoders", "told", "(I)I"⟩
def y_Table_bytesAsked : MethodName := ⟨"RangeCoders$Table", "bytesAsked", "()I"⟩
def y_Coder_bytesAsked : MethodName := ⟨"RangeCoders$Coder", "bytesAsked", "()I"⟩
def y_RC_state : MethodName := ⟨"RangeCoders", "state", "(I)J"⟩
def y_Ranged_register : MethodName := ⟨"RangeCoders$Ranged", "register", "(I)J"⟩
def y_Stacked_register : MethodName := ⟨"RangeCoders$Stacked", "register", "(I)J"⟩
def y_RC_chance : MethodName := ⟨"RangeCoders", "chance", "(II)I"⟩
def y_Law_cell : MethodName := ⟨"RangeCodersLaw", "cell", "([II)I"⟩
def y_M_init : MethodName := ⟨"RangeCodersModel", "<init>", "(II)V"⟩
def y_M_start : MethodName := ⟨"RangeCodersModel", "start", "()V"⟩
def y_M_prepare : MethodName := ⟨"RangeCodersModel", "prepare", "([II)V"⟩
def y_M_lessen : MethodName := ⟨"RangeCodersModel", "lessen", "([II)V"⟩
def y_M_sum : MethodName := ⟨"RangeCodersModel", "sum", "([II)I"⟩
def y_M_halve : MethodName := ⟨"RangeCodersModel", "halve", "([II)V"⟩
def y_M_scale : MethodName := ⟨"RangeCodersModel", "scale", "([III)V"⟩
def y_M_greatest : MethodName := ⟨"RangeCodersModel", "greatest", "([II)I"⟩
def y_M_model : MethodName := ⟨"RangeCodersModel", "model", "(I)I"⟩
def y_M_in : MethodName := ⟨"RangeCodersModel", "in", "(III)Z"⟩
def y_M_count : MethodName := ⟨"RangeCodersModel", "count", "(III)I"⟩
def y_M_isSign : MethodName := ⟨"RangeCodersModel", "isSign", "(II)Z"⟩
def y_M_isModel : MethodName := ⟨"RangeCodersModel", "isModel", "(I)Z"⟩
def y_M_begin : MethodName := ⟨"RangeCodersModel", "begin", "()I"⟩
def y_M_put : MethodName := ⟨"RangeCodersModel", "put", "(II)I"⟩
def y_M_putSign : MethodName := ⟨"RangeCodersModel", "putSign", "(II)V"⟩
def y_M_before : MethodName := ⟨"RangeCodersModel", "before", "([III)I"⟩
def y_M_narrow : MethodName := ⟨"RangeCodersModel", "narrow", "(III)V"⟩
def y_M_widen : MethodName := ⟨"RangeCodersModel", "widen", "()V"⟩
def y_M_shifted : MethodName := ⟨"RangeCodersModel", "shifted", "()V"⟩
def y_M_write : MethodName := ⟨"RangeCodersModel", "write", "(I)V"⟩
def y_M_widenPlain : MethodName := ⟨"RangeCodersModel", "widenPlain", "()V"⟩
def y_M_learn : MethodName := ⟨"RangeCodersModel", "learn", "([III)V"⟩
def y_M_levels : MethodName := ⟨"RangeCodersModel", "levels", "(I)I"⟩
def y_M_putBit : MethodName := ⟨"RangeCodersModel", "putBit", "(II)V"⟩
def y_M_moveChance : MethodName := ⟨"RangeCodersModel", "moveChance", "([III)V"⟩
def y_M_addItem : MethodName := ⟨"RangeCodersModel", "addItem", "(II)I"⟩
def y_M_bits : MethodName := ⟨"RangeCodersModel", "bits", "(II)I"⟩
def y_M_putValue : MethodName := ⟨"RangeCodersModel", "putValue", "(II)V"⟩
def y_M_end : MethodName := ⟨"RangeCodersModel", "end", "()I"⟩
def y_M_endStack : MethodName := ⟨"RangeCodersModel", "endStack", "()V"⟩
def y_M_endTable : MethodName := ⟨"RangeCodersModel", "endTable", "()V"⟩
def y_M_writeBit : MethodName := ⟨"RangeCodersModel", "writeBit", "(J)V"⟩
def y_M_lay : MethodName := ⟨"RangeCodersModel", "lay", "([II)V"⟩
def y_M_out : MethodName := ⟨"RangeCodersModel", "out", "(I)I"⟩
def y_M_octets : MethodName := ⟨"RangeCodersModel", "octets", "(I)I"⟩
def y_M_take : MethodName := ⟨"RangeCodersModel", "take", "(I)I"⟩
def y_M_spoil : MethodName := ⟨"RangeCodersModel", "spoil", "(II)I"⟩
def y_M_read : MethodName := ⟨"RangeCodersModel", "read", "()I"⟩
def y_M_four : MethodName := ⟨"RangeCodersModel", "four", "()J"⟩
def y_M_next : MethodName := ⟨"RangeCodersModel", "next", "()I"⟩
def y_M_nextBit : MethodName := ⟨"RangeCodersModel", "nextBit", "()I"⟩
def y_M_get : MethodName := ⟨"RangeCodersModel", "get", "(I)I"⟩
def y_M_getRanged : MethodName := ⟨"RangeCodersModel", "getRanged", "(I)I"⟩
def y_M_wanted : MethodName := ⟨"RangeCodersModel", "wanted", "(I)J"⟩
def y_M_signAt : MethodName := ⟨"RangeCodersModel", "signAt", "(IJ)I"⟩
def y_M_leave : MethodName := ⟨"RangeCodersModel", "leave", "(III)V"⟩
def y_M_widenRead : MethodName := ⟨"RangeCodersModel", "widenRead", "()V"⟩
def y_M_widenReadPlain : MethodName := ⟨"RangeCodersModel", "widenReadPlain", "()V"⟩
def y_M_getNode : MethodName := ⟨"RangeCodersModel", "getNode", "(I)I"⟩
def y_M_readBit : MethodName := ⟨"RangeCodersModel", "readBit", "(JI)I"⟩
def y_M_getStacked : MethodName := ⟨"RangeCodersModel", "getStacked", "(I)I"⟩
def y_M_refill : MethodName := ⟨"RangeCodersModel", "refill", "()V"⟩
def y_M_getTabled : MethodName := ⟨"RangeCodersModel", "getTabled", "(I)I"⟩
def y_M_spoiled : MethodName := ⟨"RangeCodersModel", "spoiled", "()I"⟩
def y_M_getBits : MethodName := ⟨"RangeCodersModel", "getBits", "(I)I"⟩
def y_M_valueOf : MethodName := ⟨"RangeCodersModel", "valueOf", "(I)I"⟩
def y_M_plainBits : MethodName := ⟨"RangeCodersModel", "plainBits", "(I)I"⟩
def y_M_told : MethodName := ⟨"RangeCodersModel", "told", "(I)I"⟩
def y_M_state : MethodName := ⟨"RangeCodersModel", "state", "(I)J"⟩
def y_M_chance : MethodName := ⟨"RangeCodersModel", "chance", "(II)I"⟩
def T_Row : u_T := fun k => match k with
  | 0 => ("RangeCoders$Row", "size", "I", false)
  | _ => ("RangeCoders$Row", "cells", "[I", false)
def t_Row : Nat → FieldType := fun k => match k with
  | 0 => .int
  | _ => .array .int
theorem n_Row : ∀ a, a < 2 → ∀ b, b < 2 → a ≠ b → (T_Row a).2.1 ≠ (T_Row b).2.1 := by decide +kernel
theorem o_Row : ∀ k, k < 2 → parseFieldDescriptor (T_Row k).2.2.1 = some (t_Row k) := by decide +kernel
def T_Carries : u_T := fun k => match k with
  | 0 => ("RangeCoders$Carries", "cache", "I", false)
  | 1 => ("RangeCoders$Carries", "pending", "I", false)
  | 2 => ("RangeCoders$Ranged", "low", "J", false)
  | 3 => ("RangeCoders$Ranged", "range", "J", false)
  | 4 => ("RangeCoders$Ranged", "code", "J", false)
  | 5 => ("RangeCoders$Ranged", "readLow", "J", false)
  | 6 => ("RangeCoders$Ranged", "readRange", "J", false)
  | 7 => ("RangeCoders$Coder", "in", "LRangeCoders$Row;", true)
  | 8 => ("RangeCoders$Coder", "out", "LRangeCoders$Row;", false)
  | 9 => ("RangeCoders$Coder", "written", "LRangeCoders$Row;", false)
  | _ => ("RangeCoders$Coder", "asked", "I", false)
def t_Carries : Nat → FieldType := fun k => match k with
  | 0 => .int
  | 1 => .int
  | 2 => .long
  | 3 => .long
  | 4 => .long
  | 5 => .long
  | 6 => .long
  | 7 => .object "RangeCoders$Row"
  | 8 => .object "RangeCoders$Row"
  | 9 => .object "RangeCoders$Row"
  | _ => .int
theorem n_Carries : ∀ a, a < 11 → ∀ b, b < 11 → a ≠ b → (T_Carries a).2.1 ≠ (T_Carries b).2.1 := by decide +kernel
theorem o_Carries : ∀ k, k < 11 → parseFieldDescriptor (T_Carries k).2.2.1 = some (t_Carries k) := by decide +kernel
def T_NoCarries : u_T := fun k => match k with
  | 0 => ("RangeCoders$Ranged", "low", "J", false)
  | 1 => ("RangeCoders$Ranged", "range", "J", false)
  | 2 => ("RangeCoders$Ranged", "code", "J", false)
  | 3 => ("RangeCoders$Ranged", "readLow", "J", false)
  | 4 => ("RangeCoders$Ranged", "readRange", "J", false)
  | 5 => ("RangeCoders$Coder", "in", "LRangeCoders$Row;", true)
  | 6 => ("RangeCoders$Coder", "out", "LRangeCoders$Row;", false)
  | 7 => ("RangeCoders$Coder", "written", "LRangeCoders$Row;", false)
  | _ => ("RangeCoders$Coder", "asked", "I", false)
def t_NoCarries : Nat → FieldType := fun k => match k with
  | 0 => .long
  | 1 => .long
  | 2 => .long
  | 3 => .long
  | 4 => .long
  | 5 => .object "RangeCoders$Row"
  | 6 => .object "RangeCoders$Row"
  | 7 => .object "RangeCoders$Row"
  | _ => .int
theorem n_NoCarries : ∀ a, a < 9 → ∀ b, b < 9 → a ≠ b → (T_NoCarries a).2.1 ≠ (T_NoCarries b).2.1 := by decide +kernel
theorem o_NoCarries : ∀ k, k < 9 → parseFieldDescriptor (T_NoCarries k).2.2.1 = some (t_NoCarries k) := by decide +kernel
def T_Bits : u_T := fun k => match k with
  | 0 => ("RangeCoders$Bits", "shift", "I", true)
  | 1 => ("RangeCoders$Bits", "keptCode", "J", false)
  | 2 => ("RangeCoders$Bits", "keptRange", "J", false)
  | 3 => ("RangeCoders$Bits", "keptAsked", "I", false)
  | 4 => ("RangeCoders$Carries", "cache", "I", false)
  | 5 => ("RangeCoders$Carries", "pending", "I", false)
  | 6 => ("RangeCoders$Ranged", "low", "J", false)
  | 7 => ("RangeCoders$Ranged", "range", "J", false)
  | 8 => ("RangeCoders$Ranged", "code", "J", false)
  | 9 => ("RangeCoders$Ranged", "readLow", "J", false)
  | 10 => ("RangeCoders$Ranged", "readRange", "J", false)
  | 11 => ("RangeCoders$Coder", "in", "LRangeCoders$Row;", true)
  | 12 => ("RangeCoders$Coder", "out", "LRangeCoders$Row;", false)
  | 13 => ("RangeCoders$Coder", "written", "LRangeCoders$Row;", false)
  | _ => ("RangeCoders$Coder", "asked", "I", false)
def t_Bits : Nat → FieldType := fun k => match k with
  | 0 => .int
  | 1 => .long
  | 2 => .long
  | 3 => .int
  | 4 => .int
  | 5 => .int
  | 6 => .long
  | 7 => .long
  | 8 => .long
  | 9 => .long
  | 10 => .long
  | 11 => .object "RangeCoders$Row"
  | 12 => .object "RangeCoders$Row"
  | 13 => .object "RangeCoders$Row"
  | _ => .int
theorem n_Bits : ∀ a, a < 15 → ∀ b, b < 15 → a ≠ b → (T_Bits a).2.1 ≠ (T_Bits b).2.1 := by decide +kernel
theorem o_Bits : ∀ k, k < 15 → parseFieldDescriptor (T_Bits k).2.2.1 = some (t_Bits k) := by decide +kernel
def T_Stack : u_T := fun k => match k with
  | 0 => ("RangeCoders$Stacked", "x", "J", false)
  | 1 => ("RangeCoders$Stacked", "readX", "J", false)
  | 2 => ("RangeCoders$Stacked", "odds", "[LRangeCoders$Odds;", true)
  | 3 => ("RangeCoders$Stacked", "numbers", "[I", true)
  | 4 => ("RangeCoders$Stacked", "widths", "[I", true)
  | 5 => ("RangeCoders$Stacked", "kept", "I", false)
  | 6 => ("RangeCoders$Coder", "in", "LRangeCoders$Row;", true)
  | 7 => ("RangeCoders$Coder", "out", "LRangeCoders$Row;", false)
  | 8 => ("RangeCoders$Coder", "written", "LRangeCoders$Row;", false)
  | _ => ("RangeCoders$Coder", "asked", "I", false)
def t_Stack : Nat → FieldType := fun k => match k with
  | 0 => .long
  | 1 => .long
  | 2 => .array (.object "RangeCoders$Odds")
  | 3 => .array .int
  | 4 => .array .int
  | 5 => .int
  | 6 => .object "RangeCoders$Row"
  | 7 => .object "RangeCoders$Row"
  | 8 => .object "RangeCoders$Row"
  | _ => .int
theorem n_Stack : ∀ a, a < 10 → ∀ b, b < 10 → a ≠ b → (T_Stack a).2.1 ≠ (T_Stack b).2.1 := by decide +kernel
theorem o_Stack : ∀ k, k < 10 → parseFieldDescriptor (T_Stack k).2.2.1 = some (t_Stack k) := by decide +kernel
def T_Table : u_T := fun k => match k with
  | 0 => ("RangeCoders$Stacked", "x", "J", false)
  | 1 => ("RangeCoders$Stacked", "readX", "J", false)
  | 2 => ("RangeCoders$Stacked", "odds", "[LRangeCoders$Odds;", true)
  | 3 => ("RangeCoders$Stacked", "numbers", "[I", true)
  | 4 => ("RangeCoders$Stacked", "widths", "[I", true)
  | 5 => ("RangeCoders$Stacked", "kept", "I", false)
  | 6 => ("RangeCoders$Coder", "in", "LRangeCoders$Row;", true)
  | 7 => ("RangeCoders$Coder", "out", "LRangeCoders$Row;", false)
  | 8 => ("RangeCoders$Coder", "written", "LRangeCoders$Row;", false)
  | _ => ("RangeCoders$Coder", "asked", "I", false)
def t_Table : Nat → FieldType := fun k => match k with
  | 0 => .long
  | 1 => .long
  | 2 => .array (.object "RangeCoders$Odds")
  | 3 => .array .int
  | 4 => .array .int
  | 5 => .int
  | 6 => .object "RangeCoders$Row"
  | 7 => .object "RangeCoders$Row"
  | 8 => .object "RangeCoders$Row"
  | _ => .int
theorem n_Table : ∀ a, a < 10 → ∀ b, b < 10 → a ≠ b → (T_Table a).2.1 ≠ (T_Table b).2.1 := by decide +kernel
theorem o_Table : ∀ k, k < 10 → parseFieldDescriptor (T_Table k).2.2.1 = some (t_Table k) := by decide +kernel
def T_RC : u_T := fun k => match k with
  | 0 => ("RangeCoders", "coder", "LRangeCoders$Coder;", true)
  | 1 => ("RangeCoders", "models", "[LRangeCoders$Model;", true)
  | 2 => ("RangeCoders", "modelCount", "I", false)
  | 3 => ("RangeCoders", "items", "I", false)
  | 4 => ("RangeCoders", "ended", "Z", false)
  | 5 => ("RangeCoders", "reading", "Z", false)
  | 6 => ("RangeCoders", "bad", "Z", false)
  | _ => ("RangeCoders", "itemsRead", "I", false)
def t_RC : Nat → FieldType := fun k => match k with
  | 0 => .object "RangeCoders$Coder"
  | 1 => .array (.object "RangeCoders$Model")
  | 2 => .int
  | 3 => .int
  | 4 => .boolean
  | 5 => .boolean
  | 6 => .boolean
  | _ => .int
theorem n_RC : ∀ a, a < 8 → ∀ b, b < 8 → a ≠ b → (T_RC a).2.1 ≠ (T_RC b).2.1 := by decide +kernel
theorem o_RC : ∀ k, k < 8 → parseFieldDescriptor (T_RC k).2.2.1 = some (t_RC k) := by decide +kernel
def T_Odds : u_T := fun k => match k with
  | 0 => ("RangeCoders$Odds", "signs", "I", true)
  | 1 => ("RangeCoders$Odds", "sum", "I", false)
  | 2 => ("RangeCoders$Odds", "firstCell", "I", true)
  | 3 => ("RangeCoders$Odds", "cells", "[I", true)
  | _ => ("RangeCoders$Odds", "placeSigns", "[I", true)
def t_Odds : Nat → FieldType := fun k => match k with
  | 0 => .int
  | 1 => .int
  | 2 => .int
  | 3 => .array .int
  | _ => .array .int
theorem n_Odds : ∀ a, a < 5 → ∀ b, b < 5 → a ≠ b → (T_Odds a).2.1 ≠ (T_Odds b).2.1 := by decide +kernel
theorem o_Odds : ∀ k, k < 5 → parseFieldDescriptor (T_Odds k).2.2.1 = some (t_Odds k) := by decide +kernel
def T_Model : u_T := fun k => match k with
  | 0 => ("RangeCoders$Model", "counts", "[I", true)
  | 1 => ("RangeCoders$Model", "sent", "LRangeCoders$Odds;", true)
  | _ => ("RangeCoders$Model", "heard", "LRangeCoders$Odds;", true)
def t_Model : Nat → FieldType := fun k => match k with
  | 0 => .array .int
  | 1 => .object "RangeCoders$Odds"
  | _ => .object "RangeCoders$Odds"
theorem n_Model : ∀ a, a < 3 → ∀ b, b < 3 → a ≠ b → (T_Model a).2.1 ≠ (T_Model b).2.1 := by decide +kernel
theorem o_Model : ∀ k, k < 3 → parseFieldDescriptor (T_Model k).2.2.1 = some (t_Model k) := by decide +kernel
def T_M : u_T := fun k => match k with
  | 0 => ("RangeCodersModel", "form", "I", true)
  | 1 => ("RangeCodersModel", "shift", "I", true)
  | 2 => ("RangeCodersModel", "models", "I", false)
  | 3 => ("RangeCodersModel", "many", "[I", true)
  | 4 => ("RangeCodersModel", "counts", "[I", true)
  | 5 => ("RangeCodersModel", "now", "[I", true)
  | 6 => ("RangeCodersModel", "then", "[I", true)
  | 7 => ("RangeCodersModel", "items", "I", false)
  | 8 => ("RangeCodersModel", "itemModel", "[I", true)
  | 9 => ("RangeCodersModel", "itemWhat", "[I", true)
  | 10 => ("RangeCodersModel", "ended", "Z", false)
  | 11 => ("RangeCodersModel", "low", "J", false)
  | 12 => ("RangeCodersModel", "range", "J", false)
  | 13 => ("RangeCodersModel", "cache", "I", false)
  | 14 => ("RangeCodersModel", "pending", "I", false)
  | 15 => ("RangeCodersModel", "going", "[I", true)
  | 16 => ("RangeCodersModel", "goes", "I", false)
  | 17 => ("RangeCodersModel", "out", "[I", true)
  | 18 => ("RangeCodersModel", "outs", "I", false)
  | 19 => ("RangeCodersModel", "in", "[I", true)
  | 20 => ("RangeCodersModel", "ins", "I", false)
  | 21 => ("RangeCodersModel", "reads", "Z", false)
  | 22 => ("RangeCodersModel", "bad", "Z", false)
  | 23 => ("RangeCodersModel", "itemsRead", "I", false)
  | 24 => ("RangeCodersModel", "asked", "I", false)
  | 25 => ("RangeCodersModel", "bitsAsked", "I", false)
  | 26 => ("RangeCodersModel", "code", "J", false)
  | 27 => ("RangeCodersModel", "readLow", "J", false)
  | 28 => ("RangeCodersModel", "readRange", "J", false)
  | 29 => ("RangeCodersModel", "x", "J", false)
  | 30 => ("RangeCodersModel", "signOf", "[I", true)
  | 31 => ("RangeCodersModel", "numberOf", "[I", true)
  | 32 => ("RangeCodersModel", "written", "[I", true)
  | 33 => ("RangeCodersModel", "writes", "I", false)
  | _ => ("RangeCodersModel", "thrown", "I", false)
def t_M : Nat → FieldType := fun k => match k with
  | 0 => .int
  | 1 => .int
  | 2 => .int
  | 3 => .array .int
  | 4 => .array .int
  | 5 => .array .int
  | 6 => .array .int
  | 7 => .int
  | 8 => .array .int
  | 9 => .array .int
  | 10 => .boolean
  | 11 => .long
  | 12 => .long
  | 13 => .int
  | 14 => .int
  | 15 => .array .int
  | 16 => .int
  | 17 => .array .int
  | 18 => .int
  | 19 => .array .int
  | 20 => .int
  | 21 => .boolean
  | 22 => .boolean
  | 23 => .int
  | 24 => .int
  | 25 => .int
  | 26 => .long
  | 27 => .long
  | 28 => .long
  | 29 => .long
  | 30 => .array .int
  | 31 => .array .int
  | 32 => .array .int
  | 33 => .int
  | _ => .int
theorem n_M : ∀ a, a < 35 → ∀ b, b < 35 → a ≠ b → (T_M a).2.1 ≠ (T_M b).2.1 := by decide +kernel
theorem o_M : ∀ k, k < 35 → parseFieldDescriptor (T_M k).2.2.1 = some (t_M k) := by decide +kernel
abbrev vwCl : List vw_C := [("RangeCoders$Row", T_Row, 2), ("RangeCoders$Carries", T_Carries, 11), ("RangeCoders$NoCarries", T_NoCarries, 9), ("RangeCoders$Bits", T_Bits, 15), ("RangeCoders$Stack", T_Stack, 10), ("RangeCoders$Table", T_Table, 10), ("RangeCoders", T_RC, 8), ("RangeCoders$Odds", T_Odds, 5), ("RangeCoders$Model", T_Model, 3), ("RangeCodersModel", T_M, 35)]
abbrev kT (cI cM cO : ClassId) : List (ClassId × FieldType) := [(cI, .int), (cM, .object "RangeCoders$Model"), (cO, .object "RangeCoders$Odds")]
