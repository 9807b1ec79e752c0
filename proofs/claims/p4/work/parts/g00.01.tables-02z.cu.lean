section
theorem tc_1 {w : Cond} (n : Nat) (h : tables_1_1[n]? = some w) : w ∈ tables_1 := (List.mem_append_left _ (List.mem_of_getElem? h))
theorem tc_2 {w : Cond} (n : Nat) (h : tables_1_2[n]? = some w) : w ∈ tables_1 := (List.mem_append_right _ (List.mem_append_left _ (List.mem_of_getElem? h)))
theorem tc_3 {w : Cond} (n : Nat) (h : tables_1_3[n]? = some w) : w ∈ tables_1 := (List.mem_append_right _ (List.mem_append_right _ (List.mem_append_left _ (List.mem_of_getElem? h))))
theorem tc_4 {w : Cond} (n : Nat) (h : tables_1_4[n]? = some w) : w ∈ tables_1 := (List.mem_append_right _ (List.mem_append_right _ (List.mem_append_right _ (List.mem_append_left _ (List.mem_of_getElem? h)))))
theorem tc_5 {w : Cond} (n : Nat) (h : tables_1_5[n]? = some w) : w ∈ tables_1 := (List.mem_append_right _ (List.mem_append_right _ (List.mem_append_right _ (List.mem_append_right _ (List.mem_append_left _ (List.mem_of_getElem? h))))))
theorem tc_6 {w : Cond} (n : Nat) (h : tables_1_6[n]? = some w) : w ∈ tables_1 := (List.mem_append_right _ (List.mem_append_right _ (List.mem_append_right _ (List.mem_append_right _ (List.mem_append_right _ (List.mem_of_getElem? h))))))
/-! the tables' words: PART A of the skeleton; the good ones among them -/
/-- a private method of a class that the tables say can be made, by its rows of tables_1 -/
def lw_okq (q : MethodName × Nat) : Prop := (q.1.cls ≠ "java/lang/invoke/MethodHandle" ∧ q.1.cls ≠ "java/lang/invoke/VarHandle") ∧ Cond.instantiable q.1.cls q.2 ∈ tables_1 ∧ Cond.privateMethod q.1 ∈ tables_1 ∧ Cond.instanceMethod q.1 ∈ tables_1
theorem lw_p0 : lw_okq (⟨"RangeCoders$Odds", "copyCounts", "([I)V"⟩, 5) := ⟨⟨by decide +kernel, by decide +kernel⟩, tc_2 55 rfl, tc_2 132 rfl, tc_2 133 rfl⟩
theorem lw_p1 : lw_okq (⟨"RangeCoders$Odds", "halve", "()V"⟩, 5) := ⟨⟨by decide +kernel, by decide +kernel⟩, tc_2 55 rfl, tc_2 136 rfl, tc_2 137 rfl⟩
theorem lw_p2 : lw_okq (⟨"RangeCoders$Odds", "greatest", "()I"⟩, 5) := ⟨⟨by decide +kernel, by decide +kernel⟩, tc_2 55 rfl, tc_2 149 rfl, tc_2 150 rfl⟩
theorem lw_p3 : lw_okq (⟨"RangeCoders", "modelAt", "(I)LRangeCoders$Model;"⟩, 8) := ⟨⟨by decide +kernel, by decide +kernel⟩, tc_1 18 rfl, tc_2 173 rfl, tc_2 174 rfl⟩
theorem lw_p4 : lw_okq (⟨"RangeCoders$Bits", "writeBit", "(LRangeCoders$Odds;II)V"⟩, 15) := ⟨⟨by decide +kernel, by decide +kernel⟩, tc_1 171 rfl, tc_2 206 rfl, tc_2 207 rfl⟩
theorem lw_p5 : lw_okq (⟨"RangeCoders$Bits", "adapt", "(LRangeCoders$Odds;II)V"⟩, 15) := ⟨⟨by decide +kernel, by decide +kernel⟩, tc_1 171 rfl, tc_2 211 rfl, tc_2 212 rfl⟩
theorem lw_p6 : lw_okq (⟨"RangeCoders$Carries", "shiftLow", "()V"⟩, 11) := ⟨⟨by decide +kernel, by decide +kernel⟩, tc_1 40 rfl, tc_2 224 rfl, tc_2 225 rfl⟩
theorem lw_p7 : lw_okq (⟨"RangeCoders$Carries", "writeWaiting", "(I)V"⟩, 11) := ⟨⟨by decide +kernel, by decide +kernel⟩, tc_1 40 rfl, tc_2 229 rfl, tc_2 230 rfl⟩
theorem lw_p8 : lw_okq (⟨"RangeCoders$NoCarries", "writeTop", "()V"⟩, 9) := ⟨⟨by decide +kernel, by decide +kernel⟩, tc_1 155 rfl, tc_3 42 rfl, tc_3 43 rfl⟩
theorem lw_p9 : lw_okq (⟨"RangeCoders$Stack", "stackPart", "(II)V"⟩, 10) := ⟨⟨by decide +kernel, by decide +kernel⟩, tc_1 201 rfl, tc_3 136 rfl, tc_3 137 rfl⟩
theorem lw_p10 : lw_okq (⟨"RangeCoders$Stack", "writeLowest", "()V"⟩, 10) := ⟨⟨by decide +kernel, by decide +kernel⟩, tc_1 201 rfl, tc_3 140 rfl, tc_3 141 rfl⟩
theorem lw_p11 : lw_okq (⟨"RangeCoders$Table", "byteOfWritten", "(I)I"⟩, 10) := ⟨⟨by decide +kernel, by decide +kernel⟩, tc_2 2 rfl, tc_3 193 rfl, tc_3 194 rfl⟩
theorem lw_p12 : lw_okq (⟨"RangeCoders$Table", "nextInBit", "()I"⟩, 10) := ⟨⟨by decide +kernel, by decide +kernel⟩, tc_2 2 rfl, tc_4 48 rfl, tc_4 49 rfl⟩
theorem lw_p13 : lw_okq (⟨"RangeCoders$Bits", "keepReading", "()V"⟩, 15) := ⟨⟨by decide +kernel, by decide +kernel⟩, tc_1 171 rfl, tc_4 62 rfl, tc_4 63 rfl⟩
theorem lw_p14 : lw_okq (⟨"RangeCoders$Bits", "nextBit", "(LRangeCoders$Odds;I)I"⟩, 15) := ⟨⟨by decide +kernel, by decide +kernel⟩, tc_1 171 rfl, tc_4 66 rfl, tc_4 67 rfl⟩
theorem lw_p15 : lw_okq (⟨"RangeCoders$Bits", "undone", "()I"⟩, 15) := ⟨⟨by decide +kernel, by decide +kernel⟩, tc_1 171 rfl, tc_4 81 rfl, tc_4 82 rfl⟩
def lw_privs_1 : List (MethodName × Nat) := [(⟨"RangeCoders$Odds", "copyCounts", "([I)V"⟩, 5), (⟨"RangeCoders$Odds", "halve", "()V"⟩, 5), (⟨"RangeCoders$Odds", "greatest", "()I"⟩, 5), (⟨"RangeCoders", "modelAt", "(I)LRangeCoders$Model;"⟩, 8), (⟨"RangeCoders$Bits", "writeBit", "(LRangeCoders$Odds;II)V"⟩, 15), (⟨"RangeCoders$Bits", "adapt", "(LRangeCoders$Odds;II)V"⟩, 15), (⟨"RangeCoders$Carries", "shiftLow", "()V"⟩, 11), (⟨"RangeCoders$Carries", "writeWaiting", "(I)V"⟩, 11), (⟨"RangeCoders$NoCarries", "writeTop", "()V"⟩, 9), (⟨"RangeCoders$Stack", "stackPart", "(II)V"⟩, 10), (⟨"RangeCoders$Stack", "writeLowest", "()V"⟩, 10), (⟨"RangeCoders$Table", "byteOfWritten", "(I)I"⟩, 10), (⟨"RangeCoders$Table", "nextInBit", "()I"⟩, 10), (⟨"RangeCoders$Bits", "keepReading", "()V"⟩, 15), (⟨"RangeCoders$Bits", "nextBit", "(LRangeCoders$Odds;I)I"⟩, 15), (⟨"RangeCoders$Bits", "undone", "()I"⟩, 15)]
theorem lw_r1 : ∀ q ∈ lw_privs_1, lw_okq q := List.forall_mem_cons.mpr ⟨lw_p0, List.forall_mem_cons.mpr ⟨lw_p1, List.forall_mem_cons.mpr ⟨lw_p2, List.forall_mem_cons.mpr ⟨lw_p3, List.forall_mem_cons.mpr ⟨lw_p4, List.forall_mem_cons.mpr ⟨lw_p5, List.forall_mem_cons.mpr ⟨lw_p6, List.forall_mem_cons.mpr ⟨lw_p7, List.forall_mem_cons.mpr ⟨lw_p8, List.forall_mem_cons.mpr ⟨lw_p9, List.forall_mem_cons.mpr ⟨lw_p10, List.forall_mem_cons.mpr ⟨lw_p11, List.forall_mem_cons.mpr ⟨lw_p12, List.forall_mem_cons.mpr ⟨lw_p13, List.forall_mem_cons.mpr ⟨lw_p14, List.forall_mem_cons.mpr ⟨lw_p15, fun _ h => absurd h List.not_mem_nil⟩⟩⟩⟩⟩⟩⟩⟩⟩⟩⟩⟩⟩⟩⟩⟩
theorem lw_p16 : lw_okq (⟨"RangeCoders$Stack", "unstackPart", "(II)V"⟩, 10) := ⟨⟨by decide +kernel, by decide +kernel⟩, tc_1 201 rfl, tc_4 116 rfl, tc_4 117 rfl⟩
theorem lw_p17 : lw_okq (⟨"RangeCoders", "itemOrBad", "(I)I"⟩, 8) := ⟨⟨by decide +kernel, by decide +kernel⟩, tc_1 18 rfl, tc_4 135 rfl, tc_4 136 rfl⟩
theorem lw_p18 : lw_okq (⟨"RangeCodersModel", "start", "()V"⟩, 35) := ⟨⟨by decide +kernel, by decide +kernel⟩, tc_4 198 rfl, tc_4 204 rfl, tc_4 205 rfl⟩
theorem lw_p19 : lw_okq (⟨"RangeCodersModel", "prepare", "([II)V"⟩, 35) := ⟨⟨by decide +kernel, by decide +kernel⟩, tc_4 198 rfl, tc_4 209 rfl, tc_4 210 rfl⟩
theorem lw_p20 : lw_okq (⟨"RangeCodersModel", "lessen", "([II)V"⟩, 35) := ⟨⟨by decide +kernel, by decide +kernel⟩, tc_4 198 rfl, tc_4 213 rfl, tc_4 214 rfl⟩
theorem lw_p21 : lw_okq (⟨"RangeCodersModel", "sum", "([II)I"⟩, 35) := ⟨⟨by decide +kernel, by decide +kernel⟩, tc_4 198 rfl, tc_4 217 rfl, tc_4 218 rfl⟩
theorem lw_p22 : lw_okq (⟨"RangeCodersModel", "halve", "([II)V"⟩, 35) := ⟨⟨by decide +kernel, by decide +kernel⟩, tc_4 198 rfl, tc_4 221 rfl, tc_4 222 rfl⟩
theorem lw_p23 : lw_okq (⟨"RangeCodersModel", "scale", "([III)V"⟩, 35) := ⟨⟨by decide +kernel, by decide +kernel⟩, tc_4 198 rfl, tc_4 225 rfl, tc_4 226 rfl⟩
theorem lw_p24 : lw_okq (⟨"RangeCodersModel", "greatest", "([II)I"⟩, 35) := ⟨⟨by decide +kernel, by decide +kernel⟩, tc_4 198 rfl, tc_4 229 rfl, tc_4 230 rfl⟩
theorem lw_p25 : lw_okq (⟨"RangeCodersModel", "isSign", "(II)Z"⟩, 35) := ⟨⟨by decide +kernel, by decide +kernel⟩, tc_4 198 rfl, tc_5 110 rfl, tc_5 111 rfl⟩
theorem lw_p26 : lw_okq (⟨"RangeCodersModel", "isModel", "(I)Z"⟩, 35) := ⟨⟨by decide +kernel, by decide +kernel⟩, tc_4 198 rfl, tc_5 114 rfl, tc_5 115 rfl⟩
theorem lw_p27 : lw_okq (⟨"RangeCodersModel", "putSign", "(II)V"⟩, 35) := ⟨⟨by decide +kernel, by decide +kernel⟩, tc_4 198 rfl, tc_5 126 rfl, tc_5 127 rfl⟩
theorem lw_p28 : lw_okq (⟨"RangeCodersModel", "before", "([III)I"⟩, 35) := ⟨⟨by decide +kernel, by decide +kernel⟩, tc_4 198 rfl, tc_5 130 rfl, tc_5 131 rfl⟩
theorem lw_p29 : lw_okq (⟨"RangeCodersModel", "narrow", "(III)V"⟩, 35) := ⟨⟨by decide +kernel, by decide +kernel⟩, tc_4 198 rfl, tc_5 134 rfl, tc_5 135 rfl⟩
theorem lw_p30 : lw_okq (⟨"RangeCodersModel", "widen", "()V"⟩, 35) := ⟨⟨by decide +kernel, by decide +kernel⟩, tc_4 198 rfl, tc_5 138 rfl, tc_5 139 rfl⟩
theorem lw_p31 : lw_okq (⟨"RangeCodersModel", "shifted", "()V"⟩, 35) := ⟨⟨by decide +kernel, by decide +kernel⟩, tc_4 198 rfl, tc_5 143 rfl, tc_5 144 rfl⟩
def lw_privs_2 : List (MethodName × Nat) := [(⟨"RangeCoders$Stack", "unstackPart", "(II)V"⟩, 10), (⟨"RangeCoders", "itemOrBad", "(I)I"⟩, 8), (⟨"RangeCodersModel", "start", "()V"⟩, 35), (⟨"RangeCodersModel", "prepare", "([II)V"⟩, 35), (⟨"RangeCodersModel", "lessen", "([II)V"⟩, 35), (⟨"RangeCodersModel", "sum", "([II)I"⟩, 35), (⟨"RangeCodersModel", "halve", "([II)V"⟩, 35), (⟨"RangeCodersModel", "scale", "([III)V"⟩, 35), (⟨"RangeCodersModel", "greatest", "([II)I"⟩, 35), (⟨"RangeCodersModel", "isSign", "(II)Z"⟩, 35), (⟨"RangeCodersModel", "isModel", "(I)Z"⟩, 35), (⟨"RangeCodersModel", "putSign", "(II)V"⟩, 35), (⟨"RangeCodersModel", "before", "([III)I"⟩, 35), (⟨"RangeCodersModel", "narrow", "(III)V"⟩, 35), (⟨"RangeCodersModel", "widen", "()V"⟩, 35), (⟨"RangeCodersModel", "shifted", "()V"⟩, 35)]
theorem lw_r2 : ∀ q ∈ lw_privs_2, lw_okq q := List.forall_mem_cons.mpr ⟨lw_p16, List.forall_mem_cons.mpr ⟨lw_p17, List.forall_mem_cons.mpr ⟨lw_p18, List.forall_mem_cons.mpr ⟨lw_p19, List.forall_mem_cons.mpr ⟨lw_p20, List.forall_mem_cons.mpr ⟨lw_p21, List.forall_mem_cons.mpr ⟨lw_p22, List.forall_mem_cons.mpr ⟨lw_p23, List.forall_mem_cons.mpr ⟨lw_p24, List.forall_mem_cons.mpr ⟨lw_p25, List.forall_mem_cons.mpr ⟨lw_p26, List.forall_mem_cons.mpr ⟨lw_p27, List.forall_mem_cons.mpr ⟨lw_p28, List.forall_mem_cons.mpr ⟨lw_p29, List.forall_mem_cons.mpr ⟨lw_p30, List.forall_mem_cons.mpr ⟨lw_p31, fun _ h => absurd h List.not_mem_nil⟩⟩⟩⟩⟩⟩⟩⟩⟩⟩⟩⟩⟩⟩⟩⟩
theorem lw_p32 : lw_okq (⟨"RangeCodersModel", "write", "(I)V"⟩, 35) := ⟨⟨by decide +kernel, by decide +kernel⟩, tc_4 198 rfl, tc_5 148 rfl, tc_5 149 rfl⟩
theorem lw_p33 : lw_okq (⟨"RangeCodersModel", "widenPlain", "()V"⟩, 35) := ⟨⟨by decide +kernel, by decide +kernel⟩, tc_4 198 rfl, tc_5 154 rfl, tc_5 155 rfl⟩
theorem lw_p34 : lw_okq (⟨"RangeCodersModel", "learn", "([III)V"⟩, 35) := ⟨⟨by decide +kernel, by decide +kernel⟩, tc_4 198 rfl, tc_5 160 rfl, tc_5 161 rfl⟩
theorem lw_p35 : lw_okq (⟨"RangeCodersModel", "levels", "(I)I"⟩, 35) := ⟨⟨by decide +kernel, by decide +kernel⟩, tc_4 198 rfl, tc_5 164 rfl, tc_5 165 rfl⟩
theorem lw_p36 : lw_okq (⟨"RangeCodersModel", "putBit", "(II)V"⟩, 35) := ⟨⟨by decide +kernel, by decide +kernel⟩, tc_4 198 rfl, tc_5 168 rfl, tc_5 169 rfl⟩
theorem lw_p37 : lw_okq (⟨"RangeCodersModel", "moveChance", "([III)V"⟩, 35) := ⟨⟨by decide +kernel, by decide +kernel⟩, tc_4 198 rfl, tc_5 172 rfl, tc_5 173 rfl⟩
theorem lw_p38 : lw_okq (⟨"RangeCodersModel", "addItem", "(II)I"⟩, 35) := ⟨⟨by decide +kernel, by decide +kernel⟩, tc_4 198 rfl, tc_5 176 rfl, tc_5 177 rfl⟩
theorem lw_p39 : lw_okq (⟨"RangeCodersModel", "putValue", "(II)V"⟩, 35) := ⟨⟨by decide +kernel, by decide +kernel⟩, tc_4 198 rfl, tc_5 184 rfl, tc_5 185 rfl⟩
theorem lw_p40 : lw_okq (⟨"RangeCodersModel", "endStack", "()V"⟩, 35) := ⟨⟨by decide +kernel, by decide +kernel⟩, tc_4 198 rfl, tc_5 192 rfl, tc_5 193 rfl⟩
theorem lw_p41 : lw_okq (⟨"RangeCodersModel", "endTable", "()V"⟩, 35) := ⟨⟨by decide +kernel, by decide +kernel⟩, tc_4 198 rfl, tc_5 197 rfl, tc_5 198 rfl⟩
theorem lw_p42 : lw_okq (⟨"RangeCodersModel", "writeBit", "(J)V"⟩, 35) := ⟨⟨by decide +kernel, by decide +kernel⟩, tc_4 198 rfl, tc_5 202 rfl, tc_5 203 rfl⟩
theorem lw_p43 : lw_okq (⟨"RangeCodersModel", "lay", "([II)V"⟩, 35) := ⟨⟨by decide +kernel, by decide +kernel⟩, tc_4 198 rfl, tc_5 206 rfl, tc_5 207 rfl⟩
theorem lw_p44 : lw_okq (⟨"RangeCodersModel", "four", "()J"⟩, 35) := ⟨⟨by decide +kernel, by decide +kernel⟩, tc_4 198 rfl, tc_5 231 rfl, tc_5 232 rfl⟩
theorem lw_p45 : lw_okq (⟨"RangeCodersModel", "next", "()I"⟩, 35) := ⟨⟨by decide +kernel, by decide +kernel⟩, tc_4 198 rfl, tc_5 235 rfl, tc_5 236 rfl⟩
theorem lw_p46 : lw_okq (⟨"RangeCodersModel", "nextBit", "()I"⟩, 35) := ⟨⟨by decide +kernel, by decide +kernel⟩, tc_4 198 rfl, tc_5 239 rfl, tc_6 0 rfl⟩
theorem lw_p47 : lw_okq (⟨"RangeCodersModel", "getRanged", "(I)I"⟩, 35) := ⟨⟨by decide +kernel, by decide +kernel⟩, tc_4 198 rfl, tc_6 7 rfl, tc_6 8 rfl⟩
def lw_privs_3 : List (MethodName × Nat) := [(⟨"RangeCodersModel", "write", "(I)V"⟩, 35), (⟨"RangeCodersModel", "widenPlain", "()V"⟩, 35), (⟨"RangeCodersModel", "learn", "([III)V"⟩, 35), (⟨"RangeCodersModel", "levels", "(I)I"⟩, 35), (⟨"RangeCodersModel", "putBit", "(II)V"⟩, 35), (⟨"RangeCodersModel", "moveChance", "([III)V"⟩, 35), (⟨"RangeCodersModel", "addItem", "(II)I"⟩, 35), (⟨"RangeCodersModel", "putValue", "(II)V"⟩, 35), (⟨"RangeCodersModel", "endStack", "()V"⟩, 35), (⟨"RangeCodersModel", "endTable", "()V"⟩, 35), (⟨"RangeCodersModel", "writeBit", "(J)V"⟩, 35), (⟨"RangeCodersModel", "lay", "([II)V"⟩, 35), (⟨"RangeCodersModel", "four", "()J"⟩, 35), (⟨"RangeCodersModel", "next", "()I"⟩, 35), (⟨"RangeCodersModel", "nextBit", "()I"⟩, 35), (⟨"RangeCodersModel", "getRanged", "(I)I"⟩, 35)]
theorem lw_r3 : ∀ q ∈ lw_privs_3, lw_okq q := List.forall_mem_cons.mpr ⟨lw_p32, List.forall_mem_cons.mpr ⟨lw_p33, List.forall_mem_cons.mpr ⟨lw_p34, List.forall_mem_cons.mpr ⟨lw_p35, List.forall_mem_cons.mpr ⟨lw_p36, List.forall_mem_cons.mpr ⟨lw_p37, List.forall_mem_cons.mpr ⟨lw_p38, List.forall_mem_cons.mpr ⟨lw_p39, List.forall_mem_cons.mpr ⟨lw_p40, List.forall_mem_cons.mpr ⟨lw_p41, List.forall_mem_cons.mpr ⟨lw_p42, List.forall_mem_cons.mpr ⟨lw_p43, List.forall_mem_cons.mpr ⟨lw_p44, List.forall_mem_cons.mpr ⟨lw_p45, List.forall_mem_cons.mpr ⟨lw_p46, List.forall_mem_cons.mpr ⟨lw_p47, fun _ h => absurd h List.not_mem_nil⟩⟩⟩⟩⟩⟩⟩⟩⟩⟩⟩⟩⟩⟩⟩⟩
theorem lw_p48 : lw_okq (⟨"RangeCodersModel", "wanted", "(I)J"⟩, 35) := ⟨⟨by decide +kernel, by decide +kernel⟩, tc_4 198 rfl, tc_6 11 rfl, tc_6 12 rfl⟩
theorem lw_p49 : lw_okq (⟨"RangeCodersModel", "signAt", "(IJ)I"⟩, 35) := ⟨⟨by decide +kernel, by decide +kernel⟩, tc_4 198 rfl, tc_6 16 rfl, tc_6 17 rfl⟩
theorem lw_p50 : lw_okq (⟨"RangeCodersModel", "leave", "(III)V"⟩, 35) := ⟨⟨by decide +kernel, by decide +kernel⟩, tc_4 198 rfl, tc_6 20 rfl, tc_6 21 rfl⟩
theorem lw_p51 : lw_okq (⟨"RangeCodersModel", "widenRead", "()V"⟩, 35) := ⟨⟨by decide +kernel, by decide +kernel⟩, tc_4 198 rfl, tc_6 24 rfl, tc_6 25 rfl⟩
theorem lw_p52 : lw_okq (⟨"RangeCodersModel", "widenReadPlain", "()V"⟩, 35) := ⟨⟨by decide +kernel, by decide +kernel⟩, tc_4 198 rfl, tc_6 28 rfl, tc_6 29 rfl⟩
theorem lw_p53 : lw_okq (⟨"RangeCodersModel", "getNode", "(I)I"⟩, 35) := ⟨⟨by decide +kernel, by decide +kernel⟩, tc_4 198 rfl, tc_6 32 rfl, tc_6 33 rfl⟩
theorem lw_p54 : lw_okq (⟨"RangeCodersModel", "readBit", "(JI)I"⟩, 35) := ⟨⟨by decide +kernel, by decide +kernel⟩, tc_4 198 rfl, tc_6 36 rfl, tc_6 37 rfl⟩
theorem lw_p55 : lw_okq (⟨"RangeCodersModel", "getStacked", "(I)I"⟩, 35) := ⟨⟨by decide +kernel, by decide +kernel⟩, tc_4 198 rfl, tc_6 40 rfl, tc_6 41 rfl⟩
theorem lw_p56 : lw_okq (⟨"RangeCodersModel", "refill", "()V"⟩, 35) := ⟨⟨by decide +kernel, by decide +kernel⟩, tc_4 198 rfl, tc_6 45 rfl, tc_6 46 rfl⟩
theorem lw_p57 : lw_okq (⟨"RangeCodersModel", "getTabled", "(I)I"⟩, 35) := ⟨⟨by decide +kernel, by decide +kernel⟩, tc_4 198 rfl, tc_6 49 rfl, tc_6 50 rfl⟩
theorem lw_p58 : lw_okq (⟨"RangeCodersModel", "spoiled", "()I"⟩, 35) := ⟨⟨by decide +kernel, by decide +kernel⟩, tc_4 198 rfl, tc_6 53 rfl, tc_6 54 rfl⟩
theorem lw_p59 : lw_okq (⟨"RangeCodersModel", "valueOf", "(I)I"⟩, 35) := ⟨⟨by decide +kernel, by decide +kernel⟩, tc_4 198 rfl, tc_6 61 rfl, tc_6 62 rfl⟩
theorem lw_p60 : lw_okq (⟨"RangeCodersModel", "plainBits", "(I)I"⟩, 35) := ⟨⟨by decide +kernel, by decide +kernel⟩, tc_4 198 rfl, tc_6 65 rfl, tc_6 66 rfl⟩
def lw_privs_4 : List (MethodName × Nat) := [(⟨"RangeCodersModel", "wanted", "(I)J"⟩, 35), (⟨"RangeCodersModel", "signAt", "(IJ)I"⟩, 35), (⟨"RangeCodersModel", "leave", "(III)V"⟩, 35), (⟨"RangeCodersModel", "widenRead", "()V"⟩, 35), (⟨"RangeCodersModel", "widenReadPlain", "()V"⟩, 35), (⟨"RangeCodersModel", "getNode", "(I)I"⟩, 35), (⟨"RangeCodersModel", "readBit", "(JI)I"⟩, 35), (⟨"RangeCodersModel", "getStacked", "(I)I"⟩, 35), (⟨"RangeCodersModel", "refill", "()V"⟩, 35), (⟨"RangeCodersModel", "getTabled", "(I)I"⟩, 35), (⟨"RangeCodersModel", "spoiled", "()I"⟩, 35), (⟨"RangeCodersModel", "valueOf", "(I)I"⟩, 35), (⟨"RangeCodersModel", "plainBits", "(I)I"⟩, 35)]
theorem lw_r4 : ∀ q ∈ lw_privs_4, lw_okq q := List.forall_mem_cons.mpr ⟨lw_p48, List.forall_mem_cons.mpr ⟨lw_p49, List.forall_mem_cons.mpr ⟨lw_p50, List.forall_mem_cons.mpr ⟨lw_p51, List.forall_mem_cons.mpr ⟨lw_p52, List.forall_mem_cons.mpr ⟨lw_p53, List.forall_mem_cons.mpr ⟨lw_p54, List.forall_mem_cons.mpr ⟨lw_p55, List.forall_mem_cons.mpr ⟨lw_p56, List.forall_mem_cons.mpr ⟨lw_p57, List.forall_mem_cons.mpr ⟨lw_p58, List.forall_mem_cons.mpr ⟨lw_p59, List.forall_mem_cons.mpr ⟨lw_p60, fun _ h => absurd h List.not_mem_nil⟩⟩⟩⟩⟩⟩⟩⟩⟩⟩⟩⟩⟩
def lw_privs : List (MethodName × Nat) := lw_privs_1 ++ (lw_privs_2 ++ (lw_privs_3 ++ (lw_privs_4)))
def lw_tbl : List Cond := k2_sels lw_privs ++ tables_1
theorem lw_privs_ok : ∀ q ∈ lw_privs, lw_okq q := by
  show ∀ q ∈ lw_privs_1 ++ (lw_privs_2 ++ (lw_privs_3 ++ (lw_privs_4))), lw_okq q
  exact List.forall_mem_append.mpr ⟨lw_r1, List.forall_mem_append.mpr ⟨lw_r2, List.forall_mem_append.mpr ⟨lw_r3, lw_r4⟩⟩⟩
/-- a private method of a class above -/
theorem my_selP {C : String} {y : MethodName} {s : State} {args : Array Value} {n : Nat} (hy : y.cls ≠ "java/lang/invoke/MethodHandle" ∧ y.cls ≠ "java/lang/invoke/VarHandle")
    (hins : (Cond.instantiable C n).before args s = true) (hsame : (Cond.sameMethod y.cls y.cls y.name y.desc).before args s = true) (hpriv : (Cond.privateMethod y).before args s = true) (hinst : (Cond.instanceMethod y).before args s = true) :
    (Cond.selects C y y).before args s = true := by
  obtain ⟨c, k, hc, hk, -, hniab, -, -⟩ := Cond.instantiable_spec hins
  obtain ⟨mk, methM, hnamed, hmethM, -, -⟩ := Cond.instanceMethod_spec hinst
  have hfound : s.methodFound? y.cls y.name y.desc = some mk := State.methodFound?_of_named hnamed hy
  obtain ⟨cn, ck, r1, hcn, hck, hni, hf, hn1⟩ := Cond.sameMethod_found hsame
  have hcls : mk.cls = cn := Option.some.inj ((findClass_of_methodNamed hnamed).symm.trans hcn)
  have hsel : selectMethod {} s.vm c mk = .method mk := selectMethod_private hmethM (Cond.privateMethod_at hpriv mk methM hnamed hmethM)
  have hck2 : s.vm.classes[mk.cls]? = some ck := by rw [hcls]; exact hck
  simp only [Cond.before, Cond.holds, Cond.value, hc, hfound, hnamed, hsel, hck2]
  simp; exact hni
def ex_sel : List Cond := [Cond.selects "RangeCoders$Bits" ⟨"RangeCoders$Carries", "shiftLow", "()V"⟩ ⟨"RangeCoders$Carries", "shiftLow", "()V"⟩, Cond.selects "RangeCoders$Bits" ⟨"RangeCoders$Carries", "writeWaiting", "(I)V"⟩ ⟨"RangeCoders$Carries", "writeWaiting", "(I)V"⟩, Cond.selects "RangeCoders$Stack" ⟨"RangeCoders$Stacked", "keep", "(LRangeCoders$Odds;II)V"⟩ ⟨"RangeCoders$Stacked", "keep", "(LRangeCoders$Odds;II)V"⟩, Cond.selects "RangeCoders$Table" ⟨"RangeCoders$Stacked", "keep", "(LRangeCoders$Odds;II)V"⟩ ⟨"RangeCoders$Stacked", "keep", "(LRangeCoders$Odds;II)V"⟩, Cond.selects "RangeCoders$Carries" ⟨"RangeCoders$Ranged", "nextShare", "(I)I"⟩ ⟨"RangeCoders$Ranged", "nextShare", "(I)I"⟩, Cond.selects "RangeCoders$NoCarries" ⟨"RangeCoders$Ranged", "nextShare", "(I)I"⟩ ⟨"RangeCoders$Ranged", "nextShare", "(I)I"⟩, Cond.selects "RangeCoders$Bits" ⟨"RangeCoders$Ranged", "nextShare", "(I)I"⟩ ⟨"RangeCoders$Ranged", "nextShare", "(I)I"⟩]
/-- all words that a contract may take along -/
def lw_all : List Cond := ex_sel ++ lw_tbl
def gw : List Cond := lw_all.filter goodWord
theorem gw_sel {q : MethodName × Nat} (n : Nat) (h : lw_privs[n]? = some q) : Cond.selects q.1.cls q.1 q.1 ∈ gw := List.mem_filter.mpr ⟨List.mem_append_right _ (List.mem_append_left _ (List.mem_map.mpr ⟨q, List.mem_of_getElem? h, rfl⟩)), rfl⟩
theorem gw_ex {w : Cond} (n : Nat) (h : ex_sel[n]? = some w) (hg : goodWord w = true) : w ∈ gw := List.mem_filter.mpr ⟨List.mem_append_left _ (List.mem_of_getElem? h), hg⟩
theorem gw_all {args : Array Value} {s : State} (hts : ∀ w ∈ lw_tbl, w.before args s = true) : ∀ w ∈ gw, w.before args s = true := by
  intro w hw
  rcases List.mem_append.mp (List.mem_filter.mp hw).1 with h | h
  · revert w
    have tb : ∀ (n : Nat) (w : Cond), tables_1[n]? = some w → w.before args s = true := fun n w h => hts w (List.mem_append_right _ (List.mem_of_getElem? h))
    have key : ∀ w ∈ ex_sel, w.before args s = true := by
      show ∀ w ∈ [Cond.selects "RangeCoders$Bits" ⟨"RangeCoders$Carries", "shiftLow", "()V"⟩ ⟨"RangeCoders$Carries", "shiftLow", "()V"⟩, Cond.selects "RangeCoders$Bits" ⟨"RangeCoders$Carries", "writeWaiting", "(I)V"⟩ ⟨"RangeCoders$Carries", "writeWaiting", "(I)V"⟩, Cond.selects "RangeCoders$Stack" ⟨"RangeCoders$Stacked", "keep", "(LRangeCoders$Odds;II)V"⟩ ⟨"RangeCoders$Stacked", "keep", "(LRangeCoders$Odds;II)V"⟩, Cond.selects "RangeCoders$Table" ⟨"RangeCoders$Stacked", "keep", "(LRangeCoders$Odds;II)V"⟩ ⟨"RangeCoders$Stacked", "keep", "(LRangeCoders$Odds;II)V"⟩, Cond.selects "RangeCoders$Carries" ⟨"RangeCoders$Ranged", "nextShare", "(I)I"⟩ ⟨"RangeCoders$Ranged", "nextShare", "(I)I"⟩, Cond.selects "RangeCoders$NoCarries" ⟨"RangeCoders$Ranged", "nextShare", "(I)I"⟩ ⟨"RangeCoders$Ranged", "nextShare", "(I)I"⟩, Cond.selects "RangeCoders$Bits" ⟨"RangeCoders$Ranged", "nextShare", "(I)I"⟩ ⟨"RangeCoders$Ranged", "nextShare", "(I)I"⟩], w.before args s = true
      exact List.forall_mem_cons.mpr ⟨my_selP (n := 15) (by decide) (hts _ (List.mem_append_right _ (tc_1 171 rfl))) (hts _ (List.mem_append_right _ (tc_6 81 rfl))) (hts _ (List.mem_append_right _ (tc_2 224 rfl))) (hts _ (List.mem_append_right _ (tc_2 225 rfl))), List.forall_mem_cons.mpr ⟨my_selP (n := 15) (by decide) (hts _ (List.mem_append_right _ (tc_1 171 rfl))) (hts _ (List.mem_append_right _ (tc_6 82 rfl))) (hts _ (List.mem_append_right _ (tc_2 229 rfl))) (hts _ (List.mem_append_right _ (tc_2 230 rfl))), List.forall_mem_cons.mpr ⟨my_selP (n := 10) (by decide) (hts _ (List.mem_append_right _ (tc_1 201 rfl))) (hts _ (List.mem_append_right _ (tc_6 86 rfl))) (hts _ (List.mem_append_right _ (tc_3 55 rfl))) (hts _ (List.mem_append_right _ (tc_3 56 rfl))), List.forall_mem_cons.mpr ⟨my_selP (n := 10) (by decide) (hts _ (List.mem_append_right _ (tc_2 2 rfl))) (hts _ (List.mem_append_right _ (tc_6 86 rfl))) (hts _ (List.mem_append_right _ (tc_3 55 rfl))) (hts _ (List.mem_append_right _ (tc_3 56 rfl))), List.forall_mem_cons.mpr ⟨my_selP (n := 11) (by decide) (hts _ (List.mem_append_right _ (tc_1 40 rfl))) (hts _ (List.mem_append_right _ (tc_6 89 rfl))) (hts _ (List.mem_append_right _ (tc_4 88 rfl))) (hts _ (List.mem_append_right _ (tc_4 89 rfl))), List.forall_mem_cons.mpr ⟨my_selP (n := 9) (by decide) (hts _ (List.mem_append_right _ (tc_1 155 rfl))) (hts _ (List.mem_append_right _ (tc_6 89 rfl))) (hts _ (List.mem_append_right _ (tc_4 88 rfl))) (hts _ (List.mem_append_right _ (tc_4 89 rfl))), List.forall_mem_cons.mpr ⟨my_selP (n := 15) (by decide) (hts _ (List.mem_append_right _ (tc_1 171 rfl))) (hts _ (List.mem_append_right _ (tc_6 89 rfl))) (hts _ (List.mem_append_right _ (tc_4 88 rfl))) (hts _ (List.mem_append_right _ (tc_4 89 rfl))), fun _ h => absurd h List.not_mem_nil⟩⟩⟩⟩⟩⟩⟩
    exact fun w _ h => key w h
  · exact hts w h
theorem gw_c1 {w : Cond} (n : Nat) (h : tables_1_1[n]? = some w) (hg : goodWord w = true) : w ∈ gw := List.mem_filter.mpr ⟨List.mem_append_right _ (List.mem_append_right _ (tc_1 n h)), hg⟩
theorem tb_c1 {w : Cond} (n : Nat) (h : tables_1_1[n]? = some w) : w ∈ lw_tbl := List.mem_append_right _ (tc_1 n h)
theorem gw_c2 {w : Cond} (n : Nat) (h : tables_1_2[n]? = some w) (hg : goodWord w = true) : w ∈ gw := List.mem_filter.mpr ⟨List.mem_append_right _ (List.mem_append_right _ (tc_2 n h)), hg⟩
theorem tb_c2 {w : Cond} (n : Nat) (h : tables_1_2[n]? = some w) : w ∈ lw_tbl := List.mem_append_right _ (tc_2 n h)
theorem gw_c3 {w : Cond} (n : Nat) (h : tables_1_3[n]? = some w) (hg : goodWord w = true) : w ∈ gw := List.mem_filter.mpr ⟨List.mem_append_right _ (List.mem_append_right _ (tc_3 n h)), hg⟩
theorem tb_c3 {w : Cond} (n : Nat) (h : tables_1_3[n]? = some w) : w ∈ lw_tbl := List.mem_append_right _ (tc_3 n h)
theorem gw_c4 {w : Cond} (n : Nat) (h : tables_1_4[n]? = some w) (hg : goodWord w = true) : w ∈ gw := List.mem_filter.mpr ⟨List.mem_append_right _ (List.mem_append_right _ (tc_4 n h)), hg⟩
theorem tb_c4 {w : Cond} (n : Nat) (h : tables_1_4[n]? = some w) : w ∈ lw_tbl := List.mem_append_right _ (tc_4 n h)
theorem gw_c5 {w : Cond} (n : Nat) (h : tables_1_5[n]? = some w) (hg : goodWord w = true) : w ∈ gw := List.mem_filter.mpr ⟨List.mem_append_right _ (List.mem_append_right _ (tc_5 n h)), hg⟩
theorem gw_c6 {w : Cond} (n : Nat) (h : tables_1_6[n]? = some w) (hg : goodWord w = true) : w ∈ gw := List.mem_filter.mpr ⟨List.mem_append_right _ (List.mem_append_right _ (tc_6 n h)), hg⟩
theorem tb_of {w : Cond} (n : Nat) (h : tables_1[n]? = some w) : w ∈ lw_tbl := List.mem_append_right _ (List.mem_of_getElem? h)
/-- words that a contract takes along beside its list: they say the same of every later state -/
def nwOk : Cond → Bool
  | .methodLinkNest _ _ _ _ => true
  | .declares _ => true
  | .castable _ _ => true
  | _ => false
def nw (U : State) : Prop := (∀ w ∈ lw_tbl, nwOk w = true → va_Nw w U) ∧ va_AO "RangeCoders$Model" U ∧ va_AO "RangeCoders$Odds" U
theorem nw_one {w : Cond} {s U : State} (hw : nwOk w = true) (hW : s.WarmedH U.vm) (hZ : va_Nw w s) : va_Nw w U := by
  unfold nwOk at hw
  split at hw
  · exact va_Nw.warmM hW hZ
  · exact va_Nw.warmD hW hZ
  · exact va_Nw.warmC hW hZ
  · cases hw
theorem nw_on {w : Cond} (hw : nwOk w = true) : w.onTables = true := by
  unfold nwOk at hw
  split at hw <;> first | rfl | cases hw
theorem nw.warm {s U : State} (hW : s.WarmedH U.vm) (h : nw s) : nw U := ⟨fun w hw ho => nw_one ho hW (h.1 w hw ho), h.2.1.moved hW.alike, h.2.2.moved hW.alike⟩
theorem nw.same {s U : State} (e : s.vm = U.vm) (h : nw s) : nw U := ⟨fun w hw ho => va_Nw.same (nw_on ho) e (h.1 w hw ho), h.2.1.moved (e ▸ Vm.Alike.refl _), h.2.2.moved (e ▸ Vm.Alike.refl _)⟩
theorem nw.of {s : State} {args : Array Value} (hts : ∀ w ∈ lw_tbl, w.before args s = true) : nw s := ⟨fun w hw ho => va_Nw.of (nw_on ho) (hts w hw), va_AO.of (hts _ (tb_of 26 (by decide +kernel))), va_AO.of (hts _ (tb_of 210 (by decide +kernel)))⟩
theorem gw_good : GoodIn gw gw := fun w h => ⟨h, good_of_word (List.mem_filter.mp h).2⟩
/-! names of methods, classes and fields -/
def y_RC_init : MethodName := ⟨"RangeCoders", "<init>", "(II)V"⟩
def y_Object_init : MethodName := ⟨"java/lang/Object", "<init>", "()V"⟩
def y_RC_nearest : MethodName := ⟨"RangeCoders", "nearest", "(III)I"⟩
def y_Math_min : MethodName := ⟨"java/lang/Math", "min", "(II)I"⟩
def y_Math_max : MethodName := ⟨"java/lang/Math", "max", "(II)I"⟩
def y_RC_coderOf : MethodName := ⟨"RangeCoders", "coderOf", "(II)LRangeCoders$Coder;"⟩
def y_Carries_init : MethodName := ⟨"RangeCoders$Carries", "<init>", "()V"⟩
def y_Ranged_init : MethodName := ⟨"RangeCoders$Ranged", "<init>", "()V"⟩
def y_Coder_init : MethodName := ⟨"RangeCoders$Coder", "<init>", "()V"⟩
def y_Row_init : MethodName := ⟨"RangeCoders$Row", "<init>", "()V"⟩
def y_NoCarries_init : MethodName := ⟨"RangeCoders$NoCarries", "<init>", "()V"⟩
def y_Bits_init : MethodName := ⟨"RangeCoders$Bits", "<init>", "(I)V"⟩
def y_Stack_init : MethodName := ⟨"RangeCoders$Stack", "<init>", "()V"⟩
def y_Stacked_init : MethodName := ⟨"RangeCoders$Stacked", "<init>", "()V"⟩
def y_Table_init : MethodName := ⟨"RangeCoders$Table", "<init>", "()V"⟩
def y_RC_model : MethodName := ⟨"RangeCoders", "model", "(I)I"⟩
def y_Bits_newOdds : MethodName := ⟨"RangeCoders$Bits", "newOdds", "(I)LRangeCoders$Odds;"⟩
def y_Bits_levelsOf : MethodName := ⟨"RangeCoders$Bits", "levelsOf", "(I)I"⟩
def y_Odds_init : MethodName := ⟨"RangeCoders$Odds", "<init>", "(IIII)V"⟩
def y_Table_newOdds : MethodName := ⟨"RangeCoders$Table", "newOdds", "(I)LRangeCoders$Odds;"⟩
def y_Coder_newOdds : MethodName := ⟨"RangeCoders$Coder", "newOdds", "(I)LRangeCoders$Odds;"⟩
def y_Model_init : MethodName := ⟨"RangeCoders$Model", "<init>", "(ILRangeCoders$Odds;LRangeCoders$Odds;)V"⟩
def y_Arrays_fill : MethodName := ⟨"java/util/Arrays", "fill", "([II)V"⟩
def y_Bits_prepare : MethodName := ⟨"RangeCoders$Bits", "prepare", "(LRangeCoders$Odds;[I)V"⟩
def y_Odds_fill : MethodName := ⟨"RangeCoders$Odds", "fill", "(I)V"⟩
def y_Ranged_prepare : MethodName := ⟨"RangeCoders$Ranged", "prepare", "(LRangeCoders$Odds;[I)V"⟩
def y_Odds_fromCounts : MethodName := ⟨"RangeCoders$Odds", "fromCounts", "([I)V"⟩
def y_Odds_copyCounts : MethodName := ⟨"RangeCoders$Odds", "copyCounts", "([I)V"⟩
def y_Odds_halve : MethodName := ⟨"RangeCoders$Odds", "halve", "()V"⟩
def y_Stack_prepare : MethodName := ⟨"RangeCoders$Stack", "prepare", "(LRangeCoders$Odds;[I)V"⟩
def y_Odds_scaleTo : MethodName := ⟨"RangeCoders$Odds", "scaleTo", "(I[I)V"⟩
def y_Odds_greatest : MethodName := ⟨"RangeCoders$Odds", "greatest", "()I"⟩
def y_Odds_grow : MethodName := ⟨"RangeCoders$Odds", "grow", "(II)V"⟩
def y_Odds_hasCell : MethodName := ⟨"RangeCoders$Odds", "hasCell", "(I)Z"⟩
def y_Table_prepare : MethodName := ⟨"RangeCoders$Table", "prepare", "(LRangeCoders$Odds;[I)V"⟩
def y_Odds_spread : MethodName := ⟨"RangeCoders$Odds", "spread", "()V"⟩
def y_RC_count : MethodName := ⟨"RangeCoders", "count", "(III)I"⟩
def y_RC_modelAt : MethodName := ⟨"RangeCoders", "modelAt", "(I)LRangeCoders$Model;"⟩
def y_Model_hasSign : MethodName := ⟨"RangeCoders$Model", "hasSign", "(I)Z"⟩
def y_RC_put : MethodName := ⟨"RangeCoders", "put", "(II)I"⟩
def y_Bits_canWrite : MethodName := ⟨"RangeCoders$Bits", "canWrite", "(LRangeCoders$Odds;I)Z"⟩
def y_Coder_canWrite : MethodName := ⟨"RangeCoders$Coder", "canWrite", "(LRangeCoders$Odds;I)Z"⟩
def y_Odds_at : MethodName := ⟨"RangeCoders$Odds", "at", "(I)I"⟩
def y_Bits_writeSign : MethodName := ⟨"RangeCoders$Bits", "writeSign", "(LRangeCoders$Odds;I)V"⟩
def y_Bits_writeBit : MethodName := ⟨"RangeCoders$Bits", "writeBit", "(LRangeCoders$Odds;II)V"⟩
def y_Bits_adapt : MethodName := ⟨"RangeCoders$Bits", "adapt", "(LRangeCoders$Odds;II)V"⟩
def y_Carries_widen : MethodName := ⟨"RangeCoders$Carries", "widen", "()V"⟩
def y_Carries_shiftLow : MethodName := ⟨"RangeCoders$Carries", "shiftLow", "()V"⟩
def y_Carries_writeWaiting : MethodName := ⟨"RangeCoders$Carries", "writeWaiting", "(I)V"⟩
def y_Row_add : MethodName := ⟨"RangeCoders$Row", "add", "(I)V"⟩
def y_Arrays_copyOf : MethodName := ⟨"java/util/Arrays", "copyOf", "([II)[I"⟩
def y_Ranged_writeSign : MethodName := ⟨"RangeCoders$Ranged", "writeSign", "(LRangeCoders$Odds;I)V"⟩
def y_Odds_below : MethodName := ⟨"RangeCoders$Odds", "below", "(I)I"⟩
def y_Carries_writePart : MethodName := ⟨"RangeCoders$Carries", "writePart", "(III)V"⟩
def y_NoCarries_writePart : MethodName := ⟨"RangeCoders$NoCarries", "writePart", "(III)V"⟩
def y_NoCarries_mustMove : MethodName := ⟨"RangeCoders$NoCarries", "mustMove", "(JJ)Z"⟩
def y_NoCarries_sameTop : MethodName := ⟨"RangeCoders$NoCarries", "sameTop", "(JJ)Z"⟩
def y_NoCarries_moved : MethodName := ⟨"RangeCoders$NoCarries", "moved", "(JJ)J"⟩
def y_NoCarries_writeTop : MethodName := ⟨"RangeCoders$NoCarries", "writeTop", "()V"⟩
def y_Odds_learn : MethodName := ⟨"RangeCoders$Odds", "learn", "(I)V"⟩
def y_Stacked_writeSign : MethodName := ⟨"RangeCoders$Stacked", "writeSign", "(LRangeCoders$Odds;I)V"⟩
def y_Stacked_keep : MethodName := ⟨"RangeCoders$Stacked", "keep", "(LRangeCoders$Odds;II)V"⟩
def y_RC_bits : MethodName := ⟨"RangeCoders", "bits", "(II)I"⟩
def y_Table_hasWidth : MethodName := ⟨"RangeCoders$Table", "hasWidth", "(I)Z"⟩
def y_Coder_hasWidth : MethodName := ⟨"RangeCoders$Coder", "hasWidth", "(I)Z"⟩
def y_Bits_writeValue : MethodName := ⟨"RangeCoders$Bits", "writeValue", "(II)V"⟩
def y_Ranged_writeValue : MethodName := ⟨"RangeCoders$Ranged", "writeValue", "(II)V"⟩
def y_Stacked_writeValue : MethodName := ⟨"RangeCoders$Stacked", "writeValue", "(II)V"⟩
def y_RC_end : MethodName := ⟨"RangeCoders", "end", "()I"⟩
def y_Ranged_closeMessage : MethodName := ⟨"RangeCoders$Ranged", "closeMessage", "()V"⟩
def y_Carries_flush : MethodName := ⟨"RangeCoders$Carries", "flush", "()V"⟩
def y_NoCarries_flush : MethodName := ⟨"RangeCoders$NoCarries", "flush", "()V"⟩
def y_Stacked_closeMessage : MethodName := ⟨"RangeCoders$Stacked", "closeMessage", "()V"⟩
def y_Row_clear : MethodName := ⟨"RangeCoders$Row", "clear", "()V"⟩
def y_Stack_openStack : MethodName := ⟨"RangeCoders$Stack", "openStack", "()V"⟩
def y_Table_openStack : MethodName := ⟨"RangeCoders$Table", "openStack", "()V"⟩
def y_Stack_stackValue : MethodName := ⟨"RangeCoders$Stack", "stackValue", "(II)V"⟩
def y_Stack_stackPart : MethodName := ⟨"RangeCoders$Stack", "stackPart", "(II)V"⟩
def y_Stack_writeLowest : MethodName := ⟨"RangeCoders$Stack", "writeLowest", "()V"⟩
def y_Table_stackValue : MethodName := ⟨"RangeCoders$Table", "stackValue", "(II)V"⟩
def y_Stack_stackSign : MethodName := ⟨"RangeCoders$Stack", "stackSign", "(LRangeCoders$Odds;I)V"⟩
def y_Table_stackSign : MethodName := ⟨"RangeCoders$Table", "stackSign", "(LRangeCoders$Odds;I)V"⟩
def y_Odds_placeOf : MethodName := ⟨"RangeCoders$Odds", "placeOf", "(II)I"⟩
def y_Stack_closeStack : MethodName := ⟨"RangeCoders$Stack", "closeStack", "()V"⟩
def y_Row_becomeReverseOf : MethodName := ⟨"RangeCoders$Row", "becomeReverseOf", "(LRangeCoders$Row;)V"⟩
def y_Row_at : MethodName := ⟨"RangeCoders$Row", "at", "(I)I"⟩
def y_Row_has : MethodName := ⟨"RangeCoders$Row", "has", "(I)Z"⟩
def y_Table_closeStack : MethodName := ⟨"RangeCoders$Table", "closeStack", "()V"⟩
def y_Table_byteOfWritten : MethodName := ⟨"RangeCoders$Table", "byteOfWritten", "(I)I"⟩
def y_RC_begin : MethodName := ⟨"RangeCoders", "begin", "()I"⟩
def y_Carries_openMessage : MethodName := ⟨"RangeCoders$Carries", "openMessage", "()V"⟩
def y_Ranged_openMessage : MethodName := ⟨"RangeCoders$Ranged", "openMessage", "()V"⟩
def y_Stacked_openMessage : MethodName := ⟨"RangeCoders$Stacked", "openMessage", "()V"⟩
def y_RC_out : MethodName := ⟨"RangeCoders", "out", "(I)I"⟩
def y_RC_octets : MethodName := ⟨"RangeCoders", "octets", "(I)I"⟩
def y_RC_take : MethodName := ⟨"RangeCoders", "take", "(I)I"⟩
def y_RC_spoil : MethodName := ⟨"RangeCoders", "spoil", "(II)I"⟩
def y_Row_set : MethodName := ⟨"RangeCoders$Row", "set", "(II)V"⟩
def y_RC_read : MethodName := ⟨"RangeCoders", "read", "()I"⟩
def y_Ranged_openReading : MethodName := ⟨"RangeCoders$Ranged", "openReading", "()Z"⟩
def y_Coder_firstFourBytes : MethodName := ⟨"RangeCoders$Coder", "firstFourBytes", "()J"⟩
def y_Coder_nextByte : MethodName := ⟨"RangeCoders$Coder", "nextByte", "()I"⟩
def y_Stack_openReading : MethodName := ⟨"RangeCoders$Stack", "openReading", "()Z"⟩
def y_Table_openReading : MethodName := ⟨"RangeCoders$Table", "openReading", "()Z"⟩
def y_Table_nextValue : MethodName := ⟨"RangeCoders$Table", "nextValue", "(I)I"⟩
def y_Table_nextInBit : MethodName := ⟨"RangeCoders$Table", "nextInBit", "()I"⟩
def y_RC_get : MethodName := ⟨"RangeCoders", "get", "(I)I"⟩
def y_Bits_nextSign : MethodName := ⟨"RangeCoders$Bits", "nextSign", "(LRangeCoders$Odds;)I"⟩
def y_Bits_keepReading : MethodName := ⟨"RangeCoders$Bits", "keepReading", "()V"⟩
def y_Bits_nextBit : MethodName := ⟨"RangeCoders$Bits", "nextBit", "(LRangeCoders$Odds;I)I"⟩
def y_Carries_widenReading : MethodName := ⟨"RangeCoders$Carries", "widenReading", "()V"⟩
def y_Bits_undone : MethodName := ⟨"RangeCoders$Bits", "undone", "()I"⟩
def y_Ranged_nextSign : MethodName := ⟨"RangeCoders$Ranged", "nextSign", "(LRangeCoders$Odds;)I"⟩
def y_Ranged_nextShare : MethodName := ⟨"RangeCoders$Ranged", "nextShare", "(I)I"⟩
def y_Odds_signAt : MethodName := ⟨"RangeCoders$Odds", "signAt", "(I)I"⟩
def y_Carries_readPart : MethodName := ⟨"RangeCoders$Carries", "readPart", "(III)V"⟩
def y_NoCarries_readPart : MethodName := ⟨"RangeCoders$NoCarries", "readPart", "(III)V"⟩
def y_Stack_nextSign : MethodName := ⟨"RangeCoders$Stack", "nextSign", "(LRangeCoders$Odds;)I"⟩
def y_Stack_unstackPart : MethodName := ⟨"RangeCoders$Stack", "unstackPart", "(II)V"⟩
def y_Table_nextSign : MethodName := ⟨"RangeCoders$Table", "nextSign", "(LRangeCoders$Odds;)I"⟩
def y_Odds_signOfPlace : MethodName := ⟨"RangeCoders$Odds", "signOfPlace", "(I)I"⟩
def y_Odds_numberOfPlace : MethodName := ⟨"RangeCoders$Odds", "numberOfPlace", "(I)I"⟩
def y_RC_itemOrBad : MethodName := ⟨"RangeCoders", "itemOrBad", "(I)I"⟩
def y_RC_getBits : MethodName := ⟨"RangeCoders", "getBits", "(I)I"⟩
def y_Bits_nextValue : MethodName := ⟨"RangeCoders$Bits", "nextValue", "(I)I"⟩
def y_Ranged_nextValue : MethodName := ⟨"RangeCoders$Ranged", "nextValue", "(I)I"⟩
def y_Stack_nextValue : MethodName := ⟨"RangeCoders$Stack", "nextValue", "(I)I"⟩
def y_RC_told : MethodName := ⟨"RangeCoders", "told", "(I)I"⟩
def y_Table_bytesAsked : MethodName := ⟨"RangeCoders$Table", "bytesAsked", "()I"⟩
def y_Coder_bytesAsked : MethodName := ⟨"RangeCoders$Coder", "bytesAsked", "()I"⟩
def y_RC_state : MethodName := ⟨"RangeCoders", "state", "(I)J"⟩
def y_Ranged_register : MethodName := ⟨"RangeCoders$Ranged", "register", "(I)J"⟩
def y_Stacked_register : MethodName := ⟨"RangeCoders$Stacked", "register", "(I)J"⟩
def y_RC_chance : MethodName := ⟨"RangeCoders", "chance", "(II)I"⟩
def y_Law_cell : MethodName := ⟨"RangeCodersLaw", "cell", "([II)I"⟩
def y_M_init : MethodName := ⟨"RangeCodersModel", "<init>", "(II)V"⟩
def y_M_start : MethodName := ⟨"RangeCodersModel", "start", "()V"⟩
def y_M_prepare : MethodName := ⟨"RangeCodersModel", "prepare", "([II)V"⟩
def y_M_lessen : MethodName := ⟨"RangeCodersModel", "lessen", "([II)V"⟩
def y_M_sum : MethodName := ⟨"RangeCodersModel", "sum", "([II)I"⟩
def y_M_halve : MethodName := ⟨"RangeCodersModel", "halve", "([II)V"⟩
def y_M_scale : MethodName := ⟨"RangeCodersModel", "scale", "([III)V"⟩
def y_M_greatest : MethodName := ⟨"RangeCodersModel", "greatest", "([II)I"⟩
def y_M_model : MethodName := ⟨"RangeCodersModel", "model", "(I)I"⟩
def y_M_in : MethodName := ⟨"RangeCodersModel", "in", "(III)Z"⟩
def y_M_count : MethodName := ⟨"RangeCodersModel", "count", "(III)I"⟩
def y_M_isSign : MethodName := ⟨"RangeCodersModel", "isSign", "(II)Z"⟩
def y_M_isModel : MethodName := ⟨"RangeCodersModel", "isModel", "(I)Z"⟩
def y_M_begin : MethodName := ⟨"RangeCodersModel", "begin", "()I"⟩
def y_M_put : MethodName := ⟨"RangeCodersModel", "put", "(II)I"⟩
def y_M_putSign : MethodName := ⟨"RangeCodersModel", "putSign", "(II)V"⟩
def y_M_before : MethodName := ⟨"RangeCodersModel", "before", "([III)I"⟩
def y_M_narrow : MethodName := ⟨"RangeCodersModel", "narrow", "(III)V"⟩
def y_M_widen : MethodName := ⟨"RangeCodersModel", "widen", "()V"⟩
def y_M_shifted : MethodName := ⟨"RangeCodersModel", "shifted", "()V"⟩
def y_M_write : MethodName := ⟨"RangeCodersModel", "write", "(I)V"⟩
def y_M_widenPlain : MethodName := ⟨"RangeCodersModel", "widenPlain", "()V"⟩
def y_M_learn : MethodName := ⟨"RangeCodersModel", "learn", "([III)V"⟩
def y_M_levels : MethodName := ⟨"RangeCodersModel", "levels", "(I)I"⟩
def y_M_putBit : MethodName := ⟨"RangeCodersModel", "putBit", "(II)V"⟩
def y_M_moveChance : MethodName := ⟨"RangeCodersModel", "moveChance", "([III)V"⟩
def y_M_addItem : MethodName := ⟨"RangeCodersModel", "addItem", "(II)I"⟩
def y_M_bits : MethodName := ⟨"RangeCodersModel", "bits", "(II)I"⟩
def y_M_putValue : MethodName := ⟨"RangeCodersModel", "putValue", "(II)V"⟩
def y_M_end : MethodName := ⟨"RangeCodersModel", "end", "()I"⟩
def y_M_endStack : MethodName := ⟨"RangeCodersModel", "endStack", "()V"⟩
def y_M_endTable : MethodName := ⟨"RangeCodersModel", "endTable", "()V"⟩
def y_M_writeBit : MethodName := ⟨"RangeCodersModel", "writeBit", "(J)V"⟩
def y_M_lay : MethodName := ⟨"RangeCodersModel", "lay", "([II)V"⟩
def y_M_out : MethodName := ⟨"RangeCodersModel", "out", "(I)I"⟩
def y_M_octets : MethodName := ⟨"RangeCodersModel", "octets", "(I)I"⟩
def y_M_take : MethodName := ⟨"RangeCodersModel", "take", "(I)I"⟩
def y_M_spoil : MethodName := ⟨"RangeCodersModel", "spoil", "(II)I"⟩
def y_M_read : MethodName := ⟨"RangeCodersModel", "read", "()I"⟩
def y_M_four : MethodName := ⟨"RangeCodersModel", "four", "()J"⟩
def y_M_next : MethodName := ⟨"RangeCodersModel", "next", "()I"⟩
def y_M_nextBit : MethodName := ⟨"RangeCodersModel", "nextBit", "()I"⟩
def y_M_get : MethodName := ⟨"RangeCodersModel", "get", "(I)I"⟩
def y_M_getRanged : MethodName := ⟨"RangeCodersModel", "getRanged", "(I)I"⟩
def y_M_wanted : MethodName := ⟨"RangeCodersModel", "wanted", "(I)J"⟩
def y_M_signAt : MethodName := ⟨"RangeCodersModel", "signAt", "(IJ)I"⟩
def y_M_leave : MethodName := ⟨"RangeCodersModel", "leave", "(III)V"⟩
def y_M_widenRead : MethodName := ⟨"RangeCodersModel", "widenRead", "()V"⟩
def y_M_widenReadPlain : MethodName := ⟨"RangeCodersModel", "widenReadPlain", "()V"⟩
def y_M_getNode : MethodName := ⟨"RangeCodersModel", "getNode", "(I)I"⟩
def y_M_readBit : MethodName := ⟨"RangeCodersModel", "readBit", "(JI)I"⟩
def y_M_getStacked : MethodName := ⟨"RangeCodersModel", "getStacked", "(I)I"⟩
def y_M_refill : MethodName := ⟨"RangeCodersModel", "refill", "()V"⟩
def y_M_getTabled : MethodName := ⟨"RangeCodersModel", "getTabled", "(I)I"⟩
def y_M_spoiled : MethodName := ⟨"RangeCodersModel", "spoiled", "()I"⟩
def y_M_getBits : MethodName := ⟨"RangeCodersModel", "getBits", "(I)I"⟩
def y_M_valueOf : MethodName := ⟨"RangeCodersModel", "valueOf", "(I)I"⟩
def y_M_plainBits : MethodName := ⟨"RangeCodersModel", "plainBits", "(I)I"⟩
def y_M_told : MethodName := ⟨"RangeCodersModel", "told", "(I)I"⟩
def y_M_state : MethodName := ⟨"RangeCodersModel", "state", "(I)J"⟩
def y_M_chance : MethodName := ⟨"RangeCodersModel", "chance", "(II)I"⟩
def T_Row : u_T := fun k => match k with
  | 0 => ("RangeCoders$Row", "size", "I", false)
  | _ => ("RangeCoders$Row", "cells", "[I", false)
def t_Row : Nat → FieldType := fun k => match k with
  | 0 => .int
  | _ => .array .int
theorem n_Row : ∀ a, a < 2 → ∀ b, b < 2 → a ≠ b → (T_Row a).2.1 ≠ (T_Row b).2.1 := by decide +kernel
theorem o_Row : ∀ k, k < 2 → parseFieldDescriptor (T_Row k).2.2.1 = some (t_Row k) := by decide +kernel
def T_Carries : u_T := fun k => match k with
  | 0 => ("RangeCoders$Carries", "cache", "I", false)
  | 1 => ("RangeCoders$Carries", "pending", "I", false)
  | 2 => ("RangeCoders$Ranged", "low", "J", false)
  | 3 => ("RangeCoders$Ranged", "range", "J", false)
  | 4 => ("RangeCoders$Ranged", "code", "J", false)
  | 5 => ("RangeCoders$Ranged", "readLow", "J", false)
  | 6 => ("RangeCoders$Ranged", "readRange", "J", false)
  | 7 => ("RangeCoders$Coder", "in", "LRangeCoders$Row;", true)
  | 8 => ("RangeCoders$Coder", "out", "LRangeCoders$Row;", false)
  | 9 => ("RangeCoders$Coder", "written", "LRangeCoders$Row;", false)
  | _ => ("RangeCoders$Coder", "asked", "I", false)
def t_Carries : Nat → FieldType := fun k => match k with
  | 0 => .int
  | 1 => .int
  | 2 => .long
  | 3 => .long
  | 4 => .long
  | 5 => .long
  | 6 => .long
  | 7 => .object "RangeCoders$Row"
  | 8 => .object "RangeCoders$Row"
  | 9 => .object "RangeCoders$Row"
  | _ => .int
theorem n_Carries : ∀ a, a < 11 → ∀ b, b < 11 → a ≠ b → (T_Carries a).2.1 ≠ (T_Carries b).2.1 := by decide +kernel
theorem o_Carries : ∀ k, k < 11 → parseFieldDescriptor (T_Carries k).2.2.1 = some (t_Carries k) := by decide +kernel
def T_NoCarries : u_T := fun k => match k with
  | 0 => ("RangeCoders$Ranged", "low", "J", false)
  | 1 => ("RangeCoders$Ranged", "range", "J", false)
  | 2 => ("RangeCoders$Ranged", "code", "J", false)
  | 3 => ("RangeCoders$Ranged", "readLow", "J", false)
  | 4 => ("RangeCoders$Ranged", "readRange", "J", false)
  | 5 => ("RangeCoders$Coder", "in", "LRangeCoders$Row;", true)
  | 6 => ("RangeCoders$Coder", "out", "LRangeCoders$Row;", false)
  | 7 => ("RangeCoders$Coder", "written", "LRangeCoders$Row;", false)
  | _ => ("RangeCoders$Coder", "asked", "I", false)
def t_NoCarries : Nat → FieldType := fun k => match k with
  | 0 => .long
  | 1 => .long
  | 2 => .long
  | 3 => .long
  | 4 => .long
  | 5 => .object "RangeCoders$Row"
  | 6 => .object "RangeCoders$Row"
  | 7 => .object "RangeCoders$Row"
  | _ => .int
theorem n_NoCarries : ∀ a, a < 9 → ∀ b, b < 9 → a ≠ b → (T_NoCarries a).2.1 ≠ (T_NoCarries b).2.1 := by decide +kernel
theorem o_NoCarries : ∀ k, k < 9 → parseFieldDescriptor (T_NoCarries k).2.2.1 = some (t_NoCarries k) := by decide +kernel
def T_Bits : u_T := fun k => match k with
  | 0 => ("RangeCoders$Bits", "shift", "I", true)
  | 1 => ("RangeCoders$Bits", "keptCode", "J", false)
  | 2 => ("RangeCoders$Bits", "keptRange", "J", false)
  | 3 => ("RangeCoders$Bits", "keptAsked", "I", false)
  | 4 => ("RangeCoders$Carries", "cache", "I", false)
  | 5 => ("RangeCoders$Carries", "pending", "I", false)
  | 6 => ("RangeCoders$Ranged", "low", "J", false)
  | 7 => ("RangeCoders$Ranged", "range", "J", false)
  | 8 => ("RangeCoders$Ranged", "code", "J", false)
  | 9 => ("RangeCoders$Ranged", "readLow", "J", false)
  | 10 => ("RangeCoders$Ranged", "readRange", "J", false)
  | 11 => ("RangeCoders$Coder", "in", "LRangeCoders$Row;", true)
  | 12 => ("RangeCoders$Coder", "out", "LRangeCoders$Row;", false)
  | 13 => ("RangeCoders$Coder", "written", "LRangeCoders$Row;", false)
  | _ => ("RangeCoders$Coder", "asked", "I", false)
def t_Bits : Nat → FieldType := fun k => match k with
  | 0 => .int
  | 1 => .long
  | 2 => .long
  | 3 => .int
  | 4 => .int
  | 5 => .int
  | 6 => .long
  | 7 => .long
  | 8 => .long
  | 9 => .long
  | 10 => .long
  | 11 => .object "RangeCoders$Row"
  | 12 => .object "RangeCoders$Row"
  | 13 => .object "RangeCoders$Row"
  | _ => .int
theorem n_Bits : ∀ a, a < 15 → ∀ b, b < 15 → a ≠ b → (T_Bits a).2.1 ≠ (T_Bits b).2.1 := by decide +kernel
theorem o_Bits : ∀ k, k < 15 → parseFieldDescriptor (T_Bits k).2.2.1 = some (t_Bits k) := by decide +kernel
def T_Stack : u_T := fun k => match k with
  | 0 => ("RangeCoders$Stacked", "x", "J", false)
  | 1 => ("RangeCoders$Stacked", "readX", "J", false)
  | 2 => ("RangeCoders$Stacked", "odds", "[LRangeCoders$Odds;", true)
  | 3 => ("RangeCoders$Stacked", "numbers", "[I", true)
  | 4 => ("RangeCoders$Stacked", "widths", "[I", true)
  | 5 => ("RangeCoders$Stacked", "kept", "I", false)
  | 6 => ("RangeCoders$Coder", "in", "LRangeCoders$Row;", true)
  | 7 => ("RangeCoders$Coder", "out", "LRangeCoders$Row;", false)
  | 8 => ("RangeCoders$Coder", "written", "LRangeCoders$Row;", false)
  | _ => ("RangeCoders$Coder", "asked", "I", false)
def t_Stack : Nat → FieldType := fun k => match k with
  | 0 => .long
  | 1 => .long
  | 2 => .array (.object "RangeCoders$Odds")
  | 3 => .array .int
  | 4 => .array .int
  | 5 => .int
  | 6 => .object "RangeCoders$Row"
  | 7 => .object "RangeCoders$Row"
  | 8 => .object "RangeCoders$Row"
  | _ => .int
theorem n_Stack : ∀ a, a < 10 → ∀ b, b < 10 → a ≠ b → (T_Stack a).2.1 ≠ (T_Stack b).2.1 := by decide +kernel
theorem o_Stack : ∀ k, k < 10 → parseFieldDescriptor (T_Stack k).2.2.1 = some (t_Stack k) := by decide +kernel
def T_Table : u_T := fun k => match k with
  | 0 => ("RangeCoders$Stacked", "x", "J", false)
  | 1 => ("RangeCoders$Stacked", "readX", "J", false)
  | 2 => ("RangeCoders$Stacked", "odds", "[LRangeCoders$Odds;", true)
  | 3 => ("RangeCoders$Stacked", "numbers", "[I", true)
  | 4 => ("RangeCoders$Stacked", "widths", "[I", true)
  | 5 => ("RangeCoders$Stacked", "kept", "I", false)
  | 6 => ("RangeCoders$Coder", "in", "LRangeCoders$Row;", true)
  | 7 => ("RangeCoders$Coder", "out", "LRangeCoders$Row;", false)
  | 8 => ("RangeCoders$Coder", "written", "LRangeCoders$Row;", false)
  | _ => ("RangeCoders$Coder", "asked", "I", false)
def t_Table : Nat → FieldType := fun k => match k with
  | 0 => .long
  | 1 => .long
  | 2 => .array (.object "RangeCoders$Odds")
  | 3 => .array .int
  | 4 => .array .int
  | 5 => .int
  | 6 => .object "RangeCoders$Row"
  | 7 => .object "RangeCoders$Row"
  | 8 => .object "RangeCoders$Row"
  | _ => .int
theorem n_Table : ∀ a, a < 10 → ∀ b, b < 10 → a ≠ b → (T_Table a).2.1 ≠ (T_Table b).2.1 := by decide +kernel
theorem o_Table : ∀ k, k < 10 → parseFieldDescriptor (T_Table k).2.2.1 = some (t_Table k) := by decide +kernel
def T_RC : u_T := fun k => match k with
  | 0 => ("RangeCoders", "coder", "LRangeCoders$Coder;", true)
  | 1 => ("RangeCoders", "models", "[LRangeCoders$Model;", true)
  | 2 => ("RangeCoders", "modelCount", "I", false)
  | 3 => ("RangeCoders", "items", "I", false)
  | 4 => ("RangeCoders", "ended", "Z", false)
  | 5 => ("RangeCoders", "reading", "Z", false)
  | 6 => ("RangeCoders", "bad", "Z", false)
  | _ => ("RangeCoders", "itemsRead", "I", false)
def t_RC : Nat → FieldType := fun k => match k with
  | 0 => .object "RangeCoders$Coder"
  | 1 => .array (.object "RangeCoders$Model")
  | 2 => .int
  | 3 => .int
  | 4 => .boolean
  | 5 => .boolean
  | 6 => .boolean
  | _ => .int
theorem n_RC : ∀ a, a < 8 → ∀ b, b < 8 → a ≠ b → (T_RC a).2.1 ≠ (T_RC b).2.1 := by decide +kernel
theorem o_RC : ∀ k, k < 8 → parseFieldDescriptor (T_RC k).2.2.1 = some (t_RC k) := by decide +kernel
def T_Odds : u_T := fun k => match k with
  | 0 => ("RangeCoders$Odds", "signs", "I", true)
  | 1 => ("RangeCoders$Odds", "sum", "I", false)
  | 2 => ("RangeCoders$Odds", "firstCell", "I", true)
  | 3 => ("RangeCoders$Odds", "cells", "[I", true)
  | _ => ("RangeCoders$Odds", "placeSigns", "[I", true)
def t_Odds : Nat → FieldType := fun k => match k with
  | 0 => .int
  | 1 => .int
  | 2 => .int
  | 3 => .array .int
  | _ => .array .int
theorem n_Odds : ∀ a, a < 5 → ∀ b, b < 5 → a ≠ b → (T_Odds a).2.1 ≠ (T_Odds b).2.1 := by decide +kernel
theorem o_Odds : ∀ k, k < 5 → parseFieldDescriptor (T_Odds k).2.2.1 = some (t_Odds k) := by decide +kernel
def T_Model : u_T := fun k => match k with
  | 0 => ("RangeCoders$Model", "counts", "[I", true)
  | 1 => ("RangeCoders$Model", "sent", "LRangeCoders$Odds;", true)
  | _ => ("RangeCoders$Model", "heard", "LRangeCoders$Odds;", true)
def t_Model : Nat → FieldType := fun k => match k with
  | 0 => .array .int
  | 1 => .object "RangeCoders$Odds"
  | _ => .object "RangeCoders$Odds"
theorem n_Model : ∀ a, a < 3 → ∀ b, b < 3 → a ≠ b → (T_Model a).2.1 ≠ (T_Model b).2.1 := by decide +kernel
theorem o_Model : ∀ k, k < 3 → parseFieldDescriptor (T_Model k).2.2.1 = some (t_Model k) := by decide +kernel
def T_M : u_T := fun k => match k with
  | 0 => ("RangeCodersModel", "form", "I", true)
  | 1 => ("RangeCodersModel", "shift", "I", true)
  | 2 => ("RangeCodersModel", "models", "I", false)
  | 3 => ("RangeCodersModel", "many", "[I", true)
  | 4 => ("RangeCodersModel", "counts", "[I", true)
  | 5 => ("RangeCodersModel", "now", "[I", true)
  | 6 => ("RangeCodersModel", "then", "[I", true)
  | 7 => ("RangeCodersModel", "items", "I", false)
  | 8 => ("RangeCodersModel", "itemModel", "[I", true)
  | 9 => ("RangeCodersModel", "itemWhat", "[I", true)
  | 10 => ("RangeCodersModel", "ended", "Z", false)
  | 11 => ("RangeCodersModel", "low", "J", false)
  | 12 => ("RangeCodersModel", "range", "J", false)
  | 13 => ("RangeCodersModel", "cache", "I", false)
  | 14 => ("RangeCodersModel", "pending", "I", false)
  | 15 => ("RangeCodersModel", "going", "[I", true)
  | 16 => ("RangeCodersModel", "goes", "I", false)
  | 17 => ("RangeCodersModel", "out", "[I", true)
  | 18 => ("RangeCodersModel", "outs", "I", false)
  | 19 => ("RangeCodersModel", "in", "[I", true)
  | 20 => ("RangeCodersModel", "ins", "I", false)
  | 21 => ("RangeCodersModel", "reads", "Z", false)
  | 22 => ("RangeCodersModel", "bad", "Z", false)
  | 23 => ("RangeCodersModel", "itemsRead", "I", false)
  | 24 => ("RangeCodersModel", "asked", "I", false)
  | 25 => ("RangeCodersModel", "bitsAsked", "I", false)
  | 26 => ("RangeCodersModel", "code", "J", false)
  | 27 => ("RangeCodersModel", "readLow", "J", false)
  | 28 => ("RangeCodersModel", "readRange", "J", false)
  | 29 => ("RangeCodersModel", "x", "J", false)
  | 30 => ("RangeCodersModel", "signOf", "[I", true)
  | 31 => ("RangeCodersModel", "numberOf", "[I", true)
  | 32 => ("RangeCodersModel", "written", "[I", true)
  | 33 => ("RangeCodersModel", "writes", "I", false)
  | _ => ("RangeCodersModel", "thrown", "I", false)
def t_M : Nat → FieldType := fun k => match k with
  | 0 => .int
  | 1 => .int
  | 2 => .int
  | 3 => .array .int
  | 4 => .array .int
  | 5 => .array .int
  | 6 => .array .int
  | 7 => .int
  | 8 => .array .int
  | 9 => .array .int
  | 10 => .boolean
  | 11 => .long
  | 12 => .long
  | 13 => .int
  | 14 => .int
  | 15 => .array .int
  | 16 => .int
  | 17 => .array .int
  | 18 => .int
  | 19 => .array .int
  | 20 => .int
  | 21 => .boolean
  | 22 => .boolean
  | 23 => .int
  | 24 => .int
  | 25 => .int
  | 26 => .long
  | 27 => .long
  | 28 => .long
  | 29 => .long
  | 30 => .array .int
  | 31 => .array .int
  | 32 => .array .int
  | 33 => .int
  | _ => .int
theorem n_M : ∀ a, a < 35 → ∀ b, b < 35 → a ≠ b → (T_M a).2.1 ≠ (T_M b).2.1 := by decide +kernel
theorem o_M : ∀ k, k < 35 → parseFieldDescriptor (T_M k).2.2.1 = some (t_M k) := by decide +kernel
abbrev vwCl : List vw_C := [("RangeCoders$Row", T_Row, 2), ("RangeCoders$Carries", T_Carries, 11), ("RangeCoders$NoCarries", T_NoCarries, 9), ("RangeCoders$Bits", T_Bits, 15), ("RangeCoders$Stack", T_Stack, 10), ("RangeCoders$Table", T_Table, 10), ("RangeCoders", T_RC, 8), ("RangeCoders$Odds", T_Odds, 5), ("RangeCoders$Model", T_Model, 3), ("RangeCodersModel", T_M, 35)]
abbrev kT (cI cM cO : ClassId) : List (ClassId × FieldType) := [(cI, .int), (cM, .object "RangeCoders$Model"), (cO, .object "RangeCoders$Odds")]
end
section
theorem k0 : Cond.initialized "RangeCodersLaw" ∈ gw := gw_c1 0 rfl rfl
theorem k1 : Cond.initialized "RangeCoders" ∈ gw := gw_c1 1 rfl rfl
theorem k2 : Cond.initialized "java/lang/Math" ∈ gw := gw_c1 2 rfl rfl
theorem k3 : Cond.initialized "RangeCoders$Coder" ∈ gw := gw_c1 3 rfl rfl
theorem k4 : Cond.initialized "RangeCoders$Ranged" ∈ gw := gw_c1 4 rfl rfl
theorem k5 : Cond.initialized "RangeCoders$Carries" ∈ gw := gw_c1 5 rfl rfl
theorem k6 : Cond.initialized "RangeCoders$Row" ∈ gw := gw_c1 6 rfl rfl
theorem k7 : Cond.initialized "RangeCoders$NoCarries" ∈ gw := gw_c1 7 rfl rfl
theorem k8 : Cond.initialized "RangeCoders$Bits" ∈ gw := gw_c1 8 rfl rfl
theorem k9 : Cond.initialized "RangeCoders$Stacked" ∈ gw := gw_c1 9 rfl rfl
theorem k10 : Cond.initialized "RangeCoders$Stack" ∈ gw := gw_c1 10 rfl rfl
theorem k11 : Cond.initialized "RangeCoders$Table" ∈ gw := gw_c1 11 rfl rfl
theorem k12 : Cond.initialized "RangeCodersModel" ∈ gw := gw_c1 12 rfl rfl
theorem k13 : Cond.initialized "RangeCoders$Model" ∈ gw := gw_c1 13 rfl rfl
theorem k14 : Cond.initialized "RangeCoders$Odds" ∈ gw := gw_c1 14 rfl rfl
theorem k15 : Cond.initialized "java/util/Arrays" ∈ gw := gw_c1 15 rfl rfl
theorem k16 : Cond.initialized "java/lang/System" ∈ gw := gw_c1 16 rfl rfl
theorem k17 : Cond.classLink "RangeCodersLaw" 7 "RangeCoders" ∈ gw := gw_c1 17 rfl rfl
theorem k18 : Cond.instantiable "RangeCoders" 8 ∈ gw := gw_c1 18 rfl rfl
theorem k19 : Cond.methodLink "RangeCodersLaw" 15 y_RC_init ∈ gw := gw_c1 19 rfl rfl
theorem k20 : Cond.instanceMethod y_RC_init ∈ gw := gw_c1 20 rfl rfl
theorem k21 : Cond.code y_RC_init prog_1_method_1_code 3 none ∈ gw := gw_c1 21 rfl rfl
theorem k22 : Cond.methodLink "RangeCoders" 1 y_Object_init ∈ gw := gw_c1 22 rfl rfl
theorem k23 : Cond.instanceMethod y_Object_init ∈ gw := gw_c1 23 rfl rfl
theorem k24 : Cond.code y_Object_init object_method_1_code 1 none ∈ gw := gw_c1 24 rfl rfl
theorem k25 : Cond.classLink "RangeCoders" 9 "RangeCoders$Model" ∈ gw := gw_c1 25 rfl rfl
theorem k27 : Cond.methodLink "RangeCoders" 15 y_RC_nearest ∈ gw := gw_c1 27 rfl rfl
theorem k28 : Cond.static y_RC_nearest ∈ gw := gw_c1 28 rfl rfl
theorem k29 : Cond.code y_RC_nearest prog_1_method_18_code 3 (some .int) ∈ gw := gw_c1 29 rfl rfl
theorem k30 : Cond.methodLink "RangeCoders" 165 y_Math_min ∈ gw := gw_c1 30 rfl rfl
theorem k31 : Cond.static y_Math_min ∈ gw := gw_c1 31 rfl rfl
theorem k32 : Cond.code y_Math_min prog_16_method_69_code 2 (some .int) ∈ gw := gw_c1 32 rfl rfl
theorem k33 : Cond.methodLink "RangeCoders" 114 y_Math_max ∈ gw := gw_c1 33 rfl rfl
theorem k34 : Cond.static y_Math_max ∈ gw := gw_c1 34 rfl rfl
theorem k35 : Cond.code y_Math_max prog_16_method_65_code 2 (some .int) ∈ gw := gw_c1 35 rfl rfl
theorem k36 : Cond.methodLink "RangeCoders" 19 y_RC_coderOf ∈ gw := gw_c1 36 rfl rfl
theorem k37 : Cond.static y_RC_coderOf ∈ gw := gw_c1 37 rfl rfl
theorem k38 : Cond.code y_RC_coderOf prog_1_method_19_code 2 (some (.object "RangeCoders$Coder")) ∈ gw := gw_c1 38 rfl rfl
theorem k39 : Cond.classLink "RangeCoders" 168 "RangeCoders$Carries" ∈ gw := gw_c1 39 rfl rfl
theorem k40 : Cond.instantiable "RangeCoders$Carries" 11 ∈ gw := gw_c1 40 rfl rfl
theorem j41 : Cond.methodLinkNest "RangeCoders" 170 y_Carries_init "RangeCoders" ∈ lw_tbl := tb_c1 41 rfl
theorem k42 : Cond.instanceMethod y_Carries_init ∈ gw := gw_c1 42 rfl rfl
theorem k43 : Cond.code y_Carries_init prog_3_method_1_code 1 none ∈ gw := gw_c1 43 rfl rfl
theorem j44 : Cond.methodLinkNest "RangeCoders$Carries" 3 y_Ranged_init "RangeCoders" ∈ lw_tbl := tb_c1 44 rfl
theorem k45 : Cond.instanceMethod y_Ranged_init ∈ gw := gw_c1 45 rfl rfl
theorem k46 : Cond.code y_Ranged_init prog_8_method_1_code 1 none ∈ gw := gw_c1 46 rfl rfl
theorem j47 : Cond.methodLinkNest "RangeCoders$Ranged" 3 y_Coder_init "RangeCoders" ∈ lw_tbl := tb_c1 47 rfl
theorem k48 : Cond.instanceMethod y_Coder_init ∈ gw := gw_c1 48 rfl rfl
theorem k49 : Cond.code y_Coder_init prog_4_method_1_code 1 none ∈ gw := gw_c1 49 rfl rfl
theorem k50 : Cond.methodLink "RangeCoders$Coder" 1 y_Object_init ∈ gw := gw_c1 50 rfl rfl
theorem k51 : Cond.classLink "RangeCoders$Coder" 7 "RangeCoders$Row" ∈ gw := gw_c1 51 rfl rfl
theorem k52 : Cond.instantiable "RangeCoders$Row" 2 ∈ gw := gw_c1 52 rfl rfl
theorem j53 : Cond.methodLinkNest "RangeCoders$Coder" 9 y_Row_init "RangeCoders" ∈ lw_tbl := tb_c1 53 rfl
theorem k54 : Cond.instanceMethod y_Row_init ∈ gw := gw_c1 54 rfl rfl
theorem k55 : Cond.code y_Row_init prog_9_method_1_code 1 none ∈ gw := gw_c1 55 rfl rfl
theorem k56 : Cond.methodLink "RangeCoders$Row" 3 y_Object_init ∈ gw := gw_c1 56 rfl rfl
theorem k57 : Cond.fieldLink "RangeCoders$Row" 15 "RangeCoders$Row" "size" "I" ∈ gw := gw_c1 57 rfl rfl
theorem k58 : Cond.fieldLink "RangeCoders" 95 "RangeCoders$Row" "size" "I" ∈ gw := gw_c1 58 rfl rfl
theorem k59 : Cond.fieldLink "RangeCoders$Table" 63 "RangeCoders$Row" "size" "I" ∈ gw := gw_c1 59 rfl rfl
theorem k60 : Cond.fieldLink "RangeCoders$Row" 11 "RangeCoders$Row" "cells" "[I" ∈ gw := gw_c1 60 rfl rfl
theorem k61 : Cond.lays "RangeCoders$Row" "RangeCoders$Row" "size" "I" ∈ gw := gw_c1 61 rfl rfl
theorem k63 : Cond.lays "RangeCoders$Row" "RangeCoders$Row" "cells" "[I" ∈ gw := gw_c1 63 rfl rfl
theorem k66 : Cond.arrayClass .int ∈ gw := gw_c1 66 rfl rfl
theorem k67 : Cond.constantLong "RangeCoders$Ranged" 9 4294967295 ∈ gw := gw_c1 67 rfl rfl
theorem k68 : Cond.fieldLink "RangeCoders$Carries" 9 "RangeCoders$Carries" "cache" "I" ∈ gw := gw_c1 68 rfl rfl
theorem k69 : Cond.fieldLink "RangeCoders$Carries" 18 "RangeCoders$Carries" "pending" "I" ∈ gw := gw_c1 69 rfl rfl
theorem k70 : Cond.fieldLink "RangeCoders$NoCarries" 15 "RangeCoders$NoCarries" "low" "J" ∈ gw := gw_c1 70 rfl rfl
theorem k71 : Cond.sameField "RangeCoders$NoCarries" "RangeCoders$Ranged" "low" "J" ∈ gw := gw_c1 71 rfl rfl
theorem k72 : Cond.fieldLink "RangeCoders$Carries" 25 "RangeCoders$Carries" "low" "J" ∈ gw := gw_c1 72 rfl rfl
theorem k73 : Cond.sameField "RangeCoders$Carries" "RangeCoders$Ranged" "low" "J" ∈ gw := gw_c1 73 rfl rfl
theorem k74 : Cond.fieldLink "RangeCoders$Ranged" 32 "RangeCoders$Ranged" "low" "J" ∈ gw := gw_c1 74 rfl rfl
theorem k75 : Cond.fieldLink "RangeCoders$Bits" 39 "RangeCoders$Bits" "low" "J" ∈ gw := gw_c1 75 rfl rfl
theorem k76 : Cond.sameField "RangeCoders$Bits" "RangeCoders$Ranged" "low" "J" ∈ gw := gw_c1 76 rfl rfl
theorem k77 : Cond.fieldLink "RangeCoders$Ranged" 11 "RangeCoders$Ranged" "range" "J" ∈ gw := gw_c1 77 rfl rfl
theorem k78 : Cond.fieldLink "RangeCoders$NoCarries" 9 "RangeCoders$NoCarries" "range" "J" ∈ gw := gw_c1 78 rfl rfl
theorem k79 : Cond.sameField "RangeCoders$NoCarries" "RangeCoders$Ranged" "range" "J" ∈ gw := gw_c1 79 rfl rfl
theorem k80 : Cond.fieldLink "RangeCoders$Carries" 21 "RangeCoders$Carries" "range" "J" ∈ gw := gw_c1 80 rfl rfl
theorem k81 : Cond.sameField "RangeCoders$Carries" "RangeCoders$Ranged" "range" "J" ∈ gw := gw_c1 81 rfl rfl
theorem k82 : Cond.fieldLink "RangeCoders$Bits" 35 "RangeCoders$Bits" "range" "J" ∈ gw := gw_c1 82 rfl rfl
theorem k83 : Cond.sameField "RangeCoders$Bits" "RangeCoders$Ranged" "range" "J" ∈ gw := gw_c1 83 rfl rfl
theorem k84 : Cond.fieldLink "RangeCoders$NoCarries" 37 "RangeCoders$NoCarries" "code" "J" ∈ gw := gw_c1 84 rfl rfl
theorem k85 : Cond.sameField "RangeCoders$NoCarries" "RangeCoders$Ranged" "code" "J" ∈ gw := gw_c1 85 rfl rfl
theorem k86 : Cond.fieldLink "RangeCoders$Carries" 34 "RangeCoders$Carries" "code" "J" ∈ gw := gw_c1 86 rfl rfl
theorem k87 : Cond.sameField "RangeCoders$Carries" "RangeCoders$Ranged" "code" "J" ∈ gw := gw_c1 87 rfl rfl
theorem k88 : Cond.fieldLink "RangeCoders$Bits" 45 "RangeCoders$Bits" "code" "J" ∈ gw := gw_c1 88 rfl rfl
theorem k89 : Cond.sameField "RangeCoders$Bits" "RangeCoders$Ranged" "code" "J" ∈ gw := gw_c1 89 rfl rfl
theorem k90 : Cond.fieldLink "RangeCoders$Ranged" 64 "RangeCoders$Ranged" "code" "J" ∈ gw := gw_c1 90 rfl rfl
theorem k91 : Cond.fieldLink "RangeCoders$NoCarries" 34 "RangeCoders$NoCarries" "readLow" "J" ∈ gw := gw_c1 91 rfl rfl
theorem k92 : Cond.sameField "RangeCoders$NoCarries" "RangeCoders$Ranged" "readLow" "J" ∈ gw := gw_c1 92 rfl rfl
theorem k93 : Cond.fieldLink "RangeCoders$Ranged" 67 "RangeCoders$Ranged" "readLow" "J" ∈ gw := gw_c1 93 rfl rfl
theorem k94 : Cond.fieldLink "RangeCoders$NoCarries" 31 "RangeCoders$NoCarries" "readRange" "J" ∈ gw := gw_c1 94 rfl rfl
theorem k95 : Cond.sameField "RangeCoders$NoCarries" "RangeCoders$Ranged" "readRange" "J" ∈ gw := gw_c1 95 rfl rfl
theorem k96 : Cond.fieldLink "RangeCoders$Carries" 31 "RangeCoders$Carries" "readRange" "J" ∈ gw := gw_c1 96 rfl rfl
theorem k97 : Cond.sameField "RangeCoders$Carries" "RangeCoders$Ranged" "readRange" "J" ∈ gw := gw_c1 97 rfl rfl
theorem k98 : Cond.fieldLink "RangeCoders$Bits" 48 "RangeCoders$Bits" "readRange" "J" ∈ gw := gw_c1 98 rfl rfl
theorem k99 : Cond.sameField "RangeCoders$Bits" "RangeCoders$Ranged" "readRange" "J" ∈ gw := gw_c1 99 rfl rfl
theorem k100 : Cond.fieldLink "RangeCoders$Ranged" 70 "RangeCoders$Ranged" "readRange" "J" ∈ gw := gw_c1 100 rfl rfl
theorem k101 : Cond.fieldLink "RangeCoders$Coder" 10 "RangeCoders$Coder" "in" "LRangeCoders$Row;" ∈ gw := gw_c1 101 rfl rfl
theorem k102 : Cond.fieldLink "RangeCoders" 107 "RangeCoders$Coder" "in" "LRangeCoders$Row;" ∈ gw := gw_c1 102 rfl rfl
theorem k103 : Cond.fieldLink "RangeCoders$Table" 93 "RangeCoders$Table" "in" "LRangeCoders$Row;" ∈ gw := gw_c1 103 rfl rfl
theorem k104 : Cond.sameField "RangeCoders$Table" "RangeCoders$Coder" "in" "LRangeCoders$Row;" ∈ gw := gw_c1 104 rfl rfl
theorem k105 : Cond.fieldLink "RangeCoders$Coder" 16 "RangeCoders$Coder" "out" "LRangeCoders$Row;" ∈ gw := gw_c1 105 rfl rfl
theorem k106 : Cond.fieldLink "RangeCoders$Stack" 37 "RangeCoders$Stack" "out" "LRangeCoders$Row;" ∈ gw := gw_c1 106 rfl rfl
theorem k107 : Cond.sameField "RangeCoders$Stack" "RangeCoders$Coder" "out" "LRangeCoders$Row;" ∈ gw := gw_c1 107 rfl rfl
theorem k108 : Cond.fieldLink "RangeCoders" 91 "RangeCoders$Coder" "out" "LRangeCoders$Row;" ∈ gw := gw_c1 108 rfl rfl
theorem k109 : Cond.fieldLink "RangeCoders$Ranged" 57 "RangeCoders$Ranged" "out" "LRangeCoders$Row;" ∈ gw := gw_c1 109 rfl rfl
theorem k110 : Cond.sameField "RangeCoders$Ranged" "RangeCoders$Coder" "out" "LRangeCoders$Row;" ∈ gw := gw_c1 110 rfl rfl
theorem k111 : Cond.fieldLink "RangeCoders$Table" 57 "RangeCoders$Table" "out" "LRangeCoders$Row;" ∈ gw := gw_c1 111 rfl rfl
theorem k112 : Cond.sameField "RangeCoders$Table" "RangeCoders$Coder" "out" "LRangeCoders$Row;" ∈ gw := gw_c1 112 rfl rfl
theorem k113 : Cond.fieldLink "RangeCoders$Coder" 19 "RangeCoders$Coder" "written" "LRangeCoders$Row;" ∈ gw := gw_c1 113 rfl rfl
theorem k114 : Cond.fieldLink "RangeCoders$NoCarries" 44 "RangeCoders$NoCarries" "written" "LRangeCoders$Row;" ∈ gw := gw_c1 114 rfl rfl
theorem k115 : Cond.sameField "RangeCoders$NoCarries" "RangeCoders$Coder" "written" "LRangeCoders$Row;" ∈ gw := gw_c1 115 rfl rfl
theorem k116 : Cond.fieldLink "RangeCoders$Ranged" 23 "RangeCoders$Ranged" "written" "LRangeCoders$Row;" ∈ gw := gw_c1 116 rfl rfl
theorem k117 : Cond.sameField "RangeCoders$Ranged" "RangeCoders$Coder" "written" "LRangeCoders$Row;" ∈ gw := gw_c1 117 rfl rfl
theorem k118 : Cond.fieldLink "RangeCoders$Stack" 41 "RangeCoders$Stack" "written" "LRangeCoders$Row;" ∈ gw := gw_c1 118 rfl rfl
theorem k119 : Cond.sameField "RangeCoders$Stack" "RangeCoders$Coder" "written" "LRangeCoders$Row;" ∈ gw := gw_c1 119 rfl rfl
theorem k120 : Cond.fieldLink "RangeCoders$Table" 39 "RangeCoders$Table" "written" "LRangeCoders$Row;" ∈ gw := gw_c1 120 rfl rfl
theorem k121 : Cond.sameField "RangeCoders$Table" "RangeCoders$Coder" "written" "LRangeCoders$Row;" ∈ gw := gw_c1 121 rfl rfl
theorem k122 : Cond.fieldLink "RangeCoders$Stacked" 32 "RangeCoders$Stacked" "written" "LRangeCoders$Row;" ∈ gw := gw_c1 122 rfl rfl
theorem k123 : Cond.sameField "RangeCoders$Stacked" "RangeCoders$Coder" "written" "LRangeCoders$Row;" ∈ gw := gw_c1 123 rfl rfl
theorem k124 : Cond.fieldLink "RangeCoders$Carries" 57 "RangeCoders$Carries" "written" "LRangeCoders$Row;" ∈ gw := gw_c1 124 rfl rfl
theorem k125 : Cond.sameField "RangeCoders$Carries" "RangeCoders$Coder" "written" "LRangeCoders$Row;" ∈ gw := gw_c1 125 rfl rfl
theorem k126 : Cond.fieldLink "RangeCoders$Table" 23 "RangeCoders$Table" "asked" "I" ∈ gw := gw_c1 126 rfl rfl
theorem k127 : Cond.sameField "RangeCoders$Table" "RangeCoders$Coder" "asked" "I" ∈ gw := gw_c1 127 rfl rfl
theorem k128 : Cond.fieldLink "RangeCoders$Bits" 81 "RangeCoders$Bits" "asked" "I" ∈ gw := gw_c1 128 rfl rfl
theorem k129 : Cond.sameField "RangeCoders$Bits" "RangeCoders$Coder" "asked" "I" ∈ gw := gw_c1 129 rfl rfl
theorem k130 : Cond.fieldLink "RangeCoders$Coder" 31 "RangeCoders$Coder" "asked" "I" ∈ gw := gw_c1 130 rfl rfl
theorem k131 : Cond.lays "RangeCoders$Carries" "RangeCoders$Carries" "cache" "I" ∈ gw := gw_c1 131 rfl rfl
theorem k133 : Cond.lays "RangeCoders$Carries" "RangeCoders$Carries" "pending" "I" ∈ gw := gw_c1 133 rfl rfl
theorem k135 : Cond.lays "RangeCoders$Carries" "RangeCoders$Ranged" "low" "J" ∈ gw := gw_c1 135 rfl rfl
theorem k137 : Cond.lays "RangeCoders$Carries" "RangeCoders$Ranged" "range" "J" ∈ gw := gw_c1 137 rfl rfl
theorem k139 : Cond.lays "RangeCoders$Carries" "RangeCoders$Ranged" "code" "J" ∈ gw := gw_c1 139 rfl rfl
theorem k141 : Cond.lays "RangeCoders$Carries" "RangeCoders$Ranged" "readLow" "J" ∈ gw := gw_c1 141 rfl rfl
theorem k143 : Cond.lays "RangeCoders$Carries" "RangeCoders$Ranged" "readRange" "J" ∈ gw := gw_c1 143 rfl rfl
theorem k145 : Cond.laysFinal "RangeCoders$Carries" "RangeCoders$Coder" "in" "LRangeCoders$Row;" ∈ gw := gw_c1 145 rfl rfl
theorem k147 : Cond.lays "RangeCoders$Carries" "RangeCoders$Coder" "out" "LRangeCoders$Row;" ∈ gw := gw_c1 147 rfl rfl
theorem k149 : Cond.lays "RangeCoders$Carries" "RangeCoders$Coder" "written" "LRangeCoders$Row;" ∈ gw := gw_c1 149 rfl rfl
theorem k151 : Cond.lays "RangeCoders$Carries" "RangeCoders$Coder" "asked" "I" ∈ gw := gw_c1 151 rfl rfl
theorem k153 : Cond.superclass "RangeCoders$Carries" "RangeCoders$Ranged" ∈ gw := gw_c1 153 rfl rfl
theorem k154 : Cond.classLink "RangeCoders" 171 "RangeCoders$NoCarries" ∈ gw := gw_c1 154 rfl rfl
theorem k155 : Cond.instantiable "RangeCoders$NoCarries" 9 ∈ gw := gw_c1 155 rfl rfl
theorem j156 : Cond.methodLinkNest "RangeCoders" 173 y_NoCarries_init "RangeCoders" ∈ lw_tbl := tb_c1 156 rfl
theorem k157 : Cond.instanceMethod y_NoCarries_init ∈ gw := gw_c1 157 rfl rfl
theorem k158 : Cond.code y_NoCarries_init prog_6_method_1_code 1 none ∈ gw := gw_c1 158 rfl rfl
theorem j159 : Cond.methodLinkNest "RangeCoders$NoCarries" 3 y_Ranged_init "RangeCoders" ∈ lw_tbl := tb_c1 159 rfl
theorem k160 : Cond.lays "RangeCoders$NoCarries" "RangeCoders$Ranged" "low" "J" ∈ gw := gw_c1 160 rfl rfl
theorem k161 : Cond.lays "RangeCoders$NoCarries" "RangeCoders$Ranged" "range" "J" ∈ gw := gw_c1 161 rfl rfl
theorem k162 : Cond.lays "RangeCoders$NoCarries" "RangeCoders$Ranged" "code" "J" ∈ gw := gw_c1 162 rfl rfl
theorem k163 : Cond.lays "RangeCoders$NoCarries" "RangeCoders$Ranged" "readLow" "J" ∈ gw := gw_c1 163 rfl rfl
theorem k164 : Cond.lays "RangeCoders$NoCarries" "RangeCoders$Ranged" "readRange" "J" ∈ gw := gw_c1 164 rfl rfl
theorem k165 : Cond.laysFinal "RangeCoders$NoCarries" "RangeCoders$Coder" "in" "LRangeCoders$Row;" ∈ gw := gw_c1 165 rfl rfl
theorem k166 : Cond.lays "RangeCoders$NoCarries" "RangeCoders$Coder" "out" "LRangeCoders$Row;" ∈ gw := gw_c1 166 rfl rfl
theorem k167 : Cond.lays "RangeCoders$NoCarries" "RangeCoders$Coder" "written" "LRangeCoders$Row;" ∈ gw := gw_c1 167 rfl rfl
theorem k168 : Cond.lays "RangeCoders$NoCarries" "RangeCoders$Coder" "asked" "I" ∈ gw := gw_c1 168 rfl rfl
theorem k170 : Cond.classLink "RangeCoders" 174 "RangeCoders$Bits" ∈ gw := gw_c1 170 rfl rfl
theorem k171 : Cond.instantiable "RangeCoders$Bits" 15 ∈ gw := gw_c1 171 rfl rfl
theorem k172 : Cond.methodLink "RangeCoders" 176 y_Bits_init ∈ gw := gw_c1 172 rfl rfl
theorem k173 : Cond.instanceMethod y_Bits_init ∈ gw := gw_c1 173 rfl rfl
theorem k174 : Cond.code y_Bits_init prog_2_method_1_code 2 none ∈ gw := gw_c1 174 rfl rfl
theorem j175 : Cond.methodLinkNest "RangeCoders$Bits" 5 y_Carries_init "RangeCoders" ∈ lw_tbl := tb_c1 175 rfl
theorem k176 : Cond.fieldLink "RangeCoders$Bits" 11 "RangeCoders$Bits" "shift" "I" ∈ gw := gw_c1 176 rfl rfl
theorem k177 : Cond.fieldLink "RangeCoders$Bits" 75 "RangeCoders$Bits" "keptCode" "J" ∈ gw := gw_c1 177 rfl rfl
theorem k178 : Cond.fieldLink "RangeCoders$Bits" 78 "RangeCoders$Bits" "keptRange" "J" ∈ gw := gw_c1 178 rfl rfl
theorem k179 : Cond.fieldLink "RangeCoders$Bits" 84 "RangeCoders$Bits" "keptAsked" "I" ∈ gw := gw_c1 179 rfl rfl
theorem k180 : Cond.laysFinal "RangeCoders$Bits" "RangeCoders$Bits" "shift" "I" ∈ gw := gw_c1 180 rfl rfl
theorem k182 : Cond.lays "RangeCoders$Bits" "RangeCoders$Bits" "keptCode" "J" ∈ gw := gw_c1 182 rfl rfl
theorem k184 : Cond.lays "RangeCoders$Bits" "RangeCoders$Bits" "keptRange" "J" ∈ gw := gw_c1 184 rfl rfl
theorem k186 : Cond.lays "RangeCoders$Bits" "RangeCoders$Bits" "keptAsked" "I" ∈ gw := gw_c1 186 rfl rfl
theorem k188 : Cond.lays "RangeCoders$Bits" "RangeCoders$Carries" "cache" "I" ∈ gw := gw_c1 188 rfl rfl
theorem k189 : Cond.lays "RangeCoders$Bits" "RangeCoders$Carries" "pending" "I" ∈ gw := gw_c1 189 rfl rfl
theorem k190 : Cond.lays "RangeCoders$Bits" "RangeCoders$Ranged" "low" "J" ∈ gw := gw_c1 190 rfl rfl
theorem k191 : Cond.lays "RangeCoders$Bits" "RangeCoders$Ranged" "range" "J" ∈ gw := gw_c1 191 rfl rfl
theorem k192 : Cond.lays "RangeCoders$Bits" "RangeCoders$Ranged" "code" "J" ∈ gw := gw_c1 192 rfl rfl
theorem k193 : Cond.lays "RangeCoders$Bits" "RangeCoders$Ranged" "readLow" "J" ∈ gw := gw_c1 193 rfl rfl
theorem k194 : Cond.lays "RangeCoders$Bits" "RangeCoders$Ranged" "readRange" "J" ∈ gw := gw_c1 194 rfl rfl
theorem k195 : Cond.laysFinal "RangeCoders$Bits" "RangeCoders$Coder" "in" "LRangeCoders$Row;" ∈ gw := gw_c1 195 rfl rfl
theorem k196 : Cond.lays "RangeCoders$Bits" "RangeCoders$Coder" "out" "LRangeCoders$Row;" ∈ gw := gw_c1 196 rfl rfl
theorem k197 : Cond.lays "RangeCoders$Bits" "RangeCoders$Coder" "written" "LRangeCoders$Row;" ∈ gw := gw_c1 197 rfl rfl
theorem k198 : Cond.lays "RangeCoders$Bits" "RangeCoders$Coder" "asked" "I" ∈ gw := gw_c1 198 rfl rfl
theorem k200 : Cond.classLink "RangeCoders" 178 "RangeCoders$Stack" ∈ gw := gw_c1 200 rfl rfl
theorem k201 : Cond.instantiable "RangeCoders$Stack" 10 ∈ gw := gw_c1 201 rfl rfl
theorem j202 : Cond.methodLinkNest "RangeCoders" 180 y_Stack_init "RangeCoders" ∈ lw_tbl := tb_c1 202 rfl
theorem k203 : Cond.instanceMethod y_Stack_init ∈ gw := gw_c1 203 rfl rfl
theorem k204 : Cond.code y_Stack_init prog_10_method_1_code 1 none ∈ gw := gw_c1 204 rfl rfl
theorem j205 : Cond.methodLinkNest "RangeCoders$Stack" 5 y_Stacked_init "RangeCoders" ∈ lw_tbl := tb_c1 205 rfl
theorem k206 : Cond.instanceMethod y_Stacked_init ∈ gw := gw_c1 206 rfl rfl
theorem k207 : Cond.code y_Stacked_init prog_11_method_1_code 1 none ∈ gw := gw_c1 207 rfl rfl
theorem j208 : Cond.methodLinkNest "RangeCoders$Stacked" 3 y_Coder_init "RangeCoders" ∈ lw_tbl := tb_c1 208 rfl
theorem k209 : Cond.classLink "RangeCoders$Stacked" 9 "RangeCoders$Odds" ∈ gw := gw_c1 209 rfl rfl
theorem k211 : Cond.fieldLink "RangeCoders$Stack" 19 "RangeCoders$Stack" "x" "J" ∈ gw := gw_c1 211 rfl rfl
theorem k212 : Cond.sameField "RangeCoders$Stack" "RangeCoders$Stacked" "x" "J" ∈ gw := gw_c1 212 rfl rfl
theorem k213 : Cond.fieldLink "RangeCoders$Table" 29 "RangeCoders$Table" "x" "J" ∈ gw := gw_c1 213 rfl rfl
theorem k214 : Cond.sameField "RangeCoders$Table" "RangeCoders$Stacked" "x" "J" ∈ gw := gw_c1 214 rfl rfl
theorem k215 : Cond.fieldLink "RangeCoders$Stack" 54 "RangeCoders$Stack" "readX" "J" ∈ gw := gw_c1 215 rfl rfl
theorem k216 : Cond.sameField "RangeCoders$Stack" "RangeCoders$Stacked" "readX" "J" ∈ gw := gw_c1 216 rfl rfl
theorem k217 : Cond.fieldLink "RangeCoders$Stacked" 61 "RangeCoders$Stacked" "readX" "J" ∈ gw := gw_c1 217 rfl rfl
theorem k218 : Cond.fieldLink "RangeCoders$Table" 72 "RangeCoders$Table" "readX" "J" ∈ gw := gw_c1 218 rfl rfl
theorem k219 : Cond.sameField "RangeCoders$Table" "RangeCoders$Stacked" "readX" "J" ∈ gw := gw_c1 219 rfl rfl
theorem k220 : Cond.fieldLink "RangeCoders$Stacked" 11 "RangeCoders$Stacked" "odds" "[LRangeCoders$Odds;" ∈ gw := gw_c1 220 rfl rfl
theorem k221 : Cond.fieldLink "RangeCoders$Stacked" 17 "RangeCoders$Stacked" "numbers" "[I" ∈ gw := gw_c1 221 rfl rfl
theorem k222 : Cond.fieldLink "RangeCoders$Stacked" 21 "RangeCoders$Stacked" "widths" "[I" ∈ gw := gw_c1 222 rfl rfl
theorem k223 : Cond.fieldLink "RangeCoders$Stacked" 24 "RangeCoders$Stacked" "kept" "I" ∈ gw := gw_c1 223 rfl rfl
theorem k224 : Cond.lays "RangeCoders$Stack" "RangeCoders$Stacked" "x" "J" ∈ gw := gw_c1 224 rfl rfl
theorem k226 : Cond.lays "RangeCoders$Stack" "RangeCoders$Stacked" "readX" "J" ∈ gw := gw_c1 226 rfl rfl
theorem k228 : Cond.laysFinal "RangeCoders$Stack" "RangeCoders$Stacked" "odds" "[LRangeCoders$Odds;" ∈ gw := gw_c1 228 rfl rfl
theorem k230 : Cond.laysFinal "RangeCoders$Stack" "RangeCoders$Stacked" "numbers" "[I" ∈ gw := gw_c1 230 rfl rfl
theorem k232 : Cond.laysFinal "RangeCoders$Stack" "RangeCoders$Stacked" "widths" "[I" ∈ gw := gw_c1 232 rfl rfl
theorem k234 : Cond.lays "RangeCoders$Stack" "RangeCoders$Stacked" "kept" "I" ∈ gw := gw_c1 234 rfl rfl
theorem k236 : Cond.laysFinal "RangeCoders$Stack" "RangeCoders$Coder" "in" "LRangeCoders$Row;" ∈ gw := gw_c1 236 rfl rfl
theorem k237 : Cond.lays "RangeCoders$Stack" "RangeCoders$Coder" "out" "LRangeCoders$Row;" ∈ gw := gw_c1 237 rfl rfl
theorem k238 : Cond.lays "RangeCoders$Stack" "RangeCoders$Coder" "written" "LRangeCoders$Row;" ∈ gw := gw_c1 238 rfl rfl
theorem k239 : Cond.lays "RangeCoders$Stack" "RangeCoders$Coder" "asked" "I" ∈ gw := gw_c1 239 rfl rfl
theorem k241 : Cond.classLink "RangeCoders" 181 "RangeCoders$Table" ∈ gw := gw_c2 1 rfl rfl
theorem k242 : Cond.instantiable "RangeCoders$Table" 10 ∈ gw := gw_c2 2 rfl rfl
theorem j243 : Cond.methodLinkNest "RangeCoders" 183 y_Table_init "RangeCoders" ∈ lw_tbl := tb_c2 3 rfl
theorem k244 : Cond.instanceMethod y_Table_init ∈ gw := gw_c2 4 rfl rfl
theorem k245 : Cond.code y_Table_init prog_12_method_1_code 1 none ∈ gw := gw_c2 5 rfl rfl
theorem j246 : Cond.methodLinkNest "RangeCoders$Table" 5 y_Stacked_init "RangeCoders" ∈ lw_tbl := tb_c2 6 rfl
theorem k247 : Cond.lays "RangeCoders$Table" "RangeCoders$Stacked" "x" "J" ∈ gw := gw_c2 7 rfl rfl
theorem k248 : Cond.lays "RangeCoders$Table" "RangeCoders$Stacked" "readX" "J" ∈ gw := gw_c2 8 rfl rfl
theorem k249 : Cond.laysFinal "RangeCoders$Table" "RangeCoders$Stacked" "odds" "[LRangeCoders$Odds;" ∈ gw := gw_c2 9 rfl rfl
theorem k250 : Cond.laysFinal "RangeCoders$Table" "RangeCoders$Stacked" "numbers" "[I" ∈ gw := gw_c2 10 rfl rfl
theorem k251 : Cond.laysFinal "RangeCoders$Table" "RangeCoders$Stacked" "widths" "[I" ∈ gw := gw_c2 11 rfl rfl
theorem k252 : Cond.lays "RangeCoders$Table" "RangeCoders$Stacked" "kept" "I" ∈ gw := gw_c2 12 rfl rfl
theorem k253 : Cond.laysFinal "RangeCoders$Table" "RangeCoders$Coder" "in" "LRangeCoders$Row;" ∈ gw := gw_c2 13 rfl rfl
theorem k254 : Cond.lays "RangeCoders$Table" "RangeCoders$Coder" "out" "LRangeCoders$Row;" ∈ gw := gw_c2 14 rfl rfl
theorem k255 : Cond.lays "RangeCoders$Table" "RangeCoders$Coder" "written" "LRangeCoders$Row;" ∈ gw := gw_c2 15 rfl rfl
theorem k256 : Cond.lays "RangeCoders$Table" "RangeCoders$Coder" "asked" "I" ∈ gw := gw_c2 16 rfl rfl
theorem k258 : Cond.fieldLink "RangeCoders" 23 "RangeCoders" "coder" "LRangeCoders$Coder;" ∈ gw := gw_c2 18 rfl rfl
theorem k259 : Cond.fieldLink "RangeCoders" 11 "RangeCoders" "models" "[LRangeCoders$Model;" ∈ gw := gw_c2 19 rfl rfl
theorem k260 : Cond.fieldLink "RangeCoders" 27 "RangeCoders" "modelCount" "I" ∈ gw := gw_c2 20 rfl rfl
theorem k261 : Cond.fieldLink "RangeCoders" 63 "RangeCoders" "items" "I" ∈ gw := gw_c2 21 rfl rfl
theorem k262 : Cond.fieldLink "RangeCoders" 66 "RangeCoders" "ended" "Z" ∈ gw := gw_c2 22 rfl rfl
theorem k263 : Cond.fieldLink "RangeCoders" 70 "RangeCoders" "reading" "Z" ∈ gw := gw_c2 23 rfl rfl
theorem k264 : Cond.fieldLink "RangeCoders" 123 "RangeCoders" "bad" "Z" ∈ gw := gw_c2 24 rfl rfl
theorem k265 : Cond.fieldLink "RangeCoders" 126 "RangeCoders" "itemsRead" "I" ∈ gw := gw_c2 25 rfl rfl
theorem k266 : Cond.laysFinal "RangeCoders" "RangeCoders" "coder" "LRangeCoders$Coder;" ∈ gw := gw_c2 26 rfl rfl
theorem k268 : Cond.laysFinal "RangeCoders" "RangeCoders" "models" "[LRangeCoders$Model;" ∈ gw := gw_c2 28 rfl rfl
theorem k270 : Cond.lays "RangeCoders" "RangeCoders" "modelCount" "I" ∈ gw := gw_c2 30 rfl rfl
theorem k272 : Cond.lays "RangeCoders" "RangeCoders" "items" "I" ∈ gw := gw_c2 32 rfl rfl
theorem k274 : Cond.lays "RangeCoders" "RangeCoders" "ended" "Z" ∈ gw := gw_c2 34 rfl rfl
theorem k276 : Cond.lays "RangeCoders" "RangeCoders" "reading" "Z" ∈ gw := gw_c2 36 rfl rfl
theorem k278 : Cond.lays "RangeCoders" "RangeCoders" "bad" "Z" ∈ gw := gw_c2 38 rfl rfl
theorem k280 : Cond.lays "RangeCoders" "RangeCoders" "itemsRead" "I" ∈ gw := gw_c2 40 rfl rfl
theorem k283 : Cond.methodLink "RangeCodersLaw" 21 y_RC_model ∈ gw := gw_c2 43 rfl rfl
theorem k284 : Cond.instanceMethod y_RC_model ∈ gw := gw_c2 44 rfl rfl
theorem k285 : Cond.selects "RangeCoders" y_RC_model y_RC_model ∈ gw := gw_c2 45 rfl rfl
theorem k286 : Cond.code y_RC_model prog_1_method_2_code 3 (some .int) ∈ gw := gw_c2 46 rfl rfl
theorem k287 : Cond.instantiable "RangeCoders$Model" 3 ∈ gw := gw_c2 47 rfl rfl
theorem k288 : Cond.methodLink "RangeCoders" 31 y_Coder_newOdds ∈ gw := gw_c2 48 rfl rfl
theorem k289 : Cond.instanceMethod y_Coder_newOdds ∈ gw := gw_c2 49 rfl rfl
theorem k290 : Cond.sameMethod "RangeCoders$Coder" "RangeCoders$Coder" "newOdds" "(I)LRangeCoders$Odds;" ∈ gw := gw_c2 50 rfl rfl
theorem k291 : Cond.selects "RangeCoders$Bits" y_Coder_newOdds y_Bits_newOdds ∈ gw := gw_c2 51 rfl rfl
theorem k292 : Cond.instanceMethod y_Bits_newOdds ∈ gw := gw_c2 52 rfl rfl
theorem k293 : Cond.code y_Bits_newOdds prog_2_method_2_code 2 (some (.object "RangeCoders$Odds")) ∈ gw := gw_c2 53 rfl rfl
theorem k294 : Cond.classLink "RangeCoders$Bits" 15 "RangeCoders$Odds" ∈ gw := gw_c2 54 rfl rfl
theorem k295 : Cond.instantiable "RangeCoders$Odds" 5 ∈ gw := gw_c2 55 rfl rfl
theorem k296 : Cond.methodLink "RangeCoders$Bits" 17 y_Bits_levelsOf ∈ gw := gw_c2 56 rfl rfl
theorem k297 : Cond.static y_Bits_levelsOf ∈ gw := gw_c2 57 rfl rfl
theorem k298 : Cond.code y_Bits_levelsOf prog_2_method_9_code 2 (some .int) ∈ gw := gw_c2 58 rfl rfl
theorem k299 : Cond.methodLink "RangeCoders$Bits" 21 y_Odds_init ∈ gw := gw_c2 59 rfl rfl
theorem k300 : Cond.instanceMethod y_Odds_init ∈ gw := gw_c2 60 rfl rfl
theorem k301 : Cond.code y_Odds_init prog_7_method_1_code 5 none ∈ gw := gw_c2 61 rfl rfl
theorem k302 : Cond.methodLink "RangeCoders$Odds" 3 y_Object_init ∈ gw := gw_c2 62 rfl rfl
theorem k303 : Cond.fieldLink "RangeCoders$Odds" 9 "RangeCoders$Odds" "signs" "I" ∈ gw := gw_c2 63 rfl rfl
theorem k304 : Cond.fieldLink "RangeCoders$Bits" 28 "RangeCoders$Odds" "signs" "I" ∈ gw := gw_c2 64 rfl rfl
theorem k305 : Cond.fieldLink "RangeCoders$Odds" 29 "RangeCoders$Odds" "sum" "I" ∈ gw := gw_c2 65 rfl rfl
theorem k306 : Cond.fieldLink "RangeCoders$Ranged" 42 "RangeCoders$Odds" "sum" "I" ∈ gw := gw_c2 66 rfl rfl
theorem k307 : Cond.fieldLink "RangeCoders$Table" 75 "RangeCoders$Odds" "sum" "I" ∈ gw := gw_c2 67 rfl rfl
theorem k308 : Cond.fieldLink "RangeCoders$Odds" 15 "RangeCoders$Odds" "firstCell" "I" ∈ gw := gw_c2 68 rfl rfl
theorem k309 : Cond.fieldLink "RangeCoders$Odds" 18 "RangeCoders$Odds" "cells" "[I" ∈ gw := gw_c2 69 rfl rfl
theorem k310 : Cond.fieldLink "RangeCoders$Odds" 22 "RangeCoders$Odds" "placeSigns" "[I" ∈ gw := gw_c2 70 rfl rfl
theorem k311 : Cond.laysFinal "RangeCoders$Odds" "RangeCoders$Odds" "signs" "I" ∈ gw := gw_c2 71 rfl rfl
theorem k313 : Cond.lays "RangeCoders$Odds" "RangeCoders$Odds" "sum" "I" ∈ gw := gw_c2 73 rfl rfl
theorem k315 : Cond.laysFinal "RangeCoders$Odds" "RangeCoders$Odds" "firstCell" "I" ∈ gw := gw_c2 75 rfl rfl
theorem k317 : Cond.laysFinal "RangeCoders$Odds" "RangeCoders$Odds" "cells" "[I" ∈ gw := gw_c2 77 rfl rfl
theorem k319 : Cond.laysFinal "RangeCoders$Odds" "RangeCoders$Odds" "placeSigns" "[I" ∈ gw := gw_c2 79 rfl rfl
theorem k322 : Cond.selects "RangeCoders$Carries" y_Coder_newOdds y_Coder_newOdds ∈ gw := gw_c2 82 rfl rfl
theorem k323 : Cond.selects "RangeCoders$NoCarries" y_Coder_newOdds y_Coder_newOdds ∈ gw := gw_c2 83 rfl rfl
theorem k324 : Cond.selects "RangeCoders$Stack" y_Coder_newOdds y_Coder_newOdds ∈ gw := gw_c2 84 rfl rfl
theorem k325 : Cond.selects "RangeCoders$Table" y_Coder_newOdds y_Table_newOdds ∈ gw := gw_c2 85 rfl rfl
theorem k326 : Cond.instanceMethod y_Table_newOdds ∈ gw := gw_c2 86 rfl rfl
theorem k327 : Cond.code y_Table_newOdds prog_12_method_2_code 2 (some (.object "RangeCoders$Odds")) ∈ gw := gw_c2 87 rfl rfl
theorem k328 : Cond.classLink "RangeCoders$Table" 11 "RangeCoders$Odds" ∈ gw := gw_c2 88 rfl rfl
theorem k329 : Cond.methodLink "RangeCoders$Table" 13 y_Odds_init ∈ gw := gw_c2 89 rfl rfl
theorem k330 : Cond.code y_Coder_newOdds prog_4_method_11_code 2 (some (.object "RangeCoders$Odds")) ∈ gw := gw_c2 90 rfl rfl
theorem k331 : Cond.classLink "RangeCoders$Coder" 22 "RangeCoders$Odds" ∈ gw := gw_c2 91 rfl rfl
theorem k332 : Cond.methodLink "RangeCoders$Coder" 24 y_Odds_init ∈ gw := gw_c2 92 rfl rfl
theorem k333 : Cond.methodLink "RangeCoders" 37 y_Model_init ∈ gw := gw_c2 93 rfl rfl
theorem k334 : Cond.instanceMethod y_Model_init ∈ gw := gw_c2 94 rfl rfl
theorem k335 : Cond.code y_Model_init prog_5_method_1_code 4 none ∈ gw := gw_c2 95 rfl rfl
theorem k336 : Cond.methodLink "RangeCoders$Model" 1 y_Object_init ∈ gw := gw_c2 96 rfl rfl
theorem k337 : Cond.methodLink "RangeCoders$Model" 13 y_Arrays_fill ∈ gw := gw_c2 97 rfl rfl
theorem k338 : Cond.static y_Arrays_fill ∈ gw := gw_c2 98 rfl rfl
theorem k339 : Cond.code y_Arrays_fill prog_18_method_103_code 4 none ∈ gw := gw_c2 99 rfl rfl
theorem k340 : Cond.fieldLink "RangeCoders$Model" 7 "RangeCoders$Model" "counts" "[I" ∈ gw := gw_c2 100 rfl rfl
theorem k341 : Cond.fieldLink "RangeCoders" 44 "RangeCoders$Model" "counts" "[I" ∈ gw := gw_c2 101 rfl rfl
theorem k342 : Cond.fieldLink "RangeCoders$Model" 19 "RangeCoders$Model" "sent" "LRangeCoders$Odds;" ∈ gw := gw_c2 102 rfl rfl
theorem k343 : Cond.fieldLink "RangeCoders" 40 "RangeCoders$Model" "sent" "LRangeCoders$Odds;" ∈ gw := gw_c2 103 rfl rfl
theorem k344 : Cond.fieldLink "RangeCoders$Model" 23 "RangeCoders$Model" "heard" "LRangeCoders$Odds;" ∈ gw := gw_c2 104 rfl rfl
theorem k345 : Cond.fieldLink "RangeCoders" 52 "RangeCoders$Model" "heard" "LRangeCoders$Odds;" ∈ gw := gw_c2 105 rfl rfl
theorem k346 : Cond.laysFinal "RangeCoders$Model" "RangeCoders$Model" "counts" "[I" ∈ gw := gw_c2 106 rfl rfl
theorem k348 : Cond.laysFinal "RangeCoders$Model" "RangeCoders$Model" "sent" "LRangeCoders$Odds;" ∈ gw := gw_c2 108 rfl rfl
theorem k350 : Cond.laysFinal "RangeCoders$Model" "RangeCoders$Model" "heard" "LRangeCoders$Odds;" ∈ gw := gw_c2 110 rfl rfl
theorem k353 : Cond.methodLink "RangeCoders" 48 ⟨"RangeCoders$Coder", "prepare", "(LRangeCoders$Odds;[I)V"⟩ ∈ gw := gw_c2 113 rfl rfl
theorem j354 : Cond.declares ⟨"RangeCoders$Coder", "prepare", "(LRangeCoders$Odds;[I)V"⟩ ∈ lw_tbl := tb_c2 114 rfl
theorem k355 : Cond.sameMethod "RangeCoders$Coder" "RangeCoders$Coder" "prepare" "(LRangeCoders$Odds;[I)V" ∈ gw := gw_c2 115 rfl rfl
theorem k356 : Cond.selects "RangeCoders$Bits" ⟨"RangeCoders$Coder", "prepare", "(LRangeCoders$Odds;[I)V"⟩ y_Bits_prepare ∈ gw := gw_c2 116 rfl rfl
theorem k357 : Cond.instanceMethod y_Bits_prepare ∈ gw := gw_c2 117 rfl rfl
theorem k358 : Cond.code y_Bits_prepare prog_2_method_3_code 3 none ∈ gw := gw_c2 118 rfl rfl
theorem k359 : Cond.methodLink "RangeCoders$Bits" 24 y_Odds_fill ∈ gw := gw_c2 119 rfl rfl
theorem k360 : Cond.instanceMethod y_Odds_fill ∈ gw := gw_c2 120 rfl rfl
theorem k361 : Cond.selects "RangeCoders$Odds" y_Odds_fill y_Odds_fill ∈ gw := gw_c2 121 rfl rfl
theorem k362 : Cond.code y_Odds_fill prog_7_method_5_code 2 none ∈ gw := gw_c2 122 rfl rfl
theorem k363 : Cond.methodLink "RangeCoders$Odds" 32 y_Arrays_fill ∈ gw := gw_c2 123 rfl rfl
theorem k364 : Cond.selects "RangeCoders$Carries" ⟨"RangeCoders$Coder", "prepare", "(LRangeCoders$Odds;[I)V"⟩ y_Ranged_prepare ∈ gw := gw_c2 124 rfl rfl
theorem k365 : Cond.instanceMethod y_Ranged_prepare ∈ gw := gw_c2 125 rfl rfl
theorem k366 : Cond.code y_Ranged_prepare prog_8_method_5_code 3 none ∈ gw := gw_c2 126 rfl rfl
theorem k367 : Cond.methodLink "RangeCoders$Ranged" 17 y_Odds_fromCounts ∈ gw := gw_c2 127 rfl rfl
theorem k368 : Cond.instanceMethod y_Odds_fromCounts ∈ gw := gw_c2 128 rfl rfl
theorem k369 : Cond.selects "RangeCoders$Odds" y_Odds_fromCounts y_Odds_fromCounts ∈ gw := gw_c2 129 rfl rfl
theorem k370 : Cond.code y_Odds_fromCounts prog_7_method_6_code 3 none ∈ gw := gw_c2 130 rfl rfl
theorem k371 : Cond.methodLink "RangeCoders$Odds" 38 y_Odds_copyCounts ∈ gw := gw_c2 131 rfl rfl
theorem k373 : Cond.instanceMethod y_Odds_copyCounts ∈ gw := gw_c2 133 rfl rfl
theorem k374 : Cond.code y_Odds_copyCounts prog_7_method_15_code 3 none ∈ gw := gw_c2 134 rfl rfl
theorem k375 : Cond.methodLink "RangeCoders$Odds" 42 y_Odds_halve ∈ gw := gw_c2 135 rfl rfl
theorem k377 : Cond.instanceMethod y_Odds_halve ∈ gw := gw_c2 137 rfl rfl
theorem k378 : Cond.code y_Odds_halve prog_7_method_16_code 2 none ∈ gw := gw_c2 138 rfl rfl
theorem k379 : Cond.selects "RangeCoders$NoCarries" ⟨"RangeCoders$Coder", "prepare", "(LRangeCoders$Odds;[I)V"⟩ y_Ranged_prepare ∈ gw := gw_c2 139 rfl rfl
theorem k380 : Cond.selects "RangeCoders$Stack" ⟨"RangeCoders$Coder", "prepare", "(LRangeCoders$Odds;[I)V"⟩ y_Stack_prepare ∈ gw := gw_c2 140 rfl rfl
theorem k381 : Cond.instanceMethod y_Stack_prepare ∈ gw := gw_c2 141 rfl rfl
theorem k382 : Cond.code y_Stack_prepare prog_10_method_2_code 3 none ∈ gw := gw_c2 142 rfl rfl
theorem k383 : Cond.methodLink "RangeCoders$Stack" 11 y_Odds_scaleTo ∈ gw := gw_c2 143 rfl rfl
theorem k384 : Cond.instanceMethod y_Odds_scaleTo ∈ gw := gw_c2 144 rfl rfl
theorem k385 : Cond.selects "RangeCoders$Odds" y_Odds_scaleTo y_Odds_scaleTo ∈ gw := gw_c2 145 rfl rfl
theorem k386 : Cond.code y_Odds_scaleTo prog_7_method_10_code 5 none ∈ gw := gw_c2 146 rfl rfl
theorem k387 : Cond.methodLink "RangeCoders$Odds" 49 y_Math_max ∈ gw := gw_c2 147 rfl rfl
theorem k388 : Cond.methodLink "RangeCoders$Odds" 55 y_Odds_greatest ∈ gw := gw_c2 148 rfl rfl
theorem k390 : Cond.instanceMethod y_Odds_greatest ∈ gw := gw_c2 150 rfl rfl
theorem k391 : Cond.code y_Odds_greatest prog_7_method_17_code 3 (some .int) ∈ gw := gw_c2 151 rfl rfl
theorem k392 : Cond.methodLink "RangeCoders$Odds" 45 y_Odds_grow ∈ gw := gw_c2 152 rfl rfl
theorem k393 : Cond.instanceMethod y_Odds_grow ∈ gw := gw_c2 153 rfl rfl
theorem k394 : Cond.selects "RangeCoders$Odds" y_Odds_grow y_Odds_grow ∈ gw := gw_c2 154 rfl rfl
theorem k395 : Cond.code y_Odds_grow prog_7_method_4_code 3 none ∈ gw := gw_c2 155 rfl rfl
theorem k396 : Cond.methodLink "RangeCoders$Odds" 25 y_Odds_hasCell ∈ gw := gw_c2 156 rfl rfl
theorem k397 : Cond.instanceMethod y_Odds_hasCell ∈ gw := gw_c2 157 rfl rfl
theorem k398 : Cond.selects "RangeCoders$Odds" y_Odds_hasCell y_Odds_hasCell ∈ gw := gw_c2 158 rfl rfl
theorem k399 : Cond.code y_Odds_hasCell prog_7_method_2_code 2 (some .boolean) ∈ gw := gw_c2 159 rfl rfl
theorem k400 : Cond.selects "RangeCoders$Table" ⟨"RangeCoders$Coder", "prepare", "(LRangeCoders$Odds;[I)V"⟩ y_Table_prepare ∈ gw := gw_c2 160 rfl rfl
theorem k401 : Cond.instanceMethod y_Table_prepare ∈ gw := gw_c2 161 rfl rfl
theorem k402 : Cond.code y_Table_prepare prog_12_method_3_code 3 none ∈ gw := gw_c2 162 rfl rfl
theorem k403 : Cond.methodLink "RangeCoders$Table" 16 y_Odds_scaleTo ∈ gw := gw_c2 163 rfl rfl
theorem k404 : Cond.methodLink "RangeCoders$Table" 20 y_Odds_spread ∈ gw := gw_c2 164 rfl rfl
theorem k405 : Cond.instanceMethod y_Odds_spread ∈ gw := gw_c2 165 rfl rfl
theorem k406 : Cond.selects "RangeCoders$Odds" y_Odds_spread y_Odds_spread ∈ gw := gw_c2 166 rfl rfl
theorem k407 : Cond.code y_Odds_spread prog_7_method_11_code 4 none ∈ gw := gw_c2 167 rfl rfl
theorem k408 : Cond.methodLink "RangeCodersLaw" 26 y_RC_count ∈ gw := gw_c2 168 rfl rfl
theorem k409 : Cond.instanceMethod y_RC_count ∈ gw := gw_c2 169 rfl rfl
theorem k410 : Cond.selects "RangeCoders" y_RC_count y_RC_count ∈ gw := gw_c2 170 rfl rfl
theorem k411 : Cond.code y_RC_count prog_1_method_3_code 6 (some .int) ∈ gw := gw_c2 171 rfl rfl
theorem k412 : Cond.methodLink "RangeCoders" 55 y_RC_modelAt ∈ gw := gw_c2 172 rfl rfl
theorem k414 : Cond.instanceMethod y_RC_modelAt ∈ gw := gw_c2 174 rfl rfl
theorem k415 : Cond.code y_RC_modelAt prog_1_method_20_code 2 (some (.object "RangeCoders$Model")) ∈ gw := gw_c2 175 rfl rfl
theorem k416 : Cond.methodLink "RangeCoders" 59 y_Model_hasSign ∈ gw := gw_c2 176 rfl rfl
theorem k417 : Cond.instanceMethod y_Model_hasSign ∈ gw := gw_c2 177 rfl rfl
theorem k418 : Cond.selects "RangeCoders$Model" y_Model_hasSign y_Model_hasSign ∈ gw := gw_c2 178 rfl rfl
theorem k419 : Cond.code y_Model_hasSign prog_5_method_2_code 2 (some .boolean) ∈ gw := gw_c2 179 rfl rfl
theorem k420 : Cond.methodLink "RangeCodersLaw" 31 y_RC_put ∈ gw := gw_c2 180 rfl rfl
theorem k421 : Cond.instanceMethod y_RC_put ∈ gw := gw_c2 181 rfl rfl
theorem k422 : Cond.selects "RangeCoders" y_RC_put y_RC_put ∈ gw := gw_c2 182 rfl rfl
theorem k423 : Cond.code y_RC_put prog_1_method_4_code 4 (some .int) ∈ gw := gw_c2 183 rfl rfl
theorem k424 : Cond.methodLink "RangeCoders" 73 y_Coder_canWrite ∈ gw := gw_c2 184 rfl rfl
theorem k425 : Cond.instanceMethod y_Coder_canWrite ∈ gw := gw_c2 185 rfl rfl
theorem k426 : Cond.sameMethod "RangeCoders$Coder" "RangeCoders$Coder" "canWrite" "(LRangeCoders$Odds;I)Z" ∈ gw := gw_c2 186 rfl rfl
theorem k427 : Cond.selects "RangeCoders$Bits" y_Coder_canWrite y_Bits_canWrite ∈ gw := gw_c2 187 rfl rfl
theorem k428 : Cond.instanceMethod y_Bits_canWrite ∈ gw := gw_c2 188 rfl rfl
theorem k429 : Cond.code y_Bits_canWrite prog_2_method_4_code 3 (some .boolean) ∈ gw := gw_c2 189 rfl rfl
theorem k430 : Cond.selects "RangeCoders$Carries" y_Coder_canWrite y_Coder_canWrite ∈ gw := gw_c2 190 rfl rfl
theorem k431 : Cond.selects "RangeCoders$NoCarries" y_Coder_canWrite y_Coder_canWrite ∈ gw := gw_c2 191 rfl rfl
theorem k432 : Cond.selects "RangeCoders$Stack" y_Coder_canWrite y_Coder_canWrite ∈ gw := gw_c2 192 rfl rfl
theorem k433 : Cond.selects "RangeCoders$Table" y_Coder_canWrite y_Coder_canWrite ∈ gw := gw_c2 193 rfl rfl
theorem k434 : Cond.code y_Coder_canWrite prog_4_method_12_code 3 (some .boolean) ∈ gw := gw_c2 194 rfl rfl
theorem k435 : Cond.methodLink "RangeCoders$Coder" 27 y_Odds_at ∈ gw := gw_c2 195 rfl rfl
theorem k436 : Cond.instanceMethod y_Odds_at ∈ gw := gw_c2 196 rfl rfl
theorem k437 : Cond.selects "RangeCoders$Odds" y_Odds_at y_Odds_at ∈ gw := gw_c2 197 rfl rfl
theorem k438 : Cond.code y_Odds_at prog_7_method_3_code 2 (some .int) ∈ gw := gw_c2 198 rfl rfl
theorem k439 : Cond.methodLink "RangeCoders" 77 ⟨"RangeCoders$Coder", "writeSign", "(LRangeCoders$Odds;I)V"⟩ ∈ gw := gw_c2 199 rfl rfl
theorem j440 : Cond.declares ⟨"RangeCoders$Coder", "writeSign", "(LRangeCoders$Odds;I)V"⟩ ∈ lw_tbl := tb_c2 200 rfl
theorem k441 : Cond.sameMethod "RangeCoders$Coder" "RangeCoders$Coder" "writeSign" "(LRangeCoders$Odds;I)V" ∈ gw := gw_c2 201 rfl rfl
theorem k442 : Cond.selects "RangeCoders$Bits" ⟨"RangeCoders$Coder", "writeSign", "(LRangeCoders$Odds;I)V"⟩ y_Bits_writeSign ∈ gw := gw_c2 202 rfl rfl
theorem k443 : Cond.instanceMethod y_Bits_writeSign ∈ gw := gw_c2 203 rfl rfl
theorem k444 : Cond.code y_Bits_writeSign prog_2_method_5_code 6 none ∈ gw := gw_c2 204 rfl rfl
theorem k445 : Cond.methodLink "RangeCoders$Bits" 31 y_Bits_writeBit ∈ gw := gw_c2 205 rfl rfl
theorem k447 : Cond.instanceMethod y_Bits_writeBit ∈ gw := gw_c2 207 rfl rfl
theorem k448 : Cond.code y_Bits_writeBit prog_2_method_10_code 6 none ∈ gw := gw_c2 208 rfl rfl
theorem k449 : Cond.methodLink "RangeCoders$Bits" 65 y_Odds_at ∈ gw := gw_c2 209 rfl rfl
theorem k450 : Cond.methodLink "RangeCoders$Bits" 68 y_Bits_adapt ∈ gw := gw_c2 210 rfl rfl
theorem k452 : Cond.instanceMethod y_Bits_adapt ∈ gw := gw_c2 212 rfl rfl
theorem k453 : Cond.code y_Bits_adapt prog_2_method_12_code 5 none ∈ gw := gw_c2 213 rfl rfl
theorem k454 : Cond.methodLink "RangeCoders$Bits" 71 y_Odds_grow ∈ gw := gw_c2 214 rfl rfl
theorem k455 : Cond.methodLink "RangeCoders$Bits" 42 ⟨"RangeCoders$Bits", "widen", "()V"⟩ ∈ gw := gw_c2 215 rfl rfl
theorem k456 : Cond.sameMethod "RangeCoders$Bits" "RangeCoders$Carries" "widen" "()V" ∈ gw := gw_c2 216 rfl rfl
theorem k458 : Cond.selects "RangeCoders$Bits" ⟨"RangeCoders$Bits", "widen", "()V"⟩ y_Carries_widen ∈ gw := gw_c2 218 rfl rfl
theorem k459 : Cond.instanceMethod y_Carries_widen ∈ gw := gw_c2 219 rfl rfl
theorem k460 : Cond.code y_Carries_widen prog_3_method_6_code 2 none ∈ gw := gw_c2 220 rfl rfl
theorem k461 : Cond.constantLong "RangeCoders$Carries" 43 16777216 ∈ gw := gw_c2 221 rfl rfl
theorem k462 : Cond.constantLong "RangeCoders$Carries" 45 4294967295 ∈ gw := gw_c2 222 rfl rfl
theorem k463 : Cond.methodLink "RangeCoders$Carries" 40 y_Carries_shiftLow ∈ gw := gw_c2 223 rfl rfl
theorem k465 : Cond.instanceMethod y_Carries_shiftLow ∈ gw := gw_c2 225 rfl rfl
theorem k466 : Cond.code y_Carries_shiftLow prog_3_method_8_code 1 none ∈ gw := gw_c2 226 rfl rfl
theorem k467 : Cond.constantLong "RangeCoders$Carries" 51 4278190080 ∈ gw := gw_c2 227 rfl rfl
theorem k468 : Cond.methodLink "RangeCoders$Carries" 53 y_Carries_writeWaiting ∈ gw := gw_c2 228 rfl rfl
theorem k470 : Cond.instanceMethod y_Carries_writeWaiting ∈ gw := gw_c2 230 rfl rfl
theorem k471 : Cond.code y_Carries_writeWaiting prog_3_method_9_code 3 none ∈ gw := gw_c2 231 rfl rfl
theorem k472 : Cond.methodLink "RangeCoders$Carries" 61 y_Row_add ∈ gw := gw_c2 232 rfl rfl
theorem k473 : Cond.instanceMethod y_Row_add ∈ gw := gw_c2 233 rfl rfl
theorem k474 : Cond.selects "RangeCoders$Row" y_Row_add y_Row_add ∈ gw := gw_c2 234 rfl rfl
theorem k475 : Cond.code y_Row_add prog_9_method_5_code 2 none ∈ gw := gw_c2 235 rfl rfl
theorem k476 : Cond.methodLink "RangeCoders$Row" 23 y_Arrays_copyOf ∈ gw := gw_c2 236 rfl rfl
theorem k477 : Cond.static y_Arrays_copyOf ∈ gw := gw_c2 237 rfl rfl
theorem k478 : Cond.code y_Arrays_copyOf prog_18_method_123_code 3 (some (.array .int)) ∈ gw := gw_c2 238 rfl rfl
theorem k486 : Cond.methodLink "java/util/Arrays" 304 y_Math_min ∈ gw := gw_c3 6 rfl rfl
theorem k487 : Cond.methodLink "java/util/Arrays" 150 ⟨"java/lang/System", "arraycopy", "(Ljava/lang/Object;ILjava/lang/Object;II)V"⟩ ∈ gw := gw_c3 7 rfl rfl
theorem k488 : Cond.static ⟨"java/lang/System", "arraycopy", "(Ljava/lang/Object;ILjava/lang/Object;II)V"⟩ ∈ gw := gw_c3 8 rfl rfl
theorem k489 : Cond.native ⟨"java/lang/System", "arraycopy", "(Ljava/lang/Object;ILjava/lang/Object;II)V"⟩ ∈ gw := gw_c3 9 rfl rfl
theorem k490 : Cond.selects "RangeCoders$Carries" ⟨"RangeCoders$Coder", "writeSign", "(LRangeCoders$Odds;I)V"⟩ y_Ranged_writeSign ∈ gw := gw_c3 10 rfl rfl
theorem k491 : Cond.instanceMethod y_Ranged_writeSign ∈ gw := gw_c3 11 rfl rfl
theorem k492 : Cond.code y_Ranged_writeSign prog_8_method_7_code 3 none ∈ gw := gw_c3 12 rfl rfl
theorem k493 : Cond.methodLink "RangeCoders$Ranged" 35 y_Odds_at ∈ gw := gw_c3 13 rfl rfl
theorem k494 : Cond.methodLink "RangeCoders$Ranged" 39 y_Odds_below ∈ gw := gw_c3 14 rfl rfl
theorem k495 : Cond.instanceMethod y_Odds_below ∈ gw := gw_c3 15 rfl rfl
theorem k496 : Cond.selects "RangeCoders$Odds" y_Odds_below y_Odds_below ∈ gw := gw_c3 16 rfl rfl
theorem k497 : Cond.code y_Odds_below prog_7_method_8_code 4 (some .int) ∈ gw := gw_c3 17 rfl rfl
theorem k498 : Cond.methodLink "RangeCoders$Ranged" 46 ⟨"RangeCoders$Ranged", "writePart", "(III)V"⟩ ∈ gw := gw_c3 18 rfl rfl
theorem j499 : Cond.declares ⟨"RangeCoders$Ranged", "writePart", "(III)V"⟩ ∈ lw_tbl := tb_c3 19 rfl
theorem k500 : Cond.sameMethod "RangeCoders$Ranged" "RangeCoders$Ranged" "writePart" "(III)V" ∈ gw := gw_c3 20 rfl rfl
theorem k502 : Cond.instanceMethod y_Carries_writePart ∈ gw := gw_c3 22 rfl rfl
theorem k503 : Cond.code y_Carries_writePart prog_3_method_3_code 6 none ∈ gw := gw_c3 23 rfl rfl
theorem k504 : Cond.methodLink "RangeCoders$Carries" 28 y_Carries_widen ∈ gw := gw_c3 24 rfl rfl
theorem k505 : Cond.selects "RangeCoders$Carries" ⟨"RangeCoders$Ranged", "writePart", "(III)V"⟩ y_Carries_writePart ∈ gw := gw_c3 25 rfl rfl
theorem k506 : Cond.selects "RangeCoders$NoCarries" ⟨"RangeCoders$Ranged", "writePart", "(III)V"⟩ y_NoCarries_writePart ∈ gw := gw_c3 26 rfl rfl
theorem k507 : Cond.instanceMethod y_NoCarries_writePart ∈ gw := gw_c3 27 rfl rfl
theorem k508 : Cond.code y_NoCarries_writePart prog_6_method_2_code 7 none ∈ gw := gw_c3 28 rfl rfl
theorem k509 : Cond.constantLong "RangeCoders$NoCarries" 18 4294967295 ∈ gw := gw_c3 29 rfl rfl
theorem k510 : Cond.methodLink "RangeCoders$NoCarries" 20 y_NoCarries_mustMove ∈ gw := gw_c3 30 rfl rfl
theorem k511 : Cond.static y_NoCarries_mustMove ∈ gw := gw_c3 31 rfl rfl
theorem k512 : Cond.code y_NoCarries_mustMove prog_6_method_7_code 4 (some .boolean) ∈ gw := gw_c3 32 rfl rfl
theorem k513 : Cond.methodLink "RangeCoders$NoCarries" 54 y_NoCarries_sameTop ∈ gw := gw_c3 33 rfl rfl
theorem k514 : Cond.static y_NoCarries_sameTop ∈ gw := gw_c3 34 rfl rfl
theorem k515 : Cond.code y_NoCarries_sameTop prog_6_method_6_code 4 (some .boolean) ∈ gw := gw_c3 35 rfl rfl
theorem k516 : Cond.constantLong "RangeCoders$NoCarries" 57 65536 ∈ gw := gw_c3 36 rfl rfl
theorem k517 : Cond.methodLink "RangeCoders$NoCarries" 24 y_NoCarries_moved ∈ gw := gw_c3 37 rfl rfl
theorem k518 : Cond.static y_NoCarries_moved ∈ gw := gw_c3 38 rfl rfl
theorem k519 : Cond.code y_NoCarries_moved prog_6_method_8_code 6 (some .long) ∈ gw := gw_c3 39 rfl rfl
theorem k520 : Cond.constantLong "RangeCoders$NoCarries" 59 65535 ∈ gw := gw_c3 40 rfl rfl
theorem k521 : Cond.methodLink "RangeCoders$NoCarries" 28 y_NoCarries_writeTop ∈ gw := gw_c3 41 rfl rfl
theorem k523 : Cond.instanceMethod y_NoCarries_writeTop ∈ gw := gw_c3 43 rfl rfl
theorem k524 : Cond.code y_NoCarries_writeTop prog_6_method_5_code 1 none ∈ gw := gw_c3 44 rfl rfl
theorem k525 : Cond.methodLink "RangeCoders$NoCarries" 48 y_Row_add ∈ gw := gw_c3 45 rfl rfl
theorem k526 : Cond.methodLink "RangeCoders$Ranged" 50 y_Odds_learn ∈ gw := gw_c3 46 rfl rfl
theorem k527 : Cond.instanceMethod y_Odds_learn ∈ gw := gw_c3 47 rfl rfl
theorem k528 : Cond.selects "RangeCoders$Odds" y_Odds_learn y_Odds_learn ∈ gw := gw_c3 48 rfl rfl
theorem k529 : Cond.code y_Odds_learn prog_7_method_7_code 2 none ∈ gw := gw_c3 49 rfl rfl
theorem k530 : Cond.selects "RangeCoders$NoCarries" ⟨"RangeCoders$Coder", "writeSign", "(LRangeCoders$Odds;I)V"⟩ y_Ranged_writeSign ∈ gw := gw_c3 50 rfl rfl
theorem k531 : Cond.selects "RangeCoders$Stack" ⟨"RangeCoders$Coder", "writeSign", "(LRangeCoders$Odds;I)V"⟩ y_Stacked_writeSign ∈ gw := gw_c3 51 rfl rfl
theorem k532 : Cond.instanceMethod y_Stacked_writeSign ∈ gw := gw_c3 52 rfl rfl
theorem k533 : Cond.code y_Stacked_writeSign prog_11_method_7_code 3 none ∈ gw := gw_c3 53 rfl rfl
theorem k534 : Cond.methodLink "RangeCoders$Stacked" 28 y_Stacked_keep ∈ gw := gw_c3 54 rfl rfl
theorem k536 : Cond.instanceMethod y_Stacked_keep ∈ gw := gw_c3 56 rfl rfl
theorem k537 : Cond.code y_Stacked_keep prog_11_method_11_code 4 none ∈ gw := gw_c3 57 rfl rfl
theorem k538 : Cond.selects "RangeCoders$Table" ⟨"RangeCoders$Coder", "writeSign", "(LRangeCoders$Odds;I)V"⟩ y_Stacked_writeSign ∈ gw := gw_c3 58 rfl rfl
theorem k539 : Cond.methodLink "RangeCodersLaw" 36 y_RC_bits ∈ gw := gw_c3 59 rfl rfl
theorem k540 : Cond.instanceMethod y_RC_bits ∈ gw := gw_c3 60 rfl rfl
theorem k541 : Cond.selects "RangeCoders" y_RC_bits y_RC_bits ∈ gw := gw_c3 61 rfl rfl
theorem k542 : Cond.code y_RC_bits prog_1_method_5_code 3 (some .int) ∈ gw := gw_c3 62 rfl rfl
theorem k543 : Cond.methodLink "RangeCoders" 81 y_Coder_hasWidth ∈ gw := gw_c3 63 rfl rfl
theorem k544 : Cond.instanceMethod y_Coder_hasWidth ∈ gw := gw_c3 64 rfl rfl
theorem k545 : Cond.sameMethod "RangeCoders$Coder" "RangeCoders$Coder" "hasWidth" "(I)Z" ∈ gw := gw_c3 65 rfl rfl
theorem k546 : Cond.selects "RangeCoders$Bits" y_Coder_hasWidth y_Coder_hasWidth ∈ gw := gw_c3 66 rfl rfl
theorem k547 : Cond.selects "RangeCoders$Carries" y_Coder_hasWidth y_Coder_hasWidth ∈ gw := gw_c3 67 rfl rfl
theorem k548 : Cond.selects "RangeCoders$NoCarries" y_Coder_hasWidth y_Coder_hasWidth ∈ gw := gw_c3 68 rfl rfl
theorem k549 : Cond.selects "RangeCoders$Stack" y_Coder_hasWidth y_Coder_hasWidth ∈ gw := gw_c3 69 rfl rfl
theorem k550 : Cond.selects "RangeCoders$Table" y_Coder_hasWidth y_Table_hasWidth ∈ gw := gw_c3 70 rfl rfl
theorem k551 : Cond.instanceMethod y_Table_hasWidth ∈ gw := gw_c3 71 rfl rfl
theorem k552 : Cond.code y_Table_hasWidth prog_12_method_4_code 2 (some .boolean) ∈ gw := gw_c3 72 rfl rfl
theorem k553 : Cond.code y_Coder_hasWidth prog_4_method_13_code 2 (some .boolean) ∈ gw := gw_c3 73 rfl rfl
theorem k554 : Cond.methodLink "RangeCoders" 84 ⟨"RangeCoders$Coder", "writeValue", "(II)V"⟩ ∈ gw := gw_c3 74 rfl rfl
theorem j555 : Cond.declares ⟨"RangeCoders$Coder", "writeValue", "(II)V"⟩ ∈ lw_tbl := tb_c3 75 rfl
theorem k556 : Cond.sameMethod "RangeCoders$Coder" "RangeCoders$Coder" "writeValue" "(II)V" ∈ gw := gw_c3 76 rfl rfl
theorem k557 : Cond.selects "RangeCoders$Bits" ⟨"RangeCoders$Coder", "writeValue", "(II)V"⟩ y_Bits_writeValue ∈ gw := gw_c3 77 rfl rfl
theorem k558 : Cond.instanceMethod y_Bits_writeValue ∈ gw := gw_c3 78 rfl rfl
theorem k559 : Cond.code y_Bits_writeValue prog_2_method_6_code 4 none ∈ gw := gw_c3 79 rfl rfl
theorem k560 : Cond.selects "RangeCoders$Carries" ⟨"RangeCoders$Coder", "writeValue", "(II)V"⟩ y_Ranged_writeValue ∈ gw := gw_c3 80 rfl rfl
theorem k561 : Cond.instanceMethod y_Ranged_writeValue ∈ gw := gw_c3 81 rfl rfl
theorem k562 : Cond.code y_Ranged_writeValue prog_8_method_8_code 3 none ∈ gw := gw_c3 82 rfl rfl
theorem k563 : Cond.selects "RangeCoders$NoCarries" ⟨"RangeCoders$Coder", "writeValue", "(II)V"⟩ y_Ranged_writeValue ∈ gw := gw_c3 83 rfl rfl
theorem k564 : Cond.selects "RangeCoders$Stack" ⟨"RangeCoders$Coder", "writeValue", "(II)V"⟩ y_Stacked_writeValue ∈ gw := gw_c3 84 rfl rfl
theorem k565 : Cond.instanceMethod y_Stacked_writeValue ∈ gw := gw_c3 85 rfl rfl
theorem k566 : Cond.code y_Stacked_writeValue prog_11_method_8_code 3 none ∈ gw := gw_c3 86 rfl rfl
theorem k567 : Cond.selects "RangeCoders$Table" ⟨"RangeCoders$Coder", "writeValue", "(II)V"⟩ y_Stacked_writeValue ∈ gw := gw_c3 87 rfl rfl
theorem k568 : Cond.methodLink "RangeCodersLaw" 40 y_RC_end ∈ gw := gw_c3 88 rfl rfl
theorem k569 : Cond.instanceMethod y_RC_end ∈ gw := gw_c3 89 rfl rfl
theorem k570 : Cond.selects "RangeCoders" y_RC_end y_RC_end ∈ gw := gw_c3 90 rfl rfl
theorem k571 : Cond.code y_RC_end prog_1_method_6_code 1 (some .int) ∈ gw := gw_c3 91 rfl rfl
theorem k572 : Cond.methodLink "RangeCoders" 88 ⟨"RangeCoders$Coder", "closeMessage", "()V"⟩ ∈ gw := gw_c3 92 rfl rfl
theorem j573 : Cond.declares ⟨"RangeCoders$Coder", "closeMessage", "()V"⟩ ∈ lw_tbl := tb_c3 93 rfl
theorem k574 : Cond.sameMethod "RangeCoders$Coder" "RangeCoders$Coder" "closeMessage" "()V" ∈ gw := gw_c3 94 rfl rfl
theorem k575 : Cond.selects "RangeCoders$Bits" ⟨"RangeCoders$Coder", "closeMessage", "()V"⟩ y_Ranged_closeMessage ∈ gw := gw_c3 95 rfl rfl
theorem k576 : Cond.instanceMethod y_Ranged_closeMessage ∈ gw := gw_c3 96 rfl rfl
theorem k577 : Cond.code y_Ranged_closeMessage prog_8_method_9_code 2 none ∈ gw := gw_c3 97 rfl rfl
theorem k578 : Cond.methodLink "RangeCoders$Ranged" 54 ⟨"RangeCoders$Ranged", "flush", "()V"⟩ ∈ gw := gw_c3 98 rfl rfl
theorem j579 : Cond.declares ⟨"RangeCoders$Ranged", "flush", "()V"⟩ ∈ lw_tbl := tb_c3 99 rfl
theorem k580 : Cond.sameMethod "RangeCoders$Ranged" "RangeCoders$Ranged" "flush" "()V" ∈ gw := gw_c3 100 rfl rfl
theorem k581 : Cond.selects "RangeCoders$Bits" ⟨"RangeCoders$Ranged", "flush", "()V"⟩ y_Carries_flush ∈ gw := gw_c3 101 rfl rfl
theorem k582 : Cond.instanceMethod y_Carries_flush ∈ gw := gw_c3 102 rfl rfl
theorem k583 : Cond.code y_Carries_flush prog_3_method_5_code 2 none ∈ gw := gw_c3 103 rfl rfl
theorem k584 : Cond.selects "RangeCoders$Carries" ⟨"RangeCoders$Ranged", "flush", "()V"⟩ y_Carries_flush ∈ gw := gw_c3 104 rfl rfl
theorem k585 : Cond.selects "RangeCoders$NoCarries" ⟨"RangeCoders$Ranged", "flush", "()V"⟩ y_NoCarries_flush ∈ gw := gw_c3 105 rfl rfl
theorem k586 : Cond.instanceMethod y_NoCarries_flush ∈ gw := gw_c3 106 rfl rfl
theorem k587 : Cond.code y_NoCarries_flush prog_6_method_4_code 2 none ∈ gw := gw_c3 107 rfl rfl
theorem k588 : Cond.selects "RangeCoders$Carries" ⟨"RangeCoders$Coder", "closeMessage", "()V"⟩ y_Ranged_closeMessage ∈ gw := gw_c3 108 rfl rfl
theorem k589 : Cond.selects "RangeCoders$NoCarries" ⟨"RangeCoders$Coder", "closeMessage", "()V"⟩ y_Ranged_closeMessage ∈ gw := gw_c3 109 rfl rfl
theorem k590 : Cond.selects "RangeCoders$Stack" ⟨"RangeCoders$Coder", "closeMessage", "()V"⟩ y_Stacked_closeMessage ∈ gw := gw_c3 110 rfl rfl
theorem k591 : Cond.instanceMethod y_Stacked_closeMessage ∈ gw := gw_c3 111 rfl rfl
theorem k592 : Cond.code y_Stacked_closeMessage prog_11_method_9_code 2 none ∈ gw := gw_c3 112 rfl rfl
theorem k593 : Cond.methodLink "RangeCoders$Stacked" 36 y_Row_clear ∈ gw := gw_c3 113 rfl rfl
theorem k594 : Cond.instanceMethod y_Row_clear ∈ gw := gw_c3 114 rfl rfl
theorem k595 : Cond.selects "RangeCoders$Row" y_Row_clear y_Row_clear ∈ gw := gw_c3 115 rfl rfl
theorem k596 : Cond.code y_Row_clear prog_9_method_6_code 1 none ∈ gw := gw_c3 116 rfl rfl
theorem k597 : Cond.methodLink "RangeCoders$Stacked" 41 ⟨"RangeCoders$Stacked", "openStack", "()V"⟩ ∈ gw := gw_c3 117 rfl rfl
theorem j598 : Cond.declares ⟨"RangeCoders$Stacked", "openStack", "()V"⟩ ∈ lw_tbl := tb_c3 118 rfl
theorem k599 : Cond.sameMethod "RangeCoders$Stacked" "RangeCoders$Stacked" "openStack" "()V" ∈ gw := gw_c3 119 rfl rfl
theorem k600 : Cond.selects "RangeCoders$Stack" ⟨"RangeCoders$Stacked", "openStack", "()V"⟩ y_Stack_openStack ∈ gw := gw_c3 120 rfl rfl
theorem k601 : Cond.instanceMethod y_Stack_openStack ∈ gw := gw_c3 121 rfl rfl
theorem k602 : Cond.code y_Stack_openStack prog_10_method_3_code 1 none ∈ gw := gw_c3 122 rfl rfl
theorem k603 : Cond.constantLong "RangeCoders$Stack" 17 8388608 ∈ gw := gw_c3 123 rfl rfl
theorem k604 : Cond.selects "RangeCoders$Table" ⟨"RangeCoders$Stacked", "openStack", "()V"⟩ y_Table_openStack ∈ gw := gw_c3 124 rfl rfl
theorem k605 : Cond.instanceMethod y_Table_openStack ∈ gw := gw_c3 125 rfl rfl
theorem k606 : Cond.code y_Table_openStack prog_12_method_6_code 1 none ∈ gw := gw_c3 126 rfl rfl
theorem k607 : Cond.constantLong "RangeCoders$Table" 27 512 ∈ gw := gw_c3 127 rfl rfl
theorem k608 : Cond.methodLink "RangeCoders$Stacked" 44 y_Math_min ∈ gw := gw_c3 128 rfl rfl
theorem k609 : Cond.methodLink "RangeCoders$Stacked" 50 ⟨"RangeCoders$Stacked", "stackValue", "(II)V"⟩ ∈ gw := gw_c3 129 rfl rfl
theorem j610 : Cond.declares ⟨"RangeCoders$Stacked", "stackValue", "(II)V"⟩ ∈ lw_tbl := tb_c3 130 rfl
theorem k611 : Cond.sameMethod "RangeCoders$Stacked" "RangeCoders$Stacked" "stackValue" "(II)V" ∈ gw := gw_c3 131 rfl rfl
theorem k612 : Cond.selects "RangeCoders$Stack" ⟨"RangeCoders$Stacked", "stackValue", "(II)V"⟩ y_Stack_stackValue ∈ gw := gw_c3 132 rfl rfl
theorem k613 : Cond.instanceMethod y_Stack_stackValue ∈ gw := gw_c3 133 rfl rfl
theorem k614 : Cond.code y_Stack_stackValue prog_10_method_5_code 4 none ∈ gw := gw_c3 134 rfl rfl
theorem k615 : Cond.methodLink "RangeCoders$Stack" 30 y_Stack_stackPart ∈ gw := gw_c3 135 rfl rfl
theorem k617 : Cond.instanceMethod y_Stack_stackPart ∈ gw := gw_c3 137 rfl rfl
theorem k618 : Cond.code y_Stack_stackPart prog_10_method_10_code 4 none ∈ gw := gw_c3 138 rfl rfl
theorem k619 : Cond.methodLink "RangeCoders$Stack" 34 y_Stack_writeLowest ∈ gw := gw_c3 139 rfl rfl
theorem k621 : Cond.instanceMethod y_Stack_writeLowest ∈ gw := gw_c3 141 rfl rfl
theorem k622 : Cond.code y_Stack_writeLowest prog_10_method_11_code 1 none ∈ gw := gw_c3 142 rfl rfl
theorem k623 : Cond.constantLong "RangeCoders$Stack" 67 255 ∈ gw := gw_c3 143 rfl rfl
theorem k624 : Cond.methodLink "RangeCoders$Stack" 69 y_Row_add ∈ gw := gw_c3 144 rfl rfl
theorem k625 : Cond.constantLong "RangeCoders$Stack" 65 4096 ∈ gw := gw_c3 145 rfl rfl
theorem k626 : Cond.selects "RangeCoders$Table" ⟨"RangeCoders$Stacked", "stackValue", "(II)V"⟩ y_Table_stackValue ∈ gw := gw_c3 146 rfl rfl
theorem k627 : Cond.instanceMethod y_Table_stackValue ∈ gw := gw_c3 147 rfl rfl
theorem k628 : Cond.code y_Table_stackValue prog_12_method_8_code 4 none ∈ gw := gw_c3 148 rfl rfl
theorem k629 : Cond.methodLink "RangeCoders$Table" 43 y_Row_add ∈ gw := gw_c3 149 rfl rfl
theorem k630 : Cond.methodLink "RangeCoders$Stacked" 54 ⟨"RangeCoders$Stacked", "stackSign", "(LRangeCoders$Odds;I)V"⟩ ∈ gw := gw_c3 150 rfl rfl
theorem j631 : Cond.declares ⟨"RangeCoders$Stacked", "stackSign", "(LRangeCoders$Odds;I)V"⟩ ∈ lw_tbl := tb_c3 151 rfl
theorem k632 : Cond.sameMethod "RangeCoders$Stacked" "RangeCoders$Stacked" "stackSign" "(LRangeCoders$Odds;I)V" ∈ gw := gw_c3 152 rfl rfl
theorem k633 : Cond.selects "RangeCoders$Stack" ⟨"RangeCoders$Stacked", "stackSign", "(LRangeCoders$Odds;I)V"⟩ y_Stack_stackSign ∈ gw := gw_c3 153 rfl rfl
theorem k634 : Cond.instanceMethod y_Stack_stackSign ∈ gw := gw_c3 154 rfl rfl
theorem k635 : Cond.code y_Stack_stackSign prog_10_method_4_code 3 none ∈ gw := gw_c3 155 rfl rfl
theorem k636 : Cond.methodLink "RangeCoders$Stack" 23 y_Odds_at ∈ gw := gw_c3 156 rfl rfl
theorem k637 : Cond.methodLink "RangeCoders$Stack" 27 y_Odds_below ∈ gw := gw_c3 157 rfl rfl
theorem k638 : Cond.selects "RangeCoders$Table" ⟨"RangeCoders$Stacked", "stackSign", "(LRangeCoders$Odds;I)V"⟩ y_Table_stackSign ∈ gw := gw_c3 158 rfl rfl
theorem k639 : Cond.instanceMethod y_Table_stackSign ∈ gw := gw_c3 159 rfl rfl
theorem k640 : Cond.code y_Table_stackSign prog_12_method_7_code 5 none ∈ gw := gw_c3 160 rfl rfl
theorem k641 : Cond.methodLink "RangeCoders$Table" 33 y_Odds_at ∈ gw := gw_c3 161 rfl rfl
theorem k642 : Cond.constantLong "RangeCoders$Table" 37 2 ∈ gw := gw_c3 162 rfl rfl
theorem k643 : Cond.methodLink "RangeCoders$Table" 49 y_Odds_placeOf ∈ gw := gw_c3 163 rfl rfl
theorem k644 : Cond.instanceMethod y_Odds_placeOf ∈ gw := gw_c3 164 rfl rfl
theorem k645 : Cond.selects "RangeCoders$Odds" y_Odds_placeOf y_Odds_placeOf ∈ gw := gw_c3 165 rfl rfl
theorem k646 : Cond.code y_Odds_placeOf prog_7_method_14_code 5 (some .int) ∈ gw := gw_c3 166 rfl rfl
theorem k647 : Cond.methodLink "RangeCoders$Stacked" 58 ⟨"RangeCoders$Stacked", "closeStack", "()V"⟩ ∈ gw := gw_c3 167 rfl rfl
theorem j648 : Cond.declares ⟨"RangeCoders$Stacked", "closeStack", "()V"⟩ ∈ lw_tbl := tb_c3 168 rfl
theorem k649 : Cond.sameMethod "RangeCoders$Stacked" "RangeCoders$Stacked" "closeStack" "()V" ∈ gw := gw_c3 169 rfl rfl
theorem k650 : Cond.selects "RangeCoders$Stack" ⟨"RangeCoders$Stacked", "closeStack", "()V"⟩ y_Stack_closeStack ∈ gw := gw_c3 170 rfl rfl
theorem k651 : Cond.instanceMethod y_Stack_closeStack ∈ gw := gw_c3 171 rfl rfl
theorem k652 : Cond.code y_Stack_closeStack prog_10_method_6_code 2 none ∈ gw := gw_c3 172 rfl rfl
theorem k653 : Cond.methodLink "RangeCoders$Stack" 44 y_Row_becomeReverseOf ∈ gw := gw_c3 173 rfl rfl
theorem k654 : Cond.instanceMethod y_Row_becomeReverseOf ∈ gw := gw_c3 174 rfl rfl
theorem k655 : Cond.selects "RangeCoders$Row" y_Row_becomeReverseOf y_Row_becomeReverseOf ∈ gw := gw_c3 175 rfl rfl
theorem k656 : Cond.code y_Row_becomeReverseOf prog_9_method_7_code 3 none ∈ gw := gw_c3 176 rfl rfl
theorem k657 : Cond.methodLink "RangeCoders$Row" 29 y_Row_clear ∈ gw := gw_c3 177 rfl rfl
theorem k658 : Cond.methodLink "RangeCoders$Row" 32 y_Row_at ∈ gw := gw_c3 178 rfl rfl
theorem k659 : Cond.instanceMethod y_Row_at ∈ gw := gw_c3 179 rfl rfl
theorem k660 : Cond.selects "RangeCoders$Row" y_Row_at y_Row_at ∈ gw := gw_c3 180 rfl rfl
theorem k661 : Cond.code y_Row_at prog_9_method_3_code 2 (some .int) ∈ gw := gw_c3 181 rfl rfl
theorem k662 : Cond.methodLink "RangeCoders$Row" 19 y_Row_has ∈ gw := gw_c3 182 rfl rfl
theorem k663 : Cond.instanceMethod y_Row_has ∈ gw := gw_c3 183 rfl rfl
theorem k664 : Cond.selects "RangeCoders$Row" y_Row_has y_Row_has ∈ gw := gw_c3 184 rfl rfl
theorem k665 : Cond.code y_Row_has prog_9_method_2_code 2 (some .boolean) ∈ gw := gw_c3 185 rfl rfl
theorem k666 : Cond.methodLink "RangeCoders$Row" 36 y_Row_add ∈ gw := gw_c3 186 rfl rfl
theorem k667 : Cond.selects "RangeCoders$Table" ⟨"RangeCoders$Stacked", "closeStack", "()V"⟩ y_Table_closeStack ∈ gw := gw_c3 187 rfl rfl
theorem k668 : Cond.instanceMethod y_Table_closeStack ∈ gw := gw_c3 188 rfl rfl
theorem k669 : Cond.code y_Table_closeStack prog_12_method_9_code 2 none ∈ gw := gw_c3 189 rfl rfl
theorem k670 : Cond.methodLink "RangeCoders$Table" 53 y_Table_stackValue ∈ gw := gw_c3 190 rfl rfl
theorem k671 : Cond.methodLink "RangeCoders$Table" 60 y_Row_clear ∈ gw := gw_c3 191 rfl rfl
theorem k672 : Cond.methodLink "RangeCoders$Table" 66 y_Table_byteOfWritten ∈ gw := gw_c3 192 rfl rfl
theorem k674 : Cond.instanceMethod y_Table_byteOfWritten ∈ gw := gw_c3 194 rfl rfl
theorem k675 : Cond.code y_Table_byteOfWritten prog_12_method_13_code 5 (some .int) ∈ gw := gw_c3 195 rfl rfl
theorem k676 : Cond.methodLink "RangeCoders$Table" 88 y_Row_has ∈ gw := gw_c3 196 rfl rfl
theorem k677 : Cond.methodLink "RangeCoders$Table" 92 y_Row_at ∈ gw := gw_c3 197 rfl rfl
theorem k678 : Cond.selects "RangeCoders$Table" ⟨"RangeCoders$Coder", "closeMessage", "()V"⟩ y_Stacked_closeMessage ∈ gw := gw_c3 198 rfl rfl
theorem k679 : Cond.methodLink "RangeCodersLaw" 45 y_RC_begin ∈ gw := gw_c3 199 rfl rfl
theorem k680 : Cond.instanceMethod y_RC_begin ∈ gw := gw_c3 200 rfl rfl
theorem k681 : Cond.selects "RangeCoders" y_RC_begin y_RC_begin ∈ gw := gw_c3 201 rfl rfl
theorem k682 : Cond.code y_RC_begin prog_1_method_7_code 6 (some .int) ∈ gw := gw_c3 202 rfl rfl
theorem k683 : Cond.methodLink "RangeCoders" 100 ⟨"RangeCoders$Coder", "openMessage", "()V"⟩ ∈ gw := gw_c3 203 rfl rfl
theorem j684 : Cond.declares ⟨"RangeCoders$Coder", "openMessage", "()V"⟩ ∈ lw_tbl := tb_c3 204 rfl
theorem k685 : Cond.sameMethod "RangeCoders$Coder" "RangeCoders$Coder" "openMessage" "()V" ∈ gw := gw_c3 205 rfl rfl
theorem k686 : Cond.selects "RangeCoders$Bits" ⟨"RangeCoders$Coder", "openMessage", "()V"⟩ y_Carries_openMessage ∈ gw := gw_c3 206 rfl rfl
theorem k687 : Cond.instanceMethod y_Carries_openMessage ∈ gw := gw_c3 207 rfl rfl
theorem k688 : Cond.code y_Carries_openMessage prog_3_method_2_code 1 none ∈ gw := gw_c3 208 rfl rfl
theorem k689 : Cond.methodLink "RangeCoders$Carries" 15 y_Ranged_openMessage ∈ gw := gw_c3 209 rfl rfl
theorem k690 : Cond.instanceMethod y_Ranged_openMessage ∈ gw := gw_c3 210 rfl rfl
theorem k691 : Cond.code y_Ranged_openMessage prog_8_method_6_code 1 none ∈ gw := gw_c3 211 rfl rfl
theorem k692 : Cond.methodLink "RangeCoders$Ranged" 27 y_Row_clear ∈ gw := gw_c3 212 rfl rfl
theorem k693 : Cond.selects "RangeCoders$Carries" ⟨"RangeCoders$Coder", "openMessage", "()V"⟩ y_Carries_openMessage ∈ gw := gw_c3 213 rfl rfl
theorem k694 : Cond.selects "RangeCoders$NoCarries" ⟨"RangeCoders$Coder", "openMessage", "()V"⟩ y_Ranged_openMessage ∈ gw := gw_c3 214 rfl rfl
theorem k695 : Cond.selects "RangeCoders$Stack" ⟨"RangeCoders$Coder", "openMessage", "()V"⟩ y_Stacked_openMessage ∈ gw := gw_c3 215 rfl rfl
theorem k696 : Cond.instanceMethod y_Stacked_openMessage ∈ gw := gw_c3 216 rfl rfl
theorem k697 : Cond.code y_Stacked_openMessage prog_11_method_6_code 1 none ∈ gw := gw_c3 217 rfl rfl
theorem k698 : Cond.selects "RangeCoders$Table" ⟨"RangeCoders$Coder", "openMessage", "()V"⟩ y_Stacked_openMessage ∈ gw := gw_c3 218 rfl rfl
theorem k699 : Cond.methodLink "RangeCodersLaw" 49 y_RC_out ∈ gw := gw_c3 219 rfl rfl
theorem k700 : Cond.instanceMethod y_RC_out ∈ gw := gw_c3 220 rfl rfl
theorem k701 : Cond.selects "RangeCoders" y_RC_out y_RC_out ∈ gw := gw_c3 221 rfl rfl
theorem k702 : Cond.code y_RC_out prog_1_method_8_code 2 (some .int) ∈ gw := gw_c3 222 rfl rfl
theorem k703 : Cond.methodLink "RangeCoders" 103 y_Row_at ∈ gw := gw_c3 223 rfl rfl
theorem k704 : Cond.methodLink "RangeCodersLaw" 53 y_RC_octets ∈ gw := gw_c3 224 rfl rfl
theorem k705 : Cond.instanceMethod y_RC_octets ∈ gw := gw_c3 225 rfl rfl
theorem k706 : Cond.selects "RangeCoders" y_RC_octets y_RC_octets ∈ gw := gw_c3 226 rfl rfl
theorem k707 : Cond.code y_RC_octets prog_1_method_9_code 3 (some .int) ∈ gw := gw_c3 227 rfl rfl
theorem k708 : Cond.methodLink "RangeCoders" 110 y_Row_add ∈ gw := gw_c3 228 rfl rfl
theorem k709 : Cond.methodLink "RangeCodersLaw" 57 y_RC_take ∈ gw := gw_c3 229 rfl rfl
theorem k710 : Cond.instanceMethod y_RC_take ∈ gw := gw_c3 230 rfl rfl
theorem k711 : Cond.selects "RangeCoders" y_RC_take y_RC_take ∈ gw := gw_c3 231 rfl rfl
theorem k712 : Cond.code y_RC_take prog_1_method_10_code 4 (some .int) ∈ gw := gw_c3 232 rfl rfl
theorem k713 : Cond.methodLink "RangeCoders" 120 y_Row_clear ∈ gw := gw_c3 233 rfl rfl
theorem k714 : Cond.methodLink "RangeCodersLaw" 61 y_RC_spoil ∈ gw := gw_c3 234 rfl rfl
theorem k715 : Cond.instanceMethod y_RC_spoil ∈ gw := gw_c3 235 rfl rfl
theorem k716 : Cond.selects "RangeCoders" y_RC_spoil y_RC_spoil ∈ gw := gw_c3 236 rfl rfl
theorem k717 : Cond.code y_RC_spoil prog_1_method_11_code 3 (some .int) ∈ gw := gw_c3 237 rfl rfl
theorem k718 : Cond.methodLink "RangeCoders" 129 y_Row_has ∈ gw := gw_c3 238 rfl rfl
theorem k719 : Cond.methodLink "RangeCoders" 132 y_Row_set ∈ gw := gw_c3 239 rfl rfl
theorem k720 : Cond.instanceMethod y_Row_set ∈ gw := gw_c4 0 rfl rfl
theorem k721 : Cond.selects "RangeCoders$Row" y_Row_set y_Row_set ∈ gw := gw_c4 1 rfl rfl
theorem k722 : Cond.code y_Row_set prog_9_method_4_code 3 none ∈ gw := gw_c4 2 rfl rfl
theorem k723 : Cond.methodLink "RangeCodersLaw" 65 y_RC_read ∈ gw := gw_c4 3 rfl rfl
theorem k724 : Cond.instanceMethod y_RC_read ∈ gw := gw_c4 4 rfl rfl
theorem k725 : Cond.selects "RangeCoders" y_RC_read y_RC_read ∈ gw := gw_c4 5 rfl rfl
theorem k726 : Cond.code y_RC_read prog_1_method_12_code 5 (some .int) ∈ gw := gw_c4 6 rfl rfl
theorem k727 : Cond.methodLink "RangeCoders" 135 ⟨"RangeCoders$Coder", "openReading", "()Z"⟩ ∈ gw := gw_c4 7 rfl rfl
theorem j728 : Cond.declares ⟨"RangeCoders$Coder", "openReading", "()Z"⟩ ∈ lw_tbl := tb_c4 8 rfl
theorem k729 : Cond.sameMethod "RangeCoders$Coder" "RangeCoders$Coder" "openReading" "()Z" ∈ gw := gw_c4 9 rfl rfl
theorem k730 : Cond.selects "RangeCoders$Bits" ⟨"RangeCoders$Coder", "openReading", "()Z"⟩ y_Ranged_openReading ∈ gw := gw_c4 10 rfl rfl
theorem k731 : Cond.instanceMethod y_Ranged_openReading ∈ gw := gw_c4 11 rfl rfl
theorem k732 : Cond.code y_Ranged_openReading prog_8_method_10_code 1 (some .boolean) ∈ gw := gw_c4 12 rfl rfl
theorem k733 : Cond.methodLink "RangeCoders$Ranged" 60 ⟨"RangeCoders$Ranged", "firstFourBytes", "()J"⟩ ∈ gw := gw_c4 13 rfl rfl
theorem k734 : Cond.sameMethod "RangeCoders$Ranged" "RangeCoders$Coder" "firstFourBytes" "()J" ∈ gw := gw_c4 14 rfl rfl
theorem k736 : Cond.selects "RangeCoders$Bits" ⟨"RangeCoders$Ranged", "firstFourBytes", "()J"⟩ y_Coder_firstFourBytes ∈ gw := gw_c4 16 rfl rfl
theorem k737 : Cond.selects "RangeCoders$Carries" ⟨"RangeCoders$Ranged", "firstFourBytes", "()J"⟩ y_Coder_firstFourBytes ∈ gw := gw_c4 17 rfl rfl
theorem k738 : Cond.selects "RangeCoders$NoCarries" ⟨"RangeCoders$Ranged", "firstFourBytes", "()J"⟩ y_Coder_firstFourBytes ∈ gw := gw_c4 18 rfl rfl
theorem k739 : Cond.instanceMethod y_Coder_firstFourBytes ∈ gw := gw_c4 19 rfl rfl
theorem k740 : Cond.code y_Coder_firstFourBytes prog_4_method_16_code 4 (some .long) ∈ gw := gw_c4 20 rfl rfl
theorem k741 : Cond.methodLink "RangeCoders$Coder" 40 y_Coder_nextByte ∈ gw := gw_c4 21 rfl rfl
theorem k742 : Cond.instanceMethod y_Coder_nextByte ∈ gw := gw_c4 22 rfl rfl
theorem k743 : Cond.sameMethod "RangeCoders$Coder" "RangeCoders$Coder" "nextByte" "()I" ∈ gw := gw_c4 23 rfl rfl
theorem k744 : Cond.selects "RangeCoders$Bits" y_Coder_nextByte y_Coder_nextByte ∈ gw := gw_c4 24 rfl rfl
theorem k745 : Cond.selects "RangeCoders$Carries" y_Coder_nextByte y_Coder_nextByte ∈ gw := gw_c4 25 rfl rfl
theorem k746 : Cond.selects "RangeCoders$NoCarries" y_Coder_nextByte y_Coder_nextByte ∈ gw := gw_c4 26 rfl rfl
theorem k747 : Cond.selects "RangeCoders$Stack" y_Coder_nextByte y_Coder_nextByte ∈ gw := gw_c4 27 rfl rfl
theorem k749 : Cond.code y_Coder_nextByte prog_4_method_15_code 2 (some .int) ∈ gw := gw_c4 29 rfl rfl
theorem k750 : Cond.methodLink "RangeCoders$Coder" 35 y_Row_has ∈ gw := gw_c4 30 rfl rfl
theorem k751 : Cond.methodLink "RangeCoders$Coder" 39 y_Row_at ∈ gw := gw_c4 31 rfl rfl
theorem k752 : Cond.selects "RangeCoders$Carries" ⟨"RangeCoders$Coder", "openReading", "()Z"⟩ y_Ranged_openReading ∈ gw := gw_c4 32 rfl rfl
theorem k753 : Cond.selects "RangeCoders$NoCarries" ⟨"RangeCoders$Coder", "openReading", "()Z"⟩ y_Ranged_openReading ∈ gw := gw_c4 33 rfl rfl
theorem k754 : Cond.selects "RangeCoders$Stack" ⟨"RangeCoders$Coder", "openReading", "()Z"⟩ y_Stack_openReading ∈ gw := gw_c4 34 rfl rfl
theorem k755 : Cond.instanceMethod y_Stack_openReading ∈ gw := gw_c4 35 rfl rfl
theorem k756 : Cond.code y_Stack_openReading prog_10_method_7_code 1 (some .boolean) ∈ gw := gw_c4 36 rfl rfl
theorem k757 : Cond.methodLink "RangeCoders$Stack" 50 ⟨"RangeCoders$Stack", "firstFourBytes", "()J"⟩ ∈ gw := gw_c4 37 rfl rfl
theorem k758 : Cond.sameMethod "RangeCoders$Stack" "RangeCoders$Coder" "firstFourBytes" "()J" ∈ gw := gw_c4 38 rfl rfl
theorem k759 : Cond.selects "RangeCoders$Stack" ⟨"RangeCoders$Stack", "firstFourBytes", "()J"⟩ y_Coder_firstFourBytes ∈ gw := gw_c4 39 rfl rfl
theorem k760 : Cond.selects "RangeCoders$Table" ⟨"RangeCoders$Coder", "openReading", "()Z"⟩ y_Table_openReading ∈ gw := gw_c4 40 rfl rfl
theorem k761 : Cond.instanceMethod y_Table_openReading ∈ gw := gw_c4 41 rfl rfl
theorem k762 : Cond.code y_Table_openReading prog_12_method_10_code 1 (some .boolean) ∈ gw := gw_c4 42 rfl rfl
theorem k763 : Cond.methodLink "RangeCoders$Table" 69 y_Table_nextValue ∈ gw := gw_c4 43 rfl rfl
theorem k764 : Cond.instanceMethod y_Table_nextValue ∈ gw := gw_c4 44 rfl rfl
theorem k765 : Cond.selects "RangeCoders$Table" y_Table_nextValue y_Table_nextValue ∈ gw := gw_c4 45 rfl rfl
theorem k766 : Cond.code y_Table_nextValue prog_12_method_12_code 4 (some .int) ∈ gw := gw_c4 46 rfl rfl
theorem k767 : Cond.methodLink "RangeCoders$Table" 84 y_Table_nextInBit ∈ gw := gw_c4 47 rfl rfl
theorem k769 : Cond.instanceMethod y_Table_nextInBit ∈ gw := gw_c4 49 rfl rfl
theorem k770 : Cond.code y_Table_nextInBit prog_12_method_14_code 3 (some .int) ∈ gw := gw_c4 50 rfl rfl
theorem k771 : Cond.methodLink "RangeCodersLaw" 69 y_RC_get ∈ gw := gw_c4 51 rfl rfl
theorem k772 : Cond.instanceMethod y_RC_get ∈ gw := gw_c4 52 rfl rfl
theorem k773 : Cond.selects "RangeCoders" y_RC_get y_RC_get ∈ gw := gw_c4 53 rfl rfl
theorem k774 : Cond.code y_RC_get prog_1_method_13_code 3 (some .int) ∈ gw := gw_c4 54 rfl rfl
theorem k775 : Cond.methodLink "RangeCoders" 139 ⟨"RangeCoders$Coder", "nextSign", "(LRangeCoders$Odds;)I"⟩ ∈ gw := gw_c4 55 rfl rfl
theorem j776 : Cond.declares ⟨"RangeCoders$Coder", "nextSign", "(LRangeCoders$Odds;)I"⟩ ∈ lw_tbl := tb_c4 56 rfl
theorem k777 : Cond.sameMethod "RangeCoders$Coder" "RangeCoders$Coder" "nextSign" "(LRangeCoders$Odds;)I" ∈ gw := gw_c4 57 rfl rfl
theorem k778 : Cond.selects "RangeCoders$Bits" ⟨"RangeCoders$Coder", "nextSign", "(LRangeCoders$Odds;)I"⟩ y_Bits_nextSign ∈ gw := gw_c4 58 rfl rfl
theorem k779 : Cond.instanceMethod y_Bits_nextSign ∈ gw := gw_c4 59 rfl rfl
theorem k780 : Cond.code y_Bits_nextSign prog_2_method_7_code 5 (some .int) ∈ gw := gw_c4 60 rfl rfl
theorem k781 : Cond.methodLink "RangeCoders$Bits" 51 y_Bits_keepReading ∈ gw := gw_c4 61 rfl rfl
theorem k783 : Cond.instanceMethod y_Bits_keepReading ∈ gw := gw_c4 63 rfl rfl
theorem k784 : Cond.code y_Bits_keepReading prog_2_method_13_code 1 none ∈ gw := gw_c4 64 rfl rfl
theorem k785 : Cond.methodLink "RangeCoders$Bits" 54 y_Bits_nextBit ∈ gw := gw_c4 65 rfl rfl
theorem k787 : Cond.instanceMethod y_Bits_nextBit ∈ gw := gw_c4 67 rfl rfl
theorem k788 : Cond.code y_Bits_nextBit prog_2_method_11_code 6 (some .int) ∈ gw := gw_c4 68 rfl rfl
theorem k789 : Cond.methodLink "RangeCoders$Bits" 62 ⟨"RangeCoders$Bits", "widenReading", "()V"⟩ ∈ gw := gw_c4 69 rfl rfl
theorem k790 : Cond.sameMethod "RangeCoders$Bits" "RangeCoders$Carries" "widenReading" "()V" ∈ gw := gw_c4 70 rfl rfl
theorem k792 : Cond.selects "RangeCoders$Bits" ⟨"RangeCoders$Bits", "widenReading", "()V"⟩ y_Carries_widenReading ∈ gw := gw_c4 72 rfl rfl
theorem k793 : Cond.instanceMethod y_Carries_widenReading ∈ gw := gw_c4 73 rfl rfl
theorem k794 : Cond.code y_Carries_widenReading prog_3_method_7_code 2 none ∈ gw := gw_c4 74 rfl rfl
theorem k795 : Cond.methodLink "RangeCoders$Carries" 47 ⟨"RangeCoders$Carries", "nextByte", "()I"⟩ ∈ gw := gw_c4 75 rfl rfl
theorem k796 : Cond.sameMethod "RangeCoders$Carries" "RangeCoders$Coder" "nextByte" "()I" ∈ gw := gw_c4 76 rfl rfl
theorem k798 : Cond.selects "RangeCoders$Bits" ⟨"RangeCoders$Carries", "nextByte", "()I"⟩ y_Coder_nextByte ∈ gw := gw_c4 78 rfl rfl
theorem k799 : Cond.selects "RangeCoders$Carries" ⟨"RangeCoders$Carries", "nextByte", "()I"⟩ y_Coder_nextByte ∈ gw := gw_c4 79 rfl rfl
theorem k800 : Cond.methodLink "RangeCoders$Bits" 58 y_Bits_undone ∈ gw := gw_c4 80 rfl rfl
theorem k802 : Cond.instanceMethod y_Bits_undone ∈ gw := gw_c4 82 rfl rfl
theorem k803 : Cond.code y_Bits_undone prog_2_method_14_code 1 (some .int) ∈ gw := gw_c4 83 rfl rfl
theorem k804 : Cond.selects "RangeCoders$Carries" ⟨"RangeCoders$Coder", "nextSign", "(LRangeCoders$Odds;)I"⟩ y_Ranged_nextSign ∈ gw := gw_c4 84 rfl rfl
theorem k805 : Cond.instanceMethod y_Ranged_nextSign ∈ gw := gw_c4 85 rfl rfl
theorem k806 : Cond.code y_Ranged_nextSign prog_8_method_11_code 4 (some .int) ∈ gw := gw_c4 86 rfl rfl
theorem k807 : Cond.methodLink "RangeCoders$Ranged" 73 y_Ranged_nextShare ∈ gw := gw_c4 87 rfl rfl
theorem k809 : Cond.instanceMethod y_Ranged_nextShare ∈ gw := gw_c4 89 rfl rfl
theorem k810 : Cond.code y_Ranged_nextShare prog_8_method_14_code 6 (some .int) ∈ gw := gw_c4 90 rfl rfl
theorem k811 : Cond.methodLink "RangeCoders$Ranged" 76 y_Odds_signAt ∈ gw := gw_c4 91 rfl rfl
theorem k812 : Cond.instanceMethod y_Odds_signAt ∈ gw := gw_c4 92 rfl rfl
theorem k813 : Cond.selects "RangeCoders$Odds" y_Odds_signAt y_Odds_signAt ∈ gw := gw_c4 93 rfl rfl
theorem k814 : Cond.code y_Odds_signAt prog_7_method_9_code 4 (some .int) ∈ gw := gw_c4 94 rfl rfl
theorem k815 : Cond.methodLink "RangeCoders$Ranged" 79 ⟨"RangeCoders$Ranged", "readPart", "(III)V"⟩ ∈ gw := gw_c4 95 rfl rfl
theorem j816 : Cond.declares ⟨"RangeCoders$Ranged", "readPart", "(III)V"⟩ ∈ lw_tbl := tb_c4 96 rfl
theorem k817 : Cond.sameMethod "RangeCoders$Ranged" "RangeCoders$Ranged" "readPart" "(III)V" ∈ gw := gw_c4 97 rfl rfl
theorem k819 : Cond.instanceMethod y_Carries_readPart ∈ gw := gw_c4 99 rfl rfl
theorem k820 : Cond.code y_Carries_readPart prog_3_method_4_code 6 none ∈ gw := gw_c4 100 rfl rfl
theorem k821 : Cond.methodLink "RangeCoders$Carries" 37 y_Carries_widenReading ∈ gw := gw_c4 101 rfl rfl
theorem k822 : Cond.selects "RangeCoders$Carries" ⟨"RangeCoders$Ranged", "readPart", "(III)V"⟩ y_Carries_readPart ∈ gw := gw_c4 102 rfl rfl
theorem k823 : Cond.selects "RangeCoders$NoCarries" ⟨"RangeCoders$Ranged", "readPart", "(III)V"⟩ y_NoCarries_readPart ∈ gw := gw_c4 103 rfl rfl
theorem k824 : Cond.instanceMethod y_NoCarries_readPart ∈ gw := gw_c4 104 rfl rfl
theorem k825 : Cond.code y_NoCarries_readPart prog_6_method_3_code 7 none ∈ gw := gw_c4 105 rfl rfl
theorem k826 : Cond.methodLink "RangeCoders$NoCarries" 40 ⟨"RangeCoders$NoCarries", "nextByte", "()I"⟩ ∈ gw := gw_c4 106 rfl rfl
theorem k827 : Cond.sameMethod "RangeCoders$NoCarries" "RangeCoders$Coder" "nextByte" "()I" ∈ gw := gw_c4 107 rfl rfl
theorem k828 : Cond.selects "RangeCoders$NoCarries" ⟨"RangeCoders$NoCarries", "nextByte", "()I"⟩ y_Coder_nextByte ∈ gw := gw_c4 108 rfl rfl
theorem k829 : Cond.selects "RangeCoders$NoCarries" ⟨"RangeCoders$Coder", "nextSign", "(LRangeCoders$Odds;)I"⟩ y_Ranged_nextSign ∈ gw := gw_c4 109 rfl rfl
theorem k830 : Cond.selects "RangeCoders$Stack" ⟨"RangeCoders$Coder", "nextSign", "(LRangeCoders$Odds;)I"⟩ y_Stack_nextSign ∈ gw := gw_c4 110 rfl rfl
theorem k831 : Cond.instanceMethod y_Stack_nextSign ∈ gw := gw_c4 111 rfl rfl
theorem k832 : Cond.code y_Stack_nextSign prog_10_method_8_code 4 (some .int) ∈ gw := gw_c4 112 rfl rfl
theorem k833 : Cond.constantLong "RangeCoders$Stack" 57 4095 ∈ gw := gw_c4 113 rfl rfl
theorem k834 : Cond.methodLink "RangeCoders$Stack" 59 y_Odds_signAt ∈ gw := gw_c4 114 rfl rfl
theorem k835 : Cond.methodLink "RangeCoders$Stack" 62 y_Stack_unstackPart ∈ gw := gw_c4 115 rfl rfl
theorem k837 : Cond.instanceMethod y_Stack_unstackPart ∈ gw := gw_c4 117 rfl rfl
theorem k838 : Cond.code y_Stack_unstackPart prog_10_method_12_code 4 none ∈ gw := gw_c4 118 rfl rfl
theorem k839 : Cond.methodLink "RangeCoders$Stack" 73 ⟨"RangeCoders$Stack", "nextByte", "()I"⟩ ∈ gw := gw_c4 119 rfl rfl
theorem k840 : Cond.sameMethod "RangeCoders$Stack" "RangeCoders$Coder" "nextByte" "()I" ∈ gw := gw_c4 120 rfl rfl
theorem k841 : Cond.selects "RangeCoders$Stack" ⟨"RangeCoders$Stack", "nextByte", "()I"⟩ y_Coder_nextByte ∈ gw := gw_c4 121 rfl rfl
theorem k842 : Cond.selects "RangeCoders$Table" ⟨"RangeCoders$Coder", "nextSign", "(LRangeCoders$Odds;)I"⟩ y_Table_nextSign ∈ gw := gw_c4 122 rfl rfl
theorem k843 : Cond.instanceMethod y_Table_nextSign ∈ gw := gw_c4 123 rfl rfl
theorem k844 : Cond.code y_Table_nextSign prog_12_method_11_code 5 (some .int) ∈ gw := gw_c4 124 rfl rfl
theorem k845 : Cond.methodLink "RangeCoders$Table" 78 y_Odds_signOfPlace ∈ gw := gw_c4 125 rfl rfl
theorem k846 : Cond.instanceMethod y_Odds_signOfPlace ∈ gw := gw_c4 126 rfl rfl
theorem k847 : Cond.selects "RangeCoders$Odds" y_Odds_signOfPlace y_Odds_signOfPlace ∈ gw := gw_c4 127 rfl rfl
theorem k848 : Cond.code y_Odds_signOfPlace prog_7_method_12_code 2 (some .int) ∈ gw := gw_c4 128 rfl rfl
theorem k849 : Cond.methodLink "RangeCoders$Table" 81 y_Odds_numberOfPlace ∈ gw := gw_c4 129 rfl rfl
theorem k850 : Cond.instanceMethod y_Odds_numberOfPlace ∈ gw := gw_c4 130 rfl rfl
theorem k851 : Cond.selects "RangeCoders$Odds" y_Odds_numberOfPlace y_Odds_numberOfPlace ∈ gw := gw_c4 131 rfl rfl
theorem k852 : Cond.code y_Odds_numberOfPlace prog_7_method_13_code 5 (some .int) ∈ gw := gw_c4 132 rfl rfl
theorem k853 : Cond.methodLink "RangeCoders$Odds" 59 y_Odds_signOfPlace ∈ gw := gw_c4 133 rfl rfl
theorem k854 : Cond.methodLink "RangeCoders" 143 y_RC_itemOrBad ∈ gw := gw_c4 134 rfl rfl
theorem k856 : Cond.instanceMethod y_RC_itemOrBad ∈ gw := gw_c4 136 rfl rfl
theorem k857 : Cond.code y_RC_itemOrBad prog_1_method_21_code 2 (some .int) ∈ gw := gw_c4 137 rfl rfl
theorem k858 : Cond.methodLink "RangeCodersLaw" 73 y_RC_getBits ∈ gw := gw_c4 138 rfl rfl
theorem k859 : Cond.instanceMethod y_RC_getBits ∈ gw := gw_c4 139 rfl rfl
theorem k860 : Cond.selects "RangeCoders" y_RC_getBits y_RC_getBits ∈ gw := gw_c4 140 rfl rfl
theorem k861 : Cond.code y_RC_getBits prog_1_method_14_code 2 (some .int) ∈ gw := gw_c4 141 rfl rfl
theorem k862 : Cond.methodLink "RangeCoders" 146 ⟨"RangeCoders$Coder", "nextValue", "(I)I"⟩ ∈ gw := gw_c4 142 rfl rfl
theorem j863 : Cond.declares ⟨"RangeCoders$Coder", "nextValue", "(I)I"⟩ ∈ lw_tbl := tb_c4 143 rfl
theorem k864 : Cond.sameMethod "RangeCoders$Coder" "RangeCoders$Coder" "nextValue" "(I)I" ∈ gw := gw_c4 144 rfl rfl
theorem k865 : Cond.selects "RangeCoders$Bits" ⟨"RangeCoders$Coder", "nextValue", "(I)I"⟩ y_Bits_nextValue ∈ gw := gw_c4 145 rfl rfl
theorem k866 : Cond.instanceMethod y_Bits_nextValue ∈ gw := gw_c4 146 rfl rfl
theorem k867 : Cond.code y_Bits_nextValue prog_2_method_8_code 5 (some .int) ∈ gw := gw_c4 147 rfl rfl
theorem k868 : Cond.selects "RangeCoders$Carries" ⟨"RangeCoders$Coder", "nextValue", "(I)I"⟩ y_Ranged_nextValue ∈ gw := gw_c4 148 rfl rfl
theorem k869 : Cond.instanceMethod y_Ranged_nextValue ∈ gw := gw_c4 149 rfl rfl
theorem k870 : Cond.code y_Ranged_nextValue prog_8_method_12_code 3 (some .int) ∈ gw := gw_c4 150 rfl rfl
theorem k871 : Cond.selects "RangeCoders$NoCarries" ⟨"RangeCoders$Coder", "nextValue", "(I)I"⟩ y_Ranged_nextValue ∈ gw := gw_c4 151 rfl rfl
theorem k872 : Cond.selects "RangeCoders$Stack" ⟨"RangeCoders$Coder", "nextValue", "(I)I"⟩ y_Stack_nextValue ∈ gw := gw_c4 152 rfl rfl
theorem k873 : Cond.instanceMethod y_Stack_nextValue ∈ gw := gw_c4 153 rfl rfl
theorem k874 : Cond.code y_Stack_nextValue prog_10_method_9_code 4 (some .int) ∈ gw := gw_c4 154 rfl rfl
theorem k875 : Cond.selects "RangeCoders$Table" ⟨"RangeCoders$Coder", "nextValue", "(I)I"⟩ y_Table_nextValue ∈ gw := gw_c4 155 rfl rfl
theorem k876 : Cond.methodLink "RangeCodersLaw" 77 y_RC_told ∈ gw := gw_c4 156 rfl rfl
theorem k877 : Cond.instanceMethod y_RC_told ∈ gw := gw_c4 157 rfl rfl
theorem k878 : Cond.selects "RangeCoders" y_RC_told y_RC_told ∈ gw := gw_c4 158 rfl rfl
theorem k879 : Cond.code y_RC_told prog_1_method_15_code 2 (some .int) ∈ gw := gw_c4 159 rfl rfl
theorem k880 : Cond.methodLink "RangeCoders" 149 y_Coder_bytesAsked ∈ gw := gw_c4 160 rfl rfl
theorem k881 : Cond.instanceMethod y_Coder_bytesAsked ∈ gw := gw_c4 161 rfl rfl
theorem k882 : Cond.sameMethod "RangeCoders$Coder" "RangeCoders$Coder" "bytesAsked" "()I" ∈ gw := gw_c4 162 rfl rfl
theorem k883 : Cond.selects "RangeCoders$Bits" y_Coder_bytesAsked y_Coder_bytesAsked ∈ gw := gw_c4 163 rfl rfl
theorem k884 : Cond.selects "RangeCoders$Carries" y_Coder_bytesAsked y_Coder_bytesAsked ∈ gw := gw_c4 164 rfl rfl
theorem k885 : Cond.selects "RangeCoders$NoCarries" y_Coder_bytesAsked y_Coder_bytesAsked ∈ gw := gw_c4 165 rfl rfl
theorem k886 : Cond.selects "RangeCoders$Stack" y_Coder_bytesAsked y_Coder_bytesAsked ∈ gw := gw_c4 166 rfl rfl
theorem k887 : Cond.selects "RangeCoders$Table" y_Coder_bytesAsked y_Table_bytesAsked ∈ gw := gw_c4 167 rfl rfl
theorem k888 : Cond.instanceMethod y_Table_bytesAsked ∈ gw := gw_c4 168 rfl rfl
theorem k889 : Cond.code y_Table_bytesAsked prog_12_method_5_code 1 (some .int) ∈ gw := gw_c4 169 rfl rfl
theorem k890 : Cond.code y_Coder_bytesAsked prog_4_method_14_code 1 (some .int) ∈ gw := gw_c4 170 rfl rfl
theorem k891 : Cond.methodLink "RangeCodersLaw" 81 y_RC_state ∈ gw := gw_c4 171 rfl rfl
theorem k892 : Cond.instanceMethod y_RC_state ∈ gw := gw_c4 172 rfl rfl
theorem k893 : Cond.selects "RangeCoders" y_RC_state y_RC_state ∈ gw := gw_c4 173 rfl rfl
theorem k894 : Cond.code y_RC_state prog_1_method_16_code 2 (some .long) ∈ gw := gw_c4 174 rfl rfl
theorem k895 : Cond.constantLong "RangeCoders" 153 (-2) ∈ gw := gw_c4 175 rfl rfl
theorem k896 : Cond.methodLink "RangeCoders" 155 ⟨"RangeCoders$Coder", "register", "(I)J"⟩ ∈ gw := gw_c4 176 rfl rfl
theorem j897 : Cond.declares ⟨"RangeCoders$Coder", "register", "(I)J"⟩ ∈ lw_tbl := tb_c4 177 rfl
theorem k898 : Cond.sameMethod "RangeCoders$Coder" "RangeCoders$Coder" "register" "(I)J" ∈ gw := gw_c4 178 rfl rfl
theorem k899 : Cond.selects "RangeCoders$Bits" ⟨"RangeCoders$Coder", "register", "(I)J"⟩ y_Ranged_register ∈ gw := gw_c4 179 rfl rfl
theorem k900 : Cond.instanceMethod y_Ranged_register ∈ gw := gw_c4 180 rfl rfl
theorem k901 : Cond.code y_Ranged_register prog_8_method_13_code 2 (some .long) ∈ gw := gw_c4 181 rfl rfl
theorem k902 : Cond.selects "RangeCoders$Carries" ⟨"RangeCoders$Coder", "register", "(I)J"⟩ y_Ranged_register ∈ gw := gw_c4 182 rfl rfl
theorem k903 : Cond.selects "RangeCoders$NoCarries" ⟨"RangeCoders$Coder", "register", "(I)J"⟩ y_Ranged_register ∈ gw := gw_c4 183 rfl rfl
theorem k904 : Cond.selects "RangeCoders$Stack" ⟨"RangeCoders$Coder", "register", "(I)J"⟩ y_Stacked_register ∈ gw := gw_c4 184 rfl rfl
theorem k905 : Cond.instanceMethod y_Stacked_register ∈ gw := gw_c4 185 rfl rfl
theorem k906 : Cond.code y_Stacked_register prog_11_method_10_code 2 (some .long) ∈ gw := gw_c4 186 rfl rfl
theorem k907 : Cond.selects "RangeCoders$Table" ⟨"RangeCoders$Coder", "register", "(I)J"⟩ y_Stacked_register ∈ gw := gw_c4 187 rfl rfl
theorem k908 : Cond.methodLink "RangeCodersLaw" 86 y_RC_chance ∈ gw := gw_c4 188 rfl rfl
theorem k909 : Cond.instanceMethod y_RC_chance ∈ gw := gw_c4 189 rfl rfl
theorem k910 : Cond.selects "RangeCoders" y_RC_chance y_RC_chance ∈ gw := gw_c4 190 rfl rfl
theorem k911 : Cond.code y_RC_chance prog_1_method_17_code 4 (some .int) ∈ gw := gw_c4 191 rfl rfl
theorem k912 : Cond.methodLink "RangeCoders" 159 y_Odds_hasCell ∈ gw := gw_c4 192 rfl rfl
theorem k913 : Cond.methodLink "RangeCoders" 164 y_Odds_at ∈ gw := gw_c4 193 rfl rfl
theorem k914 : Cond.methodLink "RangeCodersLaw" 9 y_Law_cell ∈ gw := gw_c4 194 rfl rfl
theorem k915 : Cond.static y_Law_cell ∈ gw := gw_c4 195 rfl rfl
theorem k916 : Cond.code y_Law_cell method_2_code 2 (some .int) ∈ gw := gw_c4 196 rfl rfl
theorem k917 : Cond.classLink "RangeCodersLaw" 18 "RangeCodersModel" ∈ gw := gw_c4 197 rfl rfl
theorem k918 : Cond.instantiable "RangeCodersModel" 35 ∈ gw := gw_c4 198 rfl rfl
theorem k919 : Cond.methodLink "RangeCodersLaw" 20 y_M_init ∈ gw := gw_c4 199 rfl rfl
theorem k920 : Cond.instanceMethod y_M_init ∈ gw := gw_c4 200 rfl rfl
theorem k921 : Cond.code y_M_init prog_14_method_1_code 3 none ∈ gw := gw_c4 201 rfl rfl
theorem k922 : Cond.methodLink "RangeCodersModel" 1 y_Object_init ∈ gw := gw_c4 202 rfl rfl
theorem k923 : Cond.methodLink "RangeCodersModel" 53 y_M_start ∈ gw := gw_c4 203 rfl rfl
theorem k925 : Cond.instanceMethod y_M_start ∈ gw := gw_c4 205 rfl rfl
theorem k926 : Cond.code y_M_start prog_14_method_15_code 2 none ∈ gw := gw_c4 206 rfl rfl
theorem k927 : Cond.constantLong "RangeCodersModel" 108 4294967295 ∈ gw := gw_c4 207 rfl rfl
theorem k928 : Cond.methodLink "RangeCodersModel" 87 y_M_prepare ∈ gw := gw_c4 208 rfl rfl
theorem k930 : Cond.instanceMethod y_M_prepare ∈ gw := gw_c4 210 rfl rfl
theorem k931 : Cond.code y_M_prepare prog_14_method_7_code 5 none ∈ gw := gw_c4 211 rfl rfl
theorem k932 : Cond.methodLink "RangeCodersModel" 69 y_M_lessen ∈ gw := gw_c4 212 rfl rfl
theorem k934 : Cond.instanceMethod y_M_lessen ∈ gw := gw_c4 214 rfl rfl
theorem k935 : Cond.code y_M_lessen prog_14_method_10_code 3 none ∈ gw := gw_c4 215 rfl rfl
theorem k936 : Cond.methodLink "RangeCodersModel" 77 y_M_sum ∈ gw := gw_c4 216 rfl rfl
theorem k938 : Cond.instanceMethod y_M_sum ∈ gw := gw_c4 218 rfl rfl
theorem k939 : Cond.code y_M_sum prog_14_method_8_code 5 (some .int) ∈ gw := gw_c4 219 rfl rfl
theorem k940 : Cond.methodLink "RangeCodersModel" 81 y_M_halve ∈ gw := gw_c4 220 rfl rfl
theorem k942 : Cond.instanceMethod y_M_halve ∈ gw := gw_c4 222 rfl rfl
theorem k943 : Cond.code y_M_halve prog_14_method_9_code 4 none ∈ gw := gw_c4 223 rfl rfl
theorem k944 : Cond.methodLink "RangeCodersModel" 73 y_M_scale ∈ gw := gw_c4 224 rfl rfl
theorem k946 : Cond.instanceMethod y_M_scale ∈ gw := gw_c4 226 rfl rfl
theorem k947 : Cond.code y_M_scale prog_14_method_12_code 8 none ∈ gw := gw_c4 227 rfl rfl
theorem k948 : Cond.methodLink "RangeCodersModel" 84 y_M_greatest ∈ gw := gw_c4 228 rfl rfl
theorem k950 : Cond.instanceMethod y_M_greatest ∈ gw := gw_c4 230 rfl rfl
theorem k951 : Cond.code y_M_greatest prog_14_method_11_code 5 (some .int) ∈ gw := gw_c4 231 rfl rfl
theorem k952 : Cond.fieldLink "RangeCodersModel" 46 "RangeCodersModel" "form" "I" ∈ gw := gw_c4 232 rfl rfl
theorem k953 : Cond.fieldLink "RangeCodersModel" 50 "RangeCodersModel" "shift" "I" ∈ gw := gw_c4 233 rfl rfl
theorem k954 : Cond.fieldLink "RangeCodersModel" 59 "RangeCodersModel" "models" "I" ∈ gw := gw_c4 234 rfl rfl
theorem k955 : Cond.fieldLink "RangeCodersModel" 7 "RangeCodersModel" "many" "[I" ∈ gw := gw_c4 235 rfl rfl
theorem k956 : Cond.fieldLink "RangeCodersModel" 13 "RangeCodersModel" "counts" "[I" ∈ gw := gw_c4 236 rfl rfl
theorem k957 : Cond.fieldLink "RangeCodersModel" 16 "RangeCodersModel" "now" "[I" ∈ gw := gw_c4 237 rfl rfl
theorem k958 : Cond.fieldLink "RangeCodersModel" 19 "RangeCodersModel" "then" "[I" ∈ gw := gw_c4 238 rfl rfl
theorem k959 : Cond.fieldLink "RangeCodersModel" 94 "RangeCodersModel" "items" "I" ∈ gw := gw_c4 239 rfl rfl
theorem k960 : Cond.fieldLink "RangeCodersModel" 22 "RangeCodersModel" "itemModel" "[I" ∈ gw := gw_c5 0 rfl rfl
theorem k961 : Cond.fieldLink "RangeCodersModel" 25 "RangeCodersModel" "itemWhat" "[I" ∈ gw := gw_c5 1 rfl rfl
theorem k962 : Cond.fieldLink "RangeCodersModel" 97 "RangeCodersModel" "ended" "Z" ∈ gw := gw_c5 2 rfl rfl
theorem k963 : Cond.fieldLink "RangeCodersModel" 104 "RangeCodersModel" "low" "J" ∈ gw := gw_c5 3 rfl rfl
theorem k964 : Cond.fieldLink "RangeCodersModel" 110 "RangeCodersModel" "range" "J" ∈ gw := gw_c5 4 rfl rfl
theorem k965 : Cond.fieldLink "RangeCodersModel" 113 "RangeCodersModel" "cache" "I" ∈ gw := gw_c5 5 rfl rfl
theorem k966 : Cond.fieldLink "RangeCodersModel" 116 "RangeCodersModel" "pending" "I" ∈ gw := gw_c5 6 rfl rfl
theorem k967 : Cond.fieldLink "RangeCodersModel" 28 "RangeCodersModel" "going" "[I" ∈ gw := gw_c5 7 rfl rfl
theorem k968 : Cond.fieldLink "RangeCodersModel" 119 "RangeCodersModel" "goes" "I" ∈ gw := gw_c5 8 rfl rfl
theorem k969 : Cond.fieldLink "RangeCodersModel" 31 "RangeCodersModel" "out" "[I" ∈ gw := gw_c5 9 rfl rfl
theorem k970 : Cond.fieldLink "RangeCodersModel" 185 "RangeCodersModel" "outs" "I" ∈ gw := gw_c5 10 rfl rfl
theorem k971 : Cond.fieldLink "RangeCodersModel" 34 "RangeCodersModel" "in" "[I" ∈ gw := gw_c5 11 rfl rfl
theorem k972 : Cond.fieldLink "RangeCodersModel" 204 "RangeCodersModel" "ins" "I" ∈ gw := gw_c5 12 rfl rfl
theorem k973 : Cond.fieldLink "RangeCodersModel" 101 "RangeCodersModel" "reads" "Z" ∈ gw := gw_c5 13 rfl rfl
theorem k974 : Cond.fieldLink "RangeCodersModel" 217 "RangeCodersModel" "bad" "Z" ∈ gw := gw_c5 14 rfl rfl
theorem k975 : Cond.fieldLink "RangeCodersModel" 220 "RangeCodersModel" "itemsRead" "I" ∈ gw := gw_c5 15 rfl rfl
theorem k976 : Cond.fieldLink "RangeCodersModel" 207 "RangeCodersModel" "asked" "I" ∈ gw := gw_c5 16 rfl rfl
theorem k977 : Cond.fieldLink "RangeCodersModel" 210 "RangeCodersModel" "bitsAsked" "I" ∈ gw := gw_c5 17 rfl rfl
theorem k978 : Cond.fieldLink "RangeCodersModel" 223 "RangeCodersModel" "code" "J" ∈ gw := gw_c5 18 rfl rfl
theorem k979 : Cond.fieldLink "RangeCodersModel" 226 "RangeCodersModel" "readLow" "J" ∈ gw := gw_c5 19 rfl rfl
theorem k980 : Cond.fieldLink "RangeCodersModel" 229 "RangeCodersModel" "readRange" "J" ∈ gw := gw_c5 20 rfl rfl
theorem k981 : Cond.fieldLink "RangeCodersModel" 232 "RangeCodersModel" "x" "J" ∈ gw := gw_c5 21 rfl rfl
theorem k982 : Cond.fieldLink "RangeCodersModel" 37 "RangeCodersModel" "signOf" "[I" ∈ gw := gw_c5 22 rfl rfl
theorem k983 : Cond.fieldLink "RangeCodersModel" 40 "RangeCodersModel" "numberOf" "[I" ∈ gw := gw_c5 23 rfl rfl
theorem k984 : Cond.fieldLink "RangeCodersModel" 43 "RangeCodersModel" "written" "[I" ∈ gw := gw_c5 24 rfl rfl
theorem k985 : Cond.fieldLink "RangeCodersModel" 188 "RangeCodersModel" "writes" "I" ∈ gw := gw_c5 25 rfl rfl
theorem k986 : Cond.fieldLink "RangeCodersModel" 56 "RangeCodersModel" "thrown" "I" ∈ gw := gw_c5 26 rfl rfl
theorem k987 : Cond.laysFinal "RangeCodersModel" "RangeCodersModel" "form" "I" ∈ gw := gw_c5 27 rfl rfl
theorem k989 : Cond.laysFinal "RangeCodersModel" "RangeCodersModel" "shift" "I" ∈ gw := gw_c5 29 rfl rfl
theorem k991 : Cond.lays "RangeCodersModel" "RangeCodersModel" "models" "I" ∈ gw := gw_c5 31 rfl rfl
theorem k993 : Cond.laysFinal "RangeCodersModel" "RangeCodersModel" "many" "[I" ∈ gw := gw_c5 33 rfl rfl
theorem k995 : Cond.laysFinal "RangeCodersModel" "RangeCodersModel" "counts" "[I" ∈ gw := gw_c5 35 rfl rfl
theorem k997 : Cond.laysFinal "RangeCodersModel" "RangeCodersModel" "now" "[I" ∈ gw := gw_c5 37 rfl rfl
theorem k999 : Cond.laysFinal "RangeCodersModel" "RangeCodersModel" "then" "[I" ∈ gw := gw_c5 39 rfl rfl
theorem k1001 : Cond.lays "RangeCodersModel" "RangeCodersModel" "items" "I" ∈ gw := gw_c5 41 rfl rfl
theorem k1003 : Cond.laysFinal "RangeCodersModel" "RangeCodersModel" "itemModel" "[I" ∈ gw := gw_c5 43 rfl rfl
theorem k1005 : Cond.laysFinal "RangeCodersModel" "RangeCodersModel" "itemWhat" "[I" ∈ gw := gw_c5 45 rfl rfl
theorem k1007 : Cond.lays "RangeCodersModel" "RangeCodersModel" "ended" "Z" ∈ gw := gw_c5 47 rfl rfl
theorem k1009 : Cond.lays "RangeCodersModel" "RangeCodersModel" "low" "J" ∈ gw := gw_c5 49 rfl rfl
theorem k1011 : Cond.lays "RangeCodersModel" "RangeCodersModel" "range" "J" ∈ gw := gw_c5 51 rfl rfl
theorem k1013 : Cond.lays "RangeCodersModel" "RangeCodersModel" "cache" "I" ∈ gw := gw_c5 53 rfl rfl
theorem k1015 : Cond.lays "RangeCodersModel" "RangeCodersModel" "pending" "I" ∈ gw := gw_c5 55 rfl rfl
theorem k1017 : Cond.laysFinal "RangeCodersModel" "RangeCodersModel" "going" "[I" ∈ gw := gw_c5 57 rfl rfl
theorem k1019 : Cond.lays "RangeCodersModel" "RangeCodersModel" "goes" "I" ∈ gw := gw_c5 59 rfl rfl
theorem k1021 : Cond.laysFinal "RangeCodersModel" "RangeCodersModel" "out" "[I" ∈ gw := gw_c5 61 rfl rfl
theorem k1023 : Cond.lays "RangeCodersModel" "RangeCodersModel" "outs" "I" ∈ gw := gw_c5 63 rfl rfl
theorem k1025 : Cond.laysFinal "RangeCodersModel" "RangeCodersModel" "in" "[I" ∈ gw := gw_c5 65 rfl rfl
theorem k1027 : Cond.lays "RangeCodersModel" "RangeCodersModel" "ins" "I" ∈ gw := gw_c5 67 rfl rfl
theorem k1029 : Cond.lays "RangeCodersModel" "RangeCodersModel" "reads" "Z" ∈ gw := gw_c5 69 rfl rfl
theorem k1031 : Cond.lays "RangeCodersModel" "RangeCodersModel" "bad" "Z" ∈ gw := gw_c5 71 rfl rfl
theorem k1033 : Cond.lays "RangeCodersModel" "RangeCodersModel" "itemsRead" "I" ∈ gw := gw_c5 73 rfl rfl
theorem k1035 : Cond.lays "RangeCodersModel" "RangeCodersModel" "asked" "I" ∈ gw := gw_c5 75 rfl rfl
theorem k1037 : Cond.lays "RangeCodersModel" "RangeCodersModel" "bitsAsked" "I" ∈ gw := gw_c5 77 rfl rfl
theorem k1039 : Cond.lays "RangeCodersModel" "RangeCodersModel" "code" "J" ∈ gw := gw_c5 79 rfl rfl
theorem k1041 : Cond.lays "RangeCodersModel" "RangeCodersModel" "readLow" "J" ∈ gw := gw_c5 81 rfl rfl
theorem k1043 : Cond.lays "RangeCodersModel" "RangeCodersModel" "readRange" "J" ∈ gw := gw_c5 83 rfl rfl
theorem k1045 : Cond.lays "RangeCodersModel" "RangeCodersModel" "x" "J" ∈ gw := gw_c5 85 rfl rfl
theorem k1047 : Cond.laysFinal "RangeCodersModel" "RangeCodersModel" "signOf" "[I" ∈ gw := gw_c5 87 rfl rfl
theorem k1049 : Cond.laysFinal "RangeCodersModel" "RangeCodersModel" "numberOf" "[I" ∈ gw := gw_c5 89 rfl rfl
theorem k1051 : Cond.laysFinal "RangeCodersModel" "RangeCodersModel" "written" "[I" ∈ gw := gw_c5 91 rfl rfl
theorem k1053 : Cond.lays "RangeCodersModel" "RangeCodersModel" "writes" "I" ∈ gw := gw_c5 93 rfl rfl
theorem k1055 : Cond.lays "RangeCodersModel" "RangeCodersModel" "thrown" "I" ∈ gw := gw_c5 95 rfl rfl
theorem k1058 : Cond.methodLink "RangeCodersLaw" 25 y_M_model ∈ gw := gw_c5 98 rfl rfl
theorem k1059 : Cond.instanceMethod y_M_model ∈ gw := gw_c5 99 rfl rfl
theorem k1060 : Cond.selects "RangeCodersModel" y_M_model y_M_model ∈ gw := gw_c5 100 rfl rfl
theorem k1061 : Cond.code y_M_model prog_14_method_13_code 4 (some .int) ∈ gw := gw_c5 101 rfl rfl
theorem k1062 : Cond.methodLink "RangeCodersModel" 62 y_M_in ∈ gw := gw_c5 102 rfl rfl
theorem k1063 : Cond.static y_M_in ∈ gw := gw_c5 103 rfl rfl
theorem k1064 : Cond.code y_M_in prog_14_method_3_code 3 (some .boolean) ∈ gw := gw_c5 104 rfl rfl
theorem k1065 : Cond.methodLink "RangeCodersLaw" 30 y_M_count ∈ gw := gw_c5 105 rfl rfl
theorem k1066 : Cond.instanceMethod y_M_count ∈ gw := gw_c5 106 rfl rfl
theorem k1067 : Cond.selects "RangeCodersModel" y_M_count y_M_count ∈ gw := gw_c5 107 rfl rfl
theorem k1068 : Cond.code y_M_count prog_14_method_14_code 5 (some .int) ∈ gw := gw_c5 108 rfl rfl
theorem k1069 : Cond.methodLink "RangeCodersModel" 90 y_M_isSign ∈ gw := gw_c5 109 rfl rfl
theorem k1071 : Cond.instanceMethod y_M_isSign ∈ gw := gw_c5 111 rfl rfl
theorem k1072 : Cond.code y_M_isSign prog_14_method_5_code 3 (some .boolean) ∈ gw := gw_c5 112 rfl rfl
theorem k1073 : Cond.methodLink "RangeCodersModel" 65 y_M_isModel ∈ gw := gw_c5 113 rfl rfl
theorem k1075 : Cond.instanceMethod y_M_isModel ∈ gw := gw_c5 115 rfl rfl
theorem k1076 : Cond.code y_M_isModel prog_14_method_4_code 2 (some .boolean) ∈ gw := gw_c5 116 rfl rfl
theorem k1077 : Cond.methodLink "RangeCodersLaw" 48 y_M_begin ∈ gw := gw_c5 117 rfl rfl
theorem k1078 : Cond.instanceMethod y_M_begin ∈ gw := gw_c5 118 rfl rfl
theorem k1079 : Cond.selects "RangeCodersModel" y_M_begin y_M_begin ∈ gw := gw_c5 119 rfl rfl
theorem k1080 : Cond.code y_M_begin prog_14_method_16_code 2 (some .int) ∈ gw := gw_c5 120 rfl rfl
theorem k1081 : Cond.methodLink "RangeCodersLaw" 35 y_M_put ∈ gw := gw_c5 121 rfl rfl
theorem k1082 : Cond.instanceMethod y_M_put ∈ gw := gw_c5 122 rfl rfl
theorem k1083 : Cond.selects "RangeCodersModel" y_M_put y_M_put ∈ gw := gw_c5 123 rfl rfl
theorem k1084 : Cond.code y_M_put prog_14_method_29_code 3 (some .int) ∈ gw := gw_c5 124 rfl rfl
theorem k1085 : Cond.methodLink "RangeCodersModel" 169 y_M_putSign ∈ gw := gw_c5 125 rfl rfl
theorem k1087 : Cond.instanceMethod y_M_putSign ∈ gw := gw_c5 127 rfl rfl
theorem k1088 : Cond.code y_M_putSign prog_14_method_24_code 6 none ∈ gw := gw_c5 128 rfl rfl
theorem k1089 : Cond.methodLink "RangeCodersModel" 147 y_M_before ∈ gw := gw_c5 129 rfl rfl
theorem k1091 : Cond.instanceMethod y_M_before ∈ gw := gw_c5 131 rfl rfl
theorem k1092 : Cond.code y_M_before prog_14_method_22_code 6 (some .int) ∈ gw := gw_c5 132 rfl rfl
theorem k1093 : Cond.methodLink "RangeCodersModel" 151 y_M_narrow ∈ gw := gw_c5 133 rfl rfl
theorem k1095 : Cond.instanceMethod y_M_narrow ∈ gw := gw_c5 135 rfl rfl
theorem k1096 : Cond.code y_M_narrow prog_14_method_21_code 6 none ∈ gw := gw_c5 136 rfl rfl
theorem k1097 : Cond.methodLink "RangeCodersModel" 141 y_M_widen ∈ gw := gw_c5 137 rfl rfl
theorem k1099 : Cond.instanceMethod y_M_widen ∈ gw := gw_c5 139 rfl rfl
theorem k1100 : Cond.code y_M_widen prog_14_method_19_code 1 none ∈ gw := gw_c5 140 rfl rfl
theorem k1101 : Cond.constantLong "RangeCodersModel" 132 16777216 ∈ gw := gw_c5 141 rfl rfl
theorem k1102 : Cond.methodLink "RangeCodersModel" 134 y_M_shifted ∈ gw := gw_c5 142 rfl rfl
theorem k1104 : Cond.instanceMethod y_M_shifted ∈ gw := gw_c5 144 rfl rfl
theorem k1105 : Cond.code y_M_shifted prog_14_method_18_code 2 none ∈ gw := gw_c5 145 rfl rfl
theorem k1106 : Cond.constantLong "RangeCodersModel" 122 4278190080 ∈ gw := gw_c5 146 rfl rfl
theorem k1107 : Cond.methodLink "RangeCodersModel" 124 y_M_write ∈ gw := gw_c5 147 rfl rfl
theorem k1109 : Cond.instanceMethod y_M_write ∈ gw := gw_c5 149 rfl rfl
theorem k1110 : Cond.code y_M_write prog_14_method_17_code 2 none ∈ gw := gw_c5 150 rfl rfl
theorem k1111 : Cond.constantLong "RangeCodersModel" 128 255 ∈ gw := gw_c5 151 rfl rfl
theorem k1112 : Cond.constantLong "RangeCodersModel" 130 16777215 ∈ gw := gw_c5 152 rfl rfl
theorem k1113 : Cond.methodLink "RangeCodersModel" 144 y_M_widenPlain ∈ gw := gw_c5 153 rfl rfl
theorem k1115 : Cond.instanceMethod y_M_widenPlain ∈ gw := gw_c5 155 rfl rfl
theorem k1116 : Cond.code y_M_widenPlain prog_14_method_20_code 3 none ∈ gw := gw_c5 156 rfl rfl
theorem k1117 : Cond.constantLong "RangeCodersModel" 137 65536 ∈ gw := gw_c5 157 rfl rfl
theorem k1118 : Cond.constantLong "RangeCodersModel" 139 65535 ∈ gw := gw_c5 158 rfl rfl
theorem k1119 : Cond.methodLink "RangeCodersModel" 155 y_M_learn ∈ gw := gw_c5 159 rfl rfl
theorem k1121 : Cond.instanceMethod y_M_learn ∈ gw := gw_c5 161 rfl rfl
theorem k1122 : Cond.code y_M_learn prog_14_method_23_code 4 none ∈ gw := gw_c5 162 rfl rfl
theorem k1123 : Cond.methodLink "RangeCodersModel" 158 y_M_levels ∈ gw := gw_c5 163 rfl rfl
theorem k1125 : Cond.instanceMethod y_M_levels ∈ gw := gw_c5 165 rfl rfl
theorem k1126 : Cond.code y_M_levels prog_14_method_6_code 3 (some .int) ∈ gw := gw_c5 166 rfl rfl
theorem k1127 : Cond.methodLink "RangeCodersModel" 162 y_M_putBit ∈ gw := gw_c5 167 rfl rfl
theorem k1129 : Cond.instanceMethod y_M_putBit ∈ gw := gw_c5 169 rfl rfl
theorem k1130 : Cond.code y_M_putBit prog_14_method_25_code 5 none ∈ gw := gw_c5 170 rfl rfl
theorem k1131 : Cond.methodLink "RangeCodersModel" 166 y_M_moveChance ∈ gw := gw_c5 171 rfl rfl
theorem k1133 : Cond.instanceMethod y_M_moveChance ∈ gw := gw_c5 173 rfl rfl
theorem k1134 : Cond.code y_M_moveChance prog_14_method_26_code 5 none ∈ gw := gw_c5 174 rfl rfl
theorem k1135 : Cond.methodLink "RangeCodersModel" 172 y_M_addItem ∈ gw := gw_c5 175 rfl rfl
theorem k1137 : Cond.instanceMethod y_M_addItem ∈ gw := gw_c5 177 rfl rfl
theorem k1138 : Cond.code y_M_addItem prog_14_method_28_code 3 (some .int) ∈ gw := gw_c5 178 rfl rfl
theorem k1139 : Cond.methodLink "RangeCodersLaw" 39 y_M_bits ∈ gw := gw_c5 179 rfl rfl
theorem k1140 : Cond.instanceMethod y_M_bits ∈ gw := gw_c5 180 rfl rfl
theorem k1141 : Cond.selects "RangeCodersModel" y_M_bits y_M_bits ∈ gw := gw_c5 181 rfl rfl
theorem k1142 : Cond.code y_M_bits prog_14_method_30_code 3 (some .int) ∈ gw := gw_c5 182 rfl rfl
theorem k1143 : Cond.methodLink "RangeCodersModel" 176 y_M_putValue ∈ gw := gw_c5 183 rfl rfl
theorem k1145 : Cond.instanceMethod y_M_putValue ∈ gw := gw_c5 185 rfl rfl
theorem k1146 : Cond.code y_M_putValue prog_14_method_27_code 4 none ∈ gw := gw_c5 186 rfl rfl
theorem k1147 : Cond.methodLink "RangeCodersLaw" 44 y_M_end ∈ gw := gw_c5 187 rfl rfl
theorem k1148 : Cond.instanceMethod y_M_end ∈ gw := gw_c5 188 rfl rfl
theorem k1149 : Cond.selects "RangeCodersModel" y_M_end y_M_end ∈ gw := gw_c5 189 rfl rfl
theorem k1150 : Cond.code y_M_end prog_14_method_31_code 2 (some .int) ∈ gw := gw_c5 190 rfl rfl
theorem k1151 : Cond.methodLink "RangeCodersModel" 179 y_M_endStack ∈ gw := gw_c5 191 rfl rfl
theorem k1153 : Cond.instanceMethod y_M_endStack ∈ gw := gw_c5 193 rfl rfl
theorem k1154 : Cond.code y_M_endStack prog_14_method_32_code 10 none ∈ gw := gw_c5 194 rfl rfl
theorem k1155 : Cond.constantLong "RangeCodersModel" 191 8388608 ∈ gw := gw_c5 195 rfl rfl
theorem k1156 : Cond.methodLink "RangeCodersModel" 182 y_M_endTable ∈ gw := gw_c5 196 rfl rfl
theorem k1158 : Cond.instanceMethod y_M_endTable ∈ gw := gw_c5 198 rfl rfl
theorem k1159 : Cond.code y_M_endTable prog_14_method_35_code 9 none ∈ gw := gw_c5 199 rfl rfl
theorem k1160 : Cond.constantLong "RangeCodersModel" 193 512 ∈ gw := gw_c5 200 rfl rfl
theorem k1161 : Cond.methodLink "RangeCodersModel" 195 y_M_writeBit ∈ gw := gw_c5 201 rfl rfl
theorem k1163 : Cond.instanceMethod y_M_writeBit ∈ gw := gw_c5 203 rfl rfl
theorem k1164 : Cond.code y_M_writeBit prog_14_method_34_code 3 none ∈ gw := gw_c5 204 rfl rfl
theorem k1165 : Cond.methodLink "RangeCodersModel" 199 y_M_lay ∈ gw := gw_c5 205 rfl rfl
theorem k1167 : Cond.instanceMethod y_M_lay ∈ gw := gw_c5 207 rfl rfl
theorem k1168 : Cond.code y_M_lay prog_14_method_33_code 7 none ∈ gw := gw_c5 208 rfl rfl
theorem k1169 : Cond.constantLong "RangeCodersModel" 202 2 ∈ gw := gw_c5 209 rfl rfl
theorem k1170 : Cond.methodLink "RangeCodersLaw" 52 y_M_out ∈ gw := gw_c5 210 rfl rfl
theorem k1171 : Cond.instanceMethod y_M_out ∈ gw := gw_c5 211 rfl rfl
theorem k1172 : Cond.selects "RangeCodersModel" y_M_out y_M_out ∈ gw := gw_c5 212 rfl rfl
theorem k1173 : Cond.code y_M_out prog_14_method_36_code 2 (some .int) ∈ gw := gw_c5 213 rfl rfl
theorem k1174 : Cond.methodLink "RangeCodersLaw" 56 y_M_octets ∈ gw := gw_c5 214 rfl rfl
theorem k1175 : Cond.instanceMethod y_M_octets ∈ gw := gw_c5 215 rfl rfl
theorem k1176 : Cond.selects "RangeCodersModel" y_M_octets y_M_octets ∈ gw := gw_c5 216 rfl rfl
theorem k1177 : Cond.code y_M_octets prog_14_method_37_code 3 (some .int) ∈ gw := gw_c5 217 rfl rfl
theorem k1178 : Cond.methodLink "RangeCodersLaw" 60 y_M_take ∈ gw := gw_c5 218 rfl rfl
theorem k1179 : Cond.instanceMethod y_M_take ∈ gw := gw_c5 219 rfl rfl
theorem k1180 : Cond.selects "RangeCodersModel" y_M_take y_M_take ∈ gw := gw_c5 220 rfl rfl
theorem k1181 : Cond.code y_M_take prog_14_method_38_code 4 (some .int) ∈ gw := gw_c5 221 rfl rfl
theorem k1182 : Cond.methodLink "RangeCodersLaw" 64 y_M_spoil ∈ gw := gw_c5 222 rfl rfl
theorem k1183 : Cond.instanceMethod y_M_spoil ∈ gw := gw_c5 223 rfl rfl
theorem k1184 : Cond.selects "RangeCodersModel" y_M_spoil y_M_spoil ∈ gw := gw_c5 224 rfl rfl
theorem k1185 : Cond.code y_M_spoil prog_14_method_39_code 3 (some .int) ∈ gw := gw_c5 225 rfl rfl
theorem k1186 : Cond.methodLink "RangeCodersLaw" 68 y_M_read ∈ gw := gw_c5 226 rfl rfl
theorem k1187 : Cond.instanceMethod y_M_read ∈ gw := gw_c5 227 rfl rfl
theorem k1188 : Cond.selects "RangeCodersModel" y_M_read y_M_read ∈ gw := gw_c5 228 rfl rfl
theorem k1189 : Cond.code y_M_read prog_14_method_43_code 2 (some .int) ∈ gw := gw_c5 229 rfl rfl
theorem k1190 : Cond.methodLink "RangeCodersModel" 235 y_M_four ∈ gw := gw_c5 230 rfl rfl
theorem k1192 : Cond.instanceMethod y_M_four ∈ gw := gw_c5 232 rfl rfl
theorem k1193 : Cond.code y_M_four prog_14_method_42_code 4 (some .long) ∈ gw := gw_c5 233 rfl rfl
theorem k1194 : Cond.methodLink "RangeCodersModel" 213 y_M_next ∈ gw := gw_c5 234 rfl rfl
theorem k1196 : Cond.instanceMethod y_M_next ∈ gw := gw_c5 236 rfl rfl
theorem k1197 : Cond.code y_M_next prog_14_method_40_code 2 (some .int) ∈ gw := gw_c5 237 rfl rfl
theorem k1198 : Cond.methodLink "RangeCodersModel" 239 y_M_nextBit ∈ gw := gw_c5 238 rfl rfl
theorem k1200 : Cond.instanceMethod y_M_nextBit ∈ gw := gw_c6 0 rfl rfl
theorem k1201 : Cond.code y_M_nextBit prog_14_method_41_code 3 (some .int) ∈ gw := gw_c6 1 rfl rfl
theorem k1202 : Cond.methodLink "RangeCodersLaw" 72 y_M_get ∈ gw := gw_c6 2 rfl rfl
theorem k1203 : Cond.instanceMethod y_M_get ∈ gw := gw_c6 3 rfl rfl
theorem k1204 : Cond.selects "RangeCodersModel" y_M_get y_M_get ∈ gw := gw_c6 4 rfl rfl
theorem k1205 : Cond.code y_M_get prog_14_method_56_code 3 (some .int) ∈ gw := gw_c6 5 rfl rfl
theorem k1206 : Cond.methodLink "RangeCodersModel" 270 y_M_getRanged ∈ gw := gw_c6 6 rfl rfl
theorem k1208 : Cond.instanceMethod y_M_getRanged ∈ gw := gw_c6 8 rfl rfl
theorem k1209 : Cond.code y_M_getRanged prog_14_method_52_code 6 (some .int) ∈ gw := gw_c6 9 rfl rfl
theorem k1210 : Cond.methodLink "RangeCodersModel" 254 y_M_wanted ∈ gw := gw_c6 10 rfl rfl
theorem k1212 : Cond.instanceMethod y_M_wanted ∈ gw := gw_c6 12 rfl rfl
theorem k1213 : Cond.code y_M_wanted prog_14_method_47_code 6 (some .long) ∈ gw := gw_c6 13 rfl rfl
theorem k1214 : Cond.constantLong "RangeCodersModel" 242 (-1) ∈ gw := gw_c6 14 rfl rfl
theorem k1215 : Cond.methodLink "RangeCodersModel" 258 y_M_signAt ∈ gw := gw_c6 15 rfl rfl
theorem k1217 : Cond.instanceMethod y_M_signAt ∈ gw := gw_c6 17 rfl rfl
theorem k1218 : Cond.code y_M_signAt prog_14_method_49_code 7 (some .int) ∈ gw := gw_c6 18 rfl rfl
theorem k1219 : Cond.methodLink "RangeCodersModel" 262 y_M_leave ∈ gw := gw_c6 19 rfl rfl
theorem k1221 : Cond.instanceMethod y_M_leave ∈ gw := gw_c6 21 rfl rfl
theorem k1222 : Cond.code y_M_leave prog_14_method_48_code 6 none ∈ gw := gw_c6 22 rfl rfl
theorem k1223 : Cond.methodLink "RangeCodersModel" 244 y_M_widenRead ∈ gw := gw_c6 23 rfl rfl
theorem k1225 : Cond.instanceMethod y_M_widenRead ∈ gw := gw_c6 25 rfl rfl
theorem k1226 : Cond.code y_M_widenRead prog_14_method_45_code 1 none ∈ gw := gw_c6 26 rfl rfl
theorem k1227 : Cond.methodLink "RangeCodersModel" 247 y_M_widenReadPlain ∈ gw := gw_c6 27 rfl rfl
theorem k1229 : Cond.instanceMethod y_M_widenReadPlain ∈ gw := gw_c6 29 rfl rfl
theorem k1230 : Cond.code y_M_widenReadPlain prog_14_method_46_code 3 none ∈ gw := gw_c6 30 rfl rfl
theorem k1231 : Cond.methodLink "RangeCodersModel" 273 y_M_getNode ∈ gw := gw_c6 31 rfl rfl
theorem k1233 : Cond.instanceMethod y_M_getNode ∈ gw := gw_c6 33 rfl rfl
theorem k1234 : Cond.code y_M_getNode prog_14_method_51_code 6 (some .int) ∈ gw := gw_c6 34 rfl rfl
theorem k1235 : Cond.methodLink "RangeCodersModel" 250 y_M_readBit ∈ gw := gw_c6 35 rfl rfl
theorem k1237 : Cond.instanceMethod y_M_readBit ∈ gw := gw_c6 37 rfl rfl
theorem k1238 : Cond.code y_M_readBit prog_14_method_50_code 5 (some .int) ∈ gw := gw_c6 38 rfl rfl
theorem k1239 : Cond.methodLink "RangeCodersModel" 276 y_M_getStacked ∈ gw := gw_c6 39 rfl rfl
theorem k1241 : Cond.instanceMethod y_M_getStacked ∈ gw := gw_c6 41 rfl rfl
theorem k1242 : Cond.code y_M_getStacked prog_14_method_53_code 4 (some .int) ∈ gw := gw_c6 42 rfl rfl
theorem k1243 : Cond.constantLong "RangeCodersModel" 265 4095 ∈ gw := gw_c6 43 rfl rfl
theorem k1244 : Cond.methodLink "RangeCodersModel" 267 y_M_refill ∈ gw := gw_c6 44 rfl rfl
theorem k1246 : Cond.instanceMethod y_M_refill ∈ gw := gw_c6 46 rfl rfl
theorem k1247 : Cond.code y_M_refill prog_14_method_54_code 1 none ∈ gw := gw_c6 47 rfl rfl
theorem k1248 : Cond.methodLink "RangeCodersModel" 279 y_M_getTabled ∈ gw := gw_c6 48 rfl rfl
theorem k1250 : Cond.instanceMethod y_M_getTabled ∈ gw := gw_c6 50 rfl rfl
theorem k1251 : Cond.code y_M_getTabled prog_14_method_55_code 4 (some .int) ∈ gw := gw_c6 51 rfl rfl
theorem k1252 : Cond.methodLink "RangeCodersModel" 282 y_M_spoiled ∈ gw := gw_c6 52 rfl rfl
theorem k1254 : Cond.instanceMethod y_M_spoiled ∈ gw := gw_c6 54 rfl rfl
theorem k1255 : Cond.code y_M_spoiled prog_14_method_44_code 1 (some .int) ∈ gw := gw_c6 55 rfl rfl
theorem k1256 : Cond.methodLink "RangeCodersLaw" 76 y_M_getBits ∈ gw := gw_c6 56 rfl rfl
theorem k1257 : Cond.instanceMethod y_M_getBits ∈ gw := gw_c6 57 rfl rfl
theorem k1258 : Cond.selects "RangeCodersModel" y_M_getBits y_M_getBits ∈ gw := gw_c6 58 rfl rfl
theorem k1259 : Cond.code y_M_getBits prog_14_method_57_code 3 (some .int) ∈ gw := gw_c6 59 rfl rfl
theorem k1260 : Cond.methodLink "RangeCodersModel" 285 y_M_valueOf ∈ gw := gw_c6 60 rfl rfl
theorem k1262 : Cond.instanceMethod y_M_valueOf ∈ gw := gw_c6 62 rfl rfl
theorem k1263 : Cond.code y_M_valueOf prog_14_method_58_code 5 (some .int) ∈ gw := gw_c6 63 rfl rfl
theorem k1264 : Cond.methodLink "RangeCodersModel" 288 y_M_plainBits ∈ gw := gw_c6 64 rfl rfl
theorem k1266 : Cond.instanceMethod y_M_plainBits ∈ gw := gw_c6 66 rfl rfl
theorem k1267 : Cond.code y_M_plainBits prog_14_method_59_code 5 (some .int) ∈ gw := gw_c6 67 rfl rfl
theorem k1268 : Cond.methodLink "RangeCodersLaw" 80 y_M_told ∈ gw := gw_c6 68 rfl rfl
theorem k1269 : Cond.instanceMethod y_M_told ∈ gw := gw_c6 69 rfl rfl
theorem k1270 : Cond.selects "RangeCodersModel" y_M_told y_M_told ∈ gw := gw_c6 70 rfl rfl
theorem k1271 : Cond.code y_M_told prog_14_method_60_code 2 (some .int) ∈ gw := gw_c6 71 rfl rfl
theorem k1272 : Cond.methodLink "RangeCodersLaw" 85 y_M_state ∈ gw := gw_c6 72 rfl rfl
theorem k1273 : Cond.instanceMethod y_M_state ∈ gw := gw_c6 73 rfl rfl
theorem k1274 : Cond.selects "RangeCodersModel" y_M_state y_M_state ∈ gw := gw_c6 74 rfl rfl
theorem k1275 : Cond.code y_M_state prog_14_method_61_code 2 (some .long) ∈ gw := gw_c6 75 rfl rfl
theorem k1276 : Cond.constantLong "RangeCodersModel" 291 (-2) ∈ gw := gw_c6 76 rfl rfl
theorem k1277 : Cond.methodLink "RangeCodersLaw" 89 y_M_chance ∈ gw := gw_c6 77 rfl rfl
theorem k1278 : Cond.instanceMethod y_M_chance ∈ gw := gw_c6 78 rfl rfl
theorem k1279 : Cond.selects "RangeCodersModel" y_M_chance y_M_chance ∈ gw := gw_c6 79 rfl rfl
theorem k1280 : Cond.code y_M_chance prog_14_method_62_code 4 (some .int) ∈ gw := gw_c6 80 rfl rfl
theorem k1281 : Cond.sameMethod "RangeCoders$Carries" "RangeCoders$Carries" "shiftLow" "()V" ∈ gw := gw_c6 81 rfl rfl
theorem k1282 : Cond.sameMethod "RangeCoders$Carries" "RangeCoders$Carries" "writeWaiting" "(I)V" ∈ gw := gw_c6 82 rfl rfl
theorem k1285 : Cond.selects "RangeCoders$Carries" y_Carries_widen y_Carries_widen ∈ gw := gw_c6 85 rfl rfl
theorem k1286 : Cond.sameMethod "RangeCoders$Stacked" "RangeCoders$Stacked" "keep" "(LRangeCoders$Odds;II)V" ∈ gw := gw_c6 86 rfl rfl
theorem k1287 : Cond.selects "RangeCoders$Table" y_Table_stackValue y_Table_stackValue ∈ gw := gw_c6 87 rfl rfl
theorem k1288 : Cond.sameMethod "RangeCoders$Ranged" "RangeCoders$Ranged" "openMessage" "()V" ∈ gw := gw_c6 88 rfl rfl
theorem k1289 : Cond.sameMethod "RangeCoders$Ranged" "RangeCoders$Ranged" "nextShare" "(I)I" ∈ gw := gw_c6 89 rfl rfl
theorem k1292 : Cond.selects "RangeCoders$Carries" y_Carries_widenReading y_Carries_widenReading ∈ gw := gw_c6 92 rfl rfl
theorem kx0 : Cond.selects "RangeCoders$Bits" y_Carries_shiftLow y_Carries_shiftLow ∈ gw := gw_ex 0 rfl rfl
theorem kx1 : Cond.selects "RangeCoders$Bits" y_Carries_writeWaiting y_Carries_writeWaiting ∈ gw := gw_ex 1 rfl rfl
theorem kx2 : Cond.selects "RangeCoders$Stack" y_Stacked_keep y_Stacked_keep ∈ gw := gw_ex 2 rfl rfl
theorem kx3 : Cond.selects "RangeCoders$Table" y_Stacked_keep y_Stacked_keep ∈ gw := gw_ex 3 rfl rfl
theorem kx4 : Cond.selects "RangeCoders$Carries" y_Ranged_nextShare y_Ranged_nextShare ∈ gw := gw_ex 4 rfl rfl
theorem kx5 : Cond.selects "RangeCoders$NoCarries" y_Ranged_nextShare y_Ranged_nextShare ∈ gw := gw_ex 5 rfl rfl
theorem ks0 : Cond.selects "RangeCoders$Odds" y_Odds_copyCounts y_Odds_copyCounts ∈ gw := gw_sel (q := (⟨"RangeCoders$Odds", "copyCounts", "([I)V"⟩, 5)) 0 (by decide +kernel)
theorem ks1 : Cond.selects "RangeCoders$Odds" y_Odds_halve y_Odds_halve ∈ gw := gw_sel (q := (⟨"RangeCoders$Odds", "halve", "()V"⟩, 5)) 1 (by decide +kernel)
theorem ks2 : Cond.selects "RangeCoders$Odds" y_Odds_greatest y_Odds_greatest ∈ gw := gw_sel (q := (⟨"RangeCoders$Odds", "greatest", "()I"⟩, 5)) 2 (by decide +kernel)
theorem ks3 : Cond.selects "RangeCoders" y_RC_modelAt y_RC_modelAt ∈ gw := gw_sel (q := (⟨"RangeCoders", "modelAt", "(I)LRangeCoders$Model;"⟩, 8)) 3 (by decide +kernel)
theorem ks4 : Cond.selects "RangeCoders$Bits" y_Bits_writeBit y_Bits_writeBit ∈ gw := gw_sel (q := (⟨"RangeCoders$Bits", "writeBit", "(LRangeCoders$Odds;II)V"⟩, 15)) 4 (by decide +kernel)
theorem ks5 : Cond.selects "RangeCoders$Bits" y_Bits_adapt y_Bits_adapt ∈ gw := gw_sel (q := (⟨"RangeCoders$Bits", "adapt", "(LRangeCoders$Odds;II)V"⟩, 15)) 5 (by decide +kernel)
theorem ks6 : Cond.selects "RangeCoders$Carries" y_Carries_shiftLow y_Carries_shiftLow ∈ gw := gw_sel (q := (⟨"RangeCoders$Carries", "shiftLow", "()V"⟩, 11)) 6 (by decide +kernel)
theorem ks7 : Cond.selects "RangeCoders$Carries" y_Carries_writeWaiting y_Carries_writeWaiting ∈ gw := gw_sel (q := (⟨"RangeCoders$Carries", "writeWaiting", "(I)V"⟩, 11)) 7 (by decide +kernel)
theorem ks8 : Cond.selects "RangeCoders$NoCarries" y_NoCarries_writeTop y_NoCarries_writeTop ∈ gw := gw_sel (q := (⟨"RangeCoders$NoCarries", "writeTop", "()V"⟩, 9)) 8 (by decide +kernel)
theorem ks9 : Cond.selects "RangeCoders$Stack" y_Stack_stackPart y_Stack_stackPart ∈ gw := gw_sel (q := (⟨"RangeCoders$Stack", "stackPart", "(II)V"⟩, 10)) 9 (by decide +kernel)
theorem ks10 : Cond.selects "RangeCoders$Stack" y_Stack_writeLowest y_Stack_writeLowest ∈ gw := gw_sel (q := (⟨"RangeCoders$Stack", "writeLowest", "()V"⟩, 10)) 10 (by decide +kernel)
theorem ks11 : Cond.selects "RangeCoders$Table" y_Table_byteOfWritten y_Table_byteOfWritten ∈ gw := gw_sel (q := (⟨"RangeCoders$Table", "byteOfWritten", "(I)I"⟩, 10)) 11 (by decide +kernel)
theorem ks12 : Cond.selects "RangeCoders$Table" y_Table_nextInBit y_Table_nextInBit ∈ gw := gw_sel (q := (⟨"RangeCoders$Table", "nextInBit", "()I"⟩, 10)) 12 (by decide +kernel)
theorem ks13 : Cond.selects "RangeCoders$Bits" y_Bits_keepReading y_Bits_keepReading ∈ gw := gw_sel (q := (⟨"RangeCoders$Bits", "keepReading", "()V"⟩, 15)) 13 (by decide +kernel)
theorem ks14 : Cond.selects "RangeCoders$Bits" y_Bits_nextBit y_Bits_nextBit ∈ gw := gw_sel (q := (⟨"RangeCoders$Bits", "nextBit", "(LRangeCoders$Odds;I)I"⟩, 15)) 14 (by decide +kernel)
theorem ks15 : Cond.selects "RangeCoders$Bits" y_Bits_undone y_Bits_undone ∈ gw := gw_sel (q := (⟨"RangeCoders$Bits", "undone", "()I"⟩, 15)) 15 (by decide +kernel)
theorem ks16 : Cond.selects "RangeCoders$Stack" y_Stack_unstackPart y_Stack_unstackPart ∈ gw := gw_sel (q := (⟨"RangeCoders$Stack", "unstackPart", "(II)V"⟩, 10)) 16 (by decide +kernel)
theorem ks17 : Cond.selects "RangeCoders" y_RC_itemOrBad y_RC_itemOrBad ∈ gw := gw_sel (q := (⟨"RangeCoders", "itemOrBad", "(I)I"⟩, 8)) 17 (by decide +kernel)
theorem ks18 : Cond.selects "RangeCodersModel" y_M_start y_M_start ∈ gw := gw_sel (q := (⟨"RangeCodersModel", "start", "()V"⟩, 35)) 18 (by decide +kernel)
theorem ks19 : Cond.selects "RangeCodersModel" y_M_prepare y_M_prepare ∈ gw := gw_sel (q := (⟨"RangeCodersModel", "prepare", "([II)V"⟩, 35)) 19 (by decide +kernel)
theorem ks20 : Cond.selects "RangeCodersModel" y_M_lessen y_M_lessen ∈ gw := gw_sel (q := (⟨"RangeCodersModel", "lessen", "([II)V"⟩, 35)) 20 (by decide +kernel)
theorem ks21 : Cond.selects "RangeCodersModel" y_M_sum y_M_sum ∈ gw := gw_sel (q := (⟨"RangeCodersModel", "sum", "([II)I"⟩, 35)) 21 (by decide +kernel)
theorem ks22 : Cond.selects "RangeCodersModel" y_M_halve y_M_halve ∈ gw := gw_sel (q := (⟨"RangeCodersModel", "halve", "([II)V"⟩, 35)) 22 (by decide +kernel)
theorem ks23 : Cond.selects "RangeCodersModel" y_M_scale y_M_scale ∈ gw := gw_sel (q := (⟨"RangeCodersModel", "scale", "([III)V"⟩, 35)) 23 (by decide +kernel)
theorem ks24 : Cond.selects "RangeCodersModel" y_M_greatest y_M_greatest ∈ gw := gw_sel (q := (⟨"RangeCodersModel", "greatest", "([II)I"⟩, 35)) 24 (by decide +kernel)
theorem ks25 : Cond.selects "RangeCodersModel" y_M_isSign y_M_isSign ∈ gw := gw_sel (q := (⟨"RangeCodersModel", "isSign", "(II)Z"⟩, 35)) 25 (by decide +kernel)
theorem ks26 : Cond.selects "RangeCodersModel" y_M_isModel y_M_isModel ∈ gw := gw_sel (q := (⟨"RangeCodersModel", "isModel", "(I)Z"⟩, 35)) 26 (by decide +kernel)
theorem ks27 : Cond.selects "RangeCodersModel" y_M_putSign y_M_putSign ∈ gw := gw_sel (q := (⟨"RangeCodersModel", "putSign", "(II)V"⟩, 35)) 27 (by decide +kernel)
theorem ks28 : Cond.selects "RangeCodersModel" y_M_before y_M_before ∈ gw := gw_sel (q := (⟨"RangeCodersModel", "before", "([III)I"⟩, 35)) 28 (by decide +kernel)
theorem ks29 : Cond.selects "RangeCodersModel" y_M_narrow y_M_narrow ∈ gw := gw_sel (q := (⟨"RangeCodersModel", "narrow", "(III)V"⟩, 35)) 29 (by decide +kernel)
theorem ks30 : Cond.selects "RangeCodersModel" y_M_widen y_M_widen ∈ gw := gw_sel (q := (⟨"RangeCodersModel", "widen", "()V"⟩, 35)) 30 (by decide +kernel)
theorem ks31 : Cond.selects "RangeCodersModel" y_M_shifted y_M_shifted ∈ gw := gw_sel (q := (⟨"RangeCodersModel", "shifted", "()V"⟩, 35)) 31 (by decide +kernel)
theorem ks32 : Cond.selects "RangeCodersModel" y_M_write y_M_write ∈ gw := gw_sel (q := (⟨"RangeCodersModel", "write", "(I)V"⟩, 35)) 32 (by decide +kernel)
theorem ks33 : Cond.selects "RangeCodersModel" y_M_widenPlain y_M_widenPlain ∈ gw := gw_sel (q := (⟨"RangeCodersModel", "widenPlain", "()V"⟩, 35)) 33 (by decide +kernel)
theorem ks34 : Cond.selects "RangeCodersModel" y_M_learn y_M_learn ∈ gw := gw_sel (q := (⟨"RangeCodersModel", "learn", "([III)V"⟩, 35)) 34 (by decide +kernel)
theorem ks35 : Cond.selects "RangeCodersModel" y_M_levels y_M_levels ∈ gw := gw_sel (q := (⟨"RangeCodersModel", "levels", "(I)I"⟩, 35)) 35 (by decide +kernel)
theorem ks36 : Cond.selects "RangeCodersModel" y_M_putBit y_M_putBit ∈ gw := gw_sel (q := (⟨"RangeCodersModel", "putBit", "(II)V"⟩, 35)) 36 (by decide +kernel)
theorem ks37 : Cond.selects "RangeCodersModel" y_M_moveChance y_M_moveChance ∈ gw := gw_sel (q := (⟨"RangeCodersModel", "moveChance", "([III)V"⟩, 35)) 37 (by decide +kernel)
theorem ks38 : Cond.selects "RangeCodersModel" y_M_addItem y_M_addItem ∈ gw := gw_sel (q := (⟨"RangeCodersModel", "addItem", "(II)I"⟩, 35)) 38 (by decide +kernel)
theorem ks39 : Cond.selects "RangeCodersModel" y_M_putValue y_M_putValue ∈ gw := gw_sel (q := (⟨"RangeCodersModel", "putValue", "(II)V"⟩, 35)) 39 (by decide +kernel)
theorem ks40 : Cond.selects "RangeCodersModel" y_M_endStack y_M_endStack ∈ gw := gw_sel (q := (⟨"RangeCodersModel", "endStack", "()V"⟩, 35)) 40 (by decide +kernel)
theorem ks41 : Cond.selects "RangeCodersModel" y_M_endTable y_M_endTable ∈ gw := gw_sel (q := (⟨"RangeCodersModel", "endTable", "()V"⟩, 35)) 41 (by decide +kernel)
theorem ks42 : Cond.selects "RangeCodersModel" y_M_writeBit y_M_writeBit ∈ gw := gw_sel (q := (⟨"RangeCodersModel", "writeBit", "(J)V"⟩, 35)) 42 (by decide +kernel)
theorem ks43 : Cond.selects "RangeCodersModel" y_M_lay y_M_lay ∈ gw := gw_sel (q := (⟨"RangeCodersModel", "lay", "([II)V"⟩, 35)) 43 (by decide +kernel)
theorem ks44 : Cond.selects "RangeCodersModel" y_M_four y_M_four ∈ gw := gw_sel (q := (⟨"RangeCodersModel", "four", "()J"⟩, 35)) 44 (by decide +kernel)
theorem ks45 : Cond.selects "RangeCodersModel" y_M_next y_M_next ∈ gw := gw_sel (q := (⟨"RangeCodersModel", "next", "()I"⟩, 35)) 45 (by decide +kernel)
theorem ks46 : Cond.selects "RangeCodersModel" y_M_nextBit y_M_nextBit ∈ gw := gw_sel (q := (⟨"RangeCodersModel", "nextBit", "()I"⟩, 35)) 46 (by decide +kernel)
theorem ks47 : Cond.selects "RangeCodersModel" y_M_getRanged y_M_getRanged ∈ gw := gw_sel (q := (⟨"RangeCodersModel", "getRanged", "(I)I"⟩, 35)) 47 (by decide +kernel)
theorem ks48 : Cond.selects "RangeCodersModel" y_M_wanted y_M_wanted ∈ gw := gw_sel (q := (⟨"RangeCodersModel", "wanted", "(I)J"⟩, 35)) 48 (by decide +kernel)
theorem ks49 : Cond.selects "RangeCodersModel" y_M_signAt y_M_signAt ∈ gw := gw_sel (q := (⟨"RangeCodersModel", "signAt", "(IJ)I"⟩, 35)) 49 (by decide +kernel)
theorem ks50 : Cond.selects "RangeCodersModel" y_M_leave y_M_leave ∈ gw := gw_sel (q := (⟨"RangeCodersModel", "leave", "(III)V"⟩, 35)) 50 (by decide +kernel)
theorem ks51 : Cond.selects "RangeCodersModel" y_M_widenRead y_M_widenRead ∈ gw := gw_sel (q := (⟨"RangeCodersModel", "widenRead", "()V"⟩, 35)) 51 (by decide +kernel)
theorem ks52 : Cond.selects "RangeCodersModel" y_M_widenReadPlain y_M_widenReadPlain ∈ gw := gw_sel (q := (⟨"RangeCodersModel", "widenReadPlain", "()V"⟩, 35)) 52 (by decide +kernel)
theorem ks53 : Cond.selects "RangeCodersModel" y_M_getNode y_M_getNode ∈ gw := gw_sel (q := (⟨"RangeCodersModel", "getNode", "(I)I"⟩, 35)) 53 (by decide +kernel)
theorem ks54 : Cond.selects "RangeCodersModel" y_M_readBit y_M_readBit ∈ gw := gw_sel (q := (⟨"RangeCodersModel", "readBit", "(JI)I"⟩, 35)) 54 (by decide +kernel)
theorem ks55 : Cond.selects "RangeCodersModel" y_M_getStacked y_M_getStacked ∈ gw := gw_sel (q := (⟨"RangeCodersModel", "getStacked", "(I)I"⟩, 35)) 55 (by decide +kernel)
theorem ks56 : Cond.selects "RangeCodersModel" y_M_refill y_M_refill ∈ gw := gw_sel (q := (⟨"RangeCodersModel", "refill", "()V"⟩, 35)) 56 (by decide +kernel)
theorem ks57 : Cond.selects "RangeCodersModel" y_M_getTabled y_M_getTabled ∈ gw := gw_sel (q := (⟨"RangeCodersModel", "getTabled", "(I)I"⟩, 35)) 57 (by decide +kernel)
theorem ks58 : Cond.selects "RangeCodersModel" y_M_spoiled y_M_spoiled ∈ gw := gw_sel (q := (⟨"RangeCodersModel", "spoiled", "()I"⟩, 35)) 58 (by decide +kernel)
theorem ks59 : Cond.selects "RangeCodersModel" y_M_valueOf y_M_valueOf ∈ gw := gw_sel (q := (⟨"RangeCodersModel", "valueOf", "(I)I"⟩, 35)) 59 (by decide +kernel)
theorem ks60 : Cond.selects "RangeCodersModel" y_M_plainBits y_M_plainBits ∈ gw := gw_sel (q := (⟨"RangeCodersModel", "plainBits", "(I)I"⟩, 35)) 60 (by decide +kernel)
theorem in_Row : ∀ w ∈ u_ws "RangeCoders$Row" T_Row 2, w ∈ gw := by
  have e : u_ws "RangeCoders$Row" T_Row 2 = [Cond.lays "RangeCoders$Row" "RangeCoders$Row" "size" "I", Cond.lays "RangeCoders$Row" "RangeCoders$Row" "cells" "[I"] := rfl
  rw [e]
  exact List.forall_mem_cons.mpr ⟨k61, List.forall_mem_cons.mpr ⟨k63, fun _ h => absurd h List.not_mem_nil⟩⟩
theorem in_Carries : ∀ w ∈ u_ws "RangeCoders$Carries" T_Carries 11, w ∈ gw := by
  have e : u_ws "RangeCoders$Carries" T_Carries 11 = [Cond.lays "RangeCoders$Carries" "RangeCoders$Carries" "cache" "I", Cond.lays "RangeCoders$Carries" "RangeCoders$Carries" "pending" "I", Cond.lays "RangeCoders$Carries" "RangeCoders$Ranged" "low" "J", Cond.lays "RangeCoders$Carries" "RangeCoders$Ranged" "range" "J", Cond.lays "RangeCoders$Carries" "RangeCoders$Ranged" "code" "J", Cond.lays "RangeCoders$Carries" "RangeCoders$Ranged" "readLow" "J", Cond.lays "RangeCoders$Carries" "RangeCoders$Ranged" "readRange" "J", Cond.laysFinal "RangeCoders$Carries" "RangeCoders$Coder" "in" "LRangeCoders$Row;", Cond.lays "RangeCoders$Carries" "RangeCoders$Coder" "out" "LRangeCoders$Row;", Cond.lays "RangeCoders$Carries" "RangeCoders$Coder" "written" "LRangeCoders$Row;", Cond.lays "RangeCoders$Carries" "RangeCoders$Coder" "asked" "I"] := rfl
  rw [e]
  exact List.forall_mem_cons.mpr ⟨k131, List.forall_mem_cons.mpr ⟨k133, List.forall_mem_cons.mpr ⟨k135, List.forall_mem_cons.mpr ⟨k137, List.forall_mem_cons.mpr ⟨k139, List.forall_mem_cons.mpr ⟨k141, List.forall_mem_cons.mpr ⟨k143, List.forall_mem_cons.mpr ⟨k145, List.forall_mem_cons.mpr ⟨k147, List.forall_mem_cons.mpr ⟨k149, List.forall_mem_cons.mpr ⟨k151, fun _ h => absurd h List.not_mem_nil⟩⟩⟩⟩⟩⟩⟩⟩⟩⟩⟩
theorem in_NoCarries : ∀ w ∈ u_ws "RangeCoders$NoCarries" T_NoCarries 9, w ∈ gw := by
  have e : u_ws "RangeCoders$NoCarries" T_NoCarries 9 = [Cond.lays "RangeCoders$NoCarries" "RangeCoders$Ranged" "low" "J", Cond.lays "RangeCoders$NoCarries" "RangeCoders$Ranged" "range" "J", Cond.lays "RangeCoders$NoCarries" "RangeCoders$Ranged" "code" "J", Cond.lays "RangeCoders$NoCarries" "RangeCoders$Ranged" "readLow" "J", Cond.lays "RangeCoders$NoCarries" "RangeCoders$Ranged" "readRange" "J", Cond.laysFinal "RangeCoders$NoCarries" "RangeCoders$Coder" "in" "LRangeCoders$Row;", Cond.lays "RangeCoders$NoCarries" "RangeCoders$Coder" "out" "LRangeCoders$Row;", Cond.lays "RangeCoders$NoCarries" "RangeCoders$Coder" "written" "LRangeCoders$Row;", Cond.lays "RangeCoders$NoCarries" "RangeCoders$Coder" "asked" "I"] := rfl
  rw [e]
  exact List.forall_mem_cons.mpr ⟨k160, List.forall_mem_cons.mpr ⟨k161, List.forall_mem_cons.mpr ⟨k162, List.forall_mem_cons.mpr ⟨k163, List.forall_mem_cons.mpr ⟨k164, List.forall_mem_cons.mpr ⟨k165, List.forall_mem_cons.mpr ⟨k166, List.forall_mem_cons.mpr ⟨k167, List.forall_mem_cons.mpr ⟨k168, fun _ h => absurd h List.not_mem_nil⟩⟩⟩⟩⟩⟩⟩⟩⟩
theorem in_Bits : ∀ w ∈ u_ws "RangeCoders$Bits" T_Bits 15, w ∈ gw := by
  have e : u_ws "RangeCoders$Bits" T_Bits 15 = [Cond.laysFinal "RangeCoders$Bits" "RangeCoders$Bits" "shift" "I", Cond.lays "RangeCoders$Bits" "RangeCoders$Bits" "keptCode" "J", Cond.lays "RangeCoders$Bits" "RangeCoders$Bits" "keptRange" "J", Cond.lays "RangeCoders$Bits" "RangeCoders$Bits" "keptAsked" "I", Cond.lays "RangeCoders$Bits" "RangeCoders$Carries" "cache" "I", Cond.lays "RangeCoders$Bits" "RangeCoders$Carries" "pending" "I", Cond.lays "RangeCoders$Bits" "RangeCoders$Ranged" "low" "J", Cond.lays "RangeCoders$Bits" "RangeCoders$Ranged" "range" "J", Cond.lays "RangeCoders$Bits" "RangeCoders$Ranged" "code" "J", Cond.lays "RangeCoders$Bits" "RangeCoders$Ranged" "readLow" "J", Cond.lays "RangeCoders$Bits" "RangeCoders$Ranged" "readRange" "J", Cond.laysFinal "RangeCoders$Bits" "RangeCoders$Coder" "in" "LRangeCoders$Row;", Cond.lays "RangeCoders$Bits" "RangeCoders$Coder" "out" "LRangeCoders$Row;", Cond.lays "RangeCoders$Bits" "RangeCoders$Coder" "written" "LRangeCoders$Row;", Cond.lays "RangeCoders$Bits" "RangeCoders$Coder" "asked" "I"] := rfl
  rw [e]
  exact List.forall_mem_cons.mpr ⟨k180, List.forall_mem_cons.mpr ⟨k182, List.forall_mem_cons.mpr ⟨k184, List.forall_mem_cons.mpr ⟨k186, List.forall_mem_cons.mpr ⟨k188, List.forall_mem_cons.mpr ⟨k189, List.forall_mem_cons.mpr ⟨k190, List.forall_mem_cons.mpr ⟨k191, List.forall_mem_cons.mpr ⟨k192, List.forall_mem_cons.mpr ⟨k193, List.forall_mem_cons.mpr ⟨k194, List.forall_mem_cons.mpr ⟨k195, List.forall_mem_cons.mpr ⟨k196, List.forall_mem_cons.mpr ⟨k197, List.forall_mem_cons.mpr ⟨k198, fun _ h => absurd h List.not_mem_nil⟩⟩⟩⟩⟩⟩⟩⟩⟩⟩⟩⟩⟩⟩⟩
theorem in_Stack : ∀ w ∈ u_ws "RangeCoders$Stack" T_Stack 10, w ∈ gw := by
  have e : u_ws "RangeCoders$Stack" T_Stack 10 = [Cond.lays "RangeCoders$Stack" "RangeCoders$Stacked" "x" "J", Cond.lays "RangeCoders$Stack" "RangeCoders$Stacked" "readX" "J", Cond.laysFinal "RangeCoders$Stack" "RangeCoders$Stacked" "odds" "[LRangeCoders$Odds;", Cond.laysFinal "RangeCoders$Stack" "RangeCoders$Stacked" "numbers" "[I", Cond.laysFinal "RangeCoders$Stack" "RangeCoders$Stacked" "widths" "[I", Cond.lays "RangeCoders$Stack" "RangeCoders$Stacked" "kept" "I", Cond.laysFinal "RangeCoders$Stack" "RangeCoders$Coder" "in" "LRangeCoders$Row;", Cond.lays "RangeCoders$Stack" "RangeCoders$Coder" "out" "LRangeCoders$Row;", Cond.lays "RangeCoders$Stack" "RangeCoders$Coder" "written" "LRangeCoders$Row;", Cond.lays "RangeCoders$Stack" "RangeCoders$Coder" "asked" "I"] := rfl
  rw [e]
  exact List.forall_mem_cons.mpr ⟨k224, List.forall_mem_cons.mpr ⟨k226, List.forall_mem_cons.mpr ⟨k228, List.forall_mem_cons.mpr ⟨k230, List.forall_mem_cons.mpr ⟨k232, List.forall_mem_cons.mpr ⟨k234, List.forall_mem_cons.mpr ⟨k236, List.forall_mem_cons.mpr ⟨k237, List.forall_mem_cons.mpr ⟨k238, List.forall_mem_cons.mpr ⟨k239, fun _ h => absurd h List.not_mem_nil⟩⟩⟩⟩⟩⟩⟩⟩⟩⟩
theorem in_Table : ∀ w ∈ u_ws "RangeCoders$Table" T_Table 10, w ∈ gw := by
  have e : u_ws "RangeCoders$Table" T_Table 10 = [Cond.lays "RangeCoders$Table" "RangeCoders$Stacked" "x" "J", Cond.lays "RangeCoders$Table" "RangeCoders$Stacked" "readX" "J", Cond.laysFinal "RangeCoders$Table" "RangeCoders$Stacked" "odds" "[LRangeCoders$Odds;", Cond.laysFinal "RangeCoders$Table" "RangeCoders$Stacked" "numbers" "[I", Cond.laysFinal "RangeCoders$Table" "RangeCoders$Stacked" "widths" "[I", Cond.lays "RangeCoders$Table" "RangeCoders$Stacked" "kept" "I", Cond.laysFinal "RangeCoders$Table" "RangeCoders$Coder" "in" "LRangeCoders$Row;", Cond.lays "RangeCoders$Table" "RangeCoders$Coder" "out" "LRangeCoders$Row;", Cond.lays "RangeCoders$Table" "RangeCoders$Coder" "written" "LRangeCoders$Row;", Cond.lays "RangeCoders$Table" "RangeCoders$Coder" "asked" "I"] := rfl
  rw [e]
  exact List.forall_mem_cons.mpr ⟨k247, List.forall_mem_cons.mpr ⟨k248, List.forall_mem_cons.mpr ⟨k249, List.forall_mem_cons.mpr ⟨k250, List.forall_mem_cons.mpr ⟨k251, List.forall_mem_cons.mpr ⟨k252, List.forall_mem_cons.mpr ⟨k253, List.forall_mem_cons.mpr ⟨k254, List.forall_mem_cons.mpr ⟨k255, List.forall_mem_cons.mpr ⟨k256, fun _ h => absurd h List.not_mem_nil⟩⟩⟩⟩⟩⟩⟩⟩⟩⟩
theorem in_RC : ∀ w ∈ u_ws "RangeCoders" T_RC 8, w ∈ gw := by
  have e : u_ws "RangeCoders" T_RC 8 = [Cond.laysFinal "RangeCoders" "RangeCoders" "coder" "LRangeCoders$Coder;", Cond.laysFinal "RangeCoders" "RangeCoders" "models" "[LRangeCoders$Model;", Cond.lays "RangeCoders" "RangeCoders" "modelCount" "I", Cond.lays "RangeCoders" "RangeCoders" "items" "I", Cond.lays "RangeCoders" "RangeCoders" "ended" "Z", Cond.lays "RangeCoders" "RangeCoders" "reading" "Z", Cond.lays "RangeCoders" "RangeCoders" "bad" "Z", Cond.lays "RangeCoders" "RangeCoders" "itemsRead" "I"] := rfl
  rw [e]
  exact List.forall_mem_cons.mpr ⟨k266, List.forall_mem_cons.mpr ⟨k268, List.forall_mem_cons.mpr ⟨k270, List.forall_mem_cons.mpr ⟨k272, List.forall_mem_cons.mpr ⟨k274, List.forall_mem_cons.mpr ⟨k276, List.forall_mem_cons.mpr ⟨k278, List.forall_mem_cons.mpr ⟨k280, fun _ h => absurd h List.not_mem_nil⟩⟩⟩⟩⟩⟩⟩⟩
theorem in_Odds : ∀ w ∈ u_ws "RangeCoders$Odds" T_Odds 5, w ∈ gw := by
  have e : u_ws "RangeCoders$Odds" T_Odds 5 = [Cond.laysFinal "RangeCoders$Odds" "RangeCoders$Odds" "signs" "I", Cond.lays "RangeCoders$Odds" "RangeCoders$Odds" "sum" "I", Cond.laysFinal "RangeCoders$Odds" "RangeCoders$Odds" "firstCell" "I", Cond.laysFinal "RangeCoders$Odds" "RangeCoders$Odds" "cells" "[I", Cond.laysFinal "RangeCoders$Odds" "RangeCoders$Odds" "placeSigns" "[I"] := rfl
  rw [e]
  exact List.forall_mem_cons.mpr ⟨k311, List.forall_mem_cons.mpr ⟨k313, List.forall_mem_cons.mpr ⟨k315, List.forall_mem_cons.mpr ⟨k317, List.forall_mem_cons.mpr ⟨k319, fun _ h => absurd h List.not_mem_nil⟩⟩⟩⟩⟩
theorem in_Model : ∀ w ∈ u_ws "RangeCoders$Model" T_Model 3, w ∈ gw := by
  have e : u_ws "RangeCoders$Model" T_Model 3 = [Cond.laysFinal "RangeCoders$Model" "RangeCoders$Model" "counts" "[I", Cond.laysFinal "RangeCoders$Model" "RangeCoders$Model" "sent" "LRangeCoders$Odds;", Cond.laysFinal "RangeCoders$Model" "RangeCoders$Model" "heard" "LRangeCoders$Odds;"] := rfl
  rw [e]
  exact List.forall_mem_cons.mpr ⟨k346, List.forall_mem_cons.mpr ⟨k348, List.forall_mem_cons.mpr ⟨k350, fun _ h => absurd h List.not_mem_nil⟩⟩⟩
theorem in_M : ∀ w ∈ u_ws "RangeCodersModel" T_M 35, w ∈ gw := by
  have e : u_ws "RangeCodersModel" T_M 35 = [Cond.laysFinal "RangeCodersModel" "RangeCodersModel" "form" "I", Cond.laysFinal "RangeCodersModel" "RangeCodersModel" "shift" "I", Cond.lays "RangeCodersModel" "RangeCodersModel" "models" "I", Cond.laysFinal "RangeCodersModel" "RangeCodersModel" "many" "[I", Cond.laysFinal "RangeCodersModel" "RangeCodersModel" "counts" "[I", Cond.laysFinal "RangeCodersModel" "RangeCodersModel" "now" "[I", Cond.laysFinal "RangeCodersModel" "RangeCodersModel" "then" "[I", Cond.lays "RangeCodersModel" "RangeCodersModel" "items" "I", Cond.laysFinal "RangeCodersModel" "RangeCodersModel" "itemModel" "[I", Cond.laysFinal "RangeCodersModel" "RangeCodersModel" "itemWhat" "[I", Cond.lays "RangeCodersModel" "RangeCodersModel" "ended" "Z", Cond.lays "RangeCodersModel" "RangeCodersModel" "low" "J", Cond.lays "RangeCodersModel" "RangeCodersModel" "range" "J", Cond.lays "RangeCodersModel" "RangeCodersModel" "cache" "I", Cond.lays "RangeCodersModel" "RangeCodersModel" "pending" "I", Cond.laysFinal "RangeCodersModel" "RangeCodersModel" "going" "[I", Cond.lays "RangeCodersModel" "RangeCodersModel" "goes" "I", Cond.laysFinal "RangeCodersModel" "RangeCodersModel" "out" "[I", Cond.lays "RangeCodersModel" "RangeCodersModel" "outs" "I", Cond.laysFinal "RangeCodersModel" "RangeCodersModel" "in" "[I", Cond.lays "RangeCodersModel" "RangeCodersModel" "ins" "I", Cond.lays "RangeCodersModel" "RangeCodersModel" "reads" "Z", Cond.lays "RangeCodersModel" "RangeCodersModel" "bad" "Z", Cond.lays "RangeCodersModel" "RangeCodersModel" "itemsRead" "I", Cond.lays "RangeCodersModel" "RangeCodersModel" "asked" "I", Cond.lays "RangeCodersModel" "RangeCodersModel" "bitsAsked" "I", Cond.lays "RangeCodersModel" "RangeCodersModel" "code" "J", Cond.lays "RangeCodersModel" "RangeCodersModel" "readLow" "J", Cond.lays "RangeCodersModel" "RangeCodersModel" "readRange" "J", Cond.lays "RangeCodersModel" "RangeCodersModel" "x" "J", Cond.laysFinal "RangeCodersModel" "RangeCodersModel" "signOf" "[I", Cond.laysFinal "RangeCodersModel" "RangeCodersModel" "numberOf" "[I", Cond.laysFinal "RangeCodersModel" "RangeCodersModel" "written" "[I", Cond.lays "RangeCodersModel" "RangeCodersModel" "writes" "I", Cond.lays "RangeCodersModel" "RangeCodersModel" "thrown" "I"] := rfl
  rw [e]
  exact List.forall_mem_cons.mpr ⟨k987, List.forall_mem_cons.mpr ⟨k989, List.forall_mem_cons.mpr ⟨k991, List.forall_mem_cons.mpr ⟨k993, List.forall_mem_cons.mpr ⟨k995, List.forall_mem_cons.mpr ⟨k997, List.forall_mem_cons.mpr ⟨k999, List.forall_mem_cons.mpr ⟨k1001, List.forall_mem_cons.mpr ⟨k1003, List.forall_mem_cons.mpr ⟨k1005, List.forall_mem_cons.mpr ⟨k1007, List.forall_mem_cons.mpr ⟨k1009, List.forall_mem_cons.mpr ⟨k1011, List.forall_mem_cons.mpr ⟨k1013, List.forall_mem_cons.mpr ⟨k1015, List.forall_mem_cons.mpr ⟨k1017, List.forall_mem_cons.mpr ⟨k1019, List.forall_mem_cons.mpr ⟨k1021, List.forall_mem_cons.mpr ⟨k1023, List.forall_mem_cons.mpr ⟨k1025, List.forall_mem_cons.mpr ⟨k1027, List.forall_mem_cons.mpr ⟨k1029, List.forall_mem_cons.mpr ⟨k1031, List.forall_mem_cons.mpr ⟨k1033, List.forall_mem_cons.mpr ⟨k1035, List.forall_mem_cons.mpr ⟨k1037, List.forall_mem_cons.mpr ⟨k1039, List.forall_mem_cons.mpr ⟨k1041, List.forall_mem_cons.mpr ⟨k1043, List.forall_mem_cons.mpr ⟨k1045, List.forall_mem_cons.mpr ⟨k1047, List.forall_mem_cons.mpr ⟨k1049, List.forall_mem_cons.mpr ⟨k1051, List.forall_mem_cons.mpr ⟨k1053, List.forall_mem_cons.mpr ⟨k1055, fun _ h => absurd h List.not_mem_nil⟩⟩⟩⟩⟩⟩⟩⟩⟩⟩⟩⟩⟩⟩⟩⟩⟩⟩⟩⟩⟩⟩⟩⟩⟩⟩⟩⟩⟩⟩⟩⟩⟩⟩⟩
end
section
theorem cu_M_sum_2 : y_M_sum.cls = "RangeCodersModel" ∧ y_M_sum.cls ≠ "java/lang/invoke/MethodHandle" ∧ y_M_sum.cls ≠ "java/lang/invoke/VarHandle" ∧ (parseMethodDescriptor y_M_sum.desc).map (fun d => d.parameters.length) = some 2 := by decide +kernel
theorem cu_M_halve_2 : y_M_halve.cls = "RangeCodersModel" ∧ y_M_halve.cls ≠ "java/lang/invoke/MethodHandle" ∧ y_M_halve.cls ≠ "java/lang/invoke/VarHandle" ∧ (parseMethodDescriptor y_M_halve.desc).map (fun d => d.parameters.length) = some 2 := by decide +kernel
theorem cu_M_isModel_1 : y_M_isModel.cls = "RangeCodersModel" ∧ y_M_isModel.cls ≠ "java/lang/invoke/MethodHandle" ∧ y_M_isModel.cls ≠ "java/lang/invoke/VarHandle" ∧ (parseMethodDescriptor y_M_isModel.desc).map (fun d => d.parameters.length) = some 1 := by decide +kernel
theorem cu_M_greatest_2 : y_M_greatest.cls = "RangeCodersModel" ∧ y_M_greatest.cls ≠ "java/lang/invoke/MethodHandle" ∧ y_M_greatest.cls ≠ "java/lang/invoke/VarHandle" ∧ (parseMethodDescriptor y_M_greatest.desc).map (fun d => d.parameters.length) = some 2 := by decide +kernel
theorem cu_M_scale_3 : y_M_scale.cls = "RangeCodersModel" ∧ y_M_scale.cls ≠ "java/lang/invoke/MethodHandle" ∧ y_M_scale.cls ≠ "java/lang/invoke/VarHandle" ∧ (parseMethodDescriptor y_M_scale.desc).map (fun d => d.parameters.length) = some 3 := by decide +kernel
theorem cu_M_lessen_2 : y_M_lessen.cls = "RangeCodersModel" ∧ y_M_lessen.cls ≠ "java/lang/invoke/MethodHandle" ∧ y_M_lessen.cls ≠ "java/lang/invoke/VarHandle" ∧ (parseMethodDescriptor y_M_lessen.desc).map (fun d => d.parameters.length) = some 2 := by decide +kernel
theorem cu_M_write_1 : y_M_write.cls = "RangeCodersModel" ∧ y_M_write.cls ≠ "java/lang/invoke/MethodHandle" ∧ y_M_write.cls ≠ "java/lang/invoke/VarHandle" ∧ (parseMethodDescriptor y_M_write.desc).map (fun d => d.parameters.length) = some 1 := by decide +kernel
theorem cu_M_shifted_0 : y_M_shifted.cls = "RangeCodersModel" ∧ y_M_shifted.cls ≠ "java/lang/invoke/MethodHandle" ∧ y_M_shifted.cls ≠ "java/lang/invoke/VarHandle" ∧ (parseMethodDescriptor y_M_shifted.desc).map (fun d => d.parameters.length) = some 0 := by decide +kernel
theorem cu_M_moveChance_3 : y_M_moveChance.cls = "RangeCodersModel" ∧ y_M_moveChance.cls ≠ "java/lang/invoke/MethodHandle" ∧ y_M_moveChance.cls ≠ "java/lang/invoke/VarHandle" ∧ (parseMethodDescriptor y_M_moveChance.desc).map (fun d => d.parameters.length) = some 3 := by decide +kernel
theorem cu_M_widen_0 : y_M_widen.cls = "RangeCodersModel" ∧ y_M_widen.cls ≠ "java/lang/invoke/MethodHandle" ∧ y_M_widen.cls ≠ "java/lang/invoke/VarHandle" ∧ (parseMethodDescriptor y_M_widen.desc).map (fun d => d.parameters.length) = some 0 := by decide +kernel
theorem cu_M_next_0 : y_M_next.cls = "RangeCodersModel" ∧ y_M_next.cls ≠ "java/lang/invoke/MethodHandle" ∧ y_M_next.cls ≠ "java/lang/invoke/VarHandle" ∧ (parseMethodDescriptor y_M_next.desc).map (fun d => d.parameters.length) = some 0 := by decide +kernel
theorem cu_M_widenPlain_0 : y_M_widenPlain.cls = "RangeCodersModel" ∧ y_M_widenPlain.cls ≠ "java/lang/invoke/MethodHandle" ∧ y_M_widenPlain.cls ≠ "java/lang/invoke/VarHandle" ∧ (parseMethodDescriptor y_M_widenPlain.desc).map (fun d => d.parameters.length) = some 0 := by decide +kernel
theorem cu_M_narrow_3 : y_M_narrow.cls = "RangeCodersModel" ∧ y_M_narrow.cls ≠ "java/lang/invoke/MethodHandle" ∧ y_M_narrow.cls ≠ "java/lang/invoke/VarHandle" ∧ (parseMethodDescriptor y_M_narrow.desc).map (fun d => d.parameters.length) = some 3 := by decide +kernel
theorem cu_M_before_3 : y_M_before.cls = "RangeCodersModel" ∧ y_M_before.cls ≠ "java/lang/invoke/MethodHandle" ∧ y_M_before.cls ≠ "java/lang/invoke/VarHandle" ∧ (parseMethodDescriptor y_M_before.desc).map (fun d => d.parameters.length) = some 3 := by decide +kernel
theorem cu_M_learn_3 : y_M_learn.cls = "RangeCodersModel" ∧ y_M_learn.cls ≠ "java/lang/invoke/MethodHandle" ∧ y_M_learn.cls ≠ "java/lang/invoke/VarHandle" ∧ (parseMethodDescriptor y_M_learn.desc).map (fun d => d.parameters.length) = some 3 := by decide +kernel
theorem cu_M_levels_1 : y_M_levels.cls = "RangeCodersModel" ∧ y_M_levels.cls ≠ "java/lang/invoke/MethodHandle" ∧ y_M_levels.cls ≠ "java/lang/invoke/VarHandle" ∧ (parseMethodDescriptor y_M_levels.desc).map (fun d => d.parameters.length) = some 1 := by decide +kernel
theorem cu_M_putBit_2 : y_M_putBit.cls = "RangeCodersModel" ∧ y_M_putBit.cls ≠ "java/lang/invoke/MethodHandle" ∧ y_M_putBit.cls ≠ "java/lang/invoke/VarHandle" ∧ (parseMethodDescriptor y_M_putBit.desc).map (fun d => d.parameters.length) = some 2 := by decide +kernel
theorem cu_M_widenRead_0 : y_M_widenRead.cls = "RangeCodersModel" ∧ y_M_widenRead.cls ≠ "java/lang/invoke/MethodHandle" ∧ y_M_widenRead.cls ≠ "java/lang/invoke/VarHandle" ∧ (parseMethodDescriptor y_M_widenRead.desc).map (fun d => d.parameters.length) = some 0 := by decide +kernel
theorem cu_M_widenReadPlain_0 : y_M_widenReadPlain.cls = "RangeCodersModel" ∧ y_M_widenReadPlain.cls ≠ "java/lang/invoke/MethodHandle" ∧ y_M_widenReadPlain.cls ≠ "java/lang/invoke/VarHandle" ∧ (parseMethodDescriptor y_M_widenReadPlain.desc).map (fun d => d.parameters.length) = some 0 := by decide +kernel
theorem cu_M_readBit_2 : y_M_readBit.cls = "RangeCodersModel" ∧ y_M_readBit.cls ≠ "java/lang/invoke/MethodHandle" ∧ y_M_readBit.cls ≠ "java/lang/invoke/VarHandle" ∧ (parseMethodDescriptor y_M_readBit.desc).map (fun d => d.parameters.length) = some 2 := by decide +kernel
theorem cu_M_wanted_1 : y_M_wanted.cls = "RangeCodersModel" ∧ y_M_wanted.cls ≠ "java/lang/invoke/MethodHandle" ∧ y_M_wanted.cls ≠ "java/lang/invoke/VarHandle" ∧ (parseMethodDescriptor y_M_wanted.desc).map (fun d => d.parameters.length) = some 1 := by decide +kernel
theorem cu_M_signAt_2 : y_M_signAt.cls = "RangeCodersModel" ∧ y_M_signAt.cls ≠ "java/lang/invoke/MethodHandle" ∧ y_M_signAt.cls ≠ "java/lang/invoke/VarHandle" ∧ (parseMethodDescriptor y_M_signAt.desc).map (fun d => d.parameters.length) = some 2 := by decide +kernel
theorem cu_M_leave_3 : y_M_leave.cls = "RangeCodersModel" ∧ y_M_leave.cls ≠ "java/lang/invoke/MethodHandle" ∧ y_M_leave.cls ≠ "java/lang/invoke/VarHandle" ∧ (parseMethodDescriptor y_M_leave.desc).map (fun d => d.parameters.length) = some 3 := by decide +kernel
theorem cu_M_refill_0 : y_M_refill.cls = "RangeCodersModel" ∧ y_M_refill.cls ≠ "java/lang/invoke/MethodHandle" ∧ y_M_refill.cls ≠ "java/lang/invoke/VarHandle" ∧ (parseMethodDescriptor y_M_refill.desc).map (fun d => d.parameters.length) = some 0 := by decide +kernel
theorem cu_M_plainBits_1 : y_M_plainBits.cls = "RangeCodersModel" ∧ y_M_plainBits.cls ≠ "java/lang/invoke/MethodHandle" ∧ y_M_plainBits.cls ≠ "java/lang/invoke/VarHandle" ∧ (parseMethodDescriptor y_M_plainBits.desc).map (fun d => d.parameters.length) = some 1 := by decide +kernel
theorem cu_M_nextBit_0 : y_M_nextBit.cls = "RangeCodersModel" ∧ y_M_nextBit.cls ≠ "java/lang/invoke/MethodHandle" ∧ y_M_nextBit.cls ≠ "java/lang/invoke/VarHandle" ∧ (parseMethodDescriptor y_M_nextBit.desc).map (fun d => d.parameters.length) = some 0 := by decide +kernel
theorem cu_M_lay_2 : y_M_lay.cls = "RangeCodersModel" ∧ y_M_lay.cls ≠ "java/lang/invoke/MethodHandle" ∧ y_M_lay.cls ≠ "java/lang/invoke/VarHandle" ∧ (parseMethodDescriptor y_M_lay.desc).map (fun d => d.parameters.length) = some 2 := by decide +kernel
theorem cu_Row_has_1 : y_Row_has.cls = "RangeCoders$Row" ∧ y_Row_has.cls ≠ "java/lang/invoke/MethodHandle" ∧ y_Row_has.cls ≠ "java/lang/invoke/VarHandle" ∧ (parseMethodDescriptor y_Row_has.desc).map (fun d => d.parameters.length) = some 1 := by decide +kernel
theorem cu_Odds_hasCell_1 : y_Odds_hasCell.cls = "RangeCoders$Odds" ∧ y_Odds_hasCell.cls ≠ "java/lang/invoke/MethodHandle" ∧ y_Odds_hasCell.cls ≠ "java/lang/invoke/VarHandle" ∧ (parseMethodDescriptor y_Odds_hasCell.desc).map (fun d => d.parameters.length) = some 1 := by decide +kernel
theorem cu_Odds_copyCounts_1 : y_Odds_copyCounts.cls = "RangeCoders$Odds" ∧ y_Odds_copyCounts.cls ≠ "java/lang/invoke/MethodHandle" ∧ y_Odds_copyCounts.cls ≠ "java/lang/invoke/VarHandle" ∧ (parseMethodDescriptor y_Odds_copyCounts.desc).map (fun d => d.parameters.length) = some 1 := by decide +kernel
theorem cu_Odds_halve_0 : y_Odds_halve.cls = "RangeCoders$Odds" ∧ y_Odds_halve.cls ≠ "java/lang/invoke/MethodHandle" ∧ y_Odds_halve.cls ≠ "java/lang/invoke/VarHandle" ∧ (parseMethodDescriptor y_Odds_halve.desc).map (fun d => d.parameters.length) = some 0 := by decide +kernel
theorem cu_Odds_grow_2 : y_Odds_grow.cls = "RangeCoders$Odds" ∧ y_Odds_grow.cls ≠ "java/lang/invoke/MethodHandle" ∧ y_Odds_grow.cls ≠ "java/lang/invoke/VarHandle" ∧ (parseMethodDescriptor y_Odds_grow.desc).map (fun d => d.parameters.length) = some 2 := by decide +kernel
theorem cu_Odds_greatest_0 : y_Odds_greatest.cls = "RangeCoders$Odds" ∧ y_Odds_greatest.cls ≠ "java/lang/invoke/MethodHandle" ∧ y_Odds_greatest.cls ≠ "java/lang/invoke/VarHandle" ∧ (parseMethodDescriptor y_Odds_greatest.desc).map (fun d => d.parameters.length) = some 0 := by decide +kernel
theorem cu_Odds_signOfPlace_1 : y_Odds_signOfPlace.cls = "RangeCoders$Odds" ∧ y_Odds_signOfPlace.cls ≠ "java/lang/invoke/MethodHandle" ∧ y_Odds_signOfPlace.cls ≠ "java/lang/invoke/VarHandle" ∧ (parseMethodDescriptor y_Odds_signOfPlace.desc).map (fun d => d.parameters.length) = some 1 := by decide +kernel
theorem cu_Row_at_1 : y_Row_at.cls = "RangeCoders$Row" ∧ y_Row_at.cls ≠ "java/lang/invoke/MethodHandle" ∧ y_Row_at.cls ≠ "java/lang/invoke/VarHandle" ∧ (parseMethodDescriptor y_Row_at.desc).map (fun d => d.parameters.length) = some 1 := by decide +kernel
theorem cu_Odds_fill_1 : y_Odds_fill.cls = "RangeCoders$Odds" ∧ y_Odds_fill.cls ≠ "java/lang/invoke/MethodHandle" ∧ y_Odds_fill.cls ≠ "java/lang/invoke/VarHandle" ∧ (parseMethodDescriptor y_Odds_fill.desc).map (fun d => d.parameters.length) = some 1 := by decide +kernel
theorem cu_Odds_at_1 : y_Odds_at.cls = "RangeCoders$Odds" ∧ y_Odds_at.cls ≠ "java/lang/invoke/MethodHandle" ∧ y_Odds_at.cls ≠ "java/lang/invoke/VarHandle" ∧ (parseMethodDescriptor y_Odds_at.desc).map (fun d => d.parameters.length) = some 1 := by decide +kernel
theorem cu_Bits_adapt_3 : y_Bits_adapt.cls = "RangeCoders$Bits" ∧ y_Bits_adapt.cls ≠ "java/lang/invoke/MethodHandle" ∧ y_Bits_adapt.cls ≠ "java/lang/invoke/VarHandle" ∧ (parseMethodDescriptor y_Bits_adapt.desc).map (fun d => d.parameters.length) = some 3 := by decide +kernel
theorem cu_Bits_keepReading_0 : y_Bits_keepReading.cls = "RangeCoders$Bits" ∧ y_Bits_keepReading.cls ≠ "java/lang/invoke/MethodHandle" ∧ y_Bits_keepReading.cls ≠ "java/lang/invoke/VarHandle" ∧ (parseMethodDescriptor y_Bits_keepReading.desc).map (fun d => d.parameters.length) = some 0 := by decide +kernel
theorem cu_Bits_undone_0 : y_Bits_undone.cls = "RangeCoders$Bits" ∧ y_Bits_undone.cls ≠ "java/lang/invoke/MethodHandle" ∧ y_Bits_undone.cls ≠ "java/lang/invoke/VarHandle" ∧ (parseMethodDescriptor y_Bits_undone.desc).map (fun d => d.parameters.length) = some 0 := by decide +kernel
theorem cu_Bits_nextBit_2 : y_Bits_nextBit.cls = "RangeCoders$Bits" ∧ y_Bits_nextBit.cls ≠ "java/lang/invoke/MethodHandle" ∧ y_Bits_nextBit.cls ≠ "java/lang/invoke/VarHandle" ∧ (parseMethodDescriptor y_Bits_nextBit.desc).map (fun d => d.parameters.length) = some 2 := by decide +kernel
theorem cu_Carries_widenReading_0 : y_Carries_widenReading.cls = "RangeCoders$Carries" ∧ y_Carries_widenReading.cls ≠ "java/lang/invoke/MethodHandle" ∧ y_Carries_widenReading.cls ≠ "java/lang/invoke/VarHandle" ∧ (parseMethodDescriptor y_Carries_widenReading.desc).map (fun d => d.parameters.length) = some 0 := by decide +kernel
theorem cu_Odds_fromCounts_1 : y_Odds_fromCounts.cls = "RangeCoders$Odds" ∧ y_Odds_fromCounts.cls ≠ "java/lang/invoke/MethodHandle" ∧ y_Odds_fromCounts.cls ≠ "java/lang/invoke/VarHandle" ∧ (parseMethodDescriptor y_Odds_fromCounts.desc).map (fun d => d.parameters.length) = some 1 := by decide +kernel
theorem cu_Odds_signAt_1 : y_Odds_signAt.cls = "RangeCoders$Odds" ∧ y_Odds_signAt.cls ≠ "java/lang/invoke/MethodHandle" ∧ y_Odds_signAt.cls ≠ "java/lang/invoke/VarHandle" ∧ (parseMethodDescriptor y_Odds_signAt.desc).map (fun d => d.parameters.length) = some 1 := by decide +kernel
theorem cu_Odds_below_1 : y_Odds_below.cls = "RangeCoders$Odds" ∧ y_Odds_below.cls ≠ "java/lang/invoke/MethodHandle" ∧ y_Odds_below.cls ≠ "java/lang/invoke/VarHandle" ∧ (parseMethodDescriptor y_Odds_below.desc).map (fun d => d.parameters.length) = some 1 := by decide +kernel
theorem cu_Odds_learn_1 : y_Odds_learn.cls = "RangeCoders$Odds" ∧ y_Odds_learn.cls ≠ "java/lang/invoke/MethodHandle" ∧ y_Odds_learn.cls ≠ "java/lang/invoke/VarHandle" ∧ (parseMethodDescriptor y_Odds_learn.desc).map (fun d => d.parameters.length) = some 1 := by decide +kernel
theorem cu_Odds_scaleTo_2 : y_Odds_scaleTo.cls = "RangeCoders$Odds" ∧ y_Odds_scaleTo.cls ≠ "java/lang/invoke/MethodHandle" ∧ y_Odds_scaleTo.cls ≠ "java/lang/invoke/VarHandle" ∧ (parseMethodDescriptor y_Odds_scaleTo.desc).map (fun d => d.parameters.length) = some 2 := by decide +kernel
theorem cu_Stack_unstackPart_2 : y_Stack_unstackPart.cls = "RangeCoders$Stack" ∧ y_Stack_unstackPart.cls ≠ "java/lang/invoke/MethodHandle" ∧ y_Stack_unstackPart.cls ≠ "java/lang/invoke/VarHandle" ∧ (parseMethodDescriptor y_Stack_unstackPart.desc).map (fun d => d.parameters.length) = some 2 := by decide +kernel
theorem cu_Odds_spread_0 : y_Odds_spread.cls = "RangeCoders$Odds" ∧ y_Odds_spread.cls ≠ "java/lang/invoke/MethodHandle" ∧ y_Odds_spread.cls ≠ "java/lang/invoke/VarHandle" ∧ (parseMethodDescriptor y_Odds_spread.desc).map (fun d => d.parameters.length) = some 0 := by decide +kernel
theorem cu_Table_nextInBit_0 : y_Table_nextInBit.cls = "RangeCoders$Table" ∧ y_Table_nextInBit.cls ≠ "java/lang/invoke/MethodHandle" ∧ y_Table_nextInBit.cls ≠ "java/lang/invoke/VarHandle" ∧ (parseMethodDescriptor y_Table_nextInBit.desc).map (fun d => d.parameters.length) = some 0 := by decide +kernel
theorem cu_Table_nextValue_1 : y_Table_nextValue.cls = "RangeCoders$Table" ∧ y_Table_nextValue.cls ≠ "java/lang/invoke/MethodHandle" ∧ y_Table_nextValue.cls ≠ "java/lang/invoke/VarHandle" ∧ (parseMethodDescriptor y_Table_nextValue.desc).map (fun d => d.parameters.length) = some 1 := by decide +kernel
theorem cu_Odds_numberOfPlace_1 : y_Odds_numberOfPlace.cls = "RangeCoders$Odds" ∧ y_Odds_numberOfPlace.cls ≠ "java/lang/invoke/MethodHandle" ∧ y_Odds_numberOfPlace.cls ≠ "java/lang/invoke/VarHandle" ∧ (parseMethodDescriptor y_Odds_numberOfPlace.desc).map (fun d => d.parameters.length) = some 1 := by decide +kernel
theorem cu_RC_modelAt_1 : y_RC_modelAt.cls = "RangeCoders" ∧ y_RC_modelAt.cls ≠ "java/lang/invoke/MethodHandle" ∧ y_RC_modelAt.cls ≠ "java/lang/invoke/VarHandle" ∧ (parseMethodDescriptor y_RC_modelAt.desc).map (fun d => d.parameters.length) = some 1 := by decide +kernel
theorem cu_RC_itemOrBad_1 : y_RC_itemOrBad.cls = "RangeCoders" ∧ y_RC_itemOrBad.cls ≠ "java/lang/invoke/MethodHandle" ∧ y_RC_itemOrBad.cls ≠ "java/lang/invoke/VarHandle" ∧ (parseMethodDescriptor y_RC_itemOrBad.desc).map (fun d => d.parameters.length) = some 1 := by decide +kernel
theorem cu_M_prepare_2 : y_M_prepare.cls = "RangeCodersModel" ∧ y_M_prepare.cls ≠ "java/lang/invoke/MethodHandle" ∧ y_M_prepare.cls ≠ "java/lang/invoke/VarHandle" ∧ (parseMethodDescriptor y_M_prepare.desc).map (fun d => d.parameters.length) = some 2 := by decide +kernel
theorem cu_M_getRanged_1 : y_M_getRanged.cls = "RangeCodersModel" ∧ y_M_getRanged.cls ≠ "java/lang/invoke/MethodHandle" ∧ y_M_getRanged.cls ≠ "java/lang/invoke/VarHandle" ∧ (parseMethodDescriptor y_M_getRanged.desc).map (fun d => d.parameters.length) = some 1 := by decide +kernel
theorem cu_M_spoiled_0 : y_M_spoiled.cls = "RangeCodersModel" ∧ y_M_spoiled.cls ≠ "java/lang/invoke/MethodHandle" ∧ y_M_spoiled.cls ≠ "java/lang/invoke/VarHandle" ∧ (parseMethodDescriptor y_M_spoiled.desc).map (fun d => d.parameters.length) = some 0 := by decide +kernel
theorem cu_M_getNode_1 : y_M_getNode.cls = "RangeCodersModel" ∧ y_M_getNode.cls ≠ "java/lang/invoke/MethodHandle" ∧ y_M_getNode.cls ≠ "java/lang/invoke/VarHandle" ∧ (parseMethodDescriptor y_M_getNode.desc).map (fun d => d.parameters.length) = some 1 := by decide +kernel
theorem cu_M_getStacked_1 : y_M_getStacked.cls = "RangeCodersModel" ∧ y_M_getStacked.cls ≠ "java/lang/invoke/MethodHandle" ∧ y_M_getStacked.cls ≠ "java/lang/invoke/VarHandle" ∧ (parseMethodDescriptor y_M_getStacked.desc).map (fun d => d.parameters.length) = some 1 := by decide +kernel
theorem cu_M_valueOf_1 : y_M_valueOf.cls = "RangeCodersModel" ∧ y_M_valueOf.cls ≠ "java/lang/invoke/MethodHandle" ∧ y_M_valueOf.cls ≠ "java/lang/invoke/VarHandle" ∧ (parseMethodDescriptor y_M_valueOf.desc).map (fun d => d.parameters.length) = some 1 := by decide +kernel
theorem cu_M_getTabled_1 : y_M_getTabled.cls = "RangeCodersModel" ∧ y_M_getTabled.cls ≠ "java/lang/invoke/MethodHandle" ∧ y_M_getTabled.cls ≠ "java/lang/invoke/VarHandle" ∧ (parseMethodDescriptor y_M_getTabled.desc).map (fun d => d.parameters.length) = some 1 := by decide +kernel
theorem cu_M_start_0 : y_M_start.cls = "RangeCodersModel" ∧ y_M_start.cls ≠ "java/lang/invoke/MethodHandle" ∧ y_M_start.cls ≠ "java/lang/invoke/VarHandle" ∧ (parseMethodDescriptor y_M_start.desc).map (fun d => d.parameters.length) = some 0 := by decide +kernel
theorem cu_Row_clear_0 : y_Row_clear.cls = "RangeCoders$Row" ∧ y_Row_clear.cls ≠ "java/lang/invoke/MethodHandle" ∧ y_Row_clear.cls ≠ "java/lang/invoke/VarHandle" ∧ (parseMethodDescriptor y_Row_clear.desc).map (fun d => d.parameters.length) = some 0 := by decide +kernel
theorem cu_Row_add_1 : y_Row_add.cls = "RangeCoders$Row" ∧ y_Row_add.cls ≠ "java/lang/invoke/MethodHandle" ∧ y_Row_add.cls ≠ "java/lang/invoke/VarHandle" ∧ (parseMethodDescriptor y_Row_add.desc).map (fun d => d.parameters.length) = some 1 := by decide +kernel
theorem cu_Carries_writeWaiting_1 : y_Carries_writeWaiting.cls = "RangeCoders$Carries" ∧ y_Carries_writeWaiting.cls ≠ "java/lang/invoke/MethodHandle" ∧ y_Carries_writeWaiting.cls ≠ "java/lang/invoke/VarHandle" ∧ (parseMethodDescriptor y_Carries_writeWaiting.desc).map (fun d => d.parameters.length) = some 1 := by decide +kernel
theorem cu_Carries_shiftLow_0 : y_Carries_shiftLow.cls = "RangeCoders$Carries" ∧ y_Carries_shiftLow.cls ≠ "java/lang/invoke/MethodHandle" ∧ y_Carries_shiftLow.cls ≠ "java/lang/invoke/VarHandle" ∧ (parseMethodDescriptor y_Carries_shiftLow.desc).map (fun d => d.parameters.length) = some 0 := by decide +kernel
theorem cu_Carries_widen_0 : y_Carries_widen.cls = "RangeCoders$Carries" ∧ y_Carries_widen.cls ≠ "java/lang/invoke/MethodHandle" ∧ y_Carries_widen.cls ≠ "java/lang/invoke/VarHandle" ∧ (parseMethodDescriptor y_Carries_widen.desc).map (fun d => d.parameters.length) = some 0 := by decide +kernel
theorem cu_NoCarries_writeTop_0 : y_NoCarries_writeTop.cls = "RangeCoders$NoCarries" ∧ y_NoCarries_writeTop.cls ≠ "java/lang/invoke/MethodHandle" ∧ y_NoCarries_writeTop.cls ≠ "java/lang/invoke/VarHandle" ∧ (parseMethodDescriptor y_NoCarries_writeTop.desc).map (fun d => d.parameters.length) = some 0 := by decide +kernel
theorem cu_Bits_writeBit_3 : y_Bits_writeBit.cls = "RangeCoders$Bits" ∧ y_Bits_writeBit.cls ≠ "java/lang/invoke/MethodHandle" ∧ y_Bits_writeBit.cls ≠ "java/lang/invoke/VarHandle" ∧ (parseMethodDescriptor y_Bits_writeBit.desc).map (fun d => d.parameters.length) = some 3 := by decide +kernel
theorem cu_Stack_writeLowest_0 : y_Stack_writeLowest.cls = "RangeCoders$Stack" ∧ y_Stack_writeLowest.cls ≠ "java/lang/invoke/MethodHandle" ∧ y_Stack_writeLowest.cls ≠ "java/lang/invoke/VarHandle" ∧ (parseMethodDescriptor y_Stack_writeLowest.desc).map (fun d => d.parameters.length) = some 0 := by decide +kernel
theorem cu_Stack_stackPart_2 : y_Stack_stackPart.cls = "RangeCoders$Stack" ∧ y_Stack_stackPart.cls ≠ "java/lang/invoke/MethodHandle" ∧ y_Stack_stackPart.cls ≠ "java/lang/invoke/VarHandle" ∧ (parseMethodDescriptor y_Stack_stackPart.desc).map (fun d => d.parameters.length) = some 2 := by decide +kernel
theorem cu_Odds_placeOf_2 : y_Odds_placeOf.cls = "RangeCoders$Odds" ∧ y_Odds_placeOf.cls ≠ "java/lang/invoke/MethodHandle" ∧ y_Odds_placeOf.cls ≠ "java/lang/invoke/VarHandle" ∧ (parseMethodDescriptor y_Odds_placeOf.desc).map (fun d => d.parameters.length) = some 2 := by decide +kernel
theorem cu_Row_becomeReverseOf_1 : y_Row_becomeReverseOf.cls = "RangeCoders$Row" ∧ y_Row_becomeReverseOf.cls ≠ "java/lang/invoke/MethodHandle" ∧ y_Row_becomeReverseOf.cls ≠ "java/lang/invoke/VarHandle" ∧ (parseMethodDescriptor y_Row_becomeReverseOf.desc).map (fun d => d.parameters.length) = some 1 := by decide +kernel
theorem cu_Table_stackValue_2 : y_Table_stackValue.cls = "RangeCoders$Table" ∧ y_Table_stackValue.cls ≠ "java/lang/invoke/MethodHandle" ∧ y_Table_stackValue.cls ≠ "java/lang/invoke/VarHandle" ∧ (parseMethodDescriptor y_Table_stackValue.desc).map (fun d => d.parameters.length) = some 2 := by decide +kernel
theorem cu_Table_byteOfWritten_1 : y_Table_byteOfWritten.cls = "RangeCoders$Table" ∧ y_Table_byteOfWritten.cls ≠ "java/lang/invoke/MethodHandle" ∧ y_Table_byteOfWritten.cls ≠ "java/lang/invoke/VarHandle" ∧ (parseMethodDescriptor y_Table_byteOfWritten.desc).map (fun d => d.parameters.length) = some 1 := by decide +kernel
theorem cu_Model_hasSign_1 : y_Model_hasSign.cls = "RangeCoders$Model" ∧ y_Model_hasSign.cls ≠ "java/lang/invoke/MethodHandle" ∧ y_Model_hasSign.cls ≠ "java/lang/invoke/VarHandle" ∧ (parseMethodDescriptor y_Model_hasSign.desc).map (fun d => d.parameters.length) = some 1 := by decide +kernel
theorem cu_Row_set_2 : y_Row_set.cls = "RangeCoders$Row" ∧ y_Row_set.cls ≠ "java/lang/invoke/MethodHandle" ∧ y_Row_set.cls ≠ "java/lang/invoke/VarHandle" ∧ (parseMethodDescriptor y_Row_set.desc).map (fun d => d.parameters.length) = some 2 := by decide +kernel
theorem cu_M_isSign_2 : y_M_isSign.cls = "RangeCodersModel" ∧ y_M_isSign.cls ≠ "java/lang/invoke/MethodHandle" ∧ y_M_isSign.cls ≠ "java/lang/invoke/VarHandle" ∧ (parseMethodDescriptor y_M_isSign.desc).map (fun d => d.parameters.length) = some 2 := by decide +kernel
theorem cu_M_putSign_2 : y_M_putSign.cls = "RangeCodersModel" ∧ y_M_putSign.cls ≠ "java/lang/invoke/MethodHandle" ∧ y_M_putSign.cls ≠ "java/lang/invoke/VarHandle" ∧ (parseMethodDescriptor y_M_putSign.desc).map (fun d => d.parameters.length) = some 2 := by decide +kernel
theorem cu_M_addItem_2 : y_M_addItem.cls = "RangeCodersModel" ∧ y_M_addItem.cls ≠ "java/lang/invoke/MethodHandle" ∧ y_M_addItem.cls ≠ "java/lang/invoke/VarHandle" ∧ (parseMethodDescriptor y_M_addItem.desc).map (fun d => d.parameters.length) = some 2 := by decide +kernel
theorem cu_M_putValue_2 : y_M_putValue.cls = "RangeCodersModel" ∧ y_M_putValue.cls ≠ "java/lang/invoke/MethodHandle" ∧ y_M_putValue.cls ≠ "java/lang/invoke/VarHandle" ∧ (parseMethodDescriptor y_M_putValue.desc).map (fun d => d.parameters.length) = some 2 := by decide +kernel
theorem cu_M_endStack_0 : y_M_endStack.cls = "RangeCodersModel" ∧ y_M_endStack.cls ≠ "java/lang/invoke/MethodHandle" ∧ y_M_endStack.cls ≠ "java/lang/invoke/VarHandle" ∧ (parseMethodDescriptor y_M_endStack.desc).map (fun d => d.parameters.length) = some 0 := by decide +kernel
theorem cu_M_writeBit_1 : y_M_writeBit.cls = "RangeCodersModel" ∧ y_M_writeBit.cls ≠ "java/lang/invoke/MethodHandle" ∧ y_M_writeBit.cls ≠ "java/lang/invoke/VarHandle" ∧ (parseMethodDescriptor y_M_writeBit.desc).map (fun d => d.parameters.length) = some 1 := by decide +kernel
theorem cu_M_endTable_0 : y_M_endTable.cls = "RangeCodersModel" ∧ y_M_endTable.cls ≠ "java/lang/invoke/MethodHandle" ∧ y_M_endTable.cls ≠ "java/lang/invoke/VarHandle" ∧ (parseMethodDescriptor y_M_endTable.desc).map (fun d => d.parameters.length) = some 0 := by decide +kernel
theorem cu_M_four_0 : y_M_four.cls = "RangeCodersModel" ∧ y_M_four.cls ≠ "java/lang/invoke/MethodHandle" ∧ y_M_four.cls ≠ "java/lang/invoke/VarHandle" ∧ (parseMethodDescriptor y_M_four.desc).map (fun d => d.parameters.length) = some 0 := by decide +kernel
theorem cu_RC_model_1 : y_RC_model.cls = "RangeCoders" ∧ y_RC_model.cls ≠ "java/lang/invoke/MethodHandle" ∧ y_RC_model.cls ≠ "java/lang/invoke/VarHandle" ∧ (parseMethodDescriptor y_RC_model.desc).map (fun d => d.parameters.length) = some 1 := by decide +kernel
theorem cu_M_model_1 : y_M_model.cls = "RangeCodersModel" ∧ y_M_model.cls ≠ "java/lang/invoke/MethodHandle" ∧ y_M_model.cls ≠ "java/lang/invoke/VarHandle" ∧ (parseMethodDescriptor y_M_model.desc).map (fun d => d.parameters.length) = some 1 := by decide +kernel
theorem cu_RC_count_3 : y_RC_count.cls = "RangeCoders" ∧ y_RC_count.cls ≠ "java/lang/invoke/MethodHandle" ∧ y_RC_count.cls ≠ "java/lang/invoke/VarHandle" ∧ (parseMethodDescriptor y_RC_count.desc).map (fun d => d.parameters.length) = some 3 := by decide +kernel
theorem cu_M_count_3 : y_M_count.cls = "RangeCodersModel" ∧ y_M_count.cls ≠ "java/lang/invoke/MethodHandle" ∧ y_M_count.cls ≠ "java/lang/invoke/VarHandle" ∧ (parseMethodDescriptor y_M_count.desc).map (fun d => d.parameters.length) = some 3 := by decide +kernel
theorem cu_RC_put_2 : y_RC_put.cls = "RangeCoders" ∧ y_RC_put.cls ≠ "java/lang/invoke/MethodHandle" ∧ y_RC_put.cls ≠ "java/lang/invoke/VarHandle" ∧ (parseMethodDescriptor y_RC_put.desc).map (fun d => d.parameters.length) = some 2 := by decide +kernel
theorem cu_M_put_2 : y_M_put.cls = "RangeCodersModel" ∧ y_M_put.cls ≠ "java/lang/invoke/MethodHandle" ∧ y_M_put.cls ≠ "java/lang/invoke/VarHandle" ∧ (parseMethodDescriptor y_M_put.desc).map (fun d => d.parameters.length) = some 2 := by decide +kernel
theorem cu_RC_bits_2 : y_RC_bits.cls = "RangeCoders" ∧ y_RC_bits.cls ≠ "java/lang/invoke/MethodHandle" ∧ y_RC_bits.cls ≠ "java/lang/invoke/VarHandle" ∧ (parseMethodDescriptor y_RC_bits.desc).map (fun d => d.parameters.length) = some 2 := by decide +kernel
theorem cu_M_bits_2 : y_M_bits.cls = "RangeCodersModel" ∧ y_M_bits.cls ≠ "java/lang/invoke/MethodHandle" ∧ y_M_bits.cls ≠ "java/lang/invoke/VarHandle" ∧ (parseMethodDescriptor y_M_bits.desc).map (fun d => d.parameters.length) = some 2 := by decide +kernel
theorem cu_RC_end_0 : y_RC_end.cls = "RangeCoders" ∧ y_RC_end.cls ≠ "java/lang/invoke/MethodHandle" ∧ y_RC_end.cls ≠ "java/lang/invoke/VarHandle" ∧ (parseMethodDescriptor y_RC_end.desc).map (fun d => d.parameters.length) = some 0 := by decide +kernel
theorem cu_M_end_0 : y_M_end.cls = "RangeCodersModel" ∧ y_M_end.cls ≠ "java/lang/invoke/MethodHandle" ∧ y_M_end.cls ≠ "java/lang/invoke/VarHandle" ∧ (parseMethodDescriptor y_M_end.desc).map (fun d => d.parameters.length) = some 0 := by decide +kernel
theorem cu_RC_begin_0 : y_RC_begin.cls = "RangeCoders" ∧ y_RC_begin.cls ≠ "java/lang/invoke/MethodHandle" ∧ y_RC_begin.cls ≠ "java/lang/invoke/VarHandle" ∧ (parseMethodDescriptor y_RC_begin.desc).map (fun d => d.parameters.length) = some 0 := by decide +kernel
theorem cu_M_begin_0 : y_M_begin.cls = "RangeCodersModel" ∧ y_M_begin.cls ≠ "java/lang/invoke/MethodHandle" ∧ y_M_begin.cls ≠ "java/lang/invoke/VarHandle" ∧ (parseMethodDescriptor y_M_begin.desc).map (fun d => d.parameters.length) = some 0 := by decide +kernel
theorem cu_RC_out_1 : y_RC_out.cls = "RangeCoders" ∧ y_RC_out.cls ≠ "java/lang/invoke/MethodHandle" ∧ y_RC_out.cls ≠ "java/lang/invoke/VarHandle" ∧ (parseMethodDescriptor y_RC_out.desc).map (fun d => d.parameters.length) = some 1 := by decide +kernel
theorem cu_M_out_1 : y_M_out.cls = "RangeCodersModel" ∧ y_M_out.cls ≠ "java/lang/invoke/MethodHandle" ∧ y_M_out.cls ≠ "java/lang/invoke/VarHandle" ∧ (parseMethodDescriptor y_M_out.desc).map (fun d => d.parameters.length) = some 1 := by decide +kernel
theorem cu_RC_octets_1 : y_RC_octets.cls = "RangeCoders" ∧ y_RC_octets.cls ≠ "java/lang/invoke/MethodHandle" ∧ y_RC_octets.cls ≠ "java/lang/invoke/VarHandle" ∧ (parseMethodDescriptor y_RC_octets.desc).map (fun d => d.parameters.length) = some 1 := by decide +kernel
theorem cu_M_octets_1 : y_M_octets.cls = "RangeCodersModel" ∧ y_M_octets.cls ≠ "java/lang/invoke/MethodHandle" ∧ y_M_octets.cls ≠ "java/lang/invoke/VarHandle" ∧ (parseMethodDescriptor y_M_octets.desc).map (fun d => d.parameters.length) = some 1 := by decide +kernel
theorem cu_RC_take_1 : y_RC_take.cls = "RangeCoders" ∧ y_RC_take.cls ≠ "java/lang/invoke/MethodHandle" ∧ y_RC_take.cls ≠ "java/lang/invoke/VarHandle" ∧ (parseMethodDescriptor y_RC_take.desc).map (fun d => d.parameters.length) = some 1 := by decide +kernel
theorem cu_M_take_1 : y_M_take.cls = "RangeCodersModel" ∧ y_M_take.cls ≠ "java/lang/invoke/MethodHandle" ∧ y_M_take.cls ≠ "java/lang/invoke/VarHandle" ∧ (parseMethodDescriptor y_M_take.desc).map (fun d => d.parameters.length) = some 1 := by decide +kernel
theorem cu_RC_spoil_2 : y_RC_spoil.cls = "RangeCoders" ∧ y_RC_spoil.cls ≠ "java/lang/invoke/MethodHandle" ∧ y_RC_spoil.cls ≠ "java/lang/invoke/VarHandle" ∧ (parseMethodDescriptor y_RC_spoil.desc).map (fun d => d.parameters.length) = some 2 := by decide +kernel
theorem cu_M_spoil_2 : y_M_spoil.cls = "RangeCodersModel" ∧ y_M_spoil.cls ≠ "java/lang/invoke/MethodHandle" ∧ y_M_spoil.cls ≠ "java/lang/invoke/VarHandle" ∧ (parseMethodDescriptor y_M_spoil.desc).map (fun d => d.parameters.length) = some 2 := by decide +kernel
theorem cu_RC_read_0 : y_RC_read.cls = "RangeCoders" ∧ y_RC_read.cls ≠ "java/lang/invoke/MethodHandle" ∧ y_RC_read.cls ≠ "java/lang/invoke/VarHandle" ∧ (parseMethodDescriptor y_RC_read.desc).map (fun d => d.parameters.length) = some 0 := by decide +kernel
theorem cu_M_read_0 : y_M_read.cls = "RangeCodersModel" ∧ y_M_read.cls ≠ "java/lang/invoke/MethodHandle" ∧ y_M_read.cls ≠ "java/lang/invoke/VarHandle" ∧ (parseMethodDescriptor y_M_read.desc).map (fun d => d.parameters.length) = some 0 := by decide +kernel
theorem cu_RC_get_1 : y_RC_get.cls = "RangeCoders" ∧ y_RC_get.cls ≠ "java/lang/invoke/MethodHandle" ∧ y_RC_get.cls ≠ "java/lang/invoke/VarHandle" ∧ (parseMethodDescriptor y_RC_get.desc).map (fun d => d.parameters.length) = some 1 := by decide +kernel
theorem cu_M_get_1 : y_M_get.cls = "RangeCodersModel" ∧ y_M_get.cls ≠ "java/lang/invoke/MethodHandle" ∧ y_M_get.cls ≠ "java/lang/invoke/VarHandle" ∧ (parseMethodDescriptor y_M_get.desc).map (fun d => d.parameters.length) = some 1 := by decide +kernel
theorem cu_RC_getBits_1 : y_RC_getBits.cls = "RangeCoders" ∧ y_RC_getBits.cls ≠ "java/lang/invoke/MethodHandle" ∧ y_RC_getBits.cls ≠ "java/lang/invoke/VarHandle" ∧ (parseMethodDescriptor y_RC_getBits.desc).map (fun d => d.parameters.length) = some 1 := by decide +kernel
theorem cu_M_getBits_1 : y_M_getBits.cls = "RangeCodersModel" ∧ y_M_getBits.cls ≠ "java/lang/invoke/MethodHandle" ∧ y_M_getBits.cls ≠ "java/lang/invoke/VarHandle" ∧ (parseMethodDescriptor y_M_getBits.desc).map (fun d => d.parameters.length) = some 1 := by decide +kernel
theorem cu_RC_told_1 : y_RC_told.cls = "RangeCoders" ∧ y_RC_told.cls ≠ "java/lang/invoke/MethodHandle" ∧ y_RC_told.cls ≠ "java/lang/invoke/VarHandle" ∧ (parseMethodDescriptor y_RC_told.desc).map (fun d => d.parameters.length) = some 1 := by decide +kernel
theorem cu_M_told_1 : y_M_told.cls = "RangeCodersModel" ∧ y_M_told.cls ≠ "java/lang/invoke/MethodHandle" ∧ y_M_told.cls ≠ "java/lang/invoke/VarHandle" ∧ (parseMethodDescriptor y_M_told.desc).map (fun d => d.parameters.length) = some 1 := by decide +kernel
theorem cu_RC_state_1 : y_RC_state.cls = "RangeCoders" ∧ y_RC_state.cls ≠ "java/lang/invoke/MethodHandle" ∧ y_RC_state.cls ≠ "java/lang/invoke/VarHandle" ∧ (parseMethodDescriptor y_RC_state.desc).map (fun d => d.parameters.length) = some 1 := by decide +kernel
theorem cu_M_state_1 : y_M_state.cls = "RangeCodersModel" ∧ y_M_state.cls ≠ "java/lang/invoke/MethodHandle" ∧ y_M_state.cls ≠ "java/lang/invoke/VarHandle" ∧ (parseMethodDescriptor y_M_state.desc).map (fun d => d.parameters.length) = some 1 := by decide +kernel
theorem cu_RC_chance_2 : y_RC_chance.cls = "RangeCoders" ∧ y_RC_chance.cls ≠ "java/lang/invoke/MethodHandle" ∧ y_RC_chance.cls ≠ "java/lang/invoke/VarHandle" ∧ (parseMethodDescriptor y_RC_chance.desc).map (fun d => d.parameters.length) = some 2 := by decide +kernel
theorem cu_M_chance_2 : y_M_chance.cls = "RangeCodersModel" ∧ y_M_chance.cls ≠ "java/lang/invoke/MethodHandle" ∧ y_M_chance.cls ≠ "java/lang/invoke/VarHandle" ∧ (parseMethodDescriptor y_M_chance.desc).map (fun d => d.parameters.length) = some 2 := by decide +kernel
end
