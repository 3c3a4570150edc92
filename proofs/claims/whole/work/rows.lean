section
-- ===== PART A: goes FIRST, ahead of the names: the tables' words, and 'selects' of the private methods out of them =====
/-- a private method of a class that the tables say can be made, by its rows of tables_1 -/
def lw_okq (q : MethodName × Nat) : Prop := (q.1.cls ≠ "java/lang/invoke/MethodHandle" ∧ q.1.cls ≠ "java/lang/invoke/VarHandle") ∧ Cond.instantiable q.1.cls q.2 ∈ tables_1 ∧ Cond.privateMethod q.1 ∈ tables_1 ∧ Cond.instanceMethod q.1 ∈ tables_1
theorem lw_p0 : lw_okq (⟨"ArrestOrder$Text", "append", "(I)Z"⟩, 2) := ⟨⟨by decide +kernel, by decide +kernel⟩, List.mem_of_getElem? (i := 18) (by decide +kernel), List.mem_of_getElem? (i := 126) (by decide +kernel), List.mem_of_getElem? (i := 127) (by decide +kernel)⟩
theorem lw_p1 : lw_okq (⟨"ArrestOrder$Text", "readInto", "(LArrestOrder$Standing;)I"⟩, 2) := ⟨⟨by decide +kernel, by decide +kernel⟩, List.mem_of_getElem? (i := 18) (by decide +kernel), List.mem_of_getElem? (i := 138) (by decide +kernel), List.mem_of_getElem? (i := 139) (by decide +kernel)⟩
theorem lw_p2 : lw_okq (⟨"ArrestOrder$Standing", "clear", "()V"⟩, 7) := ⟨⟨by decide +kernel, by decide +kernel⟩, List.mem_of_getElem? (i := 33) (by decide +kernel), List.mem_of_getElem? (i := 142) (by decide +kernel), List.mem_of_getElem? (i := 143) (by decide +kernel)⟩
theorem lw_p3 : lw_okq (⟨"ArrestOrder$Text", "byteAt", "(I)I"⟩, 2) := ⟨⟨by decide +kernel, by decide +kernel⟩, List.mem_of_getElem? (i := 18) (by decide +kernel), List.mem_of_getElem? (i := 146) (by decide +kernel), List.mem_of_getElem? (i := 147) (by decide +kernel)⟩
theorem lw_p4 : lw_okq (⟨"ArrestOrder$Text", "readPart", "(ILArrestOrder$Standing;)I"⟩, 2) := ⟨⟨by decide +kernel, by decide +kernel⟩, List.mem_of_getElem? (i := 18) (by decide +kernel), List.mem_of_getElem? (i := 150) (by decide +kernel), List.mem_of_getElem? (i := 151) (by decide +kernel)⟩
theorem lw_p5 : lw_okq (⟨"ArrestOrder$Text", "readPerson", "(ILArrestOrder$Standing;)I"⟩, 2) := ⟨⟨by decide +kernel, by decide +kernel⟩, List.mem_of_getElem? (i := 18) (by decide +kernel), List.mem_of_getElem? (i := 154) (by decide +kernel), List.mem_of_getElem? (i := 155) (by decide +kernel)⟩
theorem lw_p6 : lw_okq (⟨"ArrestOrder$Text", "figureAt", "(I)I"⟩, 2) := ⟨⟨by decide +kernel, by decide +kernel⟩, List.mem_of_getElem? (i := 18) (by decide +kernel), List.mem_of_getElem? (i := 158) (by decide +kernel), List.mem_of_getElem? (i := 159) (by decide +kernel)⟩
theorem lw_p7 : lw_okq (⟨"ArrestOrder$Standing", "add", "(II)V"⟩, 7) := ⟨⟨by decide +kernel, by decide +kernel⟩, List.mem_of_getElem? (i := 33) (by decide +kernel), List.mem_of_getElem? (i := 162) (by decide +kernel), List.mem_of_getElem? (i := 163) (by decide +kernel)⟩
theorem lw_p8 : lw_okq (⟨"ArrestOrder$Standing", "hasPairLeft", "()Z"⟩, 7) := ⟨⟨by decide +kernel, by decide +kernel⟩, List.mem_of_getElem? (i := 33) (by decide +kernel), List.mem_of_getElem? (i := 169) (by decide +kernel), List.mem_of_getElem? (i := 170) (by decide +kernel)⟩
theorem lw_p9 : lw_okq (⟨"ArrestOrder$Text", "readPair", "(ILArrestOrder$Standing;)I"⟩, 2) := ⟨⟨by decide +kernel, by decide +kernel⟩, List.mem_of_getElem? (i := 18) (by decide +kernel), List.mem_of_getElem? (i := 179) (by decide +kernel), List.mem_of_getElem? (i := 180) (by decide +kernel)⟩
theorem lw_p10 : lw_okq (⟨"ArrestOrder$Standing", "has", "(I)Z"⟩, 7) := ⟨⟨by decide +kernel, by decide +kernel⟩, List.mem_of_getElem? (i := 33) (by decide +kernel), List.mem_of_getElem? (i := 183) (by decide +kernel), List.mem_of_getElem? (i := 184) (by decide +kernel)⟩
theorem lw_p11 : lw_okq (⟨"ArrestOrder$Standing", "whomFeeds", "(I)I"⟩, 7) := ⟨⟨by decide +kernel, by decide +kernel⟩, List.mem_of_getElem? (i := 33) (by decide +kernel), List.mem_of_getElem? (i := 187) (by decide +kernel), List.mem_of_getElem? (i := 188) (by decide +kernel)⟩
theorem lw_p12 : lw_okq (⟨"ArrestOrder$Standing", "feeds", "(II)Z"⟩, 7) := ⟨⟨by decide +kernel, by decide +kernel⟩, List.mem_of_getElem? (i := 33) (by decide +kernel), List.mem_of_getElem? (i := 191) (by decide +kernel), List.mem_of_getElem? (i := 192) (by decide +kernel)⟩
theorem lw_p13 : lw_okq (⟨"ArrestOrder$Standing", "copy", "(LArrestOrder$Standing;)V"⟩, 7) := ⟨⟨by decide +kernel, by decide +kernel⟩, List.mem_of_getElem? (i := 33) (by decide +kernel), List.mem_of_getElem? (i := 210) (by decide +kernel), List.mem_of_getElem? (i := 211) (by decide +kernel)⟩
theorem lw_p14 : lw_okq (⟨"ArrestOrder$Standing", "mayBeTaken", "(I)I"⟩, 7) := ⟨⟨by decide +kernel, by decide +kernel⟩, List.mem_of_getElem? (i := 33) (by decide +kernel), List.mem_of_getElem? (i := 218) (by decide +kernel), List.mem_of_getElem? (i := 219) (by decide +kernel)⟩
theorem lw_p15 : lw_okq (⟨"ArrestOrder$Standing", "gradeOf", "(I)I"⟩, 7) := ⟨⟨by decide +kernel, by decide +kernel⟩, List.mem_of_getElem? (i := 33) (by decide +kernel), List.mem_of_getElem? (i := 225) (by decide +kernel), List.mem_of_getElem? (i := 226) (by decide +kernel)⟩
def lw_privs_1 : List (MethodName × Nat) := [(⟨"ArrestOrder$Text", "append", "(I)Z"⟩, 2), (⟨"ArrestOrder$Text", "readInto", "(LArrestOrder$Standing;)I"⟩, 2), (⟨"ArrestOrder$Standing", "clear", "()V"⟩, 7), (⟨"ArrestOrder$Text", "byteAt", "(I)I"⟩, 2), (⟨"ArrestOrder$Text", "readPart", "(ILArrestOrder$Standing;)I"⟩, 2), (⟨"ArrestOrder$Text", "readPerson", "(ILArrestOrder$Standing;)I"⟩, 2), (⟨"ArrestOrder$Text", "figureAt", "(I)I"⟩, 2), (⟨"ArrestOrder$Standing", "add", "(II)V"⟩, 7), (⟨"ArrestOrder$Standing", "hasPairLeft", "()Z"⟩, 7), (⟨"ArrestOrder$Text", "readPair", "(ILArrestOrder$Standing;)I"⟩, 2), (⟨"ArrestOrder$Standing", "has", "(I)Z"⟩, 7), (⟨"ArrestOrder$Standing", "whomFeeds", "(I)I"⟩, 7), (⟨"ArrestOrder$Standing", "feeds", "(II)Z"⟩, 7), (⟨"ArrestOrder$Standing", "copy", "(LArrestOrder$Standing;)V"⟩, 7), (⟨"ArrestOrder$Standing", "mayBeTaken", "(I)I"⟩, 7), (⟨"ArrestOrder$Standing", "gradeOf", "(I)I"⟩, 7)]
theorem lw_r1 : ∀ q ∈ lw_privs_1, lw_okq q := List.forall_mem_cons.mpr ⟨lw_p0, List.forall_mem_cons.mpr ⟨lw_p1, List.forall_mem_cons.mpr ⟨lw_p2, List.forall_mem_cons.mpr ⟨lw_p3, List.forall_mem_cons.mpr ⟨lw_p4, List.forall_mem_cons.mpr ⟨lw_p5, List.forall_mem_cons.mpr ⟨lw_p6, List.forall_mem_cons.mpr ⟨lw_p7, List.forall_mem_cons.mpr ⟨lw_p8, List.forall_mem_cons.mpr ⟨lw_p9, List.forall_mem_cons.mpr ⟨lw_p10, List.forall_mem_cons.mpr ⟨lw_p11, List.forall_mem_cons.mpr ⟨lw_p12, List.forall_mem_cons.mpr ⟨lw_p13, List.forall_mem_cons.mpr ⟨lw_p14, List.forall_mem_cons.mpr ⟨lw_p15, fun _ h => absurd h List.not_mem_nil⟩⟩⟩⟩⟩⟩⟩⟩⟩⟩⟩⟩⟩⟩⟩⟩
theorem lw_p16 : lw_okq (⟨"ArrestOrder$Standing", "kindOf", "(I)I"⟩, 7) := ⟨⟨by decide +kernel, by decide +kernel⟩, List.mem_of_getElem? (i := 33) (by decide +kernel), List.mem_of_getElem? (i := 229) (by decide +kernel), List.mem_of_getElem? (i := 230) (by decide +kernel)⟩
theorem lw_p17 : lw_okq (⟨"ArrestOrder$Standing", "deedOf", "(I)I"⟩, 7) := ⟨⟨by decide +kernel, by decide +kernel⟩, List.mem_of_getElem? (i := 33) (by decide +kernel), List.mem_of_getElem? (i := 233) (by decide +kernel), List.mem_of_getElem? (i := 234) (by decide +kernel)⟩
theorem lw_p18 : lw_okq (⟨"ArrestOrder$Standing", "isHidden", "(II)Z"⟩, 7) := ⟨⟨by decide +kernel, by decide +kernel⟩, List.mem_of_getElem? (i := 33) (by decide +kernel), List.mem_of_getElem? (i := 237) (by decide +kernel), List.mem_of_getElem? (i := 238) (by decide +kernel)⟩
theorem lw_p19 : lw_okq (⟨"ArrestOrder$Standing", "hiddenOnes", "()I"⟩, 7) := ⟨⟨by decide +kernel, by decide +kernel⟩, List.mem_of_getElem? (i := 33) (by decide +kernel), List.mem_of_getElem? (i := 241) (by decide +kernel), List.mem_of_getElem? (i := 242) (by decide +kernel)⟩
theorem lw_p20 : lw_okq (⟨"ArrestOrder$Acts", "remember", "(LArrestOrder$Standing;)V"⟩, 3) := ⟨⟨by decide +kernel, by decide +kernel⟩, List.mem_of_getElem? (i := 68) (by decide +kernel), List.mem_of_getElem? (i := 259) (by decide +kernel), List.mem_of_getElem? (i := 260) (by decide +kernel)⟩
theorem lw_p21 : lw_okq (⟨"ArrestOrder$Standing", "bury", "(I)V"⟩, 7) := ⟨⟨by decide +kernel, by decide +kernel⟩, List.mem_of_getElem? (i := 33) (by decide +kernel), List.mem_of_getElem? (i := 277) (by decide +kernel), List.mem_of_getElem? (i := 278) (by decide +kernel)⟩
theorem lw_p22 : lw_okq (⟨"ArrestOrder$Standing", "setDeed", "(II)V"⟩, 7) := ⟨⟨by decide +kernel, by decide +kernel⟩, List.mem_of_getElem? (i := 33) (by decide +kernel), List.mem_of_getElem? (i := 292) (by decide +kernel), List.mem_of_getElem? (i := 293) (by decide +kernel)⟩
theorem lw_p23 : lw_okq (⟨"ArrestOrder$Standing", "passDay", "()I"⟩, 7) := ⟨⟨by decide +kernel, by decide +kernel⟩, List.mem_of_getElem? (i := 33) (by decide +kernel), List.mem_of_getElem? (i := 300) (by decide +kernel), List.mem_of_getElem? (i := 301) (by decide +kernel)⟩
theorem lw_p24 : lw_okq (⟨"ArrestOrder$Acts", "takeBackInto", "(LArrestOrder$Standing;)Z"⟩, 3) := ⟨⟨by decide +kernel, by decide +kernel⟩, List.mem_of_getElem? (i := 68) (by decide +kernel), List.mem_of_getElem? (i := 312) (by decide +kernel), List.mem_of_getElem? (i := 313) (by decide +kernel)⟩
theorem lw_p25 : lw_okq (⟨"ArrestOrder$Standing", "fallRow", "()I"⟩, 7) := ⟨⟨by decide +kernel, by decide +kernel⟩, List.mem_of_getElem? (i := 33) (by decide +kernel), List.mem_of_getElem? (i := 320) (by decide +kernel), List.mem_of_getElem? (i := 321) (by decide +kernel)⟩
theorem lw_p26 : lw_okq (⟨"ArrestOrder$Standing", "placeOf", "(I)I"⟩, 7) := ⟨⟨by decide +kernel, by decide +kernel⟩, List.mem_of_getElem? (i := 33) (by decide +kernel), List.mem_of_getElem? (i := 328) (by decide +kernel), List.mem_of_getElem? (i := 329) (by decide +kernel)⟩
theorem lw_p27 : lw_okq (⟨"ArrestOrder$Standing", "leftBehind", "(I)I"⟩, 7) := ⟨⟨by decide +kernel, by decide +kernel⟩, List.mem_of_getElem? (i := 33) (by decide +kernel), List.mem_of_getElem? (i := 336) (by decide +kernel), List.mem_of_getElem? (i := 337) (by decide +kernel)⟩
theorem lw_p28 : lw_okq (⟨"ArrestOrder$Standing", "isTaken", "(II)Z"⟩, 7) := ⟨⟨by decide +kernel, by decide +kernel⟩, List.mem_of_getElem? (i := 33) (by decide +kernel), List.mem_of_getElem? (i := 344) (by decide +kernel), List.mem_of_getElem? (i := 345) (by decide +kernel)⟩
theorem lw_p29 : lw_okq (⟨"ArrestOrder", "onePair", "(I)I"⟩, 11) := ⟨⟨by decide +kernel, by decide +kernel⟩, List.mem_of_getElem? (i := 10) (by decide +kernel), List.mem_of_getElem? (i := 349) (by decide +kernel), List.mem_of_getElem? (i := 350) (by decide +kernel)⟩
theorem lw_p30 : lw_okq (⟨"ArrestOrder", "newPair", "(I)J"⟩, 11) := ⟨⟨by decide +kernel, by decide +kernel⟩, List.mem_of_getElem? (i := 10) (by decide +kernel), List.mem_of_getElem? (i := 353) (by decide +kernel), List.mem_of_getElem? (i := 354) (by decide +kernel)⟩
theorem lw_p31 : lw_okq (⟨"ArrestOrder", "savesByFeeding", "(IJ)Z"⟩, 11) := ⟨⟨by decide +kernel, by decide +kernel⟩, List.mem_of_getElem? (i := 10) (by decide +kernel), List.mem_of_getElem? (i := 357) (by decide +kernel), List.mem_of_getElem? (i := 358) (by decide +kernel)⟩
def lw_privs_2 : List (MethodName × Nat) := [(⟨"ArrestOrder$Standing", "kindOf", "(I)I"⟩, 7), (⟨"ArrestOrder$Standing", "deedOf", "(I)I"⟩, 7), (⟨"ArrestOrder$Standing", "isHidden", "(II)Z"⟩, 7), (⟨"ArrestOrder$Standing", "hiddenOnes", "()I"⟩, 7), (⟨"ArrestOrder$Acts", "remember", "(LArrestOrder$Standing;)V"⟩, 3), (⟨"ArrestOrder$Standing", "bury", "(I)V"⟩, 7), (⟨"ArrestOrder$Standing", "setDeed", "(II)V"⟩, 7), (⟨"ArrestOrder$Standing", "passDay", "()I"⟩, 7), (⟨"ArrestOrder$Acts", "takeBackInto", "(LArrestOrder$Standing;)Z"⟩, 3), (⟨"ArrestOrder$Standing", "fallRow", "()I"⟩, 7), (⟨"ArrestOrder$Standing", "placeOf", "(I)I"⟩, 7), (⟨"ArrestOrder$Standing", "leftBehind", "(I)I"⟩, 7), (⟨"ArrestOrder$Standing", "isTaken", "(II)Z"⟩, 7), (⟨"ArrestOrder", "onePair", "(I)I"⟩, 11), (⟨"ArrestOrder", "newPair", "(I)J"⟩, 11), (⟨"ArrestOrder", "savesByFeeding", "(IJ)Z"⟩, 11)]
theorem lw_r2 : ∀ q ∈ lw_privs_2, lw_okq q := List.forall_mem_cons.mpr ⟨lw_p16, List.forall_mem_cons.mpr ⟨lw_p17, List.forall_mem_cons.mpr ⟨lw_p18, List.forall_mem_cons.mpr ⟨lw_p19, List.forall_mem_cons.mpr ⟨lw_p20, List.forall_mem_cons.mpr ⟨lw_p21, List.forall_mem_cons.mpr ⟨lw_p22, List.forall_mem_cons.mpr ⟨lw_p23, List.forall_mem_cons.mpr ⟨lw_p24, List.forall_mem_cons.mpr ⟨lw_p25, List.forall_mem_cons.mpr ⟨lw_p26, List.forall_mem_cons.mpr ⟨lw_p27, List.forall_mem_cons.mpr ⟨lw_p28, List.forall_mem_cons.mpr ⟨lw_p29, List.forall_mem_cons.mpr ⟨lw_p30, List.forall_mem_cons.mpr ⟨lw_p31, fun _ h => absurd h List.not_mem_nil⟩⟩⟩⟩⟩⟩⟩⟩⟩⟩⟩⟩⟩⟩⟩⟩
theorem lw_p32 : lw_okq (⟨"ArrestOrder", "twoPairs", "(I)I"⟩, 11) := ⟨⟨by decide +kernel, by decide +kernel⟩, List.mem_of_getElem? (i := 10) (by decide +kernel), List.mem_of_getElem? (i := 361) (by decide +kernel), List.mem_of_getElem? (i := 362) (by decide +kernel)⟩
theorem lw_p33 : lw_okq (⟨"ArrestOrder$Standing", "worthOf", "(I)I"⟩, 7) := ⟨⟨by decide +kernel, by decide +kernel⟩, List.mem_of_getElem? (i := 33) (by decide +kernel), List.mem_of_getElem? (i := 373) (by decide +kernel), List.mem_of_getElem? (i := 374) (by decide +kernel)⟩
theorem lw_p34 : lw_okq (⟨"ArrestOrder$Standing", "countTaken", "(I)I"⟩, 7) := ⟨⟨by decide +kernel, by decide +kernel⟩, List.mem_of_getElem? (i := 33) (by decide +kernel), List.mem_of_getElem? (i := 394) (by decide +kernel), List.mem_of_getElem? (i := 395) (by decide +kernel)⟩
theorem lw_p35 : lw_okq (⟨"ArrestOrder", "allSeenIsSo", "()Z"⟩, 11) := ⟨⟨by decide +kernel, by decide +kernel⟩, List.mem_of_getElem? (i := 10) (by decide +kernel), List.mem_of_getElem? (i := 411) (by decide +kernel), List.mem_of_getElem? (i := 412) (by decide +kernel)⟩
theorem lw_p36 : lw_okq (⟨"ArrestOrder", "isSo", "(II)Z"⟩, 11) := ⟨⟨by decide +kernel, by decide +kernel⟩, List.mem_of_getElem? (i := 10) (by decide +kernel), List.mem_of_getElem? (i := 415) (by decide +kernel), List.mem_of_getElem? (i := 416) (by decide +kernel)⟩
theorem lw_p37 : lw_okq (⟨"ArrestOrder", "weighChoices", "(II)V"⟩, 11) := ⟨⟨by decide +kernel, by decide +kernel⟩, List.mem_of_getElem? (i := 10) (by decide +kernel), List.mem_of_getElem? (i := 423) (by decide +kernel), List.mem_of_getElem? (i := 424) (by decide +kernel)⟩
theorem lw_p38 : lw_okq (⟨"ArrestOrder", "isRest", "(II)Z"⟩, 11) := ⟨⟨by decide +kernel, by decide +kernel⟩, List.mem_of_getElem? (i := 10) (by decide +kernel), List.mem_of_getElem? (i := 436) (by decide +kernel), List.mem_of_getElem? (i := 437) (by decide +kernel)⟩
theorem lw_p39 : lw_okq (⟨"ArrestOrderModel", "readCounty", "()I"⟩, 29) := ⟨⟨by decide +kernel, by decide +kernel⟩, List.mem_of_getElem? (i := 462) (by decide +kernel), List.mem_of_getElem? (i := 574) (by decide +kernel), List.mem_of_getElem? (i := 575) (by decide +kernel)⟩
theorem lw_p40 : lw_okq (⟨"ArrestOrderModel", "readPart", "()Z"⟩, 29) := ⟨⟨by decide +kernel, by decide +kernel⟩, List.mem_of_getElem? (i := 462) (by decide +kernel), List.mem_of_getElem? (i := 578) (by decide +kernel), List.mem_of_getElem? (i := 579) (by decide +kernel)⟩
theorem lw_p41 : lw_okq (⟨"ArrestOrderModel", "readPerson", "()Z"⟩, 29) := ⟨⟨by decide +kernel, by decide +kernel⟩, List.mem_of_getElem? (i := 462) (by decide +kernel), List.mem_of_getElem? (i := 582) (by decide +kernel), List.mem_of_getElem? (i := 583) (by decide +kernel)⟩
theorem lw_p42 : lw_okq (⟨"ArrestOrderModel", "figure", "(I)I"⟩, 29) := ⟨⟨by decide +kernel, by decide +kernel⟩, List.mem_of_getElem? (i := 462) (by decide +kernel), List.mem_of_getElem? (i := 586) (by decide +kernel), List.mem_of_getElem? (i := 587) (by decide +kernel)⟩
theorem lw_p43 : lw_okq (⟨"ArrestOrderModel", "isLeft", "()Z"⟩, 29) := ⟨⟨by decide +kernel, by decide +kernel⟩, List.mem_of_getElem? (i := 462) (by decide +kernel), List.mem_of_getElem? (i := 590) (by decide +kernel), List.mem_of_getElem? (i := 591) (by decide +kernel)⟩
theorem lw_p44 : lw_okq (⟨"ArrestOrderModel", "leftOf", "(I)I"⟩, 29) := ⟨⟨by decide +kernel, by decide +kernel⟩, List.mem_of_getElem? (i := 462) (by decide +kernel), List.mem_of_getElem? (i := 594) (by decide +kernel), List.mem_of_getElem? (i := 595) (by decide +kernel)⟩
theorem lw_p45 : lw_okq (⟨"ArrestOrderModel", "readPair", "()Z"⟩, 29) := ⟨⟨by decide +kernel, by decide +kernel⟩, List.mem_of_getElem? (i := 462) (by decide +kernel), List.mem_of_getElem? (i := 598) (by decide +kernel), List.mem_of_getElem? (i := 599) (by decide +kernel)⟩
theorem lw_p46 : lw_okq (⟨"ArrestOrderModel", "isHidden", "([II)Z"⟩, 29) := ⟨⟨by decide +kernel, by decide +kernel⟩, List.mem_of_getElem? (i := 462) (by decide +kernel), List.mem_of_getElem? (i := 613) (by decide +kernel), List.mem_of_getElem? (i := 614) (by decide +kernel)⟩
theorem lw_p47 : lw_okq (⟨"ArrestOrderModel", "mayOf", "([I)I"⟩, 29) := ⟨⟨by decide +kernel, by decide +kernel⟩, List.mem_of_getElem? (i := 462) (by decide +kernel), List.mem_of_getElem? (i := 617) (by decide +kernel), List.mem_of_getElem? (i := 618) (by decide +kernel)⟩
def lw_privs_3 : List (MethodName × Nat) := [(⟨"ArrestOrder", "twoPairs", "(I)I"⟩, 11), (⟨"ArrestOrder$Standing", "worthOf", "(I)I"⟩, 7), (⟨"ArrestOrder$Standing", "countTaken", "(I)I"⟩, 7), (⟨"ArrestOrder", "allSeenIsSo", "()Z"⟩, 11), (⟨"ArrestOrder", "isSo", "(II)Z"⟩, 11), (⟨"ArrestOrder", "weighChoices", "(II)V"⟩, 11), (⟨"ArrestOrder", "isRest", "(II)Z"⟩, 11), (⟨"ArrestOrderModel", "readCounty", "()I"⟩, 29), (⟨"ArrestOrderModel", "readPart", "()Z"⟩, 29), (⟨"ArrestOrderModel", "readPerson", "()Z"⟩, 29), (⟨"ArrestOrderModel", "figure", "(I)I"⟩, 29), (⟨"ArrestOrderModel", "isLeft", "()Z"⟩, 29), (⟨"ArrestOrderModel", "leftOf", "(I)I"⟩, 29), (⟨"ArrestOrderModel", "readPair", "()Z"⟩, 29), (⟨"ArrestOrderModel", "isHidden", "([II)Z"⟩, 29), (⟨"ArrestOrderModel", "mayOf", "([I)I"⟩, 29)]
theorem lw_r3 : ∀ q ∈ lw_privs_3, lw_okq q := List.forall_mem_cons.mpr ⟨lw_p32, List.forall_mem_cons.mpr ⟨lw_p33, List.forall_mem_cons.mpr ⟨lw_p34, List.forall_mem_cons.mpr ⟨lw_p35, List.forall_mem_cons.mpr ⟨lw_p36, List.forall_mem_cons.mpr ⟨lw_p37, List.forall_mem_cons.mpr ⟨lw_p38, List.forall_mem_cons.mpr ⟨lw_p39, List.forall_mem_cons.mpr ⟨lw_p40, List.forall_mem_cons.mpr ⟨lw_p41, List.forall_mem_cons.mpr ⟨lw_p42, List.forall_mem_cons.mpr ⟨lw_p43, List.forall_mem_cons.mpr ⟨lw_p44, List.forall_mem_cons.mpr ⟨lw_p45, List.forall_mem_cons.mpr ⟨lw_p46, List.forall_mem_cons.mpr ⟨lw_p47, fun _ h => absurd h List.not_mem_nil⟩⟩⟩⟩⟩⟩⟩⟩⟩⟩⟩⟩⟩⟩⟩⟩
theorem lw_p48 : lw_okq (⟨"ArrestOrderModel", "gradeOf", "([II)I"⟩, 29) := ⟨⟨by decide +kernel, by decide +kernel⟩, List.mem_of_getElem? (i := 462) (by decide +kernel), List.mem_of_getElem? (i := 621) (by decide +kernel), List.mem_of_getElem? (i := 622) (by decide +kernel)⟩
theorem lw_p49 : lw_okq (⟨"ArrestOrderModel", "noPerson", "(I)Z"⟩, 29) := ⟨⟨by decide +kernel, by decide +kernel⟩, List.mem_of_getElem? (i := 462) (by decide +kernel), List.mem_of_getElem? (i := 629) (by decide +kernel), List.mem_of_getElem? (i := 630) (by decide +kernel)⟩
theorem lw_p50 : lw_okq (⟨"ArrestOrderModel", "note", "()V"⟩, 29) := ⟨⟨by decide +kernel, by decide +kernel⟩, List.mem_of_getElem? (i := 462) (by decide +kernel), List.mem_of_getElem? (i := 637) (by decide +kernel), List.mem_of_getElem? (i := 638) (by decide +kernel)⟩
theorem lw_p51 : lw_okq (⟨"ArrestOrderModel", "goDay", "([I)I"⟩, 29) := ⟨⟨by decide +kernel, by decide +kernel⟩, List.mem_of_getElem? (i := 462) (by decide +kernel), List.mem_of_getElem? (i := 668) (by decide +kernel), List.mem_of_getElem? (i := 669) (by decide +kernel)⟩
theorem lw_p52 : lw_okq (⟨"ArrestOrderModel", "begin", "()V"⟩, 29) := ⟨⟨by decide +kernel, by decide +kernel⟩, List.mem_of_getElem? (i := 462) (by decide +kernel), List.mem_of_getElem? (i := 683) (by decide +kernel), List.mem_of_getElem? (i := 684) (by decide +kernel)⟩
theorem lw_p53 : lw_okq (⟨"ArrestOrderModel", "layFall", "()V"⟩, 29) := ⟨⟨by decide +kernel, by decide +kernel⟩, List.mem_of_getElem? (i := 462) (by decide +kernel), List.mem_of_getElem? (i := 687) (by decide +kernel), List.mem_of_getElem? (i := 688) (by decide +kernel)⟩
theorem lw_p54 : lw_okq (⟨"ArrestOrderModel", "placeOf", "(I)I"⟩, 29) := ⟨⟨by decide +kernel, by decide +kernel⟩, List.mem_of_getElem? (i := 462) (by decide +kernel), List.mem_of_getElem? (i := 695) (by decide +kernel), List.mem_of_getElem? (i := 696) (by decide +kernel)⟩
theorem lw_p55 : lw_okq (⟨"ArrestOrderModel", "findFeed", "(I)V"⟩, 29) := ⟨⟨by decide +kernel, by decide +kernel⟩, List.mem_of_getElem? (i := 462) (by decide +kernel), List.mem_of_getElem? (i := 707) (by decide +kernel), List.mem_of_getElem? (i := 708) (by decide +kernel)⟩
theorem lw_p56 : lw_okq (⟨"ArrestOrderModel", "isSafe", "(III)Z"⟩, 29) := ⟨⟨by decide +kernel, by decide +kernel⟩, List.mem_of_getElem? (i := 462) (by decide +kernel), List.mem_of_getElem? (i := 711) (by decide +kernel), List.mem_of_getElem? (i := 712) (by decide +kernel)⟩
theorem lw_p57 : lw_okq (⟨"ArrestOrderModel", "isPair", "(I)Z"⟩, 29) := ⟨⟨by decide +kernel, by decide +kernel⟩, List.mem_of_getElem? (i := 462) (by decide +kernel), List.mem_of_getElem? (i := 715) (by decide +kernel), List.mem_of_getElem? (i := 716) (by decide +kernel)⟩
theorem lw_p58 : lw_okq (⟨"ArrestOrderModel", "lateness", "(I)I"⟩, 29) := ⟨⟨by decide +kernel, by decide +kernel⟩, List.mem_of_getElem? (i := 462) (by decide +kernel), List.mem_of_getElem? (i := 727) (by decide +kernel), List.mem_of_getElem? (i := 728) (by decide +kernel)⟩
theorem lw_p59 : lw_okq (⟨"ArrestOrderModel", "isSeen", "()Z"⟩, 29) := ⟨⟨by decide +kernel, by decide +kernel⟩, List.mem_of_getElem? (i := 462) (by decide +kernel), List.mem_of_getElem? (i := 756) (by decide +kernel), List.mem_of_getElem? (i := 757) (by decide +kernel)⟩
theorem lw_p60 : lw_okq (⟨"ArrestOrderModel", "findRests", "(II)V"⟩, 29) := ⟨⟨by decide +kernel, by decide +kernel⟩, List.mem_of_getElem? (i := 462) (by decide +kernel), List.mem_of_getElem? (i := 764) (by decide +kernel), List.mem_of_getElem? (i := 765) (by decide +kernel)⟩
theorem lw_p61 : lw_okq (⟨"ArrestOrderModel", "layGains", "(II)V"⟩, 29) := ⟨⟨by decide +kernel, by decide +kernel⟩, List.mem_of_getElem? (i := 462) (by decide +kernel), List.mem_of_getElem? (i := 768) (by decide +kernel), List.mem_of_getElem? (i := 769) (by decide +kernel)⟩
theorem lw_p62 : lw_okq (⟨"ArrestOrderModel", "doRest", "(IIII)Z"⟩, 29) := ⟨⟨by decide +kernel, by decide +kernel⟩, List.mem_of_getElem? (i := 462) (by decide +kernel), List.mem_of_getElem? (i := 775) (by decide +kernel), List.mem_of_getElem? (i := 776) (by decide +kernel)⟩
def lw_privs_4 : List (MethodName × Nat) := [(⟨"ArrestOrderModel", "gradeOf", "([II)I"⟩, 29), (⟨"ArrestOrderModel", "noPerson", "(I)Z"⟩, 29), (⟨"ArrestOrderModel", "note", "()V"⟩, 29), (⟨"ArrestOrderModel", "goDay", "([I)I"⟩, 29), (⟨"ArrestOrderModel", "begin", "()V"⟩, 29), (⟨"ArrestOrderModel", "layFall", "()V"⟩, 29), (⟨"ArrestOrderModel", "placeOf", "(I)I"⟩, 29), (⟨"ArrestOrderModel", "findFeed", "(I)V"⟩, 29), (⟨"ArrestOrderModel", "isSafe", "(III)Z"⟩, 29), (⟨"ArrestOrderModel", "isPair", "(I)Z"⟩, 29), (⟨"ArrestOrderModel", "lateness", "(I)I"⟩, 29), (⟨"ArrestOrderModel", "isSeen", "()Z"⟩, 29), (⟨"ArrestOrderModel", "findRests", "(II)V"⟩, 29), (⟨"ArrestOrderModel", "layGains", "(II)V"⟩, 29), (⟨"ArrestOrderModel", "doRest", "(IIII)Z"⟩, 29)]
theorem lw_r4 : ∀ q ∈ lw_privs_4, lw_okq q := List.forall_mem_cons.mpr ⟨lw_p48, List.forall_mem_cons.mpr ⟨lw_p49, List.forall_mem_cons.mpr ⟨lw_p50, List.forall_mem_cons.mpr ⟨lw_p51, List.forall_mem_cons.mpr ⟨lw_p52, List.forall_mem_cons.mpr ⟨lw_p53, List.forall_mem_cons.mpr ⟨lw_p54, List.forall_mem_cons.mpr ⟨lw_p55, List.forall_mem_cons.mpr ⟨lw_p56, List.forall_mem_cons.mpr ⟨lw_p57, List.forall_mem_cons.mpr ⟨lw_p58, List.forall_mem_cons.mpr ⟨lw_p59, List.forall_mem_cons.mpr ⟨lw_p60, List.forall_mem_cons.mpr ⟨lw_p61, List.forall_mem_cons.mpr ⟨lw_p62, fun _ h => absurd h List.not_mem_nil⟩⟩⟩⟩⟩⟩⟩⟩⟩⟩⟩⟩⟩⟩⟩
def lw_privs : List (MethodName × Nat) := lw_privs_1 ++ (lw_privs_2 ++ (lw_privs_3 ++ (lw_privs_4)))
def lw_tbl : List Cond := k2_sels lw_privs ++ tables_1
theorem lw_privs_ok : ∀ q ∈ lw_privs, lw_okq q := by
  show ∀ q ∈ lw_privs_1 ++ (lw_privs_2 ++ (lw_privs_3 ++ (lw_privs_4))), lw_okq q
  exact List.forall_mem_append.mpr ⟨lw_r1, List.forall_mem_append.mpr ⟨lw_r2, List.forall_mem_append.mpr ⟨lw_r3, lw_r4⟩⟩⟩
-- ===== end of PART A; then your names; then what follows =====
end
section
/-! ===== BEGIN words of one list among another's, by their places ===== -/
theorem goodIn_r {big : List Cond} (ws : List Cond) (ps : List Nat) (hp : ws = ps.filterMap (fun i => big[i]?)) (h : ws.all goodWord = true) : GoodIn big ws := by
  intro w hw
  have h1 := List.all_eq_true.mp h w hw
  rw [hp] at hw
  obtain ⟨i, -, hi⟩ := List.mem_filterMap.mp hw
  have hm : w ∈ big := by first | exact List.mem_of_getElem? hi | exact List.getElem?_mem hi
  exact ⟨hm, good_of_word h1⟩
theorem goodIn_app {big a b : List Cond} (ha : GoodIn big a) (hb : GoodIn big b) : GoodIn big (a ++ b) := fun w h => (List.mem_append.mp h).elim (ha w) (hb w)
theorem goodIn_ca {big a b : List Cond} {c : Cond} (ha : GoodIn big (c :: a)) (hb : GoodIn big b) : GoodIn big (c :: (a ++ b)) := fun w h => (List.mem_cons.mp h).elim (fun e => ha w (List.mem_cons.mpr (Or.inl e))) (fun h => (List.mem_append.mp h).elim (fun h => ha w (List.mem_cons.mpr (Or.inr h))) (hb w))
theorem goodIn_sub {big ws : List Cond} (hm : ∀ w ∈ ws, w ∈ big) (h : ws.all goodWord = true) : GoodIn big ws := fun w hw => ⟨hm w hw, good_of_word (List.all_eq_true.mp h w hw)⟩
/-! ===== END ===== -/

/-! ===== BEGIN printed: names, fields, word lists, decode rows ===== -/
def RX0 : String := "ArrestOrder$Acts"
def TX0 : u_T := fun k => match k with
  | 0 => ("ArrestOrder$Acts", "before", "[LArrestOrder$Standing;", true)
  | 1 => ("ArrestOrder$Acts", "first", "I", false)
  | _ => ("ArrestOrder$Acts", "count", "I", false)
def tyX0 : Nat → FieldType := fun k => match k with
  | 0 => .array (.object "ArrestOrder$Standing")
  | 1 => .int
  | _ => .int
abbrev wsX00 : List Cond := u_ws RX0 TX0 3
theorem nmX0 : ∀ a, a < 3 → ∀ b, b < 3 → a ≠ b → (TX0 a).2.1 ≠ (TX0 b).2.1 := by decide +kernel
theorem tyX0_ok : ∀ k, k < 3 → parseFieldDescriptor (TX0 k).2.2.1 = some (tyX0 k) := by decide +kernel
abbrev cX0_init : ByteArray := prog_2_method_1_code
def yX0_init : MethodName := ⟨RX0, "<init>", "()V"⟩
abbrev cX0_remember : ByteArray := prog_2_method_2_code
def yX0_remember : MethodName := ⟨RX0, "remember", "(LArrestOrder$Standing;)V"⟩
abbrev cX0_takeBackInto : ByteArray := prog_2_method_3_code
def yX0_takeBackInto : MethodName := ⟨RX0, "takeBackInto", "(LArrestOrder$Standing;)Z"⟩
def RX1 : String := "ArrestOrder$Standing"
def TX1 : u_T := fun k => match k with
  | 0 => ("ArrestOrder$Standing", "people", "I", false)
  | 1 => ("ArrestOrder$Standing", "kinds", "I", false)
  | 2 => ("ArrestOrder$Standing", "deeds", "I", false)
  | 3 => ("ArrestOrder$Standing", "feeding", "J", false)
  | 4 => ("ArrestOrder$Standing", "large", "I", false)
  | 5 => ("ArrestOrder$Standing", "dead", "I", false)
  | _ => ("ArrestOrder$Standing", "dayNumber", "I", false)
def tyX1 : Nat → FieldType := fun k => match k with
  | 0 => .int
  | 1 => .int
  | 2 => .int
  | 3 => .long
  | 4 => .int
  | 5 => .int
  | _ => .int
abbrev wsX10 : List Cond := u_ws RX1 TX1 7
theorem nmX1 : ∀ a, a < 7 → ∀ b, b < 7 → a ≠ b → (TX1 a).2.1 ≠ (TX1 b).2.1 := by decide +kernel
theorem tyX1_ok : ∀ k, k < 7 → parseFieldDescriptor (TX1 k).2.2.1 = some (tyX1 k) := by decide +kernel
abbrev cX1_init : ByteArray := prog_3_method_1_code
def yX1_init : MethodName := ⟨RX1, "<init>", "()V"⟩
abbrev cX1_clear : ByteArray := prog_3_method_2_code
def yX1_clear : MethodName := ⟨RX1, "clear", "()V"⟩
abbrev cX1_copy : ByteArray := prog_3_method_3_code
def yX1_copy : MethodName := ⟨RX1, "copy", "(LArrestOrder$Standing;)V"⟩
abbrev cX1_add : ByteArray := prog_3_method_4_code
def yX1_add : MethodName := ⟨RX1, "add", "(II)V"⟩
abbrev cX1_has : ByteArray := prog_3_method_5_code
def yX1_has : MethodName := ⟨RX1, "has", "(I)Z"⟩
abbrev cX1_deedOf : ByteArray := prog_3_method_6_code
def yX1_deedOf : MethodName := ⟨RX1, "deedOf", "(I)I"⟩
abbrev cX1_setDeed : ByteArray := prog_3_method_7_code
def yX1_setDeed : MethodName := ⟨RX1, "setDeed", "(II)V"⟩
abbrev cX1_kindOf : ByteArray := prog_3_method_8_code
def yX1_kindOf : MethodName := ⟨RX1, "kindOf", "(I)I"⟩
abbrev cX1_gradeOf : ByteArray := prog_3_method_9_code
def yX1_gradeOf : MethodName := ⟨RX1, "gradeOf", "(I)I"⟩
abbrev cX1_feeds : ByteArray := prog_3_method_10_code
def yX1_feeds : MethodName := ⟨RX1, "feeds", "(II)Z"⟩
abbrev cX1_whomFeeds : ByteArray := prog_3_method_11_code
def yX1_whomFeeds : MethodName := ⟨RX1, "whomFeeds", "(I)I"⟩
abbrev cX1_hasPairLeft : ByteArray := prog_3_method_12_code
def yX1_hasPairLeft : MethodName := ⟨RX1, "hasPairLeft", "()Z"⟩
abbrev cX1_bury : ByteArray := prog_3_method_13_code
def yX1_bury : MethodName := ⟨RX1, "bury", "(I)V"⟩
abbrev cX1_passDay : ByteArray := prog_3_method_14_code
def yX1_passDay : MethodName := ⟨RX1, "passDay", "()I"⟩
abbrev cX1_isHidden : ByteArray := prog_3_method_15_code
def yX1_isHidden : MethodName := ⟨RX1, "isHidden", "(II)Z"⟩
abbrev cX1_hiddenOnes : ByteArray := prog_3_method_16_code
def yX1_hiddenOnes : MethodName := ⟨RX1, "hiddenOnes", "()I"⟩
abbrev cX1_mayBeTaken : ByteArray := prog_3_method_17_code
def yX1_mayBeTaken : MethodName := ⟨RX1, "mayBeTaken", "(I)I"⟩
abbrev cX1_fallRow : ByteArray := prog_3_method_18_code
def yX1_fallRow : MethodName := ⟨RX1, "fallRow", "()I"⟩
abbrev cX1_placeOf : ByteArray := prog_3_method_19_code
def yX1_placeOf : MethodName := ⟨RX1, "placeOf", "(I)I"⟩
abbrev cX1_worthOf : ByteArray := prog_3_method_20_code
def yX1_worthOf : MethodName := ⟨RX1, "worthOf", "(I)I"⟩
abbrev cX1_leftBehind : ByteArray := prog_3_method_21_code
def yX1_leftBehind : MethodName := ⟨RX1, "leftBehind", "(I)I"⟩
abbrev cX1_isTaken : ByteArray := prog_3_method_22_code
def yX1_isTaken : MethodName := ⟨RX1, "isTaken", "(II)Z"⟩
abbrev cX1_countTaken : ByteArray := prog_3_method_23_code
def yX1_countTaken : MethodName := ⟨RX1, "countTaken", "(I)I"⟩
def RX2 : String := "ArrestOrder$Text"
def TX2 : u_T := fun k => match k with
  | 0 => ("ArrestOrder$Text", "bytes", "[I", true)
  | _ => ("ArrestOrder$Text", "length", "I", false)
def tyX2 : Nat → FieldType := fun k => match k with
  | 0 => .array .int
  | _ => .int
abbrev wsX20 : List Cond := u_ws RX2 TX2 2
theorem nmX2 : ∀ a, a < 2 → ∀ b, b < 2 → a ≠ b → (TX2 a).2.1 ≠ (TX2 b).2.1 := by decide +kernel
theorem tyX2_ok : ∀ k, k < 2 → parseFieldDescriptor (TX2 k).2.2.1 = some (tyX2 k) := by decide +kernel
abbrev cX2_init : ByteArray := prog_4_method_1_code
def yX2_init : MethodName := ⟨RX2, "<init>", "()V"⟩
abbrev cX2_append : ByteArray := prog_4_method_2_code
def yX2_append : MethodName := ⟨RX2, "append", "(I)Z"⟩
abbrev cX2_readInto : ByteArray := prog_4_method_3_code
def yX2_readInto : MethodName := ⟨RX2, "readInto", "(LArrestOrder$Standing;)I"⟩
abbrev cX2_readPart : ByteArray := prog_4_method_4_code
def yX2_readPart : MethodName := ⟨RX2, "readPart", "(ILArrestOrder$Standing;)I"⟩
abbrev cX2_readPerson : ByteArray := prog_4_method_5_code
def yX2_readPerson : MethodName := ⟨RX2, "readPerson", "(ILArrestOrder$Standing;)I"⟩
abbrev cX2_readPair : ByteArray := prog_4_method_6_code
def yX2_readPair : MethodName := ⟨RX2, "readPair", "(ILArrestOrder$Standing;)I"⟩
abbrev cX2_byteAt : ByteArray := prog_4_method_7_code
def yX2_byteAt : MethodName := ⟨RX2, "byteAt", "(I)I"⟩
abbrev cX2_figureAt : ByteArray := prog_4_method_8_code
def yX2_figureAt : MethodName := ⟨RX2, "figureAt", "(I)I"⟩
def RX3 : String := "ArrestOrder"
def TX3 : u_T := fun k => match k with
  | 0 => ("ArrestOrder", "text", "LArrestOrder$Text;", true)
  | 1 => ("ArrestOrder", "now", "LArrestOrder$Standing;", true)
  | 2 => ("ArrestOrder", "trial", "LArrestOrder$Standing;", true)
  | 3 => ("ArrestOrder", "acts", "LArrestOrder$Acts;", true)
  | 4 => ("ArrestOrder", "slots", "[LArrestOrder$Standing;", true)
  | 5 => ("ArrestOrder", "keptSlots", "I", false)
  | 6 => ("ArrestOrder", "seen", "[I", true)
  | 7 => ("ArrestOrder", "seenCount", "I", false)
  | 8 => ("ArrestOrder", "seed", "J", false)
  | 9 => ("ArrestOrder", "oneHas", "[I", true)
  | _ => ("ArrestOrder", "otherHas", "[I", true)
def tyX3 : Nat → FieldType := fun k => match k with
  | 0 => .object "ArrestOrder$Text"
  | 1 => .object "ArrestOrder$Standing"
  | 2 => .object "ArrestOrder$Standing"
  | 3 => .object "ArrestOrder$Acts"
  | 4 => .array (.object "ArrestOrder$Standing")
  | 5 => .int
  | 6 => .array .int
  | 7 => .int
  | 8 => .long
  | 9 => .array .int
  | _ => .array .int
abbrev wsX30 : List Cond := u_ws RX3 TX3 11
theorem nmX3 : ∀ a, a < 11 → ∀ b, b < 11 → a ≠ b → (TX3 a).2.1 ≠ (TX3 b).2.1 := by decide +kernel
theorem tyX3_ok : ∀ k, k < 11 → parseFieldDescriptor (TX3 k).2.2.1 = some (tyX3 k) := by decide +kernel
abbrev cX3_init : ByteArray := prog_1_method_1_code
def yX3_init : MethodName := ⟨RX3, "<init>", "()V"⟩
abbrev cX3_write : ByteArray := prog_1_method_2_code
def yX3_write : MethodName := ⟨RX3, "write", "(I)I"⟩
abbrev cX3_wipe : ByteArray := prog_1_method_3_code
def yX3_wipe : MethodName := ⟨RX3, "wipe", "()I"⟩
abbrev cX3_fault : ByteArray := prog_1_method_4_code
def yX3_fault : MethodName := ⟨RX3, "fault", "()I"⟩
abbrev cX3_county : ByteArray := prog_1_method_5_code
def yX3_county : MethodName := ⟨RX3, "county", "()I"⟩
abbrev cX3_about : ByteArray := prog_1_method_6_code
def yX3_about : MethodName := ⟨RX3, "about", "(I)I"⟩
abbrev cX3_person : ByteArray := prog_1_method_7_code
def yX3_person : MethodName := ⟨RX3, "person", "(II)I"⟩
abbrev cX3_take : ByteArray := prog_1_method_8_code
def yX3_take : MethodName := ⟨RX3, "take", "(I)I"⟩
abbrev cX3_free : ByteArray := prog_1_method_9_code
def yX3_free : MethodName := ⟨RX3, "free", "(I)I"⟩
abbrev cX3_die : ByteArray := prog_1_method_10_code
def yX3_die : MethodName := ⟨RX3, "die", "(I)I"⟩
abbrev cX3_feed : ByteArray := prog_1_method_11_code
def yX3_feed : MethodName := ⟨RX3, "feed", "(II)I"⟩
abbrev cX3_grade : ByteArray := prog_1_method_12_code
def yX3_grade : MethodName := ⟨RX3, "grade", "(II)I"⟩
abbrev cX3_day : ByteArray := prog_1_method_13_code
def yX3_day : MethodName := ⟨RX3, "day", "()I"⟩
abbrev cX3_undo : ByteArray := prog_1_method_14_code
def yX3_undo : MethodName := ⟨RX3, "undo", "()I"⟩
abbrev cX3_fall : ByteArray := prog_1_method_15_code
def yX3_fall : MethodName := ⟨RX3, "fall", "()I"⟩
abbrev cX3_place : ByteArray := prog_1_method_16_code
def yX3_place : MethodName := ⟨RX3, "place", "(I)I"⟩
abbrev cX3_last : ByteArray := prog_1_method_17_code
def yX3_last : MethodName := ⟨RX3, "last", "()I"⟩
abbrev cX3_toFeed : ByteArray := prog_1_method_18_code
def yX3_toFeed : MethodName := ⟨RX3, "toFeed", "(II)I"⟩
abbrev cX3_giveUp : ByteArray := prog_1_method_19_code
def yX3_giveUp : MethodName := ⟨RX3, "giveUp", "(I)I"⟩
abbrev cX3_claim : ByteArray := prog_1_method_20_code
def yX3_claim : MethodName := ⟨RX3, "claim", "(I)I"⟩
abbrev cX3_share : ByteArray := prog_1_method_21_code
def yX3_share : MethodName := ⟨RX3, "share", "(IZ)I"⟩
abbrev cX3_see : ByteArray := prog_1_method_22_code
def yX3_see : MethodName := ⟨RX3, "see", "(II)I"⟩
abbrev cX3_unsee : ByteArray := prog_1_method_23_code
def yX3_unsee : MethodName := ⟨RX3, "unsee", "()I"⟩
abbrev cX3_did : ByteArray := prog_1_method_24_code
def yX3_did : MethodName := ⟨RX3, "did", "(I)I"⟩
abbrev cX3_rests : ByteArray := prog_1_method_25_code
def yX3_rests : MethodName := ⟨RX3, "rests", "(III)I"⟩
abbrev cX3_toss : ByteArray := prog_1_method_26_code
def yX3_toss : MethodName := ⟨RX3, "toss", "(IZ)I"⟩
abbrev cX3_seed : ByteArray := prog_1_method_27_code
def yX3_seed : MethodName := ⟨RX3, "seed", "(J)J"⟩
abbrev cX3_days : ByteArray := prog_1_method_28_code
def yX3_days : MethodName := ⟨RX3, "days", "(I)I"⟩
abbrev cX3_keep : ByteArray := prog_1_method_29_code
def yX3_keep : MethodName := ⟨RX3, "keep", "(I)I"⟩
abbrev cX3_again : ByteArray := prog_1_method_30_code
def yX3_again : MethodName := ⟨RX3, "again", "(I)I"⟩
abbrev cX3_onePair : ByteArray := prog_1_method_31_code
def yX3_onePair : MethodName := ⟨RX3, "onePair", "(I)I"⟩
abbrev cX3_twoPairs : ByteArray := prog_1_method_32_code
def yX3_twoPairs : MethodName := ⟨RX3, "twoPairs", "(I)I"⟩
abbrev cX3_newPair : ByteArray := prog_1_method_33_code
def yX3_newPair : MethodName := ⟨RX3, "newPair", "(I)J"⟩
abbrev cX3_savesByFeeding : ByteArray := prog_1_method_34_code
def yX3_savesByFeeding : MethodName := ⟨RX3, "savesByFeeding", "(IJ)Z"⟩
abbrev cX3_allSeenIsSo : ByteArray := prog_1_method_35_code
def yX3_allSeenIsSo : MethodName := ⟨RX3, "allSeenIsSo", "()Z"⟩
abbrev cX3_isSo : ByteArray := prog_1_method_36_code
def yX3_isSo : MethodName := ⟨RX3, "isSo", "(II)Z"⟩
abbrev cX3_weighChoices : ByteArray := prog_1_method_37_code
def yX3_weighChoices : MethodName := ⟨RX3, "weighChoices", "(II)V"⟩
abbrev cX3_isOpen : ByteArray := prog_1_method_38_code
def yX3_isOpen : MethodName := ⟨RX3, "isOpen", "(II)Z"⟩
abbrev cX3_chosen : ByteArray := prog_1_method_39_code
def yX3_chosen : MethodName := ⟨RX3, "chosen", "(II)J"⟩
abbrev cX3_cost : ByteArray := prog_1_method_40_code
def yX3_cost : MethodName := ⟨RX3, "cost", "(I)I"⟩
abbrev cX3_isRest : ByteArray := prog_1_method_41_code
def yX3_isRest : MethodName := ⟨RX3, "isRest", "(II)Z"⟩
abbrev cX3_bit : ByteArray := prog_1_method_42_code
def yX3_bit : MethodName := ⟨RX3, "bit", "(I)I"⟩
abbrev cX3_isIn : ByteArray := prog_1_method_43_code
def yX3_isIn : MethodName := ⟨RX3, "isIn", "(II)Z"⟩
abbrev cX3_without : ByteArray := prog_1_method_44_code
def yX3_without : MethodName := ⟨RX3, "without", "(II)I"⟩
abbrev cX3_leastOf : ByteArray := prog_1_method_45_code
def yX3_leastOf : MethodName := ⟨RX3, "leastOf", "(I)I"⟩
abbrev cX3_pair : ByteArray := prog_1_method_46_code
def yX3_pair : MethodName := ⟨RX3, "pair", "(II)J"⟩
abbrev cX3_factorial : ByteArray := prog_1_method_47_code
def yX3_factorial : MethodName := ⟨RX3, "factorial", "(I)I"⟩
abbrev cX3_inLeastTerms : ByteArray := prog_1_method_48_code
def yX3_inLeastTerms : MethodName := ⟨RX3, "inLeastTerms", "(IIZ)I"⟩
abbrev cX3_commonDivisor : ByteArray := prog_1_method_49_code
def yX3_commonDivisor : MethodName := ⟨RX3, "commonDivisor", "(II)I"⟩
def RX4 : String := "ArrestOrderModel"
def TX4 : u_T := fun k => match k with
  | 0 => ("ArrestOrderModel", "thrown", "I", false)
  | 1 => ("ArrestOrderModel", "text", "[I", true)
  | 2 => ("ArrestOrderModel", "textSize", "I", false)
  | 3 => ("ArrestOrderModel", "place", "I", false)
  | 4 => ("ArrestOrderModel", "people", "I", false)
  | 5 => ("ArrestOrderModel", "kind", "[I", true)
  | 6 => ("ArrestOrderModel", "readPeople", "I", false)
  | 7 => ("ArrestOrderModel", "readDeed", "[I", true)
  | 8 => ("ArrestOrderModel", "readKind", "[I", true)
  | 9 => ("ArrestOrderModel", "readFeeds", "[I", true)
  | 10 => ("ArrestOrderModel", "page", "[I", true)
  | 11 => ("ArrestOrderModel", "trial", "[I", true)
  | 12 => ("ArrestOrderModel", "book", "[I", true)
  | 13 => ("ArrestOrderModel", "acts", "I", false)
  | 14 => ("ArrestOrderModel", "kept", "[I", true)
  | 15 => ("ArrestOrderModel", "isKept", "[Z", true)
  | 16 => ("ArrestOrderModel", "seen", "I", false)
  | 17 => ("ArrestOrderModel", "seenOne", "[I", true)
  | 18 => ("ArrestOrderModel", "seenTwo", "[I", true)
  | 19 => ("ArrestOrderModel", "seed", "J", false)
  | 20 => ("ArrestOrderModel", "row", "[I", true)
  | 21 => ("ArrestOrderModel", "rowSize", "I", false)
  | 22 => ("ArrestOrderModel", "feedMany", "I", false)
  | 23 => ("ArrestOrderModel", "feedRow", "I", false)
  | 24 => ("ArrestOrderModel", "restMany", "I", false)
  | 25 => ("ArrestOrderModel", "restFirst", "I", false)
  | 26 => ("ArrestOrderModel", "value", "[I", true)
  | 27 => ("ArrestOrderModel", "gains", "[I", true)
  | _ => ("ArrestOrderModel", "weight", "[J", true)
def tyX4 : Nat → FieldType := fun k => match k with
  | 0 => .int
  | 1 => .array .int
  | 2 => .int
  | 3 => .int
  | 4 => .int
  | 5 => .array .int
  | 6 => .int
  | 7 => .array .int
  | 8 => .array .int
  | 9 => .array .int
  | 10 => .array .int
  | 11 => .array .int
  | 12 => .array .int
  | 13 => .int
  | 14 => .array .int
  | 15 => .array .boolean
  | 16 => .int
  | 17 => .array .int
  | 18 => .array .int
  | 19 => .long
  | 20 => .array .int
  | 21 => .int
  | 22 => .int
  | 23 => .int
  | 24 => .int
  | 25 => .int
  | 26 => .array .int
  | 27 => .array .int
  | _ => .array .long
abbrev wsX40 : List Cond := u_ws RX4 TX4 29
theorem nmX4 : ∀ a, a < 29 → ∀ b, b < 29 → a ≠ b → (TX4 a).2.1 ≠ (TX4 b).2.1 := by decide +kernel
theorem tyX4_ok : ∀ k, k < 29 → parseFieldDescriptor (TX4 k).2.2.1 = some (tyX4 k) := by decide +kernel
abbrev cX4_init : ByteArray := prog_6_method_1_code
def yX4_init : MethodName := ⟨RX4, "<init>", "()V"⟩
abbrev cX4_in : ByteArray := prog_6_method_3_code
def yX4_in : MethodName := ⟨RX4, "in", "(JJJ)Z"⟩
abbrev cX4_has : ByteArray := prog_6_method_4_code
def yX4_has : MethodName := ⟨RX4, "has", "(II)Z"⟩
abbrev cX4_many : ByteArray := prog_6_method_5_code
def yX4_many : MethodName := ⟨RX4, "many", "(I)I"⟩
abbrev cX4_noPerson : ByteArray := prog_6_method_6_code
def yX4_noPerson : MethodName := ⟨RX4, "noPerson", "(I)Z"⟩
abbrev cX4_write : ByteArray := prog_6_method_7_code
def yX4_write : MethodName := ⟨RX4, "write", "(I)I"⟩
abbrev cX4_wipe : ByteArray := prog_6_method_8_code
def yX4_wipe : MethodName := ⟨RX4, "wipe", "()I"⟩
abbrev cX4_figure : ByteArray := prog_6_method_9_code
def yX4_figure : MethodName := ⟨RX4, "figure", "(I)I"⟩
abbrev cX4_leftOf : ByteArray := prog_6_method_10_code
def yX4_leftOf : MethodName := ⟨RX4, "leftOf", "(I)I"⟩
abbrev cX4_isLeft : ByteArray := prog_6_method_11_code
def yX4_isLeft : MethodName := ⟨RX4, "isLeft", "()Z"⟩
abbrev cX4_readPerson : ByteArray := prog_6_method_12_code
def yX4_readPerson : MethodName := ⟨RX4, "readPerson", "()Z"⟩
abbrev cX4_readPair : ByteArray := prog_6_method_13_code
def yX4_readPair : MethodName := ⟨RX4, "readPair", "()Z"⟩
abbrev cX4_readPart : ByteArray := prog_6_method_14_code
def yX4_readPart : MethodName := ⟨RX4, "readPart", "()Z"⟩
abbrev cX4_readCounty : ByteArray := prog_6_method_15_code
def yX4_readCounty : MethodName := ⟨RX4, "readCounty", "()I"⟩
abbrev cX4_fault : ByteArray := prog_6_method_16_code
def yX4_fault : MethodName := ⟨RX4, "fault", "()I"⟩
abbrev cX4_county : ByteArray := prog_6_method_17_code
def yX4_county : MethodName := ⟨RX4, "county", "()I"⟩
abbrev cX4_gradeOf : ByteArray := prog_6_method_18_code
def yX4_gradeOf : MethodName := ⟨RX4, "gradeOf", "([II)I"⟩
abbrev cX4_isHidden : ByteArray := prog_6_method_19_code
def yX4_isHidden : MethodName := ⟨RX4, "isHidden", "([II)Z"⟩
abbrev cX4_mayOf : ByteArray := prog_6_method_20_code
def yX4_mayOf : MethodName := ⟨RX4, "mayOf", "([I)I"⟩
abbrev cX4_least : ByteArray := prog_6_method_21_code
def yX4_least : MethodName := ⟨RX4, "least", "(I)I"⟩
abbrev cX4_begin : ByteArray := prog_6_method_22_code
def yX4_begin : MethodName := ⟨RX4, "begin", "()V"⟩
abbrev cX4_layFall : ByteArray := prog_6_method_23_code
def yX4_layFall : MethodName := ⟨RX4, "layFall", "()V"⟩
abbrev cX4_placeOf : ByteArray := prog_6_method_24_code
def yX4_placeOf : MethodName := ⟨RX4, "placeOf", "(I)I"⟩
abbrev cX4_about : ByteArray := prog_6_method_25_code
def yX4_about : MethodName := ⟨RX4, "about", "(I)I"⟩
abbrev cX4_person : ByteArray := prog_6_method_26_code
def yX4_person : MethodName := ⟨RX4, "person", "(II)I"⟩
abbrev cX4_note : ByteArray := prog_6_method_27_code
def yX4_note : MethodName := ⟨RX4, "note", "()V"⟩
abbrev cX4_take : ByteArray := prog_6_method_28_code
def yX4_take : MethodName := ⟨RX4, "take", "(I)I"⟩
abbrev cX4_free : ByteArray := prog_6_method_29_code
def yX4_free : MethodName := ⟨RX4, "free", "(I)I"⟩
abbrev cX4_goDie : ByteArray := prog_6_method_30_code
def yX4_goDie : MethodName := ⟨RX4, "goDie", "([II)V"⟩
abbrev cX4_die : ByteArray := prog_6_method_31_code
def yX4_die : MethodName := ⟨RX4, "die", "(I)I"⟩
abbrev cX4_feed : ByteArray := prog_6_method_32_code
def yX4_feed : MethodName := ⟨RX4, "feed", "(II)I"⟩
abbrev cX4_grade : ByteArray := prog_6_method_33_code
def yX4_grade : MethodName := ⟨RX4, "grade", "(II)I"⟩
abbrev cX4_goDay : ByteArray := prog_6_method_34_code
def yX4_goDay : MethodName := ⟨RX4, "goDay", "([I)I"⟩
abbrev cX4_day : ByteArray := prog_6_method_35_code
def yX4_day : MethodName := ⟨RX4, "day", "()I"⟩
abbrev cX4_undo : ByteArray := prog_6_method_36_code
def yX4_undo : MethodName := ⟨RX4, "undo", "()I"⟩
abbrev cX4_fall : ByteArray := prog_6_method_37_code
def yX4_fall : MethodName := ⟨RX4, "fall", "()I"⟩
abbrev cX4_place : ByteArray := prog_6_method_38_code
def yX4_place : MethodName := ⟨RX4, "place", "(I)I"⟩
abbrev cX4_last : ByteArray := prog_6_method_39_code
def yX4_last : MethodName := ⟨RX4, "last", "()I"⟩
abbrev cX4_isPair : ByteArray := prog_6_method_40_code
def yX4_isPair : MethodName := ⟨RX4, "isPair", "(I)Z"⟩
abbrev cX4_isSafe : ByteArray := prog_6_method_41_code
def yX4_isSafe : MethodName := ⟨RX4, "isSafe", "(III)Z"⟩
abbrev cX4_findFeed : ByteArray := prog_6_method_42_code
def yX4_findFeed : MethodName := ⟨RX4, "findFeed", "(I)V"⟩
abbrev cX4_toFeed : ByteArray := prog_6_method_43_code
def yX4_toFeed : MethodName := ⟨RX4, "toFeed", "(II)I"⟩
abbrev cX4_giveUp : ByteArray := prog_6_method_44_code
def yX4_giveUp : MethodName := ⟨RX4, "giveUp", "(I)I"⟩
abbrev cX4_lateness : ByteArray := prog_6_method_45_code
def yX4_lateness : MethodName := ⟨RX4, "lateness", "(I)I"⟩
abbrev cX4_claim : ByteArray := prog_6_method_46_code
def yX4_claim : MethodName := ⟨RX4, "claim", "(I)I"⟩
abbrev cX4_ways : ByteArray := prog_6_method_47_code
def yX4_ways : MethodName := ⟨RX4, "ways", "(I)I"⟩
abbrev cX4_divisor : ByteArray := prog_6_method_48_code
def yX4_divisor : MethodName := ⟨RX4, "divisor", "(JJ)J"⟩
abbrev cX4_fraction : ByteArray := prog_6_method_49_code
def yX4_fraction : MethodName := ⟨RX4, "fraction", "(JJZ)I"⟩
abbrev cX4_share : ByteArray := prog_6_method_50_code
def yX4_share : MethodName := ⟨RX4, "share", "(IZ)I"⟩
abbrev cX4_see : ByteArray := prog_6_method_51_code
def yX4_see : MethodName := ⟨RX4, "see", "(II)I"⟩
abbrev cX4_unsee : ByteArray := prog_6_method_52_code
def yX4_unsee : MethodName := ⟨RX4, "unsee", "()I"⟩
abbrev cX4_isSeen : ByteArray := prog_6_method_53_code
def yX4_isSeen : MethodName := ⟨RX4, "isSeen", "()Z"⟩
abbrev cX4_did : ByteArray := prog_6_method_54_code
def yX4_did : MethodName := ⟨RX4, "did", "(I)I"⟩
abbrev cX4_cellOf : ByteArray := prog_6_method_55_code
def yX4_cellOf : MethodName := ⟨RX4, "cellOf", "(II)I"⟩
abbrev cX4_layGains : ByteArray := prog_6_method_56_code
def yX4_layGains : MethodName := ⟨RX4, "layGains", "(II)V"⟩
abbrev cX4_doRest : ByteArray := prog_6_method_57_code
def yX4_doRest : MethodName := ⟨RX4, "doRest", "(IIII)Z"⟩
abbrev cX4_findRests : ByteArray := prog_6_method_58_code
def yX4_findRests : MethodName := ⟨RX4, "findRests", "(II)V"⟩
abbrev cX4_rests : ByteArray := prog_6_method_59_code
def yX4_rests : MethodName := ⟨RX4, "rests", "(III)I"⟩
abbrev cX4_toss : ByteArray := prog_6_method_60_code
def yX4_toss : MethodName := ⟨RX4, "toss", "(IZ)I"⟩
abbrev cX4_seed : ByteArray := prog_6_method_61_code
def yX4_seed : MethodName := ⟨RX4, "seed", "(J)J"⟩
abbrev cX4_days : ByteArray := prog_6_method_62_code
def yX4_days : MethodName := ⟨RX4, "days", "(I)I"⟩
abbrev cX4_keep : ByteArray := prog_6_method_63_code
def yX4_keep : MethodName := ⟨RX4, "keep", "(I)I"⟩
abbrev cX4_again : ByteArray := prog_6_method_64_code
def yX4_again : MethodName := ⟨RX4, "again", "(I)I"⟩
def RJ6 : String := "java/lang/Integer"
def TJ6 : u_T := fun k => match k with
  | _ => ("", "", "", false)
def tyJ6 : Nat → FieldType := fun k => match k with
  | _ => .int
abbrev wsJ60 : List Cond := u_ws RJ6 TJ6 0
theorem nmJ6 : ∀ a, a < 0 → ∀ b, b < 0 → a ≠ b → (TJ6 a).2.1 ≠ (TJ6 b).2.1 := by decide +kernel
theorem tyJ6_ok : ∀ k, k < 0 → parseFieldDescriptor (TJ6 k).2.2.1 = some (tyJ6 k) := by decide +kernel
abbrev cJ6_bitCount_0f7a4 : ByteArray := prog_7_method_49_code
def yJ6_bitCount_0f7a4 : MethodName := ⟨RJ6, "bitCount", "(I)I"⟩
def RJ13 : String := "java/lang/Long"
def TJ13 : u_T := fun k => match k with
  | _ => ("", "", "", false)
def tyJ13 : Nat → FieldType := fun k => match k with
  | _ => .int
abbrev wsJ130 : List Cond := u_ws RJ13 TJ13 0
theorem nmJ13 : ∀ a, a < 0 → ∀ b, b < 0 → a ≠ b → (TJ13 a).2.1 ≠ (TJ13 b).2.1 := by decide +kernel
theorem tyJ13_ok : ∀ k, k < 0 → parseFieldDescriptor (TJ13 k).2.2.1 = some (tyJ13 k) := by decide +kernel
abbrev cJ13_bitCount_95d88 : ByteArray := prog_8_method_50_code
def yJ13_bitCount_95d88 : MethodName := ⟨RJ13, "bitCount", "(J)I"⟩
def RJ9 : String := "java/lang/Math"
def TJ9 : u_T := fun k => match k with
  | _ => ("", "", "", false)
def tyJ9 : Nat → FieldType := fun k => match k with
  | _ => .int
abbrev wsJ90 : List Cond := u_ws RJ9 TJ9 0
theorem nmJ9 : ∀ a, a < 0 → ∀ b, b < 0 → a ≠ b → (TJ9 a).2.1 ≠ (TJ9 b).2.1 := by decide +kernel
theorem tyJ9_ok : ∀ k, k < 0 → parseFieldDescriptor (TJ9 k).2.2.1 = some (tyJ9 k) := by decide +kernel
abbrev cJ9_abs_0f7a4 : ByteArray := prog_9_method_59_code
def yJ9_abs_0f7a4 : MethodName := ⟨RJ9, "abs", "(I)I"⟩
def RL : String := "ArrestOrderLaw"
abbrev cL_law : ByteArray := code
def yL_law : MethodName := ⟨RL, "law", "([I)Z"⟩
def wsX1_init : List Cond := .code yX1_init cX1_init 1 none :: ([.methodLink RX1 3 objectInit, .instanceMethod objectInit, .code objectInit ⟨#[0xb1]⟩ 1 none])
def wsX0_init : List Cond := .code yX0_init cX0_init 2 none :: ([.methodLink RX0 3 objectInit, .instanceMethod objectInit, .code objectInit ⟨#[0xb1]⟩ 1 none, .classLink RX0 9 RX1, .fieldLink RX0 11 "ArrestOrder$Acts" "before" "[LArrestOrder$Standing;", .instantiable RX1 7, .initialized RX1, .instanceMethod yX1_init, .code yX1_init cX1_init 1 none, .methodLink RX1 3 objectInit] ++ wsX00 ++ wsX10)
def wsX1_copy : List Cond := .code yX1_copy cX1_copy 2 none :: ([.fieldLink RX1 9 "ArrestOrder$Standing" "people" "I", .fieldLink RX1 15 "ArrestOrder$Standing" "kinds" "I", .fieldLink RX1 18 "ArrestOrder$Standing" "deeds" "I", .fieldLink RX1 21 "ArrestOrder$Standing" "feeding" "J", .fieldLink RX1 25 "ArrestOrder$Standing" "large" "I", .fieldLink RX1 28 "ArrestOrder$Standing" "dead" "I", .fieldLink RX1 31 "ArrestOrder$Standing" "dayNumber" "I"] ++ wsX10)
def wsX0_remember : List Cond := .code yX0_remember cX0_remember 2 none :: ([.fieldLink RX0 11 "ArrestOrder$Acts" "before" "[LArrestOrder$Standing;", .fieldLink RX0 18 "ArrestOrder$Acts" "first" "I", .fieldLink RX0 22 "ArrestOrder$Acts" "count" "I", .instanceMethod yX1_copy, .initialized RX1, .selects RX1 yX1_copy yX1_copy, .code yX1_copy cX1_copy 2 none, .fieldLink RX1 9 "ArrestOrder$Standing" "people" "I", .fieldLink RX1 15 "ArrestOrder$Standing" "kinds" "I", .fieldLink RX1 18 "ArrestOrder$Standing" "deeds" "I", .fieldLink RX1 21 "ArrestOrder$Standing" "feeding" "J", .fieldLink RX1 25 "ArrestOrder$Standing" "large" "I", .fieldLink RX1 28 "ArrestOrder$Standing" "dead" "I", .fieldLink RX1 31 "ArrestOrder$Standing" "dayNumber" "I"] ++ wsX00 ++ wsX10)
def wsX0_takeBackInto : List Cond := .code yX0_takeBackInto cX0_takeBackInto 2 (some .boolean) :: ([.fieldLink RX0 22 "ArrestOrder$Acts" "count" "I", .fieldLink RX0 11 "ArrestOrder$Acts" "before" "[LArrestOrder$Standing;", .fieldLink RX0 18 "ArrestOrder$Acts" "first" "I", .instanceMethod yX1_copy, .initialized RX1, .selects RX1 yX1_copy yX1_copy, .code yX1_copy cX1_copy 2 none, .fieldLink RX1 9 "ArrestOrder$Standing" "people" "I", .fieldLink RX1 15 "ArrestOrder$Standing" "kinds" "I", .fieldLink RX1 18 "ArrestOrder$Standing" "deeds" "I", .fieldLink RX1 21 "ArrestOrder$Standing" "feeding" "J", .fieldLink RX1 25 "ArrestOrder$Standing" "large" "I", .fieldLink RX1 28 "ArrestOrder$Standing" "dead" "I", .fieldLink RX1 31 "ArrestOrder$Standing" "dayNumber" "I"] ++ wsX00 ++ wsX10)
def wsX1_clear : List Cond := .code yX1_clear cX1_clear 1 none :: ([.fieldLink RX1 9 "ArrestOrder$Standing" "people" "I", .fieldLink RX1 15 "ArrestOrder$Standing" "kinds" "I", .fieldLink RX1 18 "ArrestOrder$Standing" "deeds" "I", .fieldLink RX1 21 "ArrestOrder$Standing" "feeding" "J", .fieldLink RX1 25 "ArrestOrder$Standing" "large" "I", .fieldLink RX1 28 "ArrestOrder$Standing" "dead" "I", .fieldLink RX1 31 "ArrestOrder$Standing" "dayNumber" "I"] ++ wsX10)
def wsX3_bit : List Cond := .code yX3_bit cX3_bit 1 (some .int) :: ([])
def wsX1_add : List Cond := .code yX1_add cX1_add 4 none :: ([.fieldLink RX1 9 "ArrestOrder$Standing" "people" "I", .fieldLink RX1 15 "ArrestOrder$Standing" "kinds" "I", .fieldLink RX1 18 "ArrestOrder$Standing" "deeds" "I", .fieldLink RX1 25 "ArrestOrder$Standing" "large" "I", .static yX3_bit, .initialized RX3, .code yX3_bit cX3_bit 1 (some .int)] ++ wsX10)
def wsX1_has : List Cond := .code yX1_has cX1_has 2 (some .boolean) :: ([.fieldLink RX1 9 "ArrestOrder$Standing" "people" "I"] ++ wsX10)
def wsX1_deedOf : List Cond := .code yX1_deedOf cX1_deedOf 2 (some .int) :: ([.fieldLink RX1 18 "ArrestOrder$Standing" "deeds" "I"] ++ wsX10)
def wsX1_setDeed : List Cond := .code yX1_setDeed cX1_setDeed 3 none :: ([.fieldLink RX1 18 "ArrestOrder$Standing" "deeds" "I"] ++ wsX10)
def wsX1_kindOf : List Cond := .code yX1_kindOf cX1_kindOf 2 (some .int) :: ([.fieldLink RX1 15 "ArrestOrder$Standing" "kinds" "I"] ++ wsX10)
def wsX1_gradeOf : List Cond := .code yX1_gradeOf cX1_gradeOf 3 (some .int) :: ([.methodLink RX1 38 yX1_kindOf, .instanceMethod yX1_kindOf, .selects RX1 yX1_kindOf yX1_kindOf, .initialized RX1, .code yX1_kindOf cX1_kindOf 2 (some .int), .fieldLink RX1 15 "ArrestOrder$Standing" "kinds" "I", .methodLink RX1 41 yX1_deedOf, .instanceMethod yX1_deedOf, .selects RX1 yX1_deedOf yX1_deedOf, .code yX1_deedOf cX1_deedOf 2 (some .int), .fieldLink RX1 18 "ArrestOrder$Standing" "deeds" "I"] ++ wsX10)
def wsX3_pair : List Cond := .code yX3_pair cX3_pair 2 (some .long) :: ([])
def wsX1_feeds : List Cond := .code yX1_feeds cX1_feeds 3 (some .boolean) :: ([.fieldLink RX1 21 "ArrestOrder$Standing" "feeding" "J", .static yX3_pair, .initialized RX3, .code yX3_pair cX3_pair 2 (some .long)] ++ wsX10)
def wsX1_whomFeeds : List Cond := .code yX1_whomFeeds cX1_whomFeeds 4 (some .int) :: ([.fieldLink RX1 9 "ArrestOrder$Standing" "people" "I", .methodLink RX1 48 yX1_feeds, .instanceMethod yX1_feeds, .selects RX1 yX1_feeds yX1_feeds, .initialized RX1, .code yX1_feeds cX1_feeds 3 (some .boolean), .fieldLink RX1 21 "ArrestOrder$Standing" "feeding" "J", .static yX3_pair, .initialized RX3, .code yX3_pair cX3_pair 2 (some .long), .static yX3_bit, .code yX3_bit cX3_bit 1 (some .int)] ++ wsX10)
def wsJ13_bitCount_95d88 : List Cond := .code yJ13_bitCount_95d88 cJ13_bitCount_95d88 2 (some .int) :: ([.constantLong RJ13 314 (6148914691236517205), .constantLong RJ13 316 (3689348814741910323), .constantLong RJ13 318 (1085102592571150095)])
def wsX1_hasPairLeft : List Cond := .code yX1_hasPairLeft cX1_hasPairLeft 1 (some .boolean) :: ([.fieldLink RX1 21 "ArrestOrder$Standing" "feeding" "J", .fieldLink RX1 9 "ArrestOrder$Standing" "people" "I", .methodLink RX1 52 yJ13_bitCount_95d88, .static yJ13_bitCount_95d88, .initialized RJ13, .code yJ13_bitCount_95d88 cJ13_bitCount_95d88 2 (some .int), .constantLong RJ13 314 (6148914691236517205), .constantLong RJ13 316 (3689348814741910323), .constantLong RJ13 318 (1085102592571150095)] ++ wsX10)
def wsX3_without : List Cond := .code yX3_without cX3_without 2 (some .int) :: ([])
def wsX1_bury : List Cond := .code yX1_bury cX1_bury 2 none :: ([.fieldLink RX1 25 "ArrestOrder$Standing" "large" "I", .fieldLink RX1 28 "ArrestOrder$Standing" "dead" "I", .static yX3_without, .initialized RX3, .code yX3_without cX3_without 2 (some .int), .static yX3_bit, .code yX3_bit cX3_bit 1 (some .int)] ++ wsX10)
def wsX3_isIn : List Cond := .code yX3_isIn cX3_isIn 2 (some .boolean) :: ([])
def wsX1_isHidden : List Cond := .code yX1_isHidden cX1_isHidden 4 (some .boolean) :: ([.fieldLink RX1 21 "ArrestOrder$Standing" "feeding" "J", .methodLink RX1 38 yX1_kindOf, .instanceMethod yX1_kindOf, .selects RX1 yX1_kindOf yX1_kindOf, .initialized RX1, .code yX1_kindOf cX1_kindOf 2 (some .int), .fieldLink RX1 15 "ArrestOrder$Standing" "kinds" "I"] ++ wsX10)
def wsX1_mayBeTaken_r1 : List Cond := [Cond.fieldLink RX1 9 "ArrestOrder$Standing" "people" "I", Cond.static yX3_isIn, Cond.initialized RX3, Cond.code yX3_isIn cX3_isIn 2 (some .boolean), Cond.methodLink RX1 74 yX1_gradeOf, Cond.instanceMethod yX1_gradeOf, Cond.selects RX1 yX1_gradeOf yX1_gradeOf, Cond.initialized RX1, Cond.code yX1_gradeOf cX1_gradeOf 3 (some .int), Cond.methodLink RX1 38 yX1_kindOf, Cond.instanceMethod yX1_kindOf, Cond.selects RX1 yX1_kindOf yX1_kindOf, Cond.code yX1_kindOf cX1_kindOf 2 (some .int), Cond.fieldLink RX1 15 "ArrestOrder$Standing" "kinds" "I", Cond.methodLink RX1 41 yX1_deedOf, Cond.instanceMethod yX1_deedOf, Cond.selects RX1 yX1_deedOf yX1_deedOf, Cond.code yX1_deedOf cX1_deedOf 2 (some .int), Cond.fieldLink RX1 18 "ArrestOrder$Standing" "deeds" "I", Cond.methodLink RX1 68 yX1_isHidden, Cond.instanceMethod yX1_isHidden, Cond.selects RX1 yX1_isHidden yX1_isHidden, Cond.code yX1_isHidden cX1_isHidden 4 (some .boolean), Cond.fieldLink RX1 21 "ArrestOrder$Standing" "feeding" "J"]
def wsX1_mayBeTaken_r2 : List Cond := [Cond.static yX3_bit, Cond.code yX3_bit cX3_bit 1 (some .int)]
def wsX1_mayBeTaken : List Cond := .code yX1_mayBeTaken cX1_mayBeTaken 6 (some .int) :: ((wsX1_mayBeTaken_r1 ++ wsX1_mayBeTaken_r2) ++ wsX10)
def wsX3_leastOf : List Cond := .code yX3_leastOf cX3_leastOf 2 (some .int) :: ([.methodLink RX3 107 yX3_isIn, .static yX3_isIn, .initialized RX3, .code yX3_isIn cX3_isIn 2 (some .boolean)])
def wsX1_passDay_r1 : List Cond := [Cond.fieldLink RX1 25 "ArrestOrder$Standing" "large" "I", Cond.fieldLink RX1 31 "ArrestOrder$Standing" "dayNumber" "I", Cond.methodLink RX1 62 yX1_mayBeTaken, Cond.instanceMethod yX1_mayBeTaken, Cond.selects RX1 yX1_mayBeTaken yX1_mayBeTaken, Cond.initialized RX1, Cond.code yX1_mayBeTaken cX1_mayBeTaken 6 (some .int), Cond.fieldLink RX1 9 "ArrestOrder$Standing" "people" "I", Cond.static yX3_isIn, Cond.initialized RX3, Cond.code yX3_isIn cX3_isIn 2 (some .boolean), Cond.methodLink RX1 74 yX1_gradeOf, Cond.instanceMethod yX1_gradeOf, Cond.selects RX1 yX1_gradeOf yX1_gradeOf, Cond.code yX1_gradeOf cX1_gradeOf 3 (some .int), Cond.methodLink RX1 38 yX1_kindOf, Cond.instanceMethod yX1_kindOf, Cond.selects RX1 yX1_kindOf yX1_kindOf, Cond.code yX1_kindOf cX1_kindOf 2 (some .int), Cond.fieldLink RX1 15 "ArrestOrder$Standing" "kinds" "I", Cond.methodLink RX1 41 yX1_deedOf, Cond.instanceMethod yX1_deedOf, Cond.selects RX1 yX1_deedOf yX1_deedOf, Cond.code yX1_deedOf cX1_deedOf 2 (some .int)]
def wsX1_passDay_r2 : List Cond := [Cond.fieldLink RX1 18 "ArrestOrder$Standing" "deeds" "I", Cond.methodLink RX1 68 yX1_isHidden, Cond.instanceMethod yX1_isHidden, Cond.selects RX1 yX1_isHidden yX1_isHidden, Cond.code yX1_isHidden cX1_isHidden 4 (some .boolean), Cond.fieldLink RX1 21 "ArrestOrder$Standing" "feeding" "J", Cond.static yX3_bit, Cond.code yX3_bit cX3_bit 1 (some .int), Cond.static yX3_leastOf, Cond.code yX3_leastOf cX3_leastOf 2 (some .int), Cond.methodLink RX3 107 yX3_isIn, Cond.static yX3_without, Cond.code yX3_without cX3_without 2 (some .int)]
def wsX1_passDay : List Cond := .code yX1_passDay cX1_passDay 2 (some .int) :: ((wsX1_passDay_r1 ++ wsX1_passDay_r2) ++ wsX10)
def wsX1_hiddenOnes : List Cond := .code yX1_hiddenOnes cX1_hiddenOnes 3 (some .int) :: ([.fieldLink RX1 9 "ArrestOrder$Standing" "people" "I", .fieldLink RX1 25 "ArrestOrder$Standing" "large" "I", .methodLink RX1 68 yX1_isHidden, .instanceMethod yX1_isHidden, .selects RX1 yX1_isHidden yX1_isHidden, .initialized RX1, .code yX1_isHidden cX1_isHidden 4 (some .boolean), .fieldLink RX1 21 "ArrestOrder$Standing" "feeding" "J", .methodLink RX1 38 yX1_kindOf, .instanceMethod yX1_kindOf, .selects RX1 yX1_kindOf yX1_kindOf, .code yX1_kindOf cX1_kindOf 2 (some .int), .fieldLink RX1 15 "ArrestOrder$Standing" "kinds" "I", .static yX3_bit, .initialized RX3, .code yX3_bit cX3_bit 1 (some .int)] ++ wsX10)
def wsX1_fallRow_r1 : List Cond := [Cond.fieldLink RX1 25 "ArrestOrder$Standing" "large" "I", Cond.fieldLink RX1 9 "ArrestOrder$Standing" "people" "I", Cond.methodLink RX1 62 yX1_mayBeTaken, Cond.instanceMethod yX1_mayBeTaken, Cond.selects RX1 yX1_mayBeTaken yX1_mayBeTaken, Cond.initialized RX1, Cond.code yX1_mayBeTaken cX1_mayBeTaken 6 (some .int), Cond.static yX3_isIn, Cond.initialized RX3, Cond.code yX3_isIn cX3_isIn 2 (some .boolean), Cond.methodLink RX1 74 yX1_gradeOf, Cond.instanceMethod yX1_gradeOf, Cond.selects RX1 yX1_gradeOf yX1_gradeOf, Cond.code yX1_gradeOf cX1_gradeOf 3 (some .int), Cond.methodLink RX1 38 yX1_kindOf, Cond.instanceMethod yX1_kindOf, Cond.selects RX1 yX1_kindOf yX1_kindOf, Cond.code yX1_kindOf cX1_kindOf 2 (some .int), Cond.fieldLink RX1 15 "ArrestOrder$Standing" "kinds" "I", Cond.methodLink RX1 41 yX1_deedOf, Cond.instanceMethod yX1_deedOf, Cond.selects RX1 yX1_deedOf yX1_deedOf, Cond.code yX1_deedOf cX1_deedOf 2 (some .int), Cond.fieldLink RX1 18 "ArrestOrder$Standing" "deeds" "I"]
def wsX1_fallRow_r2 : List Cond := [Cond.methodLink RX1 68 yX1_isHidden, Cond.instanceMethod yX1_isHidden, Cond.selects RX1 yX1_isHidden yX1_isHidden, Cond.code yX1_isHidden cX1_isHidden 4 (some .boolean), Cond.fieldLink RX1 21 "ArrestOrder$Standing" "feeding" "J", Cond.static yX3_bit, Cond.code yX3_bit cX3_bit 1 (some .int), Cond.static yX3_leastOf, Cond.code yX3_leastOf cX3_leastOf 2 (some .int), Cond.methodLink RX3 107 yX3_isIn, Cond.static yX3_without, Cond.code yX3_without cX3_without 2 (some .int)]
def wsX1_fallRow : List Cond := .code yX1_fallRow cX1_fallRow 5 (some .int) :: ((wsX1_fallRow_r1 ++ wsX1_fallRow_r2) ++ wsX10)
def wsX1_placeOf_r1 : List Cond := [Cond.fieldLink RX1 25 "ArrestOrder$Standing" "large" "I", Cond.fieldLink RX1 9 "ArrestOrder$Standing" "people" "I", Cond.methodLink RX1 62 yX1_mayBeTaken, Cond.instanceMethod yX1_mayBeTaken, Cond.selects RX1 yX1_mayBeTaken yX1_mayBeTaken, Cond.initialized RX1, Cond.code yX1_mayBeTaken cX1_mayBeTaken 6 (some .int), Cond.static yX3_isIn, Cond.initialized RX3, Cond.code yX3_isIn cX3_isIn 2 (some .boolean), Cond.methodLink RX1 74 yX1_gradeOf, Cond.instanceMethod yX1_gradeOf, Cond.selects RX1 yX1_gradeOf yX1_gradeOf, Cond.code yX1_gradeOf cX1_gradeOf 3 (some .int), Cond.methodLink RX1 38 yX1_kindOf, Cond.instanceMethod yX1_kindOf, Cond.selects RX1 yX1_kindOf yX1_kindOf, Cond.code yX1_kindOf cX1_kindOf 2 (some .int), Cond.fieldLink RX1 15 "ArrestOrder$Standing" "kinds" "I", Cond.methodLink RX1 41 yX1_deedOf, Cond.instanceMethod yX1_deedOf, Cond.selects RX1 yX1_deedOf yX1_deedOf, Cond.code yX1_deedOf cX1_deedOf 2 (some .int), Cond.fieldLink RX1 18 "ArrestOrder$Standing" "deeds" "I"]
def wsX1_placeOf_r2 : List Cond := [Cond.methodLink RX1 68 yX1_isHidden, Cond.instanceMethod yX1_isHidden, Cond.selects RX1 yX1_isHidden yX1_isHidden, Cond.code yX1_isHidden cX1_isHidden 4 (some .boolean), Cond.fieldLink RX1 21 "ArrestOrder$Standing" "feeding" "J", Cond.static yX3_bit, Cond.code yX3_bit cX3_bit 1 (some .int), Cond.static yX3_leastOf, Cond.code yX3_leastOf cX3_leastOf 2 (some .int), Cond.methodLink RX3 107 yX3_isIn, Cond.static yX3_without, Cond.code yX3_without cX3_without 2 (some .int)]
def wsX1_placeOf : List Cond := .code yX1_placeOf cX1_placeOf 5 (some .int) :: ((wsX1_placeOf_r1 ++ wsX1_placeOf_r2) ++ wsX10)
def wsX1_worthOf_r1 : List Cond := [Cond.methodLink RX1 77 yX1_placeOf, Cond.instanceMethod yX1_placeOf, Cond.selects RX1 yX1_placeOf yX1_placeOf, Cond.initialized RX1, Cond.code yX1_placeOf cX1_placeOf 5 (some .int), Cond.fieldLink RX1 25 "ArrestOrder$Standing" "large" "I", Cond.fieldLink RX1 9 "ArrestOrder$Standing" "people" "I", Cond.methodLink RX1 62 yX1_mayBeTaken, Cond.instanceMethod yX1_mayBeTaken, Cond.selects RX1 yX1_mayBeTaken yX1_mayBeTaken, Cond.code yX1_mayBeTaken cX1_mayBeTaken 6 (some .int), Cond.static yX3_isIn, Cond.initialized RX3, Cond.code yX3_isIn cX3_isIn 2 (some .boolean), Cond.methodLink RX1 74 yX1_gradeOf, Cond.instanceMethod yX1_gradeOf, Cond.selects RX1 yX1_gradeOf yX1_gradeOf, Cond.code yX1_gradeOf cX1_gradeOf 3 (some .int), Cond.methodLink RX1 38 yX1_kindOf, Cond.instanceMethod yX1_kindOf, Cond.selects RX1 yX1_kindOf yX1_kindOf, Cond.code yX1_kindOf cX1_kindOf 2 (some .int), Cond.fieldLink RX1 15 "ArrestOrder$Standing" "kinds" "I", Cond.methodLink RX1 41 yX1_deedOf]
def wsX1_worthOf_r2 : List Cond := [Cond.instanceMethod yX1_deedOf, Cond.selects RX1 yX1_deedOf yX1_deedOf, Cond.code yX1_deedOf cX1_deedOf 2 (some .int), Cond.fieldLink RX1 18 "ArrestOrder$Standing" "deeds" "I", Cond.methodLink RX1 68 yX1_isHidden, Cond.instanceMethod yX1_isHidden, Cond.selects RX1 yX1_isHidden yX1_isHidden, Cond.code yX1_isHidden cX1_isHidden 4 (some .boolean), Cond.fieldLink RX1 21 "ArrestOrder$Standing" "feeding" "J", Cond.static yX3_bit, Cond.code yX3_bit cX3_bit 1 (some .int), Cond.static yX3_leastOf, Cond.code yX3_leastOf cX3_leastOf 2 (some .int), Cond.methodLink RX3 107 yX3_isIn, Cond.static yX3_without, Cond.code yX3_without cX3_without 2 (some .int)]
def wsX1_worthOf : List Cond := .code yX1_worthOf cX1_worthOf 3 (some .int) :: ((wsX1_worthOf_r1 ++ wsX1_worthOf_r2) ++ wsX10)
def wsX1_leftBehind_r1 : List Cond := [Cond.fieldLink RX1 9 "ArrestOrder$Standing" "people" "I", Cond.methodLink RX1 62 yX1_mayBeTaken, Cond.instanceMethod yX1_mayBeTaken, Cond.selects RX1 yX1_mayBeTaken yX1_mayBeTaken, Cond.initialized RX1, Cond.code yX1_mayBeTaken cX1_mayBeTaken 6 (some .int), Cond.static yX3_isIn, Cond.initialized RX3, Cond.code yX3_isIn cX3_isIn 2 (some .boolean), Cond.methodLink RX1 74 yX1_gradeOf, Cond.instanceMethod yX1_gradeOf, Cond.selects RX1 yX1_gradeOf yX1_gradeOf, Cond.code yX1_gradeOf cX1_gradeOf 3 (some .int), Cond.methodLink RX1 38 yX1_kindOf, Cond.instanceMethod yX1_kindOf, Cond.selects RX1 yX1_kindOf yX1_kindOf, Cond.code yX1_kindOf cX1_kindOf 2 (some .int), Cond.fieldLink RX1 15 "ArrestOrder$Standing" "kinds" "I", Cond.methodLink RX1 41 yX1_deedOf, Cond.instanceMethod yX1_deedOf, Cond.selects RX1 yX1_deedOf yX1_deedOf, Cond.code yX1_deedOf cX1_deedOf 2 (some .int), Cond.fieldLink RX1 18 "ArrestOrder$Standing" "deeds" "I", Cond.methodLink RX1 68 yX1_isHidden]
def wsX1_leftBehind_r2 : List Cond := [Cond.instanceMethod yX1_isHidden, Cond.selects RX1 yX1_isHidden yX1_isHidden, Cond.code yX1_isHidden cX1_isHidden 4 (some .boolean), Cond.fieldLink RX1 21 "ArrestOrder$Standing" "feeding" "J", Cond.static yX3_bit, Cond.code yX3_bit cX3_bit 1 (some .int)]
def wsX1_leftBehind : List Cond := .code yX1_leftBehind cX1_leftBehind 5 (some .int) :: ((wsX1_leftBehind_r1 ++ wsX1_leftBehind_r2) ++ wsX10)
def wsX1_isTaken_r1 : List Cond := [Cond.methodLink RX1 80 yX1_leftBehind, Cond.instanceMethod yX1_leftBehind, Cond.selects RX1 yX1_leftBehind yX1_leftBehind, Cond.initialized RX1, Cond.code yX1_leftBehind cX1_leftBehind 5 (some .int), Cond.fieldLink RX1 9 "ArrestOrder$Standing" "people" "I", Cond.methodLink RX1 62 yX1_mayBeTaken, Cond.instanceMethod yX1_mayBeTaken, Cond.selects RX1 yX1_mayBeTaken yX1_mayBeTaken, Cond.code yX1_mayBeTaken cX1_mayBeTaken 6 (some .int), Cond.static yX3_isIn, Cond.initialized RX3, Cond.code yX3_isIn cX3_isIn 2 (some .boolean), Cond.methodLink RX1 74 yX1_gradeOf, Cond.instanceMethod yX1_gradeOf, Cond.selects RX1 yX1_gradeOf yX1_gradeOf, Cond.code yX1_gradeOf cX1_gradeOf 3 (some .int), Cond.methodLink RX1 38 yX1_kindOf, Cond.instanceMethod yX1_kindOf, Cond.selects RX1 yX1_kindOf yX1_kindOf, Cond.code yX1_kindOf cX1_kindOf 2 (some .int), Cond.fieldLink RX1 15 "ArrestOrder$Standing" "kinds" "I", Cond.methodLink RX1 41 yX1_deedOf, Cond.instanceMethod yX1_deedOf]
def wsX1_isTaken_r2 : List Cond := [Cond.selects RX1 yX1_deedOf yX1_deedOf, Cond.code yX1_deedOf cX1_deedOf 2 (some .int), Cond.fieldLink RX1 18 "ArrestOrder$Standing" "deeds" "I", Cond.methodLink RX1 68 yX1_isHidden, Cond.instanceMethod yX1_isHidden, Cond.selects RX1 yX1_isHidden yX1_isHidden, Cond.code yX1_isHidden cX1_isHidden 4 (some .boolean), Cond.fieldLink RX1 21 "ArrestOrder$Standing" "feeding" "J", Cond.static yX3_bit, Cond.code yX3_bit cX3_bit 1 (some .int)]
def wsX1_isTaken : List Cond := .code yX1_isTaken cX1_isTaken 3 (some .boolean) :: ((wsX1_isTaken_r1 ++ wsX1_isTaken_r2) ++ wsX10)
def wsJ6_bitCount_0f7a4 : List Cond := .code yJ6_bitCount_0f7a4 cJ6_bitCount_0f7a4 1 (some .int) :: ([.constant RJ6 265 (1431655765), .constant RJ6 266 (858993459), .constant RJ6 267 (252645135)])
def wsX1_countTaken_r1 : List Cond := [Cond.methodLink RX1 83 yJ6_bitCount_0f7a4, Cond.static yJ6_bitCount_0f7a4, Cond.initialized RJ6, Cond.code yJ6_bitCount_0f7a4 cJ6_bitCount_0f7a4 1 (some .int), Cond.constant RJ6 265 (1431655765), Cond.constant RJ6 266 (858993459), Cond.constant RJ6 267 (252645135), Cond.methodLink RX1 80 yX1_leftBehind, Cond.instanceMethod yX1_leftBehind, Cond.selects RX1 yX1_leftBehind yX1_leftBehind, Cond.initialized RX1, Cond.code yX1_leftBehind cX1_leftBehind 5 (some .int), Cond.fieldLink RX1 9 "ArrestOrder$Standing" "people" "I", Cond.methodLink RX1 62 yX1_mayBeTaken, Cond.instanceMethod yX1_mayBeTaken, Cond.selects RX1 yX1_mayBeTaken yX1_mayBeTaken, Cond.code yX1_mayBeTaken cX1_mayBeTaken 6 (some .int), Cond.static yX3_isIn, Cond.initialized RX3, Cond.code yX3_isIn cX3_isIn 2 (some .boolean), Cond.methodLink RX1 74 yX1_gradeOf, Cond.instanceMethod yX1_gradeOf, Cond.selects RX1 yX1_gradeOf yX1_gradeOf, Cond.code yX1_gradeOf cX1_gradeOf 3 (some .int)]
end
section
def wsX1_countTaken_r2 : List Cond := [Cond.methodLink RX1 38 yX1_kindOf, Cond.instanceMethod yX1_kindOf, Cond.selects RX1 yX1_kindOf yX1_kindOf, Cond.code yX1_kindOf cX1_kindOf 2 (some .int), Cond.fieldLink RX1 15 "ArrestOrder$Standing" "kinds" "I", Cond.methodLink RX1 41 yX1_deedOf, Cond.instanceMethod yX1_deedOf, Cond.selects RX1 yX1_deedOf yX1_deedOf, Cond.code yX1_deedOf cX1_deedOf 2 (some .int), Cond.fieldLink RX1 18 "ArrestOrder$Standing" "deeds" "I", Cond.methodLink RX1 68 yX1_isHidden, Cond.instanceMethod yX1_isHidden, Cond.selects RX1 yX1_isHidden yX1_isHidden, Cond.code yX1_isHidden cX1_isHidden 4 (some .boolean), Cond.fieldLink RX1 21 "ArrestOrder$Standing" "feeding" "J", Cond.static yX3_bit, Cond.code yX3_bit cX3_bit 1 (some .int)]
def wsX1_countTaken : List Cond := .code yX1_countTaken cX1_countTaken 2 (some .int) :: ((wsX1_countTaken_r1 ++ wsX1_countTaken_r2) ++ wsX10)
def wsX2_init : List Cond := .code yX2_init cX2_init 1 none :: ([.methodLink RX2 3 objectInit, .instanceMethod objectInit, .code objectInit ⟨#[0xb1]⟩ 1 none, .arrayClass .int, .fieldLink RX2 9 "ArrestOrder$Text" "bytes" "[I"] ++ wsX20)
def wsX2_append : List Cond := .code yX2_append cX2_append 2 (some .boolean) :: ([.fieldLink RX2 15 "ArrestOrder$Text" "length" "I", .fieldLink RX2 9 "ArrestOrder$Text" "bytes" "[I"] ++ wsX20)
def wsX2_byteAt : List Cond := .code yX2_byteAt cX2_byteAt 2 (some .int) :: ([.fieldLink RX2 15 "ArrestOrder$Text" "length" "I", .fieldLink RX2 9 "ArrestOrder$Text" "bytes" "[I"] ++ wsX20)
def wsX2_figureAt : List Cond := .code yX2_figureAt cX2_figureAt 3 (some .int) :: ([.methodLink RX2 24 yX2_byteAt, .instanceMethod yX2_byteAt, .selects RX2 yX2_byteAt yX2_byteAt, .initialized RX2, .code yX2_byteAt cX2_byteAt 2 (some .int), .fieldLink RX2 15 "ArrestOrder$Text" "length" "I", .fieldLink RX2 9 "ArrestOrder$Text" "bytes" "[I"] ++ wsX20)
def wsX2_readPerson : List Cond := .code yX2_readPerson cX2_readPerson 5 (some .int) :: ([.methodLink RX2 45 yX2_figureAt, .instanceMethod yX2_figureAt, .selects RX2 yX2_figureAt yX2_figureAt, .initialized RX2, .code yX2_figureAt cX2_figureAt 3 (some .int), .methodLink RX2 24 yX2_byteAt, .instanceMethod yX2_byteAt, .selects RX2 yX2_byteAt yX2_byteAt, .code yX2_byteAt cX2_byteAt 2 (some .int), .fieldLink RX2 15 "ArrestOrder$Text" "length" "I", .fieldLink RX2 9 "ArrestOrder$Text" "bytes" "[I", .instanceMethod yX1_add, .initialized RX1, .selects RX1 yX1_add yX1_add, .code yX1_add cX1_add 4 none, .fieldLink RX1 9 "ArrestOrder$Standing" "people" "I", .fieldLink RX1 15 "ArrestOrder$Standing" "kinds" "I", .fieldLink RX1 18 "ArrestOrder$Standing" "deeds" "I", .fieldLink RX1 25 "ArrestOrder$Standing" "large" "I", .static yX3_bit, .initialized RX3, .code yX3_bit cX3_bit 1 (some .int)] ++ wsX20 ++ wsX10)
def wsX2_readPair_r1 : List Cond := [Cond.methodLink RX2 45 yX2_figureAt, Cond.instanceMethod yX2_figureAt, Cond.selects RX2 yX2_figureAt yX2_figureAt, Cond.initialized RX2, Cond.code yX2_figureAt cX2_figureAt 3 (some .int), Cond.methodLink RX2 24 yX2_byteAt, Cond.instanceMethod yX2_byteAt, Cond.selects RX2 yX2_byteAt yX2_byteAt, Cond.code yX2_byteAt cX2_byteAt 2 (some .int), Cond.fieldLink RX2 15 "ArrestOrder$Text" "length" "I", Cond.fieldLink RX2 9 "ArrestOrder$Text" "bytes" "[I", Cond.instanceMethod yX1_has, Cond.initialized RX1, Cond.selects RX1 yX1_has yX1_has, Cond.code yX1_has cX1_has 2 (some .boolean), Cond.fieldLink RX1 9 "ArrestOrder$Standing" "people" "I", Cond.instanceMethod yX1_whomFeeds, Cond.selects RX1 yX1_whomFeeds yX1_whomFeeds, Cond.code yX1_whomFeeds cX1_whomFeeds 4 (some .int), Cond.methodLink RX1 48 yX1_feeds, Cond.instanceMethod yX1_feeds, Cond.selects RX1 yX1_feeds yX1_feeds, Cond.code yX1_feeds cX1_feeds 3 (some .boolean), Cond.fieldLink RX1 21 "ArrestOrder$Standing" "feeding" "J"]
def wsX2_readPair_r2 : List Cond := [Cond.static yX3_pair, Cond.initialized RX3, Cond.code yX3_pair cX3_pair 2 (some .long), Cond.static yX3_bit, Cond.code yX3_bit cX3_bit 1 (some .int), Cond.methodLink RX2 59 yJ6_bitCount_0f7a4, Cond.static yJ6_bitCount_0f7a4, Cond.initialized RJ6, Cond.code yJ6_bitCount_0f7a4 cJ6_bitCount_0f7a4 1 (some .int), Cond.constant RJ6 265 (1431655765), Cond.constant RJ6 266 (858993459), Cond.constant RJ6 267 (252645135)]
def wsX2_readPair : List Cond := .code yX2_readPair cX2_readPair 5 (some .int) :: ((wsX2_readPair_r1 ++ wsX2_readPair_r2) ++ wsX10 ++ wsX20)
def wsX2_readPart_r1 : List Cond := [Cond.methodLink RX2 24 yX2_byteAt, Cond.instanceMethod yX2_byteAt, Cond.selects RX2 yX2_byteAt yX2_byteAt, Cond.initialized RX2, Cond.code yX2_byteAt cX2_byteAt 2 (some .int), Cond.fieldLink RX2 15 "ArrestOrder$Text" "length" "I", Cond.fieldLink RX2 9 "ArrestOrder$Text" "bytes" "[I", Cond.methodLink RX2 35 yX2_readPerson, Cond.instanceMethod yX2_readPerson, Cond.selects RX2 yX2_readPerson yX2_readPerson, Cond.code yX2_readPerson cX2_readPerson 5 (some .int), Cond.methodLink RX2 45 yX2_figureAt, Cond.instanceMethod yX2_figureAt, Cond.selects RX2 yX2_figureAt yX2_figureAt, Cond.code yX2_figureAt cX2_figureAt 3 (some .int), Cond.instanceMethod yX1_add, Cond.initialized RX1, Cond.selects RX1 yX1_add yX1_add, Cond.code yX1_add cX1_add 4 none, Cond.fieldLink RX1 9 "ArrestOrder$Standing" "people" "I", Cond.fieldLink RX1 15 "ArrestOrder$Standing" "kinds" "I", Cond.fieldLink RX1 18 "ArrestOrder$Standing" "deeds" "I", Cond.fieldLink RX1 25 "ArrestOrder$Standing" "large" "I", Cond.static yX3_bit]
def wsX2_readPart_r2 : List Cond := [Cond.initialized RX3, Cond.code yX3_bit cX3_bit 1 (some .int), Cond.instanceMethod yX1_hasPairLeft, Cond.selects RX1 yX1_hasPairLeft yX1_hasPairLeft, Cond.code yX1_hasPairLeft cX1_hasPairLeft 1 (some .boolean), Cond.fieldLink RX1 21 "ArrestOrder$Standing" "feeding" "J", Cond.methodLink RX1 52 yJ13_bitCount_95d88, Cond.static yJ13_bitCount_95d88, Cond.initialized RJ13, Cond.code yJ13_bitCount_95d88 cJ13_bitCount_95d88 2 (some .int), Cond.constantLong RJ13 314 (6148914691236517205), Cond.constantLong RJ13 316 (3689348814741910323), Cond.constantLong RJ13 318 (1085102592571150095), Cond.methodLink RX2 42 yX2_readPair, Cond.instanceMethod yX2_readPair, Cond.selects RX2 yX2_readPair yX2_readPair, Cond.code yX2_readPair cX2_readPair 5 (some .int), Cond.instanceMethod yX1_has, Cond.selects RX1 yX1_has yX1_has, Cond.code yX1_has cX1_has 2 (some .boolean), Cond.instanceMethod yX1_whomFeeds, Cond.selects RX1 yX1_whomFeeds yX1_whomFeeds, Cond.code yX1_whomFeeds cX1_whomFeeds 4 (some .int), Cond.methodLink RX1 48 yX1_feeds]
def wsX2_readPart_r3 : List Cond := [Cond.instanceMethod yX1_feeds, Cond.selects RX1 yX1_feeds yX1_feeds, Cond.code yX1_feeds cX1_feeds 3 (some .boolean), Cond.static yX3_pair, Cond.code yX3_pair cX3_pair 2 (some .long), Cond.methodLink RX2 59 yJ6_bitCount_0f7a4, Cond.static yJ6_bitCount_0f7a4, Cond.initialized RJ6, Cond.code yJ6_bitCount_0f7a4 cJ6_bitCount_0f7a4 1 (some .int), Cond.constant RJ6 265 (1431655765), Cond.constant RJ6 266 (858993459), Cond.constant RJ6 267 (252645135)]
def wsX2_readPart : List Cond := .code yX2_readPart cX2_readPart 3 (some .int) :: ((wsX2_readPart_r1 ++ (wsX2_readPart_r2 ++ wsX2_readPart_r3)) ++ wsX10 ++ wsX20)
def wsX2_readInto_r1 : List Cond := [Cond.fieldLink RX2 15 "ArrestOrder$Text" "length" "I", Cond.instanceMethod yX1_clear, Cond.initialized RX1, Cond.selects RX1 yX1_clear yX1_clear, Cond.code yX1_clear cX1_clear 1 none, Cond.fieldLink RX1 9 "ArrestOrder$Standing" "people" "I", Cond.fieldLink RX1 15 "ArrestOrder$Standing" "kinds" "I", Cond.fieldLink RX1 18 "ArrestOrder$Standing" "deeds" "I", Cond.fieldLink RX1 21 "ArrestOrder$Standing" "feeding" "J", Cond.fieldLink RX1 25 "ArrestOrder$Standing" "large" "I", Cond.fieldLink RX1 28 "ArrestOrder$Standing" "dead" "I", Cond.fieldLink RX1 31 "ArrestOrder$Standing" "dayNumber" "I", Cond.methodLink RX2 24 yX2_byteAt, Cond.instanceMethod yX2_byteAt, Cond.selects RX2 yX2_byteAt yX2_byteAt, Cond.initialized RX2, Cond.code yX2_byteAt cX2_byteAt 2 (some .int), Cond.fieldLink RX2 9 "ArrestOrder$Text" "bytes" "[I", Cond.methodLink RX2 28 yX2_readPart, Cond.instanceMethod yX2_readPart, Cond.selects RX2 yX2_readPart yX2_readPart, Cond.code yX2_readPart cX2_readPart 3 (some .int), Cond.methodLink RX2 35 yX2_readPerson, Cond.instanceMethod yX2_readPerson]
def wsX2_readInto_r2 : List Cond := [Cond.selects RX2 yX2_readPerson yX2_readPerson, Cond.code yX2_readPerson cX2_readPerson 5 (some .int), Cond.methodLink RX2 45 yX2_figureAt, Cond.instanceMethod yX2_figureAt, Cond.selects RX2 yX2_figureAt yX2_figureAt, Cond.code yX2_figureAt cX2_figureAt 3 (some .int), Cond.instanceMethod yX1_add, Cond.selects RX1 yX1_add yX1_add, Cond.code yX1_add cX1_add 4 none, Cond.static yX3_bit, Cond.initialized RX3, Cond.code yX3_bit cX3_bit 1 (some .int), Cond.instanceMethod yX1_hasPairLeft, Cond.selects RX1 yX1_hasPairLeft yX1_hasPairLeft, Cond.code yX1_hasPairLeft cX1_hasPairLeft 1 (some .boolean), Cond.methodLink RX1 52 yJ13_bitCount_95d88, Cond.static yJ13_bitCount_95d88, Cond.initialized RJ13, Cond.code yJ13_bitCount_95d88 cJ13_bitCount_95d88 2 (some .int), Cond.constantLong RJ13 314 (6148914691236517205), Cond.constantLong RJ13 316 (3689348814741910323), Cond.constantLong RJ13 318 (1085102592571150095), Cond.methodLink RX2 42 yX2_readPair, Cond.instanceMethod yX2_readPair]
def wsX2_readInto_r3 : List Cond := [Cond.selects RX2 yX2_readPair yX2_readPair, Cond.code yX2_readPair cX2_readPair 5 (some .int), Cond.instanceMethod yX1_has, Cond.selects RX1 yX1_has yX1_has, Cond.code yX1_has cX1_has 2 (some .boolean), Cond.instanceMethod yX1_whomFeeds, Cond.selects RX1 yX1_whomFeeds yX1_whomFeeds, Cond.code yX1_whomFeeds cX1_whomFeeds 4 (some .int), Cond.methodLink RX1 48 yX1_feeds, Cond.instanceMethod yX1_feeds, Cond.selects RX1 yX1_feeds yX1_feeds, Cond.code yX1_feeds cX1_feeds 3 (some .boolean), Cond.static yX3_pair, Cond.code yX3_pair cX3_pair 2 (some .long), Cond.methodLink RX2 59 yJ6_bitCount_0f7a4, Cond.static yJ6_bitCount_0f7a4, Cond.initialized RJ6, Cond.code yJ6_bitCount_0f7a4 cJ6_bitCount_0f7a4 1 (some .int), Cond.constant RJ6 265 (1431655765), Cond.constant RJ6 266 (858993459), Cond.constant RJ6 267 (252645135)]
def wsX2_readInto : List Cond := .code yX2_readInto cX2_readInto 4 (some .int) :: ((wsX2_readInto_r1 ++ (wsX2_readInto_r2 ++ wsX2_readInto_r3)) ++ wsX20 ++ wsX10)
def wsX3_init_r1 : List Cond := [Cond.methodLink RX3 3 objectInit, Cond.instanceMethod objectInit, Cond.code objectInit ⟨#[0xb1]⟩ 1 none, Cond.classLink RX3 9 RX2, Cond.instantiable RX2 2, Cond.initialized RX2, Cond.fieldLink RX3 12 "ArrestOrder" "text" "LArrestOrder$Text;", Cond.classLink RX3 16 RX1, Cond.instantiable RX1 7, Cond.initialized RX1, Cond.fieldLink RX3 19 "ArrestOrder" "now" "LArrestOrder$Standing;", Cond.fieldLink RX3 23 "ArrestOrder" "trial" "LArrestOrder$Standing;", Cond.classLink RX3 26 RX0, Cond.instantiable RX0 3, Cond.initialized RX0, Cond.fieldLink RX3 29 "ArrestOrder" "acts" "LArrestOrder$Acts;", Cond.fieldLink RX3 33 "ArrestOrder" "slots" "[LArrestOrder$Standing;", Cond.arrayClass .int, Cond.fieldLink RX3 37 "ArrestOrder" "seen" "[I", Cond.fieldLink RX3 41 "ArrestOrder" "oneHas" "[I", Cond.fieldLink RX3 44 "ArrestOrder" "otherHas" "[I", Cond.instanceMethod yX2_init, Cond.code yX2_init cX2_init 1 none, Cond.methodLink RX2 3 objectInit]
def wsX3_init_r2 : List Cond := [Cond.fieldLink RX2 9 "ArrestOrder$Text" "bytes" "[I", Cond.instanceMethod yX1_init, Cond.code yX1_init cX1_init 1 none, Cond.methodLink RX1 3 objectInit, Cond.instanceMethod yX0_init, Cond.code yX0_init cX0_init 2 none, Cond.methodLink RX0 3 objectInit, Cond.classLink RX0 9 RX1, Cond.fieldLink RX0 11 "ArrestOrder$Acts" "before" "[LArrestOrder$Standing;"]
def wsX3_init : List Cond := .code yX3_init cX3_init 2 none :: ((wsX3_init_r1 ++ wsX3_init_r2) ++ wsX20 ++ wsX30 ++ wsX10 ++ wsX00)
def wsX3_write : List Cond := .code yX3_write cX3_write 2 (some .int) :: ([.fieldLink RX3 12 "ArrestOrder" "text" "LArrestOrder$Text;", .instanceMethod yX2_append, .initialized RX2, .selects RX2 yX2_append yX2_append, .code yX2_append cX2_append 2 (some .boolean), .fieldLink RX2 15 "ArrestOrder$Text" "length" "I", .fieldLink RX2 9 "ArrestOrder$Text" "bytes" "[I"] ++ wsX30 ++ wsX20)
def wsX3_wipe : List Cond := .code yX3_wipe cX3_wipe 2 (some .int) :: ([.fieldLink RX3 12 "ArrestOrder" "text" "LArrestOrder$Text;"] ++ wsX30 ++ wsX20)
def wsX3_fault_r1 : List Cond := [Cond.fieldLink RX3 12 "ArrestOrder" "text" "LArrestOrder$Text;", Cond.fieldLink RX3 23 "ArrestOrder" "trial" "LArrestOrder$Standing;", Cond.instanceMethod yX2_readInto, Cond.initialized RX2, Cond.selects RX2 yX2_readInto yX2_readInto, Cond.code yX2_readInto cX2_readInto 4 (some .int), Cond.fieldLink RX2 15 "ArrestOrder$Text" "length" "I", Cond.instanceMethod yX1_clear, Cond.initialized RX1, Cond.selects RX1 yX1_clear yX1_clear, Cond.code yX1_clear cX1_clear 1 none, Cond.fieldLink RX1 9 "ArrestOrder$Standing" "people" "I", Cond.fieldLink RX1 15 "ArrestOrder$Standing" "kinds" "I", Cond.fieldLink RX1 18 "ArrestOrder$Standing" "deeds" "I", Cond.fieldLink RX1 21 "ArrestOrder$Standing" "feeding" "J", Cond.fieldLink RX1 25 "ArrestOrder$Standing" "large" "I", Cond.fieldLink RX1 28 "ArrestOrder$Standing" "dead" "I", Cond.fieldLink RX1 31 "ArrestOrder$Standing" "dayNumber" "I", Cond.methodLink RX2 24 yX2_byteAt, Cond.instanceMethod yX2_byteAt, Cond.selects RX2 yX2_byteAt yX2_byteAt, Cond.code yX2_byteAt cX2_byteAt 2 (some .int), Cond.fieldLink RX2 9 "ArrestOrder$Text" "bytes" "[I", Cond.methodLink RX2 28 yX2_readPart]
def wsX3_fault_r2 : List Cond := [Cond.instanceMethod yX2_readPart, Cond.selects RX2 yX2_readPart yX2_readPart, Cond.code yX2_readPart cX2_readPart 3 (some .int), Cond.methodLink RX2 35 yX2_readPerson, Cond.instanceMethod yX2_readPerson, Cond.selects RX2 yX2_readPerson yX2_readPerson, Cond.code yX2_readPerson cX2_readPerson 5 (some .int), Cond.methodLink RX2 45 yX2_figureAt, Cond.instanceMethod yX2_figureAt, Cond.selects RX2 yX2_figureAt yX2_figureAt, Cond.code yX2_figureAt cX2_figureAt 3 (some .int), Cond.instanceMethod yX1_add, Cond.selects RX1 yX1_add yX1_add, Cond.code yX1_add cX1_add 4 none, Cond.static yX3_bit, Cond.initialized RX3, Cond.code yX3_bit cX3_bit 1 (some .int), Cond.instanceMethod yX1_hasPairLeft, Cond.selects RX1 yX1_hasPairLeft yX1_hasPairLeft, Cond.code yX1_hasPairLeft cX1_hasPairLeft 1 (some .boolean), Cond.methodLink RX1 52 yJ13_bitCount_95d88, Cond.static yJ13_bitCount_95d88, Cond.initialized RJ13, Cond.code yJ13_bitCount_95d88 cJ13_bitCount_95d88 2 (some .int)]
def wsX3_fault_r3 : List Cond := [Cond.constantLong RJ13 314 (6148914691236517205), Cond.constantLong RJ13 316 (3689348814741910323), Cond.constantLong RJ13 318 (1085102592571150095), Cond.methodLink RX2 42 yX2_readPair, Cond.instanceMethod yX2_readPair, Cond.selects RX2 yX2_readPair yX2_readPair, Cond.code yX2_readPair cX2_readPair 5 (some .int), Cond.instanceMethod yX1_has, Cond.selects RX1 yX1_has yX1_has, Cond.code yX1_has cX1_has 2 (some .boolean), Cond.instanceMethod yX1_whomFeeds, Cond.selects RX1 yX1_whomFeeds yX1_whomFeeds, Cond.code yX1_whomFeeds cX1_whomFeeds 4 (some .int), Cond.methodLink RX1 48 yX1_feeds, Cond.instanceMethod yX1_feeds, Cond.selects RX1 yX1_feeds yX1_feeds, Cond.code yX1_feeds cX1_feeds 3 (some .boolean), Cond.static yX3_pair, Cond.code yX3_pair cX3_pair 2 (some .long), Cond.methodLink RX2 59 yJ6_bitCount_0f7a4, Cond.static yJ6_bitCount_0f7a4, Cond.initialized RJ6, Cond.code yJ6_bitCount_0f7a4 cJ6_bitCount_0f7a4 1 (some .int), Cond.constant RJ6 265 (1431655765)]
def wsX3_fault_r4 : List Cond := [Cond.constant RJ6 266 (858993459), Cond.constant RJ6 267 (252645135)]
def wsX3_fault : List Cond := .code yX3_fault cX3_fault 1 (some .int) :: ((wsX3_fault_r1 ++ (wsX3_fault_r2 ++ (wsX3_fault_r3 ++ wsX3_fault_r4))) ++ wsX30 ++ wsX20 ++ wsX10)
def wsX3_county_r1 : List Cond := [Cond.fieldLink RX3 12 "ArrestOrder" "text" "LArrestOrder$Text;", Cond.fieldLink RX3 23 "ArrestOrder" "trial" "LArrestOrder$Standing;", Cond.fieldLink RX3 19 "ArrestOrder" "now" "LArrestOrder$Standing;", Cond.fieldLink RX3 29 "ArrestOrder" "acts" "LArrestOrder$Acts;", Cond.fieldLink RX3 66 "ArrestOrder" "keptSlots" "I", Cond.instanceMethod yX2_readInto, Cond.initialized RX2, Cond.selects RX2 yX2_readInto yX2_readInto, Cond.code yX2_readInto cX2_readInto 4 (some .int), Cond.fieldLink RX2 15 "ArrestOrder$Text" "length" "I", Cond.instanceMethod yX1_clear, Cond.initialized RX1, Cond.selects RX1 yX1_clear yX1_clear, Cond.code yX1_clear cX1_clear 1 none, Cond.fieldLink RX1 9 "ArrestOrder$Standing" "people" "I", Cond.fieldLink RX1 15 "ArrestOrder$Standing" "kinds" "I", Cond.fieldLink RX1 18 "ArrestOrder$Standing" "deeds" "I", Cond.fieldLink RX1 21 "ArrestOrder$Standing" "feeding" "J", Cond.fieldLink RX1 25 "ArrestOrder$Standing" "large" "I", Cond.fieldLink RX1 28 "ArrestOrder$Standing" "dead" "I", Cond.fieldLink RX1 31 "ArrestOrder$Standing" "dayNumber" "I", Cond.methodLink RX2 24 yX2_byteAt, Cond.instanceMethod yX2_byteAt, Cond.selects RX2 yX2_byteAt yX2_byteAt]
def wsX3_county_r2 : List Cond := [Cond.code yX2_byteAt cX2_byteAt 2 (some .int), Cond.fieldLink RX2 9 "ArrestOrder$Text" "bytes" "[I", Cond.methodLink RX2 28 yX2_readPart, Cond.instanceMethod yX2_readPart, Cond.selects RX2 yX2_readPart yX2_readPart, Cond.code yX2_readPart cX2_readPart 3 (some .int), Cond.methodLink RX2 35 yX2_readPerson, Cond.instanceMethod yX2_readPerson, Cond.selects RX2 yX2_readPerson yX2_readPerson, Cond.code yX2_readPerson cX2_readPerson 5 (some .int), Cond.methodLink RX2 45 yX2_figureAt, Cond.instanceMethod yX2_figureAt, Cond.selects RX2 yX2_figureAt yX2_figureAt, Cond.code yX2_figureAt cX2_figureAt 3 (some .int), Cond.instanceMethod yX1_add, Cond.selects RX1 yX1_add yX1_add, Cond.code yX1_add cX1_add 4 none, Cond.static yX3_bit, Cond.initialized RX3, Cond.code yX3_bit cX3_bit 1 (some .int), Cond.instanceMethod yX1_hasPairLeft, Cond.selects RX1 yX1_hasPairLeft yX1_hasPairLeft, Cond.code yX1_hasPairLeft cX1_hasPairLeft 1 (some .boolean), Cond.methodLink RX1 52 yJ13_bitCount_95d88]
def wsX3_county_r3 : List Cond := [Cond.static yJ13_bitCount_95d88, Cond.initialized RJ13, Cond.code yJ13_bitCount_95d88 cJ13_bitCount_95d88 2 (some .int), Cond.constantLong RJ13 314 (6148914691236517205), Cond.constantLong RJ13 316 (3689348814741910323), Cond.constantLong RJ13 318 (1085102592571150095), Cond.methodLink RX2 42 yX2_readPair, Cond.instanceMethod yX2_readPair, Cond.selects RX2 yX2_readPair yX2_readPair, Cond.code yX2_readPair cX2_readPair 5 (some .int), Cond.instanceMethod yX1_has, Cond.selects RX1 yX1_has yX1_has, Cond.code yX1_has cX1_has 2 (some .boolean), Cond.instanceMethod yX1_whomFeeds, Cond.selects RX1 yX1_whomFeeds yX1_whomFeeds, Cond.code yX1_whomFeeds cX1_whomFeeds 4 (some .int), Cond.methodLink RX1 48 yX1_feeds, Cond.instanceMethod yX1_feeds, Cond.selects RX1 yX1_feeds yX1_feeds, Cond.code yX1_feeds cX1_feeds 3 (some .boolean), Cond.static yX3_pair, Cond.code yX3_pair cX3_pair 2 (some .long), Cond.methodLink RX2 59 yJ6_bitCount_0f7a4, Cond.static yJ6_bitCount_0f7a4]
def wsX3_county_r4 : List Cond := [Cond.initialized RJ6, Cond.code yJ6_bitCount_0f7a4 cJ6_bitCount_0f7a4 1 (some .int), Cond.constant RJ6 265 (1431655765), Cond.constant RJ6 266 (858993459), Cond.constant RJ6 267 (252645135), Cond.instanceMethod yX1_copy, Cond.selects RX1 yX1_copy yX1_copy, Cond.code yX1_copy cX1_copy 2 none]
def wsX3_county : List Cond := .code yX3_county cX3_county 1 (some .int) :: ((wsX3_county_r1 ++ (wsX3_county_r2 ++ (wsX3_county_r3 ++ wsX3_county_r4))) ++ wsX30 ++ wsX00 ++ wsX10 ++ wsX20)
def wsX3_about_r1 : List Cond := [Cond.fieldLink RX3 19 "ArrestOrder" "now" "LArrestOrder$Standing;", Cond.fieldLink RX3 29 "ArrestOrder" "acts" "LArrestOrder$Acts;", Cond.fieldLink RX3 89 "ArrestOrder" "seenCount" "I", Cond.fieldLink RX3 12 "ArrestOrder" "text" "LArrestOrder$Text;", Cond.instanceMethod yX1_mayBeTaken, Cond.initialized RX1, Cond.selects RX1 yX1_mayBeTaken yX1_mayBeTaken, Cond.code yX1_mayBeTaken cX1_mayBeTaken 6 (some .int), Cond.fieldLink RX1 9 "ArrestOrder$Standing" "people" "I", Cond.static yX3_isIn, Cond.initialized RX3, Cond.code yX3_isIn cX3_isIn 2 (some .boolean), Cond.methodLink RX1 74 yX1_gradeOf, Cond.instanceMethod yX1_gradeOf, Cond.selects RX1 yX1_gradeOf yX1_gradeOf, Cond.code yX1_gradeOf cX1_gradeOf 3 (some .int), Cond.methodLink RX1 38 yX1_kindOf, Cond.instanceMethod yX1_kindOf, Cond.selects RX1 yX1_kindOf yX1_kindOf, Cond.code yX1_kindOf cX1_kindOf 2 (some .int), Cond.fieldLink RX1 15 "ArrestOrder$Standing" "kinds" "I", Cond.methodLink RX1 41 yX1_deedOf, Cond.instanceMethod yX1_deedOf, Cond.selects RX1 yX1_deedOf yX1_deedOf]
def wsX3_about_r2 : List Cond := [Cond.code yX1_deedOf cX1_deedOf 2 (some .int), Cond.fieldLink RX1 18 "ArrestOrder$Standing" "deeds" "I", Cond.methodLink RX1 68 yX1_isHidden, Cond.instanceMethod yX1_isHidden, Cond.selects RX1 yX1_isHidden yX1_isHidden, Cond.code yX1_isHidden cX1_isHidden 4 (some .boolean), Cond.fieldLink RX1 21 "ArrestOrder$Standing" "feeding" "J", Cond.static yX3_bit, Cond.code yX3_bit cX3_bit 1 (some .int), Cond.instanceMethod yX1_hiddenOnes, Cond.selects RX1 yX1_hiddenOnes yX1_hiddenOnes, Cond.code yX1_hiddenOnes cX1_hiddenOnes 3 (some .int), Cond.fieldLink RX1 25 "ArrestOrder$Standing" "large" "I"]
def wsX3_about : List Cond := .code yX3_about cX3_about 2 (some .int) :: ((wsX3_about_r1 ++ wsX3_about_r2) ++ wsX30 ++ wsX10 ++ wsX00 ++ wsX20)
def wsX3_person_r1 : List Cond := [Cond.fieldLink RX3 19 "ArrestOrder" "now" "LArrestOrder$Standing;", Cond.instanceMethod yX1_has, Cond.initialized RX1, Cond.selects RX1 yX1_has yX1_has, Cond.code yX1_has cX1_has 2 (some .boolean), Cond.fieldLink RX1 9 "ArrestOrder$Standing" "people" "I", Cond.instanceMethod yX1_deedOf, Cond.selects RX1 yX1_deedOf yX1_deedOf, Cond.code yX1_deedOf cX1_deedOf 2 (some .int), Cond.fieldLink RX1 18 "ArrestOrder$Standing" "deeds" "I", Cond.instanceMethod yX1_kindOf, Cond.selects RX1 yX1_kindOf yX1_kindOf, Cond.code yX1_kindOf cX1_kindOf 2 (some .int), Cond.fieldLink RX1 15 "ArrestOrder$Standing" "kinds" "I", Cond.instanceMethod yX1_gradeOf, Cond.selects RX1 yX1_gradeOf yX1_gradeOf, Cond.code yX1_gradeOf cX1_gradeOf 3 (some .int), Cond.methodLink RX1 38 yX1_kindOf, Cond.methodLink RX1 41 yX1_deedOf, Cond.instanceMethod yX1_whomFeeds, Cond.selects RX1 yX1_whomFeeds yX1_whomFeeds, Cond.code yX1_whomFeeds cX1_whomFeeds 4 (some .int), Cond.methodLink RX1 48 yX1_feeds, Cond.instanceMethod yX1_feeds]
def wsX3_person_r2 : List Cond := [Cond.selects RX1 yX1_feeds yX1_feeds, Cond.code yX1_feeds cX1_feeds 3 (some .boolean), Cond.fieldLink RX1 21 "ArrestOrder$Standing" "feeding" "J", Cond.static yX3_pair, Cond.initialized RX3, Cond.code yX3_pair cX3_pair 2 (some .long), Cond.static yX3_bit, Cond.code yX3_bit cX3_bit 1 (some .int)]
def wsX3_person : List Cond := .code yX3_person cX3_person 3 (some .int) :: ((wsX3_person_r1 ++ wsX3_person_r2) ++ wsX30 ++ wsX10)
def wsX3_take_r1 : List Cond := [Cond.fieldLink RX3 19 "ArrestOrder" "now" "LArrestOrder$Standing;", Cond.fieldLink RX3 29 "ArrestOrder" "acts" "LArrestOrder$Acts;", Cond.instanceMethod yX1_has, Cond.initialized RX1, Cond.selects RX1 yX1_has yX1_has, Cond.code yX1_has cX1_has 2 (some .boolean), Cond.fieldLink RX1 9 "ArrestOrder$Standing" "people" "I", Cond.instanceMethod yX1_mayBeTaken, Cond.selects RX1 yX1_mayBeTaken yX1_mayBeTaken, Cond.code yX1_mayBeTaken cX1_mayBeTaken 6 (some .int), Cond.static yX3_isIn, Cond.initialized RX3, Cond.code yX3_isIn cX3_isIn 2 (some .boolean), Cond.methodLink RX1 74 yX1_gradeOf, Cond.instanceMethod yX1_gradeOf, Cond.selects RX1 yX1_gradeOf yX1_gradeOf, Cond.code yX1_gradeOf cX1_gradeOf 3 (some .int), Cond.methodLink RX1 38 yX1_kindOf, Cond.instanceMethod yX1_kindOf, Cond.selects RX1 yX1_kindOf yX1_kindOf, Cond.code yX1_kindOf cX1_kindOf 2 (some .int), Cond.fieldLink RX1 15 "ArrestOrder$Standing" "kinds" "I", Cond.methodLink RX1 41 yX1_deedOf, Cond.instanceMethod yX1_deedOf]
def wsX3_take_r2 : List Cond := [Cond.selects RX1 yX1_deedOf yX1_deedOf, Cond.code yX1_deedOf cX1_deedOf 2 (some .int), Cond.fieldLink RX1 18 "ArrestOrder$Standing" "deeds" "I", Cond.methodLink RX1 68 yX1_isHidden, Cond.instanceMethod yX1_isHidden, Cond.selects RX1 yX1_isHidden yX1_isHidden, Cond.code yX1_isHidden cX1_isHidden 4 (some .boolean), Cond.fieldLink RX1 21 "ArrestOrder$Standing" "feeding" "J", Cond.static yX3_bit, Cond.code yX3_bit cX3_bit 1 (some .int), Cond.methodLink RX3 107 yX3_isIn, Cond.instanceMethod yX0_remember, Cond.initialized RX0, Cond.selects RX0 yX0_remember yX0_remember, Cond.code yX0_remember cX0_remember 2 none, Cond.fieldLink RX0 11 "ArrestOrder$Acts" "before" "[LArrestOrder$Standing;", Cond.fieldLink RX0 18 "ArrestOrder$Acts" "first" "I", Cond.fieldLink RX0 22 "ArrestOrder$Acts" "count" "I", Cond.instanceMethod yX1_copy, Cond.selects RX1 yX1_copy yX1_copy, Cond.code yX1_copy cX1_copy 2 none, Cond.fieldLink RX1 25 "ArrestOrder$Standing" "large" "I", Cond.fieldLink RX1 28 "ArrestOrder$Standing" "dead" "I", Cond.fieldLink RX1 31 "ArrestOrder$Standing" "dayNumber" "I"]
def wsX3_take_r3 : List Cond := [Cond.methodLink RX3 114 yX3_without, Cond.static yX3_without, Cond.code yX3_without cX3_without 2 (some .int), Cond.methodLink RX3 118 yJ6_bitCount_0f7a4, Cond.static yJ6_bitCount_0f7a4, Cond.initialized RJ6, Cond.code yJ6_bitCount_0f7a4 cJ6_bitCount_0f7a4 1 (some .int), Cond.constant RJ6 265 (1431655765), Cond.constant RJ6 266 (858993459), Cond.constant RJ6 267 (252645135)]
def wsX3_take : List Cond := .code yX3_take cX3_take 2 (some .int) :: ((wsX3_take_r1 ++ (wsX3_take_r2 ++ wsX3_take_r3)) ++ wsX30 ++ wsX10 ++ wsX00)
def wsX3_free_r1 : List Cond := [Cond.fieldLink RX3 19 "ArrestOrder" "now" "LArrestOrder$Standing;", Cond.fieldLink RX3 29 "ArrestOrder" "acts" "LArrestOrder$Acts;", Cond.instanceMethod yX1_has, Cond.initialized RX1, Cond.selects RX1 yX1_has yX1_has, Cond.code yX1_has cX1_has 2 (some .boolean), Cond.fieldLink RX1 9 "ArrestOrder$Standing" "people" "I", Cond.methodLink RX3 107 yX3_isIn, Cond.static yX3_isIn, Cond.initialized RX3, Cond.code yX3_isIn cX3_isIn 2 (some .boolean), Cond.instanceMethod yX0_remember, Cond.initialized RX0, Cond.selects RX0 yX0_remember yX0_remember, Cond.code yX0_remember cX0_remember 2 none, Cond.fieldLink RX0 11 "ArrestOrder$Acts" "before" "[LArrestOrder$Standing;", Cond.fieldLink RX0 18 "ArrestOrder$Acts" "first" "I", Cond.fieldLink RX0 22 "ArrestOrder$Acts" "count" "I", Cond.instanceMethod yX1_copy, Cond.selects RX1 yX1_copy yX1_copy, Cond.code yX1_copy cX1_copy 2 none, Cond.fieldLink RX1 15 "ArrestOrder$Standing" "kinds" "I", Cond.fieldLink RX1 18 "ArrestOrder$Standing" "deeds" "I", Cond.fieldLink RX1 21 "ArrestOrder$Standing" "feeding" "J"]
def wsX3_free_r2 : List Cond := [Cond.fieldLink RX1 25 "ArrestOrder$Standing" "large" "I", Cond.fieldLink RX1 28 "ArrestOrder$Standing" "dead" "I", Cond.fieldLink RX1 31 "ArrestOrder$Standing" "dayNumber" "I", Cond.methodLink RX3 123 yX3_bit, Cond.static yX3_bit, Cond.code yX3_bit cX3_bit 1 (some .int), Cond.methodLink RX3 118 yJ6_bitCount_0f7a4, Cond.static yJ6_bitCount_0f7a4, Cond.initialized RJ6, Cond.code yJ6_bitCount_0f7a4 cJ6_bitCount_0f7a4 1 (some .int), Cond.constant RJ6 265 (1431655765), Cond.constant RJ6 266 (858993459), Cond.constant RJ6 267 (252645135)]
def wsX3_free : List Cond := .code yX3_free cX3_free 2 (some .int) :: ((wsX3_free_r1 ++ wsX3_free_r2) ++ wsX30 ++ wsX10 ++ wsX00)
def wsX3_die_r1 : List Cond := [Cond.fieldLink RX3 19 "ArrestOrder" "now" "LArrestOrder$Standing;", Cond.fieldLink RX3 29 "ArrestOrder" "acts" "LArrestOrder$Acts;", Cond.instanceMethod yX1_has, Cond.initialized RX1, Cond.selects RX1 yX1_has yX1_has, Cond.code yX1_has cX1_has 2 (some .boolean), Cond.fieldLink RX1 9 "ArrestOrder$Standing" "people" "I", Cond.methodLink RX3 107 yX3_isIn, Cond.static yX3_isIn, Cond.initialized RX3, Cond.code yX3_isIn cX3_isIn 2 (some .boolean), Cond.instanceMethod yX0_remember, Cond.initialized RX0, Cond.selects RX0 yX0_remember yX0_remember, Cond.code yX0_remember cX0_remember 2 none, Cond.fieldLink RX0 11 "ArrestOrder$Acts" "before" "[LArrestOrder$Standing;", Cond.fieldLink RX0 18 "ArrestOrder$Acts" "first" "I", Cond.fieldLink RX0 22 "ArrestOrder$Acts" "count" "I", Cond.instanceMethod yX1_copy, Cond.selects RX1 yX1_copy yX1_copy, Cond.code yX1_copy cX1_copy 2 none, Cond.fieldLink RX1 15 "ArrestOrder$Standing" "kinds" "I", Cond.fieldLink RX1 18 "ArrestOrder$Standing" "deeds" "I", Cond.fieldLink RX1 21 "ArrestOrder$Standing" "feeding" "J"]
def wsX3_die_r2 : List Cond := [Cond.fieldLink RX1 25 "ArrestOrder$Standing" "large" "I", Cond.fieldLink RX1 28 "ArrestOrder$Standing" "dead" "I", Cond.fieldLink RX1 31 "ArrestOrder$Standing" "dayNumber" "I", Cond.instanceMethod yX1_bury, Cond.selects RX1 yX1_bury yX1_bury, Cond.code yX1_bury cX1_bury 2 none, Cond.static yX3_without, Cond.code yX3_without cX3_without 2 (some .int), Cond.static yX3_bit, Cond.code yX3_bit cX3_bit 1 (some .int), Cond.methodLink RX3 118 yJ6_bitCount_0f7a4, Cond.static yJ6_bitCount_0f7a4, Cond.initialized RJ6, Cond.code yJ6_bitCount_0f7a4 cJ6_bitCount_0f7a4 1 (some .int), Cond.constant RJ6 265 (1431655765), Cond.constant RJ6 266 (858993459), Cond.constant RJ6 267 (252645135)]
def wsX3_die : List Cond := .code yX3_die cX3_die 2 (some .int) :: ((wsX3_die_r1 ++ wsX3_die_r2) ++ wsX30 ++ wsX10 ++ wsX00)
def wsX3_feed_r1 : List Cond := [Cond.fieldLink RX3 19 "ArrestOrder" "now" "LArrestOrder$Standing;", Cond.fieldLink RX3 29 "ArrestOrder" "acts" "LArrestOrder$Acts;", Cond.instanceMethod yX1_has, Cond.initialized RX1, Cond.selects RX1 yX1_has yX1_has, Cond.code yX1_has cX1_has 2 (some .boolean), Cond.fieldLink RX1 9 "ArrestOrder$Standing" "people" "I", Cond.instanceMethod yX0_remember, Cond.initialized RX0, Cond.selects RX0 yX0_remember yX0_remember, Cond.code yX0_remember cX0_remember 2 none, Cond.fieldLink RX0 11 "ArrestOrder$Acts" "before" "[LArrestOrder$Standing;", Cond.fieldLink RX0 18 "ArrestOrder$Acts" "first" "I", Cond.fieldLink RX0 22 "ArrestOrder$Acts" "count" "I", Cond.instanceMethod yX1_copy, Cond.selects RX1 yX1_copy yX1_copy, Cond.code yX1_copy cX1_copy 2 none, Cond.fieldLink RX1 15 "ArrestOrder$Standing" "kinds" "I", Cond.fieldLink RX1 18 "ArrestOrder$Standing" "deeds" "I", Cond.fieldLink RX1 21 "ArrestOrder$Standing" "feeding" "J", Cond.fieldLink RX1 25 "ArrestOrder$Standing" "large" "I", Cond.fieldLink RX1 28 "ArrestOrder$Standing" "dead" "I", Cond.fieldLink RX1 31 "ArrestOrder$Standing" "dayNumber" "I", Cond.methodLink RX3 134 yX3_pair]
def wsX3_feed_r2 : List Cond := [Cond.static yX3_pair, Cond.initialized RX3, Cond.code yX3_pair cX3_pair 2 (some .long), Cond.instanceMethod yX1_feeds, Cond.selects RX1 yX1_feeds yX1_feeds, Cond.code yX1_feeds cX1_feeds 3 (some .boolean)]
def wsX3_feed : List Cond := .code yX3_feed cX3_feed 3 (some .int) :: ((wsX3_feed_r1 ++ wsX3_feed_r2) ++ wsX30 ++ wsX10 ++ wsX00)
def wsX3_grade_r1 : List Cond := [Cond.fieldLink RX3 19 "ArrestOrder" "now" "LArrestOrder$Standing;", Cond.fieldLink RX3 29 "ArrestOrder" "acts" "LArrestOrder$Acts;", Cond.instanceMethod yX1_has, Cond.initialized RX1, Cond.selects RX1 yX1_has yX1_has, Cond.code yX1_has cX1_has 2 (some .boolean), Cond.fieldLink RX1 9 "ArrestOrder$Standing" "people" "I", Cond.instanceMethod yX1_deedOf, Cond.selects RX1 yX1_deedOf yX1_deedOf, Cond.code yX1_deedOf cX1_deedOf 2 (some .int), Cond.fieldLink RX1 18 "ArrestOrder$Standing" "deeds" "I", Cond.instanceMethod yX0_remember, Cond.initialized RX0, Cond.selects RX0 yX0_remember yX0_remember, Cond.code yX0_remember cX0_remember 2 none, Cond.fieldLink RX0 11 "ArrestOrder$Acts" "before" "[LArrestOrder$Standing;", Cond.fieldLink RX0 18 "ArrestOrder$Acts" "first" "I", Cond.fieldLink RX0 22 "ArrestOrder$Acts" "count" "I", Cond.instanceMethod yX1_copy, Cond.selects RX1 yX1_copy yX1_copy, Cond.code yX1_copy cX1_copy 2 none, Cond.fieldLink RX1 15 "ArrestOrder$Standing" "kinds" "I", Cond.fieldLink RX1 21 "ArrestOrder$Standing" "feeding" "J", Cond.fieldLink RX1 25 "ArrestOrder$Standing" "large" "I"]
def wsX3_grade_r2 : List Cond := [Cond.fieldLink RX1 28 "ArrestOrder$Standing" "dead" "I", Cond.fieldLink RX1 31 "ArrestOrder$Standing" "dayNumber" "I", Cond.instanceMethod yX1_setDeed, Cond.selects RX1 yX1_setDeed yX1_setDeed, Cond.code yX1_setDeed cX1_setDeed 3 none]
def wsX3_grade : List Cond := .code yX3_grade cX3_grade 4 (some .int) :: ((wsX3_grade_r1 ++ wsX3_grade_r2) ++ wsX30 ++ wsX10 ++ wsX00)
def wsX3_day_r1 : List Cond := [Cond.fieldLink RX3 29 "ArrestOrder" "acts" "LArrestOrder$Acts;", Cond.fieldLink RX3 19 "ArrestOrder" "now" "LArrestOrder$Standing;", Cond.instanceMethod yX0_remember, Cond.initialized RX0, Cond.selects RX0 yX0_remember yX0_remember, Cond.code yX0_remember cX0_remember 2 none, Cond.fieldLink RX0 11 "ArrestOrder$Acts" "before" "[LArrestOrder$Standing;", Cond.fieldLink RX0 18 "ArrestOrder$Acts" "first" "I", Cond.fieldLink RX0 22 "ArrestOrder$Acts" "count" "I", Cond.instanceMethod yX1_copy, Cond.initialized RX1, Cond.selects RX1 yX1_copy yX1_copy, Cond.code yX1_copy cX1_copy 2 none, Cond.fieldLink RX1 9 "ArrestOrder$Standing" "people" "I", Cond.fieldLink RX1 15 "ArrestOrder$Standing" "kinds" "I", Cond.fieldLink RX1 18 "ArrestOrder$Standing" "deeds" "I", Cond.fieldLink RX1 21 "ArrestOrder$Standing" "feeding" "J", Cond.fieldLink RX1 25 "ArrestOrder$Standing" "large" "I", Cond.fieldLink RX1 28 "ArrestOrder$Standing" "dead" "I", Cond.fieldLink RX1 31 "ArrestOrder$Standing" "dayNumber" "I", Cond.instanceMethod yX1_passDay, Cond.selects RX1 yX1_passDay yX1_passDay, Cond.code yX1_passDay cX1_passDay 2 (some .int), Cond.methodLink RX1 62 yX1_mayBeTaken]
def wsX3_day_r2 : List Cond := [Cond.instanceMethod yX1_mayBeTaken, Cond.selects RX1 yX1_mayBeTaken yX1_mayBeTaken, Cond.code yX1_mayBeTaken cX1_mayBeTaken 6 (some .int), Cond.static yX3_isIn, Cond.initialized RX3, Cond.code yX3_isIn cX3_isIn 2 (some .boolean), Cond.methodLink RX1 74 yX1_gradeOf, Cond.instanceMethod yX1_gradeOf, Cond.selects RX1 yX1_gradeOf yX1_gradeOf, Cond.code yX1_gradeOf cX1_gradeOf 3 (some .int), Cond.methodLink RX1 38 yX1_kindOf, Cond.instanceMethod yX1_kindOf, Cond.selects RX1 yX1_kindOf yX1_kindOf, Cond.code yX1_kindOf cX1_kindOf 2 (some .int), Cond.methodLink RX1 41 yX1_deedOf, Cond.instanceMethod yX1_deedOf, Cond.selects RX1 yX1_deedOf yX1_deedOf, Cond.code yX1_deedOf cX1_deedOf 2 (some .int), Cond.methodLink RX1 68 yX1_isHidden, Cond.instanceMethod yX1_isHidden, Cond.selects RX1 yX1_isHidden yX1_isHidden, Cond.code yX1_isHidden cX1_isHidden 4 (some .boolean), Cond.static yX3_bit, Cond.code yX3_bit cX3_bit 1 (some .int)]
def wsX3_day_r3 : List Cond := [Cond.static yX3_leastOf, Cond.code yX3_leastOf cX3_leastOf 2 (some .int), Cond.methodLink RX3 107 yX3_isIn, Cond.static yX3_without, Cond.code yX3_without cX3_without 2 (some .int)]
def wsX3_day : List Cond := .code yX3_day cX3_day 1 (some .int) :: ((wsX3_day_r1 ++ (wsX3_day_r2 ++ wsX3_day_r3)) ++ wsX30 ++ wsX00 ++ wsX10)
def wsX3_undo : List Cond := .code yX3_undo cX3_undo 1 (some .int) :: ([.fieldLink RX3 29 "ArrestOrder" "acts" "LArrestOrder$Acts;", .fieldLink RX3 19 "ArrestOrder" "now" "LArrestOrder$Standing;", .instanceMethod yX0_takeBackInto, .initialized RX0, .selects RX0 yX0_takeBackInto yX0_takeBackInto, .code yX0_takeBackInto cX0_takeBackInto 2 (some .boolean), .fieldLink RX0 22 "ArrestOrder$Acts" "count" "I", .fieldLink RX0 11 "ArrestOrder$Acts" "before" "[LArrestOrder$Standing;", .fieldLink RX0 18 "ArrestOrder$Acts" "first" "I", .instanceMethod yX1_copy, .initialized RX1, .selects RX1 yX1_copy yX1_copy, .code yX1_copy cX1_copy 2 none, .fieldLink RX1 9 "ArrestOrder$Standing" "people" "I", .fieldLink RX1 15 "ArrestOrder$Standing" "kinds" "I", .fieldLink RX1 18 "ArrestOrder$Standing" "deeds" "I", .fieldLink RX1 21 "ArrestOrder$Standing" "feeding" "J", .fieldLink RX1 25 "ArrestOrder$Standing" "large" "I", .fieldLink RX1 28 "ArrestOrder$Standing" "dead" "I", .fieldLink RX1 31 "ArrestOrder$Standing" "dayNumber" "I"] ++ wsX30 ++ wsX00 ++ wsX10)
def wsX3_fall_r1 : List Cond := [Cond.fieldLink RX3 19 "ArrestOrder" "now" "LArrestOrder$Standing;", Cond.instanceMethod yX1_fallRow, Cond.initialized RX1, Cond.selects RX1 yX1_fallRow yX1_fallRow, Cond.code yX1_fallRow cX1_fallRow 5 (some .int), Cond.fieldLink RX1 25 "ArrestOrder$Standing" "large" "I", Cond.fieldLink RX1 9 "ArrestOrder$Standing" "people" "I", Cond.methodLink RX1 62 yX1_mayBeTaken, Cond.instanceMethod yX1_mayBeTaken, Cond.selects RX1 yX1_mayBeTaken yX1_mayBeTaken, Cond.code yX1_mayBeTaken cX1_mayBeTaken 6 (some .int), Cond.static yX3_isIn, Cond.initialized RX3, Cond.code yX3_isIn cX3_isIn 2 (some .boolean), Cond.methodLink RX1 74 yX1_gradeOf, Cond.instanceMethod yX1_gradeOf, Cond.selects RX1 yX1_gradeOf yX1_gradeOf, Cond.code yX1_gradeOf cX1_gradeOf 3 (some .int), Cond.methodLink RX1 38 yX1_kindOf, Cond.instanceMethod yX1_kindOf, Cond.selects RX1 yX1_kindOf yX1_kindOf, Cond.code yX1_kindOf cX1_kindOf 2 (some .int), Cond.fieldLink RX1 15 "ArrestOrder$Standing" "kinds" "I", Cond.methodLink RX1 41 yX1_deedOf]
def wsX3_fall_r2 : List Cond := [Cond.instanceMethod yX1_deedOf, Cond.selects RX1 yX1_deedOf yX1_deedOf, Cond.code yX1_deedOf cX1_deedOf 2 (some .int), Cond.fieldLink RX1 18 "ArrestOrder$Standing" "deeds" "I", Cond.methodLink RX1 68 yX1_isHidden, Cond.instanceMethod yX1_isHidden, Cond.selects RX1 yX1_isHidden yX1_isHidden, Cond.code yX1_isHidden cX1_isHidden 4 (some .boolean), Cond.fieldLink RX1 21 "ArrestOrder$Standing" "feeding" "J", Cond.static yX3_bit, Cond.code yX3_bit cX3_bit 1 (some .int), Cond.static yX3_leastOf, Cond.code yX3_leastOf cX3_leastOf 2 (some .int), Cond.methodLink RX3 107 yX3_isIn, Cond.static yX3_without, Cond.code yX3_without cX3_without 2 (some .int)]
def wsX3_fall : List Cond := .code yX3_fall cX3_fall 1 (some .int) :: ((wsX3_fall_r1 ++ wsX3_fall_r2) ++ wsX30 ++ wsX10)
def wsX3_place_r1 : List Cond := [Cond.fieldLink RX3 19 "ArrestOrder" "now" "LArrestOrder$Standing;", Cond.instanceMethod yX1_has, Cond.initialized RX1, Cond.selects RX1 yX1_has yX1_has, Cond.code yX1_has cX1_has 2 (some .boolean), Cond.fieldLink RX1 9 "ArrestOrder$Standing" "people" "I", Cond.instanceMethod yX1_placeOf, Cond.selects RX1 yX1_placeOf yX1_placeOf, Cond.code yX1_placeOf cX1_placeOf 5 (some .int), Cond.fieldLink RX1 25 "ArrestOrder$Standing" "large" "I", Cond.methodLink RX1 62 yX1_mayBeTaken, Cond.instanceMethod yX1_mayBeTaken, Cond.selects RX1 yX1_mayBeTaken yX1_mayBeTaken, Cond.code yX1_mayBeTaken cX1_mayBeTaken 6 (some .int), Cond.static yX3_isIn, Cond.initialized RX3, Cond.code yX3_isIn cX3_isIn 2 (some .boolean), Cond.methodLink RX1 74 yX1_gradeOf, Cond.instanceMethod yX1_gradeOf, Cond.selects RX1 yX1_gradeOf yX1_gradeOf, Cond.code yX1_gradeOf cX1_gradeOf 3 (some .int), Cond.methodLink RX1 38 yX1_kindOf, Cond.instanceMethod yX1_kindOf, Cond.selects RX1 yX1_kindOf yX1_kindOf]
def wsX3_place_r2 : List Cond := [Cond.code yX1_kindOf cX1_kindOf 2 (some .int), Cond.fieldLink RX1 15 "ArrestOrder$Standing" "kinds" "I", Cond.methodLink RX1 41 yX1_deedOf, Cond.instanceMethod yX1_deedOf, Cond.selects RX1 yX1_deedOf yX1_deedOf, Cond.code yX1_deedOf cX1_deedOf 2 (some .int), Cond.fieldLink RX1 18 "ArrestOrder$Standing" "deeds" "I", Cond.methodLink RX1 68 yX1_isHidden, Cond.instanceMethod yX1_isHidden, Cond.selects RX1 yX1_isHidden yX1_isHidden, Cond.code yX1_isHidden cX1_isHidden 4 (some .boolean), Cond.fieldLink RX1 21 "ArrestOrder$Standing" "feeding" "J", Cond.static yX3_bit, Cond.code yX3_bit cX3_bit 1 (some .int), Cond.static yX3_leastOf, Cond.code yX3_leastOf cX3_leastOf 2 (some .int), Cond.methodLink RX3 107 yX3_isIn, Cond.static yX3_without, Cond.code yX3_without cX3_without 2 (some .int)]
def wsX3_place : List Cond := .code yX3_place cX3_place 2 (some .int) :: ((wsX3_place_r1 ++ wsX3_place_r2) ++ wsX30 ++ wsX10)
def wsX3_last_r1 : List Cond := [Cond.fieldLink RX3 19 "ArrestOrder" "now" "LArrestOrder$Standing;", Cond.instanceMethod yX1_leftBehind, Cond.initialized RX1, Cond.selects RX1 yX1_leftBehind yX1_leftBehind, Cond.code yX1_leftBehind cX1_leftBehind 5 (some .int), Cond.fieldLink RX1 9 "ArrestOrder$Standing" "people" "I", Cond.methodLink RX1 62 yX1_mayBeTaken, Cond.instanceMethod yX1_mayBeTaken, Cond.selects RX1 yX1_mayBeTaken yX1_mayBeTaken, Cond.code yX1_mayBeTaken cX1_mayBeTaken 6 (some .int), Cond.static yX3_isIn, Cond.initialized RX3, Cond.code yX3_isIn cX3_isIn 2 (some .boolean), Cond.methodLink RX1 74 yX1_gradeOf, Cond.instanceMethod yX1_gradeOf, Cond.selects RX1 yX1_gradeOf yX1_gradeOf, Cond.code yX1_gradeOf cX1_gradeOf 3 (some .int), Cond.methodLink RX1 38 yX1_kindOf, Cond.instanceMethod yX1_kindOf, Cond.selects RX1 yX1_kindOf yX1_kindOf, Cond.code yX1_kindOf cX1_kindOf 2 (some .int), Cond.fieldLink RX1 15 "ArrestOrder$Standing" "kinds" "I", Cond.methodLink RX1 41 yX1_deedOf, Cond.instanceMethod yX1_deedOf]
def wsX3_last_r2 : List Cond := [Cond.selects RX1 yX1_deedOf yX1_deedOf, Cond.code yX1_deedOf cX1_deedOf 2 (some .int), Cond.fieldLink RX1 18 "ArrestOrder$Standing" "deeds" "I", Cond.methodLink RX1 68 yX1_isHidden, Cond.instanceMethod yX1_isHidden, Cond.selects RX1 yX1_isHidden yX1_isHidden, Cond.code yX1_isHidden cX1_isHidden 4 (some .boolean), Cond.fieldLink RX1 21 "ArrestOrder$Standing" "feeding" "J", Cond.static yX3_bit, Cond.code yX3_bit cX3_bit 1 (some .int)]
def wsX3_last : List Cond := .code yX3_last cX3_last 1 (some .int) :: ((wsX3_last_r1 ++ wsX3_last_r2) ++ wsX30 ++ wsX10)
def wsX3_newPair : List Cond := .code yX3_newPair cX3_newPair 5 (some .long) :: ([.fieldLink RX3 19 "ArrestOrder" "now" "LArrestOrder$Standing;", .instanceMethod yX1_has, .initialized RX1, .selects RX1 yX1_has yX1_has, .code yX1_has cX1_has 2 (some .boolean), .fieldLink RX1 9 "ArrestOrder$Standing" "people" "I", .instanceMethod yX1_feeds, .selects RX1 yX1_feeds yX1_feeds, .code yX1_feeds cX1_feeds 3 (some .boolean), .fieldLink RX1 21 "ArrestOrder$Standing" "feeding" "J", .static yX3_pair, .initialized RX3, .code yX3_pair cX3_pair 2 (some .long), .methodLink RX3 134 yX3_pair] ++ wsX30 ++ wsX10)
def wsX3_savesByFeeding_r1 : List Cond := [Cond.fieldLink RX3 23 "ArrestOrder" "trial" "LArrestOrder$Standing;", Cond.fieldLink RX3 19 "ArrestOrder" "now" "LArrestOrder$Standing;", Cond.instanceMethod yX1_leftBehind, Cond.initialized RX1, Cond.selects RX1 yX1_leftBehind yX1_leftBehind, Cond.code yX1_leftBehind cX1_leftBehind 5 (some .int), Cond.fieldLink RX1 9 "ArrestOrder$Standing" "people" "I", Cond.methodLink RX1 62 yX1_mayBeTaken, Cond.instanceMethod yX1_mayBeTaken, Cond.selects RX1 yX1_mayBeTaken yX1_mayBeTaken, Cond.code yX1_mayBeTaken cX1_mayBeTaken 6 (some .int), Cond.static yX3_isIn, Cond.initialized RX3, Cond.code yX3_isIn cX3_isIn 2 (some .boolean), Cond.methodLink RX1 74 yX1_gradeOf, Cond.instanceMethod yX1_gradeOf, Cond.selects RX1 yX1_gradeOf yX1_gradeOf, Cond.code yX1_gradeOf cX1_gradeOf 3 (some .int), Cond.methodLink RX1 38 yX1_kindOf, Cond.instanceMethod yX1_kindOf, Cond.selects RX1 yX1_kindOf yX1_kindOf, Cond.code yX1_kindOf cX1_kindOf 2 (some .int), Cond.fieldLink RX1 15 "ArrestOrder$Standing" "kinds" "I", Cond.methodLink RX1 41 yX1_deedOf]
def wsX3_savesByFeeding_r2 : List Cond := [Cond.instanceMethod yX1_deedOf, Cond.selects RX1 yX1_deedOf yX1_deedOf, Cond.code yX1_deedOf cX1_deedOf 2 (some .int), Cond.fieldLink RX1 18 "ArrestOrder$Standing" "deeds" "I", Cond.methodLink RX1 68 yX1_isHidden, Cond.instanceMethod yX1_isHidden, Cond.selects RX1 yX1_isHidden yX1_isHidden, Cond.code yX1_isHidden cX1_isHidden 4 (some .boolean), Cond.fieldLink RX1 21 "ArrestOrder$Standing" "feeding" "J", Cond.static yX3_bit, Cond.code yX3_bit cX3_bit 1 (some .int), Cond.methodLink RX3 107 yX3_isIn]
def wsX3_savesByFeeding : List Cond := .code yX3_savesByFeeding cX3_savesByFeeding 4 (some .boolean) :: ((wsX3_savesByFeeding_r1 ++ wsX3_savesByFeeding_r2) ++ wsX30 ++ wsX10)
def wsX3_onePair_r1 : List Cond := [Cond.fieldLink RX3 19 "ArrestOrder" "now" "LArrestOrder$Standing;", Cond.methodLink RX3 200 yX3_newPair, Cond.instanceMethod yX3_newPair, Cond.selects RX3 yX3_newPair yX3_newPair, Cond.initialized RX3, Cond.code yX3_newPair cX3_newPair 5 (some .long), Cond.instanceMethod yX1_has, Cond.initialized RX1, Cond.selects RX1 yX1_has yX1_has, Cond.code yX1_has cX1_has 2 (some .boolean), Cond.fieldLink RX1 9 "ArrestOrder$Standing" "people" "I", Cond.instanceMethod yX1_feeds, Cond.selects RX1 yX1_feeds yX1_feeds, Cond.code yX1_feeds cX1_feeds 3 (some .boolean), Cond.fieldLink RX1 21 "ArrestOrder$Standing" "feeding" "J", Cond.static yX3_pair, Cond.code yX3_pair cX3_pair 2 (some .long), Cond.methodLink RX3 134 yX3_pair, Cond.methodLink RX3 204 yX3_savesByFeeding, Cond.instanceMethod yX3_savesByFeeding, Cond.selects RX3 yX3_savesByFeeding yX3_savesByFeeding, Cond.code yX3_savesByFeeding cX3_savesByFeeding 4 (some .boolean), Cond.fieldLink RX3 23 "ArrestOrder" "trial" "LArrestOrder$Standing;", Cond.instanceMethod yX1_leftBehind]
def wsX3_onePair_r2 : List Cond := [Cond.selects RX1 yX1_leftBehind yX1_leftBehind, Cond.code yX1_leftBehind cX1_leftBehind 5 (some .int), Cond.methodLink RX1 62 yX1_mayBeTaken, Cond.instanceMethod yX1_mayBeTaken, Cond.selects RX1 yX1_mayBeTaken yX1_mayBeTaken, Cond.code yX1_mayBeTaken cX1_mayBeTaken 6 (some .int), Cond.static yX3_isIn, Cond.code yX3_isIn cX3_isIn 2 (some .boolean), Cond.methodLink RX1 74 yX1_gradeOf, Cond.instanceMethod yX1_gradeOf, Cond.selects RX1 yX1_gradeOf yX1_gradeOf, Cond.code yX1_gradeOf cX1_gradeOf 3 (some .int), Cond.methodLink RX1 38 yX1_kindOf, Cond.instanceMethod yX1_kindOf, Cond.selects RX1 yX1_kindOf yX1_kindOf, Cond.code yX1_kindOf cX1_kindOf 2 (some .int), Cond.fieldLink RX1 15 "ArrestOrder$Standing" "kinds" "I", Cond.methodLink RX1 41 yX1_deedOf, Cond.instanceMethod yX1_deedOf, Cond.selects RX1 yX1_deedOf yX1_deedOf, Cond.code yX1_deedOf cX1_deedOf 2 (some .int), Cond.fieldLink RX1 18 "ArrestOrder$Standing" "deeds" "I", Cond.methodLink RX1 68 yX1_isHidden, Cond.instanceMethod yX1_isHidden]
def wsX3_onePair_r3 : List Cond := [Cond.selects RX1 yX1_isHidden yX1_isHidden, Cond.code yX1_isHidden cX1_isHidden 4 (some .boolean), Cond.static yX3_bit, Cond.code yX3_bit cX3_bit 1 (some .int), Cond.methodLink RX3 107 yX3_isIn]
def wsX3_onePair : List Cond := .code yX3_onePair cX3_onePair 5 (some .int) :: ((wsX3_onePair_r1 ++ (wsX3_onePair_r2 ++ wsX3_onePair_r3)) ++ wsX30 ++ wsX10)
def wsX3_twoPairs_r1 : List Cond := [Cond.fieldLink RX3 19 "ArrestOrder" "now" "LArrestOrder$Standing;", Cond.methodLink RX3 200 yX3_newPair, Cond.instanceMethod yX3_newPair, Cond.selects RX3 yX3_newPair yX3_newPair, Cond.initialized RX3, Cond.code yX3_newPair cX3_newPair 5 (some .long), Cond.instanceMethod yX1_has, Cond.initialized RX1, Cond.selects RX1 yX1_has yX1_has, Cond.code yX1_has cX1_has 2 (some .boolean), Cond.fieldLink RX1 9 "ArrestOrder$Standing" "people" "I", Cond.instanceMethod yX1_feeds, Cond.selects RX1 yX1_feeds yX1_feeds, Cond.code yX1_feeds cX1_feeds 3 (some .boolean), Cond.fieldLink RX1 21 "ArrestOrder$Standing" "feeding" "J", Cond.static yX3_pair, Cond.code yX3_pair cX3_pair 2 (some .long), Cond.methodLink RX3 134 yX3_pair, Cond.methodLink RX3 204 yX3_savesByFeeding, Cond.instanceMethod yX3_savesByFeeding, Cond.selects RX3 yX3_savesByFeeding yX3_savesByFeeding, Cond.code yX3_savesByFeeding cX3_savesByFeeding 4 (some .boolean), Cond.fieldLink RX3 23 "ArrestOrder" "trial" "LArrestOrder$Standing;", Cond.instanceMethod yX1_leftBehind]
def wsX3_twoPairs_r2 : List Cond := [Cond.selects RX1 yX1_leftBehind yX1_leftBehind, Cond.code yX1_leftBehind cX1_leftBehind 5 (some .int), Cond.methodLink RX1 62 yX1_mayBeTaken, Cond.instanceMethod yX1_mayBeTaken, Cond.selects RX1 yX1_mayBeTaken yX1_mayBeTaken, Cond.code yX1_mayBeTaken cX1_mayBeTaken 6 (some .int), Cond.static yX3_isIn, Cond.code yX3_isIn cX3_isIn 2 (some .boolean), Cond.methodLink RX1 74 yX1_gradeOf, Cond.instanceMethod yX1_gradeOf, Cond.selects RX1 yX1_gradeOf yX1_gradeOf, Cond.code yX1_gradeOf cX1_gradeOf 3 (some .int), Cond.methodLink RX1 38 yX1_kindOf, Cond.instanceMethod yX1_kindOf, Cond.selects RX1 yX1_kindOf yX1_kindOf, Cond.code yX1_kindOf cX1_kindOf 2 (some .int), Cond.fieldLink RX1 15 "ArrestOrder$Standing" "kinds" "I", Cond.methodLink RX1 41 yX1_deedOf, Cond.instanceMethod yX1_deedOf, Cond.selects RX1 yX1_deedOf yX1_deedOf, Cond.code yX1_deedOf cX1_deedOf 2 (some .int), Cond.fieldLink RX1 18 "ArrestOrder$Standing" "deeds" "I", Cond.methodLink RX1 68 yX1_isHidden, Cond.instanceMethod yX1_isHidden]
def wsX3_twoPairs_r3 : List Cond := [Cond.selects RX1 yX1_isHidden yX1_isHidden, Cond.code yX1_isHidden cX1_isHidden 4 (some .boolean), Cond.static yX3_bit, Cond.code yX3_bit cX3_bit 1 (some .int), Cond.methodLink RX3 107 yX3_isIn]
def wsX3_twoPairs : List Cond := .code yX3_twoPairs cX3_twoPairs 9 (some .int) :: ((wsX3_twoPairs_r1 ++ (wsX3_twoPairs_r2 ++ wsX3_twoPairs_r3)) ++ wsX30 ++ wsX10)
def wsX3_toFeed_r1 : List Cond := [Cond.fieldLink RX3 19 "ArrestOrder" "now" "LArrestOrder$Standing;", Cond.fieldLink RX3 23 "ArrestOrder" "trial" "LArrestOrder$Standing;", Cond.instanceMethod yX1_has, Cond.initialized RX1, Cond.selects RX1 yX1_has yX1_has, Cond.code yX1_has cX1_has 2 (some .boolean), Cond.fieldLink RX1 9 "ArrestOrder$Standing" "people" "I", Cond.instanceMethod yX1_isTaken, Cond.selects RX1 yX1_isTaken yX1_isTaken, Cond.code yX1_isTaken cX1_isTaken 3 (some .boolean), Cond.methodLink RX1 80 yX1_leftBehind, Cond.instanceMethod yX1_leftBehind, Cond.selects RX1 yX1_leftBehind yX1_leftBehind, Cond.code yX1_leftBehind cX1_leftBehind 5 (some .int), Cond.methodLink RX1 62 yX1_mayBeTaken, Cond.instanceMethod yX1_mayBeTaken, Cond.selects RX1 yX1_mayBeTaken yX1_mayBeTaken, Cond.code yX1_mayBeTaken cX1_mayBeTaken 6 (some .int), Cond.static yX3_isIn, Cond.initialized RX3, Cond.code yX3_isIn cX3_isIn 2 (some .boolean), Cond.methodLink RX1 74 yX1_gradeOf, Cond.instanceMethod yX1_gradeOf, Cond.selects RX1 yX1_gradeOf yX1_gradeOf]
def wsX3_toFeed_r2 : List Cond := [Cond.code yX1_gradeOf cX1_gradeOf 3 (some .int), Cond.methodLink RX1 38 yX1_kindOf, Cond.instanceMethod yX1_kindOf, Cond.selects RX1 yX1_kindOf yX1_kindOf, Cond.code yX1_kindOf cX1_kindOf 2 (some .int), Cond.fieldLink RX1 15 "ArrestOrder$Standing" "kinds" "I", Cond.methodLink RX1 41 yX1_deedOf, Cond.instanceMethod yX1_deedOf, Cond.selects RX1 yX1_deedOf yX1_deedOf, Cond.code yX1_deedOf cX1_deedOf 2 (some .int), Cond.fieldLink RX1 18 "ArrestOrder$Standing" "deeds" "I", Cond.methodLink RX1 68 yX1_isHidden, Cond.instanceMethod yX1_isHidden, Cond.selects RX1 yX1_isHidden yX1_isHidden, Cond.code yX1_isHidden cX1_isHidden 4 (some .boolean), Cond.fieldLink RX1 21 "ArrestOrder$Standing" "feeding" "J", Cond.static yX3_bit, Cond.code yX3_bit cX3_bit 1 (some .int), Cond.instanceMethod yX1_copy, Cond.selects RX1 yX1_copy yX1_copy, Cond.code yX1_copy cX1_copy 2 none, Cond.fieldLink RX1 25 "ArrestOrder$Standing" "large" "I", Cond.fieldLink RX1 28 "ArrestOrder$Standing" "dead" "I", Cond.fieldLink RX1 31 "ArrestOrder$Standing" "dayNumber" "I"]
def wsX3_toFeed_r3 : List Cond := [Cond.methodLink RX3 164 yX3_onePair, Cond.instanceMethod yX3_onePair, Cond.selects RX3 yX3_onePair yX3_onePair, Cond.code yX3_onePair cX3_onePair 5 (some .int), Cond.methodLink RX3 200 yX3_newPair, Cond.instanceMethod yX3_newPair, Cond.selects RX3 yX3_newPair yX3_newPair, Cond.code yX3_newPair cX3_newPair 5 (some .long), Cond.instanceMethod yX1_feeds, Cond.selects RX1 yX1_feeds yX1_feeds, Cond.code yX1_feeds cX1_feeds 3 (some .boolean), Cond.static yX3_pair, Cond.code yX3_pair cX3_pair 2 (some .long), Cond.methodLink RX3 134 yX3_pair, Cond.methodLink RX3 204 yX3_savesByFeeding, Cond.instanceMethod yX3_savesByFeeding, Cond.selects RX3 yX3_savesByFeeding yX3_savesByFeeding, Cond.code yX3_savesByFeeding cX3_savesByFeeding 4 (some .boolean), Cond.methodLink RX3 107 yX3_isIn, Cond.methodLink RX3 167 yX3_twoPairs, Cond.instanceMethod yX3_twoPairs, Cond.selects RX3 yX3_twoPairs yX3_twoPairs, Cond.code yX3_twoPairs cX3_twoPairs 9 (some .int)]
def wsX3_toFeed : List Cond := .code yX3_toFeed cX3_toFeed 4 (some .int) :: ((wsX3_toFeed_r1 ++ (wsX3_toFeed_r2 ++ wsX3_toFeed_r3)) ++ wsX30 ++ wsX10)
def wsX3_giveUp_r1 : List Cond := [Cond.fieldLink RX3 19 "ArrestOrder" "now" "LArrestOrder$Standing;", Cond.instanceMethod yX1_has, Cond.initialized RX1, Cond.selects RX1 yX1_has yX1_has, Cond.code yX1_has cX1_has 2 (some .boolean), Cond.fieldLink RX1 9 "ArrestOrder$Standing" "people" "I", Cond.methodLink RX3 107 yX3_isIn, Cond.static yX3_isIn, Cond.initialized RX3, Cond.code yX3_isIn cX3_isIn 2 (some .boolean), Cond.methodLink RX3 114 yX3_without, Cond.static yX3_without, Cond.code yX3_without cX3_without 2 (some .int), Cond.methodLink RX3 118 yJ6_bitCount_0f7a4, Cond.static yJ6_bitCount_0f7a4, Cond.initialized RJ6, Cond.code yJ6_bitCount_0f7a4 cJ6_bitCount_0f7a4 1 (some .int), Cond.constant RJ6 265 (1431655765), Cond.constant RJ6 266 (858993459), Cond.constant RJ6 267 (252645135), Cond.instanceMethod yX1_isTaken, Cond.selects RX1 yX1_isTaken yX1_isTaken, Cond.code yX1_isTaken cX1_isTaken 3 (some .boolean), Cond.methodLink RX1 80 yX1_leftBehind]
def wsX3_giveUp_r2 : List Cond := [Cond.instanceMethod yX1_leftBehind, Cond.selects RX1 yX1_leftBehind yX1_leftBehind, Cond.code yX1_leftBehind cX1_leftBehind 5 (some .int), Cond.methodLink RX1 62 yX1_mayBeTaken, Cond.instanceMethod yX1_mayBeTaken, Cond.selects RX1 yX1_mayBeTaken yX1_mayBeTaken, Cond.code yX1_mayBeTaken cX1_mayBeTaken 6 (some .int), Cond.methodLink RX1 74 yX1_gradeOf, Cond.instanceMethod yX1_gradeOf, Cond.selects RX1 yX1_gradeOf yX1_gradeOf, Cond.code yX1_gradeOf cX1_gradeOf 3 (some .int), Cond.methodLink RX1 38 yX1_kindOf, Cond.instanceMethod yX1_kindOf, Cond.selects RX1 yX1_kindOf yX1_kindOf, Cond.code yX1_kindOf cX1_kindOf 2 (some .int), Cond.fieldLink RX1 15 "ArrestOrder$Standing" "kinds" "I", Cond.methodLink RX1 41 yX1_deedOf, Cond.instanceMethod yX1_deedOf, Cond.selects RX1 yX1_deedOf yX1_deedOf, Cond.code yX1_deedOf cX1_deedOf 2 (some .int), Cond.fieldLink RX1 18 "ArrestOrder$Standing" "deeds" "I", Cond.methodLink RX1 68 yX1_isHidden, Cond.instanceMethod yX1_isHidden, Cond.selects RX1 yX1_isHidden yX1_isHidden]
def wsX3_giveUp_r3 : List Cond := [Cond.code yX1_isHidden cX1_isHidden 4 (some .boolean), Cond.fieldLink RX1 21 "ArrestOrder$Standing" "feeding" "J", Cond.static yX3_bit, Cond.code yX3_bit cX3_bit 1 (some .int)]
def wsX3_giveUp : List Cond := .code yX3_giveUp cX3_giveUp 6 (some .int) :: ((wsX3_giveUp_r1 ++ (wsX3_giveUp_r2 ++ wsX3_giveUp_r3)) ++ wsX30 ++ wsX10)
def wsX3_claim_r1 : List Cond := [Cond.fieldLink RX3 19 "ArrestOrder" "now" "LArrestOrder$Standing;", Cond.fieldLink RX3 23 "ArrestOrder" "trial" "LArrestOrder$Standing;", Cond.instanceMethod yX1_has, Cond.initialized RX1, Cond.selects RX1 yX1_has yX1_has, Cond.code yX1_has cX1_has 2 (some .boolean), Cond.fieldLink RX1 9 "ArrestOrder$Standing" "people" "I", Cond.methodLink RX3 107 yX3_isIn, Cond.static yX3_isIn, Cond.initialized RX3, Cond.code yX3_isIn cX3_isIn 2 (some .boolean), Cond.instanceMethod yX1_copy, Cond.selects RX1 yX1_copy yX1_copy, Cond.code yX1_copy cX1_copy 2 none, Cond.fieldLink RX1 15 "ArrestOrder$Standing" "kinds" "I", Cond.fieldLink RX1 18 "ArrestOrder$Standing" "deeds" "I", Cond.fieldLink RX1 21 "ArrestOrder$Standing" "feeding" "J", Cond.fieldLink RX1 25 "ArrestOrder$Standing" "large" "I", Cond.fieldLink RX1 28 "ArrestOrder$Standing" "dead" "I", Cond.fieldLink RX1 31 "ArrestOrder$Standing" "dayNumber" "I", Cond.instanceMethod yX1_setDeed, Cond.selects RX1 yX1_setDeed yX1_setDeed, Cond.code yX1_setDeed cX1_setDeed 3 none, Cond.instanceMethod yX1_worthOf]
def wsX3_claim_r2 : List Cond := [Cond.selects RX1 yX1_worthOf yX1_worthOf, Cond.code yX1_worthOf cX1_worthOf 3 (some .int), Cond.methodLink RX1 77 yX1_placeOf, Cond.instanceMethod yX1_placeOf, Cond.selects RX1 yX1_placeOf yX1_placeOf, Cond.code yX1_placeOf cX1_placeOf 5 (some .int), Cond.methodLink RX1 62 yX1_mayBeTaken, Cond.instanceMethod yX1_mayBeTaken, Cond.selects RX1 yX1_mayBeTaken yX1_mayBeTaken, Cond.code yX1_mayBeTaken cX1_mayBeTaken 6 (some .int), Cond.methodLink RX1 74 yX1_gradeOf, Cond.instanceMethod yX1_gradeOf, Cond.selects RX1 yX1_gradeOf yX1_gradeOf, Cond.code yX1_gradeOf cX1_gradeOf 3 (some .int), Cond.methodLink RX1 38 yX1_kindOf, Cond.instanceMethod yX1_kindOf, Cond.selects RX1 yX1_kindOf yX1_kindOf, Cond.code yX1_kindOf cX1_kindOf 2 (some .int), Cond.methodLink RX1 41 yX1_deedOf, Cond.instanceMethod yX1_deedOf, Cond.selects RX1 yX1_deedOf yX1_deedOf, Cond.code yX1_deedOf cX1_deedOf 2 (some .int), Cond.methodLink RX1 68 yX1_isHidden, Cond.instanceMethod yX1_isHidden]
def wsX3_claim_r3 : List Cond := [Cond.selects RX1 yX1_isHidden yX1_isHidden, Cond.code yX1_isHidden cX1_isHidden 4 (some .boolean), Cond.static yX3_bit, Cond.code yX3_bit cX3_bit 1 (some .int), Cond.static yX3_leastOf, Cond.code yX3_leastOf cX3_leastOf 2 (some .int), Cond.static yX3_without, Cond.code yX3_without cX3_without 2 (some .int)]
def wsX3_claim : List Cond := .code yX3_claim cX3_claim 6 (some .int) :: ((wsX3_claim_r1 ++ (wsX3_claim_r2 ++ wsX3_claim_r3)) ++ wsX30 ++ wsX10)
def wsX3_commonDivisor : List Cond := .code yX3_commonDivisor cX3_commonDivisor 6 (some .int) :: ([])
def wsX3_inLeastTerms : List Cond := .code yX3_inLeastTerms cX3_inLeastTerms 5 (some .int) :: ([.methodLink RX3 220 Lib.Math.abs.name, .static Lib.Math.abs.name, .initialized "java/lang/Math", .code Lib.Math.abs.name Lib.Math.abs.code 1 (some .int), .methodLink RX3 225 yX3_commonDivisor, .static yX3_commonDivisor, .initialized RX3, .code yX3_commonDivisor cX3_commonDivisor 6 (some .int)])
def wsX3_factorial : List Cond := .code yX3_factorial cX3_factorial 3 (some .int) :: ([])
def wsX3_share_r1 : List Cond := [Cond.fieldLink RX3 19 "ArrestOrder" "now" "LArrestOrder$Standing;", Cond.instanceMethod yX1_has, Cond.initialized RX1, Cond.selects RX1 yX1_has yX1_has, Cond.code yX1_has cX1_has 2 (some .boolean), Cond.fieldLink RX1 9 "ArrestOrder$Standing" "people" "I", Cond.methodLink RX3 107 yX3_isIn, Cond.static yX3_isIn, Cond.initialized RX3, Cond.code yX3_isIn cX3_isIn 2 (some .boolean), Cond.methodLink RX3 173 yX3_inLeastTerms, Cond.static yX3_inLeastTerms, Cond.code yX3_inLeastTerms cX3_inLeastTerms 5 (some .int), Cond.methodLink RX3 220 Lib.Math.abs.name, Cond.static Lib.Math.abs.name, Cond.initialized "java/lang/Math", Cond.code Lib.Math.abs.name Lib.Math.abs.code 1 (some .int), Cond.methodLink RX3 225 yX3_commonDivisor, Cond.static yX3_commonDivisor, Cond.code yX3_commonDivisor cX3_commonDivisor 6 (some .int), Cond.methodLink RX3 114 yX3_without, Cond.static yX3_without, Cond.code yX3_without cX3_without 2 (some .int), Cond.methodLink RX3 118 yJ6_bitCount_0f7a4]
def wsX3_share_r2 : List Cond := [Cond.static yJ6_bitCount_0f7a4, Cond.initialized RJ6, Cond.code yJ6_bitCount_0f7a4 cJ6_bitCount_0f7a4 1 (some .int), Cond.constant RJ6 265 (1431655765), Cond.constant RJ6 266 (858993459), Cond.constant RJ6 267 (252645135), Cond.methodLink RX3 177 yX3_factorial, Cond.static yX3_factorial, Cond.code yX3_factorial cX3_factorial 3 (some .int), Cond.methodLink RX3 123 yX3_bit, Cond.static yX3_bit, Cond.code yX3_bit cX3_bit 1 (some .int), Cond.instanceMethod yX1_countTaken, Cond.selects RX1 yX1_countTaken yX1_countTaken, Cond.code yX1_countTaken cX1_countTaken 2 (some .int), Cond.methodLink RX1 83 yJ6_bitCount_0f7a4, Cond.methodLink RX1 80 yX1_leftBehind, Cond.instanceMethod yX1_leftBehind, Cond.selects RX1 yX1_leftBehind yX1_leftBehind, Cond.code yX1_leftBehind cX1_leftBehind 5 (some .int), Cond.methodLink RX1 62 yX1_mayBeTaken, Cond.instanceMethod yX1_mayBeTaken, Cond.selects RX1 yX1_mayBeTaken yX1_mayBeTaken, Cond.code yX1_mayBeTaken cX1_mayBeTaken 6 (some .int)]
def wsX3_share_r3 : List Cond := [Cond.methodLink RX1 74 yX1_gradeOf, Cond.instanceMethod yX1_gradeOf, Cond.selects RX1 yX1_gradeOf yX1_gradeOf, Cond.code yX1_gradeOf cX1_gradeOf 3 (some .int), Cond.methodLink RX1 38 yX1_kindOf, Cond.instanceMethod yX1_kindOf, Cond.selects RX1 yX1_kindOf yX1_kindOf, Cond.code yX1_kindOf cX1_kindOf 2 (some .int), Cond.fieldLink RX1 15 "ArrestOrder$Standing" "kinds" "I", Cond.methodLink RX1 41 yX1_deedOf, Cond.instanceMethod yX1_deedOf, Cond.selects RX1 yX1_deedOf yX1_deedOf, Cond.code yX1_deedOf cX1_deedOf 2 (some .int), Cond.fieldLink RX1 18 "ArrestOrder$Standing" "deeds" "I", Cond.methodLink RX1 68 yX1_isHidden, Cond.instanceMethod yX1_isHidden, Cond.selects RX1 yX1_isHidden yX1_isHidden, Cond.code yX1_isHidden cX1_isHidden 4 (some .boolean), Cond.fieldLink RX1 21 "ArrestOrder$Standing" "feeding" "J"]
def wsX3_share : List Cond := .code yX3_share cX3_share 9 (some .int) :: ((wsX3_share_r1 ++ (wsX3_share_r2 ++ wsX3_share_r3)) ++ wsX30 ++ wsX10)
def wsX3_see : List Cond := .code yX3_see cX3_see 3 (some .int) :: ([.fieldLink RX3 19 "ArrestOrder" "now" "LArrestOrder$Standing;", .fieldLink RX3 89 "ArrestOrder" "seenCount" "I", .fieldLink RX3 37 "ArrestOrder" "seen" "[I", .instanceMethod yX1_has, .initialized RX1, .selects RX1 yX1_has yX1_has, .code yX1_has cX1_has 2 (some .boolean), .fieldLink RX1 9 "ArrestOrder$Standing" "people" "I"] ++ wsX30 ++ wsX10)
def wsX3_unsee : List Cond := .code yX3_unsee cX3_unsee 2 (some .int) :: ([.fieldLink RX3 89 "ArrestOrder" "seenCount" "I"] ++ wsX30)
def wsX3_isSo_r1 : List Cond := [Cond.fieldLink RX3 23 "ArrestOrder" "trial" "LArrestOrder$Standing;", Cond.instanceMethod yX1_has, Cond.initialized RX1, Cond.selects RX1 yX1_has yX1_has, Cond.code yX1_has cX1_has 2 (some .boolean), Cond.fieldLink RX1 9 "ArrestOrder$Standing" "people" "I", Cond.instanceMethod yX1_placeOf, Cond.selects RX1 yX1_placeOf yX1_placeOf, Cond.code yX1_placeOf cX1_placeOf 5 (some .int), Cond.fieldLink RX1 25 "ArrestOrder$Standing" "large" "I", Cond.methodLink RX1 62 yX1_mayBeTaken, Cond.instanceMethod yX1_mayBeTaken, Cond.selects RX1 yX1_mayBeTaken yX1_mayBeTaken, Cond.code yX1_mayBeTaken cX1_mayBeTaken 6 (some .int), Cond.static yX3_isIn, Cond.initialized RX3, Cond.code yX3_isIn cX3_isIn 2 (some .boolean), Cond.methodLink RX1 74 yX1_gradeOf, Cond.instanceMethod yX1_gradeOf, Cond.selects RX1 yX1_gradeOf yX1_gradeOf, Cond.code yX1_gradeOf cX1_gradeOf 3 (some .int), Cond.methodLink RX1 38 yX1_kindOf, Cond.instanceMethod yX1_kindOf, Cond.selects RX1 yX1_kindOf yX1_kindOf]
def wsX3_isSo_r2 : List Cond := [Cond.code yX1_kindOf cX1_kindOf 2 (some .int), Cond.fieldLink RX1 15 "ArrestOrder$Standing" "kinds" "I", Cond.methodLink RX1 41 yX1_deedOf, Cond.instanceMethod yX1_deedOf, Cond.selects RX1 yX1_deedOf yX1_deedOf, Cond.code yX1_deedOf cX1_deedOf 2 (some .int), Cond.fieldLink RX1 18 "ArrestOrder$Standing" "deeds" "I", Cond.methodLink RX1 68 yX1_isHidden, Cond.instanceMethod yX1_isHidden, Cond.selects RX1 yX1_isHidden yX1_isHidden, Cond.code yX1_isHidden cX1_isHidden 4 (some .boolean), Cond.fieldLink RX1 21 "ArrestOrder$Standing" "feeding" "J", Cond.static yX3_bit, Cond.code yX3_bit cX3_bit 1 (some .int), Cond.static yX3_leastOf, Cond.code yX3_leastOf cX3_leastOf 2 (some .int), Cond.methodLink RX3 107 yX3_isIn, Cond.static yX3_without, Cond.code yX3_without cX3_without 2 (some .int)]
def wsX3_isSo : List Cond := .code yX3_isSo cX3_isSo 5 (some .boolean) :: ((wsX3_isSo_r1 ++ wsX3_isSo_r2) ++ wsX30 ++ wsX10)
def wsX3_allSeenIsSo_r1 : List Cond := [Cond.fieldLink RX3 89 "ArrestOrder" "seenCount" "I", Cond.fieldLink RX3 37 "ArrestOrder" "seen" "[I", Cond.methodLink RX3 208 yX3_isSo, Cond.instanceMethod yX3_isSo, Cond.selects RX3 yX3_isSo yX3_isSo, Cond.initialized RX3, Cond.code yX3_isSo cX3_isSo 5 (some .boolean), Cond.fieldLink RX3 23 "ArrestOrder" "trial" "LArrestOrder$Standing;", Cond.instanceMethod yX1_has, Cond.initialized RX1, Cond.selects RX1 yX1_has yX1_has, Cond.code yX1_has cX1_has 2 (some .boolean), Cond.fieldLink RX1 9 "ArrestOrder$Standing" "people" "I", Cond.instanceMethod yX1_placeOf, Cond.selects RX1 yX1_placeOf yX1_placeOf, Cond.code yX1_placeOf cX1_placeOf 5 (some .int), Cond.fieldLink RX1 25 "ArrestOrder$Standing" "large" "I", Cond.methodLink RX1 62 yX1_mayBeTaken, Cond.instanceMethod yX1_mayBeTaken, Cond.selects RX1 yX1_mayBeTaken yX1_mayBeTaken, Cond.code yX1_mayBeTaken cX1_mayBeTaken 6 (some .int), Cond.static yX3_isIn, Cond.code yX3_isIn cX3_isIn 2 (some .boolean), Cond.methodLink RX1 74 yX1_gradeOf]
def wsX3_allSeenIsSo_r2 : List Cond := [Cond.instanceMethod yX1_gradeOf, Cond.selects RX1 yX1_gradeOf yX1_gradeOf, Cond.code yX1_gradeOf cX1_gradeOf 3 (some .int), Cond.methodLink RX1 38 yX1_kindOf, Cond.instanceMethod yX1_kindOf, Cond.selects RX1 yX1_kindOf yX1_kindOf, Cond.code yX1_kindOf cX1_kindOf 2 (some .int), Cond.fieldLink RX1 15 "ArrestOrder$Standing" "kinds" "I", Cond.methodLink RX1 41 yX1_deedOf, Cond.instanceMethod yX1_deedOf, Cond.selects RX1 yX1_deedOf yX1_deedOf, Cond.code yX1_deedOf cX1_deedOf 2 (some .int), Cond.fieldLink RX1 18 "ArrestOrder$Standing" "deeds" "I", Cond.methodLink RX1 68 yX1_isHidden, Cond.instanceMethod yX1_isHidden, Cond.selects RX1 yX1_isHidden yX1_isHidden, Cond.code yX1_isHidden cX1_isHidden 4 (some .boolean), Cond.fieldLink RX1 21 "ArrestOrder$Standing" "feeding" "J", Cond.static yX3_bit, Cond.code yX3_bit cX3_bit 1 (some .int), Cond.static yX3_leastOf, Cond.code yX3_leastOf cX3_leastOf 2 (some .int), Cond.methodLink RX3 107 yX3_isIn, Cond.static yX3_without]
def wsX3_allSeenIsSo_r3 : List Cond := [Cond.code yX3_without cX3_without 2 (some .int)]
def wsX3_allSeenIsSo : List Cond := .code yX3_allSeenIsSo cX3_allSeenIsSo 2 (some .boolean) :: ((wsX3_allSeenIsSo_r1 ++ (wsX3_allSeenIsSo_r2 ++ wsX3_allSeenIsSo_r3)) ++ wsX30 ++ wsX10)
def wsX3_did_r1 : List Cond := [Cond.fieldLink RX3 19 "ArrestOrder" "now" "LArrestOrder$Standing;", Cond.fieldLink RX3 23 "ArrestOrder" "trial" "LArrestOrder$Standing;", Cond.instanceMethod yX1_has, Cond.initialized RX1, Cond.selects RX1 yX1_has yX1_has, Cond.code yX1_has cX1_has 2 (some .boolean), Cond.fieldLink RX1 9 "ArrestOrder$Standing" "people" "I", Cond.instanceMethod yX1_copy, Cond.selects RX1 yX1_copy yX1_copy, Cond.code yX1_copy cX1_copy 2 none, Cond.fieldLink RX1 15 "ArrestOrder$Standing" "kinds" "I", Cond.fieldLink RX1 18 "ArrestOrder$Standing" "deeds" "I", Cond.fieldLink RX1 21 "ArrestOrder$Standing" "feeding" "J", Cond.fieldLink RX1 25 "ArrestOrder$Standing" "large" "I", Cond.fieldLink RX1 28 "ArrestOrder$Standing" "dead" "I", Cond.fieldLink RX1 31 "ArrestOrder$Standing" "dayNumber" "I", Cond.instanceMethod yX1_setDeed, Cond.selects RX1 yX1_setDeed yX1_setDeed, Cond.code yX1_setDeed cX1_setDeed 3 none, Cond.methodLink RX3 183 yX3_allSeenIsSo, Cond.instanceMethod yX3_allSeenIsSo, Cond.selects RX3 yX3_allSeenIsSo yX3_allSeenIsSo, Cond.initialized RX3, Cond.code yX3_allSeenIsSo cX3_allSeenIsSo 2 (some .boolean)]
def wsX3_did_r2 : List Cond := [Cond.fieldLink RX3 89 "ArrestOrder" "seenCount" "I", Cond.fieldLink RX3 37 "ArrestOrder" "seen" "[I", Cond.methodLink RX3 208 yX3_isSo, Cond.instanceMethod yX3_isSo, Cond.selects RX3 yX3_isSo yX3_isSo, Cond.code yX3_isSo cX3_isSo 5 (some .boolean), Cond.instanceMethod yX1_placeOf, Cond.selects RX1 yX1_placeOf yX1_placeOf, Cond.code yX1_placeOf cX1_placeOf 5 (some .int), Cond.methodLink RX1 62 yX1_mayBeTaken, Cond.instanceMethod yX1_mayBeTaken, Cond.selects RX1 yX1_mayBeTaken yX1_mayBeTaken, Cond.code yX1_mayBeTaken cX1_mayBeTaken 6 (some .int), Cond.static yX3_isIn, Cond.code yX3_isIn cX3_isIn 2 (some .boolean), Cond.methodLink RX1 74 yX1_gradeOf, Cond.instanceMethod yX1_gradeOf, Cond.selects RX1 yX1_gradeOf yX1_gradeOf, Cond.code yX1_gradeOf cX1_gradeOf 3 (some .int), Cond.methodLink RX1 38 yX1_kindOf, Cond.instanceMethod yX1_kindOf, Cond.selects RX1 yX1_kindOf yX1_kindOf, Cond.code yX1_kindOf cX1_kindOf 2 (some .int), Cond.methodLink RX1 41 yX1_deedOf]
def wsX3_did_r3 : List Cond := [Cond.instanceMethod yX1_deedOf, Cond.selects RX1 yX1_deedOf yX1_deedOf, Cond.code yX1_deedOf cX1_deedOf 2 (some .int), Cond.methodLink RX1 68 yX1_isHidden, Cond.instanceMethod yX1_isHidden, Cond.selects RX1 yX1_isHidden yX1_isHidden, Cond.code yX1_isHidden cX1_isHidden 4 (some .boolean), Cond.static yX3_bit, Cond.code yX3_bit cX3_bit 1 (some .int), Cond.static yX3_leastOf, Cond.code yX3_leastOf cX3_leastOf 2 (some .int), Cond.methodLink RX3 107 yX3_isIn, Cond.static yX3_without, Cond.code yX3_without cX3_without 2 (some .int), Cond.methodLink RX3 123 yX3_bit]
def wsX3_did : List Cond := .code yX3_did cX3_did 4 (some .int) :: ((wsX3_did_r1 ++ (wsX3_did_r2 ++ wsX3_did_r3)) ++ wsX30 ++ wsX10)
def wsX3_isOpen : List Cond := .code yX3_isOpen cX3_isOpen 2 (some .boolean) :: ([])
def wsX3_chosen : List Cond := .code yX3_chosen cX3_chosen 2 (some .long) :: ([.methodLink RX3 214 yX3_isOpen, .static yX3_isOpen, .initialized RX3, .code yX3_isOpen cX3_isOpen 2 (some .boolean), .methodLink RX3 134 yX3_pair, .static yX3_pair, .code yX3_pair cX3_pair 2 (some .long)])
def wsX3_cost : List Cond := .code yX3_cost cX3_cost 1 (some .int) :: ([])
def wsX3_weighChoices_r1 : List Cond := [Cond.fieldLink RX3 23 "ArrestOrder" "trial" "LArrestOrder$Standing;", Cond.fieldLink RX3 19 "ArrestOrder" "now" "LArrestOrder$Standing;", Cond.fieldLink RX3 41 "ArrestOrder" "oneHas" "[I", Cond.fieldLink RX3 44 "ArrestOrder" "otherHas" "[I", Cond.instanceMethod yX1_copy, Cond.initialized RX1, Cond.selects RX1 yX1_copy yX1_copy, Cond.code yX1_copy cX1_copy 2 none, Cond.fieldLink RX1 9 "ArrestOrder$Standing" "people" "I", Cond.fieldLink RX1 15 "ArrestOrder$Standing" "kinds" "I", Cond.fieldLink RX1 18 "ArrestOrder$Standing" "deeds" "I", Cond.fieldLink RX1 21 "ArrestOrder$Standing" "feeding" "J", Cond.fieldLink RX1 25 "ArrestOrder$Standing" "large" "I", Cond.fieldLink RX1 28 "ArrestOrder$Standing" "dead" "I", Cond.fieldLink RX1 31 "ArrestOrder$Standing" "dayNumber" "I", Cond.methodLink RX3 211 yX3_chosen, Cond.static yX3_chosen, Cond.initialized RX3, Cond.code yX3_chosen cX3_chosen 2 (some .long), Cond.methodLink RX3 214 yX3_isOpen, Cond.static yX3_isOpen, Cond.code yX3_isOpen cX3_isOpen 2 (some .boolean), Cond.methodLink RX3 134 yX3_pair, Cond.static yX3_pair]
def wsX3_weighChoices_r2 : List Cond := [Cond.code yX3_pair cX3_pair 2 (some .long), Cond.instanceMethod yX1_worthOf, Cond.selects RX1 yX1_worthOf yX1_worthOf, Cond.code yX1_worthOf cX1_worthOf 3 (some .int), Cond.methodLink RX1 77 yX1_placeOf, Cond.instanceMethod yX1_placeOf, Cond.selects RX1 yX1_placeOf yX1_placeOf, Cond.code yX1_placeOf cX1_placeOf 5 (some .int), Cond.methodLink RX1 62 yX1_mayBeTaken, Cond.instanceMethod yX1_mayBeTaken, Cond.selects RX1 yX1_mayBeTaken yX1_mayBeTaken, Cond.code yX1_mayBeTaken cX1_mayBeTaken 6 (some .int), Cond.static yX3_isIn, Cond.code yX3_isIn cX3_isIn 2 (some .boolean), Cond.methodLink RX1 74 yX1_gradeOf, Cond.instanceMethod yX1_gradeOf, Cond.selects RX1 yX1_gradeOf yX1_gradeOf, Cond.code yX1_gradeOf cX1_gradeOf 3 (some .int), Cond.methodLink RX1 38 yX1_kindOf, Cond.instanceMethod yX1_kindOf, Cond.selects RX1 yX1_kindOf yX1_kindOf, Cond.code yX1_kindOf cX1_kindOf 2 (some .int), Cond.methodLink RX1 41 yX1_deedOf, Cond.instanceMethod yX1_deedOf]
def wsX3_weighChoices_r3 : List Cond := [Cond.selects RX1 yX1_deedOf yX1_deedOf, Cond.code yX1_deedOf cX1_deedOf 2 (some .int), Cond.methodLink RX1 68 yX1_isHidden, Cond.instanceMethod yX1_isHidden, Cond.selects RX1 yX1_isHidden yX1_isHidden, Cond.code yX1_isHidden cX1_isHidden 4 (some .boolean), Cond.static yX3_bit, Cond.code yX3_bit cX3_bit 1 (some .int), Cond.static yX3_leastOf, Cond.code yX3_leastOf cX3_leastOf 2 (some .int), Cond.methodLink RX3 107 yX3_isIn, Cond.static yX3_without, Cond.code yX3_without cX3_without 2 (some .int), Cond.methodLink RX3 217 yX3_cost, Cond.static yX3_cost, Cond.code yX3_cost cX3_cost 1 (some .int)]
def wsX3_weighChoices : List Cond := .code yX3_weighChoices cX3_weighChoices 6 none :: ((wsX3_weighChoices_r1 ++ (wsX3_weighChoices_r2 ++ wsX3_weighChoices_r3)) ++ wsX30 ++ wsX10)
def wsX3_isRest : List Cond := .code yX3_isRest cX3_isRest 5 (some .boolean) :: ([.fieldLink RX3 19 "ArrestOrder" "now" "LArrestOrder$Standing;", .fieldLink RX3 41 "ArrestOrder" "oneHas" "[I", .fieldLink RX3 44 "ArrestOrder" "otherHas" "[I"] ++ wsX30 ++ wsX10)
def wsX3_rests_r1 : List Cond := [Cond.fieldLink RX3 19 "ArrestOrder" "now" "LArrestOrder$Standing;", Cond.instanceMethod yX1_has, Cond.initialized RX1, Cond.selects RX1 yX1_has yX1_has, Cond.code yX1_has cX1_has 2 (some .boolean), Cond.fieldLink RX1 9 "ArrestOrder$Standing" "people" "I", Cond.methodLink RX3 107 yX3_isIn, Cond.static yX3_isIn, Cond.initialized RX3, Cond.code yX3_isIn cX3_isIn 2 (some .boolean), Cond.methodLink RX3 187 yX3_weighChoices, Cond.instanceMethod yX3_weighChoices, Cond.selects RX3 yX3_weighChoices yX3_weighChoices, Cond.code yX3_weighChoices cX3_weighChoices 6 none, Cond.fieldLink RX3 23 "ArrestOrder" "trial" "LArrestOrder$Standing;", Cond.fieldLink RX3 41 "ArrestOrder" "oneHas" "[I", Cond.fieldLink RX3 44 "ArrestOrder" "otherHas" "[I", Cond.instanceMethod yX1_copy, Cond.selects RX1 yX1_copy yX1_copy, Cond.code yX1_copy cX1_copy 2 none, Cond.fieldLink RX1 15 "ArrestOrder$Standing" "kinds" "I", Cond.fieldLink RX1 18 "ArrestOrder$Standing" "deeds" "I", Cond.fieldLink RX1 21 "ArrestOrder$Standing" "feeding" "J", Cond.fieldLink RX1 25 "ArrestOrder$Standing" "large" "I"]
def wsX3_rests_r2 : List Cond := [Cond.fieldLink RX1 28 "ArrestOrder$Standing" "dead" "I", Cond.fieldLink RX1 31 "ArrestOrder$Standing" "dayNumber" "I", Cond.methodLink RX3 211 yX3_chosen, Cond.static yX3_chosen, Cond.code yX3_chosen cX3_chosen 2 (some .long), Cond.methodLink RX3 214 yX3_isOpen, Cond.static yX3_isOpen, Cond.code yX3_isOpen cX3_isOpen 2 (some .boolean), Cond.methodLink RX3 134 yX3_pair, Cond.static yX3_pair, Cond.code yX3_pair cX3_pair 2 (some .long), Cond.instanceMethod yX1_worthOf, Cond.selects RX1 yX1_worthOf yX1_worthOf, Cond.code yX1_worthOf cX1_worthOf 3 (some .int), Cond.methodLink RX1 77 yX1_placeOf, Cond.instanceMethod yX1_placeOf, Cond.selects RX1 yX1_placeOf yX1_placeOf, Cond.code yX1_placeOf cX1_placeOf 5 (some .int), Cond.methodLink RX1 62 yX1_mayBeTaken, Cond.instanceMethod yX1_mayBeTaken, Cond.selects RX1 yX1_mayBeTaken yX1_mayBeTaken, Cond.code yX1_mayBeTaken cX1_mayBeTaken 6 (some .int), Cond.methodLink RX1 74 yX1_gradeOf, Cond.instanceMethod yX1_gradeOf]
def wsX3_rests_r3 : List Cond := [Cond.selects RX1 yX1_gradeOf yX1_gradeOf, Cond.code yX1_gradeOf cX1_gradeOf 3 (some .int), Cond.methodLink RX1 38 yX1_kindOf, Cond.instanceMethod yX1_kindOf, Cond.selects RX1 yX1_kindOf yX1_kindOf, Cond.code yX1_kindOf cX1_kindOf 2 (some .int), Cond.methodLink RX1 41 yX1_deedOf, Cond.instanceMethod yX1_deedOf, Cond.selects RX1 yX1_deedOf yX1_deedOf, Cond.code yX1_deedOf cX1_deedOf 2 (some .int), Cond.methodLink RX1 68 yX1_isHidden, Cond.instanceMethod yX1_isHidden, Cond.selects RX1 yX1_isHidden yX1_isHidden, Cond.code yX1_isHidden cX1_isHidden 4 (some .boolean), Cond.static yX3_bit, Cond.code yX3_bit cX3_bit 1 (some .int), Cond.static yX3_leastOf, Cond.code yX3_leastOf cX3_leastOf 2 (some .int), Cond.static yX3_without, Cond.code yX3_without cX3_without 2 (some .int), Cond.methodLink RX3 217 yX3_cost, Cond.static yX3_cost, Cond.code yX3_cost cX3_cost 1 (some .int), Cond.methodLink RX3 190 yX3_isRest]
def wsX3_rests_r4 : List Cond := [Cond.instanceMethod yX3_isRest, Cond.selects RX3 yX3_isRest yX3_isRest, Cond.code yX3_isRest cX3_isRest 5 (some .boolean)]
def wsX3_rests : List Cond := .code yX3_rests cX3_rests 8 (some .int) :: ((wsX3_rests_r1 ++ (wsX3_rests_r2 ++ (wsX3_rests_r3 ++ wsX3_rests_r4))) ++ wsX30 ++ wsX10)
def wsX3_toss_r1 : List Cond := [Cond.fieldLink RX3 19 "ArrestOrder" "now" "LArrestOrder$Standing;", Cond.instanceMethod yX1_has, Cond.initialized RX1, Cond.selects RX1 yX1_has yX1_has, Cond.code yX1_has cX1_has 2 (some .boolean), Cond.fieldLink RX1 9 "ArrestOrder$Standing" "people" "I", Cond.instanceMethod yX1_isTaken, Cond.selects RX1 yX1_isTaken yX1_isTaken, Cond.code yX1_isTaken cX1_isTaken 3 (some .boolean), Cond.methodLink RX1 80 yX1_leftBehind, Cond.instanceMethod yX1_leftBehind, Cond.selects RX1 yX1_leftBehind yX1_leftBehind, Cond.code yX1_leftBehind cX1_leftBehind 5 (some .int), Cond.methodLink RX1 62 yX1_mayBeTaken, Cond.instanceMethod yX1_mayBeTaken, Cond.selects RX1 yX1_mayBeTaken yX1_mayBeTaken, Cond.code yX1_mayBeTaken cX1_mayBeTaken 6 (some .int), Cond.static yX3_isIn, Cond.initialized RX3, Cond.code yX3_isIn cX3_isIn 2 (some .boolean), Cond.methodLink RX1 74 yX1_gradeOf, Cond.instanceMethod yX1_gradeOf, Cond.selects RX1 yX1_gradeOf yX1_gradeOf, Cond.code yX1_gradeOf cX1_gradeOf 3 (some .int)]
def wsX3_toss_r2 : List Cond := [Cond.methodLink RX1 38 yX1_kindOf, Cond.instanceMethod yX1_kindOf, Cond.selects RX1 yX1_kindOf yX1_kindOf, Cond.code yX1_kindOf cX1_kindOf 2 (some .int), Cond.fieldLink RX1 15 "ArrestOrder$Standing" "kinds" "I", Cond.methodLink RX1 41 yX1_deedOf, Cond.instanceMethod yX1_deedOf, Cond.selects RX1 yX1_deedOf yX1_deedOf, Cond.code yX1_deedOf cX1_deedOf 2 (some .int), Cond.fieldLink RX1 18 "ArrestOrder$Standing" "deeds" "I", Cond.methodLink RX1 68 yX1_isHidden, Cond.instanceMethod yX1_isHidden, Cond.selects RX1 yX1_isHidden yX1_isHidden, Cond.code yX1_isHidden cX1_isHidden 4 (some .boolean), Cond.fieldLink RX1 21 "ArrestOrder$Standing" "feeding" "J", Cond.static yX3_bit, Cond.code yX3_bit cX3_bit 1 (some .int), Cond.methodLink RX3 173 yX3_inLeastTerms, Cond.static yX3_inLeastTerms, Cond.code yX3_inLeastTerms cX3_inLeastTerms 5 (some .int), Cond.methodLink RX3 220 Lib.Math.abs.name, Cond.static Lib.Math.abs.name, Cond.initialized "java/lang/Math", Cond.code Lib.Math.abs.name Lib.Math.abs.code 1 (some .int)]
def wsX3_toss_r3 : List Cond := [Cond.methodLink RX3 225 yX3_commonDivisor, Cond.static yX3_commonDivisor, Cond.code yX3_commonDivisor cX3_commonDivisor 6 (some .int)]
def wsX3_toss : List Cond := .code yX3_toss cX3_toss 3 (some .int) :: ((wsX3_toss_r1 ++ (wsX3_toss_r2 ++ wsX3_toss_r3)) ++ wsX30 ++ wsX10)
def wsX3_seed : List Cond := .code yX3_seed cX3_seed 5 (some .long) :: ([.fieldLink RX3 193 "ArrestOrder" "seed" "J"] ++ wsX30)
def wsX3_days_r1 : List Cond := [Cond.fieldLink RX3 23 "ArrestOrder" "trial" "LArrestOrder$Standing;", Cond.fieldLink RX3 19 "ArrestOrder" "now" "LArrestOrder$Standing;", Cond.fieldLink RX3 193 "ArrestOrder" "seed" "J", Cond.constantLong RX3 196 (6364136223846793005), Cond.constantLong RX3 198 (1442695040888963407), Cond.instanceMethod yX1_copy, Cond.initialized RX1, Cond.selects RX1 yX1_copy yX1_copy, Cond.code yX1_copy cX1_copy 2 none, Cond.fieldLink RX1 9 "ArrestOrder$Standing" "people" "I", Cond.fieldLink RX1 15 "ArrestOrder$Standing" "kinds" "I", Cond.fieldLink RX1 18 "ArrestOrder$Standing" "deeds" "I", Cond.fieldLink RX1 21 "ArrestOrder$Standing" "feeding" "J", Cond.fieldLink RX1 25 "ArrestOrder$Standing" "large" "I", Cond.fieldLink RX1 28 "ArrestOrder$Standing" "dead" "I", Cond.fieldLink RX1 31 "ArrestOrder$Standing" "dayNumber" "I", Cond.instanceMethod yX1_passDay, Cond.selects RX1 yX1_passDay yX1_passDay, Cond.code yX1_passDay cX1_passDay 2 (some .int), Cond.methodLink RX1 62 yX1_mayBeTaken, Cond.instanceMethod yX1_mayBeTaken, Cond.selects RX1 yX1_mayBeTaken yX1_mayBeTaken, Cond.code yX1_mayBeTaken cX1_mayBeTaken 6 (some .int), Cond.static yX3_isIn]
def wsX3_days_r2 : List Cond := [Cond.initialized RX3, Cond.code yX3_isIn cX3_isIn 2 (some .boolean), Cond.methodLink RX1 74 yX1_gradeOf, Cond.instanceMethod yX1_gradeOf, Cond.selects RX1 yX1_gradeOf yX1_gradeOf, Cond.code yX1_gradeOf cX1_gradeOf 3 (some .int), Cond.methodLink RX1 38 yX1_kindOf, Cond.instanceMethod yX1_kindOf, Cond.selects RX1 yX1_kindOf yX1_kindOf, Cond.code yX1_kindOf cX1_kindOf 2 (some .int), Cond.methodLink RX1 41 yX1_deedOf, Cond.instanceMethod yX1_deedOf, Cond.selects RX1 yX1_deedOf yX1_deedOf, Cond.code yX1_deedOf cX1_deedOf 2 (some .int), Cond.methodLink RX1 68 yX1_isHidden, Cond.instanceMethod yX1_isHidden, Cond.selects RX1 yX1_isHidden yX1_isHidden, Cond.code yX1_isHidden cX1_isHidden 4 (some .boolean), Cond.static yX3_bit, Cond.code yX3_bit cX3_bit 1 (some .int), Cond.static yX3_leastOf, Cond.code yX3_leastOf cX3_leastOf 2 (some .int), Cond.methodLink RX3 107 yX3_isIn, Cond.static yX3_without]
def wsX3_days_r3 : List Cond := [Cond.code yX3_without cX3_without 2 (some .int), Cond.instanceMethod yX1_has, Cond.selects RX1 yX1_has yX1_has, Cond.code yX1_has cX1_has 2 (some .boolean), Cond.instanceMethod yX1_bury, Cond.selects RX1 yX1_bury yX1_bury, Cond.code yX1_bury cX1_bury 2 none]
def wsX3_days : List Cond := .code yX3_days cX3_days 5 (some .int) :: ((wsX3_days_r1 ++ (wsX3_days_r2 ++ wsX3_days_r3)) ++ wsX30 ++ wsX10)
def wsX3_keep : List Cond := .code yX3_keep cX3_keep 2 (some .int) :: ([.fieldLink RX3 33 "ArrestOrder" "slots" "[LArrestOrder$Standing;", .fieldLink RX3 19 "ArrestOrder" "now" "LArrestOrder$Standing;", .fieldLink RX3 66 "ArrestOrder" "keptSlots" "I", .instanceMethod yX1_copy, .initialized RX1, .selects RX1 yX1_copy yX1_copy, .code yX1_copy cX1_copy 2 none, .fieldLink RX1 9 "ArrestOrder$Standing" "people" "I", .fieldLink RX1 15 "ArrestOrder$Standing" "kinds" "I", .fieldLink RX1 18 "ArrestOrder$Standing" "deeds" "I", .fieldLink RX1 21 "ArrestOrder$Standing" "feeding" "J", .fieldLink RX1 25 "ArrestOrder$Standing" "large" "I", .fieldLink RX1 28 "ArrestOrder$Standing" "dead" "I", .fieldLink RX1 31 "ArrestOrder$Standing" "dayNumber" "I", .methodLink RX3 123 yX3_bit, .static yX3_bit, .initialized RX3, .code yX3_bit cX3_bit 1 (some .int)] ++ wsX30 ++ wsX10)
def wsX3_again : List Cond := .code yX3_again cX3_again 2 (some .int) :: ([.fieldLink RX3 66 "ArrestOrder" "keptSlots" "I", .fieldLink RX3 19 "ArrestOrder" "now" "LArrestOrder$Standing;", .fieldLink RX3 33 "ArrestOrder" "slots" "[LArrestOrder$Standing;", .fieldLink RX3 29 "ArrestOrder" "acts" "LArrestOrder$Acts;", .methodLink RX3 107 yX3_isIn, .static yX3_isIn, .initialized RX3, .code yX3_isIn cX3_isIn 2 (some .boolean), .instanceMethod yX1_copy, .initialized RX1, .selects RX1 yX1_copy yX1_copy, .code yX1_copy cX1_copy 2 none, .fieldLink RX1 9 "ArrestOrder$Standing" "people" "I", .fieldLink RX1 15 "ArrestOrder$Standing" "kinds" "I", .fieldLink RX1 18 "ArrestOrder$Standing" "deeds" "I", .fieldLink RX1 21 "ArrestOrder$Standing" "feeding" "J", .fieldLink RX1 25 "ArrestOrder$Standing" "large" "I", .fieldLink RX1 28 "ArrestOrder$Standing" "dead" "I", .fieldLink RX1 31 "ArrestOrder$Standing" "dayNumber" "I"] ++ wsX30 ++ wsX00 ++ wsX10)
def wsX4_init : List Cond := .code yX4_init cX4_init 1 none :: ([.methodLink RX4 1 objectInit, .instanceMethod objectInit, .code objectInit ⟨#[0xb1]⟩ 1 none, .arrayClass .int, .fieldLink RX4 7 "ArrestOrderModel" "text" "[I", .fieldLink RX4 13 "ArrestOrderModel" "kind" "[I", .fieldLink RX4 16 "ArrestOrderModel" "readDeed" "[I", .fieldLink RX4 19 "ArrestOrderModel" "readKind" "[I", .fieldLink RX4 22 "ArrestOrderModel" "readFeeds" "[I", .fieldLink RX4 25 "ArrestOrderModel" "page" "[I", .fieldLink RX4 28 "ArrestOrderModel" "trial" "[I", .fieldLink RX4 31 "ArrestOrderModel" "book" "[I", .fieldLink RX4 34 "ArrestOrderModel" "kept" "[I", .arrayClass .boolean, .fieldLink RX4 37 "ArrestOrderModel" "isKept" "[Z", .fieldLink RX4 41 "ArrestOrderModel" "seenOne" "[I", .fieldLink RX4 44 "ArrestOrderModel" "seenTwo" "[I", .fieldLink RX4 47 "ArrestOrderModel" "row" "[I", .fieldLink RX4 50 "ArrestOrderModel" "value" "[I", .fieldLink RX4 53 "ArrestOrderModel" "gains" "[I", .arrayClass .long, .fieldLink RX4 56 "ArrestOrderModel" "weight" "[J"] ++ wsX40)
def wsX4_in : List Cond := .code yX4_in cX4_in 6 (some .boolean) :: ([])
def wsX4_has : List Cond := .code yX4_has cX4_has 2 (some .boolean) :: ([])
def wsX4_many : List Cond := .code yX4_many cX4_many 3 (some .int) :: ([])
def wsX4_noPerson : List Cond := .code yX4_noPerson cX4_noPerson 2 (some .boolean) :: ([.fieldLink RX4 64 "ArrestOrderModel" "people" "I", .methodLink RX4 67 yX4_in, .static yX4_in, .initialized RX4, .code yX4_in cX4_in 6 (some .boolean)] ++ wsX40)
def wsX4_write : List Cond := .code yX4_write cX4_write 2 (some .int) :: ([.fieldLink RX4 60 "ArrestOrderModel" "thrown" "I", .constantLong RX4 71 (255), .fieldLink RX4 73 "ArrestOrderModel" "textSize" "I", .fieldLink RX4 7 "ArrestOrderModel" "text" "[I", .methodLink RX4 67 yX4_in, .static yX4_in, .initialized RX4, .code yX4_in cX4_in 6 (some .boolean)] ++ wsX40)
def wsX4_wipe : List Cond := .code yX4_wipe cX4_wipe 2 (some .int) :: ([.fieldLink RX4 60 "ArrestOrderModel" "thrown" "I", .fieldLink RX4 73 "ArrestOrderModel" "textSize" "I"] ++ wsX40)
def wsX4_figure : List Cond := .code yX4_figure cX4_figure 2 (some .int) :: ([.fieldLink RX4 76 "ArrestOrderModel" "place" "I", .fieldLink RX4 73 "ArrestOrderModel" "textSize" "I", .fieldLink RX4 7 "ArrestOrderModel" "text" "[I", .methodLink RX4 67 yX4_in, .static yX4_in, .initialized RX4, .code yX4_in cX4_in 6 (some .boolean)] ++ wsX40)
def wsX4_leftOf : List Cond := .code yX4_leftOf cX4_leftOf 2 (some .int) :: ([.fieldLink RX4 79 "ArrestOrderModel" "readPeople" "I", .fieldLink RX4 22 "ArrestOrderModel" "readFeeds" "[I"] ++ wsX40)
def wsX4_isLeft : List Cond := .code yX4_isLeft cX4_isLeft 3 (some .boolean) :: ([.fieldLink RX4 79 "ArrestOrderModel" "readPeople" "I", .methodLink RX4 82 yX4_leftOf, .instanceMethod yX4_leftOf, .selects RX4 yX4_leftOf yX4_leftOf, .initialized RX4, .code yX4_leftOf cX4_leftOf 2 (some .int), .fieldLink RX4 22 "ArrestOrderModel" "readFeeds" "[I"] ++ wsX40)
def wsX4_readPerson : List Cond := .code yX4_readPerson cX4_readPerson 3 (some .boolean) :: ([.fieldLink RX4 16 "ArrestOrderModel" "readDeed" "[I", .fieldLink RX4 79 "ArrestOrderModel" "readPeople" "I", .fieldLink RX4 19 "ArrestOrderModel" "readKind" "[I", .fieldLink RX4 22 "ArrestOrderModel" "readFeeds" "[I", .methodLink RX4 86 yX4_figure, .instanceMethod yX4_figure, .selects RX4 yX4_figure yX4_figure, .initialized RX4, .code yX4_figure cX4_figure 2 (some .int), .fieldLink RX4 76 "ArrestOrderModel" "place" "I", .fieldLink RX4 73 "ArrestOrderModel" "textSize" "I", .fieldLink RX4 7 "ArrestOrderModel" "text" "[I", .methodLink RX4 67 yX4_in, .static yX4_in, .code yX4_in cX4_in 6 (some .boolean)] ++ wsX40)
def wsX4_readPair : List Cond := .code yX4_readPair cX4_readPair 3 (some .boolean) :: ([.fieldLink RX4 76 "ArrestOrderModel" "place" "I", .fieldLink RX4 73 "ArrestOrderModel" "textSize" "I", .fieldLink RX4 7 "ArrestOrderModel" "text" "[I", .fieldLink RX4 79 "ArrestOrderModel" "readPeople" "I", .fieldLink RX4 22 "ArrestOrderModel" "readFeeds" "[I", .methodLink RX4 67 yX4_in, .static yX4_in, .initialized RX4, .code yX4_in cX4_in 6 (some .boolean), .methodLink RX4 82 yX4_leftOf, .instanceMethod yX4_leftOf, .selects RX4 yX4_leftOf yX4_leftOf, .code yX4_leftOf cX4_leftOf 2 (some .int), .methodLink RX4 89 yX4_has, .static yX4_has, .code yX4_has cX4_has 2 (some .boolean)] ++ wsX40)
def wsX4_readPart_r1 : List Cond := [Cond.fieldLink RX4 7 "ArrestOrderModel" "text" "[I", Cond.fieldLink RX4 76 "ArrestOrderModel" "place" "I", Cond.fieldLink RX4 79 "ArrestOrderModel" "readPeople" "I", Cond.methodLink RX4 93 yX4_readPerson, Cond.instanceMethod yX4_readPerson, Cond.selects RX4 yX4_readPerson yX4_readPerson, Cond.initialized RX4, Cond.code yX4_readPerson cX4_readPerson 3 (some .boolean), Cond.fieldLink RX4 16 "ArrestOrderModel" "readDeed" "[I", Cond.fieldLink RX4 19 "ArrestOrderModel" "readKind" "[I", Cond.fieldLink RX4 22 "ArrestOrderModel" "readFeeds" "[I", Cond.methodLink RX4 86 yX4_figure, Cond.instanceMethod yX4_figure, Cond.selects RX4 yX4_figure yX4_figure, Cond.code yX4_figure cX4_figure 2 (some .int), Cond.fieldLink RX4 73 "ArrestOrderModel" "textSize" "I", Cond.methodLink RX4 67 yX4_in, Cond.static yX4_in, Cond.code yX4_in cX4_in 6 (some .boolean), Cond.methodLink RX4 97 yX4_isLeft, Cond.instanceMethod yX4_isLeft, Cond.selects RX4 yX4_isLeft yX4_isLeft, Cond.code yX4_isLeft cX4_isLeft 3 (some .boolean), Cond.methodLink RX4 82 yX4_leftOf]
def wsX4_readPart_r2 : List Cond := [Cond.instanceMethod yX4_leftOf, Cond.selects RX4 yX4_leftOf yX4_leftOf, Cond.code yX4_leftOf cX4_leftOf 2 (some .int), Cond.methodLink RX4 100 yX4_readPair, Cond.instanceMethod yX4_readPair, Cond.selects RX4 yX4_readPair yX4_readPair, Cond.code yX4_readPair cX4_readPair 3 (some .boolean), Cond.methodLink RX4 89 yX4_has, Cond.static yX4_has, Cond.code yX4_has cX4_has 2 (some .boolean)]
def wsX4_readPart : List Cond := .code yX4_readPart cX4_readPart 2 (some .boolean) :: ((wsX4_readPart_r1 ++ wsX4_readPart_r2) ++ wsX40)
def wsX4_readCounty_r1 : List Cond := [Cond.fieldLink RX4 76 "ArrestOrderModel" "place" "I", Cond.fieldLink RX4 79 "ArrestOrderModel" "readPeople" "I", Cond.fieldLink RX4 73 "ArrestOrderModel" "textSize" "I", Cond.fieldLink RX4 7 "ArrestOrderModel" "text" "[I", Cond.methodLink RX4 103 yX4_readPart, Cond.instanceMethod yX4_readPart, Cond.selects RX4 yX4_readPart yX4_readPart, Cond.initialized RX4, Cond.code yX4_readPart cX4_readPart 2 (some .boolean), Cond.methodLink RX4 93 yX4_readPerson, Cond.instanceMethod yX4_readPerson, Cond.selects RX4 yX4_readPerson yX4_readPerson, Cond.code yX4_readPerson cX4_readPerson 3 (some .boolean), Cond.fieldLink RX4 16 "ArrestOrderModel" "readDeed" "[I", Cond.fieldLink RX4 19 "ArrestOrderModel" "readKind" "[I", Cond.fieldLink RX4 22 "ArrestOrderModel" "readFeeds" "[I", Cond.methodLink RX4 86 yX4_figure, Cond.instanceMethod yX4_figure, Cond.selects RX4 yX4_figure yX4_figure, Cond.code yX4_figure cX4_figure 2 (some .int), Cond.methodLink RX4 67 yX4_in, Cond.static yX4_in, Cond.code yX4_in cX4_in 6 (some .boolean), Cond.methodLink RX4 97 yX4_isLeft]
def wsX4_readCounty_r2 : List Cond := [Cond.instanceMethod yX4_isLeft, Cond.selects RX4 yX4_isLeft yX4_isLeft, Cond.code yX4_isLeft cX4_isLeft 3 (some .boolean), Cond.methodLink RX4 82 yX4_leftOf, Cond.instanceMethod yX4_leftOf, Cond.selects RX4 yX4_leftOf yX4_leftOf, Cond.code yX4_leftOf cX4_leftOf 2 (some .int), Cond.methodLink RX4 100 yX4_readPair, Cond.instanceMethod yX4_readPair, Cond.selects RX4 yX4_readPair yX4_readPair, Cond.code yX4_readPair cX4_readPair 3 (some .boolean), Cond.methodLink RX4 89 yX4_has, Cond.static yX4_has, Cond.code yX4_has cX4_has 2 (some .boolean)]
def wsX4_readCounty : List Cond := .code yX4_readCounty cX4_readCounty 1 (some .int) :: ((wsX4_readCounty_r1 ++ wsX4_readCounty_r2) ++ wsX40)
def wsX4_fault_r1 : List Cond := [Cond.fieldLink RX4 60 "ArrestOrderModel" "thrown" "I", Cond.methodLink RX4 106 yX4_readCounty, Cond.instanceMethod yX4_readCounty, Cond.selects RX4 yX4_readCounty yX4_readCounty, Cond.initialized RX4, Cond.code yX4_readCounty cX4_readCounty 1 (some .int), Cond.fieldLink RX4 76 "ArrestOrderModel" "place" "I", Cond.fieldLink RX4 79 "ArrestOrderModel" "readPeople" "I", Cond.fieldLink RX4 73 "ArrestOrderModel" "textSize" "I", Cond.fieldLink RX4 7 "ArrestOrderModel" "text" "[I", Cond.methodLink RX4 103 yX4_readPart, Cond.instanceMethod yX4_readPart, Cond.selects RX4 yX4_readPart yX4_readPart, Cond.code yX4_readPart cX4_readPart 2 (some .boolean), Cond.methodLink RX4 93 yX4_readPerson, Cond.instanceMethod yX4_readPerson, Cond.selects RX4 yX4_readPerson yX4_readPerson, Cond.code yX4_readPerson cX4_readPerson 3 (some .boolean), Cond.fieldLink RX4 16 "ArrestOrderModel" "readDeed" "[I", Cond.fieldLink RX4 19 "ArrestOrderModel" "readKind" "[I", Cond.fieldLink RX4 22 "ArrestOrderModel" "readFeeds" "[I", Cond.methodLink RX4 86 yX4_figure, Cond.instanceMethod yX4_figure, Cond.selects RX4 yX4_figure yX4_figure]
def wsX4_fault_r2 : List Cond := [Cond.code yX4_figure cX4_figure 2 (some .int), Cond.methodLink RX4 67 yX4_in, Cond.static yX4_in, Cond.code yX4_in cX4_in 6 (some .boolean), Cond.methodLink RX4 97 yX4_isLeft, Cond.instanceMethod yX4_isLeft, Cond.selects RX4 yX4_isLeft yX4_isLeft, Cond.code yX4_isLeft cX4_isLeft 3 (some .boolean), Cond.methodLink RX4 82 yX4_leftOf, Cond.instanceMethod yX4_leftOf, Cond.selects RX4 yX4_leftOf yX4_leftOf, Cond.code yX4_leftOf cX4_leftOf 2 (some .int), Cond.methodLink RX4 100 yX4_readPair, Cond.instanceMethod yX4_readPair, Cond.selects RX4 yX4_readPair yX4_readPair, Cond.code yX4_readPair cX4_readPair 3 (some .boolean), Cond.methodLink RX4 89 yX4_has, Cond.static yX4_has, Cond.code yX4_has cX4_has 2 (some .boolean)]
def wsX4_fault : List Cond := .code yX4_fault cX4_fault 1 (some .int) :: ((wsX4_fault_r1 ++ wsX4_fault_r2) ++ wsX40)
def wsX4_county_r1 : List Cond := [Cond.fieldLink RX4 60 "ArrestOrderModel" "thrown" "I", Cond.fieldLink RX4 79 "ArrestOrderModel" "readPeople" "I", Cond.fieldLink RX4 64 "ArrestOrderModel" "people" "I", Cond.fieldLink RX4 25 "ArrestOrderModel" "page" "[I", Cond.fieldLink RX4 13 "ArrestOrderModel" "kind" "[I", Cond.fieldLink RX4 19 "ArrestOrderModel" "readKind" "[I", Cond.fieldLink RX4 16 "ArrestOrderModel" "readDeed" "[I", Cond.fieldLink RX4 22 "ArrestOrderModel" "readFeeds" "[I", Cond.fieldLink RX4 110 "ArrestOrderModel" "acts" "I", Cond.fieldLink RX4 37 "ArrestOrderModel" "isKept" "[Z", Cond.methodLink RX4 106 yX4_readCounty, Cond.instanceMethod yX4_readCounty, Cond.selects RX4 yX4_readCounty yX4_readCounty, Cond.initialized RX4, Cond.code yX4_readCounty cX4_readCounty 1 (some .int), Cond.fieldLink RX4 76 "ArrestOrderModel" "place" "I", Cond.fieldLink RX4 73 "ArrestOrderModel" "textSize" "I", Cond.fieldLink RX4 7 "ArrestOrderModel" "text" "[I", Cond.methodLink RX4 103 yX4_readPart, Cond.instanceMethod yX4_readPart, Cond.selects RX4 yX4_readPart yX4_readPart, Cond.code yX4_readPart cX4_readPart 2 (some .boolean), Cond.methodLink RX4 93 yX4_readPerson, Cond.instanceMethod yX4_readPerson]
def wsX4_county_r2 : List Cond := [Cond.selects RX4 yX4_readPerson yX4_readPerson, Cond.code yX4_readPerson cX4_readPerson 3 (some .boolean), Cond.methodLink RX4 86 yX4_figure, Cond.instanceMethod yX4_figure, Cond.selects RX4 yX4_figure yX4_figure, Cond.code yX4_figure cX4_figure 2 (some .int), Cond.methodLink RX4 67 yX4_in, Cond.static yX4_in, Cond.code yX4_in cX4_in 6 (some .boolean), Cond.methodLink RX4 97 yX4_isLeft, Cond.instanceMethod yX4_isLeft, Cond.selects RX4 yX4_isLeft yX4_isLeft, Cond.code yX4_isLeft cX4_isLeft 3 (some .boolean), Cond.methodLink RX4 82 yX4_leftOf, Cond.instanceMethod yX4_leftOf, Cond.selects RX4 yX4_leftOf yX4_leftOf, Cond.code yX4_leftOf cX4_leftOf 2 (some .int), Cond.methodLink RX4 100 yX4_readPair, Cond.instanceMethod yX4_readPair, Cond.selects RX4 yX4_readPair yX4_readPair, Cond.code yX4_readPair cX4_readPair 3 (some .boolean), Cond.methodLink RX4 89 yX4_has, Cond.static yX4_has, Cond.code yX4_has cX4_has 2 (some .boolean)]
def wsX4_county : List Cond := .code yX4_county cX4_county 2 (some .int) :: ((wsX4_county_r1 ++ wsX4_county_r2) ++ wsX40)
def wsX4_gradeOf : List Cond := .code yX4_gradeOf cX4_gradeOf 3 (some .int) :: ([.fieldLink RX4 13 "ArrestOrderModel" "kind" "[I"] ++ wsX40)
def wsX4_isHidden : List Cond := .code yX4_isHidden cX4_isHidden 5 (some .boolean) :: ([.fieldLink RX4 64 "ArrestOrderModel" "people" "I", .fieldLink RX4 13 "ArrestOrderModel" "kind" "[I", .methodLink RX4 89 yX4_has, .static yX4_has, .initialized RX4, .code yX4_has cX4_has 2 (some .boolean)] ++ wsX40)
def wsX4_mayOf : List Cond := .code yX4_mayOf cX4_mayOf 5 (some .int) :: ([.fieldLink RX4 64 "ArrestOrderModel" "people" "I", .methodLink RX4 89 yX4_has, .static yX4_has, .initialized RX4, .code yX4_has cX4_has 2 (some .boolean), .methodLink RX4 113 yX4_gradeOf, .instanceMethod yX4_gradeOf, .selects RX4 yX4_gradeOf yX4_gradeOf, .code yX4_gradeOf cX4_gradeOf 3 (some .int), .fieldLink RX4 13 "ArrestOrderModel" "kind" "[I", .methodLink RX4 117 yX4_isHidden, .instanceMethod yX4_isHidden, .selects RX4 yX4_isHidden yX4_isHidden, .code yX4_isHidden cX4_isHidden 5 (some .boolean)] ++ wsX40)
def wsX4_least : List Cond := .code yX4_least cX4_least 2 (some .int) :: ([.methodLink RX4 89 yX4_has, .static yX4_has, .initialized RX4, .code yX4_has cX4_has 2 (some .boolean)])
def wsX4_begin : List Cond := .code yX4_begin cX4_begin 2 none :: ([.fieldLink RX4 28 "ArrestOrderModel" "trial" "[I", .fieldLink RX4 25 "ArrestOrderModel" "page" "[I"] ++ wsX40)
def wsX4_layFall : List Cond := .code yX4_layFall cX4_layFall 2 none :: ([.fieldLink RX4 121 "ArrestOrderModel" "rowSize" "I", .fieldLink RX4 28 "ArrestOrderModel" "trial" "[I", .fieldLink RX4 47 "ArrestOrderModel" "row" "[I", .methodLink RX4 124 yX4_mayOf, .instanceMethod yX4_mayOf, .selects RX4 yX4_mayOf yX4_mayOf, .initialized RX4, .code yX4_mayOf cX4_mayOf 5 (some .int), .fieldLink RX4 64 "ArrestOrderModel" "people" "I", .methodLink RX4 89 yX4_has, .static yX4_has, .code yX4_has cX4_has 2 (some .boolean), .methodLink RX4 113 yX4_gradeOf, .instanceMethod yX4_gradeOf, .selects RX4 yX4_gradeOf yX4_gradeOf, .code yX4_gradeOf cX4_gradeOf 3 (some .int), .fieldLink RX4 13 "ArrestOrderModel" "kind" "[I", .methodLink RX4 117 yX4_isHidden, .instanceMethod yX4_isHidden, .selects RX4 yX4_isHidden yX4_isHidden, .code yX4_isHidden cX4_isHidden 5 (some .boolean), .methodLink RX4 128 yX4_least, .static yX4_least, .code yX4_least cX4_least 2 (some .int)] ++ wsX40)
def wsX4_placeOf : List Cond := .code yX4_placeOf cX4_placeOf 4 (some .int) :: ([.fieldLink RX4 121 "ArrestOrderModel" "rowSize" "I", .fieldLink RX4 47 "ArrestOrderModel" "row" "[I"] ++ wsX40)
def wsX4_about : List Cond := .code yX4_about cX4_about 4 (some .int) :: ([.fieldLink RX4 60 "ArrestOrderModel" "thrown" "I", .fieldLink RX4 64 "ArrestOrderModel" "people" "I", .fieldLink RX4 25 "ArrestOrderModel" "page" "[I", .fieldLink RX4 110 "ArrestOrderModel" "acts" "I", .fieldLink RX4 131 "ArrestOrderModel" "seen" "I", .fieldLink RX4 73 "ArrestOrderModel" "textSize" "I", .methodLink RX4 117 yX4_isHidden, .instanceMethod yX4_isHidden, .selects RX4 yX4_isHidden yX4_isHidden, .initialized RX4, .code yX4_isHidden cX4_isHidden 5 (some .boolean), .fieldLink RX4 13 "ArrestOrderModel" "kind" "[I", .methodLink RX4 89 yX4_has, .static yX4_has, .code yX4_has cX4_has 2 (some .boolean), .methodLink RX4 124 yX4_mayOf, .instanceMethod yX4_mayOf, .selects RX4 yX4_mayOf yX4_mayOf, .code yX4_mayOf cX4_mayOf 5 (some .int), .methodLink RX4 113 yX4_gradeOf, .instanceMethod yX4_gradeOf, .selects RX4 yX4_gradeOf yX4_gradeOf, .code yX4_gradeOf cX4_gradeOf 3 (some .int)] ++ wsX40)
def wsX4_person : List Cond := .code yX4_person cX4_person 3 (some .int) :: ([.fieldLink RX4 60 "ArrestOrderModel" "thrown" "I", .fieldLink RX4 25 "ArrestOrderModel" "page" "[I", .fieldLink RX4 13 "ArrestOrderModel" "kind" "[I", .methodLink RX4 134 yX4_noPerson, .instanceMethod yX4_noPerson, .selects RX4 yX4_noPerson yX4_noPerson, .initialized RX4, .code yX4_noPerson cX4_noPerson 2 (some .boolean), .fieldLink RX4 64 "ArrestOrderModel" "people" "I", .methodLink RX4 67 yX4_in, .static yX4_in, .code yX4_in cX4_in 6 (some .boolean), .methodLink RX4 113 yX4_gradeOf, .instanceMethod yX4_gradeOf, .selects RX4 yX4_gradeOf yX4_gradeOf, .code yX4_gradeOf cX4_gradeOf 3 (some .int)] ++ wsX40)
def wsX4_note : List Cond := .code yX4_note cX4_note 2 none :: ([.fieldLink RX4 110 "ArrestOrderModel" "acts" "I", .fieldLink RX4 31 "ArrestOrderModel" "book" "[I", .fieldLink RX4 25 "ArrestOrderModel" "page" "[I"] ++ wsX40)
def wsX4_take_r1 : List Cond := [Cond.fieldLink RX4 60 "ArrestOrderModel" "thrown" "I", Cond.fieldLink RX4 25 "ArrestOrderModel" "page" "[I", Cond.methodLink RX4 134 yX4_noPerson, Cond.instanceMethod yX4_noPerson, Cond.selects RX4 yX4_noPerson yX4_noPerson, Cond.initialized RX4, Cond.code yX4_noPerson cX4_noPerson 2 (some .boolean), Cond.fieldLink RX4 64 "ArrestOrderModel" "people" "I", Cond.methodLink RX4 67 yX4_in, Cond.static yX4_in, Cond.code yX4_in cX4_in 6 (some .boolean), Cond.methodLink RX4 124 yX4_mayOf, Cond.instanceMethod yX4_mayOf, Cond.selects RX4 yX4_mayOf yX4_mayOf, Cond.code yX4_mayOf cX4_mayOf 5 (some .int), Cond.methodLink RX4 89 yX4_has, Cond.static yX4_has, Cond.code yX4_has cX4_has 2 (some .boolean), Cond.methodLink RX4 113 yX4_gradeOf, Cond.instanceMethod yX4_gradeOf, Cond.selects RX4 yX4_gradeOf yX4_gradeOf, Cond.code yX4_gradeOf cX4_gradeOf 3 (some .int), Cond.fieldLink RX4 13 "ArrestOrderModel" "kind" "[I", Cond.methodLink RX4 117 yX4_isHidden]
def wsX4_take_r2 : List Cond := [Cond.instanceMethod yX4_isHidden, Cond.selects RX4 yX4_isHidden yX4_isHidden, Cond.code yX4_isHidden cX4_isHidden 5 (some .boolean), Cond.methodLink RX4 138 yX4_note, Cond.instanceMethod yX4_note, Cond.selects RX4 yX4_note yX4_note, Cond.code yX4_note cX4_note 2 none, Cond.fieldLink RX4 110 "ArrestOrderModel" "acts" "I", Cond.fieldLink RX4 31 "ArrestOrderModel" "book" "[I", Cond.methodLink RX4 141 yX4_many, Cond.static yX4_many, Cond.code yX4_many cX4_many 3 (some .int)]
def wsX4_take : List Cond := .code yX4_take cX4_take 2 (some .int) :: ((wsX4_take_r1 ++ wsX4_take_r2) ++ wsX40)
def wsX4_free : List Cond := .code yX4_free cX4_free 2 (some .int) :: ([.fieldLink RX4 60 "ArrestOrderModel" "thrown" "I", .fieldLink RX4 25 "ArrestOrderModel" "page" "[I", .methodLink RX4 134 yX4_noPerson, .instanceMethod yX4_noPerson, .selects RX4 yX4_noPerson yX4_noPerson, .initialized RX4, .code yX4_noPerson cX4_noPerson 2 (some .boolean), .fieldLink RX4 64 "ArrestOrderModel" "people" "I", .methodLink RX4 67 yX4_in, .static yX4_in, .code yX4_in cX4_in 6 (some .boolean), .methodLink RX4 89 yX4_has, .static yX4_has, .code yX4_has cX4_has 2 (some .boolean), .methodLink RX4 138 yX4_note, .instanceMethod yX4_note, .selects RX4 yX4_note yX4_note, .code yX4_note cX4_note 2 none, .fieldLink RX4 110 "ArrestOrderModel" "acts" "I", .fieldLink RX4 31 "ArrestOrderModel" "book" "[I", .methodLink RX4 141 yX4_many, .static yX4_many, .code yX4_many cX4_many 3 (some .int)] ++ wsX40)
def wsX4_goDie : List Cond := .code yX4_goDie cX4_goDie 2 none :: ([])
def wsX4_die_r1 : List Cond := [Cond.fieldLink RX4 60 "ArrestOrderModel" "thrown" "I", Cond.fieldLink RX4 25 "ArrestOrderModel" "page" "[I", Cond.methodLink RX4 134 yX4_noPerson, Cond.instanceMethod yX4_noPerson, Cond.selects RX4 yX4_noPerson yX4_noPerson, Cond.initialized RX4, Cond.code yX4_noPerson cX4_noPerson 2 (some .boolean), Cond.fieldLink RX4 64 "ArrestOrderModel" "people" "I", Cond.methodLink RX4 67 yX4_in, Cond.static yX4_in, Cond.code yX4_in cX4_in 6 (some .boolean), Cond.methodLink RX4 89 yX4_has, Cond.static yX4_has, Cond.code yX4_has cX4_has 2 (some .boolean), Cond.methodLink RX4 138 yX4_note, Cond.instanceMethod yX4_note, Cond.selects RX4 yX4_note yX4_note, Cond.code yX4_note cX4_note 2 none, Cond.fieldLink RX4 110 "ArrestOrderModel" "acts" "I", Cond.fieldLink RX4 31 "ArrestOrderModel" "book" "[I", Cond.methodLink RX4 144 yX4_goDie, Cond.static yX4_goDie, Cond.code yX4_goDie cX4_goDie 2 none, Cond.methodLink RX4 141 yX4_many]
def wsX4_die_r2 : List Cond := [Cond.static yX4_many, Cond.code yX4_many cX4_many 3 (some .int)]
def wsX4_die : List Cond := .code yX4_die cX4_die 2 (some .int) :: ((wsX4_die_r1 ++ wsX4_die_r2) ++ wsX40)
def wsX4_feed : List Cond := .code yX4_feed cX4_feed 3 (some .int) :: ([.fieldLink RX4 60 "ArrestOrderModel" "thrown" "I", .fieldLink RX4 25 "ArrestOrderModel" "page" "[I", .methodLink RX4 134 yX4_noPerson, .instanceMethod yX4_noPerson, .selects RX4 yX4_noPerson yX4_noPerson, .initialized RX4, .code yX4_noPerson cX4_noPerson 2 (some .boolean), .fieldLink RX4 64 "ArrestOrderModel" "people" "I", .methodLink RX4 67 yX4_in, .static yX4_in, .code yX4_in cX4_in 6 (some .boolean), .methodLink RX4 138 yX4_note, .instanceMethod yX4_note, .selects RX4 yX4_note yX4_note, .code yX4_note cX4_note 2 none, .fieldLink RX4 110 "ArrestOrderModel" "acts" "I", .fieldLink RX4 31 "ArrestOrderModel" "book" "[I"] ++ wsX40)
def wsX4_grade : List Cond := .code yX4_grade cX4_grade 4 (some .int) :: ([.fieldLink RX4 60 "ArrestOrderModel" "thrown" "I", .constantLong RX4 148 (9), .fieldLink RX4 25 "ArrestOrderModel" "page" "[I", .methodLink RX4 134 yX4_noPerson, .instanceMethod yX4_noPerson, .selects RX4 yX4_noPerson yX4_noPerson, .initialized RX4, .code yX4_noPerson cX4_noPerson 2 (some .boolean), .fieldLink RX4 64 "ArrestOrderModel" "people" "I", .methodLink RX4 67 yX4_in, .static yX4_in, .code yX4_in cX4_in 6 (some .boolean), .methodLink RX4 138 yX4_note, .instanceMethod yX4_note, .selects RX4 yX4_note yX4_note, .code yX4_note cX4_note 2 none, .fieldLink RX4 110 "ArrestOrderModel" "acts" "I", .fieldLink RX4 31 "ArrestOrderModel" "book" "[I"] ++ wsX40)
def wsX4_goDay : List Cond := .code yX4_goDay cX4_goDay 4 (some .int) :: ([.methodLink RX4 124 yX4_mayOf, .instanceMethod yX4_mayOf, .selects RX4 yX4_mayOf yX4_mayOf, .initialized RX4, .code yX4_mayOf cX4_mayOf 5 (some .int), .fieldLink RX4 64 "ArrestOrderModel" "people" "I", .methodLink RX4 89 yX4_has, .static yX4_has, .code yX4_has cX4_has 2 (some .boolean), .methodLink RX4 113 yX4_gradeOf, .instanceMethod yX4_gradeOf, .selects RX4 yX4_gradeOf yX4_gradeOf, .code yX4_gradeOf cX4_gradeOf 3 (some .int), .fieldLink RX4 13 "ArrestOrderModel" "kind" "[I", .methodLink RX4 117 yX4_isHidden, .instanceMethod yX4_isHidden, .selects RX4 yX4_isHidden yX4_isHidden, .code yX4_isHidden cX4_isHidden 5 (some .boolean), .methodLink RX4 128 yX4_least, .static yX4_least, .code yX4_least cX4_least 2 (some .int)] ++ wsX40)
def wsX4_day_r1 : List Cond := [Cond.fieldLink RX4 60 "ArrestOrderModel" "thrown" "I", Cond.fieldLink RX4 25 "ArrestOrderModel" "page" "[I", Cond.methodLink RX4 138 yX4_note, Cond.instanceMethod yX4_note, Cond.selects RX4 yX4_note yX4_note, Cond.initialized RX4, Cond.code yX4_note cX4_note 2 none, Cond.fieldLink RX4 110 "ArrestOrderModel" "acts" "I", Cond.fieldLink RX4 31 "ArrestOrderModel" "book" "[I", Cond.methodLink RX4 150 yX4_goDay, Cond.instanceMethod yX4_goDay, Cond.selects RX4 yX4_goDay yX4_goDay, Cond.code yX4_goDay cX4_goDay 4 (some .int), Cond.methodLink RX4 124 yX4_mayOf, Cond.instanceMethod yX4_mayOf, Cond.selects RX4 yX4_mayOf yX4_mayOf, Cond.code yX4_mayOf cX4_mayOf 5 (some .int), Cond.fieldLink RX4 64 "ArrestOrderModel" "people" "I", Cond.methodLink RX4 89 yX4_has, Cond.static yX4_has, Cond.code yX4_has cX4_has 2 (some .boolean), Cond.methodLink RX4 113 yX4_gradeOf, Cond.instanceMethod yX4_gradeOf, Cond.selects RX4 yX4_gradeOf yX4_gradeOf]
def wsX4_day_r2 : List Cond := [Cond.code yX4_gradeOf cX4_gradeOf 3 (some .int), Cond.fieldLink RX4 13 "ArrestOrderModel" "kind" "[I", Cond.methodLink RX4 117 yX4_isHidden, Cond.instanceMethod yX4_isHidden, Cond.selects RX4 yX4_isHidden yX4_isHidden, Cond.code yX4_isHidden cX4_isHidden 5 (some .boolean), Cond.methodLink RX4 128 yX4_least, Cond.static yX4_least, Cond.code yX4_least cX4_least 2 (some .int)]
def wsX4_day : List Cond := .code yX4_day cX4_day 1 (some .int) :: ((wsX4_day_r1 ++ wsX4_day_r2) ++ wsX40)
def wsX4_undo : List Cond := .code yX4_undo cX4_undo 2 (some .int) :: ([.fieldLink RX4 60 "ArrestOrderModel" "thrown" "I", .fieldLink RX4 110 "ArrestOrderModel" "acts" "I", .fieldLink RX4 25 "ArrestOrderModel" "page" "[I", .fieldLink RX4 31 "ArrestOrderModel" "book" "[I"] ++ wsX40)
def wsX4_fall_r1 : List Cond := [Cond.fieldLink RX4 60 "ArrestOrderModel" "thrown" "I", Cond.fieldLink RX4 121 "ArrestOrderModel" "rowSize" "I", Cond.fieldLink RX4 47 "ArrestOrderModel" "row" "[I", Cond.methodLink RX4 153 yX4_begin, Cond.instanceMethod yX4_begin, Cond.selects RX4 yX4_begin yX4_begin, Cond.initialized RX4, Cond.code yX4_begin cX4_begin 2 none, Cond.fieldLink RX4 28 "ArrestOrderModel" "trial" "[I", Cond.fieldLink RX4 25 "ArrestOrderModel" "page" "[I", Cond.methodLink RX4 156 yX4_layFall, Cond.instanceMethod yX4_layFall, Cond.selects RX4 yX4_layFall yX4_layFall, Cond.code yX4_layFall cX4_layFall 2 none, Cond.methodLink RX4 124 yX4_mayOf, Cond.instanceMethod yX4_mayOf, Cond.selects RX4 yX4_mayOf yX4_mayOf, Cond.code yX4_mayOf cX4_mayOf 5 (some .int), Cond.fieldLink RX4 64 "ArrestOrderModel" "people" "I", Cond.methodLink RX4 89 yX4_has, Cond.static yX4_has, Cond.code yX4_has cX4_has 2 (some .boolean), Cond.methodLink RX4 113 yX4_gradeOf, Cond.instanceMethod yX4_gradeOf]
def wsX4_fall_r2 : List Cond := [Cond.selects RX4 yX4_gradeOf yX4_gradeOf, Cond.code yX4_gradeOf cX4_gradeOf 3 (some .int), Cond.fieldLink RX4 13 "ArrestOrderModel" "kind" "[I", Cond.methodLink RX4 117 yX4_isHidden, Cond.instanceMethod yX4_isHidden, Cond.selects RX4 yX4_isHidden yX4_isHidden, Cond.code yX4_isHidden cX4_isHidden 5 (some .boolean), Cond.methodLink RX4 128 yX4_least, Cond.static yX4_least, Cond.code yX4_least cX4_least 2 (some .int)]
def wsX4_fall : List Cond := .code yX4_fall cX4_fall 3 (some .int) :: ((wsX4_fall_r1 ++ wsX4_fall_r2) ++ wsX40)
def wsX4_place_r1 : List Cond := [Cond.fieldLink RX4 60 "ArrestOrderModel" "thrown" "I", Cond.methodLink RX4 134 yX4_noPerson, Cond.instanceMethod yX4_noPerson, Cond.selects RX4 yX4_noPerson yX4_noPerson, Cond.initialized RX4, Cond.code yX4_noPerson cX4_noPerson 2 (some .boolean), Cond.fieldLink RX4 64 "ArrestOrderModel" "people" "I", Cond.methodLink RX4 67 yX4_in, Cond.static yX4_in, Cond.code yX4_in cX4_in 6 (some .boolean), Cond.methodLink RX4 153 yX4_begin, Cond.instanceMethod yX4_begin, Cond.selects RX4 yX4_begin yX4_begin, Cond.code yX4_begin cX4_begin 2 none, Cond.fieldLink RX4 28 "ArrestOrderModel" "trial" "[I", Cond.fieldLink RX4 25 "ArrestOrderModel" "page" "[I", Cond.methodLink RX4 156 yX4_layFall, Cond.instanceMethod yX4_layFall, Cond.selects RX4 yX4_layFall yX4_layFall, Cond.code yX4_layFall cX4_layFall 2 none, Cond.fieldLink RX4 121 "ArrestOrderModel" "rowSize" "I", Cond.fieldLink RX4 47 "ArrestOrderModel" "row" "[I", Cond.methodLink RX4 124 yX4_mayOf, Cond.instanceMethod yX4_mayOf]
def wsX4_place_r2 : List Cond := [Cond.selects RX4 yX4_mayOf yX4_mayOf, Cond.code yX4_mayOf cX4_mayOf 5 (some .int), Cond.methodLink RX4 89 yX4_has, Cond.static yX4_has, Cond.code yX4_has cX4_has 2 (some .boolean), Cond.methodLink RX4 113 yX4_gradeOf, Cond.instanceMethod yX4_gradeOf, Cond.selects RX4 yX4_gradeOf yX4_gradeOf, Cond.code yX4_gradeOf cX4_gradeOf 3 (some .int), Cond.fieldLink RX4 13 "ArrestOrderModel" "kind" "[I", Cond.methodLink RX4 117 yX4_isHidden, Cond.instanceMethod yX4_isHidden, Cond.selects RX4 yX4_isHidden yX4_isHidden, Cond.code yX4_isHidden cX4_isHidden 5 (some .boolean), Cond.methodLink RX4 128 yX4_least, Cond.static yX4_least, Cond.code yX4_least cX4_least 2 (some .int), Cond.methodLink RX4 159 yX4_placeOf, Cond.instanceMethod yX4_placeOf, Cond.selects RX4 yX4_placeOf yX4_placeOf, Cond.code yX4_placeOf cX4_placeOf 4 (some .int)]
def wsX4_place : List Cond := .code yX4_place cX4_place 2 (some .int) :: ((wsX4_place_r1 ++ wsX4_place_r2) ++ wsX40)
def wsX4_last_r1 : List Cond := [Cond.fieldLink RX4 60 "ArrestOrderModel" "thrown" "I", Cond.fieldLink RX4 28 "ArrestOrderModel" "trial" "[I", Cond.methodLink RX4 153 yX4_begin, Cond.instanceMethod yX4_begin, Cond.selects RX4 yX4_begin yX4_begin, Cond.initialized RX4, Cond.code yX4_begin cX4_begin 2 none, Cond.fieldLink RX4 25 "ArrestOrderModel" "page" "[I", Cond.methodLink RX4 156 yX4_layFall, Cond.instanceMethod yX4_layFall, Cond.selects RX4 yX4_layFall yX4_layFall, Cond.code yX4_layFall cX4_layFall 2 none, Cond.fieldLink RX4 121 "ArrestOrderModel" "rowSize" "I", Cond.fieldLink RX4 47 "ArrestOrderModel" "row" "[I", Cond.methodLink RX4 124 yX4_mayOf, Cond.instanceMethod yX4_mayOf, Cond.selects RX4 yX4_mayOf yX4_mayOf, Cond.code yX4_mayOf cX4_mayOf 5 (some .int), Cond.fieldLink RX4 64 "ArrestOrderModel" "people" "I", Cond.methodLink RX4 89 yX4_has, Cond.static yX4_has, Cond.code yX4_has cX4_has 2 (some .boolean), Cond.methodLink RX4 113 yX4_gradeOf, Cond.instanceMethod yX4_gradeOf]
def wsX4_last_r2 : List Cond := [Cond.selects RX4 yX4_gradeOf yX4_gradeOf, Cond.code yX4_gradeOf cX4_gradeOf 3 (some .int), Cond.fieldLink RX4 13 "ArrestOrderModel" "kind" "[I", Cond.methodLink RX4 117 yX4_isHidden, Cond.instanceMethod yX4_isHidden, Cond.selects RX4 yX4_isHidden yX4_isHidden, Cond.code yX4_isHidden cX4_isHidden 5 (some .boolean), Cond.methodLink RX4 128 yX4_least, Cond.static yX4_least, Cond.code yX4_least cX4_least 2 (some .int)]
def wsX4_last : List Cond := .code yX4_last cX4_last 1 (some .int) :: ((wsX4_last_r1 ++ wsX4_last_r2) ++ wsX40)
def wsX4_isPair : List Cond := .code yX4_isPair cX4_isPair 4 (some .boolean) :: ([.fieldLink RX4 25 "ArrestOrderModel" "page" "[I", .methodLink RX4 134 yX4_noPerson, .instanceMethod yX4_noPerson, .selects RX4 yX4_noPerson yX4_noPerson, .initialized RX4, .code yX4_noPerson cX4_noPerson 2 (some .boolean), .fieldLink RX4 64 "ArrestOrderModel" "people" "I", .methodLink RX4 67 yX4_in, .static yX4_in, .code yX4_in cX4_in 6 (some .boolean), .methodLink RX4 89 yX4_has, .static yX4_has, .code yX4_has cX4_has 2 (some .boolean)] ++ wsX40)
def wsX4_isSafe_r1 : List Cond := [Cond.fieldLink RX4 28 "ArrestOrderModel" "trial" "[I", Cond.methodLink RX4 153 yX4_begin, Cond.instanceMethod yX4_begin, Cond.selects RX4 yX4_begin yX4_begin, Cond.initialized RX4, Cond.code yX4_begin cX4_begin 2 none, Cond.fieldLink RX4 25 "ArrestOrderModel" "page" "[I", Cond.methodLink RX4 156 yX4_layFall, Cond.instanceMethod yX4_layFall, Cond.selects RX4 yX4_layFall yX4_layFall, Cond.code yX4_layFall cX4_layFall 2 none, Cond.fieldLink RX4 121 "ArrestOrderModel" "rowSize" "I", Cond.fieldLink RX4 47 "ArrestOrderModel" "row" "[I", Cond.methodLink RX4 124 yX4_mayOf, Cond.instanceMethod yX4_mayOf, Cond.selects RX4 yX4_mayOf yX4_mayOf, Cond.code yX4_mayOf cX4_mayOf 5 (some .int), Cond.fieldLink RX4 64 "ArrestOrderModel" "people" "I", Cond.methodLink RX4 89 yX4_has, Cond.static yX4_has, Cond.code yX4_has cX4_has 2 (some .boolean), Cond.methodLink RX4 113 yX4_gradeOf, Cond.instanceMethod yX4_gradeOf, Cond.selects RX4 yX4_gradeOf yX4_gradeOf]
def wsX4_isSafe_r2 : List Cond := [Cond.code yX4_gradeOf cX4_gradeOf 3 (some .int), Cond.fieldLink RX4 13 "ArrestOrderModel" "kind" "[I", Cond.methodLink RX4 117 yX4_isHidden, Cond.instanceMethod yX4_isHidden, Cond.selects RX4 yX4_isHidden yX4_isHidden, Cond.code yX4_isHidden cX4_isHidden 5 (some .boolean), Cond.methodLink RX4 128 yX4_least, Cond.static yX4_least, Cond.code yX4_least cX4_least 2 (some .int), Cond.methodLink RX4 159 yX4_placeOf, Cond.instanceMethod yX4_placeOf, Cond.selects RX4 yX4_placeOf yX4_placeOf, Cond.code yX4_placeOf cX4_placeOf 4 (some .int)]
def wsX4_isSafe : List Cond := .code yX4_isSafe cX4_isSafe 4 (some .boolean) :: ((wsX4_isSafe_r1 ++ wsX4_isSafe_r2) ++ wsX40)
def wsX4_findFeed_r1 : List Cond := [Cond.fieldLink RX4 162 "ArrestOrderModel" "feedMany" "I", Cond.fieldLink RX4 165 "ArrestOrderModel" "feedRow" "I", Cond.methodLink RX4 168 yX4_isSafe, Cond.instanceMethod yX4_isSafe, Cond.selects RX4 yX4_isSafe yX4_isSafe, Cond.initialized RX4, Cond.code yX4_isSafe cX4_isSafe 4 (some .boolean), Cond.fieldLink RX4 28 "ArrestOrderModel" "trial" "[I", Cond.methodLink RX4 153 yX4_begin, Cond.instanceMethod yX4_begin, Cond.selects RX4 yX4_begin yX4_begin, Cond.code yX4_begin cX4_begin 2 none, Cond.fieldLink RX4 25 "ArrestOrderModel" "page" "[I", Cond.methodLink RX4 156 yX4_layFall, Cond.instanceMethod yX4_layFall, Cond.selects RX4 yX4_layFall yX4_layFall, Cond.code yX4_layFall cX4_layFall 2 none, Cond.fieldLink RX4 121 "ArrestOrderModel" "rowSize" "I", Cond.fieldLink RX4 47 "ArrestOrderModel" "row" "[I", Cond.methodLink RX4 124 yX4_mayOf, Cond.instanceMethod yX4_mayOf, Cond.selects RX4 yX4_mayOf yX4_mayOf, Cond.code yX4_mayOf cX4_mayOf 5 (some .int), Cond.fieldLink RX4 64 "ArrestOrderModel" "people" "I"]
def wsX4_findFeed_r2 : List Cond := [Cond.methodLink RX4 89 yX4_has, Cond.static yX4_has, Cond.code yX4_has cX4_has 2 (some .boolean), Cond.methodLink RX4 113 yX4_gradeOf, Cond.instanceMethod yX4_gradeOf, Cond.selects RX4 yX4_gradeOf yX4_gradeOf, Cond.code yX4_gradeOf cX4_gradeOf 3 (some .int), Cond.fieldLink RX4 13 "ArrestOrderModel" "kind" "[I", Cond.methodLink RX4 117 yX4_isHidden, Cond.instanceMethod yX4_isHidden, Cond.selects RX4 yX4_isHidden yX4_isHidden, Cond.code yX4_isHidden cX4_isHidden 5 (some .boolean), Cond.methodLink RX4 128 yX4_least, Cond.static yX4_least, Cond.code yX4_least cX4_least 2 (some .int), Cond.methodLink RX4 159 yX4_placeOf, Cond.instanceMethod yX4_placeOf, Cond.selects RX4 yX4_placeOf yX4_placeOf, Cond.code yX4_placeOf cX4_placeOf 4 (some .int), Cond.methodLink RX4 172 yX4_isPair, Cond.instanceMethod yX4_isPair, Cond.selects RX4 yX4_isPair yX4_isPair, Cond.code yX4_isPair cX4_isPair 4 (some .boolean), Cond.methodLink RX4 134 yX4_noPerson]
def wsX4_findFeed_r3 : List Cond := [Cond.instanceMethod yX4_noPerson, Cond.selects RX4 yX4_noPerson yX4_noPerson, Cond.code yX4_noPerson cX4_noPerson 2 (some .boolean), Cond.methodLink RX4 67 yX4_in, Cond.static yX4_in, Cond.code yX4_in cX4_in 6 (some .boolean)]
def wsX4_findFeed : List Cond := .code yX4_findFeed cX4_findFeed 5 none :: ((wsX4_findFeed_r1 ++ (wsX4_findFeed_r2 ++ wsX4_findFeed_r3)) ++ wsX40)
def wsX4_toFeed_r1 : List Cond := [Cond.fieldLink RX4 60 "ArrestOrderModel" "thrown" "I", Cond.fieldLink RX4 162 "ArrestOrderModel" "feedMany" "I", Cond.fieldLink RX4 165 "ArrestOrderModel" "feedRow" "I", Cond.methodLink RX4 134 yX4_noPerson, Cond.instanceMethod yX4_noPerson, Cond.selects RX4 yX4_noPerson yX4_noPerson, Cond.initialized RX4, Cond.code yX4_noPerson cX4_noPerson 2 (some .boolean), Cond.fieldLink RX4 64 "ArrestOrderModel" "people" "I", Cond.methodLink RX4 67 yX4_in, Cond.static yX4_in, Cond.code yX4_in cX4_in 6 (some .boolean), Cond.methodLink RX4 175 yX4_findFeed, Cond.instanceMethod yX4_findFeed, Cond.selects RX4 yX4_findFeed yX4_findFeed, Cond.code yX4_findFeed cX4_findFeed 5 none, Cond.methodLink RX4 168 yX4_isSafe, Cond.instanceMethod yX4_isSafe, Cond.selects RX4 yX4_isSafe yX4_isSafe, Cond.code yX4_isSafe cX4_isSafe 4 (some .boolean), Cond.fieldLink RX4 28 "ArrestOrderModel" "trial" "[I", Cond.methodLink RX4 153 yX4_begin, Cond.instanceMethod yX4_begin, Cond.selects RX4 yX4_begin yX4_begin]
def wsX4_toFeed_r2 : List Cond := [Cond.code yX4_begin cX4_begin 2 none, Cond.fieldLink RX4 25 "ArrestOrderModel" "page" "[I", Cond.methodLink RX4 156 yX4_layFall, Cond.instanceMethod yX4_layFall, Cond.selects RX4 yX4_layFall yX4_layFall, Cond.code yX4_layFall cX4_layFall 2 none, Cond.fieldLink RX4 121 "ArrestOrderModel" "rowSize" "I", Cond.fieldLink RX4 47 "ArrestOrderModel" "row" "[I", Cond.methodLink RX4 124 yX4_mayOf, Cond.instanceMethod yX4_mayOf, Cond.selects RX4 yX4_mayOf yX4_mayOf, Cond.code yX4_mayOf cX4_mayOf 5 (some .int), Cond.methodLink RX4 89 yX4_has, Cond.static yX4_has, Cond.code yX4_has cX4_has 2 (some .boolean), Cond.methodLink RX4 113 yX4_gradeOf, Cond.instanceMethod yX4_gradeOf, Cond.selects RX4 yX4_gradeOf yX4_gradeOf, Cond.code yX4_gradeOf cX4_gradeOf 3 (some .int), Cond.fieldLink RX4 13 "ArrestOrderModel" "kind" "[I", Cond.methodLink RX4 117 yX4_isHidden, Cond.instanceMethod yX4_isHidden, Cond.selects RX4 yX4_isHidden yX4_isHidden, Cond.code yX4_isHidden cX4_isHidden 5 (some .boolean)]
def wsX4_toFeed_r3 : List Cond := [Cond.methodLink RX4 128 yX4_least, Cond.static yX4_least, Cond.code yX4_least cX4_least 2 (some .int), Cond.methodLink RX4 159 yX4_placeOf, Cond.instanceMethod yX4_placeOf, Cond.selects RX4 yX4_placeOf yX4_placeOf, Cond.code yX4_placeOf cX4_placeOf 4 (some .int), Cond.methodLink RX4 172 yX4_isPair, Cond.instanceMethod yX4_isPair, Cond.selects RX4 yX4_isPair yX4_isPair, Cond.code yX4_isPair cX4_isPair 4 (some .boolean)]
def wsX4_toFeed : List Cond := .code yX4_toFeed cX4_toFeed 3 (some .int) :: ((wsX4_toFeed_r1 ++ (wsX4_toFeed_r2 ++ wsX4_toFeed_r3)) ++ wsX40)
def wsX4_giveUp_r1 : List Cond := [Cond.fieldLink RX4 60 "ArrestOrderModel" "thrown" "I", Cond.fieldLink RX4 25 "ArrestOrderModel" "page" "[I", Cond.fieldLink RX4 28 "ArrestOrderModel" "trial" "[I", Cond.methodLink RX4 134 yX4_noPerson, Cond.instanceMethod yX4_noPerson, Cond.selects RX4 yX4_noPerson yX4_noPerson, Cond.initialized RX4, Cond.code yX4_noPerson cX4_noPerson 2 (some .boolean), Cond.fieldLink RX4 64 "ArrestOrderModel" "people" "I", Cond.methodLink RX4 67 yX4_in, Cond.static yX4_in, Cond.code yX4_in cX4_in 6 (some .boolean), Cond.methodLink RX4 89 yX4_has, Cond.static yX4_has, Cond.code yX4_has cX4_has 2 (some .boolean), Cond.methodLink RX4 141 yX4_many, Cond.static yX4_many, Cond.code yX4_many cX4_many 3 (some .int), Cond.methodLink RX4 153 yX4_begin, Cond.instanceMethod yX4_begin, Cond.selects RX4 yX4_begin yX4_begin, Cond.code yX4_begin cX4_begin 2 none, Cond.methodLink RX4 156 yX4_layFall, Cond.instanceMethod yX4_layFall]
def wsX4_giveUp_r2 : List Cond := [Cond.selects RX4 yX4_layFall yX4_layFall, Cond.code yX4_layFall cX4_layFall 2 none, Cond.fieldLink RX4 121 "ArrestOrderModel" "rowSize" "I", Cond.fieldLink RX4 47 "ArrestOrderModel" "row" "[I", Cond.methodLink RX4 124 yX4_mayOf, Cond.instanceMethod yX4_mayOf, Cond.selects RX4 yX4_mayOf yX4_mayOf, Cond.code yX4_mayOf cX4_mayOf 5 (some .int), Cond.methodLink RX4 113 yX4_gradeOf, Cond.instanceMethod yX4_gradeOf, Cond.selects RX4 yX4_gradeOf yX4_gradeOf, Cond.code yX4_gradeOf cX4_gradeOf 3 (some .int), Cond.fieldLink RX4 13 "ArrestOrderModel" "kind" "[I", Cond.methodLink RX4 117 yX4_isHidden, Cond.instanceMethod yX4_isHidden, Cond.selects RX4 yX4_isHidden yX4_isHidden, Cond.code yX4_isHidden cX4_isHidden 5 (some .boolean), Cond.methodLink RX4 128 yX4_least, Cond.static yX4_least, Cond.code yX4_least cX4_least 2 (some .int), Cond.methodLink RX4 159 yX4_placeOf, Cond.instanceMethod yX4_placeOf, Cond.selects RX4 yX4_placeOf yX4_placeOf, Cond.code yX4_placeOf cX4_placeOf 4 (some .int)]
def wsX4_giveUp : List Cond := .code yX4_giveUp cX4_giveUp 5 (some .int) :: ((wsX4_giveUp_r1 ++ wsX4_giveUp_r2) ++ wsX40)
def wsX4_lateness_r1 : List Cond := [Cond.methodLink RX4 156 yX4_layFall, Cond.instanceMethod yX4_layFall, Cond.selects RX4 yX4_layFall yX4_layFall, Cond.initialized RX4, Cond.code yX4_layFall cX4_layFall 2 none, Cond.fieldLink RX4 121 "ArrestOrderModel" "rowSize" "I", Cond.fieldLink RX4 28 "ArrestOrderModel" "trial" "[I", Cond.fieldLink RX4 47 "ArrestOrderModel" "row" "[I", Cond.methodLink RX4 124 yX4_mayOf, Cond.instanceMethod yX4_mayOf, Cond.selects RX4 yX4_mayOf yX4_mayOf, Cond.code yX4_mayOf cX4_mayOf 5 (some .int), Cond.fieldLink RX4 64 "ArrestOrderModel" "people" "I", Cond.methodLink RX4 89 yX4_has, Cond.static yX4_has, Cond.code yX4_has cX4_has 2 (some .boolean), Cond.methodLink RX4 113 yX4_gradeOf, Cond.instanceMethod yX4_gradeOf, Cond.selects RX4 yX4_gradeOf yX4_gradeOf, Cond.code yX4_gradeOf cX4_gradeOf 3 (some .int), Cond.fieldLink RX4 13 "ArrestOrderModel" "kind" "[I", Cond.methodLink RX4 117 yX4_isHidden, Cond.instanceMethod yX4_isHidden, Cond.selects RX4 yX4_isHidden yX4_isHidden]
def wsX4_lateness_r2 : List Cond := [Cond.code yX4_isHidden cX4_isHidden 5 (some .boolean), Cond.methodLink RX4 128 yX4_least, Cond.static yX4_least, Cond.code yX4_least cX4_least 2 (some .int), Cond.methodLink RX4 159 yX4_placeOf, Cond.instanceMethod yX4_placeOf, Cond.selects RX4 yX4_placeOf yX4_placeOf, Cond.code yX4_placeOf cX4_placeOf 4 (some .int)]
def wsX4_lateness : List Cond := .code yX4_lateness cX4_lateness 2 (some .int) :: ((wsX4_lateness_r1 ++ wsX4_lateness_r2) ++ wsX40)
def wsX4_claim_r1 : List Cond := [Cond.fieldLink RX4 60 "ArrestOrderModel" "thrown" "I", Cond.fieldLink RX4 25 "ArrestOrderModel" "page" "[I", Cond.fieldLink RX4 28 "ArrestOrderModel" "trial" "[I", Cond.methodLink RX4 134 yX4_noPerson, Cond.instanceMethod yX4_noPerson, Cond.selects RX4 yX4_noPerson yX4_noPerson, Cond.initialized RX4, Cond.code yX4_noPerson cX4_noPerson 2 (some .boolean), Cond.fieldLink RX4 64 "ArrestOrderModel" "people" "I", Cond.methodLink RX4 67 yX4_in, Cond.static yX4_in, Cond.code yX4_in cX4_in 6 (some .boolean), Cond.methodLink RX4 89 yX4_has, Cond.static yX4_has, Cond.code yX4_has cX4_has 2 (some .boolean), Cond.methodLink RX4 153 yX4_begin, Cond.instanceMethod yX4_begin, Cond.selects RX4 yX4_begin yX4_begin, Cond.code yX4_begin cX4_begin 2 none, Cond.methodLink RX4 179 yX4_lateness, Cond.instanceMethod yX4_lateness, Cond.selects RX4 yX4_lateness yX4_lateness, Cond.code yX4_lateness cX4_lateness 2 (some .int), Cond.methodLink RX4 156 yX4_layFall]
def wsX4_claim_r2 : List Cond := [Cond.instanceMethod yX4_layFall, Cond.selects RX4 yX4_layFall yX4_layFall, Cond.code yX4_layFall cX4_layFall 2 none, Cond.fieldLink RX4 121 "ArrestOrderModel" "rowSize" "I", Cond.fieldLink RX4 47 "ArrestOrderModel" "row" "[I", Cond.methodLink RX4 124 yX4_mayOf, Cond.instanceMethod yX4_mayOf, Cond.selects RX4 yX4_mayOf yX4_mayOf, Cond.code yX4_mayOf cX4_mayOf 5 (some .int), Cond.methodLink RX4 113 yX4_gradeOf, Cond.instanceMethod yX4_gradeOf, Cond.selects RX4 yX4_gradeOf yX4_gradeOf, Cond.code yX4_gradeOf cX4_gradeOf 3 (some .int), Cond.fieldLink RX4 13 "ArrestOrderModel" "kind" "[I", Cond.methodLink RX4 117 yX4_isHidden, Cond.instanceMethod yX4_isHidden, Cond.selects RX4 yX4_isHidden yX4_isHidden, Cond.code yX4_isHidden cX4_isHidden 5 (some .boolean), Cond.methodLink RX4 128 yX4_least, Cond.static yX4_least, Cond.code yX4_least cX4_least 2 (some .int), Cond.methodLink RX4 159 yX4_placeOf, Cond.instanceMethod yX4_placeOf, Cond.selects RX4 yX4_placeOf yX4_placeOf]
def wsX4_claim_r3 : List Cond := [Cond.code yX4_placeOf cX4_placeOf 4 (some .int)]
def wsX4_claim : List Cond := .code yX4_claim cX4_claim 6 (some .int) :: ((wsX4_claim_r1 ++ (wsX4_claim_r2 ++ wsX4_claim_r3)) ++ wsX40)
def wsX4_ways : List Cond := .code yX4_ways cX4_ways 3 (some .int) :: ([])
def wsX4_divisor : List Cond := .code yX4_divisor cX4_divisor 10 (some .long) :: ([])
def wsX4_fraction : List Cond := .code yX4_fraction cX4_fraction 7 (some .int) :: ([.methodLink RX4 182 yX4_divisor, .static yX4_divisor, .initialized RX4, .code yX4_divisor cX4_divisor 10 (some .long)])
def wsX4_share_r1 : List Cond := [Cond.fieldLink RX4 60 "ArrestOrderModel" "thrown" "I", Cond.fieldLink RX4 25 "ArrestOrderModel" "page" "[I", Cond.fieldLink RX4 28 "ArrestOrderModel" "trial" "[I", Cond.fieldLink RX4 50 "ArrestOrderModel" "value" "[I", Cond.fieldLink RX4 121 "ArrestOrderModel" "rowSize" "I", Cond.methodLink RX4 134 yX4_noPerson, Cond.instanceMethod yX4_noPerson, Cond.selects RX4 yX4_noPerson yX4_noPerson, Cond.initialized RX4, Cond.code yX4_noPerson cX4_noPerson 2 (some .boolean), Cond.fieldLink RX4 64 "ArrestOrderModel" "people" "I", Cond.methodLink RX4 67 yX4_in, Cond.static yX4_in, Cond.code yX4_in cX4_in 6 (some .boolean), Cond.methodLink RX4 141 yX4_many, Cond.static yX4_many, Cond.code yX4_many cX4_many 3 (some .int), Cond.methodLink RX4 153 yX4_begin, Cond.instanceMethod yX4_begin, Cond.selects RX4 yX4_begin yX4_begin, Cond.code yX4_begin cX4_begin 2 none, Cond.methodLink RX4 156 yX4_layFall, Cond.instanceMethod yX4_layFall, Cond.selects RX4 yX4_layFall yX4_layFall]
def wsX4_share_r2 : List Cond := [Cond.code yX4_layFall cX4_layFall 2 none, Cond.fieldLink RX4 47 "ArrestOrderModel" "row" "[I", Cond.methodLink RX4 124 yX4_mayOf, Cond.instanceMethod yX4_mayOf, Cond.selects RX4 yX4_mayOf yX4_mayOf, Cond.code yX4_mayOf cX4_mayOf 5 (some .int), Cond.methodLink RX4 89 yX4_has, Cond.static yX4_has, Cond.code yX4_has cX4_has 2 (some .boolean), Cond.methodLink RX4 113 yX4_gradeOf, Cond.instanceMethod yX4_gradeOf, Cond.selects RX4 yX4_gradeOf yX4_gradeOf, Cond.code yX4_gradeOf cX4_gradeOf 3 (some .int), Cond.fieldLink RX4 13 "ArrestOrderModel" "kind" "[I", Cond.methodLink RX4 117 yX4_isHidden, Cond.instanceMethod yX4_isHidden, Cond.selects RX4 yX4_isHidden yX4_isHidden, Cond.code yX4_isHidden cX4_isHidden 5 (some .boolean), Cond.methodLink RX4 128 yX4_least, Cond.static yX4_least, Cond.code yX4_least cX4_least 2 (some .int), Cond.methodLink RX4 186 yX4_ways, Cond.static yX4_ways, Cond.code yX4_ways cX4_ways 3 (some .int)]
def wsX4_share_r3 : List Cond := [Cond.methodLink RX4 189 yX4_fraction, Cond.static yX4_fraction, Cond.code yX4_fraction cX4_fraction 7 (some .int), Cond.methodLink RX4 182 yX4_divisor, Cond.static yX4_divisor, Cond.code yX4_divisor cX4_divisor 10 (some .long)]
def wsX4_share : List Cond := .code yX4_share cX4_share 8 (some .int) :: ((wsX4_share_r1 ++ (wsX4_share_r2 ++ wsX4_share_r3)) ++ wsX40)
def wsX4_see : List Cond := .code yX4_see cX4_see 3 (some .int) :: ([.fieldLink RX4 60 "ArrestOrderModel" "thrown" "I", .fieldLink RX4 131 "ArrestOrderModel" "seen" "I", .fieldLink RX4 41 "ArrestOrderModel" "seenOne" "[I", .fieldLink RX4 44 "ArrestOrderModel" "seenTwo" "[I", .methodLink RX4 134 yX4_noPerson, .instanceMethod yX4_noPerson, .selects RX4 yX4_noPerson yX4_noPerson, .initialized RX4, .code yX4_noPerson cX4_noPerson 2 (some .boolean), .fieldLink RX4 64 "ArrestOrderModel" "people" "I", .methodLink RX4 67 yX4_in, .static yX4_in, .code yX4_in cX4_in 6 (some .boolean)] ++ wsX40)
def wsX4_unsee : List Cond := .code yX4_unsee cX4_unsee 2 (some .int) :: ([.fieldLink RX4 60 "ArrestOrderModel" "thrown" "I", .fieldLink RX4 131 "ArrestOrderModel" "seen" "I"] ++ wsX40)
def wsX4_isSeen : List Cond := .code yX4_isSeen cX4_isSeen 6 (some .boolean) :: ([.fieldLink RX4 131 "ArrestOrderModel" "seen" "I", .fieldLink RX4 41 "ArrestOrderModel" "seenOne" "[I", .fieldLink RX4 44 "ArrestOrderModel" "seenTwo" "[I", .methodLink RX4 159 yX4_placeOf, .instanceMethod yX4_placeOf, .selects RX4 yX4_placeOf yX4_placeOf, .initialized RX4, .code yX4_placeOf cX4_placeOf 4 (some .int), .fieldLink RX4 121 "ArrestOrderModel" "rowSize" "I", .fieldLink RX4 47 "ArrestOrderModel" "row" "[I", .methodLink RX4 134 yX4_noPerson, .instanceMethod yX4_noPerson, .selects RX4 yX4_noPerson yX4_noPerson, .code yX4_noPerson cX4_noPerson 2 (some .boolean), .fieldLink RX4 64 "ArrestOrderModel" "people" "I", .methodLink RX4 67 yX4_in, .static yX4_in, .code yX4_in cX4_in 6 (some .boolean)] ++ wsX40)
def wsX4_did_r1 : List Cond := [Cond.fieldLink RX4 60 "ArrestOrderModel" "thrown" "I", Cond.fieldLink RX4 28 "ArrestOrderModel" "trial" "[I", Cond.methodLink RX4 134 yX4_noPerson, Cond.instanceMethod yX4_noPerson, Cond.selects RX4 yX4_noPerson yX4_noPerson, Cond.initialized RX4, Cond.code yX4_noPerson cX4_noPerson 2 (some .boolean), Cond.fieldLink RX4 64 "ArrestOrderModel" "people" "I", Cond.methodLink RX4 67 yX4_in, Cond.static yX4_in, Cond.code yX4_in cX4_in 6 (some .boolean), Cond.methodLink RX4 153 yX4_begin, Cond.instanceMethod yX4_begin, Cond.selects RX4 yX4_begin yX4_begin, Cond.code yX4_begin cX4_begin 2 none, Cond.fieldLink RX4 25 "ArrestOrderModel" "page" "[I", Cond.methodLink RX4 156 yX4_layFall, Cond.instanceMethod yX4_layFall, Cond.selects RX4 yX4_layFall yX4_layFall, Cond.code yX4_layFall cX4_layFall 2 none, Cond.fieldLink RX4 121 "ArrestOrderModel" "rowSize" "I", Cond.fieldLink RX4 47 "ArrestOrderModel" "row" "[I", Cond.methodLink RX4 124 yX4_mayOf, Cond.instanceMethod yX4_mayOf]
def wsX4_did_r2 : List Cond := [Cond.selects RX4 yX4_mayOf yX4_mayOf, Cond.code yX4_mayOf cX4_mayOf 5 (some .int), Cond.methodLink RX4 89 yX4_has, Cond.static yX4_has, Cond.code yX4_has cX4_has 2 (some .boolean), Cond.methodLink RX4 113 yX4_gradeOf, Cond.instanceMethod yX4_gradeOf, Cond.selects RX4 yX4_gradeOf yX4_gradeOf, Cond.code yX4_gradeOf cX4_gradeOf 3 (some .int), Cond.fieldLink RX4 13 "ArrestOrderModel" "kind" "[I", Cond.methodLink RX4 117 yX4_isHidden, Cond.instanceMethod yX4_isHidden, Cond.selects RX4 yX4_isHidden yX4_isHidden, Cond.code yX4_isHidden cX4_isHidden 5 (some .boolean), Cond.methodLink RX4 128 yX4_least, Cond.static yX4_least, Cond.code yX4_least cX4_least 2 (some .int), Cond.methodLink RX4 193 yX4_isSeen, Cond.instanceMethod yX4_isSeen, Cond.selects RX4 yX4_isSeen yX4_isSeen, Cond.code yX4_isSeen cX4_isSeen 6 (some .boolean), Cond.fieldLink RX4 131 "ArrestOrderModel" "seen" "I", Cond.fieldLink RX4 41 "ArrestOrderModel" "seenOne" "[I", Cond.fieldLink RX4 44 "ArrestOrderModel" "seenTwo" "[I"]
def wsX4_did_r3 : List Cond := [Cond.methodLink RX4 159 yX4_placeOf, Cond.instanceMethod yX4_placeOf, Cond.selects RX4 yX4_placeOf yX4_placeOf, Cond.code yX4_placeOf cX4_placeOf 4 (some .int)]
def wsX4_did : List Cond := .code yX4_did cX4_did 4 (some .int) :: ((wsX4_did_r1 ++ (wsX4_did_r2 ++ wsX4_did_r3)) ++ wsX40)
def wsX4_cellOf : List Cond := .code yX4_cellOf cX4_cellOf 2 (some .int) :: ([])
def wsX4_layGains_r1 : List Cond := [Cond.fieldLink RX4 64 "ArrestOrderModel" "people" "I", Cond.fieldLink RX4 28 "ArrestOrderModel" "trial" "[I", Cond.fieldLink RX4 53 "ArrestOrderModel" "gains" "[I", Cond.methodLink RX4 153 yX4_begin, Cond.instanceMethod yX4_begin, Cond.selects RX4 yX4_begin yX4_begin, Cond.initialized RX4, Cond.code yX4_begin cX4_begin 2 none, Cond.fieldLink RX4 25 "ArrestOrderModel" "page" "[I", Cond.methodLink RX4 156 yX4_layFall, Cond.instanceMethod yX4_layFall, Cond.selects RX4 yX4_layFall yX4_layFall, Cond.code yX4_layFall cX4_layFall 2 none, Cond.fieldLink RX4 121 "ArrestOrderModel" "rowSize" "I", Cond.fieldLink RX4 47 "ArrestOrderModel" "row" "[I", Cond.methodLink RX4 124 yX4_mayOf, Cond.instanceMethod yX4_mayOf, Cond.selects RX4 yX4_mayOf yX4_mayOf, Cond.code yX4_mayOf cX4_mayOf 5 (some .int), Cond.methodLink RX4 89 yX4_has, Cond.static yX4_has, Cond.code yX4_has cX4_has 2 (some .boolean), Cond.methodLink RX4 113 yX4_gradeOf, Cond.instanceMethod yX4_gradeOf]
def wsX4_layGains_r2 : List Cond := [Cond.selects RX4 yX4_gradeOf yX4_gradeOf, Cond.code yX4_gradeOf cX4_gradeOf 3 (some .int), Cond.fieldLink RX4 13 "ArrestOrderModel" "kind" "[I", Cond.methodLink RX4 117 yX4_isHidden, Cond.instanceMethod yX4_isHidden, Cond.selects RX4 yX4_isHidden yX4_isHidden, Cond.code yX4_isHidden cX4_isHidden 5 (some .boolean), Cond.methodLink RX4 128 yX4_least, Cond.static yX4_least, Cond.code yX4_least cX4_least 2 (some .int), Cond.methodLink RX4 196 yX4_cellOf, Cond.static yX4_cellOf, Cond.code yX4_cellOf cX4_cellOf 2 (some .int), Cond.methodLink RX4 159 yX4_placeOf, Cond.instanceMethod yX4_placeOf, Cond.selects RX4 yX4_placeOf yX4_placeOf, Cond.code yX4_placeOf cX4_placeOf 4 (some .int)]
def wsX4_layGains : List Cond := .code yX4_layGains cX4_layGains 5 none :: ((wsX4_layGains_r1 ++ wsX4_layGains_r2) ++ wsX40)
def wsX4_doRest : List Cond := .code yX4_doRest cX4_doRest 7 (some .boolean) :: ([.fieldLink RX4 64 "ArrestOrderModel" "people" "I", .fieldLink RX4 53 "ArrestOrderModel" "gains" "[I", .methodLink RX4 196 yX4_cellOf, .static yX4_cellOf, .initialized RX4, .code yX4_cellOf cX4_cellOf 2 (some .int)] ++ wsX40)
def wsX4_findRests_r1 : List Cond := [Cond.fieldLink RX4 204 "ArrestOrderModel" "restMany" "I", Cond.fieldLink RX4 207 "ArrestOrderModel" "restFirst" "I", Cond.fieldLink RX4 64 "ArrestOrderModel" "people" "I", Cond.methodLink RX4 200 yX4_layGains, Cond.instanceMethod yX4_layGains, Cond.selects RX4 yX4_layGains yX4_layGains, Cond.initialized RX4, Cond.code yX4_layGains cX4_layGains 5 none, Cond.fieldLink RX4 28 "ArrestOrderModel" "trial" "[I", Cond.fieldLink RX4 53 "ArrestOrderModel" "gains" "[I", Cond.methodLink RX4 153 yX4_begin, Cond.instanceMethod yX4_begin, Cond.selects RX4 yX4_begin yX4_begin, Cond.code yX4_begin cX4_begin 2 none, Cond.fieldLink RX4 25 "ArrestOrderModel" "page" "[I", Cond.methodLink RX4 156 yX4_layFall, Cond.instanceMethod yX4_layFall, Cond.selects RX4 yX4_layFall yX4_layFall, Cond.code yX4_layFall cX4_layFall 2 none, Cond.fieldLink RX4 121 "ArrestOrderModel" "rowSize" "I", Cond.fieldLink RX4 47 "ArrestOrderModel" "row" "[I", Cond.methodLink RX4 124 yX4_mayOf, Cond.instanceMethod yX4_mayOf, Cond.selects RX4 yX4_mayOf yX4_mayOf]
def wsX4_findRests_r2 : List Cond := [Cond.code yX4_mayOf cX4_mayOf 5 (some .int), Cond.methodLink RX4 89 yX4_has, Cond.static yX4_has, Cond.code yX4_has cX4_has 2 (some .boolean), Cond.methodLink RX4 113 yX4_gradeOf, Cond.instanceMethod yX4_gradeOf, Cond.selects RX4 yX4_gradeOf yX4_gradeOf, Cond.code yX4_gradeOf cX4_gradeOf 3 (some .int), Cond.fieldLink RX4 13 "ArrestOrderModel" "kind" "[I", Cond.methodLink RX4 117 yX4_isHidden, Cond.instanceMethod yX4_isHidden, Cond.selects RX4 yX4_isHidden yX4_isHidden, Cond.code yX4_isHidden cX4_isHidden 5 (some .boolean), Cond.methodLink RX4 128 yX4_least, Cond.static yX4_least, Cond.code yX4_least cX4_least 2 (some .int), Cond.methodLink RX4 196 yX4_cellOf, Cond.static yX4_cellOf, Cond.code yX4_cellOf cX4_cellOf 2 (some .int), Cond.methodLink RX4 159 yX4_placeOf, Cond.instanceMethod yX4_placeOf, Cond.selects RX4 yX4_placeOf yX4_placeOf, Cond.code yX4_placeOf cX4_placeOf 4 (some .int), Cond.methodLink RX4 210 yX4_doRest]
def wsX4_findRests_r3 : List Cond := [Cond.instanceMethod yX4_doRest, Cond.selects RX4 yX4_doRest yX4_doRest, Cond.code yX4_doRest cX4_doRest 7 (some .boolean)]
def wsX4_findRests : List Cond := .code yX4_findRests cX4_findRests 5 none :: ((wsX4_findRests_r1 ++ (wsX4_findRests_r2 ++ wsX4_findRests_r3)) ++ wsX40)
def wsX4_rests_r1 : List Cond := [Cond.fieldLink RX4 60 "ArrestOrderModel" "thrown" "I", Cond.fieldLink RX4 25 "ArrestOrderModel" "page" "[I", Cond.fieldLink RX4 204 "ArrestOrderModel" "restMany" "I", Cond.fieldLink RX4 207 "ArrestOrderModel" "restFirst" "I", Cond.methodLink RX4 134 yX4_noPerson, Cond.instanceMethod yX4_noPerson, Cond.selects RX4 yX4_noPerson yX4_noPerson, Cond.initialized RX4, Cond.code yX4_noPerson cX4_noPerson 2 (some .boolean), Cond.fieldLink RX4 64 "ArrestOrderModel" "people" "I", Cond.methodLink RX4 67 yX4_in, Cond.static yX4_in, Cond.code yX4_in cX4_in 6 (some .boolean), Cond.methodLink RX4 89 yX4_has, Cond.static yX4_has, Cond.code yX4_has cX4_has 2 (some .boolean), Cond.methodLink RX4 214 yX4_findRests, Cond.instanceMethod yX4_findRests, Cond.selects RX4 yX4_findRests yX4_findRests, Cond.code yX4_findRests cX4_findRests 5 none, Cond.methodLink RX4 200 yX4_layGains, Cond.instanceMethod yX4_layGains, Cond.selects RX4 yX4_layGains yX4_layGains, Cond.code yX4_layGains cX4_layGains 5 none]
def wsX4_rests_r2 : List Cond := [Cond.fieldLink RX4 28 "ArrestOrderModel" "trial" "[I", Cond.fieldLink RX4 53 "ArrestOrderModel" "gains" "[I", Cond.methodLink RX4 153 yX4_begin, Cond.instanceMethod yX4_begin, Cond.selects RX4 yX4_begin yX4_begin, Cond.code yX4_begin cX4_begin 2 none, Cond.methodLink RX4 156 yX4_layFall, Cond.instanceMethod yX4_layFall, Cond.selects RX4 yX4_layFall yX4_layFall, Cond.code yX4_layFall cX4_layFall 2 none, Cond.fieldLink RX4 121 "ArrestOrderModel" "rowSize" "I", Cond.fieldLink RX4 47 "ArrestOrderModel" "row" "[I", Cond.methodLink RX4 124 yX4_mayOf, Cond.instanceMethod yX4_mayOf, Cond.selects RX4 yX4_mayOf yX4_mayOf, Cond.code yX4_mayOf cX4_mayOf 5 (some .int), Cond.methodLink RX4 113 yX4_gradeOf, Cond.instanceMethod yX4_gradeOf, Cond.selects RX4 yX4_gradeOf yX4_gradeOf, Cond.code yX4_gradeOf cX4_gradeOf 3 (some .int), Cond.fieldLink RX4 13 "ArrestOrderModel" "kind" "[I", Cond.methodLink RX4 117 yX4_isHidden, Cond.instanceMethod yX4_isHidden, Cond.selects RX4 yX4_isHidden yX4_isHidden]
def wsX4_rests_r3 : List Cond := [Cond.code yX4_isHidden cX4_isHidden 5 (some .boolean), Cond.methodLink RX4 128 yX4_least, Cond.static yX4_least, Cond.code yX4_least cX4_least 2 (some .int), Cond.methodLink RX4 196 yX4_cellOf, Cond.static yX4_cellOf, Cond.code yX4_cellOf cX4_cellOf 2 (some .int), Cond.methodLink RX4 159 yX4_placeOf, Cond.instanceMethod yX4_placeOf, Cond.selects RX4 yX4_placeOf yX4_placeOf, Cond.code yX4_placeOf cX4_placeOf 4 (some .int), Cond.methodLink RX4 210 yX4_doRest, Cond.instanceMethod yX4_doRest, Cond.selects RX4 yX4_doRest yX4_doRest, Cond.code yX4_doRest cX4_doRest 7 (some .boolean)]
def wsX4_rests : List Cond := .code yX4_rests cX4_rests 4 (some .int) :: ((wsX4_rests_r1 ++ (wsX4_rests_r2 ++ wsX4_rests_r3)) ++ wsX40)
def wsX4_toss_r1 : List Cond := [Cond.fieldLink RX4 60 "ArrestOrderModel" "thrown" "I", Cond.constantLong RX4 217 (420), Cond.fieldLink RX4 56 "ArrestOrderModel" "weight" "[J", Cond.fieldLink RX4 25 "ArrestOrderModel" "page" "[I", Cond.fieldLink RX4 28 "ArrestOrderModel" "trial" "[I", Cond.fieldLink RX4 64 "ArrestOrderModel" "people" "I", Cond.methodLink RX4 134 yX4_noPerson, Cond.instanceMethod yX4_noPerson, Cond.selects RX4 yX4_noPerson yX4_noPerson, Cond.initialized RX4, Cond.code yX4_noPerson cX4_noPerson 2 (some .boolean), Cond.methodLink RX4 67 yX4_in, Cond.static yX4_in, Cond.code yX4_in cX4_in 6 (some .boolean), Cond.methodLink RX4 153 yX4_begin, Cond.instanceMethod yX4_begin, Cond.selects RX4 yX4_begin yX4_begin, Cond.code yX4_begin cX4_begin 2 none, Cond.methodLink RX4 124 yX4_mayOf, Cond.instanceMethod yX4_mayOf, Cond.selects RX4 yX4_mayOf yX4_mayOf, Cond.code yX4_mayOf cX4_mayOf 5 (some .int), Cond.methodLink RX4 89 yX4_has, Cond.static yX4_has]
def wsX4_toss_r2 : List Cond := [Cond.code yX4_has cX4_has 2 (some .boolean), Cond.methodLink RX4 113 yX4_gradeOf, Cond.instanceMethod yX4_gradeOf, Cond.selects RX4 yX4_gradeOf yX4_gradeOf, Cond.code yX4_gradeOf cX4_gradeOf 3 (some .int), Cond.fieldLink RX4 13 "ArrestOrderModel" "kind" "[I", Cond.methodLink RX4 117 yX4_isHidden, Cond.instanceMethod yX4_isHidden, Cond.selects RX4 yX4_isHidden yX4_isHidden, Cond.code yX4_isHidden cX4_isHidden 5 (some .boolean), Cond.methodLink RX4 141 yX4_many, Cond.static yX4_many, Cond.code yX4_many cX4_many 3 (some .int), Cond.methodLink RX4 189 yX4_fraction, Cond.static yX4_fraction, Cond.code yX4_fraction cX4_fraction 7 (some .int), Cond.methodLink RX4 182 yX4_divisor, Cond.static yX4_divisor, Cond.code yX4_divisor cX4_divisor 10 (some .long)]
def wsX4_toss : List Cond := .code yX4_toss cX4_toss 12 (some .int) :: ((wsX4_toss_r1 ++ wsX4_toss_r2) ++ wsX40)
def wsX4_seed : List Cond := .code yX4_seed cX4_seed 5 (some .long) :: ([.fieldLink RX4 60 "ArrestOrderModel" "thrown" "I", .fieldLink RX4 219 "ArrestOrderModel" "seed" "J"] ++ wsX40)
def wsX4_days_r1 : List Cond := [Cond.fieldLink RX4 60 "ArrestOrderModel" "thrown" "I", Cond.constantLong RX4 223 (30), Cond.fieldLink RX4 219 "ArrestOrderModel" "seed" "J", Cond.constantLong RX4 225 (6364136223846793005), Cond.constantLong RX4 227 (1442695040888963407), Cond.constantLong RX4 229 (12), Cond.fieldLink RX4 28 "ArrestOrderModel" "trial" "[I", Cond.methodLink RX4 67 yX4_in, Cond.static yX4_in, Cond.initialized RX4, Cond.code yX4_in cX4_in 6 (some .boolean), Cond.methodLink RX4 153 yX4_begin, Cond.instanceMethod yX4_begin, Cond.selects RX4 yX4_begin yX4_begin, Cond.code yX4_begin cX4_begin 2 none, Cond.fieldLink RX4 25 "ArrestOrderModel" "page" "[I", Cond.methodLink RX4 150 yX4_goDay, Cond.instanceMethod yX4_goDay, Cond.selects RX4 yX4_goDay yX4_goDay, Cond.code yX4_goDay cX4_goDay 4 (some .int), Cond.methodLink RX4 124 yX4_mayOf, Cond.instanceMethod yX4_mayOf, Cond.selects RX4 yX4_mayOf yX4_mayOf, Cond.code yX4_mayOf cX4_mayOf 5 (some .int)]
def wsX4_days_r2 : List Cond := [Cond.fieldLink RX4 64 "ArrestOrderModel" "people" "I", Cond.methodLink RX4 89 yX4_has, Cond.static yX4_has, Cond.code yX4_has cX4_has 2 (some .boolean), Cond.methodLink RX4 113 yX4_gradeOf, Cond.instanceMethod yX4_gradeOf, Cond.selects RX4 yX4_gradeOf yX4_gradeOf, Cond.code yX4_gradeOf cX4_gradeOf 3 (some .int), Cond.fieldLink RX4 13 "ArrestOrderModel" "kind" "[I", Cond.methodLink RX4 117 yX4_isHidden, Cond.instanceMethod yX4_isHidden, Cond.selects RX4 yX4_isHidden yX4_isHidden, Cond.code yX4_isHidden cX4_isHidden 5 (some .boolean), Cond.methodLink RX4 128 yX4_least, Cond.static yX4_least, Cond.code yX4_least cX4_least 2 (some .int), Cond.methodLink RX4 134 yX4_noPerson, Cond.instanceMethod yX4_noPerson, Cond.selects RX4 yX4_noPerson yX4_noPerson, Cond.code yX4_noPerson cX4_noPerson 2 (some .boolean), Cond.methodLink RX4 144 yX4_goDie, Cond.static yX4_goDie, Cond.code yX4_goDie cX4_goDie 2 none]
def wsX4_days : List Cond := .code yX4_days cX4_days 5 (some .int) :: ((wsX4_days_r1 ++ wsX4_days_r2) ++ wsX40)
def wsX4_keep : List Cond := .code yX4_keep cX4_keep 3 (some .int) :: ([.fieldLink RX4 60 "ArrestOrderModel" "thrown" "I", .fieldLink RX4 37 "ArrestOrderModel" "isKept" "[Z", .fieldLink RX4 34 "ArrestOrderModel" "kept" "[I", .fieldLink RX4 25 "ArrestOrderModel" "page" "[I", .methodLink RX4 67 yX4_in, .static yX4_in, .initialized RX4, .code yX4_in cX4_in 6 (some .boolean)] ++ wsX40)
def wsX4_again : List Cond := .code yX4_again cX4_again 3 (some .int) :: ([.fieldLink RX4 60 "ArrestOrderModel" "thrown" "I", .fieldLink RX4 37 "ArrestOrderModel" "isKept" "[Z", .fieldLink RX4 25 "ArrestOrderModel" "page" "[I", .fieldLink RX4 34 "ArrestOrderModel" "kept" "[I", .fieldLink RX4 110 "ArrestOrderModel" "acts" "I", .methodLink RX4 67 yX4_in, .static yX4_in, .initialized RX4, .code yX4_in cX4_in 6 (some .boolean)] ++ wsX40)
def wsJ9_abs_0f7a4 : List Cond := .code yJ9_abs_0f7a4 cJ9_abs_0f7a4 1 (some .int) :: ([])
def wsL_law_r1 : List Cond := [Cond.classLink RL 7 RX3, Cond.instantiable RX3 11, Cond.initialized RX3, Cond.classLink RL 10 RX4, Cond.instantiable RX4 29, Cond.initialized RX4, Cond.constantLong RL 118 (4294967295), Cond.methodLink RL 9 yX3_init, Cond.instanceMethod yX3_init, Cond.code yX3_init cX3_init 2 none, Cond.methodLink RX3 3 objectInit, Cond.instanceMethod objectInit, Cond.code objectInit ⟨#[0xb1]⟩ 1 none, Cond.classLink RX3 9 RX2, Cond.instantiable RX2 2, Cond.initialized RX2, Cond.fieldLink RX3 12 "ArrestOrder" "text" "LArrestOrder$Text;", Cond.classLink RX3 16 RX1, Cond.instantiable RX1 7, Cond.initialized RX1, Cond.fieldLink RX3 19 "ArrestOrder" "now" "LArrestOrder$Standing;", Cond.fieldLink RX3 23 "ArrestOrder" "trial" "LArrestOrder$Standing;", Cond.classLink RX3 26 RX0, Cond.instantiable RX0 3]
def wsL_law_r2 : List Cond := [Cond.initialized RX0, Cond.fieldLink RX3 29 "ArrestOrder" "acts" "LArrestOrder$Acts;", Cond.fieldLink RX3 33 "ArrestOrder" "slots" "[LArrestOrder$Standing;", Cond.arrayClass .int, Cond.fieldLink RX3 37 "ArrestOrder" "seen" "[I", Cond.fieldLink RX3 41 "ArrestOrder" "oneHas" "[I", Cond.fieldLink RX3 44 "ArrestOrder" "otherHas" "[I", Cond.instanceMethod yX2_init, Cond.code yX2_init cX2_init 1 none, Cond.methodLink RX2 3 objectInit, Cond.fieldLink RX2 9 "ArrestOrder$Text" "bytes" "[I", Cond.instanceMethod yX1_init, Cond.code yX1_init cX1_init 1 none, Cond.methodLink RX1 3 objectInit, Cond.instanceMethod yX0_init, Cond.code yX0_init cX0_init 2 none, Cond.methodLink RX0 3 objectInit, Cond.classLink RX0 9 RX1, Cond.fieldLink RX0 11 "ArrestOrder$Acts" "before" "[LArrestOrder$Standing;", Cond.methodLink RL 12 yX4_init, Cond.instanceMethod yX4_init, Cond.code yX4_init cX4_init 1 none, Cond.methodLink RX4 1 objectInit, Cond.fieldLink RX4 7 "ArrestOrderModel" "text" "[I"]
def wsL_law_r3 : List Cond := [Cond.fieldLink RX4 13 "ArrestOrderModel" "kind" "[I", Cond.fieldLink RX4 16 "ArrestOrderModel" "readDeed" "[I", Cond.fieldLink RX4 19 "ArrestOrderModel" "readKind" "[I", Cond.fieldLink RX4 22 "ArrestOrderModel" "readFeeds" "[I", Cond.fieldLink RX4 25 "ArrestOrderModel" "page" "[I", Cond.fieldLink RX4 28 "ArrestOrderModel" "trial" "[I", Cond.fieldLink RX4 31 "ArrestOrderModel" "book" "[I", Cond.fieldLink RX4 34 "ArrestOrderModel" "kept" "[I", Cond.arrayClass .boolean, Cond.fieldLink RX4 37 "ArrestOrderModel" "isKept" "[Z", Cond.fieldLink RX4 41 "ArrestOrderModel" "seenOne" "[I", Cond.fieldLink RX4 44 "ArrestOrderModel" "seenTwo" "[I", Cond.fieldLink RX4 47 "ArrestOrderModel" "row" "[I", Cond.fieldLink RX4 50 "ArrestOrderModel" "value" "[I", Cond.fieldLink RX4 53 "ArrestOrderModel" "gains" "[I", Cond.arrayClass .long, Cond.fieldLink RX4 56 "ArrestOrderModel" "weight" "[J", Cond.methodLink RL 13 yX3_write, Cond.instanceMethod yX3_write, Cond.selects RX3 yX3_write yX3_write, Cond.code yX3_write cX3_write 2 (some .int), Cond.instanceMethod yX2_append, Cond.selects RX2 yX2_append yX2_append, Cond.code yX2_append cX2_append 2 (some .boolean)]
def wsL_law_r4 : List Cond := [Cond.fieldLink RX2 15 "ArrestOrder$Text" "length" "I", Cond.methodLink RL 17 yX4_write, Cond.instanceMethod yX4_write, Cond.selects RX4 yX4_write yX4_write, Cond.code yX4_write cX4_write 2 (some .int), Cond.fieldLink RX4 60 "ArrestOrderModel" "thrown" "I", Cond.constantLong RX4 71 (255), Cond.fieldLink RX4 73 "ArrestOrderModel" "textSize" "I", Cond.methodLink RX4 67 yX4_in, Cond.static yX4_in, Cond.code yX4_in cX4_in 6 (some .boolean), Cond.methodLink RL 18 yX3_wipe, Cond.instanceMethod yX3_wipe, Cond.selects RX3 yX3_wipe yX3_wipe, Cond.code yX3_wipe cX3_wipe 2 (some .int), Cond.methodLink RL 22 yX4_wipe, Cond.instanceMethod yX4_wipe, Cond.selects RX4 yX4_wipe yX4_wipe, Cond.code yX4_wipe cX4_wipe 2 (some .int), Cond.methodLink RL 23 yX3_fault, Cond.instanceMethod yX3_fault, Cond.selects RX3 yX3_fault yX3_fault, Cond.code yX3_fault cX3_fault 1 (some .int), Cond.instanceMethod yX2_readInto]
def wsL_law_r5 : List Cond := [Cond.selects RX2 yX2_readInto yX2_readInto, Cond.code yX2_readInto cX2_readInto 4 (some .int), Cond.instanceMethod yX1_clear, Cond.selects RX1 yX1_clear yX1_clear, Cond.code yX1_clear cX1_clear 1 none, Cond.fieldLink RX1 9 "ArrestOrder$Standing" "people" "I", Cond.fieldLink RX1 15 "ArrestOrder$Standing" "kinds" "I", Cond.fieldLink RX1 18 "ArrestOrder$Standing" "deeds" "I", Cond.fieldLink RX1 21 "ArrestOrder$Standing" "feeding" "J", Cond.fieldLink RX1 25 "ArrestOrder$Standing" "large" "I", Cond.fieldLink RX1 28 "ArrestOrder$Standing" "dead" "I", Cond.fieldLink RX1 31 "ArrestOrder$Standing" "dayNumber" "I", Cond.methodLink RX2 24 yX2_byteAt, Cond.instanceMethod yX2_byteAt, Cond.selects RX2 yX2_byteAt yX2_byteAt, Cond.code yX2_byteAt cX2_byteAt 2 (some .int), Cond.methodLink RX2 28 yX2_readPart, Cond.instanceMethod yX2_readPart, Cond.selects RX2 yX2_readPart yX2_readPart, Cond.code yX2_readPart cX2_readPart 3 (some .int), Cond.methodLink RX2 35 yX2_readPerson, Cond.instanceMethod yX2_readPerson, Cond.selects RX2 yX2_readPerson yX2_readPerson, Cond.code yX2_readPerson cX2_readPerson 5 (some .int)]
def wsL_law_r6 : List Cond := [Cond.methodLink RX2 45 yX2_figureAt, Cond.instanceMethod yX2_figureAt, Cond.selects RX2 yX2_figureAt yX2_figureAt, Cond.code yX2_figureAt cX2_figureAt 3 (some .int), Cond.instanceMethod yX1_add, Cond.selects RX1 yX1_add yX1_add, Cond.code yX1_add cX1_add 4 none, Cond.static yX3_bit, Cond.code yX3_bit cX3_bit 1 (some .int), Cond.instanceMethod yX1_hasPairLeft, Cond.selects RX1 yX1_hasPairLeft yX1_hasPairLeft, Cond.code yX1_hasPairLeft cX1_hasPairLeft 1 (some .boolean), Cond.methodLink RX1 52 yJ13_bitCount_95d88, Cond.static yJ13_bitCount_95d88, Cond.initialized RJ13, Cond.code yJ13_bitCount_95d88 cJ13_bitCount_95d88 2 (some .int), Cond.constantLong RJ13 314 (6148914691236517205), Cond.constantLong RJ13 316 (3689348814741910323), Cond.constantLong RJ13 318 (1085102592571150095), Cond.methodLink RX2 42 yX2_readPair, Cond.instanceMethod yX2_readPair, Cond.selects RX2 yX2_readPair yX2_readPair, Cond.code yX2_readPair cX2_readPair 5 (some .int), Cond.instanceMethod yX1_has]
def wsL_law_r7 : List Cond := [Cond.selects RX1 yX1_has yX1_has, Cond.code yX1_has cX1_has 2 (some .boolean), Cond.instanceMethod yX1_whomFeeds, Cond.selects RX1 yX1_whomFeeds yX1_whomFeeds, Cond.code yX1_whomFeeds cX1_whomFeeds 4 (some .int), Cond.methodLink RX1 48 yX1_feeds, Cond.instanceMethod yX1_feeds, Cond.selects RX1 yX1_feeds yX1_feeds, Cond.code yX1_feeds cX1_feeds 3 (some .boolean), Cond.static yX3_pair, Cond.code yX3_pair cX3_pair 2 (some .long), Cond.methodLink RX2 59 yJ6_bitCount_0f7a4, Cond.static yJ6_bitCount_0f7a4, Cond.initialized RJ6, Cond.code yJ6_bitCount_0f7a4 cJ6_bitCount_0f7a4 1 (some .int), Cond.constant RJ6 265 (1431655765), Cond.constant RJ6 266 (858993459), Cond.constant RJ6 267 (252645135), Cond.methodLink RL 26 yX4_fault, Cond.instanceMethod yX4_fault, Cond.selects RX4 yX4_fault yX4_fault, Cond.code yX4_fault cX4_fault 1 (some .int), Cond.methodLink RX4 106 yX4_readCounty, Cond.instanceMethod yX4_readCounty]
def wsL_law_r8 : List Cond := [Cond.selects RX4 yX4_readCounty yX4_readCounty, Cond.code yX4_readCounty cX4_readCounty 1 (some .int), Cond.fieldLink RX4 76 "ArrestOrderModel" "place" "I", Cond.fieldLink RX4 79 "ArrestOrderModel" "readPeople" "I", Cond.methodLink RX4 103 yX4_readPart, Cond.instanceMethod yX4_readPart, Cond.selects RX4 yX4_readPart yX4_readPart, Cond.code yX4_readPart cX4_readPart 2 (some .boolean), Cond.methodLink RX4 93 yX4_readPerson, Cond.instanceMethod yX4_readPerson, Cond.selects RX4 yX4_readPerson yX4_readPerson, Cond.code yX4_readPerson cX4_readPerson 3 (some .boolean), Cond.methodLink RX4 86 yX4_figure, Cond.instanceMethod yX4_figure, Cond.selects RX4 yX4_figure yX4_figure, Cond.code yX4_figure cX4_figure 2 (some .int), Cond.methodLink RX4 97 yX4_isLeft, Cond.instanceMethod yX4_isLeft, Cond.selects RX4 yX4_isLeft yX4_isLeft, Cond.code yX4_isLeft cX4_isLeft 3 (some .boolean), Cond.methodLink RX4 82 yX4_leftOf, Cond.instanceMethod yX4_leftOf, Cond.selects RX4 yX4_leftOf yX4_leftOf, Cond.code yX4_leftOf cX4_leftOf 2 (some .int)]
def wsL_law_r9 : List Cond := [Cond.methodLink RX4 100 yX4_readPair, Cond.instanceMethod yX4_readPair, Cond.selects RX4 yX4_readPair yX4_readPair, Cond.code yX4_readPair cX4_readPair 3 (some .boolean), Cond.methodLink RX4 89 yX4_has, Cond.static yX4_has, Cond.code yX4_has cX4_has 2 (some .boolean), Cond.methodLink RL 27 yX3_county, Cond.instanceMethod yX3_county, Cond.selects RX3 yX3_county yX3_county, Cond.code yX3_county cX3_county 1 (some .int), Cond.fieldLink RX3 66 "ArrestOrder" "keptSlots" "I", Cond.instanceMethod yX1_copy, Cond.selects RX1 yX1_copy yX1_copy, Cond.code yX1_copy cX1_copy 2 none, Cond.methodLink RL 30 yX4_county, Cond.instanceMethod yX4_county, Cond.selects RX4 yX4_county yX4_county, Cond.code yX4_county cX4_county 2 (some .int), Cond.fieldLink RX4 64 "ArrestOrderModel" "people" "I", Cond.fieldLink RX4 110 "ArrestOrderModel" "acts" "I", Cond.methodLink RL 31 yX3_about, Cond.instanceMethod yX3_about, Cond.selects RX3 yX3_about yX3_about]
def wsL_law_r10 : List Cond := [Cond.code yX3_about cX3_about 2 (some .int), Cond.fieldLink RX3 89 "ArrestOrder" "seenCount" "I", Cond.instanceMethod yX1_mayBeTaken, Cond.selects RX1 yX1_mayBeTaken yX1_mayBeTaken, Cond.code yX1_mayBeTaken cX1_mayBeTaken 6 (some .int), Cond.static yX3_isIn, Cond.code yX3_isIn cX3_isIn 2 (some .boolean), Cond.methodLink RX1 74 yX1_gradeOf, Cond.instanceMethod yX1_gradeOf, Cond.selects RX1 yX1_gradeOf yX1_gradeOf, Cond.code yX1_gradeOf cX1_gradeOf 3 (some .int), Cond.methodLink RX1 38 yX1_kindOf, Cond.instanceMethod yX1_kindOf, Cond.selects RX1 yX1_kindOf yX1_kindOf, Cond.code yX1_kindOf cX1_kindOf 2 (some .int), Cond.methodLink RX1 41 yX1_deedOf, Cond.instanceMethod yX1_deedOf, Cond.selects RX1 yX1_deedOf yX1_deedOf, Cond.code yX1_deedOf cX1_deedOf 2 (some .int), Cond.methodLink RX1 68 yX1_isHidden, Cond.instanceMethod yX1_isHidden, Cond.selects RX1 yX1_isHidden yX1_isHidden, Cond.code yX1_isHidden cX1_isHidden 4 (some .boolean), Cond.instanceMethod yX1_hiddenOnes]
def wsL_law_r11 : List Cond := [Cond.selects RX1 yX1_hiddenOnes yX1_hiddenOnes, Cond.code yX1_hiddenOnes cX1_hiddenOnes 3 (some .int), Cond.methodLink RL 34 yX4_about, Cond.instanceMethod yX4_about, Cond.selects RX4 yX4_about yX4_about, Cond.code yX4_about cX4_about 4 (some .int), Cond.fieldLink RX4 131 "ArrestOrderModel" "seen" "I", Cond.methodLink RX4 117 yX4_isHidden, Cond.instanceMethod yX4_isHidden, Cond.selects RX4 yX4_isHidden yX4_isHidden, Cond.code yX4_isHidden cX4_isHidden 5 (some .boolean), Cond.methodLink RX4 124 yX4_mayOf, Cond.instanceMethod yX4_mayOf, Cond.selects RX4 yX4_mayOf yX4_mayOf, Cond.code yX4_mayOf cX4_mayOf 5 (some .int), Cond.methodLink RX4 113 yX4_gradeOf, Cond.instanceMethod yX4_gradeOf, Cond.selects RX4 yX4_gradeOf yX4_gradeOf, Cond.code yX4_gradeOf cX4_gradeOf 3 (some .int), Cond.methodLink RL 35 yX3_person, Cond.instanceMethod yX3_person, Cond.selects RX3 yX3_person yX3_person, Cond.code yX3_person cX3_person 3 (some .int), Cond.methodLink RL 39 yX4_person]
def wsL_law_r12 : List Cond := [Cond.instanceMethod yX4_person, Cond.selects RX4 yX4_person yX4_person, Cond.code yX4_person cX4_person 3 (some .int), Cond.methodLink RX4 134 yX4_noPerson, Cond.instanceMethod yX4_noPerson, Cond.selects RX4 yX4_noPerson yX4_noPerson, Cond.code yX4_noPerson cX4_noPerson 2 (some .boolean), Cond.methodLink RL 40 yX3_take, Cond.instanceMethod yX3_take, Cond.selects RX3 yX3_take yX3_take, Cond.code yX3_take cX3_take 2 (some .int), Cond.methodLink RX3 107 yX3_isIn, Cond.instanceMethod yX0_remember, Cond.selects RX0 yX0_remember yX0_remember, Cond.code yX0_remember cX0_remember 2 none, Cond.fieldLink RX0 18 "ArrestOrder$Acts" "first" "I", Cond.fieldLink RX0 22 "ArrestOrder$Acts" "count" "I", Cond.methodLink RX3 114 yX3_without, Cond.static yX3_without, Cond.code yX3_without cX3_without 2 (some .int), Cond.methodLink RX3 118 yJ6_bitCount_0f7a4, Cond.methodLink RL 43 yX4_take, Cond.instanceMethod yX4_take, Cond.selects RX4 yX4_take yX4_take]
def wsL_law_r13 : List Cond := [Cond.code yX4_take cX4_take 2 (some .int), Cond.methodLink RX4 138 yX4_note, Cond.instanceMethod yX4_note, Cond.selects RX4 yX4_note yX4_note, Cond.code yX4_note cX4_note 2 none, Cond.methodLink RX4 141 yX4_many, Cond.static yX4_many, Cond.code yX4_many cX4_many 3 (some .int), Cond.methodLink RL 44 yX3_free, Cond.instanceMethod yX3_free, Cond.selects RX3 yX3_free yX3_free, Cond.code yX3_free cX3_free 2 (some .int), Cond.methodLink RX3 123 yX3_bit, Cond.methodLink RL 47 yX4_free, Cond.instanceMethod yX4_free, Cond.selects RX4 yX4_free yX4_free, Cond.code yX4_free cX4_free 2 (some .int), Cond.methodLink RL 48 yX3_die, Cond.instanceMethod yX3_die, Cond.selects RX3 yX3_die yX3_die, Cond.code yX3_die cX3_die 2 (some .int), Cond.instanceMethod yX1_bury, Cond.selects RX1 yX1_bury yX1_bury, Cond.code yX1_bury cX1_bury 2 none]
def wsL_law_r14 : List Cond := [Cond.methodLink RL 51 yX4_die, Cond.instanceMethod yX4_die, Cond.selects RX4 yX4_die yX4_die, Cond.code yX4_die cX4_die 2 (some .int), Cond.methodLink RX4 144 yX4_goDie, Cond.static yX4_goDie, Cond.code yX4_goDie cX4_goDie 2 none, Cond.methodLink RL 52 yX3_feed, Cond.instanceMethod yX3_feed, Cond.selects RX3 yX3_feed yX3_feed, Cond.code yX3_feed cX3_feed 3 (some .int), Cond.methodLink RX3 134 yX3_pair, Cond.methodLink RL 55 yX4_feed, Cond.instanceMethod yX4_feed, Cond.selects RX4 yX4_feed yX4_feed, Cond.code yX4_feed cX4_feed 3 (some .int), Cond.methodLink RL 56 yX3_grade, Cond.instanceMethod yX3_grade, Cond.selects RX3 yX3_grade yX3_grade, Cond.code yX3_grade cX3_grade 4 (some .int), Cond.instanceMethod yX1_setDeed, Cond.selects RX1 yX1_setDeed yX1_setDeed, Cond.code yX1_setDeed cX1_setDeed 3 none, Cond.methodLink RL 59 yX4_grade]
def wsL_law_r15 : List Cond := [Cond.instanceMethod yX4_grade, Cond.selects RX4 yX4_grade yX4_grade, Cond.code yX4_grade cX4_grade 4 (some .int), Cond.constantLong RX4 148 (9), Cond.methodLink RL 60 yX3_day, Cond.instanceMethod yX3_day, Cond.selects RX3 yX3_day yX3_day, Cond.code yX3_day cX3_day 1 (some .int), Cond.instanceMethod yX1_passDay, Cond.selects RX1 yX1_passDay yX1_passDay, Cond.code yX1_passDay cX1_passDay 2 (some .int), Cond.methodLink RX1 62 yX1_mayBeTaken, Cond.static yX3_leastOf, Cond.code yX3_leastOf cX3_leastOf 2 (some .int), Cond.methodLink RL 63 yX4_day, Cond.instanceMethod yX4_day, Cond.selects RX4 yX4_day yX4_day, Cond.code yX4_day cX4_day 1 (some .int), Cond.methodLink RX4 150 yX4_goDay, Cond.instanceMethod yX4_goDay, Cond.selects RX4 yX4_goDay yX4_goDay, Cond.code yX4_goDay cX4_goDay 4 (some .int), Cond.methodLink RX4 128 yX4_least, Cond.static yX4_least]
def wsL_law_r16 : List Cond := [Cond.code yX4_least cX4_least 2 (some .int), Cond.methodLink RL 64 yX3_undo, Cond.instanceMethod yX3_undo, Cond.selects RX3 yX3_undo yX3_undo, Cond.code yX3_undo cX3_undo 1 (some .int), Cond.instanceMethod yX0_takeBackInto, Cond.selects RX0 yX0_takeBackInto yX0_takeBackInto, Cond.code yX0_takeBackInto cX0_takeBackInto 2 (some .boolean), Cond.methodLink RL 67 yX4_undo, Cond.instanceMethod yX4_undo, Cond.selects RX4 yX4_undo yX4_undo, Cond.code yX4_undo cX4_undo 2 (some .int), Cond.methodLink RL 68 yX3_fall, Cond.instanceMethod yX3_fall, Cond.selects RX3 yX3_fall yX3_fall, Cond.code yX3_fall cX3_fall 1 (some .int), Cond.instanceMethod yX1_fallRow, Cond.selects RX1 yX1_fallRow yX1_fallRow, Cond.code yX1_fallRow cX1_fallRow 5 (some .int), Cond.methodLink RL 71 yX4_fall, Cond.instanceMethod yX4_fall, Cond.selects RX4 yX4_fall yX4_fall, Cond.code yX4_fall cX4_fall 3 (some .int), Cond.fieldLink RX4 121 "ArrestOrderModel" "rowSize" "I"]
def wsL_law_r17 : List Cond := [Cond.methodLink RX4 153 yX4_begin, Cond.instanceMethod yX4_begin, Cond.selects RX4 yX4_begin yX4_begin, Cond.code yX4_begin cX4_begin 2 none, Cond.methodLink RX4 156 yX4_layFall, Cond.instanceMethod yX4_layFall, Cond.selects RX4 yX4_layFall yX4_layFall, Cond.code yX4_layFall cX4_layFall 2 none, Cond.methodLink RL 72 yX3_place, Cond.instanceMethod yX3_place, Cond.selects RX3 yX3_place yX3_place, Cond.code yX3_place cX3_place 2 (some .int), Cond.instanceMethod yX1_placeOf, Cond.selects RX1 yX1_placeOf yX1_placeOf, Cond.code yX1_placeOf cX1_placeOf 5 (some .int), Cond.methodLink RL 75 yX4_place, Cond.instanceMethod yX4_place, Cond.selects RX4 yX4_place yX4_place, Cond.code yX4_place cX4_place 2 (some .int), Cond.methodLink RX4 159 yX4_placeOf, Cond.instanceMethod yX4_placeOf, Cond.selects RX4 yX4_placeOf yX4_placeOf, Cond.code yX4_placeOf cX4_placeOf 4 (some .int), Cond.methodLink RL 76 yX3_last]
def wsL_law_r18 : List Cond := [Cond.instanceMethod yX3_last, Cond.selects RX3 yX3_last yX3_last, Cond.code yX3_last cX3_last 1 (some .int), Cond.instanceMethod yX1_leftBehind, Cond.selects RX1 yX1_leftBehind yX1_leftBehind, Cond.code yX1_leftBehind cX1_leftBehind 5 (some .int), Cond.methodLink RL 79 yX4_last, Cond.instanceMethod yX4_last, Cond.selects RX4 yX4_last yX4_last, Cond.code yX4_last cX4_last 1 (some .int), Cond.methodLink RL 80 yX3_toFeed, Cond.instanceMethod yX3_toFeed, Cond.selects RX3 yX3_toFeed yX3_toFeed, Cond.code yX3_toFeed cX3_toFeed 4 (some .int), Cond.instanceMethod yX1_isTaken, Cond.selects RX1 yX1_isTaken yX1_isTaken, Cond.code yX1_isTaken cX1_isTaken 3 (some .boolean), Cond.methodLink RX1 80 yX1_leftBehind, Cond.methodLink RX3 164 yX3_onePair, Cond.instanceMethod yX3_onePair, Cond.selects RX3 yX3_onePair yX3_onePair, Cond.code yX3_onePair cX3_onePair 5 (some .int), Cond.methodLink RX3 200 yX3_newPair, Cond.instanceMethod yX3_newPair]
def wsL_law_r19 : List Cond := [Cond.selects RX3 yX3_newPair yX3_newPair, Cond.code yX3_newPair cX3_newPair 5 (some .long), Cond.methodLink RX3 204 yX3_savesByFeeding, Cond.instanceMethod yX3_savesByFeeding, Cond.selects RX3 yX3_savesByFeeding yX3_savesByFeeding, Cond.code yX3_savesByFeeding cX3_savesByFeeding 4 (some .boolean), Cond.methodLink RX3 167 yX3_twoPairs, Cond.instanceMethod yX3_twoPairs, Cond.selects RX3 yX3_twoPairs yX3_twoPairs, Cond.code yX3_twoPairs cX3_twoPairs 9 (some .int), Cond.methodLink RL 83 yX4_toFeed, Cond.instanceMethod yX4_toFeed, Cond.selects RX4 yX4_toFeed yX4_toFeed, Cond.code yX4_toFeed cX4_toFeed 3 (some .int), Cond.fieldLink RX4 162 "ArrestOrderModel" "feedMany" "I", Cond.fieldLink RX4 165 "ArrestOrderModel" "feedRow" "I", Cond.methodLink RX4 175 yX4_findFeed, Cond.instanceMethod yX4_findFeed, Cond.selects RX4 yX4_findFeed yX4_findFeed, Cond.code yX4_findFeed cX4_findFeed 5 none, Cond.methodLink RX4 168 yX4_isSafe, Cond.instanceMethod yX4_isSafe, Cond.selects RX4 yX4_isSafe yX4_isSafe, Cond.code yX4_isSafe cX4_isSafe 4 (some .boolean)]
def wsL_law_r20 : List Cond := [Cond.methodLink RX4 172 yX4_isPair, Cond.instanceMethod yX4_isPair, Cond.selects RX4 yX4_isPair yX4_isPair, Cond.code yX4_isPair cX4_isPair 4 (some .boolean), Cond.methodLink RL 84 yX3_giveUp, Cond.instanceMethod yX3_giveUp, Cond.selects RX3 yX3_giveUp yX3_giveUp, Cond.code yX3_giveUp cX3_giveUp 6 (some .int), Cond.methodLink RL 87 yX4_giveUp, Cond.instanceMethod yX4_giveUp, Cond.selects RX4 yX4_giveUp yX4_giveUp, Cond.code yX4_giveUp cX4_giveUp 5 (some .int), Cond.methodLink RL 88 yX3_claim, Cond.instanceMethod yX3_claim, Cond.selects RX3 yX3_claim yX3_claim, Cond.code yX3_claim cX3_claim 6 (some .int), Cond.instanceMethod yX1_worthOf, Cond.selects RX1 yX1_worthOf yX1_worthOf, Cond.code yX1_worthOf cX1_worthOf 3 (some .int), Cond.methodLink RX1 77 yX1_placeOf, Cond.methodLink RL 91 yX4_claim, Cond.instanceMethod yX4_claim, Cond.selects RX4 yX4_claim yX4_claim, Cond.code yX4_claim cX4_claim 6 (some .int)]
def wsL_law_r21 : List Cond := [Cond.methodLink RX4 179 yX4_lateness, Cond.instanceMethod yX4_lateness, Cond.selects RX4 yX4_lateness yX4_lateness, Cond.code yX4_lateness cX4_lateness 2 (some .int), Cond.methodLink RL 92 yX3_share, Cond.instanceMethod yX3_share, Cond.selects RX3 yX3_share yX3_share, Cond.code yX3_share cX3_share 9 (some .int), Cond.methodLink RX3 173 yX3_inLeastTerms, Cond.static yX3_inLeastTerms, Cond.code yX3_inLeastTerms cX3_inLeastTerms 5 (some .int), Cond.methodLink RX3 220 Lib.Math.abs.name, Cond.static Lib.Math.abs.name, Cond.initialized "java/lang/Math", Cond.code Lib.Math.abs.name Lib.Math.abs.code 1 (some .int), Cond.methodLink RX3 225 yX3_commonDivisor, Cond.static yX3_commonDivisor, Cond.code yX3_commonDivisor cX3_commonDivisor 6 (some .int), Cond.methodLink RX3 177 yX3_factorial, Cond.static yX3_factorial, Cond.code yX3_factorial cX3_factorial 3 (some .int), Cond.instanceMethod yX1_countTaken, Cond.selects RX1 yX1_countTaken yX1_countTaken, Cond.code yX1_countTaken cX1_countTaken 2 (some .int)]
def wsL_law_r22 : List Cond := [Cond.methodLink RX1 83 yJ6_bitCount_0f7a4, Cond.methodLink RL 96 yX4_share, Cond.instanceMethod yX4_share, Cond.selects RX4 yX4_share yX4_share, Cond.code yX4_share cX4_share 8 (some .int), Cond.methodLink RX4 186 yX4_ways, Cond.static yX4_ways, Cond.code yX4_ways cX4_ways 3 (some .int), Cond.methodLink RX4 189 yX4_fraction, Cond.static yX4_fraction, Cond.code yX4_fraction cX4_fraction 7 (some .int), Cond.methodLink RX4 182 yX4_divisor, Cond.static yX4_divisor, Cond.code yX4_divisor cX4_divisor 10 (some .long), Cond.methodLink RL 97 yX3_see, Cond.instanceMethod yX3_see, Cond.selects RX3 yX3_see yX3_see, Cond.code yX3_see cX3_see 3 (some .int), Cond.methodLink RL 100 yX4_see, Cond.instanceMethod yX4_see, Cond.selects RX4 yX4_see yX4_see, Cond.code yX4_see cX4_see 3 (some .int), Cond.methodLink RL 101 yX3_unsee, Cond.instanceMethod yX3_unsee]
def wsL_law_r23 : List Cond := [Cond.selects RX3 yX3_unsee yX3_unsee, Cond.code yX3_unsee cX3_unsee 2 (some .int), Cond.methodLink RL 104 yX4_unsee, Cond.instanceMethod yX4_unsee, Cond.selects RX4 yX4_unsee yX4_unsee, Cond.code yX4_unsee cX4_unsee 2 (some .int), Cond.methodLink RL 105 yX3_did, Cond.instanceMethod yX3_did, Cond.selects RX3 yX3_did yX3_did, Cond.code yX3_did cX3_did 4 (some .int), Cond.methodLink RX3 183 yX3_allSeenIsSo, Cond.instanceMethod yX3_allSeenIsSo, Cond.selects RX3 yX3_allSeenIsSo yX3_allSeenIsSo, Cond.code yX3_allSeenIsSo cX3_allSeenIsSo 2 (some .boolean), Cond.methodLink RX3 208 yX3_isSo, Cond.instanceMethod yX3_isSo, Cond.selects RX3 yX3_isSo yX3_isSo, Cond.code yX3_isSo cX3_isSo 5 (some .boolean), Cond.methodLink RL 108 yX4_did, Cond.instanceMethod yX4_did, Cond.selects RX4 yX4_did yX4_did, Cond.code yX4_did cX4_did 4 (some .int), Cond.methodLink RX4 193 yX4_isSeen, Cond.instanceMethod yX4_isSeen]
def wsL_law_r24 : List Cond := [Cond.selects RX4 yX4_isSeen yX4_isSeen, Cond.code yX4_isSeen cX4_isSeen 6 (some .boolean), Cond.methodLink RL 109 yX3_rests, Cond.instanceMethod yX3_rests, Cond.selects RX3 yX3_rests yX3_rests, Cond.code yX3_rests cX3_rests 8 (some .int), Cond.methodLink RX3 187 yX3_weighChoices, Cond.instanceMethod yX3_weighChoices, Cond.selects RX3 yX3_weighChoices yX3_weighChoices, Cond.code yX3_weighChoices cX3_weighChoices 6 none, Cond.methodLink RX3 211 yX3_chosen, Cond.static yX3_chosen, Cond.code yX3_chosen cX3_chosen 2 (some .long), Cond.methodLink RX3 214 yX3_isOpen, Cond.static yX3_isOpen, Cond.code yX3_isOpen cX3_isOpen 2 (some .boolean), Cond.methodLink RX3 217 yX3_cost, Cond.static yX3_cost, Cond.code yX3_cost cX3_cost 1 (some .int), Cond.methodLink RX3 190 yX3_isRest, Cond.instanceMethod yX3_isRest, Cond.selects RX3 yX3_isRest yX3_isRest, Cond.code yX3_isRest cX3_isRest 5 (some .boolean), Cond.methodLink RL 113 yX4_rests]
def wsL_law_r25 : List Cond := [Cond.instanceMethod yX4_rests, Cond.selects RX4 yX4_rests yX4_rests, Cond.code yX4_rests cX4_rests 4 (some .int), Cond.fieldLink RX4 204 "ArrestOrderModel" "restMany" "I", Cond.fieldLink RX4 207 "ArrestOrderModel" "restFirst" "I", Cond.methodLink RX4 214 yX4_findRests, Cond.instanceMethod yX4_findRests, Cond.selects RX4 yX4_findRests yX4_findRests, Cond.code yX4_findRests cX4_findRests 5 none, Cond.methodLink RX4 200 yX4_layGains, Cond.instanceMethod yX4_layGains, Cond.selects RX4 yX4_layGains yX4_layGains, Cond.code yX4_layGains cX4_layGains 5 none, Cond.methodLink RX4 196 yX4_cellOf, Cond.static yX4_cellOf, Cond.code yX4_cellOf cX4_cellOf 2 (some .int), Cond.methodLink RX4 210 yX4_doRest, Cond.instanceMethod yX4_doRest, Cond.selects RX4 yX4_doRest yX4_doRest, Cond.code yX4_doRest cX4_doRest 7 (some .boolean), Cond.methodLink RL 114 yX3_toss, Cond.instanceMethod yX3_toss, Cond.selects RX3 yX3_toss yX3_toss, Cond.code yX3_toss cX3_toss 3 (some .int)]
def wsL_law_r26 : List Cond := [Cond.methodLink RL 117 yX4_toss, Cond.instanceMethod yX4_toss, Cond.selects RX4 yX4_toss yX4_toss, Cond.code yX4_toss cX4_toss 12 (some .int), Cond.constantLong RX4 217 (420), Cond.methodLink RL 120 yX3_seed, Cond.instanceMethod yX3_seed, Cond.selects RX3 yX3_seed yX3_seed, Cond.code yX3_seed cX3_seed 5 (some .long), Cond.fieldLink RX3 193 "ArrestOrder" "seed" "J", Cond.methodLink RL 124 yX4_seed, Cond.instanceMethod yX4_seed, Cond.selects RX4 yX4_seed yX4_seed, Cond.code yX4_seed cX4_seed 5 (some .long), Cond.fieldLink RX4 219 "ArrestOrderModel" "seed" "J", Cond.methodLink RL 125 yX3_days, Cond.instanceMethod yX3_days, Cond.selects RX3 yX3_days yX3_days, Cond.code yX3_days cX3_days 5 (some .int), Cond.constantLong RX3 196 (6364136223846793005), Cond.constantLong RX3 198 (1442695040888963407), Cond.methodLink RL 128 yX4_days, Cond.instanceMethod yX4_days, Cond.selects RX4 yX4_days yX4_days]
def wsL_law_r27 : List Cond := [Cond.code yX4_days cX4_days 5 (some .int), Cond.constantLong RX4 223 (30), Cond.constantLong RX4 225 (6364136223846793005), Cond.constantLong RX4 227 (1442695040888963407), Cond.constantLong RX4 229 (12), Cond.methodLink RL 129 yX3_keep, Cond.instanceMethod yX3_keep, Cond.selects RX3 yX3_keep yX3_keep, Cond.code yX3_keep cX3_keep 2 (some .int), Cond.methodLink RL 132 yX4_keep, Cond.instanceMethod yX4_keep, Cond.selects RX4 yX4_keep yX4_keep, Cond.code yX4_keep cX4_keep 3 (some .int), Cond.methodLink RL 133 yX3_again, Cond.instanceMethod yX3_again, Cond.selects RX3 yX3_again yX3_again, Cond.code yX3_again cX3_again 2 (some .int), Cond.methodLink RL 136 yX4_again, Cond.instanceMethod yX4_again, Cond.selects RX4 yX4_again yX4_again, Cond.code yX4_again cX4_again 3 (some .int)]
def wsL_law : List Cond := (wsL_law_r1 ++ (wsL_law_r2 ++ (wsL_law_r3 ++ (wsL_law_r4 ++ (wsL_law_r5 ++ (wsL_law_r6 ++ (wsL_law_r7 ++ (wsL_law_r8 ++ (wsL_law_r9 ++ (wsL_law_r10 ++ (wsL_law_r11 ++ (wsL_law_r12 ++ (wsL_law_r13 ++ (wsL_law_r14 ++ (wsL_law_r15 ++ (wsL_law_r16 ++ (wsL_law_r17 ++ (wsL_law_r18 ++ (wsL_law_r19 ++ (wsL_law_r20 ++ (wsL_law_r21 ++ (wsL_law_r22 ++ (wsL_law_r23 ++ (wsL_law_r24 ++ (wsL_law_r25 ++ (wsL_law_r26 ++ wsL_law_r27)))))))))))))))))))))))))) ++ wsX30 ++ wsX40 ++ wsX20 ++ wsX10 ++ wsX00 ++ ([] : List Cond)
theorem inJ6 : ∀ w ∈ wsJ60, w ∈ lw_tbl := by decide +kernel
theorem inJ13 : ∀ w ∈ wsJ130, w ∈ lw_tbl := by decide +kernel
theorem inJ9 : ∀ w ∈ wsJ90, w ∈ lw_tbl := by decide +kernel
abbrev vwCl : List vw_C := [(RX0, TX0, 3), (RX1, TX1, 7), (RX2, TX2, 2), (RX3, TX3, 11), (RX4, TX4, 29)]
end
section
set_option maxRecDepth 20000 in
theorem ggX0_init_X1_init : GoodIn wsX0_init wsX1_init := goodIn_r _ [9, 10, 2, 3] (by decide +kernel) (by decide +kernel)
set_option maxRecDepth 20000 in
theorem gX0_init_X1_init_n17 : GoodIn wsX0_init (wsX1_init) := ggX0_init_X1_init
theorem dX0_init_0 : decode cX0_init 0 = .ok (.aload_n 0, 1) := by decide +kernel
theorem dX0_init_1 : decode cX0_init 1 = .ok (.invokespecial 3, 3) := by decide +kernel
theorem dX0_init_4 : decode cX0_init 4 = .ok (.aload_n 0, 1) := by decide +kernel
theorem dX0_init_5 : decode cX0_init 5 = .ok (.bipush 14, 2) := by decide +kernel
theorem dX0_init_7 : decode cX0_init 7 = .ok (.anewarray 9, 3) := by decide +kernel
theorem dX0_init_10 : decode cX0_init 10 = .ok (.putfield 11, 3) := by decide +kernel
theorem dX0_init_13 : decode cX0_init 13 = .ok (.iconst 0, 1) := by decide +kernel
theorem dX0_init_14 : decode cX0_init 14 = .ok (.istore_n 1, 1) := by decide +kernel
theorem dX0_init_15 : decode cX0_init 15 = .ok (.iload_n 1, 1) := by decide +kernel
theorem dX0_init_16 : decode cX0_init 16 = .ok (.bipush 14, 2) := by decide +kernel
theorem dX0_init_18 : decode cX0_init 18 = .ok (.if_icmp .ge 22, 3) := by decide +kernel
theorem dX0_init_21 : decode cX0_init 21 = .ok (.aload_n 0, 1) := by decide +kernel
theorem dX0_init_22 : decode cX0_init 22 = .ok (.getfield 11, 3) := by decide +kernel
theorem dX0_init_25 : decode cX0_init 25 = .ok (.iload_n 1, 1) := by decide +kernel
theorem dX0_init_26 : decode cX0_init 26 = .ok (.new 9, 3) := by decide +kernel
theorem dX0_init_29 : decode cX0_init 29 = .ok (.dup, 1) := by decide +kernel
theorem dX0_init_30 : decode cX0_init 30 = .ok (.invokespecial 17, 3) := by decide +kernel
theorem dX0_init_33 : decode cX0_init 33 = .ok (.aastore, 1) := by decide +kernel
theorem dX0_init_34 : decode cX0_init 34 = .ok (.iinc 1 1, 3) := by decide +kernel
theorem dX0_init_37 : decode cX0_init 37 = .ok (.goto (-22), 3) := by decide +kernel
theorem dX0_init_40 : decode cX0_init 40 = .ok (.return_, 1) := by decide +kernel
set_option maxRecDepth 20000 in
theorem ggX0_remember_X1_copy : GoodIn wsX0_remember wsX1_copy := goodIn_r _ [7, 8, 9, 10, 11, 12, 13, 14, 18, 19, 20, 21, 22, 23, 24] (by decide +kernel) (by decide +kernel)
set_option maxRecDepth 20000 in
theorem gX0_remember_X1_copy_n25 : GoodIn wsX0_remember (wsX1_copy) := ggX0_remember_X1_copy
theorem dX0_remember_0 : decode cX0_remember 0 = .ok (.aload_n 0, 1) := by decide +kernel
theorem dX0_remember_1 : decode cX0_remember 1 = .ok (.getfield 11, 3) := by decide +kernel
theorem dX0_remember_4 : decode cX0_remember 4 = .ok (.aload_n 0, 1) := by decide +kernel
theorem dX0_remember_5 : decode cX0_remember 5 = .ok (.getfield 18, 3) := by decide +kernel
theorem dX0_remember_8 : decode cX0_remember 8 = .ok (.aload_n 0, 1) := by decide +kernel
theorem dX0_remember_9 : decode cX0_remember 9 = .ok (.getfield 22, 3) := by decide +kernel
theorem dX0_remember_12 : decode cX0_remember 12 = .ok (.iadd, 1) := by decide +kernel
theorem dX0_remember_13 : decode cX0_remember 13 = .ok (.bipush 14, 2) := by decide +kernel
theorem dX0_remember_15 : decode cX0_remember 15 = .ok (.irem, 1) := by decide +kernel
theorem dX0_remember_16 : decode cX0_remember 16 = .ok (.aaload, 1) := by decide +kernel
theorem dX0_remember_17 : decode cX0_remember 17 = .ok (.aload_n 1, 1) := by decide +kernel
theorem dX0_remember_18 : decode cX0_remember 18 = .ok (.invokevirtual 25, 3) := by decide +kernel
theorem dX0_remember_21 : decode cX0_remember 21 = .ok (.aload_n 0, 1) := by decide +kernel
theorem dX0_remember_22 : decode cX0_remember 22 = .ok (.getfield 22, 3) := by decide +kernel
theorem dX0_remember_25 : decode cX0_remember 25 = .ok (.bipush 14, 2) := by decide +kernel
theorem dX0_remember_27 : decode cX0_remember 27 = .ok (.if_icmp .ge 16, 3) := by decide +kernel
theorem dX0_remember_30 : decode cX0_remember 30 = .ok (.aload_n 0, 1) := by decide +kernel
theorem dX0_remember_31 : decode cX0_remember 31 = .ok (.dup, 1) := by decide +kernel
theorem dX0_remember_32 : decode cX0_remember 32 = .ok (.getfield 22, 3) := by decide +kernel
theorem dX0_remember_35 : decode cX0_remember 35 = .ok (.iconst 1, 1) := by decide +kernel
theorem dX0_remember_36 : decode cX0_remember 36 = .ok (.iadd, 1) := by decide +kernel
theorem dX0_remember_37 : decode cX0_remember 37 = .ok (.putfield 22, 3) := by decide +kernel
theorem dX0_remember_40 : decode cX0_remember 40 = .ok (.goto 16, 3) := by decide +kernel
theorem dX0_remember_43 : decode cX0_remember 43 = .ok (.aload_n 0, 1) := by decide +kernel
theorem dX0_remember_44 : decode cX0_remember 44 = .ok (.aload_n 0, 1) := by decide +kernel
theorem dX0_remember_45 : decode cX0_remember 45 = .ok (.getfield 18, 3) := by decide +kernel
theorem dX0_remember_48 : decode cX0_remember 48 = .ok (.iconst 1, 1) := by decide +kernel
theorem dX0_remember_49 : decode cX0_remember 49 = .ok (.iadd, 1) := by decide +kernel
theorem dX0_remember_50 : decode cX0_remember 50 = .ok (.bipush 14, 2) := by decide +kernel
theorem dX0_remember_52 : decode cX0_remember 52 = .ok (.irem, 1) := by decide +kernel
theorem dX0_remember_53 : decode cX0_remember 53 = .ok (.putfield 18, 3) := by decide +kernel
theorem dX0_remember_56 : decode cX0_remember 56 = .ok (.return_, 1) := by decide +kernel
set_option maxRecDepth 20000 in
theorem ggX0_takeBackInto_X1_copy : GoodIn wsX0_takeBackInto wsX1_copy := goodIn_r _ [7, 8, 9, 10, 11, 12, 13, 14, 18, 19, 20, 21, 22, 23, 24] (by decide +kernel) (by decide +kernel)
set_option maxRecDepth 20000 in
theorem gX0_takeBackInto_X1_copy_n25 : GoodIn wsX0_takeBackInto (wsX1_copy) := ggX0_takeBackInto_X1_copy
theorem dX0_takeBackInto_0 : decode cX0_takeBackInto 0 = .ok (.aload_n 0, 1) := by decide +kernel
theorem dX0_takeBackInto_1 : decode cX0_takeBackInto 1 = .ok (.getfield 22, 3) := by decide +kernel
theorem dX0_takeBackInto_4 : decode cX0_takeBackInto 4 = .ok (.ifCond .ne 5, 3) := by decide +kernel
theorem dX0_takeBackInto_7 : decode cX0_takeBackInto 7 = .ok (.iconst 0, 1) := by decide +kernel
theorem dX0_takeBackInto_8 : decode cX0_takeBackInto 8 = .ok (.ireturn, 1) := by decide +kernel
theorem dX0_takeBackInto_9 : decode cX0_takeBackInto 9 = .ok (.aload_n 0, 1) := by decide +kernel
theorem dX0_takeBackInto_10 : decode cX0_takeBackInto 10 = .ok (.dup, 1) := by decide +kernel
theorem dX0_takeBackInto_11 : decode cX0_takeBackInto 11 = .ok (.getfield 22, 3) := by decide +kernel
theorem dX0_takeBackInto_14 : decode cX0_takeBackInto 14 = .ok (.iconst 1, 1) := by decide +kernel
theorem dX0_takeBackInto_15 : decode cX0_takeBackInto 15 = .ok (.isub, 1) := by decide +kernel
theorem dX0_takeBackInto_16 : decode cX0_takeBackInto 16 = .ok (.putfield 22, 3) := by decide +kernel
theorem dX0_takeBackInto_19 : decode cX0_takeBackInto 19 = .ok (.aload_n 1, 1) := by decide +kernel
theorem dX0_takeBackInto_20 : decode cX0_takeBackInto 20 = .ok (.aload_n 0, 1) := by decide +kernel
theorem dX0_takeBackInto_21 : decode cX0_takeBackInto 21 = .ok (.getfield 11, 3) := by decide +kernel
theorem dX0_takeBackInto_24 : decode cX0_takeBackInto 24 = .ok (.aload_n 0, 1) := by decide +kernel
theorem dX0_takeBackInto_25 : decode cX0_takeBackInto 25 = .ok (.getfield 18, 3) := by decide +kernel
theorem dX0_takeBackInto_28 : decode cX0_takeBackInto 28 = .ok (.aload_n 0, 1) := by decide +kernel
theorem dX0_takeBackInto_29 : decode cX0_takeBackInto 29 = .ok (.getfield 22, 3) := by decide +kernel
theorem dX0_takeBackInto_32 : decode cX0_takeBackInto 32 = .ok (.iadd, 1) := by decide +kernel
theorem dX0_takeBackInto_33 : decode cX0_takeBackInto 33 = .ok (.bipush 14, 2) := by decide +kernel
theorem dX0_takeBackInto_35 : decode cX0_takeBackInto 35 = .ok (.irem, 1) := by decide +kernel
theorem dX0_takeBackInto_36 : decode cX0_takeBackInto 36 = .ok (.aaload, 1) := by decide +kernel
theorem dX0_takeBackInto_37 : decode cX0_takeBackInto 37 = .ok (.invokevirtual 25, 3) := by decide +kernel
theorem dX0_takeBackInto_40 : decode cX0_takeBackInto 40 = .ok (.iconst 1, 1) := by decide +kernel
theorem dX0_takeBackInto_41 : decode cX0_takeBackInto 41 = .ok (.ireturn, 1) := by decide +kernel
theorem dX1_init_0 : decode cX1_init 0 = .ok (.aload_n 0, 1) := by decide +kernel
theorem dX1_init_1 : decode cX1_init 1 = .ok (.invokespecial 3, 3) := by decide +kernel
theorem dX1_init_4 : decode cX1_init 4 = .ok (.return_, 1) := by decide +kernel
theorem dX1_clear_0 : decode cX1_clear 0 = .ok (.aload_n 0, 1) := by decide +kernel
theorem dX1_clear_1 : decode cX1_clear 1 = .ok (.iconst 0, 1) := by decide +kernel
theorem dX1_clear_2 : decode cX1_clear 2 = .ok (.putfield 9, 3) := by decide +kernel
theorem dX1_clear_5 : decode cX1_clear 5 = .ok (.aload_n 0, 1) := by decide +kernel
theorem dX1_clear_6 : decode cX1_clear 6 = .ok (.iconst 0, 1) := by decide +kernel
theorem dX1_clear_7 : decode cX1_clear 7 = .ok (.putfield 15, 3) := by decide +kernel
theorem dX1_clear_10 : decode cX1_clear 10 = .ok (.aload_n 0, 1) := by decide +kernel
theorem dX1_clear_11 : decode cX1_clear 11 = .ok (.iconst 0, 1) := by decide +kernel
theorem dX1_clear_12 : decode cX1_clear 12 = .ok (.putfield 18, 3) := by decide +kernel
theorem dX1_clear_15 : decode cX1_clear 15 = .ok (.aload_n 0, 1) := by decide +kernel
theorem dX1_clear_16 : decode cX1_clear 16 = .ok (.lconst 0, 1) := by decide +kernel
theorem dX1_clear_17 : decode cX1_clear 17 = .ok (.putfield 21, 3) := by decide +kernel
theorem dX1_clear_20 : decode cX1_clear 20 = .ok (.aload_n 0, 1) := by decide +kernel
theorem dX1_clear_21 : decode cX1_clear 21 = .ok (.iconst 0, 1) := by decide +kernel
theorem dX1_clear_22 : decode cX1_clear 22 = .ok (.putfield 25, 3) := by decide +kernel
theorem dX1_clear_25 : decode cX1_clear 25 = .ok (.aload_n 0, 1) := by decide +kernel
theorem dX1_clear_26 : decode cX1_clear 26 = .ok (.iconst 0, 1) := by decide +kernel
theorem dX1_clear_27 : decode cX1_clear 27 = .ok (.putfield 28, 3) := by decide +kernel
theorem dX1_clear_30 : decode cX1_clear 30 = .ok (.aload_n 0, 1) := by decide +kernel
theorem dX1_clear_31 : decode cX1_clear 31 = .ok (.iconst 0, 1) := by decide +kernel
theorem dX1_clear_32 : decode cX1_clear 32 = .ok (.putfield 31, 3) := by decide +kernel
theorem dX1_clear_35 : decode cX1_clear 35 = .ok (.return_, 1) := by decide +kernel
theorem dX1_copy_0 : decode cX1_copy 0 = .ok (.aload_n 0, 1) := by decide +kernel
theorem dX1_copy_1 : decode cX1_copy 1 = .ok (.aload_n 1, 1) := by decide +kernel
theorem dX1_copy_2 : decode cX1_copy 2 = .ok (.getfield 9, 3) := by decide +kernel
theorem dX1_copy_5 : decode cX1_copy 5 = .ok (.putfield 9, 3) := by decide +kernel
theorem dX1_copy_8 : decode cX1_copy 8 = .ok (.aload_n 0, 1) := by decide +kernel
theorem dX1_copy_9 : decode cX1_copy 9 = .ok (.aload_n 1, 1) := by decide +kernel
theorem dX1_copy_10 : decode cX1_copy 10 = .ok (.getfield 15, 3) := by decide +kernel
theorem dX1_copy_13 : decode cX1_copy 13 = .ok (.putfield 15, 3) := by decide +kernel
theorem dX1_copy_16 : decode cX1_copy 16 = .ok (.aload_n 0, 1) := by decide +kernel
theorem dX1_copy_17 : decode cX1_copy 17 = .ok (.aload_n 1, 1) := by decide +kernel
theorem dX1_copy_18 : decode cX1_copy 18 = .ok (.getfield 18, 3) := by decide +kernel
theorem dX1_copy_21 : decode cX1_copy 21 = .ok (.putfield 18, 3) := by decide +kernel
theorem dX1_copy_24 : decode cX1_copy 24 = .ok (.aload_n 0, 1) := by decide +kernel
theorem dX1_copy_25 : decode cX1_copy 25 = .ok (.aload_n 1, 1) := by decide +kernel
theorem dX1_copy_26 : decode cX1_copy 26 = .ok (.getfield 21, 3) := by decide +kernel
theorem dX1_copy_29 : decode cX1_copy 29 = .ok (.putfield 21, 3) := by decide +kernel
theorem dX1_copy_32 : decode cX1_copy 32 = .ok (.aload_n 0, 1) := by decide +kernel
theorem dX1_copy_33 : decode cX1_copy 33 = .ok (.aload_n 1, 1) := by decide +kernel
theorem dX1_copy_34 : decode cX1_copy 34 = .ok (.getfield 25, 3) := by decide +kernel
theorem dX1_copy_37 : decode cX1_copy 37 = .ok (.putfield 25, 3) := by decide +kernel
theorem dX1_copy_40 : decode cX1_copy 40 = .ok (.aload_n 0, 1) := by decide +kernel
theorem dX1_copy_41 : decode cX1_copy 41 = .ok (.aload_n 1, 1) := by decide +kernel
theorem dX1_copy_42 : decode cX1_copy 42 = .ok (.getfield 28, 3) := by decide +kernel
theorem dX1_copy_45 : decode cX1_copy 45 = .ok (.putfield 28, 3) := by decide +kernel
theorem dX1_copy_48 : decode cX1_copy 48 = .ok (.aload_n 0, 1) := by decide +kernel
theorem dX1_copy_49 : decode cX1_copy 49 = .ok (.aload_n 1, 1) := by decide +kernel
theorem dX1_copy_50 : decode cX1_copy 50 = .ok (.getfield 31, 3) := by decide +kernel
theorem dX1_copy_53 : decode cX1_copy 53 = .ok (.putfield 31, 3) := by decide +kernel
theorem dX1_copy_56 : decode cX1_copy 56 = .ok (.return_, 1) := by decide +kernel
set_option maxRecDepth 20000 in
theorem ggX1_add_X3_bit : GoodIn wsX1_add wsX3_bit := goodIn_r _ [7] (by decide +kernel) (by decide +kernel)
set_option maxRecDepth 20000 in
theorem gX1_add_X3_bit_n34 : GoodIn wsX1_add (wsX3_bit) := ggX1_add_X3_bit
theorem dX1_add_0 : decode cX1_add 0 = .ok (.aload_n 0, 1) := by decide +kernel
theorem dX1_add_1 : decode cX1_add 1 = .ok (.getfield 9, 3) := by decide +kernel
theorem dX1_add_4 : decode cX1_add 4 = .ok (.istore_n 3, 1) := by decide +kernel
theorem dX1_add_5 : decode cX1_add 5 = .ok (.aload_n 0, 1) := by decide +kernel
theorem dX1_add_6 : decode cX1_add 6 = .ok (.dup, 1) := by decide +kernel
theorem dX1_add_7 : decode cX1_add 7 = .ok (.getfield 9, 3) := by decide +kernel
theorem dX1_add_10 : decode cX1_add 10 = .ok (.iconst 1, 1) := by decide +kernel
theorem dX1_add_11 : decode cX1_add 11 = .ok (.iadd, 1) := by decide +kernel
theorem dX1_add_12 : decode cX1_add 12 = .ok (.putfield 9, 3) := by decide +kernel
theorem dX1_add_15 : decode cX1_add 15 = .ok (.aload_n 0, 1) := by decide +kernel
theorem dX1_add_16 : decode cX1_add 16 = .ok (.dup, 1) := by decide +kernel
theorem dX1_add_17 : decode cX1_add 17 = .ok (.getfield 15, 3) := by decide +kernel
theorem dX1_add_20 : decode cX1_add 20 = .ok (.iload_n 2, 1) := by decide +kernel
theorem dX1_add_21 : decode cX1_add 21 = .ok (.iconst 4, 1) := by decide +kernel
theorem dX1_add_22 : decode cX1_add 22 = .ok (.iload_n 3, 1) := by decide +kernel
theorem dX1_add_23 : decode cX1_add 23 = .ok (.imul, 1) := by decide +kernel
theorem dX1_add_24 : decode cX1_add 24 = .ok (.ishl, 1) := by decide +kernel
theorem dX1_add_25 : decode cX1_add 25 = .ok (.ior, 1) := by decide +kernel
theorem dX1_add_26 : decode cX1_add 26 = .ok (.putfield 15, 3) := by decide +kernel
theorem dX1_add_29 : decode cX1_add 29 = .ok (.aload_n 0, 1) := by decide +kernel
theorem dX1_add_30 : decode cX1_add 30 = .ok (.dup, 1) := by decide +kernel
theorem dX1_add_31 : decode cX1_add 31 = .ok (.getfield 18, 3) := by decide +kernel
theorem dX1_add_34 : decode cX1_add 34 = .ok (.iload_n 1, 1) := by decide +kernel
theorem dX1_add_35 : decode cX1_add 35 = .ok (.iconst 4, 1) := by decide +kernel
theorem dX1_add_36 : decode cX1_add 36 = .ok (.iload_n 3, 1) := by decide +kernel
theorem dX1_add_37 : decode cX1_add 37 = .ok (.imul, 1) := by decide +kernel
theorem dX1_add_38 : decode cX1_add 38 = .ok (.ishl, 1) := by decide +kernel
theorem dX1_add_39 : decode cX1_add 39 = .ok (.ior, 1) := by decide +kernel
theorem dX1_add_40 : decode cX1_add 40 = .ok (.putfield 18, 3) := by decide +kernel
theorem dX1_add_43 : decode cX1_add 43 = .ok (.aload_n 0, 1) := by decide +kernel
theorem dX1_add_44 : decode cX1_add 44 = .ok (.dup, 1) := by decide +kernel
theorem dX1_add_45 : decode cX1_add 45 = .ok (.getfield 25, 3) := by decide +kernel
theorem dX1_add_48 : decode cX1_add 48 = .ok (.iload_n 3, 1) := by decide +kernel
theorem dX1_add_49 : decode cX1_add 49 = .ok (.invokestatic 34, 3) := by decide +kernel
theorem dX1_add_52 : decode cX1_add 52 = .ok (.ior, 1) := by decide +kernel
theorem dX1_add_53 : decode cX1_add 53 = .ok (.putfield 25, 3) := by decide +kernel
theorem dX1_add_56 : decode cX1_add 56 = .ok (.return_, 1) := by decide +kernel
theorem dX1_has_0 : decode cX1_has 0 = .ok (.iload_n 1, 1) := by decide +kernel
theorem dX1_has_1 : decode cX1_has 1 = .ok (.ifCond .lt 15, 3) := by decide +kernel
theorem dX1_has_4 : decode cX1_has 4 = .ok (.iload_n 1, 1) := by decide +kernel
theorem dX1_has_5 : decode cX1_has 5 = .ok (.aload_n 0, 1) := by decide +kernel
theorem dX1_has_6 : decode cX1_has 6 = .ok (.getfield 9, 3) := by decide +kernel
theorem dX1_has_9 : decode cX1_has 9 = .ok (.if_icmp .ge 7, 3) := by decide +kernel
theorem dX1_has_12 : decode cX1_has 12 = .ok (.iconst 1, 1) := by decide +kernel
theorem dX1_has_13 : decode cX1_has 13 = .ok (.goto 4, 3) := by decide +kernel
theorem dX1_has_16 : decode cX1_has 16 = .ok (.iconst 0, 1) := by decide +kernel
theorem dX1_has_17 : decode cX1_has 17 = .ok (.ireturn, 1) := by decide +kernel
theorem dX1_deedOf_0 : decode cX1_deedOf 0 = .ok (.aload_n 0, 1) := by decide +kernel
theorem dX1_deedOf_1 : decode cX1_deedOf 1 = .ok (.getfield 18, 3) := by decide +kernel
theorem dX1_deedOf_4 : decode cX1_deedOf 4 = .ok (.iconst 4, 1) := by decide +kernel
theorem dX1_deedOf_5 : decode cX1_deedOf 5 = .ok (.iload_n 1, 1) := by decide +kernel
theorem dX1_deedOf_6 : decode cX1_deedOf 6 = .ok (.imul, 1) := by decide +kernel
theorem dX1_deedOf_7 : decode cX1_deedOf 7 = .ok (.iushr, 1) := by decide +kernel
theorem dX1_deedOf_8 : decode cX1_deedOf 8 = .ok (.bipush 15, 2) := by decide +kernel
theorem dX1_deedOf_10 : decode cX1_deedOf 10 = .ok (.iand, 1) := by decide +kernel
theorem dX1_deedOf_11 : decode cX1_deedOf 11 = .ok (.ireturn, 1) := by decide +kernel
theorem dX1_setDeed_0 : decode cX1_setDeed 0 = .ok (.aload_n 0, 1) := by decide +kernel
theorem dX1_setDeed_1 : decode cX1_setDeed 1 = .ok (.aload_n 0, 1) := by decide +kernel
theorem dX1_setDeed_2 : decode cX1_setDeed 2 = .ok (.getfield 18, 3) := by decide +kernel
theorem dX1_setDeed_5 : decode cX1_setDeed 5 = .ok (.bipush 15, 2) := by decide +kernel
theorem dX1_setDeed_7 : decode cX1_setDeed 7 = .ok (.iconst 4, 1) := by decide +kernel
theorem dX1_setDeed_8 : decode cX1_setDeed 8 = .ok (.iload_n 1, 1) := by decide +kernel
theorem dX1_setDeed_9 : decode cX1_setDeed 9 = .ok (.imul, 1) := by decide +kernel
theorem dX1_setDeed_10 : decode cX1_setDeed 10 = .ok (.ishl, 1) := by decide +kernel
theorem dX1_setDeed_11 : decode cX1_setDeed 11 = .ok (.iconst (-1), 1) := by decide +kernel
theorem dX1_setDeed_12 : decode cX1_setDeed 12 = .ok (.ixor, 1) := by decide +kernel
theorem dX1_setDeed_13 : decode cX1_setDeed 13 = .ok (.iand, 1) := by decide +kernel
theorem dX1_setDeed_14 : decode cX1_setDeed 14 = .ok (.iload_n 2, 1) := by decide +kernel
theorem dX1_setDeed_15 : decode cX1_setDeed 15 = .ok (.iconst 4, 1) := by decide +kernel
theorem dX1_setDeed_16 : decode cX1_setDeed 16 = .ok (.iload_n 1, 1) := by decide +kernel
theorem dX1_setDeed_17 : decode cX1_setDeed 17 = .ok (.imul, 1) := by decide +kernel
theorem dX1_setDeed_18 : decode cX1_setDeed 18 = .ok (.ishl, 1) := by decide +kernel
theorem dX1_setDeed_19 : decode cX1_setDeed 19 = .ok (.ior, 1) := by decide +kernel
theorem dX1_setDeed_20 : decode cX1_setDeed 20 = .ok (.putfield 18, 3) := by decide +kernel
theorem dX1_setDeed_23 : decode cX1_setDeed 23 = .ok (.return_, 1) := by decide +kernel
theorem dX1_kindOf_0 : decode cX1_kindOf 0 = .ok (.aload_n 0, 1) := by decide +kernel
theorem dX1_kindOf_1 : decode cX1_kindOf 1 = .ok (.getfield 15, 3) := by decide +kernel
theorem dX1_kindOf_4 : decode cX1_kindOf 4 = .ok (.iconst 4, 1) := by decide +kernel
theorem dX1_kindOf_5 : decode cX1_kindOf 5 = .ok (.iload_n 1, 1) := by decide +kernel
theorem dX1_kindOf_6 : decode cX1_kindOf 6 = .ok (.imul, 1) := by decide +kernel
theorem dX1_kindOf_7 : decode cX1_kindOf 7 = .ok (.iushr, 1) := by decide +kernel
theorem dX1_kindOf_8 : decode cX1_kindOf 8 = .ok (.bipush 15, 2) := by decide +kernel
theorem dX1_kindOf_10 : decode cX1_kindOf 10 = .ok (.iand, 1) := by decide +kernel
theorem dX1_kindOf_11 : decode cX1_kindOf 11 = .ok (.ireturn, 1) := by decide +kernel
set_option maxRecDepth 20000 in
theorem ggX1_gradeOf_X1_kindOf : GoodIn wsX1_gradeOf wsX1_kindOf := goodIn_r _ [5, 6, 12, 13, 14, 15, 16, 17, 18] (by decide +kernel) (by decide +kernel)
set_option maxRecDepth 20000 in
theorem gX1_gradeOf_X1_kindOf : GoodIn wsX1_gradeOf (wsV RX1 38 RX1 yX1_kindOf wsX1_kindOf) := goodIn_app (goodIn_of _ (by decide +kernel)) ggX1_gradeOf_X1_kindOf
set_option maxRecDepth 20000 in
theorem ggX1_gradeOf_X1_deedOf : GoodIn wsX1_gradeOf wsX1_deedOf := goodIn_r _ [10, 11, 12, 13, 14, 15, 16, 17, 18] (by decide +kernel) (by decide +kernel)
set_option maxRecDepth 20000 in
theorem gX1_gradeOf_X1_deedOf : GoodIn wsX1_gradeOf (wsV RX1 41 RX1 yX1_deedOf wsX1_deedOf) := goodIn_app (goodIn_of _ (by decide +kernel)) ggX1_gradeOf_X1_deedOf
theorem dX1_gradeOf_0 : decode cX1_gradeOf 0 = .ok (.aload_n 0, 1) := by decide +kernel
theorem dX1_gradeOf_1 : decode cX1_gradeOf 1 = .ok (.iload_n 1, 1) := by decide +kernel
theorem dX1_gradeOf_2 : decode cX1_gradeOf 2 = .ok (.invokevirtual 38, 3) := by decide +kernel
theorem dX1_gradeOf_5 : decode cX1_gradeOf 5 = .ok (.istore_n 2, 1) := by decide +kernel
theorem dX1_gradeOf_6 : decode cX1_gradeOf 6 = .ok (.iload_n 2, 1) := by decide +kernel
theorem dX1_gradeOf_7 : decode cX1_gradeOf 7 = .ok (.iconst 3, 1) := by decide +kernel
theorem dX1_gradeOf_8 : decode cX1_gradeOf 8 = .ok (.if_icmp .ne 5, 3) := by decide +kernel
theorem dX1_gradeOf_11 : decode cX1_gradeOf 11 = .ok (.iconst 0, 1) := by decide +kernel
theorem dX1_gradeOf_12 : decode cX1_gradeOf 12 = .ok (.ireturn, 1) := by decide +kernel
theorem dX1_gradeOf_13 : decode cX1_gradeOf 13 = .ok (.aload_n 0, 1) := by decide +kernel
theorem dX1_gradeOf_14 : decode cX1_gradeOf 14 = .ok (.iload_n 1, 1) := by decide +kernel
theorem dX1_gradeOf_15 : decode cX1_gradeOf 15 = .ok (.invokevirtual 41, 3) := by decide +kernel
theorem dX1_gradeOf_18 : decode cX1_gradeOf 18 = .ok (.iload_n 2, 1) := by decide +kernel
theorem dX1_gradeOf_19 : decode cX1_gradeOf 19 = .ok (.iconst 2, 1) := by decide +kernel
theorem dX1_gradeOf_20 : decode cX1_gradeOf 20 = .ok (.if_icmp .ne 7, 3) := by decide +kernel
theorem dX1_gradeOf_23 : decode cX1_gradeOf 23 = .ok (.iconst 2, 1) := by decide +kernel
theorem dX1_gradeOf_24 : decode cX1_gradeOf 24 = .ok (.goto 4, 3) := by decide +kernel
theorem dX1_gradeOf_27 : decode cX1_gradeOf 27 = .ok (.iconst 0, 1) := by decide +kernel
theorem dX1_gradeOf_28 : decode cX1_gradeOf 28 = .ok (.iadd, 1) := by decide +kernel
theorem dX1_gradeOf_29 : decode cX1_gradeOf 29 = .ok (.ireturn, 1) := by decide +kernel
set_option maxRecDepth 20000 in
theorem ggX1_feeds_X3_pair : GoodIn wsX1_feeds wsX3_pair := goodIn_r _ [4] (by decide +kernel) (by decide +kernel)
set_option maxRecDepth 20000 in
theorem gX1_feeds_X3_pair_n44 : GoodIn wsX1_feeds (wsX3_pair) := ggX1_feeds_X3_pair
theorem dX1_feeds_0 : decode cX1_feeds 0 = .ok (.aload_n 0, 1) := by decide +kernel
theorem dX1_feeds_1 : decode cX1_feeds 1 = .ok (.getfield 21, 3) := by decide +kernel
theorem dX1_feeds_4 : decode cX1_feeds 4 = .ok (.iload_n 1, 1) := by decide +kernel
theorem dX1_feeds_5 : decode cX1_feeds 5 = .ok (.iload_n 2, 1) := by decide +kernel
theorem dX1_feeds_6 : decode cX1_feeds 6 = .ok (.invokestatic 44, 3) := by decide +kernel
theorem dX1_feeds_9 : decode cX1_feeds 9 = .ok (.land, 1) := by decide +kernel
theorem dX1_feeds_10 : decode cX1_feeds 10 = .ok (.lconst 0, 1) := by decide +kernel
theorem dX1_feeds_11 : decode cX1_feeds 11 = .ok (.lcmp, 1) := by decide +kernel
theorem dX1_feeds_12 : decode cX1_feeds 12 = .ok (.ifCond .eq 7, 3) := by decide +kernel
theorem dX1_feeds_15 : decode cX1_feeds 15 = .ok (.iconst 1, 1) := by decide +kernel
theorem dX1_feeds_16 : decode cX1_feeds 16 = .ok (.goto 4, 3) := by decide +kernel
theorem dX1_feeds_19 : decode cX1_feeds 19 = .ok (.iconst 0, 1) := by decide +kernel
theorem dX1_feeds_20 : decode cX1_feeds 20 = .ok (.ireturn, 1) := by decide +kernel
set_option maxRecDepth 20000 in
theorem ggX1_whomFeeds_X1_feeds : GoodIn wsX1_whomFeeds wsX1_feeds := goodIn_r _ [6, 7, 8, 9, 10, 13, 14, 15, 16, 17, 18, 19] (by decide +kernel) (by decide +kernel)
set_option maxRecDepth 20000 in
theorem gX1_whomFeeds_X1_feeds : GoodIn wsX1_whomFeeds (wsV RX1 48 RX1 yX1_feeds wsX1_feeds) := goodIn_app (goodIn_of _ (by decide +kernel)) ggX1_whomFeeds_X1_feeds
set_option maxRecDepth 20000 in
theorem ggX1_whomFeeds_X3_bit : GoodIn wsX1_whomFeeds wsX3_bit := goodIn_r _ [12] (by decide +kernel) (by decide +kernel)
set_option maxRecDepth 20000 in
theorem gX1_whomFeeds_X3_bit_n34 : GoodIn wsX1_whomFeeds (wsX3_bit) := ggX1_whomFeeds_X3_bit
theorem dX1_whomFeeds_0 : decode cX1_whomFeeds 0 = .ok (.iconst 0, 1) := by decide +kernel
theorem dX1_whomFeeds_1 : decode cX1_whomFeeds 1 = .ok (.istore_n 2, 1) := by decide +kernel
theorem dX1_whomFeeds_2 : decode cX1_whomFeeds 2 = .ok (.iconst 0, 1) := by decide +kernel
theorem dX1_whomFeeds_3 : decode cX1_whomFeeds 3 = .ok (.istore_n 3, 1) := by decide +kernel
theorem dX1_whomFeeds_4 : decode cX1_whomFeeds 4 = .ok (.iload_n 3, 1) := by decide +kernel
theorem dX1_whomFeeds_5 : decode cX1_whomFeeds 5 = .ok (.aload_n 0, 1) := by decide +kernel
theorem dX1_whomFeeds_6 : decode cX1_whomFeeds 6 = .ok (.getfield 9, 3) := by decide +kernel
theorem dX1_whomFeeds_9 : decode cX1_whomFeeds 9 = .ok (.if_icmp .ge 25, 3) := by decide +kernel
theorem dX1_whomFeeds_12 : decode cX1_whomFeeds 12 = .ok (.aload_n 0, 1) := by decide +kernel
theorem dX1_whomFeeds_13 : decode cX1_whomFeeds 13 = .ok (.iload_n 1, 1) := by decide +kernel
theorem dX1_whomFeeds_14 : decode cX1_whomFeeds 14 = .ok (.iload_n 3, 1) := by decide +kernel
theorem dX1_whomFeeds_15 : decode cX1_whomFeeds 15 = .ok (.invokevirtual 48, 3) := by decide +kernel
theorem dX1_whomFeeds_18 : decode cX1_whomFeeds 18 = .ok (.ifCond .eq 10, 3) := by decide +kernel
theorem dX1_whomFeeds_21 : decode cX1_whomFeeds 21 = .ok (.iload_n 2, 1) := by decide +kernel
theorem dX1_whomFeeds_22 : decode cX1_whomFeeds 22 = .ok (.iload_n 3, 1) := by decide +kernel
theorem dX1_whomFeeds_23 : decode cX1_whomFeeds 23 = .ok (.invokestatic 34, 3) := by decide +kernel
theorem dX1_whomFeeds_26 : decode cX1_whomFeeds 26 = .ok (.ior, 1) := by decide +kernel
theorem dX1_whomFeeds_27 : decode cX1_whomFeeds 27 = .ok (.istore_n 2, 1) := by decide +kernel
theorem dX1_whomFeeds_28 : decode cX1_whomFeeds 28 = .ok (.iinc 3 1, 3) := by decide +kernel
theorem dX1_whomFeeds_31 : decode cX1_whomFeeds 31 = .ok (.goto (-27), 3) := by decide +kernel
theorem dX1_whomFeeds_34 : decode cX1_whomFeeds 34 = .ok (.iload_n 2, 1) := by decide +kernel
theorem dX1_whomFeeds_35 : decode cX1_whomFeeds 35 = .ok (.ireturn, 1) := by decide +kernel
set_option maxRecDepth 20000 in
theorem ggX1_hasPairLeft_J13_bitCount_95d88 : GoodIn wsX1_hasPairLeft wsJ13_bitCount_95d88 := goodIn_r _ [6, 7, 8, 9] (by decide +kernel) (by decide +kernel)
set_option maxRecDepth 20000 in
theorem gX1_hasPairLeft_J13_bitCount_95d88 : GoodIn wsX1_hasPairLeft (va_wsS RX1 52 yJ13_bitCount_95d88 wsJ13_bitCount_95d88) := goodIn_app (goodIn_of _ (by decide +kernel)) ggX1_hasPairLeft_J13_bitCount_95d88
theorem dX1_hasPairLeft_0 : decode cX1_hasPairLeft 0 = .ok (.aload_n 0, 1) := by decide +kernel
theorem dX1_hasPairLeft_1 : decode cX1_hasPairLeft 1 = .ok (.getfield 21, 3) := by decide +kernel
theorem dX1_hasPairLeft_4 : decode cX1_hasPairLeft 4 = .ok (.invokestatic 52, 3) := by decide +kernel
theorem dX1_hasPairLeft_7 : decode cX1_hasPairLeft 7 = .ok (.aload_n 0, 1) := by decide +kernel
theorem dX1_hasPairLeft_8 : decode cX1_hasPairLeft 8 = .ok (.getfield 9, 3) := by decide +kernel
theorem dX1_hasPairLeft_11 : decode cX1_hasPairLeft 11 = .ok (.aload_n 0, 1) := by decide +kernel
theorem dX1_hasPairLeft_12 : decode cX1_hasPairLeft 12 = .ok (.getfield 9, 3) := by decide +kernel
theorem dX1_hasPairLeft_15 : decode cX1_hasPairLeft 15 = .ok (.iconst 1, 1) := by decide +kernel
theorem dX1_hasPairLeft_16 : decode cX1_hasPairLeft 16 = .ok (.isub, 1) := by decide +kernel
theorem dX1_hasPairLeft_17 : decode cX1_hasPairLeft 17 = .ok (.imul, 1) := by decide +kernel
theorem dX1_hasPairLeft_18 : decode cX1_hasPairLeft 18 = .ok (.if_icmp .ge 7, 3) := by decide +kernel
theorem dX1_hasPairLeft_21 : decode cX1_hasPairLeft 21 = .ok (.iconst 1, 1) := by decide +kernel
theorem dX1_hasPairLeft_22 : decode cX1_hasPairLeft 22 = .ok (.goto 4, 3) := by decide +kernel
theorem dX1_hasPairLeft_25 : decode cX1_hasPairLeft 25 = .ok (.iconst 0, 1) := by decide +kernel
theorem dX1_hasPairLeft_26 : decode cX1_hasPairLeft 26 = .ok (.ireturn, 1) := by decide +kernel
set_option maxRecDepth 20000 in
theorem ggX1_bury_X3_without : GoodIn wsX1_bury wsX3_without := goodIn_r _ [5] (by decide +kernel) (by decide +kernel)
set_option maxRecDepth 20000 in
theorem gX1_bury_X3_without_n58 : GoodIn wsX1_bury (wsX3_without) := ggX1_bury_X3_without
set_option maxRecDepth 20000 in
theorem ggX1_bury_X3_bit : GoodIn wsX1_bury wsX3_bit := goodIn_r _ [7] (by decide +kernel) (by decide +kernel)
set_option maxRecDepth 20000 in
theorem gX1_bury_X3_bit_n34 : GoodIn wsX1_bury (wsX3_bit) := ggX1_bury_X3_bit
theorem dX1_bury_0 : decode cX1_bury 0 = .ok (.aload_n 0, 1) := by decide +kernel
theorem dX1_bury_1 : decode cX1_bury 1 = .ok (.aload_n 0, 1) := by decide +kernel
theorem dX1_bury_2 : decode cX1_bury 2 = .ok (.getfield 25, 3) := by decide +kernel
theorem dX1_bury_5 : decode cX1_bury 5 = .ok (.iload_n 1, 1) := by decide +kernel
theorem dX1_bury_6 : decode cX1_bury 6 = .ok (.invokestatic 58, 3) := by decide +kernel
theorem dX1_bury_9 : decode cX1_bury 9 = .ok (.putfield 25, 3) := by decide +kernel
theorem dX1_bury_12 : decode cX1_bury 12 = .ok (.aload_n 0, 1) := by decide +kernel
theorem dX1_bury_13 : decode cX1_bury 13 = .ok (.dup, 1) := by decide +kernel
theorem dX1_bury_14 : decode cX1_bury 14 = .ok (.getfield 28, 3) := by decide +kernel
theorem dX1_bury_17 : decode cX1_bury 17 = .ok (.iload_n 1, 1) := by decide +kernel
theorem dX1_bury_18 : decode cX1_bury 18 = .ok (.invokestatic 34, 3) := by decide +kernel
theorem dX1_bury_21 : decode cX1_bury 21 = .ok (.ior, 1) := by decide +kernel
theorem dX1_bury_22 : decode cX1_bury 22 = .ok (.putfield 28, 3) := by decide +kernel
theorem dX1_bury_25 : decode cX1_bury 25 = .ok (.return_, 1) := by decide +kernel
set_option maxRecDepth 20000 in
theorem ggX1_passDay_X1_mayBeTaken : GoodIn wsX1_passDay wsX1_mayBeTaken := goodIn_r _ [7, 8, 9, 10, 11, 12, 13, 14, 6, 15, 16, 17, 18, 19, 20, 21, 22, 23, 24, 25, 26, 27, 28, 29, 30, 31, 32, 38, 39, 40, 41, 42, 43, 44] (by decide +kernel) (by decide +kernel)
set_option maxRecDepth 20000 in
theorem gX1_passDay_X1_mayBeTaken : GoodIn wsX1_passDay (wsV RX1 62 RX1 yX1_mayBeTaken wsX1_mayBeTaken) := goodIn_app (goodIn_of _ (by decide +kernel)) ggX1_passDay_X1_mayBeTaken
set_option maxRecDepth 20000 in
theorem ggX1_passDay_X3_leastOf : GoodIn wsX1_passDay wsX3_leastOf := goodIn_r _ [34, 35, 9, 10, 11] (by decide +kernel) (by decide +kernel)
set_option maxRecDepth 20000 in
theorem gX1_passDay_X3_leastOf_n65 : GoodIn wsX1_passDay (wsX3_leastOf) := ggX1_passDay_X3_leastOf
set_option maxRecDepth 20000 in
theorem ggX1_passDay_X3_without : GoodIn wsX1_passDay wsX3_without := goodIn_r _ [37] (by decide +kernel) (by decide +kernel)
set_option maxRecDepth 20000 in
theorem gX1_passDay_X3_without_n58 : GoodIn wsX1_passDay (wsX3_without) := ggX1_passDay_X3_without
theorem dX1_passDay_0 : decode cX1_passDay 0 = .ok (.aload_n 0, 1) := by decide +kernel
theorem dX1_passDay_1 : decode cX1_passDay 1 = .ok (.aload_n 0, 1) := by decide +kernel
theorem dX1_passDay_2 : decode cX1_passDay 2 = .ok (.getfield 25, 3) := by decide +kernel
theorem dX1_passDay_5 : decode cX1_passDay 5 = .ok (.invokevirtual 62, 3) := by decide +kernel
theorem dX1_passDay_8 : decode cX1_passDay 8 = .ok (.invokestatic 65, 3) := by decide +kernel
theorem dX1_passDay_11 : decode cX1_passDay 11 = .ok (.istore_n 1, 1) := by decide +kernel
theorem dX1_passDay_12 : decode cX1_passDay 12 = .ok (.iload_n 1, 1) := by decide +kernel
theorem dX1_passDay_13 : decode cX1_passDay 13 = .ok (.bipush (-9), 2) := by decide +kernel
theorem dX1_passDay_15 : decode cX1_passDay 15 = .ok (.if_icmp .eq 15, 3) := by decide +kernel
theorem dX1_passDay_18 : decode cX1_passDay 18 = .ok (.aload_n 0, 1) := by decide +kernel
theorem dX1_passDay_19 : decode cX1_passDay 19 = .ok (.aload_n 0, 1) := by decide +kernel
theorem dX1_passDay_20 : decode cX1_passDay 20 = .ok (.getfield 25, 3) := by decide +kernel
theorem dX1_passDay_23 : decode cX1_passDay 23 = .ok (.iload_n 1, 1) := by decide +kernel
theorem dX1_passDay_24 : decode cX1_passDay 24 = .ok (.invokestatic 58, 3) := by decide +kernel
theorem dX1_passDay_27 : decode cX1_passDay 27 = .ok (.putfield 25, 3) := by decide +kernel
theorem dX1_passDay_30 : decode cX1_passDay 30 = .ok (.aload_n 0, 1) := by decide +kernel
theorem dX1_passDay_31 : decode cX1_passDay 31 = .ok (.dup, 1) := by decide +kernel
theorem dX1_passDay_32 : decode cX1_passDay 32 = .ok (.getfield 31, 3) := by decide +kernel
theorem dX1_passDay_35 : decode cX1_passDay 35 = .ok (.iconst 1, 1) := by decide +kernel
theorem dX1_passDay_36 : decode cX1_passDay 36 = .ok (.iadd, 1) := by decide +kernel
theorem dX1_passDay_37 : decode cX1_passDay 37 = .ok (.putfield 31, 3) := by decide +kernel
theorem dX1_passDay_40 : decode cX1_passDay 40 = .ok (.iload_n 1, 1) := by decide +kernel
theorem dX1_passDay_41 : decode cX1_passDay 41 = .ok (.ireturn, 1) := by decide +kernel
set_option maxRecDepth 20000 in
theorem ggX1_isHidden_X1_kindOf : GoodIn wsX1_isHidden wsX1_kindOf := goodIn_r _ [6, 7, 8, 9, 10, 11, 12, 13, 14] (by decide +kernel) (by decide +kernel)
set_option maxRecDepth 20000 in
theorem gX1_isHidden_X1_kindOf : GoodIn wsX1_isHidden (wsV RX1 38 RX1 yX1_kindOf wsX1_kindOf) := goodIn_app (goodIn_of _ (by decide +kernel)) ggX1_isHidden_X1_kindOf
theorem dX1_isHidden_0 : decode cX1_isHidden 0 = .ok (.aload_n 0, 1) := by decide +kernel
theorem dX1_isHidden_1 : decode cX1_isHidden 1 = .ok (.getfield 21, 3) := by decide +kernel
theorem dX1_isHidden_4 : decode cX1_isHidden 4 = .ok (.bipush 7, 2) := by decide +kernel
theorem dX1_isHidden_6 : decode cX1_isHidden 6 = .ok (.iload_n 1, 1) := by decide +kernel
theorem dX1_isHidden_7 : decode cX1_isHidden 7 = .ok (.imul, 1) := by decide +kernel
theorem dX1_isHidden_8 : decode cX1_isHidden 8 = .ok (.lushr, 1) := by decide +kernel
theorem dX1_isHidden_9 : decode cX1_isHidden 9 = .ok (.l2i, 1) := by decide +kernel
theorem dX1_isHidden_10 : decode cX1_isHidden 10 = .ok (.istore_n 3, 1) := by decide +kernel
theorem dX1_isHidden_11 : decode cX1_isHidden 11 = .ok (.iload_n 3, 1) := by decide +kernel
theorem dX1_isHidden_12 : decode cX1_isHidden 12 = .ok (.iload_n 2, 1) := by decide +kernel
theorem dX1_isHidden_13 : decode cX1_isHidden 13 = .ok (.iand, 1) := by decide +kernel
theorem dX1_isHidden_14 : decode cX1_isHidden 14 = .ok (.ifCond .eq 16, 3) := by decide +kernel
theorem dX1_isHidden_17 : decode cX1_isHidden 17 = .ok (.aload_n 0, 1) := by decide +kernel
theorem dX1_isHidden_18 : decode cX1_isHidden 18 = .ok (.iload_n 1, 1) := by decide +kernel
theorem dX1_isHidden_19 : decode cX1_isHidden 19 = .ok (.invokevirtual 38, 3) := by decide +kernel
theorem dX1_isHidden_22 : decode cX1_isHidden 22 = .ok (.iconst 1, 1) := by decide +kernel
theorem dX1_isHidden_23 : decode cX1_isHidden 23 = .ok (.if_icmp .eq 7, 3) := by decide +kernel
theorem dX1_isHidden_26 : decode cX1_isHidden 26 = .ok (.iconst 1, 1) := by decide +kernel
theorem dX1_isHidden_27 : decode cX1_isHidden 27 = .ok (.goto 4, 3) := by decide +kernel
theorem dX1_isHidden_30 : decode cX1_isHidden 30 = .ok (.iconst 0, 1) := by decide +kernel
theorem dX1_isHidden_31 : decode cX1_isHidden 31 = .ok (.ireturn, 1) := by decide +kernel
set_option maxRecDepth 20000 in
theorem ggX1_hiddenOnes_X1_isHidden : GoodIn wsX1_hiddenOnes wsX1_isHidden := goodIn_r _ [7, 8, 9, 10, 11, 6, 12, 13, 17, 18, 19, 20, 21, 22, 23] (by decide +kernel) (by decide +kernel)
set_option maxRecDepth 20000 in
theorem gX1_hiddenOnes_X1_isHidden : GoodIn wsX1_hiddenOnes (wsV RX1 68 RX1 yX1_isHidden wsX1_isHidden) := goodIn_app (goodIn_of _ (by decide +kernel)) ggX1_hiddenOnes_X1_isHidden
set_option maxRecDepth 20000 in
theorem ggX1_hiddenOnes_X3_bit : GoodIn wsX1_hiddenOnes wsX3_bit := goodIn_r _ [16] (by decide +kernel) (by decide +kernel)
set_option maxRecDepth 20000 in
theorem gX1_hiddenOnes_X3_bit_n34 : GoodIn wsX1_hiddenOnes (wsX3_bit) := ggX1_hiddenOnes_X3_bit
theorem dX1_hiddenOnes_0 : decode cX1_hiddenOnes 0 = .ok (.iconst 0, 1) := by decide +kernel
theorem dX1_hiddenOnes_1 : decode cX1_hiddenOnes 1 = .ok (.istore_n 1, 1) := by decide +kernel
theorem dX1_hiddenOnes_2 : decode cX1_hiddenOnes 2 = .ok (.iconst 0, 1) := by decide +kernel
theorem dX1_hiddenOnes_3 : decode cX1_hiddenOnes 3 = .ok (.istore_n 2, 1) := by decide +kernel
theorem dX1_hiddenOnes_4 : decode cX1_hiddenOnes 4 = .ok (.iload_n 2, 1) := by decide +kernel
theorem dX1_hiddenOnes_5 : decode cX1_hiddenOnes 5 = .ok (.aload_n 0, 1) := by decide +kernel
theorem dX1_hiddenOnes_6 : decode cX1_hiddenOnes 6 = .ok (.getfield 9, 3) := by decide +kernel
theorem dX1_hiddenOnes_9 : decode cX1_hiddenOnes 9 = .ok (.if_icmp .ge 28, 3) := by decide +kernel
theorem dX1_hiddenOnes_12 : decode cX1_hiddenOnes 12 = .ok (.aload_n 0, 1) := by decide +kernel
theorem dX1_hiddenOnes_13 : decode cX1_hiddenOnes 13 = .ok (.iload_n 2, 1) := by decide +kernel
theorem dX1_hiddenOnes_14 : decode cX1_hiddenOnes 14 = .ok (.aload_n 0, 1) := by decide +kernel
theorem dX1_hiddenOnes_15 : decode cX1_hiddenOnes 15 = .ok (.getfield 25, 3) := by decide +kernel
theorem dX1_hiddenOnes_18 : decode cX1_hiddenOnes 18 = .ok (.invokevirtual 68, 3) := by decide +kernel
theorem dX1_hiddenOnes_21 : decode cX1_hiddenOnes 21 = .ok (.ifCond .eq 10, 3) := by decide +kernel
theorem dX1_hiddenOnes_24 : decode cX1_hiddenOnes 24 = .ok (.iload_n 1, 1) := by decide +kernel
theorem dX1_hiddenOnes_25 : decode cX1_hiddenOnes 25 = .ok (.iload_n 2, 1) := by decide +kernel
theorem dX1_hiddenOnes_26 : decode cX1_hiddenOnes 26 = .ok (.invokestatic 34, 3) := by decide +kernel
theorem dX1_hiddenOnes_29 : decode cX1_hiddenOnes 29 = .ok (.ior, 1) := by decide +kernel
theorem dX1_hiddenOnes_30 : decode cX1_hiddenOnes 30 = .ok (.istore_n 1, 1) := by decide +kernel
theorem dX1_hiddenOnes_31 : decode cX1_hiddenOnes 31 = .ok (.iinc 2 1, 3) := by decide +kernel
theorem dX1_hiddenOnes_34 : decode cX1_hiddenOnes 34 = .ok (.goto (-30), 3) := by decide +kernel
theorem dX1_hiddenOnes_37 : decode cX1_hiddenOnes 37 = .ok (.iload_n 1, 1) := by decide +kernel
theorem dX1_hiddenOnes_38 : decode cX1_hiddenOnes 38 = .ok (.ireturn, 1) := by decide +kernel
set_option maxRecDepth 20000 in
theorem ggX1_mayBeTaken_X3_isIn : GoodIn wsX1_mayBeTaken wsX3_isIn := goodIn_r _ [4] (by decide +kernel) (by decide +kernel)
set_option maxRecDepth 20000 in
theorem gX1_mayBeTaken_X3_isIn_n71 : GoodIn wsX1_mayBeTaken (wsX3_isIn) := ggX1_mayBeTaken_X3_isIn
set_option maxRecDepth 20000 in
theorem ggX1_mayBeTaken_X1_gradeOf : GoodIn wsX1_mayBeTaken wsX1_gradeOf := goodIn_r _ [9, 10, 11, 12, 8, 13, 14, 15, 16, 17, 18, 19, 27, 28, 29, 30, 31, 32, 33] (by decide +kernel) (by decide +kernel)
set_option maxRecDepth 20000 in
theorem gX1_mayBeTaken_X1_gradeOf : GoodIn wsX1_mayBeTaken (wsV RX1 74 RX1 yX1_gradeOf wsX1_gradeOf) := goodIn_app (goodIn_of _ (by decide +kernel)) ggX1_mayBeTaken_X1_gradeOf
set_option maxRecDepth 20000 in
theorem ggX1_mayBeTaken_X1_isHidden : GoodIn wsX1_mayBeTaken wsX1_isHidden := goodIn_r _ [23, 24, 10, 11, 12, 8, 13, 14, 27, 28, 29, 30, 31, 32, 33] (by decide +kernel) (by decide +kernel)
set_option maxRecDepth 20000 in
theorem gX1_mayBeTaken_X1_isHidden : GoodIn wsX1_mayBeTaken (wsV RX1 68 RX1 yX1_isHidden wsX1_isHidden) := goodIn_app (goodIn_of _ (by decide +kernel)) ggX1_mayBeTaken_X1_isHidden
set_option maxRecDepth 20000 in
theorem ggX1_mayBeTaken_X3_bit : GoodIn wsX1_mayBeTaken wsX3_bit := goodIn_r _ [26] (by decide +kernel) (by decide +kernel)
set_option maxRecDepth 20000 in
theorem gX1_mayBeTaken_X3_bit_n34 : GoodIn wsX1_mayBeTaken (wsX3_bit) := ggX1_mayBeTaken_X3_bit
theorem dX1_mayBeTaken_0 : decode cX1_mayBeTaken 0 = .ok (.iconst 0, 1) := by decide +kernel
theorem dX1_mayBeTaken_1 : decode cX1_mayBeTaken 1 = .ok (.istore_n 2, 1) := by decide +kernel
theorem dX1_mayBeTaken_2 : decode cX1_mayBeTaken 2 = .ok (.iconst 0, 1) := by decide +kernel
theorem dX1_mayBeTaken_3 : decode cX1_mayBeTaken 3 = .ok (.istore_n 3, 1) := by decide +kernel
theorem dX1_mayBeTaken_4 : decode cX1_mayBeTaken 4 = .ok (.iconst 0, 1) := by decide +kernel
theorem dX1_mayBeTaken_5 : decode cX1_mayBeTaken 5 = .ok (.istore 4, 2) := by decide +kernel
theorem dX1_mayBeTaken_7 : decode cX1_mayBeTaken 7 = .ok (.iload 4, 2) := by decide +kernel
theorem dX1_mayBeTaken_9 : decode cX1_mayBeTaken 9 = .ok (.aload_n 0, 1) := by decide +kernel
theorem dX1_mayBeTaken_10 : decode cX1_mayBeTaken 10 = .ok (.getfield 9, 3) := by decide +kernel
theorem dX1_mayBeTaken_13 : decode cX1_mayBeTaken 13 = .ok (.if_icmp .ge 61, 3) := by decide +kernel
theorem dX1_mayBeTaken_16 : decode cX1_mayBeTaken 16 = .ok (.iload_n 1, 1) := by decide +kernel
theorem dX1_mayBeTaken_17 : decode cX1_mayBeTaken 17 = .ok (.iload 4, 2) := by decide +kernel
theorem dX1_mayBeTaken_19 : decode cX1_mayBeTaken 19 = .ok (.invokestatic 71, 3) := by decide +kernel
theorem dX1_mayBeTaken_22 : decode cX1_mayBeTaken 22 = .ok (.ifCond .eq 46, 3) := by decide +kernel
theorem dX1_mayBeTaken_25 : decode cX1_mayBeTaken 25 = .ok (.aload_n 0, 1) := by decide +kernel
theorem dX1_mayBeTaken_26 : decode cX1_mayBeTaken 26 = .ok (.iload 4, 2) := by decide +kernel
theorem dX1_mayBeTaken_28 : decode cX1_mayBeTaken 28 = .ok (.invokevirtual 74, 3) := by decide +kernel
theorem dX1_mayBeTaken_31 : decode cX1_mayBeTaken 31 = .ok (.istore 5, 2) := by decide +kernel
theorem dX1_mayBeTaken_33 : decode cX1_mayBeTaken 33 = .ok (.iload 5, 2) := by decide +kernel
theorem dX1_mayBeTaken_35 : decode cX1_mayBeTaken 35 = .ok (.iload_n 3, 1) := by decide +kernel
theorem dX1_mayBeTaken_36 : decode cX1_mayBeTaken 36 = .ok (.if_icmp .le 8, 3) := by decide +kernel
theorem dX1_mayBeTaken_39 : decode cX1_mayBeTaken 39 = .ok (.iload 5, 2) := by decide +kernel
theorem dX1_mayBeTaken_41 : decode cX1_mayBeTaken 41 = .ok (.istore_n 3, 1) := by decide +kernel
theorem dX1_mayBeTaken_42 : decode cX1_mayBeTaken 42 = .ok (.iconst 0, 1) := by decide +kernel
theorem dX1_mayBeTaken_43 : decode cX1_mayBeTaken 43 = .ok (.istore_n 2, 1) := by decide +kernel
theorem dX1_mayBeTaken_44 : decode cX1_mayBeTaken 44 = .ok (.iload 5, 2) := by decide +kernel
theorem dX1_mayBeTaken_46 : decode cX1_mayBeTaken 46 = .ok (.iload_n 3, 1) := by decide +kernel
theorem dX1_mayBeTaken_47 : decode cX1_mayBeTaken 47 = .ok (.if_icmp .ne 21, 3) := by decide +kernel
theorem dX1_mayBeTaken_50 : decode cX1_mayBeTaken 50 = .ok (.aload_n 0, 1) := by decide +kernel
theorem dX1_mayBeTaken_51 : decode cX1_mayBeTaken 51 = .ok (.iload 4, 2) := by decide +kernel
theorem dX1_mayBeTaken_53 : decode cX1_mayBeTaken 53 = .ok (.iload_n 1, 1) := by decide +kernel
theorem dX1_mayBeTaken_54 : decode cX1_mayBeTaken 54 = .ok (.invokevirtual 68, 3) := by decide +kernel
theorem dX1_mayBeTaken_57 : decode cX1_mayBeTaken 57 = .ok (.ifCond .ne 11, 3) := by decide +kernel
theorem dX1_mayBeTaken_60 : decode cX1_mayBeTaken 60 = .ok (.iload_n 2, 1) := by decide +kernel
theorem dX1_mayBeTaken_61 : decode cX1_mayBeTaken 61 = .ok (.iload 4, 2) := by decide +kernel
theorem dX1_mayBeTaken_63 : decode cX1_mayBeTaken 63 = .ok (.invokestatic 34, 3) := by decide +kernel
theorem dX1_mayBeTaken_66 : decode cX1_mayBeTaken 66 = .ok (.ior, 1) := by decide +kernel
theorem dX1_mayBeTaken_67 : decode cX1_mayBeTaken 67 = .ok (.istore_n 2, 1) := by decide +kernel
theorem dX1_mayBeTaken_68 : decode cX1_mayBeTaken 68 = .ok (.iinc 4 1, 3) := by decide +kernel
theorem dX1_mayBeTaken_71 : decode cX1_mayBeTaken 71 = .ok (.goto (-64), 3) := by decide +kernel
theorem dX1_mayBeTaken_74 : decode cX1_mayBeTaken 74 = .ok (.iload_n 2, 1) := by decide +kernel
theorem dX1_mayBeTaken_75 : decode cX1_mayBeTaken 75 = .ok (.ireturn, 1) := by decide +kernel
set_option maxRecDepth 20000 in
theorem ggX1_fallRow_X1_mayBeTaken : GoodIn wsX1_fallRow wsX1_mayBeTaken := goodIn_r _ [7, 2, 8, 9, 10, 11, 12, 13, 6, 14, 15, 16, 17, 18, 19, 20, 21, 22, 23, 24, 25, 26, 27, 28, 29, 30, 31, 37, 38, 39, 40, 41, 42, 43] (by decide +kernel) (by decide +kernel)
set_option maxRecDepth 20000 in
theorem gX1_fallRow_X1_mayBeTaken : GoodIn wsX1_fallRow (wsV RX1 62 RX1 yX1_mayBeTaken wsX1_mayBeTaken) := goodIn_app (goodIn_of _ (by decide +kernel)) ggX1_fallRow_X1_mayBeTaken
set_option maxRecDepth 20000 in
theorem ggX1_fallRow_X3_leastOf : GoodIn wsX1_fallRow wsX3_leastOf := goodIn_r _ [33, 34, 8, 9, 10] (by decide +kernel) (by decide +kernel)
set_option maxRecDepth 20000 in
theorem gX1_fallRow_X3_leastOf_n65 : GoodIn wsX1_fallRow (wsX3_leastOf) := ggX1_fallRow_X3_leastOf
set_option maxRecDepth 20000 in
theorem ggX1_fallRow_X3_without : GoodIn wsX1_fallRow wsX3_without := goodIn_r _ [36] (by decide +kernel) (by decide +kernel)
set_option maxRecDepth 20000 in
theorem gX1_fallRow_X3_without_n58 : GoodIn wsX1_fallRow (wsX3_without) := ggX1_fallRow_X3_without
theorem dX1_fallRow_0 : decode cX1_fallRow 0 = .ok (.iconst 0, 1) := by decide +kernel
theorem dX1_fallRow_1 : decode cX1_fallRow 1 = .ok (.istore_n 1, 1) := by decide +kernel
theorem dX1_fallRow_2 : decode cX1_fallRow 2 = .ok (.aload_n 0, 1) := by decide +kernel
theorem dX1_fallRow_3 : decode cX1_fallRow 3 = .ok (.getfield 25, 3) := by decide +kernel
theorem dX1_fallRow_6 : decode cX1_fallRow 6 = .ok (.istore_n 2, 1) := by decide +kernel
theorem dX1_fallRow_7 : decode cX1_fallRow 7 = .ok (.iconst 0, 1) := by decide +kernel
theorem dX1_fallRow_8 : decode cX1_fallRow 8 = .ok (.istore_n 3, 1) := by decide +kernel
theorem dX1_fallRow_9 : decode cX1_fallRow 9 = .ok (.iload_n 3, 1) := by decide +kernel
theorem dX1_fallRow_10 : decode cX1_fallRow 10 = .ok (.aload_n 0, 1) := by decide +kernel
theorem dX1_fallRow_11 : decode cX1_fallRow 11 = .ok (.getfield 9, 3) := by decide +kernel
theorem dX1_fallRow_14 : decode cX1_fallRow 14 = .ok (.if_icmp .ge 45, 3) := by decide +kernel
theorem dX1_fallRow_17 : decode cX1_fallRow 17 = .ok (.aload_n 0, 1) := by decide +kernel
theorem dX1_fallRow_18 : decode cX1_fallRow 18 = .ok (.iload_n 2, 1) := by decide +kernel
theorem dX1_fallRow_19 : decode cX1_fallRow 19 = .ok (.invokevirtual 62, 3) := by decide +kernel
theorem dX1_fallRow_22 : decode cX1_fallRow 22 = .ok (.invokestatic 65, 3) := by decide +kernel
theorem dX1_fallRow_25 : decode cX1_fallRow 25 = .ok (.istore 4, 2) := by decide +kernel
theorem dX1_fallRow_27 : decode cX1_fallRow 27 = .ok (.iload 4, 2) := by decide +kernel
theorem dX1_fallRow_29 : decode cX1_fallRow 29 = .ok (.bipush (-9), 2) := by decide +kernel
theorem dX1_fallRow_31 : decode cX1_fallRow 31 = .ok (.if_icmp .ne 5, 3) := by decide +kernel
theorem dX1_fallRow_34 : decode cX1_fallRow 34 = .ok (.iload_n 1, 1) := by decide +kernel
theorem dX1_fallRow_35 : decode cX1_fallRow 35 = .ok (.ireturn, 1) := by decide +kernel
theorem dX1_fallRow_36 : decode cX1_fallRow 36 = .ok (.bipush 10, 2) := by decide +kernel
theorem dX1_fallRow_38 : decode cX1_fallRow 38 = .ok (.iload_n 1, 1) := by decide +kernel
theorem dX1_fallRow_39 : decode cX1_fallRow 39 = .ok (.imul, 1) := by decide +kernel
theorem dX1_fallRow_40 : decode cX1_fallRow 40 = .ok (.iload 4, 2) := by decide +kernel
theorem dX1_fallRow_42 : decode cX1_fallRow 42 = .ok (.iadd, 1) := by decide +kernel
theorem dX1_fallRow_43 : decode cX1_fallRow 43 = .ok (.iconst 1, 1) := by decide +kernel
theorem dX1_fallRow_44 : decode cX1_fallRow 44 = .ok (.iadd, 1) := by decide +kernel
theorem dX1_fallRow_45 : decode cX1_fallRow 45 = .ok (.istore_n 1, 1) := by decide +kernel
theorem dX1_fallRow_46 : decode cX1_fallRow 46 = .ok (.iload_n 2, 1) := by decide +kernel
theorem dX1_fallRow_47 : decode cX1_fallRow 47 = .ok (.iload 4, 2) := by decide +kernel
theorem dX1_fallRow_49 : decode cX1_fallRow 49 = .ok (.invokestatic 58, 3) := by decide +kernel
theorem dX1_fallRow_52 : decode cX1_fallRow 52 = .ok (.istore_n 2, 1) := by decide +kernel
theorem dX1_fallRow_53 : decode cX1_fallRow 53 = .ok (.iinc 3 1, 3) := by decide +kernel
theorem dX1_fallRow_56 : decode cX1_fallRow 56 = .ok (.goto (-47), 3) := by decide +kernel
theorem dX1_fallRow_59 : decode cX1_fallRow 59 = .ok (.iload_n 1, 1) := by decide +kernel
theorem dX1_fallRow_60 : decode cX1_fallRow 60 = .ok (.ireturn, 1) := by decide +kernel
set_option maxRecDepth 20000 in
theorem ggX1_placeOf_X1_mayBeTaken : GoodIn wsX1_placeOf wsX1_mayBeTaken := goodIn_r _ [7, 2, 8, 9, 10, 11, 12, 13, 6, 14, 15, 16, 17, 18, 19, 20, 21, 22, 23, 24, 25, 26, 27, 28, 29, 30, 31, 37, 38, 39, 40, 41, 42, 43] (by decide +kernel) (by decide +kernel)
set_option maxRecDepth 20000 in
theorem gX1_placeOf_X1_mayBeTaken : GoodIn wsX1_placeOf (wsV RX1 62 RX1 yX1_mayBeTaken wsX1_mayBeTaken) := goodIn_app (goodIn_of _ (by decide +kernel)) ggX1_placeOf_X1_mayBeTaken
set_option maxRecDepth 20000 in
theorem ggX1_placeOf_X3_leastOf : GoodIn wsX1_placeOf wsX3_leastOf := goodIn_r _ [33, 34, 8, 9, 10] (by decide +kernel) (by decide +kernel)
set_option maxRecDepth 20000 in
theorem gX1_placeOf_X3_leastOf_n65 : GoodIn wsX1_placeOf (wsX3_leastOf) := ggX1_placeOf_X3_leastOf
set_option maxRecDepth 20000 in
theorem ggX1_placeOf_X3_without : GoodIn wsX1_placeOf wsX3_without := goodIn_r _ [36] (by decide +kernel) (by decide +kernel)
set_option maxRecDepth 20000 in
theorem gX1_placeOf_X3_without_n58 : GoodIn wsX1_placeOf (wsX3_without) := ggX1_placeOf_X3_without
theorem dX1_placeOf_0 : decode cX1_placeOf 0 = .ok (.aload_n 0, 1) := by decide +kernel
theorem dX1_placeOf_1 : decode cX1_placeOf 1 = .ok (.getfield 25, 3) := by decide +kernel
theorem dX1_placeOf_4 : decode cX1_placeOf 4 = .ok (.istore_n 2, 1) := by decide +kernel
theorem dX1_placeOf_5 : decode cX1_placeOf 5 = .ok (.iconst 0, 1) := by decide +kernel
theorem dX1_placeOf_6 : decode cX1_placeOf 6 = .ok (.istore_n 3, 1) := by decide +kernel
theorem dX1_placeOf_7 : decode cX1_placeOf 7 = .ok (.iload_n 3, 1) := by decide +kernel
theorem dX1_placeOf_8 : decode cX1_placeOf 8 = .ok (.aload_n 0, 1) := by decide +kernel
theorem dX1_placeOf_9 : decode cX1_placeOf 9 = .ok (.getfield 9, 3) := by decide +kernel
theorem dX1_placeOf_12 : decode cX1_placeOf 12 = .ok (.if_icmp .ge 53, 3) := by decide +kernel
theorem dX1_placeOf_15 : decode cX1_placeOf 15 = .ok (.aload_n 0, 1) := by decide +kernel
theorem dX1_placeOf_16 : decode cX1_placeOf 16 = .ok (.iload_n 2, 1) := by decide +kernel
theorem dX1_placeOf_17 : decode cX1_placeOf 17 = .ok (.invokevirtual 62, 3) := by decide +kernel
theorem dX1_placeOf_20 : decode cX1_placeOf 20 = .ok (.invokestatic 65, 3) := by decide +kernel
theorem dX1_placeOf_23 : decode cX1_placeOf 23 = .ok (.istore 4, 2) := by decide +kernel
theorem dX1_placeOf_25 : decode cX1_placeOf 25 = .ok (.iload 4, 2) := by decide +kernel
theorem dX1_placeOf_27 : decode cX1_placeOf 27 = .ok (.bipush (-9), 2) := by decide +kernel
theorem dX1_placeOf_29 : decode cX1_placeOf 29 = .ok (.if_icmp .eq 9, 3) := by decide +kernel
theorem dX1_placeOf_32 : decode cX1_placeOf 32 = .ok (.iload 4, 2) := by decide +kernel
theorem dX1_placeOf_34 : decode cX1_placeOf 34 = .ok (.iload_n 1, 1) := by decide +kernel
theorem dX1_placeOf_35 : decode cX1_placeOf 35 = .ok (.if_icmp .ne 17, 3) := by decide +kernel
theorem dX1_placeOf_38 : decode cX1_placeOf 38 = .ok (.iload 4, 2) := by decide +kernel
theorem dX1_placeOf_40 : decode cX1_placeOf 40 = .ok (.bipush (-9), 2) := by decide +kernel
theorem dX1_placeOf_42 : decode cX1_placeOf 42 = .ok (.if_icmp .ne 8, 3) := by decide +kernel
theorem dX1_placeOf_45 : decode cX1_placeOf 45 = .ok (.bipush (-9), 2) := by decide +kernel
theorem dX1_placeOf_47 : decode cX1_placeOf 47 = .ok (.goto 4, 3) := by decide +kernel
theorem dX1_placeOf_50 : decode cX1_placeOf 50 = .ok (.iload_n 3, 1) := by decide +kernel
theorem dX1_placeOf_51 : decode cX1_placeOf 51 = .ok (.ireturn, 1) := by decide +kernel
theorem dX1_placeOf_52 : decode cX1_placeOf 52 = .ok (.iload_n 2, 1) := by decide +kernel
theorem dX1_placeOf_53 : decode cX1_placeOf 53 = .ok (.iload 4, 2) := by decide +kernel
theorem dX1_placeOf_55 : decode cX1_placeOf 55 = .ok (.invokestatic 58, 3) := by decide +kernel
theorem dX1_placeOf_58 : decode cX1_placeOf 58 = .ok (.istore_n 2, 1) := by decide +kernel
theorem dX1_placeOf_59 : decode cX1_placeOf 59 = .ok (.iinc 3 1, 3) := by decide +kernel
theorem dX1_placeOf_62 : decode cX1_placeOf 62 = .ok (.goto (-55), 3) := by decide +kernel
theorem dX1_placeOf_65 : decode cX1_placeOf 65 = .ok (.bipush (-9), 2) := by decide +kernel
theorem dX1_placeOf_67 : decode cX1_placeOf 67 = .ok (.ireturn, 1) := by decide +kernel
set_option maxRecDepth 20000 in
theorem ggX1_worthOf_X1_placeOf : GoodIn wsX1_worthOf wsX1_placeOf := goodIn_r _ [5, 6, 7, 8, 9, 10, 4, 11, 12, 13, 14, 15, 16, 17, 18, 19, 20, 21, 22, 23, 24, 25, 26, 27, 28, 29, 30, 31, 32, 33, 34, 35, 36, 37, 38, 39, 40, 41, 42, 43, 44, 45, 46, 47] (by decide +kernel) (by decide +kernel)
set_option maxRecDepth 20000 in
theorem gX1_worthOf_X1_placeOf : GoodIn wsX1_worthOf (wsV RX1 77 RX1 yX1_placeOf wsX1_placeOf) := goodIn_app (goodIn_of _ (by decide +kernel)) ggX1_worthOf_X1_placeOf
theorem dX1_worthOf_0 : decode cX1_worthOf 0 = .ok (.aload_n 0, 1) := by decide +kernel
theorem dX1_worthOf_1 : decode cX1_worthOf 1 = .ok (.iload_n 1, 1) := by decide +kernel
theorem dX1_worthOf_2 : decode cX1_worthOf 2 = .ok (.invokevirtual 77, 3) := by decide +kernel
theorem dX1_worthOf_5 : decode cX1_worthOf 5 = .ok (.istore_n 2, 1) := by decide +kernel
theorem dX1_worthOf_6 : decode cX1_worthOf 6 = .ok (.iload_n 2, 1) := by decide +kernel
theorem dX1_worthOf_7 : decode cX1_worthOf 7 = .ok (.bipush (-9), 2) := by decide +kernel
theorem dX1_worthOf_9 : decode cX1_worthOf 9 = .ok (.if_icmp .ne 8, 3) := by decide +kernel
theorem dX1_worthOf_12 : decode cX1_worthOf 12 = .ok (.bipush 9, 2) := by decide +kernel
theorem dX1_worthOf_14 : decode cX1_worthOf 14 = .ok (.goto 4, 3) := by decide +kernel
theorem dX1_worthOf_17 : decode cX1_worthOf 17 = .ok (.iload_n 2, 1) := by decide +kernel
theorem dX1_worthOf_18 : decode cX1_worthOf 18 = .ok (.ireturn, 1) := by decide +kernel
set_option maxRecDepth 20000 in
theorem ggX1_leftBehind_X1_mayBeTaken : GoodIn wsX1_leftBehind wsX1_mayBeTaken := goodIn_r _ [6, 1, 7, 8, 9, 10, 11, 12, 5, 13, 14, 15, 16, 17, 18, 19, 20, 21, 22, 23, 24, 25, 26, 27, 28, 29, 30, 31, 32, 33, 34, 35, 36, 37] (by decide +kernel) (by decide +kernel)
set_option maxRecDepth 20000 in
theorem gX1_leftBehind_X1_mayBeTaken : GoodIn wsX1_leftBehind (wsV RX1 62 RX1 yX1_mayBeTaken wsX1_mayBeTaken) := goodIn_app (goodIn_of _ (by decide +kernel)) ggX1_leftBehind_X1_mayBeTaken
theorem dX1_leftBehind_0 : decode cX1_leftBehind 0 = .ok (.iload_n 1, 1) := by decide +kernel
theorem dX1_leftBehind_1 : decode cX1_leftBehind 1 = .ok (.istore_n 2, 1) := by decide +kernel
theorem dX1_leftBehind_2 : decode cX1_leftBehind 2 = .ok (.iconst 0, 1) := by decide +kernel
theorem dX1_leftBehind_3 : decode cX1_leftBehind 3 = .ok (.istore_n 3, 1) := by decide +kernel
theorem dX1_leftBehind_4 : decode cX1_leftBehind 4 = .ok (.iload_n 3, 1) := by decide +kernel
theorem dX1_leftBehind_5 : decode cX1_leftBehind 5 = .ok (.aload_n 0, 1) := by decide +kernel
theorem dX1_leftBehind_6 : decode cX1_leftBehind 6 = .ok (.getfield 9, 3) := by decide +kernel
theorem dX1_leftBehind_9 : decode cX1_leftBehind 9 = .ok (.if_icmp .ge 30, 3) := by decide +kernel
theorem dX1_leftBehind_12 : decode cX1_leftBehind 12 = .ok (.aload_n 0, 1) := by decide +kernel
theorem dX1_leftBehind_13 : decode cX1_leftBehind 13 = .ok (.iload_n 2, 1) := by decide +kernel
theorem dX1_leftBehind_14 : decode cX1_leftBehind 14 = .ok (.invokevirtual 62, 3) := by decide +kernel
theorem dX1_leftBehind_17 : decode cX1_leftBehind 17 = .ok (.istore 4, 2) := by decide +kernel
theorem dX1_leftBehind_19 : decode cX1_leftBehind 19 = .ok (.iload 4, 2) := by decide +kernel
theorem dX1_leftBehind_21 : decode cX1_leftBehind 21 = .ok (.ifCond .ne 5, 3) := by decide +kernel
theorem dX1_leftBehind_24 : decode cX1_leftBehind 24 = .ok (.iload_n 2, 1) := by decide +kernel
theorem dX1_leftBehind_25 : decode cX1_leftBehind 25 = .ok (.ireturn, 1) := by decide +kernel
theorem dX1_leftBehind_26 : decode cX1_leftBehind 26 = .ok (.iload_n 2, 1) := by decide +kernel
theorem dX1_leftBehind_27 : decode cX1_leftBehind 27 = .ok (.iload 4, 2) := by decide +kernel
theorem dX1_leftBehind_29 : decode cX1_leftBehind 29 = .ok (.iconst (-1), 1) := by decide +kernel
theorem dX1_leftBehind_30 : decode cX1_leftBehind 30 = .ok (.ixor, 1) := by decide +kernel
theorem dX1_leftBehind_31 : decode cX1_leftBehind 31 = .ok (.iand, 1) := by decide +kernel
theorem dX1_leftBehind_32 : decode cX1_leftBehind 32 = .ok (.istore_n 2, 1) := by decide +kernel
theorem dX1_leftBehind_33 : decode cX1_leftBehind 33 = .ok (.iinc 3 1, 3) := by decide +kernel
theorem dX1_leftBehind_36 : decode cX1_leftBehind 36 = .ok (.goto (-32), 3) := by decide +kernel
theorem dX1_leftBehind_39 : decode cX1_leftBehind 39 = .ok (.iload_n 2, 1) := by decide +kernel
theorem dX1_leftBehind_40 : decode cX1_leftBehind 40 = .ok (.ireturn, 1) := by decide +kernel
set_option maxRecDepth 20000 in
theorem ggX1_isTaken_X1_leftBehind : GoodIn wsX1_isTaken wsX1_leftBehind := goodIn_r _ [5, 6, 7, 8, 9, 4, 10, 11, 12, 13, 14, 15, 16, 17, 18, 19, 20, 21, 22, 23, 24, 25, 26, 27, 28, 29, 30, 31, 32, 33, 34, 35, 36, 37, 38, 39, 40, 41] (by decide +kernel) (by decide +kernel)
set_option maxRecDepth 20000 in
theorem gX1_isTaken_X1_leftBehind : GoodIn wsX1_isTaken (wsV RX1 80 RX1 yX1_leftBehind wsX1_leftBehind) := goodIn_app (goodIn_of _ (by decide +kernel)) ggX1_isTaken_X1_leftBehind
set_option maxRecDepth 20000 in
theorem ggX1_isTaken_X3_isIn : GoodIn wsX1_isTaken wsX3_isIn := goodIn_r _ [13] (by decide +kernel) (by decide +kernel)
set_option maxRecDepth 20000 in
theorem gX1_isTaken_X3_isIn_n71 : GoodIn wsX1_isTaken (wsX3_isIn) := ggX1_isTaken_X3_isIn
theorem dX1_isTaken_0 : decode cX1_isTaken 0 = .ok (.iload_n 2, 1) := by decide +kernel
theorem dX1_isTaken_1 : decode cX1_isTaken 1 = .ok (.aload_n 0, 1) := by decide +kernel
theorem dX1_isTaken_2 : decode cX1_isTaken 2 = .ok (.iload_n 2, 1) := by decide +kernel
theorem dX1_isTaken_3 : decode cX1_isTaken 3 = .ok (.invokevirtual 80, 3) := by decide +kernel
theorem dX1_isTaken_6 : decode cX1_isTaken 6 = .ok (.iconst (-1), 1) := by decide +kernel
theorem dX1_isTaken_7 : decode cX1_isTaken 7 = .ok (.ixor, 1) := by decide +kernel
theorem dX1_isTaken_8 : decode cX1_isTaken 8 = .ok (.iand, 1) := by decide +kernel
theorem dX1_isTaken_9 : decode cX1_isTaken 9 = .ok (.iload_n 1, 1) := by decide +kernel
theorem dX1_isTaken_10 : decode cX1_isTaken 10 = .ok (.invokestatic 71, 3) := by decide +kernel
theorem dX1_isTaken_13 : decode cX1_isTaken 13 = .ok (.ireturn, 1) := by decide +kernel
set_option maxRecDepth 20000 in
theorem ggX1_countTaken_J6_bitCount_0f7a4 : GoodIn wsX1_countTaken wsJ6_bitCount_0f7a4 := goodIn_r _ [4, 5, 6, 7] (by decide +kernel) (by decide +kernel)
set_option maxRecDepth 20000 in
theorem gX1_countTaken_J6_bitCount_0f7a4 : GoodIn wsX1_countTaken (va_wsS RX1 83 yJ6_bitCount_0f7a4 wsJ6_bitCount_0f7a4) := goodIn_app (goodIn_of _ (by decide +kernel)) ggX1_countTaken_J6_bitCount_0f7a4
set_option maxRecDepth 20000 in
theorem ggX1_countTaken_X1_leftBehind : GoodIn wsX1_countTaken wsX1_leftBehind := goodIn_r _ [12, 13, 14, 15, 16, 11, 17, 18, 19, 20, 21, 22, 23, 24, 25, 26, 27, 28, 29, 30, 31, 32, 33, 34, 35, 36, 37, 38, 39, 40, 41, 42, 43, 44, 45, 46, 47, 48] (by decide +kernel) (by decide +kernel)
set_option maxRecDepth 20000 in
theorem gX1_countTaken_X1_leftBehind : GoodIn wsX1_countTaken (wsV RX1 80 RX1 yX1_leftBehind wsX1_leftBehind) := goodIn_app (goodIn_of _ (by decide +kernel)) ggX1_countTaken_X1_leftBehind
theorem dX1_countTaken_0 : decode cX1_countTaken 0 = .ok (.iload_n 1, 1) := by decide +kernel
theorem dX1_countTaken_1 : decode cX1_countTaken 1 = .ok (.invokestatic 83, 3) := by decide +kernel
theorem dX1_countTaken_4 : decode cX1_countTaken 4 = .ok (.aload_n 0, 1) := by decide +kernel
theorem dX1_countTaken_5 : decode cX1_countTaken 5 = .ok (.iload_n 1, 1) := by decide +kernel
theorem dX1_countTaken_6 : decode cX1_countTaken 6 = .ok (.invokevirtual 80, 3) := by decide +kernel
theorem dX1_countTaken_9 : decode cX1_countTaken 9 = .ok (.invokestatic 83, 3) := by decide +kernel
theorem dX1_countTaken_12 : decode cX1_countTaken 12 = .ok (.isub, 1) := by decide +kernel
theorem dX1_countTaken_13 : decode cX1_countTaken 13 = .ok (.ireturn, 1) := by decide +kernel
theorem dX2_init_0 : decode cX2_init 0 = .ok (.aload_n 0, 1) := by decide +kernel
theorem dX2_init_1 : decode cX2_init 1 = .ok (.invokespecial 3, 3) := by decide +kernel
theorem dX2_init_4 : decode cX2_init 4 = .ok (.aload_n 0, 1) := by decide +kernel
theorem dX2_init_5 : decode cX2_init 5 = .ok (.bipush 48, 2) := by decide +kernel
theorem dX2_init_7 : decode cX2_init 7 = .ok (.newarray .int, 2) := by decide +kernel
theorem dX2_init_9 : decode cX2_init 9 = .ok (.putfield 9, 3) := by decide +kernel
theorem dX2_init_12 : decode cX2_init 12 = .ok (.return_, 1) := by decide +kernel
theorem dX2_append_0 : decode cX2_append 0 = .ok (.aload_n 0, 1) := by decide +kernel
theorem dX2_append_1 : decode cX2_append 1 = .ok (.getfield 15, 3) := by decide +kernel
theorem dX2_append_4 : decode cX2_append 4 = .ok (.bipush 48, 2) := by decide +kernel
theorem dX2_append_6 : decode cX2_append 6 = .ok (.if_icmp .lt 5, 3) := by decide +kernel
theorem dX2_append_9 : decode cX2_append 9 = .ok (.iconst 0, 1) := by decide +kernel
theorem dX2_append_10 : decode cX2_append 10 = .ok (.ireturn, 1) := by decide +kernel
theorem dX2_append_11 : decode cX2_append 11 = .ok (.aload_n 0, 1) := by decide +kernel
theorem dX2_append_12 : decode cX2_append 12 = .ok (.getfield 9, 3) := by decide +kernel
theorem dX2_append_15 : decode cX2_append 15 = .ok (.aload_n 0, 1) := by decide +kernel
theorem dX2_append_16 : decode cX2_append 16 = .ok (.getfield 15, 3) := by decide +kernel
theorem dX2_append_19 : decode cX2_append 19 = .ok (.iload_n 1, 1) := by decide +kernel
theorem dX2_append_20 : decode cX2_append 20 = .ok (.iastore, 1) := by decide +kernel
theorem dX2_append_21 : decode cX2_append 21 = .ok (.aload_n 0, 1) := by decide +kernel
theorem dX2_append_22 : decode cX2_append 22 = .ok (.dup, 1) := by decide +kernel
theorem dX2_append_23 : decode cX2_append 23 = .ok (.getfield 15, 3) := by decide +kernel
theorem dX2_append_26 : decode cX2_append 26 = .ok (.iconst 1, 1) := by decide +kernel
theorem dX2_append_27 : decode cX2_append 27 = .ok (.iadd, 1) := by decide +kernel
theorem dX2_append_28 : decode cX2_append 28 = .ok (.putfield 15, 3) := by decide +kernel
theorem dX2_append_31 : decode cX2_append 31 = .ok (.iconst 1, 1) := by decide +kernel
theorem dX2_append_32 : decode cX2_append 32 = .ok (.ireturn, 1) := by decide +kernel
set_option maxRecDepth 20000 in
theorem ggX2_readInto_X1_clear : GoodIn wsX2_readInto wsX1_clear := goodIn_r _ [5, 6, 7, 8, 9, 10, 11, 12, 72, 73, 74, 75, 76, 77, 78] (by decide +kernel) (by decide +kernel)
set_option maxRecDepth 20000 in
theorem gX2_readInto_X1_clear_n19 : GoodIn wsX2_readInto (wsX1_clear) := ggX2_readInto_X1_clear
set_option maxRecDepth 20000 in
theorem ggX2_readInto_X2_byteAt : GoodIn wsX2_readInto wsX2_byteAt := goodIn_r _ [17, 1, 18, 70, 71] (by decide +kernel) (by decide +kernel)
set_option maxRecDepth 20000 in
theorem gX2_readInto_X2_byteAt : GoodIn wsX2_readInto (wsV RX2 24 RX2 yX2_byteAt wsX2_byteAt) := goodIn_app (goodIn_of _ (by decide +kernel)) ggX2_readInto_X2_byteAt
set_option maxRecDepth 20000 in
theorem ggX2_readInto_X2_readPart : GoodIn wsX2_readInto wsX2_readPart := goodIn_r _ [22, 13, 14, 15, 16, 17, 1, 18, 23, 24, 25, 26, 27, 28, 29, 30, 31, 3, 32, 33, 6, 7, 8, 10, 34, 35, 36, 37, 38, 39, 9, 40, 41, 42, 43, 44, 45, 46, 47, 48, 49, 50, 51, 52, 53, 54, 55, 56, 57, 58, 59, 60, 61, 62, 63, 64, 65, 66, 67, 68, 69, 72, 73, 74, 75, 76, 77, 78, 70, 71] (by decide +kernel) (by decide +kernel)
set_option maxRecDepth 20000 in
theorem gX2_readInto_X2_readPart : GoodIn wsX2_readInto (wsV RX2 28 RX2 yX2_readPart wsX2_readPart) := goodIn_app (goodIn_of _ (by decide +kernel)) ggX2_readInto_X2_readPart
theorem dX2_readInto_0 : decode cX2_readInto 0 = .ok (.aload_n 1, 1) := by decide +kernel
theorem dX2_readInto_1 : decode cX2_readInto 1 = .ok (.invokevirtual 19, 3) := by decide +kernel
theorem dX2_readInto_4 : decode cX2_readInto 4 = .ok (.aload_n 0, 1) := by decide +kernel
theorem dX2_readInto_5 : decode cX2_readInto 5 = .ok (.iconst 0, 1) := by decide +kernel
theorem dX2_readInto_6 : decode cX2_readInto 6 = .ok (.invokevirtual 24, 3) := by decide +kernel
theorem dX2_readInto_9 : decode cX2_readInto 9 = .ok (.bipush 65, 2) := by decide +kernel
theorem dX2_readInto_11 : decode cX2_readInto 11 = .ok (.if_icmp .eq 5, 3) := by decide +kernel
theorem dX2_readInto_14 : decode cX2_readInto 14 = .ok (.iconst 0, 1) := by decide +kernel
theorem dX2_readInto_15 : decode cX2_readInto 15 = .ok (.ireturn, 1) := by decide +kernel
theorem dX2_readInto_16 : decode cX2_readInto 16 = .ok (.iconst 1, 1) := by decide +kernel
theorem dX2_readInto_17 : decode cX2_readInto 17 = .ok (.istore_n 2, 1) := by decide +kernel
theorem dX2_readInto_18 : decode cX2_readInto 18 = .ok (.iload_n 2, 1) := by decide +kernel
theorem dX2_readInto_19 : decode cX2_readInto 19 = .ok (.aload_n 0, 1) := by decide +kernel
theorem dX2_readInto_20 : decode cX2_readInto 20 = .ok (.getfield 15, 3) := by decide +kernel
theorem dX2_readInto_23 : decode cX2_readInto 23 = .ok (.if_icmp .ge 24, 3) := by decide +kernel
theorem dX2_readInto_26 : decode cX2_readInto 26 = .ok (.aload_n 0, 1) := by decide +kernel
theorem dX2_readInto_27 : decode cX2_readInto 27 = .ok (.iload_n 2, 1) := by decide +kernel
theorem dX2_readInto_28 : decode cX2_readInto 28 = .ok (.aload_n 1, 1) := by decide +kernel
theorem dX2_readInto_29 : decode cX2_readInto 29 = .ok (.invokevirtual 28, 3) := by decide +kernel
theorem dX2_readInto_32 : decode cX2_readInto 32 = .ok (.istore_n 3, 1) := by decide +kernel
theorem dX2_readInto_33 : decode cX2_readInto 33 = .ok (.iload_n 3, 1) := by decide +kernel
theorem dX2_readInto_34 : decode cX2_readInto 34 = .ok (.bipush (-9), 2) := by decide +kernel
theorem dX2_readInto_36 : decode cX2_readInto 36 = .ok (.if_icmp .eq 5, 3) := by decide +kernel
theorem dX2_readInto_39 : decode cX2_readInto 39 = .ok (.iload_n 3, 1) := by decide +kernel
theorem dX2_readInto_40 : decode cX2_readInto 40 = .ok (.ireturn, 1) := by decide +kernel
theorem dX2_readInto_41 : decode cX2_readInto 41 = .ok (.iinc 2 3, 3) := by decide +kernel
theorem dX2_readInto_44 : decode cX2_readInto 44 = .ok (.goto (-26), 3) := by decide +kernel
theorem dX2_readInto_47 : decode cX2_readInto 47 = .ok (.bipush (-9), 2) := by decide +kernel
theorem dX2_readInto_49 : decode cX2_readInto 49 = .ok (.ireturn, 1) := by decide +kernel
set_option maxRecDepth 20000 in
theorem ggX2_readPart_X2_byteAt : GoodIn wsX2_readPart wsX2_byteAt := goodIn_r _ [5, 6, 7, 68, 69] (by decide +kernel) (by decide +kernel)
set_option maxRecDepth 20000 in
theorem gX2_readPart_X2_byteAt : GoodIn wsX2_readPart (wsV RX2 24 RX2 yX2_byteAt wsX2_byteAt) := goodIn_app (goodIn_of _ (by decide +kernel)) ggX2_readPart_X2_byteAt
set_option maxRecDepth 20000 in
theorem ggX2_readPart_X2_readPerson : GoodIn wsX2_readPart wsX2_readPerson := goodIn_r _ [11, 12, 13, 14, 4, 15, 1, 2, 3, 5, 6, 7, 16, 17, 18, 19, 20, 21, 22, 23, 24, 25, 26, 68, 69, 61, 62, 63, 64, 65, 66, 67] (by decide +kernel) (by decide +kernel)
set_option maxRecDepth 20000 in
theorem gX2_readPart_X2_readPerson : GoodIn wsX2_readPart (wsV RX2 35 RX2 yX2_readPerson wsX2_readPerson) := goodIn_app (goodIn_of _ (by decide +kernel)) ggX2_readPart_X2_readPerson
set_option maxRecDepth 20000 in
theorem ggX2_readPart_X1_hasPairLeft : GoodIn wsX2_readPart wsX1_hasPairLeft := goodIn_r _ [29, 30, 20, 31, 32, 33, 34, 35, 36, 37, 61, 62, 63, 64, 65, 66, 67] (by decide +kernel) (by decide +kernel)
set_option maxRecDepth 20000 in
theorem gX2_readPart_X1_hasPairLeft_n38 : GoodIn wsX2_readPart (wsX1_hasPairLeft) := ggX2_readPart_X1_hasPairLeft
set_option maxRecDepth 20000 in
theorem ggX2_readPart_X2_readPair : GoodIn wsX2_readPart wsX2_readPair := goodIn_r _ [41, 12, 13, 14, 4, 15, 1, 2, 3, 5, 6, 7, 42, 17, 43, 44, 20, 45, 46, 47, 48, 49, 50, 51, 30, 52, 25, 53, 24, 26, 54, 55, 56, 57, 58, 59, 60, 61, 62, 63, 64, 65, 66, 67, 68, 69] (by decide +kernel) (by decide +kernel)
set_option maxRecDepth 20000 in
theorem gX2_readPart_X2_readPair : GoodIn wsX2_readPart (wsV RX2 42 RX2 yX2_readPair wsX2_readPair) := goodIn_app (goodIn_of _ (by decide +kernel)) ggX2_readPart_X2_readPair
theorem dX2_readPart_0 : decode cX2_readPart 0 = .ok (.aload_n 0, 1) := by decide +kernel
theorem dX2_readPart_1 : decode cX2_readPart 1 = .ok (.iload_n 1, 1) := by decide +kernel
theorem dX2_readPart_2 : decode cX2_readPart 2 = .ok (.invokevirtual 24, 3) := by decide +kernel
theorem dX2_readPart_5 : decode cX2_readPart 5 = .ok (.bipush 80, 2) := by decide +kernel
theorem dX2_readPart_7 : decode cX2_readPart 7 = .ok (.if_icmp .ne 21, 3) := by decide +kernel
theorem dX2_readPart_10 : decode cX2_readPart 10 = .ok (.aload_n 2, 1) := by decide +kernel
theorem dX2_readPart_11 : decode cX2_readPart 11 = .ok (.getfield 32, 3) := by decide +kernel
theorem dX2_readPart_14 : decode cX2_readPart 14 = .ok (.bipush 7, 2) := by decide +kernel
theorem dX2_readPart_16 : decode cX2_readPart 16 = .ok (.if_icmp .ge 12, 3) := by decide +kernel
theorem dX2_readPart_19 : decode cX2_readPart 19 = .ok (.aload_n 0, 1) := by decide +kernel
theorem dX2_readPart_20 : decode cX2_readPart 20 = .ok (.iload_n 1, 1) := by decide +kernel
theorem dX2_readPart_21 : decode cX2_readPart 21 = .ok (.iconst 1, 1) := by decide +kernel
theorem dX2_readPart_22 : decode cX2_readPart 22 = .ok (.iadd, 1) := by decide +kernel
theorem dX2_readPart_23 : decode cX2_readPart 23 = .ok (.aload_n 2, 1) := by decide +kernel
theorem dX2_readPart_24 : decode cX2_readPart 24 = .ok (.invokevirtual 35, 3) := by decide +kernel
theorem dX2_readPart_27 : decode cX2_readPart 27 = .ok (.ireturn, 1) := by decide +kernel
theorem dX2_readPart_28 : decode cX2_readPart 28 = .ok (.aload_n 0, 1) := by decide +kernel
theorem dX2_readPart_29 : decode cX2_readPart 29 = .ok (.iload_n 1, 1) := by decide +kernel
theorem dX2_readPart_30 : decode cX2_readPart 30 = .ok (.invokevirtual 24, 3) := by decide +kernel
theorem dX2_readPart_33 : decode cX2_readPart 33 = .ok (.bipush 70, 2) := by decide +kernel
theorem dX2_readPart_35 : decode cX2_readPart 35 = .ok (.if_icmp .ne 19, 3) := by decide +kernel
theorem dX2_readPart_38 : decode cX2_readPart 38 = .ok (.aload_n 2, 1) := by decide +kernel
theorem dX2_readPart_39 : decode cX2_readPart 39 = .ok (.invokevirtual 38, 3) := by decide +kernel
theorem dX2_readPart_42 : decode cX2_readPart 42 = .ok (.ifCond .eq 12, 3) := by decide +kernel
theorem dX2_readPart_45 : decode cX2_readPart 45 = .ok (.aload_n 0, 1) := by decide +kernel
theorem dX2_readPart_46 : decode cX2_readPart 46 = .ok (.iload_n 1, 1) := by decide +kernel
end
section
theorem dX2_readPart_47 : decode cX2_readPart 47 = .ok (.iconst 1, 1) := by decide +kernel
theorem dX2_readPart_48 : decode cX2_readPart 48 = .ok (.iadd, 1) := by decide +kernel
theorem dX2_readPart_49 : decode cX2_readPart 49 = .ok (.aload_n 2, 1) := by decide +kernel
theorem dX2_readPart_50 : decode cX2_readPart 50 = .ok (.invokevirtual 42, 3) := by decide +kernel
theorem dX2_readPart_53 : decode cX2_readPart 53 = .ok (.ireturn, 1) := by decide +kernel
theorem dX2_readPart_54 : decode cX2_readPart 54 = .ok (.iload_n 1, 1) := by decide +kernel
theorem dX2_readPart_55 : decode cX2_readPart 55 = .ok (.ireturn, 1) := by decide +kernel
set_option maxRecDepth 20000 in
theorem ggX2_readPerson_X2_figureAt : GoodIn wsX2_readPerson wsX2_figureAt := goodIn_r _ [5, 6, 7, 8, 4, 9, 10, 11, 23, 24] (by decide +kernel) (by decide +kernel)
set_option maxRecDepth 20000 in
theorem gX2_readPerson_X2_figureAt : GoodIn wsX2_readPerson (wsV RX2 45 RX2 yX2_figureAt wsX2_figureAt) := goodIn_app (goodIn_of _ (by decide +kernel)) ggX2_readPerson_X2_figureAt
set_option maxRecDepth 20000 in
theorem ggX2_readPerson_X1_add : GoodIn wsX2_readPerson wsX1_add := goodIn_r _ [15, 16, 17, 18, 19, 20, 21, 22, 25, 26, 27, 28, 29, 30, 31] (by decide +kernel) (by decide +kernel)
set_option maxRecDepth 20000 in
theorem gX2_readPerson_X1_add_n48 : GoodIn wsX2_readPerson (wsX1_add) := ggX2_readPerson_X1_add
theorem dX2_readPerson_0 : decode cX2_readPerson 0 = .ok (.aload_n 0, 1) := by decide +kernel
theorem dX2_readPerson_1 : decode cX2_readPerson 1 = .ok (.iload_n 1, 1) := by decide +kernel
theorem dX2_readPerson_2 : decode cX2_readPerson 2 = .ok (.invokevirtual 45, 3) := by decide +kernel
theorem dX2_readPerson_5 : decode cX2_readPerson 5 = .ok (.istore_n 3, 1) := by decide +kernel
theorem dX2_readPerson_6 : decode cX2_readPerson 6 = .ok (.iload_n 3, 1) := by decide +kernel
theorem dX2_readPerson_7 : decode cX2_readPerson 7 = .ok (.bipush (-9), 2) := by decide +kernel
theorem dX2_readPerson_9 : decode cX2_readPerson 9 = .ok (.if_icmp .ne 5, 3) := by decide +kernel
theorem dX2_readPerson_12 : decode cX2_readPerson 12 = .ok (.iload_n 1, 1) := by decide +kernel
theorem dX2_readPerson_13 : decode cX2_readPerson 13 = .ok (.ireturn, 1) := by decide +kernel
theorem dX2_readPerson_14 : decode cX2_readPerson 14 = .ok (.aload_n 0, 1) := by decide +kernel
theorem dX2_readPerson_15 : decode cX2_readPerson 15 = .ok (.iload_n 1, 1) := by decide +kernel
theorem dX2_readPerson_16 : decode cX2_readPerson 16 = .ok (.iconst 1, 1) := by decide +kernel
theorem dX2_readPerson_17 : decode cX2_readPerson 17 = .ok (.iadd, 1) := by decide +kernel
theorem dX2_readPerson_18 : decode cX2_readPerson 18 = .ok (.invokevirtual 45, 3) := by decide +kernel
theorem dX2_readPerson_21 : decode cX2_readPerson 21 = .ok (.istore 4, 2) := by decide +kernel
theorem dX2_readPerson_23 : decode cX2_readPerson 23 = .ok (.iload 4, 2) := by decide +kernel
theorem dX2_readPerson_25 : decode cX2_readPerson 25 = .ok (.bipush (-9), 2) := by decide +kernel
theorem dX2_readPerson_27 : decode cX2_readPerson 27 = .ok (.if_icmp .eq 9, 3) := by decide +kernel
theorem dX2_readPerson_30 : decode cX2_readPerson 30 = .ok (.iload 4, 2) := by decide +kernel
theorem dX2_readPerson_32 : decode cX2_readPerson 32 = .ok (.iconst 4, 1) := by decide +kernel
theorem dX2_readPerson_33 : decode cX2_readPerson 33 = .ok (.if_icmp .lt 7, 3) := by decide +kernel
theorem dX2_readPerson_36 : decode cX2_readPerson 36 = .ok (.iload_n 1, 1) := by decide +kernel
theorem dX2_readPerson_37 : decode cX2_readPerson 37 = .ok (.iconst 1, 1) := by decide +kernel
theorem dX2_readPerson_38 : decode cX2_readPerson 38 = .ok (.iadd, 1) := by decide +kernel
theorem dX2_readPerson_39 : decode cX2_readPerson 39 = .ok (.ireturn, 1) := by decide +kernel
theorem dX2_readPerson_40 : decode cX2_readPerson 40 = .ok (.aload_n 2, 1) := by decide +kernel
theorem dX2_readPerson_41 : decode cX2_readPerson 41 = .ok (.iload_n 3, 1) := by decide +kernel
theorem dX2_readPerson_42 : decode cX2_readPerson 42 = .ok (.iload 4, 2) := by decide +kernel
theorem dX2_readPerson_44 : decode cX2_readPerson 44 = .ok (.invokevirtual 48, 3) := by decide +kernel
theorem dX2_readPerson_47 : decode cX2_readPerson 47 = .ok (.bipush (-9), 2) := by decide +kernel
theorem dX2_readPerson_49 : decode cX2_readPerson 49 = .ok (.ireturn, 1) := by decide +kernel
set_option maxRecDepth 20000 in
theorem ggX2_readPair_X2_figureAt : GoodIn wsX2_readPair wsX2_figureAt := goodIn_r _ [5, 6, 7, 8, 4, 9, 10, 11, 44, 45] (by decide +kernel) (by decide +kernel)
set_option maxRecDepth 20000 in
theorem gX2_readPair_X2_figureAt : GoodIn wsX2_readPair (wsV RX2 45 RX2 yX2_figureAt wsX2_figureAt) := goodIn_app (goodIn_of _ (by decide +kernel)) ggX2_readPair_X2_figureAt
set_option maxRecDepth 20000 in
theorem ggX2_readPair_X1_has : GoodIn wsX2_readPair wsX1_has := goodIn_r _ [15, 16, 37, 38, 39, 40, 41, 42, 43] (by decide +kernel) (by decide +kernel)
set_option maxRecDepth 20000 in
theorem gX2_readPair_X1_has_n52 : GoodIn wsX2_readPair (wsX1_has) := ggX2_readPair_X1_has
set_option maxRecDepth 20000 in
theorem ggX2_readPair_X1_whomFeeds : GoodIn wsX2_readPair wsX1_whomFeeds := goodIn_r _ [19, 16, 20, 21, 22, 13, 23, 24, 25, 26, 27, 28, 29, 37, 38, 39, 40, 41, 42, 43] (by decide +kernel) (by decide +kernel)
set_option maxRecDepth 20000 in
theorem gX2_readPair_X1_whomFeeds_n56 : GoodIn wsX2_readPair (wsX1_whomFeeds) := ggX2_readPair_X1_whomFeeds
set_option maxRecDepth 20000 in
theorem ggX2_readPair_J6_bitCount_0f7a4 : GoodIn wsX2_readPair wsJ6_bitCount_0f7a4 := goodIn_r _ [33, 34, 35, 36] (by decide +kernel) (by decide +kernel)
set_option maxRecDepth 20000 in
theorem gX2_readPair_J6_bitCount_0f7a4 : GoodIn wsX2_readPair (va_wsS RX2 59 yJ6_bitCount_0f7a4 wsJ6_bitCount_0f7a4) := goodIn_app (goodIn_of _ (by decide +kernel)) ggX2_readPair_J6_bitCount_0f7a4
set_option maxRecDepth 20000 in
theorem ggX2_readPair_X1_feeds : GoodIn wsX2_readPair wsX1_feeds := goodIn_r _ [23, 24, 25, 26, 27, 37, 38, 39, 40, 41, 42, 43] (by decide +kernel) (by decide +kernel)
set_option maxRecDepth 20000 in
theorem gX2_readPair_X1_feeds_n64 : GoodIn wsX2_readPair (wsX1_feeds) := ggX2_readPair_X1_feeds
set_option maxRecDepth 20000 in
theorem ggX2_readPair_X3_pair : GoodIn wsX2_readPair wsX3_pair := goodIn_r _ [27] (by decide +kernel) (by decide +kernel)
set_option maxRecDepth 20000 in
theorem gX2_readPair_X3_pair_n72 : GoodIn wsX2_readPair (wsX3_pair) := ggX2_readPair_X3_pair
theorem dX2_readPair_0 : decode cX2_readPair 0 = .ok (.aload_n 0, 1) := by decide +kernel
theorem dX2_readPair_1 : decode cX2_readPair 1 = .ok (.iload_n 1, 1) := by decide +kernel
theorem dX2_readPair_2 : decode cX2_readPair 2 = .ok (.invokevirtual 45, 3) := by decide +kernel
theorem dX2_readPair_5 : decode cX2_readPair 5 = .ok (.istore_n 3, 1) := by decide +kernel
theorem dX2_readPair_6 : decode cX2_readPair 6 = .ok (.aload_n 2, 1) := by decide +kernel
theorem dX2_readPair_7 : decode cX2_readPair 7 = .ok (.iload_n 3, 1) := by decide +kernel
theorem dX2_readPair_8 : decode cX2_readPair 8 = .ok (.invokevirtual 52, 3) := by decide +kernel
theorem dX2_readPair_11 : decode cX2_readPair 11 = .ok (.ifCond .eq 20, 3) := by decide +kernel
theorem dX2_readPair_14 : decode cX2_readPair 14 = .ok (.aload_n 2, 1) := by decide +kernel
theorem dX2_readPair_15 : decode cX2_readPair 15 = .ok (.iload_n 3, 1) := by decide +kernel
theorem dX2_readPair_16 : decode cX2_readPair 16 = .ok (.invokevirtual 56, 3) := by decide +kernel
theorem dX2_readPair_19 : decode cX2_readPair 19 = .ok (.invokestatic 59, 3) := by decide +kernel
theorem dX2_readPair_22 : decode cX2_readPair 22 = .ok (.aload_n 2, 1) := by decide +kernel
theorem dX2_readPair_23 : decode cX2_readPair 23 = .ok (.getfield 32, 3) := by decide +kernel
theorem dX2_readPair_26 : decode cX2_readPair 26 = .ok (.iconst 1, 1) := by decide +kernel
theorem dX2_readPair_27 : decode cX2_readPair 27 = .ok (.isub, 1) := by decide +kernel
theorem dX2_readPair_28 : decode cX2_readPair 28 = .ok (.if_icmp .lt 5, 3) := by decide +kernel
theorem dX2_readPair_31 : decode cX2_readPair 31 = .ok (.iload_n 1, 1) := by decide +kernel
theorem dX2_readPair_32 : decode cX2_readPair 32 = .ok (.ireturn, 1) := by decide +kernel
theorem dX2_readPair_33 : decode cX2_readPair 33 = .ok (.aload_n 0, 1) := by decide +kernel
theorem dX2_readPair_34 : decode cX2_readPair 34 = .ok (.iload_n 1, 1) := by decide +kernel
theorem dX2_readPair_35 : decode cX2_readPair 35 = .ok (.iconst 1, 1) := by decide +kernel
theorem dX2_readPair_36 : decode cX2_readPair 36 = .ok (.iadd, 1) := by decide +kernel
theorem dX2_readPair_37 : decode cX2_readPair 37 = .ok (.invokevirtual 45, 3) := by decide +kernel
theorem dX2_readPair_40 : decode cX2_readPair 40 = .ok (.istore 4, 2) := by decide +kernel
theorem dX2_readPair_42 : decode cX2_readPair 42 = .ok (.aload_n 2, 1) := by decide +kernel
theorem dX2_readPair_43 : decode cX2_readPair 43 = .ok (.iload 4, 2) := by decide +kernel
theorem dX2_readPair_45 : decode cX2_readPair 45 = .ok (.invokevirtual 52, 3) := by decide +kernel
theorem dX2_readPair_48 : decode cX2_readPair 48 = .ok (.ifCond .eq 19, 3) := by decide +kernel
theorem dX2_readPair_51 : decode cX2_readPair 51 = .ok (.iload_n 3, 1) := by decide +kernel
theorem dX2_readPair_52 : decode cX2_readPair 52 = .ok (.iload 4, 2) := by decide +kernel
theorem dX2_readPair_54 : decode cX2_readPair 54 = .ok (.if_icmp .eq 13, 3) := by decide +kernel
theorem dX2_readPair_57 : decode cX2_readPair 57 = .ok (.aload_n 2, 1) := by decide +kernel
theorem dX2_readPair_58 : decode cX2_readPair 58 = .ok (.iload_n 3, 1) := by decide +kernel
theorem dX2_readPair_59 : decode cX2_readPair 59 = .ok (.iload 4, 2) := by decide +kernel
theorem dX2_readPair_61 : decode cX2_readPair 61 = .ok (.invokevirtual 64, 3) := by decide +kernel
theorem dX2_readPair_64 : decode cX2_readPair 64 = .ok (.ifCond .eq 7, 3) := by decide +kernel
theorem dX2_readPair_67 : decode cX2_readPair 67 = .ok (.iload_n 1, 1) := by decide +kernel
theorem dX2_readPair_68 : decode cX2_readPair 68 = .ok (.iconst 1, 1) := by decide +kernel
theorem dX2_readPair_69 : decode cX2_readPair 69 = .ok (.iadd, 1) := by decide +kernel
theorem dX2_readPair_70 : decode cX2_readPair 70 = .ok (.ireturn, 1) := by decide +kernel
theorem dX2_readPair_71 : decode cX2_readPair 71 = .ok (.aload_n 2, 1) := by decide +kernel
theorem dX2_readPair_72 : decode cX2_readPair 72 = .ok (.dup, 1) := by decide +kernel
theorem dX2_readPair_73 : decode cX2_readPair 73 = .ok (.getfield 68, 3) := by decide +kernel
theorem dX2_readPair_76 : decode cX2_readPair 76 = .ok (.iload_n 3, 1) := by decide +kernel
theorem dX2_readPair_77 : decode cX2_readPair 77 = .ok (.iload 4, 2) := by decide +kernel
theorem dX2_readPair_79 : decode cX2_readPair 79 = .ok (.invokestatic 72, 3) := by decide +kernel
theorem dX2_readPair_82 : decode cX2_readPair 82 = .ok (.lor, 1) := by decide +kernel
theorem dX2_readPair_83 : decode cX2_readPair 83 = .ok (.putfield 68, 3) := by decide +kernel
theorem dX2_readPair_86 : decode cX2_readPair 86 = .ok (.bipush (-9), 2) := by decide +kernel
theorem dX2_readPair_88 : decode cX2_readPair 88 = .ok (.ireturn, 1) := by decide +kernel
theorem dX2_byteAt_0 : decode cX2_byteAt 0 = .ok (.iload_n 1, 1) := by decide +kernel
theorem dX2_byteAt_1 : decode cX2_byteAt 1 = .ok (.ifCond .lt 26, 3) := by decide +kernel
theorem dX2_byteAt_4 : decode cX2_byteAt 4 = .ok (.iload_n 1, 1) := by decide +kernel
theorem dX2_byteAt_5 : decode cX2_byteAt 5 = .ok (.aload_n 0, 1) := by decide +kernel
theorem dX2_byteAt_6 : decode cX2_byteAt 6 = .ok (.getfield 15, 3) := by decide +kernel
theorem dX2_byteAt_9 : decode cX2_byteAt 9 = .ok (.if_icmp .ge 18, 3) := by decide +kernel
theorem dX2_byteAt_12 : decode cX2_byteAt 12 = .ok (.iload_n 1, 1) := by decide +kernel
theorem dX2_byteAt_13 : decode cX2_byteAt 13 = .ok (.bipush 48, 2) := by decide +kernel
theorem dX2_byteAt_15 : decode cX2_byteAt 15 = .ok (.if_icmp .ge 12, 3) := by decide +kernel
theorem dX2_byteAt_18 : decode cX2_byteAt 18 = .ok (.aload_n 0, 1) := by decide +kernel
theorem dX2_byteAt_19 : decode cX2_byteAt 19 = .ok (.getfield 9, 3) := by decide +kernel
theorem dX2_byteAt_22 : decode cX2_byteAt 22 = .ok (.iload_n 1, 1) := by decide +kernel
theorem dX2_byteAt_23 : decode cX2_byteAt 23 = .ok (.iaload, 1) := by decide +kernel
theorem dX2_byteAt_24 : decode cX2_byteAt 24 = .ok (.goto 5, 3) := by decide +kernel
theorem dX2_byteAt_27 : decode cX2_byteAt 27 = .ok (.bipush (-9), 2) := by decide +kernel
theorem dX2_byteAt_29 : decode cX2_byteAt 29 = .ok (.ireturn, 1) := by decide +kernel
set_option maxRecDepth 20000 in
theorem ggX2_figureAt_X2_byteAt : GoodIn wsX2_figureAt wsX2_byteAt := goodIn_r _ [5, 6, 7, 8, 9] (by decide +kernel) (by decide +kernel)
set_option maxRecDepth 20000 in
theorem gX2_figureAt_X2_byteAt : GoodIn wsX2_figureAt (wsV RX2 24 RX2 yX2_byteAt wsX2_byteAt) := goodIn_app (goodIn_of _ (by decide +kernel)) ggX2_figureAt_X2_byteAt
theorem dX2_figureAt_0 : decode cX2_figureAt 0 = .ok (.aload_n 0, 1) := by decide +kernel
theorem dX2_figureAt_1 : decode cX2_figureAt 1 = .ok (.iload_n 1, 1) := by decide +kernel
theorem dX2_figureAt_2 : decode cX2_figureAt 2 = .ok (.invokevirtual 24, 3) := by decide +kernel
theorem dX2_figureAt_5 : decode cX2_figureAt 5 = .ok (.istore_n 2, 1) := by decide +kernel
theorem dX2_figureAt_6 : decode cX2_figureAt 6 = .ok (.iload_n 2, 1) := by decide +kernel
theorem dX2_figureAt_7 : decode cX2_figureAt 7 = .ok (.bipush 48, 2) := by decide +kernel
theorem dX2_figureAt_9 : decode cX2_figureAt 9 = .ok (.if_icmp .lt 16, 3) := by decide +kernel
theorem dX2_figureAt_12 : decode cX2_figureAt 12 = .ok (.iload_n 2, 1) := by decide +kernel
theorem dX2_figureAt_13 : decode cX2_figureAt 13 = .ok (.bipush 57, 2) := by decide +kernel
theorem dX2_figureAt_15 : decode cX2_figureAt 15 = .ok (.if_icmp .gt 10, 3) := by decide +kernel
theorem dX2_figureAt_18 : decode cX2_figureAt 18 = .ok (.iload_n 2, 1) := by decide +kernel
theorem dX2_figureAt_19 : decode cX2_figureAt 19 = .ok (.bipush 48, 2) := by decide +kernel
theorem dX2_figureAt_21 : decode cX2_figureAt 21 = .ok (.isub, 1) := by decide +kernel
theorem dX2_figureAt_22 : decode cX2_figureAt 22 = .ok (.goto 5, 3) := by decide +kernel
theorem dX2_figureAt_25 : decode cX2_figureAt 25 = .ok (.bipush (-9), 2) := by decide +kernel
theorem dX2_figureAt_27 : decode cX2_figureAt 27 = .ok (.ireturn, 1) := by decide +kernel
set_option maxRecDepth 20000 in
theorem ggX3_init_X2_init : GoodIn wsX3_init wsX2_init := goodIn_r _ [23, 24, 2, 3, 18, 25, 34, 35] (by decide +kernel) (by decide +kernel)
set_option maxRecDepth 20000 in
theorem gX3_init_X2_init_n11 : GoodIn wsX3_init (wsX2_init) := ggX3_init_X2_init
set_option maxRecDepth 20000 in
theorem ggX3_init_X1_init : GoodIn wsX3_init wsX1_init := goodIn_r _ [27, 28, 2, 3] (by decide +kernel) (by decide +kernel)
set_option maxRecDepth 20000 in
theorem gX3_init_X1_init_n18 : GoodIn wsX3_init (wsX1_init) := ggX3_init_X1_init
set_option maxRecDepth 20000 in
theorem ggX3_init_X0_init : GoodIn wsX3_init wsX0_init := goodIn_r _ [30, 31, 2, 3, 32, 33, 9, 10, 26, 27, 28, 54, 55, 56, 47, 48, 49, 50, 51, 52, 53] (by decide +kernel) (by decide +kernel)
set_option maxRecDepth 20000 in
theorem gX3_init_X0_init_n28 : GoodIn wsX3_init (wsX0_init) := ggX3_init_X0_init
theorem dX3_init_0 : decode cX3_init 0 = .ok (.aload_n 0, 1) := by decide +kernel
theorem dX3_init_1 : decode cX3_init 1 = .ok (.invokespecial 3, 3) := by decide +kernel
theorem dX3_init_4 : decode cX3_init 4 = .ok (.aload_n 0, 1) := by decide +kernel
theorem dX3_init_5 : decode cX3_init 5 = .ok (.new 9, 3) := by decide +kernel
theorem dX3_init_8 : decode cX3_init 8 = .ok (.dup, 1) := by decide +kernel
theorem dX3_init_9 : decode cX3_init 9 = .ok (.invokespecial 11, 3) := by decide +kernel
theorem dX3_init_12 : decode cX3_init 12 = .ok (.putfield 12, 3) := by decide +kernel
theorem dX3_init_15 : decode cX3_init 15 = .ok (.aload_n 0, 1) := by decide +kernel
theorem dX3_init_16 : decode cX3_init 16 = .ok (.new 16, 3) := by decide +kernel
theorem dX3_init_19 : decode cX3_init 19 = .ok (.dup, 1) := by decide +kernel
theorem dX3_init_20 : decode cX3_init 20 = .ok (.invokespecial 18, 3) := by decide +kernel
theorem dX3_init_23 : decode cX3_init 23 = .ok (.putfield 19, 3) := by decide +kernel
theorem dX3_init_26 : decode cX3_init 26 = .ok (.aload_n 0, 1) := by decide +kernel
theorem dX3_init_27 : decode cX3_init 27 = .ok (.new 16, 3) := by decide +kernel
theorem dX3_init_30 : decode cX3_init 30 = .ok (.dup, 1) := by decide +kernel
theorem dX3_init_31 : decode cX3_init 31 = .ok (.invokespecial 18, 3) := by decide +kernel
theorem dX3_init_34 : decode cX3_init 34 = .ok (.putfield 23, 3) := by decide +kernel
theorem dX3_init_37 : decode cX3_init 37 = .ok (.aload_n 0, 1) := by decide +kernel
theorem dX3_init_38 : decode cX3_init 38 = .ok (.new 26, 3) := by decide +kernel
theorem dX3_init_41 : decode cX3_init 41 = .ok (.dup, 1) := by decide +kernel
theorem dX3_init_42 : decode cX3_init 42 = .ok (.invokespecial 28, 3) := by decide +kernel
theorem dX3_init_45 : decode cX3_init 45 = .ok (.putfield 29, 3) := by decide +kernel
theorem dX3_init_48 : decode cX3_init 48 = .ok (.aload_n 0, 1) := by decide +kernel
theorem dX3_init_49 : decode cX3_init 49 = .ok (.iconst 2, 1) := by decide +kernel
theorem dX3_init_50 : decode cX3_init 50 = .ok (.anewarray 16, 3) := by decide +kernel
theorem dX3_init_53 : decode cX3_init 53 = .ok (.putfield 33, 3) := by decide +kernel
theorem dX3_init_56 : decode cX3_init 56 = .ok (.iconst 0, 1) := by decide +kernel
theorem dX3_init_57 : decode cX3_init 57 = .ok (.istore_n 1, 1) := by decide +kernel
theorem dX3_init_58 : decode cX3_init 58 = .ok (.iload_n 1, 1) := by decide +kernel
theorem dX3_init_59 : decode cX3_init 59 = .ok (.iconst 2, 1) := by decide +kernel
theorem dX3_init_60 : decode cX3_init 60 = .ok (.if_icmp .ge 22, 3) := by decide +kernel
theorem dX3_init_63 : decode cX3_init 63 = .ok (.aload_n 0, 1) := by decide +kernel
theorem dX3_init_64 : decode cX3_init 64 = .ok (.getfield 33, 3) := by decide +kernel
theorem dX3_init_67 : decode cX3_init 67 = .ok (.iload_n 1, 1) := by decide +kernel
theorem dX3_init_68 : decode cX3_init 68 = .ok (.new 16, 3) := by decide +kernel
theorem dX3_init_71 : decode cX3_init 71 = .ok (.dup, 1) := by decide +kernel
theorem dX3_init_72 : decode cX3_init 72 = .ok (.invokespecial 18, 3) := by decide +kernel
theorem dX3_init_75 : decode cX3_init 75 = .ok (.aastore, 1) := by decide +kernel
theorem dX3_init_76 : decode cX3_init 76 = .ok (.iinc 1 1, 3) := by decide +kernel
theorem dX3_init_79 : decode cX3_init 79 = .ok (.goto (-21), 3) := by decide +kernel
theorem dX3_init_82 : decode cX3_init 82 = .ok (.aload_n 0, 1) := by decide +kernel
theorem dX3_init_83 : decode cX3_init 83 = .ok (.bipush 6, 2) := by decide +kernel
theorem dX3_init_85 : decode cX3_init 85 = .ok (.newarray .int, 2) := by decide +kernel
theorem dX3_init_87 : decode cX3_init 87 = .ok (.putfield 37, 3) := by decide +kernel
theorem dX3_init_90 : decode cX3_init 90 = .ok (.aload_n 0, 1) := by decide +kernel
theorem dX3_init_91 : decode cX3_init 91 = .ok (.bipush 64, 2) := by decide +kernel
theorem dX3_init_93 : decode cX3_init 93 = .ok (.newarray .int, 2) := by decide +kernel
theorem dX3_init_95 : decode cX3_init 95 = .ok (.putfield 41, 3) := by decide +kernel
theorem dX3_init_98 : decode cX3_init 98 = .ok (.aload_n 0, 1) := by decide +kernel
theorem dX3_init_99 : decode cX3_init 99 = .ok (.bipush 64, 2) := by decide +kernel
theorem dX3_init_101 : decode cX3_init 101 = .ok (.newarray .int, 2) := by decide +kernel
theorem dX3_init_103 : decode cX3_init 103 = .ok (.putfield 44, 3) := by decide +kernel
theorem dX3_init_106 : decode cX3_init 106 = .ok (.return_, 1) := by decide +kernel
set_option maxRecDepth 20000 in
theorem ggX3_write_X2_append : GoodIn wsX3_write wsX2_append := goodIn_r _ [5, 6, 7, 19, 20] (by decide +kernel) (by decide +kernel)
set_option maxRecDepth 20000 in
theorem gX3_write_X2_append_n47 : GoodIn wsX3_write (wsX2_append) := ggX3_write_X2_append
theorem dX3_write_0 : decode cX3_write 0 = .ok (.iload_n 1, 1) := by decide +kernel
theorem dX3_write_1 : decode cX3_write 1 = .ok (.ifCond .lt 10, 3) := by decide +kernel
theorem dX3_write_4 : decode cX3_write 4 = .ok (.iload_n 1, 1) := by decide +kernel
theorem dX3_write_5 : decode cX3_write 5 = .ok (.sipush 255, 3) := by decide +kernel
theorem dX3_write_8 : decode cX3_write 8 = .ok (.if_icmp .le 6, 3) := by decide +kernel
theorem dX3_write_11 : decode cX3_write 11 = .ok (.bipush (-2), 2) := by decide +kernel
theorem dX3_write_13 : decode cX3_write 13 = .ok (.ireturn, 1) := by decide +kernel
theorem dX3_write_14 : decode cX3_write 14 = .ok (.aload_n 0, 1) := by decide +kernel
theorem dX3_write_15 : decode cX3_write 15 = .ok (.getfield 12, 3) := by decide +kernel
theorem dX3_write_18 : decode cX3_write 18 = .ok (.iload_n 1, 1) := by decide +kernel
theorem dX3_write_19 : decode cX3_write 19 = .ok (.invokevirtual 47, 3) := by decide +kernel
theorem dX3_write_22 : decode cX3_write 22 = .ok (.ifCond .eq 13, 3) := by decide +kernel
theorem dX3_write_25 : decode cX3_write 25 = .ok (.aload_n 0, 1) := by decide +kernel
theorem dX3_write_26 : decode cX3_write 26 = .ok (.getfield 12, 3) := by decide +kernel
theorem dX3_write_29 : decode cX3_write 29 = .ok (.getfield 51, 3) := by decide +kernel
theorem dX3_write_32 : decode cX3_write 32 = .ok (.goto 5, 3) := by decide +kernel
theorem dX3_write_35 : decode cX3_write 35 = .ok (.bipush (-4), 2) := by decide +kernel
theorem dX3_write_37 : decode cX3_write 37 = .ok (.ireturn, 1) := by decide +kernel
theorem dX3_wipe_0 : decode cX3_wipe 0 = .ok (.aload_n 0, 1) := by decide +kernel
theorem dX3_wipe_1 : decode cX3_wipe 1 = .ok (.getfield 12, 3) := by decide +kernel
theorem dX3_wipe_4 : decode cX3_wipe 4 = .ok (.getfield 51, 3) := by decide +kernel
theorem dX3_wipe_7 : decode cX3_wipe 7 = .ok (.istore_n 1, 1) := by decide +kernel
theorem dX3_wipe_8 : decode cX3_wipe 8 = .ok (.aload_n 0, 1) := by decide +kernel
theorem dX3_wipe_9 : decode cX3_wipe 9 = .ok (.getfield 12, 3) := by decide +kernel
theorem dX3_wipe_12 : decode cX3_wipe 12 = .ok (.iconst 0, 1) := by decide +kernel
theorem dX3_wipe_13 : decode cX3_wipe 13 = .ok (.putfield 51, 3) := by decide +kernel
theorem dX3_wipe_16 : decode cX3_wipe 16 = .ok (.iload_n 1, 1) := by decide +kernel
theorem dX3_wipe_17 : decode cX3_wipe 17 = .ok (.ireturn, 1) := by decide +kernel
set_option maxRecDepth 20000 in
theorem ggX3_fault_X2_readInto : GoodIn wsX3_fault wsX2_readInto := goodIn_r _ [6, 7, 8, 9, 10, 11, 12, 13, 14, 15, 16, 17, 18, 19, 20, 21, 4, 22, 23, 24, 25, 26, 27, 28, 29, 30, 31, 32, 33, 34, 35, 36, 37, 38, 39, 40, 41, 42, 43, 44, 45, 46, 47, 48, 49, 50, 51, 52, 53, 54, 55, 56, 57, 58, 59, 60, 61, 62, 63, 64, 65, 66, 67, 68, 69, 70, 71, 72, 73, 74, 86, 87, 88, 89, 90, 91, 92, 93, 94] (by decide +kernel) (by decide +kernel)
set_option maxRecDepth 20000 in
theorem gX3_fault_X2_readInto_n55 : GoodIn wsX3_fault (wsX2_readInto) := ggX3_fault_X2_readInto
theorem dX3_fault_0 : decode cX3_fault 0 = .ok (.aload_n 0, 1) := by decide +kernel
theorem dX3_fault_1 : decode cX3_fault 1 = .ok (.getfield 12, 3) := by decide +kernel
theorem dX3_fault_4 : decode cX3_fault 4 = .ok (.aload_n 0, 1) := by decide +kernel
theorem dX3_fault_5 : decode cX3_fault 5 = .ok (.getfield 23, 3) := by decide +kernel
theorem dX3_fault_8 : decode cX3_fault 8 = .ok (.invokevirtual 55, 3) := by decide +kernel
theorem dX3_fault_11 : decode cX3_fault 11 = .ok (.ireturn, 1) := by decide +kernel
set_option maxRecDepth 20000 in
theorem ggX3_county_X2_readInto : GoodIn wsX3_county wsX2_readInto := goodIn_r _ [9, 10, 11, 12, 13, 14, 15, 16, 17, 18, 19, 20, 21, 22, 23, 24, 7, 25, 26, 27, 28, 29, 30, 31, 32, 33, 34, 35, 36, 37, 38, 39, 40, 41, 42, 43, 44, 45, 46, 47, 48, 49, 50, 51, 52, 53, 54, 55, 56, 57, 58, 59, 60, 61, 62, 63, 64, 65, 66, 67, 68, 69, 70, 71, 72, 73, 74, 75, 76, 77, 102, 103, 95, 96, 97, 98, 99, 100, 101] (by decide +kernel) (by decide +kernel)
set_option maxRecDepth 20000 in
theorem gX3_county_X2_readInto_n55 : GoodIn wsX3_county (wsX2_readInto) := ggX3_county_X2_readInto
set_option maxRecDepth 20000 in
theorem ggX3_county_X1_copy : GoodIn wsX3_county wsX1_copy := goodIn_r _ [80, 15, 16, 17, 18, 19, 20, 21, 95, 96, 97, 98, 99, 100, 101] (by decide +kernel) (by decide +kernel)
set_option maxRecDepth 20000 in
theorem gX3_county_X1_copy_n59 : GoodIn wsX3_county (wsX1_copy) := ggX3_county_X1_copy
theorem dX3_county_0 : decode cX3_county 0 = .ok (.aload_n 0, 1) := by decide +kernel
theorem dX3_county_1 : decode cX3_county 1 = .ok (.getfield 12, 3) := by decide +kernel
theorem dX3_county_4 : decode cX3_county 4 = .ok (.aload_n 0, 1) := by decide +kernel
theorem dX3_county_5 : decode cX3_county 5 = .ok (.getfield 23, 3) := by decide +kernel
theorem dX3_county_8 : decode cX3_county 8 = .ok (.invokevirtual 55, 3) := by decide +kernel
theorem dX3_county_11 : decode cX3_county 11 = .ok (.bipush (-9), 2) := by decide +kernel
theorem dX3_county_13 : decode cX3_county 13 = .ok (.if_icmp .eq 6, 3) := by decide +kernel
theorem dX3_county_16 : decode cX3_county 16 = .ok (.bipush (-3), 2) := by decide +kernel
theorem dX3_county_18 : decode cX3_county 18 = .ok (.ireturn, 1) := by decide +kernel
theorem dX3_county_19 : decode cX3_county 19 = .ok (.aload_n 0, 1) := by decide +kernel
theorem dX3_county_20 : decode cX3_county 20 = .ok (.getfield 19, 3) := by decide +kernel
theorem dX3_county_23 : decode cX3_county 23 = .ok (.aload_n 0, 1) := by decide +kernel
theorem dX3_county_24 : decode cX3_county 24 = .ok (.getfield 23, 3) := by decide +kernel
theorem dX3_county_27 : decode cX3_county 27 = .ok (.invokevirtual 59, 3) := by decide +kernel
theorem dX3_county_30 : decode cX3_county 30 = .ok (.aload_n 0, 1) := by decide +kernel
theorem dX3_county_31 : decode cX3_county 31 = .ok (.getfield 29, 3) := by decide +kernel
theorem dX3_county_34 : decode cX3_county 34 = .ok (.iconst 0, 1) := by decide +kernel
theorem dX3_county_35 : decode cX3_county 35 = .ok (.putfield 63, 3) := by decide +kernel
theorem dX3_county_38 : decode cX3_county 38 = .ok (.aload_n 0, 1) := by decide +kernel
theorem dX3_county_39 : decode cX3_county 39 = .ok (.iconst 0, 1) := by decide +kernel
theorem dX3_county_40 : decode cX3_county 40 = .ok (.putfield 66, 3) := by decide +kernel
theorem dX3_county_43 : decode cX3_county 43 = .ok (.aload_n 0, 1) := by decide +kernel
theorem dX3_county_44 : decode cX3_county 44 = .ok (.getfield 19, 3) := by decide +kernel
theorem dX3_county_47 : decode cX3_county 47 = .ok (.getfield 69, 3) := by decide +kernel
theorem dX3_county_50 : decode cX3_county 50 = .ok (.ireturn, 1) := by decide +kernel
set_option maxRecDepth 20000 in
theorem ggX3_about_X1_mayBeTaken : GoodIn wsX3_about wsX1_mayBeTaken := goodIn_r _ [8, 9, 10, 11, 12, 13, 14, 15, 6, 16, 17, 18, 19, 20, 21, 22, 23, 24, 25, 26, 27, 28, 29, 30, 31, 32, 33, 49, 50, 51, 52, 53, 54, 55] (by decide +kernel) (by decide +kernel)
set_option maxRecDepth 20000 in
theorem gX3_about_X1_mayBeTaken_n75 : GoodIn wsX3_about (wsX1_mayBeTaken) := ggX3_about_X1_mayBeTaken
set_option maxRecDepth 20000 in
theorem ggX3_about_X1_hiddenOnes : GoodIn wsX3_about wsX1_hiddenOnes := goodIn_r _ [36, 9, 37, 27, 28, 29, 6, 30, 31, 17, 18, 19, 20, 21, 32, 11, 33, 49, 50, 51, 52, 53, 54, 55] (by decide +kernel) (by decide +kernel)
set_option maxRecDepth 20000 in
theorem gX3_about_X1_hiddenOnes_n79 : GoodIn wsX3_about (wsX1_hiddenOnes) := ggX3_about_X1_hiddenOnes
theorem dX3_about_0 : decode cX3_about 0 = .ok (.iload_n 1, 1) := by decide +kernel
theorem dX3_about_1 : decode cX3_about 1 = .ok (.tableswitch 127 0 8 #[51, 59, 67, 82, 90, 98, 106, 114, 119], 51) := by decide +kernel
theorem dX3_about_52 : decode cX3_about 52 = .ok (.aload_n 0, 1) := by decide +kernel
theorem dX3_about_53 : decode cX3_about 53 = .ok (.getfield 19, 3) := by decide +kernel
theorem dX3_about_56 : decode cX3_about 56 = .ok (.getfield 69, 3) := by decide +kernel
theorem dX3_about_59 : decode cX3_about 59 = .ok (.ireturn, 1) := by decide +kernel
theorem dX3_about_60 : decode cX3_about 60 = .ok (.aload_n 0, 1) := by decide +kernel
theorem dX3_about_61 : decode cX3_about 61 = .ok (.getfield 19, 3) := by decide +kernel
theorem dX3_about_64 : decode cX3_about 64 = .ok (.getfield 72, 3) := by decide +kernel
theorem dX3_about_67 : decode cX3_about 67 = .ok (.ireturn, 1) := by decide +kernel
theorem dX3_about_68 : decode cX3_about 68 = .ok (.aload_n 0, 1) := by decide +kernel
theorem dX3_about_69 : decode cX3_about 69 = .ok (.getfield 19, 3) := by decide +kernel
theorem dX3_about_72 : decode cX3_about 72 = .ok (.aload_n 0, 1) := by decide +kernel
theorem dX3_about_73 : decode cX3_about 73 = .ok (.getfield 19, 3) := by decide +kernel
theorem dX3_about_76 : decode cX3_about 76 = .ok (.getfield 72, 3) := by decide +kernel
theorem dX3_about_79 : decode cX3_about 79 = .ok (.invokevirtual 75, 3) := by decide +kernel
theorem dX3_about_82 : decode cX3_about 82 = .ok (.ireturn, 1) := by decide +kernel
theorem dX3_about_83 : decode cX3_about 83 = .ok (.aload_n 0, 1) := by decide +kernel
theorem dX3_about_84 : decode cX3_about 84 = .ok (.getfield 19, 3) := by decide +kernel
theorem dX3_about_87 : decode cX3_about 87 = .ok (.invokevirtual 79, 3) := by decide +kernel
theorem dX3_about_90 : decode cX3_about 90 = .ok (.ireturn, 1) := by decide +kernel
theorem dX3_about_91 : decode cX3_about 91 = .ok (.aload_n 0, 1) := by decide +kernel
theorem dX3_about_92 : decode cX3_about 92 = .ok (.getfield 19, 3) := by decide +kernel
theorem dX3_about_95 : decode cX3_about 95 = .ok (.getfield 83, 3) := by decide +kernel
theorem dX3_about_98 : decode cX3_about 98 = .ok (.ireturn, 1) := by decide +kernel
theorem dX3_about_99 : decode cX3_about 99 = .ok (.aload_n 0, 1) := by decide +kernel
theorem dX3_about_100 : decode cX3_about 100 = .ok (.getfield 19, 3) := by decide +kernel
theorem dX3_about_103 : decode cX3_about 103 = .ok (.getfield 86, 3) := by decide +kernel
theorem dX3_about_106 : decode cX3_about 106 = .ok (.ireturn, 1) := by decide +kernel
theorem dX3_about_107 : decode cX3_about 107 = .ok (.aload_n 0, 1) := by decide +kernel
theorem dX3_about_108 : decode cX3_about 108 = .ok (.getfield 29, 3) := by decide +kernel
theorem dX3_about_111 : decode cX3_about 111 = .ok (.getfield 63, 3) := by decide +kernel
theorem dX3_about_114 : decode cX3_about 114 = .ok (.ireturn, 1) := by decide +kernel
theorem dX3_about_115 : decode cX3_about 115 = .ok (.aload_n 0, 1) := by decide +kernel
theorem dX3_about_116 : decode cX3_about 116 = .ok (.getfield 89, 3) := by decide +kernel
theorem dX3_about_119 : decode cX3_about 119 = .ok (.ireturn, 1) := by decide +kernel
theorem dX3_about_120 : decode cX3_about 120 = .ok (.aload_n 0, 1) := by decide +kernel
theorem dX3_about_121 : decode cX3_about 121 = .ok (.getfield 12, 3) := by decide +kernel
theorem dX3_about_124 : decode cX3_about 124 = .ok (.getfield 51, 3) := by decide +kernel
theorem dX3_about_127 : decode cX3_about 127 = .ok (.ireturn, 1) := by decide +kernel
theorem dX3_about_128 : decode cX3_about 128 = .ok (.bipush (-2), 2) := by decide +kernel
theorem dX3_about_130 : decode cX3_about 130 = .ok (.ireturn, 1) := by decide +kernel
set_option maxRecDepth 20000 in
theorem ggX3_person_X1_has : GoodIn wsX3_person wsX1_has := goodIn_r _ [5, 6, 44, 45, 46, 47, 48, 49, 50] (by decide +kernel) (by decide +kernel)
set_option maxRecDepth 20000 in
theorem gX3_person_X1_has_n92 : GoodIn wsX3_person (wsX1_has) := ggX3_person_X1_has
set_option maxRecDepth 20000 in
theorem ggX3_person_X1_deedOf : GoodIn wsX3_person wsX1_deedOf := goodIn_r _ [9, 10, 44, 45, 46, 47, 48, 49, 50] (by decide +kernel) (by decide +kernel)
set_option maxRecDepth 20000 in
theorem gX3_person_X1_deedOf_n95 : GoodIn wsX3_person (wsX1_deedOf) := ggX3_person_X1_deedOf
set_option maxRecDepth 20000 in
theorem ggX3_person_X1_kindOf : GoodIn wsX3_person wsX1_kindOf := goodIn_r _ [13, 14, 44, 45, 46, 47, 48, 49, 50] (by decide +kernel) (by decide +kernel)
set_option maxRecDepth 20000 in
theorem gX3_person_X1_kindOf_n98 : GoodIn wsX3_person (wsX1_kindOf) := ggX3_person_X1_kindOf
set_option maxRecDepth 20000 in
theorem ggX3_person_X1_gradeOf : GoodIn wsX3_person wsX1_gradeOf := goodIn_r _ [17, 18, 11, 12, 3, 13, 14, 19, 7, 8, 9, 10, 44, 45, 46, 47, 48, 49, 50] (by decide +kernel) (by decide +kernel)
set_option maxRecDepth 20000 in
theorem gX3_person_X1_gradeOf_n101 : GoodIn wsX3_person (wsX1_gradeOf) := ggX3_person_X1_gradeOf
set_option maxRecDepth 20000 in
theorem ggX3_person_X1_whomFeeds : GoodIn wsX3_person wsX1_whomFeeds := goodIn_r _ [22, 6, 23, 24, 25, 3, 26, 27, 28, 29, 30, 31, 32, 44, 45, 46, 47, 48, 49, 50] (by decide +kernel) (by decide +kernel)
set_option maxRecDepth 20000 in
theorem gX3_person_X1_whomFeeds_n104 : GoodIn wsX3_person (wsX1_whomFeeds) := ggX3_person_X1_whomFeeds
theorem dX3_person_0 : decode cX3_person 0 = .ok (.aload_n 0, 1) := by decide +kernel
theorem dX3_person_1 : decode cX3_person 1 = .ok (.getfield 19, 3) := by decide +kernel
theorem dX3_person_4 : decode cX3_person 4 = .ok (.iload_n 1, 1) := by decide +kernel
theorem dX3_person_5 : decode cX3_person 5 = .ok (.invokevirtual 92, 3) := by decide +kernel
theorem dX3_person_8 : decode cX3_person 8 = .ok (.ifCond .ne 5, 3) := by decide +kernel
theorem dX3_person_11 : decode cX3_person 11 = .ok (.iconst (-1), 1) := by decide +kernel
theorem dX3_person_12 : decode cX3_person 12 = .ok (.ireturn, 1) := by decide +kernel
theorem dX3_person_13 : decode cX3_person 13 = .ok (.iload_n 2, 1) := by decide +kernel
theorem dX3_person_14 : decode cX3_person 14 = .ok (.tableswitch 66 0 3 #[30, 39, 48, 57], 30) := by decide +kernel
theorem dX3_person_44 : decode cX3_person 44 = .ok (.aload_n 0, 1) := by decide +kernel
theorem dX3_person_45 : decode cX3_person 45 = .ok (.getfield 19, 3) := by decide +kernel
theorem dX3_person_48 : decode cX3_person 48 = .ok (.iload_n 1, 1) := by decide +kernel
theorem dX3_person_49 : decode cX3_person 49 = .ok (.invokevirtual 95, 3) := by decide +kernel
theorem dX3_person_52 : decode cX3_person 52 = .ok (.ireturn, 1) := by decide +kernel
theorem dX3_person_53 : decode cX3_person 53 = .ok (.aload_n 0, 1) := by decide +kernel
theorem dX3_person_54 : decode cX3_person 54 = .ok (.getfield 19, 3) := by decide +kernel
theorem dX3_person_57 : decode cX3_person 57 = .ok (.iload_n 1, 1) := by decide +kernel
theorem dX3_person_58 : decode cX3_person 58 = .ok (.invokevirtual 98, 3) := by decide +kernel
theorem dX3_person_61 : decode cX3_person 61 = .ok (.ireturn, 1) := by decide +kernel
theorem dX3_person_62 : decode cX3_person 62 = .ok (.aload_n 0, 1) := by decide +kernel
theorem dX3_person_63 : decode cX3_person 63 = .ok (.getfield 19, 3) := by decide +kernel
theorem dX3_person_66 : decode cX3_person 66 = .ok (.iload_n 1, 1) := by decide +kernel
theorem dX3_person_67 : decode cX3_person 67 = .ok (.invokevirtual 101, 3) := by decide +kernel
theorem dX3_person_70 : decode cX3_person 70 = .ok (.ireturn, 1) := by decide +kernel
theorem dX3_person_71 : decode cX3_person 71 = .ok (.aload_n 0, 1) := by decide +kernel
theorem dX3_person_72 : decode cX3_person 72 = .ok (.getfield 19, 3) := by decide +kernel
theorem dX3_person_75 : decode cX3_person 75 = .ok (.iload_n 1, 1) := by decide +kernel
theorem dX3_person_76 : decode cX3_person 76 = .ok (.invokevirtual 104, 3) := by decide +kernel
theorem dX3_person_79 : decode cX3_person 79 = .ok (.ireturn, 1) := by decide +kernel
theorem dX3_person_80 : decode cX3_person 80 = .ok (.bipush (-2), 2) := by decide +kernel
theorem dX3_person_82 : decode cX3_person 82 = .ok (.ireturn, 1) := by decide +kernel
set_option maxRecDepth 20000 in
theorem ggX3_take_X1_has : GoodIn wsX3_take wsX1_has := goodIn_r _ [6, 7, 70, 71, 72, 73, 74, 75, 76] (by decide +kernel) (by decide +kernel)
set_option maxRecDepth 20000 in
theorem gX3_take_X1_has_n92 : GoodIn wsX3_take (wsX1_has) := ggX3_take_X1_has
set_option maxRecDepth 20000 in
theorem ggX3_take_X1_mayBeTaken : GoodIn wsX3_take wsX1_mayBeTaken := goodIn_r _ [10, 7, 11, 12, 13, 14, 15, 16, 4, 17, 18, 19, 20, 21, 22, 23, 24, 25, 26, 27, 28, 29, 30, 31, 32, 33, 34, 70, 71, 72, 73, 74, 75, 76] (by decide +kernel) (by decide +kernel)
set_option maxRecDepth 20000 in
theorem gX3_take_X1_mayBeTaken_n75 : GoodIn wsX3_take (wsX1_mayBeTaken) := ggX3_take_X1_mayBeTaken
set_option maxRecDepth 20000 in
theorem ggX3_take_X3_isIn : GoodIn wsX3_take wsX3_isIn := goodIn_r _ [13] (by decide +kernel) (by decide +kernel)
set_option maxRecDepth 20000 in
theorem gX3_take_X3_isIn : GoodIn wsX3_take (va_wsS RX3 107 yX3_isIn wsX3_isIn) := goodIn_app (goodIn_of _ (by decide +kernel)) ggX3_take_X3_isIn
set_option maxRecDepth 20000 in
theorem ggX3_take_X0_remember : GoodIn wsX3_take wsX0_remember := goodIn_r _ [39, 40, 41, 42, 43, 4, 44, 45, 7, 22, 27, 32, 46, 47, 48, 77, 78, 79, 70, 71, 72, 73, 74, 75, 76] (by decide +kernel) (by decide +kernel)
set_option maxRecDepth 20000 in
theorem gX3_take_X0_remember_n111 : GoodIn wsX3_take (wsX0_remember) := ggX3_take_X0_remember
set_option maxRecDepth 20000 in
theorem ggX3_take_X3_without : GoodIn wsX3_take wsX3_without := goodIn_r _ [51] (by decide +kernel) (by decide +kernel)
set_option maxRecDepth 20000 in
theorem gX3_take_X3_without : GoodIn wsX3_take (va_wsS RX3 114 yX3_without wsX3_without) := goodIn_app (goodIn_of _ (by decide +kernel)) ggX3_take_X3_without
set_option maxRecDepth 20000 in
theorem ggX3_take_J6_bitCount_0f7a4 : GoodIn wsX3_take wsJ6_bitCount_0f7a4 := goodIn_r _ [55, 56, 57, 58] (by decide +kernel) (by decide +kernel)
set_option maxRecDepth 20000 in
theorem gX3_take_J6_bitCount_0f7a4 : GoodIn wsX3_take (va_wsS RX3 118 yJ6_bitCount_0f7a4 wsJ6_bitCount_0f7a4) := goodIn_app (goodIn_of _ (by decide +kernel)) ggX3_take_J6_bitCount_0f7a4
theorem dX3_take_0 : decode cX3_take 0 = .ok (.aload_n 0, 1) := by decide +kernel
theorem dX3_take_1 : decode cX3_take 1 = .ok (.getfield 19, 3) := by decide +kernel
theorem dX3_take_4 : decode cX3_take 4 = .ok (.iload_n 1, 1) := by decide +kernel
theorem dX3_take_5 : decode cX3_take 5 = .ok (.invokevirtual 92, 3) := by decide +kernel
theorem dX3_take_8 : decode cX3_take 8 = .ok (.ifCond .ne 5, 3) := by decide +kernel
theorem dX3_take_11 : decode cX3_take 11 = .ok (.iconst (-1), 1) := by decide +kernel
theorem dX3_take_12 : decode cX3_take 12 = .ok (.ireturn, 1) := by decide +kernel
theorem dX3_take_13 : decode cX3_take 13 = .ok (.aload_n 0, 1) := by decide +kernel
theorem dX3_take_14 : decode cX3_take 14 = .ok (.getfield 19, 3) := by decide +kernel
theorem dX3_take_17 : decode cX3_take 17 = .ok (.aload_n 0, 1) := by decide +kernel
theorem dX3_take_18 : decode cX3_take 18 = .ok (.getfield 19, 3) := by decide +kernel
theorem dX3_take_21 : decode cX3_take 21 = .ok (.getfield 72, 3) := by decide +kernel
theorem dX3_take_24 : decode cX3_take 24 = .ok (.invokevirtual 75, 3) := by decide +kernel
theorem dX3_take_27 : decode cX3_take 27 = .ok (.iload_n 1, 1) := by decide +kernel
theorem dX3_take_28 : decode cX3_take 28 = .ok (.invokestatic 107, 3) := by decide +kernel
theorem dX3_take_31 : decode cX3_take 31 = .ok (.ifCond .ne 6, 3) := by decide +kernel
theorem dX3_take_34 : decode cX3_take 34 = .ok (.bipush (-3), 2) := by decide +kernel
theorem dX3_take_36 : decode cX3_take 36 = .ok (.ireturn, 1) := by decide +kernel
theorem dX3_take_37 : decode cX3_take 37 = .ok (.aload_n 0, 1) := by decide +kernel
theorem dX3_take_38 : decode cX3_take 38 = .ok (.getfield 29, 3) := by decide +kernel
theorem dX3_take_41 : decode cX3_take 41 = .ok (.aload_n 0, 1) := by decide +kernel
theorem dX3_take_42 : decode cX3_take 42 = .ok (.getfield 19, 3) := by decide +kernel
theorem dX3_take_45 : decode cX3_take 45 = .ok (.invokevirtual 111, 3) := by decide +kernel
theorem dX3_take_48 : decode cX3_take 48 = .ok (.aload_n 0, 1) := by decide +kernel
theorem dX3_take_49 : decode cX3_take 49 = .ok (.getfield 19, 3) := by decide +kernel
theorem dX3_take_52 : decode cX3_take 52 = .ok (.aload_n 0, 1) := by decide +kernel
theorem dX3_take_53 : decode cX3_take 53 = .ok (.getfield 19, 3) := by decide +kernel
theorem dX3_take_56 : decode cX3_take 56 = .ok (.getfield 72, 3) := by decide +kernel
theorem dX3_take_59 : decode cX3_take 59 = .ok (.iload_n 1, 1) := by decide +kernel
theorem dX3_take_60 : decode cX3_take 60 = .ok (.invokestatic 114, 3) := by decide +kernel
theorem dX3_take_63 : decode cX3_take 63 = .ok (.putfield 72, 3) := by decide +kernel
theorem dX3_take_66 : decode cX3_take 66 = .ok (.aload_n 0, 1) := by decide +kernel
theorem dX3_take_67 : decode cX3_take 67 = .ok (.getfield 19, 3) := by decide +kernel
theorem dX3_take_70 : decode cX3_take 70 = .ok (.getfield 72, 3) := by decide +kernel
theorem dX3_take_73 : decode cX3_take 73 = .ok (.invokestatic 118, 3) := by decide +kernel
theorem dX3_take_76 : decode cX3_take 76 = .ok (.ireturn, 1) := by decide +kernel
set_option maxRecDepth 20000 in
theorem ggX3_free_X1_has : GoodIn wsX3_free wsX1_has := goodIn_r _ [6, 7, 49, 50, 51, 52, 53, 54, 55] (by decide +kernel) (by decide +kernel)
set_option maxRecDepth 20000 in
theorem gX3_free_X1_has_n92 : GoodIn wsX3_free (wsX1_has) := ggX3_free_X1_has
set_option maxRecDepth 20000 in
theorem ggX3_free_X3_isIn : GoodIn wsX3_free wsX3_isIn := goodIn_r _ [11] (by decide +kernel) (by decide +kernel)
set_option maxRecDepth 20000 in
theorem gX3_free_X3_isIn : GoodIn wsX3_free (va_wsS RX3 107 yX3_isIn wsX3_isIn) := goodIn_app (goodIn_of _ (by decide +kernel)) ggX3_free_X3_isIn
set_option maxRecDepth 20000 in
theorem ggX3_free_X0_remember : GoodIn wsX3_free wsX0_remember := goodIn_r _ [15, 16, 17, 18, 19, 4, 20, 21, 7, 22, 23, 24, 25, 26, 27, 56, 57, 58, 49, 50, 51, 52, 53, 54, 55] (by decide +kernel) (by decide +kernel)
set_option maxRecDepth 20000 in
theorem gX3_free_X0_remember_n111 : GoodIn wsX3_free (wsX0_remember) := ggX3_free_X0_remember
set_option maxRecDepth 20000 in
theorem ggX3_free_X3_bit : GoodIn wsX3_free wsX3_bit := goodIn_r _ [30] (by decide +kernel) (by decide +kernel)
set_option maxRecDepth 20000 in
theorem gX3_free_X3_bit : GoodIn wsX3_free (va_wsS RX3 123 yX3_bit wsX3_bit) := goodIn_app (goodIn_of _ (by decide +kernel)) ggX3_free_X3_bit
set_option maxRecDepth 20000 in
theorem ggX3_free_J6_bitCount_0f7a4 : GoodIn wsX3_free wsJ6_bitCount_0f7a4 := goodIn_r _ [34, 35, 36, 37] (by decide +kernel) (by decide +kernel)
set_option maxRecDepth 20000 in
theorem gX3_free_J6_bitCount_0f7a4 : GoodIn wsX3_free (va_wsS RX3 118 yJ6_bitCount_0f7a4 wsJ6_bitCount_0f7a4) := goodIn_app (goodIn_of _ (by decide +kernel)) ggX3_free_J6_bitCount_0f7a4
theorem dX3_free_0 : decode cX3_free 0 = .ok (.aload_n 0, 1) := by decide +kernel
theorem dX3_free_1 : decode cX3_free 1 = .ok (.getfield 19, 3) := by decide +kernel
theorem dX3_free_4 : decode cX3_free 4 = .ok (.iload_n 1, 1) := by decide +kernel
theorem dX3_free_5 : decode cX3_free 5 = .ok (.invokevirtual 92, 3) := by decide +kernel
theorem dX3_free_8 : decode cX3_free 8 = .ok (.ifCond .ne 5, 3) := by decide +kernel
theorem dX3_free_11 : decode cX3_free 11 = .ok (.iconst (-1), 1) := by decide +kernel
theorem dX3_free_12 : decode cX3_free 12 = .ok (.ireturn, 1) := by decide +kernel
theorem dX3_free_13 : decode cX3_free 13 = .ok (.aload_n 0, 1) := by decide +kernel
theorem dX3_free_14 : decode cX3_free 14 = .ok (.getfield 19, 3) := by decide +kernel
theorem dX3_free_17 : decode cX3_free 17 = .ok (.getfield 72, 3) := by decide +kernel
theorem dX3_free_20 : decode cX3_free 20 = .ok (.aload_n 0, 1) := by decide +kernel
theorem dX3_free_21 : decode cX3_free 21 = .ok (.getfield 19, 3) := by decide +kernel
theorem dX3_free_24 : decode cX3_free 24 = .ok (.getfield 83, 3) := by decide +kernel
theorem dX3_free_27 : decode cX3_free 27 = .ok (.ior, 1) := by decide +kernel
theorem dX3_free_28 : decode cX3_free 28 = .ok (.iload_n 1, 1) := by decide +kernel
theorem dX3_free_29 : decode cX3_free 29 = .ok (.invokestatic 107, 3) := by decide +kernel
theorem dX3_free_32 : decode cX3_free 32 = .ok (.ifCond .eq 6, 3) := by decide +kernel
theorem dX3_free_35 : decode cX3_free 35 = .ok (.bipush (-3), 2) := by decide +kernel
theorem dX3_free_37 : decode cX3_free 37 = .ok (.ireturn, 1) := by decide +kernel
theorem dX3_free_38 : decode cX3_free 38 = .ok (.aload_n 0, 1) := by decide +kernel
theorem dX3_free_39 : decode cX3_free 39 = .ok (.getfield 29, 3) := by decide +kernel
theorem dX3_free_42 : decode cX3_free 42 = .ok (.aload_n 0, 1) := by decide +kernel
theorem dX3_free_43 : decode cX3_free 43 = .ok (.getfield 19, 3) := by decide +kernel
theorem dX3_free_46 : decode cX3_free 46 = .ok (.invokevirtual 111, 3) := by decide +kernel
theorem dX3_free_49 : decode cX3_free 49 = .ok (.aload_n 0, 1) := by decide +kernel
theorem dX3_free_50 : decode cX3_free 50 = .ok (.getfield 19, 3) := by decide +kernel
theorem dX3_free_53 : decode cX3_free 53 = .ok (.dup, 1) := by decide +kernel
theorem dX3_free_54 : decode cX3_free 54 = .ok (.getfield 72, 3) := by decide +kernel
theorem dX3_free_57 : decode cX3_free 57 = .ok (.iload_n 1, 1) := by decide +kernel
theorem dX3_free_58 : decode cX3_free 58 = .ok (.invokestatic 123, 3) := by decide +kernel
theorem dX3_free_61 : decode cX3_free 61 = .ok (.ior, 1) := by decide +kernel
theorem dX3_free_62 : decode cX3_free 62 = .ok (.putfield 72, 3) := by decide +kernel
theorem dX3_free_65 : decode cX3_free 65 = .ok (.aload_n 0, 1) := by decide +kernel
theorem dX3_free_66 : decode cX3_free 66 = .ok (.getfield 19, 3) := by decide +kernel
theorem dX3_free_69 : decode cX3_free 69 = .ok (.getfield 72, 3) := by decide +kernel
theorem dX3_free_72 : decode cX3_free 72 = .ok (.invokestatic 118, 3) := by decide +kernel
theorem dX3_free_75 : decode cX3_free 75 = .ok (.ireturn, 1) := by decide +kernel
set_option maxRecDepth 20000 in
theorem ggX3_die_X1_has : GoodIn wsX3_die wsX1_has := goodIn_r _ [6, 7, 53, 54, 55, 56, 57, 58, 59] (by decide +kernel) (by decide +kernel)
set_option maxRecDepth 20000 in
theorem gX3_die_X1_has_n92 : GoodIn wsX3_die (wsX1_has) := ggX3_die_X1_has
set_option maxRecDepth 20000 in
theorem ggX3_die_X3_isIn : GoodIn wsX3_die wsX3_isIn := goodIn_r _ [11] (by decide +kernel) (by decide +kernel)
set_option maxRecDepth 20000 in
theorem gX3_die_X3_isIn : GoodIn wsX3_die (va_wsS RX3 107 yX3_isIn wsX3_isIn) := goodIn_app (goodIn_of _ (by decide +kernel)) ggX3_die_X3_isIn
set_option maxRecDepth 20000 in
theorem ggX3_die_X0_remember : GoodIn wsX3_die wsX0_remember := goodIn_r _ [15, 16, 17, 18, 19, 4, 20, 21, 7, 22, 23, 24, 25, 26, 27, 60, 61, 62, 53, 54, 55, 56, 57, 58, 59] (by decide +kernel) (by decide +kernel)
set_option maxRecDepth 20000 in
theorem gX3_die_X0_remember_n111 : GoodIn wsX3_die (wsX0_remember) := ggX3_die_X0_remember
set_option maxRecDepth 20000 in
theorem ggX3_die_X1_bury : GoodIn wsX3_die wsX1_bury := goodIn_r _ [30, 25, 26, 31, 10, 32, 33, 34, 53, 54, 55, 56, 57, 58, 59] (by decide +kernel) (by decide +kernel)
set_option maxRecDepth 20000 in
theorem gX3_die_X1_bury_n126 : GoodIn wsX3_die (wsX1_bury) := ggX3_die_X1_bury
set_option maxRecDepth 20000 in
theorem ggX3_die_J6_bitCount_0f7a4 : GoodIn wsX3_die wsJ6_bitCount_0f7a4 := goodIn_r _ [38, 39, 40, 41] (by decide +kernel) (by decide +kernel)
set_option maxRecDepth 20000 in
theorem gX3_die_J6_bitCount_0f7a4 : GoodIn wsX3_die (va_wsS RX3 118 yJ6_bitCount_0f7a4 wsJ6_bitCount_0f7a4) := goodIn_app (goodIn_of _ (by decide +kernel)) ggX3_die_J6_bitCount_0f7a4
theorem dX3_die_0 : decode cX3_die 0 = .ok (.aload_n 0, 1) := by decide +kernel
theorem dX3_die_1 : decode cX3_die 1 = .ok (.getfield 19, 3) := by decide +kernel
theorem dX3_die_4 : decode cX3_die 4 = .ok (.iload_n 1, 1) := by decide +kernel
theorem dX3_die_5 : decode cX3_die 5 = .ok (.invokevirtual 92, 3) := by decide +kernel
theorem dX3_die_8 : decode cX3_die 8 = .ok (.ifCond .ne 5, 3) := by decide +kernel
theorem dX3_die_11 : decode cX3_die 11 = .ok (.iconst (-1), 1) := by decide +kernel
theorem dX3_die_12 : decode cX3_die 12 = .ok (.ireturn, 1) := by decide +kernel
theorem dX3_die_13 : decode cX3_die 13 = .ok (.aload_n 0, 1) := by decide +kernel
theorem dX3_die_14 : decode cX3_die 14 = .ok (.getfield 19, 3) := by decide +kernel
theorem dX3_die_17 : decode cX3_die 17 = .ok (.getfield 83, 3) := by decide +kernel
theorem dX3_die_20 : decode cX3_die 20 = .ok (.iload_n 1, 1) := by decide +kernel
theorem dX3_die_21 : decode cX3_die 21 = .ok (.invokestatic 107, 3) := by decide +kernel
theorem dX3_die_24 : decode cX3_die 24 = .ok (.ifCond .eq 6, 3) := by decide +kernel
theorem dX3_die_27 : decode cX3_die 27 = .ok (.bipush (-3), 2) := by decide +kernel
theorem dX3_die_29 : decode cX3_die 29 = .ok (.ireturn, 1) := by decide +kernel
theorem dX3_die_30 : decode cX3_die 30 = .ok (.aload_n 0, 1) := by decide +kernel
theorem dX3_die_31 : decode cX3_die 31 = .ok (.getfield 29, 3) := by decide +kernel
theorem dX3_die_34 : decode cX3_die 34 = .ok (.aload_n 0, 1) := by decide +kernel
theorem dX3_die_35 : decode cX3_die 35 = .ok (.getfield 19, 3) := by decide +kernel
theorem dX3_die_38 : decode cX3_die 38 = .ok (.invokevirtual 111, 3) := by decide +kernel
theorem dX3_die_41 : decode cX3_die 41 = .ok (.aload_n 0, 1) := by decide +kernel
theorem dX3_die_42 : decode cX3_die 42 = .ok (.getfield 19, 3) := by decide +kernel
theorem dX3_die_45 : decode cX3_die 45 = .ok (.iload_n 1, 1) := by decide +kernel
theorem dX3_die_46 : decode cX3_die 46 = .ok (.invokevirtual 126, 3) := by decide +kernel
theorem dX3_die_49 : decode cX3_die 49 = .ok (.aload_n 0, 1) := by decide +kernel
theorem dX3_die_50 : decode cX3_die 50 = .ok (.getfield 19, 3) := by decide +kernel
theorem dX3_die_53 : decode cX3_die 53 = .ok (.getfield 72, 3) := by decide +kernel
theorem dX3_die_56 : decode cX3_die 56 = .ok (.invokestatic 118, 3) := by decide +kernel
theorem dX3_die_59 : decode cX3_die 59 = .ok (.ireturn, 1) := by decide +kernel
set_option maxRecDepth 20000 in
theorem ggX3_feed_X1_has : GoodIn wsX3_feed wsX1_has := goodIn_r _ [6, 7, 42, 43, 44, 45, 46, 47, 48] (by decide +kernel) (by decide +kernel)
set_option maxRecDepth 20000 in
theorem gX3_feed_X1_has_n92 : GoodIn wsX3_feed (wsX1_has) := ggX3_feed_X1_has
set_option maxRecDepth 20000 in
theorem ggX3_feed_X0_remember : GoodIn wsX3_feed wsX0_remember := goodIn_r _ [11, 12, 13, 14, 15, 4, 16, 17, 7, 18, 19, 20, 21, 22, 23, 49, 50, 51, 42, 43, 44, 45, 46, 47, 48] (by decide +kernel) (by decide +kernel)
set_option maxRecDepth 20000 in
theorem gX3_feed_X0_remember_n111 : GoodIn wsX3_feed (wsX0_remember) := ggX3_feed_X0_remember
set_option maxRecDepth 20000 in
theorem ggX3_feed_X3_pair : GoodIn wsX3_feed wsX3_pair := goodIn_r _ [27] (by decide +kernel) (by decide +kernel)
set_option maxRecDepth 20000 in
theorem gX3_feed_X3_pair : GoodIn wsX3_feed (va_wsS RX3 134 yX3_pair wsX3_pair) := goodIn_app (goodIn_of _ (by decide +kernel)) ggX3_feed_X3_pair
set_option maxRecDepth 20000 in
theorem ggX3_feed_X1_feeds : GoodIn wsX3_feed wsX1_feeds := goodIn_r _ [30, 20, 25, 26, 27, 42, 43, 44, 45, 46, 47, 48] (by decide +kernel) (by decide +kernel)
set_option maxRecDepth 20000 in
theorem gX3_feed_X1_feeds_n138 : GoodIn wsX3_feed (wsX1_feeds) := ggX3_feed_X1_feeds
theorem dX3_feed_0 : decode cX3_feed 0 = .ok (.aload_n 0, 1) := by decide +kernel
theorem dX3_feed_1 : decode cX3_feed 1 = .ok (.getfield 19, 3) := by decide +kernel
theorem dX3_feed_4 : decode cX3_feed 4 = .ok (.iload_n 1, 1) := by decide +kernel
theorem dX3_feed_5 : decode cX3_feed 5 = .ok (.invokevirtual 92, 3) := by decide +kernel
theorem dX3_feed_8 : decode cX3_feed 8 = .ok (.ifCond .eq 14, 3) := by decide +kernel
theorem dX3_feed_11 : decode cX3_feed 11 = .ok (.aload_n 0, 1) := by decide +kernel
theorem dX3_feed_12 : decode cX3_feed 12 = .ok (.getfield 19, 3) := by decide +kernel
theorem dX3_feed_15 : decode cX3_feed 15 = .ok (.iload_n 2, 1) := by decide +kernel
theorem dX3_feed_16 : decode cX3_feed 16 = .ok (.invokevirtual 92, 3) := by decide +kernel
theorem dX3_feed_19 : decode cX3_feed 19 = .ok (.ifCond .ne 5, 3) := by decide +kernel
theorem dX3_feed_22 : decode cX3_feed 22 = .ok (.iconst (-1), 1) := by decide +kernel
theorem dX3_feed_23 : decode cX3_feed 23 = .ok (.ireturn, 1) := by decide +kernel
theorem dX3_feed_24 : decode cX3_feed 24 = .ok (.iload_n 1, 1) := by decide +kernel
theorem dX3_feed_25 : decode cX3_feed 25 = .ok (.iload_n 2, 1) := by decide +kernel
theorem dX3_feed_26 : decode cX3_feed 26 = .ok (.if_icmp .ne 6, 3) := by decide +kernel
theorem dX3_feed_29 : decode cX3_feed 29 = .ok (.bipush (-2), 2) := by decide +kernel
theorem dX3_feed_31 : decode cX3_feed 31 = .ok (.ireturn, 1) := by decide +kernel
theorem dX3_feed_32 : decode cX3_feed 32 = .ok (.aload_n 0, 1) := by decide +kernel
theorem dX3_feed_33 : decode cX3_feed 33 = .ok (.getfield 29, 3) := by decide +kernel
theorem dX3_feed_36 : decode cX3_feed 36 = .ok (.aload_n 0, 1) := by decide +kernel
theorem dX3_feed_37 : decode cX3_feed 37 = .ok (.getfield 19, 3) := by decide +kernel
theorem dX3_feed_40 : decode cX3_feed 40 = .ok (.invokevirtual 111, 3) := by decide +kernel
theorem dX3_feed_43 : decode cX3_feed 43 = .ok (.aload_n 0, 1) := by decide +kernel
theorem dX3_feed_44 : decode cX3_feed 44 = .ok (.getfield 19, 3) := by decide +kernel
theorem dX3_feed_47 : decode cX3_feed 47 = .ok (.dup, 1) := by decide +kernel
theorem dX3_feed_48 : decode cX3_feed 48 = .ok (.getfield 130, 3) := by decide +kernel
theorem dX3_feed_51 : decode cX3_feed 51 = .ok (.iload_n 1, 1) := by decide +kernel
theorem dX3_feed_52 : decode cX3_feed 52 = .ok (.iload_n 2, 1) := by decide +kernel
theorem dX3_feed_53 : decode cX3_feed 53 = .ok (.invokestatic 134, 3) := by decide +kernel
theorem dX3_feed_56 : decode cX3_feed 56 = .ok (.lxor, 1) := by decide +kernel
theorem dX3_feed_57 : decode cX3_feed 57 = .ok (.putfield 130, 3) := by decide +kernel
theorem dX3_feed_60 : decode cX3_feed 60 = .ok (.aload_n 0, 1) := by decide +kernel
theorem dX3_feed_61 : decode cX3_feed 61 = .ok (.getfield 19, 3) := by decide +kernel
theorem dX3_feed_64 : decode cX3_feed 64 = .ok (.iload_n 1, 1) := by decide +kernel
theorem dX3_feed_65 : decode cX3_feed 65 = .ok (.iload_n 2, 1) := by decide +kernel
theorem dX3_feed_66 : decode cX3_feed 66 = .ok (.invokevirtual 138, 3) := by decide +kernel
theorem dX3_feed_69 : decode cX3_feed 69 = .ok (.ifCond .eq 7, 3) := by decide +kernel
theorem dX3_feed_72 : decode cX3_feed 72 = .ok (.iconst 1, 1) := by decide +kernel
theorem dX3_feed_73 : decode cX3_feed 73 = .ok (.goto 4, 3) := by decide +kernel
theorem dX3_feed_76 : decode cX3_feed 76 = .ok (.iconst 0, 1) := by decide +kernel
theorem dX3_feed_77 : decode cX3_feed 77 = .ok (.ireturn, 1) := by decide +kernel
set_option maxRecDepth 20000 in
theorem ggX3_grade_X1_has : GoodIn wsX3_grade wsX1_has := goodIn_r _ [6, 7, 41, 42, 43, 44, 45, 46, 47] (by decide +kernel) (by decide +kernel)
set_option maxRecDepth 20000 in
theorem gX3_grade_X1_has_n92 : GoodIn wsX3_grade (wsX1_has) := ggX3_grade_X1_has
set_option maxRecDepth 20000 in
theorem ggX3_grade_X1_deedOf : GoodIn wsX3_grade wsX1_deedOf := goodIn_r _ [10, 11, 41, 42, 43, 44, 45, 46, 47] (by decide +kernel) (by decide +kernel)
set_option maxRecDepth 20000 in
theorem gX3_grade_X1_deedOf_n95 : GoodIn wsX3_grade (wsX1_deedOf) := ggX3_grade_X1_deedOf
set_option maxRecDepth 20000 in
theorem ggX3_grade_X0_remember : GoodIn wsX3_grade wsX0_remember := goodIn_r _ [15, 16, 17, 18, 19, 4, 20, 21, 7, 22, 11, 23, 24, 25, 26, 48, 49, 50, 41, 42, 43, 44, 45, 46, 47] (by decide +kernel) (by decide +kernel)
set_option maxRecDepth 20000 in
theorem gX3_grade_X0_remember_n111 : GoodIn wsX3_grade (wsX0_remember) := ggX3_grade_X0_remember
set_option maxRecDepth 20000 in
theorem ggX3_grade_X1_setDeed : GoodIn wsX3_grade wsX1_setDeed := goodIn_r _ [29, 11, 41, 42, 43, 44, 45, 46, 47] (by decide +kernel) (by decide +kernel)
set_option maxRecDepth 20000 in
theorem gX3_grade_X1_setDeed_n141 : GoodIn wsX3_grade (wsX1_setDeed) := ggX3_grade_X1_setDeed
theorem dX3_grade_0 : decode cX3_grade 0 = .ok (.aload_n 0, 1) := by decide +kernel
theorem dX3_grade_1 : decode cX3_grade 1 = .ok (.getfield 19, 3) := by decide +kernel
theorem dX3_grade_4 : decode cX3_grade 4 = .ok (.iload_n 1, 1) := by decide +kernel
theorem dX3_grade_5 : decode cX3_grade 5 = .ok (.invokevirtual 92, 3) := by decide +kernel
theorem dX3_grade_8 : decode cX3_grade 8 = .ok (.ifCond .ne 5, 3) := by decide +kernel
theorem dX3_grade_11 : decode cX3_grade 11 = .ok (.iconst (-1), 1) := by decide +kernel
theorem dX3_grade_12 : decode cX3_grade 12 = .ok (.ireturn, 1) := by decide +kernel
theorem dX3_grade_13 : decode cX3_grade 13 = .ok (.iload_n 2, 1) := by decide +kernel
theorem dX3_grade_14 : decode cX3_grade 14 = .ok (.ifCond .lt 9, 3) := by decide +kernel
theorem dX3_grade_17 : decode cX3_grade 17 = .ok (.iload_n 2, 1) := by decide +kernel
theorem dX3_grade_18 : decode cX3_grade 18 = .ok (.bipush 10, 2) := by decide +kernel
theorem dX3_grade_20 : decode cX3_grade 20 = .ok (.if_icmp .lt 6, 3) := by decide +kernel
theorem dX3_grade_23 : decode cX3_grade 23 = .ok (.bipush (-2), 2) := by decide +kernel
theorem dX3_grade_25 : decode cX3_grade 25 = .ok (.ireturn, 1) := by decide +kernel
theorem dX3_grade_26 : decode cX3_grade 26 = .ok (.aload_n 0, 1) := by decide +kernel
theorem dX3_grade_27 : decode cX3_grade 27 = .ok (.getfield 19, 3) := by decide +kernel
theorem dX3_grade_30 : decode cX3_grade 30 = .ok (.iload_n 1, 1) := by decide +kernel
theorem dX3_grade_31 : decode cX3_grade 31 = .ok (.invokevirtual 95, 3) := by decide +kernel
theorem dX3_grade_34 : decode cX3_grade 34 = .ok (.istore_n 3, 1) := by decide +kernel
theorem dX3_grade_35 : decode cX3_grade 35 = .ok (.iload_n 2, 1) := by decide +kernel
theorem dX3_grade_36 : decode cX3_grade 36 = .ok (.iload_n 3, 1) := by decide +kernel
theorem dX3_grade_37 : decode cX3_grade 37 = .ok (.if_icmp .ne 6, 3) := by decide +kernel
theorem dX3_grade_40 : decode cX3_grade 40 = .ok (.bipush (-3), 2) := by decide +kernel
theorem dX3_grade_42 : decode cX3_grade 42 = .ok (.ireturn, 1) := by decide +kernel
theorem dX3_grade_43 : decode cX3_grade 43 = .ok (.aload_n 0, 1) := by decide +kernel
theorem dX3_grade_44 : decode cX3_grade 44 = .ok (.getfield 29, 3) := by decide +kernel
theorem dX3_grade_47 : decode cX3_grade 47 = .ok (.aload_n 0, 1) := by decide +kernel
theorem dX3_grade_48 : decode cX3_grade 48 = .ok (.getfield 19, 3) := by decide +kernel
theorem dX3_grade_51 : decode cX3_grade 51 = .ok (.invokevirtual 111, 3) := by decide +kernel
theorem dX3_grade_54 : decode cX3_grade 54 = .ok (.aload_n 0, 1) := by decide +kernel
theorem dX3_grade_55 : decode cX3_grade 55 = .ok (.getfield 19, 3) := by decide +kernel
theorem dX3_grade_58 : decode cX3_grade 58 = .ok (.iload_n 1, 1) := by decide +kernel
theorem dX3_grade_59 : decode cX3_grade 59 = .ok (.iload_n 2, 1) := by decide +kernel
theorem dX3_grade_60 : decode cX3_grade 60 = .ok (.invokevirtual 141, 3) := by decide +kernel
theorem dX3_grade_63 : decode cX3_grade 63 = .ok (.iload_n 3, 1) := by decide +kernel
theorem dX3_grade_64 : decode cX3_grade 64 = .ok (.ireturn, 1) := by decide +kernel
set_option maxRecDepth 20000 in
theorem ggX3_day_X0_remember : GoodIn wsX3_day wsX0_remember := goodIn_r _ [6, 7, 8, 9, 10, 11, 12, 13, 14, 15, 16, 17, 18, 19, 20, 65, 66, 67, 68, 69, 70, 71, 72, 73, 74] (by decide +kernel) (by decide +kernel)
set_option maxRecDepth 20000 in
theorem gX3_day_X0_remember_n111 : GoodIn wsX3_day (wsX0_remember) := ggX3_day_X0_remember
set_option maxRecDepth 20000 in
theorem ggX3_day_X1_passDay : GoodIn wsX3_day wsX1_passDay := goodIn_r _ [23, 18, 20, 24, 25, 26, 11, 27, 14, 28, 29, 30, 31, 32, 33, 34, 35, 36, 37, 38, 15, 39, 40, 41, 42, 16, 43, 44, 45, 46, 17, 47, 48, 49, 50, 51, 52, 53, 68, 69, 70, 71, 72, 73, 74] (by decide +kernel) (by decide +kernel)
set_option maxRecDepth 20000 in
theorem gX3_day_X1_passDay_n145 : GoodIn wsX3_day (wsX1_passDay) := ggX3_day_X1_passDay
theorem dX3_day_0 : decode cX3_day 0 = .ok (.aload_n 0, 1) := by decide +kernel
theorem dX3_day_1 : decode cX3_day 1 = .ok (.getfield 29, 3) := by decide +kernel
theorem dX3_day_4 : decode cX3_day 4 = .ok (.aload_n 0, 1) := by decide +kernel
theorem dX3_day_5 : decode cX3_day 5 = .ok (.getfield 19, 3) := by decide +kernel
theorem dX3_day_8 : decode cX3_day 8 = .ok (.invokevirtual 111, 3) := by decide +kernel
theorem dX3_day_11 : decode cX3_day 11 = .ok (.aload_n 0, 1) := by decide +kernel
theorem dX3_day_12 : decode cX3_day 12 = .ok (.getfield 19, 3) := by decide +kernel
theorem dX3_day_15 : decode cX3_day 15 = .ok (.invokevirtual 145, 3) := by decide +kernel
theorem dX3_day_18 : decode cX3_day 18 = .ok (.ireturn, 1) := by decide +kernel
set_option maxRecDepth 20000 in
theorem ggX3_undo_X0_takeBackInto : GoodIn wsX3_undo wsX0_takeBackInto := goodIn_r _ [6, 7, 8, 9, 10, 11, 12, 13, 14, 15, 16, 17, 18, 19, 20, 32, 33, 34, 35, 36, 37, 38, 39, 40, 41] (by decide +kernel) (by decide +kernel)
set_option maxRecDepth 20000 in
theorem gX3_undo_X0_takeBackInto_n148 : GoodIn wsX3_undo (wsX0_takeBackInto) := ggX3_undo_X0_takeBackInto
theorem dX3_undo_0 : decode cX3_undo 0 = .ok (.aload_n 0, 1) := by decide +kernel
theorem dX3_undo_1 : decode cX3_undo 1 = .ok (.getfield 29, 3) := by decide +kernel
theorem dX3_undo_4 : decode cX3_undo 4 = .ok (.aload_n 0, 1) := by decide +kernel
theorem dX3_undo_5 : decode cX3_undo 5 = .ok (.getfield 19, 3) := by decide +kernel
theorem dX3_undo_8 : decode cX3_undo 8 = .ok (.invokevirtual 148, 3) := by decide +kernel
theorem dX3_undo_11 : decode cX3_undo 11 = .ok (.ifCond .eq 13, 3) := by decide +kernel
theorem dX3_undo_14 : decode cX3_undo 14 = .ok (.aload_n 0, 1) := by decide +kernel
theorem dX3_undo_15 : decode cX3_undo 15 = .ok (.getfield 29, 3) := by decide +kernel
theorem dX3_undo_18 : decode cX3_undo 18 = .ok (.getfield 63, 3) := by decide +kernel
theorem dX3_undo_21 : decode cX3_undo 21 = .ok (.goto 5, 3) := by decide +kernel
theorem dX3_undo_24 : decode cX3_undo 24 = .ok (.bipush (-3), 2) := by decide +kernel
theorem dX3_undo_26 : decode cX3_undo 26 = .ok (.ireturn, 1) := by decide +kernel
set_option maxRecDepth 20000 in
theorem ggX3_fall_X1_fallRow : GoodIn wsX3_fall wsX1_fallRow := goodIn_r _ [5, 6, 7, 8, 9, 10, 3, 11, 12, 13, 14, 15, 16, 17, 18, 19, 20, 21, 22, 23, 24, 25, 26, 27, 28, 29, 30, 31, 32, 33, 34, 35, 36, 37, 38, 39, 40, 52, 53, 54, 55, 56, 57, 58] (by decide +kernel) (by decide +kernel)
set_option maxRecDepth 20000 in
theorem gX3_fall_X1_fallRow_n152 : GoodIn wsX3_fall (wsX1_fallRow) := ggX3_fall_X1_fallRow
theorem dX3_fall_0 : decode cX3_fall 0 = .ok (.aload_n 0, 1) := by decide +kernel
theorem dX3_fall_1 : decode cX3_fall 1 = .ok (.getfield 19, 3) := by decide +kernel
theorem dX3_fall_4 : decode cX3_fall 4 = .ok (.invokevirtual 152, 3) := by decide +kernel
theorem dX3_fall_7 : decode cX3_fall 7 = .ok (.ireturn, 1) := by decide +kernel
set_option maxRecDepth 20000 in
theorem ggX3_place_X1_has : GoodIn wsX3_place wsX1_has := goodIn_r _ [5, 6, 55, 56, 57, 58, 59, 60, 61] (by decide +kernel) (by decide +kernel)
set_option maxRecDepth 20000 in
theorem gX3_place_X1_has_n92 : GoodIn wsX3_place (wsX1_has) := ggX3_place_X1_has
set_option maxRecDepth 20000 in
theorem ggX3_place_X1_placeOf : GoodIn wsX3_place wsX1_placeOf := goodIn_r _ [9, 10, 6, 11, 12, 13, 3, 14, 15, 16, 17, 18, 19, 20, 21, 22, 23, 24, 25, 26, 27, 28, 29, 30, 31, 32, 33, 34, 35, 36, 37, 38, 39, 40, 41, 42, 43, 55, 56, 57, 58, 59, 60, 61] (by decide +kernel) (by decide +kernel)
set_option maxRecDepth 20000 in
theorem gX3_place_X1_placeOf_n155 : GoodIn wsX3_place (wsX1_placeOf) := ggX3_place_X1_placeOf
theorem dX3_place_0 : decode cX3_place 0 = .ok (.aload_n 0, 1) := by decide +kernel
theorem dX3_place_1 : decode cX3_place 1 = .ok (.getfield 19, 3) := by decide +kernel
theorem dX3_place_4 : decode cX3_place 4 = .ok (.iload_n 1, 1) := by decide +kernel
theorem dX3_place_5 : decode cX3_place 5 = .ok (.invokevirtual 92, 3) := by decide +kernel
theorem dX3_place_8 : decode cX3_place 8 = .ok (.ifCond .eq 14, 3) := by decide +kernel
theorem dX3_place_11 : decode cX3_place 11 = .ok (.aload_n 0, 1) := by decide +kernel
theorem dX3_place_12 : decode cX3_place 12 = .ok (.getfield 19, 3) := by decide +kernel
theorem dX3_place_15 : decode cX3_place 15 = .ok (.iload_n 1, 1) := by decide +kernel
theorem dX3_place_16 : decode cX3_place 16 = .ok (.invokevirtual 155, 3) := by decide +kernel
theorem dX3_place_19 : decode cX3_place 19 = .ok (.goto 4, 3) := by decide +kernel
theorem dX3_place_22 : decode cX3_place 22 = .ok (.iconst (-1), 1) := by decide +kernel
theorem dX3_place_23 : decode cX3_place 23 = .ok (.ireturn, 1) := by decide +kernel
set_option maxRecDepth 20000 in
theorem ggX3_last_X1_leftBehind : GoodIn wsX3_last wsX1_leftBehind := goodIn_r _ [5, 6, 7, 8, 9, 3, 10, 11, 12, 13, 14, 15, 16, 17, 18, 19, 20, 21, 22, 23, 24, 25, 26, 27, 28, 29, 30, 31, 32, 33, 34, 46, 47, 48, 49, 50, 51, 52] (by decide +kernel) (by decide +kernel)
set_option maxRecDepth 20000 in
theorem gX3_last_X1_leftBehind_n158 : GoodIn wsX3_last (wsX1_leftBehind) := ggX3_last_X1_leftBehind
theorem dX3_last_0 : decode cX3_last 0 = .ok (.aload_n 0, 1) := by decide +kernel
theorem dX3_last_1 : decode cX3_last 1 = .ok (.getfield 19, 3) := by decide +kernel
theorem dX3_last_4 : decode cX3_last 4 = .ok (.aload_n 0, 1) := by decide +kernel
theorem dX3_last_5 : decode cX3_last 5 = .ok (.getfield 19, 3) := by decide +kernel
theorem dX3_last_8 : decode cX3_last 8 = .ok (.getfield 72, 3) := by decide +kernel
theorem dX3_last_11 : decode cX3_last 11 = .ok (.invokevirtual 158, 3) := by decide +kernel
theorem dX3_last_14 : decode cX3_last 14 = .ok (.ireturn, 1) := by decide +kernel
set_option maxRecDepth 20000 in
theorem ggX3_toFeed_X1_has : GoodIn wsX3_toFeed wsX1_has := goodIn_r _ [6, 7, 83, 84, 85, 86, 87, 88, 89] (by decide +kernel) (by decide +kernel)
set_option maxRecDepth 20000 in
theorem gX3_toFeed_X1_has_n92 : GoodIn wsX3_toFeed (wsX1_has) := ggX3_toFeed_X1_has
set_option maxRecDepth 20000 in
theorem ggX3_toFeed_X1_isTaken : GoodIn wsX3_toFeed wsX1_isTaken := goodIn_r _ [10, 11, 12, 13, 4, 14, 7, 15, 16, 17, 18, 19, 20, 21, 22, 23, 24, 25, 26, 27, 28, 29, 30, 31, 32, 33, 34, 35, 36, 37, 38, 39, 40, 41, 42, 83, 84, 85, 86, 87, 88, 89] (by decide +kernel) (by decide +kernel)
set_option maxRecDepth 20000 in
theorem gX3_toFeed_X1_isTaken_n161 : GoodIn wsX3_toFeed (wsX1_isTaken) := ggX3_toFeed_X1_isTaken
set_option maxRecDepth 20000 in
theorem ggX3_toFeed_X1_copy : GoodIn wsX3_toFeed wsX1_copy := goodIn_r _ [45, 7, 30, 35, 40, 46, 47, 48, 83, 84, 85, 86, 87, 88, 89] (by decide +kernel) (by decide +kernel)
set_option maxRecDepth 20000 in
theorem gX3_toFeed_X1_copy_n59 : GoodIn wsX3_toFeed (wsX1_copy) := ggX3_toFeed_X1_copy
set_option maxRecDepth 20000 in
theorem ggX3_toFeed_X3_onePair : GoodIn wsX3_toFeed wsX3_onePair := goodIn_r _ [52, 1, 53, 54, 55, 20, 56, 3, 4, 5, 6, 7, 57, 58, 59, 40, 60, 61, 62, 63, 64, 65, 66, 2, 12, 13, 14, 15, 16, 17, 18, 19, 21, 22, 23, 24, 25, 26, 27, 28, 29, 30, 31, 32, 33, 34, 35, 36, 37, 38, 39, 41, 42, 67, 72, 73, 74, 75, 76, 77, 78, 79, 80, 81, 82, 83, 84, 85, 86, 87, 88, 89] (by decide +kernel) (by decide +kernel)
set_option maxRecDepth 20000 in
theorem gX3_toFeed_X3_onePair : GoodIn wsX3_toFeed (wsV RX3 164 RX3 yX3_onePair wsX3_onePair) := goodIn_app (goodIn_of _ (by decide +kernel)) ggX3_toFeed_X3_onePair
set_option maxRecDepth 20000 in
theorem ggX3_toFeed_X3_twoPairs : GoodIn wsX3_toFeed wsX3_twoPairs := goodIn_r _ [71, 1, 53, 54, 55, 20, 56, 3, 4, 5, 6, 7, 57, 58, 59, 40, 60, 61, 62, 63, 64, 65, 66, 2, 12, 13, 14, 15, 16, 17, 18, 19, 21, 22, 23, 24, 25, 26, 27, 28, 29, 30, 31, 32, 33, 34, 35, 36, 37, 38, 39, 41, 42, 67, 72, 73, 74, 75, 76, 77, 78, 79, 80, 81, 82, 83, 84, 85, 86, 87, 88, 89] (by decide +kernel) (by decide +kernel)
set_option maxRecDepth 20000 in
theorem gX3_toFeed_X3_twoPairs : GoodIn wsX3_toFeed (wsV RX3 167 RX3 yX3_twoPairs wsX3_twoPairs) := goodIn_app (goodIn_of _ (by decide +kernel)) ggX3_toFeed_X3_twoPairs
theorem dX3_toFeed_0 : decode cX3_toFeed 0 = .ok (.aload_n 0, 1) := by decide +kernel
theorem dX3_toFeed_1 : decode cX3_toFeed 1 = .ok (.getfield 19, 3) := by decide +kernel
theorem dX3_toFeed_4 : decode cX3_toFeed 4 = .ok (.iload_n 1, 1) := by decide +kernel
theorem dX3_toFeed_5 : decode cX3_toFeed 5 = .ok (.invokevirtual 92, 3) := by decide +kernel
theorem dX3_toFeed_8 : decode cX3_toFeed 8 = .ok (.ifCond .ne 5, 3) := by decide +kernel
theorem dX3_toFeed_11 : decode cX3_toFeed 11 = .ok (.iconst (-1), 1) := by decide +kernel
theorem dX3_toFeed_12 : decode cX3_toFeed 12 = .ok (.ireturn, 1) := by decide +kernel
theorem dX3_toFeed_13 : decode cX3_toFeed 13 = .ok (.iload_n 2, 1) := by decide +kernel
theorem dX3_toFeed_14 : decode cX3_toFeed 14 = .ok (.ifCond .lt 8, 3) := by decide +kernel
theorem dX3_toFeed_17 : decode cX3_toFeed 17 = .ok (.iload_n 2, 1) := by decide +kernel
theorem dX3_toFeed_18 : decode cX3_toFeed 18 = .ok (.iconst 1, 1) := by decide +kernel
theorem dX3_toFeed_19 : decode cX3_toFeed 19 = .ok (.if_icmp .le 6, 3) := by decide +kernel
theorem dX3_toFeed_22 : decode cX3_toFeed 22 = .ok (.bipush (-2), 2) := by decide +kernel
theorem dX3_toFeed_24 : decode cX3_toFeed 24 = .ok (.ireturn, 1) := by decide +kernel
theorem dX3_toFeed_25 : decode cX3_toFeed 25 = .ok (.aload_n 0, 1) := by decide +kernel
theorem dX3_toFeed_26 : decode cX3_toFeed 26 = .ok (.getfield 19, 3) := by decide +kernel
theorem dX3_toFeed_29 : decode cX3_toFeed 29 = .ok (.iload_n 1, 1) := by decide +kernel
theorem dX3_toFeed_30 : decode cX3_toFeed 30 = .ok (.aload_n 0, 1) := by decide +kernel
theorem dX3_toFeed_31 : decode cX3_toFeed 31 = .ok (.getfield 19, 3) := by decide +kernel
theorem dX3_toFeed_34 : decode cX3_toFeed 34 = .ok (.getfield 72, 3) := by decide +kernel
theorem dX3_toFeed_37 : decode cX3_toFeed 37 = .ok (.invokevirtual 161, 3) := by decide +kernel
theorem dX3_toFeed_40 : decode cX3_toFeed 40 = .ok (.ifCond .ne 5, 3) := by decide +kernel
theorem dX3_toFeed_43 : decode cX3_toFeed 43 = .ok (.iconst 0, 1) := by decide +kernel
theorem dX3_toFeed_44 : decode cX3_toFeed 44 = .ok (.ireturn, 1) := by decide +kernel
theorem dX3_toFeed_45 : decode cX3_toFeed 45 = .ok (.aload_n 0, 1) := by decide +kernel
theorem dX3_toFeed_46 : decode cX3_toFeed 46 = .ok (.getfield 23, 3) := by decide +kernel
theorem dX3_toFeed_49 : decode cX3_toFeed 49 = .ok (.aload_n 0, 1) := by decide +kernel
theorem dX3_toFeed_50 : decode cX3_toFeed 50 = .ok (.getfield 19, 3) := by decide +kernel
theorem dX3_toFeed_53 : decode cX3_toFeed 53 = .ok (.invokevirtual 59, 3) := by decide +kernel
theorem dX3_toFeed_56 : decode cX3_toFeed 56 = .ok (.aload_n 0, 1) := by decide +kernel
theorem dX3_toFeed_57 : decode cX3_toFeed 57 = .ok (.iload_n 1, 1) := by decide +kernel
theorem dX3_toFeed_58 : decode cX3_toFeed 58 = .ok (.invokevirtual 164, 3) := by decide +kernel
theorem dX3_toFeed_61 : decode cX3_toFeed 61 = .ok (.istore_n 3, 1) := by decide +kernel
theorem dX3_toFeed_62 : decode cX3_toFeed 62 = .ok (.iload_n 3, 1) := by decide +kernel
theorem dX3_toFeed_63 : decode cX3_toFeed 63 = .ok (.bipush (-9), 2) := by decide +kernel
theorem dX3_toFeed_65 : decode cX3_toFeed 65 = .ok (.if_icmp .eq 13, 3) := by decide +kernel
theorem dX3_toFeed_68 : decode cX3_toFeed 68 = .ok (.iload_n 2, 1) := by decide +kernel
theorem dX3_toFeed_69 : decode cX3_toFeed 69 = .ok (.ifCond .ne 7, 3) := by decide +kernel
theorem dX3_toFeed_72 : decode cX3_toFeed 72 = .ok (.iconst 1, 1) := by decide +kernel
theorem dX3_toFeed_73 : decode cX3_toFeed 73 = .ok (.goto 4, 3) := by decide +kernel
theorem dX3_toFeed_76 : decode cX3_toFeed 76 = .ok (.iload_n 3, 1) := by decide +kernel
theorem dX3_toFeed_77 : decode cX3_toFeed 77 = .ok (.ireturn, 1) := by decide +kernel
theorem dX3_toFeed_78 : decode cX3_toFeed 78 = .ok (.aload_n 0, 1) := by decide +kernel
theorem dX3_toFeed_79 : decode cX3_toFeed 79 = .ok (.iload_n 1, 1) := by decide +kernel
theorem dX3_toFeed_80 : decode cX3_toFeed 80 = .ok (.invokevirtual 167, 3) := by decide +kernel
theorem dX3_toFeed_83 : decode cX3_toFeed 83 = .ok (.istore_n 3, 1) := by decide +kernel
theorem dX3_toFeed_84 : decode cX3_toFeed 84 = .ok (.iload_n 2, 1) := by decide +kernel
theorem dX3_toFeed_85 : decode cX3_toFeed 85 = .ok (.ifCond .ne 13, 3) := by decide +kernel
theorem dX3_toFeed_88 : decode cX3_toFeed 88 = .ok (.iload_n 3, 1) := by decide +kernel
theorem dX3_toFeed_89 : decode cX3_toFeed 89 = .ok (.bipush (-9), 2) := by decide +kernel
theorem dX3_toFeed_91 : decode cX3_toFeed 91 = .ok (.if_icmp .eq 7, 3) := by decide +kernel
theorem dX3_toFeed_94 : decode cX3_toFeed 94 = .ok (.iconst 2, 1) := by decide +kernel
theorem dX3_toFeed_95 : decode cX3_toFeed 95 = .ok (.goto 4, 3) := by decide +kernel
end
section
theorem dX3_toFeed_98 : decode cX3_toFeed 98 = .ok (.iload_n 3, 1) := by decide +kernel
theorem dX3_toFeed_99 : decode cX3_toFeed 99 = .ok (.ireturn, 1) := by decide +kernel
set_option maxRecDepth 20000 in
theorem ggX3_giveUp_X1_has : GoodIn wsX3_giveUp wsX1_has := goodIn_r _ [5, 6, 64, 65, 66, 67, 68, 69, 70] (by decide +kernel) (by decide +kernel)
set_option maxRecDepth 20000 in
theorem gX3_giveUp_X1_has_n92 : GoodIn wsX3_giveUp (wsX1_has) := ggX3_giveUp_X1_has
set_option maxRecDepth 20000 in
theorem ggX3_giveUp_X3_isIn : GoodIn wsX3_giveUp wsX3_isIn := goodIn_r _ [10] (by decide +kernel) (by decide +kernel)
set_option maxRecDepth 20000 in
theorem gX3_giveUp_X3_isIn : GoodIn wsX3_giveUp (va_wsS RX3 107 yX3_isIn wsX3_isIn) := goodIn_app (goodIn_of _ (by decide +kernel)) ggX3_giveUp_X3_isIn
set_option maxRecDepth 20000 in
theorem ggX3_giveUp_X3_without : GoodIn wsX3_giveUp wsX3_without := goodIn_r _ [13] (by decide +kernel) (by decide +kernel)
set_option maxRecDepth 20000 in
theorem gX3_giveUp_X3_without : GoodIn wsX3_giveUp (va_wsS RX3 114 yX3_without wsX3_without) := goodIn_app (goodIn_of _ (by decide +kernel)) ggX3_giveUp_X3_without
set_option maxRecDepth 20000 in
theorem ggX3_giveUp_J6_bitCount_0f7a4 : GoodIn wsX3_giveUp wsJ6_bitCount_0f7a4 := goodIn_r _ [17, 18, 19, 20] (by decide +kernel) (by decide +kernel)
set_option maxRecDepth 20000 in
theorem gX3_giveUp_J6_bitCount_0f7a4 : GoodIn wsX3_giveUp (va_wsS RX3 118 yJ6_bitCount_0f7a4 wsJ6_bitCount_0f7a4) := goodIn_app (goodIn_of _ (by decide +kernel)) ggX3_giveUp_J6_bitCount_0f7a4
set_option maxRecDepth 20000 in
theorem ggX3_giveUp_X1_isTaken : GoodIn wsX3_giveUp wsX1_isTaken := goodIn_r _ [23, 24, 25, 26, 3, 27, 6, 28, 29, 30, 31, 8, 9, 10, 32, 33, 34, 35, 36, 37, 38, 39, 40, 41, 42, 43, 44, 45, 46, 47, 48, 49, 50, 51, 52, 64, 65, 66, 67, 68, 69, 70] (by decide +kernel) (by decide +kernel)
set_option maxRecDepth 20000 in
theorem gX3_giveUp_X1_isTaken_n161 : GoodIn wsX3_giveUp (wsX1_isTaken) := ggX3_giveUp_X1_isTaken
theorem dX3_giveUp_0 : decode cX3_giveUp 0 = .ok (.aload_n 0, 1) := by decide +kernel
theorem dX3_giveUp_1 : decode cX3_giveUp 1 = .ok (.getfield 19, 3) := by decide +kernel
theorem dX3_giveUp_4 : decode cX3_giveUp 4 = .ok (.iload_n 1, 1) := by decide +kernel
theorem dX3_giveUp_5 : decode cX3_giveUp 5 = .ok (.invokevirtual 92, 3) := by decide +kernel
theorem dX3_giveUp_8 : decode cX3_giveUp 8 = .ok (.ifCond .ne 5, 3) := by decide +kernel
theorem dX3_giveUp_11 : decode cX3_giveUp 11 = .ok (.iconst (-1), 1) := by decide +kernel
theorem dX3_giveUp_12 : decode cX3_giveUp 12 = .ok (.ireturn, 1) := by decide +kernel
theorem dX3_giveUp_13 : decode cX3_giveUp 13 = .ok (.aload_n 0, 1) := by decide +kernel
theorem dX3_giveUp_14 : decode cX3_giveUp 14 = .ok (.getfield 19, 3) := by decide +kernel
theorem dX3_giveUp_17 : decode cX3_giveUp 17 = .ok (.getfield 72, 3) := by decide +kernel
theorem dX3_giveUp_20 : decode cX3_giveUp 20 = .ok (.iload_n 1, 1) := by decide +kernel
theorem dX3_giveUp_21 : decode cX3_giveUp 21 = .ok (.invokestatic 107, 3) := by decide +kernel
theorem dX3_giveUp_24 : decode cX3_giveUp 24 = .ok (.ifCond .ne 6, 3) := by decide +kernel
theorem dX3_giveUp_27 : decode cX3_giveUp 27 = .ok (.bipush (-3), 2) := by decide +kernel
theorem dX3_giveUp_29 : decode cX3_giveUp 29 = .ok (.ireturn, 1) := by decide +kernel
theorem dX3_giveUp_30 : decode cX3_giveUp 30 = .ok (.aload_n 0, 1) := by decide +kernel
theorem dX3_giveUp_31 : decode cX3_giveUp 31 = .ok (.getfield 19, 3) := by decide +kernel
theorem dX3_giveUp_34 : decode cX3_giveUp 34 = .ok (.getfield 72, 3) := by decide +kernel
theorem dX3_giveUp_37 : decode cX3_giveUp 37 = .ok (.iload_n 1, 1) := by decide +kernel
theorem dX3_giveUp_38 : decode cX3_giveUp 38 = .ok (.invokestatic 114, 3) := by decide +kernel
theorem dX3_giveUp_41 : decode cX3_giveUp 41 = .ok (.istore_n 2, 1) := by decide +kernel
theorem dX3_giveUp_42 : decode cX3_giveUp 42 = .ok (.bipush (-9), 2) := by decide +kernel
theorem dX3_giveUp_44 : decode cX3_giveUp 44 = .ok (.istore_n 3, 1) := by decide +kernel
theorem dX3_giveUp_45 : decode cX3_giveUp 45 = .ok (.iconst 0, 1) := by decide +kernel
theorem dX3_giveUp_46 : decode cX3_giveUp 46 = .ok (.istore 4, 2) := by decide +kernel
theorem dX3_giveUp_48 : decode cX3_giveUp 48 = .ok (.iload 4, 2) := by decide +kernel
theorem dX3_giveUp_50 : decode cX3_giveUp 50 = .ok (.iload_n 2, 1) := by decide +kernel
theorem dX3_giveUp_51 : decode cX3_giveUp 51 = .ok (.if_icmp .gt 74, 3) := by decide +kernel
theorem dX3_giveUp_54 : decode cX3_giveUp 54 = .ok (.iload_n 3, 1) := by decide +kernel
theorem dX3_giveUp_55 : decode cX3_giveUp 55 = .ok (.bipush (-9), 2) := by decide +kernel
theorem dX3_giveUp_57 : decode cX3_giveUp 57 = .ok (.if_icmp .eq 15, 3) := by decide +kernel
theorem dX3_giveUp_60 : decode cX3_giveUp 60 = .ok (.iload 4, 2) := by decide +kernel
theorem dX3_giveUp_62 : decode cX3_giveUp 62 = .ok (.invokestatic 118, 3) := by decide +kernel
theorem dX3_giveUp_65 : decode cX3_giveUp 65 = .ok (.iload_n 3, 1) := by decide +kernel
theorem dX3_giveUp_66 : decode cX3_giveUp 66 = .ok (.invokestatic 118, 3) := by decide +kernel
theorem dX3_giveUp_69 : decode cX3_giveUp 69 = .ok (.if_icmp .ge 7, 3) := by decide +kernel
theorem dX3_giveUp_72 : decode cX3_giveUp 72 = .ok (.iconst 1, 1) := by decide +kernel
theorem dX3_giveUp_73 : decode cX3_giveUp 73 = .ok (.goto 4, 3) := by decide +kernel
theorem dX3_giveUp_76 : decode cX3_giveUp 76 = .ok (.iconst 0, 1) := by decide +kernel
theorem dX3_giveUp_77 : decode cX3_giveUp 77 = .ok (.istore 5, 2) := by decide +kernel
theorem dX3_giveUp_79 : decode cX3_giveUp 79 = .ok (.iload 4, 2) := by decide +kernel
theorem dX3_giveUp_81 : decode cX3_giveUp 81 = .ok (.iload_n 2, 1) := by decide +kernel
theorem dX3_giveUp_82 : decode cX3_giveUp 82 = .ok (.iand, 1) := by decide +kernel
theorem dX3_giveUp_83 : decode cX3_giveUp 83 = .ok (.iload 4, 2) := by decide +kernel
theorem dX3_giveUp_85 : decode cX3_giveUp 85 = .ok (.if_icmp .ne 34, 3) := by decide +kernel
theorem dX3_giveUp_88 : decode cX3_giveUp 88 = .ok (.iload 5, 2) := by decide +kernel
theorem dX3_giveUp_90 : decode cX3_giveUp 90 = .ok (.ifCond .eq 29, 3) := by decide +kernel
theorem dX3_giveUp_93 : decode cX3_giveUp 93 = .ok (.aload_n 0, 1) := by decide +kernel
theorem dX3_giveUp_94 : decode cX3_giveUp 94 = .ok (.getfield 19, 3) := by decide +kernel
theorem dX3_giveUp_97 : decode cX3_giveUp 97 = .ok (.iload_n 1, 1) := by decide +kernel
theorem dX3_giveUp_98 : decode cX3_giveUp 98 = .ok (.aload_n 0, 1) := by decide +kernel
theorem dX3_giveUp_99 : decode cX3_giveUp 99 = .ok (.getfield 19, 3) := by decide +kernel
theorem dX3_giveUp_102 : decode cX3_giveUp 102 = .ok (.getfield 72, 3) := by decide +kernel
theorem dX3_giveUp_105 : decode cX3_giveUp 105 = .ok (.iload 4, 2) := by decide +kernel
theorem dX3_giveUp_107 : decode cX3_giveUp 107 = .ok (.iconst (-1), 1) := by decide +kernel
theorem dX3_giveUp_108 : decode cX3_giveUp 108 = .ok (.ixor, 1) := by decide +kernel
theorem dX3_giveUp_109 : decode cX3_giveUp 109 = .ok (.iand, 1) := by decide +kernel
theorem dX3_giveUp_110 : decode cX3_giveUp 110 = .ok (.invokevirtual 161, 3) := by decide +kernel
theorem dX3_giveUp_113 : decode cX3_giveUp 113 = .ok (.ifCond .eq 6, 3) := by decide +kernel
theorem dX3_giveUp_116 : decode cX3_giveUp 116 = .ok (.iload 4, 2) := by decide +kernel
theorem dX3_giveUp_118 : decode cX3_giveUp 118 = .ok (.istore_n 3, 1) := by decide +kernel
theorem dX3_giveUp_119 : decode cX3_giveUp 119 = .ok (.iinc 4 1, 3) := by decide +kernel
theorem dX3_giveUp_122 : decode cX3_giveUp 122 = .ok (.goto (-74), 3) := by decide +kernel
theorem dX3_giveUp_125 : decode cX3_giveUp 125 = .ok (.iload_n 3, 1) := by decide +kernel
theorem dX3_giveUp_126 : decode cX3_giveUp 126 = .ok (.ireturn, 1) := by decide +kernel
set_option maxRecDepth 20000 in
theorem ggX3_claim_X1_has : GoodIn wsX3_claim wsX1_has := goodIn_r _ [6, 7, 68, 69, 70, 71, 72, 73, 74] (by decide +kernel) (by decide +kernel)
set_option maxRecDepth 20000 in
theorem gX3_claim_X1_has_n92 : GoodIn wsX3_claim (wsX1_has) := ggX3_claim_X1_has
set_option maxRecDepth 20000 in
theorem ggX3_claim_X3_isIn : GoodIn wsX3_claim wsX3_isIn := goodIn_r _ [11] (by decide +kernel) (by decide +kernel)
set_option maxRecDepth 20000 in
theorem gX3_claim_X3_isIn : GoodIn wsX3_claim (va_wsS RX3 107 yX3_isIn wsX3_isIn) := goodIn_app (goodIn_of _ (by decide +kernel)) ggX3_claim_X3_isIn
set_option maxRecDepth 20000 in
theorem ggX3_claim_X1_copy : GoodIn wsX3_claim wsX1_copy := goodIn_r _ [14, 7, 15, 16, 17, 18, 19, 20, 68, 69, 70, 71, 72, 73, 74] (by decide +kernel) (by decide +kernel)
set_option maxRecDepth 20000 in
theorem gX3_claim_X1_copy_n59 : GoodIn wsX3_claim (wsX1_copy) := ggX3_claim_X1_copy
set_option maxRecDepth 20000 in
theorem ggX3_claim_X1_setDeed : GoodIn wsX3_claim wsX1_setDeed := goodIn_r _ [23, 16, 68, 69, 70, 71, 72, 73, 74] (by decide +kernel) (by decide +kernel)
set_option maxRecDepth 20000 in
theorem gX3_claim_X1_setDeed_n141 : GoodIn wsX3_claim (wsX1_setDeed) := ggX3_claim_X1_setDeed
set_option maxRecDepth 20000 in
theorem ggX3_claim_X1_worthOf : GoodIn wsX3_claim wsX1_worthOf := goodIn_r _ [26, 27, 28, 29, 4, 30, 18, 7, 31, 32, 33, 34, 9, 10, 11, 35, 36, 37, 38, 39, 40, 41, 42, 15, 43, 44, 45, 46, 16, 47, 48, 49, 50, 17, 51, 52, 53, 54, 8, 55, 56, 68, 69, 70, 71, 72, 73, 74] (by decide +kernel) (by decide +kernel)
set_option maxRecDepth 20000 in
theorem gX3_claim_X1_worthOf_n170 : GoodIn wsX3_claim (wsX1_worthOf) := ggX3_claim_X1_worthOf
theorem dX3_claim_0 : decode cX3_claim 0 = .ok (.aload_n 0, 1) := by decide +kernel
theorem dX3_claim_1 : decode cX3_claim 1 = .ok (.getfield 19, 3) := by decide +kernel
theorem dX3_claim_4 : decode cX3_claim 4 = .ok (.iload_n 1, 1) := by decide +kernel
theorem dX3_claim_5 : decode cX3_claim 5 = .ok (.invokevirtual 92, 3) := by decide +kernel
theorem dX3_claim_8 : decode cX3_claim 8 = .ok (.ifCond .ne 5, 3) := by decide +kernel
theorem dX3_claim_11 : decode cX3_claim 11 = .ok (.iconst (-1), 1) := by decide +kernel
theorem dX3_claim_12 : decode cX3_claim 12 = .ok (.ireturn, 1) := by decide +kernel
theorem dX3_claim_13 : decode cX3_claim 13 = .ok (.aload_n 0, 1) := by decide +kernel
theorem dX3_claim_14 : decode cX3_claim 14 = .ok (.getfield 19, 3) := by decide +kernel
theorem dX3_claim_17 : decode cX3_claim 17 = .ok (.getfield 72, 3) := by decide +kernel
theorem dX3_claim_20 : decode cX3_claim 20 = .ok (.iload_n 1, 1) := by decide +kernel
theorem dX3_claim_21 : decode cX3_claim 21 = .ok (.invokestatic 107, 3) := by decide +kernel
theorem dX3_claim_24 : decode cX3_claim 24 = .ok (.ifCond .ne 6, 3) := by decide +kernel
theorem dX3_claim_27 : decode cX3_claim 27 = .ok (.bipush (-3), 2) := by decide +kernel
theorem dX3_claim_29 : decode cX3_claim 29 = .ok (.ireturn, 1) := by decide +kernel
theorem dX3_claim_30 : decode cX3_claim 30 = .ok (.aload_n 0, 1) := by decide +kernel
theorem dX3_claim_31 : decode cX3_claim 31 = .ok (.getfield 23, 3) := by decide +kernel
theorem dX3_claim_34 : decode cX3_claim 34 = .ok (.aload_n 0, 1) := by decide +kernel
theorem dX3_claim_35 : decode cX3_claim 35 = .ok (.getfield 19, 3) := by decide +kernel
theorem dX3_claim_38 : decode cX3_claim 38 = .ok (.invokevirtual 59, 3) := by decide +kernel
theorem dX3_claim_41 : decode cX3_claim 41 = .ok (.iconst 0, 1) := by decide +kernel
theorem dX3_claim_42 : decode cX3_claim 42 = .ok (.istore_n 2, 1) := by decide +kernel
theorem dX3_claim_43 : decode cX3_claim 43 = .ok (.iconst (-1), 1) := by decide +kernel
theorem dX3_claim_44 : decode cX3_claim 44 = .ok (.istore_n 3, 1) := by decide +kernel
theorem dX3_claim_45 : decode cX3_claim 45 = .ok (.iconst 0, 1) := by decide +kernel
theorem dX3_claim_46 : decode cX3_claim 46 = .ok (.istore 4, 2) := by decide +kernel
theorem dX3_claim_48 : decode cX3_claim 48 = .ok (.iload 4, 2) := by decide +kernel
theorem dX3_claim_50 : decode cX3_claim 50 = .ok (.bipush 10, 2) := by decide +kernel
theorem dX3_claim_52 : decode cX3_claim 52 = .ok (.if_icmp .ge 41, 3) := by decide +kernel
theorem dX3_claim_55 : decode cX3_claim 55 = .ok (.aload_n 0, 1) := by decide +kernel
theorem dX3_claim_56 : decode cX3_claim 56 = .ok (.getfield 23, 3) := by decide +kernel
theorem dX3_claim_59 : decode cX3_claim 59 = .ok (.iload_n 1, 1) := by decide +kernel
theorem dX3_claim_60 : decode cX3_claim 60 = .ok (.iload 4, 2) := by decide +kernel
theorem dX3_claim_62 : decode cX3_claim 62 = .ok (.invokevirtual 141, 3) := by decide +kernel
theorem dX3_claim_65 : decode cX3_claim 65 = .ok (.aload_n 0, 1) := by decide +kernel
theorem dX3_claim_66 : decode cX3_claim 66 = .ok (.getfield 23, 3) := by decide +kernel
theorem dX3_claim_69 : decode cX3_claim 69 = .ok (.iload_n 1, 1) := by decide +kernel
theorem dX3_claim_70 : decode cX3_claim 70 = .ok (.invokevirtual 170, 3) := by decide +kernel
theorem dX3_claim_73 : decode cX3_claim 73 = .ok (.istore 5, 2) := by decide +kernel
theorem dX3_claim_75 : decode cX3_claim 75 = .ok (.iload 5, 2) := by decide +kernel
theorem dX3_claim_77 : decode cX3_claim 77 = .ok (.iload_n 3, 1) := by decide +kernel
theorem dX3_claim_78 : decode cX3_claim 78 = .ok (.if_icmp .le 9, 3) := by decide +kernel
theorem dX3_claim_81 : decode cX3_claim 81 = .ok (.iload 5, 2) := by decide +kernel
theorem dX3_claim_83 : decode cX3_claim 83 = .ok (.istore_n 3, 1) := by decide +kernel
theorem dX3_claim_84 : decode cX3_claim 84 = .ok (.iload 4, 2) := by decide +kernel
theorem dX3_claim_86 : decode cX3_claim 86 = .ok (.istore_n 2, 1) := by decide +kernel
theorem dX3_claim_87 : decode cX3_claim 87 = .ok (.iinc 4 1, 3) := by decide +kernel
theorem dX3_claim_90 : decode cX3_claim 90 = .ok (.goto (-42), 3) := by decide +kernel
theorem dX3_claim_93 : decode cX3_claim 93 = .ok (.iload_n 2, 1) := by decide +kernel
theorem dX3_claim_94 : decode cX3_claim 94 = .ok (.ireturn, 1) := by decide +kernel
set_option maxRecDepth 20000 in
theorem ggX3_share_X1_has : GoodIn wsX3_share wsX1_has := goodIn_r _ [5, 6, 79, 80, 81, 82, 83, 84, 85] (by decide +kernel) (by decide +kernel)
set_option maxRecDepth 20000 in
theorem gX3_share_X1_has_n92 : GoodIn wsX3_share (wsX1_has) := ggX3_share_X1_has
set_option maxRecDepth 20000 in
theorem ggX3_share_X3_isIn : GoodIn wsX3_share wsX3_isIn := goodIn_r _ [10] (by decide +kernel) (by decide +kernel)
set_option maxRecDepth 20000 in
theorem gX3_share_X3_isIn : GoodIn wsX3_share (va_wsS RX3 107 yX3_isIn wsX3_isIn) := goodIn_app (goodIn_of _ (by decide +kernel)) ggX3_share_X3_isIn
set_option maxRecDepth 20000 in
theorem ggX3_share_X3_inLeastTerms : GoodIn wsX3_share wsX3_inLeastTerms := goodIn_r _ [13, 14, 15, 16, 17, 18, 19, 9, 20] (by decide +kernel) (by decide +kernel)
set_option maxRecDepth 20000 in
theorem gX3_share_X3_inLeastTerms : GoodIn wsX3_share (va_wsS RX3 173 yX3_inLeastTerms wsX3_inLeastTerms) := goodIn_app (goodIn_of _ (by decide +kernel)) ggX3_share_X3_inLeastTerms
set_option maxRecDepth 20000 in
theorem ggX3_share_X3_without : GoodIn wsX3_share wsX3_without := goodIn_r _ [23] (by decide +kernel) (by decide +kernel)
set_option maxRecDepth 20000 in
theorem gX3_share_X3_without : GoodIn wsX3_share (va_wsS RX3 114 yX3_without wsX3_without) := goodIn_app (goodIn_of _ (by decide +kernel)) ggX3_share_X3_without
set_option maxRecDepth 20000 in
theorem ggX3_share_J6_bitCount_0f7a4 : GoodIn wsX3_share wsJ6_bitCount_0f7a4 := goodIn_r _ [27, 28, 29, 30] (by decide +kernel) (by decide +kernel)
set_option maxRecDepth 20000 in
theorem gX3_share_J6_bitCount_0f7a4 : GoodIn wsX3_share (va_wsS RX3 118 yJ6_bitCount_0f7a4 wsJ6_bitCount_0f7a4) := goodIn_app (goodIn_of _ (by decide +kernel)) ggX3_share_J6_bitCount_0f7a4
set_option maxRecDepth 20000 in
theorem ggX3_share_X3_factorial : GoodIn wsX3_share wsX3_factorial := goodIn_r _ [33] (by decide +kernel) (by decide +kernel)
set_option maxRecDepth 20000 in
theorem gX3_share_X3_factorial : GoodIn wsX3_share (va_wsS RX3 177 yX3_factorial wsX3_factorial) := goodIn_app (goodIn_of _ (by decide +kernel)) ggX3_share_X3_factorial
set_option maxRecDepth 20000 in
theorem ggX3_share_X3_bit : GoodIn wsX3_share wsX3_bit := goodIn_r _ [36] (by decide +kernel) (by decide +kernel)
set_option maxRecDepth 20000 in
theorem gX3_share_X3_bit : GoodIn wsX3_share (va_wsS RX3 123 yX3_bit wsX3_bit) := goodIn_app (goodIn_of _ (by decide +kernel)) ggX3_share_X3_bit
set_option maxRecDepth 20000 in
theorem ggX3_share_X1_countTaken : GoodIn wsX3_share wsX1_countTaken := goodIn_r _ [39, 40, 25, 26, 27, 28, 29, 30, 41, 42, 43, 3, 44, 6, 45, 46, 47, 48, 8, 9, 10, 49, 50, 51, 52, 53, 54, 55, 56, 57, 58, 59, 60, 61, 62, 63, 64, 65, 66, 67, 35, 36, 79, 80, 81, 82, 83, 84, 85] (by decide +kernel) (by decide +kernel)
set_option maxRecDepth 20000 in
theorem gX3_share_X1_countTaken_n180 : GoodIn wsX3_share (wsX1_countTaken) := ggX3_share_X1_countTaken
theorem dX3_share_0 : decode cX3_share 0 = .ok (.aload_n 0, 1) := by decide +kernel
theorem dX3_share_1 : decode cX3_share 1 = .ok (.getfield 19, 3) := by decide +kernel
theorem dX3_share_4 : decode cX3_share 4 = .ok (.iload_n 1, 1) := by decide +kernel
theorem dX3_share_5 : decode cX3_share 5 = .ok (.invokevirtual 92, 3) := by decide +kernel
theorem dX3_share_8 : decode cX3_share 8 = .ok (.ifCond .ne 5, 3) := by decide +kernel
theorem dX3_share_11 : decode cX3_share 11 = .ok (.iconst (-1), 1) := by decide +kernel
theorem dX3_share_12 : decode cX3_share 12 = .ok (.ireturn, 1) := by decide +kernel
theorem dX3_share_13 : decode cX3_share 13 = .ok (.aload_n 0, 1) := by decide +kernel
theorem dX3_share_14 : decode cX3_share 14 = .ok (.getfield 19, 3) := by decide +kernel
theorem dX3_share_17 : decode cX3_share 17 = .ok (.getfield 72, 3) := by decide +kernel
theorem dX3_share_20 : decode cX3_share 20 = .ok (.iload_n 1, 1) := by decide +kernel
theorem dX3_share_21 : decode cX3_share 21 = .ok (.invokestatic 107, 3) := by decide +kernel
theorem dX3_share_24 : decode cX3_share 24 = .ok (.ifCond .ne 10, 3) := by decide +kernel
theorem dX3_share_27 : decode cX3_share 27 = .ok (.iconst 0, 1) := by decide +kernel
theorem dX3_share_28 : decode cX3_share 28 = .ok (.iconst 1, 1) := by decide +kernel
theorem dX3_share_29 : decode cX3_share 29 = .ok (.iload_n 2, 1) := by decide +kernel
theorem dX3_share_30 : decode cX3_share 30 = .ok (.invokestatic 173, 3) := by decide +kernel
theorem dX3_share_33 : decode cX3_share 33 = .ok (.ireturn, 1) := by decide +kernel
theorem dX3_share_34 : decode cX3_share 34 = .ok (.aload_n 0, 1) := by decide +kernel
theorem dX3_share_35 : decode cX3_share 35 = .ok (.getfield 19, 3) := by decide +kernel
theorem dX3_share_38 : decode cX3_share 38 = .ok (.getfield 72, 3) := by decide +kernel
theorem dX3_share_41 : decode cX3_share 41 = .ok (.iload_n 1, 1) := by decide +kernel
theorem dX3_share_42 : decode cX3_share 42 = .ok (.invokestatic 114, 3) := by decide +kernel
theorem dX3_share_45 : decode cX3_share 45 = .ok (.istore_n 3, 1) := by decide +kernel
theorem dX3_share_46 : decode cX3_share 46 = .ok (.iload_n 3, 1) := by decide +kernel
theorem dX3_share_47 : decode cX3_share 47 = .ok (.invokestatic 118, 3) := by decide +kernel
theorem dX3_share_50 : decode cX3_share 50 = .ok (.istore 4, 2) := by decide +kernel
theorem dX3_share_52 : decode cX3_share 52 = .ok (.iconst 0, 1) := by decide +kernel
theorem dX3_share_53 : decode cX3_share 53 = .ok (.istore 5, 2) := by decide +kernel
theorem dX3_share_55 : decode cX3_share 55 = .ok (.iconst 0, 1) := by decide +kernel
theorem dX3_share_56 : decode cX3_share 56 = .ok (.istore 6, 2) := by decide +kernel
theorem dX3_share_58 : decode cX3_share 58 = .ok (.iload 6, 2) := by decide +kernel
theorem dX3_share_60 : decode cX3_share 60 = .ok (.iload_n 3, 1) := by decide +kernel
theorem dX3_share_61 : decode cX3_share 61 = .ok (.if_icmp .gt 73, 3) := by decide +kernel
theorem dX3_share_64 : decode cX3_share 64 = .ok (.iload 6, 2) := by decide +kernel
theorem dX3_share_66 : decode cX3_share 66 = .ok (.iload_n 3, 1) := by decide +kernel
theorem dX3_share_67 : decode cX3_share 67 = .ok (.iand, 1) := by decide +kernel
theorem dX3_share_68 : decode cX3_share 68 = .ok (.iload 6, 2) := by decide +kernel
theorem dX3_share_70 : decode cX3_share 70 = .ok (.if_icmp .ne 58, 3) := by decide +kernel
theorem dX3_share_73 : decode cX3_share 73 = .ok (.iload 6, 2) := by decide +kernel
theorem dX3_share_75 : decode cX3_share 75 = .ok (.invokestatic 118, 3) := by decide +kernel
theorem dX3_share_78 : decode cX3_share 78 = .ok (.istore 7, 2) := by decide +kernel
theorem dX3_share_80 : decode cX3_share 80 = .ok (.iload 7, 2) := by decide +kernel
theorem dX3_share_82 : decode cX3_share 82 = .ok (.invokestatic 177, 3) := by decide +kernel
theorem dX3_share_85 : decode cX3_share 85 = .ok (.iload 4, 2) := by decide +kernel
theorem dX3_share_87 : decode cX3_share 87 = .ok (.iload 7, 2) := by decide +kernel
theorem dX3_share_89 : decode cX3_share 89 = .ok (.isub, 1) := by decide +kernel
theorem dX3_share_90 : decode cX3_share 90 = .ok (.invokestatic 177, 3) := by decide +kernel
theorem dX3_share_93 : decode cX3_share 93 = .ok (.imul, 1) := by decide +kernel
theorem dX3_share_94 : decode cX3_share 94 = .ok (.istore 8, 2) := by decide +kernel
theorem dX3_share_96 : decode cX3_share 96 = .ok (.iload 5, 2) := by decide +kernel
theorem dX3_share_98 : decode cX3_share 98 = .ok (.iload 8, 2) := by decide +kernel
theorem dX3_share_100 : decode cX3_share 100 = .ok (.aload_n 0, 1) := by decide +kernel
theorem dX3_share_101 : decode cX3_share 101 = .ok (.getfield 19, 3) := by decide +kernel
theorem dX3_share_104 : decode cX3_share 104 = .ok (.iload 6, 2) := by decide +kernel
theorem dX3_share_106 : decode cX3_share 106 = .ok (.iload_n 1, 1) := by decide +kernel
theorem dX3_share_107 : decode cX3_share 107 = .ok (.invokestatic 123, 3) := by decide +kernel
theorem dX3_share_110 : decode cX3_share 110 = .ok (.ior, 1) := by decide +kernel
theorem dX3_share_111 : decode cX3_share 111 = .ok (.invokevirtual 180, 3) := by decide +kernel
theorem dX3_share_114 : decode cX3_share 114 = .ok (.aload_n 0, 1) := by decide +kernel
theorem dX3_share_115 : decode cX3_share 115 = .ok (.getfield 19, 3) := by decide +kernel
theorem dX3_share_118 : decode cX3_share 118 = .ok (.iload 6, 2) := by decide +kernel
theorem dX3_share_120 : decode cX3_share 120 = .ok (.invokevirtual 180, 3) := by decide +kernel
theorem dX3_share_123 : decode cX3_share 123 = .ok (.isub, 1) := by decide +kernel
theorem dX3_share_124 : decode cX3_share 124 = .ok (.imul, 1) := by decide +kernel
theorem dX3_share_125 : decode cX3_share 125 = .ok (.iadd, 1) := by decide +kernel
theorem dX3_share_126 : decode cX3_share 126 = .ok (.istore 5, 2) := by decide +kernel
theorem dX3_share_128 : decode cX3_share 128 = .ok (.iinc 6 1, 3) := by decide +kernel
theorem dX3_share_131 : decode cX3_share 131 = .ok (.goto (-73), 3) := by decide +kernel
theorem dX3_share_134 : decode cX3_share 134 = .ok (.iload 5, 2) := by decide +kernel
theorem dX3_share_136 : decode cX3_share 136 = .ok (.iload 4, 2) := by decide +kernel
theorem dX3_share_138 : decode cX3_share 138 = .ok (.iconst 1, 1) := by decide +kernel
theorem dX3_share_139 : decode cX3_share 139 = .ok (.iadd, 1) := by decide +kernel
theorem dX3_share_140 : decode cX3_share 140 = .ok (.invokestatic 177, 3) := by decide +kernel
theorem dX3_share_143 : decode cX3_share 143 = .ok (.iload_n 2, 1) := by decide +kernel
theorem dX3_share_144 : decode cX3_share 144 = .ok (.invokestatic 173, 3) := by decide +kernel
theorem dX3_share_147 : decode cX3_share 147 = .ok (.ireturn, 1) := by decide +kernel
set_option maxRecDepth 20000 in
theorem ggX3_see_X1_has : GoodIn wsX3_see wsX1_has := goodIn_r _ [7, 8, 20, 21, 22, 23, 24, 25, 26] (by decide +kernel) (by decide +kernel)
set_option maxRecDepth 20000 in
theorem gX3_see_X1_has_n92 : GoodIn wsX3_see (wsX1_has) := ggX3_see_X1_has
theorem dX3_see_0 : decode cX3_see 0 = .ok (.aload_n 0, 1) := by decide +kernel
theorem dX3_see_1 : decode cX3_see 1 = .ok (.getfield 19, 3) := by decide +kernel
theorem dX3_see_4 : decode cX3_see 4 = .ok (.iload_n 1, 1) := by decide +kernel
theorem dX3_see_5 : decode cX3_see 5 = .ok (.invokevirtual 92, 3) := by decide +kernel
theorem dX3_see_8 : decode cX3_see 8 = .ok (.ifCond .eq 14, 3) := by decide +kernel
theorem dX3_see_11 : decode cX3_see 11 = .ok (.aload_n 0, 1) := by decide +kernel
theorem dX3_see_12 : decode cX3_see 12 = .ok (.getfield 19, 3) := by decide +kernel
theorem dX3_see_15 : decode cX3_see 15 = .ok (.iload_n 2, 1) := by decide +kernel
theorem dX3_see_16 : decode cX3_see 16 = .ok (.invokevirtual 92, 3) := by decide +kernel
theorem dX3_see_19 : decode cX3_see 19 = .ok (.ifCond .ne 5, 3) := by decide +kernel
theorem dX3_see_22 : decode cX3_see 22 = .ok (.iconst (-1), 1) := by decide +kernel
theorem dX3_see_23 : decode cX3_see 23 = .ok (.ireturn, 1) := by decide +kernel
theorem dX3_see_24 : decode cX3_see 24 = .ok (.iload_n 1, 1) := by decide +kernel
theorem dX3_see_25 : decode cX3_see 25 = .ok (.iload_n 2, 1) := by decide +kernel
theorem dX3_see_26 : decode cX3_see 26 = .ok (.if_icmp .ne 6, 3) := by decide +kernel
theorem dX3_see_29 : decode cX3_see 29 = .ok (.bipush (-2), 2) := by decide +kernel
theorem dX3_see_31 : decode cX3_see 31 = .ok (.ireturn, 1) := by decide +kernel
theorem dX3_see_32 : decode cX3_see 32 = .ok (.aload_n 0, 1) := by decide +kernel
theorem dX3_see_33 : decode cX3_see 33 = .ok (.getfield 89, 3) := by decide +kernel
theorem dX3_see_36 : decode cX3_see 36 = .ok (.bipush 6, 2) := by decide +kernel
theorem dX3_see_38 : decode cX3_see 38 = .ok (.if_icmp .lt 6, 3) := by decide +kernel
theorem dX3_see_41 : decode cX3_see 41 = .ok (.bipush (-4), 2) := by decide +kernel
theorem dX3_see_43 : decode cX3_see 43 = .ok (.ireturn, 1) := by decide +kernel
theorem dX3_see_44 : decode cX3_see 44 = .ok (.aload_n 0, 1) := by decide +kernel
theorem dX3_see_45 : decode cX3_see 45 = .ok (.getfield 37, 3) := by decide +kernel
theorem dX3_see_48 : decode cX3_see 48 = .ok (.aload_n 0, 1) := by decide +kernel
theorem dX3_see_49 : decode cX3_see 49 = .ok (.getfield 89, 3) := by decide +kernel
theorem dX3_see_52 : decode cX3_see 52 = .ok (.bipush 10, 2) := by decide +kernel
theorem dX3_see_54 : decode cX3_see 54 = .ok (.iload_n 1, 1) := by decide +kernel
theorem dX3_see_55 : decode cX3_see 55 = .ok (.imul, 1) := by decide +kernel
theorem dX3_see_56 : decode cX3_see 56 = .ok (.iload_n 2, 1) := by decide +kernel
theorem dX3_see_57 : decode cX3_see 57 = .ok (.iadd, 1) := by decide +kernel
theorem dX3_see_58 : decode cX3_see 58 = .ok (.iastore, 1) := by decide +kernel
theorem dX3_see_59 : decode cX3_see 59 = .ok (.aload_n 0, 1) := by decide +kernel
theorem dX3_see_60 : decode cX3_see 60 = .ok (.dup, 1) := by decide +kernel
theorem dX3_see_61 : decode cX3_see 61 = .ok (.getfield 89, 3) := by decide +kernel
theorem dX3_see_64 : decode cX3_see 64 = .ok (.iconst 1, 1) := by decide +kernel
theorem dX3_see_65 : decode cX3_see 65 = .ok (.iadd, 1) := by decide +kernel
theorem dX3_see_66 : decode cX3_see 66 = .ok (.putfield 89, 3) := by decide +kernel
theorem dX3_see_69 : decode cX3_see 69 = .ok (.aload_n 0, 1) := by decide +kernel
theorem dX3_see_70 : decode cX3_see 70 = .ok (.getfield 89, 3) := by decide +kernel
theorem dX3_see_73 : decode cX3_see 73 = .ok (.ireturn, 1) := by decide +kernel
theorem dX3_unsee_0 : decode cX3_unsee 0 = .ok (.aload_n 0, 1) := by decide +kernel
theorem dX3_unsee_1 : decode cX3_unsee 1 = .ok (.getfield 89, 3) := by decide +kernel
theorem dX3_unsee_4 : decode cX3_unsee 4 = .ok (.istore_n 1, 1) := by decide +kernel
theorem dX3_unsee_5 : decode cX3_unsee 5 = .ok (.aload_n 0, 1) := by decide +kernel
theorem dX3_unsee_6 : decode cX3_unsee 6 = .ok (.iconst 0, 1) := by decide +kernel
theorem dX3_unsee_7 : decode cX3_unsee 7 = .ok (.putfield 89, 3) := by decide +kernel
theorem dX3_unsee_10 : decode cX3_unsee 10 = .ok (.iload_n 1, 1) := by decide +kernel
theorem dX3_unsee_11 : decode cX3_unsee 11 = .ok (.ireturn, 1) := by decide +kernel
set_option maxRecDepth 20000 in
theorem ggX3_did_X1_has : GoodIn wsX3_did wsX1_has := goodIn_r _ [6, 7, 75, 76, 77, 78, 79, 80, 81] (by decide +kernel) (by decide +kernel)
set_option maxRecDepth 20000 in
theorem gX3_did_X1_has_n92 : GoodIn wsX3_did (wsX1_has) := ggX3_did_X1_has
set_option maxRecDepth 20000 in
theorem ggX3_did_X1_copy : GoodIn wsX3_did wsX1_copy := goodIn_r _ [10, 7, 11, 12, 13, 14, 15, 16, 75, 76, 77, 78, 79, 80, 81] (by decide +kernel) (by decide +kernel)
set_option maxRecDepth 20000 in
theorem gX3_did_X1_copy_n59 : GoodIn wsX3_did (wsX1_copy) := ggX3_did_X1_copy
set_option maxRecDepth 20000 in
theorem ggX3_did_X1_setDeed : GoodIn wsX3_did wsX1_setDeed := goodIn_r _ [19, 12, 75, 76, 77, 78, 79, 80, 81] (by decide +kernel) (by decide +kernel)
set_option maxRecDepth 20000 in
theorem gX3_did_X1_setDeed_n141 : GoodIn wsX3_did (wsX1_setDeed) := ggX3_did_X1_setDeed
set_option maxRecDepth 20000 in
theorem ggX3_did_X3_allSeenIsSo : GoodIn wsX3_did wsX3_allSeenIsSo := goodIn_r _ [24, 25, 26, 27, 28, 29, 23, 30, 2, 3, 4, 5, 6, 7, 31, 32, 33, 14, 34, 35, 36, 37, 38, 39, 40, 41, 42, 43, 44, 45, 46, 47, 11, 48, 49, 50, 51, 12, 52, 53, 54, 55, 13, 56, 57, 58, 59, 60, 61, 62, 64, 65, 66, 67, 68, 69, 70, 71, 72, 73, 74, 75, 76, 77, 78, 79, 80, 81] (by decide +kernel) (by decide +kernel)
set_option maxRecDepth 20000 in
theorem gX3_did_X3_allSeenIsSo : GoodIn wsX3_did (wsV RX3 183 RX3 yX3_allSeenIsSo wsX3_allSeenIsSo) := goodIn_app (goodIn_of _ (by decide +kernel)) ggX3_did_X3_allSeenIsSo
set_option maxRecDepth 20000 in
theorem ggX3_did_X3_bit : GoodIn wsX3_did wsX3_bit := goodIn_r _ [57] (by decide +kernel) (by decide +kernel)
set_option maxRecDepth 20000 in
theorem gX3_did_X3_bit : GoodIn wsX3_did (va_wsS RX3 123 yX3_bit wsX3_bit) := goodIn_app (goodIn_of _ (by decide +kernel)) ggX3_did_X3_bit
theorem dX3_did_0 : decode cX3_did 0 = .ok (.aload_n 0, 1) := by decide +kernel
theorem dX3_did_1 : decode cX3_did 1 = .ok (.getfield 19, 3) := by decide +kernel
theorem dX3_did_4 : decode cX3_did 4 = .ok (.iload_n 1, 1) := by decide +kernel
theorem dX3_did_5 : decode cX3_did 5 = .ok (.invokevirtual 92, 3) := by decide +kernel
theorem dX3_did_8 : decode cX3_did 8 = .ok (.ifCond .ne 5, 3) := by decide +kernel
theorem dX3_did_11 : decode cX3_did 11 = .ok (.iconst (-1), 1) := by decide +kernel
theorem dX3_did_12 : decode cX3_did 12 = .ok (.ireturn, 1) := by decide +kernel
theorem dX3_did_13 : decode cX3_did 13 = .ok (.aload_n 0, 1) := by decide +kernel
theorem dX3_did_14 : decode cX3_did 14 = .ok (.getfield 23, 3) := by decide +kernel
theorem dX3_did_17 : decode cX3_did 17 = .ok (.aload_n 0, 1) := by decide +kernel
theorem dX3_did_18 : decode cX3_did 18 = .ok (.getfield 19, 3) := by decide +kernel
theorem dX3_did_21 : decode cX3_did 21 = .ok (.invokevirtual 59, 3) := by decide +kernel
theorem dX3_did_24 : decode cX3_did 24 = .ok (.iconst 0, 1) := by decide +kernel
theorem dX3_did_25 : decode cX3_did 25 = .ok (.istore_n 2, 1) := by decide +kernel
theorem dX3_did_26 : decode cX3_did 26 = .ok (.iconst 0, 1) := by decide +kernel
theorem dX3_did_27 : decode cX3_did 27 = .ok (.istore_n 3, 1) := by decide +kernel
theorem dX3_did_28 : decode cX3_did 28 = .ok (.iload_n 3, 1) := by decide +kernel
theorem dX3_did_29 : decode cX3_did 29 = .ok (.bipush 10, 2) := by decide +kernel
theorem dX3_did_31 : decode cX3_did 31 = .ok (.if_icmp .ge 32, 3) := by decide +kernel
theorem dX3_did_34 : decode cX3_did 34 = .ok (.aload_n 0, 1) := by decide +kernel
theorem dX3_did_35 : decode cX3_did 35 = .ok (.getfield 23, 3) := by decide +kernel
theorem dX3_did_38 : decode cX3_did 38 = .ok (.iload_n 1, 1) := by decide +kernel
theorem dX3_did_39 : decode cX3_did 39 = .ok (.iload_n 3, 1) := by decide +kernel
theorem dX3_did_40 : decode cX3_did 40 = .ok (.invokevirtual 141, 3) := by decide +kernel
theorem dX3_did_43 : decode cX3_did 43 = .ok (.aload_n 0, 1) := by decide +kernel
theorem dX3_did_44 : decode cX3_did 44 = .ok (.invokevirtual 183, 3) := by decide +kernel
theorem dX3_did_47 : decode cX3_did 47 = .ok (.ifCond .eq 10, 3) := by decide +kernel
theorem dX3_did_50 : decode cX3_did 50 = .ok (.iload_n 2, 1) := by decide +kernel
theorem dX3_did_51 : decode cX3_did 51 = .ok (.iload_n 3, 1) := by decide +kernel
theorem dX3_did_52 : decode cX3_did 52 = .ok (.invokestatic 123, 3) := by decide +kernel
theorem dX3_did_55 : decode cX3_did 55 = .ok (.ior, 1) := by decide +kernel
theorem dX3_did_56 : decode cX3_did 56 = .ok (.istore_n 2, 1) := by decide +kernel
theorem dX3_did_57 : decode cX3_did 57 = .ok (.iinc 3 1, 3) := by decide +kernel
theorem dX3_did_60 : decode cX3_did 60 = .ok (.goto (-32), 3) := by decide +kernel
theorem dX3_did_63 : decode cX3_did 63 = .ok (.iload_n 2, 1) := by decide +kernel
theorem dX3_did_64 : decode cX3_did 64 = .ok (.ireturn, 1) := by decide +kernel
set_option maxRecDepth 20000 in
theorem ggX3_rests_X1_has : GoodIn wsX3_rests wsX1_has := goodIn_r _ [5, 6, 87, 88, 89, 90, 91, 92, 93] (by decide +kernel) (by decide +kernel)
set_option maxRecDepth 20000 in
theorem gX3_rests_X1_has_n92 : GoodIn wsX3_rests (wsX1_has) := ggX3_rests_X1_has
set_option maxRecDepth 20000 in
theorem ggX3_rests_X3_isIn : GoodIn wsX3_rests wsX3_isIn := goodIn_r _ [10] (by decide +kernel) (by decide +kernel)
set_option maxRecDepth 20000 in
theorem gX3_rests_X3_isIn : GoodIn wsX3_rests (va_wsS RX3 107 yX3_isIn wsX3_isIn) := goodIn_app (goodIn_of _ (by decide +kernel)) ggX3_rests_X3_isIn
set_option maxRecDepth 20000 in
theorem ggX3_rests_X3_weighChoices : GoodIn wsX3_rests wsX3_weighChoices := goodIn_r _ [14, 15, 1, 16, 17, 18, 3, 19, 20, 6, 21, 22, 23, 24, 25, 26, 27, 28, 9, 29, 30, 31, 32, 33, 34, 35, 36, 37, 38, 39, 40, 41, 42, 43, 44, 45, 46, 8, 10, 47, 48, 49, 50, 51, 52, 53, 54, 55, 56, 57, 58, 59, 60, 61, 62, 63, 64, 65, 66, 7, 67, 68, 69, 70, 71, 76, 77, 78, 79, 80, 81, 82, 83, 84, 85, 86, 87, 88, 89, 90, 91, 92, 93] (by decide +kernel) (by decide +kernel)
set_option maxRecDepth 20000 in
theorem gX3_rests_X3_weighChoices : GoodIn wsX3_rests (wsV RX3 187 RX3 yX3_weighChoices wsX3_weighChoices) := goodIn_app (goodIn_of _ (by decide +kernel)) ggX3_rests_X3_weighChoices
set_option maxRecDepth 20000 in
theorem ggX3_rests_X3_isRest : GoodIn wsX3_rests wsX3_isRest := goodIn_r _ [75, 1, 16, 17, 76, 77, 78, 79, 80, 81, 82, 83, 84, 85, 86, 87, 88, 89, 90, 91, 92, 93] (by decide +kernel) (by decide +kernel)
set_option maxRecDepth 20000 in
theorem gX3_rests_X3_isRest : GoodIn wsX3_rests (wsV RX3 190 RX3 yX3_isRest wsX3_isRest) := goodIn_app (goodIn_of _ (by decide +kernel)) ggX3_rests_X3_isRest
theorem dX3_rests_0 : decode cX3_rests 0 = .ok (.aload_n 0, 1) := by decide +kernel
theorem dX3_rests_1 : decode cX3_rests 1 = .ok (.getfield 19, 3) := by decide +kernel
theorem dX3_rests_4 : decode cX3_rests 4 = .ok (.iload_n 1, 1) := by decide +kernel
theorem dX3_rests_5 : decode cX3_rests 5 = .ok (.invokevirtual 92, 3) := by decide +kernel
theorem dX3_rests_8 : decode cX3_rests 8 = .ok (.ifCond .eq 14, 3) := by decide +kernel
theorem dX3_rests_11 : decode cX3_rests 11 = .ok (.aload_n 0, 1) := by decide +kernel
theorem dX3_rests_12 : decode cX3_rests 12 = .ok (.getfield 19, 3) := by decide +kernel
theorem dX3_rests_15 : decode cX3_rests 15 = .ok (.iload_n 2, 1) := by decide +kernel
theorem dX3_rests_16 : decode cX3_rests 16 = .ok (.invokevirtual 92, 3) := by decide +kernel
theorem dX3_rests_19 : decode cX3_rests 19 = .ok (.ifCond .ne 5, 3) := by decide +kernel
theorem dX3_rests_22 : decode cX3_rests 22 = .ok (.iconst (-1), 1) := by decide +kernel
theorem dX3_rests_23 : decode cX3_rests 23 = .ok (.ireturn, 1) := by decide +kernel
theorem dX3_rests_24 : decode cX3_rests 24 = .ok (.iload_n 1, 1) := by decide +kernel
theorem dX3_rests_25 : decode cX3_rests 25 = .ok (.iload_n 2, 1) := by decide +kernel
theorem dX3_rests_26 : decode cX3_rests 26 = .ok (.if_icmp .eq 12, 3) := by decide +kernel
theorem dX3_rests_29 : decode cX3_rests 29 = .ok (.iload_n 3, 1) := by decide +kernel
theorem dX3_rests_30 : decode cX3_rests 30 = .ok (.ifCond .lt 8, 3) := by decide +kernel
theorem dX3_rests_33 : decode cX3_rests 33 = .ok (.iload_n 3, 1) := by decide +kernel
theorem dX3_rests_34 : decode cX3_rests 34 = .ok (.iconst 1, 1) := by decide +kernel
theorem dX3_rests_35 : decode cX3_rests 35 = .ok (.if_icmp .le 6, 3) := by decide +kernel
theorem dX3_rests_38 : decode cX3_rests 38 = .ok (.bipush (-2), 2) := by decide +kernel
theorem dX3_rests_40 : decode cX3_rests 40 = .ok (.ireturn, 1) := by decide +kernel
theorem dX3_rests_41 : decode cX3_rests 41 = .ok (.aload_n 0, 1) := by decide +kernel
theorem dX3_rests_42 : decode cX3_rests 42 = .ok (.getfield 19, 3) := by decide +kernel
theorem dX3_rests_45 : decode cX3_rests 45 = .ok (.getfield 72, 3) := by decide +kernel
theorem dX3_rests_48 : decode cX3_rests 48 = .ok (.iload_n 1, 1) := by decide +kernel
theorem dX3_rests_49 : decode cX3_rests 49 = .ok (.invokestatic 107, 3) := by decide +kernel
theorem dX3_rests_52 : decode cX3_rests 52 = .ok (.ifCond .eq 17, 3) := by decide +kernel
theorem dX3_rests_55 : decode cX3_rests 55 = .ok (.aload_n 0, 1) := by decide +kernel
theorem dX3_rests_56 : decode cX3_rests 56 = .ok (.getfield 19, 3) := by decide +kernel
theorem dX3_rests_59 : decode cX3_rests 59 = .ok (.getfield 72, 3) := by decide +kernel
theorem dX3_rests_62 : decode cX3_rests 62 = .ok (.iload_n 2, 1) := by decide +kernel
theorem dX3_rests_63 : decode cX3_rests 63 = .ok (.invokestatic 107, 3) := by decide +kernel
theorem dX3_rests_66 : decode cX3_rests 66 = .ok (.ifCond .ne 6, 3) := by decide +kernel
theorem dX3_rests_69 : decode cX3_rests 69 = .ok (.bipush (-3), 2) := by decide +kernel
theorem dX3_rests_71 : decode cX3_rests 71 = .ok (.ireturn, 1) := by decide +kernel
theorem dX3_rests_72 : decode cX3_rests 72 = .ok (.aload_n 0, 1) := by decide +kernel
theorem dX3_rests_73 : decode cX3_rests 73 = .ok (.iload_n 1, 1) := by decide +kernel
theorem dX3_rests_74 : decode cX3_rests 74 = .ok (.iload_n 2, 1) := by decide +kernel
theorem dX3_rests_75 : decode cX3_rests 75 = .ok (.invokevirtual 187, 3) := by decide +kernel
theorem dX3_rests_78 : decode cX3_rests 78 = .ok (.iconst 0, 1) := by decide +kernel
theorem dX3_rests_79 : decode cX3_rests 79 = .ok (.istore 4, 2) := by decide +kernel
theorem dX3_rests_81 : decode cX3_rests 81 = .ok (.bipush (-9), 2) := by decide +kernel
theorem dX3_rests_83 : decode cX3_rests 83 = .ok (.istore 5, 2) := by decide +kernel
theorem dX3_rests_85 : decode cX3_rests 85 = .ok (.iconst 0, 1) := by decide +kernel
theorem dX3_rests_86 : decode cX3_rests 86 = .ok (.istore 6, 2) := by decide +kernel
theorem dX3_rests_88 : decode cX3_rests 88 = .ok (.iload 6, 2) := by decide +kernel
theorem dX3_rests_90 : decode cX3_rests 90 = .ok (.aload_n 0, 1) := by decide +kernel
theorem dX3_rests_91 : decode cX3_rests 91 = .ok (.getfield 19, 3) := by decide +kernel
theorem dX3_rests_94 : decode cX3_rests 94 = .ok (.getfield 69, 3) := by decide +kernel
theorem dX3_rests_97 : decode cX3_rests 97 = .ok (.if_icmp .gt 64, 3) := by decide +kernel
theorem dX3_rests_100 : decode cX3_rests 100 = .ok (.iconst 0, 1) := by decide +kernel
theorem dX3_rests_101 : decode cX3_rests 101 = .ok (.istore 7, 2) := by decide +kernel
theorem dX3_rests_103 : decode cX3_rests 103 = .ok (.iload 7, 2) := by decide +kernel
theorem dX3_rests_105 : decode cX3_rests 105 = .ok (.aload_n 0, 1) := by decide +kernel
theorem dX3_rests_106 : decode cX3_rests 106 = .ok (.getfield 19, 3) := by decide +kernel
theorem dX3_rests_109 : decode cX3_rests 109 = .ok (.getfield 69, 3) := by decide +kernel
theorem dX3_rests_112 : decode cX3_rests 112 = .ok (.if_icmp .gt 43, 3) := by decide +kernel
theorem dX3_rests_115 : decode cX3_rests 115 = .ok (.aload_n 0, 1) := by decide +kernel
theorem dX3_rests_116 : decode cX3_rests 116 = .ok (.iload 6, 2) := by decide +kernel
theorem dX3_rests_118 : decode cX3_rests 118 = .ok (.iload 7, 2) := by decide +kernel
theorem dX3_rests_120 : decode cX3_rests 120 = .ok (.invokevirtual 190, 3) := by decide +kernel
theorem dX3_rests_123 : decode cX3_rests 123 = .ok (.ifCond .eq 26, 3) := by decide +kernel
theorem dX3_rests_126 : decode cX3_rests 126 = .ok (.iload 4, 2) := by decide +kernel
theorem dX3_rests_128 : decode cX3_rests 128 = .ok (.ifCond .ne 14, 3) := by decide +kernel
theorem dX3_rests_131 : decode cX3_rests 131 = .ok (.bipush 10, 2) := by decide +kernel
theorem dX3_rests_133 : decode cX3_rests 133 = .ok (.iload 6, 2) := by decide +kernel
theorem dX3_rests_135 : decode cX3_rests 135 = .ok (.imul, 1) := by decide +kernel
theorem dX3_rests_136 : decode cX3_rests 136 = .ok (.iload 7, 2) := by decide +kernel
theorem dX3_rests_138 : decode cX3_rests 138 = .ok (.iadd, 1) := by decide +kernel
theorem dX3_rests_139 : decode cX3_rests 139 = .ok (.goto 5, 3) := by decide +kernel
theorem dX3_rests_142 : decode cX3_rests 142 = .ok (.iload 5, 2) := by decide +kernel
theorem dX3_rests_144 : decode cX3_rests 144 = .ok (.istore 5, 2) := by decide +kernel
theorem dX3_rests_146 : decode cX3_rests 146 = .ok (.iinc 4 1, 3) := by decide +kernel
theorem dX3_rests_149 : decode cX3_rests 149 = .ok (.iinc 7 1, 3) := by decide +kernel
theorem dX3_rests_152 : decode cX3_rests 152 = .ok (.goto (-49), 3) := by decide +kernel
theorem dX3_rests_155 : decode cX3_rests 155 = .ok (.iinc 6 1, 3) := by decide +kernel
theorem dX3_rests_158 : decode cX3_rests 158 = .ok (.goto (-70), 3) := by decide +kernel
theorem dX3_rests_161 : decode cX3_rests 161 = .ok (.iload_n 3, 1) := by decide +kernel
theorem dX3_rests_162 : decode cX3_rests 162 = .ok (.ifCond .ne 8, 3) := by decide +kernel
theorem dX3_rests_165 : decode cX3_rests 165 = .ok (.iload 4, 2) := by decide +kernel
theorem dX3_rests_167 : decode cX3_rests 167 = .ok (.goto 5, 3) := by decide +kernel
theorem dX3_rests_170 : decode cX3_rests 170 = .ok (.iload 5, 2) := by decide +kernel
theorem dX3_rests_172 : decode cX3_rests 172 = .ok (.ireturn, 1) := by decide +kernel
set_option maxRecDepth 20000 in
theorem ggX3_toss_X1_has : GoodIn wsX3_toss wsX1_has := goodIn_r _ [5, 6, 63, 64, 65, 66, 67, 68, 69] (by decide +kernel) (by decide +kernel)
set_option maxRecDepth 20000 in
theorem gX3_toss_X1_has_n92 : GoodIn wsX3_toss (wsX1_has) := ggX3_toss_X1_has
set_option maxRecDepth 20000 in
theorem ggX3_toss_X1_isTaken : GoodIn wsX3_toss wsX1_isTaken := goodIn_r _ [9, 10, 11, 12, 3, 13, 6, 14, 15, 16, 17, 18, 19, 20, 21, 22, 23, 24, 25, 26, 27, 28, 29, 30, 31, 32, 33, 34, 35, 36, 37, 38, 39, 40, 41, 63, 64, 65, 66, 67, 68, 69] (by decide +kernel) (by decide +kernel)
set_option maxRecDepth 20000 in
theorem gX3_toss_X1_isTaken_n161 : GoodIn wsX3_toss (wsX1_isTaken) := ggX3_toss_X1_isTaken
set_option maxRecDepth 20000 in
theorem ggX3_toss_X3_inLeastTerms : GoodIn wsX3_toss wsX3_inLeastTerms := goodIn_r _ [44, 45, 46, 47, 48, 49, 50, 19, 51] (by decide +kernel) (by decide +kernel)
set_option maxRecDepth 20000 in
theorem gX3_toss_X3_inLeastTerms : GoodIn wsX3_toss (va_wsS RX3 173 yX3_inLeastTerms wsX3_inLeastTerms) := goodIn_app (goodIn_of _ (by decide +kernel)) ggX3_toss_X3_inLeastTerms
theorem dX3_toss_0 : decode cX3_toss 0 = .ok (.aload_n 0, 1) := by decide +kernel
theorem dX3_toss_1 : decode cX3_toss 1 = .ok (.getfield 19, 3) := by decide +kernel
theorem dX3_toss_4 : decode cX3_toss 4 = .ok (.iload_n 1, 1) := by decide +kernel
theorem dX3_toss_5 : decode cX3_toss 5 = .ok (.invokevirtual 92, 3) := by decide +kernel
theorem dX3_toss_8 : decode cX3_toss 8 = .ok (.ifCond .ne 5, 3) := by decide +kernel
theorem dX3_toss_11 : decode cX3_toss 11 = .ok (.iconst (-1), 1) := by decide +kernel
theorem dX3_toss_12 : decode cX3_toss 12 = .ok (.ireturn, 1) := by decide +kernel
theorem dX3_toss_13 : decode cX3_toss 13 = .ok (.aload_n 0, 1) := by decide +kernel
theorem dX3_toss_14 : decode cX3_toss 14 = .ok (.getfield 19, 3) := by decide +kernel
theorem dX3_toss_17 : decode cX3_toss 17 = .ok (.iload_n 1, 1) := by decide +kernel
theorem dX3_toss_18 : decode cX3_toss 18 = .ok (.aload_n 0, 1) := by decide +kernel
theorem dX3_toss_19 : decode cX3_toss 19 = .ok (.getfield 19, 3) := by decide +kernel
theorem dX3_toss_22 : decode cX3_toss 22 = .ok (.getfield 72, 3) := by decide +kernel
theorem dX3_toss_25 : decode cX3_toss 25 = .ok (.invokevirtual 161, 3) := by decide +kernel
theorem dX3_toss_28 : decode cX3_toss 28 = .ok (.ifCond .eq 7, 3) := by decide +kernel
theorem dX3_toss_31 : decode cX3_toss 31 = .ok (.iconst 1, 1) := by decide +kernel
theorem dX3_toss_32 : decode cX3_toss 32 = .ok (.goto 4, 3) := by decide +kernel
theorem dX3_toss_35 : decode cX3_toss 35 = .ok (.iconst 0, 1) := by decide +kernel
theorem dX3_toss_36 : decode cX3_toss 36 = .ok (.iconst 1, 1) := by decide +kernel
theorem dX3_toss_37 : decode cX3_toss 37 = .ok (.iload_n 2, 1) := by decide +kernel
theorem dX3_toss_38 : decode cX3_toss 38 = .ok (.invokestatic 173, 3) := by decide +kernel
theorem dX3_toss_41 : decode cX3_toss 41 = .ok (.ireturn, 1) := by decide +kernel
theorem dX3_seed_0 : decode cX3_seed 0 = .ok (.aload_n 0, 1) := by decide +kernel
theorem dX3_seed_1 : decode cX3_seed 1 = .ok (.getfield 193, 3) := by decide +kernel
theorem dX3_seed_4 : decode cX3_seed 4 = .ok (.lstore_n 3, 1) := by decide +kernel
theorem dX3_seed_5 : decode cX3_seed 5 = .ok (.aload_n 0, 1) := by decide +kernel
theorem dX3_seed_6 : decode cX3_seed 6 = .ok (.lload_n 1, 1) := by decide +kernel
theorem dX3_seed_7 : decode cX3_seed 7 = .ok (.putfield 193, 3) := by decide +kernel
theorem dX3_seed_10 : decode cX3_seed 10 = .ok (.lload_n 3, 1) := by decide +kernel
theorem dX3_seed_11 : decode cX3_seed 11 = .ok (.lreturn, 1) := by decide +kernel
set_option maxRecDepth 20000 in
theorem ggX3_days_X1_copy : GoodIn wsX3_days wsX1_copy := goodIn_r _ [9, 10, 11, 12, 13, 14, 15, 16, 67, 68, 69, 70, 71, 72, 73] (by decide +kernel) (by decide +kernel)
set_option maxRecDepth 20000 in
theorem gX3_days_X1_copy_n59 : GoodIn wsX3_days (wsX1_copy) := ggX3_days_X1_copy
set_option maxRecDepth 20000 in
theorem ggX3_days_X1_passDay : GoodIn wsX3_days wsX1_passDay := goodIn_r _ [19, 14, 16, 20, 21, 22, 7, 23, 10, 24, 25, 26, 27, 28, 29, 30, 31, 32, 33, 34, 11, 35, 36, 37, 38, 12, 39, 40, 41, 42, 13, 43, 44, 45, 46, 47, 48, 49, 67, 68, 69, 70, 71, 72, 73] (by decide +kernel) (by decide +kernel)
set_option maxRecDepth 20000 in
theorem gX3_days_X1_passDay_n145 : GoodIn wsX3_days (wsX1_passDay) := ggX3_days_X1_passDay
set_option maxRecDepth 20000 in
theorem ggX3_days_X1_has : GoodIn wsX3_days wsX1_has := goodIn_r _ [52, 10, 67, 68, 69, 70, 71, 72, 73] (by decide +kernel) (by decide +kernel)
set_option maxRecDepth 20000 in
theorem gX3_days_X1_has_n92 : GoodIn wsX3_days (wsX1_has) := ggX3_days_X1_has
set_option maxRecDepth 20000 in
theorem ggX3_days_X1_bury : GoodIn wsX3_days wsX1_bury := goodIn_r _ [55, 14, 15, 48, 25, 49, 43, 44, 67, 68, 69, 70, 71, 72, 73] (by decide +kernel) (by decide +kernel)
set_option maxRecDepth 20000 in
theorem gX3_days_X1_bury_n126 : GoodIn wsX3_days (wsX1_bury) := ggX3_days_X1_bury
theorem dX3_days_0 : decode cX3_days 0 = .ok (.iload_n 1, 1) := by decide +kernel
theorem dX3_days_1 : decode cX3_days 1 = .ok (.iconst 1, 1) := by decide +kernel
theorem dX3_days_2 : decode cX3_days 2 = .ok (.if_icmp .lt 9, 3) := by decide +kernel
theorem dX3_days_5 : decode cX3_days 5 = .ok (.iload_n 1, 1) := by decide +kernel
theorem dX3_days_6 : decode cX3_days 6 = .ok (.bipush 30, 2) := by decide +kernel
theorem dX3_days_8 : decode cX3_days 8 = .ok (.if_icmp .le 6, 3) := by decide +kernel
theorem dX3_days_11 : decode cX3_days 11 = .ok (.bipush (-2), 2) := by decide +kernel
theorem dX3_days_13 : decode cX3_days 13 = .ok (.ireturn, 1) := by decide +kernel
theorem dX3_days_14 : decode cX3_days 14 = .ok (.aload_n 0, 1) := by decide +kernel
theorem dX3_days_15 : decode cX3_days 15 = .ok (.getfield 23, 3) := by decide +kernel
theorem dX3_days_18 : decode cX3_days 18 = .ok (.aload_n 0, 1) := by decide +kernel
theorem dX3_days_19 : decode cX3_days 19 = .ok (.getfield 19, 3) := by decide +kernel
theorem dX3_days_22 : decode cX3_days 22 = .ok (.invokevirtual 59, 3) := by decide +kernel
theorem dX3_days_25 : decode cX3_days 25 = .ok (.iconst 0, 1) := by decide +kernel
theorem dX3_days_26 : decode cX3_days 26 = .ok (.istore_n 2, 1) := by decide +kernel
theorem dX3_days_27 : decode cX3_days 27 = .ok (.iconst 0, 1) := by decide +kernel
theorem dX3_days_28 : decode cX3_days 28 = .ok (.istore_n 3, 1) := by decide +kernel
theorem dX3_days_29 : decode cX3_days 29 = .ok (.iload_n 3, 1) := by decide +kernel
theorem dX3_days_30 : decode cX3_days 30 = .ok (.iload_n 1, 1) := by decide +kernel
theorem dX3_days_31 : decode cX3_days 31 = .ok (.if_icmp .ge 89, 3) := by decide +kernel
theorem dX3_days_34 : decode cX3_days 34 = .ok (.aload_n 0, 1) := by decide +kernel
theorem dX3_days_35 : decode cX3_days 35 = .ok (.aload_n 0, 1) := by decide +kernel
theorem dX3_days_36 : decode cX3_days 36 = .ok (.getfield 193, 3) := by decide +kernel
theorem dX3_days_39 : decode cX3_days 39 = .ok (.ldc2_w 196, 3) := by decide +kernel
theorem dX3_days_42 : decode cX3_days 42 = .ok (.lmul, 1) := by decide +kernel
theorem dX3_days_43 : decode cX3_days 43 = .ok (.ldc2_w 198, 3) := by decide +kernel
theorem dX3_days_46 : decode cX3_days 46 = .ok (.ladd, 1) := by decide +kernel
theorem dX3_days_47 : decode cX3_days 47 = .ok (.putfield 193, 3) := by decide +kernel
theorem dX3_days_50 : decode cX3_days 50 = .ok (.aload_n 0, 1) := by decide +kernel
theorem dX3_days_51 : decode cX3_days 51 = .ok (.getfield 193, 3) := by decide +kernel
theorem dX3_days_54 : decode cX3_days 54 = .ok (.bipush 33, 2) := by decide +kernel
theorem dX3_days_56 : decode cX3_days 56 = .ok (.lushr, 1) := by decide +kernel
theorem dX3_days_57 : decode cX3_days 57 = .ok (.l2i, 1) := by decide +kernel
theorem dX3_days_58 : decode cX3_days 58 = .ok (.bipush 12, 2) := by decide +kernel
theorem dX3_days_60 : decode cX3_days 60 = .ok (.irem, 1) := by decide +kernel
theorem dX3_days_61 : decode cX3_days 61 = .ok (.istore 4, 2) := by decide +kernel
theorem dX3_days_63 : decode cX3_days 63 = .ok (.iload 4, 2) := by decide +kernel
theorem dX3_days_65 : decode cX3_days 65 = .ok (.bipush 7, 2) := by decide +kernel
theorem dX3_days_67 : decode cX3_days 67 = .ok (.if_icmp .lt 26, 3) := by decide +kernel
theorem dX3_days_70 : decode cX3_days 70 = .ok (.iload_n 2, 1) := by decide +kernel
theorem dX3_days_71 : decode cX3_days 71 = .ok (.aload_n 0, 1) := by decide +kernel
theorem dX3_days_72 : decode cX3_days 72 = .ok (.getfield 23, 3) := by decide +kernel
theorem dX3_days_75 : decode cX3_days 75 = .ok (.invokevirtual 145, 3) := by decide +kernel
theorem dX3_days_78 : decode cX3_days 78 = .ok (.bipush (-9), 2) := by decide +kernel
theorem dX3_days_80 : decode cX3_days 80 = .ok (.if_icmp .ne 7, 3) := by decide +kernel
theorem dX3_days_83 : decode cX3_days 83 = .ok (.iconst 0, 1) := by decide +kernel
theorem dX3_days_84 : decode cX3_days 84 = .ok (.goto 4, 3) := by decide +kernel
theorem dX3_days_87 : decode cX3_days 87 = .ok (.iconst 1, 1) := by decide +kernel
theorem dX3_days_88 : decode cX3_days 88 = .ok (.iadd, 1) := by decide +kernel
theorem dX3_days_89 : decode cX3_days 89 = .ok (.istore_n 2, 1) := by decide +kernel
theorem dX3_days_90 : decode cX3_days 90 = .ok (.goto 24, 3) := by decide +kernel
theorem dX3_days_93 : decode cX3_days 93 = .ok (.aload_n 0, 1) := by decide +kernel
theorem dX3_days_94 : decode cX3_days 94 = .ok (.getfield 23, 3) := by decide +kernel
theorem dX3_days_97 : decode cX3_days 97 = .ok (.iload 4, 2) := by decide +kernel
theorem dX3_days_99 : decode cX3_days 99 = .ok (.invokevirtual 92, 3) := by decide +kernel
theorem dX3_days_102 : decode cX3_days 102 = .ok (.ifCond .eq 12, 3) := by decide +kernel
theorem dX3_days_105 : decode cX3_days 105 = .ok (.aload_n 0, 1) := by decide +kernel
theorem dX3_days_106 : decode cX3_days 106 = .ok (.getfield 23, 3) := by decide +kernel
theorem dX3_days_109 : decode cX3_days 109 = .ok (.iload 4, 2) := by decide +kernel
theorem dX3_days_111 : decode cX3_days 111 = .ok (.invokevirtual 126, 3) := by decide +kernel
theorem dX3_days_114 : decode cX3_days 114 = .ok (.iinc 3 1, 3) := by decide +kernel
theorem dX3_days_117 : decode cX3_days 117 = .ok (.goto (-88), 3) := by decide +kernel
theorem dX3_days_120 : decode cX3_days 120 = .ok (.iload_n 2, 1) := by decide +kernel
theorem dX3_days_121 : decode cX3_days 121 = .ok (.ireturn, 1) := by decide +kernel
set_option maxRecDepth 20000 in
theorem ggX3_keep_X1_copy : GoodIn wsX3_keep wsX1_copy := goodIn_r _ [7, 8, 9, 10, 11, 12, 13, 14, 30, 31, 32, 33, 34, 35, 36] (by decide +kernel) (by decide +kernel)
set_option maxRecDepth 20000 in
theorem gX3_keep_X1_copy_n59 : GoodIn wsX3_keep (wsX1_copy) := ggX3_keep_X1_copy
set_option maxRecDepth 20000 in
theorem ggX3_keep_X3_bit : GoodIn wsX3_keep wsX3_bit := goodIn_r _ [18] (by decide +kernel) (by decide +kernel)
set_option maxRecDepth 20000 in
theorem gX3_keep_X3_bit : GoodIn wsX3_keep (va_wsS RX3 123 yX3_bit wsX3_bit) := goodIn_app (goodIn_of _ (by decide +kernel)) ggX3_keep_X3_bit
theorem dX3_keep_0 : decode cX3_keep 0 = .ok (.iload_n 1, 1) := by decide +kernel
theorem dX3_keep_1 : decode cX3_keep 1 = .ok (.ifCond .lt 8, 3) := by decide +kernel
theorem dX3_keep_4 : decode cX3_keep 4 = .ok (.iload_n 1, 1) := by decide +kernel
theorem dX3_keep_5 : decode cX3_keep 5 = .ok (.iconst 2, 1) := by decide +kernel
theorem dX3_keep_6 : decode cX3_keep 6 = .ok (.if_icmp .lt 5, 3) := by decide +kernel
theorem dX3_keep_9 : decode cX3_keep 9 = .ok (.iconst (-1), 1) := by decide +kernel
theorem dX3_keep_10 : decode cX3_keep 10 = .ok (.ireturn, 1) := by decide +kernel
theorem dX3_keep_11 : decode cX3_keep 11 = .ok (.aload_n 0, 1) := by decide +kernel
theorem dX3_keep_12 : decode cX3_keep 12 = .ok (.getfield 33, 3) := by decide +kernel
theorem dX3_keep_15 : decode cX3_keep 15 = .ok (.iload_n 1, 1) := by decide +kernel
theorem dX3_keep_16 : decode cX3_keep 16 = .ok (.aaload, 1) := by decide +kernel
theorem dX3_keep_17 : decode cX3_keep 17 = .ok (.aload_n 0, 1) := by decide +kernel
theorem dX3_keep_18 : decode cX3_keep 18 = .ok (.getfield 19, 3) := by decide +kernel
theorem dX3_keep_21 : decode cX3_keep 21 = .ok (.invokevirtual 59, 3) := by decide +kernel
theorem dX3_keep_24 : decode cX3_keep 24 = .ok (.aload_n 0, 1) := by decide +kernel
theorem dX3_keep_25 : decode cX3_keep 25 = .ok (.dup, 1) := by decide +kernel
theorem dX3_keep_26 : decode cX3_keep 26 = .ok (.getfield 66, 3) := by decide +kernel
theorem dX3_keep_29 : decode cX3_keep 29 = .ok (.iload_n 1, 1) := by decide +kernel
theorem dX3_keep_30 : decode cX3_keep 30 = .ok (.invokestatic 123, 3) := by decide +kernel
theorem dX3_keep_33 : decode cX3_keep 33 = .ok (.ior, 1) := by decide +kernel
theorem dX3_keep_34 : decode cX3_keep 34 = .ok (.putfield 66, 3) := by decide +kernel
theorem dX3_keep_37 : decode cX3_keep 37 = .ok (.aload_n 0, 1) := by decide +kernel
theorem dX3_keep_38 : decode cX3_keep 38 = .ok (.getfield 19, 3) := by decide +kernel
theorem dX3_keep_41 : decode cX3_keep 41 = .ok (.getfield 86, 3) := by decide +kernel
theorem dX3_keep_44 : decode cX3_keep 44 = .ok (.ireturn, 1) := by decide +kernel
set_option maxRecDepth 20000 in
theorem ggX3_again_X3_isIn : GoodIn wsX3_again wsX3_isIn := goodIn_r _ [8] (by decide +kernel) (by decide +kernel)
set_option maxRecDepth 20000 in
theorem gX3_again_X3_isIn : GoodIn wsX3_again (va_wsS RX3 107 yX3_isIn wsX3_isIn) := goodIn_app (goodIn_of _ (by decide +kernel)) ggX3_again_X3_isIn
set_option maxRecDepth 20000 in
theorem ggX3_again_X1_copy : GoodIn wsX3_again wsX1_copy := goodIn_r _ [12, 13, 14, 15, 16, 17, 18, 19, 34, 35, 36, 37, 38, 39, 40] (by decide +kernel) (by decide +kernel)
set_option maxRecDepth 20000 in
theorem gX3_again_X1_copy_n59 : GoodIn wsX3_again (wsX1_copy) := ggX3_again_X1_copy
theorem dX3_again_0 : decode cX3_again 0 = .ok (.iload_n 1, 1) := by decide +kernel
theorem dX3_again_1 : decode cX3_again 1 = .ok (.ifCond .lt 8, 3) := by decide +kernel
theorem dX3_again_4 : decode cX3_again 4 = .ok (.iload_n 1, 1) := by decide +kernel
theorem dX3_again_5 : decode cX3_again 5 = .ok (.iconst 2, 1) := by decide +kernel
theorem dX3_again_6 : decode cX3_again 6 = .ok (.if_icmp .lt 5, 3) := by decide +kernel
theorem dX3_again_9 : decode cX3_again 9 = .ok (.iconst (-1), 1) := by decide +kernel
theorem dX3_again_10 : decode cX3_again 10 = .ok (.ireturn, 1) := by decide +kernel
theorem dX3_again_11 : decode cX3_again 11 = .ok (.aload_n 0, 1) := by decide +kernel
theorem dX3_again_12 : decode cX3_again 12 = .ok (.getfield 66, 3) := by decide +kernel
theorem dX3_again_15 : decode cX3_again 15 = .ok (.iload_n 1, 1) := by decide +kernel
theorem dX3_again_16 : decode cX3_again 16 = .ok (.invokestatic 107, 3) := by decide +kernel
theorem dX3_again_19 : decode cX3_again 19 = .ok (.ifCond .ne 6, 3) := by decide +kernel
theorem dX3_again_22 : decode cX3_again 22 = .ok (.bipush (-3), 2) := by decide +kernel
theorem dX3_again_24 : decode cX3_again 24 = .ok (.ireturn, 1) := by decide +kernel
theorem dX3_again_25 : decode cX3_again 25 = .ok (.aload_n 0, 1) := by decide +kernel
theorem dX3_again_26 : decode cX3_again 26 = .ok (.getfield 19, 3) := by decide +kernel
theorem dX3_again_29 : decode cX3_again 29 = .ok (.aload_n 0, 1) := by decide +kernel
theorem dX3_again_30 : decode cX3_again 30 = .ok (.getfield 33, 3) := by decide +kernel
theorem dX3_again_33 : decode cX3_again 33 = .ok (.iload_n 1, 1) := by decide +kernel
theorem dX3_again_34 : decode cX3_again 34 = .ok (.aaload, 1) := by decide +kernel
theorem dX3_again_35 : decode cX3_again 35 = .ok (.invokevirtual 59, 3) := by decide +kernel
theorem dX3_again_38 : decode cX3_again 38 = .ok (.aload_n 0, 1) := by decide +kernel
theorem dX3_again_39 : decode cX3_again 39 = .ok (.getfield 29, 3) := by decide +kernel
theorem dX3_again_42 : decode cX3_again 42 = .ok (.iconst 0, 1) := by decide +kernel
theorem dX3_again_43 : decode cX3_again 43 = .ok (.putfield 63, 3) := by decide +kernel
theorem dX3_again_46 : decode cX3_again 46 = .ok (.aload_n 0, 1) := by decide +kernel
theorem dX3_again_47 : decode cX3_again 47 = .ok (.getfield 19, 3) := by decide +kernel
theorem dX3_again_50 : decode cX3_again 50 = .ok (.getfield 86, 3) := by decide +kernel
theorem dX3_again_53 : decode cX3_again 53 = .ok (.ireturn, 1) := by decide +kernel
set_option maxRecDepth 20000 in
theorem ggX3_onePair_X3_newPair : GoodIn wsX3_onePair wsX3_newPair := goodIn_r _ [6, 1, 7, 8, 9, 10, 11, 12, 13, 14, 15, 16, 5, 17, 18, 54, 55, 56, 57, 58, 59, 60, 61, 62, 63, 64, 65, 66, 67, 68, 69, 70, 71] (by decide +kernel) (by decide +kernel)
set_option maxRecDepth 20000 in
theorem gX3_onePair_X3_newPair : GoodIn wsX3_onePair (wsV RX3 200 RX3 yX3_newPair wsX3_newPair) := goodIn_app (goodIn_of _ (by decide +kernel)) ggX3_onePair_X3_newPair
set_option maxRecDepth 20000 in
theorem ggX3_onePair_X3_savesByFeeding : GoodIn wsX3_onePair wsX3_savesByFeeding := goodIn_r _ [22, 23, 1, 24, 8, 25, 26, 11, 27, 28, 29, 30, 31, 5, 32, 33, 34, 35, 36, 37, 38, 39, 40, 41, 42, 43, 44, 45, 46, 47, 48, 49, 50, 15, 51, 52, 53, 54, 55, 56, 57, 58, 59, 60, 61, 62, 63, 64, 65, 66, 67, 68, 69, 70, 71] (by decide +kernel) (by decide +kernel)
set_option maxRecDepth 20000 in
theorem gX3_onePair_X3_savesByFeeding : GoodIn wsX3_onePair (wsV RX3 204 RX3 yX3_savesByFeeding wsX3_savesByFeeding) := goodIn_app (goodIn_of _ (by decide +kernel)) ggX3_onePair_X3_savesByFeeding
theorem dX3_onePair_0 : decode cX3_onePair 0 = .ok (.iconst 0, 1) := by decide +kernel
theorem dX3_onePair_1 : decode cX3_onePair 1 = .ok (.istore_n 2, 1) := by decide +kernel
theorem dX3_onePair_2 : decode cX3_onePair 2 = .ok (.iload_n 2, 1) := by decide +kernel
theorem dX3_onePair_3 : decode cX3_onePair 3 = .ok (.bipush 10, 2) := by decide +kernel
theorem dX3_onePair_5 : decode cX3_onePair 5 = .ok (.aload_n 0, 1) := by decide +kernel
theorem dX3_onePair_6 : decode cX3_onePair 6 = .ok (.getfield 19, 3) := by decide +kernel
theorem dX3_onePair_9 : decode cX3_onePair 9 = .ok (.getfield 69, 3) := by decide +kernel
theorem dX3_onePair_12 : decode cX3_onePair 12 = .ok (.imul, 1) := by decide +kernel
theorem dX3_onePair_13 : decode cX3_onePair 13 = .ok (.if_icmp .ge 32, 3) := by decide +kernel
theorem dX3_onePair_16 : decode cX3_onePair 16 = .ok (.aload_n 0, 1) := by decide +kernel
theorem dX3_onePair_17 : decode cX3_onePair 17 = .ok (.iload_n 2, 1) := by decide +kernel
theorem dX3_onePair_18 : decode cX3_onePair 18 = .ok (.invokevirtual 200, 3) := by decide +kernel
theorem dX3_onePair_21 : decode cX3_onePair 21 = .ok (.lstore_n 3, 1) := by decide +kernel
theorem dX3_onePair_22 : decode cX3_onePair 22 = .ok (.lload_n 3, 1) := by decide +kernel
theorem dX3_onePair_23 : decode cX3_onePair 23 = .ok (.lconst 0, 1) := by decide +kernel
theorem dX3_onePair_24 : decode cX3_onePair 24 = .ok (.lcmp, 1) := by decide +kernel
theorem dX3_onePair_25 : decode cX3_onePair 25 = .ok (.ifCond .eq 14, 3) := by decide +kernel
theorem dX3_onePair_28 : decode cX3_onePair 28 = .ok (.aload_n 0, 1) := by decide +kernel
theorem dX3_onePair_29 : decode cX3_onePair 29 = .ok (.iload_n 1, 1) := by decide +kernel
theorem dX3_onePair_30 : decode cX3_onePair 30 = .ok (.lload_n 3, 1) := by decide +kernel
theorem dX3_onePair_31 : decode cX3_onePair 31 = .ok (.invokevirtual 204, 3) := by decide +kernel
theorem dX3_onePair_34 : decode cX3_onePair 34 = .ok (.ifCond .eq 5, 3) := by decide +kernel
theorem dX3_onePair_37 : decode cX3_onePair 37 = .ok (.iload_n 2, 1) := by decide +kernel
theorem dX3_onePair_38 : decode cX3_onePair 38 = .ok (.ireturn, 1) := by decide +kernel
theorem dX3_onePair_39 : decode cX3_onePair 39 = .ok (.iinc 2 1, 3) := by decide +kernel
theorem dX3_onePair_42 : decode cX3_onePair 42 = .ok (.goto (-40), 3) := by decide +kernel
theorem dX3_onePair_45 : decode cX3_onePair 45 = .ok (.bipush (-9), 2) := by decide +kernel
theorem dX3_onePair_47 : decode cX3_onePair 47 = .ok (.ireturn, 1) := by decide +kernel
set_option maxRecDepth 20000 in
theorem ggX3_twoPairs_X3_newPair : GoodIn wsX3_twoPairs wsX3_newPair := goodIn_r _ [6, 1, 7, 8, 9, 10, 11, 12, 13, 14, 15, 16, 5, 17, 18, 54, 55, 56, 57, 58, 59, 60, 61, 62, 63, 64, 65, 66, 67, 68, 69, 70, 71] (by decide +kernel) (by decide +kernel)
set_option maxRecDepth 20000 in
theorem gX3_twoPairs_X3_newPair : GoodIn wsX3_twoPairs (wsV RX3 200 RX3 yX3_newPair wsX3_newPair) := goodIn_app (goodIn_of _ (by decide +kernel)) ggX3_twoPairs_X3_newPair
set_option maxRecDepth 20000 in
theorem ggX3_twoPairs_X3_savesByFeeding : GoodIn wsX3_twoPairs wsX3_savesByFeeding := goodIn_r _ [22, 23, 1, 24, 8, 25, 26, 11, 27, 28, 29, 30, 31, 5, 32, 33, 34, 35, 36, 37, 38, 39, 40, 41, 42, 43, 44, 45, 46, 47, 48, 49, 50, 15, 51, 52, 53, 54, 55, 56, 57, 58, 59, 60, 61, 62, 63, 64, 65, 66, 67, 68, 69, 70, 71] (by decide +kernel) (by decide +kernel)
set_option maxRecDepth 20000 in
theorem gX3_twoPairs_X3_savesByFeeding : GoodIn wsX3_twoPairs (wsV RX3 204 RX3 yX3_savesByFeeding wsX3_savesByFeeding) := goodIn_app (goodIn_of _ (by decide +kernel)) ggX3_twoPairs_X3_savesByFeeding
theorem dX3_twoPairs_0 : decode cX3_twoPairs 0 = .ok (.bipush 10, 2) := by decide +kernel
theorem dX3_twoPairs_2 : decode cX3_twoPairs 2 = .ok (.aload_n 0, 1) := by decide +kernel
theorem dX3_twoPairs_3 : decode cX3_twoPairs 3 = .ok (.getfield 19, 3) := by decide +kernel
theorem dX3_twoPairs_6 : decode cX3_twoPairs 6 = .ok (.getfield 69, 3) := by decide +kernel
theorem dX3_twoPairs_9 : decode cX3_twoPairs 9 = .ok (.imul, 1) := by decide +kernel
theorem dX3_twoPairs_10 : decode cX3_twoPairs 10 = .ok (.istore_n 2, 1) := by decide +kernel
theorem dX3_twoPairs_11 : decode cX3_twoPairs 11 = .ok (.iconst 0, 1) := by decide +kernel
theorem dX3_twoPairs_12 : decode cX3_twoPairs 12 = .ok (.istore_n 3, 1) := by decide +kernel
theorem dX3_twoPairs_13 : decode cX3_twoPairs 13 = .ok (.iload_n 3, 1) := by decide +kernel
theorem dX3_twoPairs_14 : decode cX3_twoPairs 14 = .ok (.iload_n 2, 1) := by decide +kernel
theorem dX3_twoPairs_15 : decode cX3_twoPairs 15 = .ok (.if_icmp .ge 76, 3) := by decide +kernel
theorem dX3_twoPairs_18 : decode cX3_twoPairs 18 = .ok (.aload_n 0, 1) := by decide +kernel
theorem dX3_twoPairs_19 : decode cX3_twoPairs 19 = .ok (.iload_n 3, 1) := by decide +kernel
theorem dX3_twoPairs_20 : decode cX3_twoPairs 20 = .ok (.invokevirtual 200, 3) := by decide +kernel
theorem dX3_twoPairs_23 : decode cX3_twoPairs 23 = .ok (.lstore 4, 2) := by decide +kernel
theorem dX3_twoPairs_25 : decode cX3_twoPairs 25 = .ok (.iload_n 3, 1) := by decide +kernel
theorem dX3_twoPairs_26 : decode cX3_twoPairs 26 = .ok (.iconst 1, 1) := by decide +kernel
theorem dX3_twoPairs_27 : decode cX3_twoPairs 27 = .ok (.iadd, 1) := by decide +kernel
theorem dX3_twoPairs_28 : decode cX3_twoPairs 28 = .ok (.istore 6, 2) := by decide +kernel
theorem dX3_twoPairs_30 : decode cX3_twoPairs 30 = .ok (.lload 4, 2) := by decide +kernel
theorem dX3_twoPairs_32 : decode cX3_twoPairs 32 = .ok (.lconst 0, 1) := by decide +kernel
theorem dX3_twoPairs_33 : decode cX3_twoPairs 33 = .ok (.lcmp, 1) := by decide +kernel
theorem dX3_twoPairs_34 : decode cX3_twoPairs 34 = .ok (.ifCond .eq 51, 3) := by decide +kernel
theorem dX3_twoPairs_37 : decode cX3_twoPairs 37 = .ok (.iload 6, 2) := by decide +kernel
theorem dX3_twoPairs_39 : decode cX3_twoPairs 39 = .ok (.iload_n 2, 1) := by decide +kernel
theorem dX3_twoPairs_40 : decode cX3_twoPairs 40 = .ok (.if_icmp .ge 45, 3) := by decide +kernel
theorem dX3_twoPairs_43 : decode cX3_twoPairs 43 = .ok (.aload_n 0, 1) := by decide +kernel
theorem dX3_twoPairs_44 : decode cX3_twoPairs 44 = .ok (.iload 6, 2) := by decide +kernel
theorem dX3_twoPairs_46 : decode cX3_twoPairs 46 = .ok (.invokevirtual 200, 3) := by decide +kernel
theorem dX3_twoPairs_49 : decode cX3_twoPairs 49 = .ok (.lstore 7, 2) := by decide +kernel
theorem dX3_twoPairs_51 : decode cX3_twoPairs 51 = .ok (.lload 7, 2) := by decide +kernel
theorem dX3_twoPairs_53 : decode cX3_twoPairs 53 = .ok (.lconst 0, 1) := by decide +kernel
theorem dX3_twoPairs_54 : decode cX3_twoPairs 54 = .ok (.lcmp, 1) := by decide +kernel
theorem dX3_twoPairs_55 : decode cX3_twoPairs 55 = .ok (.ifCond .eq 24, 3) := by decide +kernel
theorem dX3_twoPairs_58 : decode cX3_twoPairs 58 = .ok (.aload_n 0, 1) := by decide +kernel
theorem dX3_twoPairs_59 : decode cX3_twoPairs 59 = .ok (.iload_n 1, 1) := by decide +kernel
theorem dX3_twoPairs_60 : decode cX3_twoPairs 60 = .ok (.lload 4, 2) := by decide +kernel
theorem dX3_twoPairs_62 : decode cX3_twoPairs 62 = .ok (.lload 7, 2) := by decide +kernel
theorem dX3_twoPairs_64 : decode cX3_twoPairs 64 = .ok (.lor, 1) := by decide +kernel
theorem dX3_twoPairs_65 : decode cX3_twoPairs 65 = .ok (.invokevirtual 204, 3) := by decide +kernel
theorem dX3_twoPairs_68 : decode cX3_twoPairs 68 = .ok (.ifCond .eq 11, 3) := by decide +kernel
theorem dX3_twoPairs_71 : decode cX3_twoPairs 71 = .ok (.bipush 100, 2) := by decide +kernel
theorem dX3_twoPairs_73 : decode cX3_twoPairs 73 = .ok (.iload_n 3, 1) := by decide +kernel
theorem dX3_twoPairs_74 : decode cX3_twoPairs 74 = .ok (.imul, 1) := by decide +kernel
theorem dX3_twoPairs_75 : decode cX3_twoPairs 75 = .ok (.iload 6, 2) := by decide +kernel
theorem dX3_twoPairs_77 : decode cX3_twoPairs 77 = .ok (.iadd, 1) := by decide +kernel
theorem dX3_twoPairs_78 : decode cX3_twoPairs 78 = .ok (.ireturn, 1) := by decide +kernel
theorem dX3_twoPairs_79 : decode cX3_twoPairs 79 = .ok (.iinc 6 1, 3) := by decide +kernel
theorem dX3_twoPairs_82 : decode cX3_twoPairs 82 = .ok (.goto (-52), 3) := by decide +kernel
theorem dX3_twoPairs_85 : decode cX3_twoPairs 85 = .ok (.iinc 3 1, 3) := by decide +kernel
theorem dX3_twoPairs_88 : decode cX3_twoPairs 88 = .ok (.goto (-75), 3) := by decide +kernel
theorem dX3_twoPairs_91 : decode cX3_twoPairs 91 = .ok (.bipush (-9), 2) := by decide +kernel
theorem dX3_twoPairs_93 : decode cX3_twoPairs 93 = .ok (.ireturn, 1) := by decide +kernel
set_option maxRecDepth 20000 in
theorem ggX3_newPair_X1_has : GoodIn wsX3_newPair wsX1_has := goodIn_r _ [5, 6, 26, 27, 28, 29, 30, 31, 32] (by decide +kernel) (by decide +kernel)
set_option maxRecDepth 20000 in
theorem gX3_newPair_X1_has_n92 : GoodIn wsX3_newPair (wsX1_has) := ggX3_newPair_X1_has
set_option maxRecDepth 20000 in
theorem ggX3_newPair_X1_feeds : GoodIn wsX3_newPair wsX1_feeds := goodIn_r _ [9, 10, 11, 12, 13, 26, 27, 28, 29, 30, 31, 32] (by decide +kernel) (by decide +kernel)
set_option maxRecDepth 20000 in
theorem gX3_newPair_X1_feeds_n138 : GoodIn wsX3_newPair (wsX1_feeds) := ggX3_newPair_X1_feeds
set_option maxRecDepth 20000 in
theorem ggX3_newPair_X3_pair : GoodIn wsX3_newPair wsX3_pair := goodIn_r _ [13] (by decide +kernel) (by decide +kernel)
set_option maxRecDepth 20000 in
theorem gX3_newPair_X3_pair : GoodIn wsX3_newPair (va_wsS RX3 134 yX3_pair wsX3_pair) := goodIn_app (goodIn_of _ (by decide +kernel)) ggX3_newPair_X3_pair
theorem dX3_newPair_0 : decode cX3_newPair 0 = .ok (.iload_n 1, 1) := by decide +kernel
theorem dX3_newPair_1 : decode cX3_newPair 1 = .ok (.bipush 10, 2) := by decide +kernel
theorem dX3_newPair_3 : decode cX3_newPair 3 = .ok (.idiv, 1) := by decide +kernel
theorem dX3_newPair_4 : decode cX3_newPair 4 = .ok (.istore_n 2, 1) := by decide +kernel
theorem dX3_newPair_5 : decode cX3_newPair 5 = .ok (.iload_n 1, 1) := by decide +kernel
theorem dX3_newPair_6 : decode cX3_newPair 6 = .ok (.bipush 10, 2) := by decide +kernel
theorem dX3_newPair_8 : decode cX3_newPair 8 = .ok (.irem, 1) := by decide +kernel
theorem dX3_newPair_9 : decode cX3_newPair 9 = .ok (.istore_n 3, 1) := by decide +kernel
theorem dX3_newPair_10 : decode cX3_newPair 10 = .ok (.aload_n 0, 1) := by decide +kernel
theorem dX3_newPair_11 : decode cX3_newPair 11 = .ok (.getfield 19, 3) := by decide +kernel
theorem dX3_newPair_14 : decode cX3_newPair 14 = .ok (.iload_n 2, 1) := by decide +kernel
theorem dX3_newPair_15 : decode cX3_newPair 15 = .ok (.invokevirtual 92, 3) := by decide +kernel
theorem dX3_newPair_18 : decode cX3_newPair 18 = .ok (.ifCond .eq 35, 3) := by decide +kernel
theorem dX3_newPair_21 : decode cX3_newPair 21 = .ok (.aload_n 0, 1) := by decide +kernel
theorem dX3_newPair_22 : decode cX3_newPair 22 = .ok (.getfield 19, 3) := by decide +kernel
end
section
theorem dX3_newPair_25 : decode cX3_newPair 25 = .ok (.iload_n 3, 1) := by decide +kernel
theorem dX3_newPair_26 : decode cX3_newPair 26 = .ok (.invokevirtual 92, 3) := by decide +kernel
theorem dX3_newPair_29 : decode cX3_newPair 29 = .ok (.ifCond .eq 24, 3) := by decide +kernel
theorem dX3_newPair_32 : decode cX3_newPair 32 = .ok (.iload_n 2, 1) := by decide +kernel
theorem dX3_newPair_33 : decode cX3_newPair 33 = .ok (.iload_n 3, 1) := by decide +kernel
theorem dX3_newPair_34 : decode cX3_newPair 34 = .ok (.if_icmp .eq 19, 3) := by decide +kernel
theorem dX3_newPair_37 : decode cX3_newPair 37 = .ok (.aload_n 0, 1) := by decide +kernel
theorem dX3_newPair_38 : decode cX3_newPair 38 = .ok (.getfield 19, 3) := by decide +kernel
theorem dX3_newPair_41 : decode cX3_newPair 41 = .ok (.iload_n 2, 1) := by decide +kernel
theorem dX3_newPair_42 : decode cX3_newPair 42 = .ok (.iload_n 3, 1) := by decide +kernel
theorem dX3_newPair_43 : decode cX3_newPair 43 = .ok (.invokevirtual 138, 3) := by decide +kernel
theorem dX3_newPair_46 : decode cX3_newPair 46 = .ok (.ifCond .ne 7, 3) := by decide +kernel
theorem dX3_newPair_49 : decode cX3_newPair 49 = .ok (.iconst 1, 1) := by decide +kernel
theorem dX3_newPair_50 : decode cX3_newPair 50 = .ok (.goto 4, 3) := by decide +kernel
theorem dX3_newPair_53 : decode cX3_newPair 53 = .ok (.iconst 0, 1) := by decide +kernel
theorem dX3_newPair_54 : decode cX3_newPair 54 = .ok (.istore 4, 2) := by decide +kernel
theorem dX3_newPair_56 : decode cX3_newPair 56 = .ok (.iload 4, 2) := by decide +kernel
theorem dX3_newPair_58 : decode cX3_newPair 58 = .ok (.ifCond .eq 11, 3) := by decide +kernel
theorem dX3_newPair_61 : decode cX3_newPair 61 = .ok (.iload_n 2, 1) := by decide +kernel
theorem dX3_newPair_62 : decode cX3_newPair 62 = .ok (.iload_n 3, 1) := by decide +kernel
theorem dX3_newPair_63 : decode cX3_newPair 63 = .ok (.invokestatic 134, 3) := by decide +kernel
theorem dX3_newPair_66 : decode cX3_newPair 66 = .ok (.goto 4, 3) := by decide +kernel
theorem dX3_newPair_69 : decode cX3_newPair 69 = .ok (.lconst 0, 1) := by decide +kernel
theorem dX3_newPair_70 : decode cX3_newPair 70 = .ok (.lreturn, 1) := by decide +kernel
set_option maxRecDepth 20000 in
theorem ggX3_savesByFeeding_X1_leftBehind : GoodIn wsX3_savesByFeeding wsX1_leftBehind := goodIn_r _ [6, 7, 8, 9, 10, 4, 11, 12, 13, 14, 15, 16, 17, 18, 19, 20, 21, 22, 23, 24, 25, 26, 27, 28, 29, 30, 31, 32, 33, 34, 35, 48, 49, 50, 51, 52, 53, 54] (by decide +kernel) (by decide +kernel)
set_option maxRecDepth 20000 in
theorem gX3_savesByFeeding_X1_leftBehind_n158 : GoodIn wsX3_savesByFeeding (wsX1_leftBehind) := ggX3_savesByFeeding_X1_leftBehind
set_option maxRecDepth 20000 in
theorem ggX3_savesByFeeding_X3_isIn : GoodIn wsX3_savesByFeeding wsX3_isIn := goodIn_r _ [14] (by decide +kernel) (by decide +kernel)
set_option maxRecDepth 20000 in
theorem gX3_savesByFeeding_X3_isIn : GoodIn wsX3_savesByFeeding (va_wsS RX3 107 yX3_isIn wsX3_isIn) := goodIn_app (goodIn_of _ (by decide +kernel)) ggX3_savesByFeeding_X3_isIn
theorem dX3_savesByFeeding_0 : decode cX3_savesByFeeding 0 = .ok (.aload_n 0, 1) := by decide +kernel
theorem dX3_savesByFeeding_1 : decode cX3_savesByFeeding 1 = .ok (.getfield 23, 3) := by decide +kernel
theorem dX3_savesByFeeding_4 : decode cX3_savesByFeeding 4 = .ok (.aload_n 0, 1) := by decide +kernel
theorem dX3_savesByFeeding_5 : decode cX3_savesByFeeding 5 = .ok (.getfield 19, 3) := by decide +kernel
theorem dX3_savesByFeeding_8 : decode cX3_savesByFeeding 8 = .ok (.getfield 130, 3) := by decide +kernel
theorem dX3_savesByFeeding_11 : decode cX3_savesByFeeding 11 = .ok (.lload_n 2, 1) := by decide +kernel
theorem dX3_savesByFeeding_12 : decode cX3_savesByFeeding 12 = .ok (.lor, 1) := by decide +kernel
theorem dX3_savesByFeeding_13 : decode cX3_savesByFeeding 13 = .ok (.putfield 130, 3) := by decide +kernel
theorem dX3_savesByFeeding_16 : decode cX3_savesByFeeding 16 = .ok (.aload_n 0, 1) := by decide +kernel
theorem dX3_savesByFeeding_17 : decode cX3_savesByFeeding 17 = .ok (.getfield 23, 3) := by decide +kernel
theorem dX3_savesByFeeding_20 : decode cX3_savesByFeeding 20 = .ok (.aload_n 0, 1) := by decide +kernel
theorem dX3_savesByFeeding_21 : decode cX3_savesByFeeding 21 = .ok (.getfield 23, 3) := by decide +kernel
theorem dX3_savesByFeeding_24 : decode cX3_savesByFeeding 24 = .ok (.getfield 72, 3) := by decide +kernel
theorem dX3_savesByFeeding_27 : decode cX3_savesByFeeding 27 = .ok (.invokevirtual 158, 3) := by decide +kernel
theorem dX3_savesByFeeding_30 : decode cX3_savesByFeeding 30 = .ok (.iload_n 1, 1) := by decide +kernel
theorem dX3_savesByFeeding_31 : decode cX3_savesByFeeding 31 = .ok (.invokestatic 107, 3) := by decide +kernel
theorem dX3_savesByFeeding_34 : decode cX3_savesByFeeding 34 = .ok (.ireturn, 1) := by decide +kernel
set_option maxRecDepth 20000 in
theorem ggX3_allSeenIsSo_X3_isSo : GoodIn wsX3_allSeenIsSo wsX3_isSo := goodIn_r _ [7, 8, 9, 10, 11, 12, 13, 14, 15, 16, 17, 18, 19, 20, 21, 22, 6, 23, 24, 25, 26, 27, 28, 29, 30, 31, 32, 33, 34, 35, 36, 37, 38, 39, 40, 41, 42, 43, 44, 45, 46, 47, 48, 49, 50, 51, 52, 53, 54, 55, 56, 57, 58, 59, 60, 61, 62, 63, 64, 65, 66, 67] (by decide +kernel) (by decide +kernel)
set_option maxRecDepth 20000 in
theorem gX3_allSeenIsSo_X3_isSo : GoodIn wsX3_allSeenIsSo (wsV RX3 208 RX3 yX3_isSo wsX3_isSo) := goodIn_app (goodIn_of _ (by decide +kernel)) ggX3_allSeenIsSo_X3_isSo
theorem dX3_allSeenIsSo_0 : decode cX3_allSeenIsSo 0 = .ok (.iconst 0, 1) := by decide +kernel
theorem dX3_allSeenIsSo_1 : decode cX3_allSeenIsSo 1 = .ok (.istore_n 1, 1) := by decide +kernel
theorem dX3_allSeenIsSo_2 : decode cX3_allSeenIsSo 2 = .ok (.iload_n 1, 1) := by decide +kernel
theorem dX3_allSeenIsSo_3 : decode cX3_allSeenIsSo 3 = .ok (.aload_n 0, 1) := by decide +kernel
theorem dX3_allSeenIsSo_4 : decode cX3_allSeenIsSo 4 = .ok (.getfield 89, 3) := by decide +kernel
theorem dX3_allSeenIsSo_7 : decode cX3_allSeenIsSo 7 = .ok (.if_icmp .ge 36, 3) := by decide +kernel
theorem dX3_allSeenIsSo_10 : decode cX3_allSeenIsSo 10 = .ok (.aload_n 0, 1) := by decide +kernel
theorem dX3_allSeenIsSo_11 : decode cX3_allSeenIsSo 11 = .ok (.aload_n 0, 1) := by decide +kernel
theorem dX3_allSeenIsSo_12 : decode cX3_allSeenIsSo 12 = .ok (.getfield 37, 3) := by decide +kernel
theorem dX3_allSeenIsSo_15 : decode cX3_allSeenIsSo 15 = .ok (.iload_n 1, 1) := by decide +kernel
theorem dX3_allSeenIsSo_16 : decode cX3_allSeenIsSo 16 = .ok (.iaload, 1) := by decide +kernel
theorem dX3_allSeenIsSo_17 : decode cX3_allSeenIsSo 17 = .ok (.bipush 10, 2) := by decide +kernel
theorem dX3_allSeenIsSo_19 : decode cX3_allSeenIsSo 19 = .ok (.idiv, 1) := by decide +kernel
theorem dX3_allSeenIsSo_20 : decode cX3_allSeenIsSo 20 = .ok (.aload_n 0, 1) := by decide +kernel
theorem dX3_allSeenIsSo_21 : decode cX3_allSeenIsSo 21 = .ok (.getfield 37, 3) := by decide +kernel
theorem dX3_allSeenIsSo_24 : decode cX3_allSeenIsSo 24 = .ok (.iload_n 1, 1) := by decide +kernel
theorem dX3_allSeenIsSo_25 : decode cX3_allSeenIsSo 25 = .ok (.iaload, 1) := by decide +kernel
theorem dX3_allSeenIsSo_26 : decode cX3_allSeenIsSo 26 = .ok (.bipush 10, 2) := by decide +kernel
theorem dX3_allSeenIsSo_28 : decode cX3_allSeenIsSo 28 = .ok (.irem, 1) := by decide +kernel
theorem dX3_allSeenIsSo_29 : decode cX3_allSeenIsSo 29 = .ok (.invokevirtual 208, 3) := by decide +kernel
theorem dX3_allSeenIsSo_32 : decode cX3_allSeenIsSo 32 = .ok (.ifCond .ne 5, 3) := by decide +kernel
theorem dX3_allSeenIsSo_35 : decode cX3_allSeenIsSo 35 = .ok (.iconst 0, 1) := by decide +kernel
theorem dX3_allSeenIsSo_36 : decode cX3_allSeenIsSo 36 = .ok (.ireturn, 1) := by decide +kernel
theorem dX3_allSeenIsSo_37 : decode cX3_allSeenIsSo 37 = .ok (.iinc 1 1, 3) := by decide +kernel
theorem dX3_allSeenIsSo_40 : decode cX3_allSeenIsSo 40 = .ok (.goto (-38), 3) := by decide +kernel
theorem dX3_allSeenIsSo_43 : decode cX3_allSeenIsSo 43 = .ok (.iconst 1, 1) := by decide +kernel
theorem dX3_allSeenIsSo_44 : decode cX3_allSeenIsSo 44 = .ok (.ireturn, 1) := by decide +kernel
set_option maxRecDepth 20000 in
theorem ggX3_isSo_X1_has : GoodIn wsX3_isSo wsX1_has := goodIn_r _ [5, 6, 55, 56, 57, 58, 59, 60, 61] (by decide +kernel) (by decide +kernel)
set_option maxRecDepth 20000 in
theorem gX3_isSo_X1_has_n92 : GoodIn wsX3_isSo (wsX1_has) := ggX3_isSo_X1_has
set_option maxRecDepth 20000 in
theorem ggX3_isSo_X1_placeOf : GoodIn wsX3_isSo wsX1_placeOf := goodIn_r _ [9, 10, 6, 11, 12, 13, 3, 14, 15, 16, 17, 18, 19, 20, 21, 22, 23, 24, 25, 26, 27, 28, 29, 30, 31, 32, 33, 34, 35, 36, 37, 38, 39, 40, 41, 42, 43, 55, 56, 57, 58, 59, 60, 61] (by decide +kernel) (by decide +kernel)
set_option maxRecDepth 20000 in
theorem gX3_isSo_X1_placeOf_n155 : GoodIn wsX3_isSo (wsX1_placeOf) := ggX3_isSo_X1_placeOf
theorem dX3_isSo_0 : decode cX3_isSo 0 = .ok (.aload_n 0, 1) := by decide +kernel
theorem dX3_isSo_1 : decode cX3_isSo 1 = .ok (.getfield 23, 3) := by decide +kernel
theorem dX3_isSo_4 : decode cX3_isSo 4 = .ok (.iload_n 1, 1) := by decide +kernel
theorem dX3_isSo_5 : decode cX3_isSo 5 = .ok (.invokevirtual 92, 3) := by decide +kernel
theorem dX3_isSo_8 : decode cX3_isSo 8 = .ok (.ifCond .eq 14, 3) := by decide +kernel
theorem dX3_isSo_11 : decode cX3_isSo 11 = .ok (.aload_n 0, 1) := by decide +kernel
theorem dX3_isSo_12 : decode cX3_isSo 12 = .ok (.getfield 23, 3) := by decide +kernel
theorem dX3_isSo_15 : decode cX3_isSo 15 = .ok (.iload_n 2, 1) := by decide +kernel
theorem dX3_isSo_16 : decode cX3_isSo 16 = .ok (.invokevirtual 92, 3) := by decide +kernel
theorem dX3_isSo_19 : decode cX3_isSo 19 = .ok (.ifCond .ne 5, 3) := by decide +kernel
theorem dX3_isSo_22 : decode cX3_isSo 22 = .ok (.iconst 1, 1) := by decide +kernel
theorem dX3_isSo_23 : decode cX3_isSo 23 = .ok (.ireturn, 1) := by decide +kernel
theorem dX3_isSo_24 : decode cX3_isSo 24 = .ok (.aload_n 0, 1) := by decide +kernel
theorem dX3_isSo_25 : decode cX3_isSo 25 = .ok (.getfield 23, 3) := by decide +kernel
theorem dX3_isSo_28 : decode cX3_isSo 28 = .ok (.iload_n 1, 1) := by decide +kernel
theorem dX3_isSo_29 : decode cX3_isSo 29 = .ok (.invokevirtual 155, 3) := by decide +kernel
theorem dX3_isSo_32 : decode cX3_isSo 32 = .ok (.istore_n 3, 1) := by decide +kernel
theorem dX3_isSo_33 : decode cX3_isSo 33 = .ok (.aload_n 0, 1) := by decide +kernel
theorem dX3_isSo_34 : decode cX3_isSo 34 = .ok (.getfield 23, 3) := by decide +kernel
theorem dX3_isSo_37 : decode cX3_isSo 37 = .ok (.iload_n 2, 1) := by decide +kernel
theorem dX3_isSo_38 : decode cX3_isSo 38 = .ok (.invokevirtual 155, 3) := by decide +kernel
theorem dX3_isSo_41 : decode cX3_isSo 41 = .ok (.istore 4, 2) := by decide +kernel
theorem dX3_isSo_43 : decode cX3_isSo 43 = .ok (.iload_n 3, 1) := by decide +kernel
theorem dX3_isSo_44 : decode cX3_isSo 44 = .ok (.bipush (-9), 2) := by decide +kernel
theorem dX3_isSo_46 : decode cX3_isSo 46 = .ok (.if_icmp .eq 20, 3) := by decide +kernel
theorem dX3_isSo_49 : decode cX3_isSo 49 = .ok (.iload 4, 2) := by decide +kernel
theorem dX3_isSo_51 : decode cX3_isSo 51 = .ok (.bipush (-9), 2) := by decide +kernel
theorem dX3_isSo_53 : decode cX3_isSo 53 = .ok (.if_icmp .eq 9, 3) := by decide +kernel
theorem dX3_isSo_56 : decode cX3_isSo 56 = .ok (.iload 4, 2) := by decide +kernel
theorem dX3_isSo_58 : decode cX3_isSo 58 = .ok (.iload_n 3, 1) := by decide +kernel
theorem dX3_isSo_59 : decode cX3_isSo 59 = .ok (.if_icmp .le 7, 3) := by decide +kernel
theorem dX3_isSo_62 : decode cX3_isSo 62 = .ok (.iconst 1, 1) := by decide +kernel
theorem dX3_isSo_63 : decode cX3_isSo 63 = .ok (.goto 4, 3) := by decide +kernel
theorem dX3_isSo_66 : decode cX3_isSo 66 = .ok (.iconst 0, 1) := by decide +kernel
theorem dX3_isSo_67 : decode cX3_isSo 67 = .ok (.ireturn, 1) := by decide +kernel
set_option maxRecDepth 20000 in
theorem ggX3_weighChoices_X1_copy : GoodIn wsX3_weighChoices wsX1_copy := goodIn_r _ [8, 9, 10, 11, 12, 13, 14, 15, 76, 77, 78, 79, 80, 81, 82] (by decide +kernel) (by decide +kernel)
set_option maxRecDepth 20000 in
theorem gX3_weighChoices_X1_copy_n59 : GoodIn wsX3_weighChoices (wsX1_copy) := ggX3_weighChoices_X1_copy
set_option maxRecDepth 20000 in
theorem ggX3_weighChoices_X3_chosen : GoodIn wsX3_weighChoices wsX3_chosen := goodIn_r _ [19, 20, 21, 18, 22, 23, 24, 25] (by decide +kernel) (by decide +kernel)
set_option maxRecDepth 20000 in
theorem gX3_weighChoices_X3_chosen : GoodIn wsX3_weighChoices (va_wsS RX3 211 yX3_chosen wsX3_chosen) := goodIn_app (goodIn_of _ (by decide +kernel)) ggX3_weighChoices_X3_chosen
set_option maxRecDepth 20000 in
theorem ggX3_weighChoices_X3_isOpen : GoodIn wsX3_weighChoices wsX3_isOpen := goodIn_r _ [22] (by decide +kernel) (by decide +kernel)
set_option maxRecDepth 20000 in
theorem gX3_weighChoices_X3_isOpen : GoodIn wsX3_weighChoices (va_wsS RX3 214 yX3_isOpen wsX3_isOpen) := goodIn_app (goodIn_of _ (by decide +kernel)) ggX3_weighChoices_X3_isOpen
set_option maxRecDepth 20000 in
theorem ggX3_weighChoices_X1_worthOf : GoodIn wsX3_weighChoices wsX1_worthOf := goodIn_r _ [28, 29, 30, 31, 6, 32, 13, 9, 33, 34, 35, 36, 37, 18, 38, 39, 40, 41, 42, 43, 44, 45, 46, 10, 47, 48, 49, 50, 11, 51, 52, 53, 54, 12, 55, 56, 57, 58, 59, 60, 61, 76, 77, 78, 79, 80, 81, 82] (by decide +kernel) (by decide +kernel)
set_option maxRecDepth 20000 in
theorem gX3_weighChoices_X1_worthOf_n170 : GoodIn wsX3_weighChoices (wsX1_worthOf) := ggX3_weighChoices_X1_worthOf
set_option maxRecDepth 20000 in
theorem ggX3_weighChoices_X3_cost : GoodIn wsX3_weighChoices wsX3_cost := goodIn_r _ [64] (by decide +kernel) (by decide +kernel)
set_option maxRecDepth 20000 in
theorem gX3_weighChoices_X3_cost : GoodIn wsX3_weighChoices (va_wsS RX3 217 yX3_cost wsX3_cost) := goodIn_app (goodIn_of _ (by decide +kernel)) ggX3_weighChoices_X3_cost
theorem dX3_weighChoices_0 : decode cX3_weighChoices 0 = .ok (.aload_n 0, 1) := by decide +kernel
theorem dX3_weighChoices_1 : decode cX3_weighChoices 1 = .ok (.getfield 23, 3) := by decide +kernel
theorem dX3_weighChoices_4 : decode cX3_weighChoices 4 = .ok (.aload_n 0, 1) := by decide +kernel
theorem dX3_weighChoices_5 : decode cX3_weighChoices 5 = .ok (.getfield 19, 3) := by decide +kernel
theorem dX3_weighChoices_8 : decode cX3_weighChoices 8 = .ok (.invokevirtual 59, 3) := by decide +kernel
theorem dX3_weighChoices_11 : decode cX3_weighChoices 11 = .ok (.iconst 0, 1) := by decide +kernel
theorem dX3_weighChoices_12 : decode cX3_weighChoices 12 = .ok (.istore_n 3, 1) := by decide +kernel
theorem dX3_weighChoices_13 : decode cX3_weighChoices 13 = .ok (.iload_n 3, 1) := by decide +kernel
theorem dX3_weighChoices_14 : decode cX3_weighChoices 14 = .ok (.aload_n 0, 1) := by decide +kernel
theorem dX3_weighChoices_15 : decode cX3_weighChoices 15 = .ok (.getfield 19, 3) := by decide +kernel
theorem dX3_weighChoices_18 : decode cX3_weighChoices 18 = .ok (.getfield 69, 3) := by decide +kernel
theorem dX3_weighChoices_21 : decode cX3_weighChoices 21 = .ok (.if_icmp .gt 134, 3) := by decide +kernel
theorem dX3_weighChoices_24 : decode cX3_weighChoices 24 = .ok (.iconst 0, 1) := by decide +kernel
theorem dX3_weighChoices_25 : decode cX3_weighChoices 25 = .ok (.istore 4, 2) := by decide +kernel
theorem dX3_weighChoices_27 : decode cX3_weighChoices 27 = .ok (.iload 4, 2) := by decide +kernel
theorem dX3_weighChoices_29 : decode cX3_weighChoices 29 = .ok (.aload_n 0, 1) := by decide +kernel
theorem dX3_weighChoices_30 : decode cX3_weighChoices 30 = .ok (.getfield 19, 3) := by decide +kernel
theorem dX3_weighChoices_33 : decode cX3_weighChoices 33 = .ok (.getfield 69, 3) := by decide +kernel
theorem dX3_weighChoices_36 : decode cX3_weighChoices 36 = .ok (.if_icmp .gt 113, 3) := by decide +kernel
theorem dX3_weighChoices_39 : decode cX3_weighChoices 39 = .ok (.bipush 8, 2) := by decide +kernel
theorem dX3_weighChoices_41 : decode cX3_weighChoices 41 = .ok (.iload_n 3, 1) := by decide +kernel
theorem dX3_weighChoices_42 : decode cX3_weighChoices 42 = .ok (.imul, 1) := by decide +kernel
theorem dX3_weighChoices_43 : decode cX3_weighChoices 43 = .ok (.iload 4, 2) := by decide +kernel
theorem dX3_weighChoices_45 : decode cX3_weighChoices 45 = .ok (.iadd, 1) := by decide +kernel
theorem dX3_weighChoices_46 : decode cX3_weighChoices 46 = .ok (.istore 5, 2) := by decide +kernel
theorem dX3_weighChoices_48 : decode cX3_weighChoices 48 = .ok (.aload_n 0, 1) := by decide +kernel
theorem dX3_weighChoices_49 : decode cX3_weighChoices 49 = .ok (.getfield 23, 3) := by decide +kernel
theorem dX3_weighChoices_52 : decode cX3_weighChoices 52 = .ok (.aload_n 0, 1) := by decide +kernel
theorem dX3_weighChoices_53 : decode cX3_weighChoices 53 = .ok (.getfield 19, 3) := by decide +kernel
theorem dX3_weighChoices_56 : decode cX3_weighChoices 56 = .ok (.getfield 130, 3) := by decide +kernel
theorem dX3_weighChoices_59 : decode cX3_weighChoices 59 = .ok (.iload_n 1, 1) := by decide +kernel
theorem dX3_weighChoices_60 : decode cX3_weighChoices 60 = .ok (.iload_n 3, 1) := by decide +kernel
theorem dX3_weighChoices_61 : decode cX3_weighChoices 61 = .ok (.invokestatic 211, 3) := by decide +kernel
theorem dX3_weighChoices_64 : decode cX3_weighChoices 64 = .ok (.lor, 1) := by decide +kernel
theorem dX3_weighChoices_65 : decode cX3_weighChoices 65 = .ok (.iload_n 2, 1) := by decide +kernel
theorem dX3_weighChoices_66 : decode cX3_weighChoices 66 = .ok (.iload 4, 2) := by decide +kernel
theorem dX3_weighChoices_68 : decode cX3_weighChoices 68 = .ok (.invokestatic 211, 3) := by decide +kernel
theorem dX3_weighChoices_71 : decode cX3_weighChoices 71 = .ok (.lor, 1) := by decide +kernel
theorem dX3_weighChoices_72 : decode cX3_weighChoices 72 = .ok (.putfield 130, 3) := by decide +kernel
theorem dX3_weighChoices_75 : decode cX3_weighChoices 75 = .ok (.aload_n 0, 1) := by decide +kernel
theorem dX3_weighChoices_76 : decode cX3_weighChoices 76 = .ok (.getfield 41, 3) := by decide +kernel
theorem dX3_weighChoices_79 : decode cX3_weighChoices 79 = .ok (.iload 5, 2) := by decide +kernel
theorem dX3_weighChoices_81 : decode cX3_weighChoices 81 = .ok (.iload_n 1, 1) := by decide +kernel
theorem dX3_weighChoices_82 : decode cX3_weighChoices 82 = .ok (.iload_n 3, 1) := by decide +kernel
theorem dX3_weighChoices_83 : decode cX3_weighChoices 83 = .ok (.invokestatic 214, 3) := by decide +kernel
theorem dX3_weighChoices_86 : decode cX3_weighChoices 86 = .ok (.ifCond .eq 19, 3) := by decide +kernel
theorem dX3_weighChoices_89 : decode cX3_weighChoices 89 = .ok (.aload_n 0, 1) := by decide +kernel
theorem dX3_weighChoices_90 : decode cX3_weighChoices 90 = .ok (.getfield 23, 3) := by decide +kernel
theorem dX3_weighChoices_93 : decode cX3_weighChoices 93 = .ok (.iload_n 1, 1) := by decide +kernel
theorem dX3_weighChoices_94 : decode cX3_weighChoices 94 = .ok (.invokevirtual 170, 3) := by decide +kernel
theorem dX3_weighChoices_97 : decode cX3_weighChoices 97 = .ok (.iload_n 3, 1) := by decide +kernel
theorem dX3_weighChoices_98 : decode cX3_weighChoices 98 = .ok (.invokestatic 217, 3) := by decide +kernel
theorem dX3_weighChoices_101 : decode cX3_weighChoices 101 = .ok (.isub, 1) := by decide +kernel
theorem dX3_weighChoices_102 : decode cX3_weighChoices 102 = .ok (.goto 5, 3) := by decide +kernel
theorem dX3_weighChoices_105 : decode cX3_weighChoices 105 = .ok (.bipush (-9), 2) := by decide +kernel
theorem dX3_weighChoices_107 : decode cX3_weighChoices 107 = .ok (.iastore, 1) := by decide +kernel
theorem dX3_weighChoices_108 : decode cX3_weighChoices 108 = .ok (.aload_n 0, 1) := by decide +kernel
theorem dX3_weighChoices_109 : decode cX3_weighChoices 109 = .ok (.getfield 44, 3) := by decide +kernel
theorem dX3_weighChoices_112 : decode cX3_weighChoices 112 = .ok (.iload 5, 2) := by decide +kernel
theorem dX3_weighChoices_114 : decode cX3_weighChoices 114 = .ok (.iload_n 2, 1) := by decide +kernel
theorem dX3_weighChoices_115 : decode cX3_weighChoices 115 = .ok (.iload 4, 2) := by decide +kernel
theorem dX3_weighChoices_117 : decode cX3_weighChoices 117 = .ok (.invokestatic 214, 3) := by decide +kernel
theorem dX3_weighChoices_120 : decode cX3_weighChoices 120 = .ok (.ifCond .eq 20, 3) := by decide +kernel
theorem dX3_weighChoices_123 : decode cX3_weighChoices 123 = .ok (.aload_n 0, 1) := by decide +kernel
theorem dX3_weighChoices_124 : decode cX3_weighChoices 124 = .ok (.getfield 23, 3) := by decide +kernel
theorem dX3_weighChoices_127 : decode cX3_weighChoices 127 = .ok (.iload_n 2, 1) := by decide +kernel
theorem dX3_weighChoices_128 : decode cX3_weighChoices 128 = .ok (.invokevirtual 170, 3) := by decide +kernel
theorem dX3_weighChoices_131 : decode cX3_weighChoices 131 = .ok (.iload 4, 2) := by decide +kernel
theorem dX3_weighChoices_133 : decode cX3_weighChoices 133 = .ok (.invokestatic 217, 3) := by decide +kernel
theorem dX3_weighChoices_136 : decode cX3_weighChoices 136 = .ok (.isub, 1) := by decide +kernel
theorem dX3_weighChoices_137 : decode cX3_weighChoices 137 = .ok (.goto 5, 3) := by decide +kernel
theorem dX3_weighChoices_140 : decode cX3_weighChoices 140 = .ok (.bipush (-9), 2) := by decide +kernel
theorem dX3_weighChoices_142 : decode cX3_weighChoices 142 = .ok (.iastore, 1) := by decide +kernel
theorem dX3_weighChoices_143 : decode cX3_weighChoices 143 = .ok (.iinc 4 1, 3) := by decide +kernel
theorem dX3_weighChoices_146 : decode cX3_weighChoices 146 = .ok (.goto (-119), 3) := by decide +kernel
theorem dX3_weighChoices_149 : decode cX3_weighChoices 149 = .ok (.iinc 3 1, 3) := by decide +kernel
theorem dX3_weighChoices_152 : decode cX3_weighChoices 152 = .ok (.goto (-139), 3) := by decide +kernel
theorem dX3_weighChoices_155 : decode cX3_weighChoices 155 = .ok (.return_, 1) := by decide +kernel
theorem dX3_isOpen_0 : decode cX3_isOpen 0 = .ok (.iload_n 1, 1) := by decide +kernel
theorem dX3_isOpen_1 : decode cX3_isOpen 1 = .ok (.iload_n 0, 1) := by decide +kernel
theorem dX3_isOpen_2 : decode cX3_isOpen 2 = .ok (.iconst 1, 1) := by decide +kernel
theorem dX3_isOpen_3 : decode cX3_isOpen 3 = .ok (.iadd, 1) := by decide +kernel
theorem dX3_isOpen_4 : decode cX3_isOpen 4 = .ok (.if_icmp .eq 7, 3) := by decide +kernel
theorem dX3_isOpen_7 : decode cX3_isOpen 7 = .ok (.iconst 1, 1) := by decide +kernel
theorem dX3_isOpen_8 : decode cX3_isOpen 8 = .ok (.goto 4, 3) := by decide +kernel
theorem dX3_isOpen_11 : decode cX3_isOpen 11 = .ok (.iconst 0, 1) := by decide +kernel
theorem dX3_isOpen_12 : decode cX3_isOpen 12 = .ok (.ireturn, 1) := by decide +kernel
set_option maxRecDepth 20000 in
theorem ggX3_chosen_X3_isOpen : GoodIn wsX3_chosen wsX3_isOpen := goodIn_r _ [4] (by decide +kernel) (by decide +kernel)
set_option maxRecDepth 20000 in
theorem gX3_chosen_X3_isOpen : GoodIn wsX3_chosen (va_wsS RX3 214 yX3_isOpen wsX3_isOpen) := goodIn_app (goodIn_of _ (by decide +kernel)) ggX3_chosen_X3_isOpen
set_option maxRecDepth 20000 in
theorem ggX3_chosen_X3_pair : GoodIn wsX3_chosen wsX3_pair := goodIn_r _ [7] (by decide +kernel) (by decide +kernel)
set_option maxRecDepth 20000 in
theorem gX3_chosen_X3_pair : GoodIn wsX3_chosen (va_wsS RX3 134 yX3_pair wsX3_pair) := goodIn_app (goodIn_of _ (by decide +kernel)) ggX3_chosen_X3_pair
theorem dX3_chosen_0 : decode cX3_chosen 0 = .ok (.iload_n 1, 1) := by decide +kernel
theorem dX3_chosen_1 : decode cX3_chosen 1 = .ok (.ifCond .le 21, 3) := by decide +kernel
theorem dX3_chosen_4 : decode cX3_chosen 4 = .ok (.iload_n 0, 1) := by decide +kernel
theorem dX3_chosen_5 : decode cX3_chosen 5 = .ok (.iload_n 1, 1) := by decide +kernel
theorem dX3_chosen_6 : decode cX3_chosen 6 = .ok (.invokestatic 214, 3) := by decide +kernel
theorem dX3_chosen_9 : decode cX3_chosen 9 = .ok (.ifCond .eq 13, 3) := by decide +kernel
theorem dX3_chosen_12 : decode cX3_chosen 12 = .ok (.iload_n 0, 1) := by decide +kernel
theorem dX3_chosen_13 : decode cX3_chosen 13 = .ok (.iload_n 1, 1) := by decide +kernel
theorem dX3_chosen_14 : decode cX3_chosen 14 = .ok (.iconst 1, 1) := by decide +kernel
theorem dX3_chosen_15 : decode cX3_chosen 15 = .ok (.isub, 1) := by decide +kernel
theorem dX3_chosen_16 : decode cX3_chosen 16 = .ok (.invokestatic 134, 3) := by decide +kernel
theorem dX3_chosen_19 : decode cX3_chosen 19 = .ok (.goto 4, 3) := by decide +kernel
theorem dX3_chosen_22 : decode cX3_chosen 22 = .ok (.lconst 0, 1) := by decide +kernel
theorem dX3_chosen_23 : decode cX3_chosen 23 = .ok (.lreturn, 1) := by decide +kernel
theorem dX3_cost_0 : decode cX3_cost 0 = .ok (.iload_n 0, 1) := by decide +kernel
theorem dX3_cost_1 : decode cX3_cost 1 = .ok (.ifCond .ne 7, 3) := by decide +kernel
theorem dX3_cost_4 : decode cX3_cost 4 = .ok (.iconst 0, 1) := by decide +kernel
theorem dX3_cost_5 : decode cX3_cost 5 = .ok (.goto 4, 3) := by decide +kernel
theorem dX3_cost_8 : decode cX3_cost 8 = .ok (.iconst 1, 1) := by decide +kernel
theorem dX3_cost_9 : decode cX3_cost 9 = .ok (.ireturn, 1) := by decide +kernel
theorem dX3_isRest_0 : decode cX3_isRest 0 = .ok (.bipush 8, 2) := by decide +kernel
theorem dX3_isRest_2 : decode cX3_isRest 2 = .ok (.iload_n 1, 1) := by decide +kernel
theorem dX3_isRest_3 : decode cX3_isRest 3 = .ok (.imul, 1) := by decide +kernel
theorem dX3_isRest_4 : decode cX3_isRest 4 = .ok (.iload_n 2, 1) := by decide +kernel
theorem dX3_isRest_5 : decode cX3_isRest 5 = .ok (.iadd, 1) := by decide +kernel
theorem dX3_isRest_6 : decode cX3_isRest 6 = .ok (.istore_n 3, 1) := by decide +kernel
theorem dX3_isRest_7 : decode cX3_isRest 7 = .ok (.iconst 0, 1) := by decide +kernel
theorem dX3_isRest_8 : decode cX3_isRest 8 = .ok (.istore 4, 2) := by decide +kernel
theorem dX3_isRest_10 : decode cX3_isRest 10 = .ok (.iload 4, 2) := by decide +kernel
theorem dX3_isRest_12 : decode cX3_isRest 12 = .ok (.aload_n 0, 1) := by decide +kernel
theorem dX3_isRest_13 : decode cX3_isRest 13 = .ok (.getfield 19, 3) := by decide +kernel
theorem dX3_isRest_16 : decode cX3_isRest 16 = .ok (.getfield 69, 3) := by decide +kernel
theorem dX3_isRest_19 : decode cX3_isRest 19 = .ok (.if_icmp .gt 55, 3) := by decide +kernel
theorem dX3_isRest_22 : decode cX3_isRest 22 = .ok (.aload_n 0, 1) := by decide +kernel
theorem dX3_isRest_23 : decode cX3_isRest 23 = .ok (.getfield 41, 3) := by decide +kernel
theorem dX3_isRest_26 : decode cX3_isRest 26 = .ok (.bipush 8, 2) := by decide +kernel
theorem dX3_isRest_28 : decode cX3_isRest 28 = .ok (.iload 4, 2) := by decide +kernel
theorem dX3_isRest_30 : decode cX3_isRest 30 = .ok (.imul, 1) := by decide +kernel
theorem dX3_isRest_31 : decode cX3_isRest 31 = .ok (.iload_n 2, 1) := by decide +kernel
theorem dX3_isRest_32 : decode cX3_isRest 32 = .ok (.iadd, 1) := by decide +kernel
theorem dX3_isRest_33 : decode cX3_isRest 33 = .ok (.iaload, 1) := by decide +kernel
theorem dX3_isRest_34 : decode cX3_isRest 34 = .ok (.aload_n 0, 1) := by decide +kernel
theorem dX3_isRest_35 : decode cX3_isRest 35 = .ok (.getfield 41, 3) := by decide +kernel
theorem dX3_isRest_38 : decode cX3_isRest 38 = .ok (.iload_n 3, 1) := by decide +kernel
theorem dX3_isRest_39 : decode cX3_isRest 39 = .ok (.iaload, 1) := by decide +kernel
theorem dX3_isRest_40 : decode cX3_isRest 40 = .ok (.if_icmp .le 5, 3) := by decide +kernel
theorem dX3_isRest_43 : decode cX3_isRest 43 = .ok (.iconst 0, 1) := by decide +kernel
theorem dX3_isRest_44 : decode cX3_isRest 44 = .ok (.ireturn, 1) := by decide +kernel
theorem dX3_isRest_45 : decode cX3_isRest 45 = .ok (.aload_n 0, 1) := by decide +kernel
theorem dX3_isRest_46 : decode cX3_isRest 46 = .ok (.getfield 44, 3) := by decide +kernel
theorem dX3_isRest_49 : decode cX3_isRest 49 = .ok (.bipush 8, 2) := by decide +kernel
theorem dX3_isRest_51 : decode cX3_isRest 51 = .ok (.iload_n 1, 1) := by decide +kernel
theorem dX3_isRest_52 : decode cX3_isRest 52 = .ok (.imul, 1) := by decide +kernel
theorem dX3_isRest_53 : decode cX3_isRest 53 = .ok (.iload 4, 2) := by decide +kernel
theorem dX3_isRest_55 : decode cX3_isRest 55 = .ok (.iadd, 1) := by decide +kernel
theorem dX3_isRest_56 : decode cX3_isRest 56 = .ok (.iaload, 1) := by decide +kernel
theorem dX3_isRest_57 : decode cX3_isRest 57 = .ok (.aload_n 0, 1) := by decide +kernel
theorem dX3_isRest_58 : decode cX3_isRest 58 = .ok (.getfield 44, 3) := by decide +kernel
theorem dX3_isRest_61 : decode cX3_isRest 61 = .ok (.iload_n 3, 1) := by decide +kernel
theorem dX3_isRest_62 : decode cX3_isRest 62 = .ok (.iaload, 1) := by decide +kernel
theorem dX3_isRest_63 : decode cX3_isRest 63 = .ok (.if_icmp .le 5, 3) := by decide +kernel
theorem dX3_isRest_66 : decode cX3_isRest 66 = .ok (.iconst 0, 1) := by decide +kernel
theorem dX3_isRest_67 : decode cX3_isRest 67 = .ok (.ireturn, 1) := by decide +kernel
theorem dX3_isRest_68 : decode cX3_isRest 68 = .ok (.iinc 4 1, 3) := by decide +kernel
theorem dX3_isRest_71 : decode cX3_isRest 71 = .ok (.goto (-61), 3) := by decide +kernel
theorem dX3_isRest_74 : decode cX3_isRest 74 = .ok (.iconst 1, 1) := by decide +kernel
theorem dX3_isRest_75 : decode cX3_isRest 75 = .ok (.ireturn, 1) := by decide +kernel
theorem dX3_bit_0 : decode cX3_bit 0 = .ok (.iconst 1, 1) := by decide +kernel
theorem dX3_bit_1 : decode cX3_bit 1 = .ok (.iload_n 0, 1) := by decide +kernel
theorem dX3_bit_2 : decode cX3_bit 2 = .ok (.ishl, 1) := by decide +kernel
theorem dX3_bit_3 : decode cX3_bit 3 = .ok (.ireturn, 1) := by decide +kernel
theorem dX3_isIn_0 : decode cX3_isIn 0 = .ok (.iload_n 0, 1) := by decide +kernel
theorem dX3_isIn_1 : decode cX3_isIn 1 = .ok (.iconst 1, 1) := by decide +kernel
theorem dX3_isIn_2 : decode cX3_isIn 2 = .ok (.iload_n 1, 1) := by decide +kernel
theorem dX3_isIn_3 : decode cX3_isIn 3 = .ok (.ishl, 1) := by decide +kernel
theorem dX3_isIn_4 : decode cX3_isIn 4 = .ok (.iand, 1) := by decide +kernel
theorem dX3_isIn_5 : decode cX3_isIn 5 = .ok (.ifCond .eq 7, 3) := by decide +kernel
theorem dX3_isIn_8 : decode cX3_isIn 8 = .ok (.iconst 1, 1) := by decide +kernel
theorem dX3_isIn_9 : decode cX3_isIn 9 = .ok (.goto 4, 3) := by decide +kernel
theorem dX3_isIn_12 : decode cX3_isIn 12 = .ok (.iconst 0, 1) := by decide +kernel
theorem dX3_isIn_13 : decode cX3_isIn 13 = .ok (.ireturn, 1) := by decide +kernel
theorem dX3_without_0 : decode cX3_without 0 = .ok (.iload_n 0, 1) := by decide +kernel
theorem dX3_without_1 : decode cX3_without 1 = .ok (.iconst 1, 1) := by decide +kernel
theorem dX3_without_2 : decode cX3_without 2 = .ok (.iload_n 1, 1) := by decide +kernel
theorem dX3_without_3 : decode cX3_without 3 = .ok (.ishl, 1) := by decide +kernel
theorem dX3_without_4 : decode cX3_without 4 = .ok (.iconst (-1), 1) := by decide +kernel
theorem dX3_without_5 : decode cX3_without 5 = .ok (.ixor, 1) := by decide +kernel
theorem dX3_without_6 : decode cX3_without 6 = .ok (.iand, 1) := by decide +kernel
theorem dX3_without_7 : decode cX3_without 7 = .ok (.ireturn, 1) := by decide +kernel
set_option maxRecDepth 20000 in
theorem ggX3_leastOf_X3_isIn : GoodIn wsX3_leastOf wsX3_isIn := goodIn_r _ [4] (by decide +kernel) (by decide +kernel)
set_option maxRecDepth 20000 in
theorem gX3_leastOf_X3_isIn : GoodIn wsX3_leastOf (va_wsS RX3 107 yX3_isIn wsX3_isIn) := goodIn_app (goodIn_of _ (by decide +kernel)) ggX3_leastOf_X3_isIn
theorem dX3_leastOf_0 : decode cX3_leastOf 0 = .ok (.iconst 0, 1) := by decide +kernel
theorem dX3_leastOf_1 : decode cX3_leastOf 1 = .ok (.istore_n 1, 1) := by decide +kernel
theorem dX3_leastOf_2 : decode cX3_leastOf 2 = .ok (.iload_n 1, 1) := by decide +kernel
theorem dX3_leastOf_3 : decode cX3_leastOf 3 = .ok (.bipush 7, 2) := by decide +kernel
theorem dX3_leastOf_5 : decode cX3_leastOf 5 = .ok (.if_icmp .ge 19, 3) := by decide +kernel
theorem dX3_leastOf_8 : decode cX3_leastOf 8 = .ok (.iload_n 0, 1) := by decide +kernel
theorem dX3_leastOf_9 : decode cX3_leastOf 9 = .ok (.iload_n 1, 1) := by decide +kernel
theorem dX3_leastOf_10 : decode cX3_leastOf 10 = .ok (.invokestatic 107, 3) := by decide +kernel
theorem dX3_leastOf_13 : decode cX3_leastOf 13 = .ok (.ifCond .eq 5, 3) := by decide +kernel
theorem dX3_leastOf_16 : decode cX3_leastOf 16 = .ok (.iload_n 1, 1) := by decide +kernel
theorem dX3_leastOf_17 : decode cX3_leastOf 17 = .ok (.ireturn, 1) := by decide +kernel
theorem dX3_leastOf_18 : decode cX3_leastOf 18 = .ok (.iinc 1 1, 3) := by decide +kernel
theorem dX3_leastOf_21 : decode cX3_leastOf 21 = .ok (.goto (-19), 3) := by decide +kernel
theorem dX3_leastOf_24 : decode cX3_leastOf 24 = .ok (.bipush (-9), 2) := by decide +kernel
theorem dX3_leastOf_26 : decode cX3_leastOf 26 = .ok (.ireturn, 1) := by decide +kernel
theorem dX3_pair_0 : decode cX3_pair 0 = .ok (.lconst 1, 1) := by decide +kernel
theorem dX3_pair_1 : decode cX3_pair 1 = .ok (.bipush 7, 2) := by decide +kernel
theorem dX3_pair_3 : decode cX3_pair 3 = .ok (.iload_n 1, 1) := by decide +kernel
theorem dX3_pair_4 : decode cX3_pair 4 = .ok (.imul, 1) := by decide +kernel
theorem dX3_pair_5 : decode cX3_pair 5 = .ok (.iload_n 0, 1) := by decide +kernel
theorem dX3_pair_6 : decode cX3_pair 6 = .ok (.iadd, 1) := by decide +kernel
theorem dX3_pair_7 : decode cX3_pair 7 = .ok (.lshl, 1) := by decide +kernel
theorem dX3_pair_8 : decode cX3_pair 8 = .ok (.lreturn, 1) := by decide +kernel
theorem dX3_factorial_0 : decode cX3_factorial 0 = .ok (.iconst 1, 1) := by decide +kernel
theorem dX3_factorial_1 : decode cX3_factorial 1 = .ok (.istore_n 1, 1) := by decide +kernel
theorem dX3_factorial_2 : decode cX3_factorial 2 = .ok (.iconst 2, 1) := by decide +kernel
theorem dX3_factorial_3 : decode cX3_factorial 3 = .ok (.istore_n 2, 1) := by decide +kernel
theorem dX3_factorial_4 : decode cX3_factorial 4 = .ok (.iload_n 2, 1) := by decide +kernel
theorem dX3_factorial_5 : decode cX3_factorial 5 = .ok (.iload_n 0, 1) := by decide +kernel
theorem dX3_factorial_6 : decode cX3_factorial 6 = .ok (.if_icmp .gt 13, 3) := by decide +kernel
theorem dX3_factorial_9 : decode cX3_factorial 9 = .ok (.iload_n 1, 1) := by decide +kernel
theorem dX3_factorial_10 : decode cX3_factorial 10 = .ok (.iload_n 2, 1) := by decide +kernel
theorem dX3_factorial_11 : decode cX3_factorial 11 = .ok (.imul, 1) := by decide +kernel
theorem dX3_factorial_12 : decode cX3_factorial 12 = .ok (.istore_n 1, 1) := by decide +kernel
theorem dX3_factorial_13 : decode cX3_factorial 13 = .ok (.iinc 2 1, 3) := by decide +kernel
theorem dX3_factorial_16 : decode cX3_factorial 16 = .ok (.goto (-12), 3) := by decide +kernel
theorem dX3_factorial_19 : decode cX3_factorial 19 = .ok (.iload_n 1, 1) := by decide +kernel
theorem dX3_factorial_20 : decode cX3_factorial 20 = .ok (.ireturn, 1) := by decide +kernel
set_option maxRecDepth 20000 in
theorem ggX3_inLeastTerms_X3_commonDivisor : GoodIn wsX3_inLeastTerms wsX3_commonDivisor := goodIn_r _ [8] (by decide +kernel) (by decide +kernel)
set_option maxRecDepth 20000 in
theorem gX3_inLeastTerms_X3_commonDivisor : GoodIn wsX3_inLeastTerms (va_wsS RX3 225 yX3_commonDivisor wsX3_commonDivisor) := goodIn_app (goodIn_of _ (by decide +kernel)) ggX3_inLeastTerms_X3_commonDivisor
theorem dX3_inLeastTerms_0 : decode cX3_inLeastTerms 0 = .ok (.iload_n 0, 1) := by decide +kernel
theorem dX3_inLeastTerms_1 : decode cX3_inLeastTerms 1 = .ok (.invokestatic 220, 3) := by decide +kernel
theorem dX3_inLeastTerms_4 : decode cX3_inLeastTerms 4 = .ok (.iload_n 1, 1) := by decide +kernel
theorem dX3_inLeastTerms_5 : decode cX3_inLeastTerms 5 = .ok (.invokestatic 225, 3) := by decide +kernel
theorem dX3_inLeastTerms_8 : decode cX3_inLeastTerms 8 = .ok (.istore_n 3, 1) := by decide +kernel
theorem dX3_inLeastTerms_9 : decode cX3_inLeastTerms 9 = .ok (.iload_n 2, 1) := by decide +kernel
theorem dX3_inLeastTerms_10 : decode cX3_inLeastTerms 10 = .ok (.ifCond .eq 7, 3) := by decide +kernel
theorem dX3_inLeastTerms_13 : decode cX3_inLeastTerms 13 = .ok (.iload_n 0, 1) := by decide +kernel
theorem dX3_inLeastTerms_14 : decode cX3_inLeastTerms 14 = .ok (.goto 4, 3) := by decide +kernel
theorem dX3_inLeastTerms_17 : decode cX3_inLeastTerms 17 = .ok (.iload_n 1, 1) := by decide +kernel
theorem dX3_inLeastTerms_18 : decode cX3_inLeastTerms 18 = .ok (.istore 4, 2) := by decide +kernel
theorem dX3_inLeastTerms_20 : decode cX3_inLeastTerms 20 = .ok (.iload_n 3, 1) := by decide +kernel
theorem dX3_inLeastTerms_21 : decode cX3_inLeastTerms 21 = .ok (.ifCond .le 10, 3) := by decide +kernel
theorem dX3_inLeastTerms_24 : decode cX3_inLeastTerms 24 = .ok (.iload 4, 2) := by decide +kernel
theorem dX3_inLeastTerms_26 : decode cX3_inLeastTerms 26 = .ok (.iload_n 3, 1) := by decide +kernel
theorem dX3_inLeastTerms_27 : decode cX3_inLeastTerms 27 = .ok (.idiv, 1) := by decide +kernel
theorem dX3_inLeastTerms_28 : decode cX3_inLeastTerms 28 = .ok (.goto 5, 3) := by decide +kernel
theorem dX3_inLeastTerms_31 : decode cX3_inLeastTerms 31 = .ok (.iload 4, 2) := by decide +kernel
theorem dX3_inLeastTerms_33 : decode cX3_inLeastTerms 33 = .ok (.ireturn, 1) := by decide +kernel
theorem dX3_commonDivisor_0 : decode cX3_commonDivisor 0 = .ok (.iload_n 0, 1) := by decide +kernel
theorem dX3_commonDivisor_1 : decode cX3_commonDivisor 1 = .ok (.istore_n 2, 1) := by decide +kernel
theorem dX3_commonDivisor_2 : decode cX3_commonDivisor 2 = .ok (.iload_n 1, 1) := by decide +kernel
theorem dX3_commonDivisor_3 : decode cX3_commonDivisor 3 = .ok (.istore_n 3, 1) := by decide +kernel
theorem dX3_commonDivisor_4 : decode cX3_commonDivisor 4 = .ok (.iconst 0, 1) := by decide +kernel
theorem dX3_commonDivisor_5 : decode cX3_commonDivisor 5 = .ok (.istore 4, 2) := by decide +kernel
theorem dX3_commonDivisor_7 : decode cX3_commonDivisor 7 = .ok (.iload 4, 2) := by decide +kernel
theorem dX3_commonDivisor_9 : decode cX3_commonDivisor 9 = .ok (.bipush 100, 2) := by decide +kernel
theorem dX3_commonDivisor_11 : decode cX3_commonDivisor 11 = .ok (.if_icmp .ge 23, 3) := by decide +kernel
theorem dX3_commonDivisor_14 : decode cX3_commonDivisor 14 = .ok (.iload_n 3, 1) := by decide +kernel
theorem dX3_commonDivisor_15 : decode cX3_commonDivisor 15 = .ok (.ifCond .eq 19, 3) := by decide +kernel
theorem dX3_commonDivisor_18 : decode cX3_commonDivisor 18 = .ok (.iload_n 2, 1) := by decide +kernel
theorem dX3_commonDivisor_19 : decode cX3_commonDivisor 19 = .ok (.iload_n 3, 1) := by decide +kernel
theorem dX3_commonDivisor_20 : decode cX3_commonDivisor 20 = .ok (.irem, 1) := by decide +kernel
theorem dX3_commonDivisor_21 : decode cX3_commonDivisor 21 = .ok (.istore 5, 2) := by decide +kernel
theorem dX3_commonDivisor_23 : decode cX3_commonDivisor 23 = .ok (.iload_n 3, 1) := by decide +kernel
theorem dX3_commonDivisor_24 : decode cX3_commonDivisor 24 = .ok (.istore_n 2, 1) := by decide +kernel
theorem dX3_commonDivisor_25 : decode cX3_commonDivisor 25 = .ok (.iload 5, 2) := by decide +kernel
theorem dX3_commonDivisor_27 : decode cX3_commonDivisor 27 = .ok (.istore_n 3, 1) := by decide +kernel
theorem dX3_commonDivisor_28 : decode cX3_commonDivisor 28 = .ok (.iinc 4 1, 3) := by decide +kernel
theorem dX3_commonDivisor_31 : decode cX3_commonDivisor 31 = .ok (.goto (-24), 3) := by decide +kernel
theorem dX3_commonDivisor_34 : decode cX3_commonDivisor 34 = .ok (.iload_n 2, 1) := by decide +kernel
theorem dX3_commonDivisor_35 : decode cX3_commonDivisor 35 = .ok (.ireturn, 1) := by decide +kernel
theorem dX4_init_0 : decode cX4_init 0 = .ok (.aload_n 0, 1) := by decide +kernel
theorem dX4_init_1 : decode cX4_init 1 = .ok (.invokespecial 1, 3) := by decide +kernel
theorem dX4_init_4 : decode cX4_init 4 = .ok (.aload_n 0, 1) := by decide +kernel
theorem dX4_init_5 : decode cX4_init 5 = .ok (.bipush 48, 2) := by decide +kernel
theorem dX4_init_7 : decode cX4_init 7 = .ok (.newarray .int, 2) := by decide +kernel
theorem dX4_init_9 : decode cX4_init 9 = .ok (.putfield 7, 3) := by decide +kernel
theorem dX4_init_12 : decode cX4_init 12 = .ok (.aload_n 0, 1) := by decide +kernel
theorem dX4_init_13 : decode cX4_init 13 = .ok (.bipush 7, 2) := by decide +kernel
theorem dX4_init_15 : decode cX4_init 15 = .ok (.newarray .int, 2) := by decide +kernel
theorem dX4_init_17 : decode cX4_init 17 = .ok (.putfield 13, 3) := by decide +kernel
theorem dX4_init_20 : decode cX4_init 20 = .ok (.aload_n 0, 1) := by decide +kernel
theorem dX4_init_21 : decode cX4_init 21 = .ok (.bipush 7, 2) := by decide +kernel
theorem dX4_init_23 : decode cX4_init 23 = .ok (.newarray .int, 2) := by decide +kernel
theorem dX4_init_25 : decode cX4_init 25 = .ok (.putfield 16, 3) := by decide +kernel
theorem dX4_init_28 : decode cX4_init 28 = .ok (.aload_n 0, 1) := by decide +kernel
theorem dX4_init_29 : decode cX4_init 29 = .ok (.bipush 7, 2) := by decide +kernel
theorem dX4_init_31 : decode cX4_init 31 = .ok (.newarray .int, 2) := by decide +kernel
theorem dX4_init_33 : decode cX4_init 33 = .ok (.putfield 19, 3) := by decide +kernel
theorem dX4_init_36 : decode cX4_init 36 = .ok (.aload_n 0, 1) := by decide +kernel
theorem dX4_init_37 : decode cX4_init 37 = .ok (.bipush 7, 2) := by decide +kernel
theorem dX4_init_39 : decode cX4_init 39 = .ok (.newarray .int, 2) := by decide +kernel
theorem dX4_init_41 : decode cX4_init 41 = .ok (.putfield 22, 3) := by decide +kernel
theorem dX4_init_44 : decode cX4_init 44 = .ok (.aload_n 0, 1) := by decide +kernel
theorem dX4_init_45 : decode cX4_init 45 = .ok (.bipush 17, 2) := by decide +kernel
theorem dX4_init_47 : decode cX4_init 47 = .ok (.newarray .int, 2) := by decide +kernel
theorem dX4_init_49 : decode cX4_init 49 = .ok (.putfield 25, 3) := by decide +kernel
theorem dX4_init_52 : decode cX4_init 52 = .ok (.aload_n 0, 1) := by decide +kernel
theorem dX4_init_53 : decode cX4_init 53 = .ok (.bipush 17, 2) := by decide +kernel
theorem dX4_init_55 : decode cX4_init 55 = .ok (.newarray .int, 2) := by decide +kernel
theorem dX4_init_57 : decode cX4_init 57 = .ok (.putfield 28, 3) := by decide +kernel
theorem dX4_init_60 : decode cX4_init 60 = .ok (.aload_n 0, 1) := by decide +kernel
theorem dX4_init_61 : decode cX4_init 61 = .ok (.sipush 238, 3) := by decide +kernel
theorem dX4_init_64 : decode cX4_init 64 = .ok (.newarray .int, 2) := by decide +kernel
theorem dX4_init_66 : decode cX4_init 66 = .ok (.putfield 31, 3) := by decide +kernel
theorem dX4_init_69 : decode cX4_init 69 = .ok (.aload_n 0, 1) := by decide +kernel
theorem dX4_init_70 : decode cX4_init 70 = .ok (.bipush 34, 2) := by decide +kernel
theorem dX4_init_72 : decode cX4_init 72 = .ok (.newarray .int, 2) := by decide +kernel
theorem dX4_init_74 : decode cX4_init 74 = .ok (.putfield 34, 3) := by decide +kernel
theorem dX4_init_77 : decode cX4_init 77 = .ok (.aload_n 0, 1) := by decide +kernel
theorem dX4_init_78 : decode cX4_init 78 = .ok (.iconst 2, 1) := by decide +kernel
theorem dX4_init_79 : decode cX4_init 79 = .ok (.newarray .boolean, 2) := by decide +kernel
theorem dX4_init_81 : decode cX4_init 81 = .ok (.putfield 37, 3) := by decide +kernel
theorem dX4_init_84 : decode cX4_init 84 = .ok (.aload_n 0, 1) := by decide +kernel
theorem dX4_init_85 : decode cX4_init 85 = .ok (.bipush 6, 2) := by decide +kernel
theorem dX4_init_87 : decode cX4_init 87 = .ok (.newarray .int, 2) := by decide +kernel
theorem dX4_init_89 : decode cX4_init 89 = .ok (.putfield 41, 3) := by decide +kernel
theorem dX4_init_92 : decode cX4_init 92 = .ok (.aload_n 0, 1) := by decide +kernel
theorem dX4_init_93 : decode cX4_init 93 = .ok (.bipush 6, 2) := by decide +kernel
theorem dX4_init_95 : decode cX4_init 95 = .ok (.newarray .int, 2) := by decide +kernel
theorem dX4_init_97 : decode cX4_init 97 = .ok (.putfield 44, 3) := by decide +kernel
theorem dX4_init_100 : decode cX4_init 100 = .ok (.aload_n 0, 1) := by decide +kernel
theorem dX4_init_101 : decode cX4_init 101 = .ok (.bipush 7, 2) := by decide +kernel
theorem dX4_init_103 : decode cX4_init 103 = .ok (.newarray .int, 2) := by decide +kernel
theorem dX4_init_105 : decode cX4_init 105 = .ok (.putfield 47, 3) := by decide +kernel
theorem dX4_init_108 : decode cX4_init 108 = .ok (.aload_n 0, 1) := by decide +kernel
theorem dX4_init_109 : decode cX4_init 109 = .ok (.sipush 128, 3) := by decide +kernel
theorem dX4_init_112 : decode cX4_init 112 = .ok (.newarray .int, 2) := by decide +kernel
theorem dX4_init_114 : decode cX4_init 114 = .ok (.putfield 50, 3) := by decide +kernel
theorem dX4_init_117 : decode cX4_init 117 = .ok (.aload_n 0, 1) := by decide +kernel
theorem dX4_init_118 : decode cX4_init 118 = .ok (.sipush 128, 3) := by decide +kernel
theorem dX4_init_121 : decode cX4_init 121 = .ok (.newarray .int, 2) := by decide +kernel
theorem dX4_init_123 : decode cX4_init 123 = .ok (.putfield 53, 3) := by decide +kernel
theorem dX4_init_126 : decode cX4_init 126 = .ok (.aload_n 0, 1) := by decide +kernel
theorem dX4_init_127 : decode cX4_init 127 = .ok (.sipush 128, 3) := by decide +kernel
theorem dX4_init_130 : decode cX4_init 130 = .ok (.newarray .long, 2) := by decide +kernel
theorem dX4_init_132 : decode cX4_init 132 = .ok (.putfield 56, 3) := by decide +kernel
theorem dX4_init_135 : decode cX4_init 135 = .ok (.return_, 1) := by decide +kernel
theorem dX4_in_0 : decode cX4_in 0 = .ok (.lload_n 0, 1) := by decide +kernel
theorem dX4_in_1 : decode cX4_in 1 = .ok (.lload_n 2, 1) := by decide +kernel
theorem dX4_in_2 : decode cX4_in 2 = .ok (.lcmp, 1) := by decide +kernel
theorem dX4_in_3 : decode cX4_in 3 = .ok (.ifCond .lt 14, 3) := by decide +kernel
theorem dX4_in_6 : decode cX4_in 6 = .ok (.lload_n 0, 1) := by decide +kernel
theorem dX4_in_7 : decode cX4_in 7 = .ok (.lload 4, 2) := by decide +kernel
theorem dX4_in_9 : decode cX4_in 9 = .ok (.lcmp, 1) := by decide +kernel
theorem dX4_in_10 : decode cX4_in 10 = .ok (.ifCond .gt 7, 3) := by decide +kernel
theorem dX4_in_13 : decode cX4_in 13 = .ok (.iconst 1, 1) := by decide +kernel
theorem dX4_in_14 : decode cX4_in 14 = .ok (.goto 4, 3) := by decide +kernel
theorem dX4_in_17 : decode cX4_in 17 = .ok (.iconst 0, 1) := by decide +kernel
theorem dX4_in_18 : decode cX4_in 18 = .ok (.ireturn, 1) := by decide +kernel
theorem dX4_has_0 : decode cX4_has 0 = .ok (.iload_n 0, 1) := by decide +kernel
theorem dX4_has_1 : decode cX4_has 1 = .ok (.iload_n 1, 1) := by decide +kernel
theorem dX4_has_2 : decode cX4_has 2 = .ok (.ishr, 1) := by decide +kernel
theorem dX4_has_3 : decode cX4_has 3 = .ok (.iconst 1, 1) := by decide +kernel
theorem dX4_has_4 : decode cX4_has 4 = .ok (.iand, 1) := by decide +kernel
theorem dX4_has_5 : decode cX4_has 5 = .ok (.iconst 1, 1) := by decide +kernel
theorem dX4_has_6 : decode cX4_has 6 = .ok (.if_icmp .ne 7, 3) := by decide +kernel
theorem dX4_has_9 : decode cX4_has 9 = .ok (.iconst 1, 1) := by decide +kernel
theorem dX4_has_10 : decode cX4_has 10 = .ok (.goto 4, 3) := by decide +kernel
theorem dX4_has_13 : decode cX4_has 13 = .ok (.iconst 0, 1) := by decide +kernel
theorem dX4_has_14 : decode cX4_has 14 = .ok (.ireturn, 1) := by decide +kernel
theorem dX4_many_0 : decode cX4_many 0 = .ok (.iconst 0, 1) := by decide +kernel
theorem dX4_many_1 : decode cX4_many 1 = .ok (.istore_n 1, 1) := by decide +kernel
theorem dX4_many_2 : decode cX4_many 2 = .ok (.iconst 0, 1) := by decide +kernel
theorem dX4_many_3 : decode cX4_many 3 = .ok (.istore_n 2, 1) := by decide +kernel
theorem dX4_many_4 : decode cX4_many 4 = .ok (.iload_n 2, 1) := by decide +kernel
theorem dX4_many_5 : decode cX4_many 5 = .ok (.bipush 7, 2) := by decide +kernel
theorem dX4_many_7 : decode cX4_many 7 = .ok (.if_icmp .ge 17, 3) := by decide +kernel
theorem dX4_many_10 : decode cX4_many 10 = .ok (.iload_n 1, 1) := by decide +kernel
theorem dX4_many_11 : decode cX4_many 11 = .ok (.iload_n 0, 1) := by decide +kernel
theorem dX4_many_12 : decode cX4_many 12 = .ok (.iload_n 2, 1) := by decide +kernel
theorem dX4_many_13 : decode cX4_many 13 = .ok (.ishr, 1) := by decide +kernel
theorem dX4_many_14 : decode cX4_many 14 = .ok (.iconst 1, 1) := by decide +kernel
theorem dX4_many_15 : decode cX4_many 15 = .ok (.iand, 1) := by decide +kernel
theorem dX4_many_16 : decode cX4_many 16 = .ok (.iadd, 1) := by decide +kernel
theorem dX4_many_17 : decode cX4_many 17 = .ok (.istore_n 1, 1) := by decide +kernel
theorem dX4_many_18 : decode cX4_many 18 = .ok (.iinc 2 1, 3) := by decide +kernel
theorem dX4_many_21 : decode cX4_many 21 = .ok (.goto (-17), 3) := by decide +kernel
theorem dX4_many_24 : decode cX4_many 24 = .ok (.iload_n 1, 1) := by decide +kernel
theorem dX4_many_25 : decode cX4_many 25 = .ok (.ireturn, 1) := by decide +kernel
set_option maxRecDepth 20000 in
theorem ggX4_noPerson_X4_in : GoodIn wsX4_noPerson wsX4_in := goodIn_r _ [5] (by decide +kernel) (by decide +kernel)
set_option maxRecDepth 20000 in
theorem gX4_noPerson_X4_in : GoodIn wsX4_noPerson (va_wsS RX4 67 yX4_in wsX4_in) := goodIn_app (goodIn_of _ (by decide +kernel)) ggX4_noPerson_X4_in
theorem dX4_noPerson_0 : decode cX4_noPerson 0 = .ok (.iload_n 1, 1) := by decide +kernel
theorem dX4_noPerson_1 : decode cX4_noPerson 1 = .ok (.i2l, 1) := by decide +kernel
theorem dX4_noPerson_2 : decode cX4_noPerson 2 = .ok (.lconst 0, 1) := by decide +kernel
theorem dX4_noPerson_3 : decode cX4_noPerson 3 = .ok (.aload_n 0, 1) := by decide +kernel
theorem dX4_noPerson_4 : decode cX4_noPerson 4 = .ok (.getfield 64, 3) := by decide +kernel
theorem dX4_noPerson_7 : decode cX4_noPerson 7 = .ok (.iconst 1, 1) := by decide +kernel
theorem dX4_noPerson_8 : decode cX4_noPerson 8 = .ok (.isub, 1) := by decide +kernel
theorem dX4_noPerson_9 : decode cX4_noPerson 9 = .ok (.i2l, 1) := by decide +kernel
theorem dX4_noPerson_10 : decode cX4_noPerson 10 = .ok (.invokestatic 67, 3) := by decide +kernel
theorem dX4_noPerson_13 : decode cX4_noPerson 13 = .ok (.ifCond .ne 7, 3) := by decide +kernel
theorem dX4_noPerson_16 : decode cX4_noPerson 16 = .ok (.iconst 1, 1) := by decide +kernel
theorem dX4_noPerson_17 : decode cX4_noPerson 17 = .ok (.goto 4, 3) := by decide +kernel
theorem dX4_noPerson_20 : decode cX4_noPerson 20 = .ok (.iconst 0, 1) := by decide +kernel
theorem dX4_noPerson_21 : decode cX4_noPerson 21 = .ok (.ireturn, 1) := by decide +kernel
set_option maxRecDepth 20000 in
theorem ggX4_write_X4_in : GoodIn wsX4_write wsX4_in := goodIn_r _ [8] (by decide +kernel) (by decide +kernel)
set_option maxRecDepth 20000 in
theorem gX4_write_X4_in : GoodIn wsX4_write (va_wsS RX4 67 yX4_in wsX4_in) := goodIn_app (goodIn_of _ (by decide +kernel)) ggX4_write_X4_in
theorem dX4_write_0 : decode cX4_write 0 = .ok (.aload_n 0, 1) := by decide +kernel
theorem dX4_write_1 : decode cX4_write 1 = .ok (.iconst 0, 1) := by decide +kernel
theorem dX4_write_2 : decode cX4_write 2 = .ok (.putfield 60, 3) := by decide +kernel
theorem dX4_write_5 : decode cX4_write 5 = .ok (.iload_n 1, 1) := by decide +kernel
theorem dX4_write_6 : decode cX4_write 6 = .ok (.i2l, 1) := by decide +kernel
theorem dX4_write_7 : decode cX4_write 7 = .ok (.lconst 0, 1) := by decide +kernel
theorem dX4_write_8 : decode cX4_write 8 = .ok (.ldc2_w 71, 3) := by decide +kernel
theorem dX4_write_11 : decode cX4_write 11 = .ok (.invokestatic 67, 3) := by decide +kernel
theorem dX4_write_14 : decode cX4_write 14 = .ok (.ifCond .ne 6, 3) := by decide +kernel
theorem dX4_write_17 : decode cX4_write 17 = .ok (.bipush (-2), 2) := by decide +kernel
theorem dX4_write_19 : decode cX4_write 19 = .ok (.ireturn, 1) := by decide +kernel
theorem dX4_write_20 : decode cX4_write 20 = .ok (.aload_n 0, 1) := by decide +kernel
theorem dX4_write_21 : decode cX4_write 21 = .ok (.getfield 73, 3) := by decide +kernel
theorem dX4_write_24 : decode cX4_write 24 = .ok (.bipush 48, 2) := by decide +kernel
theorem dX4_write_26 : decode cX4_write 26 = .ok (.if_icmp .ne 6, 3) := by decide +kernel
theorem dX4_write_29 : decode cX4_write 29 = .ok (.bipush (-4), 2) := by decide +kernel
theorem dX4_write_31 : decode cX4_write 31 = .ok (.ireturn, 1) := by decide +kernel
theorem dX4_write_32 : decode cX4_write 32 = .ok (.aload_n 0, 1) := by decide +kernel
theorem dX4_write_33 : decode cX4_write 33 = .ok (.getfield 7, 3) := by decide +kernel
theorem dX4_write_36 : decode cX4_write 36 = .ok (.aload_n 0, 1) := by decide +kernel
theorem dX4_write_37 : decode cX4_write 37 = .ok (.getfield 73, 3) := by decide +kernel
theorem dX4_write_40 : decode cX4_write 40 = .ok (.iload_n 1, 1) := by decide +kernel
theorem dX4_write_41 : decode cX4_write 41 = .ok (.iastore, 1) := by decide +kernel
theorem dX4_write_42 : decode cX4_write 42 = .ok (.aload_n 0, 1) := by decide +kernel
theorem dX4_write_43 : decode cX4_write 43 = .ok (.dup, 1) := by decide +kernel
theorem dX4_write_44 : decode cX4_write 44 = .ok (.getfield 73, 3) := by decide +kernel
theorem dX4_write_47 : decode cX4_write 47 = .ok (.iconst 1, 1) := by decide +kernel
theorem dX4_write_48 : decode cX4_write 48 = .ok (.iadd, 1) := by decide +kernel
theorem dX4_write_49 : decode cX4_write 49 = .ok (.putfield 73, 3) := by decide +kernel
theorem dX4_write_52 : decode cX4_write 52 = .ok (.aload_n 0, 1) := by decide +kernel
theorem dX4_write_53 : decode cX4_write 53 = .ok (.getfield 73, 3) := by decide +kernel
theorem dX4_write_56 : decode cX4_write 56 = .ok (.ireturn, 1) := by decide +kernel
theorem dX4_wipe_0 : decode cX4_wipe 0 = .ok (.aload_n 0, 1) := by decide +kernel
theorem dX4_wipe_1 : decode cX4_wipe 1 = .ok (.iconst 0, 1) := by decide +kernel
theorem dX4_wipe_2 : decode cX4_wipe 2 = .ok (.putfield 60, 3) := by decide +kernel
theorem dX4_wipe_5 : decode cX4_wipe 5 = .ok (.aload_n 0, 1) := by decide +kernel
theorem dX4_wipe_6 : decode cX4_wipe 6 = .ok (.getfield 73, 3) := by decide +kernel
theorem dX4_wipe_9 : decode cX4_wipe 9 = .ok (.istore_n 1, 1) := by decide +kernel
theorem dX4_wipe_10 : decode cX4_wipe 10 = .ok (.aload_n 0, 1) := by decide +kernel
theorem dX4_wipe_11 : decode cX4_wipe 11 = .ok (.iconst 0, 1) := by decide +kernel
theorem dX4_wipe_12 : decode cX4_wipe 12 = .ok (.putfield 73, 3) := by decide +kernel
theorem dX4_wipe_15 : decode cX4_wipe 15 = .ok (.iload_n 1, 1) := by decide +kernel
theorem dX4_wipe_16 : decode cX4_wipe 16 = .ok (.ireturn, 1) := by decide +kernel
set_option maxRecDepth 20000 in
theorem ggX4_figure_X4_in : GoodIn wsX4_figure wsX4_in := goodIn_r _ [7] (by decide +kernel) (by decide +kernel)
set_option maxRecDepth 20000 in
theorem gX4_figure_X4_in : GoodIn wsX4_figure (va_wsS RX4 67 yX4_in wsX4_in) := goodIn_app (goodIn_of _ (by decide +kernel)) ggX4_figure_X4_in
theorem dX4_figure_0 : decode cX4_figure 0 = .ok (.aload_n 0, 1) := by decide +kernel
theorem dX4_figure_1 : decode cX4_figure 1 = .ok (.getfield 76, 3) := by decide +kernel
theorem dX4_figure_4 : decode cX4_figure 4 = .ok (.aload_n 0, 1) := by decide +kernel
theorem dX4_figure_5 : decode cX4_figure 5 = .ok (.getfield 73, 3) := by decide +kernel
theorem dX4_figure_8 : decode cX4_figure 8 = .ok (.if_icmp .eq 25, 3) := by decide +kernel
theorem dX4_figure_11 : decode cX4_figure 11 = .ok (.aload_n 0, 1) := by decide +kernel
theorem dX4_figure_12 : decode cX4_figure 12 = .ok (.getfield 7, 3) := by decide +kernel
theorem dX4_figure_15 : decode cX4_figure 15 = .ok (.aload_n 0, 1) := by decide +kernel
theorem dX4_figure_16 : decode cX4_figure 16 = .ok (.getfield 76, 3) := by decide +kernel
theorem dX4_figure_19 : decode cX4_figure 19 = .ok (.iaload, 1) := by decide +kernel
theorem dX4_figure_20 : decode cX4_figure 20 = .ok (.bipush 48, 2) := by decide +kernel
theorem dX4_figure_22 : decode cX4_figure 22 = .ok (.isub, 1) := by decide +kernel
theorem dX4_figure_23 : decode cX4_figure 23 = .ok (.i2l, 1) := by decide +kernel
theorem dX4_figure_24 : decode cX4_figure 24 = .ok (.lconst 0, 1) := by decide +kernel
theorem dX4_figure_25 : decode cX4_figure 25 = .ok (.iload_n 1, 1) := by decide +kernel
theorem dX4_figure_26 : decode cX4_figure 26 = .ok (.i2l, 1) := by decide +kernel
theorem dX4_figure_27 : decode cX4_figure 27 = .ok (.invokestatic 67, 3) := by decide +kernel
theorem dX4_figure_30 : decode cX4_figure 30 = .ok (.ifCond .ne 6, 3) := by decide +kernel
theorem dX4_figure_33 : decode cX4_figure 33 = .ok (.bipush (-9), 2) := by decide +kernel
theorem dX4_figure_35 : decode cX4_figure 35 = .ok (.ireturn, 1) := by decide +kernel
theorem dX4_figure_36 : decode cX4_figure 36 = .ok (.aload_n 0, 1) := by decide +kernel
theorem dX4_figure_37 : decode cX4_figure 37 = .ok (.dup, 1) := by decide +kernel
theorem dX4_figure_38 : decode cX4_figure 38 = .ok (.getfield 76, 3) := by decide +kernel
theorem dX4_figure_41 : decode cX4_figure 41 = .ok (.iconst 1, 1) := by decide +kernel
theorem dX4_figure_42 : decode cX4_figure 42 = .ok (.iadd, 1) := by decide +kernel
theorem dX4_figure_43 : decode cX4_figure 43 = .ok (.putfield 76, 3) := by decide +kernel
theorem dX4_figure_46 : decode cX4_figure 46 = .ok (.aload_n 0, 1) := by decide +kernel
theorem dX4_figure_47 : decode cX4_figure 47 = .ok (.getfield 7, 3) := by decide +kernel
theorem dX4_figure_50 : decode cX4_figure 50 = .ok (.aload_n 0, 1) := by decide +kernel
theorem dX4_figure_51 : decode cX4_figure 51 = .ok (.getfield 76, 3) := by decide +kernel
theorem dX4_figure_54 : decode cX4_figure 54 = .ok (.iconst 1, 1) := by decide +kernel
theorem dX4_figure_55 : decode cX4_figure 55 = .ok (.isub, 1) := by decide +kernel
theorem dX4_figure_56 : decode cX4_figure 56 = .ok (.iaload, 1) := by decide +kernel
theorem dX4_figure_57 : decode cX4_figure 57 = .ok (.bipush 48, 2) := by decide +kernel
theorem dX4_figure_59 : decode cX4_figure 59 = .ok (.isub, 1) := by decide +kernel
theorem dX4_figure_60 : decode cX4_figure 60 = .ok (.ireturn, 1) := by decide +kernel
theorem dX4_leftOf_0 : decode cX4_leftOf 0 = .ok (.iconst 1, 1) := by decide +kernel
theorem dX4_leftOf_1 : decode cX4_leftOf 1 = .ok (.aload_n 0, 1) := by decide +kernel
theorem dX4_leftOf_2 : decode cX4_leftOf 2 = .ok (.getfield 79, 3) := by decide +kernel
theorem dX4_leftOf_5 : decode cX4_leftOf 5 = .ok (.ishl, 1) := by decide +kernel
theorem dX4_leftOf_6 : decode cX4_leftOf 6 = .ok (.iconst 1, 1) := by decide +kernel
theorem dX4_leftOf_7 : decode cX4_leftOf 7 = .ok (.isub, 1) := by decide +kernel
theorem dX4_leftOf_8 : decode cX4_leftOf 8 = .ok (.iconst 1, 1) := by decide +kernel
theorem dX4_leftOf_9 : decode cX4_leftOf 9 = .ok (.iload_n 1, 1) := by decide +kernel
theorem dX4_leftOf_10 : decode cX4_leftOf 10 = .ok (.ishl, 1) := by decide +kernel
theorem dX4_leftOf_11 : decode cX4_leftOf 11 = .ok (.iconst (-1), 1) := by decide +kernel
theorem dX4_leftOf_12 : decode cX4_leftOf 12 = .ok (.ixor, 1) := by decide +kernel
theorem dX4_leftOf_13 : decode cX4_leftOf 13 = .ok (.iand, 1) := by decide +kernel
theorem dX4_leftOf_14 : decode cX4_leftOf 14 = .ok (.aload_n 0, 1) := by decide +kernel
theorem dX4_leftOf_15 : decode cX4_leftOf 15 = .ok (.getfield 22, 3) := by decide +kernel
theorem dX4_leftOf_18 : decode cX4_leftOf 18 = .ok (.iload_n 1, 1) := by decide +kernel
theorem dX4_leftOf_19 : decode cX4_leftOf 19 = .ok (.iaload, 1) := by decide +kernel
theorem dX4_leftOf_20 : decode cX4_leftOf 20 = .ok (.iconst (-1), 1) := by decide +kernel
theorem dX4_leftOf_21 : decode cX4_leftOf 21 = .ok (.ixor, 1) := by decide +kernel
theorem dX4_leftOf_22 : decode cX4_leftOf 22 = .ok (.iand, 1) := by decide +kernel
theorem dX4_leftOf_23 : decode cX4_leftOf 23 = .ok (.ireturn, 1) := by decide +kernel
set_option maxRecDepth 20000 in
theorem ggX4_isLeft_X4_leftOf : GoodIn wsX4_isLeft wsX4_leftOf := goodIn_r _ [6, 1, 7, 8, 9, 10, 11, 12, 13, 14, 15, 16, 17, 18, 19, 20, 21, 22, 23, 24, 25, 26, 27, 28, 29, 30, 31, 32, 33, 34, 35, 36] (by decide +kernel) (by decide +kernel)
set_option maxRecDepth 20000 in
theorem gX4_isLeft_X4_leftOf : GoodIn wsX4_isLeft (wsV RX4 82 RX4 yX4_leftOf wsX4_leftOf) := goodIn_app (goodIn_of _ (by decide +kernel)) ggX4_isLeft_X4_leftOf
theorem dX4_isLeft_0 : decode cX4_isLeft 0 = .ok (.iconst 0, 1) := by decide +kernel
theorem dX4_isLeft_1 : decode cX4_isLeft 1 = .ok (.istore_n 1, 1) := by decide +kernel
theorem dX4_isLeft_2 : decode cX4_isLeft 2 = .ok (.iconst 0, 1) := by decide +kernel
theorem dX4_isLeft_3 : decode cX4_isLeft 3 = .ok (.istore_n 2, 1) := by decide +kernel
theorem dX4_isLeft_4 : decode cX4_isLeft 4 = .ok (.iload_n 2, 1) := by decide +kernel
theorem dX4_isLeft_5 : decode cX4_isLeft 5 = .ok (.aload_n 0, 1) := by decide +kernel
theorem dX4_isLeft_6 : decode cX4_isLeft 6 = .ok (.getfield 79, 3) := by decide +kernel
theorem dX4_isLeft_9 : decode cX4_isLeft 9 = .ok (.if_icmp .ge 27, 3) := by decide +kernel
theorem dX4_isLeft_12 : decode cX4_isLeft 12 = .ok (.iload_n 1, 1) := by decide +kernel
theorem dX4_isLeft_13 : decode cX4_isLeft 13 = .ok (.ifCond .ne 11, 3) := by decide +kernel
theorem dX4_isLeft_16 : decode cX4_isLeft 16 = .ok (.aload_n 0, 1) := by decide +kernel
theorem dX4_isLeft_17 : decode cX4_isLeft 17 = .ok (.iload_n 2, 1) := by decide +kernel
theorem dX4_isLeft_18 : decode cX4_isLeft 18 = .ok (.invokevirtual 82, 3) := by decide +kernel
theorem dX4_isLeft_21 : decode cX4_isLeft 21 = .ok (.ifCond .eq 7, 3) := by decide +kernel
theorem dX4_isLeft_24 : decode cX4_isLeft 24 = .ok (.iconst 1, 1) := by decide +kernel
theorem dX4_isLeft_25 : decode cX4_isLeft 25 = .ok (.goto 4, 3) := by decide +kernel
theorem dX4_isLeft_28 : decode cX4_isLeft 28 = .ok (.iconst 0, 1) := by decide +kernel
theorem dX4_isLeft_29 : decode cX4_isLeft 29 = .ok (.istore_n 1, 1) := by decide +kernel
theorem dX4_isLeft_30 : decode cX4_isLeft 30 = .ok (.iinc 2 1, 3) := by decide +kernel
theorem dX4_isLeft_33 : decode cX4_isLeft 33 = .ok (.goto (-29), 3) := by decide +kernel
theorem dX4_isLeft_36 : decode cX4_isLeft 36 = .ok (.iload_n 1, 1) := by decide +kernel
theorem dX4_isLeft_37 : decode cX4_isLeft 37 = .ok (.ireturn, 1) := by decide +kernel
set_option maxRecDepth 20000 in
theorem ggX4_readPerson_X4_figure : GoodIn wsX4_readPerson wsX4_figure := goodIn_r _ [9, 10, 11, 12, 13, 14, 8, 15, 16, 17, 18, 19, 20, 21, 22, 23, 24, 25, 26, 27, 28, 29, 30, 31, 32, 33, 34, 35, 36, 37, 38, 39, 40, 41, 42, 43, 44] (by decide +kernel) (by decide +kernel)
set_option maxRecDepth 20000 in
theorem gX4_readPerson_X4_figure : GoodIn wsX4_readPerson (wsV RX4 86 RX4 yX4_figure wsX4_figure) := goodIn_app (goodIn_of _ (by decide +kernel)) ggX4_readPerson_X4_figure
theorem dX4_readPerson_0 : decode cX4_readPerson 0 = .ok (.aload_n 0, 1) := by decide +kernel
theorem dX4_readPerson_1 : decode cX4_readPerson 1 = .ok (.bipush 9, 2) := by decide +kernel
theorem dX4_readPerson_3 : decode cX4_readPerson 3 = .ok (.invokevirtual 86, 3) := by decide +kernel
theorem dX4_readPerson_6 : decode cX4_readPerson 6 = .ok (.istore_n 1, 1) := by decide +kernel
theorem dX4_readPerson_7 : decode cX4_readPerson 7 = .ok (.iload_n 1, 1) := by decide +kernel
theorem dX4_readPerson_8 : decode cX4_readPerson 8 = .ok (.bipush (-9), 2) := by decide +kernel
theorem dX4_readPerson_10 : decode cX4_readPerson 10 = .ok (.if_icmp .ne 8, 3) := by decide +kernel
theorem dX4_readPerson_13 : decode cX4_readPerson 13 = .ok (.bipush (-9), 2) := by decide +kernel
theorem dX4_readPerson_15 : decode cX4_readPerson 15 = .ok (.goto 8, 3) := by decide +kernel
theorem dX4_readPerson_18 : decode cX4_readPerson 18 = .ok (.aload_n 0, 1) := by decide +kernel
theorem dX4_readPerson_19 : decode cX4_readPerson 19 = .ok (.iconst 3, 1) := by decide +kernel
theorem dX4_readPerson_20 : decode cX4_readPerson 20 = .ok (.invokevirtual 86, 3) := by decide +kernel
theorem dX4_readPerson_23 : decode cX4_readPerson 23 = .ok (.istore_n 2, 1) := by decide +kernel
theorem dX4_readPerson_24 : decode cX4_readPerson 24 = .ok (.iload_n 2, 1) := by decide +kernel
theorem dX4_readPerson_25 : decode cX4_readPerson 25 = .ok (.bipush (-9), 2) := by decide +kernel
theorem dX4_readPerson_27 : decode cX4_readPerson 27 = .ok (.if_icmp .ne 5, 3) := by decide +kernel
theorem dX4_readPerson_30 : decode cX4_readPerson 30 = .ok (.iconst 0, 1) := by decide +kernel
theorem dX4_readPerson_31 : decode cX4_readPerson 31 = .ok (.ireturn, 1) := by decide +kernel
theorem dX4_readPerson_32 : decode cX4_readPerson 32 = .ok (.aload_n 0, 1) := by decide +kernel
theorem dX4_readPerson_33 : decode cX4_readPerson 33 = .ok (.getfield 16, 3) := by decide +kernel
theorem dX4_readPerson_36 : decode cX4_readPerson 36 = .ok (.aload_n 0, 1) := by decide +kernel
theorem dX4_readPerson_37 : decode cX4_readPerson 37 = .ok (.getfield 79, 3) := by decide +kernel
theorem dX4_readPerson_40 : decode cX4_readPerson 40 = .ok (.iload_n 1, 1) := by decide +kernel
theorem dX4_readPerson_41 : decode cX4_readPerson 41 = .ok (.iastore, 1) := by decide +kernel
theorem dX4_readPerson_42 : decode cX4_readPerson 42 = .ok (.aload_n 0, 1) := by decide +kernel
theorem dX4_readPerson_43 : decode cX4_readPerson 43 = .ok (.getfield 19, 3) := by decide +kernel
theorem dX4_readPerson_46 : decode cX4_readPerson 46 = .ok (.aload_n 0, 1) := by decide +kernel
theorem dX4_readPerson_47 : decode cX4_readPerson 47 = .ok (.getfield 79, 3) := by decide +kernel
theorem dX4_readPerson_50 : decode cX4_readPerson 50 = .ok (.iload_n 2, 1) := by decide +kernel
theorem dX4_readPerson_51 : decode cX4_readPerson 51 = .ok (.iastore, 1) := by decide +kernel
theorem dX4_readPerson_52 : decode cX4_readPerson 52 = .ok (.aload_n 0, 1) := by decide +kernel
theorem dX4_readPerson_53 : decode cX4_readPerson 53 = .ok (.getfield 22, 3) := by decide +kernel
theorem dX4_readPerson_56 : decode cX4_readPerson 56 = .ok (.aload_n 0, 1) := by decide +kernel
theorem dX4_readPerson_57 : decode cX4_readPerson 57 = .ok (.getfield 79, 3) := by decide +kernel
theorem dX4_readPerson_60 : decode cX4_readPerson 60 = .ok (.iconst 0, 1) := by decide +kernel
theorem dX4_readPerson_61 : decode cX4_readPerson 61 = .ok (.iastore, 1) := by decide +kernel
theorem dX4_readPerson_62 : decode cX4_readPerson 62 = .ok (.aload_n 0, 1) := by decide +kernel
theorem dX4_readPerson_63 : decode cX4_readPerson 63 = .ok (.dup, 1) := by decide +kernel
theorem dX4_readPerson_64 : decode cX4_readPerson 64 = .ok (.getfield 79, 3) := by decide +kernel
theorem dX4_readPerson_67 : decode cX4_readPerson 67 = .ok (.iconst 1, 1) := by decide +kernel
theorem dX4_readPerson_68 : decode cX4_readPerson 68 = .ok (.iadd, 1) := by decide +kernel
theorem dX4_readPerson_69 : decode cX4_readPerson 69 = .ok (.putfield 79, 3) := by decide +kernel
theorem dX4_readPerson_72 : decode cX4_readPerson 72 = .ok (.iconst 1, 1) := by decide +kernel
theorem dX4_readPerson_73 : decode cX4_readPerson 73 = .ok (.ireturn, 1) := by decide +kernel
set_option maxRecDepth 20000 in
theorem ggX4_readPair_X4_in : GoodIn wsX4_readPair wsX4_in := goodIn_r _ [9] (by decide +kernel) (by decide +kernel)
set_option maxRecDepth 20000 in
theorem gX4_readPair_X4_in : GoodIn wsX4_readPair (va_wsS RX4 67 yX4_in wsX4_in) := goodIn_app (goodIn_of _ (by decide +kernel)) ggX4_readPair_X4_in
set_option maxRecDepth 20000 in
theorem ggX4_readPair_X4_leftOf : GoodIn wsX4_readPair wsX4_leftOf := goodIn_r _ [13, 4, 5, 17, 18, 19, 20, 21, 22, 23, 24, 25, 26, 27, 28, 29, 30, 31, 32, 33, 34, 35, 36, 37, 38, 39, 40, 41, 42, 43, 44, 45] (by decide +kernel) (by decide +kernel)
set_option maxRecDepth 20000 in
theorem gX4_readPair_X4_leftOf : GoodIn wsX4_readPair (wsV RX4 82 RX4 yX4_leftOf wsX4_leftOf) := goodIn_app (goodIn_of _ (by decide +kernel)) ggX4_readPair_X4_leftOf
set_option maxRecDepth 20000 in
theorem ggX4_readPair_X4_has : GoodIn wsX4_readPair wsX4_has := goodIn_r _ [16] (by decide +kernel) (by decide +kernel)
set_option maxRecDepth 20000 in
theorem gX4_readPair_X4_has : GoodIn wsX4_readPair (va_wsS RX4 89 yX4_has wsX4_has) := goodIn_app (goodIn_of _ (by decide +kernel)) ggX4_readPair_X4_has
theorem dX4_readPair_0 : decode cX4_readPair 0 = .ok (.aload_n 0, 1) := by decide +kernel
theorem dX4_readPair_1 : decode cX4_readPair 1 = .ok (.getfield 76, 3) := by decide +kernel
theorem dX4_readPair_4 : decode cX4_readPair 4 = .ok (.aload_n 0, 1) := by decide +kernel
theorem dX4_readPair_5 : decode cX4_readPair 5 = .ok (.getfield 73, 3) := by decide +kernel
theorem dX4_readPair_8 : decode cX4_readPair 8 = .ok (.if_icmp .ge 18, 3) := by decide +kernel
theorem dX4_readPair_11 : decode cX4_readPair 11 = .ok (.aload_n 0, 1) := by decide +kernel
theorem dX4_readPair_12 : decode cX4_readPair 12 = .ok (.getfield 7, 3) := by decide +kernel
theorem dX4_readPair_15 : decode cX4_readPair 15 = .ok (.aload_n 0, 1) := by decide +kernel
theorem dX4_readPair_16 : decode cX4_readPair 16 = .ok (.getfield 76, 3) := by decide +kernel
end
section
theorem dX4_readPair_19 : decode cX4_readPair 19 = .ok (.iaload, 1) := by decide +kernel
theorem dX4_readPair_20 : decode cX4_readPair 20 = .ok (.bipush 48, 2) := by decide +kernel
theorem dX4_readPair_22 : decode cX4_readPair 22 = .ok (.isub, 1) := by decide +kernel
theorem dX4_readPair_23 : decode cX4_readPair 23 = .ok (.goto 5, 3) := by decide +kernel
theorem dX4_readPair_26 : decode cX4_readPair 26 = .ok (.bipush (-9), 2) := by decide +kernel
theorem dX4_readPair_28 : decode cX4_readPair 28 = .ok (.istore_n 1, 1) := by decide +kernel
theorem dX4_readPair_29 : decode cX4_readPair 29 = .ok (.iload_n 1, 1) := by decide +kernel
theorem dX4_readPair_30 : decode cX4_readPair 30 = .ok (.i2l, 1) := by decide +kernel
theorem dX4_readPair_31 : decode cX4_readPair 31 = .ok (.lconst 0, 1) := by decide +kernel
theorem dX4_readPair_32 : decode cX4_readPair 32 = .ok (.aload_n 0, 1) := by decide +kernel
theorem dX4_readPair_33 : decode cX4_readPair 33 = .ok (.getfield 79, 3) := by decide +kernel
theorem dX4_readPair_36 : decode cX4_readPair 36 = .ok (.iconst 1, 1) := by decide +kernel
theorem dX4_readPair_37 : decode cX4_readPair 37 = .ok (.isub, 1) := by decide +kernel
theorem dX4_readPair_38 : decode cX4_readPair 38 = .ok (.i2l, 1) := by decide +kernel
theorem dX4_readPair_39 : decode cX4_readPair 39 = .ok (.invokestatic 67, 3) := by decide +kernel
theorem dX4_readPair_42 : decode cX4_readPair 42 = .ok (.ifCond .eq 11, 3) := by decide +kernel
theorem dX4_readPair_45 : decode cX4_readPair 45 = .ok (.aload_n 0, 1) := by decide +kernel
theorem dX4_readPair_46 : decode cX4_readPair 46 = .ok (.iload_n 1, 1) := by decide +kernel
theorem dX4_readPair_47 : decode cX4_readPair 47 = .ok (.invokevirtual 82, 3) := by decide +kernel
theorem dX4_readPair_50 : decode cX4_readPair 50 = .ok (.ifCond .ne 5, 3) := by decide +kernel
theorem dX4_readPair_53 : decode cX4_readPair 53 = .ok (.iconst 0, 1) := by decide +kernel
theorem dX4_readPair_54 : decode cX4_readPair 54 = .ok (.ireturn, 1) := by decide +kernel
theorem dX4_readPair_55 : decode cX4_readPair 55 = .ok (.aload_n 0, 1) := by decide +kernel
theorem dX4_readPair_56 : decode cX4_readPair 56 = .ok (.dup, 1) := by decide +kernel
theorem dX4_readPair_57 : decode cX4_readPair 57 = .ok (.getfield 76, 3) := by decide +kernel
theorem dX4_readPair_60 : decode cX4_readPair 60 = .ok (.iconst 1, 1) := by decide +kernel
theorem dX4_readPair_61 : decode cX4_readPair 61 = .ok (.iadd, 1) := by decide +kernel
theorem dX4_readPair_62 : decode cX4_readPair 62 = .ok (.putfield 76, 3) := by decide +kernel
theorem dX4_readPair_65 : decode cX4_readPair 65 = .ok (.aload_n 0, 1) := by decide +kernel
theorem dX4_readPair_66 : decode cX4_readPair 66 = .ok (.getfield 76, 3) := by decide +kernel
theorem dX4_readPair_69 : decode cX4_readPair 69 = .ok (.aload_n 0, 1) := by decide +kernel
theorem dX4_readPair_70 : decode cX4_readPair 70 = .ok (.getfield 73, 3) := by decide +kernel
theorem dX4_readPair_73 : decode cX4_readPair 73 = .ok (.if_icmp .ge 18, 3) := by decide +kernel
theorem dX4_readPair_76 : decode cX4_readPair 76 = .ok (.aload_n 0, 1) := by decide +kernel
theorem dX4_readPair_77 : decode cX4_readPair 77 = .ok (.getfield 7, 3) := by decide +kernel
theorem dX4_readPair_80 : decode cX4_readPair 80 = .ok (.aload_n 0, 1) := by decide +kernel
theorem dX4_readPair_81 : decode cX4_readPair 81 = .ok (.getfield 76, 3) := by decide +kernel
theorem dX4_readPair_84 : decode cX4_readPair 84 = .ok (.iaload, 1) := by decide +kernel
theorem dX4_readPair_85 : decode cX4_readPair 85 = .ok (.bipush 48, 2) := by decide +kernel
theorem dX4_readPair_87 : decode cX4_readPair 87 = .ok (.isub, 1) := by decide +kernel
theorem dX4_readPair_88 : decode cX4_readPair 88 = .ok (.goto 5, 3) := by decide +kernel
theorem dX4_readPair_91 : decode cX4_readPair 91 = .ok (.bipush (-9), 2) := by decide +kernel
theorem dX4_readPair_93 : decode cX4_readPair 93 = .ok (.istore_n 2, 1) := by decide +kernel
theorem dX4_readPair_94 : decode cX4_readPair 94 = .ok (.iload_n 2, 1) := by decide +kernel
theorem dX4_readPair_95 : decode cX4_readPair 95 = .ok (.i2l, 1) := by decide +kernel
theorem dX4_readPair_96 : decode cX4_readPair 96 = .ok (.lconst 0, 1) := by decide +kernel
theorem dX4_readPair_97 : decode cX4_readPair 97 = .ok (.aload_n 0, 1) := by decide +kernel
theorem dX4_readPair_98 : decode cX4_readPair 98 = .ok (.getfield 79, 3) := by decide +kernel
theorem dX4_readPair_101 : decode cX4_readPair 101 = .ok (.iconst 1, 1) := by decide +kernel
theorem dX4_readPair_102 : decode cX4_readPair 102 = .ok (.isub, 1) := by decide +kernel
theorem dX4_readPair_103 : decode cX4_readPair 103 = .ok (.i2l, 1) := by decide +kernel
theorem dX4_readPair_104 : decode cX4_readPair 104 = .ok (.invokestatic 67, 3) := by decide +kernel
theorem dX4_readPair_107 : decode cX4_readPair 107 = .ok (.ifCond .eq 15, 3) := by decide +kernel
theorem dX4_readPair_110 : decode cX4_readPair 110 = .ok (.aload_n 0, 1) := by decide +kernel
theorem dX4_readPair_111 : decode cX4_readPair 111 = .ok (.iload_n 1, 1) := by decide +kernel
theorem dX4_readPair_112 : decode cX4_readPair 112 = .ok (.invokevirtual 82, 3) := by decide +kernel
theorem dX4_readPair_115 : decode cX4_readPair 115 = .ok (.iload_n 2, 1) := by decide +kernel
theorem dX4_readPair_116 : decode cX4_readPair 116 = .ok (.invokestatic 89, 3) := by decide +kernel
theorem dX4_readPair_119 : decode cX4_readPair 119 = .ok (.ifCond .ne 5, 3) := by decide +kernel
theorem dX4_readPair_122 : decode cX4_readPair 122 = .ok (.iconst 0, 1) := by decide +kernel
theorem dX4_readPair_123 : decode cX4_readPair 123 = .ok (.ireturn, 1) := by decide +kernel
theorem dX4_readPair_124 : decode cX4_readPair 124 = .ok (.aload_n 0, 1) := by decide +kernel
theorem dX4_readPair_125 : decode cX4_readPair 125 = .ok (.dup, 1) := by decide +kernel
theorem dX4_readPair_126 : decode cX4_readPair 126 = .ok (.getfield 76, 3) := by decide +kernel
theorem dX4_readPair_129 : decode cX4_readPair 129 = .ok (.iconst 1, 1) := by decide +kernel
theorem dX4_readPair_130 : decode cX4_readPair 130 = .ok (.iadd, 1) := by decide +kernel
theorem dX4_readPair_131 : decode cX4_readPair 131 = .ok (.putfield 76, 3) := by decide +kernel
theorem dX4_readPair_134 : decode cX4_readPair 134 = .ok (.aload_n 0, 1) := by decide +kernel
theorem dX4_readPair_135 : decode cX4_readPair 135 = .ok (.getfield 22, 3) := by decide +kernel
theorem dX4_readPair_138 : decode cX4_readPair 138 = .ok (.iload_n 1, 1) := by decide +kernel
theorem dX4_readPair_139 : decode cX4_readPair 139 = .ok (.dup2, 1) := by decide +kernel
theorem dX4_readPair_140 : decode cX4_readPair 140 = .ok (.iaload, 1) := by decide +kernel
theorem dX4_readPair_141 : decode cX4_readPair 141 = .ok (.iconst 1, 1) := by decide +kernel
theorem dX4_readPair_142 : decode cX4_readPair 142 = .ok (.iload_n 2, 1) := by decide +kernel
theorem dX4_readPair_143 : decode cX4_readPair 143 = .ok (.ishl, 1) := by decide +kernel
theorem dX4_readPair_144 : decode cX4_readPair 144 = .ok (.ior, 1) := by decide +kernel
theorem dX4_readPair_145 : decode cX4_readPair 145 = .ok (.iastore, 1) := by decide +kernel
theorem dX4_readPair_146 : decode cX4_readPair 146 = .ok (.iconst 1, 1) := by decide +kernel
theorem dX4_readPair_147 : decode cX4_readPair 147 = .ok (.ireturn, 1) := by decide +kernel
set_option maxRecDepth 20000 in
theorem ggX4_readPart_X4_readPerson : GoodIn wsX4_readPart wsX4_readPerson := goodIn_r _ [8, 9, 3, 10, 11, 12, 13, 14, 7, 15, 2, 16, 1, 17, 18, 19, 35, 36, 37, 38, 39, 40, 41, 42, 43, 44, 45, 46, 47, 48, 49, 50, 51, 52, 53, 54, 55, 56, 57, 58, 59, 60, 61, 62, 63] (by decide +kernel) (by decide +kernel)
set_option maxRecDepth 20000 in
theorem gX4_readPart_X4_readPerson : GoodIn wsX4_readPart (wsV RX4 93 RX4 yX4_readPerson wsX4_readPerson) := goodIn_app (goodIn_of _ (by decide +kernel)) ggX4_readPart_X4_readPerson
set_option maxRecDepth 20000 in
theorem ggX4_readPart_X4_isLeft : GoodIn wsX4_readPart wsX4_isLeft := goodIn_r _ [23, 3, 24, 25, 26, 7, 27, 11, 35, 36, 37, 38, 39, 40, 41, 42, 43, 44, 45, 46, 47, 48, 49, 50, 51, 52, 53, 54, 55, 56, 57, 58, 59, 60, 61, 62, 63] (by decide +kernel) (by decide +kernel)
set_option maxRecDepth 20000 in
theorem gX4_readPart_X4_isLeft : GoodIn wsX4_readPart (wsV RX4 97 RX4 yX4_isLeft wsX4_isLeft) := goodIn_app (goodIn_of _ (by decide +kernel)) ggX4_readPart_X4_isLeft
set_option maxRecDepth 20000 in
theorem ggX4_readPart_X4_readPair : GoodIn wsX4_readPart wsX4_readPair := goodIn_r _ [31, 2, 16, 1, 3, 11, 17, 18, 7, 19, 24, 25, 26, 27, 32, 33, 34, 35, 36, 37, 38, 39, 40, 41, 42, 43, 44, 45, 46, 47, 48, 49, 50, 51, 52, 53, 54, 55, 56, 57, 58, 59, 60, 61, 62, 63] (by decide +kernel) (by decide +kernel)
set_option maxRecDepth 20000 in
theorem gX4_readPart_X4_readPair : GoodIn wsX4_readPart (wsV RX4 100 RX4 yX4_readPair wsX4_readPair) := goodIn_app (goodIn_of _ (by decide +kernel)) ggX4_readPart_X4_readPair
theorem dX4_readPart_0 : decode cX4_readPart 0 = .ok (.aload_n 0, 1) := by decide +kernel
theorem dX4_readPart_1 : decode cX4_readPart 1 = .ok (.getfield 7, 3) := by decide +kernel
theorem dX4_readPart_4 : decode cX4_readPart 4 = .ok (.aload_n 0, 1) := by decide +kernel
theorem dX4_readPart_5 : decode cX4_readPart 5 = .ok (.getfield 76, 3) := by decide +kernel
theorem dX4_readPart_8 : decode cX4_readPart 8 = .ok (.iaload, 1) := by decide +kernel
theorem dX4_readPart_9 : decode cX4_readPart 9 = .ok (.istore_n 1, 1) := by decide +kernel
theorem dX4_readPart_10 : decode cX4_readPart 10 = .ok (.aload_n 0, 1) := by decide +kernel
theorem dX4_readPart_11 : decode cX4_readPart 11 = .ok (.dup, 1) := by decide +kernel
theorem dX4_readPart_12 : decode cX4_readPart 12 = .ok (.getfield 76, 3) := by decide +kernel
theorem dX4_readPart_15 : decode cX4_readPart 15 = .ok (.iconst 1, 1) := by decide +kernel
theorem dX4_readPart_16 : decode cX4_readPart 16 = .ok (.iadd, 1) := by decide +kernel
theorem dX4_readPart_17 : decode cX4_readPart 17 = .ok (.putfield 76, 3) := by decide +kernel
theorem dX4_readPart_20 : decode cX4_readPart 20 = .ok (.iload_n 1, 1) := by decide +kernel
theorem dX4_readPart_21 : decode cX4_readPart 21 = .ok (.bipush 80, 2) := by decide +kernel
theorem dX4_readPart_23 : decode cX4_readPart 23 = .ok (.if_icmp .ne 17, 3) := by decide +kernel
theorem dX4_readPart_26 : decode cX4_readPart 26 = .ok (.aload_n 0, 1) := by decide +kernel
theorem dX4_readPart_27 : decode cX4_readPart 27 = .ok (.getfield 79, 3) := by decide +kernel
theorem dX4_readPart_30 : decode cX4_readPart 30 = .ok (.bipush 7, 2) := by decide +kernel
theorem dX4_readPart_32 : decode cX4_readPart 32 = .ok (.if_icmp .ge 8, 3) := by decide +kernel
theorem dX4_readPart_35 : decode cX4_readPart 35 = .ok (.aload_n 0, 1) := by decide +kernel
theorem dX4_readPart_36 : decode cX4_readPart 36 = .ok (.invokevirtual 93, 3) := by decide +kernel
theorem dX4_readPart_39 : decode cX4_readPart 39 = .ok (.ireturn, 1) := by decide +kernel
theorem dX4_readPart_40 : decode cX4_readPart 40 = .ok (.iload_n 1, 1) := by decide +kernel
theorem dX4_readPart_41 : decode cX4_readPart 41 = .ok (.bipush 70, 2) := by decide +kernel
theorem dX4_readPart_43 : decode cX4_readPart 43 = .ok (.if_icmp .ne 15, 3) := by decide +kernel
theorem dX4_readPart_46 : decode cX4_readPart 46 = .ok (.aload_n 0, 1) := by decide +kernel
theorem dX4_readPart_47 : decode cX4_readPart 47 = .ok (.invokevirtual 97, 3) := by decide +kernel
theorem dX4_readPart_50 : decode cX4_readPart 50 = .ok (.ifCond .eq 8, 3) := by decide +kernel
theorem dX4_readPart_53 : decode cX4_readPart 53 = .ok (.aload_n 0, 1) := by decide +kernel
theorem dX4_readPart_54 : decode cX4_readPart 54 = .ok (.invokevirtual 100, 3) := by decide +kernel
theorem dX4_readPart_57 : decode cX4_readPart 57 = .ok (.ireturn, 1) := by decide +kernel
theorem dX4_readPart_58 : decode cX4_readPart 58 = .ok (.aload_n 0, 1) := by decide +kernel
theorem dX4_readPart_59 : decode cX4_readPart 59 = .ok (.dup, 1) := by decide +kernel
theorem dX4_readPart_60 : decode cX4_readPart 60 = .ok (.getfield 76, 3) := by decide +kernel
theorem dX4_readPart_63 : decode cX4_readPart 63 = .ok (.iconst 1, 1) := by decide +kernel
theorem dX4_readPart_64 : decode cX4_readPart 64 = .ok (.isub, 1) := by decide +kernel
theorem dX4_readPart_65 : decode cX4_readPart 65 = .ok (.putfield 76, 3) := by decide +kernel
theorem dX4_readPart_68 : decode cX4_readPart 68 = .ok (.iconst 0, 1) := by decide +kernel
theorem dX4_readPart_69 : decode cX4_readPart 69 = .ok (.ireturn, 1) := by decide +kernel
set_option maxRecDepth 20000 in
theorem ggX4_readCounty_X4_readPart : GoodIn wsX4_readCounty wsX4_readPart := goodIn_r _ [9, 4, 1, 2, 10, 11, 12, 8, 13, 14, 15, 16, 17, 18, 19, 20, 3, 21, 22, 23, 24, 25, 26, 27, 28, 29, 30, 31, 32, 33, 34, 35, 36, 37, 38, 39, 40, 41, 42, 43, 44, 45, 46, 47, 48, 49, 50, 51, 52, 53, 54, 55, 56, 57, 58, 59, 60, 61, 62, 63, 64, 65, 66, 67] (by decide +kernel) (by decide +kernel)
set_option maxRecDepth 20000 in
theorem gX4_readCounty_X4_readPart : GoodIn wsX4_readCounty (wsV RX4 103 RX4 yX4_readPart wsX4_readPart) := goodIn_app (goodIn_of _ (by decide +kernel)) ggX4_readCounty_X4_readPart
theorem dX4_readCounty_0 : decode cX4_readCounty 0 = .ok (.aload_n 0, 1) := by decide +kernel
theorem dX4_readCounty_1 : decode cX4_readCounty 1 = .ok (.iconst 0, 1) := by decide +kernel
theorem dX4_readCounty_2 : decode cX4_readCounty 2 = .ok (.putfield 76, 3) := by decide +kernel
theorem dX4_readCounty_5 : decode cX4_readCounty 5 = .ok (.aload_n 0, 1) := by decide +kernel
theorem dX4_readCounty_6 : decode cX4_readCounty 6 = .ok (.iconst 0, 1) := by decide +kernel
theorem dX4_readCounty_7 : decode cX4_readCounty 7 = .ok (.putfield 79, 3) := by decide +kernel
theorem dX4_readCounty_10 : decode cX4_readCounty 10 = .ok (.aload_n 0, 1) := by decide +kernel
theorem dX4_readCounty_11 : decode cX4_readCounty 11 = .ok (.getfield 73, 3) := by decide +kernel
theorem dX4_readCounty_14 : decode cX4_readCounty 14 = .ok (.ifCond .eq 14, 3) := by decide +kernel
theorem dX4_readCounty_17 : decode cX4_readCounty 17 = .ok (.aload_n 0, 1) := by decide +kernel
theorem dX4_readCounty_18 : decode cX4_readCounty 18 = .ok (.getfield 7, 3) := by decide +kernel
theorem dX4_readCounty_21 : decode cX4_readCounty 21 = .ok (.iconst 0, 1) := by decide +kernel
theorem dX4_readCounty_22 : decode cX4_readCounty 22 = .ok (.iaload, 1) := by decide +kernel
theorem dX4_readCounty_23 : decode cX4_readCounty 23 = .ok (.bipush 65, 2) := by decide +kernel
theorem dX4_readCounty_25 : decode cX4_readCounty 25 = .ok (.if_icmp .eq 5, 3) := by decide +kernel
theorem dX4_readCounty_28 : decode cX4_readCounty 28 = .ok (.iconst 0, 1) := by decide +kernel
theorem dX4_readCounty_29 : decode cX4_readCounty 29 = .ok (.ireturn, 1) := by decide +kernel
theorem dX4_readCounty_30 : decode cX4_readCounty 30 = .ok (.aload_n 0, 1) := by decide +kernel
theorem dX4_readCounty_31 : decode cX4_readCounty 31 = .ok (.iconst 1, 1) := by decide +kernel
theorem dX4_readCounty_32 : decode cX4_readCounty 32 = .ok (.putfield 76, 3) := by decide +kernel
theorem dX4_readCounty_35 : decode cX4_readCounty 35 = .ok (.aload_n 0, 1) := by decide +kernel
theorem dX4_readCounty_36 : decode cX4_readCounty 36 = .ok (.getfield 76, 3) := by decide +kernel
theorem dX4_readCounty_39 : decode cX4_readCounty 39 = .ok (.aload_n 0, 1) := by decide +kernel
theorem dX4_readCounty_40 : decode cX4_readCounty 40 = .ok (.getfield 73, 3) := by decide +kernel
theorem dX4_readCounty_43 : decode cX4_readCounty 43 = .ok (.if_icmp .ge 15, 3) := by decide +kernel
theorem dX4_readCounty_46 : decode cX4_readCounty 46 = .ok (.aload_n 0, 1) := by decide +kernel
theorem dX4_readCounty_47 : decode cX4_readCounty 47 = .ok (.invokevirtual 103, 3) := by decide +kernel
theorem dX4_readCounty_50 : decode cX4_readCounty 50 = .ok (.ifCond .ne (-15), 3) := by decide +kernel
theorem dX4_readCounty_53 : decode cX4_readCounty 53 = .ok (.aload_n 0, 1) := by decide +kernel
theorem dX4_readCounty_54 : decode cX4_readCounty 54 = .ok (.getfield 76, 3) := by decide +kernel
theorem dX4_readCounty_57 : decode cX4_readCounty 57 = .ok (.ireturn, 1) := by decide +kernel
theorem dX4_readCounty_58 : decode cX4_readCounty 58 = .ok (.bipush (-9), 2) := by decide +kernel
theorem dX4_readCounty_60 : decode cX4_readCounty 60 = .ok (.ireturn, 1) := by decide +kernel
set_option maxRecDepth 20000 in
theorem ggX4_fault_X4_readCounty : GoodIn wsX4_fault wsX4_readCounty := goodIn_r _ [6, 7, 8, 9, 10, 11, 12, 13, 5, 14, 15, 16, 17, 18, 19, 20, 21, 22, 23, 24, 25, 26, 27, 28, 29, 30, 31, 32, 33, 34, 35, 36, 37, 38, 39, 40, 41, 42, 43, 44, 45, 46, 47, 48, 49, 50, 51, 52, 53, 54, 55, 56, 57, 58, 59, 60, 61, 62, 63, 64, 65, 66, 67, 68, 69, 70, 71, 72] (by decide +kernel) (by decide +kernel)
set_option maxRecDepth 20000 in
theorem gX4_fault_X4_readCounty : GoodIn wsX4_fault (wsV RX4 106 RX4 yX4_readCounty wsX4_readCounty) := goodIn_app (goodIn_of _ (by decide +kernel)) ggX4_fault_X4_readCounty
theorem dX4_fault_0 : decode cX4_fault 0 = .ok (.aload_n 0, 1) := by decide +kernel
theorem dX4_fault_1 : decode cX4_fault 1 = .ok (.iconst 0, 1) := by decide +kernel
theorem dX4_fault_2 : decode cX4_fault 2 = .ok (.putfield 60, 3) := by decide +kernel
theorem dX4_fault_5 : decode cX4_fault 5 = .ok (.aload_n 0, 1) := by decide +kernel
theorem dX4_fault_6 : decode cX4_fault 6 = .ok (.invokevirtual 106, 3) := by decide +kernel
theorem dX4_fault_9 : decode cX4_fault 9 = .ok (.ireturn, 1) := by decide +kernel
set_option maxRecDepth 20000 in
theorem ggX4_county_X4_readCounty : GoodIn wsX4_county wsX4_readCounty := goodIn_r _ [15, 16, 2, 17, 18, 19, 20, 21, 14, 22, 23, 24, 25, 26, 7, 6, 8, 27, 28, 29, 30, 31, 32, 33, 34, 35, 36, 37, 38, 39, 40, 41, 42, 43, 44, 45, 46, 47, 48, 49, 50, 51, 52, 53, 54, 55, 56, 57, 58, 59, 60, 61, 62, 63, 64, 65, 66, 67, 68, 69, 70, 71, 72, 73, 74, 75, 76, 77] (by decide +kernel) (by decide +kernel)
set_option maxRecDepth 20000 in
theorem gX4_county_X4_readCounty : GoodIn wsX4_county (wsV RX4 106 RX4 yX4_readCounty wsX4_readCounty) := goodIn_app (goodIn_of _ (by decide +kernel)) ggX4_county_X4_readCounty
theorem dX4_county_0 : decode cX4_county 0 = .ok (.aload_n 0, 1) := by decide +kernel
theorem dX4_county_1 : decode cX4_county 1 = .ok (.iconst 0, 1) := by decide +kernel
theorem dX4_county_2 : decode cX4_county 2 = .ok (.putfield 60, 3) := by decide +kernel
theorem dX4_county_5 : decode cX4_county 5 = .ok (.aload_n 0, 1) := by decide +kernel
theorem dX4_county_6 : decode cX4_county 6 = .ok (.invokevirtual 106, 3) := by decide +kernel
theorem dX4_county_9 : decode cX4_county 9 = .ok (.bipush (-9), 2) := by decide +kernel
theorem dX4_county_11 : decode cX4_county 11 = .ok (.if_icmp .eq 6, 3) := by decide +kernel
theorem dX4_county_14 : decode cX4_county 14 = .ok (.bipush (-3), 2) := by decide +kernel
theorem dX4_county_16 : decode cX4_county 16 = .ok (.ireturn, 1) := by decide +kernel
theorem dX4_county_17 : decode cX4_county 17 = .ok (.aload_n 0, 1) := by decide +kernel
theorem dX4_county_18 : decode cX4_county 18 = .ok (.aload_n 0, 1) := by decide +kernel
theorem dX4_county_19 : decode cX4_county 19 = .ok (.getfield 79, 3) := by decide +kernel
theorem dX4_county_22 : decode cX4_county 22 = .ok (.putfield 64, 3) := by decide +kernel
theorem dX4_county_25 : decode cX4_county 25 = .ok (.iconst 0, 1) := by decide +kernel
theorem dX4_county_26 : decode cX4_county 26 = .ok (.istore_n 1, 1) := by decide +kernel
theorem dX4_county_27 : decode cX4_county 27 = .ok (.iload_n 1, 1) := by decide +kernel
theorem dX4_county_28 : decode cX4_county 28 = .ok (.bipush 17, 2) := by decide +kernel
theorem dX4_county_30 : decode cX4_county 30 = .ok (.if_icmp .ge 16, 3) := by decide +kernel
theorem dX4_county_33 : decode cX4_county 33 = .ok (.aload_n 0, 1) := by decide +kernel
theorem dX4_county_34 : decode cX4_county 34 = .ok (.getfield 25, 3) := by decide +kernel
theorem dX4_county_37 : decode cX4_county 37 = .ok (.iload_n 1, 1) := by decide +kernel
theorem dX4_county_38 : decode cX4_county 38 = .ok (.iconst 0, 1) := by decide +kernel
theorem dX4_county_39 : decode cX4_county 39 = .ok (.iastore, 1) := by decide +kernel
theorem dX4_county_40 : decode cX4_county 40 = .ok (.iinc 1 1, 3) := by decide +kernel
theorem dX4_county_43 : decode cX4_county 43 = .ok (.goto (-16), 3) := by decide +kernel
theorem dX4_county_46 : decode cX4_county 46 = .ok (.iconst 0, 1) := by decide +kernel
theorem dX4_county_47 : decode cX4_county 47 = .ok (.istore_n 1, 1) := by decide +kernel
theorem dX4_county_48 : decode cX4_county 48 = .ok (.iload_n 1, 1) := by decide +kernel
theorem dX4_county_49 : decode cX4_county 49 = .ok (.aload_n 0, 1) := by decide +kernel
theorem dX4_county_50 : decode cX4_county 50 = .ok (.getfield 64, 3) := by decide +kernel
theorem dX4_county_53 : decode cX4_county 53 = .ok (.if_icmp .ge 50, 3) := by decide +kernel
theorem dX4_county_56 : decode cX4_county 56 = .ok (.aload_n 0, 1) := by decide +kernel
theorem dX4_county_57 : decode cX4_county 57 = .ok (.getfield 13, 3) := by decide +kernel
theorem dX4_county_60 : decode cX4_county 60 = .ok (.iload_n 1, 1) := by decide +kernel
theorem dX4_county_61 : decode cX4_county 61 = .ok (.aload_n 0, 1) := by decide +kernel
theorem dX4_county_62 : decode cX4_county 62 = .ok (.getfield 19, 3) := by decide +kernel
theorem dX4_county_65 : decode cX4_county 65 = .ok (.iload_n 1, 1) := by decide +kernel
theorem dX4_county_66 : decode cX4_county 66 = .ok (.iaload, 1) := by decide +kernel
theorem dX4_county_67 : decode cX4_county 67 = .ok (.iastore, 1) := by decide +kernel
theorem dX4_county_68 : decode cX4_county 68 = .ok (.aload_n 0, 1) := by decide +kernel
theorem dX4_county_69 : decode cX4_county 69 = .ok (.getfield 25, 3) := by decide +kernel
theorem dX4_county_72 : decode cX4_county 72 = .ok (.iconst 0, 1) := by decide +kernel
theorem dX4_county_73 : decode cX4_county 73 = .ok (.iload_n 1, 1) := by decide +kernel
theorem dX4_county_74 : decode cX4_county 74 = .ok (.iadd, 1) := by decide +kernel
theorem dX4_county_75 : decode cX4_county 75 = .ok (.aload_n 0, 1) := by decide +kernel
theorem dX4_county_76 : decode cX4_county 76 = .ok (.getfield 16, 3) := by decide +kernel
theorem dX4_county_79 : decode cX4_county 79 = .ok (.iload_n 1, 1) := by decide +kernel
theorem dX4_county_80 : decode cX4_county 80 = .ok (.iaload, 1) := by decide +kernel
theorem dX4_county_81 : decode cX4_county 81 = .ok (.iastore, 1) := by decide +kernel
theorem dX4_county_82 : decode cX4_county 82 = .ok (.aload_n 0, 1) := by decide +kernel
theorem dX4_county_83 : decode cX4_county 83 = .ok (.getfield 25, 3) := by decide +kernel
theorem dX4_county_86 : decode cX4_county 86 = .ok (.bipush 7, 2) := by decide +kernel
theorem dX4_county_88 : decode cX4_county 88 = .ok (.iload_n 1, 1) := by decide +kernel
theorem dX4_county_89 : decode cX4_county 89 = .ok (.iadd, 1) := by decide +kernel
theorem dX4_county_90 : decode cX4_county 90 = .ok (.aload_n 0, 1) := by decide +kernel
theorem dX4_county_91 : decode cX4_county 91 = .ok (.getfield 22, 3) := by decide +kernel
theorem dX4_county_94 : decode cX4_county 94 = .ok (.iload_n 1, 1) := by decide +kernel
theorem dX4_county_95 : decode cX4_county 95 = .ok (.iaload, 1) := by decide +kernel
theorem dX4_county_96 : decode cX4_county 96 = .ok (.iastore, 1) := by decide +kernel
theorem dX4_county_97 : decode cX4_county 97 = .ok (.iinc 1 1, 3) := by decide +kernel
theorem dX4_county_100 : decode cX4_county 100 = .ok (.goto (-52), 3) := by decide +kernel
theorem dX4_county_103 : decode cX4_county 103 = .ok (.aload_n 0, 1) := by decide +kernel
theorem dX4_county_104 : decode cX4_county 104 = .ok (.getfield 25, 3) := by decide +kernel
theorem dX4_county_107 : decode cX4_county 107 = .ok (.bipush 14, 2) := by decide +kernel
theorem dX4_county_109 : decode cX4_county 109 = .ok (.iconst 1, 1) := by decide +kernel
theorem dX4_county_110 : decode cX4_county 110 = .ok (.aload_n 0, 1) := by decide +kernel
theorem dX4_county_111 : decode cX4_county 111 = .ok (.getfield 64, 3) := by decide +kernel
theorem dX4_county_114 : decode cX4_county 114 = .ok (.ishl, 1) := by decide +kernel
theorem dX4_county_115 : decode cX4_county 115 = .ok (.iconst 1, 1) := by decide +kernel
theorem dX4_county_116 : decode cX4_county 116 = .ok (.isub, 1) := by decide +kernel
theorem dX4_county_117 : decode cX4_county 117 = .ok (.iastore, 1) := by decide +kernel
theorem dX4_county_118 : decode cX4_county 118 = .ok (.aload_n 0, 1) := by decide +kernel
theorem dX4_county_119 : decode cX4_county 119 = .ok (.iconst 0, 1) := by decide +kernel
theorem dX4_county_120 : decode cX4_county 120 = .ok (.putfield 110, 3) := by decide +kernel
theorem dX4_county_123 : decode cX4_county 123 = .ok (.aload_n 0, 1) := by decide +kernel
theorem dX4_county_124 : decode cX4_county 124 = .ok (.getfield 37, 3) := by decide +kernel
theorem dX4_county_127 : decode cX4_county 127 = .ok (.iconst 0, 1) := by decide +kernel
theorem dX4_county_128 : decode cX4_county 128 = .ok (.iconst 0, 1) := by decide +kernel
theorem dX4_county_129 : decode cX4_county 129 = .ok (.bastore, 1) := by decide +kernel
theorem dX4_county_130 : decode cX4_county 130 = .ok (.aload_n 0, 1) := by decide +kernel
theorem dX4_county_131 : decode cX4_county 131 = .ok (.getfield 37, 3) := by decide +kernel
theorem dX4_county_134 : decode cX4_county 134 = .ok (.iconst 1, 1) := by decide +kernel
theorem dX4_county_135 : decode cX4_county 135 = .ok (.iconst 0, 1) := by decide +kernel
theorem dX4_county_136 : decode cX4_county 136 = .ok (.bastore, 1) := by decide +kernel
theorem dX4_county_137 : decode cX4_county 137 = .ok (.aload_n 0, 1) := by decide +kernel
theorem dX4_county_138 : decode cX4_county 138 = .ok (.getfield 64, 3) := by decide +kernel
theorem dX4_county_141 : decode cX4_county 141 = .ok (.ireturn, 1) := by decide +kernel
theorem dX4_gradeOf_0 : decode cX4_gradeOf 0 = .ok (.aload_n 0, 1) := by decide +kernel
theorem dX4_gradeOf_1 : decode cX4_gradeOf 1 = .ok (.getfield 13, 3) := by decide +kernel
theorem dX4_gradeOf_4 : decode cX4_gradeOf 4 = .ok (.iload_n 2, 1) := by decide +kernel
theorem dX4_gradeOf_5 : decode cX4_gradeOf 5 = .ok (.iaload, 1) := by decide +kernel
theorem dX4_gradeOf_6 : decode cX4_gradeOf 6 = .ok (.iconst 3, 1) := by decide +kernel
theorem dX4_gradeOf_7 : decode cX4_gradeOf 7 = .ok (.if_icmp .ne 7, 3) := by decide +kernel
theorem dX4_gradeOf_10 : decode cX4_gradeOf 10 = .ok (.iconst 0, 1) := by decide +kernel
theorem dX4_gradeOf_11 : decode cX4_gradeOf 11 = .ok (.goto 28, 3) := by decide +kernel
theorem dX4_gradeOf_14 : decode cX4_gradeOf 14 = .ok (.aload_n 0, 1) := by decide +kernel
theorem dX4_gradeOf_15 : decode cX4_gradeOf 15 = .ok (.getfield 13, 3) := by decide +kernel
theorem dX4_gradeOf_18 : decode cX4_gradeOf 18 = .ok (.iload_n 2, 1) := by decide +kernel
theorem dX4_gradeOf_19 : decode cX4_gradeOf 19 = .ok (.iaload, 1) := by decide +kernel
theorem dX4_gradeOf_20 : decode cX4_gradeOf 20 = .ok (.iconst 2, 1) := by decide +kernel
theorem dX4_gradeOf_21 : decode cX4_gradeOf 21 = .ok (.if_icmp .ne 13, 3) := by decide +kernel
theorem dX4_gradeOf_24 : decode cX4_gradeOf 24 = .ok (.aload_n 1, 1) := by decide +kernel
theorem dX4_gradeOf_25 : decode cX4_gradeOf 25 = .ok (.iconst 0, 1) := by decide +kernel
theorem dX4_gradeOf_26 : decode cX4_gradeOf 26 = .ok (.iload_n 2, 1) := by decide +kernel
theorem dX4_gradeOf_27 : decode cX4_gradeOf 27 = .ok (.iadd, 1) := by decide +kernel
theorem dX4_gradeOf_28 : decode cX4_gradeOf 28 = .ok (.iaload, 1) := by decide +kernel
theorem dX4_gradeOf_29 : decode cX4_gradeOf 29 = .ok (.iconst 2, 1) := by decide +kernel
theorem dX4_gradeOf_30 : decode cX4_gradeOf 30 = .ok (.iadd, 1) := by decide +kernel
theorem dX4_gradeOf_31 : decode cX4_gradeOf 31 = .ok (.goto 8, 3) := by decide +kernel
theorem dX4_gradeOf_34 : decode cX4_gradeOf 34 = .ok (.aload_n 1, 1) := by decide +kernel
theorem dX4_gradeOf_35 : decode cX4_gradeOf 35 = .ok (.iconst 0, 1) := by decide +kernel
theorem dX4_gradeOf_36 : decode cX4_gradeOf 36 = .ok (.iload_n 2, 1) := by decide +kernel
theorem dX4_gradeOf_37 : decode cX4_gradeOf 37 = .ok (.iadd, 1) := by decide +kernel
theorem dX4_gradeOf_38 : decode cX4_gradeOf 38 = .ok (.iaload, 1) := by decide +kernel
theorem dX4_gradeOf_39 : decode cX4_gradeOf 39 = .ok (.ireturn, 1) := by decide +kernel
set_option maxRecDepth 20000 in
theorem ggX4_isHidden_X4_has : GoodIn wsX4_isHidden wsX4_has := goodIn_r _ [6] (by decide +kernel) (by decide +kernel)
set_option maxRecDepth 20000 in
theorem gX4_isHidden_X4_has : GoodIn wsX4_isHidden (va_wsS RX4 89 yX4_has wsX4_has) := goodIn_app (goodIn_of _ (by decide +kernel)) ggX4_isHidden_X4_has
theorem dX4_isHidden_0 : decode cX4_isHidden 0 = .ok (.iconst 0, 1) := by decide +kernel
theorem dX4_isHidden_1 : decode cX4_isHidden 1 = .ok (.istore_n 3, 1) := by decide +kernel
theorem dX4_isHidden_2 : decode cX4_isHidden 2 = .ok (.iconst 0, 1) := by decide +kernel
theorem dX4_isHidden_3 : decode cX4_isHidden 3 = .ok (.istore 4, 2) := by decide +kernel
theorem dX4_isHidden_5 : decode cX4_isHidden 5 = .ok (.iload 4, 2) := by decide +kernel
theorem dX4_isHidden_7 : decode cX4_isHidden 7 = .ok (.aload_n 0, 1) := by decide +kernel
theorem dX4_isHidden_8 : decode cX4_isHidden 8 = .ok (.getfield 64, 3) := by decide +kernel
theorem dX4_isHidden_11 : decode cX4_isHidden 11 = .ok (.if_icmp .ge 51, 3) := by decide +kernel
theorem dX4_isHidden_14 : decode cX4_isHidden 14 = .ok (.iload_n 3, 1) := by decide +kernel
theorem dX4_isHidden_15 : decode cX4_isHidden 15 = .ok (.ifCond .ne 35, 3) := by decide +kernel
theorem dX4_isHidden_18 : decode cX4_isHidden 18 = .ok (.iload 4, 2) := by decide +kernel
theorem dX4_isHidden_20 : decode cX4_isHidden 20 = .ok (.iload_n 2, 1) := by decide +kernel
theorem dX4_isHidden_21 : decode cX4_isHidden 21 = .ok (.if_icmp .eq 33, 3) := by decide +kernel
theorem dX4_isHidden_24 : decode cX4_isHidden 24 = .ok (.aload_n 1, 1) := by decide +kernel
theorem dX4_isHidden_25 : decode cX4_isHidden 25 = .ok (.bipush 14, 2) := by decide +kernel
theorem dX4_isHidden_27 : decode cX4_isHidden 27 = .ok (.iaload, 1) := by decide +kernel
theorem dX4_isHidden_28 : decode cX4_isHidden 28 = .ok (.iload 4, 2) := by decide +kernel
theorem dX4_isHidden_30 : decode cX4_isHidden 30 = .ok (.invokestatic 89, 3) := by decide +kernel
theorem dX4_isHidden_33 : decode cX4_isHidden 33 = .ok (.ifCond .eq 21, 3) := by decide +kernel
theorem dX4_isHidden_36 : decode cX4_isHidden 36 = .ok (.aload_n 1, 1) := by decide +kernel
theorem dX4_isHidden_37 : decode cX4_isHidden 37 = .ok (.bipush 7, 2) := by decide +kernel
theorem dX4_isHidden_39 : decode cX4_isHidden 39 = .ok (.iload 4, 2) := by decide +kernel
theorem dX4_isHidden_41 : decode cX4_isHidden 41 = .ok (.iadd, 1) := by decide +kernel
theorem dX4_isHidden_42 : decode cX4_isHidden 42 = .ok (.iaload, 1) := by decide +kernel
theorem dX4_isHidden_43 : decode cX4_isHidden 43 = .ok (.iload_n 2, 1) := by decide +kernel
theorem dX4_isHidden_44 : decode cX4_isHidden 44 = .ok (.invokestatic 89, 3) := by decide +kernel
theorem dX4_isHidden_47 : decode cX4_isHidden 47 = .ok (.ifCond .eq 7, 3) := by decide +kernel
theorem dX4_isHidden_50 : decode cX4_isHidden 50 = .ok (.iconst 1, 1) := by decide +kernel
theorem dX4_isHidden_51 : decode cX4_isHidden 51 = .ok (.goto 4, 3) := by decide +kernel
theorem dX4_isHidden_54 : decode cX4_isHidden 54 = .ok (.iconst 0, 1) := by decide +kernel
theorem dX4_isHidden_55 : decode cX4_isHidden 55 = .ok (.istore_n 3, 1) := by decide +kernel
theorem dX4_isHidden_56 : decode cX4_isHidden 56 = .ok (.iinc 4 1, 3) := by decide +kernel
theorem dX4_isHidden_59 : decode cX4_isHidden 59 = .ok (.goto (-54), 3) := by decide +kernel
theorem dX4_isHidden_62 : decode cX4_isHidden 62 = .ok (.iload_n 3, 1) := by decide +kernel
theorem dX4_isHidden_63 : decode cX4_isHidden 63 = .ok (.ifCond .eq 17, 3) := by decide +kernel
theorem dX4_isHidden_66 : decode cX4_isHidden 66 = .ok (.aload_n 0, 1) := by decide +kernel
theorem dX4_isHidden_67 : decode cX4_isHidden 67 = .ok (.getfield 13, 3) := by decide +kernel
theorem dX4_isHidden_70 : decode cX4_isHidden 70 = .ok (.iload_n 2, 1) := by decide +kernel
theorem dX4_isHidden_71 : decode cX4_isHidden 71 = .ok (.iaload, 1) := by decide +kernel
theorem dX4_isHidden_72 : decode cX4_isHidden 72 = .ok (.iconst 1, 1) := by decide +kernel
theorem dX4_isHidden_73 : decode cX4_isHidden 73 = .ok (.if_icmp .eq 7, 3) := by decide +kernel
theorem dX4_isHidden_76 : decode cX4_isHidden 76 = .ok (.iconst 1, 1) := by decide +kernel
theorem dX4_isHidden_77 : decode cX4_isHidden 77 = .ok (.goto 4, 3) := by decide +kernel
theorem dX4_isHidden_80 : decode cX4_isHidden 80 = .ok (.iconst 0, 1) := by decide +kernel
theorem dX4_isHidden_81 : decode cX4_isHidden 81 = .ok (.ireturn, 1) := by decide +kernel
set_option maxRecDepth 20000 in
theorem ggX4_mayOf_X4_has : GoodIn wsX4_mayOf wsX4_has := goodIn_r _ [5] (by decide +kernel) (by decide +kernel)
set_option maxRecDepth 20000 in
theorem gX4_mayOf_X4_has : GoodIn wsX4_mayOf (va_wsS RX4 89 yX4_has wsX4_has) := goodIn_app (goodIn_of _ (by decide +kernel)) ggX4_mayOf_X4_has
set_option maxRecDepth 20000 in
theorem ggX4_mayOf_X4_gradeOf : GoodIn wsX4_mayOf wsX4_gradeOf := goodIn_r _ [9, 10, 15, 16, 17, 18, 19, 20, 21, 22, 23, 24, 25, 26, 27, 28, 29, 30, 31, 32, 33, 34, 35, 36, 37, 38, 39, 40, 41, 42, 43] (by decide +kernel) (by decide +kernel)
set_option maxRecDepth 20000 in
theorem gX4_mayOf_X4_gradeOf : GoodIn wsX4_mayOf (wsV RX4 113 RX4 yX4_gradeOf wsX4_gradeOf) := goodIn_app (goodIn_of _ (by decide +kernel)) ggX4_mayOf_X4_gradeOf
set_option maxRecDepth 20000 in
theorem ggX4_mayOf_X4_isHidden : GoodIn wsX4_mayOf wsX4_isHidden := goodIn_r _ [14, 1, 10, 2, 3, 4, 5, 15, 16, 17, 18, 19, 20, 21, 22, 23, 24, 25, 26, 27, 28, 29, 30, 31, 32, 33, 34, 35, 36, 37, 38, 39, 40, 41, 42, 43] (by decide +kernel) (by decide +kernel)
set_option maxRecDepth 20000 in
theorem gX4_mayOf_X4_isHidden : GoodIn wsX4_mayOf (wsV RX4 117 RX4 yX4_isHidden wsX4_isHidden) := goodIn_app (goodIn_of _ (by decide +kernel)) ggX4_mayOf_X4_isHidden
theorem dX4_mayOf_0 : decode cX4_mayOf 0 = .ok (.iconst 0, 1) := by decide +kernel
theorem dX4_mayOf_1 : decode cX4_mayOf 1 = .ok (.istore_n 2, 1) := by decide +kernel
theorem dX4_mayOf_2 : decode cX4_mayOf 2 = .ok (.iconst 0, 1) := by decide +kernel
theorem dX4_mayOf_3 : decode cX4_mayOf 3 = .ok (.istore_n 3, 1) := by decide +kernel
theorem dX4_mayOf_4 : decode cX4_mayOf 4 = .ok (.iload_n 3, 1) := by decide +kernel
theorem dX4_mayOf_5 : decode cX4_mayOf 5 = .ok (.aload_n 0, 1) := by decide +kernel
theorem dX4_mayOf_6 : decode cX4_mayOf 6 = .ok (.getfield 64, 3) := by decide +kernel
theorem dX4_mayOf_9 : decode cX4_mayOf 9 = .ok (.if_icmp .ge 41, 3) := by decide +kernel
theorem dX4_mayOf_12 : decode cX4_mayOf 12 = .ok (.aload_n 1, 1) := by decide +kernel
theorem dX4_mayOf_13 : decode cX4_mayOf 13 = .ok (.bipush 14, 2) := by decide +kernel
theorem dX4_mayOf_15 : decode cX4_mayOf 15 = .ok (.iaload, 1) := by decide +kernel
theorem dX4_mayOf_16 : decode cX4_mayOf 16 = .ok (.iload_n 3, 1) := by decide +kernel
theorem dX4_mayOf_17 : decode cX4_mayOf 17 = .ok (.invokestatic 89, 3) := by decide +kernel
theorem dX4_mayOf_20 : decode cX4_mayOf 20 = .ok (.ifCond .eq 22, 3) := by decide +kernel
theorem dX4_mayOf_23 : decode cX4_mayOf 23 = .ok (.aload_n 0, 1) := by decide +kernel
theorem dX4_mayOf_24 : decode cX4_mayOf 24 = .ok (.aload_n 1, 1) := by decide +kernel
theorem dX4_mayOf_25 : decode cX4_mayOf 25 = .ok (.iload_n 3, 1) := by decide +kernel
theorem dX4_mayOf_26 : decode cX4_mayOf 26 = .ok (.invokevirtual 113, 3) := by decide +kernel
theorem dX4_mayOf_29 : decode cX4_mayOf 29 = .ok (.iload_n 2, 1) := by decide +kernel
theorem dX4_mayOf_30 : decode cX4_mayOf 30 = .ok (.if_icmp .le 12, 3) := by decide +kernel
theorem dX4_mayOf_33 : decode cX4_mayOf 33 = .ok (.aload_n 0, 1) := by decide +kernel
theorem dX4_mayOf_34 : decode cX4_mayOf 34 = .ok (.aload_n 1, 1) := by decide +kernel
theorem dX4_mayOf_35 : decode cX4_mayOf 35 = .ok (.iload_n 3, 1) := by decide +kernel
theorem dX4_mayOf_36 : decode cX4_mayOf 36 = .ok (.invokevirtual 113, 3) := by decide +kernel
theorem dX4_mayOf_39 : decode cX4_mayOf 39 = .ok (.goto 4, 3) := by decide +kernel
theorem dX4_mayOf_42 : decode cX4_mayOf 42 = .ok (.iload_n 2, 1) := by decide +kernel
theorem dX4_mayOf_43 : decode cX4_mayOf 43 = .ok (.istore_n 2, 1) := by decide +kernel
theorem dX4_mayOf_44 : decode cX4_mayOf 44 = .ok (.iinc 3 1, 3) := by decide +kernel
theorem dX4_mayOf_47 : decode cX4_mayOf 47 = .ok (.goto (-43), 3) := by decide +kernel
theorem dX4_mayOf_50 : decode cX4_mayOf 50 = .ok (.iconst 0, 1) := by decide +kernel
theorem dX4_mayOf_51 : decode cX4_mayOf 51 = .ok (.istore_n 3, 1) := by decide +kernel
theorem dX4_mayOf_52 : decode cX4_mayOf 52 = .ok (.iconst 0, 1) := by decide +kernel
theorem dX4_mayOf_53 : decode cX4_mayOf 53 = .ok (.istore 4, 2) := by decide +kernel
theorem dX4_mayOf_55 : decode cX4_mayOf 55 = .ok (.iload 4, 2) := by decide +kernel
theorem dX4_mayOf_57 : decode cX4_mayOf 57 = .ok (.aload_n 0, 1) := by decide +kernel
theorem dX4_mayOf_58 : decode cX4_mayOf 58 = .ok (.getfield 64, 3) := by decide +kernel
theorem dX4_mayOf_61 : decode cX4_mayOf 61 = .ok (.if_icmp .ge 53, 3) := by decide +kernel
theorem dX4_mayOf_64 : decode cX4_mayOf 64 = .ok (.iload_n 3, 1) := by decide +kernel
theorem dX4_mayOf_65 : decode cX4_mayOf 65 = .ok (.aload_n 1, 1) := by decide +kernel
theorem dX4_mayOf_66 : decode cX4_mayOf 66 = .ok (.bipush 14, 2) := by decide +kernel
theorem dX4_mayOf_68 : decode cX4_mayOf 68 = .ok (.iaload, 1) := by decide +kernel
theorem dX4_mayOf_69 : decode cX4_mayOf 69 = .ok (.iload 4, 2) := by decide +kernel
theorem dX4_mayOf_71 : decode cX4_mayOf 71 = .ok (.invokestatic 89, 3) := by decide +kernel
theorem dX4_mayOf_74 : decode cX4_mayOf 74 = .ok (.ifCond .eq 31, 3) := by decide +kernel
theorem dX4_mayOf_77 : decode cX4_mayOf 77 = .ok (.aload_n 0, 1) := by decide +kernel
theorem dX4_mayOf_78 : decode cX4_mayOf 78 = .ok (.aload_n 1, 1) := by decide +kernel
theorem dX4_mayOf_79 : decode cX4_mayOf 79 = .ok (.iload 4, 2) := by decide +kernel
theorem dX4_mayOf_81 : decode cX4_mayOf 81 = .ok (.invokevirtual 113, 3) := by decide +kernel
theorem dX4_mayOf_84 : decode cX4_mayOf 84 = .ok (.iload_n 2, 1) := by decide +kernel
theorem dX4_mayOf_85 : decode cX4_mayOf 85 = .ok (.if_icmp .ne 20, 3) := by decide +kernel
theorem dX4_mayOf_88 : decode cX4_mayOf 88 = .ok (.aload_n 0, 1) := by decide +kernel
theorem dX4_mayOf_89 : decode cX4_mayOf 89 = .ok (.aload_n 1, 1) := by decide +kernel
theorem dX4_mayOf_90 : decode cX4_mayOf 90 = .ok (.iload 4, 2) := by decide +kernel
theorem dX4_mayOf_92 : decode cX4_mayOf 92 = .ok (.invokevirtual 117, 3) := by decide +kernel
theorem dX4_mayOf_95 : decode cX4_mayOf 95 = .ok (.ifCond .ne 10, 3) := by decide +kernel
theorem dX4_mayOf_98 : decode cX4_mayOf 98 = .ok (.iconst 1, 1) := by decide +kernel
theorem dX4_mayOf_99 : decode cX4_mayOf 99 = .ok (.iload 4, 2) := by decide +kernel
theorem dX4_mayOf_101 : decode cX4_mayOf 101 = .ok (.ishl, 1) := by decide +kernel
theorem dX4_mayOf_102 : decode cX4_mayOf 102 = .ok (.goto 4, 3) := by decide +kernel
theorem dX4_mayOf_105 : decode cX4_mayOf 105 = .ok (.iconst 0, 1) := by decide +kernel
theorem dX4_mayOf_106 : decode cX4_mayOf 106 = .ok (.ior, 1) := by decide +kernel
theorem dX4_mayOf_107 : decode cX4_mayOf 107 = .ok (.istore_n 3, 1) := by decide +kernel
theorem dX4_mayOf_108 : decode cX4_mayOf 108 = .ok (.iinc 4 1, 3) := by decide +kernel
theorem dX4_mayOf_111 : decode cX4_mayOf 111 = .ok (.goto (-56), 3) := by decide +kernel
theorem dX4_mayOf_114 : decode cX4_mayOf 114 = .ok (.iload_n 3, 1) := by decide +kernel
theorem dX4_mayOf_115 : decode cX4_mayOf 115 = .ok (.ireturn, 1) := by decide +kernel
set_option maxRecDepth 20000 in
theorem ggX4_least_X4_has : GoodIn wsX4_least wsX4_has := goodIn_r _ [4] (by decide +kernel) (by decide +kernel)
set_option maxRecDepth 20000 in
theorem gX4_least_X4_has : GoodIn wsX4_least (va_wsS RX4 89 yX4_has wsX4_has) := goodIn_app (goodIn_of _ (by decide +kernel)) ggX4_least_X4_has
theorem dX4_least_0 : decode cX4_least 0 = .ok (.iconst 0, 1) := by decide +kernel
theorem dX4_least_1 : decode cX4_least 1 = .ok (.istore_n 1, 1) := by decide +kernel
theorem dX4_least_2 : decode cX4_least 2 = .ok (.iload_n 0, 1) := by decide +kernel
theorem dX4_least_3 : decode cX4_least 3 = .ok (.iload_n 1, 1) := by decide +kernel
theorem dX4_least_4 : decode cX4_least 4 = .ok (.invokestatic 89, 3) := by decide +kernel
theorem dX4_least_7 : decode cX4_least 7 = .ok (.ifCond .ne 9, 3) := by decide +kernel
theorem dX4_least_10 : decode cX4_least 10 = .ok (.iinc 1 1, 3) := by decide +kernel
theorem dX4_least_13 : decode cX4_least 13 = .ok (.goto (-11), 3) := by decide +kernel
theorem dX4_least_16 : decode cX4_least 16 = .ok (.iload_n 1, 1) := by decide +kernel
theorem dX4_least_17 : decode cX4_least 17 = .ok (.ireturn, 1) := by decide +kernel
theorem dX4_begin_0 : decode cX4_begin 0 = .ok (.iconst 0, 1) := by decide +kernel
theorem dX4_begin_1 : decode cX4_begin 1 = .ok (.istore_n 1, 1) := by decide +kernel
theorem dX4_begin_2 : decode cX4_begin 2 = .ok (.iload_n 1, 1) := by decide +kernel
theorem dX4_begin_3 : decode cX4_begin 3 = .ok (.bipush 17, 2) := by decide +kernel
theorem dX4_begin_5 : decode cX4_begin 5 = .ok (.if_icmp .ge 21, 3) := by decide +kernel
theorem dX4_begin_8 : decode cX4_begin 8 = .ok (.aload_n 0, 1) := by decide +kernel
theorem dX4_begin_9 : decode cX4_begin 9 = .ok (.getfield 28, 3) := by decide +kernel
theorem dX4_begin_12 : decode cX4_begin 12 = .ok (.iload_n 1, 1) := by decide +kernel
theorem dX4_begin_13 : decode cX4_begin 13 = .ok (.aload_n 0, 1) := by decide +kernel
theorem dX4_begin_14 : decode cX4_begin 14 = .ok (.getfield 25, 3) := by decide +kernel
theorem dX4_begin_17 : decode cX4_begin 17 = .ok (.iload_n 1, 1) := by decide +kernel
theorem dX4_begin_18 : decode cX4_begin 18 = .ok (.iaload, 1) := by decide +kernel
theorem dX4_begin_19 : decode cX4_begin 19 = .ok (.iastore, 1) := by decide +kernel
theorem dX4_begin_20 : decode cX4_begin 20 = .ok (.iinc 1 1, 3) := by decide +kernel
theorem dX4_begin_23 : decode cX4_begin 23 = .ok (.goto (-21), 3) := by decide +kernel
theorem dX4_begin_26 : decode cX4_begin 26 = .ok (.return_, 1) := by decide +kernel
set_option maxRecDepth 20000 in
theorem ggX4_layFall_X4_mayOf : GoodIn wsX4_layFall wsX4_mayOf := goodIn_r _ [8, 9, 10, 11, 7, 12, 13, 14, 15, 16, 17, 18, 19, 20, 21, 25, 26, 27, 28, 29, 30, 31, 32, 33, 34, 35, 36, 37, 38, 39, 40, 41, 42, 43, 44, 45, 46, 47, 48, 49, 50, 51, 52, 53] (by decide +kernel) (by decide +kernel)
set_option maxRecDepth 20000 in
theorem gX4_layFall_X4_mayOf : GoodIn wsX4_layFall (wsV RX4 124 RX4 yX4_mayOf wsX4_mayOf) := goodIn_app (goodIn_of _ (by decide +kernel)) ggX4_layFall_X4_mayOf
set_option maxRecDepth 20000 in
theorem ggX4_layFall_X4_least : GoodIn wsX4_layFall wsX4_least := goodIn_r _ [24, 10, 11, 7, 12] (by decide +kernel) (by decide +kernel)
set_option maxRecDepth 20000 in
theorem gX4_layFall_X4_least : GoodIn wsX4_layFall (va_wsS RX4 128 yX4_least wsX4_least) := goodIn_app (goodIn_of _ (by decide +kernel)) ggX4_layFall_X4_least
theorem dX4_layFall_0 : decode cX4_layFall 0 = .ok (.aload_n 0, 1) := by decide +kernel
theorem dX4_layFall_1 : decode cX4_layFall 1 = .ok (.iconst 0, 1) := by decide +kernel
theorem dX4_layFall_2 : decode cX4_layFall 2 = .ok (.putfield 121, 3) := by decide +kernel
theorem dX4_layFall_5 : decode cX4_layFall 5 = .ok (.aload_n 0, 1) := by decide +kernel
theorem dX4_layFall_6 : decode cX4_layFall 6 = .ok (.aload_n 0, 1) := by decide +kernel
theorem dX4_layFall_7 : decode cX4_layFall 7 = .ok (.getfield 28, 3) := by decide +kernel
theorem dX4_layFall_10 : decode cX4_layFall 10 = .ok (.invokevirtual 124, 3) := by decide +kernel
theorem dX4_layFall_13 : decode cX4_layFall 13 = .ok (.istore_n 1, 1) := by decide +kernel
theorem dX4_layFall_14 : decode cX4_layFall 14 = .ok (.iload_n 1, 1) := by decide +kernel
theorem dX4_layFall_15 : decode cX4_layFall 15 = .ok (.ifCond .eq 61, 3) := by decide +kernel
theorem dX4_layFall_18 : decode cX4_layFall 18 = .ok (.aload_n 0, 1) := by decide +kernel
theorem dX4_layFall_19 : decode cX4_layFall 19 = .ok (.getfield 47, 3) := by decide +kernel
theorem dX4_layFall_22 : decode cX4_layFall 22 = .ok (.aload_n 0, 1) := by decide +kernel
theorem dX4_layFall_23 : decode cX4_layFall 23 = .ok (.getfield 121, 3) := by decide +kernel
theorem dX4_layFall_26 : decode cX4_layFall 26 = .ok (.iload_n 1, 1) := by decide +kernel
theorem dX4_layFall_27 : decode cX4_layFall 27 = .ok (.invokestatic 128, 3) := by decide +kernel
theorem dX4_layFall_30 : decode cX4_layFall 30 = .ok (.iastore, 1) := by decide +kernel
theorem dX4_layFall_31 : decode cX4_layFall 31 = .ok (.aload_n 0, 1) := by decide +kernel
theorem dX4_layFall_32 : decode cX4_layFall 32 = .ok (.getfield 28, 3) := by decide +kernel
theorem dX4_layFall_35 : decode cX4_layFall 35 = .ok (.bipush 14, 2) := by decide +kernel
theorem dX4_layFall_37 : decode cX4_layFall 37 = .ok (.dup2, 1) := by decide +kernel
theorem dX4_layFall_38 : decode cX4_layFall 38 = .ok (.iaload, 1) := by decide +kernel
theorem dX4_layFall_39 : decode cX4_layFall 39 = .ok (.iconst 1, 1) := by decide +kernel
theorem dX4_layFall_40 : decode cX4_layFall 40 = .ok (.aload_n 0, 1) := by decide +kernel
theorem dX4_layFall_41 : decode cX4_layFall 41 = .ok (.getfield 47, 3) := by decide +kernel
theorem dX4_layFall_44 : decode cX4_layFall 44 = .ok (.aload_n 0, 1) := by decide +kernel
theorem dX4_layFall_45 : decode cX4_layFall 45 = .ok (.getfield 121, 3) := by decide +kernel
theorem dX4_layFall_48 : decode cX4_layFall 48 = .ok (.iaload, 1) := by decide +kernel
theorem dX4_layFall_49 : decode cX4_layFall 49 = .ok (.ishl, 1) := by decide +kernel
theorem dX4_layFall_50 : decode cX4_layFall 50 = .ok (.iconst (-1), 1) := by decide +kernel
theorem dX4_layFall_51 : decode cX4_layFall 51 = .ok (.ixor, 1) := by decide +kernel
theorem dX4_layFall_52 : decode cX4_layFall 52 = .ok (.iand, 1) := by decide +kernel
theorem dX4_layFall_53 : decode cX4_layFall 53 = .ok (.iastore, 1) := by decide +kernel
theorem dX4_layFall_54 : decode cX4_layFall 54 = .ok (.aload_n 0, 1) := by decide +kernel
theorem dX4_layFall_55 : decode cX4_layFall 55 = .ok (.dup, 1) := by decide +kernel
theorem dX4_layFall_56 : decode cX4_layFall 56 = .ok (.getfield 121, 3) := by decide +kernel
theorem dX4_layFall_59 : decode cX4_layFall 59 = .ok (.iconst 1, 1) := by decide +kernel
theorem dX4_layFall_60 : decode cX4_layFall 60 = .ok (.iadd, 1) := by decide +kernel
theorem dX4_layFall_61 : decode cX4_layFall 61 = .ok (.putfield 121, 3) := by decide +kernel
theorem dX4_layFall_64 : decode cX4_layFall 64 = .ok (.aload_n 0, 1) := by decide +kernel
theorem dX4_layFall_65 : decode cX4_layFall 65 = .ok (.aload_n 0, 1) := by decide +kernel
theorem dX4_layFall_66 : decode cX4_layFall 66 = .ok (.getfield 28, 3) := by decide +kernel
theorem dX4_layFall_69 : decode cX4_layFall 69 = .ok (.invokevirtual 124, 3) := by decide +kernel
theorem dX4_layFall_72 : decode cX4_layFall 72 = .ok (.istore_n 1, 1) := by decide +kernel
theorem dX4_layFall_73 : decode cX4_layFall 73 = .ok (.goto (-59), 3) := by decide +kernel
theorem dX4_layFall_76 : decode cX4_layFall 76 = .ok (.return_, 1) := by decide +kernel
theorem dX4_placeOf_0 : decode cX4_placeOf 0 = .ok (.bipush (-9), 2) := by decide +kernel
theorem dX4_placeOf_2 : decode cX4_placeOf 2 = .ok (.istore_n 2, 1) := by decide +kernel
theorem dX4_placeOf_3 : decode cX4_placeOf 3 = .ok (.iconst 0, 1) := by decide +kernel
theorem dX4_placeOf_4 : decode cX4_placeOf 4 = .ok (.istore_n 3, 1) := by decide +kernel
theorem dX4_placeOf_5 : decode cX4_placeOf 5 = .ok (.iload_n 3, 1) := by decide +kernel
theorem dX4_placeOf_6 : decode cX4_placeOf 6 = .ok (.aload_n 0, 1) := by decide +kernel
theorem dX4_placeOf_7 : decode cX4_placeOf 7 = .ok (.getfield 121, 3) := by decide +kernel
theorem dX4_placeOf_10 : decode cX4_placeOf 10 = .ok (.if_icmp .ge 25, 3) := by decide +kernel
theorem dX4_placeOf_13 : decode cX4_placeOf 13 = .ok (.aload_n 0, 1) := by decide +kernel
theorem dX4_placeOf_14 : decode cX4_placeOf 14 = .ok (.getfield 47, 3) := by decide +kernel
theorem dX4_placeOf_17 : decode cX4_placeOf 17 = .ok (.iload_n 3, 1) := by decide +kernel
theorem dX4_placeOf_18 : decode cX4_placeOf 18 = .ok (.iaload, 1) := by decide +kernel
theorem dX4_placeOf_19 : decode cX4_placeOf 19 = .ok (.iload_n 1, 1) := by decide +kernel
theorem dX4_placeOf_20 : decode cX4_placeOf 20 = .ok (.if_icmp .ne 7, 3) := by decide +kernel
theorem dX4_placeOf_23 : decode cX4_placeOf 23 = .ok (.iload_n 3, 1) := by decide +kernel
theorem dX4_placeOf_24 : decode cX4_placeOf 24 = .ok (.goto 4, 3) := by decide +kernel
theorem dX4_placeOf_27 : decode cX4_placeOf 27 = .ok (.iload_n 2, 1) := by decide +kernel
theorem dX4_placeOf_28 : decode cX4_placeOf 28 = .ok (.istore_n 2, 1) := by decide +kernel
theorem dX4_placeOf_29 : decode cX4_placeOf 29 = .ok (.iinc 3 1, 3) := by decide +kernel
theorem dX4_placeOf_32 : decode cX4_placeOf 32 = .ok (.goto (-27), 3) := by decide +kernel
theorem dX4_placeOf_35 : decode cX4_placeOf 35 = .ok (.iload_n 2, 1) := by decide +kernel
theorem dX4_placeOf_36 : decode cX4_placeOf 36 = .ok (.ireturn, 1) := by decide +kernel
set_option maxRecDepth 20000 in
theorem ggX4_about_X4_isHidden : GoodIn wsX4_about wsX4_isHidden := goodIn_r _ [11, 2, 12, 13, 14, 10, 15, 24, 25, 26, 27, 28, 29, 30, 31, 32, 33, 34, 35, 36, 37, 38, 39, 40, 41, 42, 43, 44, 45, 46, 47, 48, 49, 50, 51, 52] (by decide +kernel) (by decide +kernel)
set_option maxRecDepth 20000 in
theorem gX4_about_X4_isHidden : GoodIn wsX4_about (wsV RX4 117 RX4 yX4_isHidden wsX4_isHidden) := goodIn_app (goodIn_of _ (by decide +kernel)) ggX4_about_X4_isHidden
set_option maxRecDepth 20000 in
theorem ggX4_about_X4_mayOf : GoodIn wsX4_about wsX4_mayOf := goodIn_r _ [19, 2, 13, 14, 10, 15, 20, 21, 22, 23, 12, 7, 8, 9, 11, 24, 25, 26, 27, 28, 29, 30, 31, 32, 33, 34, 35, 36, 37, 38, 39, 40, 41, 42, 43, 44, 45, 46, 47, 48, 49, 50, 51, 52] (by decide +kernel) (by decide +kernel)
set_option maxRecDepth 20000 in
theorem gX4_about_X4_mayOf : GoodIn wsX4_about (wsV RX4 124 RX4 yX4_mayOf wsX4_mayOf) := goodIn_app (goodIn_of _ (by decide +kernel)) ggX4_about_X4_mayOf
theorem dX4_about_0 : decode cX4_about 0 = .ok (.aload_n 0, 1) := by decide +kernel
theorem dX4_about_1 : decode cX4_about 1 = .ok (.iconst 0, 1) := by decide +kernel
theorem dX4_about_2 : decode cX4_about 2 = .ok (.putfield 60, 3) := by decide +kernel
theorem dX4_about_5 : decode cX4_about 5 = .ok (.iconst 0, 1) := by decide +kernel
theorem dX4_about_6 : decode cX4_about 6 = .ok (.istore_n 2, 1) := by decide +kernel
theorem dX4_about_7 : decode cX4_about 7 = .ok (.iconst 0, 1) := by decide +kernel
theorem dX4_about_8 : decode cX4_about 8 = .ok (.istore_n 3, 1) := by decide +kernel
theorem dX4_about_9 : decode cX4_about 9 = .ok (.iload_n 3, 1) := by decide +kernel
theorem dX4_about_10 : decode cX4_about 10 = .ok (.aload_n 0, 1) := by decide +kernel
theorem dX4_about_11 : decode cX4_about 11 = .ok (.getfield 64, 3) := by decide +kernel
theorem dX4_about_14 : decode cX4_about 14 = .ok (.if_icmp .ge 31, 3) := by decide +kernel
theorem dX4_about_17 : decode cX4_about 17 = .ok (.iload_n 2, 1) := by decide +kernel
theorem dX4_about_18 : decode cX4_about 18 = .ok (.aload_n 0, 1) := by decide +kernel
theorem dX4_about_19 : decode cX4_about 19 = .ok (.aload_n 0, 1) := by decide +kernel
theorem dX4_about_20 : decode cX4_about 20 = .ok (.getfield 25, 3) := by decide +kernel
theorem dX4_about_23 : decode cX4_about 23 = .ok (.iload_n 3, 1) := by decide +kernel
theorem dX4_about_24 : decode cX4_about 24 = .ok (.invokevirtual 117, 3) := by decide +kernel
theorem dX4_about_27 : decode cX4_about 27 = .ok (.ifCond .eq 9, 3) := by decide +kernel
theorem dX4_about_30 : decode cX4_about 30 = .ok (.iconst 1, 1) := by decide +kernel
theorem dX4_about_31 : decode cX4_about 31 = .ok (.iload_n 3, 1) := by decide +kernel
theorem dX4_about_32 : decode cX4_about 32 = .ok (.ishl, 1) := by decide +kernel
theorem dX4_about_33 : decode cX4_about 33 = .ok (.goto 4, 3) := by decide +kernel
theorem dX4_about_36 : decode cX4_about 36 = .ok (.iconst 0, 1) := by decide +kernel
theorem dX4_about_37 : decode cX4_about 37 = .ok (.ior, 1) := by decide +kernel
theorem dX4_about_38 : decode cX4_about 38 = .ok (.istore_n 2, 1) := by decide +kernel
theorem dX4_about_39 : decode cX4_about 39 = .ok (.iinc 3 1, 3) := by decide +kernel
theorem dX4_about_42 : decode cX4_about 42 = .ok (.goto (-33), 3) := by decide +kernel
theorem dX4_about_45 : decode cX4_about 45 = .ok (.iload_n 1, 1) := by decide +kernel
theorem dX4_about_46 : decode cX4_about 46 = .ok (.tableswitch 105 0 8 #[50, 55, 63, 72, 74, 82, 90, 95, 100], 50) := by decide +kernel
theorem dX4_about_96 : decode cX4_about 96 = .ok (.aload_n 0, 1) := by decide +kernel
theorem dX4_about_97 : decode cX4_about 97 = .ok (.getfield 64, 3) := by decide +kernel
theorem dX4_about_100 : decode cX4_about 100 = .ok (.ireturn, 1) := by decide +kernel
theorem dX4_about_101 : decode cX4_about 101 = .ok (.aload_n 0, 1) := by decide +kernel
theorem dX4_about_102 : decode cX4_about 102 = .ok (.getfield 25, 3) := by decide +kernel
theorem dX4_about_105 : decode cX4_about 105 = .ok (.bipush 14, 2) := by decide +kernel
theorem dX4_about_107 : decode cX4_about 107 = .ok (.iaload, 1) := by decide +kernel
theorem dX4_about_108 : decode cX4_about 108 = .ok (.ireturn, 1) := by decide +kernel
theorem dX4_about_109 : decode cX4_about 109 = .ok (.aload_n 0, 1) := by decide +kernel
theorem dX4_about_110 : decode cX4_about 110 = .ok (.aload_n 0, 1) := by decide +kernel
theorem dX4_about_111 : decode cX4_about 111 = .ok (.getfield 25, 3) := by decide +kernel
theorem dX4_about_114 : decode cX4_about 114 = .ok (.invokevirtual 124, 3) := by decide +kernel
theorem dX4_about_117 : decode cX4_about 117 = .ok (.ireturn, 1) := by decide +kernel
theorem dX4_about_118 : decode cX4_about 118 = .ok (.iload_n 2, 1) := by decide +kernel
theorem dX4_about_119 : decode cX4_about 119 = .ok (.ireturn, 1) := by decide +kernel
theorem dX4_about_120 : decode cX4_about 120 = .ok (.aload_n 0, 1) := by decide +kernel
theorem dX4_about_121 : decode cX4_about 121 = .ok (.getfield 25, 3) := by decide +kernel
theorem dX4_about_124 : decode cX4_about 124 = .ok (.bipush 15, 2) := by decide +kernel
theorem dX4_about_126 : decode cX4_about 126 = .ok (.iaload, 1) := by decide +kernel
theorem dX4_about_127 : decode cX4_about 127 = .ok (.ireturn, 1) := by decide +kernel
theorem dX4_about_128 : decode cX4_about 128 = .ok (.aload_n 0, 1) := by decide +kernel
theorem dX4_about_129 : decode cX4_about 129 = .ok (.getfield 25, 3) := by decide +kernel
theorem dX4_about_132 : decode cX4_about 132 = .ok (.bipush 16, 2) := by decide +kernel
theorem dX4_about_134 : decode cX4_about 134 = .ok (.iaload, 1) := by decide +kernel
theorem dX4_about_135 : decode cX4_about 135 = .ok (.ireturn, 1) := by decide +kernel
theorem dX4_about_136 : decode cX4_about 136 = .ok (.aload_n 0, 1) := by decide +kernel
theorem dX4_about_137 : decode cX4_about 137 = .ok (.getfield 110, 3) := by decide +kernel
theorem dX4_about_140 : decode cX4_about 140 = .ok (.ireturn, 1) := by decide +kernel
theorem dX4_about_141 : decode cX4_about 141 = .ok (.aload_n 0, 1) := by decide +kernel
theorem dX4_about_142 : decode cX4_about 142 = .ok (.getfield 131, 3) := by decide +kernel
theorem dX4_about_145 : decode cX4_about 145 = .ok (.ireturn, 1) := by decide +kernel
theorem dX4_about_146 : decode cX4_about 146 = .ok (.aload_n 0, 1) := by decide +kernel
theorem dX4_about_147 : decode cX4_about 147 = .ok (.getfield 73, 3) := by decide +kernel
theorem dX4_about_150 : decode cX4_about 150 = .ok (.ireturn, 1) := by decide +kernel
theorem dX4_about_151 : decode cX4_about 151 = .ok (.bipush (-2), 2) := by decide +kernel
theorem dX4_about_153 : decode cX4_about 153 = .ok (.ireturn, 1) := by decide +kernel
set_option maxRecDepth 20000 in
theorem ggX4_person_X4_noPerson : GoodIn wsX4_person wsX4_noPerson := goodIn_r _ [8, 9, 10, 11, 7, 12, 17, 18, 19, 20, 21, 22, 23, 24, 25, 26, 27, 28, 29, 30, 31, 32, 33, 34, 35, 36, 37, 38, 39, 40, 41, 42, 43, 44, 45] (by decide +kernel) (by decide +kernel)
set_option maxRecDepth 20000 in
theorem gX4_person_X4_noPerson : GoodIn wsX4_person (wsV RX4 134 RX4 yX4_noPerson wsX4_noPerson) := goodIn_app (goodIn_of _ (by decide +kernel)) ggX4_person_X4_noPerson
set_option maxRecDepth 20000 in
theorem ggX4_person_X4_gradeOf : GoodIn wsX4_person wsX4_gradeOf := goodIn_r _ [16, 3, 17, 18, 19, 20, 21, 22, 23, 24, 25, 26, 27, 28, 29, 30, 31, 32, 33, 34, 35, 36, 37, 38, 39, 40, 41, 42, 43, 44, 45] (by decide +kernel) (by decide +kernel)
set_option maxRecDepth 20000 in
theorem gX4_person_X4_gradeOf : GoodIn wsX4_person (wsV RX4 113 RX4 yX4_gradeOf wsX4_gradeOf) := goodIn_app (goodIn_of _ (by decide +kernel)) ggX4_person_X4_gradeOf
theorem dX4_person_0 : decode cX4_person 0 = .ok (.aload_n 0, 1) := by decide +kernel
theorem dX4_person_1 : decode cX4_person 1 = .ok (.iconst 0, 1) := by decide +kernel
theorem dX4_person_2 : decode cX4_person 2 = .ok (.putfield 60, 3) := by decide +kernel
theorem dX4_person_5 : decode cX4_person 5 = .ok (.aload_n 0, 1) := by decide +kernel
theorem dX4_person_6 : decode cX4_person 6 = .ok (.iload_n 1, 1) := by decide +kernel
theorem dX4_person_7 : decode cX4_person 7 = .ok (.invokevirtual 134, 3) := by decide +kernel
theorem dX4_person_10 : decode cX4_person 10 = .ok (.ifCond .eq 5, 3) := by decide +kernel
theorem dX4_person_13 : decode cX4_person 13 = .ok (.iconst (-1), 1) := by decide +kernel
theorem dX4_person_14 : decode cX4_person 14 = .ok (.ireturn, 1) := by decide +kernel
theorem dX4_person_15 : decode cX4_person 15 = .ok (.iload_n 2, 1) := by decide +kernel
theorem dX4_person_16 : decode cX4_person 16 = .ok (.tableswitch 68 0 3 #[32, 41, 48, 58], 32) := by decide +kernel
theorem dX4_person_48 : decode cX4_person 48 = .ok (.aload_n 0, 1) := by decide +kernel
theorem dX4_person_49 : decode cX4_person 49 = .ok (.getfield 25, 3) := by decide +kernel
theorem dX4_person_52 : decode cX4_person 52 = .ok (.iconst 0, 1) := by decide +kernel
theorem dX4_person_53 : decode cX4_person 53 = .ok (.iload_n 1, 1) := by decide +kernel
theorem dX4_person_54 : decode cX4_person 54 = .ok (.iadd, 1) := by decide +kernel
theorem dX4_person_55 : decode cX4_person 55 = .ok (.iaload, 1) := by decide +kernel
theorem dX4_person_56 : decode cX4_person 56 = .ok (.ireturn, 1) := by decide +kernel
theorem dX4_person_57 : decode cX4_person 57 = .ok (.aload_n 0, 1) := by decide +kernel
theorem dX4_person_58 : decode cX4_person 58 = .ok (.getfield 13, 3) := by decide +kernel
theorem dX4_person_61 : decode cX4_person 61 = .ok (.iload_n 1, 1) := by decide +kernel
theorem dX4_person_62 : decode cX4_person 62 = .ok (.iaload, 1) := by decide +kernel
theorem dX4_person_63 : decode cX4_person 63 = .ok (.ireturn, 1) := by decide +kernel
theorem dX4_person_64 : decode cX4_person 64 = .ok (.aload_n 0, 1) := by decide +kernel
theorem dX4_person_65 : decode cX4_person 65 = .ok (.aload_n 0, 1) := by decide +kernel
theorem dX4_person_66 : decode cX4_person 66 = .ok (.getfield 25, 3) := by decide +kernel
theorem dX4_person_69 : decode cX4_person 69 = .ok (.iload_n 1, 1) := by decide +kernel
theorem dX4_person_70 : decode cX4_person 70 = .ok (.invokevirtual 113, 3) := by decide +kernel
theorem dX4_person_73 : decode cX4_person 73 = .ok (.ireturn, 1) := by decide +kernel
theorem dX4_person_74 : decode cX4_person 74 = .ok (.aload_n 0, 1) := by decide +kernel
theorem dX4_person_75 : decode cX4_person 75 = .ok (.getfield 25, 3) := by decide +kernel
theorem dX4_person_78 : decode cX4_person 78 = .ok (.bipush 7, 2) := by decide +kernel
theorem dX4_person_80 : decode cX4_person 80 = .ok (.iload_n 1, 1) := by decide +kernel
theorem dX4_person_81 : decode cX4_person 81 = .ok (.iadd, 1) := by decide +kernel
theorem dX4_person_82 : decode cX4_person 82 = .ok (.iaload, 1) := by decide +kernel
theorem dX4_person_83 : decode cX4_person 83 = .ok (.ireturn, 1) := by decide +kernel
theorem dX4_person_84 : decode cX4_person 84 = .ok (.bipush (-2), 2) := by decide +kernel
theorem dX4_person_86 : decode cX4_person 86 = .ok (.ireturn, 1) := by decide +kernel
theorem dX4_note_0 : decode cX4_note 0 = .ok (.aload_n 0, 1) := by decide +kernel
theorem dX4_note_1 : decode cX4_note 1 = .ok (.getfield 110, 3) := by decide +kernel
theorem dX4_note_4 : decode cX4_note 4 = .ok (.bipush 14, 2) := by decide +kernel
theorem dX4_note_6 : decode cX4_note 6 = .ok (.if_icmp .ne 43, 3) := by decide +kernel
theorem dX4_note_9 : decode cX4_note 9 = .ok (.iconst 0, 1) := by decide +kernel
theorem dX4_note_10 : decode cX4_note 10 = .ok (.istore_n 1, 1) := by decide +kernel
theorem dX4_note_11 : decode cX4_note 11 = .ok (.iload_n 1, 1) := by decide +kernel
theorem dX4_note_12 : decode cX4_note 12 = .ok (.sipush 221, 3) := by decide +kernel
theorem dX4_note_15 : decode cX4_note 15 = .ok (.if_icmp .ge 24, 3) := by decide +kernel
theorem dX4_note_18 : decode cX4_note 18 = .ok (.aload_n 0, 1) := by decide +kernel
theorem dX4_note_19 : decode cX4_note 19 = .ok (.getfield 31, 3) := by decide +kernel
theorem dX4_note_22 : decode cX4_note 22 = .ok (.iload_n 1, 1) := by decide +kernel
theorem dX4_note_23 : decode cX4_note 23 = .ok (.aload_n 0, 1) := by decide +kernel
theorem dX4_note_24 : decode cX4_note 24 = .ok (.getfield 31, 3) := by decide +kernel
theorem dX4_note_27 : decode cX4_note 27 = .ok (.iload_n 1, 1) := by decide +kernel
theorem dX4_note_28 : decode cX4_note 28 = .ok (.bipush 17, 2) := by decide +kernel
theorem dX4_note_30 : decode cX4_note 30 = .ok (.iadd, 1) := by decide +kernel
theorem dX4_note_31 : decode cX4_note 31 = .ok (.iaload, 1) := by decide +kernel
theorem dX4_note_32 : decode cX4_note 32 = .ok (.iastore, 1) := by decide +kernel
theorem dX4_note_33 : decode cX4_note 33 = .ok (.iinc 1 1, 3) := by decide +kernel
theorem dX4_note_36 : decode cX4_note 36 = .ok (.goto (-25), 3) := by decide +kernel
theorem dX4_note_39 : decode cX4_note 39 = .ok (.aload_n 0, 1) := by decide +kernel
theorem dX4_note_40 : decode cX4_note 40 = .ok (.dup, 1) := by decide +kernel
theorem dX4_note_41 : decode cX4_note 41 = .ok (.getfield 110, 3) := by decide +kernel
theorem dX4_note_44 : decode cX4_note 44 = .ok (.iconst 1, 1) := by decide +kernel
theorem dX4_note_45 : decode cX4_note 45 = .ok (.isub, 1) := by decide +kernel
theorem dX4_note_46 : decode cX4_note 46 = .ok (.putfield 110, 3) := by decide +kernel
theorem dX4_note_49 : decode cX4_note 49 = .ok (.iconst 0, 1) := by decide +kernel
theorem dX4_note_50 : decode cX4_note 50 = .ok (.istore_n 1, 1) := by decide +kernel
theorem dX4_note_51 : decode cX4_note 51 = .ok (.iload_n 1, 1) := by decide +kernel
theorem dX4_note_52 : decode cX4_note 52 = .ok (.bipush 17, 2) := by decide +kernel
theorem dX4_note_54 : decode cX4_note 54 = .ok (.if_icmp .ge 29, 3) := by decide +kernel
theorem dX4_note_57 : decode cX4_note 57 = .ok (.aload_n 0, 1) := by decide +kernel
theorem dX4_note_58 : decode cX4_note 58 = .ok (.getfield 31, 3) := by decide +kernel
theorem dX4_note_61 : decode cX4_note 61 = .ok (.bipush 17, 2) := by decide +kernel
theorem dX4_note_63 : decode cX4_note 63 = .ok (.aload_n 0, 1) := by decide +kernel
theorem dX4_note_64 : decode cX4_note 64 = .ok (.getfield 110, 3) := by decide +kernel
theorem dX4_note_67 : decode cX4_note 67 = .ok (.imul, 1) := by decide +kernel
theorem dX4_note_68 : decode cX4_note 68 = .ok (.iload_n 1, 1) := by decide +kernel
theorem dX4_note_69 : decode cX4_note 69 = .ok (.iadd, 1) := by decide +kernel
theorem dX4_note_70 : decode cX4_note 70 = .ok (.aload_n 0, 1) := by decide +kernel
theorem dX4_note_71 : decode cX4_note 71 = .ok (.getfield 25, 3) := by decide +kernel
theorem dX4_note_74 : decode cX4_note 74 = .ok (.iload_n 1, 1) := by decide +kernel
theorem dX4_note_75 : decode cX4_note 75 = .ok (.iaload, 1) := by decide +kernel
theorem dX4_note_76 : decode cX4_note 76 = .ok (.iastore, 1) := by decide +kernel
theorem dX4_note_77 : decode cX4_note 77 = .ok (.iinc 1 1, 3) := by decide +kernel
theorem dX4_note_80 : decode cX4_note 80 = .ok (.goto (-29), 3) := by decide +kernel
theorem dX4_note_83 : decode cX4_note 83 = .ok (.aload_n 0, 1) := by decide +kernel
theorem dX4_note_84 : decode cX4_note 84 = .ok (.dup, 1) := by decide +kernel
theorem dX4_note_85 : decode cX4_note 85 = .ok (.getfield 110, 3) := by decide +kernel
theorem dX4_note_88 : decode cX4_note 88 = .ok (.iconst 1, 1) := by decide +kernel
theorem dX4_note_89 : decode cX4_note 89 = .ok (.iadd, 1) := by decide +kernel
theorem dX4_note_90 : decode cX4_note 90 = .ok (.putfield 110, 3) := by decide +kernel
theorem dX4_note_93 : decode cX4_note 93 = .ok (.return_, 1) := by decide +kernel
set_option maxRecDepth 20000 in
theorem ggX4_take_X4_noPerson : GoodIn wsX4_take wsX4_noPerson := goodIn_r _ [7, 8, 9, 10, 6, 11, 37, 38, 39, 40, 41, 42, 43, 44, 45, 46, 47, 48, 49, 50, 51, 52, 53, 54, 55, 56, 57, 58, 59, 60, 61, 62, 63, 64, 65] (by decide +kernel) (by decide +kernel)
set_option maxRecDepth 20000 in
theorem gX4_take_X4_noPerson : GoodIn wsX4_take (wsV RX4 134 RX4 yX4_noPerson wsX4_noPerson) := goodIn_app (goodIn_of _ (by decide +kernel)) ggX4_take_X4_noPerson
set_option maxRecDepth 20000 in
theorem ggX4_take_X4_mayOf : GoodIn wsX4_take wsX4_mayOf := goodIn_r _ [15, 8, 16, 17, 6, 18, 19, 20, 21, 22, 23, 24, 25, 26, 27, 37, 38, 39, 40, 41, 42, 43, 44, 45, 46, 47, 48, 49, 50, 51, 52, 53, 54, 55, 56, 57, 58, 59, 60, 61, 62, 63, 64, 65] (by decide +kernel) (by decide +kernel)
set_option maxRecDepth 20000 in
theorem gX4_take_X4_mayOf : GoodIn wsX4_take (wsV RX4 124 RX4 yX4_mayOf wsX4_mayOf) := goodIn_app (goodIn_of _ (by decide +kernel)) ggX4_take_X4_mayOf
set_option maxRecDepth 20000 in
theorem ggX4_take_X4_has : GoodIn wsX4_take wsX4_has := goodIn_r _ [18] (by decide +kernel) (by decide +kernel)
set_option maxRecDepth 20000 in
theorem gX4_take_X4_has : GoodIn wsX4_take (va_wsS RX4 89 yX4_has wsX4_has) := goodIn_app (goodIn_of _ (by decide +kernel)) ggX4_take_X4_has
set_option maxRecDepth 20000 in
theorem ggX4_take_X4_note : GoodIn wsX4_take wsX4_note := goodIn_r _ [31, 32, 33, 2, 37, 38, 39, 40, 41, 42, 43, 44, 45, 46, 47, 48, 49, 50, 51, 52, 53, 54, 55, 56, 57, 58, 59, 60, 61, 62, 63, 64, 65] (by decide +kernel) (by decide +kernel)
set_option maxRecDepth 20000 in
theorem gX4_take_X4_note : GoodIn wsX4_take (wsV RX4 138 RX4 yX4_note wsX4_note) := goodIn_app (goodIn_of _ (by decide +kernel)) ggX4_take_X4_note
set_option maxRecDepth 20000 in
theorem ggX4_take_X4_many : GoodIn wsX4_take wsX4_many := goodIn_r _ [36] (by decide +kernel) (by decide +kernel)
set_option maxRecDepth 20000 in
theorem gX4_take_X4_many : GoodIn wsX4_take (va_wsS RX4 141 yX4_many wsX4_many) := goodIn_app (goodIn_of _ (by decide +kernel)) ggX4_take_X4_many
theorem dX4_take_0 : decode cX4_take 0 = .ok (.aload_n 0, 1) := by decide +kernel
theorem dX4_take_1 : decode cX4_take 1 = .ok (.iconst 0, 1) := by decide +kernel
theorem dX4_take_2 : decode cX4_take 2 = .ok (.putfield 60, 3) := by decide +kernel
theorem dX4_take_5 : decode cX4_take 5 = .ok (.aload_n 0, 1) := by decide +kernel
theorem dX4_take_6 : decode cX4_take 6 = .ok (.iload_n 1, 1) := by decide +kernel
theorem dX4_take_7 : decode cX4_take 7 = .ok (.invokevirtual 134, 3) := by decide +kernel
theorem dX4_take_10 : decode cX4_take 10 = .ok (.ifCond .eq 5, 3) := by decide +kernel
theorem dX4_take_13 : decode cX4_take 13 = .ok (.iconst (-1), 1) := by decide +kernel
theorem dX4_take_14 : decode cX4_take 14 = .ok (.ireturn, 1) := by decide +kernel
theorem dX4_take_15 : decode cX4_take 15 = .ok (.aload_n 0, 1) := by decide +kernel
theorem dX4_take_16 : decode cX4_take 16 = .ok (.aload_n 0, 1) := by decide +kernel
theorem dX4_take_17 : decode cX4_take 17 = .ok (.getfield 25, 3) := by decide +kernel
theorem dX4_take_20 : decode cX4_take 20 = .ok (.invokevirtual 124, 3) := by decide +kernel
theorem dX4_take_23 : decode cX4_take 23 = .ok (.iload_n 1, 1) := by decide +kernel
theorem dX4_take_24 : decode cX4_take 24 = .ok (.invokestatic 89, 3) := by decide +kernel
theorem dX4_take_27 : decode cX4_take 27 = .ok (.ifCond .ne 6, 3) := by decide +kernel
theorem dX4_take_30 : decode cX4_take 30 = .ok (.bipush (-3), 2) := by decide +kernel
theorem dX4_take_32 : decode cX4_take 32 = .ok (.ireturn, 1) := by decide +kernel
theorem dX4_take_33 : decode cX4_take 33 = .ok (.aload_n 0, 1) := by decide +kernel
theorem dX4_take_34 : decode cX4_take 34 = .ok (.invokevirtual 138, 3) := by decide +kernel
theorem dX4_take_37 : decode cX4_take 37 = .ok (.aload_n 0, 1) := by decide +kernel
theorem dX4_take_38 : decode cX4_take 38 = .ok (.getfield 25, 3) := by decide +kernel
end
section
theorem dX4_take_41 : decode cX4_take 41 = .ok (.bipush 14, 2) := by decide +kernel
theorem dX4_take_43 : decode cX4_take 43 = .ok (.dup2, 1) := by decide +kernel
theorem dX4_take_44 : decode cX4_take 44 = .ok (.iaload, 1) := by decide +kernel
theorem dX4_take_45 : decode cX4_take 45 = .ok (.iconst 1, 1) := by decide +kernel
theorem dX4_take_46 : decode cX4_take 46 = .ok (.iload_n 1, 1) := by decide +kernel
theorem dX4_take_47 : decode cX4_take 47 = .ok (.ishl, 1) := by decide +kernel
theorem dX4_take_48 : decode cX4_take 48 = .ok (.iconst (-1), 1) := by decide +kernel
theorem dX4_take_49 : decode cX4_take 49 = .ok (.ixor, 1) := by decide +kernel
theorem dX4_take_50 : decode cX4_take 50 = .ok (.iand, 1) := by decide +kernel
theorem dX4_take_51 : decode cX4_take 51 = .ok (.iastore, 1) := by decide +kernel
theorem dX4_take_52 : decode cX4_take 52 = .ok (.aload_n 0, 1) := by decide +kernel
theorem dX4_take_53 : decode cX4_take 53 = .ok (.getfield 25, 3) := by decide +kernel
theorem dX4_take_56 : decode cX4_take 56 = .ok (.bipush 14, 2) := by decide +kernel
theorem dX4_take_58 : decode cX4_take 58 = .ok (.iaload, 1) := by decide +kernel
theorem dX4_take_59 : decode cX4_take 59 = .ok (.invokestatic 141, 3) := by decide +kernel
theorem dX4_take_62 : decode cX4_take 62 = .ok (.ireturn, 1) := by decide +kernel
set_option maxRecDepth 20000 in
theorem ggX4_free_X4_noPerson : GoodIn wsX4_free wsX4_noPerson := goodIn_r _ [7, 8, 9, 10, 6, 11, 24, 25, 26, 27, 28, 29, 30, 31, 32, 33, 34, 35, 36, 37, 38, 39, 40, 41, 42, 43, 44, 45, 46, 47, 48, 49, 50, 51, 52] (by decide +kernel) (by decide +kernel)
set_option maxRecDepth 20000 in
theorem gX4_free_X4_noPerson : GoodIn wsX4_free (wsV RX4 134 RX4 yX4_noPerson wsX4_noPerson) := goodIn_app (goodIn_of _ (by decide +kernel)) ggX4_free_X4_noPerson
set_option maxRecDepth 20000 in
theorem ggX4_free_X4_has : GoodIn wsX4_free wsX4_has := goodIn_r _ [14] (by decide +kernel) (by decide +kernel)
set_option maxRecDepth 20000 in
theorem gX4_free_X4_has : GoodIn wsX4_free (va_wsS RX4 89 yX4_has wsX4_has) := goodIn_app (goodIn_of _ (by decide +kernel)) ggX4_free_X4_has
set_option maxRecDepth 20000 in
theorem ggX4_free_X4_note : GoodIn wsX4_free wsX4_note := goodIn_r _ [18, 19, 20, 2, 24, 25, 26, 27, 28, 29, 30, 31, 32, 33, 34, 35, 36, 37, 38, 39, 40, 41, 42, 43, 44, 45, 46, 47, 48, 49, 50, 51, 52] (by decide +kernel) (by decide +kernel)
set_option maxRecDepth 20000 in
theorem gX4_free_X4_note : GoodIn wsX4_free (wsV RX4 138 RX4 yX4_note wsX4_note) := goodIn_app (goodIn_of _ (by decide +kernel)) ggX4_free_X4_note
set_option maxRecDepth 20000 in
theorem ggX4_free_X4_many : GoodIn wsX4_free wsX4_many := goodIn_r _ [23] (by decide +kernel) (by decide +kernel)
set_option maxRecDepth 20000 in
theorem gX4_free_X4_many : GoodIn wsX4_free (va_wsS RX4 141 yX4_many wsX4_many) := goodIn_app (goodIn_of _ (by decide +kernel)) ggX4_free_X4_many
theorem dX4_free_0 : decode cX4_free 0 = .ok (.aload_n 0, 1) := by decide +kernel
theorem dX4_free_1 : decode cX4_free 1 = .ok (.iconst 0, 1) := by decide +kernel
theorem dX4_free_2 : decode cX4_free 2 = .ok (.putfield 60, 3) := by decide +kernel
theorem dX4_free_5 : decode cX4_free 5 = .ok (.aload_n 0, 1) := by decide +kernel
theorem dX4_free_6 : decode cX4_free 6 = .ok (.iload_n 1, 1) := by decide +kernel
theorem dX4_free_7 : decode cX4_free 7 = .ok (.invokevirtual 134, 3) := by decide +kernel
theorem dX4_free_10 : decode cX4_free 10 = .ok (.ifCond .eq 5, 3) := by decide +kernel
theorem dX4_free_13 : decode cX4_free 13 = .ok (.iconst (-1), 1) := by decide +kernel
theorem dX4_free_14 : decode cX4_free 14 = .ok (.ireturn, 1) := by decide +kernel
theorem dX4_free_15 : decode cX4_free 15 = .ok (.aload_n 0, 1) := by decide +kernel
theorem dX4_free_16 : decode cX4_free 16 = .ok (.getfield 25, 3) := by decide +kernel
theorem dX4_free_19 : decode cX4_free 19 = .ok (.bipush 14, 2) := by decide +kernel
theorem dX4_free_21 : decode cX4_free 21 = .ok (.iaload, 1) := by decide +kernel
theorem dX4_free_22 : decode cX4_free 22 = .ok (.aload_n 0, 1) := by decide +kernel
theorem dX4_free_23 : decode cX4_free 23 = .ok (.getfield 25, 3) := by decide +kernel
theorem dX4_free_26 : decode cX4_free 26 = .ok (.bipush 15, 2) := by decide +kernel
theorem dX4_free_28 : decode cX4_free 28 = .ok (.iaload, 1) := by decide +kernel
theorem dX4_free_29 : decode cX4_free 29 = .ok (.ior, 1) := by decide +kernel
theorem dX4_free_30 : decode cX4_free 30 = .ok (.iload_n 1, 1) := by decide +kernel
theorem dX4_free_31 : decode cX4_free 31 = .ok (.invokestatic 89, 3) := by decide +kernel
theorem dX4_free_34 : decode cX4_free 34 = .ok (.ifCond .eq 6, 3) := by decide +kernel
theorem dX4_free_37 : decode cX4_free 37 = .ok (.bipush (-3), 2) := by decide +kernel
theorem dX4_free_39 : decode cX4_free 39 = .ok (.ireturn, 1) := by decide +kernel
theorem dX4_free_40 : decode cX4_free 40 = .ok (.aload_n 0, 1) := by decide +kernel
theorem dX4_free_41 : decode cX4_free 41 = .ok (.invokevirtual 138, 3) := by decide +kernel
theorem dX4_free_44 : decode cX4_free 44 = .ok (.aload_n 0, 1) := by decide +kernel
theorem dX4_free_45 : decode cX4_free 45 = .ok (.getfield 25, 3) := by decide +kernel
theorem dX4_free_48 : decode cX4_free 48 = .ok (.bipush 14, 2) := by decide +kernel
theorem dX4_free_50 : decode cX4_free 50 = .ok (.dup2, 1) := by decide +kernel
theorem dX4_free_51 : decode cX4_free 51 = .ok (.iaload, 1) := by decide +kernel
theorem dX4_free_52 : decode cX4_free 52 = .ok (.iconst 1, 1) := by decide +kernel
theorem dX4_free_53 : decode cX4_free 53 = .ok (.iload_n 1, 1) := by decide +kernel
theorem dX4_free_54 : decode cX4_free 54 = .ok (.ishl, 1) := by decide +kernel
theorem dX4_free_55 : decode cX4_free 55 = .ok (.ior, 1) := by decide +kernel
theorem dX4_free_56 : decode cX4_free 56 = .ok (.iastore, 1) := by decide +kernel
theorem dX4_free_57 : decode cX4_free 57 = .ok (.aload_n 0, 1) := by decide +kernel
theorem dX4_free_58 : decode cX4_free 58 = .ok (.getfield 25, 3) := by decide +kernel
theorem dX4_free_61 : decode cX4_free 61 = .ok (.bipush 14, 2) := by decide +kernel
theorem dX4_free_63 : decode cX4_free 63 = .ok (.iaload, 1) := by decide +kernel
theorem dX4_free_64 : decode cX4_free 64 = .ok (.invokestatic 141, 3) := by decide +kernel
theorem dX4_free_67 : decode cX4_free 67 = .ok (.ireturn, 1) := by decide +kernel
theorem dX4_goDie_0 : decode cX4_goDie 0 = .ok (.aload_n 0, 1) := by decide +kernel
theorem dX4_goDie_1 : decode cX4_goDie 1 = .ok (.bipush 15, 2) := by decide +kernel
theorem dX4_goDie_3 : decode cX4_goDie 3 = .ok (.dup2, 1) := by decide +kernel
theorem dX4_goDie_4 : decode cX4_goDie 4 = .ok (.iaload, 1) := by decide +kernel
theorem dX4_goDie_5 : decode cX4_goDie 5 = .ok (.iconst 1, 1) := by decide +kernel
theorem dX4_goDie_6 : decode cX4_goDie 6 = .ok (.iload_n 1, 1) := by decide +kernel
theorem dX4_goDie_7 : decode cX4_goDie 7 = .ok (.ishl, 1) := by decide +kernel
theorem dX4_goDie_8 : decode cX4_goDie 8 = .ok (.ior, 1) := by decide +kernel
theorem dX4_goDie_9 : decode cX4_goDie 9 = .ok (.iastore, 1) := by decide +kernel
theorem dX4_goDie_10 : decode cX4_goDie 10 = .ok (.aload_n 0, 1) := by decide +kernel
theorem dX4_goDie_11 : decode cX4_goDie 11 = .ok (.bipush 14, 2) := by decide +kernel
theorem dX4_goDie_13 : decode cX4_goDie 13 = .ok (.dup2, 1) := by decide +kernel
theorem dX4_goDie_14 : decode cX4_goDie 14 = .ok (.iaload, 1) := by decide +kernel
theorem dX4_goDie_15 : decode cX4_goDie 15 = .ok (.iconst 1, 1) := by decide +kernel
theorem dX4_goDie_16 : decode cX4_goDie 16 = .ok (.iload_n 1, 1) := by decide +kernel
theorem dX4_goDie_17 : decode cX4_goDie 17 = .ok (.ishl, 1) := by decide +kernel
theorem dX4_goDie_18 : decode cX4_goDie 18 = .ok (.iconst (-1), 1) := by decide +kernel
theorem dX4_goDie_19 : decode cX4_goDie 19 = .ok (.ixor, 1) := by decide +kernel
theorem dX4_goDie_20 : decode cX4_goDie 20 = .ok (.iand, 1) := by decide +kernel
theorem dX4_goDie_21 : decode cX4_goDie 21 = .ok (.iastore, 1) := by decide +kernel
theorem dX4_goDie_22 : decode cX4_goDie 22 = .ok (.return_, 1) := by decide +kernel
set_option maxRecDepth 20000 in
theorem ggX4_die_X4_noPerson : GoodIn wsX4_die wsX4_noPerson := goodIn_r _ [7, 8, 9, 10, 6, 11, 27, 28, 29, 30, 31, 32, 33, 34, 35, 36, 37, 38, 39, 40, 41, 42, 43, 44, 45, 46, 47, 48, 49, 50, 51, 52, 53, 54, 55] (by decide +kernel) (by decide +kernel)
set_option maxRecDepth 20000 in
theorem gX4_die_X4_noPerson : GoodIn wsX4_die (wsV RX4 134 RX4 yX4_noPerson wsX4_noPerson) := goodIn_app (goodIn_of _ (by decide +kernel)) ggX4_die_X4_noPerson
set_option maxRecDepth 20000 in
theorem ggX4_die_X4_has : GoodIn wsX4_die wsX4_has := goodIn_r _ [14] (by decide +kernel) (by decide +kernel)
set_option maxRecDepth 20000 in
theorem gX4_die_X4_has : GoodIn wsX4_die (va_wsS RX4 89 yX4_has wsX4_has) := goodIn_app (goodIn_of _ (by decide +kernel)) ggX4_die_X4_has
set_option maxRecDepth 20000 in
theorem ggX4_die_X4_note : GoodIn wsX4_die wsX4_note := goodIn_r _ [18, 19, 20, 2, 27, 28, 29, 30, 31, 32, 33, 34, 35, 36, 37, 38, 39, 40, 41, 42, 43, 44, 45, 46, 47, 48, 49, 50, 51, 52, 53, 54, 55] (by decide +kernel) (by decide +kernel)
set_option maxRecDepth 20000 in
theorem gX4_die_X4_note : GoodIn wsX4_die (wsV RX4 138 RX4 yX4_note wsX4_note) := goodIn_app (goodIn_of _ (by decide +kernel)) ggX4_die_X4_note
set_option maxRecDepth 20000 in
theorem ggX4_die_X4_goDie : GoodIn wsX4_die wsX4_goDie := goodIn_r _ [23] (by decide +kernel) (by decide +kernel)
set_option maxRecDepth 20000 in
theorem gX4_die_X4_goDie : GoodIn wsX4_die (va_wsS RX4 144 yX4_goDie wsX4_goDie) := goodIn_app (goodIn_of _ (by decide +kernel)) ggX4_die_X4_goDie
set_option maxRecDepth 20000 in
theorem ggX4_die_X4_many : GoodIn wsX4_die wsX4_many := goodIn_r _ [26] (by decide +kernel) (by decide +kernel)
set_option maxRecDepth 20000 in
theorem gX4_die_X4_many : GoodIn wsX4_die (va_wsS RX4 141 yX4_many wsX4_many) := goodIn_app (goodIn_of _ (by decide +kernel)) ggX4_die_X4_many
theorem dX4_die_0 : decode cX4_die 0 = .ok (.aload_n 0, 1) := by decide +kernel
theorem dX4_die_1 : decode cX4_die 1 = .ok (.iconst 0, 1) := by decide +kernel
theorem dX4_die_2 : decode cX4_die 2 = .ok (.putfield 60, 3) := by decide +kernel
theorem dX4_die_5 : decode cX4_die 5 = .ok (.aload_n 0, 1) := by decide +kernel
theorem dX4_die_6 : decode cX4_die 6 = .ok (.iload_n 1, 1) := by decide +kernel
theorem dX4_die_7 : decode cX4_die 7 = .ok (.invokevirtual 134, 3) := by decide +kernel
theorem dX4_die_10 : decode cX4_die 10 = .ok (.ifCond .eq 5, 3) := by decide +kernel
theorem dX4_die_13 : decode cX4_die 13 = .ok (.iconst (-1), 1) := by decide +kernel
theorem dX4_die_14 : decode cX4_die 14 = .ok (.ireturn, 1) := by decide +kernel
theorem dX4_die_15 : decode cX4_die 15 = .ok (.aload_n 0, 1) := by decide +kernel
theorem dX4_die_16 : decode cX4_die 16 = .ok (.getfield 25, 3) := by decide +kernel
theorem dX4_die_19 : decode cX4_die 19 = .ok (.bipush 15, 2) := by decide +kernel
theorem dX4_die_21 : decode cX4_die 21 = .ok (.iaload, 1) := by decide +kernel
theorem dX4_die_22 : decode cX4_die 22 = .ok (.iload_n 1, 1) := by decide +kernel
theorem dX4_die_23 : decode cX4_die 23 = .ok (.invokestatic 89, 3) := by decide +kernel
theorem dX4_die_26 : decode cX4_die 26 = .ok (.ifCond .eq 6, 3) := by decide +kernel
theorem dX4_die_29 : decode cX4_die 29 = .ok (.bipush (-3), 2) := by decide +kernel
theorem dX4_die_31 : decode cX4_die 31 = .ok (.ireturn, 1) := by decide +kernel
theorem dX4_die_32 : decode cX4_die 32 = .ok (.aload_n 0, 1) := by decide +kernel
theorem dX4_die_33 : decode cX4_die 33 = .ok (.invokevirtual 138, 3) := by decide +kernel
theorem dX4_die_36 : decode cX4_die 36 = .ok (.aload_n 0, 1) := by decide +kernel
theorem dX4_die_37 : decode cX4_die 37 = .ok (.getfield 25, 3) := by decide +kernel
theorem dX4_die_40 : decode cX4_die 40 = .ok (.iload_n 1, 1) := by decide +kernel
theorem dX4_die_41 : decode cX4_die 41 = .ok (.invokestatic 144, 3) := by decide +kernel
theorem dX4_die_44 : decode cX4_die 44 = .ok (.aload_n 0, 1) := by decide +kernel
theorem dX4_die_45 : decode cX4_die 45 = .ok (.getfield 25, 3) := by decide +kernel
theorem dX4_die_48 : decode cX4_die 48 = .ok (.bipush 14, 2) := by decide +kernel
theorem dX4_die_50 : decode cX4_die 50 = .ok (.iaload, 1) := by decide +kernel
theorem dX4_die_51 : decode cX4_die 51 = .ok (.invokestatic 141, 3) := by decide +kernel
theorem dX4_die_54 : decode cX4_die 54 = .ok (.ireturn, 1) := by decide +kernel
set_option maxRecDepth 20000 in
theorem ggX4_feed_X4_noPerson : GoodIn wsX4_feed wsX4_noPerson := goodIn_r _ [7, 8, 9, 10, 6, 11, 18, 19, 20, 21, 22, 23, 24, 25, 26, 27, 28, 29, 30, 31, 32, 33, 34, 35, 36, 37, 38, 39, 40, 41, 42, 43, 44, 45, 46] (by decide +kernel) (by decide +kernel)
set_option maxRecDepth 20000 in
theorem gX4_feed_X4_noPerson : GoodIn wsX4_feed (wsV RX4 134 RX4 yX4_noPerson wsX4_noPerson) := goodIn_app (goodIn_of _ (by decide +kernel)) ggX4_feed_X4_noPerson
set_option maxRecDepth 20000 in
theorem ggX4_feed_X4_note : GoodIn wsX4_feed wsX4_note := goodIn_r _ [15, 16, 17, 2, 18, 19, 20, 21, 22, 23, 24, 25, 26, 27, 28, 29, 30, 31, 32, 33, 34, 35, 36, 37, 38, 39, 40, 41, 42, 43, 44, 45, 46] (by decide +kernel) (by decide +kernel)
set_option maxRecDepth 20000 in
theorem gX4_feed_X4_note : GoodIn wsX4_feed (wsV RX4 138 RX4 yX4_note wsX4_note) := goodIn_app (goodIn_of _ (by decide +kernel)) ggX4_feed_X4_note
theorem dX4_feed_0 : decode cX4_feed 0 = .ok (.aload_n 0, 1) := by decide +kernel
theorem dX4_feed_1 : decode cX4_feed 1 = .ok (.iconst 0, 1) := by decide +kernel
theorem dX4_feed_2 : decode cX4_feed 2 = .ok (.putfield 60, 3) := by decide +kernel
theorem dX4_feed_5 : decode cX4_feed 5 = .ok (.aload_n 0, 1) := by decide +kernel
theorem dX4_feed_6 : decode cX4_feed 6 = .ok (.iload_n 1, 1) := by decide +kernel
theorem dX4_feed_7 : decode cX4_feed 7 = .ok (.invokevirtual 134, 3) := by decide +kernel
theorem dX4_feed_10 : decode cX4_feed 10 = .ok (.ifCond .ne 11, 3) := by decide +kernel
theorem dX4_feed_13 : decode cX4_feed 13 = .ok (.aload_n 0, 1) := by decide +kernel
theorem dX4_feed_14 : decode cX4_feed 14 = .ok (.iload_n 2, 1) := by decide +kernel
theorem dX4_feed_15 : decode cX4_feed 15 = .ok (.invokevirtual 134, 3) := by decide +kernel
theorem dX4_feed_18 : decode cX4_feed 18 = .ok (.ifCond .eq 5, 3) := by decide +kernel
theorem dX4_feed_21 : decode cX4_feed 21 = .ok (.iconst (-1), 1) := by decide +kernel
theorem dX4_feed_22 : decode cX4_feed 22 = .ok (.ireturn, 1) := by decide +kernel
theorem dX4_feed_23 : decode cX4_feed 23 = .ok (.iload_n 1, 1) := by decide +kernel
theorem dX4_feed_24 : decode cX4_feed 24 = .ok (.iload_n 2, 1) := by decide +kernel
theorem dX4_feed_25 : decode cX4_feed 25 = .ok (.if_icmp .ne 6, 3) := by decide +kernel
theorem dX4_feed_28 : decode cX4_feed 28 = .ok (.bipush (-2), 2) := by decide +kernel
theorem dX4_feed_30 : decode cX4_feed 30 = .ok (.ireturn, 1) := by decide +kernel
theorem dX4_feed_31 : decode cX4_feed 31 = .ok (.aload_n 0, 1) := by decide +kernel
theorem dX4_feed_32 : decode cX4_feed 32 = .ok (.invokevirtual 138, 3) := by decide +kernel
theorem dX4_feed_35 : decode cX4_feed 35 = .ok (.aload_n 0, 1) := by decide +kernel
theorem dX4_feed_36 : decode cX4_feed 36 = .ok (.getfield 25, 3) := by decide +kernel
theorem dX4_feed_39 : decode cX4_feed 39 = .ok (.bipush 7, 2) := by decide +kernel
theorem dX4_feed_41 : decode cX4_feed 41 = .ok (.iload_n 1, 1) := by decide +kernel
theorem dX4_feed_42 : decode cX4_feed 42 = .ok (.iadd, 1) := by decide +kernel
theorem dX4_feed_43 : decode cX4_feed 43 = .ok (.dup2, 1) := by decide +kernel
theorem dX4_feed_44 : decode cX4_feed 44 = .ok (.iaload, 1) := by decide +kernel
theorem dX4_feed_45 : decode cX4_feed 45 = .ok (.iconst 1, 1) := by decide +kernel
theorem dX4_feed_46 : decode cX4_feed 46 = .ok (.iload_n 2, 1) := by decide +kernel
theorem dX4_feed_47 : decode cX4_feed 47 = .ok (.ishl, 1) := by decide +kernel
theorem dX4_feed_48 : decode cX4_feed 48 = .ok (.ixor, 1) := by decide +kernel
theorem dX4_feed_49 : decode cX4_feed 49 = .ok (.iastore, 1) := by decide +kernel
theorem dX4_feed_50 : decode cX4_feed 50 = .ok (.aload_n 0, 1) := by decide +kernel
theorem dX4_feed_51 : decode cX4_feed 51 = .ok (.getfield 25, 3) := by decide +kernel
theorem dX4_feed_54 : decode cX4_feed 54 = .ok (.bipush 7, 2) := by decide +kernel
theorem dX4_feed_56 : decode cX4_feed 56 = .ok (.iload_n 1, 1) := by decide +kernel
theorem dX4_feed_57 : decode cX4_feed 57 = .ok (.iadd, 1) := by decide +kernel
theorem dX4_feed_58 : decode cX4_feed 58 = .ok (.iaload, 1) := by decide +kernel
theorem dX4_feed_59 : decode cX4_feed 59 = .ok (.iload_n 2, 1) := by decide +kernel
theorem dX4_feed_60 : decode cX4_feed 60 = .ok (.ishr, 1) := by decide +kernel
theorem dX4_feed_61 : decode cX4_feed 61 = .ok (.iconst 1, 1) := by decide +kernel
theorem dX4_feed_62 : decode cX4_feed 62 = .ok (.iand, 1) := by decide +kernel
theorem dX4_feed_63 : decode cX4_feed 63 = .ok (.ireturn, 1) := by decide +kernel
set_option maxRecDepth 20000 in
theorem ggX4_grade_X4_noPerson : GoodIn wsX4_grade wsX4_noPerson := goodIn_r _ [8, 9, 10, 11, 7, 12, 19, 20, 21, 22, 23, 24, 25, 26, 27, 28, 29, 30, 31, 32, 33, 34, 35, 36, 37, 38, 39, 40, 41, 42, 43, 44, 45, 46, 47] (by decide +kernel) (by decide +kernel)
set_option maxRecDepth 20000 in
theorem gX4_grade_X4_noPerson : GoodIn wsX4_grade (wsV RX4 134 RX4 yX4_noPerson wsX4_noPerson) := goodIn_app (goodIn_of _ (by decide +kernel)) ggX4_grade_X4_noPerson
set_option maxRecDepth 20000 in
theorem ggX4_grade_X4_in : GoodIn wsX4_grade wsX4_in := goodIn_r _ [12] (by decide +kernel) (by decide +kernel)
set_option maxRecDepth 20000 in
theorem gX4_grade_X4_in : GoodIn wsX4_grade (va_wsS RX4 67 yX4_in wsX4_in) := goodIn_app (goodIn_of _ (by decide +kernel)) ggX4_grade_X4_in
set_option maxRecDepth 20000 in
theorem ggX4_grade_X4_note : GoodIn wsX4_grade wsX4_note := goodIn_r _ [16, 17, 18, 3, 19, 20, 21, 22, 23, 24, 25, 26, 27, 28, 29, 30, 31, 32, 33, 34, 35, 36, 37, 38, 39, 40, 41, 42, 43, 44, 45, 46, 47] (by decide +kernel) (by decide +kernel)
set_option maxRecDepth 20000 in
theorem gX4_grade_X4_note : GoodIn wsX4_grade (wsV RX4 138 RX4 yX4_note wsX4_note) := goodIn_app (goodIn_of _ (by decide +kernel)) ggX4_grade_X4_note
theorem dX4_grade_0 : decode cX4_grade 0 = .ok (.aload_n 0, 1) := by decide +kernel
theorem dX4_grade_1 : decode cX4_grade 1 = .ok (.iconst 0, 1) := by decide +kernel
theorem dX4_grade_2 : decode cX4_grade 2 = .ok (.putfield 60, 3) := by decide +kernel
theorem dX4_grade_5 : decode cX4_grade 5 = .ok (.aload_n 0, 1) := by decide +kernel
theorem dX4_grade_6 : decode cX4_grade 6 = .ok (.iload_n 1, 1) := by decide +kernel
theorem dX4_grade_7 : decode cX4_grade 7 = .ok (.invokevirtual 134, 3) := by decide +kernel
theorem dX4_grade_10 : decode cX4_grade 10 = .ok (.ifCond .eq 5, 3) := by decide +kernel
theorem dX4_grade_13 : decode cX4_grade 13 = .ok (.iconst (-1), 1) := by decide +kernel
theorem dX4_grade_14 : decode cX4_grade 14 = .ok (.ireturn, 1) := by decide +kernel
theorem dX4_grade_15 : decode cX4_grade 15 = .ok (.iload_n 2, 1) := by decide +kernel
theorem dX4_grade_16 : decode cX4_grade 16 = .ok (.i2l, 1) := by decide +kernel
theorem dX4_grade_17 : decode cX4_grade 17 = .ok (.lconst 0, 1) := by decide +kernel
theorem dX4_grade_18 : decode cX4_grade 18 = .ok (.ldc2_w 148, 3) := by decide +kernel
theorem dX4_grade_21 : decode cX4_grade 21 = .ok (.invokestatic 67, 3) := by decide +kernel
theorem dX4_grade_24 : decode cX4_grade 24 = .ok (.ifCond .ne 6, 3) := by decide +kernel
theorem dX4_grade_27 : decode cX4_grade 27 = .ok (.bipush (-2), 2) := by decide +kernel
theorem dX4_grade_29 : decode cX4_grade 29 = .ok (.ireturn, 1) := by decide +kernel
theorem dX4_grade_30 : decode cX4_grade 30 = .ok (.aload_n 0, 1) := by decide +kernel
theorem dX4_grade_31 : decode cX4_grade 31 = .ok (.getfield 25, 3) := by decide +kernel
theorem dX4_grade_34 : decode cX4_grade 34 = .ok (.iconst 0, 1) := by decide +kernel
theorem dX4_grade_35 : decode cX4_grade 35 = .ok (.iload_n 1, 1) := by decide +kernel
theorem dX4_grade_36 : decode cX4_grade 36 = .ok (.iadd, 1) := by decide +kernel
theorem dX4_grade_37 : decode cX4_grade 37 = .ok (.iaload, 1) := by decide +kernel
theorem dX4_grade_38 : decode cX4_grade 38 = .ok (.istore_n 3, 1) := by decide +kernel
theorem dX4_grade_39 : decode cX4_grade 39 = .ok (.iload_n 3, 1) := by decide +kernel
theorem dX4_grade_40 : decode cX4_grade 40 = .ok (.iload_n 2, 1) := by decide +kernel
theorem dX4_grade_41 : decode cX4_grade 41 = .ok (.if_icmp .ne 6, 3) := by decide +kernel
theorem dX4_grade_44 : decode cX4_grade 44 = .ok (.bipush (-3), 2) := by decide +kernel
theorem dX4_grade_46 : decode cX4_grade 46 = .ok (.ireturn, 1) := by decide +kernel
theorem dX4_grade_47 : decode cX4_grade 47 = .ok (.aload_n 0, 1) := by decide +kernel
theorem dX4_grade_48 : decode cX4_grade 48 = .ok (.invokevirtual 138, 3) := by decide +kernel
theorem dX4_grade_51 : decode cX4_grade 51 = .ok (.aload_n 0, 1) := by decide +kernel
theorem dX4_grade_52 : decode cX4_grade 52 = .ok (.getfield 25, 3) := by decide +kernel
theorem dX4_grade_55 : decode cX4_grade 55 = .ok (.iconst 0, 1) := by decide +kernel
theorem dX4_grade_56 : decode cX4_grade 56 = .ok (.iload_n 1, 1) := by decide +kernel
theorem dX4_grade_57 : decode cX4_grade 57 = .ok (.iadd, 1) := by decide +kernel
theorem dX4_grade_58 : decode cX4_grade 58 = .ok (.iload_n 2, 1) := by decide +kernel
theorem dX4_grade_59 : decode cX4_grade 59 = .ok (.iastore, 1) := by decide +kernel
theorem dX4_grade_60 : decode cX4_grade 60 = .ok (.iload_n 3, 1) := by decide +kernel
theorem dX4_grade_61 : decode cX4_grade 61 = .ok (.ireturn, 1) := by decide +kernel
set_option maxRecDepth 20000 in
theorem ggX4_goDay_X4_mayOf : GoodIn wsX4_goDay wsX4_mayOf := goodIn_r _ [5, 6, 7, 8, 4, 9, 10, 11, 12, 13, 14, 15, 16, 17, 18, 22, 23, 24, 25, 26, 27, 28, 29, 30, 31, 32, 33, 34, 35, 36, 37, 38, 39, 40, 41, 42, 43, 44, 45, 46, 47, 48, 49, 50] (by decide +kernel) (by decide +kernel)
set_option maxRecDepth 20000 in
theorem gX4_goDay_X4_mayOf : GoodIn wsX4_goDay (wsV RX4 124 RX4 yX4_mayOf wsX4_mayOf) := goodIn_app (goodIn_of _ (by decide +kernel)) ggX4_goDay_X4_mayOf
set_option maxRecDepth 20000 in
theorem ggX4_goDay_X4_least : GoodIn wsX4_goDay wsX4_least := goodIn_r _ [21, 7, 8, 4, 9] (by decide +kernel) (by decide +kernel)
set_option maxRecDepth 20000 in
theorem gX4_goDay_X4_least : GoodIn wsX4_goDay (va_wsS RX4 128 yX4_least wsX4_least) := goodIn_app (goodIn_of _ (by decide +kernel)) ggX4_goDay_X4_least
theorem dX4_goDay_0 : decode cX4_goDay 0 = .ok (.aload_n 0, 1) := by decide +kernel
theorem dX4_goDay_1 : decode cX4_goDay 1 = .ok (.aload_n 1, 1) := by decide +kernel
theorem dX4_goDay_2 : decode cX4_goDay 2 = .ok (.invokevirtual 124, 3) := by decide +kernel
theorem dX4_goDay_5 : decode cX4_goDay 5 = .ok (.istore_n 2, 1) := by decide +kernel
theorem dX4_goDay_6 : decode cX4_goDay 6 = .ok (.iload_n 2, 1) := by decide +kernel
theorem dX4_goDay_7 : decode cX4_goDay 7 = .ok (.ifCond .ne 8, 3) := by decide +kernel
theorem dX4_goDay_10 : decode cX4_goDay 10 = .ok (.bipush (-9), 2) := by decide +kernel
theorem dX4_goDay_12 : decode cX4_goDay 12 = .ok (.goto 7, 3) := by decide +kernel
theorem dX4_goDay_15 : decode cX4_goDay 15 = .ok (.iload_n 2, 1) := by decide +kernel
theorem dX4_goDay_16 : decode cX4_goDay 16 = .ok (.invokestatic 128, 3) := by decide +kernel
theorem dX4_goDay_19 : decode cX4_goDay 19 = .ok (.istore_n 3, 1) := by decide +kernel
theorem dX4_goDay_20 : decode cX4_goDay 20 = .ok (.aload_n 1, 1) := by decide +kernel
theorem dX4_goDay_21 : decode cX4_goDay 21 = .ok (.bipush 14, 2) := by decide +kernel
theorem dX4_goDay_23 : decode cX4_goDay 23 = .ok (.dup2, 1) := by decide +kernel
theorem dX4_goDay_24 : decode cX4_goDay 24 = .ok (.iaload, 1) := by decide +kernel
theorem dX4_goDay_25 : decode cX4_goDay 25 = .ok (.iload_n 3, 1) := by decide +kernel
theorem dX4_goDay_26 : decode cX4_goDay 26 = .ok (.bipush (-9), 2) := by decide +kernel
theorem dX4_goDay_28 : decode cX4_goDay 28 = .ok (.if_icmp .ne 7, 3) := by decide +kernel
theorem dX4_goDay_31 : decode cX4_goDay 31 = .ok (.iconst (-1), 1) := by decide +kernel
theorem dX4_goDay_32 : decode cX4_goDay 32 = .ok (.goto 8, 3) := by decide +kernel
theorem dX4_goDay_35 : decode cX4_goDay 35 = .ok (.iconst 1, 1) := by decide +kernel
theorem dX4_goDay_36 : decode cX4_goDay 36 = .ok (.iload_n 3, 1) := by decide +kernel
theorem dX4_goDay_37 : decode cX4_goDay 37 = .ok (.ishl, 1) := by decide +kernel
theorem dX4_goDay_38 : decode cX4_goDay 38 = .ok (.iconst (-1), 1) := by decide +kernel
theorem dX4_goDay_39 : decode cX4_goDay 39 = .ok (.ixor, 1) := by decide +kernel
theorem dX4_goDay_40 : decode cX4_goDay 40 = .ok (.iand, 1) := by decide +kernel
theorem dX4_goDay_41 : decode cX4_goDay 41 = .ok (.iastore, 1) := by decide +kernel
theorem dX4_goDay_42 : decode cX4_goDay 42 = .ok (.aload_n 1, 1) := by decide +kernel
theorem dX4_goDay_43 : decode cX4_goDay 43 = .ok (.bipush 16, 2) := by decide +kernel
theorem dX4_goDay_45 : decode cX4_goDay 45 = .ok (.dup2, 1) := by decide +kernel
theorem dX4_goDay_46 : decode cX4_goDay 46 = .ok (.iaload, 1) := by decide +kernel
theorem dX4_goDay_47 : decode cX4_goDay 47 = .ok (.iconst 1, 1) := by decide +kernel
theorem dX4_goDay_48 : decode cX4_goDay 48 = .ok (.iadd, 1) := by decide +kernel
theorem dX4_goDay_49 : decode cX4_goDay 49 = .ok (.iastore, 1) := by decide +kernel
theorem dX4_goDay_50 : decode cX4_goDay 50 = .ok (.iload_n 3, 1) := by decide +kernel
theorem dX4_goDay_51 : decode cX4_goDay 51 = .ok (.ireturn, 1) := by decide +kernel
set_option maxRecDepth 20000 in
theorem ggX4_day_X4_note : GoodIn wsX4_day wsX4_note := goodIn_r _ [7, 8, 9, 2, 34, 35, 36, 37, 38, 39, 40, 41, 42, 43, 44, 45, 46, 47, 48, 49, 50, 51, 52, 53, 54, 55, 56, 57, 58, 59, 60, 61, 62] (by decide +kernel) (by decide +kernel)
set_option maxRecDepth 20000 in
theorem gX4_day_X4_note : GoodIn wsX4_day (wsV RX4 138 RX4 yX4_note wsX4_note) := goodIn_app (goodIn_of _ (by decide +kernel)) ggX4_day_X4_note
set_option maxRecDepth 20000 in
theorem ggX4_day_X4_goDay : GoodIn wsX4_day wsX4_goDay := goodIn_r _ [13, 14, 15, 16, 6, 17, 18, 19, 20, 21, 22, 23, 24, 25, 26, 27, 28, 29, 30, 31, 32, 33, 34, 35, 36, 37, 38, 39, 40, 41, 42, 43, 44, 45, 46, 47, 48, 49, 50, 51, 52, 53, 54, 55, 56, 57, 58, 59, 60, 61, 62] (by decide +kernel) (by decide +kernel)
set_option maxRecDepth 20000 in
theorem gX4_day_X4_goDay : GoodIn wsX4_day (wsV RX4 150 RX4 yX4_goDay wsX4_goDay) := goodIn_app (goodIn_of _ (by decide +kernel)) ggX4_day_X4_goDay
theorem dX4_day_0 : decode cX4_day 0 = .ok (.aload_n 0, 1) := by decide +kernel
theorem dX4_day_1 : decode cX4_day 1 = .ok (.iconst 0, 1) := by decide +kernel
theorem dX4_day_2 : decode cX4_day 2 = .ok (.putfield 60, 3) := by decide +kernel
theorem dX4_day_5 : decode cX4_day 5 = .ok (.aload_n 0, 1) := by decide +kernel
theorem dX4_day_6 : decode cX4_day 6 = .ok (.invokevirtual 138, 3) := by decide +kernel
theorem dX4_day_9 : decode cX4_day 9 = .ok (.aload_n 0, 1) := by decide +kernel
theorem dX4_day_10 : decode cX4_day 10 = .ok (.aload_n 0, 1) := by decide +kernel
theorem dX4_day_11 : decode cX4_day 11 = .ok (.getfield 25, 3) := by decide +kernel
theorem dX4_day_14 : decode cX4_day 14 = .ok (.invokevirtual 150, 3) := by decide +kernel
theorem dX4_day_17 : decode cX4_day 17 = .ok (.ireturn, 1) := by decide +kernel
theorem dX4_undo_0 : decode cX4_undo 0 = .ok (.aload_n 0, 1) := by decide +kernel
theorem dX4_undo_1 : decode cX4_undo 1 = .ok (.iconst 0, 1) := by decide +kernel
theorem dX4_undo_2 : decode cX4_undo 2 = .ok (.putfield 60, 3) := by decide +kernel
theorem dX4_undo_5 : decode cX4_undo 5 = .ok (.aload_n 0, 1) := by decide +kernel
theorem dX4_undo_6 : decode cX4_undo 6 = .ok (.getfield 110, 3) := by decide +kernel
theorem dX4_undo_9 : decode cX4_undo 9 = .ok (.ifCond .ne 6, 3) := by decide +kernel
theorem dX4_undo_12 : decode cX4_undo 12 = .ok (.bipush (-3), 2) := by decide +kernel
theorem dX4_undo_14 : decode cX4_undo 14 = .ok (.ireturn, 1) := by decide +kernel
theorem dX4_undo_15 : decode cX4_undo 15 = .ok (.aload_n 0, 1) := by decide +kernel
theorem dX4_undo_16 : decode cX4_undo 16 = .ok (.dup, 1) := by decide +kernel
theorem dX4_undo_17 : decode cX4_undo 17 = .ok (.getfield 110, 3) := by decide +kernel
theorem dX4_undo_20 : decode cX4_undo 20 = .ok (.iconst 1, 1) := by decide +kernel
theorem dX4_undo_21 : decode cX4_undo 21 = .ok (.isub, 1) := by decide +kernel
theorem dX4_undo_22 : decode cX4_undo 22 = .ok (.putfield 110, 3) := by decide +kernel
theorem dX4_undo_25 : decode cX4_undo 25 = .ok (.iconst 0, 1) := by decide +kernel
theorem dX4_undo_26 : decode cX4_undo 26 = .ok (.istore_n 1, 1) := by decide +kernel
theorem dX4_undo_27 : decode cX4_undo 27 = .ok (.iload_n 1, 1) := by decide +kernel
theorem dX4_undo_28 : decode cX4_undo 28 = .ok (.bipush 17, 2) := by decide +kernel
theorem dX4_undo_30 : decode cX4_undo 30 = .ok (.if_icmp .ge 29, 3) := by decide +kernel
theorem dX4_undo_33 : decode cX4_undo 33 = .ok (.aload_n 0, 1) := by decide +kernel
theorem dX4_undo_34 : decode cX4_undo 34 = .ok (.getfield 25, 3) := by decide +kernel
theorem dX4_undo_37 : decode cX4_undo 37 = .ok (.iload_n 1, 1) := by decide +kernel
theorem dX4_undo_38 : decode cX4_undo 38 = .ok (.aload_n 0, 1) := by decide +kernel
theorem dX4_undo_39 : decode cX4_undo 39 = .ok (.getfield 31, 3) := by decide +kernel
theorem dX4_undo_42 : decode cX4_undo 42 = .ok (.bipush 17, 2) := by decide +kernel
theorem dX4_undo_44 : decode cX4_undo 44 = .ok (.aload_n 0, 1) := by decide +kernel
theorem dX4_undo_45 : decode cX4_undo 45 = .ok (.getfield 110, 3) := by decide +kernel
theorem dX4_undo_48 : decode cX4_undo 48 = .ok (.imul, 1) := by decide +kernel
theorem dX4_undo_49 : decode cX4_undo 49 = .ok (.iload_n 1, 1) := by decide +kernel
theorem dX4_undo_50 : decode cX4_undo 50 = .ok (.iadd, 1) := by decide +kernel
theorem dX4_undo_51 : decode cX4_undo 51 = .ok (.iaload, 1) := by decide +kernel
theorem dX4_undo_52 : decode cX4_undo 52 = .ok (.iastore, 1) := by decide +kernel
theorem dX4_undo_53 : decode cX4_undo 53 = .ok (.iinc 1 1, 3) := by decide +kernel
theorem dX4_undo_56 : decode cX4_undo 56 = .ok (.goto (-29), 3) := by decide +kernel
theorem dX4_undo_59 : decode cX4_undo 59 = .ok (.aload_n 0, 1) := by decide +kernel
theorem dX4_undo_60 : decode cX4_undo 60 = .ok (.getfield 110, 3) := by decide +kernel
theorem dX4_undo_63 : decode cX4_undo 63 = .ok (.ireturn, 1) := by decide +kernel
set_option maxRecDepth 20000 in
theorem ggX4_fall_X4_begin : GoodIn wsX4_fall wsX4_begin := goodIn_r _ [8, 9, 10, 35, 36, 37, 38, 39, 40, 41, 42, 43, 44, 45, 46, 47, 48, 49, 50, 51, 52, 53, 54, 55, 56, 57, 58, 59, 60, 61, 62, 63] (by decide +kernel) (by decide +kernel)
set_option maxRecDepth 20000 in
theorem gX4_fall_X4_begin : GoodIn wsX4_fall (wsV RX4 153 RX4 yX4_begin wsX4_begin) := goodIn_app (goodIn_of _ (by decide +kernel)) ggX4_fall_X4_begin
set_option maxRecDepth 20000 in
theorem ggX4_fall_X4_layFall : GoodIn wsX4_fall wsX4_layFall := goodIn_r _ [14, 2, 9, 3, 15, 16, 17, 7, 18, 19, 20, 21, 22, 23, 24, 25, 26, 27, 28, 29, 30, 31, 32, 33, 34, 35, 36, 37, 38, 39, 40, 41, 42, 43, 44, 45, 46, 47, 48, 49, 50, 51, 52, 53, 54, 55, 56, 57, 58, 59, 60, 61, 62, 63] (by decide +kernel) (by decide +kernel)
set_option maxRecDepth 20000 in
theorem gX4_fall_X4_layFall : GoodIn wsX4_fall (wsV RX4 156 RX4 yX4_layFall wsX4_layFall) := goodIn_app (goodIn_of _ (by decide +kernel)) ggX4_fall_X4_layFall
theorem dX4_fall_0 : decode cX4_fall 0 = .ok (.aload_n 0, 1) := by decide +kernel
theorem dX4_fall_1 : decode cX4_fall 1 = .ok (.iconst 0, 1) := by decide +kernel
theorem dX4_fall_2 : decode cX4_fall 2 = .ok (.putfield 60, 3) := by decide +kernel
theorem dX4_fall_5 : decode cX4_fall 5 = .ok (.aload_n 0, 1) := by decide +kernel
theorem dX4_fall_6 : decode cX4_fall 6 = .ok (.invokevirtual 153, 3) := by decide +kernel
theorem dX4_fall_9 : decode cX4_fall 9 = .ok (.aload_n 0, 1) := by decide +kernel
theorem dX4_fall_10 : decode cX4_fall 10 = .ok (.invokevirtual 156, 3) := by decide +kernel
theorem dX4_fall_13 : decode cX4_fall 13 = .ok (.iconst 0, 1) := by decide +kernel
theorem dX4_fall_14 : decode cX4_fall 14 = .ok (.istore_n 1, 1) := by decide +kernel
theorem dX4_fall_15 : decode cX4_fall 15 = .ok (.iconst 0, 1) := by decide +kernel
theorem dX4_fall_16 : decode cX4_fall 16 = .ok (.istore_n 2, 1) := by decide +kernel
theorem dX4_fall_17 : decode cX4_fall 17 = .ok (.iload_n 2, 1) := by decide +kernel
theorem dX4_fall_18 : decode cX4_fall 18 = .ok (.aload_n 0, 1) := by decide +kernel
theorem dX4_fall_19 : decode cX4_fall 19 = .ok (.getfield 121, 3) := by decide +kernel
theorem dX4_fall_22 : decode cX4_fall 22 = .ok (.if_icmp .ge 23, 3) := by decide +kernel
theorem dX4_fall_25 : decode cX4_fall 25 = .ok (.bipush 10, 2) := by decide +kernel
theorem dX4_fall_27 : decode cX4_fall 27 = .ok (.iload_n 1, 1) := by decide +kernel
theorem dX4_fall_28 : decode cX4_fall 28 = .ok (.imul, 1) := by decide +kernel
theorem dX4_fall_29 : decode cX4_fall 29 = .ok (.aload_n 0, 1) := by decide +kernel
theorem dX4_fall_30 : decode cX4_fall 30 = .ok (.getfield 47, 3) := by decide +kernel
theorem dX4_fall_33 : decode cX4_fall 33 = .ok (.iload_n 2, 1) := by decide +kernel
theorem dX4_fall_34 : decode cX4_fall 34 = .ok (.iaload, 1) := by decide +kernel
theorem dX4_fall_35 : decode cX4_fall 35 = .ok (.iadd, 1) := by decide +kernel
theorem dX4_fall_36 : decode cX4_fall 36 = .ok (.iconst 1, 1) := by decide +kernel
theorem dX4_fall_37 : decode cX4_fall 37 = .ok (.iadd, 1) := by decide +kernel
theorem dX4_fall_38 : decode cX4_fall 38 = .ok (.istore_n 1, 1) := by decide +kernel
theorem dX4_fall_39 : decode cX4_fall 39 = .ok (.iinc 2 1, 3) := by decide +kernel
theorem dX4_fall_42 : decode cX4_fall 42 = .ok (.goto (-25), 3) := by decide +kernel
theorem dX4_fall_45 : decode cX4_fall 45 = .ok (.iload_n 1, 1) := by decide +kernel
theorem dX4_fall_46 : decode cX4_fall 46 = .ok (.ireturn, 1) := by decide +kernel
set_option maxRecDepth 20000 in
theorem ggX4_place_X4_noPerson : GoodIn wsX4_place wsX4_noPerson := goodIn_r _ [6, 7, 8, 9, 5, 10, 46, 47, 48, 49, 50, 51, 52, 53, 54, 55, 56, 57, 58, 59, 60, 61, 62, 63, 64, 65, 66, 67, 68, 69, 70, 71, 72, 73, 74] (by decide +kernel) (by decide +kernel)
set_option maxRecDepth 20000 in
theorem gX4_place_X4_noPerson : GoodIn wsX4_place (wsV RX4 134 RX4 yX4_noPerson wsX4_noPerson) := goodIn_app (goodIn_of _ (by decide +kernel)) ggX4_place_X4_noPerson
set_option maxRecDepth 20000 in
theorem ggX4_place_X4_begin : GoodIn wsX4_place wsX4_begin := goodIn_r _ [14, 15, 16, 46, 47, 48, 49, 50, 51, 52, 53, 54, 55, 56, 57, 58, 59, 60, 61, 62, 63, 64, 65, 66, 67, 68, 69, 70, 71, 72, 73, 74] (by decide +kernel) (by decide +kernel)
set_option maxRecDepth 20000 in
theorem gX4_place_X4_begin : GoodIn wsX4_place (wsV RX4 153 RX4 yX4_begin wsX4_begin) := goodIn_app (goodIn_of _ (by decide +kernel)) ggX4_place_X4_begin
set_option maxRecDepth 20000 in
theorem ggX4_place_X4_layFall : GoodIn wsX4_place wsX4_layFall := goodIn_r _ [20, 21, 15, 22, 23, 24, 25, 5, 26, 7, 27, 28, 29, 30, 31, 32, 33, 34, 35, 36, 37, 38, 39, 40, 41, 46, 47, 48, 49, 50, 51, 52, 53, 54, 55, 56, 57, 58, 59, 60, 61, 62, 63, 64, 65, 66, 67, 68, 69, 70, 71, 72, 73, 74] (by decide +kernel) (by decide +kernel)
set_option maxRecDepth 20000 in
theorem gX4_place_X4_layFall : GoodIn wsX4_place (wsV RX4 156 RX4 yX4_layFall wsX4_layFall) := goodIn_app (goodIn_of _ (by decide +kernel)) ggX4_place_X4_layFall
set_option maxRecDepth 20000 in
theorem ggX4_place_X4_placeOf : GoodIn wsX4_place wsX4_placeOf := goodIn_r _ [45, 21, 22, 46, 47, 48, 49, 50, 51, 52, 53, 54, 55, 56, 57, 58, 59, 60, 61, 62, 63, 64, 65, 66, 67, 68, 69, 70, 71, 72, 73, 74] (by decide +kernel) (by decide +kernel)
set_option maxRecDepth 20000 in
theorem gX4_place_X4_placeOf : GoodIn wsX4_place (wsV RX4 159 RX4 yX4_placeOf wsX4_placeOf) := goodIn_app (goodIn_of _ (by decide +kernel)) ggX4_place_X4_placeOf
theorem dX4_place_0 : decode cX4_place 0 = .ok (.aload_n 0, 1) := by decide +kernel
theorem dX4_place_1 : decode cX4_place 1 = .ok (.iconst 0, 1) := by decide +kernel
theorem dX4_place_2 : decode cX4_place 2 = .ok (.putfield 60, 3) := by decide +kernel
theorem dX4_place_5 : decode cX4_place 5 = .ok (.aload_n 0, 1) := by decide +kernel
theorem dX4_place_6 : decode cX4_place 6 = .ok (.iload_n 1, 1) := by decide +kernel
theorem dX4_place_7 : decode cX4_place 7 = .ok (.invokevirtual 134, 3) := by decide +kernel
theorem dX4_place_10 : decode cX4_place 10 = .ok (.ifCond .eq 5, 3) := by decide +kernel
theorem dX4_place_13 : decode cX4_place 13 = .ok (.iconst (-1), 1) := by decide +kernel
theorem dX4_place_14 : decode cX4_place 14 = .ok (.ireturn, 1) := by decide +kernel
theorem dX4_place_15 : decode cX4_place 15 = .ok (.aload_n 0, 1) := by decide +kernel
theorem dX4_place_16 : decode cX4_place 16 = .ok (.invokevirtual 153, 3) := by decide +kernel
theorem dX4_place_19 : decode cX4_place 19 = .ok (.aload_n 0, 1) := by decide +kernel
theorem dX4_place_20 : decode cX4_place 20 = .ok (.invokevirtual 156, 3) := by decide +kernel
theorem dX4_place_23 : decode cX4_place 23 = .ok (.aload_n 0, 1) := by decide +kernel
theorem dX4_place_24 : decode cX4_place 24 = .ok (.iload_n 1, 1) := by decide +kernel
theorem dX4_place_25 : decode cX4_place 25 = .ok (.invokevirtual 159, 3) := by decide +kernel
theorem dX4_place_28 : decode cX4_place 28 = .ok (.ireturn, 1) := by decide +kernel
set_option maxRecDepth 20000 in
theorem ggX4_last_X4_begin : GoodIn wsX4_last wsX4_begin := goodIn_r _ [7, 2, 8, 35, 36, 37, 38, 39, 40, 41, 42, 43, 44, 45, 46, 47, 48, 49, 50, 51, 52, 53, 54, 55, 56, 57, 58, 59, 60, 61, 62, 63] (by decide +kernel) (by decide +kernel)
set_option maxRecDepth 20000 in
theorem gX4_last_X4_begin : GoodIn wsX4_last (wsV RX4 153 RX4 yX4_begin wsX4_begin) := goodIn_app (goodIn_of _ (by decide +kernel)) ggX4_last_X4_begin
set_option maxRecDepth 20000 in
theorem ggX4_last_X4_layFall : GoodIn wsX4_last wsX4_layFall := goodIn_r _ [12, 13, 2, 14, 15, 16, 17, 6, 18, 19, 20, 21, 22, 23, 24, 25, 26, 27, 28, 29, 30, 31, 32, 33, 34, 35, 36, 37, 38, 39, 40, 41, 42, 43, 44, 45, 46, 47, 48, 49, 50, 51, 52, 53, 54, 55, 56, 57, 58, 59, 60, 61, 62, 63] (by decide +kernel) (by decide +kernel)
set_option maxRecDepth 20000 in
theorem gX4_last_X4_layFall : GoodIn wsX4_last (wsV RX4 156 RX4 yX4_layFall wsX4_layFall) := goodIn_app (goodIn_of _ (by decide +kernel)) ggX4_last_X4_layFall
theorem dX4_last_0 : decode cX4_last 0 = .ok (.aload_n 0, 1) := by decide +kernel
theorem dX4_last_1 : decode cX4_last 1 = .ok (.iconst 0, 1) := by decide +kernel
theorem dX4_last_2 : decode cX4_last 2 = .ok (.putfield 60, 3) := by decide +kernel
theorem dX4_last_5 : decode cX4_last 5 = .ok (.aload_n 0, 1) := by decide +kernel
theorem dX4_last_6 : decode cX4_last 6 = .ok (.invokevirtual 153, 3) := by decide +kernel
theorem dX4_last_9 : decode cX4_last 9 = .ok (.aload_n 0, 1) := by decide +kernel
theorem dX4_last_10 : decode cX4_last 10 = .ok (.invokevirtual 156, 3) := by decide +kernel
theorem dX4_last_13 : decode cX4_last 13 = .ok (.aload_n 0, 1) := by decide +kernel
theorem dX4_last_14 : decode cX4_last 14 = .ok (.getfield 28, 3) := by decide +kernel
theorem dX4_last_17 : decode cX4_last 17 = .ok (.bipush 14, 2) := by decide +kernel
theorem dX4_last_19 : decode cX4_last 19 = .ok (.iaload, 1) := by decide +kernel
theorem dX4_last_20 : decode cX4_last 20 = .ok (.ireturn, 1) := by decide +kernel
set_option maxRecDepth 20000 in
theorem ggX4_isPair_X4_noPerson : GoodIn wsX4_isPair wsX4_noPerson := goodIn_r _ [6, 7, 8, 9, 5, 10, 14, 15, 16, 17, 18, 19, 20, 21, 22, 23, 24, 25, 26, 27, 28, 29, 30, 31, 32, 33, 34, 35, 36, 37, 38, 39, 40, 41, 42] (by decide +kernel) (by decide +kernel)
set_option maxRecDepth 20000 in
theorem gX4_isPair_X4_noPerson : GoodIn wsX4_isPair (wsV RX4 134 RX4 yX4_noPerson wsX4_noPerson) := goodIn_app (goodIn_of _ (by decide +kernel)) ggX4_isPair_X4_noPerson
set_option maxRecDepth 20000 in
theorem ggX4_isPair_X4_has : GoodIn wsX4_isPair wsX4_has := goodIn_r _ [13] (by decide +kernel) (by decide +kernel)
set_option maxRecDepth 20000 in
theorem gX4_isPair_X4_has : GoodIn wsX4_isPair (va_wsS RX4 89 yX4_has wsX4_has) := goodIn_app (goodIn_of _ (by decide +kernel)) ggX4_isPair_X4_has
theorem dX4_isPair_0 : decode cX4_isPair 0 = .ok (.iload_n 1, 1) := by decide +kernel
theorem dX4_isPair_1 : decode cX4_isPair 1 = .ok (.bipush 10, 2) := by decide +kernel
theorem dX4_isPair_3 : decode cX4_isPair 3 = .ok (.idiv, 1) := by decide +kernel
theorem dX4_isPair_4 : decode cX4_isPair 4 = .ok (.istore_n 2, 1) := by decide +kernel
theorem dX4_isPair_5 : decode cX4_isPair 5 = .ok (.iload_n 1, 1) := by decide +kernel
theorem dX4_isPair_6 : decode cX4_isPair 6 = .ok (.bipush 10, 2) := by decide +kernel
theorem dX4_isPair_8 : decode cX4_isPair 8 = .ok (.irem, 1) := by decide +kernel
theorem dX4_isPair_9 : decode cX4_isPair 9 = .ok (.istore_n 3, 1) := by decide +kernel
theorem dX4_isPair_10 : decode cX4_isPair 10 = .ok (.aload_n 0, 1) := by decide +kernel
theorem dX4_isPair_11 : decode cX4_isPair 11 = .ok (.iload_n 2, 1) := by decide +kernel
theorem dX4_isPair_12 : decode cX4_isPair 12 = .ok (.invokevirtual 134, 3) := by decide +kernel
theorem dX4_isPair_15 : decode cX4_isPair 15 = .ok (.ifCond .ne 36, 3) := by decide +kernel
theorem dX4_isPair_18 : decode cX4_isPair 18 = .ok (.aload_n 0, 1) := by decide +kernel
theorem dX4_isPair_19 : decode cX4_isPair 19 = .ok (.iload_n 3, 1) := by decide +kernel
theorem dX4_isPair_20 : decode cX4_isPair 20 = .ok (.invokevirtual 134, 3) := by decide +kernel
theorem dX4_isPair_23 : decode cX4_isPair 23 = .ok (.ifCond .ne 28, 3) := by decide +kernel
theorem dX4_isPair_26 : decode cX4_isPair 26 = .ok (.iload_n 2, 1) := by decide +kernel
theorem dX4_isPair_27 : decode cX4_isPair 27 = .ok (.iload_n 3, 1) := by decide +kernel
theorem dX4_isPair_28 : decode cX4_isPair 28 = .ok (.if_icmp .eq 23, 3) := by decide +kernel
theorem dX4_isPair_31 : decode cX4_isPair 31 = .ok (.aload_n 0, 1) := by decide +kernel
theorem dX4_isPair_32 : decode cX4_isPair 32 = .ok (.getfield 25, 3) := by decide +kernel
theorem dX4_isPair_35 : decode cX4_isPair 35 = .ok (.bipush 7, 2) := by decide +kernel
theorem dX4_isPair_37 : decode cX4_isPair 37 = .ok (.iload_n 2, 1) := by decide +kernel
theorem dX4_isPair_38 : decode cX4_isPair 38 = .ok (.iadd, 1) := by decide +kernel
theorem dX4_isPair_39 : decode cX4_isPair 39 = .ok (.iaload, 1) := by decide +kernel
theorem dX4_isPair_40 : decode cX4_isPair 40 = .ok (.iload_n 3, 1) := by decide +kernel
theorem dX4_isPair_41 : decode cX4_isPair 41 = .ok (.invokestatic 89, 3) := by decide +kernel
theorem dX4_isPair_44 : decode cX4_isPair 44 = .ok (.ifCond .ne 7, 3) := by decide +kernel
theorem dX4_isPair_47 : decode cX4_isPair 47 = .ok (.iconst 1, 1) := by decide +kernel
theorem dX4_isPair_48 : decode cX4_isPair 48 = .ok (.goto 4, 3) := by decide +kernel
theorem dX4_isPair_51 : decode cX4_isPair 51 = .ok (.iconst 0, 1) := by decide +kernel
theorem dX4_isPair_52 : decode cX4_isPair 52 = .ok (.ireturn, 1) := by decide +kernel
set_option maxRecDepth 20000 in
theorem ggX4_isSafe_X4_begin : GoodIn wsX4_isSafe wsX4_begin := goodIn_r _ [6, 1, 7, 38, 39, 40, 41, 42, 43, 44, 45, 46, 47, 48, 49, 50, 51, 52, 53, 54, 55, 56, 57, 58, 59, 60, 61, 62, 63, 64, 65, 66] (by decide +kernel) (by decide +kernel)
set_option maxRecDepth 20000 in
theorem gX4_isSafe_X4_begin : GoodIn wsX4_isSafe (wsV RX4 153 RX4 yX4_begin wsX4_begin) := goodIn_app (goodIn_of _ (by decide +kernel)) ggX4_isSafe_X4_begin
set_option maxRecDepth 20000 in
theorem ggX4_isSafe_X4_layFall : GoodIn wsX4_isSafe wsX4_layFall := goodIn_r _ [11, 12, 1, 13, 14, 15, 16, 5, 17, 18, 19, 20, 21, 22, 23, 24, 25, 26, 27, 28, 29, 30, 31, 32, 33, 38, 39, 40, 41, 42, 43, 44, 45, 46, 47, 48, 49, 50, 51, 52, 53, 54, 55, 56, 57, 58, 59, 60, 61, 62, 63, 64, 65, 66] (by decide +kernel) (by decide +kernel)
set_option maxRecDepth 20000 in
theorem gX4_isSafe_X4_layFall : GoodIn wsX4_isSafe (wsV RX4 156 RX4 yX4_layFall wsX4_layFall) := goodIn_app (goodIn_of _ (by decide +kernel)) ggX4_isSafe_X4_layFall
set_option maxRecDepth 20000 in
theorem ggX4_isSafe_X4_placeOf : GoodIn wsX4_isSafe wsX4_placeOf := goodIn_r _ [37, 12, 13, 38, 39, 40, 41, 42, 43, 44, 45, 46, 47, 48, 49, 50, 51, 52, 53, 54, 55, 56, 57, 58, 59, 60, 61, 62, 63, 64, 65, 66] (by decide +kernel) (by decide +kernel)
set_option maxRecDepth 20000 in
theorem gX4_isSafe_X4_placeOf : GoodIn wsX4_isSafe (wsV RX4 159 RX4 yX4_placeOf wsX4_placeOf) := goodIn_app (goodIn_of _ (by decide +kernel)) ggX4_isSafe_X4_placeOf
theorem dX4_isSafe_0 : decode cX4_isSafe 0 = .ok (.aload_n 0, 1) := by decide +kernel
theorem dX4_isSafe_1 : decode cX4_isSafe 1 = .ok (.invokevirtual 153, 3) := by decide +kernel
theorem dX4_isSafe_4 : decode cX4_isSafe 4 = .ok (.iload_n 2, 1) := by decide +kernel
theorem dX4_isSafe_5 : decode cX4_isSafe 5 = .ok (.bipush (-9), 2) := by decide +kernel
theorem dX4_isSafe_7 : decode cX4_isSafe 7 = .ok (.if_icmp .eq 24, 3) := by decide +kernel
theorem dX4_isSafe_10 : decode cX4_isSafe 10 = .ok (.aload_n 0, 1) := by decide +kernel
theorem dX4_isSafe_11 : decode cX4_isSafe 11 = .ok (.getfield 28, 3) := by decide +kernel
theorem dX4_isSafe_14 : decode cX4_isSafe 14 = .ok (.bipush 7, 2) := by decide +kernel
theorem dX4_isSafe_16 : decode cX4_isSafe 16 = .ok (.iload_n 2, 1) := by decide +kernel
theorem dX4_isSafe_17 : decode cX4_isSafe 17 = .ok (.bipush 10, 2) := by decide +kernel
theorem dX4_isSafe_19 : decode cX4_isSafe 19 = .ok (.idiv, 1) := by decide +kernel
theorem dX4_isSafe_20 : decode cX4_isSafe 20 = .ok (.iadd, 1) := by decide +kernel
theorem dX4_isSafe_21 : decode cX4_isSafe 21 = .ok (.dup2, 1) := by decide +kernel
theorem dX4_isSafe_22 : decode cX4_isSafe 22 = .ok (.iaload, 1) := by decide +kernel
theorem dX4_isSafe_23 : decode cX4_isSafe 23 = .ok (.iconst 1, 1) := by decide +kernel
theorem dX4_isSafe_24 : decode cX4_isSafe 24 = .ok (.iload_n 2, 1) := by decide +kernel
theorem dX4_isSafe_25 : decode cX4_isSafe 25 = .ok (.bipush 10, 2) := by decide +kernel
theorem dX4_isSafe_27 : decode cX4_isSafe 27 = .ok (.irem, 1) := by decide +kernel
theorem dX4_isSafe_28 : decode cX4_isSafe 28 = .ok (.ishl, 1) := by decide +kernel
theorem dX4_isSafe_29 : decode cX4_isSafe 29 = .ok (.ior, 1) := by decide +kernel
theorem dX4_isSafe_30 : decode cX4_isSafe 30 = .ok (.iastore, 1) := by decide +kernel
theorem dX4_isSafe_31 : decode cX4_isSafe 31 = .ok (.iload_n 3, 1) := by decide +kernel
theorem dX4_isSafe_32 : decode cX4_isSafe 32 = .ok (.bipush (-9), 2) := by decide +kernel
theorem dX4_isSafe_34 : decode cX4_isSafe 34 = .ok (.if_icmp .eq 24, 3) := by decide +kernel
theorem dX4_isSafe_37 : decode cX4_isSafe 37 = .ok (.aload_n 0, 1) := by decide +kernel
theorem dX4_isSafe_38 : decode cX4_isSafe 38 = .ok (.getfield 28, 3) := by decide +kernel
theorem dX4_isSafe_41 : decode cX4_isSafe 41 = .ok (.bipush 7, 2) := by decide +kernel
theorem dX4_isSafe_43 : decode cX4_isSafe 43 = .ok (.iload_n 3, 1) := by decide +kernel
theorem dX4_isSafe_44 : decode cX4_isSafe 44 = .ok (.bipush 10, 2) := by decide +kernel
theorem dX4_isSafe_46 : decode cX4_isSafe 46 = .ok (.idiv, 1) := by decide +kernel
theorem dX4_isSafe_47 : decode cX4_isSafe 47 = .ok (.iadd, 1) := by decide +kernel
theorem dX4_isSafe_48 : decode cX4_isSafe 48 = .ok (.dup2, 1) := by decide +kernel
theorem dX4_isSafe_49 : decode cX4_isSafe 49 = .ok (.iaload, 1) := by decide +kernel
theorem dX4_isSafe_50 : decode cX4_isSafe 50 = .ok (.iconst 1, 1) := by decide +kernel
theorem dX4_isSafe_51 : decode cX4_isSafe 51 = .ok (.iload_n 3, 1) := by decide +kernel
theorem dX4_isSafe_52 : decode cX4_isSafe 52 = .ok (.bipush 10, 2) := by decide +kernel
theorem dX4_isSafe_54 : decode cX4_isSafe 54 = .ok (.irem, 1) := by decide +kernel
theorem dX4_isSafe_55 : decode cX4_isSafe 55 = .ok (.ishl, 1) := by decide +kernel
theorem dX4_isSafe_56 : decode cX4_isSafe 56 = .ok (.ior, 1) := by decide +kernel
theorem dX4_isSafe_57 : decode cX4_isSafe 57 = .ok (.iastore, 1) := by decide +kernel
theorem dX4_isSafe_58 : decode cX4_isSafe 58 = .ok (.aload_n 0, 1) := by decide +kernel
theorem dX4_isSafe_59 : decode cX4_isSafe 59 = .ok (.invokevirtual 156, 3) := by decide +kernel
theorem dX4_isSafe_62 : decode cX4_isSafe 62 = .ok (.aload_n 0, 1) := by decide +kernel
theorem dX4_isSafe_63 : decode cX4_isSafe 63 = .ok (.iload_n 1, 1) := by decide +kernel
theorem dX4_isSafe_64 : decode cX4_isSafe 64 = .ok (.invokevirtual 159, 3) := by decide +kernel
theorem dX4_isSafe_67 : decode cX4_isSafe 67 = .ok (.bipush (-9), 2) := by decide +kernel
theorem dX4_isSafe_69 : decode cX4_isSafe 69 = .ok (.if_icmp .ne 7, 3) := by decide +kernel
theorem dX4_isSafe_72 : decode cX4_isSafe 72 = .ok (.iconst 1, 1) := by decide +kernel
theorem dX4_isSafe_73 : decode cX4_isSafe 73 = .ok (.goto 4, 3) := by decide +kernel
theorem dX4_isSafe_76 : decode cX4_isSafe 76 = .ok (.iconst 0, 1) := by decide +kernel
theorem dX4_isSafe_77 : decode cX4_isSafe 77 = .ok (.ireturn, 1) := by decide +kernel
set_option maxRecDepth 20000 in
theorem ggX4_findFeed_X4_isSafe : GoodIn wsX4_findFeed wsX4_isSafe := goodIn_r _ [7, 8, 9, 10, 11, 6, 12, 13, 14, 15, 16, 17, 18, 19, 20, 21, 22, 23, 24, 25, 26, 27, 28, 29, 30, 31, 32, 33, 34, 35, 36, 37, 38, 39, 40, 41, 42, 43, 55, 56, 57, 58, 59, 60, 61, 62, 63, 64, 65, 66, 67, 68, 69, 70, 71, 72, 73, 74, 75, 76, 77, 78, 79, 80, 81, 82, 83] (by decide +kernel) (by decide +kernel)
set_option maxRecDepth 20000 in
theorem gX4_findFeed_X4_isSafe : GoodIn wsX4_findFeed (wsV RX4 168 RX4 yX4_isSafe wsX4_isSafe) := goodIn_app (goodIn_of _ (by decide +kernel)) ggX4_findFeed_X4_isSafe
set_option maxRecDepth 20000 in
theorem ggX4_findFeed_X4_isPair : GoodIn wsX4_findFeed wsX4_isPair := goodIn_r _ [47, 13, 48, 49, 50, 6, 51, 24, 52, 53, 54, 25, 26, 27, 55, 56, 57, 58, 59, 60, 61, 62, 63, 64, 65, 66, 67, 68, 69, 70, 71, 72, 73, 74, 75, 76, 77, 78, 79, 80, 81, 82, 83] (by decide +kernel) (by decide +kernel)
set_option maxRecDepth 20000 in
theorem gX4_findFeed_X4_isPair : GoodIn wsX4_findFeed (wsV RX4 172 RX4 yX4_isPair wsX4_isPair) := goodIn_app (goodIn_of _ (by decide +kernel)) ggX4_findFeed_X4_isPair
theorem dX4_findFeed_0 : decode cX4_findFeed 0 = .ok (.aload_n 0, 1) := by decide +kernel
theorem dX4_findFeed_1 : decode cX4_findFeed 1 = .ok (.bipush (-9), 2) := by decide +kernel
theorem dX4_findFeed_3 : decode cX4_findFeed 3 = .ok (.putfield 162, 3) := by decide +kernel
theorem dX4_findFeed_6 : decode cX4_findFeed 6 = .ok (.aload_n 0, 1) := by decide +kernel
theorem dX4_findFeed_7 : decode cX4_findFeed 7 = .ok (.bipush (-9), 2) := by decide +kernel
theorem dX4_findFeed_9 : decode cX4_findFeed 9 = .ok (.putfield 165, 3) := by decide +kernel
theorem dX4_findFeed_12 : decode cX4_findFeed 12 = .ok (.aload_n 0, 1) := by decide +kernel
theorem dX4_findFeed_13 : decode cX4_findFeed 13 = .ok (.iload_n 1, 1) := by decide +kernel
theorem dX4_findFeed_14 : decode cX4_findFeed 14 = .ok (.bipush (-9), 2) := by decide +kernel
theorem dX4_findFeed_16 : decode cX4_findFeed 16 = .ok (.bipush (-9), 2) := by decide +kernel
theorem dX4_findFeed_18 : decode cX4_findFeed 18 = .ok (.invokevirtual 168, 3) := by decide +kernel
theorem dX4_findFeed_21 : decode cX4_findFeed 21 = .ok (.ifCond .eq 13, 3) := by decide +kernel
theorem dX4_findFeed_24 : decode cX4_findFeed 24 = .ok (.aload_n 0, 1) := by decide +kernel
theorem dX4_findFeed_25 : decode cX4_findFeed 25 = .ok (.iconst 0, 1) := by decide +kernel
theorem dX4_findFeed_26 : decode cX4_findFeed 26 = .ok (.putfield 162, 3) := by decide +kernel
theorem dX4_findFeed_29 : decode cX4_findFeed 29 = .ok (.aload_n 0, 1) := by decide +kernel
theorem dX4_findFeed_30 : decode cX4_findFeed 30 = .ok (.iconst 0, 1) := by decide +kernel
theorem dX4_findFeed_31 : decode cX4_findFeed 31 = .ok (.putfield 165, 3) := by decide +kernel
theorem dX4_findFeed_34 : decode cX4_findFeed 34 = .ok (.iconst 0, 1) := by decide +kernel
theorem dX4_findFeed_35 : decode cX4_findFeed 35 = .ok (.istore_n 2, 1) := by decide +kernel
theorem dX4_findFeed_36 : decode cX4_findFeed 36 = .ok (.iload_n 2, 1) := by decide +kernel
theorem dX4_findFeed_37 : decode cX4_findFeed 37 = .ok (.bipush 67, 2) := by decide +kernel
theorem dX4_findFeed_39 : decode cX4_findFeed 39 = .ok (.if_icmp .ge 47, 3) := by decide +kernel
theorem dX4_findFeed_42 : decode cX4_findFeed 42 = .ok (.aload_n 0, 1) := by decide +kernel
theorem dX4_findFeed_43 : decode cX4_findFeed 43 = .ok (.getfield 162, 3) := by decide +kernel
theorem dX4_findFeed_46 : decode cX4_findFeed 46 = .ok (.bipush (-9), 2) := by decide +kernel
theorem dX4_findFeed_48 : decode cX4_findFeed 48 = .ok (.if_icmp .ne 38, 3) := by decide +kernel
theorem dX4_findFeed_51 : decode cX4_findFeed 51 = .ok (.aload_n 0, 1) := by decide +kernel
theorem dX4_findFeed_52 : decode cX4_findFeed 52 = .ok (.iload_n 2, 1) := by decide +kernel
theorem dX4_findFeed_53 : decode cX4_findFeed 53 = .ok (.invokevirtual 172, 3) := by decide +kernel
theorem dX4_findFeed_56 : decode cX4_findFeed 56 = .ok (.ifCond .eq 24, 3) := by decide +kernel
theorem dX4_findFeed_59 : decode cX4_findFeed 59 = .ok (.aload_n 0, 1) := by decide +kernel
theorem dX4_findFeed_60 : decode cX4_findFeed 60 = .ok (.iload_n 1, 1) := by decide +kernel
theorem dX4_findFeed_61 : decode cX4_findFeed 61 = .ok (.iload_n 2, 1) := by decide +kernel
theorem dX4_findFeed_62 : decode cX4_findFeed 62 = .ok (.bipush (-9), 2) := by decide +kernel
theorem dX4_findFeed_64 : decode cX4_findFeed 64 = .ok (.invokevirtual 168, 3) := by decide +kernel
theorem dX4_findFeed_67 : decode cX4_findFeed 67 = .ok (.ifCond .eq 13, 3) := by decide +kernel
theorem dX4_findFeed_70 : decode cX4_findFeed 70 = .ok (.aload_n 0, 1) := by decide +kernel
theorem dX4_findFeed_71 : decode cX4_findFeed 71 = .ok (.iconst 1, 1) := by decide +kernel
theorem dX4_findFeed_72 : decode cX4_findFeed 72 = .ok (.putfield 162, 3) := by decide +kernel
theorem dX4_findFeed_75 : decode cX4_findFeed 75 = .ok (.aload_n 0, 1) := by decide +kernel
theorem dX4_findFeed_76 : decode cX4_findFeed 76 = .ok (.iload_n 2, 1) := by decide +kernel
theorem dX4_findFeed_77 : decode cX4_findFeed 77 = .ok (.putfield 165, 3) := by decide +kernel
theorem dX4_findFeed_80 : decode cX4_findFeed 80 = .ok (.iinc 2 1, 3) := by decide +kernel
theorem dX4_findFeed_83 : decode cX4_findFeed 83 = .ok (.goto (-47), 3) := by decide +kernel
theorem dX4_findFeed_86 : decode cX4_findFeed 86 = .ok (.iconst 0, 1) := by decide +kernel
theorem dX4_findFeed_87 : decode cX4_findFeed 87 = .ok (.istore_n 2, 1) := by decide +kernel
theorem dX4_findFeed_88 : decode cX4_findFeed 88 = .ok (.iload_n 2, 1) := by decide +kernel
theorem dX4_findFeed_89 : decode cX4_findFeed 89 = .ok (.sipush 6700, 3) := by decide +kernel
theorem dX4_findFeed_92 : decode cX4_findFeed 92 = .ok (.if_icmp .ge 73, 3) := by decide +kernel
theorem dX4_findFeed_95 : decode cX4_findFeed 95 = .ok (.aload_n 0, 1) := by decide +kernel
theorem dX4_findFeed_96 : decode cX4_findFeed 96 = .ok (.getfield 162, 3) := by decide +kernel
theorem dX4_findFeed_99 : decode cX4_findFeed 99 = .ok (.bipush (-9), 2) := by decide +kernel
theorem dX4_findFeed_101 : decode cX4_findFeed 101 = .ok (.if_icmp .ne 64, 3) := by decide +kernel
theorem dX4_findFeed_104 : decode cX4_findFeed 104 = .ok (.iload_n 2, 1) := by decide +kernel
theorem dX4_findFeed_105 : decode cX4_findFeed 105 = .ok (.bipush 100, 2) := by decide +kernel
theorem dX4_findFeed_107 : decode cX4_findFeed 107 = .ok (.idiv, 1) := by decide +kernel
theorem dX4_findFeed_108 : decode cX4_findFeed 108 = .ok (.istore_n 3, 1) := by decide +kernel
theorem dX4_findFeed_109 : decode cX4_findFeed 109 = .ok (.iload_n 2, 1) := by decide +kernel
theorem dX4_findFeed_110 : decode cX4_findFeed 110 = .ok (.bipush 100, 2) := by decide +kernel
theorem dX4_findFeed_112 : decode cX4_findFeed 112 = .ok (.irem, 1) := by decide +kernel
theorem dX4_findFeed_113 : decode cX4_findFeed 113 = .ok (.istore 4, 2) := by decide +kernel
theorem dX4_findFeed_115 : decode cX4_findFeed 115 = .ok (.iload_n 3, 1) := by decide +kernel
theorem dX4_findFeed_116 : decode cX4_findFeed 116 = .ok (.iload 4, 2) := by decide +kernel
theorem dX4_findFeed_118 : decode cX4_findFeed 118 = .ok (.if_icmp .eq 41, 3) := by decide +kernel
theorem dX4_findFeed_121 : decode cX4_findFeed 121 = .ok (.aload_n 0, 1) := by decide +kernel
theorem dX4_findFeed_122 : decode cX4_findFeed 122 = .ok (.iload_n 3, 1) := by decide +kernel
theorem dX4_findFeed_123 : decode cX4_findFeed 123 = .ok (.invokevirtual 172, 3) := by decide +kernel
theorem dX4_findFeed_126 : decode cX4_findFeed 126 = .ok (.ifCond .eq 33, 3) := by decide +kernel
theorem dX4_findFeed_129 : decode cX4_findFeed 129 = .ok (.aload_n 0, 1) := by decide +kernel
theorem dX4_findFeed_130 : decode cX4_findFeed 130 = .ok (.iload 4, 2) := by decide +kernel
theorem dX4_findFeed_132 : decode cX4_findFeed 132 = .ok (.invokevirtual 172, 3) := by decide +kernel
theorem dX4_findFeed_135 : decode cX4_findFeed 135 = .ok (.ifCond .eq 24, 3) := by decide +kernel
theorem dX4_findFeed_138 : decode cX4_findFeed 138 = .ok (.aload_n 0, 1) := by decide +kernel
theorem dX4_findFeed_139 : decode cX4_findFeed 139 = .ok (.iload_n 1, 1) := by decide +kernel
theorem dX4_findFeed_140 : decode cX4_findFeed 140 = .ok (.iload_n 3, 1) := by decide +kernel
theorem dX4_findFeed_141 : decode cX4_findFeed 141 = .ok (.iload 4, 2) := by decide +kernel
theorem dX4_findFeed_143 : decode cX4_findFeed 143 = .ok (.invokevirtual 168, 3) := by decide +kernel
theorem dX4_findFeed_146 : decode cX4_findFeed 146 = .ok (.ifCond .eq 13, 3) := by decide +kernel
theorem dX4_findFeed_149 : decode cX4_findFeed 149 = .ok (.aload_n 0, 1) := by decide +kernel
theorem dX4_findFeed_150 : decode cX4_findFeed 150 = .ok (.iconst 2, 1) := by decide +kernel
theorem dX4_findFeed_151 : decode cX4_findFeed 151 = .ok (.putfield 162, 3) := by decide +kernel
theorem dX4_findFeed_154 : decode cX4_findFeed 154 = .ok (.aload_n 0, 1) := by decide +kernel
theorem dX4_findFeed_155 : decode cX4_findFeed 155 = .ok (.iload_n 2, 1) := by decide +kernel
theorem dX4_findFeed_156 : decode cX4_findFeed 156 = .ok (.putfield 165, 3) := by decide +kernel
theorem dX4_findFeed_159 : decode cX4_findFeed 159 = .ok (.iinc 2 1, 3) := by decide +kernel
theorem dX4_findFeed_162 : decode cX4_findFeed 162 = .ok (.goto (-74), 3) := by decide +kernel
theorem dX4_findFeed_165 : decode cX4_findFeed 165 = .ok (.return_, 1) := by decide +kernel
set_option maxRecDepth 20000 in
theorem ggX4_toFeed_X4_noPerson : GoodIn wsX4_toFeed wsX4_noPerson := goodIn_r _ [8, 9, 10, 11, 7, 12, 60, 61, 62, 63, 64, 65, 66, 67, 68, 69, 70, 71, 72, 73, 74, 75, 76, 77, 78, 79, 80, 81, 82, 83, 84, 85, 86, 87, 88] (by decide +kernel) (by decide +kernel)
set_option maxRecDepth 20000 in
theorem gX4_toFeed_X4_noPerson : GoodIn wsX4_toFeed (wsV RX4 134 RX4 yX4_noPerson wsX4_noPerson) := goodIn_app (goodIn_of _ (by decide +kernel)) ggX4_toFeed_X4_noPerson
set_option maxRecDepth 20000 in
theorem ggX4_toFeed_X4_in : GoodIn wsX4_toFeed wsX4_in := goodIn_r _ [12] (by decide +kernel) (by decide +kernel)
set_option maxRecDepth 20000 in
theorem gX4_toFeed_X4_in : GoodIn wsX4_toFeed (va_wsS RX4 67 yX4_in wsX4_in) := goodIn_app (goodIn_of _ (by decide +kernel)) ggX4_toFeed_X4_in
set_option maxRecDepth 20000 in
theorem ggX4_toFeed_X4_findFeed : GoodIn wsX4_toFeed wsX4_findFeed := goodIn_r _ [16, 2, 3, 17, 18, 19, 7, 20, 21, 22, 23, 24, 25, 26, 27, 28, 29, 30, 31, 32, 33, 34, 35, 36, 9, 37, 38, 39, 40, 41, 42, 43, 44, 45, 46, 47, 48, 49, 50, 51, 52, 53, 54, 55, 56, 57, 58, 59, 4, 5, 6, 8, 10, 11, 12, 60, 61, 62, 63, 64, 65, 66, 67, 68, 69, 70, 71, 72, 73, 74, 75, 76, 77, 78, 79, 80, 81, 82, 83, 84, 85, 86, 87, 88] (by decide +kernel) (by decide +kernel)
set_option maxRecDepth 20000 in
theorem gX4_toFeed_X4_findFeed : GoodIn wsX4_toFeed (wsV RX4 175 RX4 yX4_findFeed wsX4_findFeed) := goodIn_app (goodIn_of _ (by decide +kernel)) ggX4_toFeed_X4_findFeed
theorem dX4_toFeed_0 : decode cX4_toFeed 0 = .ok (.aload_n 0, 1) := by decide +kernel
theorem dX4_toFeed_1 : decode cX4_toFeed 1 = .ok (.iconst 0, 1) := by decide +kernel
theorem dX4_toFeed_2 : decode cX4_toFeed 2 = .ok (.putfield 60, 3) := by decide +kernel
theorem dX4_toFeed_5 : decode cX4_toFeed 5 = .ok (.aload_n 0, 1) := by decide +kernel
theorem dX4_toFeed_6 : decode cX4_toFeed 6 = .ok (.iload_n 1, 1) := by decide +kernel
theorem dX4_toFeed_7 : decode cX4_toFeed 7 = .ok (.invokevirtual 134, 3) := by decide +kernel
theorem dX4_toFeed_10 : decode cX4_toFeed 10 = .ok (.ifCond .eq 5, 3) := by decide +kernel
theorem dX4_toFeed_13 : decode cX4_toFeed 13 = .ok (.iconst (-1), 1) := by decide +kernel
theorem dX4_toFeed_14 : decode cX4_toFeed 14 = .ok (.ireturn, 1) := by decide +kernel
theorem dX4_toFeed_15 : decode cX4_toFeed 15 = .ok (.iload_n 2, 1) := by decide +kernel
theorem dX4_toFeed_16 : decode cX4_toFeed 16 = .ok (.i2l, 1) := by decide +kernel
theorem dX4_toFeed_17 : decode cX4_toFeed 17 = .ok (.lconst 0, 1) := by decide +kernel
theorem dX4_toFeed_18 : decode cX4_toFeed 18 = .ok (.lconst 1, 1) := by decide +kernel
theorem dX4_toFeed_19 : decode cX4_toFeed 19 = .ok (.invokestatic 67, 3) := by decide +kernel
theorem dX4_toFeed_22 : decode cX4_toFeed 22 = .ok (.ifCond .ne 6, 3) := by decide +kernel
theorem dX4_toFeed_25 : decode cX4_toFeed 25 = .ok (.bipush (-2), 2) := by decide +kernel
theorem dX4_toFeed_27 : decode cX4_toFeed 27 = .ok (.ireturn, 1) := by decide +kernel
theorem dX4_toFeed_28 : decode cX4_toFeed 28 = .ok (.aload_n 0, 1) := by decide +kernel
theorem dX4_toFeed_29 : decode cX4_toFeed 29 = .ok (.iload_n 1, 1) := by decide +kernel
theorem dX4_toFeed_30 : decode cX4_toFeed 30 = .ok (.invokevirtual 175, 3) := by decide +kernel
theorem dX4_toFeed_33 : decode cX4_toFeed 33 = .ok (.iload_n 2, 1) := by decide +kernel
theorem dX4_toFeed_34 : decode cX4_toFeed 34 = .ok (.ifCond .ne 10, 3) := by decide +kernel
theorem dX4_toFeed_37 : decode cX4_toFeed 37 = .ok (.aload_n 0, 1) := by decide +kernel
theorem dX4_toFeed_38 : decode cX4_toFeed 38 = .ok (.getfield 162, 3) := by decide +kernel
theorem dX4_toFeed_41 : decode cX4_toFeed 41 = .ok (.goto 7, 3) := by decide +kernel
theorem dX4_toFeed_44 : decode cX4_toFeed 44 = .ok (.aload_n 0, 1) := by decide +kernel
theorem dX4_toFeed_45 : decode cX4_toFeed 45 = .ok (.getfield 165, 3) := by decide +kernel
theorem dX4_toFeed_48 : decode cX4_toFeed 48 = .ok (.ireturn, 1) := by decide +kernel
set_option maxRecDepth 20000 in
theorem ggX4_giveUp_X4_noPerson : GoodIn wsX4_giveUp wsX4_noPerson := goodIn_r _ [8, 9, 10, 11, 7, 12, 49, 50, 51, 52, 53, 54, 55, 56, 57, 58, 59, 60, 61, 62, 63, 64, 65, 66, 67, 68, 69, 70, 71, 72, 73, 74, 75, 76, 77] (by decide +kernel) (by decide +kernel)
set_option maxRecDepth 20000 in
theorem gX4_giveUp_X4_noPerson : GoodIn wsX4_giveUp (wsV RX4 134 RX4 yX4_noPerson wsX4_noPerson) := goodIn_app (goodIn_of _ (by decide +kernel)) ggX4_giveUp_X4_noPerson
set_option maxRecDepth 20000 in
theorem ggX4_giveUp_X4_has : GoodIn wsX4_giveUp wsX4_has := goodIn_r _ [15] (by decide +kernel) (by decide +kernel)
set_option maxRecDepth 20000 in
theorem gX4_giveUp_X4_has : GoodIn wsX4_giveUp (va_wsS RX4 89 yX4_has wsX4_has) := goodIn_app (goodIn_of _ (by decide +kernel)) ggX4_giveUp_X4_has
set_option maxRecDepth 20000 in
theorem ggX4_giveUp_X4_many : GoodIn wsX4_giveUp wsX4_many := goodIn_r _ [18] (by decide +kernel) (by decide +kernel)
set_option maxRecDepth 20000 in
theorem gX4_giveUp_X4_many : GoodIn wsX4_giveUp (va_wsS RX4 141 yX4_many wsX4_many) := goodIn_app (goodIn_of _ (by decide +kernel)) ggX4_giveUp_X4_many
set_option maxRecDepth 20000 in
theorem ggX4_giveUp_X4_begin : GoodIn wsX4_giveUp wsX4_begin := goodIn_r _ [22, 3, 2, 49, 50, 51, 52, 53, 54, 55, 56, 57, 58, 59, 60, 61, 62, 63, 64, 65, 66, 67, 68, 69, 70, 71, 72, 73, 74, 75, 76, 77] (by decide +kernel) (by decide +kernel)
set_option maxRecDepth 20000 in
theorem gX4_giveUp_X4_begin : GoodIn wsX4_giveUp (wsV RX4 153 RX4 yX4_begin wsX4_begin) := goodIn_app (goodIn_of _ (by decide +kernel)) ggX4_giveUp_X4_begin
set_option maxRecDepth 20000 in
theorem ggX4_giveUp_X4_layFall : GoodIn wsX4_giveUp wsX4_layFall := goodIn_r _ [26, 27, 3, 28, 29, 30, 31, 7, 32, 9, 13, 14, 15, 33, 34, 35, 36, 37, 38, 39, 40, 41, 42, 43, 44, 49, 50, 51, 52, 53, 54, 55, 56, 57, 58, 59, 60, 61, 62, 63, 64, 65, 66, 67, 68, 69, 70, 71, 72, 73, 74, 75, 76, 77] (by decide +kernel) (by decide +kernel)
set_option maxRecDepth 20000 in
theorem gX4_giveUp_X4_layFall : GoodIn wsX4_giveUp (wsV RX4 156 RX4 yX4_layFall wsX4_layFall) := goodIn_app (goodIn_of _ (by decide +kernel)) ggX4_giveUp_X4_layFall
set_option maxRecDepth 20000 in
theorem ggX4_giveUp_X4_placeOf : GoodIn wsX4_giveUp wsX4_placeOf := goodIn_r _ [48, 27, 28, 49, 50, 51, 52, 53, 54, 55, 56, 57, 58, 59, 60, 61, 62, 63, 64, 65, 66, 67, 68, 69, 70, 71, 72, 73, 74, 75, 76, 77] (by decide +kernel) (by decide +kernel)
set_option maxRecDepth 20000 in
theorem gX4_giveUp_X4_placeOf : GoodIn wsX4_giveUp (wsV RX4 159 RX4 yX4_placeOf wsX4_placeOf) := goodIn_app (goodIn_of _ (by decide +kernel)) ggX4_giveUp_X4_placeOf
theorem dX4_giveUp_0 : decode cX4_giveUp 0 = .ok (.aload_n 0, 1) := by decide +kernel
theorem dX4_giveUp_1 : decode cX4_giveUp 1 = .ok (.iconst 0, 1) := by decide +kernel
theorem dX4_giveUp_2 : decode cX4_giveUp 2 = .ok (.putfield 60, 3) := by decide +kernel
theorem dX4_giveUp_5 : decode cX4_giveUp 5 = .ok (.aload_n 0, 1) := by decide +kernel
theorem dX4_giveUp_6 : decode cX4_giveUp 6 = .ok (.iload_n 1, 1) := by decide +kernel
theorem dX4_giveUp_7 : decode cX4_giveUp 7 = .ok (.invokevirtual 134, 3) := by decide +kernel
theorem dX4_giveUp_10 : decode cX4_giveUp 10 = .ok (.ifCond .eq 5, 3) := by decide +kernel
theorem dX4_giveUp_13 : decode cX4_giveUp 13 = .ok (.iconst (-1), 1) := by decide +kernel
theorem dX4_giveUp_14 : decode cX4_giveUp 14 = .ok (.ireturn, 1) := by decide +kernel
theorem dX4_giveUp_15 : decode cX4_giveUp 15 = .ok (.aload_n 0, 1) := by decide +kernel
theorem dX4_giveUp_16 : decode cX4_giveUp 16 = .ok (.getfield 25, 3) := by decide +kernel
theorem dX4_giveUp_19 : decode cX4_giveUp 19 = .ok (.bipush 14, 2) := by decide +kernel
theorem dX4_giveUp_21 : decode cX4_giveUp 21 = .ok (.iaload, 1) := by decide +kernel
theorem dX4_giveUp_22 : decode cX4_giveUp 22 = .ok (.iload_n 1, 1) := by decide +kernel
theorem dX4_giveUp_23 : decode cX4_giveUp 23 = .ok (.invokestatic 89, 3) := by decide +kernel
theorem dX4_giveUp_26 : decode cX4_giveUp 26 = .ok (.ifCond .ne 6, 3) := by decide +kernel
theorem dX4_giveUp_29 : decode cX4_giveUp 29 = .ok (.bipush (-3), 2) := by decide +kernel
theorem dX4_giveUp_31 : decode cX4_giveUp 31 = .ok (.ireturn, 1) := by decide +kernel
theorem dX4_giveUp_32 : decode cX4_giveUp 32 = .ok (.aload_n 0, 1) := by decide +kernel
theorem dX4_giveUp_33 : decode cX4_giveUp 33 = .ok (.getfield 25, 3) := by decide +kernel
theorem dX4_giveUp_36 : decode cX4_giveUp 36 = .ok (.bipush 14, 2) := by decide +kernel
theorem dX4_giveUp_38 : decode cX4_giveUp 38 = .ok (.iaload, 1) := by decide +kernel
theorem dX4_giveUp_39 : decode cX4_giveUp 39 = .ok (.iconst 1, 1) := by decide +kernel
theorem dX4_giveUp_40 : decode cX4_giveUp 40 = .ok (.iload_n 1, 1) := by decide +kernel
theorem dX4_giveUp_41 : decode cX4_giveUp 41 = .ok (.ishl, 1) := by decide +kernel
theorem dX4_giveUp_42 : decode cX4_giveUp 42 = .ok (.iconst (-1), 1) := by decide +kernel
theorem dX4_giveUp_43 : decode cX4_giveUp 43 = .ok (.ixor, 1) := by decide +kernel
theorem dX4_giveUp_44 : decode cX4_giveUp 44 = .ok (.iand, 1) := by decide +kernel
theorem dX4_giveUp_45 : decode cX4_giveUp 45 = .ok (.istore_n 2, 1) := by decide +kernel
theorem dX4_giveUp_46 : decode cX4_giveUp 46 = .ok (.bipush (-9), 2) := by decide +kernel
theorem dX4_giveUp_48 : decode cX4_giveUp 48 = .ok (.istore_n 3, 1) := by decide +kernel
theorem dX4_giveUp_49 : decode cX4_giveUp 49 = .ok (.iconst 0, 1) := by decide +kernel
theorem dX4_giveUp_50 : decode cX4_giveUp 50 = .ok (.istore 4, 2) := by decide +kernel
theorem dX4_giveUp_52 : decode cX4_giveUp 52 = .ok (.iload 4, 2) := by decide +kernel
theorem dX4_giveUp_54 : decode cX4_giveUp 54 = .ok (.iload_n 2, 1) := by decide +kernel
theorem dX4_giveUp_55 : decode cX4_giveUp 55 = .ok (.if_icmp .gt 75, 3) := by decide +kernel
theorem dX4_giveUp_58 : decode cX4_giveUp 58 = .ok (.iload 4, 2) := by decide +kernel
theorem dX4_giveUp_60 : decode cX4_giveUp 60 = .ok (.iload_n 2, 1) := by decide +kernel
theorem dX4_giveUp_61 : decode cX4_giveUp 61 = .ok (.iconst (-1), 1) := by decide +kernel
theorem dX4_giveUp_62 : decode cX4_giveUp 62 = .ok (.ixor, 1) := by decide +kernel
theorem dX4_giveUp_63 : decode cX4_giveUp 63 = .ok (.iand, 1) := by decide +kernel
theorem dX4_giveUp_64 : decode cX4_giveUp 64 = .ok (.ifCond .ne 60, 3) := by decide +kernel
theorem dX4_giveUp_67 : decode cX4_giveUp 67 = .ok (.iload_n 3, 1) := by decide +kernel
theorem dX4_giveUp_68 : decode cX4_giveUp 68 = .ok (.bipush (-9), 2) := by decide +kernel
theorem dX4_giveUp_70 : decode cX4_giveUp 70 = .ok (.if_icmp .eq 15, 3) := by decide +kernel
theorem dX4_giveUp_73 : decode cX4_giveUp 73 = .ok (.iload 4, 2) := by decide +kernel
theorem dX4_giveUp_75 : decode cX4_giveUp 75 = .ok (.invokestatic 141, 3) := by decide +kernel
theorem dX4_giveUp_78 : decode cX4_giveUp 78 = .ok (.iload_n 3, 1) := by decide +kernel
theorem dX4_giveUp_79 : decode cX4_giveUp 79 = .ok (.invokestatic 141, 3) := by decide +kernel
theorem dX4_giveUp_82 : decode cX4_giveUp 82 = .ok (.if_icmp .ge 42, 3) := by decide +kernel
theorem dX4_giveUp_85 : decode cX4_giveUp 85 = .ok (.aload_n 0, 1) := by decide +kernel
theorem dX4_giveUp_86 : decode cX4_giveUp 86 = .ok (.invokevirtual 153, 3) := by decide +kernel
theorem dX4_giveUp_89 : decode cX4_giveUp 89 = .ok (.aload_n 0, 1) := by decide +kernel
theorem dX4_giveUp_90 : decode cX4_giveUp 90 = .ok (.getfield 28, 3) := by decide +kernel
theorem dX4_giveUp_93 : decode cX4_giveUp 93 = .ok (.bipush 14, 2) := by decide +kernel
theorem dX4_giveUp_95 : decode cX4_giveUp 95 = .ok (.dup2, 1) := by decide +kernel
theorem dX4_giveUp_96 : decode cX4_giveUp 96 = .ok (.iaload, 1) := by decide +kernel
theorem dX4_giveUp_97 : decode cX4_giveUp 97 = .ok (.iload 4, 2) := by decide +kernel
theorem dX4_giveUp_99 : decode cX4_giveUp 99 = .ok (.iconst (-1), 1) := by decide +kernel
theorem dX4_giveUp_100 : decode cX4_giveUp 100 = .ok (.ixor, 1) := by decide +kernel
theorem dX4_giveUp_101 : decode cX4_giveUp 101 = .ok (.iand, 1) := by decide +kernel
theorem dX4_giveUp_102 : decode cX4_giveUp 102 = .ok (.iastore, 1) := by decide +kernel
theorem dX4_giveUp_103 : decode cX4_giveUp 103 = .ok (.aload_n 0, 1) := by decide +kernel
theorem dX4_giveUp_104 : decode cX4_giveUp 104 = .ok (.invokevirtual 156, 3) := by decide +kernel
theorem dX4_giveUp_107 : decode cX4_giveUp 107 = .ok (.aload_n 0, 1) := by decide +kernel
theorem dX4_giveUp_108 : decode cX4_giveUp 108 = .ok (.iload_n 1, 1) := by decide +kernel
theorem dX4_giveUp_109 : decode cX4_giveUp 109 = .ok (.invokevirtual 159, 3) := by decide +kernel
theorem dX4_giveUp_112 : decode cX4_giveUp 112 = .ok (.bipush (-9), 2) := by decide +kernel
theorem dX4_giveUp_114 : decode cX4_giveUp 114 = .ok (.if_icmp .ne 7, 3) := by decide +kernel
theorem dX4_giveUp_117 : decode cX4_giveUp 117 = .ok (.iload_n 3, 1) := by decide +kernel
theorem dX4_giveUp_118 : decode cX4_giveUp 118 = .ok (.goto 5, 3) := by decide +kernel
theorem dX4_giveUp_121 : decode cX4_giveUp 121 = .ok (.iload 4, 2) := by decide +kernel
theorem dX4_giveUp_123 : decode cX4_giveUp 123 = .ok (.istore_n 3, 1) := by decide +kernel
theorem dX4_giveUp_124 : decode cX4_giveUp 124 = .ok (.iinc 4 1, 3) := by decide +kernel
theorem dX4_giveUp_127 : decode cX4_giveUp 127 = .ok (.goto (-75), 3) := by decide +kernel
theorem dX4_giveUp_130 : decode cX4_giveUp 130 = .ok (.iload_n 3, 1) := by decide +kernel
theorem dX4_giveUp_131 : decode cX4_giveUp 131 = .ok (.ireturn, 1) := by decide +kernel
set_option maxRecDepth 20000 in
theorem ggX4_lateness_X4_layFall : GoodIn wsX4_lateness wsX4_layFall := goodIn_r _ [5, 6, 7, 8, 9, 10, 11, 4, 12, 13, 14, 15, 16, 17, 18, 19, 20, 21, 22, 23, 24, 25, 26, 27, 28, 33, 34, 35, 36, 37, 38, 39, 40, 41, 42, 43, 44, 45, 46, 47, 48, 49, 50, 51, 52, 53, 54, 55, 56, 57, 58, 59, 60, 61] (by decide +kernel) (by decide +kernel)
set_option maxRecDepth 20000 in
theorem gX4_lateness_X4_layFall : GoodIn wsX4_lateness (wsV RX4 156 RX4 yX4_layFall wsX4_layFall) := goodIn_app (goodIn_of _ (by decide +kernel)) ggX4_lateness_X4_layFall
set_option maxRecDepth 20000 in
theorem ggX4_lateness_X4_placeOf : GoodIn wsX4_lateness wsX4_placeOf := goodIn_r _ [32, 6, 8, 33, 34, 35, 36, 37, 38, 39, 40, 41, 42, 43, 44, 45, 46, 47, 48, 49, 50, 51, 52, 53, 54, 55, 56, 57, 58, 59, 60, 61] (by decide +kernel) (by decide +kernel)
set_option maxRecDepth 20000 in
theorem gX4_lateness_X4_placeOf : GoodIn wsX4_lateness (wsV RX4 159 RX4 yX4_placeOf wsX4_placeOf) := goodIn_app (goodIn_of _ (by decide +kernel)) ggX4_lateness_X4_placeOf
theorem dX4_lateness_0 : decode cX4_lateness 0 = .ok (.aload_n 0, 1) := by decide +kernel
theorem dX4_lateness_1 : decode cX4_lateness 1 = .ok (.invokevirtual 156, 3) := by decide +kernel
theorem dX4_lateness_4 : decode cX4_lateness 4 = .ok (.aload_n 0, 1) := by decide +kernel
end
section
theorem dX4_lateness_5 : decode cX4_lateness 5 = .ok (.iload_n 1, 1) := by decide +kernel
theorem dX4_lateness_6 : decode cX4_lateness 6 = .ok (.invokevirtual 159, 3) := by decide +kernel
theorem dX4_lateness_9 : decode cX4_lateness 9 = .ok (.bipush (-9), 2) := by decide +kernel
theorem dX4_lateness_11 : decode cX4_lateness 11 = .ok (.if_icmp .ne 8, 3) := by decide +kernel
theorem dX4_lateness_14 : decode cX4_lateness 14 = .ok (.bipush 9, 2) := by decide +kernel
theorem dX4_lateness_16 : decode cX4_lateness 16 = .ok (.goto 8, 3) := by decide +kernel
theorem dX4_lateness_19 : decode cX4_lateness 19 = .ok (.aload_n 0, 1) := by decide +kernel
theorem dX4_lateness_20 : decode cX4_lateness 20 = .ok (.iload_n 1, 1) := by decide +kernel
theorem dX4_lateness_21 : decode cX4_lateness 21 = .ok (.invokevirtual 159, 3) := by decide +kernel
theorem dX4_lateness_24 : decode cX4_lateness 24 = .ok (.ireturn, 1) := by decide +kernel
set_option maxRecDepth 20000 in
theorem ggX4_claim_X4_noPerson : GoodIn wsX4_claim wsX4_noPerson := goodIn_r _ [8, 9, 10, 11, 7, 12, 50, 51, 52, 53, 54, 55, 56, 57, 58, 59, 60, 61, 62, 63, 64, 65, 66, 67, 68, 69, 70, 71, 72, 73, 74, 75, 76, 77, 78] (by decide +kernel) (by decide +kernel)
set_option maxRecDepth 20000 in
theorem gX4_claim_X4_noPerson : GoodIn wsX4_claim (wsV RX4 134 RX4 yX4_noPerson wsX4_noPerson) := goodIn_app (goodIn_of _ (by decide +kernel)) ggX4_claim_X4_noPerson
set_option maxRecDepth 20000 in
theorem ggX4_claim_X4_has : GoodIn wsX4_claim wsX4_has := goodIn_r _ [15] (by decide +kernel) (by decide +kernel)
set_option maxRecDepth 20000 in
theorem gX4_claim_X4_has : GoodIn wsX4_claim (va_wsS RX4 89 yX4_has wsX4_has) := goodIn_app (goodIn_of _ (by decide +kernel)) ggX4_claim_X4_has
set_option maxRecDepth 20000 in
theorem ggX4_claim_X4_begin : GoodIn wsX4_claim wsX4_begin := goodIn_r _ [19, 3, 2, 50, 51, 52, 53, 54, 55, 56, 57, 58, 59, 60, 61, 62, 63, 64, 65, 66, 67, 68, 69, 70, 71, 72, 73, 74, 75, 76, 77, 78] (by decide +kernel) (by decide +kernel)
set_option maxRecDepth 20000 in
theorem gX4_claim_X4_begin : GoodIn wsX4_claim (wsV RX4 153 RX4 yX4_begin wsX4_begin) := goodIn_app (goodIn_of _ (by decide +kernel)) ggX4_claim_X4_begin
set_option maxRecDepth 20000 in
theorem ggX4_claim_X4_lateness : GoodIn wsX4_claim wsX4_lateness := goodIn_r _ [23, 24, 25, 26, 7, 27, 28, 3, 29, 30, 31, 32, 33, 9, 13, 14, 15, 34, 35, 36, 37, 38, 39, 40, 41, 42, 43, 44, 45, 46, 47, 48, 49, 50, 51, 52, 53, 54, 55, 56, 57, 58, 59, 60, 61, 62, 63, 64, 65, 66, 67, 68, 69, 70, 71, 72, 73, 74, 75, 76, 77, 78] (by decide +kernel) (by decide +kernel)
set_option maxRecDepth 20000 in
theorem gX4_claim_X4_lateness : GoodIn wsX4_claim (wsV RX4 179 RX4 yX4_lateness wsX4_lateness) := goodIn_app (goodIn_of _ (by decide +kernel)) ggX4_claim_X4_lateness
theorem dX4_claim_0 : decode cX4_claim 0 = .ok (.aload_n 0, 1) := by decide +kernel
theorem dX4_claim_1 : decode cX4_claim 1 = .ok (.iconst 0, 1) := by decide +kernel
theorem dX4_claim_2 : decode cX4_claim 2 = .ok (.putfield 60, 3) := by decide +kernel
theorem dX4_claim_5 : decode cX4_claim 5 = .ok (.aload_n 0, 1) := by decide +kernel
theorem dX4_claim_6 : decode cX4_claim 6 = .ok (.iload_n 1, 1) := by decide +kernel
theorem dX4_claim_7 : decode cX4_claim 7 = .ok (.invokevirtual 134, 3) := by decide +kernel
theorem dX4_claim_10 : decode cX4_claim 10 = .ok (.ifCond .eq 5, 3) := by decide +kernel
theorem dX4_claim_13 : decode cX4_claim 13 = .ok (.iconst (-1), 1) := by decide +kernel
theorem dX4_claim_14 : decode cX4_claim 14 = .ok (.ireturn, 1) := by decide +kernel
theorem dX4_claim_15 : decode cX4_claim 15 = .ok (.aload_n 0, 1) := by decide +kernel
theorem dX4_claim_16 : decode cX4_claim 16 = .ok (.getfield 25, 3) := by decide +kernel
theorem dX4_claim_19 : decode cX4_claim 19 = .ok (.bipush 14, 2) := by decide +kernel
theorem dX4_claim_21 : decode cX4_claim 21 = .ok (.iaload, 1) := by decide +kernel
theorem dX4_claim_22 : decode cX4_claim 22 = .ok (.iload_n 1, 1) := by decide +kernel
theorem dX4_claim_23 : decode cX4_claim 23 = .ok (.invokestatic 89, 3) := by decide +kernel
theorem dX4_claim_26 : decode cX4_claim 26 = .ok (.ifCond .ne 6, 3) := by decide +kernel
theorem dX4_claim_29 : decode cX4_claim 29 = .ok (.bipush (-3), 2) := by decide +kernel
theorem dX4_claim_31 : decode cX4_claim 31 = .ok (.ireturn, 1) := by decide +kernel
theorem dX4_claim_32 : decode cX4_claim 32 = .ok (.bipush (-9), 2) := by decide +kernel
theorem dX4_claim_34 : decode cX4_claim 34 = .ok (.istore_n 2, 1) := by decide +kernel
theorem dX4_claim_35 : decode cX4_claim 35 = .ok (.bipush (-9), 2) := by decide +kernel
theorem dX4_claim_37 : decode cX4_claim 37 = .ok (.istore_n 3, 1) := by decide +kernel
theorem dX4_claim_38 : decode cX4_claim 38 = .ok (.iconst 0, 1) := by decide +kernel
theorem dX4_claim_39 : decode cX4_claim 39 = .ok (.istore 4, 2) := by decide +kernel
theorem dX4_claim_41 : decode cX4_claim 41 = .ok (.iload 4, 2) := by decide +kernel
theorem dX4_claim_43 : decode cX4_claim 43 = .ok (.bipush 10, 2) := by decide +kernel
theorem dX4_claim_45 : decode cX4_claim 45 = .ok (.if_icmp .ge 56, 3) := by decide +kernel
theorem dX4_claim_48 : decode cX4_claim 48 = .ok (.aload_n 0, 1) := by decide +kernel
theorem dX4_claim_49 : decode cX4_claim 49 = .ok (.invokevirtual 153, 3) := by decide +kernel
theorem dX4_claim_52 : decode cX4_claim 52 = .ok (.aload_n 0, 1) := by decide +kernel
theorem dX4_claim_53 : decode cX4_claim 53 = .ok (.getfield 28, 3) := by decide +kernel
theorem dX4_claim_56 : decode cX4_claim 56 = .ok (.iconst 0, 1) := by decide +kernel
theorem dX4_claim_57 : decode cX4_claim 57 = .ok (.iload_n 1, 1) := by decide +kernel
theorem dX4_claim_58 : decode cX4_claim 58 = .ok (.iadd, 1) := by decide +kernel
theorem dX4_claim_59 : decode cX4_claim 59 = .ok (.iload 4, 2) := by decide +kernel
theorem dX4_claim_61 : decode cX4_claim 61 = .ok (.iastore, 1) := by decide +kernel
theorem dX4_claim_62 : decode cX4_claim 62 = .ok (.aload_n 0, 1) := by decide +kernel
theorem dX4_claim_63 : decode cX4_claim 63 = .ok (.iload_n 1, 1) := by decide +kernel
theorem dX4_claim_64 : decode cX4_claim 64 = .ok (.invokevirtual 179, 3) := by decide +kernel
theorem dX4_claim_67 : decode cX4_claim 67 = .ok (.istore 5, 2) := by decide +kernel
theorem dX4_claim_69 : decode cX4_claim 69 = .ok (.iload 5, 2) := by decide +kernel
theorem dX4_claim_71 : decode cX4_claim 71 = .ok (.iload_n 3, 1) := by decide +kernel
theorem dX4_claim_72 : decode cX4_claim 72 = .ok (.if_icmp .le 8, 3) := by decide +kernel
theorem dX4_claim_75 : decode cX4_claim 75 = .ok (.iload 4, 2) := by decide +kernel
theorem dX4_claim_77 : decode cX4_claim 77 = .ok (.goto 4, 3) := by decide +kernel
theorem dX4_claim_80 : decode cX4_claim 80 = .ok (.iload_n 2, 1) := by decide +kernel
theorem dX4_claim_81 : decode cX4_claim 81 = .ok (.istore_n 2, 1) := by decide +kernel
theorem dX4_claim_82 : decode cX4_claim 82 = .ok (.iload 5, 2) := by decide +kernel
theorem dX4_claim_84 : decode cX4_claim 84 = .ok (.iload_n 3, 1) := by decide +kernel
theorem dX4_claim_85 : decode cX4_claim 85 = .ok (.if_icmp .le 8, 3) := by decide +kernel
theorem dX4_claim_88 : decode cX4_claim 88 = .ok (.iload 5, 2) := by decide +kernel
theorem dX4_claim_90 : decode cX4_claim 90 = .ok (.goto 4, 3) := by decide +kernel
theorem dX4_claim_93 : decode cX4_claim 93 = .ok (.iload_n 3, 1) := by decide +kernel
theorem dX4_claim_94 : decode cX4_claim 94 = .ok (.istore_n 3, 1) := by decide +kernel
theorem dX4_claim_95 : decode cX4_claim 95 = .ok (.iinc 4 1, 3) := by decide +kernel
theorem dX4_claim_98 : decode cX4_claim 98 = .ok (.goto (-57), 3) := by decide +kernel
theorem dX4_claim_101 : decode cX4_claim 101 = .ok (.iload_n 2, 1) := by decide +kernel
theorem dX4_claim_102 : decode cX4_claim 102 = .ok (.ireturn, 1) := by decide +kernel
theorem dX4_ways_0 : decode cX4_ways 0 = .ok (.iconst 1, 1) := by decide +kernel
theorem dX4_ways_1 : decode cX4_ways 1 = .ok (.istore_n 1, 1) := by decide +kernel
theorem dX4_ways_2 : decode cX4_ways 2 = .ok (.iconst 2, 1) := by decide +kernel
theorem dX4_ways_3 : decode cX4_ways 3 = .ok (.istore_n 2, 1) := by decide +kernel
theorem dX4_ways_4 : decode cX4_ways 4 = .ok (.iload_n 2, 1) := by decide +kernel
theorem dX4_ways_5 : decode cX4_ways 5 = .ok (.iload_n 0, 1) := by decide +kernel
theorem dX4_ways_6 : decode cX4_ways 6 = .ok (.if_icmp .gt 13, 3) := by decide +kernel
theorem dX4_ways_9 : decode cX4_ways 9 = .ok (.iload_n 1, 1) := by decide +kernel
theorem dX4_ways_10 : decode cX4_ways 10 = .ok (.iload_n 2, 1) := by decide +kernel
theorem dX4_ways_11 : decode cX4_ways 11 = .ok (.imul, 1) := by decide +kernel
theorem dX4_ways_12 : decode cX4_ways 12 = .ok (.istore_n 1, 1) := by decide +kernel
theorem dX4_ways_13 : decode cX4_ways 13 = .ok (.iinc 2 1, 3) := by decide +kernel
theorem dX4_ways_16 : decode cX4_ways 16 = .ok (.goto (-12), 3) := by decide +kernel
theorem dX4_ways_19 : decode cX4_ways 19 = .ok (.iload_n 1, 1) := by decide +kernel
theorem dX4_ways_20 : decode cX4_ways 20 = .ok (.ireturn, 1) := by decide +kernel
theorem dX4_divisor_0 : decode cX4_divisor 0 = .ok (.lload_n 0, 1) := by decide +kernel
theorem dX4_divisor_1 : decode cX4_divisor 1 = .ok (.lconst 0, 1) := by decide +kernel
theorem dX4_divisor_2 : decode cX4_divisor 2 = .ok (.lcmp, 1) := by decide +kernel
theorem dX4_divisor_3 : decode cX4_divisor 3 = .ok (.ifCond .ge 8, 3) := by decide +kernel
theorem dX4_divisor_6 : decode cX4_divisor 6 = .ok (.lload_n 0, 1) := by decide +kernel
theorem dX4_divisor_7 : decode cX4_divisor 7 = .ok (.lneg, 1) := by decide +kernel
theorem dX4_divisor_8 : decode cX4_divisor 8 = .ok (.goto 4, 3) := by decide +kernel
theorem dX4_divisor_11 : decode cX4_divisor 11 = .ok (.lload_n 0, 1) := by decide +kernel
theorem dX4_divisor_12 : decode cX4_divisor 12 = .ok (.lstore 4, 2) := by decide +kernel
theorem dX4_divisor_14 : decode cX4_divisor 14 = .ok (.lload_n 2, 1) := by decide +kernel
theorem dX4_divisor_15 : decode cX4_divisor 15 = .ok (.lstore 6, 2) := by decide +kernel
theorem dX4_divisor_17 : decode cX4_divisor 17 = .ok (.lload 6, 2) := by decide +kernel
theorem dX4_divisor_19 : decode cX4_divisor 19 = .ok (.lconst 0, 1) := by decide +kernel
theorem dX4_divisor_20 : decode cX4_divisor 20 = .ok (.lcmp, 1) := by decide +kernel
theorem dX4_divisor_21 : decode cX4_divisor 21 = .ok (.ifCond .eq 21, 3) := by decide +kernel
theorem dX4_divisor_24 : decode cX4_divisor 24 = .ok (.lload 4, 2) := by decide +kernel
theorem dX4_divisor_26 : decode cX4_divisor 26 = .ok (.lload 6, 2) := by decide +kernel
theorem dX4_divisor_28 : decode cX4_divisor 28 = .ok (.lrem, 1) := by decide +kernel
theorem dX4_divisor_29 : decode cX4_divisor 29 = .ok (.lstore 8, 2) := by decide +kernel
theorem dX4_divisor_31 : decode cX4_divisor 31 = .ok (.lload 6, 2) := by decide +kernel
theorem dX4_divisor_33 : decode cX4_divisor 33 = .ok (.lstore 4, 2) := by decide +kernel
theorem dX4_divisor_35 : decode cX4_divisor 35 = .ok (.lload 8, 2) := by decide +kernel
theorem dX4_divisor_37 : decode cX4_divisor 37 = .ok (.lstore 6, 2) := by decide +kernel
theorem dX4_divisor_39 : decode cX4_divisor 39 = .ok (.goto (-22), 3) := by decide +kernel
theorem dX4_divisor_42 : decode cX4_divisor 42 = .ok (.lload 4, 2) := by decide +kernel
theorem dX4_divisor_44 : decode cX4_divisor 44 = .ok (.lreturn, 1) := by decide +kernel
set_option maxRecDepth 20000 in
theorem ggX4_fraction_X4_divisor : GoodIn wsX4_fraction wsX4_divisor := goodIn_r _ [4] (by decide +kernel) (by decide +kernel)
set_option maxRecDepth 20000 in
theorem gX4_fraction_X4_divisor : GoodIn wsX4_fraction (va_wsS RX4 182 yX4_divisor wsX4_divisor) := goodIn_app (goodIn_of _ (by decide +kernel)) ggX4_fraction_X4_divisor
theorem dX4_fraction_0 : decode cX4_fraction 0 = .ok (.lload_n 0, 1) := by decide +kernel
theorem dX4_fraction_1 : decode cX4_fraction 1 = .ok (.lload_n 2, 1) := by decide +kernel
theorem dX4_fraction_2 : decode cX4_fraction 2 = .ok (.invokestatic 182, 3) := by decide +kernel
theorem dX4_fraction_5 : decode cX4_fraction 5 = .ok (.lstore 5, 2) := by decide +kernel
theorem dX4_fraction_7 : decode cX4_fraction 7 = .ok (.iload 4, 2) := by decide +kernel
theorem dX4_fraction_9 : decode cX4_fraction 9 = .ok (.ifCond .eq 10, 3) := by decide +kernel
theorem dX4_fraction_12 : decode cX4_fraction 12 = .ok (.lload_n 0, 1) := by decide +kernel
theorem dX4_fraction_13 : decode cX4_fraction 13 = .ok (.lload 5, 2) := by decide +kernel
theorem dX4_fraction_15 : decode cX4_fraction 15 = .ok (.ldiv, 1) := by decide +kernel
theorem dX4_fraction_16 : decode cX4_fraction 16 = .ok (.goto 7, 3) := by decide +kernel
theorem dX4_fraction_19 : decode cX4_fraction 19 = .ok (.lload_n 2, 1) := by decide +kernel
theorem dX4_fraction_20 : decode cX4_fraction 20 = .ok (.lload 5, 2) := by decide +kernel
theorem dX4_fraction_22 : decode cX4_fraction 22 = .ok (.ldiv, 1) := by decide +kernel
theorem dX4_fraction_23 : decode cX4_fraction 23 = .ok (.l2i, 1) := by decide +kernel
theorem dX4_fraction_24 : decode cX4_fraction 24 = .ok (.ireturn, 1) := by decide +kernel
set_option maxRecDepth 20000 in
theorem ggX4_share_X4_noPerson : GoodIn wsX4_share wsX4_noPerson := goodIn_r _ [10, 11, 12, 13, 9, 14, 55, 56, 57, 58, 59, 60, 61, 62, 63, 64, 65, 66, 67, 68, 69, 70, 71, 72, 73, 74, 75, 76, 77, 78, 79, 80, 81, 82, 83] (by decide +kernel) (by decide +kernel)
set_option maxRecDepth 20000 in
theorem gX4_share_X4_noPerson : GoodIn wsX4_share (wsV RX4 134 RX4 yX4_noPerson wsX4_noPerson) := goodIn_app (goodIn_of _ (by decide +kernel)) ggX4_share_X4_noPerson
set_option maxRecDepth 20000 in
theorem ggX4_share_X4_many : GoodIn wsX4_share wsX4_many := goodIn_r _ [17] (by decide +kernel) (by decide +kernel)
set_option maxRecDepth 20000 in
theorem gX4_share_X4_many : GoodIn wsX4_share (va_wsS RX4 141 yX4_many wsX4_many) := goodIn_app (goodIn_of _ (by decide +kernel)) ggX4_share_X4_many
set_option maxRecDepth 20000 in
theorem ggX4_share_X4_begin : GoodIn wsX4_share wsX4_begin := goodIn_r _ [21, 3, 2, 55, 56, 57, 58, 59, 60, 61, 62, 63, 64, 65, 66, 67, 68, 69, 70, 71, 72, 73, 74, 75, 76, 77, 78, 79, 80, 81, 82, 83] (by decide +kernel) (by decide +kernel)
set_option maxRecDepth 20000 in
theorem gX4_share_X4_begin : GoodIn wsX4_share (wsV RX4 153 RX4 yX4_begin wsX4_begin) := goodIn_app (goodIn_of _ (by decide +kernel)) ggX4_share_X4_begin
set_option maxRecDepth 20000 in
theorem ggX4_share_X4_layFall : GoodIn wsX4_share wsX4_layFall := goodIn_r _ [25, 5, 3, 26, 27, 28, 29, 9, 30, 11, 31, 32, 33, 34, 35, 36, 37, 38, 39, 40, 41, 42, 43, 44, 45, 55, 56, 57, 58, 59, 60, 61, 62, 63, 64, 65, 66, 67, 68, 69, 70, 71, 72, 73, 74, 75, 76, 77, 78, 79, 80, 81, 82, 83] (by decide +kernel) (by decide +kernel)
set_option maxRecDepth 20000 in
theorem gX4_share_X4_layFall : GoodIn wsX4_share (wsV RX4 156 RX4 yX4_layFall wsX4_layFall) := goodIn_app (goodIn_of _ (by decide +kernel)) ggX4_share_X4_layFall
set_option maxRecDepth 20000 in
theorem ggX4_share_X4_has : GoodIn wsX4_share wsX4_has := goodIn_r _ [33] (by decide +kernel) (by decide +kernel)
set_option maxRecDepth 20000 in
theorem gX4_share_X4_has : GoodIn wsX4_share (va_wsS RX4 89 yX4_has wsX4_has) := goodIn_app (goodIn_of _ (by decide +kernel)) ggX4_share_X4_has
set_option maxRecDepth 20000 in
theorem ggX4_share_X4_ways : GoodIn wsX4_share wsX4_ways := goodIn_r _ [48] (by decide +kernel) (by decide +kernel)
set_option maxRecDepth 20000 in
theorem gX4_share_X4_ways : GoodIn wsX4_share (va_wsS RX4 186 yX4_ways wsX4_ways) := goodIn_app (goodIn_of _ (by decide +kernel)) ggX4_share_X4_ways
set_option maxRecDepth 20000 in
theorem ggX4_share_X4_fraction : GoodIn wsX4_share wsX4_fraction := goodIn_r _ [51, 52, 53, 9, 54] (by decide +kernel) (by decide +kernel)
set_option maxRecDepth 20000 in
theorem gX4_share_X4_fraction : GoodIn wsX4_share (va_wsS RX4 189 yX4_fraction wsX4_fraction) := goodIn_app (goodIn_of _ (by decide +kernel)) ggX4_share_X4_fraction
theorem dX4_share_0 : decode cX4_share 0 = .ok (.aload_n 0, 1) := by decide +kernel
theorem dX4_share_1 : decode cX4_share 1 = .ok (.iconst 0, 1) := by decide +kernel
theorem dX4_share_2 : decode cX4_share 2 = .ok (.putfield 60, 3) := by decide +kernel
theorem dX4_share_5 : decode cX4_share 5 = .ok (.aload_n 0, 1) := by decide +kernel
theorem dX4_share_6 : decode cX4_share 6 = .ok (.iload_n 1, 1) := by decide +kernel
theorem dX4_share_7 : decode cX4_share 7 = .ok (.invokevirtual 134, 3) := by decide +kernel
theorem dX4_share_10 : decode cX4_share 10 = .ok (.ifCond .eq 5, 3) := by decide +kernel
theorem dX4_share_13 : decode cX4_share 13 = .ok (.iconst (-1), 1) := by decide +kernel
theorem dX4_share_14 : decode cX4_share 14 = .ok (.ireturn, 1) := by decide +kernel
theorem dX4_share_15 : decode cX4_share 15 = .ok (.aload_n 0, 1) := by decide +kernel
theorem dX4_share_16 : decode cX4_share 16 = .ok (.getfield 25, 3) := by decide +kernel
theorem dX4_share_19 : decode cX4_share 19 = .ok (.bipush 14, 2) := by decide +kernel
theorem dX4_share_21 : decode cX4_share 21 = .ok (.iaload, 1) := by decide +kernel
theorem dX4_share_22 : decode cX4_share 22 = .ok (.istore_n 3, 1) := by decide +kernel
theorem dX4_share_23 : decode cX4_share 23 = .ok (.iload_n 3, 1) := by decide +kernel
theorem dX4_share_24 : decode cX4_share 24 = .ok (.invokestatic 141, 3) := by decide +kernel
theorem dX4_share_27 : decode cX4_share 27 = .ok (.istore 4, 2) := by decide +kernel
theorem dX4_share_29 : decode cX4_share 29 = .ok (.iconst 0, 1) := by decide +kernel
theorem dX4_share_30 : decode cX4_share 30 = .ok (.istore 5, 2) := by decide +kernel
theorem dX4_share_32 : decode cX4_share 32 = .ok (.iload 5, 2) := by decide +kernel
theorem dX4_share_34 : decode cX4_share 34 = .ok (.iload_n 3, 1) := by decide +kernel
theorem dX4_share_35 : decode cX4_share 35 = .ok (.if_icmp .gt 46, 3) := by decide +kernel
theorem dX4_share_38 : decode cX4_share 38 = .ok (.iload 5, 2) := by decide +kernel
theorem dX4_share_40 : decode cX4_share 40 = .ok (.iload_n 3, 1) := by decide +kernel
theorem dX4_share_41 : decode cX4_share 41 = .ok (.iconst (-1), 1) := by decide +kernel
theorem dX4_share_42 : decode cX4_share 42 = .ok (.ixor, 1) := by decide +kernel
theorem dX4_share_43 : decode cX4_share 43 = .ok (.iand, 1) := by decide +kernel
theorem dX4_share_44 : decode cX4_share 44 = .ok (.ifCond .ne 31, 3) := by decide +kernel
theorem dX4_share_47 : decode cX4_share 47 = .ok (.aload_n 0, 1) := by decide +kernel
theorem dX4_share_48 : decode cX4_share 48 = .ok (.invokevirtual 153, 3) := by decide +kernel
theorem dX4_share_51 : decode cX4_share 51 = .ok (.aload_n 0, 1) := by decide +kernel
theorem dX4_share_52 : decode cX4_share 52 = .ok (.getfield 28, 3) := by decide +kernel
theorem dX4_share_55 : decode cX4_share 55 = .ok (.bipush 14, 2) := by decide +kernel
theorem dX4_share_57 : decode cX4_share 57 = .ok (.iload 5, 2) := by decide +kernel
theorem dX4_share_59 : decode cX4_share 59 = .ok (.iastore, 1) := by decide +kernel
theorem dX4_share_60 : decode cX4_share 60 = .ok (.aload_n 0, 1) := by decide +kernel
theorem dX4_share_61 : decode cX4_share 61 = .ok (.invokevirtual 156, 3) := by decide +kernel
theorem dX4_share_64 : decode cX4_share 64 = .ok (.aload_n 0, 1) := by decide +kernel
theorem dX4_share_65 : decode cX4_share 65 = .ok (.getfield 50, 3) := by decide +kernel
theorem dX4_share_68 : decode cX4_share 68 = .ok (.iload 5, 2) := by decide +kernel
theorem dX4_share_70 : decode cX4_share 70 = .ok (.aload_n 0, 1) := by decide +kernel
theorem dX4_share_71 : decode cX4_share 71 = .ok (.getfield 121, 3) := by decide +kernel
theorem dX4_share_74 : decode cX4_share 74 = .ok (.iastore, 1) := by decide +kernel
theorem dX4_share_75 : decode cX4_share 75 = .ok (.iinc 5 1, 3) := by decide +kernel
theorem dX4_share_78 : decode cX4_share 78 = .ok (.goto (-46), 3) := by decide +kernel
theorem dX4_share_81 : decode cX4_share 81 = .ok (.iconst 0, 1) := by decide +kernel
theorem dX4_share_82 : decode cX4_share 82 = .ok (.istore 5, 2) := by decide +kernel
theorem dX4_share_84 : decode cX4_share 84 = .ok (.iconst 0, 1) := by decide +kernel
theorem dX4_share_85 : decode cX4_share 85 = .ok (.istore 6, 2) := by decide +kernel
theorem dX4_share_87 : decode cX4_share 87 = .ok (.iload 6, 2) := by decide +kernel
theorem dX4_share_89 : decode cX4_share 89 = .ok (.iload_n 3, 1) := by decide +kernel
theorem dX4_share_90 : decode cX4_share 90 = .ok (.if_icmp .gt 83, 3) := by decide +kernel
theorem dX4_share_93 : decode cX4_share 93 = .ok (.iload_n 3, 1) := by decide +kernel
theorem dX4_share_94 : decode cX4_share 94 = .ok (.iload_n 1, 1) := by decide +kernel
theorem dX4_share_95 : decode cX4_share 95 = .ok (.invokestatic 89, 3) := by decide +kernel
theorem dX4_share_98 : decode cX4_share 98 = .ok (.ifCond .eq 75, 3) := by decide +kernel
theorem dX4_share_101 : decode cX4_share 101 = .ok (.iload 6, 2) := by decide +kernel
theorem dX4_share_103 : decode cX4_share 103 = .ok (.iload_n 3, 1) := by decide +kernel
theorem dX4_share_104 : decode cX4_share 104 = .ok (.iconst (-1), 1) := by decide +kernel
theorem dX4_share_105 : decode cX4_share 105 = .ok (.ixor, 1) := by decide +kernel
theorem dX4_share_106 : decode cX4_share 106 = .ok (.iand, 1) := by decide +kernel
theorem dX4_share_107 : decode cX4_share 107 = .ok (.ifCond .ne 60, 3) := by decide +kernel
theorem dX4_share_110 : decode cX4_share 110 = .ok (.iload 6, 2) := by decide +kernel
theorem dX4_share_112 : decode cX4_share 112 = .ok (.iload_n 1, 1) := by decide +kernel
theorem dX4_share_113 : decode cX4_share 113 = .ok (.invokestatic 89, 3) := by decide +kernel
theorem dX4_share_116 : decode cX4_share 116 = .ok (.ifCond .ne 51, 3) := by decide +kernel
theorem dX4_share_119 : decode cX4_share 119 = .ok (.iload 6, 2) := by decide +kernel
theorem dX4_share_121 : decode cX4_share 121 = .ok (.invokestatic 141, 3) := by decide +kernel
theorem dX4_share_124 : decode cX4_share 124 = .ok (.istore 7, 2) := by decide +kernel
theorem dX4_share_126 : decode cX4_share 126 = .ok (.iload 5, 2) := by decide +kernel
theorem dX4_share_128 : decode cX4_share 128 = .ok (.iload 7, 2) := by decide +kernel
theorem dX4_share_130 : decode cX4_share 130 = .ok (.invokestatic 186, 3) := by decide +kernel
theorem dX4_share_133 : decode cX4_share 133 = .ok (.iload 4, 2) := by decide +kernel
theorem dX4_share_135 : decode cX4_share 135 = .ok (.iconst 1, 1) := by decide +kernel
theorem dX4_share_136 : decode cX4_share 136 = .ok (.isub, 1) := by decide +kernel
theorem dX4_share_137 : decode cX4_share 137 = .ok (.iload 7, 2) := by decide +kernel
theorem dX4_share_139 : decode cX4_share 139 = .ok (.isub, 1) := by decide +kernel
theorem dX4_share_140 : decode cX4_share 140 = .ok (.invokestatic 186, 3) := by decide +kernel
theorem dX4_share_143 : decode cX4_share 143 = .ok (.imul, 1) := by decide +kernel
theorem dX4_share_144 : decode cX4_share 144 = .ok (.aload_n 0, 1) := by decide +kernel
theorem dX4_share_145 : decode cX4_share 145 = .ok (.getfield 50, 3) := by decide +kernel
theorem dX4_share_148 : decode cX4_share 148 = .ok (.iload 6, 2) := by decide +kernel
theorem dX4_share_150 : decode cX4_share 150 = .ok (.iconst 1, 1) := by decide +kernel
theorem dX4_share_151 : decode cX4_share 151 = .ok (.iload_n 1, 1) := by decide +kernel
theorem dX4_share_152 : decode cX4_share 152 = .ok (.ishl, 1) := by decide +kernel
theorem dX4_share_153 : decode cX4_share 153 = .ok (.ior, 1) := by decide +kernel
theorem dX4_share_154 : decode cX4_share 154 = .ok (.iaload, 1) := by decide +kernel
theorem dX4_share_155 : decode cX4_share 155 = .ok (.aload_n 0, 1) := by decide +kernel
theorem dX4_share_156 : decode cX4_share 156 = .ok (.getfield 50, 3) := by decide +kernel
theorem dX4_share_159 : decode cX4_share 159 = .ok (.iload 6, 2) := by decide +kernel
theorem dX4_share_161 : decode cX4_share 161 = .ok (.iaload, 1) := by decide +kernel
theorem dX4_share_162 : decode cX4_share 162 = .ok (.isub, 1) := by decide +kernel
theorem dX4_share_163 : decode cX4_share 163 = .ok (.imul, 1) := by decide +kernel
theorem dX4_share_164 : decode cX4_share 164 = .ok (.iadd, 1) := by decide +kernel
theorem dX4_share_165 : decode cX4_share 165 = .ok (.istore 5, 2) := by decide +kernel
theorem dX4_share_167 : decode cX4_share 167 = .ok (.iinc 6 1, 3) := by decide +kernel
theorem dX4_share_170 : decode cX4_share 170 = .ok (.goto (-83), 3) := by decide +kernel
theorem dX4_share_173 : decode cX4_share 173 = .ok (.iload 5, 2) := by decide +kernel
theorem dX4_share_175 : decode cX4_share 175 = .ok (.i2l, 1) := by decide +kernel
theorem dX4_share_176 : decode cX4_share 176 = .ok (.iload 4, 2) := by decide +kernel
theorem dX4_share_178 : decode cX4_share 178 = .ok (.invokestatic 186, 3) := by decide +kernel
theorem dX4_share_181 : decode cX4_share 181 = .ok (.i2l, 1) := by decide +kernel
theorem dX4_share_182 : decode cX4_share 182 = .ok (.iload_n 2, 1) := by decide +kernel
theorem dX4_share_183 : decode cX4_share 183 = .ok (.invokestatic 189, 3) := by decide +kernel
theorem dX4_share_186 : decode cX4_share 186 = .ok (.ireturn, 1) := by decide +kernel
set_option maxRecDepth 20000 in
theorem ggX4_see_X4_noPerson : GoodIn wsX4_see wsX4_noPerson := goodIn_r _ [9, 10, 11, 12, 8, 13, 14, 15, 16, 17, 18, 19, 20, 21, 22, 23, 24, 25, 26, 27, 28, 29, 30, 31, 32, 33, 34, 35, 36, 37, 38, 39, 40, 41, 42] (by decide +kernel) (by decide +kernel)
set_option maxRecDepth 20000 in
theorem gX4_see_X4_noPerson : GoodIn wsX4_see (wsV RX4 134 RX4 yX4_noPerson wsX4_noPerson) := goodIn_app (goodIn_of _ (by decide +kernel)) ggX4_see_X4_noPerson
theorem dX4_see_0 : decode cX4_see 0 = .ok (.aload_n 0, 1) := by decide +kernel
theorem dX4_see_1 : decode cX4_see 1 = .ok (.iconst 0, 1) := by decide +kernel
theorem dX4_see_2 : decode cX4_see 2 = .ok (.putfield 60, 3) := by decide +kernel
theorem dX4_see_5 : decode cX4_see 5 = .ok (.aload_n 0, 1) := by decide +kernel
theorem dX4_see_6 : decode cX4_see 6 = .ok (.iload_n 1, 1) := by decide +kernel
theorem dX4_see_7 : decode cX4_see 7 = .ok (.invokevirtual 134, 3) := by decide +kernel
theorem dX4_see_10 : decode cX4_see 10 = .ok (.ifCond .ne 11, 3) := by decide +kernel
theorem dX4_see_13 : decode cX4_see 13 = .ok (.aload_n 0, 1) := by decide +kernel
theorem dX4_see_14 : decode cX4_see 14 = .ok (.iload_n 2, 1) := by decide +kernel
theorem dX4_see_15 : decode cX4_see 15 = .ok (.invokevirtual 134, 3) := by decide +kernel
theorem dX4_see_18 : decode cX4_see 18 = .ok (.ifCond .eq 5, 3) := by decide +kernel
theorem dX4_see_21 : decode cX4_see 21 = .ok (.iconst (-1), 1) := by decide +kernel
theorem dX4_see_22 : decode cX4_see 22 = .ok (.ireturn, 1) := by decide +kernel
theorem dX4_see_23 : decode cX4_see 23 = .ok (.iload_n 1, 1) := by decide +kernel
theorem dX4_see_24 : decode cX4_see 24 = .ok (.iload_n 2, 1) := by decide +kernel
theorem dX4_see_25 : decode cX4_see 25 = .ok (.if_icmp .ne 6, 3) := by decide +kernel
theorem dX4_see_28 : decode cX4_see 28 = .ok (.bipush (-2), 2) := by decide +kernel
theorem dX4_see_30 : decode cX4_see 30 = .ok (.ireturn, 1) := by decide +kernel
theorem dX4_see_31 : decode cX4_see 31 = .ok (.aload_n 0, 1) := by decide +kernel
theorem dX4_see_32 : decode cX4_see 32 = .ok (.getfield 131, 3) := by decide +kernel
theorem dX4_see_35 : decode cX4_see 35 = .ok (.bipush 6, 2) := by decide +kernel
theorem dX4_see_37 : decode cX4_see 37 = .ok (.if_icmp .ne 6, 3) := by decide +kernel
theorem dX4_see_40 : decode cX4_see 40 = .ok (.bipush (-4), 2) := by decide +kernel
theorem dX4_see_42 : decode cX4_see 42 = .ok (.ireturn, 1) := by decide +kernel
theorem dX4_see_43 : decode cX4_see 43 = .ok (.aload_n 0, 1) := by decide +kernel
theorem dX4_see_44 : decode cX4_see 44 = .ok (.getfield 41, 3) := by decide +kernel
theorem dX4_see_47 : decode cX4_see 47 = .ok (.aload_n 0, 1) := by decide +kernel
theorem dX4_see_48 : decode cX4_see 48 = .ok (.getfield 131, 3) := by decide +kernel
theorem dX4_see_51 : decode cX4_see 51 = .ok (.iload_n 1, 1) := by decide +kernel
theorem dX4_see_52 : decode cX4_see 52 = .ok (.iastore, 1) := by decide +kernel
theorem dX4_see_53 : decode cX4_see 53 = .ok (.aload_n 0, 1) := by decide +kernel
theorem dX4_see_54 : decode cX4_see 54 = .ok (.getfield 44, 3) := by decide +kernel
theorem dX4_see_57 : decode cX4_see 57 = .ok (.aload_n 0, 1) := by decide +kernel
theorem dX4_see_58 : decode cX4_see 58 = .ok (.getfield 131, 3) := by decide +kernel
theorem dX4_see_61 : decode cX4_see 61 = .ok (.iload_n 2, 1) := by decide +kernel
theorem dX4_see_62 : decode cX4_see 62 = .ok (.iastore, 1) := by decide +kernel
theorem dX4_see_63 : decode cX4_see 63 = .ok (.aload_n 0, 1) := by decide +kernel
theorem dX4_see_64 : decode cX4_see 64 = .ok (.dup, 1) := by decide +kernel
theorem dX4_see_65 : decode cX4_see 65 = .ok (.getfield 131, 3) := by decide +kernel
theorem dX4_see_68 : decode cX4_see 68 = .ok (.iconst 1, 1) := by decide +kernel
theorem dX4_see_69 : decode cX4_see 69 = .ok (.iadd, 1) := by decide +kernel
theorem dX4_see_70 : decode cX4_see 70 = .ok (.putfield 131, 3) := by decide +kernel
theorem dX4_see_73 : decode cX4_see 73 = .ok (.aload_n 0, 1) := by decide +kernel
theorem dX4_see_74 : decode cX4_see 74 = .ok (.getfield 131, 3) := by decide +kernel
theorem dX4_see_77 : decode cX4_see 77 = .ok (.ireturn, 1) := by decide +kernel
theorem dX4_unsee_0 : decode cX4_unsee 0 = .ok (.aload_n 0, 1) := by decide +kernel
theorem dX4_unsee_1 : decode cX4_unsee 1 = .ok (.iconst 0, 1) := by decide +kernel
theorem dX4_unsee_2 : decode cX4_unsee 2 = .ok (.putfield 60, 3) := by decide +kernel
theorem dX4_unsee_5 : decode cX4_unsee 5 = .ok (.aload_n 0, 1) := by decide +kernel
theorem dX4_unsee_6 : decode cX4_unsee 6 = .ok (.getfield 131, 3) := by decide +kernel
theorem dX4_unsee_9 : decode cX4_unsee 9 = .ok (.istore_n 1, 1) := by decide +kernel
theorem dX4_unsee_10 : decode cX4_unsee 10 = .ok (.aload_n 0, 1) := by decide +kernel
theorem dX4_unsee_11 : decode cX4_unsee 11 = .ok (.iconst 0, 1) := by decide +kernel
theorem dX4_unsee_12 : decode cX4_unsee 12 = .ok (.putfield 131, 3) := by decide +kernel
theorem dX4_unsee_15 : decode cX4_unsee 15 = .ok (.iload_n 1, 1) := by decide +kernel
theorem dX4_unsee_16 : decode cX4_unsee 16 = .ok (.ireturn, 1) := by decide +kernel
set_option maxRecDepth 20000 in
theorem ggX4_isSeen_X4_placeOf : GoodIn wsX4_isSeen wsX4_placeOf := goodIn_r _ [8, 9, 10, 19, 20, 21, 22, 23, 24, 25, 26, 27, 28, 29, 30, 31, 32, 33, 34, 35, 36, 37, 38, 39, 40, 41, 42, 43, 44, 45, 46, 47] (by decide +kernel) (by decide +kernel)
set_option maxRecDepth 20000 in
theorem gX4_isSeen_X4_placeOf : GoodIn wsX4_isSeen (wsV RX4 159 RX4 yX4_placeOf wsX4_placeOf) := goodIn_app (goodIn_of _ (by decide +kernel)) ggX4_isSeen_X4_placeOf
set_option maxRecDepth 20000 in
theorem ggX4_isSeen_X4_noPerson : GoodIn wsX4_isSeen wsX4_noPerson := goodIn_r _ [14, 15, 16, 17, 7, 18, 19, 20, 21, 22, 23, 24, 25, 26, 27, 28, 29, 30, 31, 32, 33, 34, 35, 36, 37, 38, 39, 40, 41, 42, 43, 44, 45, 46, 47] (by decide +kernel) (by decide +kernel)
set_option maxRecDepth 20000 in
theorem gX4_isSeen_X4_noPerson : GoodIn wsX4_isSeen (wsV RX4 134 RX4 yX4_noPerson wsX4_noPerson) := goodIn_app (goodIn_of _ (by decide +kernel)) ggX4_isSeen_X4_noPerson
theorem dX4_isSeen_0 : decode cX4_isSeen 0 = .ok (.iconst 1, 1) := by decide +kernel
theorem dX4_isSeen_1 : decode cX4_isSeen 1 = .ok (.istore_n 1, 1) := by decide +kernel
theorem dX4_isSeen_2 : decode cX4_isSeen 2 = .ok (.iconst 0, 1) := by decide +kernel
theorem dX4_isSeen_3 : decode cX4_isSeen 3 = .ok (.istore_n 2, 1) := by decide +kernel
theorem dX4_isSeen_4 : decode cX4_isSeen 4 = .ok (.iload_n 2, 1) := by decide +kernel
theorem dX4_isSeen_5 : decode cX4_isSeen 5 = .ok (.aload_n 0, 1) := by decide +kernel
theorem dX4_isSeen_6 : decode cX4_isSeen 6 = .ok (.getfield 131, 3) := by decide +kernel
theorem dX4_isSeen_9 : decode cX4_isSeen 9 = .ok (.if_icmp .ge 99, 3) := by decide +kernel
theorem dX4_isSeen_12 : decode cX4_isSeen 12 = .ok (.iload_n 1, 1) := by decide +kernel
theorem dX4_isSeen_13 : decode cX4_isSeen 13 = .ok (.ifCond .eq 95, 3) := by decide +kernel
theorem dX4_isSeen_16 : decode cX4_isSeen 16 = .ok (.aload_n 0, 1) := by decide +kernel
theorem dX4_isSeen_17 : decode cX4_isSeen 17 = .ok (.aload_n 0, 1) := by decide +kernel
theorem dX4_isSeen_18 : decode cX4_isSeen 18 = .ok (.getfield 41, 3) := by decide +kernel
theorem dX4_isSeen_21 : decode cX4_isSeen 21 = .ok (.iload_n 2, 1) := by decide +kernel
theorem dX4_isSeen_22 : decode cX4_isSeen 22 = .ok (.iaload, 1) := by decide +kernel
theorem dX4_isSeen_23 : decode cX4_isSeen 23 = .ok (.invokevirtual 159, 3) := by decide +kernel
theorem dX4_isSeen_26 : decode cX4_isSeen 26 = .ok (.istore_n 3, 1) := by decide +kernel
theorem dX4_isSeen_27 : decode cX4_isSeen 27 = .ok (.aload_n 0, 1) := by decide +kernel
theorem dX4_isSeen_28 : decode cX4_isSeen 28 = .ok (.aload_n 0, 1) := by decide +kernel
theorem dX4_isSeen_29 : decode cX4_isSeen 29 = .ok (.getfield 44, 3) := by decide +kernel
theorem dX4_isSeen_32 : decode cX4_isSeen 32 = .ok (.iload_n 2, 1) := by decide +kernel
theorem dX4_isSeen_33 : decode cX4_isSeen 33 = .ok (.iaload, 1) := by decide +kernel
theorem dX4_isSeen_34 : decode cX4_isSeen 34 = .ok (.invokevirtual 159, 3) := by decide +kernel
theorem dX4_isSeen_37 : decode cX4_isSeen 37 = .ok (.istore 4, 2) := by decide +kernel
theorem dX4_isSeen_39 : decode cX4_isSeen 39 = .ok (.aload_n 0, 1) := by decide +kernel
theorem dX4_isSeen_40 : decode cX4_isSeen 40 = .ok (.aload_n 0, 1) := by decide +kernel
theorem dX4_isSeen_41 : decode cX4_isSeen 41 = .ok (.getfield 41, 3) := by decide +kernel
theorem dX4_isSeen_44 : decode cX4_isSeen 44 = .ok (.iload_n 2, 1) := by decide +kernel
theorem dX4_isSeen_45 : decode cX4_isSeen 45 = .ok (.iaload, 1) := by decide +kernel
theorem dX4_isSeen_46 : decode cX4_isSeen 46 = .ok (.invokevirtual 134, 3) := by decide +kernel
theorem dX4_isSeen_49 : decode cX4_isSeen 49 = .ok (.ifCond .ne 20, 3) := by decide +kernel
theorem dX4_isSeen_52 : decode cX4_isSeen 52 = .ok (.aload_n 0, 1) := by decide +kernel
theorem dX4_isSeen_53 : decode cX4_isSeen 53 = .ok (.aload_n 0, 1) := by decide +kernel
theorem dX4_isSeen_54 : decode cX4_isSeen 54 = .ok (.getfield 44, 3) := by decide +kernel
theorem dX4_isSeen_57 : decode cX4_isSeen 57 = .ok (.iload_n 2, 1) := by decide +kernel
theorem dX4_isSeen_58 : decode cX4_isSeen 58 = .ok (.iaload, 1) := by decide +kernel
theorem dX4_isSeen_59 : decode cX4_isSeen 59 = .ok (.invokevirtual 134, 3) := by decide +kernel
theorem dX4_isSeen_62 : decode cX4_isSeen 62 = .ok (.ifCond .ne 7, 3) := by decide +kernel
theorem dX4_isSeen_65 : decode cX4_isSeen 65 = .ok (.iconst 1, 1) := by decide +kernel
theorem dX4_isSeen_66 : decode cX4_isSeen 66 = .ok (.goto 4, 3) := by decide +kernel
theorem dX4_isSeen_69 : decode cX4_isSeen 69 = .ok (.iconst 0, 1) := by decide +kernel
theorem dX4_isSeen_70 : decode cX4_isSeen 70 = .ok (.istore 5, 2) := by decide +kernel
theorem dX4_isSeen_72 : decode cX4_isSeen 72 = .ok (.iload 5, 2) := by decide +kernel
theorem dX4_isSeen_74 : decode cX4_isSeen 74 = .ok (.ifCond .eq 22, 3) := by decide +kernel
theorem dX4_isSeen_77 : decode cX4_isSeen 77 = .ok (.iload_n 3, 1) := by decide +kernel
theorem dX4_isSeen_78 : decode cX4_isSeen 78 = .ok (.bipush (-9), 2) := by decide +kernel
theorem dX4_isSeen_80 : decode cX4_isSeen 80 = .ok (.if_icmp .eq 20, 3) := by decide +kernel
theorem dX4_isSeen_83 : decode cX4_isSeen 83 = .ok (.iload 4, 2) := by decide +kernel
theorem dX4_isSeen_85 : decode cX4_isSeen 85 = .ok (.bipush (-9), 2) := by decide +kernel
theorem dX4_isSeen_87 : decode cX4_isSeen 87 = .ok (.if_icmp .eq 9, 3) := by decide +kernel
theorem dX4_isSeen_90 : decode cX4_isSeen 90 = .ok (.iload 4, 2) := by decide +kernel
theorem dX4_isSeen_92 : decode cX4_isSeen 92 = .ok (.iload_n 3, 1) := by decide +kernel
theorem dX4_isSeen_93 : decode cX4_isSeen 93 = .ok (.if_icmp .le 7, 3) := by decide +kernel
theorem dX4_isSeen_96 : decode cX4_isSeen 96 = .ok (.iconst 1, 1) := by decide +kernel
theorem dX4_isSeen_97 : decode cX4_isSeen 97 = .ok (.goto 4, 3) := by decide +kernel
theorem dX4_isSeen_100 : decode cX4_isSeen 100 = .ok (.iconst 0, 1) := by decide +kernel
theorem dX4_isSeen_101 : decode cX4_isSeen 101 = .ok (.istore_n 1, 1) := by decide +kernel
theorem dX4_isSeen_102 : decode cX4_isSeen 102 = .ok (.iinc 2 1, 3) := by decide +kernel
theorem dX4_isSeen_105 : decode cX4_isSeen 105 = .ok (.goto (-101), 3) := by decide +kernel
theorem dX4_isSeen_108 : decode cX4_isSeen 108 = .ok (.iload_n 1, 1) := by decide +kernel
theorem dX4_isSeen_109 : decode cX4_isSeen 109 = .ok (.ireturn, 1) := by decide +kernel
set_option maxRecDepth 20000 in
theorem ggX4_did_X4_noPerson : GoodIn wsX4_did wsX4_noPerson := goodIn_r _ [7, 8, 9, 10, 6, 11, 53, 54, 55, 56, 57, 58, 59, 60, 61, 62, 63, 64, 65, 66, 67, 68, 69, 70, 71, 72, 73, 74, 75, 76, 77, 78, 79, 80, 81] (by decide +kernel) (by decide +kernel)
set_option maxRecDepth 20000 in
theorem gX4_did_X4_noPerson : GoodIn wsX4_did (wsV RX4 134 RX4 yX4_noPerson wsX4_noPerson) := goodIn_app (goodIn_of _ (by decide +kernel)) ggX4_did_X4_noPerson
set_option maxRecDepth 20000 in
theorem ggX4_did_X4_begin : GoodIn wsX4_did wsX4_begin := goodIn_r _ [15, 2, 16, 53, 54, 55, 56, 57, 58, 59, 60, 61, 62, 63, 64, 65, 66, 67, 68, 69, 70, 71, 72, 73, 74, 75, 76, 77, 78, 79, 80, 81] (by decide +kernel) (by decide +kernel)
set_option maxRecDepth 20000 in
theorem gX4_did_X4_begin : GoodIn wsX4_did (wsV RX4 153 RX4 yX4_begin wsX4_begin) := goodIn_app (goodIn_of _ (by decide +kernel)) ggX4_did_X4_begin
set_option maxRecDepth 20000 in
theorem ggX4_did_X4_layFall : GoodIn wsX4_did wsX4_layFall := goodIn_r _ [20, 21, 2, 22, 23, 24, 25, 6, 26, 8, 27, 28, 29, 30, 31, 32, 33, 34, 35, 36, 37, 38, 39, 40, 41, 53, 54, 55, 56, 57, 58, 59, 60, 61, 62, 63, 64, 65, 66, 67, 68, 69, 70, 71, 72, 73, 74, 75, 76, 77, 78, 79, 80, 81] (by decide +kernel) (by decide +kernel)
set_option maxRecDepth 20000 in
theorem gX4_did_X4_layFall : GoodIn wsX4_did (wsV RX4 156 RX4 yX4_layFall wsX4_layFall) := goodIn_app (goodIn_of _ (by decide +kernel)) ggX4_did_X4_layFall
set_option maxRecDepth 20000 in
theorem ggX4_did_X4_isSeen : GoodIn wsX4_did wsX4_isSeen := goodIn_r _ [45, 46, 47, 48, 49, 50, 51, 6, 52, 21, 22, 3, 4, 5, 7, 8, 9, 10, 11, 53, 54, 55, 56, 57, 58, 59, 60, 61, 62, 63, 64, 65, 66, 67, 68, 69, 70, 71, 72, 73, 74, 75, 76, 77, 78, 79, 80, 81] (by decide +kernel) (by decide +kernel)
set_option maxRecDepth 20000 in
theorem gX4_did_X4_isSeen : GoodIn wsX4_did (wsV RX4 193 RX4 yX4_isSeen wsX4_isSeen) := goodIn_app (goodIn_of _ (by decide +kernel)) ggX4_did_X4_isSeen
theorem dX4_did_0 : decode cX4_did 0 = .ok (.aload_n 0, 1) := by decide +kernel
theorem dX4_did_1 : decode cX4_did 1 = .ok (.iconst 0, 1) := by decide +kernel
theorem dX4_did_2 : decode cX4_did 2 = .ok (.putfield 60, 3) := by decide +kernel
theorem dX4_did_5 : decode cX4_did 5 = .ok (.aload_n 0, 1) := by decide +kernel
theorem dX4_did_6 : decode cX4_did 6 = .ok (.iload_n 1, 1) := by decide +kernel
theorem dX4_did_7 : decode cX4_did 7 = .ok (.invokevirtual 134, 3) := by decide +kernel
theorem dX4_did_10 : decode cX4_did 10 = .ok (.ifCond .eq 5, 3) := by decide +kernel
theorem dX4_did_13 : decode cX4_did 13 = .ok (.iconst (-1), 1) := by decide +kernel
theorem dX4_did_14 : decode cX4_did 14 = .ok (.ireturn, 1) := by decide +kernel
theorem dX4_did_15 : decode cX4_did 15 = .ok (.iconst 0, 1) := by decide +kernel
theorem dX4_did_16 : decode cX4_did 16 = .ok (.istore_n 2, 1) := by decide +kernel
theorem dX4_did_17 : decode cX4_did 17 = .ok (.iconst 0, 1) := by decide +kernel
theorem dX4_did_18 : decode cX4_did 18 = .ok (.istore_n 3, 1) := by decide +kernel
theorem dX4_did_19 : decode cX4_did 19 = .ok (.iload_n 3, 1) := by decide +kernel
theorem dX4_did_20 : decode cX4_did 20 = .ok (.bipush 10, 2) := by decide +kernel
theorem dX4_did_22 : decode cX4_did 22 = .ok (.if_icmp .ge 43, 3) := by decide +kernel
theorem dX4_did_25 : decode cX4_did 25 = .ok (.aload_n 0, 1) := by decide +kernel
theorem dX4_did_26 : decode cX4_did 26 = .ok (.invokevirtual 153, 3) := by decide +kernel
theorem dX4_did_29 : decode cX4_did 29 = .ok (.aload_n 0, 1) := by decide +kernel
theorem dX4_did_30 : decode cX4_did 30 = .ok (.getfield 28, 3) := by decide +kernel
theorem dX4_did_33 : decode cX4_did 33 = .ok (.iconst 0, 1) := by decide +kernel
theorem dX4_did_34 : decode cX4_did 34 = .ok (.iload_n 1, 1) := by decide +kernel
theorem dX4_did_35 : decode cX4_did 35 = .ok (.iadd, 1) := by decide +kernel
theorem dX4_did_36 : decode cX4_did 36 = .ok (.iload_n 3, 1) := by decide +kernel
theorem dX4_did_37 : decode cX4_did 37 = .ok (.iastore, 1) := by decide +kernel
theorem dX4_did_38 : decode cX4_did 38 = .ok (.aload_n 0, 1) := by decide +kernel
theorem dX4_did_39 : decode cX4_did 39 = .ok (.invokevirtual 156, 3) := by decide +kernel
theorem dX4_did_42 : decode cX4_did 42 = .ok (.iload_n 2, 1) := by decide +kernel
theorem dX4_did_43 : decode cX4_did 43 = .ok (.aload_n 0, 1) := by decide +kernel
theorem dX4_did_44 : decode cX4_did 44 = .ok (.invokevirtual 193, 3) := by decide +kernel
theorem dX4_did_47 : decode cX4_did 47 = .ok (.ifCond .eq 9, 3) := by decide +kernel
theorem dX4_did_50 : decode cX4_did 50 = .ok (.iconst 1, 1) := by decide +kernel
theorem dX4_did_51 : decode cX4_did 51 = .ok (.iload_n 3, 1) := by decide +kernel
theorem dX4_did_52 : decode cX4_did 52 = .ok (.ishl, 1) := by decide +kernel
theorem dX4_did_53 : decode cX4_did 53 = .ok (.goto 4, 3) := by decide +kernel
theorem dX4_did_56 : decode cX4_did 56 = .ok (.iconst 0, 1) := by decide +kernel
theorem dX4_did_57 : decode cX4_did 57 = .ok (.ior, 1) := by decide +kernel
theorem dX4_did_58 : decode cX4_did 58 = .ok (.istore_n 2, 1) := by decide +kernel
theorem dX4_did_59 : decode cX4_did 59 = .ok (.iinc 3 1, 3) := by decide +kernel
theorem dX4_did_62 : decode cX4_did 62 = .ok (.goto (-43), 3) := by decide +kernel
theorem dX4_did_65 : decode cX4_did 65 = .ok (.iload_n 2, 1) := by decide +kernel
theorem dX4_did_66 : decode cX4_did 66 = .ok (.ireturn, 1) := by decide +kernel
theorem dX4_cellOf_0 : decode cX4_cellOf 0 = .ok (.iconst 2, 1) := by decide +kernel
theorem dX4_cellOf_1 : decode cX4_cellOf 1 = .ok (.bipush 8, 2) := by decide +kernel
theorem dX4_cellOf_3 : decode cX4_cellOf 3 = .ok (.iload_n 0, 1) := by decide +kernel
theorem dX4_cellOf_4 : decode cX4_cellOf 4 = .ok (.imul, 1) := by decide +kernel
theorem dX4_cellOf_5 : decode cX4_cellOf 5 = .ok (.iload_n 1, 1) := by decide +kernel
theorem dX4_cellOf_6 : decode cX4_cellOf 6 = .ok (.iadd, 1) := by decide +kernel
theorem dX4_cellOf_7 : decode cX4_cellOf 7 = .ok (.imul, 1) := by decide +kernel
theorem dX4_cellOf_8 : decode cX4_cellOf 8 = .ok (.ireturn, 1) := by decide +kernel
set_option maxRecDepth 20000 in
theorem ggX4_layGains_X4_begin : GoodIn wsX4_layGains wsX4_begin := goodIn_r _ [8, 2, 9, 42, 43, 44, 45, 46, 47, 48, 49, 50, 51, 52, 53, 54, 55, 56, 57, 58, 59, 60, 61, 62, 63, 64, 65, 66, 67, 68, 69, 70] (by decide +kernel) (by decide +kernel)
set_option maxRecDepth 20000 in
theorem gX4_layGains_X4_begin : GoodIn wsX4_layGains (wsV RX4 153 RX4 yX4_begin wsX4_begin) := goodIn_app (goodIn_of _ (by decide +kernel)) ggX4_layGains_X4_begin
set_option maxRecDepth 20000 in
theorem ggX4_layGains_X4_layFall : GoodIn wsX4_layGains wsX4_layFall := goodIn_r _ [13, 14, 2, 15, 16, 17, 18, 7, 19, 1, 20, 21, 22, 23, 24, 25, 26, 27, 28, 29, 30, 31, 32, 33, 34, 42, 43, 44, 45, 46, 47, 48, 49, 50, 51, 52, 53, 54, 55, 56, 57, 58, 59, 60, 61, 62, 63, 64, 65, 66, 67, 68, 69, 70] (by decide +kernel) (by decide +kernel)
set_option maxRecDepth 20000 in
theorem gX4_layGains_X4_layFall : GoodIn wsX4_layGains (wsV RX4 156 RX4 yX4_layFall wsX4_layFall) := goodIn_app (goodIn_of _ (by decide +kernel)) ggX4_layGains_X4_layFall
set_option maxRecDepth 20000 in
theorem ggX4_layGains_X4_cellOf : GoodIn wsX4_layGains wsX4_cellOf := goodIn_r _ [37] (by decide +kernel) (by decide +kernel)
set_option maxRecDepth 20000 in
theorem gX4_layGains_X4_cellOf : GoodIn wsX4_layGains (va_wsS RX4 196 yX4_cellOf wsX4_cellOf) := goodIn_app (goodIn_of _ (by decide +kernel)) ggX4_layGains_X4_cellOf
set_option maxRecDepth 20000 in
theorem ggX4_layGains_X4_placeOf : GoodIn wsX4_layGains wsX4_placeOf := goodIn_r _ [41, 14, 15, 42, 43, 44, 45, 46, 47, 48, 49, 50, 51, 52, 53, 54, 55, 56, 57, 58, 59, 60, 61, 62, 63, 64, 65, 66, 67, 68, 69, 70] (by decide +kernel) (by decide +kernel)
set_option maxRecDepth 20000 in
theorem gX4_layGains_X4_placeOf : GoodIn wsX4_layGains (wsV RX4 159 RX4 yX4_placeOf wsX4_placeOf) := goodIn_app (goodIn_of _ (by decide +kernel)) ggX4_layGains_X4_placeOf
theorem dX4_layGains_0 : decode cX4_layGains 0 = .ok (.iconst 0, 1) := by decide +kernel
theorem dX4_layGains_1 : decode cX4_layGains 1 = .ok (.istore_n 3, 1) := by decide +kernel
theorem dX4_layGains_2 : decode cX4_layGains 2 = .ok (.iload_n 3, 1) := by decide +kernel
theorem dX4_layGains_3 : decode cX4_layGains 3 = .ok (.aload_n 0, 1) := by decide +kernel
theorem dX4_layGains_4 : decode cX4_layGains 4 = .ok (.getfield 64, 3) := by decide +kernel
theorem dX4_layGains_7 : decode cX4_layGains 7 = .ok (.if_icmp .gt 164, 3) := by decide +kernel
theorem dX4_layGains_10 : decode cX4_layGains 10 = .ok (.iconst 0, 1) := by decide +kernel
theorem dX4_layGains_11 : decode cX4_layGains 11 = .ok (.istore 4, 2) := by decide +kernel
theorem dX4_layGains_13 : decode cX4_layGains 13 = .ok (.iload 4, 2) := by decide +kernel
theorem dX4_layGains_15 : decode cX4_layGains 15 = .ok (.aload_n 0, 1) := by decide +kernel
theorem dX4_layGains_16 : decode cX4_layGains 16 = .ok (.getfield 64, 3) := by decide +kernel
theorem dX4_layGains_19 : decode cX4_layGains 19 = .ok (.if_icmp .gt 146, 3) := by decide +kernel
theorem dX4_layGains_22 : decode cX4_layGains 22 = .ok (.aload_n 0, 1) := by decide +kernel
theorem dX4_layGains_23 : decode cX4_layGains 23 = .ok (.invokevirtual 153, 3) := by decide +kernel
theorem dX4_layGains_26 : decode cX4_layGains 26 = .ok (.iload_n 3, 1) := by decide +kernel
theorem dX4_layGains_27 : decode cX4_layGains 27 = .ok (.ifCond .le 20, 3) := by decide +kernel
theorem dX4_layGains_30 : decode cX4_layGains 30 = .ok (.aload_n 0, 1) := by decide +kernel
theorem dX4_layGains_31 : decode cX4_layGains 31 = .ok (.getfield 28, 3) := by decide +kernel
theorem dX4_layGains_34 : decode cX4_layGains 34 = .ok (.bipush 7, 2) := by decide +kernel
theorem dX4_layGains_36 : decode cX4_layGains 36 = .ok (.iload_n 1, 1) := by decide +kernel
theorem dX4_layGains_37 : decode cX4_layGains 37 = .ok (.iadd, 1) := by decide +kernel
theorem dX4_layGains_38 : decode cX4_layGains 38 = .ok (.dup2, 1) := by decide +kernel
theorem dX4_layGains_39 : decode cX4_layGains 39 = .ok (.iaload, 1) := by decide +kernel
theorem dX4_layGains_40 : decode cX4_layGains 40 = .ok (.iconst 1, 1) := by decide +kernel
theorem dX4_layGains_41 : decode cX4_layGains 41 = .ok (.iload_n 3, 1) := by decide +kernel
theorem dX4_layGains_42 : decode cX4_layGains 42 = .ok (.iconst 1, 1) := by decide +kernel
theorem dX4_layGains_43 : decode cX4_layGains 43 = .ok (.isub, 1) := by decide +kernel
theorem dX4_layGains_44 : decode cX4_layGains 44 = .ok (.ishl, 1) := by decide +kernel
theorem dX4_layGains_45 : decode cX4_layGains 45 = .ok (.ior, 1) := by decide +kernel
theorem dX4_layGains_46 : decode cX4_layGains 46 = .ok (.iastore, 1) := by decide +kernel
theorem dX4_layGains_47 : decode cX4_layGains 47 = .ok (.iload 4, 2) := by decide +kernel
theorem dX4_layGains_49 : decode cX4_layGains 49 = .ok (.ifCond .le 21, 3) := by decide +kernel
theorem dX4_layGains_52 : decode cX4_layGains 52 = .ok (.aload_n 0, 1) := by decide +kernel
theorem dX4_layGains_53 : decode cX4_layGains 53 = .ok (.getfield 28, 3) := by decide +kernel
theorem dX4_layGains_56 : decode cX4_layGains 56 = .ok (.bipush 7, 2) := by decide +kernel
theorem dX4_layGains_58 : decode cX4_layGains 58 = .ok (.iload_n 2, 1) := by decide +kernel
theorem dX4_layGains_59 : decode cX4_layGains 59 = .ok (.iadd, 1) := by decide +kernel
theorem dX4_layGains_60 : decode cX4_layGains 60 = .ok (.dup2, 1) := by decide +kernel
theorem dX4_layGains_61 : decode cX4_layGains 61 = .ok (.iaload, 1) := by decide +kernel
theorem dX4_layGains_62 : decode cX4_layGains 62 = .ok (.iconst 1, 1) := by decide +kernel
theorem dX4_layGains_63 : decode cX4_layGains 63 = .ok (.iload 4, 2) := by decide +kernel
theorem dX4_layGains_65 : decode cX4_layGains 65 = .ok (.iconst 1, 1) := by decide +kernel
theorem dX4_layGains_66 : decode cX4_layGains 66 = .ok (.isub, 1) := by decide +kernel
theorem dX4_layGains_67 : decode cX4_layGains 67 = .ok (.ishl, 1) := by decide +kernel
theorem dX4_layGains_68 : decode cX4_layGains 68 = .ok (.ior, 1) := by decide +kernel
theorem dX4_layGains_69 : decode cX4_layGains 69 = .ok (.iastore, 1) := by decide +kernel
theorem dX4_layGains_70 : decode cX4_layGains 70 = .ok (.aload_n 0, 1) := by decide +kernel
theorem dX4_layGains_71 : decode cX4_layGains 71 = .ok (.invokevirtual 156, 3) := by decide +kernel
theorem dX4_layGains_74 : decode cX4_layGains 74 = .ok (.aload_n 0, 1) := by decide +kernel
theorem dX4_layGains_75 : decode cX4_layGains 75 = .ok (.getfield 53, 3) := by decide +kernel
theorem dX4_layGains_78 : decode cX4_layGains 78 = .ok (.iload_n 3, 1) := by decide +kernel
theorem dX4_layGains_79 : decode cX4_layGains 79 = .ok (.iload 4, 2) := by decide +kernel
theorem dX4_layGains_81 : decode cX4_layGains 81 = .ok (.invokestatic 196, 3) := by decide +kernel
theorem dX4_layGains_84 : decode cX4_layGains 84 = .ok (.aload_n 0, 1) := by decide +kernel
theorem dX4_layGains_85 : decode cX4_layGains 85 = .ok (.iload_n 1, 1) := by decide +kernel
theorem dX4_layGains_86 : decode cX4_layGains 86 = .ok (.invokevirtual 159, 3) := by decide +kernel
theorem dX4_layGains_89 : decode cX4_layGains 89 = .ok (.bipush (-9), 2) := by decide +kernel
theorem dX4_layGains_91 : decode cX4_layGains 91 = .ok (.if_icmp .ne 8, 3) := by decide +kernel
theorem dX4_layGains_94 : decode cX4_layGains 94 = .ok (.bipush 9, 2) := by decide +kernel
theorem dX4_layGains_96 : decode cX4_layGains 96 = .ok (.goto 8, 3) := by decide +kernel
theorem dX4_layGains_99 : decode cX4_layGains 99 = .ok (.aload_n 0, 1) := by decide +kernel
theorem dX4_layGains_100 : decode cX4_layGains 100 = .ok (.iload_n 1, 1) := by decide +kernel
theorem dX4_layGains_101 : decode cX4_layGains 101 = .ok (.invokevirtual 159, 3) := by decide +kernel
theorem dX4_layGains_104 : decode cX4_layGains 104 = .ok (.iload_n 3, 1) := by decide +kernel
theorem dX4_layGains_105 : decode cX4_layGains 105 = .ok (.ifCond .le 7, 3) := by decide +kernel
theorem dX4_layGains_108 : decode cX4_layGains 108 = .ok (.iconst 1, 1) := by decide +kernel
theorem dX4_layGains_109 : decode cX4_layGains 109 = .ok (.goto 4, 3) := by decide +kernel
theorem dX4_layGains_112 : decode cX4_layGains 112 = .ok (.iconst 0, 1) := by decide +kernel
theorem dX4_layGains_113 : decode cX4_layGains 113 = .ok (.isub, 1) := by decide +kernel
theorem dX4_layGains_114 : decode cX4_layGains 114 = .ok (.iastore, 1) := by decide +kernel
theorem dX4_layGains_115 : decode cX4_layGains 115 = .ok (.aload_n 0, 1) := by decide +kernel
theorem dX4_layGains_116 : decode cX4_layGains 116 = .ok (.getfield 53, 3) := by decide +kernel
theorem dX4_layGains_119 : decode cX4_layGains 119 = .ok (.iload_n 3, 1) := by decide +kernel
theorem dX4_layGains_120 : decode cX4_layGains 120 = .ok (.iload 4, 2) := by decide +kernel
theorem dX4_layGains_122 : decode cX4_layGains 122 = .ok (.invokestatic 196, 3) := by decide +kernel
theorem dX4_layGains_125 : decode cX4_layGains 125 = .ok (.iconst 1, 1) := by decide +kernel
theorem dX4_layGains_126 : decode cX4_layGains 126 = .ok (.iadd, 1) := by decide +kernel
theorem dX4_layGains_127 : decode cX4_layGains 127 = .ok (.aload_n 0, 1) := by decide +kernel
theorem dX4_layGains_128 : decode cX4_layGains 128 = .ok (.iload_n 2, 1) := by decide +kernel
theorem dX4_layGains_129 : decode cX4_layGains 129 = .ok (.invokevirtual 159, 3) := by decide +kernel
theorem dX4_layGains_132 : decode cX4_layGains 132 = .ok (.bipush (-9), 2) := by decide +kernel
theorem dX4_layGains_134 : decode cX4_layGains 134 = .ok (.if_icmp .ne 8, 3) := by decide +kernel
theorem dX4_layGains_137 : decode cX4_layGains 137 = .ok (.bipush 9, 2) := by decide +kernel
theorem dX4_layGains_139 : decode cX4_layGains 139 = .ok (.goto 8, 3) := by decide +kernel
theorem dX4_layGains_142 : decode cX4_layGains 142 = .ok (.aload_n 0, 1) := by decide +kernel
theorem dX4_layGains_143 : decode cX4_layGains 143 = .ok (.iload_n 2, 1) := by decide +kernel
theorem dX4_layGains_144 : decode cX4_layGains 144 = .ok (.invokevirtual 159, 3) := by decide +kernel
theorem dX4_layGains_147 : decode cX4_layGains 147 = .ok (.iload 4, 2) := by decide +kernel
theorem dX4_layGains_149 : decode cX4_layGains 149 = .ok (.ifCond .le 7, 3) := by decide +kernel
theorem dX4_layGains_152 : decode cX4_layGains 152 = .ok (.iconst 1, 1) := by decide +kernel
theorem dX4_layGains_153 : decode cX4_layGains 153 = .ok (.goto 4, 3) := by decide +kernel
theorem dX4_layGains_156 : decode cX4_layGains 156 = .ok (.iconst 0, 1) := by decide +kernel
theorem dX4_layGains_157 : decode cX4_layGains 157 = .ok (.isub, 1) := by decide +kernel
theorem dX4_layGains_158 : decode cX4_layGains 158 = .ok (.iastore, 1) := by decide +kernel
theorem dX4_layGains_159 : decode cX4_layGains 159 = .ok (.iinc 4 1, 3) := by decide +kernel
theorem dX4_layGains_162 : decode cX4_layGains 162 = .ok (.goto (-149), 3) := by decide +kernel
theorem dX4_layGains_165 : decode cX4_layGains 165 = .ok (.iinc 3 1, 3) := by decide +kernel
theorem dX4_layGains_168 : decode cX4_layGains 168 = .ok (.goto (-166), 3) := by decide +kernel
theorem dX4_layGains_171 : decode cX4_layGains 171 = .ok (.return_, 1) := by decide +kernel
set_option maxRecDepth 20000 in
theorem ggX4_doRest_X4_cellOf : GoodIn wsX4_doRest wsX4_cellOf := goodIn_r _ [6] (by decide +kernel) (by decide +kernel)
set_option maxRecDepth 20000 in
theorem gX4_doRest_X4_cellOf : GoodIn wsX4_doRest (va_wsS RX4 196 yX4_cellOf wsX4_cellOf) := goodIn_app (goodIn_of _ (by decide +kernel)) ggX4_doRest_X4_cellOf
theorem dX4_doRest_0 : decode cX4_doRest 0 = .ok (.iload_n 3, 1) := by decide +kernel
theorem dX4_doRest_1 : decode cX4_doRest 1 = .ok (.iload_n 1, 1) := by decide +kernel
theorem dX4_doRest_2 : decode cX4_doRest 2 = .ok (.iconst 1, 1) := by decide +kernel
theorem dX4_doRest_3 : decode cX4_doRest 3 = .ok (.iadd, 1) := by decide +kernel
theorem dX4_doRest_4 : decode cX4_doRest 4 = .ok (.if_icmp .eq 15, 3) := by decide +kernel
theorem dX4_doRest_7 : decode cX4_doRest 7 = .ok (.iload 4, 2) := by decide +kernel
theorem dX4_doRest_9 : decode cX4_doRest 9 = .ok (.iload_n 2, 1) := by decide +kernel
theorem dX4_doRest_10 : decode cX4_doRest 10 = .ok (.iconst 1, 1) := by decide +kernel
theorem dX4_doRest_11 : decode cX4_doRest 11 = .ok (.iadd, 1) := by decide +kernel
theorem dX4_doRest_12 : decode cX4_doRest 12 = .ok (.if_icmp .eq 7, 3) := by decide +kernel
theorem dX4_doRest_15 : decode cX4_doRest 15 = .ok (.iconst 1, 1) := by decide +kernel
theorem dX4_doRest_16 : decode cX4_doRest 16 = .ok (.goto 4, 3) := by decide +kernel
theorem dX4_doRest_19 : decode cX4_doRest 19 = .ok (.iconst 0, 1) := by decide +kernel
theorem dX4_doRest_20 : decode cX4_doRest 20 = .ok (.istore 5, 2) := by decide +kernel
theorem dX4_doRest_22 : decode cX4_doRest 22 = .ok (.iconst 0, 1) := by decide +kernel
theorem dX4_doRest_23 : decode cX4_doRest 23 = .ok (.istore 6, 2) := by decide +kernel
theorem dX4_doRest_25 : decode cX4_doRest 25 = .ok (.iload 6, 2) := by decide +kernel
theorem dX4_doRest_27 : decode cX4_doRest 27 = .ok (.aload_n 0, 1) := by decide +kernel
theorem dX4_doRest_28 : decode cX4_doRest 28 = .ok (.getfield 64, 3) := by decide +kernel
theorem dX4_doRest_31 : decode cX4_doRest 31 = .ok (.if_icmp .gt 104, 3) := by decide +kernel
theorem dX4_doRest_34 : decode cX4_doRest 34 = .ok (.iload 5, 2) := by decide +kernel
theorem dX4_doRest_36 : decode cX4_doRest 36 = .ok (.ifCond .eq 41, 3) := by decide +kernel
theorem dX4_doRest_39 : decode cX4_doRest 39 = .ok (.iload 6, 2) := by decide +kernel
theorem dX4_doRest_41 : decode cX4_doRest 41 = .ok (.iload_n 1, 1) := by decide +kernel
theorem dX4_doRest_42 : decode cX4_doRest 42 = .ok (.iconst 1, 1) := by decide +kernel
theorem dX4_doRest_43 : decode cX4_doRest 43 = .ok (.iadd, 1) := by decide +kernel
theorem dX4_doRest_44 : decode cX4_doRest 44 = .ok (.if_icmp .eq 29, 3) := by decide +kernel
theorem dX4_doRest_47 : decode cX4_doRest 47 = .ok (.aload_n 0, 1) := by decide +kernel
theorem dX4_doRest_48 : decode cX4_doRest 48 = .ok (.getfield 53, 3) := by decide +kernel
theorem dX4_doRest_51 : decode cX4_doRest 51 = .ok (.iload 6, 2) := by decide +kernel
theorem dX4_doRest_53 : decode cX4_doRest 53 = .ok (.iload 4, 2) := by decide +kernel
theorem dX4_doRest_55 : decode cX4_doRest 55 = .ok (.invokestatic 196, 3) := by decide +kernel
theorem dX4_doRest_58 : decode cX4_doRest 58 = .ok (.iaload, 1) := by decide +kernel
theorem dX4_doRest_59 : decode cX4_doRest 59 = .ok (.aload_n 0, 1) := by decide +kernel
theorem dX4_doRest_60 : decode cX4_doRest 60 = .ok (.getfield 53, 3) := by decide +kernel
theorem dX4_doRest_63 : decode cX4_doRest 63 = .ok (.iload_n 3, 1) := by decide +kernel
theorem dX4_doRest_64 : decode cX4_doRest 64 = .ok (.iload 4, 2) := by decide +kernel
theorem dX4_doRest_66 : decode cX4_doRest 66 = .ok (.invokestatic 196, 3) := by decide +kernel
theorem dX4_doRest_69 : decode cX4_doRest 69 = .ok (.iaload, 1) := by decide +kernel
theorem dX4_doRest_70 : decode cX4_doRest 70 = .ok (.if_icmp .gt 7, 3) := by decide +kernel
theorem dX4_doRest_73 : decode cX4_doRest 73 = .ok (.iconst 1, 1) := by decide +kernel
theorem dX4_doRest_74 : decode cX4_doRest 74 = .ok (.goto 4, 3) := by decide +kernel
theorem dX4_doRest_77 : decode cX4_doRest 77 = .ok (.iconst 0, 1) := by decide +kernel
theorem dX4_doRest_78 : decode cX4_doRest 78 = .ok (.istore 5, 2) := by decide +kernel
theorem dX4_doRest_80 : decode cX4_doRest 80 = .ok (.iload 5, 2) := by decide +kernel
theorem dX4_doRest_82 : decode cX4_doRest 82 = .ok (.ifCond .eq 44, 3) := by decide +kernel
theorem dX4_doRest_85 : decode cX4_doRest 85 = .ok (.iload 6, 2) := by decide +kernel
theorem dX4_doRest_87 : decode cX4_doRest 87 = .ok (.iload_n 2, 1) := by decide +kernel
theorem dX4_doRest_88 : decode cX4_doRest 88 = .ok (.iconst 1, 1) := by decide +kernel
theorem dX4_doRest_89 : decode cX4_doRest 89 = .ok (.iadd, 1) := by decide +kernel
theorem dX4_doRest_90 : decode cX4_doRest 90 = .ok (.if_icmp .eq 32, 3) := by decide +kernel
theorem dX4_doRest_93 : decode cX4_doRest 93 = .ok (.aload_n 0, 1) := by decide +kernel
theorem dX4_doRest_94 : decode cX4_doRest 94 = .ok (.getfield 53, 3) := by decide +kernel
theorem dX4_doRest_97 : decode cX4_doRest 97 = .ok (.iload_n 3, 1) := by decide +kernel
theorem dX4_doRest_98 : decode cX4_doRest 98 = .ok (.iload 6, 2) := by decide +kernel
theorem dX4_doRest_100 : decode cX4_doRest 100 = .ok (.invokestatic 196, 3) := by decide +kernel
theorem dX4_doRest_103 : decode cX4_doRest 103 = .ok (.iconst 1, 1) := by decide +kernel
theorem dX4_doRest_104 : decode cX4_doRest 104 = .ok (.iadd, 1) := by decide +kernel
theorem dX4_doRest_105 : decode cX4_doRest 105 = .ok (.iaload, 1) := by decide +kernel
theorem dX4_doRest_106 : decode cX4_doRest 106 = .ok (.aload_n 0, 1) := by decide +kernel
theorem dX4_doRest_107 : decode cX4_doRest 107 = .ok (.getfield 53, 3) := by decide +kernel
theorem dX4_doRest_110 : decode cX4_doRest 110 = .ok (.iload_n 3, 1) := by decide +kernel
theorem dX4_doRest_111 : decode cX4_doRest 111 = .ok (.iload 4, 2) := by decide +kernel
theorem dX4_doRest_113 : decode cX4_doRest 113 = .ok (.invokestatic 196, 3) := by decide +kernel
theorem dX4_doRest_116 : decode cX4_doRest 116 = .ok (.iconst 1, 1) := by decide +kernel
theorem dX4_doRest_117 : decode cX4_doRest 117 = .ok (.iadd, 1) := by decide +kernel
theorem dX4_doRest_118 : decode cX4_doRest 118 = .ok (.iaload, 1) := by decide +kernel
theorem dX4_doRest_119 : decode cX4_doRest 119 = .ok (.if_icmp .gt 7, 3) := by decide +kernel
theorem dX4_doRest_122 : decode cX4_doRest 122 = .ok (.iconst 1, 1) := by decide +kernel
theorem dX4_doRest_123 : decode cX4_doRest 123 = .ok (.goto 4, 3) := by decide +kernel
theorem dX4_doRest_126 : decode cX4_doRest 126 = .ok (.iconst 0, 1) := by decide +kernel
theorem dX4_doRest_127 : decode cX4_doRest 127 = .ok (.istore 5, 2) := by decide +kernel
theorem dX4_doRest_129 : decode cX4_doRest 129 = .ok (.iinc 6 1, 3) := by decide +kernel
theorem dX4_doRest_132 : decode cX4_doRest 132 = .ok (.goto (-107), 3) := by decide +kernel
theorem dX4_doRest_135 : decode cX4_doRest 135 = .ok (.iload 5, 2) := by decide +kernel
theorem dX4_doRest_137 : decode cX4_doRest 137 = .ok (.ireturn, 1) := by decide +kernel
set_option maxRecDepth 20000 in
theorem ggX4_findRests_X4_layGains : GoodIn wsX4_findRests wsX4_layGains := goodIn_r _ [8, 3, 9, 10, 11, 12, 13, 7, 14, 15, 16, 17, 18, 19, 20, 21, 22, 23, 24, 25, 26, 27, 28, 29, 30, 31, 32, 33, 34, 35, 36, 37, 38, 39, 40, 41, 42, 43, 44, 45, 46, 47, 52, 53, 54, 55, 56, 57, 58, 59, 60, 61, 62, 63, 64, 65, 66, 67, 68, 69, 70, 71, 72, 73, 74, 75, 76, 77, 78, 79, 80] (by decide +kernel) (by decide +kernel)
set_option maxRecDepth 20000 in
theorem gX4_findRests_X4_layGains : GoodIn wsX4_findRests (wsV RX4 200 RX4 yX4_layGains wsX4_layGains) := goodIn_app (goodIn_of _ (by decide +kernel)) ggX4_findRests_X4_layGains
set_option maxRecDepth 20000 in
theorem ggX4_findRests_X4_doRest : GoodIn wsX4_findRests wsX4_doRest := goodIn_r _ [51, 3, 10, 41, 42, 7, 43, 52, 53, 54, 55, 56, 57, 58, 59, 60, 61, 62, 63, 64, 65, 66, 67, 68, 69, 70, 71, 72, 73, 74, 75, 76, 77, 78, 79, 80] (by decide +kernel) (by decide +kernel)
set_option maxRecDepth 20000 in
theorem gX4_findRests_X4_doRest : GoodIn wsX4_findRests (wsV RX4 210 RX4 yX4_doRest wsX4_doRest) := goodIn_app (goodIn_of _ (by decide +kernel)) ggX4_findRests_X4_doRest
theorem dX4_findRests_0 : decode cX4_findRests 0 = .ok (.aload_n 0, 1) := by decide +kernel
theorem dX4_findRests_1 : decode cX4_findRests 1 = .ok (.iload_n 1, 1) := by decide +kernel
theorem dX4_findRests_2 : decode cX4_findRests 2 = .ok (.iload_n 2, 1) := by decide +kernel
theorem dX4_findRests_3 : decode cX4_findRests 3 = .ok (.invokevirtual 200, 3) := by decide +kernel
theorem dX4_findRests_6 : decode cX4_findRests 6 = .ok (.aload_n 0, 1) := by decide +kernel
theorem dX4_findRests_7 : decode cX4_findRests 7 = .ok (.iconst 0, 1) := by decide +kernel
theorem dX4_findRests_8 : decode cX4_findRests 8 = .ok (.putfield 204, 3) := by decide +kernel
theorem dX4_findRests_11 : decode cX4_findRests 11 = .ok (.aload_n 0, 1) := by decide +kernel
theorem dX4_findRests_12 : decode cX4_findRests 12 = .ok (.bipush (-9), 2) := by decide +kernel
theorem dX4_findRests_14 : decode cX4_findRests 14 = .ok (.putfield 207, 3) := by decide +kernel
theorem dX4_findRests_17 : decode cX4_findRests 17 = .ok (.iconst 0, 1) := by decide +kernel
theorem dX4_findRests_18 : decode cX4_findRests 18 = .ok (.istore_n 3, 1) := by decide +kernel
theorem dX4_findRests_19 : decode cX4_findRests 19 = .ok (.iload_n 3, 1) := by decide +kernel
theorem dX4_findRests_20 : decode cX4_findRests 20 = .ok (.aload_n 0, 1) := by decide +kernel
theorem dX4_findRests_21 : decode cX4_findRests 21 = .ok (.getfield 64, 3) := by decide +kernel
theorem dX4_findRests_24 : decode cX4_findRests 24 = .ok (.if_icmp .gt 74, 3) := by decide +kernel
theorem dX4_findRests_27 : decode cX4_findRests 27 = .ok (.iconst 0, 1) := by decide +kernel
theorem dX4_findRests_28 : decode cX4_findRests 28 = .ok (.istore 4, 2) := by decide +kernel
theorem dX4_findRests_30 : decode cX4_findRests 30 = .ok (.iload 4, 2) := by decide +kernel
theorem dX4_findRests_32 : decode cX4_findRests 32 = .ok (.aload_n 0, 1) := by decide +kernel
theorem dX4_findRests_33 : decode cX4_findRests 33 = .ok (.getfield 64, 3) := by decide +kernel
theorem dX4_findRests_36 : decode cX4_findRests 36 = .ok (.if_icmp .gt 56, 3) := by decide +kernel
theorem dX4_findRests_39 : decode cX4_findRests 39 = .ok (.aload_n 0, 1) := by decide +kernel
theorem dX4_findRests_40 : decode cX4_findRests 40 = .ok (.iload_n 1, 1) := by decide +kernel
theorem dX4_findRests_41 : decode cX4_findRests 41 = .ok (.iload_n 2, 1) := by decide +kernel
theorem dX4_findRests_42 : decode cX4_findRests 42 = .ok (.iload_n 3, 1) := by decide +kernel
theorem dX4_findRests_43 : decode cX4_findRests 43 = .ok (.iload 4, 2) := by decide +kernel
theorem dX4_findRests_45 : decode cX4_findRests 45 = .ok (.invokevirtual 210, 3) := by decide +kernel
theorem dX4_findRests_48 : decode cX4_findRests 48 = .ok (.ifCond .eq 38, 3) := by decide +kernel
theorem dX4_findRests_51 : decode cX4_findRests 51 = .ok (.aload_n 0, 1) := by decide +kernel
theorem dX4_findRests_52 : decode cX4_findRests 52 = .ok (.aload_n 0, 1) := by decide +kernel
theorem dX4_findRests_53 : decode cX4_findRests 53 = .ok (.getfield 204, 3) := by decide +kernel
theorem dX4_findRests_56 : decode cX4_findRests 56 = .ok (.ifCond .ne 13, 3) := by decide +kernel
theorem dX4_findRests_59 : decode cX4_findRests 59 = .ok (.bipush 10, 2) := by decide +kernel
theorem dX4_findRests_61 : decode cX4_findRests 61 = .ok (.iload_n 3, 1) := by decide +kernel
theorem dX4_findRests_62 : decode cX4_findRests 62 = .ok (.imul, 1) := by decide +kernel
theorem dX4_findRests_63 : decode cX4_findRests 63 = .ok (.iload 4, 2) := by decide +kernel
theorem dX4_findRests_65 : decode cX4_findRests 65 = .ok (.iadd, 1) := by decide +kernel
theorem dX4_findRests_66 : decode cX4_findRests 66 = .ok (.goto 7, 3) := by decide +kernel
theorem dX4_findRests_69 : decode cX4_findRests 69 = .ok (.aload_n 0, 1) := by decide +kernel
theorem dX4_findRests_70 : decode cX4_findRests 70 = .ok (.getfield 207, 3) := by decide +kernel
theorem dX4_findRests_73 : decode cX4_findRests 73 = .ok (.putfield 207, 3) := by decide +kernel
theorem dX4_findRests_76 : decode cX4_findRests 76 = .ok (.aload_n 0, 1) := by decide +kernel
theorem dX4_findRests_77 : decode cX4_findRests 77 = .ok (.dup, 1) := by decide +kernel
theorem dX4_findRests_78 : decode cX4_findRests 78 = .ok (.getfield 204, 3) := by decide +kernel
theorem dX4_findRests_81 : decode cX4_findRests 81 = .ok (.iconst 1, 1) := by decide +kernel
theorem dX4_findRests_82 : decode cX4_findRests 82 = .ok (.iadd, 1) := by decide +kernel
theorem dX4_findRests_83 : decode cX4_findRests 83 = .ok (.putfield 204, 3) := by decide +kernel
theorem dX4_findRests_86 : decode cX4_findRests 86 = .ok (.iinc 4 1, 3) := by decide +kernel
theorem dX4_findRests_89 : decode cX4_findRests 89 = .ok (.goto (-59), 3) := by decide +kernel
theorem dX4_findRests_92 : decode cX4_findRests 92 = .ok (.iinc 3 1, 3) := by decide +kernel
theorem dX4_findRests_95 : decode cX4_findRests 95 = .ok (.goto (-76), 3) := by decide +kernel
theorem dX4_findRests_98 : decode cX4_findRests 98 = .ok (.return_, 1) := by decide +kernel
set_option maxRecDepth 20000 in
theorem ggX4_rests_X4_noPerson : GoodIn wsX4_rests wsX4_noPerson := goodIn_r _ [9, 10, 11, 12, 8, 13, 64, 65, 66, 67, 68, 69, 70, 71, 72, 73, 74, 75, 76, 77, 78, 79, 80, 81, 82, 83, 84, 85, 86, 87, 88, 89, 90, 91, 92] (by decide +kernel) (by decide +kernel)
set_option maxRecDepth 20000 in
theorem gX4_rests_X4_noPerson : GoodIn wsX4_rests (wsV RX4 134 RX4 yX4_noPerson wsX4_noPerson) := goodIn_app (goodIn_of _ (by decide +kernel)) ggX4_rests_X4_noPerson
set_option maxRecDepth 20000 in
theorem ggX4_rests_X4_in : GoodIn wsX4_rests wsX4_in := goodIn_r _ [13] (by decide +kernel) (by decide +kernel)
set_option maxRecDepth 20000 in
theorem gX4_rests_X4_in : GoodIn wsX4_rests (va_wsS RX4 67 yX4_in wsX4_in) := goodIn_app (goodIn_of _ (by decide +kernel)) ggX4_rests_X4_in
set_option maxRecDepth 20000 in
theorem ggX4_rests_X4_has : GoodIn wsX4_rests wsX4_has := goodIn_r _ [16] (by decide +kernel) (by decide +kernel)
set_option maxRecDepth 20000 in
theorem gX4_rests_X4_has : GoodIn wsX4_rests (va_wsS RX4 89 yX4_has wsX4_has) := goodIn_app (goodIn_of _ (by decide +kernel)) ggX4_rests_X4_has
set_option maxRecDepth 20000 in
theorem ggX4_rests_X4_findRests : GoodIn wsX4_rests wsX4_findRests := goodIn_r _ [20, 3, 4, 10, 21, 22, 23, 8, 24, 25, 26, 27, 28, 29, 30, 2, 31, 32, 33, 34, 35, 36, 37, 38, 39, 40, 14, 15, 16, 41, 42, 43, 44, 45, 46, 47, 48, 49, 50, 51, 52, 53, 54, 55, 56, 57, 58, 59, 60, 61, 62, 63, 64, 65, 66, 67, 68, 69, 70, 71, 72, 73, 74, 75, 76, 77, 78, 79, 80, 81, 82, 83, 84, 85, 86, 87, 88, 89, 90, 91, 92] (by decide +kernel) (by decide +kernel)
set_option maxRecDepth 20000 in
theorem gX4_rests_X4_findRests : GoodIn wsX4_rests (wsV RX4 214 RX4 yX4_findRests wsX4_findRests) := goodIn_app (goodIn_of _ (by decide +kernel)) ggX4_rests_X4_findRests
theorem dX4_rests_0 : decode cX4_rests 0 = .ok (.aload_n 0, 1) := by decide +kernel
theorem dX4_rests_1 : decode cX4_rests 1 = .ok (.iconst 0, 1) := by decide +kernel
theorem dX4_rests_2 : decode cX4_rests 2 = .ok (.putfield 60, 3) := by decide +kernel
theorem dX4_rests_5 : decode cX4_rests 5 = .ok (.aload_n 0, 1) := by decide +kernel
theorem dX4_rests_6 : decode cX4_rests 6 = .ok (.iload_n 1, 1) := by decide +kernel
theorem dX4_rests_7 : decode cX4_rests 7 = .ok (.invokevirtual 134, 3) := by decide +kernel
theorem dX4_rests_10 : decode cX4_rests 10 = .ok (.ifCond .ne 11, 3) := by decide +kernel
theorem dX4_rests_13 : decode cX4_rests 13 = .ok (.aload_n 0, 1) := by decide +kernel
theorem dX4_rests_14 : decode cX4_rests 14 = .ok (.iload_n 2, 1) := by decide +kernel
theorem dX4_rests_15 : decode cX4_rests 15 = .ok (.invokevirtual 134, 3) := by decide +kernel
theorem dX4_rests_18 : decode cX4_rests 18 = .ok (.ifCond .eq 5, 3) := by decide +kernel
theorem dX4_rests_21 : decode cX4_rests 21 = .ok (.iconst (-1), 1) := by decide +kernel
theorem dX4_rests_22 : decode cX4_rests 22 = .ok (.ireturn, 1) := by decide +kernel
theorem dX4_rests_23 : decode cX4_rests 23 = .ok (.iload_n 1, 1) := by decide +kernel
theorem dX4_rests_24 : decode cX4_rests 24 = .ok (.iload_n 2, 1) := by decide +kernel
theorem dX4_rests_25 : decode cX4_rests 25 = .ok (.if_icmp .eq 13, 3) := by decide +kernel
end
section
theorem dX4_rests_28 : decode cX4_rests 28 = .ok (.iload_n 3, 1) := by decide +kernel
theorem dX4_rests_29 : decode cX4_rests 29 = .ok (.i2l, 1) := by decide +kernel
theorem dX4_rests_30 : decode cX4_rests 30 = .ok (.lconst 0, 1) := by decide +kernel
theorem dX4_rests_31 : decode cX4_rests 31 = .ok (.lconst 1, 1) := by decide +kernel
theorem dX4_rests_32 : decode cX4_rests 32 = .ok (.invokestatic 67, 3) := by decide +kernel
theorem dX4_rests_35 : decode cX4_rests 35 = .ok (.ifCond .ne 6, 3) := by decide +kernel
theorem dX4_rests_38 : decode cX4_rests 38 = .ok (.bipush (-2), 2) := by decide +kernel
theorem dX4_rests_40 : decode cX4_rests 40 = .ok (.ireturn, 1) := by decide +kernel
theorem dX4_rests_41 : decode cX4_rests 41 = .ok (.aload_n 0, 1) := by decide +kernel
theorem dX4_rests_42 : decode cX4_rests 42 = .ok (.getfield 25, 3) := by decide +kernel
theorem dX4_rests_45 : decode cX4_rests 45 = .ok (.bipush 14, 2) := by decide +kernel
theorem dX4_rests_47 : decode cX4_rests 47 = .ok (.iaload, 1) := by decide +kernel
theorem dX4_rests_48 : decode cX4_rests 48 = .ok (.iload_n 1, 1) := by decide +kernel
theorem dX4_rests_49 : decode cX4_rests 49 = .ok (.invokestatic 89, 3) := by decide +kernel
theorem dX4_rests_52 : decode cX4_rests 52 = .ok (.ifCond .eq 17, 3) := by decide +kernel
theorem dX4_rests_55 : decode cX4_rests 55 = .ok (.aload_n 0, 1) := by decide +kernel
theorem dX4_rests_56 : decode cX4_rests 56 = .ok (.getfield 25, 3) := by decide +kernel
theorem dX4_rests_59 : decode cX4_rests 59 = .ok (.bipush 14, 2) := by decide +kernel
theorem dX4_rests_61 : decode cX4_rests 61 = .ok (.iaload, 1) := by decide +kernel
theorem dX4_rests_62 : decode cX4_rests 62 = .ok (.iload_n 2, 1) := by decide +kernel
theorem dX4_rests_63 : decode cX4_rests 63 = .ok (.invokestatic 89, 3) := by decide +kernel
theorem dX4_rests_66 : decode cX4_rests 66 = .ok (.ifCond .ne 6, 3) := by decide +kernel
theorem dX4_rests_69 : decode cX4_rests 69 = .ok (.bipush (-3), 2) := by decide +kernel
theorem dX4_rests_71 : decode cX4_rests 71 = .ok (.ireturn, 1) := by decide +kernel
theorem dX4_rests_72 : decode cX4_rests 72 = .ok (.aload_n 0, 1) := by decide +kernel
theorem dX4_rests_73 : decode cX4_rests 73 = .ok (.iload_n 1, 1) := by decide +kernel
theorem dX4_rests_74 : decode cX4_rests 74 = .ok (.iload_n 2, 1) := by decide +kernel
theorem dX4_rests_75 : decode cX4_rests 75 = .ok (.invokevirtual 214, 3) := by decide +kernel
theorem dX4_rests_78 : decode cX4_rests 78 = .ok (.iload_n 3, 1) := by decide +kernel
theorem dX4_rests_79 : decode cX4_rests 79 = .ok (.ifCond .ne 10, 3) := by decide +kernel
theorem dX4_rests_82 : decode cX4_rests 82 = .ok (.aload_n 0, 1) := by decide +kernel
theorem dX4_rests_83 : decode cX4_rests 83 = .ok (.getfield 204, 3) := by decide +kernel
theorem dX4_rests_86 : decode cX4_rests 86 = .ok (.goto 7, 3) := by decide +kernel
theorem dX4_rests_89 : decode cX4_rests 89 = .ok (.aload_n 0, 1) := by decide +kernel
theorem dX4_rests_90 : decode cX4_rests 90 = .ok (.getfield 207, 3) := by decide +kernel
theorem dX4_rests_93 : decode cX4_rests 93 = .ok (.ireturn, 1) := by decide +kernel
set_option maxRecDepth 20000 in
theorem ggX4_toss_X4_noPerson : GoodIn wsX4_toss wsX4_noPerson := goodIn_r _ [11, 6, 12, 13, 10, 14, 44, 45, 46, 47, 48, 49, 50, 51, 52, 53, 54, 55, 56, 57, 58, 59, 60, 61, 62, 63, 64, 65, 66, 67, 68, 69, 70, 71, 72] (by decide +kernel) (by decide +kernel)
set_option maxRecDepth 20000 in
theorem gX4_toss_X4_noPerson : GoodIn wsX4_toss (wsV RX4 134 RX4 yX4_noPerson wsX4_noPerson) := goodIn_app (goodIn_of _ (by decide +kernel)) ggX4_toss_X4_noPerson
set_option maxRecDepth 20000 in
theorem ggX4_toss_X4_begin : GoodIn wsX4_toss wsX4_begin := goodIn_r _ [18, 5, 4, 44, 45, 46, 47, 48, 49, 50, 51, 52, 53, 54, 55, 56, 57, 58, 59, 60, 61, 62, 63, 64, 65, 66, 67, 68, 69, 70, 71, 72] (by decide +kernel) (by decide +kernel)
set_option maxRecDepth 20000 in
theorem gX4_toss_X4_begin : GoodIn wsX4_toss (wsV RX4 153 RX4 yX4_begin wsX4_begin) := goodIn_app (goodIn_of _ (by decide +kernel)) ggX4_toss_X4_begin
set_option maxRecDepth 20000 in
theorem ggX4_toss_X4_mayOf : GoodIn wsX4_toss wsX4_mayOf := goodIn_r _ [22, 6, 23, 24, 10, 25, 26, 27, 28, 29, 30, 31, 32, 33, 34, 44, 45, 46, 47, 48, 49, 50, 51, 52, 53, 54, 55, 56, 57, 58, 59, 60, 61, 62, 63, 64, 65, 66, 67, 68, 69, 70, 71, 72] (by decide +kernel) (by decide +kernel)
set_option maxRecDepth 20000 in
theorem gX4_toss_X4_mayOf : GoodIn wsX4_toss (wsV RX4 124 RX4 yX4_mayOf wsX4_mayOf) := goodIn_app (goodIn_of _ (by decide +kernel)) ggX4_toss_X4_mayOf
set_option maxRecDepth 20000 in
theorem ggX4_toss_X4_has : GoodIn wsX4_toss wsX4_has := goodIn_r _ [25] (by decide +kernel) (by decide +kernel)
set_option maxRecDepth 20000 in
theorem gX4_toss_X4_has : GoodIn wsX4_toss (va_wsS RX4 89 yX4_has wsX4_has) := goodIn_app (goodIn_of _ (by decide +kernel)) ggX4_toss_X4_has
set_option maxRecDepth 20000 in
theorem ggX4_toss_X4_many : GoodIn wsX4_toss wsX4_many := goodIn_r _ [37] (by decide +kernel) (by decide +kernel)
set_option maxRecDepth 20000 in
theorem gX4_toss_X4_many : GoodIn wsX4_toss (va_wsS RX4 141 yX4_many wsX4_many) := goodIn_app (goodIn_of _ (by decide +kernel)) ggX4_toss_X4_many
set_option maxRecDepth 20000 in
theorem ggX4_toss_X4_fraction : GoodIn wsX4_toss wsX4_fraction := goodIn_r _ [40, 41, 42, 10, 43] (by decide +kernel) (by decide +kernel)
set_option maxRecDepth 20000 in
theorem gX4_toss_X4_fraction : GoodIn wsX4_toss (va_wsS RX4 189 yX4_fraction wsX4_fraction) := goodIn_app (goodIn_of _ (by decide +kernel)) ggX4_toss_X4_fraction
theorem dX4_toss_0 : decode cX4_toss 0 = .ok (.aload_n 0, 1) := by decide +kernel
theorem dX4_toss_1 : decode cX4_toss 1 = .ok (.iconst 0, 1) := by decide +kernel
theorem dX4_toss_2 : decode cX4_toss 2 = .ok (.putfield 60, 3) := by decide +kernel
theorem dX4_toss_5 : decode cX4_toss 5 = .ok (.aload_n 0, 1) := by decide +kernel
theorem dX4_toss_6 : decode cX4_toss 6 = .ok (.iload_n 1, 1) := by decide +kernel
theorem dX4_toss_7 : decode cX4_toss 7 = .ok (.invokevirtual 134, 3) := by decide +kernel
theorem dX4_toss_10 : decode cX4_toss 10 = .ok (.ifCond .eq 5, 3) := by decide +kernel
theorem dX4_toss_13 : decode cX4_toss 13 = .ok (.iconst (-1), 1) := by decide +kernel
theorem dX4_toss_14 : decode cX4_toss 14 = .ok (.ireturn, 1) := by decide +kernel
theorem dX4_toss_15 : decode cX4_toss 15 = .ok (.lconst 1, 1) := by decide +kernel
theorem dX4_toss_16 : decode cX4_toss 16 = .ok (.lstore_n 3, 1) := by decide +kernel
theorem dX4_toss_17 : decode cX4_toss 17 = .ok (.iconst 0, 1) := by decide +kernel
theorem dX4_toss_18 : decode cX4_toss 18 = .ok (.istore 5, 2) := by decide +kernel
theorem dX4_toss_20 : decode cX4_toss 20 = .ok (.iload 5, 2) := by decide +kernel
theorem dX4_toss_22 : decode cX4_toss 22 = .ok (.bipush 7, 2) := by decide +kernel
theorem dX4_toss_24 : decode cX4_toss 24 = .ok (.if_icmp .ge 15, 3) := by decide +kernel
theorem dX4_toss_27 : decode cX4_toss 27 = .ok (.lload_n 3, 1) := by decide +kernel
theorem dX4_toss_28 : decode cX4_toss 28 = .ok (.ldc2_w 217, 3) := by decide +kernel
theorem dX4_toss_31 : decode cX4_toss 31 = .ok (.lmul, 1) := by decide +kernel
theorem dX4_toss_32 : decode cX4_toss 32 = .ok (.lstore_n 3, 1) := by decide +kernel
theorem dX4_toss_33 : decode cX4_toss 33 = .ok (.iinc 5 1, 3) := by decide +kernel
theorem dX4_toss_36 : decode cX4_toss 36 = .ok (.goto (-16), 3) := by decide +kernel
theorem dX4_toss_39 : decode cX4_toss 39 = .ok (.iconst 0, 1) := by decide +kernel
theorem dX4_toss_40 : decode cX4_toss 40 = .ok (.istore 5, 2) := by decide +kernel
theorem dX4_toss_42 : decode cX4_toss 42 = .ok (.iload 5, 2) := by decide +kernel
theorem dX4_toss_44 : decode cX4_toss 44 = .ok (.sipush 128, 3) := by decide +kernel
theorem dX4_toss_47 : decode cX4_toss 47 = .ok (.if_icmp .ge 17, 3) := by decide +kernel
theorem dX4_toss_50 : decode cX4_toss 50 = .ok (.aload_n 0, 1) := by decide +kernel
theorem dX4_toss_51 : decode cX4_toss 51 = .ok (.getfield 56, 3) := by decide +kernel
theorem dX4_toss_54 : decode cX4_toss 54 = .ok (.iload 5, 2) := by decide +kernel
theorem dX4_toss_56 : decode cX4_toss 56 = .ok (.lconst 0, 1) := by decide +kernel
theorem dX4_toss_57 : decode cX4_toss 57 = .ok (.lastore, 1) := by decide +kernel
theorem dX4_toss_58 : decode cX4_toss 58 = .ok (.iinc 5 1, 3) := by decide +kernel
theorem dX4_toss_61 : decode cX4_toss 61 = .ok (.goto (-19), 3) := by decide +kernel
theorem dX4_toss_64 : decode cX4_toss 64 = .ok (.aload_n 0, 1) := by decide +kernel
theorem dX4_toss_65 : decode cX4_toss 65 = .ok (.getfield 56, 3) := by decide +kernel
theorem dX4_toss_68 : decode cX4_toss 68 = .ok (.aload_n 0, 1) := by decide +kernel
theorem dX4_toss_69 : decode cX4_toss 69 = .ok (.getfield 25, 3) := by decide +kernel
theorem dX4_toss_72 : decode cX4_toss 72 = .ok (.bipush 14, 2) := by decide +kernel
theorem dX4_toss_74 : decode cX4_toss 74 = .ok (.iaload, 1) := by decide +kernel
theorem dX4_toss_75 : decode cX4_toss 75 = .ok (.lload_n 3, 1) := by decide +kernel
theorem dX4_toss_76 : decode cX4_toss 76 = .ok (.lastore, 1) := by decide +kernel
theorem dX4_toss_77 : decode cX4_toss 77 = .ok (.lconst 0, 1) := by decide +kernel
theorem dX4_toss_78 : decode cX4_toss 78 = .ok (.lstore 5, 2) := by decide +kernel
theorem dX4_toss_80 : decode cX4_toss 80 = .ok (.aload_n 0, 1) := by decide +kernel
theorem dX4_toss_81 : decode cX4_toss 81 = .ok (.getfield 25, 3) := by decide +kernel
theorem dX4_toss_84 : decode cX4_toss 84 = .ok (.bipush 14, 2) := by decide +kernel
theorem dX4_toss_86 : decode cX4_toss 86 = .ok (.iaload, 1) := by decide +kernel
theorem dX4_toss_87 : decode cX4_toss 87 = .ok (.istore 7, 2) := by decide +kernel
theorem dX4_toss_89 : decode cX4_toss 89 = .ok (.iload 7, 2) := by decide +kernel
theorem dX4_toss_91 : decode cX4_toss 91 = .ok (.ifCond .lt 124, 3) := by decide +kernel
theorem dX4_toss_94 : decode cX4_toss 94 = .ok (.aload_n 0, 1) := by decide +kernel
theorem dX4_toss_95 : decode cX4_toss 95 = .ok (.getfield 56, 3) := by decide +kernel
theorem dX4_toss_98 : decode cX4_toss 98 = .ok (.iload 7, 2) := by decide +kernel
theorem dX4_toss_100 : decode cX4_toss 100 = .ok (.laload, 1) := by decide +kernel
theorem dX4_toss_101 : decode cX4_toss 101 = .ok (.lconst 0, 1) := by decide +kernel
theorem dX4_toss_102 : decode cX4_toss 102 = .ok (.lcmp, 1) := by decide +kernel
theorem dX4_toss_103 : decode cX4_toss 103 = .ok (.ifCond .le 106, 3) := by decide +kernel
theorem dX4_toss_106 : decode cX4_toss 106 = .ok (.aload_n 0, 1) := by decide +kernel
theorem dX4_toss_107 : decode cX4_toss 107 = .ok (.invokevirtual 153, 3) := by decide +kernel
theorem dX4_toss_110 : decode cX4_toss 110 = .ok (.aload_n 0, 1) := by decide +kernel
theorem dX4_toss_111 : decode cX4_toss 111 = .ok (.getfield 28, 3) := by decide +kernel
theorem dX4_toss_114 : decode cX4_toss 114 = .ok (.bipush 14, 2) := by decide +kernel
theorem dX4_toss_116 : decode cX4_toss 116 = .ok (.iload 7, 2) := by decide +kernel
theorem dX4_toss_118 : decode cX4_toss 118 = .ok (.iastore, 1) := by decide +kernel
theorem dX4_toss_119 : decode cX4_toss 119 = .ok (.aload_n 0, 1) := by decide +kernel
theorem dX4_toss_120 : decode cX4_toss 120 = .ok (.aload_n 0, 1) := by decide +kernel
theorem dX4_toss_121 : decode cX4_toss 121 = .ok (.getfield 28, 3) := by decide +kernel
theorem dX4_toss_124 : decode cX4_toss 124 = .ok (.invokevirtual 124, 3) := by decide +kernel
theorem dX4_toss_127 : decode cX4_toss 127 = .ok (.istore 8, 2) := by decide +kernel
theorem dX4_toss_129 : decode cX4_toss 129 = .ok (.iconst 0, 1) := by decide +kernel
theorem dX4_toss_130 : decode cX4_toss 130 = .ok (.istore 9, 2) := by decide +kernel
theorem dX4_toss_132 : decode cX4_toss 132 = .ok (.iload 9, 2) := by decide +kernel
theorem dX4_toss_134 : decode cX4_toss 134 = .ok (.aload_n 0, 1) := by decide +kernel
theorem dX4_toss_135 : decode cX4_toss 135 = .ok (.getfield 64, 3) := by decide +kernel
theorem dX4_toss_138 : decode cX4_toss 138 = .ok (.if_icmp .ge 71, 3) := by decide +kernel
theorem dX4_toss_141 : decode cX4_toss 141 = .ok (.iload 8, 2) := by decide +kernel
theorem dX4_toss_143 : decode cX4_toss 143 = .ok (.iload 9, 2) := by decide +kernel
theorem dX4_toss_145 : decode cX4_toss 145 = .ok (.invokestatic 89, 3) := by decide +kernel
theorem dX4_toss_148 : decode cX4_toss 148 = .ok (.ifCond .eq 55, 3) := by decide +kernel
theorem dX4_toss_151 : decode cX4_toss 151 = .ok (.aload_n 0, 1) := by decide +kernel
theorem dX4_toss_152 : decode cX4_toss 152 = .ok (.getfield 56, 3) := by decide +kernel
theorem dX4_toss_155 : decode cX4_toss 155 = .ok (.iload 7, 2) := by decide +kernel
theorem dX4_toss_157 : decode cX4_toss 157 = .ok (.laload, 1) := by decide +kernel
theorem dX4_toss_158 : decode cX4_toss 158 = .ok (.iload 8, 2) := by decide +kernel
theorem dX4_toss_160 : decode cX4_toss 160 = .ok (.invokestatic 141, 3) := by decide +kernel
theorem dX4_toss_163 : decode cX4_toss 163 = .ok (.i2l, 1) := by decide +kernel
theorem dX4_toss_164 : decode cX4_toss 164 = .ok (.ldiv, 1) := by decide +kernel
theorem dX4_toss_165 : decode cX4_toss 165 = .ok (.lstore 10, 2) := by decide +kernel
theorem dX4_toss_167 : decode cX4_toss 167 = .ok (.aload_n 0, 1) := by decide +kernel
theorem dX4_toss_168 : decode cX4_toss 168 = .ok (.getfield 56, 3) := by decide +kernel
theorem dX4_toss_171 : decode cX4_toss 171 = .ok (.iload 7, 2) := by decide +kernel
theorem dX4_toss_173 : decode cX4_toss 173 = .ok (.iconst 1, 1) := by decide +kernel
theorem dX4_toss_174 : decode cX4_toss 174 = .ok (.iload 9, 2) := by decide +kernel
theorem dX4_toss_176 : decode cX4_toss 176 = .ok (.ishl, 1) := by decide +kernel
theorem dX4_toss_177 : decode cX4_toss 177 = .ok (.iconst (-1), 1) := by decide +kernel
theorem dX4_toss_178 : decode cX4_toss 178 = .ok (.ixor, 1) := by decide +kernel
theorem dX4_toss_179 : decode cX4_toss 179 = .ok (.iand, 1) := by decide +kernel
theorem dX4_toss_180 : decode cX4_toss 180 = .ok (.dup2, 1) := by decide +kernel
theorem dX4_toss_181 : decode cX4_toss 181 = .ok (.laload, 1) := by decide +kernel
theorem dX4_toss_182 : decode cX4_toss 182 = .ok (.lload 10, 2) := by decide +kernel
theorem dX4_toss_184 : decode cX4_toss 184 = .ok (.ladd, 1) := by decide +kernel
theorem dX4_toss_185 : decode cX4_toss 185 = .ok (.lastore, 1) := by decide +kernel
theorem dX4_toss_186 : decode cX4_toss 186 = .ok (.lload 5, 2) := by decide +kernel
theorem dX4_toss_188 : decode cX4_toss 188 = .ok (.iload 9, 2) := by decide +kernel
theorem dX4_toss_190 : decode cX4_toss 190 = .ok (.iload_n 1, 1) := by decide +kernel
theorem dX4_toss_191 : decode cX4_toss 191 = .ok (.if_icmp .ne 8, 3) := by decide +kernel
theorem dX4_toss_194 : decode cX4_toss 194 = .ok (.lload 10, 2) := by decide +kernel
theorem dX4_toss_196 : decode cX4_toss 196 = .ok (.goto 4, 3) := by decide +kernel
theorem dX4_toss_199 : decode cX4_toss 199 = .ok (.lconst 0, 1) := by decide +kernel
theorem dX4_toss_200 : decode cX4_toss 200 = .ok (.ladd, 1) := by decide +kernel
theorem dX4_toss_201 : decode cX4_toss 201 = .ok (.lstore 5, 2) := by decide +kernel
theorem dX4_toss_203 : decode cX4_toss 203 = .ok (.iinc 9 1, 3) := by decide +kernel
theorem dX4_toss_206 : decode cX4_toss 206 = .ok (.goto (-74), 3) := by decide +kernel
theorem dX4_toss_209 : decode cX4_toss 209 = .ok (.iinc 7 (-1), 3) := by decide +kernel
theorem dX4_toss_212 : decode cX4_toss 212 = .ok (.goto (-123), 3) := by decide +kernel
theorem dX4_toss_215 : decode cX4_toss 215 = .ok (.lload 5, 2) := by decide +kernel
theorem dX4_toss_217 : decode cX4_toss 217 = .ok (.lload_n 3, 1) := by decide +kernel
theorem dX4_toss_218 : decode cX4_toss 218 = .ok (.iload_n 2, 1) := by decide +kernel
theorem dX4_toss_219 : decode cX4_toss 219 = .ok (.invokestatic 189, 3) := by decide +kernel
theorem dX4_toss_222 : decode cX4_toss 222 = .ok (.ireturn, 1) := by decide +kernel
theorem dX4_seed_0 : decode cX4_seed 0 = .ok (.aload_n 0, 1) := by decide +kernel
theorem dX4_seed_1 : decode cX4_seed 1 = .ok (.iconst 0, 1) := by decide +kernel
theorem dX4_seed_2 : decode cX4_seed 2 = .ok (.putfield 60, 3) := by decide +kernel
theorem dX4_seed_5 : decode cX4_seed 5 = .ok (.aload_n 0, 1) := by decide +kernel
theorem dX4_seed_6 : decode cX4_seed 6 = .ok (.getfield 219, 3) := by decide +kernel
theorem dX4_seed_9 : decode cX4_seed 9 = .ok (.lstore_n 3, 1) := by decide +kernel
theorem dX4_seed_10 : decode cX4_seed 10 = .ok (.aload_n 0, 1) := by decide +kernel
theorem dX4_seed_11 : decode cX4_seed 11 = .ok (.lload_n 1, 1) := by decide +kernel
theorem dX4_seed_12 : decode cX4_seed 12 = .ok (.putfield 219, 3) := by decide +kernel
theorem dX4_seed_15 : decode cX4_seed 15 = .ok (.lload_n 3, 1) := by decide +kernel
theorem dX4_seed_16 : decode cX4_seed 16 = .ok (.lreturn, 1) := by decide +kernel
set_option maxRecDepth 20000 in
theorem ggX4_days_X4_in : GoodIn wsX4_days wsX4_in := goodIn_r _ [11] (by decide +kernel) (by decide +kernel)
set_option maxRecDepth 20000 in
theorem gX4_days_X4_in : GoodIn wsX4_days (va_wsS RX4 67 yX4_in wsX4_in) := goodIn_app (goodIn_of _ (by decide +kernel)) ggX4_days_X4_in
set_option maxRecDepth 20000 in
theorem ggX4_days_X4_begin : GoodIn wsX4_days wsX4_begin := goodIn_r _ [15, 7, 16, 48, 49, 50, 51, 52, 53, 54, 55, 56, 57, 58, 59, 60, 61, 62, 63, 64, 65, 66, 67, 68, 69, 70, 71, 72, 73, 74, 75, 76] (by decide +kernel) (by decide +kernel)
set_option maxRecDepth 20000 in
theorem gX4_days_X4_begin : GoodIn wsX4_days (wsV RX4 153 RX4 yX4_begin wsX4_begin) := goodIn_app (goodIn_of _ (by decide +kernel)) ggX4_days_X4_begin
set_option maxRecDepth 20000 in
theorem ggX4_days_X4_goDay : GoodIn wsX4_days wsX4_goDay := goodIn_r _ [20, 21, 22, 23, 10, 24, 25, 26, 27, 28, 29, 30, 31, 32, 33, 34, 35, 36, 37, 38, 39, 40, 48, 49, 50, 51, 52, 53, 54, 55, 56, 57, 58, 59, 60, 61, 62, 63, 64, 65, 66, 67, 68, 69, 70, 71, 72, 73, 74, 75, 76] (by decide +kernel) (by decide +kernel)
set_option maxRecDepth 20000 in
theorem gX4_days_X4_goDay : GoodIn wsX4_days (wsV RX4 150 RX4 yX4_goDay wsX4_goDay) := goodIn_app (goodIn_of _ (by decide +kernel)) ggX4_days_X4_goDay
set_option maxRecDepth 20000 in
theorem ggX4_days_X4_noPerson : GoodIn wsX4_days wsX4_noPerson := goodIn_r _ [44, 25, 8, 9, 10, 11, 48, 49, 50, 51, 52, 53, 54, 55, 56, 57, 58, 59, 60, 61, 62, 63, 64, 65, 66, 67, 68, 69, 70, 71, 72, 73, 74, 75, 76] (by decide +kernel) (by decide +kernel)
set_option maxRecDepth 20000 in
theorem gX4_days_X4_noPerson : GoodIn wsX4_days (wsV RX4 134 RX4 yX4_noPerson wsX4_noPerson) := goodIn_app (goodIn_of _ (by decide +kernel)) ggX4_days_X4_noPerson
set_option maxRecDepth 20000 in
theorem ggX4_days_X4_has : GoodIn wsX4_days wsX4_has := goodIn_r _ [28] (by decide +kernel) (by decide +kernel)
set_option maxRecDepth 20000 in
theorem gX4_days_X4_has : GoodIn wsX4_days (va_wsS RX4 89 yX4_has wsX4_has) := goodIn_app (goodIn_of _ (by decide +kernel)) ggX4_days_X4_has
set_option maxRecDepth 20000 in
theorem ggX4_days_X4_goDie : GoodIn wsX4_days wsX4_goDie := goodIn_r _ [47] (by decide +kernel) (by decide +kernel)
set_option maxRecDepth 20000 in
theorem gX4_days_X4_goDie : GoodIn wsX4_days (va_wsS RX4 144 yX4_goDie wsX4_goDie) := goodIn_app (goodIn_of _ (by decide +kernel)) ggX4_days_X4_goDie
theorem dX4_days_0 : decode cX4_days 0 = .ok (.aload_n 0, 1) := by decide +kernel
theorem dX4_days_1 : decode cX4_days 1 = .ok (.iconst 0, 1) := by decide +kernel
theorem dX4_days_2 : decode cX4_days 2 = .ok (.putfield 60, 3) := by decide +kernel
theorem dX4_days_5 : decode cX4_days 5 = .ok (.iload_n 1, 1) := by decide +kernel
theorem dX4_days_6 : decode cX4_days 6 = .ok (.i2l, 1) := by decide +kernel
theorem dX4_days_7 : decode cX4_days 7 = .ok (.lconst 1, 1) := by decide +kernel
theorem dX4_days_8 : decode cX4_days 8 = .ok (.ldc2_w 223, 3) := by decide +kernel
theorem dX4_days_11 : decode cX4_days 11 = .ok (.invokestatic 67, 3) := by decide +kernel
theorem dX4_days_14 : decode cX4_days 14 = .ok (.ifCond .ne 6, 3) := by decide +kernel
theorem dX4_days_17 : decode cX4_days 17 = .ok (.bipush (-2), 2) := by decide +kernel
theorem dX4_days_19 : decode cX4_days 19 = .ok (.ireturn, 1) := by decide +kernel
theorem dX4_days_20 : decode cX4_days 20 = .ok (.aload_n 0, 1) := by decide +kernel
theorem dX4_days_21 : decode cX4_days 21 = .ok (.invokevirtual 153, 3) := by decide +kernel
theorem dX4_days_24 : decode cX4_days 24 = .ok (.iconst 0, 1) := by decide +kernel
theorem dX4_days_25 : decode cX4_days 25 = .ok (.istore_n 2, 1) := by decide +kernel
theorem dX4_days_26 : decode cX4_days 26 = .ok (.iconst 0, 1) := by decide +kernel
theorem dX4_days_27 : decode cX4_days 27 = .ok (.istore_n 3, 1) := by decide +kernel
theorem dX4_days_28 : decode cX4_days 28 = .ok (.iload_n 3, 1) := by decide +kernel
theorem dX4_days_29 : decode cX4_days 29 = .ok (.iload_n 1, 1) := by decide +kernel
theorem dX4_days_30 : decode cX4_days 30 = .ok (.if_icmp .ge 103, 3) := by decide +kernel
theorem dX4_days_33 : decode cX4_days 33 = .ok (.aload_n 0, 1) := by decide +kernel
theorem dX4_days_34 : decode cX4_days 34 = .ok (.aload_n 0, 1) := by decide +kernel
theorem dX4_days_35 : decode cX4_days 35 = .ok (.getfield 219, 3) := by decide +kernel
theorem dX4_days_38 : decode cX4_days 38 = .ok (.ldc2_w 225, 3) := by decide +kernel
theorem dX4_days_41 : decode cX4_days 41 = .ok (.lmul, 1) := by decide +kernel
theorem dX4_days_42 : decode cX4_days 42 = .ok (.ldc2_w 227, 3) := by decide +kernel
theorem dX4_days_45 : decode cX4_days 45 = .ok (.ladd, 1) := by decide +kernel
theorem dX4_days_46 : decode cX4_days 46 = .ok (.putfield 219, 3) := by decide +kernel
theorem dX4_days_49 : decode cX4_days 49 = .ok (.aload_n 0, 1) := by decide +kernel
theorem dX4_days_50 : decode cX4_days 50 = .ok (.getfield 219, 3) := by decide +kernel
theorem dX4_days_53 : decode cX4_days 53 = .ok (.bipush 33, 2) := by decide +kernel
theorem dX4_days_55 : decode cX4_days 55 = .ok (.lushr, 1) := by decide +kernel
theorem dX4_days_56 : decode cX4_days 56 = .ok (.ldc2_w 229, 3) := by decide +kernel
theorem dX4_days_59 : decode cX4_days 59 = .ok (.lrem, 1) := by decide +kernel
theorem dX4_days_60 : decode cX4_days 60 = .ok (.l2i, 1) := by decide +kernel
theorem dX4_days_61 : decode cX4_days 61 = .ok (.istore 4, 2) := by decide +kernel
theorem dX4_days_63 : decode cX4_days 63 = .ok (.iload 4, 2) := by decide +kernel
theorem dX4_days_65 : decode cX4_days 65 = .ok (.bipush 7, 2) := by decide +kernel
theorem dX4_days_67 : decode cX4_days 67 = .ok (.if_icmp .lt 27, 3) := by decide +kernel
theorem dX4_days_70 : decode cX4_days 70 = .ok (.iload_n 2, 1) := by decide +kernel
theorem dX4_days_71 : decode cX4_days 71 = .ok (.aload_n 0, 1) := by decide +kernel
theorem dX4_days_72 : decode cX4_days 72 = .ok (.aload_n 0, 1) := by decide +kernel
theorem dX4_days_73 : decode cX4_days 73 = .ok (.getfield 28, 3) := by decide +kernel
theorem dX4_days_76 : decode cX4_days 76 = .ok (.invokevirtual 150, 3) := by decide +kernel
theorem dX4_days_79 : decode cX4_days 79 = .ok (.bipush (-9), 2) := by decide +kernel
theorem dX4_days_81 : decode cX4_days 81 = .ok (.if_icmp .ne 7, 3) := by decide +kernel
theorem dX4_days_84 : decode cX4_days 84 = .ok (.iconst 0, 1) := by decide +kernel
theorem dX4_days_85 : decode cX4_days 85 = .ok (.goto 4, 3) := by decide +kernel
theorem dX4_days_88 : decode cX4_days 88 = .ok (.iconst 1, 1) := by decide +kernel
theorem dX4_days_89 : decode cX4_days 89 = .ok (.iadd, 1) := by decide +kernel
theorem dX4_days_90 : decode cX4_days 90 = .ok (.istore_n 2, 1) := by decide +kernel
theorem dX4_days_91 : decode cX4_days 91 = .ok (.goto 36, 3) := by decide +kernel
theorem dX4_days_94 : decode cX4_days 94 = .ok (.aload_n 0, 1) := by decide +kernel
theorem dX4_days_95 : decode cX4_days 95 = .ok (.iload 4, 2) := by decide +kernel
theorem dX4_days_97 : decode cX4_days 97 = .ok (.invokevirtual 134, 3) := by decide +kernel
theorem dX4_days_100 : decode cX4_days 100 = .ok (.ifCond .ne 27, 3) := by decide +kernel
theorem dX4_days_103 : decode cX4_days 103 = .ok (.aload_n 0, 1) := by decide +kernel
theorem dX4_days_104 : decode cX4_days 104 = .ok (.getfield 28, 3) := by decide +kernel
theorem dX4_days_107 : decode cX4_days 107 = .ok (.bipush 15, 2) := by decide +kernel
theorem dX4_days_109 : decode cX4_days 109 = .ok (.iaload, 1) := by decide +kernel
theorem dX4_days_110 : decode cX4_days 110 = .ok (.iload 4, 2) := by decide +kernel
theorem dX4_days_112 : decode cX4_days 112 = .ok (.invokestatic 89, 3) := by decide +kernel
theorem dX4_days_115 : decode cX4_days 115 = .ok (.ifCond .ne 12, 3) := by decide +kernel
theorem dX4_days_118 : decode cX4_days 118 = .ok (.aload_n 0, 1) := by decide +kernel
theorem dX4_days_119 : decode cX4_days 119 = .ok (.getfield 28, 3) := by decide +kernel
theorem dX4_days_122 : decode cX4_days 122 = .ok (.iload 4, 2) := by decide +kernel
theorem dX4_days_124 : decode cX4_days 124 = .ok (.invokestatic 144, 3) := by decide +kernel
theorem dX4_days_127 : decode cX4_days 127 = .ok (.iinc 3 1, 3) := by decide +kernel
theorem dX4_days_130 : decode cX4_days 130 = .ok (.goto (-102), 3) := by decide +kernel
theorem dX4_days_133 : decode cX4_days 133 = .ok (.iload_n 2, 1) := by decide +kernel
theorem dX4_days_134 : decode cX4_days 134 = .ok (.ireturn, 1) := by decide +kernel
set_option maxRecDepth 20000 in
theorem ggX4_keep_X4_in : GoodIn wsX4_keep wsX4_in := goodIn_r _ [8] (by decide +kernel) (by decide +kernel)
set_option maxRecDepth 20000 in
theorem gX4_keep_X4_in : GoodIn wsX4_keep (va_wsS RX4 67 yX4_in wsX4_in) := goodIn_app (goodIn_of _ (by decide +kernel)) ggX4_keep_X4_in
theorem dX4_keep_0 : decode cX4_keep 0 = .ok (.aload_n 0, 1) := by decide +kernel
theorem dX4_keep_1 : decode cX4_keep 1 = .ok (.iconst 0, 1) := by decide +kernel
theorem dX4_keep_2 : decode cX4_keep 2 = .ok (.putfield 60, 3) := by decide +kernel
theorem dX4_keep_5 : decode cX4_keep 5 = .ok (.iload_n 1, 1) := by decide +kernel
theorem dX4_keep_6 : decode cX4_keep 6 = .ok (.i2l, 1) := by decide +kernel
theorem dX4_keep_7 : decode cX4_keep 7 = .ok (.lconst 0, 1) := by decide +kernel
theorem dX4_keep_8 : decode cX4_keep 8 = .ok (.lconst 1, 1) := by decide +kernel
theorem dX4_keep_9 : decode cX4_keep 9 = .ok (.invokestatic 67, 3) := by decide +kernel
theorem dX4_keep_12 : decode cX4_keep 12 = .ok (.ifCond .ne 5, 3) := by decide +kernel
theorem dX4_keep_15 : decode cX4_keep 15 = .ok (.iconst (-1), 1) := by decide +kernel
theorem dX4_keep_16 : decode cX4_keep 16 = .ok (.ireturn, 1) := by decide +kernel
theorem dX4_keep_17 : decode cX4_keep 17 = .ok (.aload_n 0, 1) := by decide +kernel
theorem dX4_keep_18 : decode cX4_keep 18 = .ok (.getfield 37, 3) := by decide +kernel
theorem dX4_keep_21 : decode cX4_keep 21 = .ok (.iload_n 1, 1) := by decide +kernel
theorem dX4_keep_22 : decode cX4_keep 22 = .ok (.iconst 1, 1) := by decide +kernel
theorem dX4_keep_23 : decode cX4_keep 23 = .ok (.bastore, 1) := by decide +kernel
theorem dX4_keep_24 : decode cX4_keep 24 = .ok (.iconst 0, 1) := by decide +kernel
theorem dX4_keep_25 : decode cX4_keep 25 = .ok (.istore_n 2, 1) := by decide +kernel
theorem dX4_keep_26 : decode cX4_keep 26 = .ok (.iload_n 2, 1) := by decide +kernel
theorem dX4_keep_27 : decode cX4_keep 27 = .ok (.bipush 17, 2) := by decide +kernel
theorem dX4_keep_29 : decode cX4_keep 29 = .ok (.if_icmp .ge 26, 3) := by decide +kernel
theorem dX4_keep_32 : decode cX4_keep 32 = .ok (.aload_n 0, 1) := by decide +kernel
theorem dX4_keep_33 : decode cX4_keep 33 = .ok (.getfield 34, 3) := by decide +kernel
theorem dX4_keep_36 : decode cX4_keep 36 = .ok (.bipush 17, 2) := by decide +kernel
theorem dX4_keep_38 : decode cX4_keep 38 = .ok (.iload_n 1, 1) := by decide +kernel
theorem dX4_keep_39 : decode cX4_keep 39 = .ok (.imul, 1) := by decide +kernel
theorem dX4_keep_40 : decode cX4_keep 40 = .ok (.iload_n 2, 1) := by decide +kernel
theorem dX4_keep_41 : decode cX4_keep 41 = .ok (.iadd, 1) := by decide +kernel
theorem dX4_keep_42 : decode cX4_keep 42 = .ok (.aload_n 0, 1) := by decide +kernel
theorem dX4_keep_43 : decode cX4_keep 43 = .ok (.getfield 25, 3) := by decide +kernel
theorem dX4_keep_46 : decode cX4_keep 46 = .ok (.iload_n 2, 1) := by decide +kernel
theorem dX4_keep_47 : decode cX4_keep 47 = .ok (.iaload, 1) := by decide +kernel
theorem dX4_keep_48 : decode cX4_keep 48 = .ok (.iastore, 1) := by decide +kernel
theorem dX4_keep_49 : decode cX4_keep 49 = .ok (.iinc 2 1, 3) := by decide +kernel
theorem dX4_keep_52 : decode cX4_keep 52 = .ok (.goto (-26), 3) := by decide +kernel
theorem dX4_keep_55 : decode cX4_keep 55 = .ok (.aload_n 0, 1) := by decide +kernel
theorem dX4_keep_56 : decode cX4_keep 56 = .ok (.getfield 25, 3) := by decide +kernel
theorem dX4_keep_59 : decode cX4_keep 59 = .ok (.bipush 16, 2) := by decide +kernel
theorem dX4_keep_61 : decode cX4_keep 61 = .ok (.iaload, 1) := by decide +kernel
theorem dX4_keep_62 : decode cX4_keep 62 = .ok (.ireturn, 1) := by decide +kernel
set_option maxRecDepth 20000 in
theorem ggX4_again_X4_in : GoodIn wsX4_again wsX4_in := goodIn_r _ [9] (by decide +kernel) (by decide +kernel)
set_option maxRecDepth 20000 in
theorem gX4_again_X4_in : GoodIn wsX4_again (va_wsS RX4 67 yX4_in wsX4_in) := goodIn_app (goodIn_of _ (by decide +kernel)) ggX4_again_X4_in
theorem dX4_again_0 : decode cX4_again 0 = .ok (.aload_n 0, 1) := by decide +kernel
theorem dX4_again_1 : decode cX4_again 1 = .ok (.iconst 0, 1) := by decide +kernel
theorem dX4_again_2 : decode cX4_again 2 = .ok (.putfield 60, 3) := by decide +kernel
theorem dX4_again_5 : decode cX4_again 5 = .ok (.iload_n 1, 1) := by decide +kernel
theorem dX4_again_6 : decode cX4_again 6 = .ok (.i2l, 1) := by decide +kernel
theorem dX4_again_7 : decode cX4_again 7 = .ok (.lconst 0, 1) := by decide +kernel
theorem dX4_again_8 : decode cX4_again 8 = .ok (.lconst 1, 1) := by decide +kernel
theorem dX4_again_9 : decode cX4_again 9 = .ok (.invokestatic 67, 3) := by decide +kernel
theorem dX4_again_12 : decode cX4_again 12 = .ok (.ifCond .ne 5, 3) := by decide +kernel
theorem dX4_again_15 : decode cX4_again 15 = .ok (.iconst (-1), 1) := by decide +kernel
theorem dX4_again_16 : decode cX4_again 16 = .ok (.ireturn, 1) := by decide +kernel
theorem dX4_again_17 : decode cX4_again 17 = .ok (.aload_n 0, 1) := by decide +kernel
theorem dX4_again_18 : decode cX4_again 18 = .ok (.getfield 37, 3) := by decide +kernel
theorem dX4_again_21 : decode cX4_again 21 = .ok (.iload_n 1, 1) := by decide +kernel
theorem dX4_again_22 : decode cX4_again 22 = .ok (.baload, 1) := by decide +kernel
theorem dX4_again_23 : decode cX4_again 23 = .ok (.ifCond .ne 6, 3) := by decide +kernel
theorem dX4_again_26 : decode cX4_again 26 = .ok (.bipush (-3), 2) := by decide +kernel
theorem dX4_again_28 : decode cX4_again 28 = .ok (.ireturn, 1) := by decide +kernel
theorem dX4_again_29 : decode cX4_again 29 = .ok (.iconst 0, 1) := by decide +kernel
theorem dX4_again_30 : decode cX4_again 30 = .ok (.istore_n 2, 1) := by decide +kernel
theorem dX4_again_31 : decode cX4_again 31 = .ok (.iload_n 2, 1) := by decide +kernel
theorem dX4_again_32 : decode cX4_again 32 = .ok (.bipush 17, 2) := by decide +kernel
theorem dX4_again_34 : decode cX4_again 34 = .ok (.if_icmp .ge 26, 3) := by decide +kernel
theorem dX4_again_37 : decode cX4_again 37 = .ok (.aload_n 0, 1) := by decide +kernel
theorem dX4_again_38 : decode cX4_again 38 = .ok (.getfield 25, 3) := by decide +kernel
theorem dX4_again_41 : decode cX4_again 41 = .ok (.iload_n 2, 1) := by decide +kernel
theorem dX4_again_42 : decode cX4_again 42 = .ok (.aload_n 0, 1) := by decide +kernel
theorem dX4_again_43 : decode cX4_again 43 = .ok (.getfield 34, 3) := by decide +kernel
theorem dX4_again_46 : decode cX4_again 46 = .ok (.bipush 17, 2) := by decide +kernel
theorem dX4_again_48 : decode cX4_again 48 = .ok (.iload_n 1, 1) := by decide +kernel
theorem dX4_again_49 : decode cX4_again 49 = .ok (.imul, 1) := by decide +kernel
theorem dX4_again_50 : decode cX4_again 50 = .ok (.iload_n 2, 1) := by decide +kernel
theorem dX4_again_51 : decode cX4_again 51 = .ok (.iadd, 1) := by decide +kernel
theorem dX4_again_52 : decode cX4_again 52 = .ok (.iaload, 1) := by decide +kernel
theorem dX4_again_53 : decode cX4_again 53 = .ok (.iastore, 1) := by decide +kernel
theorem dX4_again_54 : decode cX4_again 54 = .ok (.iinc 2 1, 3) := by decide +kernel
theorem dX4_again_57 : decode cX4_again 57 = .ok (.goto (-26), 3) := by decide +kernel
theorem dX4_again_60 : decode cX4_again 60 = .ok (.aload_n 0, 1) := by decide +kernel
theorem dX4_again_61 : decode cX4_again 61 = .ok (.iconst 0, 1) := by decide +kernel
theorem dX4_again_62 : decode cX4_again 62 = .ok (.putfield 110, 3) := by decide +kernel
theorem dX4_again_65 : decode cX4_again 65 = .ok (.aload_n 0, 1) := by decide +kernel
theorem dX4_again_66 : decode cX4_again 66 = .ok (.getfield 25, 3) := by decide +kernel
theorem dX4_again_69 : decode cX4_again 69 = .ok (.bipush 16, 2) := by decide +kernel
theorem dX4_again_71 : decode cX4_again 71 = .ok (.iaload, 1) := by decide +kernel
theorem dX4_again_72 : decode cX4_again 72 = .ok (.ireturn, 1) := by decide +kernel
theorem dJ6_bitCount_0f7a4_0 : decode cJ6_bitCount_0f7a4 0 = .ok (.iload_n 0, 1) := by decide +kernel
theorem dJ6_bitCount_0f7a4_1 : decode cJ6_bitCount_0f7a4 1 = .ok (.iload_n 0, 1) := by decide +kernel
theorem dJ6_bitCount_0f7a4_2 : decode cJ6_bitCount_0f7a4 2 = .ok (.iconst 1, 1) := by decide +kernel
theorem dJ6_bitCount_0f7a4_3 : decode cJ6_bitCount_0f7a4 3 = .ok (.iushr, 1) := by decide +kernel
theorem dJ6_bitCount_0f7a4_4 : decode cJ6_bitCount_0f7a4 4 = .ok (.ldc_w 265, 3) := by decide +kernel
theorem dJ6_bitCount_0f7a4_7 : decode cJ6_bitCount_0f7a4 7 = .ok (.iand, 1) := by decide +kernel
theorem dJ6_bitCount_0f7a4_8 : decode cJ6_bitCount_0f7a4 8 = .ok (.isub, 1) := by decide +kernel
theorem dJ6_bitCount_0f7a4_9 : decode cJ6_bitCount_0f7a4 9 = .ok (.istore_n 0, 1) := by decide +kernel
theorem dJ6_bitCount_0f7a4_10 : decode cJ6_bitCount_0f7a4 10 = .ok (.iload_n 0, 1) := by decide +kernel
theorem dJ6_bitCount_0f7a4_11 : decode cJ6_bitCount_0f7a4 11 = .ok (.ldc_w 266, 3) := by decide +kernel
theorem dJ6_bitCount_0f7a4_14 : decode cJ6_bitCount_0f7a4 14 = .ok (.iand, 1) := by decide +kernel
theorem dJ6_bitCount_0f7a4_15 : decode cJ6_bitCount_0f7a4 15 = .ok (.iload_n 0, 1) := by decide +kernel
theorem dJ6_bitCount_0f7a4_16 : decode cJ6_bitCount_0f7a4 16 = .ok (.iconst 2, 1) := by decide +kernel
theorem dJ6_bitCount_0f7a4_17 : decode cJ6_bitCount_0f7a4 17 = .ok (.iushr, 1) := by decide +kernel
theorem dJ6_bitCount_0f7a4_18 : decode cJ6_bitCount_0f7a4 18 = .ok (.ldc_w 266, 3) := by decide +kernel
theorem dJ6_bitCount_0f7a4_21 : decode cJ6_bitCount_0f7a4 21 = .ok (.iand, 1) := by decide +kernel
theorem dJ6_bitCount_0f7a4_22 : decode cJ6_bitCount_0f7a4 22 = .ok (.iadd, 1) := by decide +kernel
theorem dJ6_bitCount_0f7a4_23 : decode cJ6_bitCount_0f7a4 23 = .ok (.istore_n 0, 1) := by decide +kernel
theorem dJ6_bitCount_0f7a4_24 : decode cJ6_bitCount_0f7a4 24 = .ok (.iload_n 0, 1) := by decide +kernel
theorem dJ6_bitCount_0f7a4_25 : decode cJ6_bitCount_0f7a4 25 = .ok (.iload_n 0, 1) := by decide +kernel
theorem dJ6_bitCount_0f7a4_26 : decode cJ6_bitCount_0f7a4 26 = .ok (.iconst 4, 1) := by decide +kernel
theorem dJ6_bitCount_0f7a4_27 : decode cJ6_bitCount_0f7a4 27 = .ok (.iushr, 1) := by decide +kernel
theorem dJ6_bitCount_0f7a4_28 : decode cJ6_bitCount_0f7a4 28 = .ok (.iadd, 1) := by decide +kernel
theorem dJ6_bitCount_0f7a4_29 : decode cJ6_bitCount_0f7a4 29 = .ok (.ldc_w 267, 3) := by decide +kernel
theorem dJ6_bitCount_0f7a4_32 : decode cJ6_bitCount_0f7a4 32 = .ok (.iand, 1) := by decide +kernel
theorem dJ6_bitCount_0f7a4_33 : decode cJ6_bitCount_0f7a4 33 = .ok (.istore_n 0, 1) := by decide +kernel
theorem dJ6_bitCount_0f7a4_34 : decode cJ6_bitCount_0f7a4 34 = .ok (.iload_n 0, 1) := by decide +kernel
theorem dJ6_bitCount_0f7a4_35 : decode cJ6_bitCount_0f7a4 35 = .ok (.iload_n 0, 1) := by decide +kernel
theorem dJ6_bitCount_0f7a4_36 : decode cJ6_bitCount_0f7a4 36 = .ok (.bipush 8, 2) := by decide +kernel
theorem dJ6_bitCount_0f7a4_38 : decode cJ6_bitCount_0f7a4 38 = .ok (.iushr, 1) := by decide +kernel
theorem dJ6_bitCount_0f7a4_39 : decode cJ6_bitCount_0f7a4 39 = .ok (.iadd, 1) := by decide +kernel
theorem dJ6_bitCount_0f7a4_40 : decode cJ6_bitCount_0f7a4 40 = .ok (.istore_n 0, 1) := by decide +kernel
theorem dJ6_bitCount_0f7a4_41 : decode cJ6_bitCount_0f7a4 41 = .ok (.iload_n 0, 1) := by decide +kernel
theorem dJ6_bitCount_0f7a4_42 : decode cJ6_bitCount_0f7a4 42 = .ok (.iload_n 0, 1) := by decide +kernel
theorem dJ6_bitCount_0f7a4_43 : decode cJ6_bitCount_0f7a4 43 = .ok (.bipush 16, 2) := by decide +kernel
theorem dJ6_bitCount_0f7a4_45 : decode cJ6_bitCount_0f7a4 45 = .ok (.iushr, 1) := by decide +kernel
theorem dJ6_bitCount_0f7a4_46 : decode cJ6_bitCount_0f7a4 46 = .ok (.iadd, 1) := by decide +kernel
theorem dJ6_bitCount_0f7a4_47 : decode cJ6_bitCount_0f7a4 47 = .ok (.istore_n 0, 1) := by decide +kernel
theorem dJ6_bitCount_0f7a4_48 : decode cJ6_bitCount_0f7a4 48 = .ok (.iload_n 0, 1) := by decide +kernel
theorem dJ6_bitCount_0f7a4_49 : decode cJ6_bitCount_0f7a4 49 = .ok (.bipush 63, 2) := by decide +kernel
theorem dJ6_bitCount_0f7a4_51 : decode cJ6_bitCount_0f7a4 51 = .ok (.iand, 1) := by decide +kernel
theorem dJ6_bitCount_0f7a4_52 : decode cJ6_bitCount_0f7a4 52 = .ok (.ireturn, 1) := by decide +kernel
theorem dJ13_bitCount_95d88_0 : decode cJ13_bitCount_95d88 0 = .ok (.lload_n 0, 1) := by decide +kernel
theorem dJ13_bitCount_95d88_1 : decode cJ13_bitCount_95d88 1 = .ok (.lload_n 0, 1) := by decide +kernel
theorem dJ13_bitCount_95d88_2 : decode cJ13_bitCount_95d88 2 = .ok (.iconst 1, 1) := by decide +kernel
theorem dJ13_bitCount_95d88_3 : decode cJ13_bitCount_95d88 3 = .ok (.lushr, 1) := by decide +kernel
theorem dJ13_bitCount_95d88_4 : decode cJ13_bitCount_95d88 4 = .ok (.ldc2_w 314, 3) := by decide +kernel
theorem dJ13_bitCount_95d88_7 : decode cJ13_bitCount_95d88 7 = .ok (.land, 1) := by decide +kernel
theorem dJ13_bitCount_95d88_8 : decode cJ13_bitCount_95d88 8 = .ok (.lsub, 1) := by decide +kernel
theorem dJ13_bitCount_95d88_9 : decode cJ13_bitCount_95d88 9 = .ok (.lstore_n 0, 1) := by decide +kernel
theorem dJ13_bitCount_95d88_10 : decode cJ13_bitCount_95d88 10 = .ok (.lload_n 0, 1) := by decide +kernel
theorem dJ13_bitCount_95d88_11 : decode cJ13_bitCount_95d88 11 = .ok (.ldc2_w 316, 3) := by decide +kernel
theorem dJ13_bitCount_95d88_14 : decode cJ13_bitCount_95d88 14 = .ok (.land, 1) := by decide +kernel
theorem dJ13_bitCount_95d88_15 : decode cJ13_bitCount_95d88 15 = .ok (.lload_n 0, 1) := by decide +kernel
theorem dJ13_bitCount_95d88_16 : decode cJ13_bitCount_95d88 16 = .ok (.iconst 2, 1) := by decide +kernel
theorem dJ13_bitCount_95d88_17 : decode cJ13_bitCount_95d88 17 = .ok (.lushr, 1) := by decide +kernel
theorem dJ13_bitCount_95d88_18 : decode cJ13_bitCount_95d88 18 = .ok (.ldc2_w 316, 3) := by decide +kernel
theorem dJ13_bitCount_95d88_21 : decode cJ13_bitCount_95d88 21 = .ok (.land, 1) := by decide +kernel
theorem dJ13_bitCount_95d88_22 : decode cJ13_bitCount_95d88 22 = .ok (.ladd, 1) := by decide +kernel
theorem dJ13_bitCount_95d88_23 : decode cJ13_bitCount_95d88 23 = .ok (.lstore_n 0, 1) := by decide +kernel
theorem dJ13_bitCount_95d88_24 : decode cJ13_bitCount_95d88 24 = .ok (.lload_n 0, 1) := by decide +kernel
theorem dJ13_bitCount_95d88_25 : decode cJ13_bitCount_95d88 25 = .ok (.lload_n 0, 1) := by decide +kernel
theorem dJ13_bitCount_95d88_26 : decode cJ13_bitCount_95d88 26 = .ok (.iconst 4, 1) := by decide +kernel
theorem dJ13_bitCount_95d88_27 : decode cJ13_bitCount_95d88 27 = .ok (.lushr, 1) := by decide +kernel
theorem dJ13_bitCount_95d88_28 : decode cJ13_bitCount_95d88 28 = .ok (.ladd, 1) := by decide +kernel
theorem dJ13_bitCount_95d88_29 : decode cJ13_bitCount_95d88 29 = .ok (.ldc2_w 318, 3) := by decide +kernel
theorem dJ13_bitCount_95d88_32 : decode cJ13_bitCount_95d88 32 = .ok (.land, 1) := by decide +kernel
theorem dJ13_bitCount_95d88_33 : decode cJ13_bitCount_95d88 33 = .ok (.lstore_n 0, 1) := by decide +kernel
theorem dJ13_bitCount_95d88_34 : decode cJ13_bitCount_95d88 34 = .ok (.lload_n 0, 1) := by decide +kernel
theorem dJ13_bitCount_95d88_35 : decode cJ13_bitCount_95d88 35 = .ok (.lload_n 0, 1) := by decide +kernel
theorem dJ13_bitCount_95d88_36 : decode cJ13_bitCount_95d88 36 = .ok (.bipush 8, 2) := by decide +kernel
theorem dJ13_bitCount_95d88_38 : decode cJ13_bitCount_95d88 38 = .ok (.lushr, 1) := by decide +kernel
theorem dJ13_bitCount_95d88_39 : decode cJ13_bitCount_95d88 39 = .ok (.ladd, 1) := by decide +kernel
theorem dJ13_bitCount_95d88_40 : decode cJ13_bitCount_95d88 40 = .ok (.lstore_n 0, 1) := by decide +kernel
theorem dJ13_bitCount_95d88_41 : decode cJ13_bitCount_95d88 41 = .ok (.lload_n 0, 1) := by decide +kernel
theorem dJ13_bitCount_95d88_42 : decode cJ13_bitCount_95d88 42 = .ok (.lload_n 0, 1) := by decide +kernel
theorem dJ13_bitCount_95d88_43 : decode cJ13_bitCount_95d88 43 = .ok (.bipush 16, 2) := by decide +kernel
theorem dJ13_bitCount_95d88_45 : decode cJ13_bitCount_95d88 45 = .ok (.lushr, 1) := by decide +kernel
theorem dJ13_bitCount_95d88_46 : decode cJ13_bitCount_95d88 46 = .ok (.ladd, 1) := by decide +kernel
theorem dJ13_bitCount_95d88_47 : decode cJ13_bitCount_95d88 47 = .ok (.lstore_n 0, 1) := by decide +kernel
theorem dJ13_bitCount_95d88_48 : decode cJ13_bitCount_95d88 48 = .ok (.lload_n 0, 1) := by decide +kernel
theorem dJ13_bitCount_95d88_49 : decode cJ13_bitCount_95d88 49 = .ok (.lload_n 0, 1) := by decide +kernel
theorem dJ13_bitCount_95d88_50 : decode cJ13_bitCount_95d88 50 = .ok (.bipush 32, 2) := by decide +kernel
theorem dJ13_bitCount_95d88_52 : decode cJ13_bitCount_95d88 52 = .ok (.lushr, 1) := by decide +kernel
theorem dJ13_bitCount_95d88_53 : decode cJ13_bitCount_95d88 53 = .ok (.ladd, 1) := by decide +kernel
theorem dJ13_bitCount_95d88_54 : decode cJ13_bitCount_95d88 54 = .ok (.lstore_n 0, 1) := by decide +kernel
theorem dJ13_bitCount_95d88_55 : decode cJ13_bitCount_95d88 55 = .ok (.lload_n 0, 1) := by decide +kernel
theorem dJ13_bitCount_95d88_56 : decode cJ13_bitCount_95d88 56 = .ok (.l2i, 1) := by decide +kernel
theorem dJ13_bitCount_95d88_57 : decode cJ13_bitCount_95d88 57 = .ok (.bipush 127, 2) := by decide +kernel
theorem dJ13_bitCount_95d88_59 : decode cJ13_bitCount_95d88 59 = .ok (.iand, 1) := by decide +kernel
theorem dJ13_bitCount_95d88_60 : decode cJ13_bitCount_95d88 60 = .ok (.ireturn, 1) := by decide +kernel
theorem dJ9_abs_0f7a4_0 : decode cJ9_abs_0f7a4 0 = .ok (.iload_n 0, 1) := by decide +kernel
theorem dJ9_abs_0f7a4_1 : decode cJ9_abs_0f7a4 1 = .ok (.ifCond .ge 8, 3) := by decide +kernel
theorem dJ9_abs_0f7a4_4 : decode cJ9_abs_0f7a4 4 = .ok (.iload_n 0, 1) := by decide +kernel
theorem dJ9_abs_0f7a4_5 : decode cJ9_abs_0f7a4 5 = .ok (.ineg, 1) := by decide +kernel
theorem dJ9_abs_0f7a4_6 : decode cJ9_abs_0f7a4 6 = .ok (.goto 4, 3) := by decide +kernel
theorem dJ9_abs_0f7a4_9 : decode cJ9_abs_0f7a4 9 = .ok (.iload_n 0, 1) := by decide +kernel
theorem dJ9_abs_0f7a4_10 : decode cJ9_abs_0f7a4 10 = .ok (.ireturn, 1) := by decide +kernel
end
section
/-! the nest links: they are carried in every contract beside the tables of the objects -/
def nzF : List (String × Nat × String × String × String) := [(RX3, 51, "ArrestOrder$Text", "length", "I"), (RX2, 32, "ArrestOrder$Standing", "people", "I"), (RX3, 69, "ArrestOrder$Standing", "people", "I"), (RX2, 68, "ArrestOrder$Standing", "feeding", "J"), (RX3, 130, "ArrestOrder$Standing", "feeding", "J"), (RX3, 72, "ArrestOrder$Standing", "large", "I"), (RX3, 83, "ArrestOrder$Standing", "dead", "I"), (RX3, 86, "ArrestOrder$Standing", "dayNumber", "I"), (RX3, 63, "ArrestOrder$Acts", "count", "I")]
def nzM : List (String × Nat × MethodName) := [(RX3, 11, yX2_init), (RX3, 18, yX1_init), (RX3, 28, yX0_init), (RX0, 17, yX1_init), (RX3, 47, yX2_append), (RX3, 55, yX2_readInto), (RX2, 19, yX1_clear), (RX2, 48, yX1_add), (RX1, 34, yX3_bit), (RX2, 38, yX1_hasPairLeft), (RX2, 52, yX1_has), (RX2, 56, yX1_whomFeeds), (RX1, 44, yX3_pair), (RX2, 64, yX1_feeds), (RX2, 72, yX3_pair), (RX3, 59, yX1_copy), (RX3, 75, yX1_mayBeTaken), (RX1, 71, yX3_isIn), (RX3, 79, yX1_hiddenOnes), (RX3, 92, yX1_has), (RX3, 95, yX1_deedOf), (RX3, 98, yX1_kindOf), (RX3, 101, yX1_gradeOf), (RX3, 104, yX1_whomFeeds), (RX3, 111, yX0_remember), (RX0, 25, yX1_copy), (RX3, 126, yX1_bury), (RX1, 58, yX3_without), (RX3, 138, yX1_feeds), (RX3, 141, yX1_setDeed), (RX3, 145, yX1_passDay), (RX1, 65, yX3_leastOf), (RX3, 148, yX0_takeBackInto), (RX3, 152, yX1_fallRow), (RX3, 155, yX1_placeOf), (RX3, 158, yX1_leftBehind), (RX3, 161, yX1_isTaken), (RX3, 170, yX1_worthOf), (RX3, 180, yX1_countTaken)]
def NA (U : State) : Prop := (∀ q ∈ nzF, va_Nw (.fieldLinkNest q.1 q.2.1 q.2.2.1 q.2.2.2.1 q.2.2.2.2 "ArrestOrder") U) ∧ ∀ q ∈ nzM, va_Nw (.methodLinkNest q.1 q.2.1 q.2.2 "ArrestOrder") U
theorem NA.warm {s U : State} (hW : s.WarmedH U.vm) (h : NA s) : NA U := ⟨fun q hq => (h.1 q hq).warmF hW, fun q hq => (h.2 q hq).warmM hW⟩
theorem NA.same {s U : State} (hv : s.vm = U.vm) (h : NA s) : NA U := ⟨fun q hq => va_Nw.same rfl hv (h.1 q hq), fun q hq => va_Nw.same rfl hv (h.2 q hq)⟩
theorem nf_X3_51 {U : State} {A : Array Value} (h : NA U) : (Cond.fieldLinkNest RX3 51 "ArrestOrder$Text" "length" "I" "ArrestOrder").before A U = true := va_Nw.use rfl (h.1 (RX3, 51, "ArrestOrder$Text", "length", "I") (List.mem_of_getElem? (i := 0) rfl))
theorem nf_X2_32 {U : State} {A : Array Value} (h : NA U) : (Cond.fieldLinkNest RX2 32 "ArrestOrder$Standing" "people" "I" "ArrestOrder").before A U = true := va_Nw.use rfl (h.1 (RX2, 32, "ArrestOrder$Standing", "people", "I") (List.mem_of_getElem? (i := 1) rfl))
theorem nf_X3_69 {U : State} {A : Array Value} (h : NA U) : (Cond.fieldLinkNest RX3 69 "ArrestOrder$Standing" "people" "I" "ArrestOrder").before A U = true := va_Nw.use rfl (h.1 (RX3, 69, "ArrestOrder$Standing", "people", "I") (List.mem_of_getElem? (i := 2) rfl))
theorem nf_X2_68 {U : State} {A : Array Value} (h : NA U) : (Cond.fieldLinkNest RX2 68 "ArrestOrder$Standing" "feeding" "J" "ArrestOrder").before A U = true := va_Nw.use rfl (h.1 (RX2, 68, "ArrestOrder$Standing", "feeding", "J") (List.mem_of_getElem? (i := 3) rfl))
theorem nf_X3_130 {U : State} {A : Array Value} (h : NA U) : (Cond.fieldLinkNest RX3 130 "ArrestOrder$Standing" "feeding" "J" "ArrestOrder").before A U = true := va_Nw.use rfl (h.1 (RX3, 130, "ArrestOrder$Standing", "feeding", "J") (List.mem_of_getElem? (i := 4) rfl))
theorem nf_X3_72 {U : State} {A : Array Value} (h : NA U) : (Cond.fieldLinkNest RX3 72 "ArrestOrder$Standing" "large" "I" "ArrestOrder").before A U = true := va_Nw.use rfl (h.1 (RX3, 72, "ArrestOrder$Standing", "large", "I") (List.mem_of_getElem? (i := 5) rfl))
theorem nf_X3_83 {U : State} {A : Array Value} (h : NA U) : (Cond.fieldLinkNest RX3 83 "ArrestOrder$Standing" "dead" "I" "ArrestOrder").before A U = true := va_Nw.use rfl (h.1 (RX3, 83, "ArrestOrder$Standing", "dead", "I") (List.mem_of_getElem? (i := 6) rfl))
theorem nf_X3_86 {U : State} {A : Array Value} (h : NA U) : (Cond.fieldLinkNest RX3 86 "ArrestOrder$Standing" "dayNumber" "I" "ArrestOrder").before A U = true := va_Nw.use rfl (h.1 (RX3, 86, "ArrestOrder$Standing", "dayNumber", "I") (List.mem_of_getElem? (i := 7) rfl))
theorem nf_X3_63 {U : State} {A : Array Value} (h : NA U) : (Cond.fieldLinkNest RX3 63 "ArrestOrder$Acts" "count" "I" "ArrestOrder").before A U = true := va_Nw.use rfl (h.1 (RX3, 63, "ArrestOrder$Acts", "count", "I") (List.mem_of_getElem? (i := 8) rfl))
theorem nm_X3_11 {U : State} (h : NA U) : va_Nw (.methodLinkNest RX3 11 yX2_init "ArrestOrder") U := h.2 (RX3, 11, yX2_init) (List.mem_of_getElem? (i := 0) rfl)
theorem nm_X3_18 {U : State} (h : NA U) : va_Nw (.methodLinkNest RX3 18 yX1_init "ArrestOrder") U := h.2 (RX3, 18, yX1_init) (List.mem_of_getElem? (i := 1) rfl)
theorem nm_X3_28 {U : State} (h : NA U) : va_Nw (.methodLinkNest RX3 28 yX0_init "ArrestOrder") U := h.2 (RX3, 28, yX0_init) (List.mem_of_getElem? (i := 2) rfl)
theorem nm_X0_17 {U : State} (h : NA U) : va_Nw (.methodLinkNest RX0 17 yX1_init "ArrestOrder") U := h.2 (RX0, 17, yX1_init) (List.mem_of_getElem? (i := 3) rfl)
theorem nm_X3_47 {U : State} (h : NA U) : va_Nw (.methodLinkNest RX3 47 yX2_append "ArrestOrder") U := h.2 (RX3, 47, yX2_append) (List.mem_of_getElem? (i := 4) rfl)
theorem nm_X3_55 {U : State} (h : NA U) : va_Nw (.methodLinkNest RX3 55 yX2_readInto "ArrestOrder") U := h.2 (RX3, 55, yX2_readInto) (List.mem_of_getElem? (i := 5) rfl)
theorem nm_X2_19 {U : State} (h : NA U) : va_Nw (.methodLinkNest RX2 19 yX1_clear "ArrestOrder") U := h.2 (RX2, 19, yX1_clear) (List.mem_of_getElem? (i := 6) rfl)
theorem nm_X2_48 {U : State} (h : NA U) : va_Nw (.methodLinkNest RX2 48 yX1_add "ArrestOrder") U := h.2 (RX2, 48, yX1_add) (List.mem_of_getElem? (i := 7) rfl)
theorem nm_X1_34 {U : State} (h : NA U) : va_Nw (.methodLinkNest RX1 34 yX3_bit "ArrestOrder") U := h.2 (RX1, 34, yX3_bit) (List.mem_of_getElem? (i := 8) rfl)
theorem nm_X2_38 {U : State} (h : NA U) : va_Nw (.methodLinkNest RX2 38 yX1_hasPairLeft "ArrestOrder") U := h.2 (RX2, 38, yX1_hasPairLeft) (List.mem_of_getElem? (i := 9) rfl)
theorem nm_X2_52 {U : State} (h : NA U) : va_Nw (.methodLinkNest RX2 52 yX1_has "ArrestOrder") U := h.2 (RX2, 52, yX1_has) (List.mem_of_getElem? (i := 10) rfl)
theorem nm_X2_56 {U : State} (h : NA U) : va_Nw (.methodLinkNest RX2 56 yX1_whomFeeds "ArrestOrder") U := h.2 (RX2, 56, yX1_whomFeeds) (List.mem_of_getElem? (i := 11) rfl)
theorem nm_X1_44 {U : State} (h : NA U) : va_Nw (.methodLinkNest RX1 44 yX3_pair "ArrestOrder") U := h.2 (RX1, 44, yX3_pair) (List.mem_of_getElem? (i := 12) rfl)
theorem nm_X2_64 {U : State} (h : NA U) : va_Nw (.methodLinkNest RX2 64 yX1_feeds "ArrestOrder") U := h.2 (RX2, 64, yX1_feeds) (List.mem_of_getElem? (i := 13) rfl)
theorem nm_X2_72 {U : State} (h : NA U) : va_Nw (.methodLinkNest RX2 72 yX3_pair "ArrestOrder") U := h.2 (RX2, 72, yX3_pair) (List.mem_of_getElem? (i := 14) rfl)
theorem nm_X3_59 {U : State} (h : NA U) : va_Nw (.methodLinkNest RX3 59 yX1_copy "ArrestOrder") U := h.2 (RX3, 59, yX1_copy) (List.mem_of_getElem? (i := 15) rfl)
theorem nm_X3_75 {U : State} (h : NA U) : va_Nw (.methodLinkNest RX3 75 yX1_mayBeTaken "ArrestOrder") U := h.2 (RX3, 75, yX1_mayBeTaken) (List.mem_of_getElem? (i := 16) rfl)
theorem nm_X1_71 {U : State} (h : NA U) : va_Nw (.methodLinkNest RX1 71 yX3_isIn "ArrestOrder") U := h.2 (RX1, 71, yX3_isIn) (List.mem_of_getElem? (i := 17) rfl)
theorem nm_X3_79 {U : State} (h : NA U) : va_Nw (.methodLinkNest RX3 79 yX1_hiddenOnes "ArrestOrder") U := h.2 (RX3, 79, yX1_hiddenOnes) (List.mem_of_getElem? (i := 18) rfl)
theorem nm_X3_92 {U : State} (h : NA U) : va_Nw (.methodLinkNest RX3 92 yX1_has "ArrestOrder") U := h.2 (RX3, 92, yX1_has) (List.mem_of_getElem? (i := 19) rfl)
theorem nm_X3_95 {U : State} (h : NA U) : va_Nw (.methodLinkNest RX3 95 yX1_deedOf "ArrestOrder") U := h.2 (RX3, 95, yX1_deedOf) (List.mem_of_getElem? (i := 20) rfl)
theorem nm_X3_98 {U : State} (h : NA U) : va_Nw (.methodLinkNest RX3 98 yX1_kindOf "ArrestOrder") U := h.2 (RX3, 98, yX1_kindOf) (List.mem_of_getElem? (i := 21) rfl)
theorem nm_X3_101 {U : State} (h : NA U) : va_Nw (.methodLinkNest RX3 101 yX1_gradeOf "ArrestOrder") U := h.2 (RX3, 101, yX1_gradeOf) (List.mem_of_getElem? (i := 22) rfl)
theorem nm_X3_104 {U : State} (h : NA U) : va_Nw (.methodLinkNest RX3 104 yX1_whomFeeds "ArrestOrder") U := h.2 (RX3, 104, yX1_whomFeeds) (List.mem_of_getElem? (i := 23) rfl)
theorem nm_X3_111 {U : State} (h : NA U) : va_Nw (.methodLinkNest RX3 111 yX0_remember "ArrestOrder") U := h.2 (RX3, 111, yX0_remember) (List.mem_of_getElem? (i := 24) rfl)
theorem nm_X0_25 {U : State} (h : NA U) : va_Nw (.methodLinkNest RX0 25 yX1_copy "ArrestOrder") U := h.2 (RX0, 25, yX1_copy) (List.mem_of_getElem? (i := 25) rfl)
theorem nm_X3_126 {U : State} (h : NA U) : va_Nw (.methodLinkNest RX3 126 yX1_bury "ArrestOrder") U := h.2 (RX3, 126, yX1_bury) (List.mem_of_getElem? (i := 26) rfl)
theorem nm_X1_58 {U : State} (h : NA U) : va_Nw (.methodLinkNest RX1 58 yX3_without "ArrestOrder") U := h.2 (RX1, 58, yX3_without) (List.mem_of_getElem? (i := 27) rfl)
theorem nm_X3_138 {U : State} (h : NA U) : va_Nw (.methodLinkNest RX3 138 yX1_feeds "ArrestOrder") U := h.2 (RX3, 138, yX1_feeds) (List.mem_of_getElem? (i := 28) rfl)
theorem nm_X3_141 {U : State} (h : NA U) : va_Nw (.methodLinkNest RX3 141 yX1_setDeed "ArrestOrder") U := h.2 (RX3, 141, yX1_setDeed) (List.mem_of_getElem? (i := 29) rfl)
theorem nm_X3_145 {U : State} (h : NA U) : va_Nw (.methodLinkNest RX3 145 yX1_passDay "ArrestOrder") U := h.2 (RX3, 145, yX1_passDay) (List.mem_of_getElem? (i := 30) rfl)
theorem nm_X1_65 {U : State} (h : NA U) : va_Nw (.methodLinkNest RX1 65 yX3_leastOf "ArrestOrder") U := h.2 (RX1, 65, yX3_leastOf) (List.mem_of_getElem? (i := 31) rfl)
theorem nm_X3_148 {U : State} (h : NA U) : va_Nw (.methodLinkNest RX3 148 yX0_takeBackInto "ArrestOrder") U := h.2 (RX3, 148, yX0_takeBackInto) (List.mem_of_getElem? (i := 32) rfl)
theorem nm_X3_152 {U : State} (h : NA U) : va_Nw (.methodLinkNest RX3 152 yX1_fallRow "ArrestOrder") U := h.2 (RX3, 152, yX1_fallRow) (List.mem_of_getElem? (i := 33) rfl)
theorem nm_X3_155 {U : State} (h : NA U) : va_Nw (.methodLinkNest RX3 155 yX1_placeOf "ArrestOrder") U := h.2 (RX3, 155, yX1_placeOf) (List.mem_of_getElem? (i := 34) rfl)
theorem nm_X3_158 {U : State} (h : NA U) : va_Nw (.methodLinkNest RX3 158 yX1_leftBehind "ArrestOrder") U := h.2 (RX3, 158, yX1_leftBehind) (List.mem_of_getElem? (i := 35) rfl)
theorem nm_X3_161 {U : State} (h : NA U) : va_Nw (.methodLinkNest RX3 161 yX1_isTaken "ArrestOrder") U := h.2 (RX3, 161, yX1_isTaken) (List.mem_of_getElem? (i := 36) rfl)
theorem nm_X3_170 {U : State} (h : NA U) : va_Nw (.methodLinkNest RX3 170 yX1_worthOf "ArrestOrder") U := h.2 (RX3, 170, yX1_worthOf) (List.mem_of_getElem? (i := 37) rfl)
theorem nm_X3_180 {U : State} (h : NA U) : va_Nw (.methodLinkNest RX3 180 yX1_countTaken "ArrestOrder") U := h.2 (RX3, 180, yX1_countTaken) (List.mem_of_getElem? (i := 38) rfl)
/-! the tables that every world shares: class numbers and slots of the five kinds of object, the four array kinds -/
abbrev GG : Type := (Nat → ClassId) × (Nat → Nat → Nat) × ClassId × ClassId × ClassId × ClassId
abbrev gD (G : GG) : va_G := (G.1, G.2.1)
abbrev gT (G : GG) : List (ClassId × FieldType) := [(G.2.2.1, .int), (G.2.2.2.1, .long), (G.2.2.2.2.1, .boolean), (G.2.2.2.2.2, .object RX1)]
def KK (G : GG) (U : State) : Prop := va_K (gD G) vwCl (gT G) U ∧ NA U
theorem KK.warm {G : GG} {s U : State} (hW : s.WarmedH U.vm) (h : KK G s) : KK G U := ⟨va_K.moved hW.alike h.1, h.2.warm hW⟩
theorem KK.calling {G : GG} {U : State} {g : JFrame} {mk : MethodId} {a : Array Value} (h : KK G U) : KK G (U.calling g mk a) := ⟨va_K.moved (u := U) (U := U.calling g mk a) (Vm.Alike.refl U.vm) h.1, NA.same rfl h.2⟩
abbrev aI (G : GG) (n : Nat) (f : Nat → Int32) : va_E := .inl (G.2.2.1, n, .inl f)
abbrev aJ (G : GG) (n : Nat) (f : Nat → Int64) : va_E := .inl (G.2.2.2.1, n, .inr (.inl f))
abbrev aZ (G : GG) (n : Nat) (f : Nat → Int32) : va_E := .inl (G.2.2.2.2.1, n, .inl f)
abbrev aO (G : GG) (n : Nat) (f : Nat → Option Nat) : va_E := .inl (G.2.2.2.2.2, n, .inr (.inr (.inr (.inr f))))
/-- the addresses of a world -/
def inA (ws : va_W) : Nat → Prop := fun q => ∃ (k : Nat) (e : va_E), ws[k]? = some (q, e)
def noA : Nat → Prop := fun _ => False
theorem inA.D {ws : va_W} {A : Nat → Prop} (h : va_D A ws) : va_D (inA ws) ws := ⟨h.1, fun k q hk => ⟨k, q.2, hk⟩⟩
abbrev PcR (G : GG) (av : List Value) (ws : va_W) : Array Value → State → Prop := va_Pc av (fun U => va_P (gD G) vwCl ws U.heap ∧ KK G U)
abbrev PcW (G : GG) (av : List Value) (ws : va_W) : Array Value → State → Prop := va_Pc av (fun U => va_P (gD G) vwCl ws U.heap ∧ KK G U ∧ va_D (fun _ => True) ws)
abbrev QiR (r : Int32) : Array Value → State → Outcome → State → Prop := va_Qi (fun (x : Int32) (_ : Unit) => x = r) (fun _ _ => True) noA
abbrev QlR (r : Int64) : Array Value → State → Outcome → State → Prop := va_Ql (fun (x : Int64) (_ : Unit) => x = r) (fun _ _ => True) noA
abbrev QiW (G : GG) (w w1 : va_W) (r : Int32) : Array Value → State → Outcome → State → Prop := va_Qi (fun (x : Int32) (_ : Unit) => x = r) (fun _ t => va_P (gD G) vwCl w1 t.heap) (inA w)
abbrev QlW (G : GG) (w w1 : va_W) (r : Int64) : Array Value → State → Outcome → State → Prop := va_Ql (fun (x : Int64) (_ : Unit) => x = r) (fun _ t => va_P (gD G) vwCl w1 t.heap) (inA w)
abbrev QvW (G : GG) (w w1 : va_W) : Array Value → State → Outcome → State → Prop := va_Qv (fun (_ : Unit) => True) (fun _ t => va_P (gD G) vwCl w1 t.heap) (inA w)
theorem PcR.blind {G : GG} {av : List Value} {ws : va_W} : FrameBlind (PcR G av ws) := fun _ _ _ _ q => ⟨q.1, q.2.1, q.2.2.calling⟩
theorem PcW.blind {G : GG} {av : List Value} {ws : va_W} : FrameBlind (PcW G av ws) := fun _ _ _ _ q => ⟨q.1, q.2.1, q.2.2.1.calling, q.2.2.2⟩
theorem preR_S {G : GG} {s : State} {H : Heap} {ws : va_W} {As : List Value} (hP : va_P (gD G) vwCl ws H) (hK : KK G s) : PreS s H (PcR G As ws) As := ⟨PcR.blind, fun U hU hW => ⟨rfl, by rw [hU]; exact hP, hK.warm hW⟩⟩
theorem preW_S {G : GG} {s : State} {H : Heap} {ws : va_W} {As : List Value} {A : Nat → Prop} (hP : va_P (gD G) vwCl ws H) (hD : va_D A ws) (hK : KK G s) : PreS s H (PcW G As ws) As := ⟨PcW.blind, fun U hU hW => ⟨rfl, by rw [hU]; exact hP, hK.warm hW, hD.weaken (fun _ _ _ _ => trivial)⟩⟩
theorem preR_V {G : GG} {s : State} {H : Heap} {ws : va_W} {As : List Value} {b q0 ci : Nat} {q : vw_C} {fs : List Value} (hP : va_P (gD G) vwCl ws H) (hK : KK G s) (hc : vwCl[ci]? = some q) (he : ws[q0]? = some (b, .inr (ci, fs))) : PreV s H q.1 b (PcR G (.ref b :: As) ws) As := ⟨PcR.blind, va_recv hK.1 hP hc he, fun U hU hW => ⟨rfl, by rw [hU]; exact hP, hK.warm hW⟩⟩
theorem preW_V {G : GG} {s : State} {H : Heap} {ws : va_W} {As : List Value} {A : Nat → Prop} {b q0 ci : Nat} {q : vw_C} {fs : List Value} (hP : va_P (gD G) vwCl ws H) (hD : va_D A ws) (hK : KK G s) (hc : vwCl[ci]? = some q) (he : ws[q0]? = some (b, .inr (ci, fs))) : PreV s H q.1 b (PcW G (.ref b :: As) ws) As := ⟨PcW.blind, va_recv hK.1 hP hc he, fun U hU hW => ⟨rfl, by rw [hU]; exact hP, hK.warm hW, hD.weaken (fun _ _ _ _ => trivial)⟩⟩
/-! cells replaced by places -/
def repl : va_W → List Nat → va_W → va_W
  | ws, [], _ => ws
  | ws, _ :: _, [] => ws
  | ws, i :: is, e :: es => repl (ws.set i e) is es
theorem repl_get : ∀ (is : List Nat) (ws es : va_W) (k : Nat) (q : Nat × va_E), is.length = es.length → (repl ws is es)[k]? = some q → q ∈ es ∨ (k ∉ is ∧ ws[k]? = some q)
  | [], ws, es, k, q, _, h => Or.inr ⟨by simp, by simpa [repl] using h⟩
  | i :: is, ws, [], k, q, hl, h => by simp at hl
  | i :: is, ws, e :: es, k, q, hl, h => by
    rcases repl_get is (ws.set i e) es k q (by simpa using hl) (by simpa [repl] using h) with h1 | ⟨h1, h2⟩
    · exact Or.inl (List.mem_cons_of_mem _ h1)
    · rw [List.getElem?_set] at h2
      by_cases hik : i = k
      · rw [if_pos hik] at h2
        split at h2
        · cases h2; exact Or.inl List.mem_cons_self
        · cases h2
      · rw [if_neg hik] at h2
        exact Or.inr ⟨by simp only [List.mem_cons, not_or]; exact ⟨fun z => hik z.symm, h1⟩, h2⟩
theorem D_addr {A : Nat → Prop} {ws ws' : va_W} (h : ws'.map Prod.fst = ws.map Prod.fst) (hD : va_D A ws) : va_D A ws' := by
  have key : ∀ (k : Nat) (q : Nat × va_E), ws'[k]? = some q → ∃ q' : Nat × va_E, ws[k]? = some q' ∧ q'.1 = q.1 := by
    intro k q hk
    have h1 : (ws'.map Prod.fst)[k]? = some q.1 := by rw [List.getElem?_map, hk]; rfl
    rw [h, List.getElem?_map] at h1
    cases hw : ws[k]? with
    | none => rw [hw] at h1; cases h1
    | some q' => rw [hw] at h1; exact ⟨q', rfl, Option.some.inj h1⟩
  refine ⟨fun i j p q hi hj e => ?_, fun k q hk => ?_⟩
  · obtain ⟨p', hp1, hp2⟩ := key i p hi
    obtain ⟨q', hq1, hq2⟩ := key j q hj
    exact hD.1 i j p' q' hp1 hq1 (by rw [hp2, hq2, e])
  · obtain ⟨q', hq1, hq2⟩ := key k q hk
    rw [← hq2]; exact hD.2 k q' hq1
theorem P_repl {A0 : Nat → Prop} {D : va_G} {cl : List vw_C} {ws wc w1 : va_W} {H H1 : Heap} (hP : va_P D cl ws H) (hD : va_D A0 ws) (isC : List Nat) (hC : isC.map (fun i => ws[i]?) = wc.map some) (hl : isC.length = w1.length)
    (hk : ∀ q : Nat, q < H.size → ¬ inA wc q → H1[q]? = H[q]?) (hP1 : va_P D cl w1 H1) : va_P D cl (repl ws isC w1) H1 := by
  intro k q hq
  rcases repl_get isC ws w1 k q hl hq with h | ⟨h1, h2⟩
  · obtain ⟨j, hj⟩ := List.getElem?_of_mem h
    exact hP1 j q hj
  · refine (hP k q h2).kept (hk q.1 (hP k q h2).lt ?_)
    rintro ⟨j, e, hj⟩
    have g1 : (isC.map (fun i => ws[i]?))[j]? = some (some (q.1, e)) := by rw [hC, List.getElem?_map, hj]; rfl
    rw [List.getElem?_map] at g1
    cases hi : isC[j]? with
    | none => rw [hi] at g1; cases g1
    | some i =>
      rw [hi] at g1
      have g2 := hD.1 k i q (q.1, e) h2 (Option.some.inj g1) rfl
      subst g2
      exact h1 (List.mem_of_getElem? hi)
theorem inA_sub {A0 : Nat → Prop} {ws wc : va_W} (hD : va_D A0 ws) (isC : List Nat) (hC : isC.map (fun i => ws[i]?) = wc.map some) : ∀ q, inA wc q → A0 q := by
  rintro q ⟨k, e, h⟩
  have h1 : (isC.map (fun i => ws[i]?))[k]? = some (some (q, e)) := by rw [hC, List.getElem?_map, h]; rfl
  rw [List.getElem?_map] at h1
  cases hi : isC[k]? with
  | none => rw [hi] at h1; cases h1
  | some i => rw [hi] at h1; exact hD.2 i (q, e) (Option.some.inj h1)
section CallRows
variable {p : Program} {l : Launch} {e : Env} {R : Room} {s : State} {m : MethodId} {args : Array Value} {below : List Frame} {meth : Method} {c : Code} {H : Heap} {locs : List Loc} {cells slots : Nat} {Q : State → Prop}
variable {pc : Nat} {ls : Array Slot} {rest st0 : List Value} {a : Array Value} {A0 : Nat → Prop} {H0 : Heap} {D : va_G} {cl : List vw_C} {ws wc w1 : va_W}
theorem ro_i {r : Int32} (hr : va_Run p l e R s m args below meth c H locs cells slots 0 0 (F0 m pc ls st0) rest (QiR r a) noA) (hS : va_S A0 H0 H locs) (hP : va_P D cl ws H)
    (kk : ∀ (H1 : Heap) (locs1 : List Loc), va_P D cl ws H1 → va_S A0 H0 H1 locs1 → W p l e R s m args below meth c H1 locs1 cells slots Q (F0 m (pc + 3) ls (.int r :: rest))) : W p l e R s m args below meth c H locs cells slots Q (F0 m pc ls st0) := by
  refine va_calli hr hS (fun q _ h => h.elim) (fun q h => h.elim) (fun r' u t H1 locs1 ht hvm hw hB hz hk hS1 => ?_)
  subst hw
  exact kk H1 locs1 (hP.kept (fun k q hq => hk q.1 (hP k q hq).lt (fun z => z))) hS1
theorem ro_l {r : Int64} (hr : va_Run p l e R s m args below meth c H locs cells slots 0 0 (F0 m pc ls st0) rest (QlR r a) noA) (hS : va_S A0 H0 H locs) (hP : va_P D cl ws H)
    (kk : ∀ (H1 : Heap) (locs1 : List Loc), va_P D cl ws H1 → va_S A0 H0 H1 locs1 → W p l e R s m args below meth c H1 locs1 cells slots Q (F0 m (pc + 3) ls (.long r :: rest))) : W p l e R s m args below meth c H locs cells slots Q (F0 m pc ls st0) := by
  refine va_calll hr hS (fun q _ h => h.elim) (fun q h => h.elim) (fun r' u t H1 locs1 ht hvm hw hB hz hk hS1 => ?_)
  subst hw
  exact kk H1 locs1 (hP.kept (fun k q hq => hk q.1 (hP k q hq).lt (fun z => z))) hS1
theorem rw_i {G : GG} {r : Int32} (hr : va_Run p l e R s m args below meth c H locs cells slots 0 0 (F0 m pc ls st0) rest (QiW G wc w1 r a) (inA wc)) (hS : va_S A0 H0 H locs) (hP : va_P (gD G) vwCl ws H) (hD : va_D A0 ws) (isC : List Nat) (hC : isC.map (fun i => ws[i]?) = wc.map some) (hl : isC.length = w1.length) (ha : (repl ws isC w1).map Prod.fst = ws.map Prod.fst)
    (kk : ∀ (H1 : Heap) (locs1 : List Loc), va_P (gD G) vwCl (repl ws isC w1) H1 → va_D A0 (repl ws isC w1) → va_S A0 H0 H1 locs1 → W p l e R s m args below meth c H1 locs1 cells slots Q (F0 m (pc + 3) ls (.int r :: rest))) : W p l e R s m args below meth c H locs cells slots Q (F0 m pc ls st0) := by
  refine va_calli hr hS (fun q _ h => inA_sub hD isC hC q h) (inA_sub hD isC hC) (fun r' u t H1 locs1 ht hvm hw hB hz hk hS1 => ?_)
  subst hw
  rw [ht] at hB
  exact kk H1 locs1 (P_repl hP hD isC hC hl hk hB) (D_addr ha hD) hS1
theorem rw_l {G : GG} {r : Int64} (hr : va_Run p l e R s m args below meth c H locs cells slots 0 0 (F0 m pc ls st0) rest (QlW G wc w1 r a) (inA wc)) (hS : va_S A0 H0 H locs) (hP : va_P (gD G) vwCl ws H) (hD : va_D A0 ws) (isC : List Nat) (hC : isC.map (fun i => ws[i]?) = wc.map some) (hl : isC.length = w1.length) (ha : (repl ws isC w1).map Prod.fst = ws.map Prod.fst)
    (kk : ∀ (H1 : Heap) (locs1 : List Loc), va_P (gD G) vwCl (repl ws isC w1) H1 → va_D A0 (repl ws isC w1) → va_S A0 H0 H1 locs1 → W p l e R s m args below meth c H1 locs1 cells slots Q (F0 m (pc + 3) ls (.long r :: rest))) : W p l e R s m args below meth c H locs cells slots Q (F0 m pc ls st0) := by
  refine va_calll hr hS (fun q _ h => inA_sub hD isC hC q h) (inA_sub hD isC hC) (fun r' u t H1 locs1 ht hvm hw hB hz hk hS1 => ?_)
  subst hw
  rw [ht] at hB
  exact kk H1 locs1 (P_repl hP hD isC hC hl hk hB) (D_addr ha hD) hS1
theorem rw_v {G : GG} (hr : va_Run p l e R s m args below meth c H locs cells slots 0 0 (F0 m pc ls st0) rest (QvW G wc w1 a) (inA wc)) (hS : va_S A0 H0 H locs) (hP : va_P (gD G) vwCl ws H) (hD : va_D A0 ws) (isC : List Nat) (hC : isC.map (fun i => ws[i]?) = wc.map some) (hl : isC.length = w1.length) (ha : (repl ws isC w1).map Prod.fst = ws.map Prod.fst)
    (kk : ∀ (H1 : Heap) (locs1 : List Loc), va_P (gD G) vwCl (repl ws isC w1) H1 → va_D A0 (repl ws isC w1) → va_S A0 H0 H1 locs1 → W p l e R s m args below meth c H1 locs1 cells slots Q (F0 m (pc + 3) ls rest)) : W p l e R s m args below meth c H locs cells slots Q (F0 m pc ls st0) := by
  refine va_callv hr hS (fun q _ h => inA_sub hD isC hC q h) (inA_sub hD isC hC) (fun u t H1 locs1 ht hvm hw hB hz hk hS1 => ?_)
  rw [ht] at hB
  exact kk H1 locs1 (P_repl hP hD isC hC hl hk hB) (D_addr ha hD) hS1
end CallRows
/-! the pure side's checks: an index in its row, a divisor that is not 0, a boolean -/
def ck {α : Type} (i : Int32) (n : Nat) (k : Option α) : Option α := if i < 0 ∨ n ≤ i.toNatClampNeg then none else k
def dv {α : Type} (y : Int32) (k : Option α) : Option α := if y = 0 then none else k
def dvL {α : Type} (y : Int64) (k : Option α) : Option α := if y = 0 then none else k
def zk {α : Type} (v : Int32) (k : Option α) : Option α := if v = 0 ∨ v = 1 then k else none
theorem ckS {α : Type} {i : Int32} {n : Nat} {k : Option α} {o : α} (h : ck i n k = some o) : vp_in i n ∧ k = some o := by
  unfold ck at h
  split at h
  · cases h
  · rename_i hn; exact ⟨hn, h⟩
theorem dvS {α : Type} {y : Int32} {k : Option α} {o : α} (h : dv y k = some o) : ¬ y = 0 ∧ k = some o := by
  unfold dv at h
  split at h
  · cases h
  · rename_i hn; exact ⟨hn, h⟩
theorem dvLS {α : Type} {y : Int64} {k : Option α} {o : α} (h : dvL y k = some o) : ¬ y = 0 ∧ k = some o := by
  unfold dvL at h
  split at h
  · cases h
  · rename_i hn; exact ⟨hn, h⟩
theorem zkS {α : Type} {v : Int32} {k : Option α} {o : α} (h : zk v k = some o) : narrow .boolean (.int v) = .int v ∧ k = some o := by
  unfold zk at h
  split at h
  · rename_i hn
    refine ⟨?_, h⟩
    rcases hn with rfl | rfl <;> rfl
  · cases h
theorem bindS {α β : Type} {x : Option α} {k : α → Option β} {o : β} (h : x.bind k = some o) : ∃ v, x = some v ∧ k v = some o := by
  cases x with
  | none => cases h
  | some v => exact ⟨v, rfl, h⟩
theorem iteT {α : Type} {c : Prop} [Decidable c] {A B : Option α} {o : α} (h : (if c then A else B) = some o) (hc : c) : A = some o := by rw [if_pos hc] at h; exact h
theorem iteF {α : Type} {c : Prop} [Decidable c] {A B : Option α} {o : α} (h : (if c then A else B) = some o) (hc : ¬ c) : B = some o := by rw [if_neg hc] at h; exact h
end
