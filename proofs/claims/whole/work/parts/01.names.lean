-- ===== PART A: goes FIRST, ahead of the names: the tables' words, and 'selects' of the private methods out of them =====
/-- a private method of a class that the tables say can be made, by its rows of tables_1 -/
def lw_okq (q : MethodName × Nat) : Prop := (q.1.cls ≠ "java/lang/invoke/MethodHandle" ∧ q.1.cls ≠ "java/lang/invoke/VarHandle") ∧ Cond.instantiable q.1.cls q.2 ∈ tables_1 ∧ Cond.privateMethod q.1 ∈ tables_1 ∧ Cond.instanceMethod q.1 ∈ tables_1
theorem lw_p0 : lw_okq (⟨"LostLetters$Row", "clear", "()V"⟩, 2) := ⟨⟨by decide +kernel, by decide +kernel⟩, List.mem_of_getElem? (i := 20) (by decide +kernel), List.mem_of_getElem? (i := 204) (by decide +kernel), List.mem_of_getElem? (i := 205) (by decide +kernel)⟩
theorem lw_p1 : lw_okq (⟨"LostLetters$Row", "put", "(IJ)V"⟩, 2) := ⟨⟨by decide +kernel, by decide +kernel⟩, List.mem_of_getElem? (i := 20) (by decide +kernel), List.mem_of_getElem? (i := 208) (by decide +kernel), List.mem_of_getElem? (i := 209) (by decide +kernel)⟩
theorem lw_p2 : lw_okq (⟨"LostLetters$Code", "forget", "()V"⟩, 10) := ⟨⟨by decide +kernel, by decide +kernel⟩, List.mem_of_getElem? (i := 39) (by decide +kernel), List.mem_of_getElem? (i := 212) (by decide +kernel), List.mem_of_getElem? (i := 213) (by decide +kernel)⟩
theorem lw_p3 : lw_okq (⟨"LostLetters$Traces", "forget", "()V"⟩, 9) := ⟨⟨by decide +kernel, by decide +kernel⟩, List.mem_of_getElem? (i := 114) (by decide +kernel), List.mem_of_getElem? (i := 216) (by decide +kernel), List.mem_of_getElem? (i := 217) (by decide +kernel)⟩
theorem lw_p4 : lw_okq (⟨"LostLetters", "isRow", "(IJ)Z"⟩, 7) := ⟨⟨by decide +kernel, by decide +kernel⟩, List.mem_of_getElem? (i := 11) (by decide +kernel), List.mem_of_getElem? (i := 227) (by decide +kernel), List.mem_of_getElem? (i := 228) (by decide +kernel)⟩
theorem lw_p5 : lw_okq (⟨"LostLetters", "isLetter", "(I)Z"⟩, 7) := ⟨⟨by decide +kernel, by decide +kernel⟩, List.mem_of_getElem? (i := 11) (by decide +kernel), List.mem_of_getElem? (i := 231) (by decide +kernel), List.mem_of_getElem? (i := 232) (by decide +kernel)⟩
theorem lw_p6 : lw_okq (⟨"LostLetters$Row", "letter", "(I)I"⟩, 2) := ⟨⟨by decide +kernel, by decide +kernel⟩, List.mem_of_getElem? (i := 20) (by decide +kernel), List.mem_of_getElem? (i := 240) (by decide +kernel), List.mem_of_getElem? (i := 241) (by decide +kernel)⟩
theorem lw_p7 : lw_okq (⟨"LostLetters", "isEdit", "(LLostLetters$Row;III)Z"⟩, 7) := ⟨⟨by decide +kernel, by decide +kernel⟩, List.mem_of_getElem? (i := 11) (by decide +kernel), List.mem_of_getElem? (i := 248) (by decide +kernel), List.mem_of_getElem? (i := 249) (by decide +kernel)⟩
theorem lw_p8 : lw_okq (⟨"LostLetters$Row", "isFull", "()Z"⟩, 2) := ⟨⟨by decide +kernel, by decide +kernel⟩, List.mem_of_getElem? (i := 20) (by decide +kernel), List.mem_of_getElem? (i := 252) (by decide +kernel), List.mem_of_getElem? (i := 253) (by decide +kernel)⟩
theorem lw_p9 : lw_okq (⟨"LostLetters$Row", "become", "(LLostLetters$Row;)V"⟩, 2) := ⟨⟨by decide +kernel, by decide +kernel⟩, List.mem_of_getElem? (i := 20) (by decide +kernel), List.mem_of_getElem? (i := 256) (by decide +kernel), List.mem_of_getElem? (i := 257) (by decide +kernel)⟩
theorem lw_p10 : lw_okq (⟨"LostLetters$Row", "lose", "(I)V"⟩, 2) := ⟨⟨by decide +kernel, by decide +kernel⟩, List.mem_of_getElem? (i := 20) (by decide +kernel), List.mem_of_getElem? (i := 260) (by decide +kernel), List.mem_of_getElem? (i := 261) (by decide +kernel)⟩
theorem lw_p11 : lw_okq (⟨"LostLetters$Row", "ahead", "(I)J"⟩, 2) := ⟨⟨by decide +kernel, by decide +kernel⟩, List.mem_of_getElem? (i := 20) (by decide +kernel), List.mem_of_getElem? (i := 264) (by decide +kernel), List.mem_of_getElem? (i := 265) (by decide +kernel)⟩
theorem lw_p12 : lw_okq (⟨"LostLetters$Row", "gain", "(II)V"⟩, 2) := ⟨⟨by decide +kernel, by decide +kernel⟩, List.mem_of_getElem? (i := 20) (by decide +kernel), List.mem_of_getElem? (i := 268) (by decide +kernel), List.mem_of_getElem? (i := 269) (by decide +kernel)⟩
theorem lw_p13 : lw_okq (⟨"LostLetters$Row", "turn", "(II)V"⟩, 2) := ⟨⟨by decide +kernel, by decide +kernel⟩, List.mem_of_getElem? (i := 20) (by decide +kernel), List.mem_of_getElem? (i := 272) (by decide +kernel), List.mem_of_getElem? (i := 273) (by decide +kernel)⟩
theorem lw_p14 : lw_okq (⟨"LostLetters$Code", "tell", "(IIIII)V"⟩, 10) := ⟨⟨by decide +kernel, by decide +kernel⟩, List.mem_of_getElem? (i := 39) (by decide +kernel), List.mem_of_getElem? (i := 282) (by decide +kernel), List.mem_of_getElem? (i := 283) (by decide +kernel)⟩
theorem lw_p15 : lw_okq (⟨"LostLetters$Code", "makeRoom", "()V"⟩, 10) := ⟨⟨by decide +kernel, by decide +kernel⟩, List.mem_of_getElem? (i := 39) (by decide +kernel), List.mem_of_getElem? (i := 286) (by decide +kernel), List.mem_of_getElem? (i := 287) (by decide +kernel)⟩
def lw_privs_1 : List (MethodName × Nat) := [(⟨"LostLetters$Row", "clear", "()V"⟩, 2), (⟨"LostLetters$Row", "put", "(IJ)V"⟩, 2), (⟨"LostLetters$Code", "forget", "()V"⟩, 10), (⟨"LostLetters$Traces", "forget", "()V"⟩, 9), (⟨"LostLetters", "isRow", "(IJ)Z"⟩, 7), (⟨"LostLetters", "isLetter", "(I)Z"⟩, 7), (⟨"LostLetters$Row", "letter", "(I)I"⟩, 2), (⟨"LostLetters", "isEdit", "(LLostLetters$Row;III)Z"⟩, 7), (⟨"LostLetters$Row", "isFull", "()Z"⟩, 2), (⟨"LostLetters$Row", "become", "(LLostLetters$Row;)V"⟩, 2), (⟨"LostLetters$Row", "lose", "(I)V"⟩, 2), (⟨"LostLetters$Row", "ahead", "(I)J"⟩, 2), (⟨"LostLetters$Row", "gain", "(II)V"⟩, 2), (⟨"LostLetters$Row", "turn", "(II)V"⟩, 2), (⟨"LostLetters$Code", "tell", "(IIIII)V"⟩, 10), (⟨"LostLetters$Code", "makeRoom", "()V"⟩, 10)]
theorem lw_r1 : ∀ q ∈ lw_privs_1, lw_okq q := List.forall_mem_cons.mpr ⟨lw_p0, List.forall_mem_cons.mpr ⟨lw_p1, List.forall_mem_cons.mpr ⟨lw_p2, List.forall_mem_cons.mpr ⟨lw_p3, List.forall_mem_cons.mpr ⟨lw_p4, List.forall_mem_cons.mpr ⟨lw_p5, List.forall_mem_cons.mpr ⟨lw_p6, List.forall_mem_cons.mpr ⟨lw_p7, List.forall_mem_cons.mpr ⟨lw_p8, List.forall_mem_cons.mpr ⟨lw_p9, List.forall_mem_cons.mpr ⟨lw_p10, List.forall_mem_cons.mpr ⟨lw_p11, List.forall_mem_cons.mpr ⟨lw_p12, List.forall_mem_cons.mpr ⟨lw_p13, List.forall_mem_cons.mpr ⟨lw_p14, List.forall_mem_cons.mpr ⟨lw_p15, fun _ h => absurd h List.not_mem_nil⟩⟩⟩⟩⟩⟩⟩⟩⟩⟩⟩⟩⟩⟩⟩⟩
theorem lw_p16 : lw_okq (⟨"LostLetters$Code", "countWays", "()V"⟩, 10) := ⟨⟨by decide +kernel, by decide +kernel⟩, List.mem_of_getElem? (i := 39) (by decide +kernel), List.mem_of_getElem? (i := 296) (by decide +kernel), List.mem_of_getElem? (i := 297) (by decide +kernel)⟩
theorem lw_p17 : lw_okq (⟨"LostLetters$Code", "countWaysBehind", "(II)V"⟩, 10) := ⟨⟨by decide +kernel, by decide +kernel⟩, List.mem_of_getElem? (i := 39) (by decide +kernel), List.mem_of_getElem? (i := 300) (by decide +kernel), List.mem_of_getElem? (i := 301) (by decide +kernel)⟩
theorem lw_p18 : lw_okq (⟨"LostLetters$Code", "cell", "(IIII)I"⟩, 10) := ⟨⟨by decide +kernel, by decide +kernel⟩, List.mem_of_getElem? (i := 39) (by decide +kernel), List.mem_of_getElem? (i := 304) (by decide +kernel), List.mem_of_getElem? (i := 305) (by decide +kernel)⟩
theorem lw_p19 : lw_okq (⟨"LostLetters$Code", "waysByNext", "(IIII)I"⟩, 10) := ⟨⟨by decide +kernel, by decide +kernel⟩, List.mem_of_getElem? (i := 39) (by decide +kernel), List.mem_of_getElem? (i := 308) (by decide +kernel), List.mem_of_getElem? (i := 309) (by decide +kernel)⟩
theorem lw_p20 : lw_okq (⟨"LostLetters$Code", "sumWith", "(IIII)I"⟩, 10) := ⟨⟨by decide +kernel, by decide +kernel⟩, List.mem_of_getElem? (i := 39) (by decide +kernel), List.mem_of_getElem? (i := 312) (by decide +kernel), List.mem_of_getElem? (i := 313) (by decide +kernel)⟩
theorem lw_p21 : lw_okq (⟨"LostLetters$Code", "waysToEnd", "(IIII)I"⟩, 10) := ⟨⟨by decide +kernel, by decide +kernel⟩, List.mem_of_getElem? (i := 39) (by decide +kernel), List.mem_of_getElem? (i := 316) (by decide +kernel), List.mem_of_getElem? (i := 317) (by decide +kernel)⟩
theorem lw_p22 : lw_okq (⟨"LostLetters$Code", "stands", "()Z"⟩, 10) := ⟨⟨by decide +kernel, by decide +kernel⟩, List.mem_of_getElem? (i := 39) (by decide +kernel), List.mem_of_getElem? (i := 324) (by decide +kernel), List.mem_of_getElem? (i := 325) (by decide +kernel)⟩
theorem lw_p23 : lw_okq (⟨"LostLetters$Code", "sumOf", "(LLostLetters$Row;)I"⟩, 10) := ⟨⟨by decide +kernel, by decide +kernel⟩, List.mem_of_getElem? (i := 39) (by decide +kernel), List.mem_of_getElem? (i := 328) (by decide +kernel), List.mem_of_getElem? (i := 329) (by decide +kernel)⟩
theorem lw_p24 : lw_okq (⟨"LostLetters$Code", "holds", "(LLostLetters$Row;)Z"⟩, 10) := ⟨⟨by decide +kernel, by decide +kernel⟩, List.mem_of_getElem? (i := 39) (by decide +kernel), List.mem_of_getElem? (i := 337) (by decide +kernel), List.mem_of_getElem? (i := 338) (by decide +kernel)⟩
theorem lw_p25 : lw_okq (⟨"LostLetters$Code", "write", "(ILLostLetters$Row;)V"⟩, 10) := ⟨⟨by decide +kernel, by decide +kernel⟩, List.mem_of_getElem? (i := 39) (by decide +kernel), List.mem_of_getElem? (i := 346) (by decide +kernel), List.mem_of_getElem? (i := 347) (by decide +kernel)⟩
theorem lw_p26 : lw_okq (⟨"LostLetters$Row", "append", "(I)V"⟩, 2) := ⟨⟨by decide +kernel, by decide +kernel⟩, List.mem_of_getElem? (i := 20) (by decide +kernel), List.mem_of_getElem? (i := 351) (by decide +kernel), List.mem_of_getElem? (i := 352) (by decide +kernel)⟩
theorem lw_p27 : lw_okq (⟨"LostLetters$Code", "neighbours", "(LLostLetters$Row;)I"⟩, 10) := ⟨⟨by decide +kernel, by decide +kernel⟩, List.mem_of_getElem? (i := 39) (by decide +kernel), List.mem_of_getElem? (i := 360) (by decide +kernel), List.mem_of_getElem? (i := 361) (by decide +kernel)⟩
theorem lw_p28 : lw_okq (⟨"LostLetters$Code", "neighboursByTurn", "(LLostLetters$Row;)I"⟩, 10) := ⟨⟨by decide +kernel, by decide +kernel⟩, List.mem_of_getElem? (i := 39) (by decide +kernel), List.mem_of_getElem? (i := 364) (by decide +kernel), List.mem_of_getElem? (i := 365) (by decide +kernel)⟩
theorem lw_p29 : lw_okq (⟨"LostLetters$Code", "take", "()I"⟩, 10) := ⟨⟨by decide +kernel, by decide +kernel⟩, List.mem_of_getElem? (i := 39) (by decide +kernel), List.mem_of_getElem? (i := 370) (by decide +kernel), List.mem_of_getElem? (i := 371) (by decide +kernel)⟩
theorem lw_p30 : lw_okq (⟨"LostLetters$Code", "neighboursByGain", "(LLostLetters$Row;)I"⟩, 10) := ⟨⟨by decide +kernel, by decide +kernel⟩, List.mem_of_getElem? (i := 39) (by decide +kernel), List.mem_of_getElem? (i := 375) (by decide +kernel), List.mem_of_getElem? (i := 376) (by decide +kernel)⟩
theorem lw_p31 : lw_okq (⟨"LostLetters$Code", "neighboursByLoss", "(LLostLetters$Row;)I"⟩, 10) := ⟨⟨by decide +kernel, by decide +kernel⟩, List.mem_of_getElem? (i := 39) (by decide +kernel), List.mem_of_getElem? (i := 380) (by decide +kernel), List.mem_of_getElem? (i := 381) (by decide +kernel)⟩
def lw_privs_2 : List (MethodName × Nat) := [(⟨"LostLetters$Code", "countWays", "()V"⟩, 10), (⟨"LostLetters$Code", "countWaysBehind", "(II)V"⟩, 10), (⟨"LostLetters$Code", "cell", "(IIII)I"⟩, 10), (⟨"LostLetters$Code", "waysByNext", "(IIII)I"⟩, 10), (⟨"LostLetters$Code", "sumWith", "(IIII)I"⟩, 10), (⟨"LostLetters$Code", "waysToEnd", "(IIII)I"⟩, 10), (⟨"LostLetters$Code", "stands", "()Z"⟩, 10), (⟨"LostLetters$Code", "sumOf", "(LLostLetters$Row;)I"⟩, 10), (⟨"LostLetters$Code", "holds", "(LLostLetters$Row;)Z"⟩, 10), (⟨"LostLetters$Code", "write", "(ILLostLetters$Row;)V"⟩, 10), (⟨"LostLetters$Row", "append", "(I)V"⟩, 2), (⟨"LostLetters$Code", "neighbours", "(LLostLetters$Row;)I"⟩, 10), (⟨"LostLetters$Code", "neighboursByTurn", "(LLostLetters$Row;)I"⟩, 10), (⟨"LostLetters$Code", "take", "()I"⟩, 10), (⟨"LostLetters$Code", "neighboursByGain", "(LLostLetters$Row;)I"⟩, 10), (⟨"LostLetters$Code", "neighboursByLoss", "(LLostLetters$Row;)I"⟩, 10)]
theorem lw_r2 : ∀ q ∈ lw_privs_2, lw_okq q := List.forall_mem_cons.mpr ⟨lw_p16, List.forall_mem_cons.mpr ⟨lw_p17, List.forall_mem_cons.mpr ⟨lw_p18, List.forall_mem_cons.mpr ⟨lw_p19, List.forall_mem_cons.mpr ⟨lw_p20, List.forall_mem_cons.mpr ⟨lw_p21, List.forall_mem_cons.mpr ⟨lw_p22, List.forall_mem_cons.mpr ⟨lw_p23, List.forall_mem_cons.mpr ⟨lw_p24, List.forall_mem_cons.mpr ⟨lw_p25, List.forall_mem_cons.mpr ⟨lw_p26, List.forall_mem_cons.mpr ⟨lw_p27, List.forall_mem_cons.mpr ⟨lw_p28, List.forall_mem_cons.mpr ⟨lw_p29, List.forall_mem_cons.mpr ⟨lw_p30, List.forall_mem_cons.mpr ⟨lw_p31, fun _ h => absurd h List.not_mem_nil⟩⟩⟩⟩⟩⟩⟩⟩⟩⟩⟩⟩⟩⟩⟩⟩
theorem lw_p32 : lw_okq (⟨"LostLetters$Parts", "howOften", "(LLostLetters$Row;LLostLetters$Row;)J"⟩, 2) := ⟨⟨by decide +kernel, by decide +kernel⟩, List.mem_of_getElem? (i := 82) (by decide +kernel), List.mem_of_getElem? (i := 394) (by decide +kernel), List.mem_of_getElem? (i := 395) (by decide +kernel)⟩
theorem lw_p33 : lw_okq (⟨"LostLetters$Pair", "longest", "(LLostLetters$Row;LLostLetters$Row;)I"⟩, 3) := ⟨⟨by decide +kernel, by decide +kernel⟩, List.mem_of_getElem? (i := 96) (by decide +kernel), List.mem_of_getElem? (i := 403) (by decide +kernel), List.mem_of_getElem? (i := 404) (by decide +kernel)⟩
theorem lw_p34 : lw_okq (⟨"LostLetters$Pair", "longestFrom", "(LLostLetters$Row;ILLostLetters$Row;I)I"⟩, 3) := ⟨⟨by decide +kernel, by decide +kernel⟩, List.mem_of_getElem? (i := 96) (by decide +kernel), List.mem_of_getElem? (i := 410) (by decide +kernel), List.mem_of_getElem? (i := 411) (by decide +kernel)⟩
theorem lw_p35 : lw_okq (⟨"LostLetters$Pair", "firstLongest", "(LLostLetters$Row;LLostLetters$Row;I)LLostLetters$Row;"⟩, 3) := ⟨⟨by decide +kernel, by decide +kernel⟩, List.mem_of_getElem? (i := 96) (by decide +kernel), List.mem_of_getElem? (i := 416) (by decide +kernel), List.mem_of_getElem? (i := 417) (by decide +kernel)⟩
theorem lw_p36 : lw_okq (⟨"LostLetters$Row", "next", "(II)I"⟩, 2) := ⟨⟨by decide +kernel, by decide +kernel⟩, List.mem_of_getElem? (i := 20) (by decide +kernel), List.mem_of_getElem? (i := 421) (by decide +kernel), List.mem_of_getElem? (i := 422) (by decide +kernel)⟩
theorem lw_p37 : lw_okq (⟨"LostLetters$Pair", "goesOn", "(LLostLetters$Row;ILLostLetters$Row;II)Z"⟩, 3) := ⟨⟨by decide +kernel, by decide +kernel⟩, List.mem_of_getElem? (i := 96) (by decide +kernel), List.mem_of_getElem? (i := 426) (by decide +kernel), List.mem_of_getElem? (i := 427) (by decide +kernel)⟩
theorem lw_p38 : lw_okq (⟨"LostLetters$Pair", "howManyLongest", "(LLostLetters$Row;LLostLetters$Row;I)J"⟩, 3) := ⟨⟨by decide +kernel, by decide +kernel⟩, List.mem_of_getElem? (i := 96) (by decide +kernel), List.mem_of_getElem? (i := 435) (by decide +kernel), List.mem_of_getElem? (i := 436) (by decide +kernel)⟩
theorem lw_p39 : lw_okq (⟨"LostLetters$Pair", "howManyFrom", "(LLostLetters$Row;ILLostLetters$Row;II)J"⟩, 3) := ⟨⟨by decide +kernel, by decide +kernel⟩, List.mem_of_getElem? (i := 96) (by decide +kernel), List.mem_of_getElem? (i := 439) (by decide +kernel), List.mem_of_getElem? (i := 440) (by decide +kernel)⟩
theorem lw_p40 : lw_okq (⟨"LostLetters$Pair", "edits", "(LLostLetters$Row;LLostLetters$Row;)I"⟩, 3) := ⟨⟨by decide +kernel, by decide +kernel⟩, List.mem_of_getElem? (i := 96) (by decide +kernel), List.mem_of_getElem? (i := 450) (by decide +kernel), List.mem_of_getElem? (i := 451) (by decide +kernel)⟩
theorem lw_p41 : lw_okq (⟨"LostLetters$Pair", "editsFrom", "(LLostLetters$Row;ILLostLetters$Row;I)I"⟩, 3) := ⟨⟨by decide +kernel, by decide +kernel⟩, List.mem_of_getElem? (i := 96) (by decide +kernel), List.mem_of_getElem? (i := 454) (by decide +kernel), List.mem_of_getElem? (i := 455) (by decide +kernel)⟩
theorem lw_p42 : lw_okq (⟨"LostLetters$Parts", "byLosing", "(LLostLetters$Row;II)J"⟩, 2) := ⟨⟨by decide +kernel, by decide +kernel⟩, List.mem_of_getElem? (i := 82) (by decide +kernel), List.mem_of_getElem? (i := 463) (by decide +kernel), List.mem_of_getElem? (i := 464) (by decide +kernel)⟩
theorem lw_p43 : lw_okq (⟨"LostLetters$Parts", "leftFrom", "(LLostLetters$Row;III)J"⟩, 2) := ⟨⟨by decide +kernel, by decide +kernel⟩, List.mem_of_getElem? (i := 82) (by decide +kernel), List.mem_of_getElem? (i := 467) (by decide +kernel), List.mem_of_getElem? (i := 468) (by decide +kernel)⟩
theorem lw_p44 : lw_okq (⟨"LostLetters$Parts", "byGaining", "(LLostLetters$Row;II)J"⟩, 2) := ⟨⟨by decide +kernel, by decide +kernel⟩, List.mem_of_getElem? (i := 82) (by decide +kernel), List.mem_of_getElem? (i := 472) (by decide +kernel), List.mem_of_getElem? (i := 473) (by decide +kernel)⟩
theorem lw_p45 : lw_okq (⟨"LostLetters$Traces", "keep", "(LLostLetters$Row;)V"⟩, 9) := ⟨⟨by decide +kernel, by decide +kernel⟩, List.mem_of_getElem? (i := 114) (by decide +kernel), List.mem_of_getElem? (i := 480) (by decide +kernel), List.mem_of_getElem? (i := 481) (by decide +kernel)⟩
theorem lw_p46 : lw_okq (⟨"LostLetters", "isSourceLength", "(I)Z"⟩, 7) := ⟨⟨by decide +kernel, by decide +kernel⟩, List.mem_of_getElem? (i := 11) (by decide +kernel), List.mem_of_getElem? (i := 493) (by decide +kernel), List.mem_of_getElem? (i := 494) (by decide +kernel)⟩
theorem lw_p47 : lw_okq (⟨"LostLetters$Traces", "search", "(II)I"⟩, 9) := ⟨⟨by decide +kernel, by decide +kernel⟩, List.mem_of_getElem? (i := 114) (by decide +kernel), List.mem_of_getElem? (i := 497) (by decide +kernel), List.mem_of_getElem? (i := 498) (by decide +kernel)⟩
def lw_privs_3 : List (MethodName × Nat) := [(⟨"LostLetters$Parts", "howOften", "(LLostLetters$Row;LLostLetters$Row;)J"⟩, 2), (⟨"LostLetters$Pair", "longest", "(LLostLetters$Row;LLostLetters$Row;)I"⟩, 3), (⟨"LostLetters$Pair", "longestFrom", "(LLostLetters$Row;ILLostLetters$Row;I)I"⟩, 3), (⟨"LostLetters$Pair", "firstLongest", "(LLostLetters$Row;LLostLetters$Row;I)LLostLetters$Row;"⟩, 3), (⟨"LostLetters$Row", "next", "(II)I"⟩, 2), (⟨"LostLetters$Pair", "goesOn", "(LLostLetters$Row;ILLostLetters$Row;II)Z"⟩, 3), (⟨"LostLetters$Pair", "howManyLongest", "(LLostLetters$Row;LLostLetters$Row;I)J"⟩, 3), (⟨"LostLetters$Pair", "howManyFrom", "(LLostLetters$Row;ILLostLetters$Row;II)J"⟩, 3), (⟨"LostLetters$Pair", "edits", "(LLostLetters$Row;LLostLetters$Row;)I"⟩, 3), (⟨"LostLetters$Pair", "editsFrom", "(LLostLetters$Row;ILLostLetters$Row;I)I"⟩, 3), (⟨"LostLetters$Parts", "byLosing", "(LLostLetters$Row;II)J"⟩, 2), (⟨"LostLetters$Parts", "leftFrom", "(LLostLetters$Row;III)J"⟩, 2), (⟨"LostLetters$Parts", "byGaining", "(LLostLetters$Row;II)J"⟩, 2), (⟨"LostLetters$Traces", "keep", "(LLostLetters$Row;)V"⟩, 9), (⟨"LostLetters", "isSourceLength", "(I)Z"⟩, 7), (⟨"LostLetters$Traces", "search", "(II)I"⟩, 9)]
theorem lw_r3 : ∀ q ∈ lw_privs_3, lw_okq q := List.forall_mem_cons.mpr ⟨lw_p32, List.forall_mem_cons.mpr ⟨lw_p33, List.forall_mem_cons.mpr ⟨lw_p34, List.forall_mem_cons.mpr ⟨lw_p35, List.forall_mem_cons.mpr ⟨lw_p36, List.forall_mem_cons.mpr ⟨lw_p37, List.forall_mem_cons.mpr ⟨lw_p38, List.forall_mem_cons.mpr ⟨lw_p39, List.forall_mem_cons.mpr ⟨lw_p40, List.forall_mem_cons.mpr ⟨lw_p41, List.forall_mem_cons.mpr ⟨lw_p42, List.forall_mem_cons.mpr ⟨lw_p43, List.forall_mem_cons.mpr ⟨lw_p44, List.forall_mem_cons.mpr ⟨lw_p45, List.forall_mem_cons.mpr ⟨lw_p46, List.forall_mem_cons.mpr ⟨lw_p47, fun _ h => absurd h List.not_mem_nil⟩⟩⟩⟩⟩⟩⟩⟩⟩⟩⟩⟩⟩⟩⟩⟩
theorem lw_p48 : lw_okq (⟨"LostLetters$Traces", "explore", "(I)V"⟩, 9) := ⟨⟨by decide +kernel, by decide +kernel⟩, List.mem_of_getElem? (i := 114) (by decide +kernel), List.mem_of_getElem? (i := 505) (by decide +kernel), List.mem_of_getElem? (i := 506) (by decide +kernel)⟩
theorem lw_p49 : lw_okq (⟨"LostLetters$Traces", "weigh", "()V"⟩, 9) := ⟨⟨by decide +kernel, by decide +kernel⟩, List.mem_of_getElem? (i := 114) (by decide +kernel), List.mem_of_getElem? (i := 509) (by decide +kernel), List.mem_of_getElem? (i := 510) (by decide +kernel)⟩
theorem lw_p50 : lw_okq (⟨"LostLetters$Traces", "allFollow", "(II)Z"⟩, 9) := ⟨⟨by decide +kernel, by decide +kernel⟩, List.mem_of_getElem? (i := 114) (by decide +kernel), List.mem_of_getElem? (i := 517) (by decide +kernel), List.mem_of_getElem? (i := 518) (by decide +kernel)⟩
theorem lw_p51 : lw_okq (⟨"LostLetters$Traces", "follows", "(III)Z"⟩, 9) := ⟨⟨by decide +kernel, by decide +kernel⟩, List.mem_of_getElem? (i := 114) (by decide +kernel), List.mem_of_getElem? (i := 521) (by decide +kernel), List.mem_of_getElem? (i := 522) (by decide +kernel)⟩
theorem lw_p52 : lw_okq (⟨"LostLetters$Line", "tell", "(III)V"⟩, 5) := ⟨⟨by decide +kernel, by decide +kernel⟩, List.mem_of_getElem? (i := 152) (by decide +kernel), List.mem_of_getElem? (i := 540) (by decide +kernel), List.mem_of_getElem? (i := 541) (by decide +kernel)⟩
theorem lw_p53 : lw_okq (⟨"LostLetters$Line", "carry", "(LLostLetters$Row;I)Z"⟩, 5) := ⟨⟨by decide +kernel, by decide +kernel⟩, List.mem_of_getElem? (i := 152) (by decide +kernel), List.mem_of_getElem? (i := 552) (by decide +kernel), List.mem_of_getElem? (i := 553) (by decide +kernel)⟩
theorem lw_p54 : lw_okq (⟨"LostLetters$Line", "carryLetter", "(III)Z"⟩, 5) := ⟨⟨by decide +kernel, by decide +kernel⟩, List.mem_of_getElem? (i := 152) (by decide +kernel), List.mem_of_getElem? (i := 561) (by decide +kernel), List.mem_of_getElem? (i := 562) (by decide +kernel)⟩
theorem lw_p55 : lw_okq (⟨"LostLetters$Line", "takeUp", "(I)Z"⟩, 5) := ⟨⟨by decide +kernel, by decide +kernel⟩, List.mem_of_getElem? (i := 152) (by decide +kernel), List.mem_of_getElem? (i := 565) (by decide +kernel), List.mem_of_getElem? (i := 566) (by decide +kernel)⟩
theorem lw_p56 : lw_okq (⟨"LostLetters", "lettersOfAll", "()I"⟩, 7) := ⟨⟨by decide +kernel, by decide +kernel⟩, List.mem_of_getElem? (i := 11) (by decide +kernel), List.mem_of_getElem? (i := 575) (by decide +kernel), List.mem_of_getElem? (i := 576) (by decide +kernel)⟩
theorem lw_p57 : lw_okq (⟨"LostLettersModel", "puts", "(II)V"⟩, 17) := ⟨⟨by decide +kernel, by decide +kernel⟩, List.mem_of_getElem? (i := 579) (by decide +kernel), List.mem_of_getElem? (i := 656) (by decide +kernel), List.mem_of_getElem? (i := 657) (by decide +kernel)⟩
theorem lw_p58 : lw_okq (⟨"LostLettersModel", "edits", "(IIIII)V"⟩, 17) := ⟨⟨by decide +kernel, by decide +kernel⟩, List.mem_of_getElem? (i := 579) (by decide +kernel), List.mem_of_getElem? (i := 668) (by decide +kernel), List.mem_of_getElem? (i := 669) (by decide +kernel)⟩
theorem lw_p59 : lw_okq (⟨"LostLettersModel", "copies", "(II)V"⟩, 17) := ⟨⟨by decide +kernel, by decide +kernel⟩, List.mem_of_getElem? (i := 579) (by decide +kernel), List.mem_of_getElem? (i := 672) (by decide +kernel), List.mem_of_getElem? (i := 673) (by decide +kernel)⟩
theorem lw_p60 : lw_okq (⟨"LostLettersModel", "counts", "()V"⟩, 17) := ⟨⟨by decide +kernel, by decide +kernel⟩, List.mem_of_getElem? (i := 579) (by decide +kernel), List.mem_of_getElem? (i := 682) (by decide +kernel), List.mem_of_getElem? (i := 683) (by decide +kernel)⟩
theorem lw_p61 : lw_okq (⟨"LostLettersModel", "step", "(III)I"⟩, 17) := ⟨⟨by decide +kernel, by decide +kernel⟩, List.mem_of_getElem? (i := 579) (by decide +kernel), List.mem_of_getElem? (i := 686) (by decide +kernel), List.mem_of_getElem? (i := 687) (by decide +kernel)⟩
theorem lw_p62 : lw_okq (⟨"LostLettersModel", "codeSize", "()I"⟩, 17) := ⟨⟨by decide +kernel, by decide +kernel⟩, List.mem_of_getElem? (i := 579) (by decide +kernel), List.mem_of_getElem? (i := 693) (by decide +kernel), List.mem_of_getElem? (i := 694) (by decide +kernel)⟩
theorem lw_p63 : lw_okq (⟨"LostLettersModel", "sumOf", "(I)I"⟩, 17) := ⟨⟨by decide +kernel, by decide +kernel⟩, List.mem_of_getElem? (i := 579) (by decide +kernel), List.mem_of_getElem? (i := 701) (by decide +kernel), List.mem_of_getElem? (i := 702) (by decide +kernel)⟩
def lw_privs_4 : List (MethodName × Nat) := [(⟨"LostLetters$Traces", "explore", "(I)V"⟩, 9), (⟨"LostLetters$Traces", "weigh", "()V"⟩, 9), (⟨"LostLetters$Traces", "allFollow", "(II)Z"⟩, 9), (⟨"LostLetters$Traces", "follows", "(III)Z"⟩, 9), (⟨"LostLetters$Line", "tell", "(III)V"⟩, 5), (⟨"LostLetters$Line", "carry", "(LLostLetters$Row;I)Z"⟩, 5), (⟨"LostLetters$Line", "carryLetter", "(III)Z"⟩, 5), (⟨"LostLetters$Line", "takeUp", "(I)Z"⟩, 5), (⟨"LostLetters", "lettersOfAll", "()I"⟩, 7), (⟨"LostLettersModel", "puts", "(II)V"⟩, 17), (⟨"LostLettersModel", "edits", "(IIIII)V"⟩, 17), (⟨"LostLettersModel", "copies", "(II)V"⟩, 17), (⟨"LostLettersModel", "counts", "()V"⟩, 17), (⟨"LostLettersModel", "step", "(III)I"⟩, 17), (⟨"LostLettersModel", "codeSize", "()I"⟩, 17), (⟨"LostLettersModel", "sumOf", "(I)I"⟩, 17)]
theorem lw_r4 : ∀ q ∈ lw_privs_4, lw_okq q := List.forall_mem_cons.mpr ⟨lw_p48, List.forall_mem_cons.mpr ⟨lw_p49, List.forall_mem_cons.mpr ⟨lw_p50, List.forall_mem_cons.mpr ⟨lw_p51, List.forall_mem_cons.mpr ⟨lw_p52, List.forall_mem_cons.mpr ⟨lw_p53, List.forall_mem_cons.mpr ⟨lw_p54, List.forall_mem_cons.mpr ⟨lw_p55, List.forall_mem_cons.mpr ⟨lw_p56, List.forall_mem_cons.mpr ⟨lw_p57, List.forall_mem_cons.mpr ⟨lw_p58, List.forall_mem_cons.mpr ⟨lw_p59, List.forall_mem_cons.mpr ⟨lw_p60, List.forall_mem_cons.mpr ⟨lw_p61, List.forall_mem_cons.mpr ⟨lw_p62, List.forall_mem_cons.mpr ⟨lw_p63, fun _ h => absurd h List.not_mem_nil⟩⟩⟩⟩⟩⟩⟩⟩⟩⟩⟩⟩⟩⟩⟩⟩
theorem lw_p64 : lw_okq (⟨"LostLettersModel", "isCode", "(I)Z"⟩, 17) := ⟨⟨by decide +kernel, by decide +kernel⟩, List.mem_of_getElem? (i := 579) (by decide +kernel), List.mem_of_getElem? (i := 709) (by decide +kernel), List.mem_of_getElem? (i := 710) (by decide +kernel)⟩
theorem lw_p65 : lw_okq (⟨"LostLettersModel", "lettersOf", "(I)I"⟩, 17) := ⟨⟨by decide +kernel, by decide +kernel⟩, List.mem_of_getElem? (i := 579) (by decide +kernel), List.mem_of_getElem? (i := 713) (by decide +kernel), List.mem_of_getElem? (i := 714) (by decide +kernel)⟩
theorem lw_p66 : lw_okq (⟨"LostLettersModel", "looks", "(I)V"⟩, 17) := ⟨⟨by decide +kernel, by decide +kernel⟩, List.mem_of_getElem? (i := 579) (by decide +kernel), List.mem_of_getElem? (i := 725) (by decide +kernel), List.mem_of_getElem? (i := 726) (by decide +kernel)⟩
theorem lw_p67 : lw_okq (⟨"LostLettersModel", "meets", "()V"⟩, 17) := ⟨⟨by decide +kernel, by decide +kernel⟩, List.mem_of_getElem? (i := 579) (by decide +kernel), List.mem_of_getElem? (i := 729) (by decide +kernel), List.mem_of_getElem? (i := 730) (by decide +kernel)⟩
theorem lw_p68 : lw_okq (⟨"LostLettersModel", "lies", "(II)J"⟩, 17) := ⟨⟨by decide +kernel, by decide +kernel⟩, List.mem_of_getElem? (i := 579) (by decide +kernel), List.mem_of_getElem? (i := 741) (by decide +kernel), List.mem_of_getElem? (i := 742) (by decide +kernel)⟩
theorem lw_p69 : lw_okq (⟨"LostLettersModel", "longests", "(II)V"⟩, 17) := ⟨⟨by decide +kernel, by decide +kernel⟩, List.mem_of_getElem? (i := 579) (by decide +kernel), List.mem_of_getElem? (i := 750) (by decide +kernel), List.mem_of_getElem? (i := 751) (by decide +kernel)⟩
theorem lw_p70 : lw_okq (⟨"LostLettersModel", "next", "(III)I"⟩, 17) := ⟨⟨by decide +kernel, by decide +kernel⟩, List.mem_of_getElem? (i := 579) (by decide +kernel), List.mem_of_getElem? (i := 754) (by decide +kernel), List.mem_of_getElem? (i := 755) (by decide +kernel)⟩
theorem lw_p71 : lw_okq (⟨"LostLettersModel", "editsBetween", "(II)I"⟩, 17) := ⟨⟨by decide +kernel, by decide +kernel⟩, List.mem_of_getElem? (i := 579) (by decide +kernel), List.mem_of_getElem? (i := 766) (by decide +kernel), List.mem_of_getElem? (i := 767) (by decide +kernel)⟩
theorem lw_p72 : lw_okq (⟨"LostLettersModel", "gained", "(II)J"⟩, 17) := ⟨⟨by decide +kernel, by decide +kernel⟩, List.mem_of_getElem? (i := 579) (by decide +kernel), List.mem_of_getElem? (i := 775) (by decide +kernel), List.mem_of_getElem? (i := 776) (by decide +kernel)⟩
theorem lw_p73 : lw_okq (⟨"LostLettersModel", "parts", "(II)J"⟩, 17) := ⟨⟨by decide +kernel, by decide +kernel⟩, List.mem_of_getElem? (i := 579) (by decide +kernel), List.mem_of_getElem? (i := 779) (by decide +kernel), List.mem_of_getElem? (i := 780) (by decide +kernel)⟩
theorem lw_p74 : lw_okq (⟨"LostLettersModel", "power", "(I)I"⟩, 17) := ⟨⟨by decide +kernel, by decide +kernel⟩, List.mem_of_getElem? (i := 579) (by decide +kernel), List.mem_of_getElem? (i := 796) (by decide +kernel), List.mem_of_getElem? (i := 797) (by decide +kernel)⟩
theorem lw_p75 : lw_okq (⟨"LostLettersModel", "numbers", "(II)V"⟩, 17) := ⟨⟨by decide +kernel, by decide +kernel⟩, List.mem_of_getElem? (i := 579) (by decide +kernel), List.mem_of_getElem? (i := 800) (by decide +kernel), List.mem_of_getElem? (i := 801) (by decide +kernel)⟩
theorem lw_p76 : lw_okq (⟨"LostLettersModel", "product", "()J"⟩, 17) := ⟨⟨by decide +kernel, by decide +kernel⟩, List.mem_of_getElem? (i := 579) (by decide +kernel), List.mem_of_getElem? (i := 804) (by decide +kernel), List.mem_of_getElem? (i := 805) (by decide +kernel)⟩
theorem lw_p77 : lw_okq (⟨"LostLettersModel", "adds", "(II)I"⟩, 17) := ⟨⟨by decide +kernel, by decide +kernel⟩, List.mem_of_getElem? (i := 579) (by decide +kernel), List.mem_of_getElem? (i := 827) (by decide +kernel), List.mem_of_getElem? (i := 828) (by decide +kernel)⟩
def lw_privs_5 : List (MethodName × Nat) := [(⟨"LostLettersModel", "isCode", "(I)Z"⟩, 17), (⟨"LostLettersModel", "lettersOf", "(I)I"⟩, 17), (⟨"LostLettersModel", "looks", "(I)V"⟩, 17), (⟨"LostLettersModel", "meets", "()V"⟩, 17), (⟨"LostLettersModel", "lies", "(II)J"⟩, 17), (⟨"LostLettersModel", "longests", "(II)V"⟩, 17), (⟨"LostLettersModel", "next", "(III)I"⟩, 17), (⟨"LostLettersModel", "editsBetween", "(II)I"⟩, 17), (⟨"LostLettersModel", "gained", "(II)J"⟩, 17), (⟨"LostLettersModel", "parts", "(II)J"⟩, 17), (⟨"LostLettersModel", "power", "(I)I"⟩, 17), (⟨"LostLettersModel", "numbers", "(II)V"⟩, 17), (⟨"LostLettersModel", "product", "()J"⟩, 17), (⟨"LostLettersModel", "adds", "(II)I"⟩, 17)]
theorem lw_r5 : ∀ q ∈ lw_privs_5, lw_okq q := List.forall_mem_cons.mpr ⟨lw_p64, List.forall_mem_cons.mpr ⟨lw_p65, List.forall_mem_cons.mpr ⟨lw_p66, List.forall_mem_cons.mpr ⟨lw_p67, List.forall_mem_cons.mpr ⟨lw_p68, List.forall_mem_cons.mpr ⟨lw_p69, List.forall_mem_cons.mpr ⟨lw_p70, List.forall_mem_cons.mpr ⟨lw_p71, List.forall_mem_cons.mpr ⟨lw_p72, List.forall_mem_cons.mpr ⟨lw_p73, List.forall_mem_cons.mpr ⟨lw_p74, List.forall_mem_cons.mpr ⟨lw_p75, List.forall_mem_cons.mpr ⟨lw_p76, List.forall_mem_cons.mpr ⟨lw_p77, fun _ h => absurd h List.not_mem_nil⟩⟩⟩⟩⟩⟩⟩⟩⟩⟩⟩⟩⟩⟩
def lw_privs : List (MethodName × Nat) := lw_privs_1 ++ (lw_privs_2 ++ (lw_privs_3 ++ (lw_privs_4 ++ (lw_privs_5))))
def lw_tbl : List Cond := k2_sels lw_privs ++ tables_1
theorem lw_privs_ok : ∀ q ∈ lw_privs, lw_okq q := by
  show ∀ q ∈ lw_privs_1 ++ (lw_privs_2 ++ (lw_privs_3 ++ (lw_privs_4 ++ (lw_privs_5)))), lw_okq q
  exact List.forall_mem_append.mpr ⟨lw_r1, List.forall_mem_append.mpr ⟨lw_r2, List.forall_mem_append.mpr ⟨lw_r3, List.forall_mem_append.mpr ⟨lw_r4, lw_r5⟩⟩⟩⟩
def RX0 : String := "LostLetters$Code"
def TX0 : u_T := fun k => match k with
  | 0 => ("LostLetters$Code", "tried", "LLostLetters$Row;", true)
  | 1 => ("LostLetters$Code", "found", "LLostLetters$Row;", true)
  | 2 => ("LostLetters$Code", "ways", "[I", false)
  | 3 => ("LostLetters$Code", "q", "I", false)
  | 4 => ("LostLetters$Code", "n", "I", false)
  | 5 => ("LostLetters$Code", "m", "I", false)
  | 6 => ("LostLetters$Code", "a", "I", false)
  | 7 => ("LostLetters$Code", "b", "I", false)
  | 8 => ("LostLetters$Code", "letterModulus", "I", false)
  | _ => ("LostLetters$Code", "size", "I", false)
def tyX0 : Nat → FieldType := fun k => match k with
  | 0 => .object "LostLetters$Row"
  | 1 => .object "LostLetters$Row"
  | 2 => .array .int
  | 3 => .int
  | 4 => .int
  | 5 => .int
  | 6 => .int
  | 7 => .int
  | 8 => .int
  | _ => .int
abbrev wsX00 : List Cond := u_ws RX0 TX0 10
theorem nmX0 : ∀ a, a < 10 → ∀ b, b < 10 → a ≠ b → (TX0 a).2.1 ≠ (TX0 b).2.1 := by decide +kernel
theorem tyX0_ok : ∀ k, k < 10 → parseFieldDescriptor (TX0 k).2.2.1 = some (tyX0 k) := by decide +kernel
abbrev cX0_init : ByteArray := prog_2_method_1_code
def yX0_init : MethodName := ⟨RX0, "<init>", "()V"⟩
abbrev cX0_stands : ByteArray := prog_2_method_2_code
def yX0_stands : MethodName := ⟨RX0, "stands", "()Z"⟩
abbrev cX0_forget : ByteArray := prog_2_method_3_code
def yX0_forget : MethodName := ⟨RX0, "forget", "()V"⟩
abbrev cX0_tell : ByteArray := prog_2_method_4_code
def yX0_tell : MethodName := ⟨RX0, "tell", "(IIIII)V"⟩
abbrev cX0_makeRoom : ByteArray := prog_2_method_5_code
def yX0_makeRoom : MethodName := ⟨RX0, "makeRoom", "()V"⟩
abbrev cX0_countWays : ByteArray := prog_2_method_6_code
def yX0_countWays : MethodName := ⟨RX0, "countWays", "()V"⟩
abbrev cX0_countWaysBehind : ByteArray := prog_2_method_7_code
def yX0_countWaysBehind : MethodName := ⟨RX0, "countWaysBehind", "(II)V"⟩
abbrev cX0_waysByNext : ByteArray := prog_2_method_8_code
def yX0_waysByNext : MethodName := ⟨RX0, "waysByNext", "(IIII)I"⟩
abbrev cX0_waysToEnd : ByteArray := prog_2_method_9_code
def yX0_waysToEnd : MethodName := ⟨RX0, "waysToEnd", "(IIII)I"⟩
abbrev cX0_cell : ByteArray := prog_2_method_10_code
def yX0_cell : MethodName := ⟨RX0, "cell", "(IIII)I"⟩
abbrev cX0_sumWith : ByteArray := prog_2_method_11_code
def yX0_sumWith : MethodName := ⟨RX0, "sumWith", "(IIII)I"⟩
abbrev cX0_sumOf : ByteArray := prog_2_method_12_code
def yX0_sumOf : MethodName := ⟨RX0, "sumOf", "(LLostLetters$Row;)I"⟩
abbrev cX0_holds : ByteArray := prog_2_method_13_code
def yX0_holds : MethodName := ⟨RX0, "holds", "(LLostLetters$Row;)Z"⟩
abbrev cX0_write : ByteArray := prog_2_method_14_code
def yX0_write : MethodName := ⟨RX0, "write", "(ILLostLetters$Row;)V"⟩
abbrev cX0_neighbours : ByteArray := prog_2_method_15_code
def yX0_neighbours : MethodName := ⟨RX0, "neighbours", "(LLostLetters$Row;)I"⟩
abbrev cX0_neighboursByTurn : ByteArray := prog_2_method_16_code
def yX0_neighboursByTurn : MethodName := ⟨RX0, "neighboursByTurn", "(LLostLetters$Row;)I"⟩
abbrev cX0_neighboursByGain : ByteArray := prog_2_method_17_code
def yX0_neighboursByGain : MethodName := ⟨RX0, "neighboursByGain", "(LLostLetters$Row;)I"⟩
abbrev cX0_neighboursByLoss : ByteArray := prog_2_method_18_code
def yX0_neighboursByLoss : MethodName := ⟨RX0, "neighboursByLoss", "(LLostLetters$Row;)I"⟩
abbrev cX0_take : ByteArray := prog_2_method_19_code
def yX0_take : MethodName := ⟨RX0, "take", "()I"⟩
def RX1 : String := "LostLetters$Line"
def TX1 : u_T := fun k => match k with
  | 0 => ("LostLetters$Line", "carried", "LLostLetters$Row;", true)
  | 1 => ("LostLetters$Line", "belowLosses", "I", false)
  | 2 => ("LostLetters$Line", "belowGains", "I", false)
  | 3 => ("LostLetters$Line", "belowTurns", "I", false)
  | _ => ("LostLetters$Line", "seed", "J", false)
def tyX1 : Nat → FieldType := fun k => match k with
  | 0 => .object "LostLetters$Row"
  | 1 => .int
  | 2 => .int
  | 3 => .int
  | _ => .long
abbrev wsX10 : List Cond := u_ws RX1 TX1 5
theorem nmX1 : ∀ a, a < 5 → ∀ b, b < 5 → a ≠ b → (TX1 a).2.1 ≠ (TX1 b).2.1 := by decide +kernel
theorem tyX1_ok : ∀ k, k < 5 → parseFieldDescriptor (TX1 k).2.2.1 = some (tyX1 k) := by decide +kernel
abbrev cX1_init : ByteArray := prog_3_method_1_code
def yX1_init : MethodName := ⟨RX1, "<init>", "()V"⟩
abbrev cX1_tell : ByteArray := prog_3_method_2_code
def yX1_tell : MethodName := ⟨RX1, "tell", "(III)V"⟩
abbrev cX1_carry : ByteArray := prog_3_method_3_code
def yX1_carry : MethodName := ⟨RX1, "carry", "(LLostLetters$Row;I)Z"⟩
abbrev cX1_carryLetter : ByteArray := prog_3_method_4_code
def yX1_carryLetter : MethodName := ⟨RX1, "carryLetter", "(III)Z"⟩
abbrev cX1_takeUp : ByteArray := prog_3_method_5_code
def yX1_takeUp : MethodName := ⟨RX1, "takeUp", "(I)Z"⟩
def RX2 : String := "LostLetters$Pair"
def TX2 : u_T := fun k => match k with
  | 0 => ("LostLetters$Pair", "lengths", "[I", true)
  | 1 => ("LostLetters$Pair", "numbers", "[J", true)
  | _ => ("LostLetters$Pair", "first", "LLostLetters$Row;", true)
def tyX2 : Nat → FieldType := fun k => match k with
  | 0 => .array .int
  | 1 => .array .long
  | _ => .object "LostLetters$Row"
abbrev wsX20 : List Cond := u_ws RX2 TX2 3
theorem nmX2 : ∀ a, a < 3 → ∀ b, b < 3 → a ≠ b → (TX2 a).2.1 ≠ (TX2 b).2.1 := by decide +kernel
theorem tyX2_ok : ∀ k, k < 3 → parseFieldDescriptor (TX2 k).2.2.1 = some (tyX2 k) := by decide +kernel
abbrev cX2_init : ByteArray := prog_4_method_1_code
def yX2_init : MethodName := ⟨RX2, "<init>", "()V"⟩
abbrev cX2_cell : ByteArray := prog_4_method_2_code
def yX2_cell : MethodName := ⟨RX2, "cell", "(II)I"⟩
abbrev cX2_longest : ByteArray := prog_4_method_3_code
def yX2_longest : MethodName := ⟨RX2, "longest", "(LLostLetters$Row;LLostLetters$Row;)I"⟩
abbrev cX2_longestFrom : ByteArray := prog_4_method_4_code
def yX2_longestFrom : MethodName := ⟨RX2, "longestFrom", "(LLostLetters$Row;ILLostLetters$Row;I)I"⟩
abbrev cX2_goesOn : ByteArray := prog_4_method_5_code
def yX2_goesOn : MethodName := ⟨RX2, "goesOn", "(LLostLetters$Row;ILLostLetters$Row;II)Z"⟩
abbrev cX2_firstLongest : ByteArray := prog_4_method_6_code
def yX2_firstLongest : MethodName := ⟨RX2, "firstLongest", "(LLostLetters$Row;LLostLetters$Row;I)LLostLetters$Row;"⟩
abbrev cX2_howManyLongest : ByteArray := prog_4_method_7_code
def yX2_howManyLongest : MethodName := ⟨RX2, "howManyLongest", "(LLostLetters$Row;LLostLetters$Row;I)J"⟩
abbrev cX2_howManyFrom : ByteArray := prog_4_method_8_code
def yX2_howManyFrom : MethodName := ⟨RX2, "howManyFrom", "(LLostLetters$Row;ILLostLetters$Row;II)J"⟩
abbrev cX2_edits : ByteArray := prog_4_method_9_code
def yX2_edits : MethodName := ⟨RX2, "edits", "(LLostLetters$Row;LLostLetters$Row;)I"⟩
abbrev cX2_editsFrom : ByteArray := prog_4_method_10_code
def yX2_editsFrom : MethodName := ⟨RX2, "editsFrom", "(LLostLetters$Row;ILLostLetters$Row;I)I"⟩
def RX3 : String := "LostLetters$Parts"
def TX3 : u_T := fun k => match k with
  | 0 => ("LostLetters$Parts", "embedded", "[J", true)
  | _ => ("LostLetters$Parts", "left", "[J", true)
def tyX3 : Nat → FieldType := fun k => match k with
  | 0 => .array .long
  | _ => .array .long
abbrev wsX30 : List Cond := u_ws RX3 TX3 2
theorem nmX3 : ∀ a, a < 2 → ∀ b, b < 2 → a ≠ b → (TX3 a).2.1 ≠ (TX3 b).2.1 := by decide +kernel
theorem tyX3_ok : ∀ k, k < 2 → parseFieldDescriptor (TX3 k).2.2.1 = some (tyX3 k) := by decide +kernel
abbrev cX3_init : ByteArray := prog_5_method_1_code
def yX3_init : MethodName := ⟨RX3, "<init>", "()V"⟩
abbrev cX3_howOften : ByteArray := prog_5_method_2_code
def yX3_howOften : MethodName := ⟨RX3, "howOften", "(LLostLetters$Row;LLostLetters$Row;)J"⟩
abbrev cX3_byLosing : ByteArray := prog_5_method_3_code
def yX3_byLosing : MethodName := ⟨RX3, "byLosing", "(LLostLetters$Row;II)J"⟩
abbrev cX3_leftFrom : ByteArray := prog_5_method_4_code
def yX3_leftFrom : MethodName := ⟨RX3, "leftFrom", "(LLostLetters$Row;III)J"⟩
abbrev cX3_byGaining : ByteArray := prog_5_method_5_code
def yX3_byGaining : MethodName := ⟨RX3, "byGaining", "(LLostLetters$Row;II)J"⟩
def RX4 : String := "LostLetters$Row"
def TX4 : u_T := fun k => match k with
  | 0 => ("LostLetters$Row", "bits", "J", false)
  | _ => ("LostLetters$Row", "size", "I", false)
def tyX4 : Nat → FieldType := fun k => match k with
  | 0 => .long
  | _ => .int
abbrev wsX40 : List Cond := u_ws RX4 TX4 2
theorem nmX4 : ∀ a, a < 2 → ∀ b, b < 2 → a ≠ b → (TX4 a).2.1 ≠ (TX4 b).2.1 := by decide +kernel
theorem tyX4_ok : ∀ k, k < 2 → parseFieldDescriptor (TX4 k).2.2.1 = some (tyX4 k) := by decide +kernel
abbrev cX4_init : ByteArray := prog_6_method_1_code
def yX4_init : MethodName := ⟨RX4, "<init>", "()V"⟩
abbrev cX4_clear : ByteArray := prog_6_method_2_code
def yX4_clear : MethodName := ⟨RX4, "clear", "()V"⟩
abbrev cX4_put : ByteArray := prog_6_method_3_code
def yX4_put : MethodName := ⟨RX4, "put", "(IJ)V"⟩
abbrev cX4_become : ByteArray := prog_6_method_4_code
def yX4_become : MethodName := ⟨RX4, "become", "(LLostLetters$Row;)V"⟩
abbrev cX4_isFull : ByteArray := prog_6_method_5_code
def yX4_isFull : MethodName := ⟨RX4, "isFull", "()Z"⟩
abbrev cX4_letter : ByteArray := prog_6_method_6_code
def yX4_letter : MethodName := ⟨RX4, "letter", "(I)I"⟩
abbrev cX4_turn : ByteArray := prog_6_method_7_code
def yX4_turn : MethodName := ⟨RX4, "turn", "(II)V"⟩
abbrev cX4_lose : ByteArray := prog_6_method_8_code
def yX4_lose : MethodName := ⟨RX4, "lose", "(I)V"⟩
abbrev cX4_gain : ByteArray := prog_6_method_9_code
def yX4_gain : MethodName := ⟨RX4, "gain", "(II)V"⟩
abbrev cX4_append : ByteArray := prog_6_method_10_code
def yX4_append : MethodName := ⟨RX4, "append", "(I)V"⟩
abbrev cX4_ahead : ByteArray := prog_6_method_11_code
def yX4_ahead : MethodName := ⟨RX4, "ahead", "(I)J"⟩
abbrev cX4_next : ByteArray := prog_6_method_12_code
def yX4_next : MethodName := ⟨RX4, "next", "(II)I"⟩
def RX5 : String := "LostLetters$Traces"
def TX5 : u_T := fun k => match k with
  | 0 => ("LostLetters$Traces", "rows", "[LLostLetters$Row;", true)
  | 1 => ("LostLetters$Traces", "embedded", "[I", true)
  | 2 => ("LostLetters$Traces", "tried", "LLostLetters$Row;", true)
  | 3 => ("LostLetters$Traces", "best", "LLostLetters$Row;", true)
  | 4 => ("LostLetters$Traces", "size", "I", false)
  | 5 => ("LostLetters$Traces", "q", "I", false)
  | 6 => ("LostLetters$Traces", "n", "I", false)
  | 7 => ("LostLetters$Traces", "found", "I", false)
  | _ => ("LostLetters$Traces", "bestProduct", "J", false)
def tyX5 : Nat → FieldType := fun k => match k with
  | 0 => .array (.object "LostLetters$Row")
  | 1 => .array .int
  | 2 => .object "LostLetters$Row"
  | 3 => .object "LostLetters$Row"
  | 4 => .int
  | 5 => .int
  | 6 => .int
  | 7 => .int
  | _ => .long
abbrev wsX50 : List Cond := u_ws RX5 TX5 9
theorem nmX5 : ∀ a, a < 9 → ∀ b, b < 9 → a ≠ b → (TX5 a).2.1 ≠ (TX5 b).2.1 := by decide +kernel
theorem tyX5_ok : ∀ k, k < 9 → parseFieldDescriptor (TX5 k).2.2.1 = some (tyX5 k) := by decide +kernel
abbrev cX5_init : ByteArray := prog_7_method_1_code
def yX5_init : MethodName := ⟨RX5, "<init>", "()V"⟩
abbrev cX5_keep : ByteArray := prog_7_method_2_code
def yX5_keep : MethodName := ⟨RX5, "keep", "(LLostLetters$Row;)V"⟩
abbrev cX5_forget : ByteArray := prog_7_method_3_code
def yX5_forget : MethodName := ⟨RX5, "forget", "()V"⟩
abbrev cX5_search : ByteArray := prog_7_method_4_code
def yX5_search : MethodName := ⟨RX5, "search", "(II)I"⟩
abbrev cX5_cell : ByteArray := prog_7_method_5_code
def yX5_cell : MethodName := ⟨RX5, "cell", "(III)I"⟩
abbrev cX5_explore : ByteArray := prog_7_method_6_code
def yX5_explore : MethodName := ⟨RX5, "explore", "(I)V"⟩
abbrev cX5_allFollow : ByteArray := prog_7_method_7_code
def yX5_allFollow : MethodName := ⟨RX5, "allFollow", "(II)Z"⟩
abbrev cX5_follows : ByteArray := prog_7_method_8_code
def yX5_follows : MethodName := ⟨RX5, "follows", "(III)Z"⟩
abbrev cX5_weigh : ByteArray := prog_7_method_9_code
def yX5_weigh : MethodName := ⟨RX5, "weigh", "()V"⟩
def RX6 : String := "LostLetters"
def TX6 : u_T := fun k => match k with
  | 0 => ("LostLetters", "registers", "[LLostLetters$Row;", true)
  | 1 => ("LostLetters", "theCode", "LLostLetters$Code;", true)
  | 2 => ("LostLetters", "parts", "LLostLetters$Parts;", true)
  | 3 => ("LostLetters", "pair", "LLostLetters$Pair;", true)
  | 4 => ("LostLetters", "traces", "LLostLetters$Traces;", true)
  | 5 => ("LostLetters", "theLine", "LLostLetters$Line;", true)
  | _ => ("LostLetters", "q", "I", false)
def tyX6 : Nat → FieldType := fun k => match k with
  | 0 => .array (.object "LostLetters$Row")
  | 1 => .object "LostLetters$Code"
  | 2 => .object "LostLetters$Parts"
  | 3 => .object "LostLetters$Pair"
  | 4 => .object "LostLetters$Traces"
  | 5 => .object "LostLetters$Line"
  | _ => .int
abbrev wsX60 : List Cond := u_ws RX6 TX6 7
theorem nmX6 : ∀ a, a < 7 → ∀ b, b < 7 → a ≠ b → (TX6 a).2.1 ≠ (TX6 b).2.1 := by decide +kernel
theorem tyX6_ok : ∀ k, k < 7 → parseFieldDescriptor (TX6 k).2.2.1 = some (tyX6 k) := by decide +kernel
abbrev cX6_init : ByteArray := prog_1_method_1_code
def yX6_init : MethodName := ⟨RX6, "<init>", "()V"⟩
abbrev cX6_letters : ByteArray := prog_1_method_2_code
def yX6_letters : MethodName := ⟨RX6, "letters", "(I)I"⟩
abbrev cX6_word : ByteArray := prog_1_method_3_code
def yX6_word : MethodName := ⟨RX6, "word", "(IIJ)I"⟩
abbrev cX6_at : ByteArray := prog_1_method_4_code
def yX6_at : MethodName := ⟨RX6, "at", "(II)I"⟩
abbrev cX6_edit : ByteArray := prog_1_method_5_code
def yX6_edit : MethodName := ⟨RX6, "edit", "(IIIII)I"⟩
abbrev cX6_code : ByteArray := prog_1_method_6_code
def yX6_code : MethodName := ⟨RX6, "code", "(IIII)I"⟩
abbrev cX6_sum : ByteArray := prog_1_method_7_code
def yX6_sum : MethodName := ⟨RX6, "sum", "(I)I"⟩
abbrev cX6_isOf : ByteArray := prog_1_method_8_code
def yX6_isOf : MethodName := ⟨RX6, "isOf", "(I)I"⟩
abbrev cX6_listed : ByteArray := prog_1_method_9_code
def yX6_listed : MethodName := ⟨RX6, "listed", "(II)I"⟩
abbrev cX6_mend : ByteArray := prog_1_method_10_code
def yX6_mend : MethodName := ⟨RX6, "mend", "(II)I"⟩
abbrev cX6_near : ByteArray := prog_1_method_11_code
def yX6_near : MethodName := ⟨RX6, "near", "(I)I"⟩
abbrev cX6_liesIn : ByteArray := prog_1_method_12_code
def yX6_liesIn : MethodName := ⟨RX6, "liesIn", "(II)J"⟩
abbrev cX6_common : ByteArray := prog_1_method_13_code
def yX6_common : MethodName := ⟨RX6, "common", "(III)I"⟩
abbrev cX6_commons : ByteArray := prog_1_method_14_code
def yX6_commons : MethodName := ⟨RX6, "commons", "(II)J"⟩
abbrev cX6_between : ByteArray := prog_1_method_15_code
def yX6_between : MethodName := ⟨RX6, "between", "(III)I"⟩
abbrev cX6_by : ByteArray := prog_1_method_16_code
def yX6_by : MethodName := ⟨RX6, "by", "(III)J"⟩
abbrev cX6_trace : ByteArray := prog_1_method_17_code
def yX6_trace : MethodName := ⟨RX6, "trace", "(I)I"⟩
abbrev cX6_noTraces : ByteArray := prog_1_method_18_code
def yX6_noTraces : MethodName := ⟨RX6, "noTraces", "()I"⟩
abbrev cX6_sources : ByteArray := prog_1_method_19_code
def yX6_sources : MethodName := ⟨RX6, "sources", "(I)I"⟩
abbrev cX6_best : ByteArray := prog_1_method_20_code
def yX6_best : MethodName := ⟨RX6, "best", "(II)I"⟩
abbrev cX6_line : ByteArray := prog_1_method_21_code
def yX6_line : MethodName := ⟨RX6, "line", "(III)I"⟩
abbrev cX6_seed : ByteArray := prog_1_method_22_code
def yX6_seed : MethodName := ⟨RX6, "seed", "(J)I"⟩
abbrev cX6_send : ByteArray := prog_1_method_23_code
def yX6_send : MethodName := ⟨RX6, "send", "(II)I"⟩
abbrev cX6_count : ByteArray := prog_1_method_24_code
def yX6_count : MethodName := ⟨RX6, "count", "(I)I"⟩
abbrev cX6_lettersOfAll : ByteArray := prog_1_method_25_code
def yX6_lettersOfAll : MethodName := ⟨RX6, "lettersOfAll", "()I"⟩
abbrev cX6_isLetter : ByteArray := prog_1_method_26_code
def yX6_isLetter : MethodName := ⟨RX6, "isLetter", "(I)Z"⟩
abbrev cX6_isEdit : ByteArray := prog_1_method_27_code
def yX6_isEdit : MethodName := ⟨RX6, "isEdit", "(LLostLetters$Row;III)Z"⟩
abbrev cX6_isRow : ByteArray := prog_1_method_28_code
def yX6_isRow : MethodName := ⟨RX6, "isRow", "(IJ)Z"⟩
abbrev cX6_isSourceLength : ByteArray := prog_1_method_29_code
def yX6_isSourceLength : MethodName := ⟨RX6, "isSourceLength", "(I)Z"⟩
abbrev cX6_isRegister : ByteArray := prog_1_method_30_code
def yX6_isRegister : MethodName := ⟨RX6, "isRegister", "(I)Z"⟩
abbrev cX6_isEither : ByteArray := prog_1_method_31_code
def yX6_isEither : MethodName := ⟨RX6, "isEither", "(I)Z"⟩
abbrev cX6_isChance : ByteArray := prog_1_method_32_code
def yX6_isChance : MethodName := ⟨RX6, "isChance", "(I)Z"⟩
def RX7 : String := "LostLettersModel"
def TX7 : u_T := fun k => match k with
  | 0 => ("LostLettersModel", "q", "I", false)
  | 1 => ("LostLettersModel", "many", "[I", true)
  | 2 => ("LostLettersModel", "letter", "[I", true)
  | 3 => ("LostLettersModel", "n", "I", false)
  | 4 => ("LostLettersModel", "m", "I", false)
  | 5 => ("LostLettersModel", "a", "I", false)
  | 6 => ("LostLettersModel", "b", "I", false)
  | 7 => ("LostLettersModel", "traces", "I", false)
  | 8 => ("LostLettersModel", "losses", "I", false)
  | 9 => ("LostLettersModel", "gains", "I", false)
  | 10 => ("LostLettersModel", "turns", "I", false)
  | 11 => ("LostLettersModel", "seed", "J", false)
  | 12 => ("LostLettersModel", "ends", "[I", true)
  | 13 => ("LostLettersModel", "nearLetters", "[I", true)
  | 14 => ("LostLettersModel", "nears", "I", false)
  | 15 => ("LostLettersModel", "ways", "[J", true)
  | _ => ("LostLettersModel", "longest", "[I", true)
def tyX7 : Nat → FieldType := fun k => match k with
  | 0 => .int
  | 1 => .array .int
  | 2 => .array .int
  | 3 => .int
  | 4 => .int
  | 5 => .int
  | 6 => .int
  | 7 => .int
  | 8 => .int
  | 9 => .int
  | 10 => .int
  | 11 => .long
  | 12 => .array .int
  | 13 => .array .int
  | 14 => .int
  | 15 => .array .long
  | _ => .array .int
abbrev wsX70 : List Cond := u_ws RX7 TX7 17
theorem nmX7 : ∀ a, a < 17 → ∀ b, b < 17 → a ≠ b → (TX7 a).2.1 ≠ (TX7 b).2.1 := by decide +kernel
theorem tyX7_ok : ∀ k, k < 17 → parseFieldDescriptor (TX7 k).2.2.1 = some (tyX7 k) := by decide +kernel
abbrev cX7_init : ByteArray := prog_9_method_1_code
def yX7_init : MethodName := ⟨RX7, "<init>", "()V"⟩
abbrev cX7_in : ByteArray := prog_9_method_2_code
def yX7_in : MethodName := ⟨RX7, "in", "(JJJ)Z"⟩
abbrev cX7_isRegister : ByteArray := prog_9_method_3_code
def yX7_isRegister : MethodName := ⟨RX7, "isRegister", "(I)Z"⟩
abbrev cX7_letters : ByteArray := prog_9_method_4_code
def yX7_letters : MethodName := ⟨RX7, "letters", "(I)I"⟩
abbrev cX7_puts : ByteArray := prog_9_method_5_code
def yX7_puts : MethodName := ⟨RX7, "puts", "(II)V"⟩
abbrev cX7_copies : ByteArray := prog_9_method_6_code
def yX7_copies : MethodName := ⟨RX7, "copies", "(II)V"⟩
abbrev cX7_word : ByteArray := prog_9_method_7_code
def yX7_word : MethodName := ⟨RX7, "word", "(IIJ)I"⟩
abbrev cX7_at : ByteArray := prog_9_method_8_code
def yX7_at : MethodName := ⟨RX7, "at", "(II)I"⟩
abbrev cX7_edits : ByteArray := prog_9_method_9_code
def yX7_edits : MethodName := ⟨RX7, "edits", "(IIIII)V"⟩
abbrev cX7_edit : ByteArray := prog_9_method_10_code
def yX7_edit : MethodName := ⟨RX7, "edit", "(IIIII)I"⟩
abbrev cX7_sumOf : ByteArray := prog_9_method_11_code
def yX7_sumOf : MethodName := ⟨RX7, "sumOf", "(I)I"⟩
abbrev cX7_lettersOf : ByteArray := prog_9_method_12_code
def yX7_lettersOf : MethodName := ⟨RX7, "lettersOf", "(I)I"⟩
abbrev cX7_isCode : ByteArray := prog_9_method_13_code
def yX7_isCode : MethodName := ⟨RX7, "isCode", "(I)Z"⟩
abbrev cX7_state : ByteArray := prog_9_method_14_code
def yX7_state : MethodName := ⟨RX7, "state", "(IIII)I"⟩
abbrev cX7_step : ByteArray := prog_9_method_15_code
def yX7_step : MethodName := ⟨RX7, "step", "(III)I"⟩
abbrev cX7_counts : ByteArray := prog_9_method_16_code
def yX7_counts : MethodName := ⟨RX7, "counts", "()V"⟩
abbrev cX7_code : ByteArray := prog_9_method_17_code
def yX7_code : MethodName := ⟨RX7, "code", "(IIII)I"⟩
abbrev cX7_codeSize : ByteArray := prog_9_method_18_code
def yX7_codeSize : MethodName := ⟨RX7, "codeSize", "()I"⟩
abbrev cX7_sum : ByteArray := prog_9_method_19_code
def yX7_sum : MethodName := ⟨RX7, "sum", "(I)I"⟩
abbrev cX7_isOf : ByteArray := prog_9_method_20_code
def yX7_isOf : MethodName := ⟨RX7, "isOf", "(I)I"⟩
abbrev cX7_listed : ByteArray := prog_9_method_21_code
def yX7_listed : MethodName := ⟨RX7, "listed", "(II)I"⟩
abbrev cX7_meets : ByteArray := prog_9_method_22_code
def yX7_meets : MethodName := ⟨RX7, "meets", "()V"⟩
abbrev cX7_looks : ByteArray := prog_9_method_23_code
def yX7_looks : MethodName := ⟨RX7, "looks", "(I)V"⟩
abbrev cX7_near : ByteArray := prog_9_method_24_code
def yX7_near : MethodName := ⟨RX7, "near", "(I)I"⟩
abbrev cX7_mend : ByteArray := prog_9_method_25_code
def yX7_mend : MethodName := ⟨RX7, "mend", "(II)I"⟩
abbrev cX7_lies : ByteArray := prog_9_method_26_code
def yX7_lies : MethodName := ⟨RX7, "lies", "(II)J"⟩
abbrev cX7_liesIn : ByteArray := prog_9_method_27_code
def yX7_liesIn : MethodName := ⟨RX7, "liesIn", "(II)J"⟩
abbrev cX7_longests : ByteArray := prog_9_method_28_code
def yX7_longests : MethodName := ⟨RX7, "longests", "(II)V"⟩
abbrev cX7_next : ByteArray := prog_9_method_29_code
def yX7_next : MethodName := ⟨RX7, "next", "(III)I"⟩
abbrev cX7_common : ByteArray := prog_9_method_30_code
def yX7_common : MethodName := ⟨RX7, "common", "(III)I"⟩
abbrev cX7_commons : ByteArray := prog_9_method_31_code
def yX7_commons : MethodName := ⟨RX7, "commons", "(II)J"⟩
abbrev cX7_editsBetween : ByteArray := prog_9_method_32_code
def yX7_editsBetween : MethodName := ⟨RX7, "editsBetween", "(II)I"⟩
abbrev cX7_between : ByteArray := prog_9_method_33_code
def yX7_between : MethodName := ⟨RX7, "between", "(III)I"⟩
abbrev cX7_parts : ByteArray := prog_9_method_34_code
def yX7_parts : MethodName := ⟨RX7, "parts", "(II)J"⟩
abbrev cX7_gained : ByteArray := prog_9_method_35_code
def yX7_gained : MethodName := ⟨RX7, "gained", "(II)J"⟩
abbrev cX7_by : ByteArray := prog_9_method_36_code
def yX7_by : MethodName := ⟨RX7, "by", "(III)J"⟩
abbrev cX7_trace : ByteArray := prog_9_method_37_code
def yX7_trace : MethodName := ⟨RX7, "trace", "(I)I"⟩
abbrev cX7_noTraces : ByteArray := prog_9_method_38_code
def yX7_noTraces : MethodName := ⟨RX7, "noTraces", "()I"⟩
abbrev cX7_power : ByteArray := prog_9_method_39_code
def yX7_power : MethodName := ⟨RX7, "power", "(I)I"⟩
abbrev cX7_numbers : ByteArray := prog_9_method_40_code
def yX7_numbers : MethodName := ⟨RX7, "numbers", "(II)V"⟩
abbrev cX7_product : ByteArray := prog_9_method_41_code
def yX7_product : MethodName := ⟨RX7, "product", "()J"⟩
abbrev cX7_sources : ByteArray := prog_9_method_42_code
def yX7_sources : MethodName := ⟨RX7, "sources", "(I)I"⟩
abbrev cX7_best : ByteArray := prog_9_method_43_code
def yX7_best : MethodName := ⟨RX7, "best", "(II)I"⟩
abbrev cX7_line : ByteArray := prog_9_method_44_code
def yX7_line : MethodName := ⟨RX7, "line", "(III)I"⟩
abbrev cX7_seed : ByteArray := prog_9_method_45_code
def yX7_seed : MethodName := ⟨RX7, "seed", "(J)I"⟩
abbrev cX7_send : ByteArray := prog_9_method_46_code
def yX7_send : MethodName := ⟨RX7, "send", "(II)I"⟩
abbrev cX7_adds : ByteArray := prog_9_method_47_code
def yX7_adds : MethodName := ⟨RX7, "adds", "(II)I"⟩
abbrev cX7_count : ByteArray := prog_9_method_48_code
def yX7_count : MethodName := ⟨RX7, "count", "(I)I"⟩
def RJ9 : String := "java/lang/Math"
abbrev cJ9_max_7cf53 : ByteArray := prog_10_method_65_code
def yJ9_max_7cf53 : MethodName := ⟨RJ9, "max", "(II)I"⟩
abbrev cJ9_min_7cf53 : ByteArray := prog_10_method_69_code
def yJ9_min_7cf53 : MethodName := ⟨RJ9, "min", "(II)I"⟩
abbrev cJ9_min_f86c9 : ByteArray := prog_10_method_70_code
def yJ9_min_f86c9 : MethodName := ⟨RJ9, "min", "(JJ)J"⟩
def RL : String := "LostLettersLaw"
abbrev cL_law : ByteArray := code
def yL_law : MethodName := ⟨RL, "law", "([I)Z"⟩
abbrev vwCl : List vw_C := [(RX0, TX0, 10), (RX1, TX1, 5), (RX2, TX2, 3), (RX3, TX3, 2), (RX4, TX4, 2), (RX5, TX5, 9), (RX6, TX6, 7), (RX7, TX7, 17)]
theorem inX0 : ∀ w ∈ wsX00, w ∈ lw_tbl := by decide +kernel
theorem inX1 : ∀ w ∈ wsX10, w ∈ lw_tbl := by decide +kernel
theorem inX2 : ∀ w ∈ wsX20, w ∈ lw_tbl := by decide +kernel
theorem inX3 : ∀ w ∈ wsX30, w ∈ lw_tbl := by decide +kernel
theorem inX4 : ∀ w ∈ wsX40, w ∈ lw_tbl := by decide +kernel
theorem inX5 : ∀ w ∈ wsX50, w ∈ lw_tbl := by decide +kernel
theorem inX6 : ∀ w ∈ wsX60, w ∈ lw_tbl := by decide +kernel
theorem inX7 : ∀ w ∈ wsX70, w ∈ lw_tbl := by decide +kernel
