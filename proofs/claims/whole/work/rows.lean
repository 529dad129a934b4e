section
-- ===== PART A: goes FIRST, ahead of the names: the tables' words, and 'selects' of the private methods out of them =====
/-- a private method of a class that the tables say can be made, by its rows of tables_1 -/
def lw_okq (q : MethodName × Nat) : Prop := (q.1.cls ≠ "java/lang/invoke/MethodHandle" ∧ q.1.cls ≠ "java/lang/invoke/VarHandle") ∧ Cond.instantiable q.1.cls q.2 ∈ tables_1 ∧ Cond.privateMethod q.1 ∈ tables_1 ∧ Cond.instanceMethod q.1 ∈ tables_1
theorem lw_p0 : lw_okq (⟨"LostLetters$Row", "clear", "()V"⟩, 2) := ⟨⟨by decide +kernel, by decide +kernel⟩, List.mem_of_getElem? (i := 20) (by decide +kernel), List.mem_of_getElem? (i := 204) (by decide +kernel), List.mem_of_getElem? (i := 205) (by decide +kernel)⟩
theorem lw_p1 : lw_okq (⟨"LostLetters$Row", "put", "(IJ)V"⟩, 2) := ⟨⟨by decide +kernel, by decide +kernel⟩, List.mem_of_getElem? (i := 20) (by decide +kernel), List.mem_of_getElem? (i := 208) (by decide +kernel), List.mem_of_getElem? (i := 209) (by decide +kernel)⟩
theorem lw_p2 : lw_okq (⟨"LostLetters$Code", "forget", "()V"⟩, 10) := ⟨⟨by decide +kernel, by decide +kernel⟩, List.mem_of_getElem? (i := 39) (by decide +kernel), List.mem_of_getElem? (i := 212) (by decide +kernel), List.mem_of_getElem? (i := 213) (by decide +kernel)⟩
theorem lw_p3 : lw_okq (⟨"LostLetters$Traces", "forget", "()V"⟩, 9) := ⟨⟨by decide +kernel, by decide +kernel⟩, List.mem_of_getElem? (i := 114) (by decide +kernel), List.mem_of_getElem? (i := 216) (by decide +kernel), List.mem_of_getElem? (i := 217) (by decide +kernel)⟩
theorem lw_p4 : lw_okq (⟨"LostLetters", "isRow", "(IJ)Z"⟩, 7) := ⟨⟨by decide +kernel, by decide +kernel⟩, List.mem_of_getElem? (i := 11) (by decide +kernel), List.mem_of_getElem? (i := 227) (by decide +kernel), List.mem_of_getElem? (i := 228) (by decide +kernel)⟩
theorem lw_p5 : lw_okq (⟨"LostLetters", "isLetter", "(I)Z"⟩, 7) := ⟨⟨by decide +kernel, by decide +kernel⟩, List.mem_of_getElem? (i := 11) (by decide +kernel), List.mem_of_getElem? (i := 231) (by decide +kernel), List.mem_of_getElem? (i := 232) (by decide +kernel)⟩
theorem lw_p6 : lw_okq (⟨"LostLetters$Row", "letter", "(I)I"⟩, 2) := ⟨⟨by decide +kernel, by decide +kernel⟩, List.mem_of_getElem? (i := 20) (by decide +kernel), List.mem_of_getElem? (i := 240) (by decide +kernel), List.mem_of_getElem? (i := 241) (by decide +kernel)⟩
theorem lw_p7 : lw_okq (⟨"LostLetters", "isEdit", "(LLostLetters$Row;III)Z"⟩, 7) := ⟨⟨by decide +kernel, by decide +kernel⟩, List.mem_of_getElem? (i := 11) (by decide +kernel), List.mem_of_getElem? (i := 248) (by decide +kernel), List.mem_of_getElem? (i := 249) (by decide +kernel)⟩
theorem lw_p8 : lw_okq (⟨"LostLetters$Row", "isFull", "()Z"⟩, 2) := ⟨⟨by decide +kernel, by decide +kernel⟩, List.mem_of_getElem? (i := 20) (by decide +kernel), List.mem_of_getElem? (i := 252) (by decide +kernel), List.mem_of_getElem? (i := 253) (by decide +kernel)⟩
theorem lw_p9 : lw_okq (⟨"LostLetters$Row", "become", "(LLostLetters$Row;)V"⟩, 2) := ⟨⟨by decide +kernel, by decide +kernel⟩, List.mem_of_getElem? (i := 20) (by decide +kernel), List.mem_of_getElem? (i := 256) (by decide +kernel), List.mem_of_getElem? (i := 257) (by decide +kernel)⟩
theorem lw_p10 : lw_okq (⟨"LostLetters$Row", "lose", "(I)V"⟩, 2) := ⟨⟨by decide +kernel, by decide +kernel⟩, List.mem_of_getElem? (i := 20) (by decide +kernel), List.mem_of_getElem? (i := 260) (by decide +kernel), List.mem_of_getElem? (i := 261) (by decide +kernel)⟩
theorem lw_p11 : lw_okq (⟨"LostLetters$Row", "ahead", "(I)J"⟩, 2) := ⟨⟨by decide +kernel, by decide +kernel⟩, List.mem_of_getElem? (i := 20) (by decide +kernel), List.mem_of_getElem? (i := 264) (by decide +kernel), List.mem_of_getElem? (i := 265) (by decide +kernel)⟩
theorem lw_p12 : lw_okq (⟨"LostLetters$Row", "gain", "(II)V"⟩, 2) := ⟨⟨by decide +kernel, by decide +kernel⟩, List.mem_of_getElem? (i := 20) (by decide +kernel), List.mem_of_getElem? (i := 268) (by decide +kernel), List.mem_of_getElem? (i := 269) (by decide +kernel)⟩
theorem lw_p13 : lw_okq (⟨"LostLetters$Row", "turn", "(II)V"⟩, 2) := ⟨⟨by decide +kernel, by decide +kernel⟩, List.mem_of_getElem? (i := 20) (by decide +kernel), List.mem_of_getElem? (i := 272) (by decide +kernel), List.mem_of_getElem? (i := 273) (by decide +kernel)⟩
theorem lw_p14 : lw_okq (⟨"LostLetters$Code", "tell", "(IIIII)V"⟩, 10) := ⟨⟨by decide +kernel, by decide +kernel⟩, List.mem_of_getElem? (i := 39) (by decide +kernel), List.mem_of_getElem? (i := 282) (by decide +kernel), List.mem_of_getElem? (i := 283) (by decide +kernel)⟩
theorem lw_p15 : lw_okq (⟨"LostLetters$Code", "makeRoom", "()V"⟩, 10) := ⟨⟨by decide +kernel, by decide +kernel⟩, List.mem_of_getElem? (i := 39) (by decide +kernel), List.mem_of_getElem? (i := 286) (by decide +kernel), List.mem_of_getElem? (i := 287) (by decide +kernel)⟩
def lw_privs_1 : List (MethodName × Nat) := [(⟨"LostLetters$Row", "clear", "()V"⟩, 2), (⟨"LostLetters$Row", "put", "(IJ)V"⟩, 2), (⟨"LostLetters$Code", "forget", "()V"⟩, 10), (⟨"LostLetters$Traces", "forget", "()V"⟩, 9), (⟨"LostLetters", "isRow", "(IJ)Z"⟩, 7), (⟨"LostLetters", "isLetter", "(I)Z"⟩, 7), (⟨"LostLetters$Row", "letter", "(I)I"⟩, 2), (⟨"LostLetters", "isEdit", "(LLostLetters$Row;III)Z"⟩, 7), (⟨"LostLetters$Row", "isFull", "()Z"⟩, 2), (⟨"LostLetters$Row", "become", "(LLostLetters$Row;)V"⟩, 2), (⟨"LostLetters$Row", "lose", "(I)V"⟩, 2), (⟨"LostLetters$Row", "ahead", "(I)J"⟩, 2), (⟨"LostLetters$Row", "gain", "(II)V"⟩, 2), (⟨"LostLetters$Row", "turn", "(II)V"⟩, 2), (⟨"LostLetters$Code", "tell", "(IIIII)V"⟩, 10), (⟨"LostLetters$Code", "makeRoom", "()V"⟩, 10)]
theorem lw_r1 : ∀ q ∈ lw_privs_1, lw_okq q := List.forall_mem_cons.mpr ⟨lw_p0, List.forall_mem_cons.mpr ⟨lw_p1, List.forall_mem_cons.mpr ⟨lw_p2, List.forall_mem_cons.mpr ⟨lw_p3, List.forall_mem_cons.mpr ⟨lw_p4, List.forall_mem_cons.mpr ⟨lw_p5, List.forall_mem_cons.mpr ⟨lw_p6, List.forall_mem_cons.mpr ⟨lw_p7, List.forall_mem_cons.mpr ⟨lw_p8, List.forall_mem_cons.mpr ⟨lw_p9, List.forall_mem_cons.mpr ⟨lw_p10, List.forall_mem_cons.mpr ⟨lw_p11, List.forall_mem_cons.mpr ⟨lw_p12, List.forall_mem_cons.mpr ⟨lw_p13, List.forall_mem_cons.mpr ⟨lw_p14, List.forall_mem_cons.mpr ⟨lw_p15, fun _ h => absurd h List.not_mem_nil⟩⟩⟩⟩⟩⟩⟩⟩⟩⟩⟩⟩⟩⟩⟩⟩
theorem lw_p16 : lw_okq (⟨"LostLetters$Code", "countWays", "()V"⟩, 10) := ⟨⟨by decide +kernel, by decide +kernel⟩, List.mem_of_getElem? (i := 39) (by decide +kernel), List.mem_of_getElem? (i := 296) (by decide +kernel), List.mem_of_getElem? (i := 297) (by decide +kernel)⟩
theorem lw_p17 : lw_okq (⟨"LostLetters$Code", "countWaysBehind", "(II)V"⟩, 10) := ⟨⟨by decide +kernel, by decide +kernel⟩, List.mem_of_getElem? (i := 39) (by decide +kernel), List.mem_of_getElem? (i := 300) (by decide +kernel), List.mem_of_getElem? (i := 301) (by decide +kernel)⟩
theorem lw_p18 : lw_okq (⟨"LostLetters$Code", "cell", "(IIII)I"⟩, 10) := ⟨⟨by decide +kernel, by decide +kernel⟩, List.mem_of_getElem? (i := 39) (by decide +kernel), List.mem_of_getElem? (i := 304) (by decide +kernel), List.mem_of_getElem? (i := 305) (by decide +kernel)⟩
theorem lw_p19 : lw_okq (⟨"LostLetters$Code", "waysByNext", "(IIII)I"⟩, 10) := ⟨⟨by decide +kernel, by decide +kernel⟩, List.mem_of_getElem? (i := 39) (by decide +kernel), List.mem_of_getElem? (i := 308) (by decide +kernel), List.mem_of_getElem? (i := 309) (by decide +kernel)⟩
theorem lw_p20 : lw_okq (⟨"LostLetters$Code", "sumWith", "(IIII)I"⟩, 10) := ⟨⟨by decide +kernel, by decide +kernel⟩, List.mem_of_getElem? (i := 39) (by decide +kernel), List.mem_of_getElem? (i := 312) (by decide +kernel), List.mem_of_getElem? (i := 313) (by decide +kernel)⟩
theorem lw_p21 : lw_okq (⟨"LostLetters$Code", "waysToEnd", "(IIII)I"⟩, 10) := ⟨⟨by decide +kernel, by decide +kernel⟩, List.mem_of_getElem? (i := 39) (by decide +kernel), List.mem_of_getElem? (i := 316) (by decide +kernel), List.mem_of_getElem? (i := 317) (by decide +kernel)⟩
theorem lw_p22 : lw_okq (⟨"LostLetters$Code", "stands", "()Z"⟩, 10) := ⟨⟨by decide +kernel, by decide +kernel⟩, List.mem_of_getElem? (i := 39) (by decide +kernel), List.mem_of_getElem? (i := 324) (by decide +kernel), List.mem_of_getElem? (i := 325) (by decide +kernel)⟩
theorem lw_p23 : lw_okq (⟨"LostLetters$Code", "sumOf", "(LLostLetters$Row;)I"⟩, 10) := ⟨⟨by decide +kernel, by decide +kernel⟩, List.mem_of_getElem? (i := 39) (by decide +kernel), List.mem_of_getElem? (i := 328) (by decide +kernel), List.mem_of_getElem? (i := 329) (by decide +kernel)⟩
theorem lw_p24 : lw_okq (⟨"LostLetters$Code", "holds", "(LLostLetters$Row;)Z"⟩, 10) := ⟨⟨by decide +kernel, by decide +kernel⟩, List.mem_of_getElem? (i := 39) (by decide +kernel), List.mem_of_getElem? (i := 337) (by decide +kernel), List.mem_of_getElem? (i := 338) (by decide +kernel)⟩
theorem lw_p25 : lw_okq (⟨"LostLetters$Code", "write", "(ILLostLetters$Row;)V"⟩, 10) := ⟨⟨by decide +kernel, by decide +kernel⟩, List.mem_of_getElem? (i := 39) (by decide +kernel), List.mem_of_getElem? (i := 346) (by decide +kernel), List.mem_of_getElem? (i := 347) (by decide +kernel)⟩
theorem lw_p26 : lw_okq (⟨"LostLetters$Row", "append", "(I)V"⟩, 2) := ⟨⟨by decide +kernel, by decide +kernel⟩, List.mem_of_getElem? (i := 20) (by decide +kernel), List.mem_of_getElem? (i := 351) (by decide +kernel), List.mem_of_getElem? (i := 352) (by decide +kernel)⟩
theorem lw_p27 : lw_okq (⟨"LostLetters$Code", "neighbours", "(LLostLetters$Row;)I"⟩, 10) := ⟨⟨by decide +kernel, by decide +kernel⟩, List.mem_of_getElem? (i := 39) (by decide +kernel), List.mem_of_getElem? (i := 360) (by decide +kernel), List.mem_of_getElem? (i := 361) (by decide +kernel)⟩
theorem lw_p28 : lw_okq (⟨"LostLetters$Code", "neighboursByTurn", "(LLostLetters$Row;)I"⟩, 10) := ⟨⟨by decide +kernel, by decide +kernel⟩, List.mem_of_getElem? (i := 39) (by decide +kernel), List.mem_of_getElem? (i := 364) (by decide +kernel), List.mem_of_getElem? (i := 365) (by decide +kernel)⟩
theorem lw_p29 : lw_okq (⟨"LostLetters$Code", "take", "()I"⟩, 10) := ⟨⟨by decide +kernel, by decide +kernel⟩, List.mem_of_getElem? (i := 39) (by decide +kernel), List.mem_of_getElem? (i := 370) (by decide +kernel), List.mem_of_getElem? (i := 371) (by decide +kernel)⟩
theorem lw_p30 : lw_okq (⟨"LostLetters$Code", "neighboursByGain", "(LLostLetters$Row;)I"⟩, 10) := ⟨⟨by decide +kernel, by decide +kernel⟩, List.mem_of_getElem? (i := 39) (by decide +kernel), List.mem_of_getElem? (i := 375) (by decide +kernel), List.mem_of_getElem? (i := 376) (by decide +kernel)⟩
theorem lw_p31 : lw_okq (⟨"LostLetters$Code", "neighboursByLoss", "(LLostLetters$Row;)I"⟩, 10) := ⟨⟨by decide +kernel, by decide +kernel⟩, List.mem_of_getElem? (i := 39) (by decide +kernel), List.mem_of_getElem? (i := 380) (by decide +kernel), List.mem_of_getElem? (i := 381) (by decide +kernel)⟩
def lw_privs_2 : List (MethodName × Nat) := [(⟨"LostLetters$Code", "countWays", "()V"⟩, 10), (⟨"LostLetters$Code", "countWaysBehind", "(II)V"⟩, 10), (⟨"LostLetters$Code", "cell", "(IIII)I"⟩, 10), (⟨"LostLetters$Code", "waysByNext", "(IIII)I"⟩, 10), (⟨"LostLetters$Code", "sumWith", "(IIII)I"⟩, 10), (⟨"LostLetters$Code", "waysToEnd", "(IIII)I"⟩, 10), (⟨"LostLetters$Code", "stands", "()Z"⟩, 10), (⟨"LostLetters$Code", "sumOf", "(LLostLetters$Row;)I"⟩, 10), (⟨"LostLetters$Code", "holds", "(LLostLetters$Row;)Z"⟩, 10), (⟨"LostLetters$Code", "write", "(ILLostLetters$Row;)V"⟩, 10), (⟨"LostLetters$Row", "append", "(I)V"⟩, 2), (⟨"LostLetters$Code", "neighbours", "(LLostLetters$Row;)I"⟩, 10), (⟨"LostLetters$Code", "neighboursByTurn", "(LLostLetters$Row;)I"⟩, 10), (⟨"LostLetters$Code", "take", "()I"⟩, 10), (⟨"LostLetters$Code", "neighboursByGain", "(LLostLetters$Row;)I"⟩, 10), (⟨"LostLetters$Code", "neighboursByLoss", "(LLostLetters$Row;)I"⟩, 10)]
theorem lw_r2 : ∀ q ∈ lw_privs_2, lw_okq q := List.forall_mem_cons.mpr ⟨lw_p16, List.forall_mem_cons.mpr ⟨lw_p17, List.forall_mem_cons.mpr ⟨lw_p18, List.forall_mem_cons.mpr ⟨lw_p19, List.forall_mem_cons.mpr ⟨lw_p20, List.forall_mem_cons.mpr ⟨lw_p21, List.forall_mem_cons.mpr ⟨lw_p22, List.forall_mem_cons.mpr ⟨lw_p23, List.forall_mem_cons.mpr ⟨lw_p24, List.forall_mem_cons.mpr ⟨lw_p25, List.forall_mem_cons.mpr ⟨lw_p26, List.forall_mem_cons.mpr ⟨lw_p27, List.forall_mem_cons.mpr ⟨lw_p28, List.forall_mem_cons.mpr ⟨lw_p29, List.forall_mem_cons.mpr ⟨lw_p30, List.forall_mem_cons.mpr ⟨lw_p31, fun _ h => absurd h List.not_mem_nil⟩⟩⟩⟩⟩⟩⟩⟩⟩⟩⟩⟩⟩⟩⟩⟩
theorem lw_p32 : lw_okq (⟨"LostLetters$Parts", "howOften", "(LLostLetters$Row;LLostLetters$Row;)J"⟩, 2) := ⟨⟨by decide +kernel, by decide +kernel⟩, List.mem_of_getElem? (i := 82) (by decide +kernel), List.mem_of_getElem? (i := 394) (by decide +kernel), List.mem_of_getElem? (i := 395) (by decide +kernel)⟩
theorem lw_p33 : lw_okq (⟨"LostLetters$Pair", "longest", "(LLostLetters$Row;LLostLetters$Row;)I"⟩, 3) := ⟨⟨by decide +kernel, by decide +kernel⟩, List.mem_of_getElem? (i := 96) (by decide +kernel), List.mem_of_getElem? (i := 403) (by decide +kernel), List.mem_of_getElem? (i := 404) (by decide +kernel)⟩
theorem lw_p34 : lw_okq (⟨"LostLetters$Pair", "longestFrom", "(LLostLetters$Row;ILLostLetters$Row;I)I"⟩, 3) := ⟨⟨by decide +kernel, by decide +kernel⟩, List.mem_of_getElem? (i := 96) (by decide +kernel), List.mem_of_getElem? (i := 410) (by decide +kernel), List.mem_of_getElem? (i := 411) (by decide +kernel)⟩
theorem lw_p35 : lw_okq (⟨"LostLetters$Pair", "firstLongest", "(LLostLetters$Row;LLostLetters$Row;I)LLostLetters$Row;"⟩, 3) := ⟨⟨by decide +kernel, by decide +kernel⟩, List.mem_of_getElem? (i := 96) (by decide +kernel), List.mem_of_getElem? (i := 416) (by decide +kernel), List.mem_of_getElem? (i := 417) (by decide +kernel)⟩
theorem lw_p36 : lw_okq (⟨"LostLetters$Row", "next", "(II)I"⟩, 2) := ⟨⟨by decide +kernel, by decide +kernel⟩, List.mem_of_getElem? (i := 20) (by decide +kernel), List.mem_of_getElem? (i := 421) (by decide +kernel), List.mem_of_getElem? (i := 422) (by decide +kernel)⟩
theorem lw_p37 : lw_okq (⟨"LostLetters$Pair", "goesOn", "(LLostLetters$Row;ILLostLetters$Row;II)Z"⟩, 3) := ⟨⟨by decide +kernel, by decide +kernel⟩, List.mem_of_getElem? (i := 96) (by decide +kernel), List.mem_of_getElem? (i := 426) (by decide +kernel), List.mem_of_getElem? (i := 427) (by decide +kernel)⟩
theorem lw_p38 : lw_okq (⟨"LostLetters$Pair", "howManyLongest", "(LLostLetters$Row;LLostLetters$Row;I)J"⟩, 3) := ⟨⟨by decide +kernel, by decide +kernel⟩, List.mem_of_getElem? (i := 96) (by decide +kernel), List.mem_of_getElem? (i := 435) (by decide +kernel), List.mem_of_getElem? (i := 436) (by decide +kernel)⟩
theorem lw_p39 : lw_okq (⟨"LostLetters$Pair", "howManyFrom", "(LLostLetters$Row;ILLostLetters$Row;II)J"⟩, 3) := ⟨⟨by decide +kernel, by decide +kernel⟩, List.mem_of_getElem? (i := 96) (by decide +kernel), List.mem_of_getElem? (i := 439) (by decide +kernel), List.mem_of_getElem? (i := 440) (by decide +kernel)⟩
theorem lw_p40 : lw_okq (⟨"LostLetters$Pair", "edits", "(LLostLetters$Row;LLostLetters$Row;)I"⟩, 3) := ⟨⟨by decide +kernel, by decide +kernel⟩, List.mem_of_getElem? (i := 96) (by decide +kernel), List.mem_of_getElem? (i := 450) (by decide +kernel), List.mem_of_getElem? (i := 451) (by decide +kernel)⟩
theorem lw_p41 : lw_okq (⟨"LostLetters$Pair", "editsFrom", "(LLostLetters$Row;ILLostLetters$Row;I)I"⟩, 3) := ⟨⟨by decide +kernel, by decide +kernel⟩, List.mem_of_getElem? (i := 96) (by decide +kernel), List.mem_of_getElem? (i := 454) (by decide +kernel), List.mem_of_getElem? (i := 455) (by decide +kernel)⟩
theorem lw_p42 : lw_okq (⟨"LostLetters$Parts", "byLosing", "(LLostLetters$Row;II)J"⟩, 2) := ⟨⟨by decide +kernel, by decide +kernel⟩, List.mem_of_getElem? (i := 82) (by decide +kernel), List.mem_of_getElem? (i := 463) (by decide +kernel), List.mem_of_getElem? (i := 464) (by decide +kernel)⟩
theorem lw_p43 : lw_okq (⟨"LostLetters$Parts", "leftFrom", "(LLostLetters$Row;III)J"⟩, 2) := ⟨⟨by decide +kernel, by decide +kernel⟩, List.mem_of_getElem? (i := 82) (by decide +kernel), List.mem_of_getElem? (i := 467) (by decide +kernel), List.mem_of_getElem? (i := 468) (by decide +kernel)⟩
theorem lw_p44 : lw_okq (⟨"LostLetters$Parts", "byGaining", "(LLostLetters$Row;II)J"⟩, 2) := ⟨⟨by decide +kernel, by decide +kernel⟩, List.mem_of_getElem? (i := 82) (by decide +kernel), List.mem_of_getElem? (i := 472) (by decide +kernel), List.mem_of_getElem? (i := 473) (by decide +kernel)⟩
theorem lw_p45 : lw_okq (⟨"LostLetters$Traces", "keep", "(LLostLetters$Row;)V"⟩, 9) := ⟨⟨by decide +kernel, by decide +kernel⟩, List.mem_of_getElem? (i := 114) (by decide +kernel), List.mem_of_getElem? (i := 480) (by decide +kernel), List.mem_of_getElem? (i := 481) (by decide +kernel)⟩
theorem lw_p46 : lw_okq (⟨"LostLetters", "isSourceLength", "(I)Z"⟩, 7) := ⟨⟨by decide +kernel, by decide +kernel⟩, List.mem_of_getElem? (i := 11) (by decide +kernel), List.mem_of_getElem? (i := 493) (by decide +kernel), List.mem_of_getElem? (i := 494) (by decide +kernel)⟩
theorem lw_p47 : lw_okq (⟨"LostLetters$Traces", "search", "(II)I"⟩, 9) := ⟨⟨by decide +kernel, by decide +kernel⟩, List.mem_of_getElem? (i := 114) (by decide +kernel), List.mem_of_getElem? (i := 497) (by decide +kernel), List.mem_of_getElem? (i := 498) (by decide +kernel)⟩
def lw_privs_3 : List (MethodName × Nat) := [(⟨"LostLetters$Parts", "howOften", "(LLostLetters$Row;LLostLetters$Row;)J"⟩, 2), (⟨"LostLetters$Pair", "longest", "(LLostLetters$Row;LLostLetters$Row;)I"⟩, 3), (⟨"LostLetters$Pair", "longestFrom", "(LLostLetters$Row;ILLostLetters$Row;I)I"⟩, 3), (⟨"LostLetters$Pair", "firstLongest", "(LLostLetters$Row;LLostLetters$Row;I)LLostLetters$Row;"⟩, 3), (⟨"LostLetters$Row", "next", "(II)I"⟩, 2), (⟨"LostLetters$Pair", "goesOn", "(LLostLetters$Row;ILLostLetters$Row;II)Z"⟩, 3), (⟨"LostLetters$Pair", "howManyLongest", "(LLostLetters$Row;LLostLetters$Row;I)J"⟩, 3), (⟨"LostLetters$Pair", "howManyFrom", "(LLostLetters$Row;ILLostLetters$Row;II)J"⟩, 3), (⟨"LostLetters$Pair", "edits", "(LLostLetters$Row;LLostLetters$Row;)I"⟩, 3), (⟨"LostLetters$Pair", "editsFrom", "(LLostLetters$Row;ILLostLetters$Row;I)I"⟩, 3), (⟨"LostLetters$Parts", "byLosing", "(LLostLetters$Row;II)J"⟩, 2), (⟨"LostLetters$Parts", "leftFrom", "(LLostLetters$Row;III)J"⟩, 2), (⟨"LostLetters$Parts", "byGaining", "(LLostLetters$Row;II)J"⟩, 2), (⟨"LostLetters$Traces", "keep", "(LLostLetters$Row;)V"⟩, 9), (⟨"LostLetters", "isSourceLength", "(I)Z"⟩, 7), (⟨"LostLetters$Traces", "search", "(II)I"⟩, 9)]
theorem lw_r3 : ∀ q ∈ lw_privs_3, lw_okq q := List.forall_mem_cons.mpr ⟨lw_p32, List.forall_mem_cons.mpr ⟨lw_p33, List.forall_mem_cons.mpr ⟨lw_p34, List.forall_mem_cons.mpr ⟨lw_p35, List.forall_mem_cons.mpr ⟨lw_p36, List.forall_mem_cons.mpr ⟨lw_p37, List.forall_mem_cons.mpr ⟨lw_p38, List.forall_mem_cons.mpr ⟨lw_p39, List.forall_mem_cons.mpr ⟨lw_p40, List.forall_mem_cons.mpr ⟨lw_p41, List.forall_mem_cons.mpr ⟨lw_p42, List.forall_mem_cons.mpr ⟨lw_p43, List.forall_mem_cons.mpr ⟨lw_p44, List.forall_mem_cons.mpr ⟨lw_p45, List.forall_mem_cons.mpr ⟨lw_p46, List.forall_mem_cons.mpr ⟨lw_p47, fun _ h => absurd h List.not_mem_nil⟩⟩⟩⟩⟩⟩⟩⟩⟩⟩⟩⟩⟩⟩⟩⟩
theorem lw_p48 : lw_okq (⟨"LostLetters$Traces", "explore", "(I)V"⟩, 9) := ⟨⟨by decide +kernel, by decide +kernel⟩, List.mem_of_getElem? (i := 114) (by decide +kernel), List.mem_of_getElem? (i := 505) (by decide +kernel), List.mem_of_getElem? (i := 506) (by decide +kernel)⟩
theorem lw_p49 : lw_okq (⟨"LostLetters$Traces", "weigh", "()V"⟩, 9) := ⟨⟨by decide +kernel, by decide +kernel⟩, List.mem_of_getElem? (i := 114) (by decide +kernel), List.mem_of_getElem? (i := 509) (by decide +kernel), List.mem_of_getElem? (i := 510) (by decide +kernel)⟩
theorem lw_p50 : lw_okq (⟨"LostLetters$Traces", "allFollow", "(II)Z"⟩, 9) := ⟨⟨by decide +kernel, by decide +kernel⟩, List.mem_of_getElem? (i := 114) (by decide +kernel), List.mem_of_getElem? (i := 517) (by decide +kernel), List.mem_of_getElem? (i := 518) (by decide +kernel)⟩
theorem lw_p51 : lw_okq (⟨"LostLetters$Traces", "follows", "(III)Z"⟩, 9) := ⟨⟨by decide +kernel, by decide +kernel⟩, List.mem_of_getElem? (i := 114) (by decide +kernel), List.mem_of_getElem? (i := 521) (by decide +kernel), List.mem_of_getElem? (i := 522) (by decide +kernel)⟩
theorem lw_p52 : lw_okq (⟨"LostLetters$Line", "tell", "(III)V"⟩, 5) := ⟨⟨by decide +kernel, by decide +kernel⟩, List.mem_of_getElem? (i := 152) (by decide +kernel), List.mem_of_getElem? (i := 540) (by decide +kernel), List.mem_of_getElem? (i := 541) (by decide +kernel)⟩
theorem lw_p53 : lw_okq (⟨"LostLetters$Line", "carry", "(LLostLetters$Row;I)Z"⟩, 5) := ⟨⟨by decide +kernel, by decide +kernel⟩, List.mem_of_getElem? (i := 152) (by decide +kernel), List.mem_of_getElem? (i := 552) (by decide +kernel), List.mem_of_getElem? (i := 553) (by decide +kernel)⟩
theorem lw_p54 : lw_okq (⟨"LostLetters$Line", "carryLetter", "(III)Z"⟩, 5) := ⟨⟨by decide +kernel, by decide +kernel⟩, List.mem_of_getElem? (i := 152) (by decide +kernel), List.mem_of_getElem? (i := 561) (by decide +kernel), List.mem_of_getElem? (i := 562) (by decide +kernel)⟩
theorem lw_p55 : lw_okq (⟨"LostLetters$Line", "takeUp", "(I)Z"⟩, 5) := ⟨⟨by decide +kernel, by decide +kernel⟩, List.mem_of_getElem? (i := 152) (by decide +kernel), List.mem_of_getElem? (i := 565) (by decide +kernel), List.mem_of_getElem? (i := 566) (by decide +kernel)⟩
theorem lw_p56 : lw_okq (⟨"LostLetters", "lettersOfAll", "()I"⟩, 7) := ⟨⟨by decide +kernel, by decide +kernel⟩, List.mem_of_getElem? (i := 11) (by decide +kernel), List.mem_of_getElem? (i := 575) (by decide +kernel), List.mem_of_getElem? (i := 576) (by decide +kernel)⟩
theorem lw_p57 : lw_okq (⟨"LostLettersModel", "puts", "(II)V"⟩, 17) := ⟨⟨by decide +kernel, by decide +kernel⟩, List.mem_of_getElem? (i := 579) (by decide +kernel), List.mem_of_getElem? (i := 656) (by decide +kernel), List.mem_of_getElem? (i := 657) (by decide +kernel)⟩
theorem lw_p58 : lw_okq (⟨"LostLettersModel", "edits", "(IIIII)V"⟩, 17) := ⟨⟨by decide +kernel, by decide +kernel⟩, List.mem_of_getElem? (i := 579) (by decide +kernel), List.mem_of_getElem? (i := 668) (by decide +kernel), List.mem_of_getElem? (i := 669) (by decide +kernel)⟩
theorem lw_p59 : lw_okq (⟨"LostLettersModel", "copies", "(II)V"⟩, 17) := ⟨⟨by decide +kernel, by decide +kernel⟩, List.mem_of_getElem? (i := 579) (by decide +kernel), List.mem_of_getElem? (i := 672) (by decide +kernel), List.mem_of_getElem? (i := 673) (by decide +kernel)⟩
theorem lw_p60 : lw_okq (⟨"LostLettersModel", "counts", "()V"⟩, 17) := ⟨⟨by decide +kernel, by decide +kernel⟩, List.mem_of_getElem? (i := 579) (by decide +kernel), List.mem_of_getElem? (i := 682) (by decide +kernel), List.mem_of_getElem? (i := 683) (by decide +kernel)⟩
theorem lw_p61 : lw_okq (⟨"LostLettersModel", "step", "(III)I"⟩, 17) := ⟨⟨by decide +kernel, by decide +kernel⟩, List.mem_of_getElem? (i := 579) (by decide +kernel), List.mem_of_getElem? (i := 686) (by decide +kernel), List.mem_of_getElem? (i := 687) (by decide +kernel)⟩
theorem lw_p62 : lw_okq (⟨"LostLettersModel", "codeSize", "()I"⟩, 17) := ⟨⟨by decide +kernel, by decide +kernel⟩, List.mem_of_getElem? (i := 579) (by decide +kernel), List.mem_of_getElem? (i := 693) (by decide +kernel), List.mem_of_getElem? (i := 694) (by decide +kernel)⟩
theorem lw_p63 : lw_okq (⟨"LostLettersModel", "sumOf", "(I)I"⟩, 17) := ⟨⟨by decide +kernel, by decide +kernel⟩, List.mem_of_getElem? (i := 579) (by decide +kernel), List.mem_of_getElem? (i := 701) (by decide +kernel), List.mem_of_getElem? (i := 702) (by decide +kernel)⟩
def lw_privs_4 : List (MethodName × Nat) := [(⟨"LostLetters$Traces", "explore", "(I)V"⟩, 9), (⟨"LostLetters$Traces", "weigh", "()V"⟩, 9), (⟨"LostLetters$Traces", "allFollow", "(II)Z"⟩, 9), (⟨"LostLetters$Traces", "follows", "(III)Z"⟩, 9), (⟨"LostLetters$Line", "tell", "(III)V"⟩, 5), (⟨"LostLetters$Line", "carry", "(LLostLetters$Row;I)Z"⟩, 5), (⟨"LostLetters$Line", "carryLetter", "(III)Z"⟩, 5), (⟨"LostLetters$Line", "takeUp", "(I)Z"⟩, 5), (⟨"LostLetters", "lettersOfAll", "()I"⟩, 7), (⟨"LostLettersModel", "puts", "(II)V"⟩, 17), (⟨"LostLettersModel", "edits", "(IIIII)V"⟩, 17), (⟨"LostLettersModel", "copies", "(II)V"⟩, 17), (⟨"LostLettersModel", "counts", "()V"⟩, 17), (⟨"LostLettersModel", "step", "(III)I"⟩, 17), (⟨"LostLettersModel", "codeSize", "()I"⟩, 17), (⟨"LostLettersModel", "sumOf", "(I)I"⟩, 17)]
theorem lw_r4 : ∀ q ∈ lw_privs_4, lw_okq q := List.forall_mem_cons.mpr ⟨lw_p48, List.forall_mem_cons.mpr ⟨lw_p49, List.forall_mem_cons.mpr ⟨lw_p50, List.forall_mem_cons.mpr ⟨lw_p51, List.forall_mem_cons.mpr ⟨lw_p52, List.forall_mem_cons.mpr ⟨lw_p53, List.forall_mem_cons.mpr ⟨lw_p54, List.forall_mem_cons.mpr ⟨lw_p55, List.forall_mem_cons.mpr ⟨lw_p56, List.forall_mem_cons.mpr ⟨lw_p57, List.forall_mem_cons.mpr ⟨lw_p58, List.forall_mem_cons.mpr ⟨lw_p59, List.forall_mem_cons.mpr ⟨lw_p60, List.forall_mem_cons.mpr ⟨lw_p61, List.forall_mem_cons.mpr ⟨lw_p62, List.forall_mem_cons.mpr ⟨lw_p63, fun _ h => absurd h List.not_mem_nil⟩⟩⟩⟩⟩⟩⟩⟩⟩⟩⟩⟩⟩⟩⟩⟩
theorem lw_p64 : lw_okq (⟨"LostLettersModel", "isCode", "(I)Z"⟩, 17) := ⟨⟨by decide +kernel, by decide +kernel⟩, List.mem_of_getElem? (i := 579) (by decide +kernel), List.mem_of_getElem? (i := 709) (by decide +kernel), List.mem_of_getElem? (i := 710) (by decide +kernel)⟩
theorem lw_p65 : lw_okq (⟨"LostLettersModel", "lettersOf", "(I)I"⟩, 17) := ⟨⟨by decide +kernel, by decide +kernel⟩, List.mem_of_getElem? (i := 579) (by decide +kernel), List.mem_of_getElem? (i := 713) (by decide +kernel), List.mem_of_getElem? (i := 714) (by decide +kernel)⟩
theorem lw_p66 : lw_okq (⟨"LostLettersModel", "looks", "(I)V"⟩, 17) := ⟨⟨by decide +kernel, by decide +kernel⟩, List.mem_of_getElem? (i := 579) (by decide +kernel), List.mem_of_getElem? (i := 725) (by decide +kernel), List.mem_of_getElem? (i := 726) (by decide +kernel)⟩
theorem lw_p67 : lw_okq (⟨"LostLettersModel", "meets", "()V"⟩, 17) := ⟨⟨by decide +kernel, by decide +kernel⟩, List.mem_of_getElem? (i := 579) (by decide +kernel), List.mem_of_getElem? (i := 729) (by decide +kernel), List.mem_of_getElem? (i := 730) (by decide +kernel)⟩
theorem lw_p68 : lw_okq (⟨"LostLettersModel", "lies", "(II)J"⟩, 17) := ⟨⟨by decide +kernel, by decide +kernel⟩, List.mem_of_getElem? (i := 579) (by decide +kernel), List.mem_of_getElem? (i := 741) (by decide +kernel), List.mem_of_getElem? (i := 742) (by decide +kernel)⟩
theorem lw_p69 : lw_okq (⟨"LostLettersModel", "longests", "(II)V"⟩, 17) := ⟨⟨by decide +kernel, by decide +kernel⟩, List.mem_of_getElem? (i := 579) (by decide +kernel), List.mem_of_getElem? (i := 750) (by decide +kernel), List.mem_of_getElem? (i := 751) (by decide +kernel)⟩
theorem lw_p70 : lw_okq (⟨"LostLettersModel", "next", "(III)I"⟩, 17) := ⟨⟨by decide +kernel, by decide +kernel⟩, List.mem_of_getElem? (i := 579) (by decide +kernel), List.mem_of_getElem? (i := 754) (by decide +kernel), List.mem_of_getElem? (i := 755) (by decide +kernel)⟩
theorem lw_p71 : lw_okq (⟨"LostLettersModel", "editsBetween", "(II)I"⟩, 17) := ⟨⟨by decide +kernel, by decide +kernel⟩, List.mem_of_getElem? (i := 579) (by decide +kernel), List.mem_of_getElem? (i := 766) (by decide +kernel), List.mem_of_getElem? (i := 767) (by decide +kernel)⟩
theorem lw_p72 : lw_okq (⟨"LostLettersModel", "gained", "(II)J"⟩, 17) := ⟨⟨by decide +kernel, by decide +kernel⟩, List.mem_of_getElem? (i := 579) (by decide +kernel), List.mem_of_getElem? (i := 775) (by decide +kernel), List.mem_of_getElem? (i := 776) (by decide +kernel)⟩
theorem lw_p73 : lw_okq (⟨"LostLettersModel", "parts", "(II)J"⟩, 17) := ⟨⟨by decide +kernel, by decide +kernel⟩, List.mem_of_getElem? (i := 579) (by decide +kernel), List.mem_of_getElem? (i := 779) (by decide +kernel), List.mem_of_getElem? (i := 780) (by decide +kernel)⟩
theorem lw_p74 : lw_okq (⟨"LostLettersModel", "power", "(I)I"⟩, 17) := ⟨⟨by decide +kernel, by decide +kernel⟩, List.mem_of_getElem? (i := 579) (by decide +kernel), List.mem_of_getElem? (i := 796) (by decide +kernel), List.mem_of_getElem? (i := 797) (by decide +kernel)⟩
theorem lw_p75 : lw_okq (⟨"LostLettersModel", "numbers", "(II)V"⟩, 17) := ⟨⟨by decide +kernel, by decide +kernel⟩, List.mem_of_getElem? (i := 579) (by decide +kernel), List.mem_of_getElem? (i := 800) (by decide +kernel), List.mem_of_getElem? (i := 801) (by decide +kernel)⟩
theorem lw_p76 : lw_okq (⟨"LostLettersModel", "product", "()J"⟩, 17) := ⟨⟨by decide +kernel, by decide +kernel⟩, List.mem_of_getElem? (i := 579) (by decide +kernel), List.mem_of_getElem? (i := 804) (by decide +kernel), List.mem_of_getElem? (i := 805) (by decide +kernel)⟩
theorem lw_p77 : lw_okq (⟨"LostLettersModel", "adds", "(II)I"⟩, 17) := ⟨⟨by decide +kernel, by decide +kernel⟩, List.mem_of_getElem? (i := 579) (by decide +kernel), List.mem_of_getElem? (i := 827) (by decide +kernel), List.mem_of_getElem? (i := 828) (by decide +kernel)⟩
def lw_privs_5 : List (MethodName × Nat) := [(⟨"LostLettersModel", "isCode", "(I)Z"⟩, 17), (⟨"LostLettersModel", "lettersOf", "(I)I"⟩, 17), (⟨"LostLettersModel", "looks", "(I)V"⟩, 17), (⟨"LostLettersModel", "meets", "()V"⟩, 17), (⟨"LostLettersModel", "lies", "(II)J"⟩, 17), (⟨"LostLettersModel", "longests", "(II)V"⟩, 17), (⟨"LostLettersModel", "next", "(III)I"⟩, 17), (⟨"LostLettersModel", "editsBetween", "(II)I"⟩, 17), (⟨"LostLettersModel", "gained", "(II)J"⟩, 17), (⟨"LostLettersModel", "parts", "(II)J"⟩, 17), (⟨"LostLettersModel", "power", "(I)I"⟩, 17), (⟨"LostLettersModel", "numbers", "(II)V"⟩, 17), (⟨"LostLettersModel", "product", "()J"⟩, 17), (⟨"LostLettersModel", "adds", "(II)I"⟩, 17)]
theorem lw_r5 : ∀ q ∈ lw_privs_5, lw_okq q := List.forall_mem_cons.mpr ⟨lw_p64, List.forall_mem_cons.mpr ⟨lw_p65, List.forall_mem_cons.mpr ⟨lw_p66, List.forall_mem_cons.mpr ⟨lw_p67, List.forall_mem_cons.mpr ⟨lw_p68, List.forall_mem_cons.mpr ⟨lw_p69, List.forall_mem_cons.mpr ⟨lw_p70, List.forall_mem_cons.mpr ⟨lw_p71, List.forall_mem_cons.mpr ⟨lw_p72, List.forall_mem_cons.mpr ⟨lw_p73, List.forall_mem_cons.mpr ⟨lw_p74, List.forall_mem_cons.mpr ⟨lw_p75, List.forall_mem_cons.mpr ⟨lw_p76, List.forall_mem_cons.mpr ⟨lw_p77, fun _ h => absurd h List.not_mem_nil⟩⟩⟩⟩⟩⟩⟩⟩⟩⟩⟩⟩⟩⟩
def lw_privs : List (MethodName × Nat) := lw_privs_1 ++ (lw_privs_2 ++ (lw_privs_3 ++ (lw_privs_4 ++ (lw_privs_5))))
def lw_tbl : List Cond := k2_sels lw_privs ++ tables_1
theorem lw_privs_ok : ∀ q ∈ lw_privs, lw_okq q := by
  show ∀ q ∈ lw_privs_1 ++ (lw_privs_2 ++ (lw_privs_3 ++ (lw_privs_4 ++ (lw_privs_5)))), lw_okq q
  exact List.forall_mem_append.mpr ⟨lw_r1, List.forall_mem_append.mpr ⟨lw_r2, List.forall_mem_append.mpr ⟨lw_r3, List.forall_mem_append.mpr ⟨lw_r4, lw_r5⟩⟩⟩⟩
def RX0 : String := "LostLetters$Code"
def TX0 : u_T := fun k => match k with
  | 0 => ("LostLetters$Code", "tried", "LLostLetters$Row;", true)
  | 1 => ("LostLetters$Code", "found", "LLostLetters$Row;", true)
  | 2 => ("LostLetters$Code", "ways", "[I", false)
  | 3 => ("LostLetters$Code", "q", "I", false)
  | 4 => ("LostLetters$Code", "n", "I", false)
  | 5 => ("LostLetters$Code", "m", "I", false)
  | 6 => ("LostLetters$Code", "a", "I", false)
  | 7 => ("LostLetters$Code", "b", "I", false)
  | 8 => ("LostLetters$Code", "letterModulus", "I", false)
  | _ => ("LostLetters$Code", "size", "I", false)
def tyX0 : Nat → FieldType := fun k => match k with
  | 0 => .object "LostLetters$Row"
  | 1 => .object "LostLetters$Row"
  | 2 => .array .int
  | 3 => .int
  | 4 => .int
  | 5 => .int
  | 6 => .int
  | 7 => .int
  | 8 => .int
  | _ => .int
abbrev wsX00 : List Cond := u_ws RX0 TX0 10
theorem nmX0 : ∀ a, a < 10 → ∀ b, b < 10 → a ≠ b → (TX0 a).2.1 ≠ (TX0 b).2.1 := by decide +kernel
theorem tyX0_ok : ∀ k, k < 10 → parseFieldDescriptor (TX0 k).2.2.1 = some (tyX0 k) := by decide +kernel
abbrev cX0_init : ByteArray := prog_2_method_1_code
def yX0_init : MethodName := ⟨RX0, "<init>", "()V"⟩
abbrev cX0_stands : ByteArray := prog_2_method_2_code
def yX0_stands : MethodName := ⟨RX0, "stands", "()Z"⟩
abbrev cX0_forget : ByteArray := prog_2_method_3_code
def yX0_forget : MethodName := ⟨RX0, "forget", "()V"⟩
abbrev cX0_tell : ByteArray := prog_2_method_4_code
def yX0_tell : MethodName := ⟨RX0, "tell", "(IIIII)V"⟩
abbrev cX0_makeRoom : ByteArray := prog_2_method_5_code
def yX0_makeRoom : MethodName := ⟨RX0, "makeRoom", "()V"⟩
abbrev cX0_countWays : ByteArray := prog_2_method_6_code
def yX0_countWays : MethodName := ⟨RX0, "countWays", "()V"⟩
abbrev cX0_countWaysBehind : ByteArray := prog_2_method_7_code
def yX0_countWaysBehind : MethodName := ⟨RX0, "countWaysBehind", "(II)V"⟩
abbrev cX0_waysByNext : ByteArray := prog_2_method_8_code
def yX0_waysByNext : MethodName := ⟨RX0, "waysByNext", "(IIII)I"⟩
abbrev cX0_waysToEnd : ByteArray := prog_2_method_9_code
def yX0_waysToEnd : MethodName := ⟨RX0, "waysToEnd", "(IIII)I"⟩
abbrev cX0_cell : ByteArray := prog_2_method_10_code
def yX0_cell : MethodName := ⟨RX0, "cell", "(IIII)I"⟩
abbrev cX0_sumWith : ByteArray := prog_2_method_11_code
def yX0_sumWith : MethodName := ⟨RX0, "sumWith", "(IIII)I"⟩
abbrev cX0_sumOf : ByteArray := prog_2_method_12_code
def yX0_sumOf : MethodName := ⟨RX0, "sumOf", "(LLostLetters$Row;)I"⟩
abbrev cX0_holds : ByteArray := prog_2_method_13_code
def yX0_holds : MethodName := ⟨RX0, "holds", "(LLostLetters$Row;)Z"⟩
abbrev cX0_write : ByteArray := prog_2_method_14_code
def yX0_write : MethodName := ⟨RX0, "write", "(ILLostLetters$Row;)V"⟩
abbrev cX0_neighbours : ByteArray := prog_2_method_15_code
def yX0_neighbours : MethodName := ⟨RX0, "neighbours", "(LLostLetters$Row;)I"⟩
abbrev cX0_neighboursByTurn : ByteArray := prog_2_method_16_code
def yX0_neighboursByTurn : MethodName := ⟨RX0, "neighboursByTurn", "(LLostLetters$Row;)I"⟩
abbrev cX0_neighboursByGain : ByteArray := prog_2_method_17_code
def yX0_neighboursByGain : MethodName := ⟨RX0, "neighboursByGain", "(LLostLetters$Row;)I"⟩
abbrev cX0_neighboursByLoss : ByteArray := prog_2_method_18_code
def yX0_neighboursByLoss : MethodName := ⟨RX0, "neighboursByLoss", "(LLostLetters$Row;)I"⟩
abbrev cX0_take : ByteArray := prog_2_method_19_code
def yX0_take : MethodName := ⟨RX0, "take", "()I"⟩
def RX1 : String := "LostLetters$Line"
def TX1 : u_T := fun k => match k with
  | 0 => ("LostLetters$Line", "carried", "LLostLetters$Row;", true)
  | 1 => ("LostLetters$Line", "belowLosses", "I", false)
  | 2 => ("LostLetters$Line", "belowGains", "I", false)
  | 3 => ("LostLetters$Line", "belowTurns", "I", false)
  | _ => ("LostLetters$Line", "seed", "J", false)
def tyX1 : Nat → FieldType := fun k => match k with
  | 0 => .object "LostLetters$Row"
  | 1 => .int
  | 2 => .int
  | 3 => .int
  | _ => .long
abbrev wsX10 : List Cond := u_ws RX1 TX1 5
theorem nmX1 : ∀ a, a < 5 → ∀ b, b < 5 → a ≠ b → (TX1 a).2.1 ≠ (TX1 b).2.1 := by decide +kernel
theorem tyX1_ok : ∀ k, k < 5 → parseFieldDescriptor (TX1 k).2.2.1 = some (tyX1 k) := by decide +kernel
abbrev cX1_init : ByteArray := prog_3_method_1_code
def yX1_init : MethodName := ⟨RX1, "<init>", "()V"⟩
abbrev cX1_tell : ByteArray := prog_3_method_2_code
def yX1_tell : MethodName := ⟨RX1, "tell", "(III)V"⟩
abbrev cX1_carry : ByteArray := prog_3_method_3_code
def yX1_carry : MethodName := ⟨RX1, "carry", "(LLostLetters$Row;I)Z"⟩
abbrev cX1_carryLetter : ByteArray := prog_3_method_4_code
def yX1_carryLetter : MethodName := ⟨RX1, "carryLetter", "(III)Z"⟩
abbrev cX1_takeUp : ByteArray := prog_3_method_5_code
def yX1_takeUp : MethodName := ⟨RX1, "takeUp", "(I)Z"⟩
def RX2 : String := "LostLetters$Pair"
def TX2 : u_T := fun k => match k with
  | 0 => ("LostLetters$Pair", "lengths", "[I", true)
  | 1 => ("LostLetters$Pair", "numbers", "[J", true)
  | _ => ("LostLetters$Pair", "first", "LLostLetters$Row;", true)
def tyX2 : Nat → FieldType := fun k => match k with
  | 0 => .array .int
  | 1 => .array .long
  | _ => .object "LostLetters$Row"
abbrev wsX20 : List Cond := u_ws RX2 TX2 3
theorem nmX2 : ∀ a, a < 3 → ∀ b, b < 3 → a ≠ b → (TX2 a).2.1 ≠ (TX2 b).2.1 := by decide +kernel
theorem tyX2_ok : ∀ k, k < 3 → parseFieldDescriptor (TX2 k).2.2.1 = some (tyX2 k) := by decide +kernel
abbrev cX2_init : ByteArray := prog_4_method_1_code
def yX2_init : MethodName := ⟨RX2, "<init>", "()V"⟩
abbrev cX2_cell : ByteArray := prog_4_method_2_code
def yX2_cell : MethodName := ⟨RX2, "cell", "(II)I"⟩
abbrev cX2_longest : ByteArray := prog_4_method_3_code
def yX2_longest : MethodName := ⟨RX2, "longest", "(LLostLetters$Row;LLostLetters$Row;)I"⟩
abbrev cX2_longestFrom : ByteArray := prog_4_method_4_code
def yX2_longestFrom : MethodName := ⟨RX2, "longestFrom", "(LLostLetters$Row;ILLostLetters$Row;I)I"⟩
abbrev cX2_goesOn : ByteArray := prog_4_method_5_code
def yX2_goesOn : MethodName := ⟨RX2, "goesOn", "(LLostLetters$Row;ILLostLetters$Row;II)Z"⟩
abbrev cX2_firstLongest : ByteArray := prog_4_method_6_code
def yX2_firstLongest : MethodName := ⟨RX2, "firstLongest", "(LLostLetters$Row;LLostLetters$Row;I)LLostLetters$Row;"⟩
abbrev cX2_howManyLongest : ByteArray := prog_4_method_7_code
def yX2_howManyLongest : MethodName := ⟨RX2, "howManyLongest", "(LLostLetters$Row;LLostLetters$Row;I)J"⟩
abbrev cX2_howManyFrom : ByteArray := prog_4_method_8_code
def yX2_howManyFrom : MethodName := ⟨RX2, "howManyFrom", "(LLostLetters$Row;ILLostLetters$Row;II)J"⟩
abbrev cX2_edits : ByteArray := prog_4_method_9_code
def yX2_edits : MethodName := ⟨RX2, "edits", "(LLostLetters$Row;LLostLetters$Row;)I"⟩
abbrev cX2_editsFrom : ByteArray := prog_4_method_10_code
def yX2_editsFrom : MethodName := ⟨RX2, "editsFrom", "(LLostLetters$Row;ILLostLetters$Row;I)I"⟩
def RX3 : String := "LostLetters$Parts"
def TX3 : u_T := fun k => match k with
  | 0 => ("LostLetters$Parts", "embedded", "[J", true)
  | _ => ("LostLetters$Parts", "left", "[J", true)
def tyX3 : Nat → FieldType := fun k => match k with
  | 0 => .array .long
  | _ => .array .long
abbrev wsX30 : List Cond := u_ws RX3 TX3 2
theorem nmX3 : ∀ a, a < 2 → ∀ b, b < 2 → a ≠ b → (TX3 a).2.1 ≠ (TX3 b).2.1 := by decide +kernel
theorem tyX3_ok : ∀ k, k < 2 → parseFieldDescriptor (TX3 k).2.2.1 = some (tyX3 k) := by decide +kernel
abbrev cX3_init : ByteArray := prog_5_method_1_code
def yX3_init : MethodName := ⟨RX3, "<init>", "()V"⟩
abbrev cX3_howOften : ByteArray := prog_5_method_2_code
def yX3_howOften : MethodName := ⟨RX3, "howOften", "(LLostLetters$Row;LLostLetters$Row;)J"⟩
abbrev cX3_byLosing : ByteArray := prog_5_method_3_code
def yX3_byLosing : MethodName := ⟨RX3, "byLosing", "(LLostLetters$Row;II)J"⟩
abbrev cX3_leftFrom : ByteArray := prog_5_method_4_code
def yX3_leftFrom : MethodName := ⟨RX3, "leftFrom", "(LLostLetters$Row;III)J"⟩
abbrev cX3_byGaining : ByteArray := prog_5_method_5_code
def yX3_byGaining : MethodName := ⟨RX3, "byGaining", "(LLostLetters$Row;II)J"⟩
def RX4 : String := "LostLetters$Row"
def TX4 : u_T := fun k => match k with
  | 0 => ("LostLetters$Row", "bits", "J", false)
  | _ => ("LostLetters$Row", "size", "I", false)
def tyX4 : Nat → FieldType := fun k => match k with
  | 0 => .long
  | _ => .int
abbrev wsX40 : List Cond := u_ws RX4 TX4 2
theorem nmX4 : ∀ a, a < 2 → ∀ b, b < 2 → a ≠ b → (TX4 a).2.1 ≠ (TX4 b).2.1 := by decide +kernel
theorem tyX4_ok : ∀ k, k < 2 → parseFieldDescriptor (TX4 k).2.2.1 = some (tyX4 k) := by decide +kernel
abbrev cX4_init : ByteArray := prog_6_method_1_code
def yX4_init : MethodName := ⟨RX4, "<init>", "()V"⟩
abbrev cX4_clear : ByteArray := prog_6_method_2_code
def yX4_clear : MethodName := ⟨RX4, "clear", "()V"⟩
abbrev cX4_put : ByteArray := prog_6_method_3_code
def yX4_put : MethodName := ⟨RX4, "put", "(IJ)V"⟩
abbrev cX4_become : ByteArray := prog_6_method_4_code
def yX4_become : MethodName := ⟨RX4, "become", "(LLostLetters$Row;)V"⟩
abbrev cX4_isFull : ByteArray := prog_6_method_5_code
def yX4_isFull : MethodName := ⟨RX4, "isFull", "()Z"⟩
abbrev cX4_letter : ByteArray := prog_6_method_6_code
def yX4_letter : MethodName := ⟨RX4, "letter", "(I)I"⟩
abbrev cX4_turn : ByteArray := prog_6_method_7_code
def yX4_turn : MethodName := ⟨RX4, "turn", "(II)V"⟩
abbrev cX4_lose : ByteArray := prog_6_method_8_code
def yX4_lose : MethodName := ⟨RX4, "lose", "(I)V"⟩
abbrev cX4_gain : ByteArray := prog_6_method_9_code
def yX4_gain : MethodName := ⟨RX4, "gain", "(II)V"⟩
abbrev cX4_append : ByteArray := prog_6_method_10_code
def yX4_append : MethodName := ⟨RX4, "append", "(I)V"⟩
abbrev cX4_ahead : ByteArray := prog_6_method_11_code
def yX4_ahead : MethodName := ⟨RX4, "ahead", "(I)J"⟩
abbrev cX4_next : ByteArray := prog_6_method_12_code
def yX4_next : MethodName := ⟨RX4, "next", "(II)I"⟩
def RX5 : String := "LostLetters$Traces"
def TX5 : u_T := fun k => match k with
  | 0 => ("LostLetters$Traces", "rows", "[LLostLetters$Row;", true)
  | 1 => ("LostLetters$Traces", "embedded", "[I", true)
  | 2 => ("LostLetters$Traces", "tried", "LLostLetters$Row;", true)
  | 3 => ("LostLetters$Traces", "best", "LLostLetters$Row;", true)
  | 4 => ("LostLetters$Traces", "size", "I", false)
  | 5 => ("LostLetters$Traces", "q", "I", false)
  | 6 => ("LostLetters$Traces", "n", "I", false)
  | 7 => ("LostLetters$Traces", "found", "I", false)
  | _ => ("LostLetters$Traces", "bestProduct", "J", false)
def tyX5 : Nat → FieldType := fun k => match k with
  | 0 => .array (.object "LostLetters$Row")
  | 1 => .array .int
  | 2 => .object "LostLetters$Row"
  | 3 => .object "LostLetters$Row"
  | 4 => .int
  | 5 => .int
  | 6 => .int
  | 7 => .int
  | _ => .long
abbrev wsX50 : List Cond := u_ws RX5 TX5 9
theorem nmX5 : ∀ a, a < 9 → ∀ b, b < 9 → a ≠ b → (TX5 a).2.1 ≠ (TX5 b).2.1 := by decide +kernel
theorem tyX5_ok : ∀ k, k < 9 → parseFieldDescriptor (TX5 k).2.2.1 = some (tyX5 k) := by decide +kernel
abbrev cX5_init : ByteArray := prog_7_method_1_code
def yX5_init : MethodName := ⟨RX5, "<init>", "()V"⟩
abbrev cX5_keep : ByteArray := prog_7_method_2_code
def yX5_keep : MethodName := ⟨RX5, "keep", "(LLostLetters$Row;)V"⟩
abbrev cX5_forget : ByteArray := prog_7_method_3_code
def yX5_forget : MethodName := ⟨RX5, "forget", "()V"⟩
abbrev cX5_search : ByteArray := prog_7_method_4_code
def yX5_search : MethodName := ⟨RX5, "search", "(II)I"⟩
abbrev cX5_cell : ByteArray := prog_7_method_5_code
def yX5_cell : MethodName := ⟨RX5, "cell", "(III)I"⟩
abbrev cX5_explore : ByteArray := prog_7_method_6_code
def yX5_explore : MethodName := ⟨RX5, "explore", "(I)V"⟩
abbrev cX5_allFollow : ByteArray := prog_7_method_7_code
def yX5_allFollow : MethodName := ⟨RX5, "allFollow", "(II)Z"⟩
abbrev cX5_follows : ByteArray := prog_7_method_8_code
def yX5_follows : MethodName := ⟨RX5, "follows", "(III)Z"⟩
abbrev cX5_weigh : ByteArray := prog_7_method_9_code
def yX5_weigh : MethodName := ⟨RX5, "weigh", "()V"⟩
def RX6 : String := "LostLetters"
def TX6 : u_T := fun k => match k with
  | 0 => ("LostLetters", "registers", "[LLostLetters$Row;", true)
  | 1 => ("LostLetters", "theCode", "LLostLetters$Code;", true)
  | 2 => ("LostLetters", "parts", "LLostLetters$Parts;", true)
  | 3 => ("LostLetters", "pair", "LLostLetters$Pair;", true)
  | 4 => ("LostLetters", "traces", "LLostLetters$Traces;", true)
  | 5 => ("LostLetters", "theLine", "LLostLetters$Line;", true)
  | _ => ("LostLetters", "q", "I", false)
def tyX6 : Nat → FieldType := fun k => match k with
  | 0 => .array (.object "LostLetters$Row")
  | 1 => .object "LostLetters$Code"
  | 2 => .object "LostLetters$Parts"
  | 3 => .object "LostLetters$Pair"
  | 4 => .object "LostLetters$Traces"
  | 5 => .object "LostLetters$Line"
  | _ => .int
abbrev wsX60 : List Cond := u_ws RX6 TX6 7
theorem nmX6 : ∀ a, a < 7 → ∀ b, b < 7 → a ≠ b → (TX6 a).2.1 ≠ (TX6 b).2.1 := by decide +kernel
theorem tyX6_ok : ∀ k, k < 7 → parseFieldDescriptor (TX6 k).2.2.1 = some (tyX6 k) := by decide +kernel
abbrev cX6_init : ByteArray := prog_1_method_1_code
def yX6_init : MethodName := ⟨RX6, "<init>", "()V"⟩
abbrev cX6_letters : ByteArray := prog_1_method_2_code
def yX6_letters : MethodName := ⟨RX6, "letters", "(I)I"⟩
abbrev cX6_word : ByteArray := prog_1_method_3_code
def yX6_word : MethodName := ⟨RX6, "word", "(IIJ)I"⟩
abbrev cX6_at : ByteArray := prog_1_method_4_code
def yX6_at : MethodName := ⟨RX6, "at", "(II)I"⟩
abbrev cX6_edit : ByteArray := prog_1_method_5_code
def yX6_edit : MethodName := ⟨RX6, "edit", "(IIIII)I"⟩
abbrev cX6_code : ByteArray := prog_1_method_6_code
def yX6_code : MethodName := ⟨RX6, "code", "(IIII)I"⟩
abbrev cX6_sum : ByteArray := prog_1_method_7_code
def yX6_sum : MethodName := ⟨RX6, "sum", "(I)I"⟩
abbrev cX6_isOf : ByteArray := prog_1_method_8_code
def yX6_isOf : MethodName := ⟨RX6, "isOf", "(I)I"⟩
abbrev cX6_listed : ByteArray := prog_1_method_9_code
def yX6_listed : MethodName := ⟨RX6, "listed", "(II)I"⟩
abbrev cX6_mend : ByteArray := prog_1_method_10_code
def yX6_mend : MethodName := ⟨RX6, "mend", "(II)I"⟩
abbrev cX6_near : ByteArray := prog_1_method_11_code
def yX6_near : MethodName := ⟨RX6, "near", "(I)I"⟩
abbrev cX6_liesIn : ByteArray := prog_1_method_12_code
def yX6_liesIn : MethodName := ⟨RX6, "liesIn", "(II)J"⟩
abbrev cX6_common : ByteArray := prog_1_method_13_code
def yX6_common : MethodName := ⟨RX6, "common", "(III)I"⟩
abbrev cX6_commons : ByteArray := prog_1_method_14_code
def yX6_commons : MethodName := ⟨RX6, "commons", "(II)J"⟩
abbrev cX6_between : ByteArray := prog_1_method_15_code
def yX6_between : MethodName := ⟨RX6, "between", "(III)I"⟩
abbrev cX6_by : ByteArray := prog_1_method_16_code
def yX6_by : MethodName := ⟨RX6, "by", "(III)J"⟩
abbrev cX6_trace : ByteArray := prog_1_method_17_code
def yX6_trace : MethodName := ⟨RX6, "trace", "(I)I"⟩
abbrev cX6_noTraces : ByteArray := prog_1_method_18_code
def yX6_noTraces : MethodName := ⟨RX6, "noTraces", "()I"⟩
abbrev cX6_sources : ByteArray := prog_1_method_19_code
def yX6_sources : MethodName := ⟨RX6, "sources", "(I)I"⟩
abbrev cX6_best : ByteArray := prog_1_method_20_code
def yX6_best : MethodName := ⟨RX6, "best", "(II)I"⟩
abbrev cX6_line : ByteArray := prog_1_method_21_code
def yX6_line : MethodName := ⟨RX6, "line", "(III)I"⟩
abbrev cX6_seed : ByteArray := prog_1_method_22_code
def yX6_seed : MethodName := ⟨RX6, "seed", "(J)I"⟩
abbrev cX6_send : ByteArray := prog_1_method_23_code
def yX6_send : MethodName := ⟨RX6, "send", "(II)I"⟩
abbrev cX6_count : ByteArray := prog_1_method_24_code
def yX6_count : MethodName := ⟨RX6, "count", "(I)I"⟩
abbrev cX6_lettersOfAll : ByteArray := prog_1_method_25_code
def yX6_lettersOfAll : MethodName := ⟨RX6, "lettersOfAll", "()I"⟩
abbrev cX6_isLetter : ByteArray := prog_1_method_26_code
def yX6_isLetter : MethodName := ⟨RX6, "isLetter", "(I)Z"⟩
abbrev cX6_isEdit : ByteArray := prog_1_method_27_code
def yX6_isEdit : MethodName := ⟨RX6, "isEdit", "(LLostLetters$Row;III)Z"⟩
abbrev cX6_isRow : ByteArray := prog_1_method_28_code
def yX6_isRow : MethodName := ⟨RX6, "isRow", "(IJ)Z"⟩
abbrev cX6_isSourceLength : ByteArray := prog_1_method_29_code
def yX6_isSourceLength : MethodName := ⟨RX6, "isSourceLength", "(I)Z"⟩
abbrev cX6_isRegister : ByteArray := prog_1_method_30_code
def yX6_isRegister : MethodName := ⟨RX6, "isRegister", "(I)Z"⟩
abbrev cX6_isEither : ByteArray := prog_1_method_31_code
def yX6_isEither : MethodName := ⟨RX6, "isEither", "(I)Z"⟩
abbrev cX6_isChance : ByteArray := prog_1_method_32_code
def yX6_isChance : MethodName := ⟨RX6, "isChance", "(I)Z"⟩
def RX7 : String := "LostLettersModel"
def TX7 : u_T := fun k => match k with
  | 0 => ("LostLettersModel", "q", "I", false)
  | 1 => ("LostLettersModel", "many", "[I", true)
  | 2 => ("LostLettersModel", "letter", "[I", true)
  | 3 => ("LostLettersModel", "n", "I", false)
  | 4 => ("LostLettersModel", "m", "I", false)
  | 5 => ("LostLettersModel", "a", "I", false)
  | 6 => ("LostLettersModel", "b", "I", false)
  | 7 => ("LostLettersModel", "traces", "I", false)
  | 8 => ("LostLettersModel", "losses", "I", false)
  | 9 => ("LostLettersModel", "gains", "I", false)
  | 10 => ("LostLettersModel", "turns", "I", false)
  | 11 => ("LostLettersModel", "seed", "J", false)
  | 12 => ("LostLettersModel", "ends", "[I", true)
  | 13 => ("LostLettersModel", "nearLetters", "[I", true)
  | 14 => ("LostLettersModel", "nears", "I", false)
  | 15 => ("LostLettersModel", "ways", "[J", true)
  | _ => ("LostLettersModel", "longest", "[I", true)
def tyX7 : Nat → FieldType := fun k => match k with
  | 0 => .int
  | 1 => .array .int
  | 2 => .array .int
  | 3 => .int
  | 4 => .int
  | 5 => .int
  | 6 => .int
  | 7 => .int
  | 8 => .int
  | 9 => .int
  | 10 => .int
  | 11 => .long
  | 12 => .array .int
  | 13 => .array .int
  | 14 => .int
  | 15 => .array .long
  | _ => .array .int
abbrev wsX70 : List Cond := u_ws RX7 TX7 17
theorem nmX7 : ∀ a, a < 17 → ∀ b, b < 17 → a ≠ b → (TX7 a).2.1 ≠ (TX7 b).2.1 := by decide +kernel
theorem tyX7_ok : ∀ k, k < 17 → parseFieldDescriptor (TX7 k).2.2.1 = some (tyX7 k) := by decide +kernel
abbrev cX7_init : ByteArray := prog_9_method_1_code
def yX7_init : MethodName := ⟨RX7, "<init>", "()V"⟩
abbrev cX7_in : ByteArray := prog_9_method_2_code
def yX7_in : MethodName := ⟨RX7, "in", "(JJJ)Z"⟩
abbrev cX7_isRegister : ByteArray := prog_9_method_3_code
def yX7_isRegister : MethodName := ⟨RX7, "isRegister", "(I)Z"⟩
abbrev cX7_letters : ByteArray := prog_9_method_4_code
def yX7_letters : MethodName := ⟨RX7, "letters", "(I)I"⟩
abbrev cX7_puts : ByteArray := prog_9_method_5_code
def yX7_puts : MethodName := ⟨RX7, "puts", "(II)V"⟩
abbrev cX7_copies : ByteArray := prog_9_method_6_code
def yX7_copies : MethodName := ⟨RX7, "copies", "(II)V"⟩
abbrev cX7_word : ByteArray := prog_9_method_7_code
def yX7_word : MethodName := ⟨RX7, "word", "(IIJ)I"⟩
abbrev cX7_at : ByteArray := prog_9_method_8_code
def yX7_at : MethodName := ⟨RX7, "at", "(II)I"⟩
abbrev cX7_edits : ByteArray := prog_9_method_9_code
def yX7_edits : MethodName := ⟨RX7, "edits", "(IIIII)V"⟩
abbrev cX7_edit : ByteArray := prog_9_method_10_code
def yX7_edit : MethodName := ⟨RX7, "edit", "(IIIII)I"⟩
abbrev cX7_sumOf : ByteArray := prog_9_method_11_code
def yX7_sumOf : MethodName := ⟨RX7, "sumOf", "(I)I"⟩
abbrev cX7_lettersOf : ByteArray := prog_9_method_12_code
def yX7_lettersOf : MethodName := ⟨RX7, "lettersOf", "(I)I"⟩
abbrev cX7_isCode : ByteArray := prog_9_method_13_code
def yX7_isCode : MethodName := ⟨RX7, "isCode", "(I)Z"⟩
abbrev cX7_state : ByteArray := prog_9_method_14_code
def yX7_state : MethodName := ⟨RX7, "state", "(IIII)I"⟩
abbrev cX7_step : ByteArray := prog_9_method_15_code
def yX7_step : MethodName := ⟨RX7, "step", "(III)I"⟩
abbrev cX7_counts : ByteArray := prog_9_method_16_code
def yX7_counts : MethodName := ⟨RX7, "counts", "()V"⟩
abbrev cX7_code : ByteArray := prog_9_method_17_code
def yX7_code : MethodName := ⟨RX7, "code", "(IIII)I"⟩
abbrev cX7_codeSize : ByteArray := prog_9_method_18_code
def yX7_codeSize : MethodName := ⟨RX7, "codeSize", "()I"⟩
abbrev cX7_sum : ByteArray := prog_9_method_19_code
def yX7_sum : MethodName := ⟨RX7, "sum", "(I)I"⟩
abbrev cX7_isOf : ByteArray := prog_9_method_20_code
def yX7_isOf : MethodName := ⟨RX7, "isOf", "(I)I"⟩
abbrev cX7_listed : ByteArray := prog_9_method_21_code
def yX7_listed : MethodName := ⟨RX7, "listed", "(II)I"⟩
abbrev cX7_meets : ByteArray := prog_9_method_22_code
def yX7_meets : MethodName := ⟨RX7, "meets", "()V"⟩
abbrev cX7_looks : ByteArray := prog_9_method_23_code
def yX7_looks : MethodName := ⟨RX7, "looks", "(I)V"⟩
abbrev cX7_near : ByteArray := prog_9_method_24_code
def yX7_near : MethodName := ⟨RX7, "near", "(I)I"⟩
abbrev cX7_mend : ByteArray := prog_9_method_25_code
def yX7_mend : MethodName := ⟨RX7, "mend", "(II)I"⟩
abbrev cX7_lies : ByteArray := prog_9_method_26_code
def yX7_lies : MethodName := ⟨RX7, "lies", "(II)J"⟩
abbrev cX7_liesIn : ByteArray := prog_9_method_27_code
def yX7_liesIn : MethodName := ⟨RX7, "liesIn", "(II)J"⟩
abbrev cX7_longests : ByteArray := prog_9_method_28_code
def yX7_longests : MethodName := ⟨RX7, "longests", "(II)V"⟩
abbrev cX7_next : ByteArray := prog_9_method_29_code
def yX7_next : MethodName := ⟨RX7, "next", "(III)I"⟩
abbrev cX7_common : ByteArray := prog_9_method_30_code
def yX7_common : MethodName := ⟨RX7, "common", "(III)I"⟩
abbrev cX7_commons : ByteArray := prog_9_method_31_code
def yX7_commons : MethodName := ⟨RX7, "commons", "(II)J"⟩
abbrev cX7_editsBetween : ByteArray := prog_9_method_32_code
def yX7_editsBetween : MethodName := ⟨RX7, "editsBetween", "(II)I"⟩
abbrev cX7_between : ByteArray := prog_9_method_33_code
def yX7_between : MethodName := ⟨RX7, "between", "(III)I"⟩
abbrev cX7_parts : ByteArray := prog_9_method_34_code
def yX7_parts : MethodName := ⟨RX7, "parts", "(II)J"⟩
abbrev cX7_gained : ByteArray := prog_9_method_35_code
def yX7_gained : MethodName := ⟨RX7, "gained", "(II)J"⟩
abbrev cX7_by : ByteArray := prog_9_method_36_code
def yX7_by : MethodName := ⟨RX7, "by", "(III)J"⟩
abbrev cX7_trace : ByteArray := prog_9_method_37_code
def yX7_trace : MethodName := ⟨RX7, "trace", "(I)I"⟩
abbrev cX7_noTraces : ByteArray := prog_9_method_38_code
def yX7_noTraces : MethodName := ⟨RX7, "noTraces", "()I"⟩
abbrev cX7_power : ByteArray := prog_9_method_39_code
def yX7_power : MethodName := ⟨RX7, "power", "(I)I"⟩
abbrev cX7_numbers : ByteArray := prog_9_method_40_code
def yX7_numbers : MethodName := ⟨RX7, "numbers", "(II)V"⟩
abbrev cX7_product : ByteArray := prog_9_method_41_code
def yX7_product : MethodName := ⟨RX7, "product", "()J"⟩
abbrev cX7_sources : ByteArray := prog_9_method_42_code
def yX7_sources : MethodName := ⟨RX7, "sources", "(I)I"⟩
abbrev cX7_best : ByteArray := prog_9_method_43_code
def yX7_best : MethodName := ⟨RX7, "best", "(II)I"⟩
abbrev cX7_line : ByteArray := prog_9_method_44_code
def yX7_line : MethodName := ⟨RX7, "line", "(III)I"⟩
abbrev cX7_seed : ByteArray := prog_9_method_45_code
def yX7_seed : MethodName := ⟨RX7, "seed", "(J)I"⟩
abbrev cX7_send : ByteArray := prog_9_method_46_code
def yX7_send : MethodName := ⟨RX7, "send", "(II)I"⟩
abbrev cX7_adds : ByteArray := prog_9_method_47_code
def yX7_adds : MethodName := ⟨RX7, "adds", "(II)I"⟩
abbrev cX7_count : ByteArray := prog_9_method_48_code
def yX7_count : MethodName := ⟨RX7, "count", "(I)I"⟩
def RJ9 : String := "java/lang/Math"
abbrev cJ9_max_7cf53 : ByteArray := prog_10_method_65_code
def yJ9_max_7cf53 : MethodName := ⟨RJ9, "max", "(II)I"⟩
abbrev cJ9_min_7cf53 : ByteArray := prog_10_method_69_code
def yJ9_min_7cf53 : MethodName := ⟨RJ9, "min", "(II)I"⟩
abbrev cJ9_min_f86c9 : ByteArray := prog_10_method_70_code
def yJ9_min_f86c9 : MethodName := ⟨RJ9, "min", "(JJ)J"⟩
def RL : String := "LostLettersLaw"
abbrev cL_law : ByteArray := code
def yL_law : MethodName := ⟨RL, "law", "([I)Z"⟩
abbrev vwCl : List vw_C := [(RX0, TX0, 10), (RX1, TX1, 5), (RX2, TX2, 3), (RX3, TX3, 2), (RX4, TX4, 2), (RX5, TX5, 9), (RX6, TX6, 7), (RX7, TX7, 17)]
theorem inX0 : ∀ w ∈ wsX00, w ∈ lw_tbl := by decide +kernel
theorem inX1 : ∀ w ∈ wsX10, w ∈ lw_tbl := by decide +kernel
theorem inX2 : ∀ w ∈ wsX20, w ∈ lw_tbl := by decide +kernel
theorem inX3 : ∀ w ∈ wsX30, w ∈ lw_tbl := by decide +kernel
theorem inX4 : ∀ w ∈ wsX40, w ∈ lw_tbl := by decide +kernel
theorem inX5 : ∀ w ∈ wsX50, w ∈ lw_tbl := by decide +kernel
theorem inX6 : ∀ w ∈ wsX60, w ∈ lw_tbl := by decide +kernel
theorem inX7 : ∀ w ∈ wsX70, w ∈ lw_tbl := by decide +kernel
end
section
theorem dX0_init_0 : decode cX0_init 0 = .ok (.aload_n 0, 1) := by decide +kernel
theorem dX0_init_1 : decode cX0_init 1 = .ok (.invokespecial 3, 3) := by decide +kernel
theorem dX0_init_4 : decode cX0_init 4 = .ok (.aload_n 0, 1) := by decide +kernel
theorem dX0_init_5 : decode cX0_init 5 = .ok (.new 9, 3) := by decide +kernel
theorem dX0_init_8 : decode cX0_init 8 = .ok (.dup, 1) := by decide +kernel
theorem dX0_init_9 : decode cX0_init 9 = .ok (.invokespecial 11, 3) := by decide +kernel
theorem dX0_init_12 : decode cX0_init 12 = .ok (.putfield 12, 3) := by decide +kernel
theorem dX0_init_15 : decode cX0_init 15 = .ok (.aload_n 0, 1) := by decide +kernel
theorem dX0_init_16 : decode cX0_init 16 = .ok (.new 9, 3) := by decide +kernel
theorem dX0_init_19 : decode cX0_init 19 = .ok (.dup, 1) := by decide +kernel
theorem dX0_init_20 : decode cX0_init 20 = .ok (.invokespecial 11, 3) := by decide +kernel
theorem dX0_init_23 : decode cX0_init 23 = .ok (.putfield 18, 3) := by decide +kernel
theorem dX0_init_26 : decode cX0_init 26 = .ok (.aload_n 0, 1) := by decide +kernel
theorem dX0_init_27 : decode cX0_init 27 = .ok (.iconst 0, 1) := by decide +kernel
theorem dX0_init_28 : decode cX0_init 28 = .ok (.newarray .int, 2) := by decide +kernel
theorem dX0_init_30 : decode cX0_init 30 = .ok (.putfield 21, 3) := by decide +kernel
theorem dX0_init_33 : decode cX0_init 33 = .ok (.aload_n 0, 1) := by decide +kernel
theorem dX0_init_34 : decode cX0_init 34 = .ok (.iconst 2, 1) := by decide +kernel
theorem dX0_init_35 : decode cX0_init 35 = .ok (.putfield 25, 3) := by decide +kernel
theorem dX0_init_38 : decode cX0_init 38 = .ok (.aload_n 0, 1) := by decide +kernel
theorem dX0_init_39 : decode cX0_init 39 = .ok (.iconst 1, 1) := by decide +kernel
theorem dX0_init_40 : decode cX0_init 40 = .ok (.putfield 29, 3) := by decide +kernel
theorem dX0_init_43 : decode cX0_init 43 = .ok (.aload_n 0, 1) := by decide +kernel
theorem dX0_init_44 : decode cX0_init 44 = .ok (.iconst 1, 1) := by decide +kernel
theorem dX0_init_45 : decode cX0_init 45 = .ok (.putfield 32, 3) := by decide +kernel
theorem dX0_init_48 : decode cX0_init 48 = .ok (.return_, 1) := by decide +kernel
theorem dX0_stands_0 : decode cX0_stands 0 = .ok (.aload_n 0, 1) := by decide +kernel
theorem dX0_stands_1 : decode cX0_stands 1 = .ok (.getfield 35, 3) := by decide +kernel
theorem dX0_stands_4 : decode cX0_stands 4 = .ok (.ifCond .le 7, 3) := by decide +kernel
theorem dX0_stands_7 : decode cX0_stands 7 = .ok (.iconst 1, 1) := by decide +kernel
theorem dX0_stands_8 : decode cX0_stands 8 = .ok (.goto 4, 3) := by decide +kernel
theorem dX0_stands_11 : decode cX0_stands 11 = .ok (.iconst 0, 1) := by decide +kernel
theorem dX0_stands_12 : decode cX0_stands 12 = .ok (.ireturn, 1) := by decide +kernel
theorem dX0_forget_0 : decode cX0_forget 0 = .ok (.aload_n 0, 1) := by decide +kernel
theorem dX0_forget_1 : decode cX0_forget 1 = .ok (.iconst 0, 1) := by decide +kernel
theorem dX0_forget_2 : decode cX0_forget 2 = .ok (.putfield 35, 3) := by decide +kernel
theorem dX0_forget_5 : decode cX0_forget 5 = .ok (.return_, 1) := by decide +kernel
theorem dX0_tell_0 : decode cX0_tell 0 = .ok (.aload_n 0, 1) := by decide +kernel
theorem dX0_tell_1 : decode cX0_tell 1 = .ok (.iload_n 1, 1) := by decide +kernel
theorem dX0_tell_2 : decode cX0_tell 2 = .ok (.putfield 25, 3) := by decide +kernel
theorem dX0_tell_5 : decode cX0_tell 5 = .ok (.aload_n 0, 1) := by decide +kernel
theorem dX0_tell_6 : decode cX0_tell 6 = .ok (.iload_n 2, 1) := by decide +kernel
theorem dX0_tell_7 : decode cX0_tell 7 = .ok (.putfield 35, 3) := by decide +kernel
theorem dX0_tell_10 : decode cX0_tell 10 = .ok (.aload_n 0, 1) := by decide +kernel
theorem dX0_tell_11 : decode cX0_tell 11 = .ok (.iload_n 3, 1) := by decide +kernel
theorem dX0_tell_12 : decode cX0_tell 12 = .ok (.putfield 29, 3) := by decide +kernel
theorem dX0_tell_15 : decode cX0_tell 15 = .ok (.aload_n 0, 1) := by decide +kernel
theorem dX0_tell_16 : decode cX0_tell 16 = .ok (.iload 4, 2) := by decide +kernel
theorem dX0_tell_18 : decode cX0_tell 18 = .ok (.putfield 38, 3) := by decide +kernel
theorem dX0_tell_21 : decode cX0_tell 21 = .ok (.aload_n 0, 1) := by decide +kernel
theorem dX0_tell_22 : decode cX0_tell 22 = .ok (.iload_n 1, 1) := by decide +kernel
theorem dX0_tell_23 : decode cX0_tell 23 = .ok (.iconst 2, 1) := by decide +kernel
theorem dX0_tell_24 : decode cX0_tell 24 = .ok (.if_icmp .ne 7, 3) := by decide +kernel
theorem dX0_tell_27 : decode cX0_tell 27 = .ok (.iconst 0, 1) := by decide +kernel
theorem dX0_tell_28 : decode cX0_tell 28 = .ok (.goto 5, 3) := by decide +kernel
theorem dX0_tell_31 : decode cX0_tell 31 = .ok (.iload 5, 2) := by decide +kernel
theorem dX0_tell_33 : decode cX0_tell 33 = .ok (.putfield 41, 3) := by decide +kernel
theorem dX0_tell_36 : decode cX0_tell 36 = .ok (.aload_n 0, 1) := by decide +kernel
theorem dX0_tell_37 : decode cX0_tell 37 = .ok (.iload_n 1, 1) := by decide +kernel
theorem dX0_tell_38 : decode cX0_tell 38 = .ok (.iconst 2, 1) := by decide +kernel
theorem dX0_tell_39 : decode cX0_tell 39 = .ok (.if_icmp .ne 7, 3) := by decide +kernel
theorem dX0_tell_42 : decode cX0_tell 42 = .ok (.iconst 1, 1) := by decide +kernel
theorem dX0_tell_43 : decode cX0_tell 43 = .ok (.goto 4, 3) := by decide +kernel
theorem dX0_tell_46 : decode cX0_tell 46 = .ok (.iload_n 1, 1) := by decide +kernel
theorem dX0_tell_47 : decode cX0_tell 47 = .ok (.putfield 32, 3) := by decide +kernel
theorem dX0_tell_50 : decode cX0_tell 50 = .ok (.aload_n 0, 1) := by decide +kernel
theorem dX0_tell_51 : decode cX0_tell 51 = .ok (.invokevirtual 44, 3) := by decide +kernel
theorem dX0_tell_54 : decode cX0_tell 54 = .ok (.aload_n 0, 1) := by decide +kernel
theorem dX0_tell_55 : decode cX0_tell 55 = .ok (.invokevirtual 47, 3) := by decide +kernel
theorem dX0_tell_58 : decode cX0_tell 58 = .ok (.return_, 1) := by decide +kernel
theorem dX0_makeRoom_0 : decode cX0_makeRoom 0 = .ok (.aload_n 0, 1) := by decide +kernel
theorem dX0_makeRoom_1 : decode cX0_makeRoom 1 = .ok (.getfield 35, 3) := by decide +kernel
theorem dX0_makeRoom_4 : decode cX0_makeRoom 4 = .ok (.iconst 1, 1) := by decide +kernel
theorem dX0_makeRoom_5 : decode cX0_makeRoom 5 = .ok (.isub, 1) := by decide +kernel
theorem dX0_makeRoom_6 : decode cX0_makeRoom 6 = .ok (.aload_n 0, 1) := by decide +kernel
theorem dX0_makeRoom_7 : decode cX0_makeRoom 7 = .ok (.getfield 25, 3) := by decide +kernel
theorem dX0_makeRoom_10 : decode cX0_makeRoom 10 = .ok (.imul, 1) := by decide +kernel
theorem dX0_makeRoom_11 : decode cX0_makeRoom 11 = .ok (.aload_n 0, 1) := by decide +kernel
theorem dX0_makeRoom_12 : decode cX0_makeRoom 12 = .ok (.getfield 29, 3) := by decide +kernel
theorem dX0_makeRoom_15 : decode cX0_makeRoom 15 = .ok (.imul, 1) := by decide +kernel
theorem dX0_makeRoom_16 : decode cX0_makeRoom 16 = .ok (.aload_n 0, 1) := by decide +kernel
theorem dX0_makeRoom_17 : decode cX0_makeRoom 17 = .ok (.getfield 32, 3) := by decide +kernel
theorem dX0_makeRoom_20 : decode cX0_makeRoom 20 = .ok (.imul, 1) := by decide +kernel
theorem dX0_makeRoom_21 : decode cX0_makeRoom 21 = .ok (.istore_n 1, 1) := by decide +kernel
theorem dX0_makeRoom_22 : decode cX0_makeRoom 22 = .ok (.iload_n 1, 1) := by decide +kernel
theorem dX0_makeRoom_23 : decode cX0_makeRoom 23 = .ok (.aload_n 0, 1) := by decide +kernel
theorem dX0_makeRoom_24 : decode cX0_makeRoom 24 = .ok (.getfield 21, 3) := by decide +kernel
theorem dX0_makeRoom_27 : decode cX0_makeRoom 27 = .ok (.arraylength, 1) := by decide +kernel
theorem dX0_makeRoom_28 : decode cX0_makeRoom 28 = .ok (.if_icmp .le 26, 3) := by decide +kernel
theorem dX0_makeRoom_31 : decode cX0_makeRoom 31 = .ok (.aload_n 0, 1) := by decide +kernel
theorem dX0_makeRoom_32 : decode cX0_makeRoom 32 = .ok (.iload_n 1, 1) := by decide +kernel
theorem dX0_makeRoom_33 : decode cX0_makeRoom 33 = .ok (.iconst 2, 1) := by decide +kernel
theorem dX0_makeRoom_34 : decode cX0_makeRoom 34 = .ok (.aload_n 0, 1) := by decide +kernel
theorem dX0_makeRoom_35 : decode cX0_makeRoom 35 = .ok (.getfield 21, 3) := by decide +kernel
theorem dX0_makeRoom_38 : decode cX0_makeRoom 38 = .ok (.arraylength, 1) := by decide +kernel
theorem dX0_makeRoom_39 : decode cX0_makeRoom 39 = .ok (.imul, 1) := by decide +kernel
theorem dX0_makeRoom_40 : decode cX0_makeRoom 40 = .ok (.sipush 15360, 3) := by decide +kernel
theorem dX0_makeRoom_43 : decode cX0_makeRoom 43 = .ok (.invokestatic 50, 3) := by decide +kernel
theorem dX0_makeRoom_46 : decode cX0_makeRoom 46 = .ok (.invokestatic 56, 3) := by decide +kernel
theorem dX0_makeRoom_49 : decode cX0_makeRoom 49 = .ok (.newarray .int, 2) := by decide +kernel
theorem dX0_makeRoom_51 : decode cX0_makeRoom 51 = .ok (.putfield 21, 3) := by decide +kernel
theorem dX0_makeRoom_54 : decode cX0_makeRoom 54 = .ok (.return_, 1) := by decide +kernel
theorem dX0_countWays_0 : decode cX0_countWays 0 = .ok (.aload_n 0, 1) := by decide +kernel
theorem dX0_countWays_1 : decode cX0_countWays 1 = .ok (.getfield 35, 3) := by decide +kernel
theorem dX0_countWays_4 : decode cX0_countWays 4 = .ok (.iconst 1, 1) := by decide +kernel
theorem dX0_countWays_5 : decode cX0_countWays 5 = .ok (.isub, 1) := by decide +kernel
theorem dX0_countWays_6 : decode cX0_countWays 6 = .ok (.istore_n 1, 1) := by decide +kernel
theorem dX0_countWays_7 : decode cX0_countWays 7 = .ok (.iload_n 1, 1) := by decide +kernel
theorem dX0_countWays_8 : decode cX0_countWays 8 = .ok (.iconst 1, 1) := by decide +kernel
theorem dX0_countWays_9 : decode cX0_countWays 9 = .ok (.if_icmp .lt 31, 3) := by decide +kernel
theorem dX0_countWays_12 : decode cX0_countWays 12 = .ok (.iconst 0, 1) := by decide +kernel
theorem dX0_countWays_13 : decode cX0_countWays 13 = .ok (.istore_n 2, 1) := by decide +kernel
theorem dX0_countWays_14 : decode cX0_countWays 14 = .ok (.iload_n 2, 1) := by decide +kernel
theorem dX0_countWays_15 : decode cX0_countWays 15 = .ok (.aload_n 0, 1) := by decide +kernel
theorem dX0_countWays_16 : decode cX0_countWays 16 = .ok (.getfield 25, 3) := by decide +kernel
theorem dX0_countWays_19 : decode cX0_countWays 19 = .ok (.if_icmp .ge 15, 3) := by decide +kernel
theorem dX0_countWays_22 : decode cX0_countWays 22 = .ok (.aload_n 0, 1) := by decide +kernel
theorem dX0_countWays_23 : decode cX0_countWays 23 = .ok (.iload_n 1, 1) := by decide +kernel
theorem dX0_countWays_24 : decode cX0_countWays 24 = .ok (.iload_n 2, 1) := by decide +kernel
theorem dX0_countWays_25 : decode cX0_countWays 25 = .ok (.invokevirtual 59, 3) := by decide +kernel
theorem dX0_countWays_28 : decode cX0_countWays 28 = .ok (.iinc 2 1, 3) := by decide +kernel
theorem dX0_countWays_31 : decode cX0_countWays 31 = .ok (.goto (-17), 3) := by decide +kernel
theorem dX0_countWays_34 : decode cX0_countWays 34 = .ok (.iinc 1 (-1), 3) := by decide +kernel
theorem dX0_countWays_37 : decode cX0_countWays 37 = .ok (.goto (-30), 3) := by decide +kernel
theorem dX0_countWays_40 : decode cX0_countWays 40 = .ok (.aload_n 0, 1) := by decide +kernel
theorem dX0_countWays_41 : decode cX0_countWays 41 = .ok (.aload_n 0, 1) := by decide +kernel
theorem dX0_countWays_42 : decode cX0_countWays 42 = .ok (.iconst 0, 1) := by decide +kernel
theorem dX0_countWays_43 : decode cX0_countWays 43 = .ok (.iconst 0, 1) := by decide +kernel
theorem dX0_countWays_44 : decode cX0_countWays 44 = .ok (.iconst 0, 1) := by decide +kernel
theorem dX0_countWays_45 : decode cX0_countWays 45 = .ok (.iconst 0, 1) := by decide +kernel
theorem dX0_countWays_46 : decode cX0_countWays 46 = .ok (.invokevirtual 63, 3) := by decide +kernel
theorem dX0_countWays_49 : decode cX0_countWays 49 = .ok (.putfield 67, 3) := by decide +kernel
theorem dX0_countWays_52 : decode cX0_countWays 52 = .ok (.return_, 1) := by decide +kernel
theorem dX0_countWaysBehind_0 : decode cX0_countWaysBehind 0 = .ok (.iconst 0, 1) := by decide +kernel
theorem dX0_countWaysBehind_1 : decode cX0_countWaysBehind 1 = .ok (.istore_n 3, 1) := by decide +kernel
theorem dX0_countWaysBehind_2 : decode cX0_countWaysBehind 2 = .ok (.iload_n 3, 1) := by decide +kernel
theorem dX0_countWaysBehind_3 : decode cX0_countWaysBehind 3 = .ok (.aload_n 0, 1) := by decide +kernel
theorem dX0_countWaysBehind_4 : decode cX0_countWaysBehind 4 = .ok (.getfield 29, 3) := by decide +kernel
theorem dX0_countWaysBehind_7 : decode cX0_countWaysBehind 7 = .ok (.if_icmp .ge 50, 3) := by decide +kernel
theorem dX0_countWaysBehind_10 : decode cX0_countWaysBehind 10 = .ok (.iconst 0, 1) := by decide +kernel
theorem dX0_countWaysBehind_11 : decode cX0_countWaysBehind 11 = .ok (.istore 4, 2) := by decide +kernel
theorem dX0_countWaysBehind_13 : decode cX0_countWaysBehind 13 = .ok (.iload 4, 2) := by decide +kernel
theorem dX0_countWaysBehind_15 : decode cX0_countWaysBehind 15 = .ok (.aload_n 0, 1) := by decide +kernel
theorem dX0_countWaysBehind_16 : decode cX0_countWaysBehind 16 = .ok (.getfield 32, 3) := by decide +kernel
theorem dX0_countWaysBehind_19 : decode cX0_countWaysBehind 19 = .ok (.if_icmp .ge 32, 3) := by decide +kernel
theorem dX0_countWaysBehind_22 : decode cX0_countWaysBehind 22 = .ok (.aload_n 0, 1) := by decide +kernel
theorem dX0_countWaysBehind_23 : decode cX0_countWaysBehind 23 = .ok (.getfield 21, 3) := by decide +kernel
theorem dX0_countWaysBehind_26 : decode cX0_countWaysBehind 26 = .ok (.aload_n 0, 1) := by decide +kernel
theorem dX0_countWaysBehind_27 : decode cX0_countWaysBehind 27 = .ok (.iload_n 1, 1) := by decide +kernel
theorem dX0_countWaysBehind_28 : decode cX0_countWaysBehind 28 = .ok (.iload_n 2, 1) := by decide +kernel
theorem dX0_countWaysBehind_29 : decode cX0_countWaysBehind 29 = .ok (.iload_n 3, 1) := by decide +kernel
theorem dX0_countWaysBehind_30 : decode cX0_countWaysBehind 30 = .ok (.iload 4, 2) := by decide +kernel
theorem dX0_countWaysBehind_32 : decode cX0_countWaysBehind 32 = .ok (.invokevirtual 70, 3) := by decide +kernel
theorem dX0_countWaysBehind_35 : decode cX0_countWaysBehind 35 = .ok (.aload_n 0, 1) := by decide +kernel
theorem dX0_countWaysBehind_36 : decode cX0_countWaysBehind 36 = .ok (.iload_n 1, 1) := by decide +kernel
theorem dX0_countWaysBehind_37 : decode cX0_countWaysBehind 37 = .ok (.iload_n 2, 1) := by decide +kernel
theorem dX0_countWaysBehind_38 : decode cX0_countWaysBehind 38 = .ok (.iload_n 3, 1) := by decide +kernel
theorem dX0_countWaysBehind_39 : decode cX0_countWaysBehind 39 = .ok (.iload 4, 2) := by decide +kernel
theorem dX0_countWaysBehind_41 : decode cX0_countWaysBehind 41 = .ok (.invokevirtual 63, 3) := by decide +kernel
theorem dX0_countWaysBehind_44 : decode cX0_countWaysBehind 44 = .ok (.iastore, 1) := by decide +kernel
theorem dX0_countWaysBehind_45 : decode cX0_countWaysBehind 45 = .ok (.iinc 4 1, 3) := by decide +kernel
theorem dX0_countWaysBehind_48 : decode cX0_countWaysBehind 48 = .ok (.goto (-35), 3) := by decide +kernel
theorem dX0_countWaysBehind_51 : decode cX0_countWaysBehind 51 = .ok (.iinc 3 1, 3) := by decide +kernel
theorem dX0_countWaysBehind_54 : decode cX0_countWaysBehind 54 = .ok (.goto (-52), 3) := by decide +kernel
theorem dX0_countWaysBehind_57 : decode cX0_countWaysBehind 57 = .ok (.return_, 1) := by decide +kernel
theorem dX0_waysByNext_0 : decode cX0_waysByNext 0 = .ok (.iconst 0, 1) := by decide +kernel
theorem dX0_waysByNext_1 : decode cX0_waysByNext 1 = .ok (.istore 5, 2) := by decide +kernel
theorem dX0_waysByNext_3 : decode cX0_waysByNext 3 = .ok (.iconst 0, 1) := by decide +kernel
theorem dX0_waysByNext_4 : decode cX0_waysByNext 4 = .ok (.istore 6, 2) := by decide +kernel
theorem dX0_waysByNext_6 : decode cX0_waysByNext 6 = .ok (.iload 6, 2) := by decide +kernel
theorem dX0_waysByNext_8 : decode cX0_waysByNext 8 = .ok (.aload_n 0, 1) := by decide +kernel
theorem dX0_waysByNext_9 : decode cX0_waysByNext 9 = .ok (.getfield 25, 3) := by decide +kernel
theorem dX0_waysByNext_12 : decode cX0_waysByNext 12 = .ok (.if_icmp .ge 44, 3) := by decide +kernel
theorem dX0_waysByNext_15 : decode cX0_waysByNext 15 = .ok (.iload 5, 2) := by decide +kernel
theorem dX0_waysByNext_17 : decode cX0_waysByNext 17 = .ok (.aload_n 0, 1) := by decide +kernel
theorem dX0_waysByNext_18 : decode cX0_waysByNext 18 = .ok (.iload_n 1, 1) := by decide +kernel
theorem dX0_waysByNext_19 : decode cX0_waysByNext 19 = .ok (.iconst 1, 1) := by decide +kernel
theorem dX0_waysByNext_20 : decode cX0_waysByNext 20 = .ok (.iadd, 1) := by decide +kernel
theorem dX0_waysByNext_21 : decode cX0_waysByNext 21 = .ok (.iload 6, 2) := by decide +kernel
theorem dX0_waysByNext_23 : decode cX0_waysByNext 23 = .ok (.aload_n 0, 1) := by decide +kernel
theorem dX0_waysByNext_24 : decode cX0_waysByNext 24 = .ok (.iload_n 3, 1) := by decide +kernel
theorem dX0_waysByNext_25 : decode cX0_waysByNext 25 = .ok (.iload_n 1, 1) := by decide +kernel
theorem dX0_waysByNext_26 : decode cX0_waysByNext 26 = .ok (.iconst 1, 1) := by decide +kernel
theorem dX0_waysByNext_27 : decode cX0_waysByNext 27 = .ok (.iadd, 1) := by decide +kernel
theorem dX0_waysByNext_28 : decode cX0_waysByNext 28 = .ok (.iload_n 2, 1) := by decide +kernel
theorem dX0_waysByNext_29 : decode cX0_waysByNext 29 = .ok (.iload 6, 2) := by decide +kernel
theorem dX0_waysByNext_31 : decode cX0_waysByNext 31 = .ok (.invokevirtual 73, 3) := by decide +kernel
theorem dX0_waysByNext_34 : decode cX0_waysByNext 34 = .ok (.iload 4, 2) := by decide +kernel
theorem dX0_waysByNext_36 : decode cX0_waysByNext 36 = .ok (.iload 6, 2) := by decide +kernel
theorem dX0_waysByNext_38 : decode cX0_waysByNext 38 = .ok (.iadd, 1) := by decide +kernel
theorem dX0_waysByNext_39 : decode cX0_waysByNext 39 = .ok (.aload_n 0, 1) := by decide +kernel
theorem dX0_waysByNext_40 : decode cX0_waysByNext 40 = .ok (.getfield 32, 3) := by decide +kernel
theorem dX0_waysByNext_43 : decode cX0_waysByNext 43 = .ok (.irem, 1) := by decide +kernel
theorem dX0_waysByNext_44 : decode cX0_waysByNext 44 = .ok (.invokevirtual 76, 3) := by decide +kernel
theorem dX0_waysByNext_47 : decode cX0_waysByNext 47 = .ok (.iadd, 1) := by decide +kernel
theorem dX0_waysByNext_48 : decode cX0_waysByNext 48 = .ok (.istore 5, 2) := by decide +kernel
theorem dX0_waysByNext_50 : decode cX0_waysByNext 50 = .ok (.iinc 6 1, 3) := by decide +kernel
theorem dX0_waysByNext_53 : decode cX0_waysByNext 53 = .ok (.goto (-47), 3) := by decide +kernel
theorem dX0_waysByNext_56 : decode cX0_waysByNext 56 = .ok (.iload 5, 2) := by decide +kernel
theorem dX0_waysByNext_58 : decode cX0_waysByNext 58 = .ok (.ireturn, 1) := by decide +kernel
theorem dX0_waysToEnd_0 : decode cX0_waysToEnd 0 = .ok (.iload_n 1, 1) := by decide +kernel
theorem dX0_waysToEnd_1 : decode cX0_waysToEnd 1 = .ok (.aload_n 0, 1) := by decide +kernel
theorem dX0_waysToEnd_2 : decode cX0_waysToEnd 2 = .ok (.getfield 35, 3) := by decide +kernel
theorem dX0_waysToEnd_5 : decode cX0_waysToEnd 5 = .ok (.if_icmp .lt 26, 3) := by decide +kernel
theorem dX0_waysToEnd_8 : decode cX0_waysToEnd 8 = .ok (.iload_n 3, 1) := by decide +kernel
theorem dX0_waysToEnd_9 : decode cX0_waysToEnd 9 = .ok (.aload_n 0, 1) := by decide +kernel
theorem dX0_waysToEnd_10 : decode cX0_waysToEnd 10 = .ok (.getfield 38, 3) := by decide +kernel
theorem dX0_waysToEnd_13 : decode cX0_waysToEnd 13 = .ok (.if_icmp .ne 16, 3) := by decide +kernel
theorem dX0_waysToEnd_16 : decode cX0_waysToEnd 16 = .ok (.iload 4, 2) := by decide +kernel
theorem dX0_waysToEnd_18 : decode cX0_waysToEnd 18 = .ok (.aload_n 0, 1) := by decide +kernel
theorem dX0_waysToEnd_19 : decode cX0_waysToEnd 19 = .ok (.getfield 41, 3) := by decide +kernel
theorem dX0_waysToEnd_22 : decode cX0_waysToEnd 22 = .ok (.if_icmp .ne 7, 3) := by decide +kernel
theorem dX0_waysToEnd_25 : decode cX0_waysToEnd 25 = .ok (.iconst 1, 1) := by decide +kernel
theorem dX0_waysToEnd_26 : decode cX0_waysToEnd 26 = .ok (.goto 4, 3) := by decide +kernel
theorem dX0_waysToEnd_29 : decode cX0_waysToEnd 29 = .ok (.iconst 0, 1) := by decide +kernel
theorem dX0_waysToEnd_30 : decode cX0_waysToEnd 30 = .ok (.ireturn, 1) := by decide +kernel
theorem dX0_waysToEnd_31 : decode cX0_waysToEnd 31 = .ok (.aload_n 0, 1) := by decide +kernel
theorem dX0_waysToEnd_32 : decode cX0_waysToEnd 32 = .ok (.getfield 21, 3) := by decide +kernel
theorem dX0_waysToEnd_35 : decode cX0_waysToEnd 35 = .ok (.aload_n 0, 1) := by decide +kernel
theorem dX0_waysToEnd_36 : decode cX0_waysToEnd 36 = .ok (.iload_n 1, 1) := by decide +kernel
theorem dX0_waysToEnd_37 : decode cX0_waysToEnd 37 = .ok (.iload_n 2, 1) := by decide +kernel
theorem dX0_waysToEnd_38 : decode cX0_waysToEnd 38 = .ok (.iload_n 3, 1) := by decide +kernel
theorem dX0_waysToEnd_39 : decode cX0_waysToEnd 39 = .ok (.iload 4, 2) := by decide +kernel
theorem dX0_waysToEnd_41 : decode cX0_waysToEnd 41 = .ok (.invokevirtual 70, 3) := by decide +kernel
theorem dX0_waysToEnd_44 : decode cX0_waysToEnd 44 = .ok (.iaload, 1) := by decide +kernel
theorem dX0_waysToEnd_45 : decode cX0_waysToEnd 45 = .ok (.ireturn, 1) := by decide +kernel
theorem dX0_cell_0 : decode cX0_cell 0 = .ok (.iload_n 1, 1) := by decide +kernel
theorem dX0_cell_1 : decode cX0_cell 1 = .ok (.iconst 1, 1) := by decide +kernel
theorem dX0_cell_2 : decode cX0_cell 2 = .ok (.isub, 1) := by decide +kernel
theorem dX0_cell_3 : decode cX0_cell 3 = .ok (.aload_n 0, 1) := by decide +kernel
theorem dX0_cell_4 : decode cX0_cell 4 = .ok (.getfield 25, 3) := by decide +kernel
theorem dX0_cell_7 : decode cX0_cell 7 = .ok (.imul, 1) := by decide +kernel
theorem dX0_cell_8 : decode cX0_cell 8 = .ok (.iload_n 2, 1) := by decide +kernel
theorem dX0_cell_9 : decode cX0_cell 9 = .ok (.iadd, 1) := by decide +kernel
theorem dX0_cell_10 : decode cX0_cell 10 = .ok (.aload_n 0, 1) := by decide +kernel
theorem dX0_cell_11 : decode cX0_cell 11 = .ok (.getfield 29, 3) := by decide +kernel
theorem dX0_cell_14 : decode cX0_cell 14 = .ok (.imul, 1) := by decide +kernel
theorem dX0_cell_15 : decode cX0_cell 15 = .ok (.iload_n 3, 1) := by decide +kernel
theorem dX0_cell_16 : decode cX0_cell 16 = .ok (.iadd, 1) := by decide +kernel
theorem dX0_cell_17 : decode cX0_cell 17 = .ok (.aload_n 0, 1) := by decide +kernel
theorem dX0_cell_18 : decode cX0_cell 18 = .ok (.getfield 32, 3) := by decide +kernel
theorem dX0_cell_21 : decode cX0_cell 21 = .ok (.imul, 1) := by decide +kernel
theorem dX0_cell_22 : decode cX0_cell 22 = .ok (.iload 4, 2) := by decide +kernel
theorem dX0_cell_24 : decode cX0_cell 24 = .ok (.iadd, 1) := by decide +kernel
theorem dX0_cell_25 : decode cX0_cell 25 = .ok (.ireturn, 1) := by decide +kernel
theorem dX0_sumWith_0 : decode cX0_sumWith 0 = .ok (.aload_n 0, 1) := by decide +kernel
theorem dX0_sumWith_1 : decode cX0_sumWith 1 = .ok (.getfield 25, 3) := by decide +kernel
theorem dX0_sumWith_4 : decode cX0_sumWith 4 = .ok (.iconst 2, 1) := by decide +kernel
theorem dX0_sumWith_5 : decode cX0_sumWith 5 = .ok (.if_icmp .ne 15, 3) := by decide +kernel
theorem dX0_sumWith_8 : decode cX0_sumWith 8 = .ok (.iload_n 1, 1) := by decide +kernel
theorem dX0_sumWith_9 : decode cX0_sumWith 9 = .ok (.iload_n 2, 1) := by decide +kernel
theorem dX0_sumWith_10 : decode cX0_sumWith 10 = .ok (.iload 4, 2) := by decide +kernel
theorem dX0_sumWith_12 : decode cX0_sumWith 12 = .ok (.imul, 1) := by decide +kernel
theorem dX0_sumWith_13 : decode cX0_sumWith 13 = .ok (.iadd, 1) := by decide +kernel
theorem dX0_sumWith_14 : decode cX0_sumWith 14 = .ok (.aload_n 0, 1) := by decide +kernel
theorem dX0_sumWith_15 : decode cX0_sumWith 15 = .ok (.getfield 29, 3) := by decide +kernel
theorem dX0_sumWith_18 : decode cX0_sumWith 18 = .ok (.irem, 1) := by decide +kernel
theorem dX0_sumWith_19 : decode cX0_sumWith 19 = .ok (.ireturn, 1) := by decide +kernel
theorem dX0_sumWith_20 : decode cX0_sumWith 20 = .ok (.iload_n 2, 1) := by decide +kernel
theorem dX0_sumWith_21 : decode cX0_sumWith 21 = .ok (.iconst 1, 1) := by decide +kernel
theorem dX0_sumWith_22 : decode cX0_sumWith 22 = .ok (.if_icmp .le 22, 3) := by decide +kernel
theorem dX0_sumWith_25 : decode cX0_sumWith 25 = .ok (.iload 4, 2) := by decide +kernel
theorem dX0_sumWith_27 : decode cX0_sumWith 27 = .ok (.iload_n 3, 1) := by decide +kernel
theorem dX0_sumWith_28 : decode cX0_sumWith 28 = .ok (.if_icmp .lt 16, 3) := by decide +kernel
theorem dX0_sumWith_31 : decode cX0_sumWith 31 = .ok (.iload_n 1, 1) := by decide +kernel
theorem dX0_sumWith_32 : decode cX0_sumWith 32 = .ok (.iload_n 2, 1) := by decide +kernel
theorem dX0_sumWith_33 : decode cX0_sumWith 33 = .ok (.iadd, 1) := by decide +kernel
theorem dX0_sumWith_34 : decode cX0_sumWith 34 = .ok (.iconst 1, 1) := by decide +kernel
theorem dX0_sumWith_35 : decode cX0_sumWith 35 = .ok (.isub, 1) := by decide +kernel
theorem dX0_sumWith_36 : decode cX0_sumWith 36 = .ok (.aload_n 0, 1) := by decide +kernel
theorem dX0_sumWith_37 : decode cX0_sumWith 37 = .ok (.getfield 29, 3) := by decide +kernel
theorem dX0_sumWith_40 : decode cX0_sumWith 40 = .ok (.irem, 1) := by decide +kernel
theorem dX0_sumWith_41 : decode cX0_sumWith 41 = .ok (.goto 4, 3) := by decide +kernel
theorem dX0_sumWith_44 : decode cX0_sumWith 44 = .ok (.iload_n 1, 1) := by decide +kernel
theorem dX0_sumWith_45 : decode cX0_sumWith 45 = .ok (.ireturn, 1) := by decide +kernel
theorem dX0_sumOf_0 : decode cX0_sumOf 0 = .ok (.iconst 0, 1) := by decide +kernel
theorem dX0_sumOf_1 : decode cX0_sumOf 1 = .ok (.istore_n 2, 1) := by decide +kernel
theorem dX0_sumOf_2 : decode cX0_sumOf 2 = .ok (.iconst 0, 1) := by decide +kernel
theorem dX0_sumOf_3 : decode cX0_sumOf 3 = .ok (.istore_n 3, 1) := by decide +kernel
theorem dX0_sumOf_4 : decode cX0_sumOf 4 = .ok (.iconst 0, 1) := by decide +kernel
theorem dX0_sumOf_5 : decode cX0_sumOf 5 = .ok (.istore 4, 2) := by decide +kernel
theorem dX0_sumOf_7 : decode cX0_sumOf 7 = .ok (.iload 4, 2) := by decide +kernel
theorem dX0_sumOf_9 : decode cX0_sumOf 9 = .ok (.aload_n 1, 1) := by decide +kernel
theorem dX0_sumOf_10 : decode cX0_sumOf 10 = .ok (.getfield 79, 3) := by decide +kernel
theorem dX0_sumOf_13 : decode cX0_sumOf 13 = .ok (.if_icmp .ge 33, 3) := by decide +kernel
theorem dX0_sumOf_16 : decode cX0_sumOf 16 = .ok (.aload_n 1, 1) := by decide +kernel
theorem dX0_sumOf_17 : decode cX0_sumOf 17 = .ok (.iload 4, 2) := by decide +kernel
theorem dX0_sumOf_19 : decode cX0_sumOf 19 = .ok (.invokevirtual 80, 3) := by decide +kernel
theorem dX0_sumOf_22 : decode cX0_sumOf 22 = .ok (.istore 5, 2) := by decide +kernel
theorem dX0_sumOf_24 : decode cX0_sumOf 24 = .ok (.aload_n 0, 1) := by decide +kernel
theorem dX0_sumOf_25 : decode cX0_sumOf 25 = .ok (.iload_n 2, 1) := by decide +kernel
theorem dX0_sumOf_26 : decode cX0_sumOf 26 = .ok (.iload 4, 2) := by decide +kernel
theorem dX0_sumOf_28 : decode cX0_sumOf 28 = .ok (.iconst 1, 1) := by decide +kernel
theorem dX0_sumOf_29 : decode cX0_sumOf 29 = .ok (.iadd, 1) := by decide +kernel
theorem dX0_sumOf_30 : decode cX0_sumOf 30 = .ok (.iload_n 3, 1) := by decide +kernel
theorem dX0_sumOf_31 : decode cX0_sumOf 31 = .ok (.iload 5, 2) := by decide +kernel
theorem dX0_sumOf_33 : decode cX0_sumOf 33 = .ok (.invokevirtual 73, 3) := by decide +kernel
theorem dX0_sumOf_36 : decode cX0_sumOf 36 = .ok (.istore_n 2, 1) := by decide +kernel
theorem dX0_sumOf_37 : decode cX0_sumOf 37 = .ok (.iload 5, 2) := by decide +kernel
theorem dX0_sumOf_39 : decode cX0_sumOf 39 = .ok (.istore_n 3, 1) := by decide +kernel
theorem dX0_sumOf_40 : decode cX0_sumOf 40 = .ok (.iinc 4 1, 3) := by decide +kernel
theorem dX0_sumOf_43 : decode cX0_sumOf 43 = .ok (.goto (-36), 3) := by decide +kernel
theorem dX0_sumOf_46 : decode cX0_sumOf 46 = .ok (.iload_n 2, 1) := by decide +kernel
theorem dX0_sumOf_47 : decode cX0_sumOf 47 = .ok (.ireturn, 1) := by decide +kernel
theorem dX0_holds_0 : decode cX0_holds 0 = .ok (.aload_n 1, 1) := by decide +kernel
theorem dX0_holds_1 : decode cX0_holds 1 = .ok (.getfield 79, 3) := by decide +kernel
theorem dX0_holds_4 : decode cX0_holds 4 = .ok (.aload_n 0, 1) := by decide +kernel
theorem dX0_holds_5 : decode cX0_holds 5 = .ok (.getfield 35, 3) := by decide +kernel
theorem dX0_holds_8 : decode cX0_holds 8 = .ok (.if_icmp .ne 15, 3) := by decide +kernel
theorem dX0_holds_11 : decode cX0_holds 11 = .ok (.aload_n 0, 1) := by decide +kernel
theorem dX0_holds_12 : decode cX0_holds 12 = .ok (.aload_n 1, 1) := by decide +kernel
theorem dX0_holds_13 : decode cX0_holds 13 = .ok (.invokevirtual 84, 3) := by decide +kernel
theorem dX0_holds_16 : decode cX0_holds 16 = .ok (.aload_n 0, 1) := by decide +kernel
theorem dX0_holds_17 : decode cX0_holds 17 = .ok (.getfield 38, 3) := by decide +kernel
theorem dX0_holds_20 : decode cX0_holds 20 = .ok (.if_icmp .eq 5, 3) := by decide +kernel
theorem dX0_holds_23 : decode cX0_holds 23 = .ok (.iconst 0, 1) := by decide +kernel
theorem dX0_holds_24 : decode cX0_holds 24 = .ok (.ireturn, 1) := by decide +kernel
theorem dX0_holds_25 : decode cX0_holds 25 = .ok (.iconst 0, 1) := by decide +kernel
theorem dX0_holds_26 : decode cX0_holds 26 = .ok (.istore_n 2, 1) := by decide +kernel
theorem dX0_holds_27 : decode cX0_holds 27 = .ok (.iconst 0, 1) := by decide +kernel
theorem dX0_holds_28 : decode cX0_holds 28 = .ok (.istore_n 3, 1) := by decide +kernel
theorem dX0_holds_29 : decode cX0_holds 29 = .ok (.iload_n 3, 1) := by decide +kernel
theorem dX0_holds_30 : decode cX0_holds 30 = .ok (.aload_n 0, 1) := by decide +kernel
theorem dX0_holds_31 : decode cX0_holds 31 = .ok (.getfield 35, 3) := by decide +kernel
theorem dX0_holds_34 : decode cX0_holds 34 = .ok (.if_icmp .ge 17, 3) := by decide +kernel
theorem dX0_holds_37 : decode cX0_holds 37 = .ok (.iload_n 2, 1) := by decide +kernel
theorem dX0_holds_38 : decode cX0_holds 38 = .ok (.aload_n 1, 1) := by decide +kernel
theorem dX0_holds_39 : decode cX0_holds 39 = .ok (.iload_n 3, 1) := by decide +kernel
theorem dX0_holds_40 : decode cX0_holds 40 = .ok (.invokevirtual 80, 3) := by decide +kernel
theorem dX0_holds_43 : decode cX0_holds 43 = .ok (.iadd, 1) := by decide +kernel
theorem dX0_holds_44 : decode cX0_holds 44 = .ok (.istore_n 2, 1) := by decide +kernel
theorem dX0_holds_45 : decode cX0_holds 45 = .ok (.iinc 3 1, 3) := by decide +kernel
theorem dX0_holds_48 : decode cX0_holds 48 = .ok (.goto (-19), 3) := by decide +kernel
theorem dX0_holds_51 : decode cX0_holds 51 = .ok (.iload_n 2, 1) := by decide +kernel
theorem dX0_holds_52 : decode cX0_holds 52 = .ok (.aload_n 0, 1) := by decide +kernel
theorem dX0_holds_53 : decode cX0_holds 53 = .ok (.getfield 32, 3) := by decide +kernel
theorem dX0_holds_56 : decode cX0_holds 56 = .ok (.irem, 1) := by decide +kernel
theorem dX0_holds_57 : decode cX0_holds 57 = .ok (.aload_n 0, 1) := by decide +kernel
theorem dX0_holds_58 : decode cX0_holds 58 = .ok (.getfield 41, 3) := by decide +kernel
theorem dX0_holds_61 : decode cX0_holds 61 = .ok (.if_icmp .ne 7, 3) := by decide +kernel
theorem dX0_holds_64 : decode cX0_holds 64 = .ok (.iconst 1, 1) := by decide +kernel
theorem dX0_holds_65 : decode cX0_holds 65 = .ok (.goto 4, 3) := by decide +kernel
theorem dX0_holds_68 : decode cX0_holds 68 = .ok (.iconst 0, 1) := by decide +kernel
theorem dX0_holds_69 : decode cX0_holds 69 = .ok (.ireturn, 1) := by decide +kernel
theorem dX0_write_0 : decode cX0_write 0 = .ok (.iload_n 1, 1) := by decide +kernel
theorem dX0_write_1 : decode cX0_write 1 = .ok (.istore_n 3, 1) := by decide +kernel
theorem dX0_write_2 : decode cX0_write 2 = .ok (.iconst 0, 1) := by decide +kernel
theorem dX0_write_3 : decode cX0_write 3 = .ok (.istore 4, 2) := by decide +kernel
theorem dX0_write_5 : decode cX0_write 5 = .ok (.iconst 0, 1) := by decide +kernel
theorem dX0_write_6 : decode cX0_write 6 = .ok (.istore 5, 2) := by decide +kernel
theorem dX0_write_8 : decode cX0_write 8 = .ok (.iconst 0, 1) := by decide +kernel
theorem dX0_write_9 : decode cX0_write 9 = .ok (.istore 6, 2) := by decide +kernel
theorem dX0_write_11 : decode cX0_write 11 = .ok (.aload_n 2, 1) := by decide +kernel
theorem dX0_write_12 : decode cX0_write 12 = .ok (.invokevirtual 88, 3) := by decide +kernel
theorem dX0_write_15 : decode cX0_write 15 = .ok (.iconst 1, 1) := by decide +kernel
theorem dX0_write_16 : decode cX0_write 16 = .ok (.istore 7, 2) := by decide +kernel
theorem dX0_write_18 : decode cX0_write 18 = .ok (.iload 7, 2) := by decide +kernel
theorem dX0_write_20 : decode cX0_write 20 = .ok (.aload_n 0, 1) := by decide +kernel
theorem dX0_write_21 : decode cX0_write 21 = .ok (.getfield 35, 3) := by decide +kernel
theorem dX0_write_24 : decode cX0_write 24 = .ok (.if_icmp .gt 132, 3) := by decide +kernel
theorem dX0_write_27 : decode cX0_write 27 = .ok (.iconst 0, 1) := by decide +kernel
theorem dX0_write_28 : decode cX0_write 28 = .ok (.istore 8, 2) := by decide +kernel
theorem dX0_write_30 : decode cX0_write 30 = .ok (.aload_n 0, 1) := by decide +kernel
theorem dX0_write_31 : decode cX0_write 31 = .ok (.iload 7, 2) := by decide +kernel
theorem dX0_write_33 : decode cX0_write 33 = .ok (.iload 8, 2) := by decide +kernel
theorem dX0_write_35 : decode cX0_write 35 = .ok (.aload_n 0, 1) := by decide +kernel
theorem dX0_write_36 : decode cX0_write 36 = .ok (.iload 5, 2) := by decide +kernel
theorem dX0_write_38 : decode cX0_write 38 = .ok (.iload 7, 2) := by decide +kernel
theorem dX0_write_40 : decode cX0_write 40 = .ok (.iload 4, 2) := by decide +kernel
theorem dX0_write_42 : decode cX0_write 42 = .ok (.iload 8, 2) := by decide +kernel
theorem dX0_write_44 : decode cX0_write 44 = .ok (.invokevirtual 73, 3) := by decide +kernel
theorem dX0_write_47 : decode cX0_write 47 = .ok (.iload 6, 2) := by decide +kernel
theorem dX0_write_49 : decode cX0_write 49 = .ok (.invokevirtual 76, 3) := by decide +kernel
theorem dX0_write_52 : decode cX0_write 52 = .ok (.istore 9, 2) := by decide +kernel
theorem dX0_write_54 : decode cX0_write 54 = .ok (.iload 8, 2) := by decide +kernel
theorem dX0_write_56 : decode cX0_write 56 = .ok (.aload_n 0, 1) := by decide +kernel
theorem dX0_write_57 : decode cX0_write 57 = .ok (.getfield 25, 3) := by decide +kernel
theorem dX0_write_60 : decode cX0_write 60 = .ok (.iconst 1, 1) := by decide +kernel
theorem dX0_write_61 : decode cX0_write 61 = .ok (.isub, 1) := by decide +kernel
theorem dX0_write_62 : decode cX0_write 62 = .ok (.if_icmp .ge 52, 3) := by decide +kernel
theorem dX0_write_65 : decode cX0_write 65 = .ok (.iload_n 3, 1) := by decide +kernel
theorem dX0_write_66 : decode cX0_write 66 = .ok (.iload 9, 2) := by decide +kernel
theorem dX0_write_68 : decode cX0_write 68 = .ok (.if_icmp .lt 46, 3) := by decide +kernel
theorem dX0_write_71 : decode cX0_write 71 = .ok (.iload_n 3, 1) := by decide +kernel
theorem dX0_write_72 : decode cX0_write 72 = .ok (.iload 9, 2) := by decide +kernel
theorem dX0_write_74 : decode cX0_write 74 = .ok (.isub, 1) := by decide +kernel
theorem dX0_write_75 : decode cX0_write 75 = .ok (.istore_n 3, 1) := by decide +kernel
theorem dX0_write_76 : decode cX0_write 76 = .ok (.iinc 8 1, 3) := by decide +kernel
theorem dX0_write_79 : decode cX0_write 79 = .ok (.aload_n 0, 1) := by decide +kernel
theorem dX0_write_80 : decode cX0_write 80 = .ok (.iload 7, 2) := by decide +kernel
theorem dX0_write_82 : decode cX0_write 82 = .ok (.iload 8, 2) := by decide +kernel
theorem dX0_write_84 : decode cX0_write 84 = .ok (.aload_n 0, 1) := by decide +kernel
theorem dX0_write_85 : decode cX0_write 85 = .ok (.iload 5, 2) := by decide +kernel
theorem dX0_write_87 : decode cX0_write 87 = .ok (.iload 7, 2) := by decide +kernel
theorem dX0_write_89 : decode cX0_write 89 = .ok (.iload 4, 2) := by decide +kernel
theorem dX0_write_91 : decode cX0_write 91 = .ok (.iload 8, 2) := by decide +kernel
theorem dX0_write_93 : decode cX0_write 93 = .ok (.invokevirtual 73, 3) := by decide +kernel
theorem dX0_write_96 : decode cX0_write 96 = .ok (.iload 6, 2) := by decide +kernel
theorem dX0_write_98 : decode cX0_write 98 = .ok (.iload 8, 2) := by decide +kernel
theorem dX0_write_100 : decode cX0_write 100 = .ok (.iadd, 1) := by decide +kernel
theorem dX0_write_101 : decode cX0_write 101 = .ok (.aload_n 0, 1) := by decide +kernel
theorem dX0_write_102 : decode cX0_write 102 = .ok (.getfield 32, 3) := by decide +kernel
theorem dX0_write_105 : decode cX0_write 105 = .ok (.irem, 1) := by decide +kernel
theorem dX0_write_106 : decode cX0_write 106 = .ok (.invokevirtual 76, 3) := by decide +kernel
theorem dX0_write_109 : decode cX0_write 109 = .ok (.istore 9, 2) := by decide +kernel
theorem dX0_write_111 : decode cX0_write 111 = .ok (.goto (-57), 3) := by decide +kernel
theorem dX0_write_114 : decode cX0_write 114 = .ok (.aload_n 2, 1) := by decide +kernel
theorem dX0_write_115 : decode cX0_write 115 = .ok (.iload 8, 2) := by decide +kernel
theorem dX0_write_117 : decode cX0_write 117 = .ok (.invokevirtual 91, 3) := by decide +kernel
theorem dX0_write_120 : decode cX0_write 120 = .ok (.aload_n 0, 1) := by decide +kernel
theorem dX0_write_121 : decode cX0_write 121 = .ok (.iload 5, 2) := by decide +kernel
theorem dX0_write_123 : decode cX0_write 123 = .ok (.iload 7, 2) := by decide +kernel
theorem dX0_write_125 : decode cX0_write 125 = .ok (.iload 4, 2) := by decide +kernel
theorem dX0_write_127 : decode cX0_write 127 = .ok (.iload 8, 2) := by decide +kernel
theorem dX0_write_129 : decode cX0_write 129 = .ok (.invokevirtual 73, 3) := by decide +kernel
theorem dX0_write_132 : decode cX0_write 132 = .ok (.istore 5, 2) := by decide +kernel
theorem dX0_write_134 : decode cX0_write 134 = .ok (.iload 6, 2) := by decide +kernel
theorem dX0_write_136 : decode cX0_write 136 = .ok (.iload 8, 2) := by decide +kernel
theorem dX0_write_138 : decode cX0_write 138 = .ok (.iadd, 1) := by decide +kernel
theorem dX0_write_139 : decode cX0_write 139 = .ok (.aload_n 0, 1) := by decide +kernel
theorem dX0_write_140 : decode cX0_write 140 = .ok (.getfield 32, 3) := by decide +kernel
theorem dX0_write_143 : decode cX0_write 143 = .ok (.irem, 1) := by decide +kernel
theorem dX0_write_144 : decode cX0_write 144 = .ok (.istore 6, 2) := by decide +kernel
theorem dX0_write_146 : decode cX0_write 146 = .ok (.iload 8, 2) := by decide +kernel
theorem dX0_write_148 : decode cX0_write 148 = .ok (.istore 4, 2) := by decide +kernel
theorem dX0_write_150 : decode cX0_write 150 = .ok (.iinc 7 1, 3) := by decide +kernel
theorem dX0_write_153 : decode cX0_write 153 = .ok (.goto (-135), 3) := by decide +kernel
theorem dX0_write_156 : decode cX0_write 156 = .ok (.return_, 1) := by decide +kernel
theorem dX0_neighbours_0 : decode cX0_neighbours 0 = .ok (.aload_n 1, 1) := by decide +kernel
theorem dX0_neighbours_1 : decode cX0_neighbours 1 = .ok (.getfield 79, 3) := by decide +kernel
theorem dX0_neighbours_4 : decode cX0_neighbours 4 = .ok (.aload_n 0, 1) := by decide +kernel
theorem dX0_neighbours_5 : decode cX0_neighbours 5 = .ok (.getfield 35, 3) := by decide +kernel
theorem dX0_neighbours_8 : decode cX0_neighbours 8 = .ok (.if_icmp .ne 9, 3) := by decide +kernel
theorem dX0_neighbours_11 : decode cX0_neighbours 11 = .ok (.aload_n 0, 1) := by decide +kernel
theorem dX0_neighbours_12 : decode cX0_neighbours 12 = .ok (.aload_n 1, 1) := by decide +kernel
theorem dX0_neighbours_13 : decode cX0_neighbours 13 = .ok (.invokevirtual 95, 3) := by decide +kernel
theorem dX0_neighbours_16 : decode cX0_neighbours 16 = .ok (.ireturn, 1) := by decide +kernel
theorem dX0_neighbours_17 : decode cX0_neighbours 17 = .ok (.aload_n 1, 1) := by decide +kernel
theorem dX0_neighbours_18 : decode cX0_neighbours 18 = .ok (.getfield 79, 3) := by decide +kernel
theorem dX0_neighbours_21 : decode cX0_neighbours 21 = .ok (.aload_n 0, 1) := by decide +kernel
theorem dX0_neighbours_22 : decode cX0_neighbours 22 = .ok (.getfield 35, 3) := by decide +kernel
theorem dX0_neighbours_25 : decode cX0_neighbours 25 = .ok (.iconst 1, 1) := by decide +kernel
theorem dX0_neighbours_26 : decode cX0_neighbours 26 = .ok (.iadd, 1) := by decide +kernel
theorem dX0_neighbours_27 : decode cX0_neighbours 27 = .ok (.if_icmp .ne 9, 3) := by decide +kernel
theorem dX0_neighbours_30 : decode cX0_neighbours 30 = .ok (.aload_n 0, 1) := by decide +kernel
theorem dX0_neighbours_31 : decode cX0_neighbours 31 = .ok (.aload_n 1, 1) := by decide +kernel
theorem dX0_neighbours_32 : decode cX0_neighbours 32 = .ok (.invokevirtual 98, 3) := by decide +kernel
theorem dX0_neighbours_35 : decode cX0_neighbours 35 = .ok (.ireturn, 1) := by decide +kernel
theorem dX0_neighbours_36 : decode cX0_neighbours 36 = .ok (.aload_n 1, 1) := by decide +kernel
theorem dX0_neighbours_37 : decode cX0_neighbours 37 = .ok (.getfield 79, 3) := by decide +kernel
theorem dX0_neighbours_40 : decode cX0_neighbours 40 = .ok (.aload_n 0, 1) := by decide +kernel
theorem dX0_neighbours_41 : decode cX0_neighbours 41 = .ok (.getfield 35, 3) := by decide +kernel
theorem dX0_neighbours_44 : decode cX0_neighbours 44 = .ok (.iconst 1, 1) := by decide +kernel
theorem dX0_neighbours_45 : decode cX0_neighbours 45 = .ok (.isub, 1) := by decide +kernel
theorem dX0_neighbours_46 : decode cX0_neighbours 46 = .ok (.if_icmp .ne 11, 3) := by decide +kernel
theorem dX0_neighbours_49 : decode cX0_neighbours 49 = .ok (.aload_n 0, 1) := by decide +kernel
theorem dX0_neighbours_50 : decode cX0_neighbours 50 = .ok (.aload_n 1, 1) := by decide +kernel
theorem dX0_neighbours_51 : decode cX0_neighbours 51 = .ok (.invokevirtual 101, 3) := by decide +kernel
theorem dX0_neighbours_54 : decode cX0_neighbours 54 = .ok (.goto 4, 3) := by decide +kernel
theorem dX0_neighbours_57 : decode cX0_neighbours 57 = .ok (.iconst 0, 1) := by decide +kernel
theorem dX0_neighbours_58 : decode cX0_neighbours 58 = .ok (.ireturn, 1) := by decide +kernel
theorem dX0_neighboursByTurn_0 : decode cX0_neighboursByTurn 0 = .ok (.iconst 0, 1) := by decide +kernel
theorem dX0_neighboursByTurn_1 : decode cX0_neighboursByTurn 1 = .ok (.istore_n 2, 1) := by decide +kernel
theorem dX0_neighboursByTurn_2 : decode cX0_neighboursByTurn 2 = .ok (.iconst 0, 1) := by decide +kernel
theorem dX0_neighboursByTurn_3 : decode cX0_neighboursByTurn 3 = .ok (.istore_n 3, 1) := by decide +kernel
theorem dX0_neighboursByTurn_4 : decode cX0_neighboursByTurn 4 = .ok (.iload_n 3, 1) := by decide +kernel
theorem dX0_neighboursByTurn_5 : decode cX0_neighboursByTurn 5 = .ok (.aload_n 1, 1) := by decide +kernel
theorem dX0_neighboursByTurn_6 : decode cX0_neighboursByTurn 6 = .ok (.getfield 79, 3) := by decide +kernel
theorem dX0_neighboursByTurn_9 : decode cX0_neighboursByTurn 9 = .ok (.if_icmp .ge 62, 3) := by decide +kernel
theorem dX0_neighboursByTurn_12 : decode cX0_neighboursByTurn 12 = .ok (.iconst 0, 1) := by decide +kernel
theorem dX0_neighboursByTurn_13 : decode cX0_neighboursByTurn 13 = .ok (.istore 4, 2) := by decide +kernel
theorem dX0_neighboursByTurn_15 : decode cX0_neighboursByTurn 15 = .ok (.iload 4, 2) := by decide +kernel
theorem dX0_neighboursByTurn_17 : decode cX0_neighboursByTurn 17 = .ok (.aload_n 0, 1) := by decide +kernel
theorem dX0_neighboursByTurn_18 : decode cX0_neighboursByTurn 18 = .ok (.getfield 25, 3) := by decide +kernel
theorem dX0_neighboursByTurn_21 : decode cX0_neighboursByTurn 21 = .ok (.if_icmp .ge 44, 3) := by decide +kernel
theorem dX0_neighboursByTurn_24 : decode cX0_neighboursByTurn 24 = .ok (.iload 4, 2) := by decide +kernel
theorem dX0_neighboursByTurn_26 : decode cX0_neighboursByTurn 26 = .ok (.aload_n 1, 1) := by decide +kernel
theorem dX0_neighboursByTurn_27 : decode cX0_neighboursByTurn 27 = .ok (.iload_n 3, 1) := by decide +kernel
theorem dX0_neighboursByTurn_28 : decode cX0_neighboursByTurn 28 = .ok (.invokevirtual 80, 3) := by decide +kernel
theorem dX0_neighboursByTurn_31 : decode cX0_neighboursByTurn 31 = .ok (.if_icmp .eq 28, 3) := by decide +kernel
theorem dX0_neighboursByTurn_34 : decode cX0_neighboursByTurn 34 = .ok (.aload_n 0, 1) := by decide +kernel
theorem dX0_neighboursByTurn_35 : decode cX0_neighboursByTurn 35 = .ok (.getfield 12, 3) := by decide +kernel
theorem dX0_neighboursByTurn_38 : decode cX0_neighboursByTurn 38 = .ok (.aload_n 1, 1) := by decide +kernel
theorem dX0_neighboursByTurn_39 : decode cX0_neighboursByTurn 39 = .ok (.invokevirtual 104, 3) := by decide +kernel
theorem dX0_neighboursByTurn_42 : decode cX0_neighboursByTurn 42 = .ok (.aload_n 0, 1) := by decide +kernel
theorem dX0_neighboursByTurn_43 : decode cX0_neighboursByTurn 43 = .ok (.getfield 12, 3) := by decide +kernel
theorem dX0_neighboursByTurn_46 : decode cX0_neighboursByTurn 46 = .ok (.iload_n 3, 1) := by decide +kernel
theorem dX0_neighboursByTurn_47 : decode cX0_neighboursByTurn 47 = .ok (.iload 4, 2) := by decide +kernel
theorem dX0_neighboursByTurn_49 : decode cX0_neighboursByTurn 49 = .ok (.invokevirtual 108, 3) := by decide +kernel
theorem dX0_neighboursByTurn_52 : decode cX0_neighboursByTurn 52 = .ok (.iload_n 2, 1) := by decide +kernel
theorem dX0_neighboursByTurn_53 : decode cX0_neighboursByTurn 53 = .ok (.aload_n 0, 1) := by decide +kernel
theorem dX0_neighboursByTurn_54 : decode cX0_neighboursByTurn 54 = .ok (.invokevirtual 111, 3) := by decide +kernel
theorem dX0_neighboursByTurn_57 : decode cX0_neighboursByTurn 57 = .ok (.iadd, 1) := by decide +kernel
theorem dX0_neighboursByTurn_58 : decode cX0_neighboursByTurn 58 = .ok (.istore_n 2, 1) := by decide +kernel
theorem dX0_neighboursByTurn_59 : decode cX0_neighboursByTurn 59 = .ok (.iinc 4 1, 3) := by decide +kernel
theorem dX0_neighboursByTurn_62 : decode cX0_neighboursByTurn 62 = .ok (.goto (-47), 3) := by decide +kernel
theorem dX0_neighboursByTurn_65 : decode cX0_neighboursByTurn 65 = .ok (.iinc 3 1, 3) := by decide +kernel
theorem dX0_neighboursByTurn_68 : decode cX0_neighboursByTurn 68 = .ok (.goto (-64), 3) := by decide +kernel
theorem dX0_neighboursByTurn_71 : decode cX0_neighboursByTurn 71 = .ok (.iload_n 2, 1) := by decide +kernel
theorem dX0_neighboursByTurn_72 : decode cX0_neighboursByTurn 72 = .ok (.ireturn, 1) := by decide +kernel
theorem dX0_neighboursByGain_0 : decode cX0_neighboursByGain 0 = .ok (.iconst 0, 1) := by decide +kernel
theorem dX0_neighboursByGain_1 : decode cX0_neighboursByGain 1 = .ok (.istore_n 2, 1) := by decide +kernel
theorem dX0_neighboursByGain_2 : decode cX0_neighboursByGain 2 = .ok (.iconst 0, 1) := by decide +kernel
theorem dX0_neighboursByGain_3 : decode cX0_neighboursByGain 3 = .ok (.istore_n 3, 1) := by decide +kernel
theorem dX0_neighboursByGain_4 : decode cX0_neighboursByGain 4 = .ok (.iload_n 3, 1) := by decide +kernel
theorem dX0_neighboursByGain_5 : decode cX0_neighboursByGain 5 = .ok (.aload_n 1, 1) := by decide +kernel
theorem dX0_neighboursByGain_6 : decode cX0_neighboursByGain 6 = .ok (.getfield 79, 3) := by decide +kernel
theorem dX0_neighboursByGain_9 : decode cX0_neighboursByGain 9 = .ok (.if_icmp .ge 51, 3) := by decide +kernel
theorem dX0_neighboursByGain_12 : decode cX0_neighboursByGain 12 = .ok (.iload_n 3, 1) := by decide +kernel
theorem dX0_neighboursByGain_13 : decode cX0_neighboursByGain 13 = .ok (.ifCond .eq 18, 3) := by decide +kernel
theorem dX0_neighboursByGain_16 : decode cX0_neighboursByGain 16 = .ok (.aload_n 1, 1) := by decide +kernel
theorem dX0_neighboursByGain_17 : decode cX0_neighboursByGain 17 = .ok (.iload_n 3, 1) := by decide +kernel
theorem dX0_neighboursByGain_18 : decode cX0_neighboursByGain 18 = .ok (.invokevirtual 80, 3) := by decide +kernel
theorem dX0_neighboursByGain_21 : decode cX0_neighboursByGain 21 = .ok (.aload_n 1, 1) := by decide +kernel
theorem dX0_neighboursByGain_22 : decode cX0_neighboursByGain 22 = .ok (.iload_n 3, 1) := by decide +kernel
theorem dX0_neighboursByGain_23 : decode cX0_neighboursByGain 23 = .ok (.iconst 1, 1) := by decide +kernel
theorem dX0_neighboursByGain_24 : decode cX0_neighboursByGain 24 = .ok (.isub, 1) := by decide +kernel
theorem dX0_neighboursByGain_25 : decode cX0_neighboursByGain 25 = .ok (.invokevirtual 80, 3) := by decide +kernel
theorem dX0_neighboursByGain_28 : decode cX0_neighboursByGain 28 = .ok (.if_icmp .eq 26, 3) := by decide +kernel
theorem dX0_neighboursByGain_31 : decode cX0_neighboursByGain 31 = .ok (.aload_n 0, 1) := by decide +kernel
theorem dX0_neighboursByGain_32 : decode cX0_neighboursByGain 32 = .ok (.getfield 12, 3) := by decide +kernel
theorem dX0_neighboursByGain_35 : decode cX0_neighboursByGain 35 = .ok (.aload_n 1, 1) := by decide +kernel
theorem dX0_neighboursByGain_36 : decode cX0_neighboursByGain 36 = .ok (.invokevirtual 104, 3) := by decide +kernel
theorem dX0_neighboursByGain_39 : decode cX0_neighboursByGain 39 = .ok (.aload_n 0, 1) := by decide +kernel
theorem dX0_neighboursByGain_40 : decode cX0_neighboursByGain 40 = .ok (.getfield 12, 3) := by decide +kernel
theorem dX0_neighboursByGain_43 : decode cX0_neighboursByGain 43 = .ok (.iload_n 3, 1) := by decide +kernel
theorem dX0_neighboursByGain_44 : decode cX0_neighboursByGain 44 = .ok (.invokevirtual 115, 3) := by decide +kernel
theorem dX0_neighboursByGain_47 : decode cX0_neighboursByGain 47 = .ok (.iload_n 2, 1) := by decide +kernel
theorem dX0_neighboursByGain_48 : decode cX0_neighboursByGain 48 = .ok (.aload_n 0, 1) := by decide +kernel
theorem dX0_neighboursByGain_49 : decode cX0_neighboursByGain 49 = .ok (.invokevirtual 111, 3) := by decide +kernel
theorem dX0_neighboursByGain_52 : decode cX0_neighboursByGain 52 = .ok (.iadd, 1) := by decide +kernel
theorem dX0_neighboursByGain_53 : decode cX0_neighboursByGain 53 = .ok (.istore_n 2, 1) := by decide +kernel
theorem dX0_neighboursByGain_54 : decode cX0_neighboursByGain 54 = .ok (.iinc 3 1, 3) := by decide +kernel
theorem dX0_neighboursByGain_57 : decode cX0_neighboursByGain 57 = .ok (.goto (-53), 3) := by decide +kernel
theorem dX0_neighboursByGain_60 : decode cX0_neighboursByGain 60 = .ok (.iload_n 2, 1) := by decide +kernel
theorem dX0_neighboursByGain_61 : decode cX0_neighboursByGain 61 = .ok (.ireturn, 1) := by decide +kernel
theorem dX0_neighboursByLoss_0 : decode cX0_neighboursByLoss 0 = .ok (.iconst 0, 1) := by decide +kernel
theorem dX0_neighboursByLoss_1 : decode cX0_neighboursByLoss 1 = .ok (.istore_n 2, 1) := by decide +kernel
theorem dX0_neighboursByLoss_2 : decode cX0_neighboursByLoss 2 = .ok (.iconst 0, 1) := by decide +kernel
theorem dX0_neighboursByLoss_3 : decode cX0_neighboursByLoss 3 = .ok (.istore_n 3, 1) := by decide +kernel
theorem dX0_neighboursByLoss_4 : decode cX0_neighboursByLoss 4 = .ok (.iload_n 3, 1) := by decide +kernel
theorem dX0_neighboursByLoss_5 : decode cX0_neighboursByLoss 5 = .ok (.aload_n 1, 1) := by decide +kernel
theorem dX0_neighboursByLoss_6 : decode cX0_neighboursByLoss 6 = .ok (.getfield 79, 3) := by decide +kernel
theorem dX0_neighboursByLoss_9 : decode cX0_neighboursByLoss 9 = .ok (.if_icmp .gt 70, 3) := by decide +kernel
theorem dX0_neighboursByLoss_12 : decode cX0_neighboursByLoss 12 = .ok (.iconst 0, 1) := by decide +kernel
theorem dX0_neighboursByLoss_13 : decode cX0_neighboursByLoss 13 = .ok (.istore 4, 2) := by decide +kernel
theorem dX0_neighboursByLoss_15 : decode cX0_neighboursByLoss 15 = .ok (.iload 4, 2) := by decide +kernel
theorem dX0_neighboursByLoss_17 : decode cX0_neighboursByLoss 17 = .ok (.aload_n 0, 1) := by decide +kernel
theorem dX0_neighboursByLoss_18 : decode cX0_neighboursByLoss 18 = .ok (.getfield 25, 3) := by decide +kernel
theorem dX0_neighboursByLoss_21 : decode cX0_neighboursByLoss 21 = .ok (.if_icmp .ge 52, 3) := by decide +kernel
theorem dX0_neighboursByLoss_24 : decode cX0_neighboursByLoss 24 = .ok (.iload_n 3, 1) := by decide +kernel
theorem dX0_neighboursByLoss_25 : decode cX0_neighboursByLoss 25 = .ok (.aload_n 1, 1) := by decide +kernel
theorem dX0_neighboursByLoss_26 : decode cX0_neighboursByLoss 26 = .ok (.getfield 79, 3) := by decide +kernel
theorem dX0_neighboursByLoss_29 : decode cX0_neighboursByLoss 29 = .ok (.if_icmp .eq 13, 3) := by decide +kernel
theorem dX0_neighboursByLoss_32 : decode cX0_neighboursByLoss 32 = .ok (.iload 4, 2) := by decide +kernel
theorem dX0_neighboursByLoss_34 : decode cX0_neighboursByLoss 34 = .ok (.aload_n 1, 1) := by decide +kernel
theorem dX0_neighboursByLoss_35 : decode cX0_neighboursByLoss 35 = .ok (.iload_n 3, 1) := by decide +kernel
theorem dX0_neighboursByLoss_36 : decode cX0_neighboursByLoss 36 = .ok (.invokevirtual 80, 3) := by decide +kernel
theorem dX0_neighboursByLoss_39 : decode cX0_neighboursByLoss 39 = .ok (.if_icmp .eq 28, 3) := by decide +kernel
theorem dX0_neighboursByLoss_42 : decode cX0_neighboursByLoss 42 = .ok (.aload_n 0, 1) := by decide +kernel
theorem dX0_neighboursByLoss_43 : decode cX0_neighboursByLoss 43 = .ok (.getfield 12, 3) := by decide +kernel
theorem dX0_neighboursByLoss_46 : decode cX0_neighboursByLoss 46 = .ok (.aload_n 1, 1) := by decide +kernel
theorem dX0_neighboursByLoss_47 : decode cX0_neighboursByLoss 47 = .ok (.invokevirtual 104, 3) := by decide +kernel
theorem dX0_neighboursByLoss_50 : decode cX0_neighboursByLoss 50 = .ok (.aload_n 0, 1) := by decide +kernel
theorem dX0_neighboursByLoss_51 : decode cX0_neighboursByLoss 51 = .ok (.getfield 12, 3) := by decide +kernel
theorem dX0_neighboursByLoss_54 : decode cX0_neighboursByLoss 54 = .ok (.iload_n 3, 1) := by decide +kernel
theorem dX0_neighboursByLoss_55 : decode cX0_neighboursByLoss 55 = .ok (.iload 4, 2) := by decide +kernel
theorem dX0_neighboursByLoss_57 : decode cX0_neighboursByLoss 57 = .ok (.invokevirtual 118, 3) := by decide +kernel
theorem dX0_neighboursByLoss_60 : decode cX0_neighboursByLoss 60 = .ok (.iload_n 2, 1) := by decide +kernel
theorem dX0_neighboursByLoss_61 : decode cX0_neighboursByLoss 61 = .ok (.aload_n 0, 1) := by decide +kernel
theorem dX0_neighboursByLoss_62 : decode cX0_neighboursByLoss 62 = .ok (.invokevirtual 111, 3) := by decide +kernel
theorem dX0_neighboursByLoss_65 : decode cX0_neighboursByLoss 65 = .ok (.iadd, 1) := by decide +kernel
theorem dX0_neighboursByLoss_66 : decode cX0_neighboursByLoss 66 = .ok (.istore_n 2, 1) := by decide +kernel
theorem dX0_neighboursByLoss_67 : decode cX0_neighboursByLoss 67 = .ok (.iinc 4 1, 3) := by decide +kernel
theorem dX0_neighboursByLoss_70 : decode cX0_neighboursByLoss 70 = .ok (.goto (-55), 3) := by decide +kernel
theorem dX0_neighboursByLoss_73 : decode cX0_neighboursByLoss 73 = .ok (.iinc 3 1, 3) := by decide +kernel
theorem dX0_neighboursByLoss_76 : decode cX0_neighboursByLoss 76 = .ok (.goto (-72), 3) := by decide +kernel
theorem dX0_neighboursByLoss_79 : decode cX0_neighboursByLoss 79 = .ok (.iload_n 2, 1) := by decide +kernel
theorem dX0_neighboursByLoss_80 : decode cX0_neighboursByLoss 80 = .ok (.ireturn, 1) := by decide +kernel
theorem dX0_take_0 : decode cX0_take 0 = .ok (.aload_n 0, 1) := by decide +kernel
theorem dX0_take_1 : decode cX0_take 1 = .ok (.aload_n 0, 1) := by decide +kernel
theorem dX0_take_2 : decode cX0_take 2 = .ok (.getfield 12, 3) := by decide +kernel
theorem dX0_take_5 : decode cX0_take 5 = .ok (.invokevirtual 121, 3) := by decide +kernel
theorem dX0_take_8 : decode cX0_take 8 = .ok (.ifCond .ne 5, 3) := by decide +kernel
theorem dX0_take_11 : decode cX0_take 11 = .ok (.iconst 0, 1) := by decide +kernel
theorem dX0_take_12 : decode cX0_take 12 = .ok (.ireturn, 1) := by decide +kernel
theorem dX0_take_13 : decode cX0_take 13 = .ok (.aload_n 0, 1) := by decide +kernel
theorem dX0_take_14 : decode cX0_take 14 = .ok (.getfield 18, 3) := by decide +kernel
theorem dX0_take_17 : decode cX0_take 17 = .ok (.aload_n 0, 1) := by decide +kernel
theorem dX0_take_18 : decode cX0_take 18 = .ok (.getfield 12, 3) := by decide +kernel
theorem dX0_take_21 : decode cX0_take 21 = .ok (.invokevirtual 104, 3) := by decide +kernel
theorem dX0_take_24 : decode cX0_take 24 = .ok (.iconst 1, 1) := by decide +kernel
theorem dX0_take_25 : decode cX0_take 25 = .ok (.ireturn, 1) := by decide +kernel
theorem dX1_init_0 : decode cX1_init 0 = .ok (.aload_n 0, 1) := by decide +kernel
theorem dX1_init_1 : decode cX1_init 1 = .ok (.invokespecial 1, 3) := by decide +kernel
theorem dX1_init_4 : decode cX1_init 4 = .ok (.aload_n 0, 1) := by decide +kernel
theorem dX1_init_5 : decode cX1_init 5 = .ok (.new 7, 3) := by decide +kernel
theorem dX1_init_8 : decode cX1_init 8 = .ok (.dup, 1) := by decide +kernel
theorem dX1_init_9 : decode cX1_init 9 = .ok (.invokespecial 9, 3) := by decide +kernel
theorem dX1_init_12 : decode cX1_init 12 = .ok (.putfield 10, 3) := by decide +kernel
theorem dX1_init_15 : decode cX1_init 15 = .ok (.aload_n 0, 1) := by decide +kernel
theorem dX1_init_16 : decode cX1_init 16 = .ok (.lconst 1, 1) := by decide +kernel
theorem dX1_init_17 : decode cX1_init 17 = .ok (.putfield 16, 3) := by decide +kernel
theorem dX1_init_20 : decode cX1_init 20 = .ok (.return_, 1) := by decide +kernel
theorem dX1_tell_0 : decode cX1_tell 0 = .ok (.aload_n 0, 1) := by decide +kernel
theorem dX1_tell_1 : decode cX1_tell 1 = .ok (.iload_n 1, 1) := by decide +kernel
theorem dX1_tell_2 : decode cX1_tell 2 = .ok (.putfield 20, 3) := by decide +kernel
theorem dX1_tell_5 : decode cX1_tell 5 = .ok (.aload_n 0, 1) := by decide +kernel
theorem dX1_tell_6 : decode cX1_tell 6 = .ok (.iload_n 1, 1) := by decide +kernel
theorem dX1_tell_7 : decode cX1_tell 7 = .ok (.iload_n 2, 1) := by decide +kernel
theorem dX1_tell_8 : decode cX1_tell 8 = .ok (.iadd, 1) := by decide +kernel
theorem dX1_tell_9 : decode cX1_tell 9 = .ok (.putfield 24, 3) := by decide +kernel
theorem dX1_tell_12 : decode cX1_tell 12 = .ok (.aload_n 0, 1) := by decide +kernel
theorem dX1_tell_13 : decode cX1_tell 13 = .ok (.iload_n 1, 1) := by decide +kernel
theorem dX1_tell_14 : decode cX1_tell 14 = .ok (.iload_n 2, 1) := by decide +kernel
theorem dX1_tell_15 : decode cX1_tell 15 = .ok (.iadd, 1) := by decide +kernel
theorem dX1_tell_16 : decode cX1_tell 16 = .ok (.iload_n 3, 1) := by decide +kernel
theorem dX1_tell_17 : decode cX1_tell 17 = .ok (.iadd, 1) := by decide +kernel
theorem dX1_tell_18 : decode cX1_tell 18 = .ok (.putfield 27, 3) := by decide +kernel
theorem dX1_tell_21 : decode cX1_tell 21 = .ok (.return_, 1) := by decide +kernel
theorem dX1_carry_0 : decode cX1_carry 0 = .ok (.aload_n 0, 1) := by decide +kernel
theorem dX1_carry_1 : decode cX1_carry 1 = .ok (.getfield 16, 3) := by decide +kernel
theorem dX1_carry_4 : decode cX1_carry 4 = .ok (.lstore_n 3, 1) := by decide +kernel
theorem dX1_carry_5 : decode cX1_carry 5 = .ok (.aload_n 0, 1) := by decide +kernel
theorem dX1_carry_6 : decode cX1_carry 6 = .ok (.getfield 10, 3) := by decide +kernel
theorem dX1_carry_9 : decode cX1_carry 9 = .ok (.invokevirtual 30, 3) := by decide +kernel
theorem dX1_carry_12 : decode cX1_carry 12 = .ok (.iconst 0, 1) := by decide +kernel
theorem dX1_carry_13 : decode cX1_carry 13 = .ok (.istore 5, 2) := by decide +kernel
theorem dX1_carry_15 : decode cX1_carry 15 = .ok (.iload 5, 2) := by decide +kernel
theorem dX1_carry_17 : decode cX1_carry 17 = .ok (.aload_n 1, 1) := by decide +kernel
theorem dX1_carry_18 : decode cX1_carry 18 = .ok (.getfield 33, 3) := by decide +kernel
theorem dX1_carry_21 : decode cX1_carry 21 = .ok (.if_icmp .ge 44, 3) := by decide +kernel
theorem dX1_carry_24 : decode cX1_carry 24 = .ok (.lload_n 3, 1) := by decide +kernel
theorem dX1_carry_25 : decode cX1_carry 25 = .ok (.ldc2_w 36, 3) := by decide +kernel
theorem dX1_carry_28 : decode cX1_carry 28 = .ok (.lmul, 1) := by decide +kernel
theorem dX1_carry_29 : decode cX1_carry 29 = .ok (.ldc2_w 38, 3) := by decide +kernel
theorem dX1_carry_32 : decode cX1_carry 32 = .ok (.ladd, 1) := by decide +kernel
theorem dX1_carry_33 : decode cX1_carry 33 = .ok (.ldc2_w 40, 3) := by decide +kernel
theorem dX1_carry_36 : decode cX1_carry 36 = .ok (.land, 1) := by decide +kernel
theorem dX1_carry_37 : decode cX1_carry 37 = .ok (.lstore_n 3, 1) := by decide +kernel
theorem dX1_carry_38 : decode cX1_carry 38 = .ok (.aload_n 0, 1) := by decide +kernel
theorem dX1_carry_39 : decode cX1_carry 39 = .ok (.aload_n 1, 1) := by decide +kernel
theorem dX1_carry_40 : decode cX1_carry 40 = .ok (.iload 5, 2) := by decide +kernel
theorem dX1_carry_42 : decode cX1_carry 42 = .ok (.invokevirtual 42, 3) := by decide +kernel
theorem dX1_carry_45 : decode cX1_carry 45 = .ok (.lload_n 3, 1) := by decide +kernel
theorem dX1_carry_46 : decode cX1_carry 46 = .ok (.bipush 42, 2) := by decide +kernel
theorem dX1_carry_48 : decode cX1_carry 48 = .ok (.lushr, 1) := by decide +kernel
theorem dX1_carry_49 : decode cX1_carry 49 = .ok (.l2i, 1) := by decide +kernel
theorem dX1_carry_50 : decode cX1_carry 50 = .ok (.iload_n 2, 1) := by decide +kernel
theorem dX1_carry_51 : decode cX1_carry 51 = .ok (.invokevirtual 46, 3) := by decide +kernel
theorem dX1_carry_54 : decode cX1_carry 54 = .ok (.ifCond .ne 5, 3) := by decide +kernel
theorem dX1_carry_57 : decode cX1_carry 57 = .ok (.iconst 0, 1) := by decide +kernel
theorem dX1_carry_58 : decode cX1_carry 58 = .ok (.ireturn, 1) := by decide +kernel
theorem dX1_carry_59 : decode cX1_carry 59 = .ok (.iinc 5 1, 3) := by decide +kernel
theorem dX1_carry_62 : decode cX1_carry 62 = .ok (.goto (-47), 3) := by decide +kernel
theorem dX1_carry_65 : decode cX1_carry 65 = .ok (.aload_n 0, 1) := by decide +kernel
theorem dX1_carry_66 : decode cX1_carry 66 = .ok (.lload_n 3, 1) := by decide +kernel
theorem dX1_carry_67 : decode cX1_carry 67 = .ok (.putfield 16, 3) := by decide +kernel
theorem dX1_carry_70 : decode cX1_carry 70 = .ok (.iconst 1, 1) := by decide +kernel
theorem dX1_carry_71 : decode cX1_carry 71 = .ok (.ireturn, 1) := by decide +kernel
theorem dX1_carryLetter_0 : decode cX1_carryLetter 0 = .ok (.iload_n 2, 1) := by decide +kernel
theorem dX1_carryLetter_1 : decode cX1_carryLetter 1 = .ok (.aload_n 0, 1) := by decide +kernel
theorem dX1_carryLetter_2 : decode cX1_carryLetter 2 = .ok (.getfield 20, 3) := by decide +kernel
theorem dX1_carryLetter_5 : decode cX1_carryLetter 5 = .ok (.if_icmp .ge 5, 3) := by decide +kernel
theorem dX1_carryLetter_8 : decode cX1_carryLetter 8 = .ok (.iconst 1, 1) := by decide +kernel
theorem dX1_carryLetter_9 : decode cX1_carryLetter 9 = .ok (.ireturn, 1) := by decide +kernel
theorem dX1_carryLetter_10 : decode cX1_carryLetter 10 = .ok (.iload_n 2, 1) := by decide +kernel
theorem dX1_carryLetter_11 : decode cX1_carryLetter 11 = .ok (.aload_n 0, 1) := by decide +kernel
theorem dX1_carryLetter_12 : decode cX1_carryLetter 12 = .ok (.getfield 24, 3) := by decide +kernel
theorem dX1_carryLetter_15 : decode cX1_carryLetter 15 = .ok (.if_icmp .ge 27, 3) := by decide +kernel
theorem dX1_carryLetter_18 : decode cX1_carryLetter 18 = .ok (.aload_n 0, 1) := by decide +kernel
theorem dX1_carryLetter_19 : decode cX1_carryLetter 19 = .ok (.iload_n 2, 1) := by decide +kernel
theorem dX1_carryLetter_20 : decode cX1_carryLetter 20 = .ok (.iload_n 3, 1) := by decide +kernel
theorem dX1_carryLetter_21 : decode cX1_carryLetter 21 = .ok (.irem, 1) := by decide +kernel
theorem dX1_carryLetter_22 : decode cX1_carryLetter 22 = .ok (.invokevirtual 50, 3) := by decide +kernel
theorem dX1_carryLetter_25 : decode cX1_carryLetter 25 = .ok (.ifCond .eq 15, 3) := by decide +kernel
theorem dX1_carryLetter_28 : decode cX1_carryLetter 28 = .ok (.aload_n 0, 1) := by decide +kernel
theorem dX1_carryLetter_29 : decode cX1_carryLetter 29 = .ok (.iload_n 1, 1) := by decide +kernel
theorem dX1_carryLetter_30 : decode cX1_carryLetter 30 = .ok (.invokevirtual 50, 3) := by decide +kernel
theorem dX1_carryLetter_33 : decode cX1_carryLetter 33 = .ok (.ifCond .eq 7, 3) := by decide +kernel
theorem dX1_carryLetter_36 : decode cX1_carryLetter 36 = .ok (.iconst 1, 1) := by decide +kernel
theorem dX1_carryLetter_37 : decode cX1_carryLetter 37 = .ok (.goto 4, 3) := by decide +kernel
theorem dX1_carryLetter_40 : decode cX1_carryLetter 40 = .ok (.iconst 0, 1) := by decide +kernel
theorem dX1_carryLetter_41 : decode cX1_carryLetter 41 = .ok (.ireturn, 1) := by decide +kernel
theorem dX1_carryLetter_42 : decode cX1_carryLetter 42 = .ok (.aload_n 0, 1) := by decide +kernel
theorem dX1_carryLetter_43 : decode cX1_carryLetter 43 = .ok (.iload_n 2, 1) := by decide +kernel
theorem dX1_carryLetter_44 : decode cX1_carryLetter 44 = .ok (.aload_n 0, 1) := by decide +kernel
theorem dX1_carryLetter_45 : decode cX1_carryLetter 45 = .ok (.getfield 27, 3) := by decide +kernel
theorem dX1_carryLetter_48 : decode cX1_carryLetter 48 = .ok (.if_icmp .ge 17, 3) := by decide +kernel
theorem dX1_carryLetter_51 : decode cX1_carryLetter 51 = .ok (.iload_n 1, 1) := by decide +kernel
theorem dX1_carryLetter_52 : decode cX1_carryLetter 52 = .ok (.iload_n 2, 1) := by decide +kernel
theorem dX1_carryLetter_53 : decode cX1_carryLetter 53 = .ok (.iload_n 3, 1) := by decide +kernel
theorem dX1_carryLetter_54 : decode cX1_carryLetter 54 = .ok (.iconst 1, 1) := by decide +kernel
theorem dX1_carryLetter_55 : decode cX1_carryLetter 55 = .ok (.isub, 1) := by decide +kernel
theorem dX1_carryLetter_56 : decode cX1_carryLetter 56 = .ok (.irem, 1) := by decide +kernel
theorem dX1_carryLetter_57 : decode cX1_carryLetter 57 = .ok (.iadd, 1) := by decide +kernel
theorem dX1_carryLetter_58 : decode cX1_carryLetter 58 = .ok (.iconst 1, 1) := by decide +kernel
theorem dX1_carryLetter_59 : decode cX1_carryLetter 59 = .ok (.iadd, 1) := by decide +kernel
theorem dX1_carryLetter_60 : decode cX1_carryLetter 60 = .ok (.iload_n 3, 1) := by decide +kernel
theorem dX1_carryLetter_61 : decode cX1_carryLetter 61 = .ok (.irem, 1) := by decide +kernel
theorem dX1_carryLetter_62 : decode cX1_carryLetter 62 = .ok (.goto 4, 3) := by decide +kernel
theorem dX1_carryLetter_65 : decode cX1_carryLetter 65 = .ok (.iload_n 1, 1) := by decide +kernel
theorem dX1_carryLetter_66 : decode cX1_carryLetter 66 = .ok (.invokevirtual 50, 3) := by decide +kernel
theorem dX1_carryLetter_69 : decode cX1_carryLetter 69 = .ok (.ireturn, 1) := by decide +kernel
theorem dX1_takeUp_0 : decode cX1_takeUp 0 = .ok (.aload_n 0, 1) := by decide +kernel
theorem dX1_takeUp_1 : decode cX1_takeUp 1 = .ok (.getfield 10, 3) := by decide +kernel
theorem dX1_takeUp_4 : decode cX1_takeUp 4 = .ok (.invokevirtual 54, 3) := by decide +kernel
theorem dX1_takeUp_7 : decode cX1_takeUp 7 = .ok (.ifCond .eq 5, 3) := by decide +kernel
theorem dX1_takeUp_10 : decode cX1_takeUp 10 = .ok (.iconst 0, 1) := by decide +kernel
theorem dX1_takeUp_11 : decode cX1_takeUp 11 = .ok (.ireturn, 1) := by decide +kernel
theorem dX1_takeUp_12 : decode cX1_takeUp 12 = .ok (.aload_n 0, 1) := by decide +kernel
theorem dX1_takeUp_13 : decode cX1_takeUp 13 = .ok (.getfield 10, 3) := by decide +kernel
theorem dX1_takeUp_16 : decode cX1_takeUp 16 = .ok (.iload_n 1, 1) := by decide +kernel
theorem dX1_takeUp_17 : decode cX1_takeUp 17 = .ok (.invokevirtual 58, 3) := by decide +kernel
theorem dX1_takeUp_20 : decode cX1_takeUp 20 = .ok (.iconst 1, 1) := by decide +kernel
theorem dX1_takeUp_21 : decode cX1_takeUp 21 = .ok (.ireturn, 1) := by decide +kernel
theorem dX2_init_0 : decode cX2_init 0 = .ok (.aload_n 0, 1) := by decide +kernel
theorem dX2_init_1 : decode cX2_init 1 = .ok (.invokespecial 3, 3) := by decide +kernel
theorem dX2_init_4 : decode cX2_init 4 = .ok (.aload_n 0, 1) := by decide +kernel
theorem dX2_init_5 : decode cX2_init 5 = .ok (.sipush 625, 3) := by decide +kernel
theorem dX2_init_8 : decode cX2_init 8 = .ok (.newarray .int, 2) := by decide +kernel
theorem dX2_init_10 : decode cX2_init 10 = .ok (.putfield 11, 3) := by decide +kernel
theorem dX2_init_13 : decode cX2_init 13 = .ok (.aload_n 0, 1) := by decide +kernel
theorem dX2_init_14 : decode cX2_init 14 = .ok (.sipush 625, 3) := by decide +kernel
theorem dX2_init_17 : decode cX2_init 17 = .ok (.newarray .long, 2) := by decide +kernel
theorem dX2_init_19 : decode cX2_init 19 = .ok (.putfield 15, 3) := by decide +kernel
theorem dX2_init_22 : decode cX2_init 22 = .ok (.aload_n 0, 1) := by decide +kernel
theorem dX2_init_23 : decode cX2_init 23 = .ok (.new 19, 3) := by decide +kernel
theorem dX2_init_26 : decode cX2_init 26 = .ok (.dup, 1) := by decide +kernel
theorem dX2_init_27 : decode cX2_init 27 = .ok (.invokespecial 21, 3) := by decide +kernel
theorem dX2_init_30 : decode cX2_init 30 = .ok (.putfield 22, 3) := by decide +kernel
theorem dX2_init_33 : decode cX2_init 33 = .ok (.return_, 1) := by decide +kernel
theorem dX2_cell_0 : decode cX2_cell 0 = .ok (.iload_n 0, 1) := by decide +kernel
theorem dX2_cell_1 : decode cX2_cell 1 = .ok (.bipush 25, 2) := by decide +kernel
theorem dX2_cell_3 : decode cX2_cell 3 = .ok (.imul, 1) := by decide +kernel
theorem dX2_cell_4 : decode cX2_cell 4 = .ok (.iload_n 1, 1) := by decide +kernel
theorem dX2_cell_5 : decode cX2_cell 5 = .ok (.iadd, 1) := by decide +kernel
theorem dX2_cell_6 : decode cX2_cell 6 = .ok (.ireturn, 1) := by decide +kernel
theorem dX2_longest_0 : decode cX2_longest 0 = .ok (.aload_n 1, 1) := by decide +kernel
theorem dX2_longest_1 : decode cX2_longest 1 = .ok (.getfield 26, 3) := by decide +kernel
theorem dX2_longest_4 : decode cX2_longest 4 = .ok (.istore_n 3, 1) := by decide +kernel
theorem dX2_longest_5 : decode cX2_longest 5 = .ok (.iload_n 3, 1) := by decide +kernel
theorem dX2_longest_6 : decode cX2_longest 6 = .ok (.ifCond .lt 46, 3) := by decide +kernel
theorem dX2_longest_9 : decode cX2_longest 9 = .ok (.aload_n 2, 1) := by decide +kernel
theorem dX2_longest_10 : decode cX2_longest 10 = .ok (.getfield 26, 3) := by decide +kernel
theorem dX2_longest_13 : decode cX2_longest 13 = .ok (.istore 4, 2) := by decide +kernel
theorem dX2_longest_15 : decode cX2_longest 15 = .ok (.iload 4, 2) := by decide +kernel
theorem dX2_longest_17 : decode cX2_longest 17 = .ok (.ifCond .lt 29, 3) := by decide +kernel
theorem dX2_longest_20 : decode cX2_longest 20 = .ok (.aload_n 0, 1) := by decide +kernel
theorem dX2_longest_21 : decode cX2_longest 21 = .ok (.getfield 11, 3) := by decide +kernel
theorem dX2_longest_24 : decode cX2_longest 24 = .ok (.iload_n 3, 1) := by decide +kernel
theorem dX2_longest_25 : decode cX2_longest 25 = .ok (.iload 4, 2) := by decide +kernel
theorem dX2_longest_27 : decode cX2_longest 27 = .ok (.invokestatic 30, 3) := by decide +kernel
theorem dX2_longest_30 : decode cX2_longest 30 = .ok (.aload_n 0, 1) := by decide +kernel
theorem dX2_longest_31 : decode cX2_longest 31 = .ok (.aload_n 1, 1) := by decide +kernel
theorem dX2_longest_32 : decode cX2_longest 32 = .ok (.iload_n 3, 1) := by decide +kernel
theorem dX2_longest_33 : decode cX2_longest 33 = .ok (.aload_n 2, 1) := by decide +kernel
theorem dX2_longest_34 : decode cX2_longest 34 = .ok (.iload 4, 2) := by decide +kernel
theorem dX2_longest_36 : decode cX2_longest 36 = .ok (.invokevirtual 34, 3) := by decide +kernel
theorem dX2_longest_39 : decode cX2_longest 39 = .ok (.iastore, 1) := by decide +kernel
theorem dX2_longest_40 : decode cX2_longest 40 = .ok (.iinc 4 (-1), 3) := by decide +kernel
theorem dX2_longest_43 : decode cX2_longest 43 = .ok (.goto (-28), 3) := by decide +kernel
theorem dX2_longest_46 : decode cX2_longest 46 = .ok (.iinc 3 (-1), 3) := by decide +kernel
theorem dX2_longest_49 : decode cX2_longest 49 = .ok (.goto (-44), 3) := by decide +kernel
theorem dX2_longest_52 : decode cX2_longest 52 = .ok (.aload_n 0, 1) := by decide +kernel
theorem dX2_longest_53 : decode cX2_longest 53 = .ok (.getfield 11, 3) := by decide +kernel
theorem dX2_longest_56 : decode cX2_longest 56 = .ok (.iconst 0, 1) := by decide +kernel
theorem dX2_longest_57 : decode cX2_longest 57 = .ok (.iaload, 1) := by decide +kernel
theorem dX2_longest_58 : decode cX2_longest 58 = .ok (.ireturn, 1) := by decide +kernel
theorem dX2_longestFrom_0 : decode cX2_longestFrom 0 = .ok (.iload_n 2, 1) := by decide +kernel
theorem dX2_longestFrom_1 : decode cX2_longestFrom 1 = .ok (.aload_n 1, 1) := by decide +kernel
theorem dX2_longestFrom_2 : decode cX2_longestFrom 2 = .ok (.getfield 26, 3) := by decide +kernel
theorem dX2_longestFrom_5 : decode cX2_longestFrom 5 = .ok (.if_icmp .ge 12, 3) := by decide +kernel
theorem dX2_longestFrom_8 : decode cX2_longestFrom 8 = .ok (.iload 4, 2) := by decide +kernel
theorem dX2_longestFrom_10 : decode cX2_longestFrom 10 = .ok (.aload_n 3, 1) := by decide +kernel
theorem dX2_longestFrom_11 : decode cX2_longestFrom 11 = .ok (.getfield 26, 3) := by decide +kernel
theorem dX2_longestFrom_14 : decode cX2_longestFrom 14 = .ok (.if_icmp .lt 5, 3) := by decide +kernel
theorem dX2_longestFrom_17 : decode cX2_longestFrom 17 = .ok (.iconst 0, 1) := by decide +kernel
theorem dX2_longestFrom_18 : decode cX2_longestFrom 18 = .ok (.ireturn, 1) := by decide +kernel
theorem dX2_longestFrom_19 : decode cX2_longestFrom 19 = .ok (.aload_n 1, 1) := by decide +kernel
theorem dX2_longestFrom_20 : decode cX2_longestFrom 20 = .ok (.iload_n 2, 1) := by decide +kernel
theorem dX2_longestFrom_21 : decode cX2_longestFrom 21 = .ok (.invokevirtual 38, 3) := by decide +kernel
theorem dX2_longestFrom_24 : decode cX2_longestFrom 24 = .ok (.aload_n 3, 1) := by decide +kernel
theorem dX2_longestFrom_25 : decode cX2_longestFrom 25 = .ok (.iload 4, 2) := by decide +kernel
theorem dX2_longestFrom_27 : decode cX2_longestFrom 27 = .ok (.invokevirtual 38, 3) := by decide +kernel
theorem dX2_longestFrom_30 : decode cX2_longestFrom 30 = .ok (.if_icmp .ne 21, 3) := by decide +kernel
theorem dX2_longestFrom_33 : decode cX2_longestFrom 33 = .ok (.aload_n 0, 1) := by decide +kernel
theorem dX2_longestFrom_34 : decode cX2_longestFrom 34 = .ok (.getfield 11, 3) := by decide +kernel
theorem dX2_longestFrom_37 : decode cX2_longestFrom 37 = .ok (.iload_n 2, 1) := by decide +kernel
theorem dX2_longestFrom_38 : decode cX2_longestFrom 38 = .ok (.iconst 1, 1) := by decide +kernel
theorem dX2_longestFrom_39 : decode cX2_longestFrom 39 = .ok (.iadd, 1) := by decide +kernel
theorem dX2_longestFrom_40 : decode cX2_longestFrom 40 = .ok (.iload 4, 2) := by decide +kernel
theorem dX2_longestFrom_42 : decode cX2_longestFrom 42 = .ok (.iconst 1, 1) := by decide +kernel
theorem dX2_longestFrom_43 : decode cX2_longestFrom 43 = .ok (.iadd, 1) := by decide +kernel
theorem dX2_longestFrom_44 : decode cX2_longestFrom 44 = .ok (.invokestatic 30, 3) := by decide +kernel
theorem dX2_longestFrom_47 : decode cX2_longestFrom 47 = .ok (.iaload, 1) := by decide +kernel
theorem dX2_longestFrom_48 : decode cX2_longestFrom 48 = .ok (.iconst 1, 1) := by decide +kernel
theorem dX2_longestFrom_49 : decode cX2_longestFrom 49 = .ok (.iadd, 1) := by decide +kernel
theorem dX2_longestFrom_50 : decode cX2_longestFrom 50 = .ok (.ireturn, 1) := by decide +kernel
theorem dX2_longestFrom_51 : decode cX2_longestFrom 51 = .ok (.aload_n 0, 1) := by decide +kernel
theorem dX2_longestFrom_52 : decode cX2_longestFrom 52 = .ok (.getfield 11, 3) := by decide +kernel
theorem dX2_longestFrom_55 : decode cX2_longestFrom 55 = .ok (.iload_n 2, 1) := by decide +kernel
theorem dX2_longestFrom_56 : decode cX2_longestFrom 56 = .ok (.iconst 1, 1) := by decide +kernel
theorem dX2_longestFrom_57 : decode cX2_longestFrom 57 = .ok (.iadd, 1) := by decide +kernel
theorem dX2_longestFrom_58 : decode cX2_longestFrom 58 = .ok (.iload 4, 2) := by decide +kernel
theorem dX2_longestFrom_60 : decode cX2_longestFrom 60 = .ok (.invokestatic 30, 3) := by decide +kernel
theorem dX2_longestFrom_63 : decode cX2_longestFrom 63 = .ok (.iaload, 1) := by decide +kernel
theorem dX2_longestFrom_64 : decode cX2_longestFrom 64 = .ok (.aload_n 0, 1) := by decide +kernel
theorem dX2_longestFrom_65 : decode cX2_longestFrom 65 = .ok (.getfield 11, 3) := by decide +kernel
theorem dX2_longestFrom_68 : decode cX2_longestFrom 68 = .ok (.iload_n 2, 1) := by decide +kernel
theorem dX2_longestFrom_69 : decode cX2_longestFrom 69 = .ok (.iload 4, 2) := by decide +kernel
theorem dX2_longestFrom_71 : decode cX2_longestFrom 71 = .ok (.iconst 1, 1) := by decide +kernel
theorem dX2_longestFrom_72 : decode cX2_longestFrom 72 = .ok (.iadd, 1) := by decide +kernel
theorem dX2_longestFrom_73 : decode cX2_longestFrom 73 = .ok (.invokestatic 30, 3) := by decide +kernel
theorem dX2_longestFrom_76 : decode cX2_longestFrom 76 = .ok (.iaload, 1) := by decide +kernel
theorem dX2_longestFrom_77 : decode cX2_longestFrom 77 = .ok (.invokestatic 42, 3) := by decide +kernel
theorem dX2_longestFrom_80 : decode cX2_longestFrom 80 = .ok (.ireturn, 1) := by decide +kernel
theorem dX2_goesOn_0 : decode cX2_goesOn 0 = .ok (.iload_n 2, 1) := by decide +kernel
theorem dX2_goesOn_1 : decode cX2_goesOn 1 = .ok (.aload_n 1, 1) := by decide +kernel
theorem dX2_goesOn_2 : decode cX2_goesOn 2 = .ok (.getfield 26, 3) := by decide +kernel
theorem dX2_goesOn_5 : decode cX2_goesOn 5 = .ok (.if_icmp .ge 38, 3) := by decide +kernel
theorem dX2_goesOn_8 : decode cX2_goesOn 8 = .ok (.iload 4, 2) := by decide +kernel
theorem dX2_goesOn_10 : decode cX2_goesOn 10 = .ok (.aload_n 3, 1) := by decide +kernel
theorem dX2_goesOn_11 : decode cX2_goesOn 11 = .ok (.getfield 26, 3) := by decide +kernel
theorem dX2_goesOn_14 : decode cX2_goesOn 14 = .ok (.if_icmp .ge 29, 3) := by decide +kernel
theorem dX2_goesOn_17 : decode cX2_goesOn 17 = .ok (.aload_n 0, 1) := by decide +kernel
theorem dX2_goesOn_18 : decode cX2_goesOn 18 = .ok (.getfield 11, 3) := by decide +kernel
theorem dX2_goesOn_21 : decode cX2_goesOn 21 = .ok (.iload_n 2, 1) := by decide +kernel
theorem dX2_goesOn_22 : decode cX2_goesOn 22 = .ok (.iconst 1, 1) := by decide +kernel
theorem dX2_goesOn_23 : decode cX2_goesOn 23 = .ok (.iadd, 1) := by decide +kernel
theorem dX2_goesOn_24 : decode cX2_goesOn 24 = .ok (.iload 4, 2) := by decide +kernel
theorem dX2_goesOn_26 : decode cX2_goesOn 26 = .ok (.iconst 1, 1) := by decide +kernel
theorem dX2_goesOn_27 : decode cX2_goesOn 27 = .ok (.iadd, 1) := by decide +kernel
theorem dX2_goesOn_28 : decode cX2_goesOn 28 = .ok (.invokestatic 30, 3) := by decide +kernel
theorem dX2_goesOn_31 : decode cX2_goesOn 31 = .ok (.iaload, 1) := by decide +kernel
theorem dX2_goesOn_32 : decode cX2_goesOn 32 = .ok (.iconst 1, 1) := by decide +kernel
theorem dX2_goesOn_33 : decode cX2_goesOn 33 = .ok (.iadd, 1) := by decide +kernel
theorem dX2_goesOn_34 : decode cX2_goesOn 34 = .ok (.iload 5, 2) := by decide +kernel
theorem dX2_goesOn_36 : decode cX2_goesOn 36 = .ok (.if_icmp .ne 7, 3) := by decide +kernel
theorem dX2_goesOn_39 : decode cX2_goesOn 39 = .ok (.iconst 1, 1) := by decide +kernel
theorem dX2_goesOn_40 : decode cX2_goesOn 40 = .ok (.goto 4, 3) := by decide +kernel
theorem dX2_goesOn_43 : decode cX2_goesOn 43 = .ok (.iconst 0, 1) := by decide +kernel
theorem dX2_goesOn_44 : decode cX2_goesOn 44 = .ok (.ireturn, 1) := by decide +kernel
theorem dX2_firstLongest_0 : decode cX2_firstLongest 0 = .ok (.aload_n 0, 1) := by decide +kernel
theorem dX2_firstLongest_1 : decode cX2_firstLongest 1 = .ok (.getfield 22, 3) := by decide +kernel
theorem dX2_firstLongest_4 : decode cX2_firstLongest 4 = .ok (.invokevirtual 47, 3) := by decide +kernel
theorem dX2_firstLongest_7 : decode cX2_firstLongest 7 = .ok (.iconst 0, 1) := by decide +kernel
theorem dX2_firstLongest_8 : decode cX2_firstLongest 8 = .ok (.istore 4, 2) := by decide +kernel
theorem dX2_firstLongest_10 : decode cX2_firstLongest 10 = .ok (.iconst 0, 1) := by decide +kernel
theorem dX2_firstLongest_11 : decode cX2_firstLongest 11 = .ok (.istore 5, 2) := by decide +kernel
theorem dX2_firstLongest_13 : decode cX2_firstLongest 13 = .ok (.aload_n 0, 1) := by decide +kernel
theorem dX2_firstLongest_14 : decode cX2_firstLongest 14 = .ok (.getfield 11, 3) := by decide +kernel
theorem dX2_firstLongest_17 : decode cX2_firstLongest 17 = .ok (.iconst 0, 1) := by decide +kernel
theorem dX2_firstLongest_18 : decode cX2_firstLongest 18 = .ok (.iaload, 1) := by decide +kernel
theorem dX2_firstLongest_19 : decode cX2_firstLongest 19 = .ok (.istore 6, 2) := by decide +kernel
theorem dX2_firstLongest_21 : decode cX2_firstLongest 21 = .ok (.iload 6, 2) := by decide +kernel
theorem dX2_firstLongest_23 : decode cX2_firstLongest 23 = .ok (.ifCond .le 86, 3) := by decide +kernel
theorem dX2_firstLongest_26 : decode cX2_firstLongest 26 = .ok (.iconst 0, 1) := by decide +kernel
theorem dX2_firstLongest_27 : decode cX2_firstLongest 27 = .ok (.istore 7, 2) := by decide +kernel
theorem dX2_firstLongest_29 : decode cX2_firstLongest 29 = .ok (.iload 7, 2) := by decide +kernel
theorem dX2_firstLongest_31 : decode cX2_firstLongest 31 = .ok (.iload_n 3, 1) := by decide +kernel
theorem dX2_firstLongest_32 : decode cX2_firstLongest 32 = .ok (.iconst 1, 1) := by decide +kernel
theorem dX2_firstLongest_33 : decode cX2_firstLongest 33 = .ok (.isub, 1) := by decide +kernel
theorem dX2_firstLongest_34 : decode cX2_firstLongest 34 = .ok (.if_icmp .ge 36, 3) := by decide +kernel
theorem dX2_firstLongest_37 : decode cX2_firstLongest 37 = .ok (.aload_n 0, 1) := by decide +kernel
theorem dX2_firstLongest_38 : decode cX2_firstLongest 38 = .ok (.aload_n 1, 1) := by decide +kernel
theorem dX2_firstLongest_39 : decode cX2_firstLongest 39 = .ok (.aload_n 1, 1) := by decide +kernel
theorem dX2_firstLongest_40 : decode cX2_firstLongest 40 = .ok (.iload 7, 2) := by decide +kernel
theorem dX2_firstLongest_42 : decode cX2_firstLongest 42 = .ok (.iload 4, 2) := by decide +kernel
theorem dX2_firstLongest_44 : decode cX2_firstLongest 44 = .ok (.invokevirtual 50, 3) := by decide +kernel
theorem dX2_firstLongest_47 : decode cX2_firstLongest 47 = .ok (.aload_n 2, 1) := by decide +kernel
theorem dX2_firstLongest_48 : decode cX2_firstLongest 48 = .ok (.aload_n 2, 1) := by decide +kernel
theorem dX2_firstLongest_49 : decode cX2_firstLongest 49 = .ok (.iload 7, 2) := by decide +kernel
theorem dX2_firstLongest_51 : decode cX2_firstLongest 51 = .ok (.iload 5, 2) := by decide +kernel
theorem dX2_firstLongest_53 : decode cX2_firstLongest 53 = .ok (.invokevirtual 50, 3) := by decide +kernel
theorem dX2_firstLongest_56 : decode cX2_firstLongest 56 = .ok (.iload 6, 2) := by decide +kernel
theorem dX2_firstLongest_58 : decode cX2_firstLongest 58 = .ok (.invokevirtual 53, 3) := by decide +kernel
theorem dX2_firstLongest_61 : decode cX2_firstLongest 61 = .ok (.ifCond .ne 9, 3) := by decide +kernel
theorem dX2_firstLongest_64 : decode cX2_firstLongest 64 = .ok (.iinc 7 1, 3) := by decide +kernel
theorem dX2_firstLongest_67 : decode cX2_firstLongest 67 = .ok (.goto (-38), 3) := by decide +kernel
theorem dX2_firstLongest_70 : decode cX2_firstLongest 70 = .ok (.aload_n 0, 1) := by decide +kernel
theorem dX2_firstLongest_71 : decode cX2_firstLongest 71 = .ok (.getfield 22, 3) := by decide +kernel
theorem dX2_firstLongest_74 : decode cX2_firstLongest 74 = .ok (.iload 7, 2) := by decide +kernel
theorem dX2_firstLongest_76 : decode cX2_firstLongest 76 = .ok (.invokevirtual 57, 3) := by decide +kernel
theorem dX2_firstLongest_79 : decode cX2_firstLongest 79 = .ok (.aload_n 1, 1) := by decide +kernel
theorem dX2_firstLongest_80 : decode cX2_firstLongest 80 = .ok (.iload 7, 2) := by decide +kernel
theorem dX2_firstLongest_82 : decode cX2_firstLongest 82 = .ok (.iload 4, 2) := by decide +kernel
theorem dX2_firstLongest_84 : decode cX2_firstLongest 84 = .ok (.invokevirtual 50, 3) := by decide +kernel
theorem dX2_firstLongest_87 : decode cX2_firstLongest 87 = .ok (.iconst 1, 1) := by decide +kernel
theorem dX2_firstLongest_88 : decode cX2_firstLongest 88 = .ok (.iadd, 1) := by decide +kernel
theorem dX2_firstLongest_89 : decode cX2_firstLongest 89 = .ok (.istore 4, 2) := by decide +kernel
theorem dX2_firstLongest_91 : decode cX2_firstLongest 91 = .ok (.aload_n 2, 1) := by decide +kernel
theorem dX2_firstLongest_92 : decode cX2_firstLongest 92 = .ok (.iload 7, 2) := by decide +kernel
theorem dX2_firstLongest_94 : decode cX2_firstLongest 94 = .ok (.iload 5, 2) := by decide +kernel
theorem dX2_firstLongest_96 : decode cX2_firstLongest 96 = .ok (.invokevirtual 50, 3) := by decide +kernel
theorem dX2_firstLongest_99 : decode cX2_firstLongest 99 = .ok (.iconst 1, 1) := by decide +kernel
theorem dX2_firstLongest_100 : decode cX2_firstLongest 100 = .ok (.iadd, 1) := by decide +kernel
theorem dX2_firstLongest_101 : decode cX2_firstLongest 101 = .ok (.istore 5, 2) := by decide +kernel
theorem dX2_firstLongest_103 : decode cX2_firstLongest 103 = .ok (.iinc 6 (-1), 3) := by decide +kernel
theorem dX2_firstLongest_106 : decode cX2_firstLongest 106 = .ok (.goto (-85), 3) := by decide +kernel
theorem dX2_firstLongest_109 : decode cX2_firstLongest 109 = .ok (.aload_n 0, 1) := by decide +kernel
theorem dX2_firstLongest_110 : decode cX2_firstLongest 110 = .ok (.getfield 22, 3) := by decide +kernel
theorem dX2_firstLongest_113 : decode cX2_firstLongest 113 = .ok (.areturn, 1) := by decide +kernel
theorem dX2_howManyLongest_0 : decode cX2_howManyLongest 0 = .ok (.aload_n 1, 1) := by decide +kernel
theorem dX2_howManyLongest_1 : decode cX2_howManyLongest 1 = .ok (.getfield 26, 3) := by decide +kernel
theorem dX2_howManyLongest_4 : decode cX2_howManyLongest 4 = .ok (.istore 4, 2) := by decide +kernel
theorem dX2_howManyLongest_6 : decode cX2_howManyLongest 6 = .ok (.iload 4, 2) := by decide +kernel
theorem dX2_howManyLongest_8 : decode cX2_howManyLongest 8 = .ok (.ifCond .lt 49, 3) := by decide +kernel
theorem dX2_howManyLongest_11 : decode cX2_howManyLongest 11 = .ok (.aload_n 2, 1) := by decide +kernel
theorem dX2_howManyLongest_12 : decode cX2_howManyLongest 12 = .ok (.getfield 26, 3) := by decide +kernel
theorem dX2_howManyLongest_15 : decode cX2_howManyLongest 15 = .ok (.istore 5, 2) := by decide +kernel
theorem dX2_howManyLongest_17 : decode cX2_howManyLongest 17 = .ok (.iload 5, 2) := by decide +kernel
theorem dX2_howManyLongest_19 : decode cX2_howManyLongest 19 = .ok (.ifCond .lt 32, 3) := by decide +kernel
theorem dX2_howManyLongest_22 : decode cX2_howManyLongest 22 = .ok (.aload_n 0, 1) := by decide +kernel
theorem dX2_howManyLongest_23 : decode cX2_howManyLongest 23 = .ok (.getfield 15, 3) := by decide +kernel
theorem dX2_howManyLongest_26 : decode cX2_howManyLongest 26 = .ok (.iload 4, 2) := by decide +kernel
theorem dX2_howManyLongest_28 : decode cX2_howManyLongest 28 = .ok (.iload 5, 2) := by decide +kernel
theorem dX2_howManyLongest_30 : decode cX2_howManyLongest 30 = .ok (.invokestatic 30, 3) := by decide +kernel
theorem dX2_howManyLongest_33 : decode cX2_howManyLongest 33 = .ok (.aload_n 0, 1) := by decide +kernel
theorem dX2_howManyLongest_34 : decode cX2_howManyLongest 34 = .ok (.aload_n 1, 1) := by decide +kernel
theorem dX2_howManyLongest_35 : decode cX2_howManyLongest 35 = .ok (.iload 4, 2) := by decide +kernel
theorem dX2_howManyLongest_37 : decode cX2_howManyLongest 37 = .ok (.aload_n 2, 1) := by decide +kernel
theorem dX2_howManyLongest_38 : decode cX2_howManyLongest 38 = .ok (.iload 5, 2) := by decide +kernel
theorem dX2_howManyLongest_40 : decode cX2_howManyLongest 40 = .ok (.iload_n 3, 1) := by decide +kernel
theorem dX2_howManyLongest_41 : decode cX2_howManyLongest 41 = .ok (.invokevirtual 61, 3) := by decide +kernel
theorem dX2_howManyLongest_44 : decode cX2_howManyLongest 44 = .ok (.lastore, 1) := by decide +kernel
theorem dX2_howManyLongest_45 : decode cX2_howManyLongest 45 = .ok (.iinc 5 (-1), 3) := by decide +kernel
theorem dX2_howManyLongest_48 : decode cX2_howManyLongest 48 = .ok (.goto (-31), 3) := by decide +kernel
theorem dX2_howManyLongest_51 : decode cX2_howManyLongest 51 = .ok (.iinc 4 (-1), 3) := by decide +kernel
theorem dX2_howManyLongest_54 : decode cX2_howManyLongest 54 = .ok (.goto (-48), 3) := by decide +kernel
theorem dX2_howManyLongest_57 : decode cX2_howManyLongest 57 = .ok (.aload_n 0, 1) := by decide +kernel
theorem dX2_howManyLongest_58 : decode cX2_howManyLongest 58 = .ok (.getfield 15, 3) := by decide +kernel
theorem dX2_howManyLongest_61 : decode cX2_howManyLongest 61 = .ok (.iconst 0, 1) := by decide +kernel
theorem dX2_howManyLongest_62 : decode cX2_howManyLongest 62 = .ok (.laload, 1) := by decide +kernel
theorem dX2_howManyLongest_63 : decode cX2_howManyLongest 63 = .ok (.lreturn, 1) := by decide +kernel
theorem dX2_howManyFrom_0 : decode cX2_howManyFrom 0 = .ok (.aload_n 0, 1) := by decide +kernel
theorem dX2_howManyFrom_1 : decode cX2_howManyFrom 1 = .ok (.getfield 11, 3) := by decide +kernel
theorem dX2_howManyFrom_4 : decode cX2_howManyFrom 4 = .ok (.iload_n 2, 1) := by decide +kernel
theorem dX2_howManyFrom_5 : decode cX2_howManyFrom 5 = .ok (.iload 4, 2) := by decide +kernel
theorem dX2_howManyFrom_7 : decode cX2_howManyFrom 7 = .ok (.invokestatic 30, 3) := by decide +kernel
theorem dX2_howManyFrom_10 : decode cX2_howManyFrom 10 = .ok (.iaload, 1) := by decide +kernel
theorem dX2_howManyFrom_11 : decode cX2_howManyFrom 11 = .ok (.istore 6, 2) := by decide +kernel
theorem dX2_howManyFrom_13 : decode cX2_howManyFrom 13 = .ok (.iload 6, 2) := by decide +kernel
theorem dX2_howManyFrom_15 : decode cX2_howManyFrom 15 = .ok (.ifCond .ne 5, 3) := by decide +kernel
theorem dX2_howManyFrom_18 : decode cX2_howManyFrom 18 = .ok (.lconst 1, 1) := by decide +kernel
theorem dX2_howManyFrom_19 : decode cX2_howManyFrom 19 = .ok (.lreturn, 1) := by decide +kernel
theorem dX2_howManyFrom_20 : decode cX2_howManyFrom 20 = .ok (.lconst 0, 1) := by decide +kernel
theorem dX2_howManyFrom_21 : decode cX2_howManyFrom 21 = .ok (.lstore 7, 2) := by decide +kernel
theorem dX2_howManyFrom_23 : decode cX2_howManyFrom 23 = .ok (.iconst 0, 1) := by decide +kernel
theorem dX2_howManyFrom_24 : decode cX2_howManyFrom 24 = .ok (.istore 9, 2) := by decide +kernel
theorem dX2_howManyFrom_26 : decode cX2_howManyFrom 26 = .ok (.iload 9, 2) := by decide +kernel
theorem dX2_howManyFrom_28 : decode cX2_howManyFrom 28 = .ok (.iload 5, 2) := by decide +kernel
theorem dX2_howManyFrom_30 : decode cX2_howManyFrom 30 = .ok (.if_icmp .ge 64, 3) := by decide +kernel
theorem dX2_howManyFrom_33 : decode cX2_howManyFrom 33 = .ok (.aload_n 1, 1) := by decide +kernel
theorem dX2_howManyFrom_34 : decode cX2_howManyFrom 34 = .ok (.iload 9, 2) := by decide +kernel
theorem dX2_howManyFrom_36 : decode cX2_howManyFrom 36 = .ok (.iload_n 2, 1) := by decide +kernel
theorem dX2_howManyFrom_37 : decode cX2_howManyFrom 37 = .ok (.invokevirtual 50, 3) := by decide +kernel
theorem dX2_howManyFrom_40 : decode cX2_howManyFrom 40 = .ok (.istore 10, 2) := by decide +kernel
theorem dX2_howManyFrom_42 : decode cX2_howManyFrom 42 = .ok (.aload_n 3, 1) := by decide +kernel
theorem dX2_howManyFrom_43 : decode cX2_howManyFrom 43 = .ok (.iload 9, 2) := by decide +kernel
theorem dX2_howManyFrom_45 : decode cX2_howManyFrom 45 = .ok (.iload 4, 2) := by decide +kernel
theorem dX2_howManyFrom_47 : decode cX2_howManyFrom 47 = .ok (.invokevirtual 50, 3) := by decide +kernel
theorem dX2_howManyFrom_50 : decode cX2_howManyFrom 50 = .ok (.istore 11, 2) := by decide +kernel
theorem dX2_howManyFrom_52 : decode cX2_howManyFrom 52 = .ok (.aload_n 0, 1) := by decide +kernel
theorem dX2_howManyFrom_53 : decode cX2_howManyFrom 53 = .ok (.aload_n 1, 1) := by decide +kernel
theorem dX2_howManyFrom_54 : decode cX2_howManyFrom 54 = .ok (.iload 10, 2) := by decide +kernel
theorem dX2_howManyFrom_56 : decode cX2_howManyFrom 56 = .ok (.aload_n 3, 1) := by decide +kernel
theorem dX2_howManyFrom_57 : decode cX2_howManyFrom 57 = .ok (.iload 11, 2) := by decide +kernel
theorem dX2_howManyFrom_59 : decode cX2_howManyFrom 59 = .ok (.iload 6, 2) := by decide +kernel
theorem dX2_howManyFrom_61 : decode cX2_howManyFrom 61 = .ok (.invokevirtual 53, 3) := by decide +kernel
theorem dX2_howManyFrom_64 : decode cX2_howManyFrom 64 = .ok (.ifCond .eq 24, 3) := by decide +kernel
theorem dX2_howManyFrom_67 : decode cX2_howManyFrom 67 = .ok (.lload 7, 2) := by decide +kernel
theorem dX2_howManyFrom_69 : decode cX2_howManyFrom 69 = .ok (.aload_n 0, 1) := by decide +kernel
theorem dX2_howManyFrom_70 : decode cX2_howManyFrom 70 = .ok (.getfield 15, 3) := by decide +kernel
theorem dX2_howManyFrom_73 : decode cX2_howManyFrom 73 = .ok (.iload 10, 2) := by decide +kernel
theorem dX2_howManyFrom_75 : decode cX2_howManyFrom 75 = .ok (.iconst 1, 1) := by decide +kernel
theorem dX2_howManyFrom_76 : decode cX2_howManyFrom 76 = .ok (.iadd, 1) := by decide +kernel
theorem dX2_howManyFrom_77 : decode cX2_howManyFrom 77 = .ok (.iload 11, 2) := by decide +kernel
theorem dX2_howManyFrom_79 : decode cX2_howManyFrom 79 = .ok (.iconst 1, 1) := by decide +kernel
theorem dX2_howManyFrom_80 : decode cX2_howManyFrom 80 = .ok (.iadd, 1) := by decide +kernel
theorem dX2_howManyFrom_81 : decode cX2_howManyFrom 81 = .ok (.invokestatic 30, 3) := by decide +kernel
theorem dX2_howManyFrom_84 : decode cX2_howManyFrom 84 = .ok (.laload, 1) := by decide +kernel
theorem dX2_howManyFrom_85 : decode cX2_howManyFrom 85 = .ok (.ladd, 1) := by decide +kernel
theorem dX2_howManyFrom_86 : decode cX2_howManyFrom 86 = .ok (.lstore 7, 2) := by decide +kernel
theorem dX2_howManyFrom_88 : decode cX2_howManyFrom 88 = .ok (.iinc 9 1, 3) := by decide +kernel
theorem dX2_howManyFrom_91 : decode cX2_howManyFrom 91 = .ok (.goto (-65), 3) := by decide +kernel
theorem dX2_howManyFrom_94 : decode cX2_howManyFrom 94 = .ok (.lload 7, 2) := by decide +kernel
theorem dX2_howManyFrom_96 : decode cX2_howManyFrom 96 = .ok (.lreturn, 1) := by decide +kernel
theorem dX2_edits_0 : decode cX2_edits 0 = .ok (.aload_n 1, 1) := by decide +kernel
theorem dX2_edits_1 : decode cX2_edits 1 = .ok (.getfield 26, 3) := by decide +kernel
theorem dX2_edits_4 : decode cX2_edits 4 = .ok (.istore_n 3, 1) := by decide +kernel
theorem dX2_edits_5 : decode cX2_edits 5 = .ok (.iload_n 3, 1) := by decide +kernel
theorem dX2_edits_6 : decode cX2_edits 6 = .ok (.ifCond .lt 46, 3) := by decide +kernel
theorem dX2_edits_9 : decode cX2_edits 9 = .ok (.aload_n 2, 1) := by decide +kernel
theorem dX2_edits_10 : decode cX2_edits 10 = .ok (.getfield 26, 3) := by decide +kernel
theorem dX2_edits_13 : decode cX2_edits 13 = .ok (.istore 4, 2) := by decide +kernel
theorem dX2_edits_15 : decode cX2_edits 15 = .ok (.iload 4, 2) := by decide +kernel
theorem dX2_edits_17 : decode cX2_edits 17 = .ok (.ifCond .lt 29, 3) := by decide +kernel
theorem dX2_edits_20 : decode cX2_edits 20 = .ok (.aload_n 0, 1) := by decide +kernel
theorem dX2_edits_21 : decode cX2_edits 21 = .ok (.getfield 11, 3) := by decide +kernel
end
section
theorem dX2_edits_24 : decode cX2_edits 24 = .ok (.iload_n 3, 1) := by decide +kernel
theorem dX2_edits_25 : decode cX2_edits 25 = .ok (.iload 4, 2) := by decide +kernel
theorem dX2_edits_27 : decode cX2_edits 27 = .ok (.invokestatic 30, 3) := by decide +kernel
theorem dX2_edits_30 : decode cX2_edits 30 = .ok (.aload_n 0, 1) := by decide +kernel
theorem dX2_edits_31 : decode cX2_edits 31 = .ok (.aload_n 1, 1) := by decide +kernel
theorem dX2_edits_32 : decode cX2_edits 32 = .ok (.iload_n 3, 1) := by decide +kernel
theorem dX2_edits_33 : decode cX2_edits 33 = .ok (.aload_n 2, 1) := by decide +kernel
theorem dX2_edits_34 : decode cX2_edits 34 = .ok (.iload 4, 2) := by decide +kernel
theorem dX2_edits_36 : decode cX2_edits 36 = .ok (.invokevirtual 65, 3) := by decide +kernel
theorem dX2_edits_39 : decode cX2_edits 39 = .ok (.iastore, 1) := by decide +kernel
theorem dX2_edits_40 : decode cX2_edits 40 = .ok (.iinc 4 (-1), 3) := by decide +kernel
theorem dX2_edits_43 : decode cX2_edits 43 = .ok (.goto (-28), 3) := by decide +kernel
theorem dX2_edits_46 : decode cX2_edits 46 = .ok (.iinc 3 (-1), 3) := by decide +kernel
theorem dX2_edits_49 : decode cX2_edits 49 = .ok (.goto (-44), 3) := by decide +kernel
theorem dX2_edits_52 : decode cX2_edits 52 = .ok (.aload_n 0, 1) := by decide +kernel
theorem dX2_edits_53 : decode cX2_edits 53 = .ok (.getfield 11, 3) := by decide +kernel
theorem dX2_edits_56 : decode cX2_edits 56 = .ok (.iconst 0, 1) := by decide +kernel
theorem dX2_edits_57 : decode cX2_edits 57 = .ok (.iaload, 1) := by decide +kernel
theorem dX2_edits_58 : decode cX2_edits 58 = .ok (.ireturn, 1) := by decide +kernel
theorem dX2_editsFrom_0 : decode cX2_editsFrom 0 = .ok (.iload_n 2, 1) := by decide +kernel
theorem dX2_editsFrom_1 : decode cX2_editsFrom 1 = .ok (.aload_n 1, 1) := by decide +kernel
theorem dX2_editsFrom_2 : decode cX2_editsFrom 2 = .ok (.getfield 26, 3) := by decide +kernel
theorem dX2_editsFrom_5 : decode cX2_editsFrom 5 = .ok (.if_icmp .ge 12, 3) := by decide +kernel
theorem dX2_editsFrom_8 : decode cX2_editsFrom 8 = .ok (.iload 4, 2) := by decide +kernel
theorem dX2_editsFrom_10 : decode cX2_editsFrom 10 = .ok (.aload_n 3, 1) := by decide +kernel
theorem dX2_editsFrom_11 : decode cX2_editsFrom 11 = .ok (.getfield 26, 3) := by decide +kernel
theorem dX2_editsFrom_14 : decode cX2_editsFrom 14 = .ok (.if_icmp .lt 18, 3) := by decide +kernel
theorem dX2_editsFrom_17 : decode cX2_editsFrom 17 = .ok (.aload_n 1, 1) := by decide +kernel
theorem dX2_editsFrom_18 : decode cX2_editsFrom 18 = .ok (.getfield 26, 3) := by decide +kernel
theorem dX2_editsFrom_21 : decode cX2_editsFrom 21 = .ok (.iload_n 2, 1) := by decide +kernel
theorem dX2_editsFrom_22 : decode cX2_editsFrom 22 = .ok (.isub, 1) := by decide +kernel
theorem dX2_editsFrom_23 : decode cX2_editsFrom 23 = .ok (.aload_n 3, 1) := by decide +kernel
theorem dX2_editsFrom_24 : decode cX2_editsFrom 24 = .ok (.getfield 26, 3) := by decide +kernel
theorem dX2_editsFrom_27 : decode cX2_editsFrom 27 = .ok (.iadd, 1) := by decide +kernel
theorem dX2_editsFrom_28 : decode cX2_editsFrom 28 = .ok (.iload 4, 2) := by decide +kernel
theorem dX2_editsFrom_30 : decode cX2_editsFrom 30 = .ok (.isub, 1) := by decide +kernel
theorem dX2_editsFrom_31 : decode cX2_editsFrom 31 = .ok (.ireturn, 1) := by decide +kernel
theorem dX2_editsFrom_32 : decode cX2_editsFrom 32 = .ok (.aload_n 0, 1) := by decide +kernel
theorem dX2_editsFrom_33 : decode cX2_editsFrom 33 = .ok (.getfield 11, 3) := by decide +kernel
theorem dX2_editsFrom_36 : decode cX2_editsFrom 36 = .ok (.iload_n 2, 1) := by decide +kernel
theorem dX2_editsFrom_37 : decode cX2_editsFrom 37 = .ok (.iconst 1, 1) := by decide +kernel
theorem dX2_editsFrom_38 : decode cX2_editsFrom 38 = .ok (.iadd, 1) := by decide +kernel
theorem dX2_editsFrom_39 : decode cX2_editsFrom 39 = .ok (.iload 4, 2) := by decide +kernel
theorem dX2_editsFrom_41 : decode cX2_editsFrom 41 = .ok (.iconst 1, 1) := by decide +kernel
theorem dX2_editsFrom_42 : decode cX2_editsFrom 42 = .ok (.iadd, 1) := by decide +kernel
theorem dX2_editsFrom_43 : decode cX2_editsFrom 43 = .ok (.invokestatic 30, 3) := by decide +kernel
theorem dX2_editsFrom_46 : decode cX2_editsFrom 46 = .ok (.iaload, 1) := by decide +kernel
theorem dX2_editsFrom_47 : decode cX2_editsFrom 47 = .ok (.istore 5, 2) := by decide +kernel
theorem dX2_editsFrom_49 : decode cX2_editsFrom 49 = .ok (.aload_n 1, 1) := by decide +kernel
theorem dX2_editsFrom_50 : decode cX2_editsFrom 50 = .ok (.iload_n 2, 1) := by decide +kernel
theorem dX2_editsFrom_51 : decode cX2_editsFrom 51 = .ok (.invokevirtual 38, 3) := by decide +kernel
theorem dX2_editsFrom_54 : decode cX2_editsFrom 54 = .ok (.aload_n 3, 1) := by decide +kernel
theorem dX2_editsFrom_55 : decode cX2_editsFrom 55 = .ok (.iload 4, 2) := by decide +kernel
theorem dX2_editsFrom_57 : decode cX2_editsFrom 57 = .ok (.invokevirtual 38, 3) := by decide +kernel
theorem dX2_editsFrom_60 : decode cX2_editsFrom 60 = .ok (.if_icmp .ne 6, 3) := by decide +kernel
theorem dX2_editsFrom_63 : decode cX2_editsFrom 63 = .ok (.iload 5, 2) := by decide +kernel
theorem dX2_editsFrom_65 : decode cX2_editsFrom 65 = .ok (.ireturn, 1) := by decide +kernel
theorem dX2_editsFrom_66 : decode cX2_editsFrom 66 = .ok (.iconst 1, 1) := by decide +kernel
theorem dX2_editsFrom_67 : decode cX2_editsFrom 67 = .ok (.iload 5, 2) := by decide +kernel
theorem dX2_editsFrom_69 : decode cX2_editsFrom 69 = .ok (.aload_n 0, 1) := by decide +kernel
theorem dX2_editsFrom_70 : decode cX2_editsFrom 70 = .ok (.getfield 11, 3) := by decide +kernel
theorem dX2_editsFrom_73 : decode cX2_editsFrom 73 = .ok (.iload_n 2, 1) := by decide +kernel
theorem dX2_editsFrom_74 : decode cX2_editsFrom 74 = .ok (.iconst 1, 1) := by decide +kernel
theorem dX2_editsFrom_75 : decode cX2_editsFrom 75 = .ok (.iadd, 1) := by decide +kernel
theorem dX2_editsFrom_76 : decode cX2_editsFrom 76 = .ok (.iload 4, 2) := by decide +kernel
theorem dX2_editsFrom_78 : decode cX2_editsFrom 78 = .ok (.invokestatic 30, 3) := by decide +kernel
theorem dX2_editsFrom_81 : decode cX2_editsFrom 81 = .ok (.iaload, 1) := by decide +kernel
theorem dX2_editsFrom_82 : decode cX2_editsFrom 82 = .ok (.aload_n 0, 1) := by decide +kernel
theorem dX2_editsFrom_83 : decode cX2_editsFrom 83 = .ok (.getfield 11, 3) := by decide +kernel
theorem dX2_editsFrom_86 : decode cX2_editsFrom 86 = .ok (.iload_n 2, 1) := by decide +kernel
theorem dX2_editsFrom_87 : decode cX2_editsFrom 87 = .ok (.iload 4, 2) := by decide +kernel
theorem dX2_editsFrom_89 : decode cX2_editsFrom 89 = .ok (.iconst 1, 1) := by decide +kernel
theorem dX2_editsFrom_90 : decode cX2_editsFrom 90 = .ok (.iadd, 1) := by decide +kernel
theorem dX2_editsFrom_91 : decode cX2_editsFrom 91 = .ok (.invokestatic 30, 3) := by decide +kernel
theorem dX2_editsFrom_94 : decode cX2_editsFrom 94 = .ok (.iaload, 1) := by decide +kernel
theorem dX2_editsFrom_95 : decode cX2_editsFrom 95 = .ok (.invokestatic 68, 3) := by decide +kernel
theorem dX2_editsFrom_98 : decode cX2_editsFrom 98 = .ok (.invokestatic 68, 3) := by decide +kernel
theorem dX2_editsFrom_101 : decode cX2_editsFrom 101 = .ok (.iadd, 1) := by decide +kernel
theorem dX2_editsFrom_102 : decode cX2_editsFrom 102 = .ok (.ireturn, 1) := by decide +kernel
theorem dX3_init_0 : decode cX3_init 0 = .ok (.aload_n 0, 1) := by decide +kernel
theorem dX3_init_1 : decode cX3_init 1 = .ok (.invokespecial 3, 3) := by decide +kernel
theorem dX3_init_4 : decode cX3_init 4 = .ok (.aload_n 0, 1) := by decide +kernel
theorem dX3_init_5 : decode cX3_init 5 = .ok (.bipush 25, 2) := by decide +kernel
theorem dX3_init_7 : decode cX3_init 7 = .ok (.newarray .long, 2) := by decide +kernel
theorem dX3_init_9 : decode cX3_init 9 = .ok (.putfield 9, 3) := by decide +kernel
theorem dX3_init_12 : decode cX3_init 12 = .ok (.aload_n 0, 1) := by decide +kernel
theorem dX3_init_13 : decode cX3_init 13 = .ok (.sipush 175, 3) := by decide +kernel
theorem dX3_init_16 : decode cX3_init 16 = .ok (.newarray .long, 2) := by decide +kernel
theorem dX3_init_18 : decode cX3_init 18 = .ok (.putfield 15, 3) := by decide +kernel
theorem dX3_init_21 : decode cX3_init 21 = .ok (.return_, 1) := by decide +kernel
theorem dX3_howOften_0 : decode cX3_howOften 0 = .ok (.aload_n 0, 1) := by decide +kernel
theorem dX3_howOften_1 : decode cX3_howOften 1 = .ok (.getfield 9, 3) := by decide +kernel
theorem dX3_howOften_4 : decode cX3_howOften 4 = .ok (.iconst 0, 1) := by decide +kernel
theorem dX3_howOften_5 : decode cX3_howOften 5 = .ok (.lconst 1, 1) := by decide +kernel
theorem dX3_howOften_6 : decode cX3_howOften 6 = .ok (.lastore, 1) := by decide +kernel
theorem dX3_howOften_7 : decode cX3_howOften 7 = .ok (.iconst 1, 1) := by decide +kernel
theorem dX3_howOften_8 : decode cX3_howOften 8 = .ok (.istore_n 3, 1) := by decide +kernel
theorem dX3_howOften_9 : decode cX3_howOften 9 = .ok (.iload_n 3, 1) := by decide +kernel
theorem dX3_howOften_10 : decode cX3_howOften 10 = .ok (.aload_n 1, 1) := by decide +kernel
theorem dX3_howOften_11 : decode cX3_howOften 11 = .ok (.getfield 18, 3) := by decide +kernel
theorem dX3_howOften_14 : decode cX3_howOften 14 = .ok (.if_icmp .gt 16, 3) := by decide +kernel
theorem dX3_howOften_17 : decode cX3_howOften 17 = .ok (.aload_n 0, 1) := by decide +kernel
theorem dX3_howOften_18 : decode cX3_howOften 18 = .ok (.getfield 9, 3) := by decide +kernel
theorem dX3_howOften_21 : decode cX3_howOften 21 = .ok (.iload_n 3, 1) := by decide +kernel
theorem dX3_howOften_22 : decode cX3_howOften 22 = .ok (.lconst 0, 1) := by decide +kernel
theorem dX3_howOften_23 : decode cX3_howOften 23 = .ok (.lastore, 1) := by decide +kernel
theorem dX3_howOften_24 : decode cX3_howOften 24 = .ok (.iinc 3 1, 3) := by decide +kernel
theorem dX3_howOften_27 : decode cX3_howOften 27 = .ok (.goto (-18), 3) := by decide +kernel
theorem dX3_howOften_30 : decode cX3_howOften 30 = .ok (.iconst 0, 1) := by decide +kernel
theorem dX3_howOften_31 : decode cX3_howOften 31 = .ok (.istore_n 3, 1) := by decide +kernel
theorem dX3_howOften_32 : decode cX3_howOften 32 = .ok (.iload_n 3, 1) := by decide +kernel
theorem dX3_howOften_33 : decode cX3_howOften 33 = .ok (.aload_n 2, 1) := by decide +kernel
theorem dX3_howOften_34 : decode cX3_howOften 34 = .ok (.getfield 18, 3) := by decide +kernel
theorem dX3_howOften_37 : decode cX3_howOften 37 = .ok (.if_icmp .ge 66, 3) := by decide +kernel
theorem dX3_howOften_40 : decode cX3_howOften 40 = .ok (.aload_n 2, 1) := by decide +kernel
theorem dX3_howOften_41 : decode cX3_howOften 41 = .ok (.iload_n 3, 1) := by decide +kernel
theorem dX3_howOften_42 : decode cX3_howOften 42 = .ok (.invokevirtual 24, 3) := by decide +kernel
theorem dX3_howOften_45 : decode cX3_howOften 45 = .ok (.istore 4, 2) := by decide +kernel
theorem dX3_howOften_47 : decode cX3_howOften 47 = .ok (.aload_n 1, 1) := by decide +kernel
theorem dX3_howOften_48 : decode cX3_howOften 48 = .ok (.getfield 18, 3) := by decide +kernel
theorem dX3_howOften_51 : decode cX3_howOften 51 = .ok (.istore 5, 2) := by decide +kernel
theorem dX3_howOften_53 : decode cX3_howOften 53 = .ok (.iload 5, 2) := by decide +kernel
theorem dX3_howOften_55 : decode cX3_howOften 55 = .ok (.iconst 1, 1) := by decide +kernel
theorem dX3_howOften_56 : decode cX3_howOften 56 = .ok (.if_icmp .lt 41, 3) := by decide +kernel
theorem dX3_howOften_59 : decode cX3_howOften 59 = .ok (.aload_n 1, 1) := by decide +kernel
theorem dX3_howOften_60 : decode cX3_howOften 60 = .ok (.iload 5, 2) := by decide +kernel
theorem dX3_howOften_62 : decode cX3_howOften 62 = .ok (.iconst 1, 1) := by decide +kernel
theorem dX3_howOften_63 : decode cX3_howOften 63 = .ok (.isub, 1) := by decide +kernel
theorem dX3_howOften_64 : decode cX3_howOften 64 = .ok (.invokevirtual 24, 3) := by decide +kernel
theorem dX3_howOften_67 : decode cX3_howOften 67 = .ok (.iload 4, 2) := by decide +kernel
theorem dX3_howOften_69 : decode cX3_howOften 69 = .ok (.if_icmp .ne 22, 3) := by decide +kernel
theorem dX3_howOften_72 : decode cX3_howOften 72 = .ok (.aload_n 0, 1) := by decide +kernel
theorem dX3_howOften_73 : decode cX3_howOften 73 = .ok (.getfield 9, 3) := by decide +kernel
theorem dX3_howOften_76 : decode cX3_howOften 76 = .ok (.iload 5, 2) := by decide +kernel
theorem dX3_howOften_78 : decode cX3_howOften 78 = .ok (.dup2, 1) := by decide +kernel
theorem dX3_howOften_79 : decode cX3_howOften 79 = .ok (.laload, 1) := by decide +kernel
theorem dX3_howOften_80 : decode cX3_howOften 80 = .ok (.aload_n 0, 1) := by decide +kernel
theorem dX3_howOften_81 : decode cX3_howOften 81 = .ok (.getfield 9, 3) := by decide +kernel
theorem dX3_howOften_84 : decode cX3_howOften 84 = .ok (.iload 5, 2) := by decide +kernel
theorem dX3_howOften_86 : decode cX3_howOften 86 = .ok (.iconst 1, 1) := by decide +kernel
theorem dX3_howOften_87 : decode cX3_howOften 87 = .ok (.isub, 1) := by decide +kernel
theorem dX3_howOften_88 : decode cX3_howOften 88 = .ok (.laload, 1) := by decide +kernel
theorem dX3_howOften_89 : decode cX3_howOften 89 = .ok (.ladd, 1) := by decide +kernel
theorem dX3_howOften_90 : decode cX3_howOften 90 = .ok (.lastore, 1) := by decide +kernel
theorem dX3_howOften_91 : decode cX3_howOften 91 = .ok (.iinc 5 (-1), 3) := by decide +kernel
theorem dX3_howOften_94 : decode cX3_howOften 94 = .ok (.goto (-41), 3) := by decide +kernel
theorem dX3_howOften_97 : decode cX3_howOften 97 = .ok (.iinc 3 1, 3) := by decide +kernel
theorem dX3_howOften_100 : decode cX3_howOften 100 = .ok (.goto (-68), 3) := by decide +kernel
theorem dX3_howOften_103 : decode cX3_howOften 103 = .ok (.aload_n 0, 1) := by decide +kernel
theorem dX3_howOften_104 : decode cX3_howOften 104 = .ok (.getfield 9, 3) := by decide +kernel
theorem dX3_howOften_107 : decode cX3_howOften 107 = .ok (.aload_n 1, 1) := by decide +kernel
theorem dX3_howOften_108 : decode cX3_howOften 108 = .ok (.getfield 18, 3) := by decide +kernel
theorem dX3_howOften_111 : decode cX3_howOften 111 = .ok (.laload, 1) := by decide +kernel
theorem dX3_howOften_112 : decode cX3_howOften 112 = .ok (.lreturn, 1) := by decide +kernel
theorem dX3_byLosing_0 : decode cX3_byLosing 0 = .ok (.aload_n 1, 1) := by decide +kernel
theorem dX3_byLosing_1 : decode cX3_byLosing 1 = .ok (.getfield 18, 3) := by decide +kernel
theorem dX3_byLosing_4 : decode cX3_byLosing 4 = .ok (.istore 4, 2) := by decide +kernel
theorem dX3_byLosing_6 : decode cX3_byLosing 6 = .ok (.iload 4, 2) := by decide +kernel
theorem dX3_byLosing_8 : decode cX3_byLosing 8 = .ok (.ifCond .lt 47, 3) := by decide +kernel
theorem dX3_byLosing_11 : decode cX3_byLosing 11 = .ok (.iconst 0, 1) := by decide +kernel
theorem dX3_byLosing_12 : decode cX3_byLosing 12 = .ok (.istore 5, 2) := by decide +kernel
theorem dX3_byLosing_14 : decode cX3_byLosing 14 = .ok (.iload 5, 2) := by decide +kernel
theorem dX3_byLosing_16 : decode cX3_byLosing 16 = .ok (.iload_n 2, 1) := by decide +kernel
theorem dX3_byLosing_17 : decode cX3_byLosing 17 = .ok (.if_icmp .gt 32, 3) := by decide +kernel
theorem dX3_byLosing_20 : decode cX3_byLosing 20 = .ok (.aload_n 0, 1) := by decide +kernel
theorem dX3_byLosing_21 : decode cX3_byLosing 21 = .ok (.getfield 15, 3) := by decide +kernel
theorem dX3_byLosing_24 : decode cX3_byLosing 24 = .ok (.iload 4, 2) := by decide +kernel
theorem dX3_byLosing_26 : decode cX3_byLosing 26 = .ok (.bipush 7, 2) := by decide +kernel
theorem dX3_byLosing_28 : decode cX3_byLosing 28 = .ok (.imul, 1) := by decide +kernel
theorem dX3_byLosing_29 : decode cX3_byLosing 29 = .ok (.iload 5, 2) := by decide +kernel
theorem dX3_byLosing_31 : decode cX3_byLosing 31 = .ok (.iadd, 1) := by decide +kernel
theorem dX3_byLosing_32 : decode cX3_byLosing 32 = .ok (.aload_n 0, 1) := by decide +kernel
theorem dX3_byLosing_33 : decode cX3_byLosing 33 = .ok (.aload_n 1, 1) := by decide +kernel
theorem dX3_byLosing_34 : decode cX3_byLosing 34 = .ok (.iload 4, 2) := by decide +kernel
theorem dX3_byLosing_36 : decode cX3_byLosing 36 = .ok (.iload 5, 2) := by decide +kernel
theorem dX3_byLosing_38 : decode cX3_byLosing 38 = .ok (.iload_n 3, 1) := by decide +kernel
theorem dX3_byLosing_39 : decode cX3_byLosing 39 = .ok (.invokevirtual 28, 3) := by decide +kernel
theorem dX3_byLosing_42 : decode cX3_byLosing 42 = .ok (.lastore, 1) := by decide +kernel
theorem dX3_byLosing_43 : decode cX3_byLosing 43 = .ok (.iinc 5 1, 3) := by decide +kernel
theorem dX3_byLosing_46 : decode cX3_byLosing 46 = .ok (.goto (-32), 3) := by decide +kernel
theorem dX3_byLosing_49 : decode cX3_byLosing 49 = .ok (.iinc 4 (-1), 3) := by decide +kernel
theorem dX3_byLosing_52 : decode cX3_byLosing 52 = .ok (.goto (-46), 3) := by decide +kernel
theorem dX3_byLosing_55 : decode cX3_byLosing 55 = .ok (.aload_n 0, 1) := by decide +kernel
theorem dX3_byLosing_56 : decode cX3_byLosing 56 = .ok (.getfield 15, 3) := by decide +kernel
theorem dX3_byLosing_59 : decode cX3_byLosing 59 = .ok (.iload_n 2, 1) := by decide +kernel
theorem dX3_byLosing_60 : decode cX3_byLosing 60 = .ok (.laload, 1) := by decide +kernel
theorem dX3_byLosing_61 : decode cX3_byLosing 61 = .ok (.lreturn, 1) := by decide +kernel
theorem dX3_leftFrom_0 : decode cX3_leftFrom 0 = .ok (.aload_n 1, 1) := by decide +kernel
theorem dX3_leftFrom_1 : decode cX3_leftFrom 1 = .ok (.getfield 18, 3) := by decide +kernel
theorem dX3_leftFrom_4 : decode cX3_leftFrom 4 = .ok (.iload_n 2, 1) := by decide +kernel
theorem dX3_leftFrom_5 : decode cX3_leftFrom 5 = .ok (.isub, 1) := by decide +kernel
theorem dX3_leftFrom_6 : decode cX3_leftFrom 6 = .ok (.iload_n 3, 1) := by decide +kernel
theorem dX3_leftFrom_7 : decode cX3_leftFrom 7 = .ok (.if_icmp .gt 19, 3) := by decide +kernel
theorem dX3_leftFrom_10 : decode cX3_leftFrom 10 = .ok (.aload_n 1, 1) := by decide +kernel
theorem dX3_leftFrom_11 : decode cX3_leftFrom 11 = .ok (.getfield 18, 3) := by decide +kernel
theorem dX3_leftFrom_14 : decode cX3_leftFrom 14 = .ok (.iload_n 2, 1) := by decide +kernel
theorem dX3_leftFrom_15 : decode cX3_leftFrom 15 = .ok (.isub, 1) := by decide +kernel
theorem dX3_leftFrom_16 : decode cX3_leftFrom 16 = .ok (.iload_n 3, 1) := by decide +kernel
theorem dX3_leftFrom_17 : decode cX3_leftFrom 17 = .ok (.if_icmp .ne 7, 3) := by decide +kernel
theorem dX3_leftFrom_20 : decode cX3_leftFrom 20 = .ok (.lconst 1, 1) := by decide +kernel
theorem dX3_leftFrom_21 : decode cX3_leftFrom 21 = .ok (.goto 4, 3) := by decide +kernel
theorem dX3_leftFrom_24 : decode cX3_leftFrom 24 = .ok (.lconst 0, 1) := by decide +kernel
theorem dX3_leftFrom_25 : decode cX3_leftFrom 25 = .ok (.lreturn, 1) := by decide +kernel
theorem dX3_leftFrom_26 : decode cX3_leftFrom 26 = .ok (.lconst 0, 1) := by decide +kernel
theorem dX3_leftFrom_27 : decode cX3_leftFrom 27 = .ok (.lstore 5, 2) := by decide +kernel
theorem dX3_leftFrom_29 : decode cX3_leftFrom 29 = .ok (.iconst 0, 1) := by decide +kernel
theorem dX3_leftFrom_30 : decode cX3_leftFrom 30 = .ok (.istore 7, 2) := by decide +kernel
theorem dX3_leftFrom_32 : decode cX3_leftFrom 32 = .ok (.iload 7, 2) := by decide +kernel
theorem dX3_leftFrom_34 : decode cX3_leftFrom 34 = .ok (.iload 4, 2) := by decide +kernel
theorem dX3_leftFrom_36 : decode cX3_leftFrom 36 = .ok (.if_icmp .ge 59, 3) := by decide +kernel
theorem dX3_leftFrom_39 : decode cX3_leftFrom 39 = .ok (.aload_n 1, 1) := by decide +kernel
theorem dX3_leftFrom_40 : decode cX3_leftFrom 40 = .ok (.iload 7, 2) := by decide +kernel
theorem dX3_leftFrom_42 : decode cX3_leftFrom 42 = .ok (.iload_n 2, 1) := by decide +kernel
theorem dX3_leftFrom_43 : decode cX3_leftFrom 43 = .ok (.invokevirtual 32, 3) := by decide +kernel
theorem dX3_leftFrom_46 : decode cX3_leftFrom 46 = .ok (.istore 8, 2) := by decide +kernel
theorem dX3_leftFrom_48 : decode cX3_leftFrom 48 = .ok (.iload 8, 2) := by decide +kernel
theorem dX3_leftFrom_50 : decode cX3_leftFrom 50 = .ok (.aload_n 1, 1) := by decide +kernel
theorem dX3_leftFrom_51 : decode cX3_leftFrom 51 = .ok (.getfield 18, 3) := by decide +kernel
theorem dX3_leftFrom_54 : decode cX3_leftFrom 54 = .ok (.if_icmp .ge 35, 3) := by decide +kernel
theorem dX3_leftFrom_57 : decode cX3_leftFrom 57 = .ok (.iload 8, 2) := by decide +kernel
theorem dX3_leftFrom_59 : decode cX3_leftFrom 59 = .ok (.iload_n 2, 1) := by decide +kernel
theorem dX3_leftFrom_60 : decode cX3_leftFrom 60 = .ok (.isub, 1) := by decide +kernel
theorem dX3_leftFrom_61 : decode cX3_leftFrom 61 = .ok (.iload_n 3, 1) := by decide +kernel
theorem dX3_leftFrom_62 : decode cX3_leftFrom 62 = .ok (.if_icmp .gt 27, 3) := by decide +kernel
theorem dX3_leftFrom_65 : decode cX3_leftFrom 65 = .ok (.lload 5, 2) := by decide +kernel
theorem dX3_leftFrom_67 : decode cX3_leftFrom 67 = .ok (.aload_n 0, 1) := by decide +kernel
theorem dX3_leftFrom_68 : decode cX3_leftFrom 68 = .ok (.getfield 15, 3) := by decide +kernel
theorem dX3_leftFrom_71 : decode cX3_leftFrom 71 = .ok (.iload 8, 2) := by decide +kernel
theorem dX3_leftFrom_73 : decode cX3_leftFrom 73 = .ok (.iconst 1, 1) := by decide +kernel
theorem dX3_leftFrom_74 : decode cX3_leftFrom 74 = .ok (.iadd, 1) := by decide +kernel
theorem dX3_leftFrom_75 : decode cX3_leftFrom 75 = .ok (.bipush 7, 2) := by decide +kernel
theorem dX3_leftFrom_77 : decode cX3_leftFrom 77 = .ok (.imul, 1) := by decide +kernel
theorem dX3_leftFrom_78 : decode cX3_leftFrom 78 = .ok (.iload_n 3, 1) := by decide +kernel
theorem dX3_leftFrom_79 : decode cX3_leftFrom 79 = .ok (.iadd, 1) := by decide +kernel
theorem dX3_leftFrom_80 : decode cX3_leftFrom 80 = .ok (.iload 8, 2) := by decide +kernel
theorem dX3_leftFrom_82 : decode cX3_leftFrom 82 = .ok (.iload_n 2, 1) := by decide +kernel
theorem dX3_leftFrom_83 : decode cX3_leftFrom 83 = .ok (.isub, 1) := by decide +kernel
theorem dX3_leftFrom_84 : decode cX3_leftFrom 84 = .ok (.isub, 1) := by decide +kernel
theorem dX3_leftFrom_85 : decode cX3_leftFrom 85 = .ok (.laload, 1) := by decide +kernel
theorem dX3_leftFrom_86 : decode cX3_leftFrom 86 = .ok (.ladd, 1) := by decide +kernel
theorem dX3_leftFrom_87 : decode cX3_leftFrom 87 = .ok (.lstore 5, 2) := by decide +kernel
theorem dX3_leftFrom_89 : decode cX3_leftFrom 89 = .ok (.iinc 7 1, 3) := by decide +kernel
theorem dX3_leftFrom_92 : decode cX3_leftFrom 92 = .ok (.goto (-60), 3) := by decide +kernel
theorem dX3_leftFrom_95 : decode cX3_leftFrom 95 = .ok (.lload 5, 2) := by decide +kernel
theorem dX3_leftFrom_97 : decode cX3_leftFrom 97 = .ok (.lreturn, 1) := by decide +kernel
theorem dX3_byGaining_0 : decode cX3_byGaining 0 = .ok (.aload_n 1, 1) := by decide +kernel
theorem dX3_byGaining_1 : decode cX3_byGaining 1 = .ok (.getfield 18, 3) := by decide +kernel
theorem dX3_byGaining_4 : decode cX3_byGaining 4 = .ok (.iload_n 2, 1) := by decide +kernel
theorem dX3_byGaining_5 : decode cX3_byGaining 5 = .ok (.iadd, 1) := by decide +kernel
theorem dX3_byGaining_6 : decode cX3_byGaining 6 = .ok (.istore 4, 2) := by decide +kernel
theorem dX3_byGaining_8 : decode cX3_byGaining 8 = .ok (.lconst 1, 1) := by decide +kernel
theorem dX3_byGaining_9 : decode cX3_byGaining 9 = .ok (.lstore 5, 2) := by decide +kernel
theorem dX3_byGaining_11 : decode cX3_byGaining 11 = .ok (.lconst 1, 1) := by decide +kernel
theorem dX3_byGaining_12 : decode cX3_byGaining 12 = .ok (.lstore 7, 2) := by decide +kernel
theorem dX3_byGaining_14 : decode cX3_byGaining 14 = .ok (.lconst 0, 1) := by decide +kernel
theorem dX3_byGaining_15 : decode cX3_byGaining 15 = .ok (.lstore 9, 2) := by decide +kernel
theorem dX3_byGaining_17 : decode cX3_byGaining 17 = .ok (.iconst 0, 1) := by decide +kernel
theorem dX3_byGaining_18 : decode cX3_byGaining 18 = .ok (.istore 11, 2) := by decide +kernel
theorem dX3_byGaining_20 : decode cX3_byGaining 20 = .ok (.iload 11, 2) := by decide +kernel
theorem dX3_byGaining_22 : decode cX3_byGaining 22 = .ok (.iload_n 2, 1) := by decide +kernel
theorem dX3_byGaining_23 : decode cX3_byGaining 23 = .ok (.if_icmp .gt 45, 3) := by decide +kernel
theorem dX3_byGaining_26 : decode cX3_byGaining 26 = .ok (.lload 9, 2) := by decide +kernel
theorem dX3_byGaining_28 : decode cX3_byGaining 28 = .ok (.lload 5, 2) := by decide +kernel
theorem dX3_byGaining_30 : decode cX3_byGaining 30 = .ok (.lload 7, 2) := by decide +kernel
theorem dX3_byGaining_32 : decode cX3_byGaining 32 = .ok (.lmul, 1) := by decide +kernel
theorem dX3_byGaining_33 : decode cX3_byGaining 33 = .ok (.ladd, 1) := by decide +kernel
theorem dX3_byGaining_34 : decode cX3_byGaining 34 = .ok (.lstore 9, 2) := by decide +kernel
theorem dX3_byGaining_36 : decode cX3_byGaining 36 = .ok (.lload 5, 2) := by decide +kernel
theorem dX3_byGaining_38 : decode cX3_byGaining 38 = .ok (.iload 4, 2) := by decide +kernel
theorem dX3_byGaining_40 : decode cX3_byGaining 40 = .ok (.iload 11, 2) := by decide +kernel
theorem dX3_byGaining_42 : decode cX3_byGaining 42 = .ok (.isub, 1) := by decide +kernel
theorem dX3_byGaining_43 : decode cX3_byGaining 43 = .ok (.i2l, 1) := by decide +kernel
theorem dX3_byGaining_44 : decode cX3_byGaining 44 = .ok (.lmul, 1) := by decide +kernel
theorem dX3_byGaining_45 : decode cX3_byGaining 45 = .ok (.iload 11, 2) := by decide +kernel
theorem dX3_byGaining_47 : decode cX3_byGaining 47 = .ok (.iconst 1, 1) := by decide +kernel
theorem dX3_byGaining_48 : decode cX3_byGaining 48 = .ok (.iadd, 1) := by decide +kernel
theorem dX3_byGaining_49 : decode cX3_byGaining 49 = .ok (.i2l, 1) := by decide +kernel
theorem dX3_byGaining_50 : decode cX3_byGaining 50 = .ok (.ldiv, 1) := by decide +kernel
theorem dX3_byGaining_51 : decode cX3_byGaining 51 = .ok (.lstore 5, 2) := by decide +kernel
theorem dX3_byGaining_53 : decode cX3_byGaining 53 = .ok (.lload 7, 2) := by decide +kernel
theorem dX3_byGaining_55 : decode cX3_byGaining 55 = .ok (.iload_n 3, 1) := by decide +kernel
theorem dX3_byGaining_56 : decode cX3_byGaining 56 = .ok (.iconst 1, 1) := by decide +kernel
theorem dX3_byGaining_57 : decode cX3_byGaining 57 = .ok (.isub, 1) := by decide +kernel
theorem dX3_byGaining_58 : decode cX3_byGaining 58 = .ok (.i2l, 1) := by decide +kernel
theorem dX3_byGaining_59 : decode cX3_byGaining 59 = .ok (.lmul, 1) := by decide +kernel
theorem dX3_byGaining_60 : decode cX3_byGaining 60 = .ok (.lstore 7, 2) := by decide +kernel
theorem dX3_byGaining_62 : decode cX3_byGaining 62 = .ok (.iinc 11 1, 3) := by decide +kernel
theorem dX3_byGaining_65 : decode cX3_byGaining 65 = .ok (.goto (-45), 3) := by decide +kernel
theorem dX3_byGaining_68 : decode cX3_byGaining 68 = .ok (.lload 9, 2) := by decide +kernel
theorem dX3_byGaining_70 : decode cX3_byGaining 70 = .ok (.lreturn, 1) := by decide +kernel
theorem dX4_init_0 : decode cX4_init 0 = .ok (.aload_n 0, 1) := by decide +kernel
theorem dX4_init_1 : decode cX4_init 1 = .ok (.invokespecial 3, 3) := by decide +kernel
theorem dX4_init_4 : decode cX4_init 4 = .ok (.return_, 1) := by decide +kernel
theorem dX4_clear_0 : decode cX4_clear 0 = .ok (.aload_n 0, 1) := by decide +kernel
theorem dX4_clear_1 : decode cX4_clear 1 = .ok (.iconst 0, 1) := by decide +kernel
theorem dX4_clear_2 : decode cX4_clear 2 = .ok (.lconst 0, 1) := by decide +kernel
theorem dX4_clear_3 : decode cX4_clear 3 = .ok (.invokevirtual 9, 3) := by decide +kernel
theorem dX4_clear_6 : decode cX4_clear 6 = .ok (.return_, 1) := by decide +kernel
theorem dX4_put_0 : decode cX4_put 0 = .ok (.aload_n 0, 1) := by decide +kernel
theorem dX4_put_1 : decode cX4_put 1 = .ok (.iload_n 1, 1) := by decide +kernel
theorem dX4_put_2 : decode cX4_put 2 = .ok (.putfield 15, 3) := by decide +kernel
theorem dX4_put_5 : decode cX4_put 5 = .ok (.aload_n 0, 1) := by decide +kernel
theorem dX4_put_6 : decode cX4_put 6 = .ok (.lload_n 2, 1) := by decide +kernel
theorem dX4_put_7 : decode cX4_put 7 = .ok (.putfield 19, 3) := by decide +kernel
theorem dX4_put_10 : decode cX4_put 10 = .ok (.return_, 1) := by decide +kernel
theorem dX4_become_0 : decode cX4_become 0 = .ok (.aload_n 0, 1) := by decide +kernel
theorem dX4_become_1 : decode cX4_become 1 = .ok (.aload_n 1, 1) := by decide +kernel
theorem dX4_become_2 : decode cX4_become 2 = .ok (.getfield 15, 3) := by decide +kernel
theorem dX4_become_5 : decode cX4_become 5 = .ok (.aload_n 1, 1) := by decide +kernel
theorem dX4_become_6 : decode cX4_become 6 = .ok (.getfield 19, 3) := by decide +kernel
theorem dX4_become_9 : decode cX4_become 9 = .ok (.invokevirtual 9, 3) := by decide +kernel
theorem dX4_become_12 : decode cX4_become 12 = .ok (.return_, 1) := by decide +kernel
theorem dX4_isFull_0 : decode cX4_isFull 0 = .ok (.aload_n 0, 1) := by decide +kernel
theorem dX4_isFull_1 : decode cX4_isFull 1 = .ok (.getfield 15, 3) := by decide +kernel
theorem dX4_isFull_4 : decode cX4_isFull 4 = .ok (.bipush 24, 2) := by decide +kernel
theorem dX4_isFull_6 : decode cX4_isFull 6 = .ok (.if_icmp .lt 7, 3) := by decide +kernel
theorem dX4_isFull_9 : decode cX4_isFull 9 = .ok (.iconst 1, 1) := by decide +kernel
theorem dX4_isFull_10 : decode cX4_isFull 10 = .ok (.goto 4, 3) := by decide +kernel
theorem dX4_isFull_13 : decode cX4_isFull 13 = .ok (.iconst 0, 1) := by decide +kernel
theorem dX4_isFull_14 : decode cX4_isFull 14 = .ok (.ireturn, 1) := by decide +kernel
theorem dX4_letter_0 : decode cX4_letter 0 = .ok (.aload_n 0, 1) := by decide +kernel
theorem dX4_letter_1 : decode cX4_letter 1 = .ok (.getfield 19, 3) := by decide +kernel
theorem dX4_letter_4 : decode cX4_letter 4 = .ok (.iconst 2, 1) := by decide +kernel
theorem dX4_letter_5 : decode cX4_letter 5 = .ok (.iload_n 1, 1) := by decide +kernel
theorem dX4_letter_6 : decode cX4_letter 6 = .ok (.imul, 1) := by decide +kernel
theorem dX4_letter_7 : decode cX4_letter 7 = .ok (.lushr, 1) := by decide +kernel
theorem dX4_letter_8 : decode cX4_letter 8 = .ok (.l2i, 1) := by decide +kernel
theorem dX4_letter_9 : decode cX4_letter 9 = .ok (.iconst 3, 1) := by decide +kernel
theorem dX4_letter_10 : decode cX4_letter 10 = .ok (.iand, 1) := by decide +kernel
theorem dX4_letter_11 : decode cX4_letter 11 = .ok (.ireturn, 1) := by decide +kernel
theorem dX4_turn_0 : decode cX4_turn 0 = .ok (.aload_n 0, 1) := by decide +kernel
theorem dX4_turn_1 : decode cX4_turn 1 = .ok (.aload_n 0, 1) := by decide +kernel
theorem dX4_turn_2 : decode cX4_turn 2 = .ok (.getfield 19, 3) := by decide +kernel
theorem dX4_turn_5 : decode cX4_turn 5 = .ok (.ldc2_w 23, 3) := by decide +kernel
theorem dX4_turn_8 : decode cX4_turn 8 = .ok (.iconst 2, 1) := by decide +kernel
theorem dX4_turn_9 : decode cX4_turn 9 = .ok (.iload_n 1, 1) := by decide +kernel
theorem dX4_turn_10 : decode cX4_turn 10 = .ok (.imul, 1) := by decide +kernel
theorem dX4_turn_11 : decode cX4_turn 11 = .ok (.lshl, 1) := by decide +kernel
theorem dX4_turn_12 : decode cX4_turn 12 = .ok (.ldc2_w 25, 3) := by decide +kernel
theorem dX4_turn_15 : decode cX4_turn 15 = .ok (.lxor, 1) := by decide +kernel
theorem dX4_turn_16 : decode cX4_turn 16 = .ok (.land, 1) := by decide +kernel
theorem dX4_turn_17 : decode cX4_turn 17 = .ok (.iload_n 2, 1) := by decide +kernel
theorem dX4_turn_18 : decode cX4_turn 18 = .ok (.i2l, 1) := by decide +kernel
theorem dX4_turn_19 : decode cX4_turn 19 = .ok (.iconst 2, 1) := by decide +kernel
theorem dX4_turn_20 : decode cX4_turn 20 = .ok (.iload_n 1, 1) := by decide +kernel
theorem dX4_turn_21 : decode cX4_turn 21 = .ok (.imul, 1) := by decide +kernel
theorem dX4_turn_22 : decode cX4_turn 22 = .ok (.lshl, 1) := by decide +kernel
theorem dX4_turn_23 : decode cX4_turn 23 = .ok (.lor, 1) := by decide +kernel
theorem dX4_turn_24 : decode cX4_turn 24 = .ok (.putfield 19, 3) := by decide +kernel
theorem dX4_turn_27 : decode cX4_turn 27 = .ok (.return_, 1) := by decide +kernel
theorem dX4_lose_0 : decode cX4_lose 0 = .ok (.aload_n 0, 1) := by decide +kernel
theorem dX4_lose_1 : decode cX4_lose 1 = .ok (.aload_n 0, 1) := by decide +kernel
theorem dX4_lose_2 : decode cX4_lose 2 = .ok (.iload_n 1, 1) := by decide +kernel
theorem dX4_lose_3 : decode cX4_lose 3 = .ok (.invokevirtual 27, 3) := by decide +kernel
theorem dX4_lose_6 : decode cX4_lose 6 = .ok (.aload_n 0, 1) := by decide +kernel
theorem dX4_lose_7 : decode cX4_lose 7 = .ok (.getfield 19, 3) := by decide +kernel
theorem dX4_lose_10 : decode cX4_lose 10 = .ok (.iconst 2, 1) := by decide +kernel
theorem dX4_lose_11 : decode cX4_lose 11 = .ok (.iload_n 1, 1) := by decide +kernel
theorem dX4_lose_12 : decode cX4_lose 12 = .ok (.imul, 1) := by decide +kernel
theorem dX4_lose_13 : decode cX4_lose 13 = .ok (.iconst 2, 1) := by decide +kernel
theorem dX4_lose_14 : decode cX4_lose 14 = .ok (.iadd, 1) := by decide +kernel
theorem dX4_lose_15 : decode cX4_lose 15 = .ok (.lushr, 1) := by decide +kernel
theorem dX4_lose_16 : decode cX4_lose 16 = .ok (.iconst 2, 1) := by decide +kernel
theorem dX4_lose_17 : decode cX4_lose 17 = .ok (.iload_n 1, 1) := by decide +kernel
theorem dX4_lose_18 : decode cX4_lose 18 = .ok (.imul, 1) := by decide +kernel
theorem dX4_lose_19 : decode cX4_lose 19 = .ok (.lshl, 1) := by decide +kernel
theorem dX4_lose_20 : decode cX4_lose 20 = .ok (.lor, 1) := by decide +kernel
theorem dX4_lose_21 : decode cX4_lose 21 = .ok (.putfield 19, 3) := by decide +kernel
theorem dX4_lose_24 : decode cX4_lose 24 = .ok (.aload_n 0, 1) := by decide +kernel
theorem dX4_lose_25 : decode cX4_lose 25 = .ok (.dup, 1) := by decide +kernel
theorem dX4_lose_26 : decode cX4_lose 26 = .ok (.getfield 15, 3) := by decide +kernel
theorem dX4_lose_29 : decode cX4_lose 29 = .ok (.iconst 1, 1) := by decide +kernel
theorem dX4_lose_30 : decode cX4_lose 30 = .ok (.isub, 1) := by decide +kernel
theorem dX4_lose_31 : decode cX4_lose 31 = .ok (.putfield 15, 3) := by decide +kernel
theorem dX4_lose_34 : decode cX4_lose 34 = .ok (.return_, 1) := by decide +kernel
theorem dX4_gain_0 : decode cX4_gain 0 = .ok (.aload_n 0, 1) := by decide +kernel
theorem dX4_gain_1 : decode cX4_gain 1 = .ok (.aload_n 0, 1) := by decide +kernel
theorem dX4_gain_2 : decode cX4_gain 2 = .ok (.iload_n 1, 1) := by decide +kernel
theorem dX4_gain_3 : decode cX4_gain 3 = .ok (.invokevirtual 27, 3) := by decide +kernel
theorem dX4_gain_6 : decode cX4_gain 6 = .ok (.iload_n 2, 1) := by decide +kernel
theorem dX4_gain_7 : decode cX4_gain 7 = .ok (.i2l, 1) := by decide +kernel
theorem dX4_gain_8 : decode cX4_gain 8 = .ok (.iconst 2, 1) := by decide +kernel
theorem dX4_gain_9 : decode cX4_gain 9 = .ok (.iload_n 1, 1) := by decide +kernel
theorem dX4_gain_10 : decode cX4_gain 10 = .ok (.imul, 1) := by decide +kernel
theorem dX4_gain_11 : decode cX4_gain 11 = .ok (.lshl, 1) := by decide +kernel
theorem dX4_gain_12 : decode cX4_gain 12 = .ok (.lor, 1) := by decide +kernel
theorem dX4_gain_13 : decode cX4_gain 13 = .ok (.aload_n 0, 1) := by decide +kernel
theorem dX4_gain_14 : decode cX4_gain 14 = .ok (.getfield 19, 3) := by decide +kernel
theorem dX4_gain_17 : decode cX4_gain 17 = .ok (.iconst 2, 1) := by decide +kernel
theorem dX4_gain_18 : decode cX4_gain 18 = .ok (.iload_n 1, 1) := by decide +kernel
theorem dX4_gain_19 : decode cX4_gain 19 = .ok (.imul, 1) := by decide +kernel
theorem dX4_gain_20 : decode cX4_gain 20 = .ok (.lushr, 1) := by decide +kernel
theorem dX4_gain_21 : decode cX4_gain 21 = .ok (.iconst 2, 1) := by decide +kernel
theorem dX4_gain_22 : decode cX4_gain 22 = .ok (.iload_n 1, 1) := by decide +kernel
theorem dX4_gain_23 : decode cX4_gain 23 = .ok (.imul, 1) := by decide +kernel
theorem dX4_gain_24 : decode cX4_gain 24 = .ok (.iconst 2, 1) := by decide +kernel
theorem dX4_gain_25 : decode cX4_gain 25 = .ok (.iadd, 1) := by decide +kernel
theorem dX4_gain_26 : decode cX4_gain 26 = .ok (.lshl, 1) := by decide +kernel
theorem dX4_gain_27 : decode cX4_gain 27 = .ok (.lor, 1) := by decide +kernel
theorem dX4_gain_28 : decode cX4_gain 28 = .ok (.putfield 19, 3) := by decide +kernel
theorem dX4_gain_31 : decode cX4_gain 31 = .ok (.aload_n 0, 1) := by decide +kernel
theorem dX4_gain_32 : decode cX4_gain 32 = .ok (.dup, 1) := by decide +kernel
theorem dX4_gain_33 : decode cX4_gain 33 = .ok (.getfield 15, 3) := by decide +kernel
theorem dX4_gain_36 : decode cX4_gain 36 = .ok (.iconst 1, 1) := by decide +kernel
theorem dX4_gain_37 : decode cX4_gain 37 = .ok (.iadd, 1) := by decide +kernel
theorem dX4_gain_38 : decode cX4_gain 38 = .ok (.putfield 15, 3) := by decide +kernel
theorem dX4_gain_41 : decode cX4_gain 41 = .ok (.return_, 1) := by decide +kernel
theorem dX4_append_0 : decode cX4_append 0 = .ok (.aload_n 0, 1) := by decide +kernel
theorem dX4_append_1 : decode cX4_append 1 = .ok (.aload_n 0, 1) := by decide +kernel
theorem dX4_append_2 : decode cX4_append 2 = .ok (.getfield 15, 3) := by decide +kernel
theorem dX4_append_5 : decode cX4_append 5 = .ok (.iload_n 1, 1) := by decide +kernel
theorem dX4_append_6 : decode cX4_append 6 = .ok (.invokevirtual 31, 3) := by decide +kernel
theorem dX4_append_9 : decode cX4_append 9 = .ok (.return_, 1) := by decide +kernel
theorem dX4_ahead_0 : decode cX4_ahead 0 = .ok (.aload_n 0, 1) := by decide +kernel
theorem dX4_ahead_1 : decode cX4_ahead 1 = .ok (.getfield 19, 3) := by decide +kernel
theorem dX4_ahead_4 : decode cX4_ahead 4 = .ok (.lconst 1, 1) := by decide +kernel
theorem dX4_ahead_5 : decode cX4_ahead 5 = .ok (.iconst 2, 1) := by decide +kernel
theorem dX4_ahead_6 : decode cX4_ahead 6 = .ok (.iload_n 1, 1) := by decide +kernel
theorem dX4_ahead_7 : decode cX4_ahead 7 = .ok (.imul, 1) := by decide +kernel
theorem dX4_ahead_8 : decode cX4_ahead 8 = .ok (.lshl, 1) := by decide +kernel
theorem dX4_ahead_9 : decode cX4_ahead 9 = .ok (.lconst 1, 1) := by decide +kernel
theorem dX4_ahead_10 : decode cX4_ahead 10 = .ok (.lsub, 1) := by decide +kernel
theorem dX4_ahead_11 : decode cX4_ahead 11 = .ok (.land, 1) := by decide +kernel
theorem dX4_ahead_12 : decode cX4_ahead 12 = .ok (.lreturn, 1) := by decide +kernel
theorem dX4_next_0 : decode cX4_next 0 = .ok (.iload_n 2, 1) := by decide +kernel
theorem dX4_next_1 : decode cX4_next 1 = .ok (.istore_n 3, 1) := by decide +kernel
theorem dX4_next_2 : decode cX4_next 2 = .ok (.iload_n 3, 1) := by decide +kernel
theorem dX4_next_3 : decode cX4_next 3 = .ok (.aload_n 0, 1) := by decide +kernel
theorem dX4_next_4 : decode cX4_next 4 = .ok (.getfield 15, 3) := by decide +kernel
theorem dX4_next_7 : decode cX4_next 7 = .ok (.if_icmp .ge 18, 3) := by decide +kernel
theorem dX4_next_10 : decode cX4_next 10 = .ok (.aload_n 0, 1) := by decide +kernel
theorem dX4_next_11 : decode cX4_next 11 = .ok (.iload_n 3, 1) := by decide +kernel
theorem dX4_next_12 : decode cX4_next 12 = .ok (.invokevirtual 35, 3) := by decide +kernel
theorem dX4_next_15 : decode cX4_next 15 = .ok (.iload_n 1, 1) := by decide +kernel
theorem dX4_next_16 : decode cX4_next 16 = .ok (.if_icmp .eq 9, 3) := by decide +kernel
theorem dX4_next_19 : decode cX4_next 19 = .ok (.iinc 3 1, 3) := by decide +kernel
theorem dX4_next_22 : decode cX4_next 22 = .ok (.goto (-20), 3) := by decide +kernel
theorem dX4_next_25 : decode cX4_next 25 = .ok (.iload_n 3, 1) := by decide +kernel
theorem dX4_next_26 : decode cX4_next 26 = .ok (.ireturn, 1) := by decide +kernel
theorem dX5_init_0 : decode cX5_init 0 = .ok (.aload_n 0, 1) := by decide +kernel
theorem dX5_init_1 : decode cX5_init 1 = .ok (.invokespecial 3, 3) := by decide +kernel
theorem dX5_init_4 : decode cX5_init 4 = .ok (.aload_n 0, 1) := by decide +kernel
theorem dX5_init_5 : decode cX5_init 5 = .ok (.bipush 8, 2) := by decide +kernel
theorem dX5_init_7 : decode cX5_init 7 = .ok (.anewarray 9, 3) := by decide +kernel
theorem dX5_init_10 : decode cX5_init 10 = .ok (.putfield 11, 3) := by decide +kernel
theorem dX5_init_13 : decode cX5_init 13 = .ok (.iconst 0, 1) := by decide +kernel
theorem dX5_init_14 : decode cX5_init 14 = .ok (.istore_n 1, 1) := by decide +kernel
theorem dX5_init_15 : decode cX5_init 15 = .ok (.iload_n 1, 1) := by decide +kernel
theorem dX5_init_16 : decode cX5_init 16 = .ok (.bipush 8, 2) := by decide +kernel
theorem dX5_init_18 : decode cX5_init 18 = .ok (.if_icmp .ge 22, 3) := by decide +kernel
theorem dX5_init_21 : decode cX5_init 21 = .ok (.aload_n 0, 1) := by decide +kernel
theorem dX5_init_22 : decode cX5_init 22 = .ok (.getfield 11, 3) := by decide +kernel
theorem dX5_init_25 : decode cX5_init 25 = .ok (.iload_n 1, 1) := by decide +kernel
theorem dX5_init_26 : decode cX5_init 26 = .ok (.new 9, 3) := by decide +kernel
theorem dX5_init_29 : decode cX5_init 29 = .ok (.dup, 1) := by decide +kernel
theorem dX5_init_30 : decode cX5_init 30 = .ok (.invokespecial 17, 3) := by decide +kernel
theorem dX5_init_33 : decode cX5_init 33 = .ok (.aastore, 1) := by decide +kernel
theorem dX5_init_34 : decode cX5_init 34 = .ok (.iinc 1 1, 3) := by decide +kernel
theorem dX5_init_37 : decode cX5_init 37 = .ok (.goto (-22), 3) := by decide +kernel
theorem dX5_init_40 : decode cX5_init 40 = .ok (.aload_n 0, 1) := by decide +kernel
theorem dX5_init_41 : decode cX5_init 41 = .ok (.sipush 1352, 3) := by decide +kernel
theorem dX5_init_44 : decode cX5_init 44 = .ok (.newarray .int, 2) := by decide +kernel
theorem dX5_init_46 : decode cX5_init 46 = .ok (.putfield 18, 3) := by decide +kernel
theorem dX5_init_49 : decode cX5_init 49 = .ok (.aload_n 0, 1) := by decide +kernel
theorem dX5_init_50 : decode cX5_init 50 = .ok (.new 9, 3) := by decide +kernel
theorem dX5_init_53 : decode cX5_init 53 = .ok (.dup, 1) := by decide +kernel
theorem dX5_init_54 : decode cX5_init 54 = .ok (.invokespecial 17, 3) := by decide +kernel
theorem dX5_init_57 : decode cX5_init 57 = .ok (.putfield 22, 3) := by decide +kernel
theorem dX5_init_60 : decode cX5_init 60 = .ok (.aload_n 0, 1) := by decide +kernel
theorem dX5_init_61 : decode cX5_init 61 = .ok (.new 9, 3) := by decide +kernel
theorem dX5_init_64 : decode cX5_init 64 = .ok (.dup, 1) := by decide +kernel
theorem dX5_init_65 : decode cX5_init 65 = .ok (.invokespecial 17, 3) := by decide +kernel
theorem dX5_init_68 : decode cX5_init 68 = .ok (.putfield 26, 3) := by decide +kernel
theorem dX5_init_71 : decode cX5_init 71 = .ok (.return_, 1) := by decide +kernel
theorem dX5_keep_0 : decode cX5_keep 0 = .ok (.aload_n 0, 1) := by decide +kernel
theorem dX5_keep_1 : decode cX5_keep 1 = .ok (.getfield 11, 3) := by decide +kernel
theorem dX5_keep_4 : decode cX5_keep 4 = .ok (.aload_n 0, 1) := by decide +kernel
theorem dX5_keep_5 : decode cX5_keep 5 = .ok (.getfield 29, 3) := by decide +kernel
theorem dX5_keep_8 : decode cX5_keep 8 = .ok (.aaload, 1) := by decide +kernel
theorem dX5_keep_9 : decode cX5_keep 9 = .ok (.aload_n 1, 1) := by decide +kernel
theorem dX5_keep_10 : decode cX5_keep 10 = .ok (.invokevirtual 33, 3) := by decide +kernel
theorem dX5_keep_13 : decode cX5_keep 13 = .ok (.aload_n 0, 1) := by decide +kernel
theorem dX5_keep_14 : decode cX5_keep 14 = .ok (.dup, 1) := by decide +kernel
theorem dX5_keep_15 : decode cX5_keep 15 = .ok (.getfield 29, 3) := by decide +kernel
theorem dX5_keep_18 : decode cX5_keep 18 = .ok (.iconst 1, 1) := by decide +kernel
theorem dX5_keep_19 : decode cX5_keep 19 = .ok (.iadd, 1) := by decide +kernel
theorem dX5_keep_20 : decode cX5_keep 20 = .ok (.putfield 29, 3) := by decide +kernel
theorem dX5_keep_23 : decode cX5_keep 23 = .ok (.return_, 1) := by decide +kernel
theorem dX5_forget_0 : decode cX5_forget 0 = .ok (.aload_n 0, 1) := by decide +kernel
theorem dX5_forget_1 : decode cX5_forget 1 = .ok (.iconst 0, 1) := by decide +kernel
theorem dX5_forget_2 : decode cX5_forget 2 = .ok (.putfield 29, 3) := by decide +kernel
theorem dX5_forget_5 : decode cX5_forget 5 = .ok (.return_, 1) := by decide +kernel
theorem dX5_search_0 : decode cX5_search 0 = .ok (.aload_n 0, 1) := by decide +kernel
theorem dX5_search_1 : decode cX5_search 1 = .ok (.iload_n 1, 1) := by decide +kernel
theorem dX5_search_2 : decode cX5_search 2 = .ok (.putfield 37, 3) := by decide +kernel
theorem dX5_search_5 : decode cX5_search 5 = .ok (.aload_n 0, 1) := by decide +kernel
theorem dX5_search_6 : decode cX5_search 6 = .ok (.iload_n 2, 1) := by decide +kernel
theorem dX5_search_7 : decode cX5_search 7 = .ok (.putfield 40, 3) := by decide +kernel
theorem dX5_search_10 : decode cX5_search 10 = .ok (.aload_n 0, 1) := by decide +kernel
theorem dX5_search_11 : decode cX5_search 11 = .ok (.iconst 0, 1) := by decide +kernel
theorem dX5_search_12 : decode cX5_search 12 = .ok (.putfield 43, 3) := by decide +kernel
theorem dX5_search_15 : decode cX5_search 15 = .ok (.aload_n 0, 1) := by decide +kernel
theorem dX5_search_16 : decode cX5_search 16 = .ok (.lconst 0, 1) := by decide +kernel
theorem dX5_search_17 : decode cX5_search 17 = .ok (.putfield 46, 3) := by decide +kernel
theorem dX5_search_20 : decode cX5_search 20 = .ok (.aload_n 0, 1) := by decide +kernel
theorem dX5_search_21 : decode cX5_search 21 = .ok (.getfield 22, 3) := by decide +kernel
theorem dX5_search_24 : decode cX5_search 24 = .ok (.iload_n 2, 1) := by decide +kernel
theorem dX5_search_25 : decode cX5_search 25 = .ok (.lconst 0, 1) := by decide +kernel
theorem dX5_search_26 : decode cX5_search 26 = .ok (.invokevirtual 50, 3) := by decide +kernel
theorem dX5_search_29 : decode cX5_search 29 = .ok (.iconst 0, 1) := by decide +kernel
theorem dX5_search_30 : decode cX5_search 30 = .ok (.istore_n 3, 1) := by decide +kernel
theorem dX5_search_31 : decode cX5_search 31 = .ok (.iload_n 3, 1) := by decide +kernel
theorem dX5_search_32 : decode cX5_search 32 = .ok (.aload_n 0, 1) := by decide +kernel
theorem dX5_search_33 : decode cX5_search 33 = .ok (.getfield 29, 3) := by decide +kernel
theorem dX5_search_36 : decode cX5_search 36 = .ok (.if_icmp .ge 36, 3) := by decide +kernel
theorem dX5_search_39 : decode cX5_search 39 = .ok (.aload_n 0, 1) := by decide +kernel
theorem dX5_search_40 : decode cX5_search 40 = .ok (.getfield 11, 3) := by decide +kernel
theorem dX5_search_43 : decode cX5_search 43 = .ok (.iload_n 3, 1) := by decide +kernel
theorem dX5_search_44 : decode cX5_search 44 = .ok (.aaload, 1) := by decide +kernel
theorem dX5_search_45 : decode cX5_search 45 = .ok (.getfield 54, 3) := by decide +kernel
theorem dX5_search_48 : decode cX5_search 48 = .ok (.iload_n 2, 1) := by decide +kernel
theorem dX5_search_49 : decode cX5_search 49 = .ok (.if_icmp .le 5, 3) := by decide +kernel
theorem dX5_search_52 : decode cX5_search 52 = .ok (.iconst 0, 1) := by decide +kernel
theorem dX5_search_53 : decode cX5_search 53 = .ok (.ireturn, 1) := by decide +kernel
theorem dX5_search_54 : decode cX5_search 54 = .ok (.aload_n 0, 1) := by decide +kernel
theorem dX5_search_55 : decode cX5_search 55 = .ok (.getfield 18, 3) := by decide +kernel
theorem dX5_search_58 : decode cX5_search 58 = .ok (.iconst 0, 1) := by decide +kernel
theorem dX5_search_59 : decode cX5_search 59 = .ok (.iload_n 3, 1) := by decide +kernel
theorem dX5_search_60 : decode cX5_search 60 = .ok (.iconst 0, 1) := by decide +kernel
theorem dX5_search_61 : decode cX5_search 61 = .ok (.invokestatic 55, 3) := by decide +kernel
theorem dX5_search_64 : decode cX5_search 64 = .ok (.iconst 1, 1) := by decide +kernel
theorem dX5_search_65 : decode cX5_search 65 = .ok (.iastore, 1) := by decide +kernel
theorem dX5_search_66 : decode cX5_search 66 = .ok (.iinc 3 1, 3) := by decide +kernel
theorem dX5_search_69 : decode cX5_search 69 = .ok (.goto (-38), 3) := by decide +kernel
theorem dX5_search_72 : decode cX5_search 72 = .ok (.aload_n 0, 1) := by decide +kernel
theorem dX5_search_73 : decode cX5_search 73 = .ok (.iconst 0, 1) := by decide +kernel
theorem dX5_search_74 : decode cX5_search 74 = .ok (.invokevirtual 59, 3) := by decide +kernel
theorem dX5_search_77 : decode cX5_search 77 = .ok (.aload_n 0, 1) := by decide +kernel
theorem dX5_search_78 : decode cX5_search 78 = .ok (.getfield 43, 3) := by decide +kernel
theorem dX5_search_81 : decode cX5_search 81 = .ok (.ireturn, 1) := by decide +kernel
theorem dX5_cell_0 : decode cX5_cell 0 = .ok (.iload_n 0, 1) := by decide +kernel
theorem dX5_cell_1 : decode cX5_cell 1 = .ok (.bipush 8, 2) := by decide +kernel
theorem dX5_cell_3 : decode cX5_cell 3 = .ok (.imul, 1) := by decide +kernel
theorem dX5_cell_4 : decode cX5_cell 4 = .ok (.iload_n 1, 1) := by decide +kernel
theorem dX5_cell_5 : decode cX5_cell 5 = .ok (.iadd, 1) := by decide +kernel
theorem dX5_cell_6 : decode cX5_cell 6 = .ok (.bipush 13, 2) := by decide +kernel
theorem dX5_cell_8 : decode cX5_cell 8 = .ok (.imul, 1) := by decide +kernel
theorem dX5_cell_9 : decode cX5_cell 9 = .ok (.iload_n 2, 1) := by decide +kernel
theorem dX5_cell_10 : decode cX5_cell 10 = .ok (.iadd, 1) := by decide +kernel
theorem dX5_cell_11 : decode cX5_cell 11 = .ok (.ireturn, 1) := by decide +kernel
theorem dX5_explore_0 : decode cX5_explore 0 = .ok (.iload_n 1, 1) := by decide +kernel
theorem dX5_explore_1 : decode cX5_explore 1 = .ok (.aload_n 0, 1) := by decide +kernel
theorem dX5_explore_2 : decode cX5_explore 2 = .ok (.getfield 40, 3) := by decide +kernel
theorem dX5_explore_5 : decode cX5_explore 5 = .ok (.if_icmp .lt 8, 3) := by decide +kernel
theorem dX5_explore_8 : decode cX5_explore 8 = .ok (.aload_n 0, 1) := by decide +kernel
theorem dX5_explore_9 : decode cX5_explore 9 = .ok (.invokevirtual 63, 3) := by decide +kernel
theorem dX5_explore_12 : decode cX5_explore 12 = .ok (.return_, 1) := by decide +kernel
theorem dX5_explore_13 : decode cX5_explore 13 = .ok (.iconst 0, 1) := by decide +kernel
theorem dX5_explore_14 : decode cX5_explore 14 = .ok (.istore_n 2, 1) := by decide +kernel
theorem dX5_explore_15 : decode cX5_explore 15 = .ok (.iload_n 2, 1) := by decide +kernel
theorem dX5_explore_16 : decode cX5_explore 16 = .ok (.aload_n 0, 1) := by decide +kernel
theorem dX5_explore_17 : decode cX5_explore 17 = .ok (.getfield 37, 3) := by decide +kernel
theorem dX5_explore_20 : decode cX5_explore 20 = .ok (.if_icmp .ge 34, 3) := by decide +kernel
theorem dX5_explore_23 : decode cX5_explore 23 = .ok (.aload_n 0, 1) := by decide +kernel
theorem dX5_explore_24 : decode cX5_explore 24 = .ok (.iload_n 1, 1) := by decide +kernel
theorem dX5_explore_25 : decode cX5_explore 25 = .ok (.iload_n 2, 1) := by decide +kernel
theorem dX5_explore_26 : decode cX5_explore 26 = .ok (.invokevirtual 66, 3) := by decide +kernel
theorem dX5_explore_29 : decode cX5_explore 29 = .ok (.ifCond .eq 19, 3) := by decide +kernel
theorem dX5_explore_32 : decode cX5_explore 32 = .ok (.aload_n 0, 1) := by decide +kernel
theorem dX5_explore_33 : decode cX5_explore 33 = .ok (.getfield 22, 3) := by decide +kernel
theorem dX5_explore_36 : decode cX5_explore 36 = .ok (.iload_n 1, 1) := by decide +kernel
theorem dX5_explore_37 : decode cX5_explore 37 = .ok (.iload_n 2, 1) := by decide +kernel
theorem dX5_explore_38 : decode cX5_explore 38 = .ok (.invokevirtual 70, 3) := by decide +kernel
theorem dX5_explore_41 : decode cX5_explore 41 = .ok (.aload_n 0, 1) := by decide +kernel
theorem dX5_explore_42 : decode cX5_explore 42 = .ok (.iload_n 1, 1) := by decide +kernel
theorem dX5_explore_43 : decode cX5_explore 43 = .ok (.iconst 1, 1) := by decide +kernel
theorem dX5_explore_44 : decode cX5_explore 44 = .ok (.iadd, 1) := by decide +kernel
theorem dX5_explore_45 : decode cX5_explore 45 = .ok (.invokevirtual 59, 3) := by decide +kernel
theorem dX5_explore_48 : decode cX5_explore 48 = .ok (.iinc 2 1, 3) := by decide +kernel
theorem dX5_explore_51 : decode cX5_explore 51 = .ok (.goto (-36), 3) := by decide +kernel
theorem dX5_explore_54 : decode cX5_explore 54 = .ok (.return_, 1) := by decide +kernel
theorem dX5_allFollow_0 : decode cX5_allFollow 0 = .ok (.iconst 0, 1) := by decide +kernel
theorem dX5_allFollow_1 : decode cX5_allFollow 1 = .ok (.istore_n 3, 1) := by decide +kernel
theorem dX5_allFollow_2 : decode cX5_allFollow 2 = .ok (.iload_n 3, 1) := by decide +kernel
theorem dX5_allFollow_3 : decode cX5_allFollow 3 = .ok (.aload_n 0, 1) := by decide +kernel
theorem dX5_allFollow_4 : decode cX5_allFollow 4 = .ok (.getfield 29, 3) := by decide +kernel
theorem dX5_allFollow_7 : decode cX5_allFollow 7 = .ok (.if_icmp .ge 21, 3) := by decide +kernel
theorem dX5_allFollow_10 : decode cX5_allFollow 10 = .ok (.aload_n 0, 1) := by decide +kernel
theorem dX5_allFollow_11 : decode cX5_allFollow 11 = .ok (.iload_n 3, 1) := by decide +kernel
theorem dX5_allFollow_12 : decode cX5_allFollow 12 = .ok (.iload_n 1, 1) := by decide +kernel
theorem dX5_allFollow_13 : decode cX5_allFollow 13 = .ok (.iload_n 2, 1) := by decide +kernel
theorem dX5_allFollow_14 : decode cX5_allFollow 14 = .ok (.invokevirtual 74, 3) := by decide +kernel
theorem dX5_allFollow_17 : decode cX5_allFollow 17 = .ok (.ifCond .ne 5, 3) := by decide +kernel
theorem dX5_allFollow_20 : decode cX5_allFollow 20 = .ok (.iconst 0, 1) := by decide +kernel
theorem dX5_allFollow_21 : decode cX5_allFollow 21 = .ok (.ireturn, 1) := by decide +kernel
theorem dX5_allFollow_22 : decode cX5_allFollow 22 = .ok (.iinc 3 1, 3) := by decide +kernel
theorem dX5_allFollow_25 : decode cX5_allFollow 25 = .ok (.goto (-23), 3) := by decide +kernel
theorem dX5_allFollow_28 : decode cX5_allFollow 28 = .ok (.iconst 1, 1) := by decide +kernel
theorem dX5_allFollow_29 : decode cX5_allFollow 29 = .ok (.ireturn, 1) := by decide +kernel
theorem dX5_follows_0 : decode cX5_follows 0 = .ok (.aload_n 0, 1) := by decide +kernel
theorem dX5_follows_1 : decode cX5_follows 1 = .ok (.getfield 11, 3) := by decide +kernel
theorem dX5_follows_4 : decode cX5_follows 4 = .ok (.iload_n 1, 1) := by decide +kernel
theorem dX5_follows_5 : decode cX5_follows 5 = .ok (.aaload, 1) := by decide +kernel
theorem dX5_follows_6 : decode cX5_follows 6 = .ok (.astore 4, 2) := by decide +kernel
theorem dX5_follows_8 : decode cX5_follows 8 = .ok (.iconst 0, 1) := by decide +kernel
theorem dX5_follows_9 : decode cX5_follows 9 = .ok (.aload 4, 2) := by decide +kernel
theorem dX5_follows_11 : decode cX5_follows 11 = .ok (.getfield 54, 3) := by decide +kernel
theorem dX5_follows_14 : decode cX5_follows 14 = .ok (.aload_n 0, 1) := by decide +kernel
theorem dX5_follows_15 : decode cX5_follows 15 = .ok (.getfield 40, 3) := by decide +kernel
theorem dX5_follows_18 : decode cX5_follows 18 = .ok (.iload_n 2, 1) := by decide +kernel
theorem dX5_follows_19 : decode cX5_follows 19 = .ok (.isub, 1) := by decide +kernel
theorem dX5_follows_20 : decode cX5_follows 20 = .ok (.iconst 1, 1) := by decide +kernel
theorem dX5_follows_21 : decode cX5_follows 21 = .ok (.isub, 1) := by decide +kernel
theorem dX5_follows_22 : decode cX5_follows 22 = .ok (.isub, 1) := by decide +kernel
theorem dX5_follows_23 : decode cX5_follows 23 = .ok (.invokestatic 78, 3) := by decide +kernel
theorem dX5_follows_26 : decode cX5_follows 26 = .ok (.istore 5, 2) := by decide +kernel
theorem dX5_follows_28 : decode cX5_follows 28 = .ok (.aload 4, 2) := by decide +kernel
theorem dX5_follows_30 : decode cX5_follows 30 = .ok (.getfield 54, 3) := by decide +kernel
theorem dX5_follows_33 : decode cX5_follows 33 = .ok (.iload_n 2, 1) := by decide +kernel
theorem dX5_follows_34 : decode cX5_follows 34 = .ok (.iconst 1, 1) := by decide +kernel
theorem dX5_follows_35 : decode cX5_follows 35 = .ok (.iadd, 1) := by decide +kernel
theorem dX5_follows_36 : decode cX5_follows 36 = .ok (.invokestatic 84, 3) := by decide +kernel
theorem dX5_follows_39 : decode cX5_follows 39 = .ok (.istore 6, 2) := by decide +kernel
theorem dX5_follows_41 : decode cX5_follows 41 = .ok (.iload_n 2, 1) := by decide +kernel
theorem dX5_follows_42 : decode cX5_follows 42 = .ok (.iload_n 1, 1) := by decide +kernel
theorem dX5_follows_43 : decode cX5_follows 43 = .ok (.iconst 0, 1) := by decide +kernel
theorem dX5_follows_44 : decode cX5_follows 44 = .ok (.invokestatic 55, 3) := by decide +kernel
theorem dX5_follows_47 : decode cX5_follows 47 = .ok (.istore 7, 2) := by decide +kernel
theorem dX5_follows_49 : decode cX5_follows 49 = .ok (.iload_n 2, 1) := by decide +kernel
theorem dX5_follows_50 : decode cX5_follows 50 = .ok (.iconst 1, 1) := by decide +kernel
theorem dX5_follows_51 : decode cX5_follows 51 = .ok (.iadd, 1) := by decide +kernel
theorem dX5_follows_52 : decode cX5_follows 52 = .ok (.iload_n 1, 1) := by decide +kernel
theorem dX5_follows_53 : decode cX5_follows 53 = .ok (.iconst 0, 1) := by decide +kernel
theorem dX5_follows_54 : decode cX5_follows 54 = .ok (.invokestatic 55, 3) := by decide +kernel
theorem dX5_follows_57 : decode cX5_follows 57 = .ok (.istore 8, 2) := by decide +kernel
theorem dX5_follows_59 : decode cX5_follows 59 = .ok (.iload 5, 2) := by decide +kernel
theorem dX5_follows_61 : decode cX5_follows 61 = .ok (.istore 9, 2) := by decide +kernel
theorem dX5_follows_63 : decode cX5_follows 63 = .ok (.iload 9, 2) := by decide +kernel
theorem dX5_follows_65 : decode cX5_follows 65 = .ok (.iload 6, 2) := by decide +kernel
theorem dX5_follows_67 : decode cX5_follows 67 = .ok (.if_icmp .gt 78, 3) := by decide +kernel
theorem dX5_follows_70 : decode cX5_follows 70 = .ok (.iload 9, 2) := by decide +kernel
theorem dX5_follows_72 : decode cX5_follows 72 = .ok (.iload_n 2, 1) := by decide +kernel
theorem dX5_follows_73 : decode cX5_follows 73 = .ok (.if_icmp .gt 16, 3) := by decide +kernel
theorem dX5_follows_76 : decode cX5_follows 76 = .ok (.aload_n 0, 1) := by decide +kernel
theorem dX5_follows_77 : decode cX5_follows 77 = .ok (.getfield 18, 3) := by decide +kernel
theorem dX5_follows_80 : decode cX5_follows 80 = .ok (.iload 7, 2) := by decide +kernel
theorem dX5_follows_82 : decode cX5_follows 82 = .ok (.iload 9, 2) := by decide +kernel
theorem dX5_follows_84 : decode cX5_follows 84 = .ok (.iadd, 1) := by decide +kernel
theorem dX5_follows_85 : decode cX5_follows 85 = .ok (.iaload, 1) := by decide +kernel
theorem dX5_follows_86 : decode cX5_follows 86 = .ok (.goto 4, 3) := by decide +kernel
theorem dX5_follows_89 : decode cX5_follows 89 = .ok (.iconst 0, 1) := by decide +kernel
theorem dX5_follows_90 : decode cX5_follows 90 = .ok (.istore 10, 2) := by decide +kernel
theorem dX5_follows_92 : decode cX5_follows 92 = .ok (.iload 9, 2) := by decide +kernel
theorem dX5_follows_94 : decode cX5_follows 94 = .ok (.ifCond .le 33, 3) := by decide +kernel
theorem dX5_follows_97 : decode cX5_follows 97 = .ok (.aload 4, 2) := by decide +kernel
theorem dX5_follows_99 : decode cX5_follows 99 = .ok (.iload 9, 2) := by decide +kernel
theorem dX5_follows_101 : decode cX5_follows 101 = .ok (.iconst 1, 1) := by decide +kernel
theorem dX5_follows_102 : decode cX5_follows 102 = .ok (.isub, 1) := by decide +kernel
theorem dX5_follows_103 : decode cX5_follows 103 = .ok (.invokevirtual 87, 3) := by decide +kernel
theorem dX5_follows_106 : decode cX5_follows 106 = .ok (.iload_n 3, 1) := by decide +kernel
theorem dX5_follows_107 : decode cX5_follows 107 = .ok (.if_icmp .ne 20, 3) := by decide +kernel
theorem dX5_follows_110 : decode cX5_follows 110 = .ok (.iload 10, 2) := by decide +kernel
theorem dX5_follows_112 : decode cX5_follows 112 = .ok (.aload_n 0, 1) := by decide +kernel
theorem dX5_follows_113 : decode cX5_follows 113 = .ok (.getfield 18, 3) := by decide +kernel
theorem dX5_follows_116 : decode cX5_follows 116 = .ok (.iload 7, 2) := by decide +kernel
theorem dX5_follows_118 : decode cX5_follows 118 = .ok (.iload 9, 2) := by decide +kernel
theorem dX5_follows_120 : decode cX5_follows 120 = .ok (.iadd, 1) := by decide +kernel
theorem dX5_follows_121 : decode cX5_follows 121 = .ok (.iconst 1, 1) := by decide +kernel
theorem dX5_follows_122 : decode cX5_follows 122 = .ok (.isub, 1) := by decide +kernel
theorem dX5_follows_123 : decode cX5_follows 123 = .ok (.iaload, 1) := by decide +kernel
theorem dX5_follows_124 : decode cX5_follows 124 = .ok (.iadd, 1) := by decide +kernel
theorem dX5_follows_125 : decode cX5_follows 125 = .ok (.istore 10, 2) := by decide +kernel
theorem dX5_follows_127 : decode cX5_follows 127 = .ok (.aload_n 0, 1) := by decide +kernel
theorem dX5_follows_128 : decode cX5_follows 128 = .ok (.getfield 18, 3) := by decide +kernel
theorem dX5_follows_131 : decode cX5_follows 131 = .ok (.iload 8, 2) := by decide +kernel
theorem dX5_follows_133 : decode cX5_follows 133 = .ok (.iload 9, 2) := by decide +kernel
theorem dX5_follows_135 : decode cX5_follows 135 = .ok (.iadd, 1) := by decide +kernel
theorem dX5_follows_136 : decode cX5_follows 136 = .ok (.iload 10, 2) := by decide +kernel
theorem dX5_follows_138 : decode cX5_follows 138 = .ok (.iastore, 1) := by decide +kernel
theorem dX5_follows_139 : decode cX5_follows 139 = .ok (.iinc 9 1, 3) := by decide +kernel
theorem dX5_follows_142 : decode cX5_follows 142 = .ok (.goto (-79), 3) := by decide +kernel
theorem dX5_follows_145 : decode cX5_follows 145 = .ok (.aload_n 0, 1) := by decide +kernel
theorem dX5_follows_146 : decode cX5_follows 146 = .ok (.getfield 18, 3) := by decide +kernel
theorem dX5_follows_149 : decode cX5_follows 149 = .ok (.iload 8, 2) := by decide +kernel
theorem dX5_follows_151 : decode cX5_follows 151 = .ok (.iload 5, 2) := by decide +kernel
theorem dX5_follows_153 : decode cX5_follows 153 = .ok (.iadd, 1) := by decide +kernel
theorem dX5_follows_154 : decode cX5_follows 154 = .ok (.iaload, 1) := by decide +kernel
theorem dX5_follows_155 : decode cX5_follows 155 = .ok (.ifCond .le 7, 3) := by decide +kernel
theorem dX5_follows_158 : decode cX5_follows 158 = .ok (.iconst 1, 1) := by decide +kernel
theorem dX5_follows_159 : decode cX5_follows 159 = .ok (.goto 4, 3) := by decide +kernel
theorem dX5_follows_162 : decode cX5_follows 162 = .ok (.iconst 0, 1) := by decide +kernel
theorem dX5_follows_163 : decode cX5_follows 163 = .ok (.ireturn, 1) := by decide +kernel
theorem dX5_weigh_0 : decode cX5_weigh 0 = .ok (.aload_n 0, 1) := by decide +kernel
theorem dX5_weigh_1 : decode cX5_weigh 1 = .ok (.dup, 1) := by decide +kernel
theorem dX5_weigh_2 : decode cX5_weigh 2 = .ok (.getfield 43, 3) := by decide +kernel
theorem dX5_weigh_5 : decode cX5_weigh 5 = .ok (.iconst 1, 1) := by decide +kernel
theorem dX5_weigh_6 : decode cX5_weigh 6 = .ok (.iadd, 1) := by decide +kernel
theorem dX5_weigh_7 : decode cX5_weigh 7 = .ok (.putfield 43, 3) := by decide +kernel
theorem dX5_weigh_10 : decode cX5_weigh 10 = .ok (.lconst 1, 1) := by decide +kernel
theorem dX5_weigh_11 : decode cX5_weigh 11 = .ok (.lstore_n 1, 1) := by decide +kernel
theorem dX5_weigh_12 : decode cX5_weigh 12 = .ok (.iconst 0, 1) := by decide +kernel
theorem dX5_weigh_13 : decode cX5_weigh 13 = .ok (.istore_n 3, 1) := by decide +kernel
theorem dX5_weigh_14 : decode cX5_weigh 14 = .ok (.iload_n 3, 1) := by decide +kernel
theorem dX5_weigh_15 : decode cX5_weigh 15 = .ok (.aload_n 0, 1) := by decide +kernel
theorem dX5_weigh_16 : decode cX5_weigh 16 = .ok (.getfield 29, 3) := by decide +kernel
theorem dX5_weigh_19 : decode cX5_weigh 19 = .ok (.if_icmp .ge 41, 3) := by decide +kernel
theorem dX5_weigh_22 : decode cX5_weigh 22 = .ok (.ldc2_w 91, 3) := by decide +kernel
theorem dX5_weigh_25 : decode cX5_weigh 25 = .ok (.lload_n 1, 1) := by decide +kernel
theorem dX5_weigh_26 : decode cX5_weigh 26 = .ok (.aload_n 0, 1) := by decide +kernel
theorem dX5_weigh_27 : decode cX5_weigh 27 = .ok (.getfield 18, 3) := by decide +kernel
theorem dX5_weigh_30 : decode cX5_weigh 30 = .ok (.aload_n 0, 1) := by decide +kernel
theorem dX5_weigh_31 : decode cX5_weigh 31 = .ok (.getfield 40, 3) := by decide +kernel
theorem dX5_weigh_34 : decode cX5_weigh 34 = .ok (.iload_n 3, 1) := by decide +kernel
theorem dX5_weigh_35 : decode cX5_weigh 35 = .ok (.aload_n 0, 1) := by decide +kernel
theorem dX5_weigh_36 : decode cX5_weigh 36 = .ok (.getfield 11, 3) := by decide +kernel
theorem dX5_weigh_39 : decode cX5_weigh 39 = .ok (.iload_n 3, 1) := by decide +kernel
theorem dX5_weigh_40 : decode cX5_weigh 40 = .ok (.aaload, 1) := by decide +kernel
theorem dX5_weigh_41 : decode cX5_weigh 41 = .ok (.getfield 54, 3) := by decide +kernel
theorem dX5_weigh_44 : decode cX5_weigh 44 = .ok (.invokestatic 55, 3) := by decide +kernel
theorem dX5_weigh_47 : decode cX5_weigh 47 = .ok (.iaload, 1) := by decide +kernel
theorem dX5_weigh_48 : decode cX5_weigh 48 = .ok (.i2l, 1) := by decide +kernel
theorem dX5_weigh_49 : decode cX5_weigh 49 = .ok (.lmul, 1) := by decide +kernel
theorem dX5_weigh_50 : decode cX5_weigh 50 = .ok (.invokestatic 93, 3) := by decide +kernel
theorem dX5_weigh_53 : decode cX5_weigh 53 = .ok (.lstore_n 1, 1) := by decide +kernel
theorem dX5_weigh_54 : decode cX5_weigh 54 = .ok (.iinc 3 1, 3) := by decide +kernel
theorem dX5_weigh_57 : decode cX5_weigh 57 = .ok (.goto (-43), 3) := by decide +kernel
theorem dX5_weigh_60 : decode cX5_weigh 60 = .ok (.lload_n 1, 1) := by decide +kernel
theorem dX5_weigh_61 : decode cX5_weigh 61 = .ok (.aload_n 0, 1) := by decide +kernel
theorem dX5_weigh_62 : decode cX5_weigh 62 = .ok (.getfield 46, 3) := by decide +kernel
theorem dX5_weigh_65 : decode cX5_weigh 65 = .ok (.lcmp, 1) := by decide +kernel
theorem dX5_weigh_66 : decode cX5_weigh 66 = .ok (.ifCond .le 19, 3) := by decide +kernel
theorem dX5_weigh_69 : decode cX5_weigh 69 = .ok (.aload_n 0, 1) := by decide +kernel
theorem dX5_weigh_70 : decode cX5_weigh 70 = .ok (.lload_n 1, 1) := by decide +kernel
theorem dX5_weigh_71 : decode cX5_weigh 71 = .ok (.putfield 46, 3) := by decide +kernel
theorem dX5_weigh_74 : decode cX5_weigh 74 = .ok (.aload_n 0, 1) := by decide +kernel
theorem dX5_weigh_75 : decode cX5_weigh 75 = .ok (.getfield 26, 3) := by decide +kernel
theorem dX5_weigh_78 : decode cX5_weigh 78 = .ok (.aload_n 0, 1) := by decide +kernel
theorem dX5_weigh_79 : decode cX5_weigh 79 = .ok (.getfield 22, 3) := by decide +kernel
theorem dX5_weigh_82 : decode cX5_weigh 82 = .ok (.invokevirtual 33, 3) := by decide +kernel
theorem dX5_weigh_85 : decode cX5_weigh 85 = .ok (.return_, 1) := by decide +kernel
theorem dX6_init_0 : decode cX6_init 0 = .ok (.aload_n 0, 1) := by decide +kernel
theorem dX6_init_1 : decode cX6_init 1 = .ok (.invokespecial 1, 3) := by decide +kernel
theorem dX6_init_4 : decode cX6_init 4 = .ok (.aload_n 0, 1) := by decide +kernel
theorem dX6_init_5 : decode cX6_init 5 = .ok (.iconst 2, 1) := by decide +kernel
theorem dX6_init_6 : decode cX6_init 6 = .ok (.putfield 9, 3) := by decide +kernel
theorem dX6_init_9 : decode cX6_init 9 = .ok (.aload_n 0, 1) := by decide +kernel
theorem dX6_init_10 : decode cX6_init 10 = .ok (.bipush 12, 2) := by decide +kernel
theorem dX6_init_12 : decode cX6_init 12 = .ok (.anewarray 13, 3) := by decide +kernel
theorem dX6_init_15 : decode cX6_init 15 = .ok (.putfield 15, 3) := by decide +kernel
theorem dX6_init_18 : decode cX6_init 18 = .ok (.iconst 0, 1) := by decide +kernel
theorem dX6_init_19 : decode cX6_init 19 = .ok (.istore_n 1, 1) := by decide +kernel
theorem dX6_init_20 : decode cX6_init 20 = .ok (.iload_n 1, 1) := by decide +kernel
theorem dX6_init_21 : decode cX6_init 21 = .ok (.bipush 12, 2) := by decide +kernel
theorem dX6_init_23 : decode cX6_init 23 = .ok (.if_icmp .ge 22, 3) := by decide +kernel
theorem dX6_init_26 : decode cX6_init 26 = .ok (.aload_n 0, 1) := by decide +kernel
theorem dX6_init_27 : decode cX6_init 27 = .ok (.getfield 15, 3) := by decide +kernel
theorem dX6_init_30 : decode cX6_init 30 = .ok (.iload_n 1, 1) := by decide +kernel
theorem dX6_init_31 : decode cX6_init 31 = .ok (.new 13, 3) := by decide +kernel
theorem dX6_init_34 : decode cX6_init 34 = .ok (.dup, 1) := by decide +kernel
theorem dX6_init_35 : decode cX6_init 35 = .ok (.invokespecial 19, 3) := by decide +kernel
theorem dX6_init_38 : decode cX6_init 38 = .ok (.aastore, 1) := by decide +kernel
theorem dX6_init_39 : decode cX6_init 39 = .ok (.iinc 1 1, 3) := by decide +kernel
theorem dX6_init_42 : decode cX6_init 42 = .ok (.goto (-22), 3) := by decide +kernel
theorem dX6_init_45 : decode cX6_init 45 = .ok (.aload_n 0, 1) := by decide +kernel
theorem dX6_init_46 : decode cX6_init 46 = .ok (.new 20, 3) := by decide +kernel
theorem dX6_init_49 : decode cX6_init 49 = .ok (.dup, 1) := by decide +kernel
theorem dX6_init_50 : decode cX6_init 50 = .ok (.invokespecial 22, 3) := by decide +kernel
theorem dX6_init_53 : decode cX6_init 53 = .ok (.putfield 23, 3) := by decide +kernel
theorem dX6_init_56 : decode cX6_init 56 = .ok (.aload_n 0, 1) := by decide +kernel
theorem dX6_init_57 : decode cX6_init 57 = .ok (.new 27, 3) := by decide +kernel
theorem dX6_init_60 : decode cX6_init 60 = .ok (.dup, 1) := by decide +kernel
theorem dX6_init_61 : decode cX6_init 61 = .ok (.invokespecial 29, 3) := by decide +kernel
theorem dX6_init_64 : decode cX6_init 64 = .ok (.putfield 30, 3) := by decide +kernel
theorem dX6_init_67 : decode cX6_init 67 = .ok (.aload_n 0, 1) := by decide +kernel
theorem dX6_init_68 : decode cX6_init 68 = .ok (.new 34, 3) := by decide +kernel
theorem dX6_init_71 : decode cX6_init 71 = .ok (.dup, 1) := by decide +kernel
theorem dX6_init_72 : decode cX6_init 72 = .ok (.invokespecial 36, 3) := by decide +kernel
theorem dX6_init_75 : decode cX6_init 75 = .ok (.putfield 37, 3) := by decide +kernel
theorem dX6_init_78 : decode cX6_init 78 = .ok (.aload_n 0, 1) := by decide +kernel
theorem dX6_init_79 : decode cX6_init 79 = .ok (.new 41, 3) := by decide +kernel
theorem dX6_init_82 : decode cX6_init 82 = .ok (.dup, 1) := by decide +kernel
theorem dX6_init_83 : decode cX6_init 83 = .ok (.invokespecial 43, 3) := by decide +kernel
theorem dX6_init_86 : decode cX6_init 86 = .ok (.putfield 44, 3) := by decide +kernel
theorem dX6_init_89 : decode cX6_init 89 = .ok (.aload_n 0, 1) := by decide +kernel
theorem dX6_init_90 : decode cX6_init 90 = .ok (.new 48, 3) := by decide +kernel
theorem dX6_init_93 : decode cX6_init 93 = .ok (.dup, 1) := by decide +kernel
theorem dX6_init_94 : decode cX6_init 94 = .ok (.invokespecial 50, 3) := by decide +kernel
theorem dX6_init_97 : decode cX6_init 97 = .ok (.putfield 51, 3) := by decide +kernel
theorem dX6_init_100 : decode cX6_init 100 = .ok (.return_, 1) := by decide +kernel
theorem dX6_letters_0 : decode cX6_letters 0 = .ok (.iload_n 1, 1) := by decide +kernel
theorem dX6_letters_1 : decode cX6_letters 1 = .ok (.iconst 2, 1) := by decide +kernel
theorem dX6_letters_2 : decode cX6_letters 2 = .ok (.if_icmp .lt 8, 3) := by decide +kernel
theorem dX6_letters_5 : decode cX6_letters 5 = .ok (.iload_n 1, 1) := by decide +kernel
theorem dX6_letters_6 : decode cX6_letters 6 = .ok (.iconst 4, 1) := by decide +kernel
theorem dX6_letters_7 : decode cX6_letters 7 = .ok (.if_icmp .le 5, 3) := by decide +kernel
theorem dX6_letters_10 : decode cX6_letters 10 = .ok (.iconst (-1), 1) := by decide +kernel
theorem dX6_letters_11 : decode cX6_letters 11 = .ok (.ireturn, 1) := by decide +kernel
theorem dX6_letters_12 : decode cX6_letters 12 = .ok (.aload_n 0, 1) := by decide +kernel
theorem dX6_letters_13 : decode cX6_letters 13 = .ok (.iload_n 1, 1) := by decide +kernel
theorem dX6_letters_14 : decode cX6_letters 14 = .ok (.putfield 9, 3) := by decide +kernel
theorem dX6_letters_17 : decode cX6_letters 17 = .ok (.iconst 0, 1) := by decide +kernel
theorem dX6_letters_18 : decode cX6_letters 18 = .ok (.istore_n 2, 1) := by decide +kernel
theorem dX6_letters_19 : decode cX6_letters 19 = .ok (.iload_n 2, 1) := by decide +kernel
theorem dX6_letters_20 : decode cX6_letters 20 = .ok (.bipush 12, 2) := by decide +kernel
theorem dX6_letters_22 : decode cX6_letters 22 = .ok (.if_icmp .ge 18, 3) := by decide +kernel
theorem dX6_letters_25 : decode cX6_letters 25 = .ok (.aload_n 0, 1) := by decide +kernel
theorem dX6_letters_26 : decode cX6_letters 26 = .ok (.getfield 15, 3) := by decide +kernel
theorem dX6_letters_29 : decode cX6_letters 29 = .ok (.iload_n 2, 1) := by decide +kernel
theorem dX6_letters_30 : decode cX6_letters 30 = .ok (.aaload, 1) := by decide +kernel
theorem dX6_letters_31 : decode cX6_letters 31 = .ok (.invokevirtual 55, 3) := by decide +kernel
theorem dX6_letters_34 : decode cX6_letters 34 = .ok (.iinc 2 1, 3) := by decide +kernel
theorem dX6_letters_37 : decode cX6_letters 37 = .ok (.goto (-18), 3) := by decide +kernel
theorem dX6_letters_40 : decode cX6_letters 40 = .ok (.aload_n 0, 1) := by decide +kernel
theorem dX6_letters_41 : decode cX6_letters 41 = .ok (.getfield 23, 3) := by decide +kernel
theorem dX6_letters_44 : decode cX6_letters 44 = .ok (.invokevirtual 58, 3) := by decide +kernel
theorem dX6_letters_47 : decode cX6_letters 47 = .ok (.aload_n 0, 1) := by decide +kernel
theorem dX6_letters_48 : decode cX6_letters 48 = .ok (.getfield 44, 3) := by decide +kernel
theorem dX6_letters_51 : decode cX6_letters 51 = .ok (.invokevirtual 61, 3) := by decide +kernel
theorem dX6_letters_54 : decode cX6_letters 54 = .ok (.iconst 0, 1) := by decide +kernel
theorem dX6_letters_55 : decode cX6_letters 55 = .ok (.ireturn, 1) := by decide +kernel
theorem dX6_word_0 : decode cX6_word 0 = .ok (.iload_n 1, 1) := by decide +kernel
theorem dX6_word_1 : decode cX6_word 1 = .ok (.invokestatic 62, 3) := by decide +kernel
theorem dX6_word_4 : decode cX6_word 4 = .ok (.ifCond .eq 22, 3) := by decide +kernel
theorem dX6_word_7 : decode cX6_word 7 = .ok (.iload_n 2, 1) := by decide +kernel
theorem dX6_word_8 : decode cX6_word 8 = .ok (.ifCond .lt 18, 3) := by decide +kernel
theorem dX6_word_11 : decode cX6_word 11 = .ok (.iload_n 2, 1) := by decide +kernel
theorem dX6_word_12 : decode cX6_word 12 = .ok (.bipush 24, 2) := by decide +kernel
theorem dX6_word_14 : decode cX6_word 14 = .ok (.if_icmp .gt 12, 3) := by decide +kernel
theorem dX6_word_17 : decode cX6_word 17 = .ok (.aload_n 0, 1) := by decide +kernel
theorem dX6_word_18 : decode cX6_word 18 = .ok (.iload_n 2, 1) := by decide +kernel
theorem dX6_word_19 : decode cX6_word 19 = .ok (.lload_n 3, 1) := by decide +kernel
theorem dX6_word_20 : decode cX6_word 20 = .ok (.invokevirtual 66, 3) := by decide +kernel
theorem dX6_word_23 : decode cX6_word 23 = .ok (.ifCond .ne 5, 3) := by decide +kernel
theorem dX6_word_26 : decode cX6_word 26 = .ok (.iconst (-1), 1) := by decide +kernel
theorem dX6_word_27 : decode cX6_word 27 = .ok (.ireturn, 1) := by decide +kernel
theorem dX6_word_28 : decode cX6_word 28 = .ok (.aload_n 0, 1) := by decide +kernel
theorem dX6_word_29 : decode cX6_word 29 = .ok (.getfield 15, 3) := by decide +kernel
theorem dX6_word_32 : decode cX6_word 32 = .ok (.iload_n 1, 1) := by decide +kernel
theorem dX6_word_33 : decode cX6_word 33 = .ok (.aaload, 1) := by decide +kernel
theorem dX6_word_34 : decode cX6_word 34 = .ok (.iload_n 2, 1) := by decide +kernel
theorem dX6_word_35 : decode cX6_word 35 = .ok (.lload_n 3, 1) := by decide +kernel
theorem dX6_word_36 : decode cX6_word 36 = .ok (.invokevirtual 70, 3) := by decide +kernel
theorem dX6_word_39 : decode cX6_word 39 = .ok (.iload_n 2, 1) := by decide +kernel
theorem dX6_word_40 : decode cX6_word 40 = .ok (.ireturn, 1) := by decide +kernel
theorem dX6_at_0 : decode cX6_at 0 = .ok (.iload_n 1, 1) := by decide +kernel
theorem dX6_at_1 : decode cX6_at 1 = .ok (.invokestatic 62, 3) := by decide +kernel
theorem dX6_at_4 : decode cX6_at 4 = .ok (.ifCond .eq 8, 3) := by decide +kernel
theorem dX6_at_7 : decode cX6_at 7 = .ok (.iload_n 2, 1) := by decide +kernel
theorem dX6_at_8 : decode cX6_at 8 = .ok (.iconst (-1), 1) := by decide +kernel
theorem dX6_at_9 : decode cX6_at 9 = .ok (.if_icmp .ge 5, 3) := by decide +kernel
theorem dX6_at_12 : decode cX6_at 12 = .ok (.iconst (-1), 1) := by decide +kernel
theorem dX6_at_13 : decode cX6_at 13 = .ok (.ireturn, 1) := by decide +kernel
theorem dX6_at_14 : decode cX6_at 14 = .ok (.aload_n 0, 1) := by decide +kernel
theorem dX6_at_15 : decode cX6_at 15 = .ok (.getfield 15, 3) := by decide +kernel
theorem dX6_at_18 : decode cX6_at 18 = .ok (.iload_n 1, 1) := by decide +kernel
theorem dX6_at_19 : decode cX6_at 19 = .ok (.aaload, 1) := by decide +kernel
theorem dX6_at_20 : decode cX6_at 20 = .ok (.astore_n 3, 1) := by decide +kernel
theorem dX6_at_21 : decode cX6_at 21 = .ok (.iload_n 2, 1) := by decide +kernel
theorem dX6_at_22 : decode cX6_at 22 = .ok (.iconst (-1), 1) := by decide +kernel
theorem dX6_at_23 : decode cX6_at 23 = .ok (.if_icmp .ne 8, 3) := by decide +kernel
theorem dX6_at_26 : decode cX6_at 26 = .ok (.aload_n 3, 1) := by decide +kernel
theorem dX6_at_27 : decode cX6_at 27 = .ok (.getfield 74, 3) := by decide +kernel
theorem dX6_at_30 : decode cX6_at 30 = .ok (.ireturn, 1) := by decide +kernel
theorem dX6_at_31 : decode cX6_at 31 = .ok (.iload_n 2, 1) := by decide +kernel
theorem dX6_at_32 : decode cX6_at 32 = .ok (.aload_n 3, 1) := by decide +kernel
theorem dX6_at_33 : decode cX6_at 33 = .ok (.getfield 74, 3) := by decide +kernel
theorem dX6_at_36 : decode cX6_at 36 = .ok (.if_icmp .ge 11, 3) := by decide +kernel
theorem dX6_at_39 : decode cX6_at 39 = .ok (.aload_n 3, 1) := by decide +kernel
theorem dX6_at_40 : decode cX6_at 40 = .ok (.iload_n 2, 1) := by decide +kernel
theorem dX6_at_41 : decode cX6_at 41 = .ok (.invokevirtual 77, 3) := by decide +kernel
theorem dX6_at_44 : decode cX6_at 44 = .ok (.goto 5, 3) := by decide +kernel
theorem dX6_at_47 : decode cX6_at 47 = .ok (.bipush (-4), 2) := by decide +kernel
theorem dX6_at_49 : decode cX6_at 49 = .ok (.ireturn, 1) := by decide +kernel
theorem dX6_edit_0 : decode cX6_edit 0 = .ok (.iload_n 1, 1) := by decide +kernel
theorem dX6_edit_1 : decode cX6_edit 1 = .ok (.invokestatic 62, 3) := by decide +kernel
theorem dX6_edit_4 : decode cX6_edit 4 = .ok (.ifCond .eq 28, 3) := by decide +kernel
theorem dX6_edit_7 : decode cX6_edit 7 = .ok (.iload_n 2, 1) := by decide +kernel
theorem dX6_edit_8 : decode cX6_edit 8 = .ok (.invokestatic 62, 3) := by decide +kernel
theorem dX6_edit_11 : decode cX6_edit 11 = .ok (.ifCond .eq 21, 3) := by decide +kernel
theorem dX6_edit_14 : decode cX6_edit 14 = .ok (.aload_n 0, 1) := by decide +kernel
theorem dX6_edit_15 : decode cX6_edit 15 = .ok (.aload_n 0, 1) := by decide +kernel
theorem dX6_edit_16 : decode cX6_edit 16 = .ok (.getfield 15, 3) := by decide +kernel
theorem dX6_edit_19 : decode cX6_edit 19 = .ok (.iload_n 2, 1) := by decide +kernel
theorem dX6_edit_20 : decode cX6_edit 20 = .ok (.aaload, 1) := by decide +kernel
theorem dX6_edit_21 : decode cX6_edit 21 = .ok (.iload_n 3, 1) := by decide +kernel
theorem dX6_edit_22 : decode cX6_edit 22 = .ok (.iload 4, 2) := by decide +kernel
theorem dX6_edit_24 : decode cX6_edit 24 = .ok (.iload 5, 2) := by decide +kernel
theorem dX6_edit_26 : decode cX6_edit 26 = .ok (.invokevirtual 81, 3) := by decide +kernel
theorem dX6_edit_29 : decode cX6_edit 29 = .ok (.ifCond .ne 5, 3) := by decide +kernel
theorem dX6_edit_32 : decode cX6_edit 32 = .ok (.iconst (-1), 1) := by decide +kernel
theorem dX6_edit_33 : decode cX6_edit 33 = .ok (.ireturn, 1) := by decide +kernel
theorem dX6_edit_34 : decode cX6_edit 34 = .ok (.iload_n 3, 1) := by decide +kernel
theorem dX6_edit_35 : decode cX6_edit 35 = .ok (.iconst 1, 1) := by decide +kernel
theorem dX6_edit_36 : decode cX6_edit 36 = .ok (.if_icmp .ne 18, 3) := by decide +kernel
theorem dX6_edit_39 : decode cX6_edit 39 = .ok (.aload_n 0, 1) := by decide +kernel
theorem dX6_edit_40 : decode cX6_edit 40 = .ok (.getfield 15, 3) := by decide +kernel
theorem dX6_edit_43 : decode cX6_edit 43 = .ok (.iload_n 2, 1) := by decide +kernel
theorem dX6_edit_44 : decode cX6_edit 44 = .ok (.aaload, 1) := by decide +kernel
theorem dX6_edit_45 : decode cX6_edit 45 = .ok (.invokevirtual 85, 3) := by decide +kernel
theorem dX6_edit_48 : decode cX6_edit 48 = .ok (.ifCond .eq 6, 3) := by decide +kernel
theorem dX6_edit_51 : decode cX6_edit 51 = .ok (.bipush (-5), 2) := by decide +kernel
theorem dX6_edit_53 : decode cX6_edit 53 = .ok (.ireturn, 1) := by decide +kernel
theorem dX6_edit_54 : decode cX6_edit 54 = .ok (.aload_n 0, 1) := by decide +kernel
theorem dX6_edit_55 : decode cX6_edit 55 = .ok (.getfield 15, 3) := by decide +kernel
theorem dX6_edit_58 : decode cX6_edit 58 = .ok (.iload_n 1, 1) := by decide +kernel
theorem dX6_edit_59 : decode cX6_edit 59 = .ok (.aaload, 1) := by decide +kernel
theorem dX6_edit_60 : decode cX6_edit 60 = .ok (.astore 6, 2) := by decide +kernel
theorem dX6_edit_62 : decode cX6_edit 62 = .ok (.aload 6, 2) := by decide +kernel
theorem dX6_edit_64 : decode cX6_edit 64 = .ok (.aload_n 0, 1) := by decide +kernel
theorem dX6_edit_65 : decode cX6_edit 65 = .ok (.getfield 15, 3) := by decide +kernel
theorem dX6_edit_68 : decode cX6_edit 68 = .ok (.iload_n 2, 1) := by decide +kernel
theorem dX6_edit_69 : decode cX6_edit 69 = .ok (.aaload, 1) := by decide +kernel
theorem dX6_edit_70 : decode cX6_edit 70 = .ok (.invokevirtual 89, 3) := by decide +kernel
theorem dX6_edit_73 : decode cX6_edit 73 = .ok (.iload_n 3, 1) := by decide +kernel
theorem dX6_edit_74 : decode cX6_edit 74 = .ok (.ifCond .ne 13, 3) := by decide +kernel
theorem dX6_edit_77 : decode cX6_edit 77 = .ok (.aload 6, 2) := by decide +kernel
theorem dX6_edit_79 : decode cX6_edit 79 = .ok (.iload 4, 2) := by decide +kernel
theorem dX6_edit_81 : decode cX6_edit 81 = .ok (.invokevirtual 93, 3) := by decide +kernel
theorem dX6_edit_84 : decode cX6_edit 84 = .ok (.goto 29, 3) := by decide +kernel
theorem dX6_edit_87 : decode cX6_edit 87 = .ok (.iload_n 3, 1) := by decide +kernel
theorem dX6_edit_88 : decode cX6_edit 88 = .ok (.iconst 1, 1) := by decide +kernel
theorem dX6_edit_89 : decode cX6_edit 89 = .ok (.if_icmp .ne 15, 3) := by decide +kernel
theorem dX6_edit_92 : decode cX6_edit 92 = .ok (.aload 6, 2) := by decide +kernel
theorem dX6_edit_94 : decode cX6_edit 94 = .ok (.iload 4, 2) := by decide +kernel
theorem dX6_edit_96 : decode cX6_edit 96 = .ok (.iload 5, 2) := by decide +kernel
theorem dX6_edit_98 : decode cX6_edit 98 = .ok (.invokevirtual 97, 3) := by decide +kernel
theorem dX6_edit_101 : decode cX6_edit 101 = .ok (.goto 12, 3) := by decide +kernel
theorem dX6_edit_104 : decode cX6_edit 104 = .ok (.aload 6, 2) := by decide +kernel
theorem dX6_edit_106 : decode cX6_edit 106 = .ok (.iload 4, 2) := by decide +kernel
theorem dX6_edit_108 : decode cX6_edit 108 = .ok (.iload 5, 2) := by decide +kernel
theorem dX6_edit_110 : decode cX6_edit 110 = .ok (.invokevirtual 101, 3) := by decide +kernel
theorem dX6_edit_113 : decode cX6_edit 113 = .ok (.aload 6, 2) := by decide +kernel
theorem dX6_edit_115 : decode cX6_edit 115 = .ok (.getfield 74, 3) := by decide +kernel
theorem dX6_edit_118 : decode cX6_edit 118 = .ok (.ireturn, 1) := by decide +kernel
theorem dX6_code_0 : decode cX6_code 0 = .ok (.iload_n 1, 1) := by decide +kernel
theorem dX6_code_1 : decode cX6_code 1 = .ok (.iconst 1, 1) := by decide +kernel
theorem dX6_code_2 : decode cX6_code 2 = .ok (.if_icmp .lt 33, 3) := by decide +kernel
theorem dX6_code_5 : decode cX6_code 5 = .ok (.iload_n 1, 1) := by decide +kernel
theorem dX6_code_6 : decode cX6_code 6 = .ok (.bipush 16, 2) := by decide +kernel
theorem dX6_code_8 : decode cX6_code 8 = .ok (.if_icmp .gt 27, 3) := by decide +kernel
theorem dX6_code_11 : decode cX6_code 11 = .ok (.iload_n 2, 1) := by decide +kernel
theorem dX6_code_12 : decode cX6_code 12 = .ok (.iconst 1, 1) := by decide +kernel
theorem dX6_code_13 : decode cX6_code 13 = .ok (.if_icmp .lt 22, 3) := by decide +kernel
theorem dX6_code_16 : decode cX6_code 16 = .ok (.iload_n 2, 1) := by decide +kernel
theorem dX6_code_17 : decode cX6_code 17 = .ok (.bipush 64, 2) := by decide +kernel
theorem dX6_code_19 : decode cX6_code 19 = .ok (.if_icmp .gt 16, 3) := by decide +kernel
theorem dX6_code_22 : decode cX6_code 22 = .ok (.iload_n 3, 1) := by decide +kernel
theorem dX6_code_23 : decode cX6_code 23 = .ok (.ifCond .lt 12, 3) := by decide +kernel
theorem dX6_code_26 : decode cX6_code 26 = .ok (.iload_n 3, 1) := by decide +kernel
theorem dX6_code_27 : decode cX6_code 27 = .ok (.iload_n 2, 1) := by decide +kernel
theorem dX6_code_28 : decode cX6_code 28 = .ok (.if_icmp .ge 7, 3) := by decide +kernel
theorem dX6_code_31 : decode cX6_code 31 = .ok (.iconst 1, 1) := by decide +kernel
theorem dX6_code_32 : decode cX6_code 32 = .ok (.goto 4, 3) := by decide +kernel
theorem dX6_code_35 : decode cX6_code 35 = .ok (.iconst 0, 1) := by decide +kernel
theorem dX6_code_36 : decode cX6_code 36 = .ok (.istore 5, 2) := by decide +kernel
theorem dX6_code_38 : decode cX6_code 38 = .ok (.iload 5, 2) := by decide +kernel
theorem dX6_code_40 : decode cX6_code 40 = .ok (.ifCond .eq 20, 3) := by decide +kernel
theorem dX6_code_43 : decode cX6_code 43 = .ok (.aload_n 0, 1) := by decide +kernel
theorem dX6_code_44 : decode cX6_code 44 = .ok (.getfield 9, 3) := by decide +kernel
theorem dX6_code_47 : decode cX6_code 47 = .ok (.iconst 2, 1) := by decide +kernel
theorem dX6_code_48 : decode cX6_code 48 = .ok (.if_icmp .eq 14, 3) := by decide +kernel
theorem dX6_code_51 : decode cX6_code 51 = .ok (.aload_n 0, 1) := by decide +kernel
theorem dX6_code_52 : decode cX6_code 52 = .ok (.iload 4, 2) := by decide +kernel
theorem dX6_code_54 : decode cX6_code 54 = .ok (.invokevirtual 104, 3) := by decide +kernel
theorem dX6_code_57 : decode cX6_code 57 = .ok (.ifCond .ne 5, 3) := by decide +kernel
theorem dX6_code_60 : decode cX6_code 60 = .ok (.iconst (-1), 1) := by decide +kernel
theorem dX6_code_61 : decode cX6_code 61 = .ok (.ireturn, 1) := by decide +kernel
theorem dX6_code_62 : decode cX6_code 62 = .ok (.aload_n 0, 1) := by decide +kernel
theorem dX6_code_63 : decode cX6_code 63 = .ok (.getfield 23, 3) := by decide +kernel
theorem dX6_code_66 : decode cX6_code 66 = .ok (.aload_n 0, 1) := by decide +kernel
theorem dX6_code_67 : decode cX6_code 67 = .ok (.getfield 9, 3) := by decide +kernel
theorem dX6_code_70 : decode cX6_code 70 = .ok (.iload_n 1, 1) := by decide +kernel
theorem dX6_code_71 : decode cX6_code 71 = .ok (.iload_n 2, 1) := by decide +kernel
theorem dX6_code_72 : decode cX6_code 72 = .ok (.iload_n 3, 1) := by decide +kernel
theorem dX6_code_73 : decode cX6_code 73 = .ok (.iload 4, 2) := by decide +kernel
theorem dX6_code_75 : decode cX6_code 75 = .ok (.invokevirtual 107, 3) := by decide +kernel
theorem dX6_code_78 : decode cX6_code 78 = .ok (.aload_n 0, 1) := by decide +kernel
theorem dX6_code_79 : decode cX6_code 79 = .ok (.getfield 23, 3) := by decide +kernel
theorem dX6_code_82 : decode cX6_code 82 = .ok (.getfield 111, 3) := by decide +kernel
theorem dX6_code_85 : decode cX6_code 85 = .ok (.ireturn, 1) := by decide +kernel
theorem dX6_sum_0 : decode cX6_sum 0 = .ok (.iload_n 1, 1) := by decide +kernel
theorem dX6_sum_1 : decode cX6_sum 1 = .ok (.invokestatic 62, 3) := by decide +kernel
theorem dX6_sum_4 : decode cX6_sum 4 = .ok (.ifCond .ne 5, 3) := by decide +kernel
theorem dX6_sum_7 : decode cX6_sum 7 = .ok (.iconst (-1), 1) := by decide +kernel
theorem dX6_sum_8 : decode cX6_sum 8 = .ok (.ireturn, 1) := by decide +kernel
theorem dX6_sum_9 : decode cX6_sum 9 = .ok (.aload_n 0, 1) := by decide +kernel
theorem dX6_sum_10 : decode cX6_sum 10 = .ok (.getfield 23, 3) := by decide +kernel
theorem dX6_sum_13 : decode cX6_sum 13 = .ok (.invokevirtual 112, 3) := by decide +kernel
theorem dX6_sum_16 : decode cX6_sum 16 = .ok (.ifCond .eq 19, 3) := by decide +kernel
theorem dX6_sum_19 : decode cX6_sum 19 = .ok (.aload_n 0, 1) := by decide +kernel
theorem dX6_sum_20 : decode cX6_sum 20 = .ok (.getfield 23, 3) := by decide +kernel
theorem dX6_sum_23 : decode cX6_sum 23 = .ok (.aload_n 0, 1) := by decide +kernel
theorem dX6_sum_24 : decode cX6_sum 24 = .ok (.getfield 15, 3) := by decide +kernel
theorem dX6_sum_27 : decode cX6_sum 27 = .ok (.iload_n 1, 1) := by decide +kernel
theorem dX6_sum_28 : decode cX6_sum 28 = .ok (.aaload, 1) := by decide +kernel
theorem dX6_sum_29 : decode cX6_sum 29 = .ok (.invokevirtual 115, 3) := by decide +kernel
theorem dX6_sum_32 : decode cX6_sum 32 = .ok (.goto 5, 3) := by decide +kernel
theorem dX6_sum_35 : decode cX6_sum 35 = .ok (.bipush (-2), 2) := by decide +kernel
theorem dX6_sum_37 : decode cX6_sum 37 = .ok (.ireturn, 1) := by decide +kernel
theorem dX6_isOf_0 : decode cX6_isOf 0 = .ok (.iload_n 1, 1) := by decide +kernel
end
section
theorem dX6_isOf_1 : decode cX6_isOf 1 = .ok (.invokestatic 62, 3) := by decide +kernel
theorem dX6_isOf_4 : decode cX6_isOf 4 = .ok (.ifCond .ne 5, 3) := by decide +kernel
theorem dX6_isOf_7 : decode cX6_isOf 7 = .ok (.iconst (-1), 1) := by decide +kernel
theorem dX6_isOf_8 : decode cX6_isOf 8 = .ok (.ireturn, 1) := by decide +kernel
theorem dX6_isOf_9 : decode cX6_isOf 9 = .ok (.aload_n 0, 1) := by decide +kernel
theorem dX6_isOf_10 : decode cX6_isOf 10 = .ok (.getfield 23, 3) := by decide +kernel
theorem dX6_isOf_13 : decode cX6_isOf 13 = .ok (.invokevirtual 112, 3) := by decide +kernel
theorem dX6_isOf_16 : decode cX6_isOf 16 = .ok (.ifCond .ne 6, 3) := by decide +kernel
theorem dX6_isOf_19 : decode cX6_isOf 19 = .ok (.bipush (-2), 2) := by decide +kernel
theorem dX6_isOf_21 : decode cX6_isOf 21 = .ok (.ireturn, 1) := by decide +kernel
theorem dX6_isOf_22 : decode cX6_isOf 22 = .ok (.aload_n 0, 1) := by decide +kernel
theorem dX6_isOf_23 : decode cX6_isOf 23 = .ok (.getfield 23, 3) := by decide +kernel
theorem dX6_isOf_26 : decode cX6_isOf 26 = .ok (.aload_n 0, 1) := by decide +kernel
theorem dX6_isOf_27 : decode cX6_isOf 27 = .ok (.getfield 15, 3) := by decide +kernel
theorem dX6_isOf_30 : decode cX6_isOf 30 = .ok (.iload_n 1, 1) := by decide +kernel
theorem dX6_isOf_31 : decode cX6_isOf 31 = .ok (.aaload, 1) := by decide +kernel
theorem dX6_isOf_32 : decode cX6_isOf 32 = .ok (.invokevirtual 119, 3) := by decide +kernel
theorem dX6_isOf_35 : decode cX6_isOf 35 = .ok (.ifCond .eq 7, 3) := by decide +kernel
theorem dX6_isOf_38 : decode cX6_isOf 38 = .ok (.iconst 1, 1) := by decide +kernel
theorem dX6_isOf_39 : decode cX6_isOf 39 = .ok (.goto 4, 3) := by decide +kernel
theorem dX6_isOf_42 : decode cX6_isOf 42 = .ok (.iconst 0, 1) := by decide +kernel
theorem dX6_isOf_43 : decode cX6_isOf 43 = .ok (.ireturn, 1) := by decide +kernel
theorem dX6_listed_0 : decode cX6_listed 0 = .ok (.iload_n 1, 1) := by decide +kernel
theorem dX6_listed_1 : decode cX6_listed 1 = .ok (.invokestatic 62, 3) := by decide +kernel
theorem dX6_listed_4 : decode cX6_listed 4 = .ok (.ifCond .eq 7, 3) := by decide +kernel
theorem dX6_listed_7 : decode cX6_listed 7 = .ok (.iload_n 2, 1) := by decide +kernel
theorem dX6_listed_8 : decode cX6_listed 8 = .ok (.ifCond .ge 5, 3) := by decide +kernel
theorem dX6_listed_11 : decode cX6_listed 11 = .ok (.iconst (-1), 1) := by decide +kernel
theorem dX6_listed_12 : decode cX6_listed 12 = .ok (.ireturn, 1) := by decide +kernel
theorem dX6_listed_13 : decode cX6_listed 13 = .ok (.aload_n 0, 1) := by decide +kernel
theorem dX6_listed_14 : decode cX6_listed 14 = .ok (.getfield 23, 3) := by decide +kernel
theorem dX6_listed_17 : decode cX6_listed 17 = .ok (.invokevirtual 112, 3) := by decide +kernel
theorem dX6_listed_20 : decode cX6_listed 20 = .ok (.ifCond .ne 6, 3) := by decide +kernel
theorem dX6_listed_23 : decode cX6_listed 23 = .ok (.bipush (-2), 2) := by decide +kernel
theorem dX6_listed_25 : decode cX6_listed 25 = .ok (.ireturn, 1) := by decide +kernel
theorem dX6_listed_26 : decode cX6_listed 26 = .ok (.iload_n 2, 1) := by decide +kernel
theorem dX6_listed_27 : decode cX6_listed 27 = .ok (.aload_n 0, 1) := by decide +kernel
theorem dX6_listed_28 : decode cX6_listed 28 = .ok (.getfield 23, 3) := by decide +kernel
theorem dX6_listed_31 : decode cX6_listed 31 = .ok (.getfield 111, 3) := by decide +kernel
theorem dX6_listed_34 : decode cX6_listed 34 = .ok (.if_icmp .lt 6, 3) := by decide +kernel
theorem dX6_listed_37 : decode cX6_listed 37 = .ok (.bipush (-4), 2) := by decide +kernel
theorem dX6_listed_39 : decode cX6_listed 39 = .ok (.ireturn, 1) := by decide +kernel
theorem dX6_listed_40 : decode cX6_listed 40 = .ok (.aload_n 0, 1) := by decide +kernel
theorem dX6_listed_41 : decode cX6_listed 41 = .ok (.getfield 23, 3) := by decide +kernel
theorem dX6_listed_44 : decode cX6_listed 44 = .ok (.iload_n 2, 1) := by decide +kernel
theorem dX6_listed_45 : decode cX6_listed 45 = .ok (.aload_n 0, 1) := by decide +kernel
theorem dX6_listed_46 : decode cX6_listed 46 = .ok (.getfield 15, 3) := by decide +kernel
theorem dX6_listed_49 : decode cX6_listed 49 = .ok (.iload_n 1, 1) := by decide +kernel
theorem dX6_listed_50 : decode cX6_listed 50 = .ok (.aaload, 1) := by decide +kernel
theorem dX6_listed_51 : decode cX6_listed 51 = .ok (.invokevirtual 123, 3) := by decide +kernel
theorem dX6_listed_54 : decode cX6_listed 54 = .ok (.aload_n 0, 1) := by decide +kernel
theorem dX6_listed_55 : decode cX6_listed 55 = .ok (.getfield 15, 3) := by decide +kernel
theorem dX6_listed_58 : decode cX6_listed 58 = .ok (.iload_n 1, 1) := by decide +kernel
theorem dX6_listed_59 : decode cX6_listed 59 = .ok (.aaload, 1) := by decide +kernel
theorem dX6_listed_60 : decode cX6_listed 60 = .ok (.getfield 74, 3) := by decide +kernel
theorem dX6_listed_63 : decode cX6_listed 63 = .ok (.ireturn, 1) := by decide +kernel
theorem dX6_mend_0 : decode cX6_mend 0 = .ok (.iload_n 1, 1) := by decide +kernel
theorem dX6_mend_1 : decode cX6_mend 1 = .ok (.invokestatic 62, 3) := by decide +kernel
theorem dX6_mend_4 : decode cX6_mend 4 = .ok (.ifCond .eq 10, 3) := by decide +kernel
theorem dX6_mend_7 : decode cX6_mend 7 = .ok (.iload_n 2, 1) := by decide +kernel
theorem dX6_mend_8 : decode cX6_mend 8 = .ok (.invokestatic 62, 3) := by decide +kernel
theorem dX6_mend_11 : decode cX6_mend 11 = .ok (.ifCond .ne 5, 3) := by decide +kernel
theorem dX6_mend_14 : decode cX6_mend 14 = .ok (.iconst (-1), 1) := by decide +kernel
theorem dX6_mend_15 : decode cX6_mend 15 = .ok (.ireturn, 1) := by decide +kernel
theorem dX6_mend_16 : decode cX6_mend 16 = .ok (.aload_n 0, 1) := by decide +kernel
theorem dX6_mend_17 : decode cX6_mend 17 = .ok (.getfield 23, 3) := by decide +kernel
theorem dX6_mend_20 : decode cX6_mend 20 = .ok (.invokevirtual 112, 3) := by decide +kernel
theorem dX6_mend_23 : decode cX6_mend 23 = .ok (.ifCond .ne 6, 3) := by decide +kernel
theorem dX6_mend_26 : decode cX6_mend 26 = .ok (.bipush (-2), 2) := by decide +kernel
theorem dX6_mend_28 : decode cX6_mend 28 = .ok (.ireturn, 1) := by decide +kernel
theorem dX6_mend_29 : decode cX6_mend 29 = .ok (.aload_n 0, 1) := by decide +kernel
theorem dX6_mend_30 : decode cX6_mend 30 = .ok (.getfield 23, 3) := by decide +kernel
theorem dX6_mend_33 : decode cX6_mend 33 = .ok (.aload_n 0, 1) := by decide +kernel
theorem dX6_mend_34 : decode cX6_mend 34 = .ok (.getfield 15, 3) := by decide +kernel
theorem dX6_mend_37 : decode cX6_mend 37 = .ok (.iload_n 2, 1) := by decide +kernel
theorem dX6_mend_38 : decode cX6_mend 38 = .ok (.aaload, 1) := by decide +kernel
theorem dX6_mend_39 : decode cX6_mend 39 = .ok (.invokevirtual 119, 3) := by decide +kernel
theorem dX6_mend_42 : decode cX6_mend 42 = .ok (.ifCond .eq 20, 3) := by decide +kernel
theorem dX6_mend_45 : decode cX6_mend 45 = .ok (.aload_n 0, 1) := by decide +kernel
theorem dX6_mend_46 : decode cX6_mend 46 = .ok (.getfield 15, 3) := by decide +kernel
theorem dX6_mend_49 : decode cX6_mend 49 = .ok (.iload_n 1, 1) := by decide +kernel
theorem dX6_mend_50 : decode cX6_mend 50 = .ok (.aaload, 1) := by decide +kernel
theorem dX6_mend_51 : decode cX6_mend 51 = .ok (.aload_n 0, 1) := by decide +kernel
theorem dX6_mend_52 : decode cX6_mend 52 = .ok (.getfield 15, 3) := by decide +kernel
theorem dX6_mend_55 : decode cX6_mend 55 = .ok (.iload_n 2, 1) := by decide +kernel
theorem dX6_mend_56 : decode cX6_mend 56 = .ok (.aaload, 1) := by decide +kernel
theorem dX6_mend_57 : decode cX6_mend 57 = .ok (.invokevirtual 89, 3) := by decide +kernel
theorem dX6_mend_60 : decode cX6_mend 60 = .ok (.iconst 0, 1) := by decide +kernel
theorem dX6_mend_61 : decode cX6_mend 61 = .ok (.ireturn, 1) := by decide +kernel
theorem dX6_mend_62 : decode cX6_mend 62 = .ok (.aload_n 0, 1) := by decide +kernel
theorem dX6_mend_63 : decode cX6_mend 63 = .ok (.getfield 23, 3) := by decide +kernel
theorem dX6_mend_66 : decode cX6_mend 66 = .ok (.aload_n 0, 1) := by decide +kernel
theorem dX6_mend_67 : decode cX6_mend 67 = .ok (.getfield 15, 3) := by decide +kernel
theorem dX6_mend_70 : decode cX6_mend 70 = .ok (.iload_n 2, 1) := by decide +kernel
theorem dX6_mend_71 : decode cX6_mend 71 = .ok (.aaload, 1) := by decide +kernel
theorem dX6_mend_72 : decode cX6_mend 72 = .ok (.invokevirtual 127, 3) := by decide +kernel
theorem dX6_mend_75 : decode cX6_mend 75 = .ok (.iconst 1, 1) := by decide +kernel
theorem dX6_mend_76 : decode cX6_mend 76 = .ok (.if_icmp .eq 6, 3) := by decide +kernel
theorem dX6_mend_79 : decode cX6_mend 79 = .ok (.bipush (-4), 2) := by decide +kernel
theorem dX6_mend_81 : decode cX6_mend 81 = .ok (.ireturn, 1) := by decide +kernel
theorem dX6_mend_82 : decode cX6_mend 82 = .ok (.aload_n 0, 1) := by decide +kernel
theorem dX6_mend_83 : decode cX6_mend 83 = .ok (.getfield 15, 3) := by decide +kernel
theorem dX6_mend_86 : decode cX6_mend 86 = .ok (.iload_n 1, 1) := by decide +kernel
theorem dX6_mend_87 : decode cX6_mend 87 = .ok (.aaload, 1) := by decide +kernel
theorem dX6_mend_88 : decode cX6_mend 88 = .ok (.aload_n 0, 1) := by decide +kernel
theorem dX6_mend_89 : decode cX6_mend 89 = .ok (.getfield 23, 3) := by decide +kernel
theorem dX6_mend_92 : decode cX6_mend 92 = .ok (.getfield 130, 3) := by decide +kernel
theorem dX6_mend_95 : decode cX6_mend 95 = .ok (.invokevirtual 89, 3) := by decide +kernel
theorem dX6_mend_98 : decode cX6_mend 98 = .ok (.iconst 1, 1) := by decide +kernel
theorem dX6_mend_99 : decode cX6_mend 99 = .ok (.ireturn, 1) := by decide +kernel
theorem dX6_near_0 : decode cX6_near 0 = .ok (.iload_n 1, 1) := by decide +kernel
theorem dX6_near_1 : decode cX6_near 1 = .ok (.invokestatic 62, 3) := by decide +kernel
theorem dX6_near_4 : decode cX6_near 4 = .ok (.ifCond .ne 5, 3) := by decide +kernel
theorem dX6_near_7 : decode cX6_near 7 = .ok (.iconst (-1), 1) := by decide +kernel
theorem dX6_near_8 : decode cX6_near 8 = .ok (.ireturn, 1) := by decide +kernel
theorem dX6_near_9 : decode cX6_near 9 = .ok (.aload_n 0, 1) := by decide +kernel
theorem dX6_near_10 : decode cX6_near 10 = .ok (.getfield 23, 3) := by decide +kernel
theorem dX6_near_13 : decode cX6_near 13 = .ok (.invokevirtual 112, 3) := by decide +kernel
theorem dX6_near_16 : decode cX6_near 16 = .ok (.ifCond .ne 6, 3) := by decide +kernel
theorem dX6_near_19 : decode cX6_near 19 = .ok (.bipush (-2), 2) := by decide +kernel
theorem dX6_near_21 : decode cX6_near 21 = .ok (.ireturn, 1) := by decide +kernel
theorem dX6_near_22 : decode cX6_near 22 = .ok (.aload_n 0, 1) := by decide +kernel
theorem dX6_near_23 : decode cX6_near 23 = .ok (.getfield 23, 3) := by decide +kernel
theorem dX6_near_26 : decode cX6_near 26 = .ok (.aload_n 0, 1) := by decide +kernel
theorem dX6_near_27 : decode cX6_near 27 = .ok (.getfield 15, 3) := by decide +kernel
theorem dX6_near_30 : decode cX6_near 30 = .ok (.iload_n 1, 1) := by decide +kernel
theorem dX6_near_31 : decode cX6_near 31 = .ok (.aaload, 1) := by decide +kernel
theorem dX6_near_32 : decode cX6_near 32 = .ok (.invokevirtual 127, 3) := by decide +kernel
theorem dX6_near_35 : decode cX6_near 35 = .ok (.aload_n 0, 1) := by decide +kernel
theorem dX6_near_36 : decode cX6_near 36 = .ok (.getfield 23, 3) := by decide +kernel
theorem dX6_near_39 : decode cX6_near 39 = .ok (.aload_n 0, 1) := by decide +kernel
theorem dX6_near_40 : decode cX6_near 40 = .ok (.getfield 15, 3) := by decide +kernel
theorem dX6_near_43 : decode cX6_near 43 = .ok (.iload_n 1, 1) := by decide +kernel
theorem dX6_near_44 : decode cX6_near 44 = .ok (.aaload, 1) := by decide +kernel
theorem dX6_near_45 : decode cX6_near 45 = .ok (.invokevirtual 119, 3) := by decide +kernel
theorem dX6_near_48 : decode cX6_near 48 = .ok (.ifCond .eq 7, 3) := by decide +kernel
theorem dX6_near_51 : decode cX6_near 51 = .ok (.iconst 1, 1) := by decide +kernel
theorem dX6_near_52 : decode cX6_near 52 = .ok (.goto 4, 3) := by decide +kernel
theorem dX6_near_55 : decode cX6_near 55 = .ok (.iconst 0, 1) := by decide +kernel
theorem dX6_near_56 : decode cX6_near 56 = .ok (.iadd, 1) := by decide +kernel
theorem dX6_near_57 : decode cX6_near 57 = .ok (.ireturn, 1) := by decide +kernel
theorem dX6_liesIn_0 : decode cX6_liesIn 0 = .ok (.iload_n 1, 1) := by decide +kernel
theorem dX6_liesIn_1 : decode cX6_liesIn 1 = .ok (.invokestatic 62, 3) := by decide +kernel
theorem dX6_liesIn_4 : decode cX6_liesIn 4 = .ok (.ifCond .eq 10, 3) := by decide +kernel
theorem dX6_liesIn_7 : decode cX6_liesIn 7 = .ok (.iload_n 2, 1) := by decide +kernel
theorem dX6_liesIn_8 : decode cX6_liesIn 8 = .ok (.invokestatic 62, 3) := by decide +kernel
theorem dX6_liesIn_11 : decode cX6_liesIn 11 = .ok (.ifCond .ne 7, 3) := by decide +kernel
theorem dX6_liesIn_14 : decode cX6_liesIn 14 = .ok (.ldc2_w 134, 3) := by decide +kernel
theorem dX6_liesIn_17 : decode cX6_liesIn 17 = .ok (.lreturn, 1) := by decide +kernel
theorem dX6_liesIn_18 : decode cX6_liesIn 18 = .ok (.aload_n 0, 1) := by decide +kernel
theorem dX6_liesIn_19 : decode cX6_liesIn 19 = .ok (.getfield 30, 3) := by decide +kernel
theorem dX6_liesIn_22 : decode cX6_liesIn 22 = .ok (.aload_n 0, 1) := by decide +kernel
theorem dX6_liesIn_23 : decode cX6_liesIn 23 = .ok (.getfield 15, 3) := by decide +kernel
theorem dX6_liesIn_26 : decode cX6_liesIn 26 = .ok (.iload_n 1, 1) := by decide +kernel
theorem dX6_liesIn_27 : decode cX6_liesIn 27 = .ok (.aaload, 1) := by decide +kernel
theorem dX6_liesIn_28 : decode cX6_liesIn 28 = .ok (.aload_n 0, 1) := by decide +kernel
theorem dX6_liesIn_29 : decode cX6_liesIn 29 = .ok (.getfield 15, 3) := by decide +kernel
theorem dX6_liesIn_32 : decode cX6_liesIn 32 = .ok (.iload_n 2, 1) := by decide +kernel
theorem dX6_liesIn_33 : decode cX6_liesIn 33 = .ok (.aaload, 1) := by decide +kernel
theorem dX6_liesIn_34 : decode cX6_liesIn 34 = .ok (.invokevirtual 136, 3) := by decide +kernel
theorem dX6_liesIn_37 : decode cX6_liesIn 37 = .ok (.lreturn, 1) := by decide +kernel
theorem dX6_common_0 : decode cX6_common 0 = .ok (.iload_n 1, 1) := by decide +kernel
theorem dX6_common_1 : decode cX6_common 1 = .ok (.invokestatic 62, 3) := by decide +kernel
theorem dX6_common_4 : decode cX6_common 4 = .ok (.ifCond .eq 17, 3) := by decide +kernel
theorem dX6_common_7 : decode cX6_common 7 = .ok (.iload_n 2, 1) := by decide +kernel
theorem dX6_common_8 : decode cX6_common 8 = .ok (.invokestatic 62, 3) := by decide +kernel
theorem dX6_common_11 : decode cX6_common 11 = .ok (.ifCond .eq 10, 3) := by decide +kernel
theorem dX6_common_14 : decode cX6_common 14 = .ok (.iload_n 3, 1) := by decide +kernel
theorem dX6_common_15 : decode cX6_common 15 = .ok (.invokestatic 62, 3) := by decide +kernel
theorem dX6_common_18 : decode cX6_common 18 = .ok (.ifCond .ne 5, 3) := by decide +kernel
theorem dX6_common_21 : decode cX6_common 21 = .ok (.iconst (-1), 1) := by decide +kernel
theorem dX6_common_22 : decode cX6_common 22 = .ok (.ireturn, 1) := by decide +kernel
theorem dX6_common_23 : decode cX6_common 23 = .ok (.aload_n 0, 1) := by decide +kernel
theorem dX6_common_24 : decode cX6_common 24 = .ok (.getfield 37, 3) := by decide +kernel
theorem dX6_common_27 : decode cX6_common 27 = .ok (.aload_n 0, 1) := by decide +kernel
theorem dX6_common_28 : decode cX6_common 28 = .ok (.getfield 15, 3) := by decide +kernel
theorem dX6_common_31 : decode cX6_common 31 = .ok (.iload_n 2, 1) := by decide +kernel
theorem dX6_common_32 : decode cX6_common 32 = .ok (.aaload, 1) := by decide +kernel
theorem dX6_common_33 : decode cX6_common 33 = .ok (.aload_n 0, 1) := by decide +kernel
theorem dX6_common_34 : decode cX6_common 34 = .ok (.getfield 15, 3) := by decide +kernel
theorem dX6_common_37 : decode cX6_common 37 = .ok (.iload_n 3, 1) := by decide +kernel
theorem dX6_common_38 : decode cX6_common 38 = .ok (.aaload, 1) := by decide +kernel
theorem dX6_common_39 : decode cX6_common 39 = .ok (.invokevirtual 140, 3) := by decide +kernel
theorem dX6_common_42 : decode cX6_common 42 = .ok (.istore 4, 2) := by decide +kernel
theorem dX6_common_44 : decode cX6_common 44 = .ok (.aload_n 0, 1) := by decide +kernel
theorem dX6_common_45 : decode cX6_common 45 = .ok (.getfield 15, 3) := by decide +kernel
theorem dX6_common_48 : decode cX6_common 48 = .ok (.iload_n 1, 1) := by decide +kernel
theorem dX6_common_49 : decode cX6_common 49 = .ok (.aaload, 1) := by decide +kernel
theorem dX6_common_50 : decode cX6_common 50 = .ok (.aload_n 0, 1) := by decide +kernel
theorem dX6_common_51 : decode cX6_common 51 = .ok (.getfield 37, 3) := by decide +kernel
theorem dX6_common_54 : decode cX6_common 54 = .ok (.aload_n 0, 1) := by decide +kernel
theorem dX6_common_55 : decode cX6_common 55 = .ok (.getfield 15, 3) := by decide +kernel
theorem dX6_common_58 : decode cX6_common 58 = .ok (.iload_n 2, 1) := by decide +kernel
theorem dX6_common_59 : decode cX6_common 59 = .ok (.aaload, 1) := by decide +kernel
theorem dX6_common_60 : decode cX6_common 60 = .ok (.aload_n 0, 1) := by decide +kernel
theorem dX6_common_61 : decode cX6_common 61 = .ok (.getfield 15, 3) := by decide +kernel
theorem dX6_common_64 : decode cX6_common 64 = .ok (.iload_n 3, 1) := by decide +kernel
theorem dX6_common_65 : decode cX6_common 65 = .ok (.aaload, 1) := by decide +kernel
theorem dX6_common_66 : decode cX6_common 66 = .ok (.aload_n 0, 1) := by decide +kernel
theorem dX6_common_67 : decode cX6_common 67 = .ok (.getfield 9, 3) := by decide +kernel
theorem dX6_common_70 : decode cX6_common 70 = .ok (.invokevirtual 144, 3) := by decide +kernel
theorem dX6_common_73 : decode cX6_common 73 = .ok (.invokevirtual 89, 3) := by decide +kernel
theorem dX6_common_76 : decode cX6_common 76 = .ok (.iload 4, 2) := by decide +kernel
theorem dX6_common_78 : decode cX6_common 78 = .ok (.ireturn, 1) := by decide +kernel
theorem dX6_commons_0 : decode cX6_commons 0 = .ok (.iload_n 1, 1) := by decide +kernel
theorem dX6_commons_1 : decode cX6_commons 1 = .ok (.invokestatic 62, 3) := by decide +kernel
theorem dX6_commons_4 : decode cX6_commons 4 = .ok (.ifCond .eq 10, 3) := by decide +kernel
theorem dX6_commons_7 : decode cX6_commons 7 = .ok (.iload_n 2, 1) := by decide +kernel
theorem dX6_commons_8 : decode cX6_commons 8 = .ok (.invokestatic 62, 3) := by decide +kernel
theorem dX6_commons_11 : decode cX6_commons 11 = .ok (.ifCond .ne 7, 3) := by decide +kernel
theorem dX6_commons_14 : decode cX6_commons 14 = .ok (.ldc2_w 134, 3) := by decide +kernel
theorem dX6_commons_17 : decode cX6_commons 17 = .ok (.lreturn, 1) := by decide +kernel
theorem dX6_commons_18 : decode cX6_commons 18 = .ok (.aload_n 0, 1) := by decide +kernel
theorem dX6_commons_19 : decode cX6_commons 19 = .ok (.getfield 37, 3) := by decide +kernel
theorem dX6_commons_22 : decode cX6_commons 22 = .ok (.aload_n 0, 1) := by decide +kernel
theorem dX6_commons_23 : decode cX6_commons 23 = .ok (.getfield 15, 3) := by decide +kernel
theorem dX6_commons_26 : decode cX6_commons 26 = .ok (.iload_n 1, 1) := by decide +kernel
theorem dX6_commons_27 : decode cX6_commons 27 = .ok (.aaload, 1) := by decide +kernel
theorem dX6_commons_28 : decode cX6_commons 28 = .ok (.aload_n 0, 1) := by decide +kernel
theorem dX6_commons_29 : decode cX6_commons 29 = .ok (.getfield 15, 3) := by decide +kernel
theorem dX6_commons_32 : decode cX6_commons 32 = .ok (.iload_n 2, 1) := by decide +kernel
theorem dX6_commons_33 : decode cX6_commons 33 = .ok (.aaload, 1) := by decide +kernel
theorem dX6_commons_34 : decode cX6_commons 34 = .ok (.invokevirtual 140, 3) := by decide +kernel
theorem dX6_commons_37 : decode cX6_commons 37 = .ok (.pop, 1) := by decide +kernel
theorem dX6_commons_38 : decode cX6_commons 38 = .ok (.aload_n 0, 1) := by decide +kernel
theorem dX6_commons_39 : decode cX6_commons 39 = .ok (.getfield 37, 3) := by decide +kernel
theorem dX6_commons_42 : decode cX6_commons 42 = .ok (.aload_n 0, 1) := by decide +kernel
theorem dX6_commons_43 : decode cX6_commons 43 = .ok (.getfield 15, 3) := by decide +kernel
theorem dX6_commons_46 : decode cX6_commons 46 = .ok (.iload_n 1, 1) := by decide +kernel
theorem dX6_commons_47 : decode cX6_commons 47 = .ok (.aaload, 1) := by decide +kernel
theorem dX6_commons_48 : decode cX6_commons 48 = .ok (.aload_n 0, 1) := by decide +kernel
theorem dX6_commons_49 : decode cX6_commons 49 = .ok (.getfield 15, 3) := by decide +kernel
theorem dX6_commons_52 : decode cX6_commons 52 = .ok (.iload_n 2, 1) := by decide +kernel
theorem dX6_commons_53 : decode cX6_commons 53 = .ok (.aaload, 1) := by decide +kernel
theorem dX6_commons_54 : decode cX6_commons 54 = .ok (.aload_n 0, 1) := by decide +kernel
theorem dX6_commons_55 : decode cX6_commons 55 = .ok (.getfield 9, 3) := by decide +kernel
theorem dX6_commons_58 : decode cX6_commons 58 = .ok (.invokevirtual 148, 3) := by decide +kernel
theorem dX6_commons_61 : decode cX6_commons 61 = .ok (.lreturn, 1) := by decide +kernel
theorem dX6_between_0 : decode cX6_between 0 = .ok (.iload_n 1, 1) := by decide +kernel
theorem dX6_between_1 : decode cX6_between 1 = .ok (.invokestatic 62, 3) := by decide +kernel
theorem dX6_between_4 : decode cX6_between 4 = .ok (.ifCond .eq 17, 3) := by decide +kernel
theorem dX6_between_7 : decode cX6_between 7 = .ok (.iload_n 2, 1) := by decide +kernel
theorem dX6_between_8 : decode cX6_between 8 = .ok (.invokestatic 62, 3) := by decide +kernel
theorem dX6_between_11 : decode cX6_between 11 = .ok (.ifCond .eq 10, 3) := by decide +kernel
theorem dX6_between_14 : decode cX6_between 14 = .ok (.iload_n 3, 1) := by decide +kernel
theorem dX6_between_15 : decode cX6_between 15 = .ok (.invokestatic 152, 3) := by decide +kernel
theorem dX6_between_18 : decode cX6_between 18 = .ok (.ifCond .ne 5, 3) := by decide +kernel
theorem dX6_between_21 : decode cX6_between 21 = .ok (.iconst (-1), 1) := by decide +kernel
theorem dX6_between_22 : decode cX6_between 22 = .ok (.ireturn, 1) := by decide +kernel
theorem dX6_between_23 : decode cX6_between 23 = .ok (.iload_n 3, 1) := by decide +kernel
theorem dX6_between_24 : decode cX6_between 24 = .ok (.ifCond .ne 23, 3) := by decide +kernel
theorem dX6_between_27 : decode cX6_between 27 = .ok (.aload_n 0, 1) := by decide +kernel
theorem dX6_between_28 : decode cX6_between 28 = .ok (.getfield 37, 3) := by decide +kernel
theorem dX6_between_31 : decode cX6_between 31 = .ok (.aload_n 0, 1) := by decide +kernel
theorem dX6_between_32 : decode cX6_between 32 = .ok (.getfield 15, 3) := by decide +kernel
theorem dX6_between_35 : decode cX6_between 35 = .ok (.iload_n 1, 1) := by decide +kernel
theorem dX6_between_36 : decode cX6_between 36 = .ok (.aaload, 1) := by decide +kernel
theorem dX6_between_37 : decode cX6_between 37 = .ok (.aload_n 0, 1) := by decide +kernel
theorem dX6_between_38 : decode cX6_between 38 = .ok (.getfield 15, 3) := by decide +kernel
theorem dX6_between_41 : decode cX6_between 41 = .ok (.iload_n 2, 1) := by decide +kernel
theorem dX6_between_42 : decode cX6_between 42 = .ok (.aaload, 1) := by decide +kernel
theorem dX6_between_43 : decode cX6_between 43 = .ok (.invokevirtual 155, 3) := by decide +kernel
theorem dX6_between_46 : decode cX6_between 46 = .ok (.ireturn, 1) := by decide +kernel
theorem dX6_between_47 : decode cX6_between 47 = .ok (.aload_n 0, 1) := by decide +kernel
theorem dX6_between_48 : decode cX6_between 48 = .ok (.getfield 15, 3) := by decide +kernel
theorem dX6_between_51 : decode cX6_between 51 = .ok (.iload_n 1, 1) := by decide +kernel
theorem dX6_between_52 : decode cX6_between 52 = .ok (.aaload, 1) := by decide +kernel
theorem dX6_between_53 : decode cX6_between 53 = .ok (.getfield 74, 3) := by decide +kernel
theorem dX6_between_56 : decode cX6_between 56 = .ok (.aload_n 0, 1) := by decide +kernel
theorem dX6_between_57 : decode cX6_between 57 = .ok (.getfield 15, 3) := by decide +kernel
theorem dX6_between_60 : decode cX6_between 60 = .ok (.iload_n 2, 1) := by decide +kernel
theorem dX6_between_61 : decode cX6_between 61 = .ok (.aaload, 1) := by decide +kernel
theorem dX6_between_62 : decode cX6_between 62 = .ok (.getfield 74, 3) := by decide +kernel
theorem dX6_between_65 : decode cX6_between 65 = .ok (.iadd, 1) := by decide +kernel
theorem dX6_between_66 : decode cX6_between 66 = .ok (.aload_n 0, 1) := by decide +kernel
theorem dX6_between_67 : decode cX6_between 67 = .ok (.getfield 37, 3) := by decide +kernel
theorem dX6_between_70 : decode cX6_between 70 = .ok (.aload_n 0, 1) := by decide +kernel
theorem dX6_between_71 : decode cX6_between 71 = .ok (.getfield 15, 3) := by decide +kernel
theorem dX6_between_74 : decode cX6_between 74 = .ok (.iload_n 1, 1) := by decide +kernel
theorem dX6_between_75 : decode cX6_between 75 = .ok (.aaload, 1) := by decide +kernel
theorem dX6_between_76 : decode cX6_between 76 = .ok (.aload_n 0, 1) := by decide +kernel
theorem dX6_between_77 : decode cX6_between 77 = .ok (.getfield 15, 3) := by decide +kernel
theorem dX6_between_80 : decode cX6_between 80 = .ok (.iload_n 2, 1) := by decide +kernel
theorem dX6_between_81 : decode cX6_between 81 = .ok (.aaload, 1) := by decide +kernel
theorem dX6_between_82 : decode cX6_between 82 = .ok (.invokevirtual 140, 3) := by decide +kernel
theorem dX6_between_85 : decode cX6_between 85 = .ok (.isub, 1) := by decide +kernel
theorem dX6_between_86 : decode cX6_between 86 = .ok (.ireturn, 1) := by decide +kernel
theorem dX6_by_0 : decode cX6_by 0 = .ok (.iload_n 1, 1) := by decide +kernel
theorem dX6_by_1 : decode cX6_by 1 = .ok (.invokestatic 62, 3) := by decide +kernel
theorem dX6_by_4 : decode cX6_by 4 = .ok (.ifCond .eq 20, 3) := by decide +kernel
theorem dX6_by_7 : decode cX6_by 7 = .ok (.iload_n 2, 1) := by decide +kernel
theorem dX6_by_8 : decode cX6_by 8 = .ok (.ifCond .lt 16, 3) := by decide +kernel
theorem dX6_by_11 : decode cX6_by 11 = .ok (.iload_n 2, 1) := by decide +kernel
theorem dX6_by_12 : decode cX6_by 12 = .ok (.bipush 6, 2) := by decide +kernel
theorem dX6_by_14 : decode cX6_by 14 = .ok (.if_icmp .gt 10, 3) := by decide +kernel
theorem dX6_by_17 : decode cX6_by 17 = .ok (.iload_n 3, 1) := by decide +kernel
theorem dX6_by_18 : decode cX6_by 18 = .ok (.invokestatic 152, 3) := by decide +kernel
theorem dX6_by_21 : decode cX6_by 21 = .ok (.ifCond .ne 7, 3) := by decide +kernel
theorem dX6_by_24 : decode cX6_by 24 = .ok (.ldc2_w 134, 3) := by decide +kernel
theorem dX6_by_27 : decode cX6_by 27 = .ok (.lreturn, 1) := by decide +kernel
theorem dX6_by_28 : decode cX6_by 28 = .ok (.iload_n 3, 1) := by decide +kernel
theorem dX6_by_29 : decode cX6_by 29 = .ok (.ifCond .ne 24, 3) := by decide +kernel
theorem dX6_by_32 : decode cX6_by 32 = .ok (.aload_n 0, 1) := by decide +kernel
theorem dX6_by_33 : decode cX6_by 33 = .ok (.getfield 30, 3) := by decide +kernel
theorem dX6_by_36 : decode cX6_by 36 = .ok (.aload_n 0, 1) := by decide +kernel
theorem dX6_by_37 : decode cX6_by 37 = .ok (.getfield 15, 3) := by decide +kernel
theorem dX6_by_40 : decode cX6_by 40 = .ok (.iload_n 1, 1) := by decide +kernel
theorem dX6_by_41 : decode cX6_by 41 = .ok (.aaload, 1) := by decide +kernel
theorem dX6_by_42 : decode cX6_by 42 = .ok (.iload_n 2, 1) := by decide +kernel
theorem dX6_by_43 : decode cX6_by 43 = .ok (.aload_n 0, 1) := by decide +kernel
theorem dX6_by_44 : decode cX6_by 44 = .ok (.getfield 9, 3) := by decide +kernel
theorem dX6_by_47 : decode cX6_by 47 = .ok (.invokevirtual 158, 3) := by decide +kernel
theorem dX6_by_50 : decode cX6_by 50 = .ok (.goto 21, 3) := by decide +kernel
theorem dX6_by_53 : decode cX6_by 53 = .ok (.aload_n 0, 1) := by decide +kernel
theorem dX6_by_54 : decode cX6_by 54 = .ok (.getfield 30, 3) := by decide +kernel
theorem dX6_by_57 : decode cX6_by 57 = .ok (.aload_n 0, 1) := by decide +kernel
theorem dX6_by_58 : decode cX6_by 58 = .ok (.getfield 15, 3) := by decide +kernel
theorem dX6_by_61 : decode cX6_by 61 = .ok (.iload_n 1, 1) := by decide +kernel
theorem dX6_by_62 : decode cX6_by 62 = .ok (.aaload, 1) := by decide +kernel
theorem dX6_by_63 : decode cX6_by 63 = .ok (.iload_n 2, 1) := by decide +kernel
theorem dX6_by_64 : decode cX6_by 64 = .ok (.aload_n 0, 1) := by decide +kernel
theorem dX6_by_65 : decode cX6_by 65 = .ok (.getfield 9, 3) := by decide +kernel
theorem dX6_by_68 : decode cX6_by 68 = .ok (.invokevirtual 162, 3) := by decide +kernel
theorem dX6_by_71 : decode cX6_by 71 = .ok (.lreturn, 1) := by decide +kernel
theorem dX6_trace_0 : decode cX6_trace 0 = .ok (.iload_n 1, 1) := by decide +kernel
theorem dX6_trace_1 : decode cX6_trace 1 = .ok (.invokestatic 62, 3) := by decide +kernel
theorem dX6_trace_4 : decode cX6_trace 4 = .ok (.ifCond .ne 5, 3) := by decide +kernel
theorem dX6_trace_7 : decode cX6_trace 7 = .ok (.iconst (-1), 1) := by decide +kernel
theorem dX6_trace_8 : decode cX6_trace 8 = .ok (.ireturn, 1) := by decide +kernel
theorem dX6_trace_9 : decode cX6_trace 9 = .ok (.aload_n 0, 1) := by decide +kernel
theorem dX6_trace_10 : decode cX6_trace 10 = .ok (.getfield 44, 3) := by decide +kernel
theorem dX6_trace_13 : decode cX6_trace 13 = .ok (.getfield 165, 3) := by decide +kernel
theorem dX6_trace_16 : decode cX6_trace 16 = .ok (.bipush 8, 2) := by decide +kernel
theorem dX6_trace_18 : decode cX6_trace 18 = .ok (.if_icmp .ne 6, 3) := by decide +kernel
theorem dX6_trace_21 : decode cX6_trace 21 = .ok (.bipush (-3), 2) := by decide +kernel
theorem dX6_trace_23 : decode cX6_trace 23 = .ok (.ireturn, 1) := by decide +kernel
theorem dX6_trace_24 : decode cX6_trace 24 = .ok (.aload_n 0, 1) := by decide +kernel
theorem dX6_trace_25 : decode cX6_trace 25 = .ok (.getfield 44, 3) := by decide +kernel
theorem dX6_trace_28 : decode cX6_trace 28 = .ok (.aload_n 0, 1) := by decide +kernel
theorem dX6_trace_29 : decode cX6_trace 29 = .ok (.getfield 15, 3) := by decide +kernel
theorem dX6_trace_32 : decode cX6_trace 32 = .ok (.iload_n 1, 1) := by decide +kernel
theorem dX6_trace_33 : decode cX6_trace 33 = .ok (.aaload, 1) := by decide +kernel
theorem dX6_trace_34 : decode cX6_trace 34 = .ok (.invokevirtual 166, 3) := by decide +kernel
theorem dX6_trace_37 : decode cX6_trace 37 = .ok (.aload_n 0, 1) := by decide +kernel
theorem dX6_trace_38 : decode cX6_trace 38 = .ok (.getfield 44, 3) := by decide +kernel
theorem dX6_trace_41 : decode cX6_trace 41 = .ok (.getfield 165, 3) := by decide +kernel
theorem dX6_trace_44 : decode cX6_trace 44 = .ok (.ireturn, 1) := by decide +kernel
theorem dX6_noTraces_0 : decode cX6_noTraces 0 = .ok (.aload_n 0, 1) := by decide +kernel
theorem dX6_noTraces_1 : decode cX6_noTraces 1 = .ok (.getfield 44, 3) := by decide +kernel
theorem dX6_noTraces_4 : decode cX6_noTraces 4 = .ok (.getfield 165, 3) := by decide +kernel
theorem dX6_noTraces_7 : decode cX6_noTraces 7 = .ok (.istore_n 1, 1) := by decide +kernel
theorem dX6_noTraces_8 : decode cX6_noTraces 8 = .ok (.aload_n 0, 1) := by decide +kernel
theorem dX6_noTraces_9 : decode cX6_noTraces 9 = .ok (.getfield 44, 3) := by decide +kernel
theorem dX6_noTraces_12 : decode cX6_noTraces 12 = .ok (.invokevirtual 61, 3) := by decide +kernel
theorem dX6_noTraces_15 : decode cX6_noTraces 15 = .ok (.iload_n 1, 1) := by decide +kernel
theorem dX6_noTraces_16 : decode cX6_noTraces 16 = .ok (.ireturn, 1) := by decide +kernel
theorem dX6_sources_0 : decode cX6_sources 0 = .ok (.aload_n 0, 1) := by decide +kernel
theorem dX6_sources_1 : decode cX6_sources 1 = .ok (.iload_n 1, 1) := by decide +kernel
theorem dX6_sources_2 : decode cX6_sources 2 = .ok (.invokevirtual 169, 3) := by decide +kernel
theorem dX6_sources_5 : decode cX6_sources 5 = .ok (.ifCond .eq 18, 3) := by decide +kernel
theorem dX6_sources_8 : decode cX6_sources 8 = .ok (.aload_n 0, 1) := by decide +kernel
theorem dX6_sources_9 : decode cX6_sources 9 = .ok (.getfield 44, 3) := by decide +kernel
theorem dX6_sources_12 : decode cX6_sources 12 = .ok (.aload_n 0, 1) := by decide +kernel
theorem dX6_sources_13 : decode cX6_sources 13 = .ok (.getfield 9, 3) := by decide +kernel
theorem dX6_sources_16 : decode cX6_sources 16 = .ok (.iload_n 1, 1) := by decide +kernel
theorem dX6_sources_17 : decode cX6_sources 17 = .ok (.invokevirtual 172, 3) := by decide +kernel
theorem dX6_sources_20 : decode cX6_sources 20 = .ok (.goto 4, 3) := by decide +kernel
theorem dX6_sources_23 : decode cX6_sources 23 = .ok (.iconst (-1), 1) := by decide +kernel
theorem dX6_sources_24 : decode cX6_sources 24 = .ok (.ireturn, 1) := by decide +kernel
theorem dX6_best_0 : decode cX6_best 0 = .ok (.iload_n 1, 1) := by decide +kernel
theorem dX6_best_1 : decode cX6_best 1 = .ok (.invokestatic 62, 3) := by decide +kernel
theorem dX6_best_4 : decode cX6_best 4 = .ok (.ifCond .eq 11, 3) := by decide +kernel
theorem dX6_best_7 : decode cX6_best 7 = .ok (.aload_n 0, 1) := by decide +kernel
theorem dX6_best_8 : decode cX6_best 8 = .ok (.iload_n 2, 1) := by decide +kernel
theorem dX6_best_9 : decode cX6_best 9 = .ok (.invokevirtual 169, 3) := by decide +kernel
theorem dX6_best_12 : decode cX6_best 12 = .ok (.ifCond .ne 5, 3) := by decide +kernel
theorem dX6_best_15 : decode cX6_best 15 = .ok (.iconst (-1), 1) := by decide +kernel
theorem dX6_best_16 : decode cX6_best 16 = .ok (.ireturn, 1) := by decide +kernel
theorem dX6_best_17 : decode cX6_best 17 = .ok (.aload_n 0, 1) := by decide +kernel
theorem dX6_best_18 : decode cX6_best 18 = .ok (.getfield 44, 3) := by decide +kernel
theorem dX6_best_21 : decode cX6_best 21 = .ok (.aload_n 0, 1) := by decide +kernel
theorem dX6_best_22 : decode cX6_best 22 = .ok (.getfield 9, 3) := by decide +kernel
theorem dX6_best_25 : decode cX6_best 25 = .ok (.iload_n 2, 1) := by decide +kernel
theorem dX6_best_26 : decode cX6_best 26 = .ok (.invokevirtual 172, 3) := by decide +kernel
theorem dX6_best_29 : decode cX6_best 29 = .ok (.ifCond .ne 6, 3) := by decide +kernel
theorem dX6_best_32 : decode cX6_best 32 = .ok (.bipush (-4), 2) := by decide +kernel
theorem dX6_best_34 : decode cX6_best 34 = .ok (.ireturn, 1) := by decide +kernel
theorem dX6_best_35 : decode cX6_best 35 = .ok (.aload_n 0, 1) := by decide +kernel
theorem dX6_best_36 : decode cX6_best 36 = .ok (.getfield 15, 3) := by decide +kernel
theorem dX6_best_39 : decode cX6_best 39 = .ok (.iload_n 1, 1) := by decide +kernel
theorem dX6_best_40 : decode cX6_best 40 = .ok (.aaload, 1) := by decide +kernel
theorem dX6_best_41 : decode cX6_best 41 = .ok (.aload_n 0, 1) := by decide +kernel
theorem dX6_best_42 : decode cX6_best 42 = .ok (.getfield 44, 3) := by decide +kernel
theorem dX6_best_45 : decode cX6_best 45 = .ok (.getfield 176, 3) := by decide +kernel
theorem dX6_best_48 : decode cX6_best 48 = .ok (.invokevirtual 89, 3) := by decide +kernel
theorem dX6_best_51 : decode cX6_best 51 = .ok (.iload_n 2, 1) := by decide +kernel
theorem dX6_best_52 : decode cX6_best 52 = .ok (.ireturn, 1) := by decide +kernel
theorem dX6_line_0 : decode cX6_line 0 = .ok (.iload_n 1, 1) := by decide +kernel
theorem dX6_line_1 : decode cX6_line 1 = .ok (.invokestatic 179, 3) := by decide +kernel
theorem dX6_line_4 : decode cX6_line 4 = .ok (.ifCond .eq 27, 3) := by decide +kernel
theorem dX6_line_7 : decode cX6_line 7 = .ok (.iload_n 2, 1) := by decide +kernel
theorem dX6_line_8 : decode cX6_line 8 = .ok (.invokestatic 179, 3) := by decide +kernel
theorem dX6_line_11 : decode cX6_line 11 = .ok (.ifCond .eq 20, 3) := by decide +kernel
theorem dX6_line_14 : decode cX6_line 14 = .ok (.iload_n 3, 1) := by decide +kernel
theorem dX6_line_15 : decode cX6_line 15 = .ok (.invokestatic 179, 3) := by decide +kernel
theorem dX6_line_18 : decode cX6_line 18 = .ok (.ifCond .eq 13, 3) := by decide +kernel
theorem dX6_line_21 : decode cX6_line 21 = .ok (.iload_n 1, 1) := by decide +kernel
theorem dX6_line_22 : decode cX6_line 22 = .ok (.iload_n 2, 1) := by decide +kernel
theorem dX6_line_23 : decode cX6_line 23 = .ok (.iadd, 1) := by decide +kernel
theorem dX6_line_24 : decode cX6_line 24 = .ok (.iload_n 3, 1) := by decide +kernel
theorem dX6_line_25 : decode cX6_line 25 = .ok (.iadd, 1) := by decide +kernel
theorem dX6_line_26 : decode cX6_line 26 = .ok (.bipush 64, 2) := by decide +kernel
theorem dX6_line_28 : decode cX6_line 28 = .ok (.if_icmp .le 5, 3) := by decide +kernel
theorem dX6_line_31 : decode cX6_line 31 = .ok (.iconst (-1), 1) := by decide +kernel
theorem dX6_line_32 : decode cX6_line 32 = .ok (.ireturn, 1) := by decide +kernel
theorem dX6_line_33 : decode cX6_line 33 = .ok (.aload_n 0, 1) := by decide +kernel
theorem dX6_line_34 : decode cX6_line 34 = .ok (.getfield 51, 3) := by decide +kernel
theorem dX6_line_37 : decode cX6_line 37 = .ok (.iload_n 1, 1) := by decide +kernel
theorem dX6_line_38 : decode cX6_line 38 = .ok (.iload_n 2, 1) := by decide +kernel
theorem dX6_line_39 : decode cX6_line 39 = .ok (.iload_n 3, 1) := by decide +kernel
theorem dX6_line_40 : decode cX6_line 40 = .ok (.invokevirtual 182, 3) := by decide +kernel
theorem dX6_line_43 : decode cX6_line 43 = .ok (.iconst 0, 1) := by decide +kernel
theorem dX6_line_44 : decode cX6_line 44 = .ok (.ireturn, 1) := by decide +kernel
theorem dX6_seed_0 : decode cX6_seed 0 = .ok (.lload_n 1, 1) := by decide +kernel
theorem dX6_seed_1 : decode cX6_seed 1 = .ok (.lconst 0, 1) := by decide +kernel
theorem dX6_seed_2 : decode cX6_seed 2 = .ok (.lcmp, 1) := by decide +kernel
theorem dX6_seed_3 : decode cX6_seed 3 = .ok (.ifCond .ge 5, 3) := by decide +kernel
theorem dX6_seed_6 : decode cX6_seed 6 = .ok (.iconst (-1), 1) := by decide +kernel
theorem dX6_seed_7 : decode cX6_seed 7 = .ok (.ireturn, 1) := by decide +kernel
theorem dX6_seed_8 : decode cX6_seed 8 = .ok (.aload_n 0, 1) := by decide +kernel
theorem dX6_seed_9 : decode cX6_seed 9 = .ok (.getfield 51, 3) := by decide +kernel
theorem dX6_seed_12 : decode cX6_seed 12 = .ok (.lload_n 1, 1) := by decide +kernel
theorem dX6_seed_13 : decode cX6_seed 13 = .ok (.putfield 185, 3) := by decide +kernel
theorem dX6_seed_16 : decode cX6_seed 16 = .ok (.iconst 0, 1) := by decide +kernel
theorem dX6_seed_17 : decode cX6_seed 17 = .ok (.ireturn, 1) := by decide +kernel
theorem dX6_send_0 : decode cX6_send 0 = .ok (.iload_n 1, 1) := by decide +kernel
theorem dX6_send_1 : decode cX6_send 1 = .ok (.invokestatic 62, 3) := by decide +kernel
theorem dX6_send_4 : decode cX6_send 4 = .ok (.ifCond .eq 10, 3) := by decide +kernel
theorem dX6_send_7 : decode cX6_send 7 = .ok (.iload_n 2, 1) := by decide +kernel
theorem dX6_send_8 : decode cX6_send 8 = .ok (.invokestatic 62, 3) := by decide +kernel
theorem dX6_send_11 : decode cX6_send 11 = .ok (.ifCond .ne 5, 3) := by decide +kernel
theorem dX6_send_14 : decode cX6_send 14 = .ok (.iconst (-1), 1) := by decide +kernel
theorem dX6_send_15 : decode cX6_send 15 = .ok (.ireturn, 1) := by decide +kernel
theorem dX6_send_16 : decode cX6_send 16 = .ok (.aload_n 0, 1) := by decide +kernel
theorem dX6_send_17 : decode cX6_send 17 = .ok (.getfield 51, 3) := by decide +kernel
theorem dX6_send_20 : decode cX6_send 20 = .ok (.aload_n 0, 1) := by decide +kernel
theorem dX6_send_21 : decode cX6_send 21 = .ok (.getfield 15, 3) := by decide +kernel
theorem dX6_send_24 : decode cX6_send 24 = .ok (.iload_n 2, 1) := by decide +kernel
theorem dX6_send_25 : decode cX6_send 25 = .ok (.aaload, 1) := by decide +kernel
theorem dX6_send_26 : decode cX6_send 26 = .ok (.aload_n 0, 1) := by decide +kernel
theorem dX6_send_27 : decode cX6_send 27 = .ok (.getfield 9, 3) := by decide +kernel
theorem dX6_send_30 : decode cX6_send 30 = .ok (.invokevirtual 189, 3) := by decide +kernel
theorem dX6_send_33 : decode cX6_send 33 = .ok (.ifCond .ne 6, 3) := by decide +kernel
theorem dX6_send_36 : decode cX6_send 36 = .ok (.bipush (-5), 2) := by decide +kernel
theorem dX6_send_38 : decode cX6_send 38 = .ok (.ireturn, 1) := by decide +kernel
theorem dX6_send_39 : decode cX6_send 39 = .ok (.aload_n 0, 1) := by decide +kernel
theorem dX6_send_40 : decode cX6_send 40 = .ok (.getfield 15, 3) := by decide +kernel
theorem dX6_send_43 : decode cX6_send 43 = .ok (.iload_n 1, 1) := by decide +kernel
theorem dX6_send_44 : decode cX6_send 44 = .ok (.aaload, 1) := by decide +kernel
theorem dX6_send_45 : decode cX6_send 45 = .ok (.aload_n 0, 1) := by decide +kernel
theorem dX6_send_46 : decode cX6_send 46 = .ok (.getfield 51, 3) := by decide +kernel
theorem dX6_send_49 : decode cX6_send 49 = .ok (.getfield 193, 3) := by decide +kernel
theorem dX6_send_52 : decode cX6_send 52 = .ok (.invokevirtual 89, 3) := by decide +kernel
theorem dX6_send_55 : decode cX6_send 55 = .ok (.aload_n 0, 1) := by decide +kernel
theorem dX6_send_56 : decode cX6_send 56 = .ok (.getfield 15, 3) := by decide +kernel
theorem dX6_send_59 : decode cX6_send 59 = .ok (.iload_n 1, 1) := by decide +kernel
theorem dX6_send_60 : decode cX6_send 60 = .ok (.aaload, 1) := by decide +kernel
theorem dX6_send_61 : decode cX6_send 61 = .ok (.getfield 74, 3) := by decide +kernel
theorem dX6_send_64 : decode cX6_send 64 = .ok (.ireturn, 1) := by decide +kernel
theorem dX6_count_0 : decode cX6_count 0 = .ok (.iload_n 1, 1) := by decide +kernel
theorem dX6_count_1 : decode cX6_count 1 = .ok (.tableswitch 57 0 3 #[31, 36, 44, 52], 31) := by decide +kernel
theorem dX6_count_32 : decode cX6_count 32 = .ok (.aload_n 0, 1) := by decide +kernel
theorem dX6_count_33 : decode cX6_count 33 = .ok (.getfield 9, 3) := by decide +kernel
theorem dX6_count_36 : decode cX6_count 36 = .ok (.ireturn, 1) := by decide +kernel
theorem dX6_count_37 : decode cX6_count 37 = .ok (.aload_n 0, 1) := by decide +kernel
theorem dX6_count_38 : decode cX6_count 38 = .ok (.getfield 44, 3) := by decide +kernel
theorem dX6_count_41 : decode cX6_count 41 = .ok (.getfield 165, 3) := by decide +kernel
theorem dX6_count_44 : decode cX6_count 44 = .ok (.ireturn, 1) := by decide +kernel
theorem dX6_count_45 : decode cX6_count 45 = .ok (.aload_n 0, 1) := by decide +kernel
theorem dX6_count_46 : decode cX6_count 46 = .ok (.getfield 23, 3) := by decide +kernel
theorem dX6_count_49 : decode cX6_count 49 = .ok (.getfield 196, 3) := by decide +kernel
theorem dX6_count_52 : decode cX6_count 52 = .ok (.ireturn, 1) := by decide +kernel
theorem dX6_count_53 : decode cX6_count 53 = .ok (.aload_n 0, 1) := by decide +kernel
theorem dX6_count_54 : decode cX6_count 54 = .ok (.invokevirtual 199, 3) := by decide +kernel
theorem dX6_count_57 : decode cX6_count 57 = .ok (.ireturn, 1) := by decide +kernel
theorem dX6_count_58 : decode cX6_count 58 = .ok (.iconst (-1), 1) := by decide +kernel
theorem dX6_count_59 : decode cX6_count 59 = .ok (.ireturn, 1) := by decide +kernel
theorem dX6_lettersOfAll_0 : decode cX6_lettersOfAll 0 = .ok (.iconst 0, 1) := by decide +kernel
theorem dX6_lettersOfAll_1 : decode cX6_lettersOfAll 1 = .ok (.istore_n 1, 1) := by decide +kernel
theorem dX6_lettersOfAll_2 : decode cX6_lettersOfAll 2 = .ok (.iconst 0, 1) := by decide +kernel
theorem dX6_lettersOfAll_3 : decode cX6_lettersOfAll 3 = .ok (.istore_n 2, 1) := by decide +kernel
theorem dX6_lettersOfAll_4 : decode cX6_lettersOfAll 4 = .ok (.iload_n 2, 1) := by decide +kernel
theorem dX6_lettersOfAll_5 : decode cX6_lettersOfAll 5 = .ok (.bipush 12, 2) := by decide +kernel
theorem dX6_lettersOfAll_7 : decode cX6_lettersOfAll 7 = .ok (.if_icmp .ge 21, 3) := by decide +kernel
theorem dX6_lettersOfAll_10 : decode cX6_lettersOfAll 10 = .ok (.iload_n 1, 1) := by decide +kernel
theorem dX6_lettersOfAll_11 : decode cX6_lettersOfAll 11 = .ok (.aload_n 0, 1) := by decide +kernel
theorem dX6_lettersOfAll_12 : decode cX6_lettersOfAll 12 = .ok (.getfield 15, 3) := by decide +kernel
theorem dX6_lettersOfAll_15 : decode cX6_lettersOfAll 15 = .ok (.iload_n 2, 1) := by decide +kernel
theorem dX6_lettersOfAll_16 : decode cX6_lettersOfAll 16 = .ok (.aaload, 1) := by decide +kernel
theorem dX6_lettersOfAll_17 : decode cX6_lettersOfAll 17 = .ok (.getfield 74, 3) := by decide +kernel
theorem dX6_lettersOfAll_20 : decode cX6_lettersOfAll 20 = .ok (.iadd, 1) := by decide +kernel
theorem dX6_lettersOfAll_21 : decode cX6_lettersOfAll 21 = .ok (.istore_n 1, 1) := by decide +kernel
theorem dX6_lettersOfAll_22 : decode cX6_lettersOfAll 22 = .ok (.iinc 2 1, 3) := by decide +kernel
theorem dX6_lettersOfAll_25 : decode cX6_lettersOfAll 25 = .ok (.goto (-21), 3) := by decide +kernel
theorem dX6_lettersOfAll_28 : decode cX6_lettersOfAll 28 = .ok (.iload_n 1, 1) := by decide +kernel
theorem dX6_lettersOfAll_29 : decode cX6_lettersOfAll 29 = .ok (.ireturn, 1) := by decide +kernel
theorem dX6_isLetter_0 : decode cX6_isLetter 0 = .ok (.iload_n 1, 1) := by decide +kernel
theorem dX6_isLetter_1 : decode cX6_isLetter 1 = .ok (.ifCond .lt 15, 3) := by decide +kernel
theorem dX6_isLetter_4 : decode cX6_isLetter 4 = .ok (.iload_n 1, 1) := by decide +kernel
theorem dX6_isLetter_5 : decode cX6_isLetter 5 = .ok (.aload_n 0, 1) := by decide +kernel
theorem dX6_isLetter_6 : decode cX6_isLetter 6 = .ok (.getfield 9, 3) := by decide +kernel
theorem dX6_isLetter_9 : decode cX6_isLetter 9 = .ok (.if_icmp .ge 7, 3) := by decide +kernel
theorem dX6_isLetter_12 : decode cX6_isLetter 12 = .ok (.iconst 1, 1) := by decide +kernel
theorem dX6_isLetter_13 : decode cX6_isLetter 13 = .ok (.goto 4, 3) := by decide +kernel
theorem dX6_isLetter_16 : decode cX6_isLetter 16 = .ok (.iconst 0, 1) := by decide +kernel
theorem dX6_isLetter_17 : decode cX6_isLetter 17 = .ok (.ireturn, 1) := by decide +kernel
theorem dX6_isEdit_0 : decode cX6_isEdit 0 = .ok (.iload_n 2, 1) := by decide +kernel
theorem dX6_isEdit_1 : decode cX6_isEdit 1 = .ok (.ifCond .lt 12, 3) := by decide +kernel
theorem dX6_isEdit_4 : decode cX6_isEdit 4 = .ok (.iload_n 2, 1) := by decide +kernel
theorem dX6_isEdit_5 : decode cX6_isEdit 5 = .ok (.iconst 2, 1) := by decide +kernel
theorem dX6_isEdit_6 : decode cX6_isEdit 6 = .ok (.if_icmp .gt 7, 3) := by decide +kernel
theorem dX6_isEdit_9 : decode cX6_isEdit 9 = .ok (.iload_n 3, 1) := by decide +kernel
theorem dX6_isEdit_10 : decode cX6_isEdit 10 = .ok (.ifCond .ge 5, 3) := by decide +kernel
theorem dX6_isEdit_13 : decode cX6_isEdit 13 = .ok (.iconst 0, 1) := by decide +kernel
theorem dX6_isEdit_14 : decode cX6_isEdit 14 = .ok (.ireturn, 1) := by decide +kernel
theorem dX6_isEdit_15 : decode cX6_isEdit 15 = .ok (.iload_n 3, 1) := by decide +kernel
theorem dX6_isEdit_16 : decode cX6_isEdit 16 = .ok (.aload_n 1, 1) := by decide +kernel
theorem dX6_isEdit_17 : decode cX6_isEdit 17 = .ok (.getfield 74, 3) := by decide +kernel
theorem dX6_isEdit_20 : decode cX6_isEdit 20 = .ok (.if_icmp .gt 16, 3) := by decide +kernel
theorem dX6_isEdit_23 : decode cX6_isEdit 23 = .ok (.iload_n 3, 1) := by decide +kernel
theorem dX6_isEdit_24 : decode cX6_isEdit 24 = .ok (.aload_n 1, 1) := by decide +kernel
theorem dX6_isEdit_25 : decode cX6_isEdit 25 = .ok (.getfield 74, 3) := by decide +kernel
theorem dX6_isEdit_28 : decode cX6_isEdit 28 = .ok (.if_icmp .ne 10, 3) := by decide +kernel
theorem dX6_isEdit_31 : decode cX6_isEdit 31 = .ok (.iload_n 2, 1) := by decide +kernel
theorem dX6_isEdit_32 : decode cX6_isEdit 32 = .ok (.iconst 1, 1) := by decide +kernel
theorem dX6_isEdit_33 : decode cX6_isEdit 33 = .ok (.if_icmp .eq 5, 3) := by decide +kernel
theorem dX6_isEdit_36 : decode cX6_isEdit 36 = .ok (.iconst 0, 1) := by decide +kernel
theorem dX6_isEdit_37 : decode cX6_isEdit 37 = .ok (.ireturn, 1) := by decide +kernel
theorem dX6_isEdit_38 : decode cX6_isEdit 38 = .ok (.iload_n 2, 1) := by decide +kernel
theorem dX6_isEdit_39 : decode cX6_isEdit 39 = .ok (.ifCond .eq 12, 3) := by decide +kernel
theorem dX6_isEdit_42 : decode cX6_isEdit 42 = .ok (.aload_n 0, 1) := by decide +kernel
theorem dX6_isEdit_43 : decode cX6_isEdit 43 = .ok (.iload 4, 2) := by decide +kernel
theorem dX6_isEdit_45 : decode cX6_isEdit 45 = .ok (.invokevirtual 104, 3) := by decide +kernel
theorem dX6_isEdit_48 : decode cX6_isEdit 48 = .ok (.ifCond .eq 7, 3) := by decide +kernel
theorem dX6_isEdit_51 : decode cX6_isEdit 51 = .ok (.iconst 1, 1) := by decide +kernel
theorem dX6_isEdit_52 : decode cX6_isEdit 52 = .ok (.goto 4, 3) := by decide +kernel
theorem dX6_isEdit_55 : decode cX6_isEdit 55 = .ok (.iconst 0, 1) := by decide +kernel
theorem dX6_isEdit_56 : decode cX6_isEdit 56 = .ok (.ireturn, 1) := by decide +kernel
theorem dX6_isRow_0 : decode cX6_isRow 0 = .ok (.lload_n 2, 1) := by decide +kernel
theorem dX6_isRow_1 : decode cX6_isRow 1 = .ok (.iconst 2, 1) := by decide +kernel
theorem dX6_isRow_2 : decode cX6_isRow 2 = .ok (.iload_n 1, 1) := by decide +kernel
theorem dX6_isRow_3 : decode cX6_isRow 3 = .ok (.imul, 1) := by decide +kernel
theorem dX6_isRow_4 : decode cX6_isRow 4 = .ok (.lushr, 1) := by decide +kernel
theorem dX6_isRow_5 : decode cX6_isRow 5 = .ok (.lconst 0, 1) := by decide +kernel
theorem dX6_isRow_6 : decode cX6_isRow 6 = .ok (.lcmp, 1) := by decide +kernel
theorem dX6_isRow_7 : decode cX6_isRow 7 = .ok (.ifCond .eq 5, 3) := by decide +kernel
theorem dX6_isRow_10 : decode cX6_isRow 10 = .ok (.iconst 0, 1) := by decide +kernel
theorem dX6_isRow_11 : decode cX6_isRow 11 = .ok (.ireturn, 1) := by decide +kernel
theorem dX6_isRow_12 : decode cX6_isRow 12 = .ok (.iconst 0, 1) := by decide +kernel
theorem dX6_isRow_13 : decode cX6_isRow 13 = .ok (.istore 4, 2) := by decide +kernel
theorem dX6_isRow_15 : decode cX6_isRow 15 = .ok (.iload 4, 2) := by decide +kernel
theorem dX6_isRow_17 : decode cX6_isRow 17 = .ok (.iload_n 1, 1) := by decide +kernel
theorem dX6_isRow_18 : decode cX6_isRow 18 = .ok (.if_icmp .ge 27, 3) := by decide +kernel
theorem dX6_isRow_21 : decode cX6_isRow 21 = .ok (.aload_n 0, 1) := by decide +kernel
theorem dX6_isRow_22 : decode cX6_isRow 22 = .ok (.lload_n 2, 1) := by decide +kernel
theorem dX6_isRow_23 : decode cX6_isRow 23 = .ok (.iconst 2, 1) := by decide +kernel
theorem dX6_isRow_24 : decode cX6_isRow 24 = .ok (.iload 4, 2) := by decide +kernel
theorem dX6_isRow_26 : decode cX6_isRow 26 = .ok (.imul, 1) := by decide +kernel
theorem dX6_isRow_27 : decode cX6_isRow 27 = .ok (.lushr, 1) := by decide +kernel
theorem dX6_isRow_28 : decode cX6_isRow 28 = .ok (.l2i, 1) := by decide +kernel
theorem dX6_isRow_29 : decode cX6_isRow 29 = .ok (.iconst 3, 1) := by decide +kernel
theorem dX6_isRow_30 : decode cX6_isRow 30 = .ok (.iand, 1) := by decide +kernel
theorem dX6_isRow_31 : decode cX6_isRow 31 = .ok (.invokevirtual 104, 3) := by decide +kernel
theorem dX6_isRow_34 : decode cX6_isRow 34 = .ok (.ifCond .ne 5, 3) := by decide +kernel
theorem dX6_isRow_37 : decode cX6_isRow 37 = .ok (.iconst 0, 1) := by decide +kernel
theorem dX6_isRow_38 : decode cX6_isRow 38 = .ok (.ireturn, 1) := by decide +kernel
theorem dX6_isRow_39 : decode cX6_isRow 39 = .ok (.iinc 4 1, 3) := by decide +kernel
theorem dX6_isRow_42 : decode cX6_isRow 42 = .ok (.goto (-27), 3) := by decide +kernel
theorem dX6_isRow_45 : decode cX6_isRow 45 = .ok (.iconst 1, 1) := by decide +kernel
theorem dX6_isRow_46 : decode cX6_isRow 46 = .ok (.ireturn, 1) := by decide +kernel
theorem dX6_isSourceLength_0 : decode cX6_isSourceLength 0 = .ok (.iload_n 1, 1) := by decide +kernel
theorem dX6_isSourceLength_1 : decode cX6_isSourceLength 1 = .ok (.iconst 1, 1) := by decide +kernel
theorem dX6_isSourceLength_2 : decode cX6_isSourceLength 2 = .ok (.if_icmp .lt 9, 3) := by decide +kernel
theorem dX6_isSourceLength_5 : decode cX6_isSourceLength 5 = .ok (.iload_n 1, 1) := by decide +kernel
theorem dX6_isSourceLength_6 : decode cX6_isSourceLength 6 = .ok (.bipush 12, 2) := by decide +kernel
theorem dX6_isSourceLength_8 : decode cX6_isSourceLength 8 = .ok (.if_icmp .le 5, 3) := by decide +kernel
theorem dX6_isSourceLength_11 : decode cX6_isSourceLength 11 = .ok (.iconst 0, 1) := by decide +kernel
theorem dX6_isSourceLength_12 : decode cX6_isSourceLength 12 = .ok (.ireturn, 1) := by decide +kernel
theorem dX6_isSourceLength_13 : decode cX6_isSourceLength 13 = .ok (.iconst 1, 1) := by decide +kernel
theorem dX6_isSourceLength_14 : decode cX6_isSourceLength 14 = .ok (.istore_n 2, 1) := by decide +kernel
theorem dX6_isSourceLength_15 : decode cX6_isSourceLength 15 = .ok (.iconst 0, 1) := by decide +kernel
theorem dX6_isSourceLength_16 : decode cX6_isSourceLength 16 = .ok (.istore_n 3, 1) := by decide +kernel
theorem dX6_isSourceLength_17 : decode cX6_isSourceLength 17 = .ok (.iload_n 3, 1) := by decide +kernel
theorem dX6_isSourceLength_18 : decode cX6_isSourceLength 18 = .ok (.iload_n 1, 1) := by decide +kernel
theorem dX6_isSourceLength_19 : decode cX6_isSourceLength 19 = .ok (.if_icmp .ge 16, 3) := by decide +kernel
theorem dX6_isSourceLength_22 : decode cX6_isSourceLength 22 = .ok (.iload_n 2, 1) := by decide +kernel
theorem dX6_isSourceLength_23 : decode cX6_isSourceLength 23 = .ok (.aload_n 0, 1) := by decide +kernel
theorem dX6_isSourceLength_24 : decode cX6_isSourceLength 24 = .ok (.getfield 9, 3) := by decide +kernel
theorem dX6_isSourceLength_27 : decode cX6_isSourceLength 27 = .ok (.imul, 1) := by decide +kernel
theorem dX6_isSourceLength_28 : decode cX6_isSourceLength 28 = .ok (.istore_n 2, 1) := by decide +kernel
theorem dX6_isSourceLength_29 : decode cX6_isSourceLength 29 = .ok (.iinc 3 1, 3) := by decide +kernel
theorem dX6_isSourceLength_32 : decode cX6_isSourceLength 32 = .ok (.goto (-15), 3) := by decide +kernel
theorem dX6_isSourceLength_35 : decode cX6_isSourceLength 35 = .ok (.iload_n 2, 1) := by decide +kernel
theorem dX6_isSourceLength_36 : decode cX6_isSourceLength 36 = .ok (.sipush 4096, 3) := by decide +kernel
theorem dX6_isSourceLength_39 : decode cX6_isSourceLength 39 = .ok (.if_icmp .gt 7, 3) := by decide +kernel
theorem dX6_isSourceLength_42 : decode cX6_isSourceLength 42 = .ok (.iconst 1, 1) := by decide +kernel
theorem dX6_isSourceLength_43 : decode cX6_isSourceLength 43 = .ok (.goto 4, 3) := by decide +kernel
theorem dX6_isSourceLength_46 : decode cX6_isSourceLength 46 = .ok (.iconst 0, 1) := by decide +kernel
theorem dX6_isSourceLength_47 : decode cX6_isSourceLength 47 = .ok (.ireturn, 1) := by decide +kernel
theorem dX6_isRegister_0 : decode cX6_isRegister 0 = .ok (.iload_n 0, 1) := by decide +kernel
theorem dX6_isRegister_1 : decode cX6_isRegister 1 = .ok (.ifCond .lt 13, 3) := by decide +kernel
theorem dX6_isRegister_4 : decode cX6_isRegister 4 = .ok (.iload_n 0, 1) := by decide +kernel
theorem dX6_isRegister_5 : decode cX6_isRegister 5 = .ok (.bipush 12, 2) := by decide +kernel
theorem dX6_isRegister_7 : decode cX6_isRegister 7 = .ok (.if_icmp .ge 7, 3) := by decide +kernel
theorem dX6_isRegister_10 : decode cX6_isRegister 10 = .ok (.iconst 1, 1) := by decide +kernel
theorem dX6_isRegister_11 : decode cX6_isRegister 11 = .ok (.goto 4, 3) := by decide +kernel
theorem dX6_isRegister_14 : decode cX6_isRegister 14 = .ok (.iconst 0, 1) := by decide +kernel
theorem dX6_isRegister_15 : decode cX6_isRegister 15 = .ok (.ireturn, 1) := by decide +kernel
theorem dX6_isEither_0 : decode cX6_isEither 0 = .ok (.iload_n 0, 1) := by decide +kernel
theorem dX6_isEither_1 : decode cX6_isEither 1 = .ok (.ifCond .eq 8, 3) := by decide +kernel
theorem dX6_isEither_4 : decode cX6_isEither 4 = .ok (.iload_n 0, 1) := by decide +kernel
theorem dX6_isEither_5 : decode cX6_isEither 5 = .ok (.iconst 1, 1) := by decide +kernel
theorem dX6_isEither_6 : decode cX6_isEither 6 = .ok (.if_icmp .ne 7, 3) := by decide +kernel
theorem dX6_isEither_9 : decode cX6_isEither 9 = .ok (.iconst 1, 1) := by decide +kernel
theorem dX6_isEither_10 : decode cX6_isEither 10 = .ok (.goto 4, 3) := by decide +kernel
theorem dX6_isEither_13 : decode cX6_isEither 13 = .ok (.iconst 0, 1) := by decide +kernel
theorem dX6_isEither_14 : decode cX6_isEither 14 = .ok (.ireturn, 1) := by decide +kernel
theorem dX6_isChance_0 : decode cX6_isChance 0 = .ok (.iload_n 0, 1) := by decide +kernel
theorem dX6_isChance_1 : decode cX6_isChance 1 = .ok (.ifCond .lt 13, 3) := by decide +kernel
theorem dX6_isChance_4 : decode cX6_isChance 4 = .ok (.iload_n 0, 1) := by decide +kernel
theorem dX6_isChance_5 : decode cX6_isChance 5 = .ok (.bipush 64, 2) := by decide +kernel
theorem dX6_isChance_7 : decode cX6_isChance 7 = .ok (.if_icmp .gt 7, 3) := by decide +kernel
theorem dX6_isChance_10 : decode cX6_isChance 10 = .ok (.iconst 1, 1) := by decide +kernel
theorem dX6_isChance_11 : decode cX6_isChance 11 = .ok (.goto 4, 3) := by decide +kernel
theorem dX6_isChance_14 : decode cX6_isChance 14 = .ok (.iconst 0, 1) := by decide +kernel
theorem dX6_isChance_15 : decode cX6_isChance 15 = .ok (.ireturn, 1) := by decide +kernel
theorem dX7_init_0 : decode cX7_init 0 = .ok (.aload_n 0, 1) := by decide +kernel
theorem dX7_init_1 : decode cX7_init 1 = .ok (.invokespecial 1, 3) := by decide +kernel
theorem dX7_init_4 : decode cX7_init 4 = .ok (.aload_n 0, 1) := by decide +kernel
theorem dX7_init_5 : decode cX7_init 5 = .ok (.iconst 2, 1) := by decide +kernel
theorem dX7_init_6 : decode cX7_init 6 = .ok (.putfield 7, 3) := by decide +kernel
theorem dX7_init_9 : decode cX7_init 9 = .ok (.aload_n 0, 1) := by decide +kernel
theorem dX7_init_10 : decode cX7_init 10 = .ok (.bipush 24, 2) := by decide +kernel
theorem dX7_init_12 : decode cX7_init 12 = .ok (.newarray .int, 2) := by decide +kernel
theorem dX7_init_14 : decode cX7_init 14 = .ok (.putfield 13, 3) := by decide +kernel
theorem dX7_init_17 : decode cX7_init 17 = .ok (.aload_n 0, 1) := by decide +kernel
theorem dX7_init_18 : decode cX7_init 18 = .ok (.sipush 720, 3) := by decide +kernel
theorem dX7_init_21 : decode cX7_init 21 = .ok (.newarray .int, 2) := by decide +kernel
theorem dX7_init_23 : decode cX7_init 23 = .ok (.putfield 17, 3) := by decide +kernel
theorem dX7_init_26 : decode cX7_init 26 = .ok (.aload_n 0, 1) := by decide +kernel
theorem dX7_init_27 : decode cX7_init 27 = .ok (.lconst 1, 1) := by decide +kernel
theorem dX7_init_28 : decode cX7_init 28 = .ok (.putfield 20, 3) := by decide +kernel
theorem dX7_init_31 : decode cX7_init 31 = .ok (.aload_n 0, 1) := by decide +kernel
theorem dX7_init_32 : decode cX7_init 32 = .ok (.sipush 17408, 3) := by decide +kernel
theorem dX7_init_35 : decode cX7_init 35 = .ok (.newarray .int, 2) := by decide +kernel
theorem dX7_init_37 : decode cX7_init 37 = .ok (.putfield 24, 3) := by decide +kernel
theorem dX7_init_40 : decode cX7_init 40 = .ok (.aload_n 0, 1) := by decide +kernel
theorem dX7_init_41 : decode cX7_init 41 = .ok (.sipush 4800, 3) := by decide +kernel
theorem dX7_init_44 : decode cX7_init 44 = .ok (.newarray .int, 2) := by decide +kernel
theorem dX7_init_46 : decode cX7_init 46 = .ok (.putfield 27, 3) := by decide +kernel
theorem dX7_init_49 : decode cX7_init 49 = .ok (.aload_n 0, 1) := by decide +kernel
theorem dX7_init_50 : decode cX7_init 50 = .ok (.sipush 900, 3) := by decide +kernel
theorem dX7_init_53 : decode cX7_init 53 = .ok (.newarray .long, 2) := by decide +kernel
theorem dX7_init_55 : decode cX7_init 55 = .ok (.putfield 30, 3) := by decide +kernel
theorem dX7_init_58 : decode cX7_init 58 = .ok (.aload_n 0, 1) := by decide +kernel
theorem dX7_init_59 : decode cX7_init 59 = .ok (.sipush 900, 3) := by decide +kernel
theorem dX7_init_62 : decode cX7_init 62 = .ok (.newarray .int, 2) := by decide +kernel
theorem dX7_init_64 : decode cX7_init 64 = .ok (.putfield 34, 3) := by decide +kernel
theorem dX7_init_67 : decode cX7_init 67 = .ok (.return_, 1) := by decide +kernel
theorem dX7_in_0 : decode cX7_in 0 = .ok (.lload_n 0, 1) := by decide +kernel
theorem dX7_in_1 : decode cX7_in 1 = .ok (.lload_n 2, 1) := by decide +kernel
theorem dX7_in_2 : decode cX7_in 2 = .ok (.lcmp, 1) := by decide +kernel
theorem dX7_in_3 : decode cX7_in 3 = .ok (.ifCond .lt 14, 3) := by decide +kernel
theorem dX7_in_6 : decode cX7_in 6 = .ok (.lload_n 0, 1) := by decide +kernel
theorem dX7_in_7 : decode cX7_in 7 = .ok (.lload 4, 2) := by decide +kernel
theorem dX7_in_9 : decode cX7_in 9 = .ok (.lcmp, 1) := by decide +kernel
theorem dX7_in_10 : decode cX7_in 10 = .ok (.ifCond .gt 7, 3) := by decide +kernel
theorem dX7_in_13 : decode cX7_in 13 = .ok (.iconst 1, 1) := by decide +kernel
theorem dX7_in_14 : decode cX7_in 14 = .ok (.goto 4, 3) := by decide +kernel
theorem dX7_in_17 : decode cX7_in 17 = .ok (.iconst 0, 1) := by decide +kernel
theorem dX7_in_18 : decode cX7_in 18 = .ok (.ireturn, 1) := by decide +kernel
theorem dX7_isRegister_0 : decode cX7_isRegister 0 = .ok (.iload_n 0, 1) := by decide +kernel
theorem dX7_isRegister_1 : decode cX7_isRegister 1 = .ok (.i2l, 1) := by decide +kernel
theorem dX7_isRegister_2 : decode cX7_isRegister 2 = .ok (.lconst 0, 1) := by decide +kernel
theorem dX7_isRegister_3 : decode cX7_isRegister 3 = .ok (.ldc2_w 37, 3) := by decide +kernel
theorem dX7_isRegister_6 : decode cX7_isRegister 6 = .ok (.invokestatic 39, 3) := by decide +kernel
theorem dX7_isRegister_9 : decode cX7_isRegister 9 = .ok (.ireturn, 1) := by decide +kernel
theorem dX7_letters_0 : decode cX7_letters 0 = .ok (.iload_n 1, 1) := by decide +kernel
theorem dX7_letters_1 : decode cX7_letters 1 = .ok (.i2l, 1) := by decide +kernel
theorem dX7_letters_2 : decode cX7_letters 2 = .ok (.ldc2_w 43, 3) := by decide +kernel
theorem dX7_letters_5 : decode cX7_letters 5 = .ok (.ldc2_w 45, 3) := by decide +kernel
theorem dX7_letters_8 : decode cX7_letters 8 = .ok (.invokestatic 39, 3) := by decide +kernel
theorem dX7_letters_11 : decode cX7_letters 11 = .ok (.ifCond .ne 5, 3) := by decide +kernel
theorem dX7_letters_14 : decode cX7_letters 14 = .ok (.iconst (-1), 1) := by decide +kernel
theorem dX7_letters_15 : decode cX7_letters 15 = .ok (.ireturn, 1) := by decide +kernel
theorem dX7_letters_16 : decode cX7_letters 16 = .ok (.aload_n 0, 1) := by decide +kernel
theorem dX7_letters_17 : decode cX7_letters 17 = .ok (.iload_n 1, 1) := by decide +kernel
theorem dX7_letters_18 : decode cX7_letters 18 = .ok (.putfield 7, 3) := by decide +kernel
theorem dX7_letters_21 : decode cX7_letters 21 = .ok (.iconst 0, 1) := by decide +kernel
theorem dX7_letters_22 : decode cX7_letters 22 = .ok (.istore_n 2, 1) := by decide +kernel
theorem dX7_letters_23 : decode cX7_letters 23 = .ok (.iload_n 2, 1) := by decide +kernel
theorem dX7_letters_24 : decode cX7_letters 24 = .ok (.bipush 24, 2) := by decide +kernel
theorem dX7_letters_26 : decode cX7_letters 26 = .ok (.if_icmp .ge 16, 3) := by decide +kernel
theorem dX7_letters_29 : decode cX7_letters 29 = .ok (.aload_n 0, 1) := by decide +kernel
theorem dX7_letters_30 : decode cX7_letters 30 = .ok (.getfield 13, 3) := by decide +kernel
theorem dX7_letters_33 : decode cX7_letters 33 = .ok (.iload_n 2, 1) := by decide +kernel
theorem dX7_letters_34 : decode cX7_letters 34 = .ok (.iconst 0, 1) := by decide +kernel
theorem dX7_letters_35 : decode cX7_letters 35 = .ok (.iastore, 1) := by decide +kernel
theorem dX7_letters_36 : decode cX7_letters 36 = .ok (.iinc 2 1, 3) := by decide +kernel
theorem dX7_letters_39 : decode cX7_letters 39 = .ok (.goto (-16), 3) := by decide +kernel
theorem dX7_letters_42 : decode cX7_letters 42 = .ok (.aload_n 0, 1) := by decide +kernel
theorem dX7_letters_43 : decode cX7_letters 43 = .ok (.iconst 0, 1) := by decide +kernel
theorem dX7_letters_44 : decode cX7_letters 44 = .ok (.putfield 47, 3) := by decide +kernel
theorem dX7_letters_47 : decode cX7_letters 47 = .ok (.aload_n 0, 1) := by decide +kernel
theorem dX7_letters_48 : decode cX7_letters 48 = .ok (.iconst 0, 1) := by decide +kernel
theorem dX7_letters_49 : decode cX7_letters 49 = .ok (.putfield 50, 3) := by decide +kernel
theorem dX7_letters_52 : decode cX7_letters 52 = .ok (.iconst 0, 1) := by decide +kernel
theorem dX7_letters_53 : decode cX7_letters 53 = .ok (.ireturn, 1) := by decide +kernel
theorem dX7_puts_0 : decode cX7_puts 0 = .ok (.aload_n 0, 1) := by decide +kernel
theorem dX7_puts_1 : decode cX7_puts 1 = .ok (.getfield 17, 3) := by decide +kernel
theorem dX7_puts_4 : decode cX7_puts 4 = .ok (.bipush 30, 2) := by decide +kernel
theorem dX7_puts_6 : decode cX7_puts 6 = .ok (.iload_n 1, 1) := by decide +kernel
theorem dX7_puts_7 : decode cX7_puts 7 = .ok (.imul, 1) := by decide +kernel
theorem dX7_puts_8 : decode cX7_puts 8 = .ok (.aload_n 0, 1) := by decide +kernel
theorem dX7_puts_9 : decode cX7_puts 9 = .ok (.getfield 13, 3) := by decide +kernel
theorem dX7_puts_12 : decode cX7_puts 12 = .ok (.iload_n 1, 1) := by decide +kernel
theorem dX7_puts_13 : decode cX7_puts 13 = .ok (.iaload, 1) := by decide +kernel
theorem dX7_puts_14 : decode cX7_puts 14 = .ok (.iadd, 1) := by decide +kernel
theorem dX7_puts_15 : decode cX7_puts 15 = .ok (.iload_n 2, 1) := by decide +kernel
theorem dX7_puts_16 : decode cX7_puts 16 = .ok (.iastore, 1) := by decide +kernel
theorem dX7_puts_17 : decode cX7_puts 17 = .ok (.aload_n 0, 1) := by decide +kernel
theorem dX7_puts_18 : decode cX7_puts 18 = .ok (.getfield 13, 3) := by decide +kernel
theorem dX7_puts_21 : decode cX7_puts 21 = .ok (.iload_n 1, 1) := by decide +kernel
theorem dX7_puts_22 : decode cX7_puts 22 = .ok (.dup2, 1) := by decide +kernel
theorem dX7_puts_23 : decode cX7_puts 23 = .ok (.iaload, 1) := by decide +kernel
theorem dX7_puts_24 : decode cX7_puts 24 = .ok (.iconst 1, 1) := by decide +kernel
theorem dX7_puts_25 : decode cX7_puts 25 = .ok (.iadd, 1) := by decide +kernel
theorem dX7_puts_26 : decode cX7_puts 26 = .ok (.iastore, 1) := by decide +kernel
theorem dX7_puts_27 : decode cX7_puts 27 = .ok (.return_, 1) := by decide +kernel
theorem dX7_copies_0 : decode cX7_copies 0 = .ok (.aload_n 0, 1) := by decide +kernel
theorem dX7_copies_1 : decode cX7_copies 1 = .ok (.getfield 13, 3) := by decide +kernel
theorem dX7_copies_4 : decode cX7_copies 4 = .ok (.iload_n 1, 1) := by decide +kernel
theorem dX7_copies_5 : decode cX7_copies 5 = .ok (.aload_n 0, 1) := by decide +kernel
theorem dX7_copies_6 : decode cX7_copies 6 = .ok (.getfield 13, 3) := by decide +kernel
theorem dX7_copies_9 : decode cX7_copies 9 = .ok (.iload_n 2, 1) := by decide +kernel
theorem dX7_copies_10 : decode cX7_copies 10 = .ok (.iaload, 1) := by decide +kernel
theorem dX7_copies_11 : decode cX7_copies 11 = .ok (.iastore, 1) := by decide +kernel
theorem dX7_copies_12 : decode cX7_copies 12 = .ok (.iconst 0, 1) := by decide +kernel
theorem dX7_copies_13 : decode cX7_copies 13 = .ok (.istore_n 3, 1) := by decide +kernel
theorem dX7_copies_14 : decode cX7_copies 14 = .ok (.iload_n 3, 1) := by decide +kernel
theorem dX7_copies_15 : decode cX7_copies 15 = .ok (.bipush 30, 2) := by decide +kernel
theorem dX7_copies_17 : decode cX7_copies 17 = .ok (.if_icmp .ge 31, 3) := by decide +kernel
theorem dX7_copies_20 : decode cX7_copies 20 = .ok (.aload_n 0, 1) := by decide +kernel
theorem dX7_copies_21 : decode cX7_copies 21 = .ok (.getfield 17, 3) := by decide +kernel
theorem dX7_copies_24 : decode cX7_copies 24 = .ok (.bipush 30, 2) := by decide +kernel
theorem dX7_copies_26 : decode cX7_copies 26 = .ok (.iload_n 1, 1) := by decide +kernel
theorem dX7_copies_27 : decode cX7_copies 27 = .ok (.imul, 1) := by decide +kernel
theorem dX7_copies_28 : decode cX7_copies 28 = .ok (.iload_n 3, 1) := by decide +kernel
theorem dX7_copies_29 : decode cX7_copies 29 = .ok (.iadd, 1) := by decide +kernel
theorem dX7_copies_30 : decode cX7_copies 30 = .ok (.aload_n 0, 1) := by decide +kernel
theorem dX7_copies_31 : decode cX7_copies 31 = .ok (.getfield 17, 3) := by decide +kernel
theorem dX7_copies_34 : decode cX7_copies 34 = .ok (.bipush 30, 2) := by decide +kernel
theorem dX7_copies_36 : decode cX7_copies 36 = .ok (.iload_n 2, 1) := by decide +kernel
theorem dX7_copies_37 : decode cX7_copies 37 = .ok (.imul, 1) := by decide +kernel
theorem dX7_copies_38 : decode cX7_copies 38 = .ok (.iload_n 3, 1) := by decide +kernel
theorem dX7_copies_39 : decode cX7_copies 39 = .ok (.iadd, 1) := by decide +kernel
theorem dX7_copies_40 : decode cX7_copies 40 = .ok (.iaload, 1) := by decide +kernel
theorem dX7_copies_41 : decode cX7_copies 41 = .ok (.iastore, 1) := by decide +kernel
theorem dX7_copies_42 : decode cX7_copies 42 = .ok (.iinc 3 1, 3) := by decide +kernel
theorem dX7_copies_45 : decode cX7_copies 45 = .ok (.goto (-31), 3) := by decide +kernel
theorem dX7_copies_48 : decode cX7_copies 48 = .ok (.return_, 1) := by decide +kernel
theorem dX7_word_0 : decode cX7_word 0 = .ok (.iload_n 1, 1) := by decide +kernel
theorem dX7_word_1 : decode cX7_word 1 = .ok (.invokestatic 53, 3) := by decide +kernel
theorem dX7_word_4 : decode cX7_word 4 = .ok (.ifCond .eq 31, 3) := by decide +kernel
theorem dX7_word_7 : decode cX7_word 7 = .ok (.iload_n 2, 1) := by decide +kernel
theorem dX7_word_8 : decode cX7_word 8 = .ok (.i2l, 1) := by decide +kernel
theorem dX7_word_9 : decode cX7_word 9 = .ok (.lconst 0, 1) := by decide +kernel
theorem dX7_word_10 : decode cX7_word 10 = .ok (.ldc2_w 57, 3) := by decide +kernel
theorem dX7_word_13 : decode cX7_word 13 = .ok (.invokestatic 39, 3) := by decide +kernel
theorem dX7_word_16 : decode cX7_word 16 = .ok (.ifCond .eq 19, 3) := by decide +kernel
theorem dX7_word_19 : decode cX7_word 19 = .ok (.lload_n 3, 1) := by decide +kernel
theorem dX7_word_20 : decode cX7_word 20 = .ok (.lconst 0, 1) := by decide +kernel
theorem dX7_word_21 : decode cX7_word 21 = .ok (.lcmp, 1) := by decide +kernel
theorem dX7_word_22 : decode cX7_word 22 = .ok (.ifCond .lt 13, 3) := by decide +kernel
theorem dX7_word_25 : decode cX7_word 25 = .ok (.lload_n 3, 1) := by decide +kernel
theorem dX7_word_26 : decode cX7_word 26 = .ok (.iconst 2, 1) := by decide +kernel
theorem dX7_word_27 : decode cX7_word 27 = .ok (.iload_n 2, 1) := by decide +kernel
theorem dX7_word_28 : decode cX7_word 28 = .ok (.imul, 1) := by decide +kernel
theorem dX7_word_29 : decode cX7_word 29 = .ok (.lushr, 1) := by decide +kernel
theorem dX7_word_30 : decode cX7_word 30 = .ok (.lconst 0, 1) := by decide +kernel
theorem dX7_word_31 : decode cX7_word 31 = .ok (.lcmp, 1) := by decide +kernel
theorem dX7_word_32 : decode cX7_word 32 = .ok (.ifCond .eq 5, 3) := by decide +kernel
theorem dX7_word_35 : decode cX7_word 35 = .ok (.iconst (-1), 1) := by decide +kernel
theorem dX7_word_36 : decode cX7_word 36 = .ok (.ireturn, 1) := by decide +kernel
theorem dX7_word_37 : decode cX7_word 37 = .ok (.iconst 0, 1) := by decide +kernel
theorem dX7_word_38 : decode cX7_word 38 = .ok (.istore 5, 2) := by decide +kernel
theorem dX7_word_40 : decode cX7_word 40 = .ok (.iload 5, 2) := by decide +kernel
theorem dX7_word_42 : decode cX7_word 42 = .ok (.iload_n 2, 1) := by decide +kernel
theorem dX7_word_43 : decode cX7_word 43 = .ok (.if_icmp .ge 30, 3) := by decide +kernel
theorem dX7_word_46 : decode cX7_word 46 = .ok (.lload_n 3, 1) := by decide +kernel
theorem dX7_word_47 : decode cX7_word 47 = .ok (.iconst 2, 1) := by decide +kernel
theorem dX7_word_48 : decode cX7_word 48 = .ok (.iload 5, 2) := by decide +kernel
theorem dX7_word_50 : decode cX7_word 50 = .ok (.imul, 1) := by decide +kernel
theorem dX7_word_51 : decode cX7_word 51 = .ok (.lshr, 1) := by decide +kernel
theorem dX7_word_52 : decode cX7_word 52 = .ok (.ldc2_w 59, 3) := by decide +kernel
theorem dX7_word_55 : decode cX7_word 55 = .ok (.land, 1) := by decide +kernel
theorem dX7_word_56 : decode cX7_word 56 = .ok (.aload_n 0, 1) := by decide +kernel
theorem dX7_word_57 : decode cX7_word 57 = .ok (.getfield 7, 3) := by decide +kernel
theorem dX7_word_60 : decode cX7_word 60 = .ok (.i2l, 1) := by decide +kernel
theorem dX7_word_61 : decode cX7_word 61 = .ok (.lcmp, 1) := by decide +kernel
theorem dX7_word_62 : decode cX7_word 62 = .ok (.ifCond .lt 5, 3) := by decide +kernel
theorem dX7_word_65 : decode cX7_word 65 = .ok (.iconst (-1), 1) := by decide +kernel
theorem dX7_word_66 : decode cX7_word 66 = .ok (.ireturn, 1) := by decide +kernel
theorem dX7_word_67 : decode cX7_word 67 = .ok (.iinc 5 1, 3) := by decide +kernel
theorem dX7_word_70 : decode cX7_word 70 = .ok (.goto (-30), 3) := by decide +kernel
theorem dX7_word_73 : decode cX7_word 73 = .ok (.aload_n 0, 1) := by decide +kernel
theorem dX7_word_74 : decode cX7_word 74 = .ok (.getfield 13, 3) := by decide +kernel
theorem dX7_word_77 : decode cX7_word 77 = .ok (.iload_n 1, 1) := by decide +kernel
theorem dX7_word_78 : decode cX7_word 78 = .ok (.iconst 0, 1) := by decide +kernel
theorem dX7_word_79 : decode cX7_word 79 = .ok (.iastore, 1) := by decide +kernel
theorem dX7_word_80 : decode cX7_word 80 = .ok (.iconst 0, 1) := by decide +kernel
theorem dX7_word_81 : decode cX7_word 81 = .ok (.istore 5, 2) := by decide +kernel
theorem dX7_word_83 : decode cX7_word 83 = .ok (.iload 5, 2) := by decide +kernel
theorem dX7_word_85 : decode cX7_word 85 = .ok (.iload_n 2, 1) := by decide +kernel
theorem dX7_word_86 : decode cX7_word 86 = .ok (.if_icmp .ge 25, 3) := by decide +kernel
theorem dX7_word_89 : decode cX7_word 89 = .ok (.aload_n 0, 1) := by decide +kernel
theorem dX7_word_90 : decode cX7_word 90 = .ok (.iload_n 1, 1) := by decide +kernel
theorem dX7_word_91 : decode cX7_word 91 = .ok (.lload_n 3, 1) := by decide +kernel
theorem dX7_word_92 : decode cX7_word 92 = .ok (.iconst 2, 1) := by decide +kernel
theorem dX7_word_93 : decode cX7_word 93 = .ok (.iload 5, 2) := by decide +kernel
theorem dX7_word_95 : decode cX7_word 95 = .ok (.imul, 1) := by decide +kernel
theorem dX7_word_96 : decode cX7_word 96 = .ok (.lshr, 1) := by decide +kernel
theorem dX7_word_97 : decode cX7_word 97 = .ok (.ldc2_w 59, 3) := by decide +kernel
theorem dX7_word_100 : decode cX7_word 100 = .ok (.land, 1) := by decide +kernel
theorem dX7_word_101 : decode cX7_word 101 = .ok (.l2i, 1) := by decide +kernel
theorem dX7_word_102 : decode cX7_word 102 = .ok (.invokevirtual 61, 3) := by decide +kernel
theorem dX7_word_105 : decode cX7_word 105 = .ok (.iinc 5 1, 3) := by decide +kernel
theorem dX7_word_108 : decode cX7_word 108 = .ok (.goto (-25), 3) := by decide +kernel
theorem dX7_word_111 : decode cX7_word 111 = .ok (.iload_n 2, 1) := by decide +kernel
theorem dX7_word_112 : decode cX7_word 112 = .ok (.ireturn, 1) := by decide +kernel
theorem dX7_at_0 : decode cX7_at 0 = .ok (.iload_n 1, 1) := by decide +kernel
theorem dX7_at_1 : decode cX7_at 1 = .ok (.invokestatic 53, 3) := by decide +kernel
theorem dX7_at_4 : decode cX7_at 4 = .ok (.ifCond .eq 8, 3) := by decide +kernel
theorem dX7_at_7 : decode cX7_at 7 = .ok (.iload_n 2, 1) := by decide +kernel
theorem dX7_at_8 : decode cX7_at 8 = .ok (.iconst (-1), 1) := by decide +kernel
theorem dX7_at_9 : decode cX7_at 9 = .ok (.if_icmp .ge 5, 3) := by decide +kernel
theorem dX7_at_12 : decode cX7_at 12 = .ok (.iconst (-1), 1) := by decide +kernel
theorem dX7_at_13 : decode cX7_at 13 = .ok (.ireturn, 1) := by decide +kernel
theorem dX7_at_14 : decode cX7_at 14 = .ok (.iload_n 2, 1) := by decide +kernel
theorem dX7_at_15 : decode cX7_at 15 = .ok (.ifCond .ge 12, 3) := by decide +kernel
theorem dX7_at_18 : decode cX7_at 18 = .ok (.aload_n 0, 1) := by decide +kernel
theorem dX7_at_19 : decode cX7_at 19 = .ok (.getfield 13, 3) := by decide +kernel
theorem dX7_at_22 : decode cX7_at 22 = .ok (.iload_n 1, 1) := by decide +kernel
theorem dX7_at_23 : decode cX7_at 23 = .ok (.iaload, 1) := by decide +kernel
theorem dX7_at_24 : decode cX7_at 24 = .ok (.goto 29, 3) := by decide +kernel
theorem dX7_at_27 : decode cX7_at 27 = .ok (.iload_n 2, 1) := by decide +kernel
theorem dX7_at_28 : decode cX7_at 28 = .ok (.aload_n 0, 1) := by decide +kernel
theorem dX7_at_29 : decode cX7_at 29 = .ok (.getfield 13, 3) := by decide +kernel
theorem dX7_at_32 : decode cX7_at 32 = .ok (.iload_n 1, 1) := by decide +kernel
theorem dX7_at_33 : decode cX7_at 33 = .ok (.iaload, 1) := by decide +kernel
theorem dX7_at_34 : decode cX7_at 34 = .ok (.if_icmp .ge 17, 3) := by decide +kernel
theorem dX7_at_37 : decode cX7_at 37 = .ok (.aload_n 0, 1) := by decide +kernel
theorem dX7_at_38 : decode cX7_at 38 = .ok (.getfield 17, 3) := by decide +kernel
theorem dX7_at_41 : decode cX7_at 41 = .ok (.bipush 30, 2) := by decide +kernel
theorem dX7_at_43 : decode cX7_at 43 = .ok (.iload_n 1, 1) := by decide +kernel
theorem dX7_at_44 : decode cX7_at 44 = .ok (.imul, 1) := by decide +kernel
theorem dX7_at_45 : decode cX7_at 45 = .ok (.iload_n 2, 1) := by decide +kernel
theorem dX7_at_46 : decode cX7_at 46 = .ok (.iadd, 1) := by decide +kernel
theorem dX7_at_47 : decode cX7_at 47 = .ok (.iaload, 1) := by decide +kernel
theorem dX7_at_48 : decode cX7_at 48 = .ok (.goto 5, 3) := by decide +kernel
theorem dX7_at_51 : decode cX7_at 51 = .ok (.bipush (-4), 2) := by decide +kernel
theorem dX7_at_53 : decode cX7_at 53 = .ok (.ireturn, 1) := by decide +kernel
theorem dX7_edits_0 : decode cX7_edits 0 = .ok (.aload_n 0, 1) := by decide +kernel
theorem dX7_edits_1 : decode cX7_edits 1 = .ok (.getfield 13, 3) := by decide +kernel
theorem dX7_edits_4 : decode cX7_edits 4 = .ok (.iload_n 1, 1) := by decide +kernel
theorem dX7_edits_5 : decode cX7_edits 5 = .ok (.iconst 0, 1) := by decide +kernel
theorem dX7_edits_6 : decode cX7_edits 6 = .ok (.iastore, 1) := by decide +kernel
theorem dX7_edits_7 : decode cX7_edits 7 = .ok (.iconst 0, 1) := by decide +kernel
theorem dX7_edits_8 : decode cX7_edits 8 = .ok (.istore 6, 2) := by decide +kernel
theorem dX7_edits_10 : decode cX7_edits 10 = .ok (.iload 6, 2) := by decide +kernel
theorem dX7_edits_12 : decode cX7_edits 12 = .ok (.aload_n 0, 1) := by decide +kernel
theorem dX7_edits_13 : decode cX7_edits 13 = .ok (.getfield 13, 3) := by decide +kernel
theorem dX7_edits_16 : decode cX7_edits 16 = .ok (.iload_n 2, 1) := by decide +kernel
theorem dX7_edits_17 : decode cX7_edits 17 = .ok (.iaload, 1) := by decide +kernel
theorem dX7_edits_18 : decode cX7_edits 18 = .ok (.if_icmp .gt 67, 3) := by decide +kernel
theorem dX7_edits_21 : decode cX7_edits 21 = .ok (.iload 6, 2) := by decide +kernel
theorem dX7_edits_23 : decode cX7_edits 23 = .ok (.iload 4, 2) := by decide +kernel
theorem dX7_edits_25 : decode cX7_edits 25 = .ok (.if_icmp .ne 14, 3) := by decide +kernel
theorem dX7_edits_28 : decode cX7_edits 28 = .ok (.iload_n 3, 1) := by decide +kernel
theorem dX7_edits_29 : decode cX7_edits 29 = .ok (.ifCond .le 10, 3) := by decide +kernel
theorem dX7_edits_32 : decode cX7_edits 32 = .ok (.aload_n 0, 1) := by decide +kernel
theorem dX7_edits_33 : decode cX7_edits 33 = .ok (.iload_n 1, 1) := by decide +kernel
theorem dX7_edits_34 : decode cX7_edits 34 = .ok (.iload 5, 2) := by decide +kernel
theorem dX7_edits_36 : decode cX7_edits 36 = .ok (.invokevirtual 61, 3) := by decide +kernel
theorem dX7_edits_39 : decode cX7_edits 39 = .ok (.iload 6, 2) := by decide +kernel
theorem dX7_edits_41 : decode cX7_edits 41 = .ok (.aload_n 0, 1) := by decide +kernel
theorem dX7_edits_42 : decode cX7_edits 42 = .ok (.getfield 13, 3) := by decide +kernel
theorem dX7_edits_45 : decode cX7_edits 45 = .ok (.iload_n 2, 1) := by decide +kernel
theorem dX7_edits_46 : decode cX7_edits 46 = .ok (.iaload, 1) := by decide +kernel
theorem dX7_edits_47 : decode cX7_edits 47 = .ok (.if_icmp .ge 32, 3) := by decide +kernel
theorem dX7_edits_50 : decode cX7_edits 50 = .ok (.iload 6, 2) := by decide +kernel
theorem dX7_edits_52 : decode cX7_edits 52 = .ok (.iload 4, 2) := by decide +kernel
theorem dX7_edits_54 : decode cX7_edits 54 = .ok (.if_icmp .ne 8, 3) := by decide +kernel
theorem dX7_edits_57 : decode cX7_edits 57 = .ok (.iload_n 3, 1) := by decide +kernel
theorem dX7_edits_58 : decode cX7_edits 58 = .ok (.iconst 1, 1) := by decide +kernel
theorem dX7_edits_59 : decode cX7_edits 59 = .ok (.if_icmp .ne 20, 3) := by decide +kernel
theorem dX7_edits_62 : decode cX7_edits 62 = .ok (.aload_n 0, 1) := by decide +kernel
theorem dX7_edits_63 : decode cX7_edits 63 = .ok (.iload_n 1, 1) := by decide +kernel
theorem dX7_edits_64 : decode cX7_edits 64 = .ok (.aload_n 0, 1) := by decide +kernel
theorem dX7_edits_65 : decode cX7_edits 65 = .ok (.getfield 17, 3) := by decide +kernel
theorem dX7_edits_68 : decode cX7_edits 68 = .ok (.bipush 30, 2) := by decide +kernel
theorem dX7_edits_70 : decode cX7_edits 70 = .ok (.iload_n 2, 1) := by decide +kernel
theorem dX7_edits_71 : decode cX7_edits 71 = .ok (.imul, 1) := by decide +kernel
theorem dX7_edits_72 : decode cX7_edits 72 = .ok (.iload 6, 2) := by decide +kernel
theorem dX7_edits_74 : decode cX7_edits 74 = .ok (.iadd, 1) := by decide +kernel
theorem dX7_edits_75 : decode cX7_edits 75 = .ok (.iaload, 1) := by decide +kernel
theorem dX7_edits_76 : decode cX7_edits 76 = .ok (.invokevirtual 61, 3) := by decide +kernel
theorem dX7_edits_79 : decode cX7_edits 79 = .ok (.iinc 6 1, 3) := by decide +kernel
theorem dX7_edits_82 : decode cX7_edits 82 = .ok (.goto (-72), 3) := by decide +kernel
theorem dX7_edits_85 : decode cX7_edits 85 = .ok (.return_, 1) := by decide +kernel
theorem dX7_edit_0 : decode cX7_edit 0 = .ok (.iload_n 1, 1) := by decide +kernel
theorem dX7_edit_1 : decode cX7_edit 1 = .ok (.invokestatic 53, 3) := by decide +kernel
theorem dX7_edit_4 : decode cX7_edit 4 = .ok (.ifCond .eq 77, 3) := by decide +kernel
theorem dX7_edit_7 : decode cX7_edit 7 = .ok (.iload_n 2, 1) := by decide +kernel
theorem dX7_edit_8 : decode cX7_edit 8 = .ok (.invokestatic 53, 3) := by decide +kernel
theorem dX7_edit_11 : decode cX7_edit 11 = .ok (.ifCond .eq 70, 3) := by decide +kernel
theorem dX7_edit_14 : decode cX7_edit 14 = .ok (.iload_n 3, 1) := by decide +kernel
theorem dX7_edit_15 : decode cX7_edit 15 = .ok (.i2l, 1) := by decide +kernel
theorem dX7_edit_16 : decode cX7_edit 16 = .ok (.lconst 0, 1) := by decide +kernel
theorem dX7_edit_17 : decode cX7_edit 17 = .ok (.ldc2_w 43, 3) := by decide +kernel
theorem dX7_edit_20 : decode cX7_edit 20 = .ok (.invokestatic 39, 3) := by decide +kernel
theorem dX7_edit_23 : decode cX7_edit 23 = .ok (.ifCond .eq 58, 3) := by decide +kernel
theorem dX7_edit_26 : decode cX7_edit 26 = .ok (.iload 4, 2) := by decide +kernel
theorem dX7_edit_28 : decode cX7_edit 28 = .ok (.i2l, 1) := by decide +kernel
theorem dX7_edit_29 : decode cX7_edit 29 = .ok (.lconst 0, 1) := by decide +kernel
theorem dX7_edit_30 : decode cX7_edit 30 = .ok (.iload_n 3, 1) := by decide +kernel
theorem dX7_edit_31 : decode cX7_edit 31 = .ok (.iconst 1, 1) := by decide +kernel
theorem dX7_edit_32 : decode cX7_edit 32 = .ok (.if_icmp .ne 13, 3) := by decide +kernel
theorem dX7_edit_35 : decode cX7_edit 35 = .ok (.aload_n 0, 1) := by decide +kernel
theorem dX7_edit_36 : decode cX7_edit 36 = .ok (.getfield 13, 3) := by decide +kernel
theorem dX7_edit_39 : decode cX7_edit 39 = .ok (.iload_n 2, 1) := by decide +kernel
theorem dX7_edit_40 : decode cX7_edit 40 = .ok (.iaload, 1) := by decide +kernel
theorem dX7_edit_41 : decode cX7_edit 41 = .ok (.i2l, 1) := by decide +kernel
theorem dX7_edit_42 : decode cX7_edit 42 = .ok (.goto 12, 3) := by decide +kernel
theorem dX7_edit_45 : decode cX7_edit 45 = .ok (.aload_n 0, 1) := by decide +kernel
theorem dX7_edit_46 : decode cX7_edit 46 = .ok (.getfield 13, 3) := by decide +kernel
theorem dX7_edit_49 : decode cX7_edit 49 = .ok (.iload_n 2, 1) := by decide +kernel
theorem dX7_edit_50 : decode cX7_edit 50 = .ok (.iaload, 1) := by decide +kernel
theorem dX7_edit_51 : decode cX7_edit 51 = .ok (.iconst 1, 1) := by decide +kernel
theorem dX7_edit_52 : decode cX7_edit 52 = .ok (.isub, 1) := by decide +kernel
theorem dX7_edit_53 : decode cX7_edit 53 = .ok (.i2l, 1) := by decide +kernel
theorem dX7_edit_54 : decode cX7_edit 54 = .ok (.invokestatic 39, 3) := by decide +kernel
theorem dX7_edit_57 : decode cX7_edit 57 = .ok (.ifCond .eq 24, 3) := by decide +kernel
theorem dX7_edit_60 : decode cX7_edit 60 = .ok (.iload_n 3, 1) := by decide +kernel
theorem dX7_edit_61 : decode cX7_edit 61 = .ok (.ifCond .le 22, 3) := by decide +kernel
theorem dX7_edit_64 : decode cX7_edit 64 = .ok (.iload 5, 2) := by decide +kernel
theorem dX7_edit_66 : decode cX7_edit 66 = .ok (.i2l, 1) := by decide +kernel
theorem dX7_edit_67 : decode cX7_edit 67 = .ok (.lconst 0, 1) := by decide +kernel
theorem dX7_edit_68 : decode cX7_edit 68 = .ok (.aload_n 0, 1) := by decide +kernel
theorem dX7_edit_69 : decode cX7_edit 69 = .ok (.getfield 7, 3) := by decide +kernel
theorem dX7_edit_72 : decode cX7_edit 72 = .ok (.iconst 1, 1) := by decide +kernel
theorem dX7_edit_73 : decode cX7_edit 73 = .ok (.isub, 1) := by decide +kernel
theorem dX7_edit_74 : decode cX7_edit 74 = .ok (.i2l, 1) := by decide +kernel
theorem dX7_edit_75 : decode cX7_edit 75 = .ok (.invokestatic 39, 3) := by decide +kernel
theorem dX7_edit_78 : decode cX7_edit 78 = .ok (.ifCond .ne 5, 3) := by decide +kernel
theorem dX7_edit_81 : decode cX7_edit 81 = .ok (.iconst (-1), 1) := by decide +kernel
theorem dX7_edit_82 : decode cX7_edit 82 = .ok (.ireturn, 1) := by decide +kernel
theorem dX7_edit_83 : decode cX7_edit 83 = .ok (.iload_n 3, 1) := by decide +kernel
theorem dX7_edit_84 : decode cX7_edit 84 = .ok (.iconst 1, 1) := by decide +kernel
theorem dX7_edit_85 : decode cX7_edit 85 = .ok (.if_icmp .ne 17, 3) := by decide +kernel
theorem dX7_edit_88 : decode cX7_edit 88 = .ok (.aload_n 0, 1) := by decide +kernel
theorem dX7_edit_89 : decode cX7_edit 89 = .ok (.getfield 13, 3) := by decide +kernel
theorem dX7_edit_92 : decode cX7_edit 92 = .ok (.iload_n 2, 1) := by decide +kernel
theorem dX7_edit_93 : decode cX7_edit 93 = .ok (.iaload, 1) := by decide +kernel
theorem dX7_edit_94 : decode cX7_edit 94 = .ok (.bipush 24, 2) := by decide +kernel
theorem dX7_edit_96 : decode cX7_edit 96 = .ok (.if_icmp .ne 6, 3) := by decide +kernel
theorem dX7_edit_99 : decode cX7_edit 99 = .ok (.bipush (-5), 2) := by decide +kernel
theorem dX7_edit_101 : decode cX7_edit 101 = .ok (.ireturn, 1) := by decide +kernel
theorem dX7_edit_102 : decode cX7_edit 102 = .ok (.aload_n 0, 1) := by decide +kernel
theorem dX7_edit_103 : decode cX7_edit 103 = .ok (.bipush 20, 2) := by decide +kernel
theorem dX7_edit_105 : decode cX7_edit 105 = .ok (.iload_n 2, 1) := by decide +kernel
theorem dX7_edit_106 : decode cX7_edit 106 = .ok (.iload_n 3, 1) := by decide +kernel
theorem dX7_edit_107 : decode cX7_edit 107 = .ok (.iload 4, 2) := by decide +kernel
theorem dX7_edit_109 : decode cX7_edit 109 = .ok (.iload 5, 2) := by decide +kernel
theorem dX7_edit_111 : decode cX7_edit 111 = .ok (.invokevirtual 65, 3) := by decide +kernel
theorem dX7_edit_114 : decode cX7_edit 114 = .ok (.aload_n 0, 1) := by decide +kernel
theorem dX7_edit_115 : decode cX7_edit 115 = .ok (.iload_n 1, 1) := by decide +kernel
theorem dX7_edit_116 : decode cX7_edit 116 = .ok (.bipush 20, 2) := by decide +kernel
theorem dX7_edit_118 : decode cX7_edit 118 = .ok (.invokevirtual 69, 3) := by decide +kernel
theorem dX7_edit_121 : decode cX7_edit 121 = .ok (.aload_n 0, 1) := by decide +kernel
theorem dX7_edit_122 : decode cX7_edit 122 = .ok (.getfield 13, 3) := by decide +kernel
theorem dX7_edit_125 : decode cX7_edit 125 = .ok (.iload_n 1, 1) := by decide +kernel
theorem dX7_edit_126 : decode cX7_edit 126 = .ok (.iaload, 1) := by decide +kernel
theorem dX7_edit_127 : decode cX7_edit 127 = .ok (.ireturn, 1) := by decide +kernel
theorem dX7_sumOf_0 : decode cX7_sumOf 0 = .ok (.iconst 0, 1) := by decide +kernel
theorem dX7_sumOf_1 : decode cX7_sumOf 1 = .ok (.istore_n 2, 1) := by decide +kernel
theorem dX7_sumOf_2 : decode cX7_sumOf 2 = .ok (.iconst 1, 1) := by decide +kernel
theorem dX7_sumOf_3 : decode cX7_sumOf 3 = .ok (.istore_n 3, 1) := by decide +kernel
theorem dX7_sumOf_4 : decode cX7_sumOf 4 = .ok (.iload_n 3, 1) := by decide +kernel
theorem dX7_sumOf_5 : decode cX7_sumOf 5 = .ok (.aload_n 0, 1) := by decide +kernel
end
section
theorem dX7_sumOf_6 : decode cX7_sumOf 6 = .ok (.getfield 13, 3) := by decide +kernel
theorem dX7_sumOf_9 : decode cX7_sumOf 9 = .ok (.iload_n 1, 1) := by decide +kernel
theorem dX7_sumOf_10 : decode cX7_sumOf 10 = .ok (.iaload, 1) := by decide +kernel
theorem dX7_sumOf_11 : decode cX7_sumOf 11 = .ok (.if_icmp .gt 78, 3) := by decide +kernel
theorem dX7_sumOf_14 : decode cX7_sumOf 14 = .ok (.aload_n 0, 1) := by decide +kernel
theorem dX7_sumOf_15 : decode cX7_sumOf 15 = .ok (.getfield 7, 3) := by decide +kernel
theorem dX7_sumOf_18 : decode cX7_sumOf 18 = .ok (.iconst 2, 1) := by decide +kernel
theorem dX7_sumOf_19 : decode cX7_sumOf 19 = .ok (.if_icmp .ne 24, 3) := by decide +kernel
theorem dX7_sumOf_22 : decode cX7_sumOf 22 = .ok (.iload_n 2, 1) := by decide +kernel
theorem dX7_sumOf_23 : decode cX7_sumOf 23 = .ok (.iload_n 3, 1) := by decide +kernel
theorem dX7_sumOf_24 : decode cX7_sumOf 24 = .ok (.aload_n 0, 1) := by decide +kernel
theorem dX7_sumOf_25 : decode cX7_sumOf 25 = .ok (.getfield 17, 3) := by decide +kernel
theorem dX7_sumOf_28 : decode cX7_sumOf 28 = .ok (.bipush 30, 2) := by decide +kernel
theorem dX7_sumOf_30 : decode cX7_sumOf 30 = .ok (.iload_n 1, 1) := by decide +kernel
theorem dX7_sumOf_31 : decode cX7_sumOf 31 = .ok (.imul, 1) := by decide +kernel
theorem dX7_sumOf_32 : decode cX7_sumOf 32 = .ok (.iload_n 3, 1) := by decide +kernel
theorem dX7_sumOf_33 : decode cX7_sumOf 33 = .ok (.iadd, 1) := by decide +kernel
theorem dX7_sumOf_34 : decode cX7_sumOf 34 = .ok (.iconst 1, 1) := by decide +kernel
theorem dX7_sumOf_35 : decode cX7_sumOf 35 = .ok (.isub, 1) := by decide +kernel
theorem dX7_sumOf_36 : decode cX7_sumOf 36 = .ok (.iaload, 1) := by decide +kernel
theorem dX7_sumOf_37 : decode cX7_sumOf 37 = .ok (.imul, 1) := by decide +kernel
theorem dX7_sumOf_38 : decode cX7_sumOf 38 = .ok (.iadd, 1) := by decide +kernel
theorem dX7_sumOf_39 : decode cX7_sumOf 39 = .ok (.istore_n 2, 1) := by decide +kernel
theorem dX7_sumOf_40 : decode cX7_sumOf 40 = .ok (.goto 43, 3) := by decide +kernel
theorem dX7_sumOf_43 : decode cX7_sumOf 43 = .ok (.iload_n 3, 1) := by decide +kernel
theorem dX7_sumOf_44 : decode cX7_sumOf 44 = .ok (.iconst 1, 1) := by decide +kernel
theorem dX7_sumOf_45 : decode cX7_sumOf 45 = .ok (.if_icmp .le 38, 3) := by decide +kernel
theorem dX7_sumOf_48 : decode cX7_sumOf 48 = .ok (.aload_n 0, 1) := by decide +kernel
theorem dX7_sumOf_49 : decode cX7_sumOf 49 = .ok (.getfield 17, 3) := by decide +kernel
theorem dX7_sumOf_52 : decode cX7_sumOf 52 = .ok (.bipush 30, 2) := by decide +kernel
theorem dX7_sumOf_54 : decode cX7_sumOf 54 = .ok (.iload_n 1, 1) := by decide +kernel
theorem dX7_sumOf_55 : decode cX7_sumOf 55 = .ok (.imul, 1) := by decide +kernel
theorem dX7_sumOf_56 : decode cX7_sumOf 56 = .ok (.iload_n 3, 1) := by decide +kernel
theorem dX7_sumOf_57 : decode cX7_sumOf 57 = .ok (.iadd, 1) := by decide +kernel
theorem dX7_sumOf_58 : decode cX7_sumOf 58 = .ok (.iconst 1, 1) := by decide +kernel
theorem dX7_sumOf_59 : decode cX7_sumOf 59 = .ok (.isub, 1) := by decide +kernel
theorem dX7_sumOf_60 : decode cX7_sumOf 60 = .ok (.iaload, 1) := by decide +kernel
theorem dX7_sumOf_61 : decode cX7_sumOf 61 = .ok (.aload_n 0, 1) := by decide +kernel
theorem dX7_sumOf_62 : decode cX7_sumOf 62 = .ok (.getfield 17, 3) := by decide +kernel
theorem dX7_sumOf_65 : decode cX7_sumOf 65 = .ok (.bipush 30, 2) := by decide +kernel
theorem dX7_sumOf_67 : decode cX7_sumOf 67 = .ok (.iload_n 1, 1) := by decide +kernel
theorem dX7_sumOf_68 : decode cX7_sumOf 68 = .ok (.imul, 1) := by decide +kernel
theorem dX7_sumOf_69 : decode cX7_sumOf 69 = .ok (.iload_n 3, 1) := by decide +kernel
theorem dX7_sumOf_70 : decode cX7_sumOf 70 = .ok (.iadd, 1) := by decide +kernel
theorem dX7_sumOf_71 : decode cX7_sumOf 71 = .ok (.iconst 2, 1) := by decide +kernel
theorem dX7_sumOf_72 : decode cX7_sumOf 72 = .ok (.isub, 1) := by decide +kernel
theorem dX7_sumOf_73 : decode cX7_sumOf 73 = .ok (.iaload, 1) := by decide +kernel
theorem dX7_sumOf_74 : decode cX7_sumOf 74 = .ok (.if_icmp .lt 9, 3) := by decide +kernel
theorem dX7_sumOf_77 : decode cX7_sumOf 77 = .ok (.iload_n 2, 1) := by decide +kernel
theorem dX7_sumOf_78 : decode cX7_sumOf 78 = .ok (.iload_n 3, 1) := by decide +kernel
theorem dX7_sumOf_79 : decode cX7_sumOf 79 = .ok (.iconst 1, 1) := by decide +kernel
theorem dX7_sumOf_80 : decode cX7_sumOf 80 = .ok (.isub, 1) := by decide +kernel
theorem dX7_sumOf_81 : decode cX7_sumOf 81 = .ok (.iadd, 1) := by decide +kernel
theorem dX7_sumOf_82 : decode cX7_sumOf 82 = .ok (.istore_n 2, 1) := by decide +kernel
theorem dX7_sumOf_83 : decode cX7_sumOf 83 = .ok (.iinc 3 1, 3) := by decide +kernel
theorem dX7_sumOf_86 : decode cX7_sumOf 86 = .ok (.goto (-82), 3) := by decide +kernel
theorem dX7_sumOf_89 : decode cX7_sumOf 89 = .ok (.iload_n 2, 1) := by decide +kernel
theorem dX7_sumOf_90 : decode cX7_sumOf 90 = .ok (.ireturn, 1) := by decide +kernel
theorem dX7_lettersOf_0 : decode cX7_lettersOf 0 = .ok (.iconst 0, 1) := by decide +kernel
theorem dX7_lettersOf_1 : decode cX7_lettersOf 1 = .ok (.istore_n 2, 1) := by decide +kernel
theorem dX7_lettersOf_2 : decode cX7_lettersOf 2 = .ok (.iconst 0, 1) := by decide +kernel
theorem dX7_lettersOf_3 : decode cX7_lettersOf 3 = .ok (.istore_n 3, 1) := by decide +kernel
theorem dX7_lettersOf_4 : decode cX7_lettersOf 4 = .ok (.iload_n 3, 1) := by decide +kernel
theorem dX7_lettersOf_5 : decode cX7_lettersOf 5 = .ok (.aload_n 0, 1) := by decide +kernel
theorem dX7_lettersOf_6 : decode cX7_lettersOf 6 = .ok (.getfield 13, 3) := by decide +kernel
theorem dX7_lettersOf_9 : decode cX7_lettersOf 9 = .ok (.iload_n 1, 1) := by decide +kernel
theorem dX7_lettersOf_10 : decode cX7_lettersOf 10 = .ok (.iaload, 1) := by decide +kernel
theorem dX7_lettersOf_11 : decode cX7_lettersOf 11 = .ok (.if_icmp .ge 23, 3) := by decide +kernel
theorem dX7_lettersOf_14 : decode cX7_lettersOf 14 = .ok (.iload_n 2, 1) := by decide +kernel
theorem dX7_lettersOf_15 : decode cX7_lettersOf 15 = .ok (.aload_n 0, 1) := by decide +kernel
theorem dX7_lettersOf_16 : decode cX7_lettersOf 16 = .ok (.getfield 17, 3) := by decide +kernel
theorem dX7_lettersOf_19 : decode cX7_lettersOf 19 = .ok (.bipush 30, 2) := by decide +kernel
theorem dX7_lettersOf_21 : decode cX7_lettersOf 21 = .ok (.iload_n 1, 1) := by decide +kernel
theorem dX7_lettersOf_22 : decode cX7_lettersOf 22 = .ok (.imul, 1) := by decide +kernel
theorem dX7_lettersOf_23 : decode cX7_lettersOf 23 = .ok (.iload_n 3, 1) := by decide +kernel
theorem dX7_lettersOf_24 : decode cX7_lettersOf 24 = .ok (.iadd, 1) := by decide +kernel
theorem dX7_lettersOf_25 : decode cX7_lettersOf 25 = .ok (.iaload, 1) := by decide +kernel
theorem dX7_lettersOf_26 : decode cX7_lettersOf 26 = .ok (.iadd, 1) := by decide +kernel
theorem dX7_lettersOf_27 : decode cX7_lettersOf 27 = .ok (.istore_n 2, 1) := by decide +kernel
theorem dX7_lettersOf_28 : decode cX7_lettersOf 28 = .ok (.iinc 3 1, 3) := by decide +kernel
theorem dX7_lettersOf_31 : decode cX7_lettersOf 31 = .ok (.goto (-27), 3) := by decide +kernel
theorem dX7_lettersOf_34 : decode cX7_lettersOf 34 = .ok (.iload_n 2, 1) := by decide +kernel
theorem dX7_lettersOf_35 : decode cX7_lettersOf 35 = .ok (.ireturn, 1) := by decide +kernel
theorem dX7_isCode_0 : decode cX7_isCode 0 = .ok (.aload_n 0, 1) := by decide +kernel
theorem dX7_isCode_1 : decode cX7_isCode 1 = .ok (.getfield 13, 3) := by decide +kernel
theorem dX7_isCode_4 : decode cX7_isCode 4 = .ok (.iload_n 1, 1) := by decide +kernel
theorem dX7_isCode_5 : decode cX7_isCode 5 = .ok (.iaload, 1) := by decide +kernel
theorem dX7_isCode_6 : decode cX7_isCode 6 = .ok (.aload_n 0, 1) := by decide +kernel
theorem dX7_isCode_7 : decode cX7_isCode 7 = .ok (.getfield 47, 3) := by decide +kernel
theorem dX7_isCode_10 : decode cX7_isCode 10 = .ok (.if_icmp .ne 49, 3) := by decide +kernel
theorem dX7_isCode_13 : decode cX7_isCode 13 = .ok (.aload_n 0, 1) := by decide +kernel
theorem dX7_isCode_14 : decode cX7_isCode 14 = .ok (.iload_n 1, 1) := by decide +kernel
theorem dX7_isCode_15 : decode cX7_isCode 15 = .ok (.invokevirtual 72, 3) := by decide +kernel
theorem dX7_isCode_18 : decode cX7_isCode 18 = .ok (.aload_n 0, 1) := by decide +kernel
theorem dX7_isCode_19 : decode cX7_isCode 19 = .ok (.getfield 76, 3) := by decide +kernel
theorem dX7_isCode_22 : decode cX7_isCode 22 = .ok (.irem, 1) := by decide +kernel
theorem dX7_isCode_23 : decode cX7_isCode 23 = .ok (.aload_n 0, 1) := by decide +kernel
theorem dX7_isCode_24 : decode cX7_isCode 24 = .ok (.getfield 79, 3) := by decide +kernel
theorem dX7_isCode_27 : decode cX7_isCode 27 = .ok (.if_icmp .ne 32, 3) := by decide +kernel
theorem dX7_isCode_30 : decode cX7_isCode 30 = .ok (.aload_n 0, 1) := by decide +kernel
theorem dX7_isCode_31 : decode cX7_isCode 31 = .ok (.getfield 7, 3) := by decide +kernel
theorem dX7_isCode_34 : decode cX7_isCode 34 = .ok (.iconst 2, 1) := by decide +kernel
theorem dX7_isCode_35 : decode cX7_isCode 35 = .ok (.if_icmp .eq 20, 3) := by decide +kernel
theorem dX7_isCode_38 : decode cX7_isCode 38 = .ok (.aload_n 0, 1) := by decide +kernel
theorem dX7_isCode_39 : decode cX7_isCode 39 = .ok (.iload_n 1, 1) := by decide +kernel
theorem dX7_isCode_40 : decode cX7_isCode 40 = .ok (.invokevirtual 82, 3) := by decide +kernel
theorem dX7_isCode_43 : decode cX7_isCode 43 = .ok (.aload_n 0, 1) := by decide +kernel
theorem dX7_isCode_44 : decode cX7_isCode 44 = .ok (.getfield 7, 3) := by decide +kernel
theorem dX7_isCode_47 : decode cX7_isCode 47 = .ok (.irem, 1) := by decide +kernel
theorem dX7_isCode_48 : decode cX7_isCode 48 = .ok (.aload_n 0, 1) := by decide +kernel
theorem dX7_isCode_49 : decode cX7_isCode 49 = .ok (.getfield 85, 3) := by decide +kernel
theorem dX7_isCode_52 : decode cX7_isCode 52 = .ok (.if_icmp .ne 7, 3) := by decide +kernel
theorem dX7_isCode_55 : decode cX7_isCode 55 = .ok (.iconst 1, 1) := by decide +kernel
theorem dX7_isCode_56 : decode cX7_isCode 56 = .ok (.goto 4, 3) := by decide +kernel
theorem dX7_isCode_59 : decode cX7_isCode 59 = .ok (.iconst 0, 1) := by decide +kernel
theorem dX7_isCode_60 : decode cX7_isCode 60 = .ok (.ireturn, 1) := by decide +kernel
theorem dX7_state_0 : decode cX7_state 0 = .ok (.sipush 1024, 3) := by decide +kernel
theorem dX7_state_3 : decode cX7_state 3 = .ok (.iload_n 0, 1) := by decide +kernel
theorem dX7_state_4 : decode cX7_state 4 = .ok (.imul, 1) := by decide +kernel
theorem dX7_state_5 : decode cX7_state 5 = .ok (.sipush 256, 3) := by decide +kernel
theorem dX7_state_8 : decode cX7_state 8 = .ok (.iload_n 1, 1) := by decide +kernel
theorem dX7_state_9 : decode cX7_state 9 = .ok (.imul, 1) := by decide +kernel
theorem dX7_state_10 : decode cX7_state 10 = .ok (.iadd, 1) := by decide +kernel
theorem dX7_state_11 : decode cX7_state 11 = .ok (.iconst 4, 1) := by decide +kernel
theorem dX7_state_12 : decode cX7_state 12 = .ok (.iload_n 2, 1) := by decide +kernel
theorem dX7_state_13 : decode cX7_state 13 = .ok (.imul, 1) := by decide +kernel
theorem dX7_state_14 : decode cX7_state 14 = .ok (.iadd, 1) := by decide +kernel
theorem dX7_state_15 : decode cX7_state 15 = .ok (.iload_n 3, 1) := by decide +kernel
theorem dX7_state_16 : decode cX7_state 16 = .ok (.iadd, 1) := by decide +kernel
theorem dX7_state_17 : decode cX7_state 17 = .ok (.ireturn, 1) := by decide +kernel
theorem dX7_step_0 : decode cX7_step 0 = .ok (.aload_n 0, 1) := by decide +kernel
theorem dX7_step_1 : decode cX7_step 1 = .ok (.getfield 7, 3) := by decide +kernel
theorem dX7_step_4 : decode cX7_step 4 = .ok (.iconst 2, 1) := by decide +kernel
theorem dX7_step_5 : decode cX7_step 5 = .ok (.if_icmp .ne 11, 3) := by decide +kernel
theorem dX7_step_8 : decode cX7_step 8 = .ok (.iload_n 1, 1) := by decide +kernel
theorem dX7_step_9 : decode cX7_step 9 = .ok (.iconst 1, 1) := by decide +kernel
theorem dX7_step_10 : decode cX7_step 10 = .ok (.iadd, 1) := by decide +kernel
theorem dX7_step_11 : decode cX7_step 11 = .ok (.iload_n 3, 1) := by decide +kernel
theorem dX7_step_12 : decode cX7_step 12 = .ok (.imul, 1) := by decide +kernel
theorem dX7_step_13 : decode cX7_step 13 = .ok (.goto 17, 3) := by decide +kernel
theorem dX7_step_16 : decode cX7_step 16 = .ok (.iload_n 1, 1) := by decide +kernel
theorem dX7_step_17 : decode cX7_step 17 = .ok (.ifCond .le 12, 3) := by decide +kernel
theorem dX7_step_20 : decode cX7_step 20 = .ok (.iload_n 3, 1) := by decide +kernel
theorem dX7_step_21 : decode cX7_step 21 = .ok (.iload_n 2, 1) := by decide +kernel
theorem dX7_step_22 : decode cX7_step 22 = .ok (.if_icmp .lt 7, 3) := by decide +kernel
theorem dX7_step_25 : decode cX7_step 25 = .ok (.iload_n 1, 1) := by decide +kernel
theorem dX7_step_26 : decode cX7_step 26 = .ok (.goto 4, 3) := by decide +kernel
theorem dX7_step_29 : decode cX7_step 29 = .ok (.iconst 0, 1) := by decide +kernel
theorem dX7_step_30 : decode cX7_step 30 = .ok (.ireturn, 1) := by decide +kernel
theorem dX7_counts_0 : decode cX7_counts 0 = .ok (.aload_n 0, 1) := by decide +kernel
theorem dX7_counts_1 : decode cX7_counts 1 = .ok (.getfield 47, 3) := by decide +kernel
theorem dX7_counts_4 : decode cX7_counts 4 = .ok (.istore_n 1, 1) := by decide +kernel
theorem dX7_counts_5 : decode cX7_counts 5 = .ok (.iload_n 1, 1) := by decide +kernel
theorem dX7_counts_6 : decode cX7_counts 6 = .ok (.ifCond .lt 183, 3) := by decide +kernel
theorem dX7_counts_9 : decode cX7_counts 9 = .ok (.iconst 0, 1) := by decide +kernel
theorem dX7_counts_10 : decode cX7_counts 10 = .ok (.istore_n 2, 1) := by decide +kernel
theorem dX7_counts_11 : decode cX7_counts 11 = .ok (.iload_n 2, 1) := by decide +kernel
theorem dX7_counts_12 : decode cX7_counts 12 = .ok (.aload_n 0, 1) := by decide +kernel
theorem dX7_counts_13 : decode cX7_counts 13 = .ok (.getfield 7, 3) := by decide +kernel
theorem dX7_counts_16 : decode cX7_counts 16 = .ok (.if_icmp .ge 167, 3) := by decide +kernel
theorem dX7_counts_19 : decode cX7_counts 19 = .ok (.iconst 0, 1) := by decide +kernel
theorem dX7_counts_20 : decode cX7_counts 20 = .ok (.istore_n 3, 1) := by decide +kernel
theorem dX7_counts_21 : decode cX7_counts 21 = .ok (.iload_n 3, 1) := by decide +kernel
theorem dX7_counts_22 : decode cX7_counts 22 = .ok (.aload_n 0, 1) := by decide +kernel
theorem dX7_counts_23 : decode cX7_counts 23 = .ok (.getfield 76, 3) := by decide +kernel
theorem dX7_counts_26 : decode cX7_counts 26 = .ok (.if_icmp .ge 151, 3) := by decide +kernel
theorem dX7_counts_29 : decode cX7_counts 29 = .ok (.iconst 0, 1) := by decide +kernel
theorem dX7_counts_30 : decode cX7_counts 30 = .ok (.istore 4, 2) := by decide +kernel
theorem dX7_counts_32 : decode cX7_counts 32 = .ok (.iload 4, 2) := by decide +kernel
theorem dX7_counts_34 : decode cX7_counts 34 = .ok (.aload_n 0, 1) := by decide +kernel
theorem dX7_counts_35 : decode cX7_counts 35 = .ok (.getfield 7, 3) := by decide +kernel
theorem dX7_counts_38 : decode cX7_counts 38 = .ok (.if_icmp .ge 133, 3) := by decide +kernel
theorem dX7_counts_41 : decode cX7_counts 41 = .ok (.iload_n 1, 1) := by decide +kernel
theorem dX7_counts_42 : decode cX7_counts 42 = .ok (.aload_n 0, 1) := by decide +kernel
theorem dX7_counts_43 : decode cX7_counts 43 = .ok (.getfield 47, 3) := by decide +kernel
theorem dX7_counts_46 : decode cX7_counts 46 = .ok (.if_icmp .ne 32, 3) := by decide +kernel
theorem dX7_counts_49 : decode cX7_counts 49 = .ok (.iload_n 3, 1) := by decide +kernel
theorem dX7_counts_50 : decode cX7_counts 50 = .ok (.aload_n 0, 1) := by decide +kernel
theorem dX7_counts_51 : decode cX7_counts 51 = .ok (.getfield 79, 3) := by decide +kernel
theorem dX7_counts_54 : decode cX7_counts 54 = .ok (.if_icmp .ne 24, 3) := by decide +kernel
theorem dX7_counts_57 : decode cX7_counts 57 = .ok (.aload_n 0, 1) := by decide +kernel
theorem dX7_counts_58 : decode cX7_counts 58 = .ok (.getfield 7, 3) := by decide +kernel
theorem dX7_counts_61 : decode cX7_counts 61 = .ok (.iconst 2, 1) := by decide +kernel
theorem dX7_counts_62 : decode cX7_counts 62 = .ok (.if_icmp .eq 12, 3) := by decide +kernel
theorem dX7_counts_65 : decode cX7_counts 65 = .ok (.iload 4, 2) := by decide +kernel
theorem dX7_counts_67 : decode cX7_counts 67 = .ok (.aload_n 0, 1) := by decide +kernel
theorem dX7_counts_68 : decode cX7_counts 68 = .ok (.getfield 85, 3) := by decide +kernel
theorem dX7_counts_71 : decode cX7_counts 71 = .ok (.if_icmp .ne 7, 3) := by decide +kernel
theorem dX7_counts_74 : decode cX7_counts 74 = .ok (.iconst 1, 1) := by decide +kernel
theorem dX7_counts_75 : decode cX7_counts 75 = .ok (.goto 4, 3) := by decide +kernel
theorem dX7_counts_78 : decode cX7_counts 78 = .ok (.iconst 0, 1) := by decide +kernel
theorem dX7_counts_79 : decode cX7_counts 79 = .ok (.istore 5, 2) := by decide +kernel
theorem dX7_counts_81 : decode cX7_counts 81 = .ok (.iconst 0, 1) := by decide +kernel
theorem dX7_counts_82 : decode cX7_counts 82 = .ok (.istore 6, 2) := by decide +kernel
theorem dX7_counts_84 : decode cX7_counts 84 = .ok (.iload 6, 2) := by decide +kernel
theorem dX7_counts_86 : decode cX7_counts 86 = .ok (.aload_n 0, 1) := by decide +kernel
theorem dX7_counts_87 : decode cX7_counts 87 = .ok (.getfield 7, 3) := by decide +kernel
theorem dX7_counts_90 : decode cX7_counts 90 = .ok (.if_icmp .ge 60, 3) := by decide +kernel
theorem dX7_counts_93 : decode cX7_counts 93 = .ok (.iload_n 1, 1) := by decide +kernel
theorem dX7_counts_94 : decode cX7_counts 94 = .ok (.aload_n 0, 1) := by decide +kernel
theorem dX7_counts_95 : decode cX7_counts 95 = .ok (.getfield 47, 3) := by decide +kernel
theorem dX7_counts_98 : decode cX7_counts 98 = .ok (.if_icmp .ge 52, 3) := by decide +kernel
theorem dX7_counts_101 : decode cX7_counts 101 = .ok (.iload 5, 2) := by decide +kernel
theorem dX7_counts_103 : decode cX7_counts 103 = .ok (.aload_n 0, 1) := by decide +kernel
theorem dX7_counts_104 : decode cX7_counts 104 = .ok (.getfield 24, 3) := by decide +kernel
theorem dX7_counts_107 : decode cX7_counts 107 = .ok (.iload_n 1, 1) := by decide +kernel
theorem dX7_counts_108 : decode cX7_counts 108 = .ok (.iconst 1, 1) := by decide +kernel
theorem dX7_counts_109 : decode cX7_counts 109 = .ok (.iadd, 1) := by decide +kernel
theorem dX7_counts_110 : decode cX7_counts 110 = .ok (.iload 6, 2) := by decide +kernel
theorem dX7_counts_112 : decode cX7_counts 112 = .ok (.iload_n 3, 1) := by decide +kernel
theorem dX7_counts_113 : decode cX7_counts 113 = .ok (.aload_n 0, 1) := by decide +kernel
theorem dX7_counts_114 : decode cX7_counts 114 = .ok (.iload_n 1, 1) := by decide +kernel
theorem dX7_counts_115 : decode cX7_counts 115 = .ok (.iload_n 2, 1) := by decide +kernel
theorem dX7_counts_116 : decode cX7_counts 116 = .ok (.iload 6, 2) := by decide +kernel
theorem dX7_counts_118 : decode cX7_counts 118 = .ok (.invokevirtual 88, 3) := by decide +kernel
theorem dX7_counts_121 : decode cX7_counts 121 = .ok (.iadd, 1) := by decide +kernel
theorem dX7_counts_122 : decode cX7_counts 122 = .ok (.aload_n 0, 1) := by decide +kernel
theorem dX7_counts_123 : decode cX7_counts 123 = .ok (.getfield 76, 3) := by decide +kernel
theorem dX7_counts_126 : decode cX7_counts 126 = .ok (.irem, 1) := by decide +kernel
theorem dX7_counts_127 : decode cX7_counts 127 = .ok (.iload 4, 2) := by decide +kernel
theorem dX7_counts_129 : decode cX7_counts 129 = .ok (.iload 6, 2) := by decide +kernel
theorem dX7_counts_131 : decode cX7_counts 131 = .ok (.iadd, 1) := by decide +kernel
theorem dX7_counts_132 : decode cX7_counts 132 = .ok (.aload_n 0, 1) := by decide +kernel
theorem dX7_counts_133 : decode cX7_counts 133 = .ok (.getfield 7, 3) := by decide +kernel
theorem dX7_counts_136 : decode cX7_counts 136 = .ok (.irem, 1) := by decide +kernel
theorem dX7_counts_137 : decode cX7_counts 137 = .ok (.invokestatic 92, 3) := by decide +kernel
theorem dX7_counts_140 : decode cX7_counts 140 = .ok (.iaload, 1) := by decide +kernel
theorem dX7_counts_141 : decode cX7_counts 141 = .ok (.iadd, 1) := by decide +kernel
theorem dX7_counts_142 : decode cX7_counts 142 = .ok (.istore 5, 2) := by decide +kernel
theorem dX7_counts_144 : decode cX7_counts 144 = .ok (.iinc 6 1, 3) := by decide +kernel
theorem dX7_counts_147 : decode cX7_counts 147 = .ok (.goto (-63), 3) := by decide +kernel
theorem dX7_counts_150 : decode cX7_counts 150 = .ok (.aload_n 0, 1) := by decide +kernel
theorem dX7_counts_151 : decode cX7_counts 151 = .ok (.getfield 24, 3) := by decide +kernel
theorem dX7_counts_154 : decode cX7_counts 154 = .ok (.iload_n 1, 1) := by decide +kernel
theorem dX7_counts_155 : decode cX7_counts 155 = .ok (.iload_n 2, 1) := by decide +kernel
theorem dX7_counts_156 : decode cX7_counts 156 = .ok (.iload_n 3, 1) := by decide +kernel
theorem dX7_counts_157 : decode cX7_counts 157 = .ok (.iload 4, 2) := by decide +kernel
theorem dX7_counts_159 : decode cX7_counts 159 = .ok (.invokestatic 92, 3) := by decide +kernel
theorem dX7_counts_162 : decode cX7_counts 162 = .ok (.iload 5, 2) := by decide +kernel
theorem dX7_counts_164 : decode cX7_counts 164 = .ok (.iastore, 1) := by decide +kernel
theorem dX7_counts_165 : decode cX7_counts 165 = .ok (.iinc 4 1, 3) := by decide +kernel
theorem dX7_counts_168 : decode cX7_counts 168 = .ok (.goto (-136), 3) := by decide +kernel
theorem dX7_counts_171 : decode cX7_counts 171 = .ok (.iinc 3 1, 3) := by decide +kernel
theorem dX7_counts_174 : decode cX7_counts 174 = .ok (.goto (-153), 3) := by decide +kernel
theorem dX7_counts_177 : decode cX7_counts 177 = .ok (.iinc 2 1, 3) := by decide +kernel
theorem dX7_counts_180 : decode cX7_counts 180 = .ok (.goto (-169), 3) := by decide +kernel
theorem dX7_counts_183 : decode cX7_counts 183 = .ok (.iinc 1 (-1), 3) := by decide +kernel
theorem dX7_counts_186 : decode cX7_counts 186 = .ok (.goto (-181), 3) := by decide +kernel
theorem dX7_counts_189 : decode cX7_counts 189 = .ok (.return_, 1) := by decide +kernel
theorem dX7_code_0 : decode cX7_code 0 = .ok (.iload_n 1, 1) := by decide +kernel
theorem dX7_code_1 : decode cX7_code 1 = .ok (.i2l, 1) := by decide +kernel
theorem dX7_code_2 : decode cX7_code 2 = .ok (.lconst 1, 1) := by decide +kernel
theorem dX7_code_3 : decode cX7_code 3 = .ok (.ldc2_w 96, 3) := by decide +kernel
theorem dX7_code_6 : decode cX7_code 6 = .ok (.invokestatic 39, 3) := by decide +kernel
theorem dX7_code_9 : decode cX7_code 9 = .ok (.ifCond .eq 53, 3) := by decide +kernel
theorem dX7_code_12 : decode cX7_code 12 = .ok (.iload_n 2, 1) := by decide +kernel
theorem dX7_code_13 : decode cX7_code 13 = .ok (.i2l, 1) := by decide +kernel
theorem dX7_code_14 : decode cX7_code 14 = .ok (.lconst 1, 1) := by decide +kernel
theorem dX7_code_15 : decode cX7_code 15 = .ok (.ldc2_w 98, 3) := by decide +kernel
theorem dX7_code_18 : decode cX7_code 18 = .ok (.invokestatic 39, 3) := by decide +kernel
theorem dX7_code_21 : decode cX7_code 21 = .ok (.ifCond .eq 41, 3) := by decide +kernel
theorem dX7_code_24 : decode cX7_code 24 = .ok (.iload_n 3, 1) := by decide +kernel
theorem dX7_code_25 : decode cX7_code 25 = .ok (.i2l, 1) := by decide +kernel
theorem dX7_code_26 : decode cX7_code 26 = .ok (.lconst 0, 1) := by decide +kernel
theorem dX7_code_27 : decode cX7_code 27 = .ok (.iload_n 2, 1) := by decide +kernel
theorem dX7_code_28 : decode cX7_code 28 = .ok (.iconst 1, 1) := by decide +kernel
theorem dX7_code_29 : decode cX7_code 29 = .ok (.isub, 1) := by decide +kernel
theorem dX7_code_30 : decode cX7_code 30 = .ok (.i2l, 1) := by decide +kernel
theorem dX7_code_31 : decode cX7_code 31 = .ok (.invokestatic 39, 3) := by decide +kernel
theorem dX7_code_34 : decode cX7_code 34 = .ok (.ifCond .eq 28, 3) := by decide +kernel
theorem dX7_code_37 : decode cX7_code 37 = .ok (.aload_n 0, 1) := by decide +kernel
theorem dX7_code_38 : decode cX7_code 38 = .ok (.getfield 7, 3) := by decide +kernel
theorem dX7_code_41 : decode cX7_code 41 = .ok (.iconst 2, 1) := by decide +kernel
theorem dX7_code_42 : decode cX7_code 42 = .ok (.if_icmp .le 22, 3) := by decide +kernel
theorem dX7_code_45 : decode cX7_code 45 = .ok (.iload 4, 2) := by decide +kernel
theorem dX7_code_47 : decode cX7_code 47 = .ok (.i2l, 1) := by decide +kernel
theorem dX7_code_48 : decode cX7_code 48 = .ok (.lconst 0, 1) := by decide +kernel
theorem dX7_code_49 : decode cX7_code 49 = .ok (.aload_n 0, 1) := by decide +kernel
theorem dX7_code_50 : decode cX7_code 50 = .ok (.getfield 7, 3) := by decide +kernel
theorem dX7_code_53 : decode cX7_code 53 = .ok (.iconst 1, 1) := by decide +kernel
theorem dX7_code_54 : decode cX7_code 54 = .ok (.isub, 1) := by decide +kernel
theorem dX7_code_55 : decode cX7_code 55 = .ok (.i2l, 1) := by decide +kernel
theorem dX7_code_56 : decode cX7_code 56 = .ok (.invokestatic 39, 3) := by decide +kernel
theorem dX7_code_59 : decode cX7_code 59 = .ok (.ifCond .ne 5, 3) := by decide +kernel
theorem dX7_code_62 : decode cX7_code 62 = .ok (.iconst (-1), 1) := by decide +kernel
theorem dX7_code_63 : decode cX7_code 63 = .ok (.ireturn, 1) := by decide +kernel
theorem dX7_code_64 : decode cX7_code 64 = .ok (.aload_n 0, 1) := by decide +kernel
theorem dX7_code_65 : decode cX7_code 65 = .ok (.iload_n 1, 1) := by decide +kernel
theorem dX7_code_66 : decode cX7_code 66 = .ok (.putfield 47, 3) := by decide +kernel
theorem dX7_code_69 : decode cX7_code 69 = .ok (.aload_n 0, 1) := by decide +kernel
theorem dX7_code_70 : decode cX7_code 70 = .ok (.iload_n 2, 1) := by decide +kernel
theorem dX7_code_71 : decode cX7_code 71 = .ok (.putfield 76, 3) := by decide +kernel
theorem dX7_code_74 : decode cX7_code 74 = .ok (.aload_n 0, 1) := by decide +kernel
theorem dX7_code_75 : decode cX7_code 75 = .ok (.iload_n 3, 1) := by decide +kernel
theorem dX7_code_76 : decode cX7_code 76 = .ok (.putfield 79, 3) := by decide +kernel
theorem dX7_code_79 : decode cX7_code 79 = .ok (.aload_n 0, 1) := by decide +kernel
theorem dX7_code_80 : decode cX7_code 80 = .ok (.iload 4, 2) := by decide +kernel
theorem dX7_code_82 : decode cX7_code 82 = .ok (.putfield 85, 3) := by decide +kernel
theorem dX7_code_85 : decode cX7_code 85 = .ok (.aload_n 0, 1) := by decide +kernel
theorem dX7_code_86 : decode cX7_code 86 = .ok (.invokevirtual 100, 3) := by decide +kernel
theorem dX7_code_89 : decode cX7_code 89 = .ok (.aload_n 0, 1) := by decide +kernel
theorem dX7_code_90 : decode cX7_code 90 = .ok (.invokevirtual 103, 3) := by decide +kernel
theorem dX7_code_93 : decode cX7_code 93 = .ok (.ireturn, 1) := by decide +kernel
theorem dX7_codeSize_0 : decode cX7_codeSize 0 = .ok (.aload_n 0, 1) := by decide +kernel
theorem dX7_codeSize_1 : decode cX7_codeSize 1 = .ok (.getfield 24, 3) := by decide +kernel
theorem dX7_codeSize_4 : decode cX7_codeSize 4 = .ok (.iconst 0, 1) := by decide +kernel
theorem dX7_codeSize_5 : decode cX7_codeSize 5 = .ok (.iconst 0, 1) := by decide +kernel
theorem dX7_codeSize_6 : decode cX7_codeSize 6 = .ok (.iconst 0, 1) := by decide +kernel
theorem dX7_codeSize_7 : decode cX7_codeSize 7 = .ok (.iconst 0, 1) := by decide +kernel
theorem dX7_codeSize_8 : decode cX7_codeSize 8 = .ok (.invokestatic 92, 3) := by decide +kernel
theorem dX7_codeSize_11 : decode cX7_codeSize 11 = .ok (.iaload, 1) := by decide +kernel
theorem dX7_codeSize_12 : decode cX7_codeSize 12 = .ok (.ireturn, 1) := by decide +kernel
theorem dX7_sum_0 : decode cX7_sum 0 = .ok (.iload_n 1, 1) := by decide +kernel
theorem dX7_sum_1 : decode cX7_sum 1 = .ok (.invokestatic 53, 3) := by decide +kernel
theorem dX7_sum_4 : decode cX7_sum 4 = .ok (.ifCond .ne 7, 3) := by decide +kernel
theorem dX7_sum_7 : decode cX7_sum 7 = .ok (.iconst (-1), 1) := by decide +kernel
theorem dX7_sum_8 : decode cX7_sum 8 = .ok (.goto 25, 3) := by decide +kernel
theorem dX7_sum_11 : decode cX7_sum 11 = .ok (.aload_n 0, 1) := by decide +kernel
theorem dX7_sum_12 : decode cX7_sum 12 = .ok (.getfield 47, 3) := by decide +kernel
theorem dX7_sum_15 : decode cX7_sum 15 = .ok (.ifCond .ne 8, 3) := by decide +kernel
theorem dX7_sum_18 : decode cX7_sum 18 = .ok (.bipush (-2), 2) := by decide +kernel
theorem dX7_sum_20 : decode cX7_sum 20 = .ok (.goto 13, 3) := by decide +kernel
theorem dX7_sum_23 : decode cX7_sum 23 = .ok (.aload_n 0, 1) := by decide +kernel
theorem dX7_sum_24 : decode cX7_sum 24 = .ok (.iload_n 1, 1) := by decide +kernel
theorem dX7_sum_25 : decode cX7_sum 25 = .ok (.invokevirtual 72, 3) := by decide +kernel
theorem dX7_sum_28 : decode cX7_sum 28 = .ok (.aload_n 0, 1) := by decide +kernel
theorem dX7_sum_29 : decode cX7_sum 29 = .ok (.getfield 76, 3) := by decide +kernel
theorem dX7_sum_32 : decode cX7_sum 32 = .ok (.irem, 1) := by decide +kernel
theorem dX7_sum_33 : decode cX7_sum 33 = .ok (.ireturn, 1) := by decide +kernel
theorem dX7_isOf_0 : decode cX7_isOf 0 = .ok (.iload_n 1, 1) := by decide +kernel
theorem dX7_isOf_1 : decode cX7_isOf 1 = .ok (.invokestatic 53, 3) := by decide +kernel
theorem dX7_isOf_4 : decode cX7_isOf 4 = .ok (.ifCond .ne 7, 3) := by decide +kernel
theorem dX7_isOf_7 : decode cX7_isOf 7 = .ok (.iconst (-1), 1) := by decide +kernel
theorem dX7_isOf_8 : decode cX7_isOf 8 = .ok (.goto 28, 3) := by decide +kernel
theorem dX7_isOf_11 : decode cX7_isOf 11 = .ok (.aload_n 0, 1) := by decide +kernel
theorem dX7_isOf_12 : decode cX7_isOf 12 = .ok (.getfield 47, 3) := by decide +kernel
theorem dX7_isOf_15 : decode cX7_isOf 15 = .ok (.ifCond .ne 8, 3) := by decide +kernel
theorem dX7_isOf_18 : decode cX7_isOf 18 = .ok (.bipush (-2), 2) := by decide +kernel
theorem dX7_isOf_20 : decode cX7_isOf 20 = .ok (.goto 16, 3) := by decide +kernel
theorem dX7_isOf_23 : decode cX7_isOf 23 = .ok (.aload_n 0, 1) := by decide +kernel
theorem dX7_isOf_24 : decode cX7_isOf 24 = .ok (.iload_n 1, 1) := by decide +kernel
theorem dX7_isOf_25 : decode cX7_isOf 25 = .ok (.invokevirtual 107, 3) := by decide +kernel
theorem dX7_isOf_28 : decode cX7_isOf 28 = .ok (.ifCond .eq 7, 3) := by decide +kernel
theorem dX7_isOf_31 : decode cX7_isOf 31 = .ok (.iconst 1, 1) := by decide +kernel
theorem dX7_isOf_32 : decode cX7_isOf 32 = .ok (.goto 4, 3) := by decide +kernel
theorem dX7_isOf_35 : decode cX7_isOf 35 = .ok (.iconst 0, 1) := by decide +kernel
theorem dX7_isOf_36 : decode cX7_isOf 36 = .ok (.ireturn, 1) := by decide +kernel
theorem dX7_listed_0 : decode cX7_listed 0 = .ok (.iload_n 1, 1) := by decide +kernel
theorem dX7_listed_1 : decode cX7_listed 1 = .ok (.invokestatic 53, 3) := by decide +kernel
theorem dX7_listed_4 : decode cX7_listed 4 = .ok (.ifCond .eq 7, 3) := by decide +kernel
theorem dX7_listed_7 : decode cX7_listed 7 = .ok (.iload_n 2, 1) := by decide +kernel
theorem dX7_listed_8 : decode cX7_listed 8 = .ok (.ifCond .ge 5, 3) := by decide +kernel
theorem dX7_listed_11 : decode cX7_listed 11 = .ok (.iconst (-1), 1) := by decide +kernel
theorem dX7_listed_12 : decode cX7_listed 12 = .ok (.ireturn, 1) := by decide +kernel
theorem dX7_listed_13 : decode cX7_listed 13 = .ok (.aload_n 0, 1) := by decide +kernel
theorem dX7_listed_14 : decode cX7_listed 14 = .ok (.getfield 47, 3) := by decide +kernel
theorem dX7_listed_17 : decode cX7_listed 17 = .ok (.ifCond .ne 6, 3) := by decide +kernel
theorem dX7_listed_20 : decode cX7_listed 20 = .ok (.bipush (-2), 2) := by decide +kernel
theorem dX7_listed_22 : decode cX7_listed 22 = .ok (.ireturn, 1) := by decide +kernel
theorem dX7_listed_23 : decode cX7_listed 23 = .ok (.iload_n 2, 1) := by decide +kernel
theorem dX7_listed_24 : decode cX7_listed 24 = .ok (.aload_n 0, 1) := by decide +kernel
theorem dX7_listed_25 : decode cX7_listed 25 = .ok (.invokevirtual 103, 3) := by decide +kernel
theorem dX7_listed_28 : decode cX7_listed 28 = .ok (.if_icmp .lt 6, 3) := by decide +kernel
theorem dX7_listed_31 : decode cX7_listed 31 = .ok (.bipush (-4), 2) := by decide +kernel
theorem dX7_listed_33 : decode cX7_listed 33 = .ok (.ireturn, 1) := by decide +kernel
theorem dX7_listed_34 : decode cX7_listed 34 = .ok (.iload_n 2, 1) := by decide +kernel
theorem dX7_listed_35 : decode cX7_listed 35 = .ok (.istore_n 3, 1) := by decide +kernel
theorem dX7_listed_36 : decode cX7_listed 36 = .ok (.iconst 0, 1) := by decide +kernel
theorem dX7_listed_37 : decode cX7_listed 37 = .ok (.istore 4, 2) := by decide +kernel
theorem dX7_listed_39 : decode cX7_listed 39 = .ok (.iconst 0, 1) := by decide +kernel
theorem dX7_listed_40 : decode cX7_listed 40 = .ok (.istore 5, 2) := by decide +kernel
theorem dX7_listed_42 : decode cX7_listed 42 = .ok (.iconst 0, 1) := by decide +kernel
theorem dX7_listed_43 : decode cX7_listed 43 = .ok (.istore 6, 2) := by decide +kernel
theorem dX7_listed_45 : decode cX7_listed 45 = .ok (.aload_n 0, 1) := by decide +kernel
theorem dX7_listed_46 : decode cX7_listed 46 = .ok (.getfield 13, 3) := by decide +kernel
theorem dX7_listed_49 : decode cX7_listed 49 = .ok (.iload_n 1, 1) := by decide +kernel
theorem dX7_listed_50 : decode cX7_listed 50 = .ok (.iconst 0, 1) := by decide +kernel
theorem dX7_listed_51 : decode cX7_listed 51 = .ok (.iastore, 1) := by decide +kernel
theorem dX7_listed_52 : decode cX7_listed 52 = .ok (.iconst 0, 1) := by decide +kernel
theorem dX7_listed_53 : decode cX7_listed 53 = .ok (.istore 7, 2) := by decide +kernel
theorem dX7_listed_55 : decode cX7_listed 55 = .ok (.iload 7, 2) := by decide +kernel
theorem dX7_listed_57 : decode cX7_listed 57 = .ok (.aload_n 0, 1) := by decide +kernel
theorem dX7_listed_58 : decode cX7_listed 58 = .ok (.getfield 47, 3) := by decide +kernel
theorem dX7_listed_61 : decode cX7_listed 61 = .ok (.if_icmp .ge 150, 3) := by decide +kernel
theorem dX7_listed_64 : decode cX7_listed 64 = .ok (.iconst 0, 1) := by decide +kernel
theorem dX7_listed_65 : decode cX7_listed 65 = .ok (.istore 8, 2) := by decide +kernel
theorem dX7_listed_67 : decode cX7_listed 67 = .ok (.iload 7, 2) := by decide +kernel
theorem dX7_listed_69 : decode cX7_listed 69 = .ok (.iconst 1, 1) := by decide +kernel
theorem dX7_listed_70 : decode cX7_listed 70 = .ok (.iadd, 1) := by decide +kernel
theorem dX7_listed_71 : decode cX7_listed 71 = .ok (.iconst 0, 1) := by decide +kernel
theorem dX7_listed_72 : decode cX7_listed 72 = .ok (.iload 5, 2) := by decide +kernel
theorem dX7_listed_74 : decode cX7_listed 74 = .ok (.aload_n 0, 1) := by decide +kernel
theorem dX7_listed_75 : decode cX7_listed 75 = .ok (.iload 7, 2) := by decide +kernel
theorem dX7_listed_77 : decode cX7_listed 77 = .ok (.iload 4, 2) := by decide +kernel
theorem dX7_listed_79 : decode cX7_listed 79 = .ok (.iconst 0, 1) := by decide +kernel
theorem dX7_listed_80 : decode cX7_listed 80 = .ok (.invokevirtual 88, 3) := by decide +kernel
theorem dX7_listed_83 : decode cX7_listed 83 = .ok (.iadd, 1) := by decide +kernel
theorem dX7_listed_84 : decode cX7_listed 84 = .ok (.aload_n 0, 1) := by decide +kernel
theorem dX7_listed_85 : decode cX7_listed 85 = .ok (.getfield 76, 3) := by decide +kernel
theorem dX7_listed_88 : decode cX7_listed 88 = .ok (.irem, 1) := by decide +kernel
theorem dX7_listed_89 : decode cX7_listed 89 = .ok (.iload 6, 2) := by decide +kernel
theorem dX7_listed_91 : decode cX7_listed 91 = .ok (.invokestatic 92, 3) := by decide +kernel
theorem dX7_listed_94 : decode cX7_listed 94 = .ok (.istore 9, 2) := by decide +kernel
theorem dX7_listed_96 : decode cX7_listed 96 = .ok (.iload_n 3, 1) := by decide +kernel
theorem dX7_listed_97 : decode cX7_listed 97 = .ok (.aload_n 0, 1) := by decide +kernel
theorem dX7_listed_98 : decode cX7_listed 98 = .ok (.getfield 24, 3) := by decide +kernel
theorem dX7_listed_101 : decode cX7_listed 101 = .ok (.iload 9, 2) := by decide +kernel
theorem dX7_listed_103 : decode cX7_listed 103 = .ok (.iaload, 1) := by decide +kernel
theorem dX7_listed_104 : decode cX7_listed 104 = .ok (.if_icmp .lt 58, 3) := by decide +kernel
theorem dX7_listed_107 : decode cX7_listed 107 = .ok (.iload_n 3, 1) := by decide +kernel
theorem dX7_listed_108 : decode cX7_listed 108 = .ok (.aload_n 0, 1) := by decide +kernel
theorem dX7_listed_109 : decode cX7_listed 109 = .ok (.getfield 24, 3) := by decide +kernel
theorem dX7_listed_112 : decode cX7_listed 112 = .ok (.iload 9, 2) := by decide +kernel
theorem dX7_listed_114 : decode cX7_listed 114 = .ok (.iaload, 1) := by decide +kernel
theorem dX7_listed_115 : decode cX7_listed 115 = .ok (.isub, 1) := by decide +kernel
theorem dX7_listed_116 : decode cX7_listed 116 = .ok (.istore_n 3, 1) := by decide +kernel
theorem dX7_listed_117 : decode cX7_listed 117 = .ok (.iinc 8 1, 3) := by decide +kernel
theorem dX7_listed_120 : decode cX7_listed 120 = .ok (.iload 7, 2) := by decide +kernel
theorem dX7_listed_122 : decode cX7_listed 122 = .ok (.iconst 1, 1) := by decide +kernel
theorem dX7_listed_123 : decode cX7_listed 123 = .ok (.iadd, 1) := by decide +kernel
theorem dX7_listed_124 : decode cX7_listed 124 = .ok (.iload 8, 2) := by decide +kernel
theorem dX7_listed_126 : decode cX7_listed 126 = .ok (.iload 5, 2) := by decide +kernel
theorem dX7_listed_128 : decode cX7_listed 128 = .ok (.aload_n 0, 1) := by decide +kernel
theorem dX7_listed_129 : decode cX7_listed 129 = .ok (.iload 7, 2) := by decide +kernel
theorem dX7_listed_131 : decode cX7_listed 131 = .ok (.iload 4, 2) := by decide +kernel
theorem dX7_listed_133 : decode cX7_listed 133 = .ok (.iload 8, 2) := by decide +kernel
theorem dX7_listed_135 : decode cX7_listed 135 = .ok (.invokevirtual 88, 3) := by decide +kernel
theorem dX7_listed_138 : decode cX7_listed 138 = .ok (.iadd, 1) := by decide +kernel
theorem dX7_listed_139 : decode cX7_listed 139 = .ok (.aload_n 0, 1) := by decide +kernel
theorem dX7_listed_140 : decode cX7_listed 140 = .ok (.getfield 76, 3) := by decide +kernel
theorem dX7_listed_143 : decode cX7_listed 143 = .ok (.irem, 1) := by decide +kernel
theorem dX7_listed_144 : decode cX7_listed 144 = .ok (.iload 6, 2) := by decide +kernel
theorem dX7_listed_146 : decode cX7_listed 146 = .ok (.iload 8, 2) := by decide +kernel
theorem dX7_listed_148 : decode cX7_listed 148 = .ok (.iadd, 1) := by decide +kernel
theorem dX7_listed_149 : decode cX7_listed 149 = .ok (.aload_n 0, 1) := by decide +kernel
theorem dX7_listed_150 : decode cX7_listed 150 = .ok (.getfield 7, 3) := by decide +kernel
theorem dX7_listed_153 : decode cX7_listed 153 = .ok (.irem, 1) := by decide +kernel
theorem dX7_listed_154 : decode cX7_listed 154 = .ok (.invokestatic 92, 3) := by decide +kernel
theorem dX7_listed_157 : decode cX7_listed 157 = .ok (.istore 9, 2) := by decide +kernel
theorem dX7_listed_159 : decode cX7_listed 159 = .ok (.goto (-63), 3) := by decide +kernel
theorem dX7_listed_162 : decode cX7_listed 162 = .ok (.aload_n 0, 1) := by decide +kernel
theorem dX7_listed_163 : decode cX7_listed 163 = .ok (.iload_n 1, 1) := by decide +kernel
theorem dX7_listed_164 : decode cX7_listed 164 = .ok (.iload 8, 2) := by decide +kernel
theorem dX7_listed_166 : decode cX7_listed 166 = .ok (.invokevirtual 61, 3) := by decide +kernel
theorem dX7_listed_169 : decode cX7_listed 169 = .ok (.iload 5, 2) := by decide +kernel
theorem dX7_listed_171 : decode cX7_listed 171 = .ok (.aload_n 0, 1) := by decide +kernel
theorem dX7_listed_172 : decode cX7_listed 172 = .ok (.iload 7, 2) := by decide +kernel
theorem dX7_listed_174 : decode cX7_listed 174 = .ok (.iload 4, 2) := by decide +kernel
theorem dX7_listed_176 : decode cX7_listed 176 = .ok (.iload 8, 2) := by decide +kernel
theorem dX7_listed_178 : decode cX7_listed 178 = .ok (.invokevirtual 88, 3) := by decide +kernel
theorem dX7_listed_181 : decode cX7_listed 181 = .ok (.iadd, 1) := by decide +kernel
theorem dX7_listed_182 : decode cX7_listed 182 = .ok (.aload_n 0, 1) := by decide +kernel
theorem dX7_listed_183 : decode cX7_listed 183 = .ok (.getfield 76, 3) := by decide +kernel
theorem dX7_listed_186 : decode cX7_listed 186 = .ok (.irem, 1) := by decide +kernel
theorem dX7_listed_187 : decode cX7_listed 187 = .ok (.istore 5, 2) := by decide +kernel
theorem dX7_listed_189 : decode cX7_listed 189 = .ok (.iload 6, 2) := by decide +kernel
theorem dX7_listed_191 : decode cX7_listed 191 = .ok (.iload 8, 2) := by decide +kernel
theorem dX7_listed_193 : decode cX7_listed 193 = .ok (.iadd, 1) := by decide +kernel
theorem dX7_listed_194 : decode cX7_listed 194 = .ok (.aload_n 0, 1) := by decide +kernel
theorem dX7_listed_195 : decode cX7_listed 195 = .ok (.getfield 7, 3) := by decide +kernel
theorem dX7_listed_198 : decode cX7_listed 198 = .ok (.irem, 1) := by decide +kernel
theorem dX7_listed_199 : decode cX7_listed 199 = .ok (.istore 6, 2) := by decide +kernel
theorem dX7_listed_201 : decode cX7_listed 201 = .ok (.iload 8, 2) := by decide +kernel
theorem dX7_listed_203 : decode cX7_listed 203 = .ok (.istore 4, 2) := by decide +kernel
theorem dX7_listed_205 : decode cX7_listed 205 = .ok (.iinc 7 1, 3) := by decide +kernel
theorem dX7_listed_208 : decode cX7_listed 208 = .ok (.goto (-153), 3) := by decide +kernel
theorem dX7_listed_211 : decode cX7_listed 211 = .ok (.aload_n 0, 1) := by decide +kernel
theorem dX7_listed_212 : decode cX7_listed 212 = .ok (.getfield 47, 3) := by decide +kernel
theorem dX7_listed_215 : decode cX7_listed 215 = .ok (.ireturn, 1) := by decide +kernel
theorem dX7_meets_0 : decode cX7_meets 0 = .ok (.aload_n 0, 1) := by decide +kernel
theorem dX7_meets_1 : decode cX7_meets 1 = .ok (.bipush 21, 2) := by decide +kernel
theorem dX7_meets_3 : decode cX7_meets 3 = .ok (.invokevirtual 107, 3) := by decide +kernel
theorem dX7_meets_6 : decode cX7_meets 6 = .ok (.ifCond .ne 4, 3) := by decide +kernel
theorem dX7_meets_9 : decode cX7_meets 9 = .ok (.return_, 1) := by decide +kernel
theorem dX7_meets_10 : decode cX7_meets 10 = .ok (.iconst 0, 1) := by decide +kernel
theorem dX7_meets_11 : decode cX7_meets 11 = .ok (.istore_n 1, 1) := by decide +kernel
theorem dX7_meets_12 : decode cX7_meets 12 = .ok (.iload_n 1, 1) := by decide +kernel
theorem dX7_meets_13 : decode cX7_meets 13 = .ok (.aload_n 0, 1) := by decide +kernel
theorem dX7_meets_14 : decode cX7_meets 14 = .ok (.getfield 110, 3) := by decide +kernel
theorem dX7_meets_17 : decode cX7_meets 17 = .ok (.if_icmp .ge 66, 3) := by decide +kernel
theorem dX7_meets_20 : decode cX7_meets 20 = .ok (.iconst 1, 1) := by decide +kernel
theorem dX7_meets_21 : decode cX7_meets 21 = .ok (.istore_n 2, 1) := by decide +kernel
theorem dX7_meets_22 : decode cX7_meets 22 = .ok (.iconst 0, 1) := by decide +kernel
theorem dX7_meets_23 : decode cX7_meets 23 = .ok (.istore_n 3, 1) := by decide +kernel
theorem dX7_meets_24 : decode cX7_meets 24 = .ok (.iload_n 3, 1) := by decide +kernel
theorem dX7_meets_25 : decode cX7_meets 25 = .ok (.aload_n 0, 1) := by decide +kernel
theorem dX7_meets_26 : decode cX7_meets 26 = .ok (.getfield 47, 3) := by decide +kernel
theorem dX7_meets_29 : decode cX7_meets 29 = .ok (.if_icmp .ge 43, 3) := by decide +kernel
theorem dX7_meets_32 : decode cX7_meets 32 = .ok (.iload_n 2, 1) := by decide +kernel
theorem dX7_meets_33 : decode cX7_meets 33 = .ok (.ifCond .eq 31, 3) := by decide +kernel
theorem dX7_meets_36 : decode cX7_meets 36 = .ok (.aload_n 0, 1) := by decide +kernel
theorem dX7_meets_37 : decode cX7_meets 37 = .ok (.getfield 27, 3) := by decide +kernel
theorem dX7_meets_40 : decode cX7_meets 40 = .ok (.bipush 16, 2) := by decide +kernel
theorem dX7_meets_42 : decode cX7_meets 42 = .ok (.iload_n 1, 1) := by decide +kernel
theorem dX7_meets_43 : decode cX7_meets 43 = .ok (.imul, 1) := by decide +kernel
theorem dX7_meets_44 : decode cX7_meets 44 = .ok (.iload_n 3, 1) := by decide +kernel
theorem dX7_meets_45 : decode cX7_meets 45 = .ok (.iadd, 1) := by decide +kernel
theorem dX7_meets_46 : decode cX7_meets 46 = .ok (.iaload, 1) := by decide +kernel
theorem dX7_meets_47 : decode cX7_meets 47 = .ok (.aload_n 0, 1) := by decide +kernel
theorem dX7_meets_48 : decode cX7_meets 48 = .ok (.getfield 17, 3) := by decide +kernel
theorem dX7_meets_51 : decode cX7_meets 51 = .ok (.sipush 630, 3) := by decide +kernel
theorem dX7_meets_54 : decode cX7_meets 54 = .ok (.iload_n 3, 1) := by decide +kernel
theorem dX7_meets_55 : decode cX7_meets 55 = .ok (.iadd, 1) := by decide +kernel
theorem dX7_meets_56 : decode cX7_meets 56 = .ok (.iaload, 1) := by decide +kernel
theorem dX7_meets_57 : decode cX7_meets 57 = .ok (.if_icmp .ne 7, 3) := by decide +kernel
theorem dX7_meets_60 : decode cX7_meets 60 = .ok (.iconst 1, 1) := by decide +kernel
theorem dX7_meets_61 : decode cX7_meets 61 = .ok (.goto 4, 3) := by decide +kernel
theorem dX7_meets_64 : decode cX7_meets 64 = .ok (.iconst 0, 1) := by decide +kernel
theorem dX7_meets_65 : decode cX7_meets 65 = .ok (.istore_n 2, 1) := by decide +kernel
theorem dX7_meets_66 : decode cX7_meets 66 = .ok (.iinc 3 1, 3) := by decide +kernel
theorem dX7_meets_69 : decode cX7_meets 69 = .ok (.goto (-45), 3) := by decide +kernel
theorem dX7_meets_72 : decode cX7_meets 72 = .ok (.iload_n 2, 1) := by decide +kernel
theorem dX7_meets_73 : decode cX7_meets 73 = .ok (.ifCond .eq 4, 3) := by decide +kernel
theorem dX7_meets_76 : decode cX7_meets 76 = .ok (.return_, 1) := by decide +kernel
theorem dX7_meets_77 : decode cX7_meets 77 = .ok (.iinc 1 1, 3) := by decide +kernel
theorem dX7_meets_80 : decode cX7_meets 80 = .ok (.goto (-68), 3) := by decide +kernel
theorem dX7_meets_83 : decode cX7_meets 83 = .ok (.iconst 0, 1) := by decide +kernel
theorem dX7_meets_84 : decode cX7_meets 84 = .ok (.istore_n 1, 1) := by decide +kernel
theorem dX7_meets_85 : decode cX7_meets 85 = .ok (.iload_n 1, 1) := by decide +kernel
theorem dX7_meets_86 : decode cX7_meets 86 = .ok (.aload_n 0, 1) := by decide +kernel
theorem dX7_meets_87 : decode cX7_meets 87 = .ok (.getfield 47, 3) := by decide +kernel
theorem dX7_meets_90 : decode cX7_meets 90 = .ok (.if_icmp .ge 33, 3) := by decide +kernel
theorem dX7_meets_93 : decode cX7_meets 93 = .ok (.aload_n 0, 1) := by decide +kernel
theorem dX7_meets_94 : decode cX7_meets 94 = .ok (.getfield 27, 3) := by decide +kernel
theorem dX7_meets_97 : decode cX7_meets 97 = .ok (.bipush 16, 2) := by decide +kernel
theorem dX7_meets_99 : decode cX7_meets 99 = .ok (.aload_n 0, 1) := by decide +kernel
theorem dX7_meets_100 : decode cX7_meets 100 = .ok (.getfield 110, 3) := by decide +kernel
theorem dX7_meets_103 : decode cX7_meets 103 = .ok (.imul, 1) := by decide +kernel
theorem dX7_meets_104 : decode cX7_meets 104 = .ok (.iload_n 1, 1) := by decide +kernel
theorem dX7_meets_105 : decode cX7_meets 105 = .ok (.iadd, 1) := by decide +kernel
theorem dX7_meets_106 : decode cX7_meets 106 = .ok (.aload_n 0, 1) := by decide +kernel
theorem dX7_meets_107 : decode cX7_meets 107 = .ok (.getfield 17, 3) := by decide +kernel
theorem dX7_meets_110 : decode cX7_meets 110 = .ok (.sipush 630, 3) := by decide +kernel
theorem dX7_meets_113 : decode cX7_meets 113 = .ok (.iload_n 1, 1) := by decide +kernel
theorem dX7_meets_114 : decode cX7_meets 114 = .ok (.iadd, 1) := by decide +kernel
theorem dX7_meets_115 : decode cX7_meets 115 = .ok (.iaload, 1) := by decide +kernel
theorem dX7_meets_116 : decode cX7_meets 116 = .ok (.iastore, 1) := by decide +kernel
theorem dX7_meets_117 : decode cX7_meets 117 = .ok (.iinc 1 1, 3) := by decide +kernel
theorem dX7_meets_120 : decode cX7_meets 120 = .ok (.goto (-35), 3) := by decide +kernel
theorem dX7_meets_123 : decode cX7_meets 123 = .ok (.aload_n 0, 1) := by decide +kernel
theorem dX7_meets_124 : decode cX7_meets 124 = .ok (.dup, 1) := by decide +kernel
theorem dX7_meets_125 : decode cX7_meets 125 = .ok (.getfield 110, 3) := by decide +kernel
theorem dX7_meets_128 : decode cX7_meets 128 = .ok (.iconst 1, 1) := by decide +kernel
theorem dX7_meets_129 : decode cX7_meets 129 = .ok (.iadd, 1) := by decide +kernel
theorem dX7_meets_130 : decode cX7_meets 130 = .ok (.putfield 110, 3) := by decide +kernel
theorem dX7_meets_133 : decode cX7_meets 133 = .ok (.return_, 1) := by decide +kernel
theorem dX7_looks_0 : decode cX7_looks 0 = .ok (.aload_n 0, 1) := by decide +kernel
theorem dX7_looks_1 : decode cX7_looks 1 = .ok (.iconst 0, 1) := by decide +kernel
theorem dX7_looks_2 : decode cX7_looks 2 = .ok (.putfield 110, 3) := by decide +kernel
theorem dX7_looks_5 : decode cX7_looks 5 = .ok (.aload_n 0, 1) := by decide +kernel
theorem dX7_looks_6 : decode cX7_looks 6 = .ok (.bipush 21, 2) := by decide +kernel
theorem dX7_looks_8 : decode cX7_looks 8 = .ok (.iload_n 1, 1) := by decide +kernel
theorem dX7_looks_9 : decode cX7_looks 9 = .ok (.invokevirtual 69, 3) := by decide +kernel
theorem dX7_looks_12 : decode cX7_looks 12 = .ok (.aload_n 0, 1) := by decide +kernel
theorem dX7_looks_13 : decode cX7_looks 13 = .ok (.invokevirtual 113, 3) := by decide +kernel
theorem dX7_looks_16 : decode cX7_looks 16 = .ok (.iconst 0, 1) := by decide +kernel
theorem dX7_looks_17 : decode cX7_looks 17 = .ok (.istore_n 2, 1) := by decide +kernel
theorem dX7_looks_18 : decode cX7_looks 18 = .ok (.iload_n 2, 1) := by decide +kernel
theorem dX7_looks_19 : decode cX7_looks 19 = .ok (.iconst 3, 1) := by decide +kernel
theorem dX7_looks_20 : decode cX7_looks 20 = .ok (.if_icmp .ge 84, 3) := by decide +kernel
theorem dX7_looks_23 : decode cX7_looks 23 = .ok (.iconst 0, 1) := by decide +kernel
theorem dX7_looks_24 : decode cX7_looks 24 = .ok (.istore_n 3, 1) := by decide +kernel
theorem dX7_looks_25 : decode cX7_looks 25 = .ok (.iload_n 3, 1) := by decide +kernel
theorem dX7_looks_26 : decode cX7_looks 26 = .ok (.iload_n 2, 1) := by decide +kernel
theorem dX7_looks_27 : decode cX7_looks 27 = .ok (.iconst 1, 1) := by decide +kernel
theorem dX7_looks_28 : decode cX7_looks 28 = .ok (.if_icmp .ne 14, 3) := by decide +kernel
theorem dX7_looks_31 : decode cX7_looks 31 = .ok (.aload_n 0, 1) := by decide +kernel
theorem dX7_looks_32 : decode cX7_looks 32 = .ok (.getfield 13, 3) := by decide +kernel
theorem dX7_looks_35 : decode cX7_looks 35 = .ok (.iload_n 1, 1) := by decide +kernel
theorem dX7_looks_36 : decode cX7_looks 36 = .ok (.iaload, 1) := by decide +kernel
theorem dX7_looks_37 : decode cX7_looks 37 = .ok (.iconst 1, 1) := by decide +kernel
theorem dX7_looks_38 : decode cX7_looks 38 = .ok (.iadd, 1) := by decide +kernel
theorem dX7_looks_39 : decode cX7_looks 39 = .ok (.goto 9, 3) := by decide +kernel
theorem dX7_looks_42 : decode cX7_looks 42 = .ok (.aload_n 0, 1) := by decide +kernel
theorem dX7_looks_43 : decode cX7_looks 43 = .ok (.getfield 13, 3) := by decide +kernel
theorem dX7_looks_46 : decode cX7_looks 46 = .ok (.iload_n 1, 1) := by decide +kernel
theorem dX7_looks_47 : decode cX7_looks 47 = .ok (.iaload, 1) := by decide +kernel
theorem dX7_looks_48 : decode cX7_looks 48 = .ok (.if_icmp .ge 50, 3) := by decide +kernel
theorem dX7_looks_51 : decode cX7_looks 51 = .ok (.iconst 0, 1) := by decide +kernel
theorem dX7_looks_52 : decode cX7_looks 52 = .ok (.istore 4, 2) := by decide +kernel
theorem dX7_looks_54 : decode cX7_looks 54 = .ok (.iload 4, 2) := by decide +kernel
theorem dX7_looks_56 : decode cX7_looks 56 = .ok (.iload_n 2, 1) := by decide +kernel
theorem dX7_looks_57 : decode cX7_looks 57 = .ok (.ifCond .ne 7, 3) := by decide +kernel
theorem dX7_looks_60 : decode cX7_looks 60 = .ok (.iconst 1, 1) := by decide +kernel
theorem dX7_looks_61 : decode cX7_looks 61 = .ok (.goto 7, 3) := by decide +kernel
theorem dX7_looks_64 : decode cX7_looks 64 = .ok (.aload_n 0, 1) := by decide +kernel
theorem dX7_looks_65 : decode cX7_looks 65 = .ok (.getfield 7, 3) := by decide +kernel
theorem dX7_looks_68 : decode cX7_looks 68 = .ok (.if_icmp .ge 24, 3) := by decide +kernel
theorem dX7_looks_71 : decode cX7_looks 71 = .ok (.aload_n 0, 1) := by decide +kernel
theorem dX7_looks_72 : decode cX7_looks 72 = .ok (.bipush 21, 2) := by decide +kernel
theorem dX7_looks_74 : decode cX7_looks 74 = .ok (.iload_n 1, 1) := by decide +kernel
theorem dX7_looks_75 : decode cX7_looks 75 = .ok (.iload_n 2, 1) := by decide +kernel
theorem dX7_looks_76 : decode cX7_looks 76 = .ok (.iload_n 3, 1) := by decide +kernel
theorem dX7_looks_77 : decode cX7_looks 77 = .ok (.iload 4, 2) := by decide +kernel
theorem dX7_looks_79 : decode cX7_looks 79 = .ok (.invokevirtual 65, 3) := by decide +kernel
theorem dX7_looks_82 : decode cX7_looks 82 = .ok (.aload_n 0, 1) := by decide +kernel
theorem dX7_looks_83 : decode cX7_looks 83 = .ok (.invokevirtual 113, 3) := by decide +kernel
theorem dX7_looks_86 : decode cX7_looks 86 = .ok (.iinc 4 1, 3) := by decide +kernel
theorem dX7_looks_89 : decode cX7_looks 89 = .ok (.goto (-35), 3) := by decide +kernel
theorem dX7_looks_92 : decode cX7_looks 92 = .ok (.iinc 3 1, 3) := by decide +kernel
theorem dX7_looks_95 : decode cX7_looks 95 = .ok (.goto (-70), 3) := by decide +kernel
theorem dX7_looks_98 : decode cX7_looks 98 = .ok (.iinc 2 1, 3) := by decide +kernel
theorem dX7_looks_101 : decode cX7_looks 101 = .ok (.goto (-83), 3) := by decide +kernel
theorem dX7_looks_104 : decode cX7_looks 104 = .ok (.return_, 1) := by decide +kernel
theorem dX7_near_0 : decode cX7_near 0 = .ok (.iload_n 1, 1) := by decide +kernel
theorem dX7_near_1 : decode cX7_near 1 = .ok (.invokestatic 53, 3) := by decide +kernel
theorem dX7_near_4 : decode cX7_near 4 = .ok (.ifCond .ne 5, 3) := by decide +kernel
theorem dX7_near_7 : decode cX7_near 7 = .ok (.iconst (-1), 1) := by decide +kernel
theorem dX7_near_8 : decode cX7_near 8 = .ok (.ireturn, 1) := by decide +kernel
theorem dX7_near_9 : decode cX7_near 9 = .ok (.aload_n 0, 1) := by decide +kernel
theorem dX7_near_10 : decode cX7_near 10 = .ok (.getfield 47, 3) := by decide +kernel
theorem dX7_near_13 : decode cX7_near 13 = .ok (.ifCond .ne 6, 3) := by decide +kernel
theorem dX7_near_16 : decode cX7_near 16 = .ok (.bipush (-2), 2) := by decide +kernel
theorem dX7_near_18 : decode cX7_near 18 = .ok (.ireturn, 1) := by decide +kernel
theorem dX7_near_19 : decode cX7_near 19 = .ok (.aload_n 0, 1) := by decide +kernel
theorem dX7_near_20 : decode cX7_near 20 = .ok (.iload_n 1, 1) := by decide +kernel
theorem dX7_near_21 : decode cX7_near 21 = .ok (.invokevirtual 116, 3) := by decide +kernel
theorem dX7_near_24 : decode cX7_near 24 = .ok (.aload_n 0, 1) := by decide +kernel
theorem dX7_near_25 : decode cX7_near 25 = .ok (.getfield 110, 3) := by decide +kernel
theorem dX7_near_28 : decode cX7_near 28 = .ok (.ireturn, 1) := by decide +kernel
theorem dX7_mend_0 : decode cX7_mend 0 = .ok (.iload_n 1, 1) := by decide +kernel
theorem dX7_mend_1 : decode cX7_mend 1 = .ok (.invokestatic 53, 3) := by decide +kernel
theorem dX7_mend_4 : decode cX7_mend 4 = .ok (.ifCond .eq 10, 3) := by decide +kernel
theorem dX7_mend_7 : decode cX7_mend 7 = .ok (.iload_n 2, 1) := by decide +kernel
theorem dX7_mend_8 : decode cX7_mend 8 = .ok (.invokestatic 53, 3) := by decide +kernel
theorem dX7_mend_11 : decode cX7_mend 11 = .ok (.ifCond .ne 5, 3) := by decide +kernel
theorem dX7_mend_14 : decode cX7_mend 14 = .ok (.iconst (-1), 1) := by decide +kernel
theorem dX7_mend_15 : decode cX7_mend 15 = .ok (.ireturn, 1) := by decide +kernel
theorem dX7_mend_16 : decode cX7_mend 16 = .ok (.aload_n 0, 1) := by decide +kernel
theorem dX7_mend_17 : decode cX7_mend 17 = .ok (.getfield 47, 3) := by decide +kernel
theorem dX7_mend_20 : decode cX7_mend 20 = .ok (.ifCond .ne 6, 3) := by decide +kernel
theorem dX7_mend_23 : decode cX7_mend 23 = .ok (.bipush (-2), 2) := by decide +kernel
theorem dX7_mend_25 : decode cX7_mend 25 = .ok (.ireturn, 1) := by decide +kernel
theorem dX7_mend_26 : decode cX7_mend 26 = .ok (.aload_n 0, 1) := by decide +kernel
theorem dX7_mend_27 : decode cX7_mend 27 = .ok (.iload_n 2, 1) := by decide +kernel
theorem dX7_mend_28 : decode cX7_mend 28 = .ok (.invokevirtual 107, 3) := by decide +kernel
theorem dX7_mend_31 : decode cX7_mend 31 = .ok (.ifCond .eq 11, 3) := by decide +kernel
theorem dX7_mend_34 : decode cX7_mend 34 = .ok (.aload_n 0, 1) := by decide +kernel
theorem dX7_mend_35 : decode cX7_mend 35 = .ok (.iload_n 1, 1) := by decide +kernel
theorem dX7_mend_36 : decode cX7_mend 36 = .ok (.iload_n 2, 1) := by decide +kernel
theorem dX7_mend_37 : decode cX7_mend 37 = .ok (.invokevirtual 69, 3) := by decide +kernel
theorem dX7_mend_40 : decode cX7_mend 40 = .ok (.iconst 0, 1) := by decide +kernel
theorem dX7_mend_41 : decode cX7_mend 41 = .ok (.ireturn, 1) := by decide +kernel
theorem dX7_mend_42 : decode cX7_mend 42 = .ok (.aload_n 0, 1) := by decide +kernel
theorem dX7_mend_43 : decode cX7_mend 43 = .ok (.iload_n 2, 1) := by decide +kernel
theorem dX7_mend_44 : decode cX7_mend 44 = .ok (.invokevirtual 116, 3) := by decide +kernel
theorem dX7_mend_47 : decode cX7_mend 47 = .ok (.aload_n 0, 1) := by decide +kernel
theorem dX7_mend_48 : decode cX7_mend 48 = .ok (.getfield 110, 3) := by decide +kernel
theorem dX7_mend_51 : decode cX7_mend 51 = .ok (.iconst 1, 1) := by decide +kernel
theorem dX7_mend_52 : decode cX7_mend 52 = .ok (.if_icmp .eq 6, 3) := by decide +kernel
theorem dX7_mend_55 : decode cX7_mend 55 = .ok (.bipush (-4), 2) := by decide +kernel
theorem dX7_mend_57 : decode cX7_mend 57 = .ok (.ireturn, 1) := by decide +kernel
theorem dX7_mend_58 : decode cX7_mend 58 = .ok (.aload_n 0, 1) := by decide +kernel
theorem dX7_mend_59 : decode cX7_mend 59 = .ok (.getfield 13, 3) := by decide +kernel
theorem dX7_mend_62 : decode cX7_mend 62 = .ok (.iload_n 1, 1) := by decide +kernel
theorem dX7_mend_63 : decode cX7_mend 63 = .ok (.iconst 0, 1) := by decide +kernel
theorem dX7_mend_64 : decode cX7_mend 64 = .ok (.iastore, 1) := by decide +kernel
theorem dX7_mend_65 : decode cX7_mend 65 = .ok (.iconst 0, 1) := by decide +kernel
theorem dX7_mend_66 : decode cX7_mend 66 = .ok (.istore_n 3, 1) := by decide +kernel
theorem dX7_mend_67 : decode cX7_mend 67 = .ok (.iload_n 3, 1) := by decide +kernel
theorem dX7_mend_68 : decode cX7_mend 68 = .ok (.aload_n 0, 1) := by decide +kernel
theorem dX7_mend_69 : decode cX7_mend 69 = .ok (.getfield 47, 3) := by decide +kernel
theorem dX7_mend_72 : decode cX7_mend 72 = .ok (.if_icmp .ge 20, 3) := by decide +kernel
theorem dX7_mend_75 : decode cX7_mend 75 = .ok (.aload_n 0, 1) := by decide +kernel
theorem dX7_mend_76 : decode cX7_mend 76 = .ok (.iload_n 1, 1) := by decide +kernel
theorem dX7_mend_77 : decode cX7_mend 77 = .ok (.aload_n 0, 1) := by decide +kernel
theorem dX7_mend_78 : decode cX7_mend 78 = .ok (.getfield 27, 3) := by decide +kernel
theorem dX7_mend_81 : decode cX7_mend 81 = .ok (.iload_n 3, 1) := by decide +kernel
theorem dX7_mend_82 : decode cX7_mend 82 = .ok (.iaload, 1) := by decide +kernel
theorem dX7_mend_83 : decode cX7_mend 83 = .ok (.invokevirtual 61, 3) := by decide +kernel
theorem dX7_mend_86 : decode cX7_mend 86 = .ok (.iinc 3 1, 3) := by decide +kernel
theorem dX7_mend_89 : decode cX7_mend 89 = .ok (.goto (-22), 3) := by decide +kernel
theorem dX7_mend_92 : decode cX7_mend 92 = .ok (.iconst 1, 1) := by decide +kernel
theorem dX7_mend_93 : decode cX7_mend 93 = .ok (.ireturn, 1) := by decide +kernel
theorem dX7_lies_0 : decode cX7_lies 0 = .ok (.aload_n 0, 1) := by decide +kernel
theorem dX7_lies_1 : decode cX7_lies 1 = .ok (.getfield 13, 3) := by decide +kernel
theorem dX7_lies_4 : decode cX7_lies 4 = .ok (.iload_n 1, 1) := by decide +kernel
theorem dX7_lies_5 : decode cX7_lies 5 = .ok (.iaload, 1) := by decide +kernel
theorem dX7_lies_6 : decode cX7_lies 6 = .ok (.istore_n 3, 1) := by decide +kernel
theorem dX7_lies_7 : decode cX7_lies 7 = .ok (.iload_n 3, 1) := by decide +kernel
theorem dX7_lies_8 : decode cX7_lies 8 = .ok (.ifCond .lt 144, 3) := by decide +kernel
theorem dX7_lies_11 : decode cX7_lies 11 = .ok (.aload_n 0, 1) := by decide +kernel
theorem dX7_lies_12 : decode cX7_lies 12 = .ok (.getfield 13, 3) := by decide +kernel
theorem dX7_lies_15 : decode cX7_lies 15 = .ok (.iload_n 2, 1) := by decide +kernel
theorem dX7_lies_16 : decode cX7_lies 16 = .ok (.iaload, 1) := by decide +kernel
theorem dX7_lies_17 : decode cX7_lies 17 = .ok (.istore 4, 2) := by decide +kernel
theorem dX7_lies_19 : decode cX7_lies 19 = .ok (.iload 4, 2) := by decide +kernel
theorem dX7_lies_21 : decode cX7_lies 21 = .ok (.ifCond .lt 125, 3) := by decide +kernel
theorem dX7_lies_24 : decode cX7_lies 24 = .ok (.iload_n 3, 1) := by decide +kernel
theorem dX7_lies_25 : decode cX7_lies 25 = .ok (.aload_n 0, 1) := by decide +kernel
theorem dX7_lies_26 : decode cX7_lies 26 = .ok (.getfield 13, 3) := by decide +kernel
theorem dX7_lies_29 : decode cX7_lies 29 = .ok (.iload_n 1, 1) := by decide +kernel
theorem dX7_lies_30 : decode cX7_lies 30 = .ok (.iaload, 1) := by decide +kernel
theorem dX7_lies_31 : decode cX7_lies 31 = .ok (.if_icmp .ne 7, 3) := by decide +kernel
theorem dX7_lies_34 : decode cX7_lies 34 = .ok (.lconst 1, 1) := by decide +kernel
theorem dX7_lies_35 : decode cX7_lies 35 = .ok (.goto 4, 3) := by decide +kernel
theorem dX7_lies_38 : decode cX7_lies 38 = .ok (.lconst 0, 1) := by decide +kernel
theorem dX7_lies_39 : decode cX7_lies 39 = .ok (.lstore 5, 2) := by decide +kernel
theorem dX7_lies_41 : decode cX7_lies 41 = .ok (.iload_n 3, 1) := by decide +kernel
theorem dX7_lies_42 : decode cX7_lies 42 = .ok (.aload_n 0, 1) := by decide +kernel
theorem dX7_lies_43 : decode cX7_lies 43 = .ok (.getfield 13, 3) := by decide +kernel
theorem dX7_lies_46 : decode cX7_lies 46 = .ok (.iload_n 1, 1) := by decide +kernel
theorem dX7_lies_47 : decode cX7_lies 47 = .ok (.iaload, 1) := by decide +kernel
theorem dX7_lies_48 : decode cX7_lies 48 = .ok (.if_icmp .ge 78, 3) := by decide +kernel
theorem dX7_lies_51 : decode cX7_lies 51 = .ok (.iload 4, 2) := by decide +kernel
theorem dX7_lies_53 : decode cX7_lies 53 = .ok (.aload_n 0, 1) := by decide +kernel
theorem dX7_lies_54 : decode cX7_lies 54 = .ok (.getfield 13, 3) := by decide +kernel
theorem dX7_lies_57 : decode cX7_lies 57 = .ok (.iload_n 2, 1) := by decide +kernel
theorem dX7_lies_58 : decode cX7_lies 58 = .ok (.iaload, 1) := by decide +kernel
theorem dX7_lies_59 : decode cX7_lies 59 = .ok (.if_icmp .ge 67, 3) := by decide +kernel
theorem dX7_lies_62 : decode cX7_lies 62 = .ok (.aload_n 0, 1) := by decide +kernel
theorem dX7_lies_63 : decode cX7_lies 63 = .ok (.getfield 30, 3) := by decide +kernel
theorem dX7_lies_66 : decode cX7_lies 66 = .ok (.bipush 30, 2) := by decide +kernel
theorem dX7_lies_68 : decode cX7_lies 68 = .ok (.iload_n 3, 1) := by decide +kernel
theorem dX7_lies_69 : decode cX7_lies 69 = .ok (.imul, 1) := by decide +kernel
theorem dX7_lies_70 : decode cX7_lies 70 = .ok (.iload 4, 2) := by decide +kernel
theorem dX7_lies_72 : decode cX7_lies 72 = .ok (.iadd, 1) := by decide +kernel
theorem dX7_lies_73 : decode cX7_lies 73 = .ok (.iconst 1, 1) := by decide +kernel
theorem dX7_lies_74 : decode cX7_lies 74 = .ok (.iadd, 1) := by decide +kernel
theorem dX7_lies_75 : decode cX7_lies 75 = .ok (.laload, 1) := by decide +kernel
theorem dX7_lies_76 : decode cX7_lies 76 = .ok (.aload_n 0, 1) := by decide +kernel
theorem dX7_lies_77 : decode cX7_lies 77 = .ok (.getfield 17, 3) := by decide +kernel
theorem dX7_lies_80 : decode cX7_lies 80 = .ok (.bipush 30, 2) := by decide +kernel
theorem dX7_lies_82 : decode cX7_lies 82 = .ok (.iload_n 1, 1) := by decide +kernel
theorem dX7_lies_83 : decode cX7_lies 83 = .ok (.imul, 1) := by decide +kernel
theorem dX7_lies_84 : decode cX7_lies 84 = .ok (.iload_n 3, 1) := by decide +kernel
theorem dX7_lies_85 : decode cX7_lies 85 = .ok (.iadd, 1) := by decide +kernel
theorem dX7_lies_86 : decode cX7_lies 86 = .ok (.iaload, 1) := by decide +kernel
theorem dX7_lies_87 : decode cX7_lies 87 = .ok (.aload_n 0, 1) := by decide +kernel
theorem dX7_lies_88 : decode cX7_lies 88 = .ok (.getfield 17, 3) := by decide +kernel
theorem dX7_lies_91 : decode cX7_lies 91 = .ok (.bipush 30, 2) := by decide +kernel
theorem dX7_lies_93 : decode cX7_lies 93 = .ok (.iload_n 2, 1) := by decide +kernel
theorem dX7_lies_94 : decode cX7_lies 94 = .ok (.imul, 1) := by decide +kernel
theorem dX7_lies_95 : decode cX7_lies 95 = .ok (.iload 4, 2) := by decide +kernel
theorem dX7_lies_97 : decode cX7_lies 97 = .ok (.iadd, 1) := by decide +kernel
theorem dX7_lies_98 : decode cX7_lies 98 = .ok (.iaload, 1) := by decide +kernel
theorem dX7_lies_99 : decode cX7_lies 99 = .ok (.if_icmp .ne 23, 3) := by decide +kernel
theorem dX7_lies_102 : decode cX7_lies 102 = .ok (.aload_n 0, 1) := by decide +kernel
theorem dX7_lies_103 : decode cX7_lies 103 = .ok (.getfield 30, 3) := by decide +kernel
theorem dX7_lies_106 : decode cX7_lies 106 = .ok (.bipush 30, 2) := by decide +kernel
theorem dX7_lies_108 : decode cX7_lies 108 = .ok (.iload_n 3, 1) := by decide +kernel
theorem dX7_lies_109 : decode cX7_lies 109 = .ok (.imul, 1) := by decide +kernel
theorem dX7_lies_110 : decode cX7_lies 110 = .ok (.bipush 30, 2) := by decide +kernel
theorem dX7_lies_112 : decode cX7_lies 112 = .ok (.iadd, 1) := by decide +kernel
theorem dX7_lies_113 : decode cX7_lies 113 = .ok (.iload 4, 2) := by decide +kernel
theorem dX7_lies_115 : decode cX7_lies 115 = .ok (.iadd, 1) := by decide +kernel
theorem dX7_lies_116 : decode cX7_lies 116 = .ok (.iconst 1, 1) := by decide +kernel
theorem dX7_lies_117 : decode cX7_lies 117 = .ok (.iadd, 1) := by decide +kernel
theorem dX7_lies_118 : decode cX7_lies 118 = .ok (.laload, 1) := by decide +kernel
theorem dX7_lies_119 : decode cX7_lies 119 = .ok (.goto 4, 3) := by decide +kernel
theorem dX7_lies_122 : decode cX7_lies 122 = .ok (.lconst 0, 1) := by decide +kernel
theorem dX7_lies_123 : decode cX7_lies 123 = .ok (.ladd, 1) := by decide +kernel
theorem dX7_lies_124 : decode cX7_lies 124 = .ok (.lstore 5, 2) := by decide +kernel
theorem dX7_lies_126 : decode cX7_lies 126 = .ok (.aload_n 0, 1) := by decide +kernel
theorem dX7_lies_127 : decode cX7_lies 127 = .ok (.getfield 30, 3) := by decide +kernel
theorem dX7_lies_130 : decode cX7_lies 130 = .ok (.bipush 30, 2) := by decide +kernel
theorem dX7_lies_132 : decode cX7_lies 132 = .ok (.iload_n 3, 1) := by decide +kernel
theorem dX7_lies_133 : decode cX7_lies 133 = .ok (.imul, 1) := by decide +kernel
theorem dX7_lies_134 : decode cX7_lies 134 = .ok (.iload 4, 2) := by decide +kernel
theorem dX7_lies_136 : decode cX7_lies 136 = .ok (.iadd, 1) := by decide +kernel
theorem dX7_lies_137 : decode cX7_lies 137 = .ok (.lload 5, 2) := by decide +kernel
theorem dX7_lies_139 : decode cX7_lies 139 = .ok (.lastore, 1) := by decide +kernel
theorem dX7_lies_140 : decode cX7_lies 140 = .ok (.iinc 4 (-1), 3) := by decide +kernel
theorem dX7_lies_143 : decode cX7_lies 143 = .ok (.goto (-124), 3) := by decide +kernel
theorem dX7_lies_146 : decode cX7_lies 146 = .ok (.iinc 3 (-1), 3) := by decide +kernel
theorem dX7_lies_149 : decode cX7_lies 149 = .ok (.goto (-142), 3) := by decide +kernel
theorem dX7_lies_152 : decode cX7_lies 152 = .ok (.aload_n 0, 1) := by decide +kernel
theorem dX7_lies_153 : decode cX7_lies 153 = .ok (.getfield 30, 3) := by decide +kernel
theorem dX7_lies_156 : decode cX7_lies 156 = .ok (.iconst 0, 1) := by decide +kernel
theorem dX7_lies_157 : decode cX7_lies 157 = .ok (.laload, 1) := by decide +kernel
theorem dX7_lies_158 : decode cX7_lies 158 = .ok (.lreturn, 1) := by decide +kernel
theorem dX7_liesIn_0 : decode cX7_liesIn 0 = .ok (.iload_n 1, 1) := by decide +kernel
theorem dX7_liesIn_1 : decode cX7_liesIn 1 = .ok (.invokestatic 53, 3) := by decide +kernel
theorem dX7_liesIn_4 : decode cX7_liesIn 4 = .ok (.ifCond .eq 19, 3) := by decide +kernel
theorem dX7_liesIn_7 : decode cX7_liesIn 7 = .ok (.iload_n 2, 1) := by decide +kernel
theorem dX7_liesIn_8 : decode cX7_liesIn 8 = .ok (.invokestatic 53, 3) := by decide +kernel
theorem dX7_liesIn_11 : decode cX7_liesIn 11 = .ok (.ifCond .eq 12, 3) := by decide +kernel
theorem dX7_liesIn_14 : decode cX7_liesIn 14 = .ok (.aload_n 0, 1) := by decide +kernel
theorem dX7_liesIn_15 : decode cX7_liesIn 15 = .ok (.iload_n 1, 1) := by decide +kernel
theorem dX7_liesIn_16 : decode cX7_liesIn 16 = .ok (.iload_n 2, 1) := by decide +kernel
theorem dX7_liesIn_17 : decode cX7_liesIn 17 = .ok (.invokevirtual 120, 3) := by decide +kernel
theorem dX7_liesIn_20 : decode cX7_liesIn 20 = .ok (.goto 6, 3) := by decide +kernel
theorem dX7_liesIn_23 : decode cX7_liesIn 23 = .ok (.ldc2_w 124, 3) := by decide +kernel
theorem dX7_liesIn_26 : decode cX7_liesIn 26 = .ok (.lreturn, 1) := by decide +kernel
theorem dX7_longests_0 : decode cX7_longests 0 = .ok (.aload_n 0, 1) := by decide +kernel
theorem dX7_longests_1 : decode cX7_longests 1 = .ok (.getfield 13, 3) := by decide +kernel
theorem dX7_longests_4 : decode cX7_longests 4 = .ok (.iload_n 1, 1) := by decide +kernel
theorem dX7_longests_5 : decode cX7_longests 5 = .ok (.iaload, 1) := by decide +kernel
theorem dX7_longests_6 : decode cX7_longests 6 = .ok (.istore_n 3, 1) := by decide +kernel
theorem dX7_longests_7 : decode cX7_longests 7 = .ok (.iload_n 3, 1) := by decide +kernel
theorem dX7_longests_8 : decode cX7_longests 8 = .ok (.ifCond .lt 163, 3) := by decide +kernel
theorem dX7_longests_11 : decode cX7_longests 11 = .ok (.aload_n 0, 1) := by decide +kernel
theorem dX7_longests_12 : decode cX7_longests 12 = .ok (.getfield 13, 3) := by decide +kernel
theorem dX7_longests_15 : decode cX7_longests 15 = .ok (.iload_n 2, 1) := by decide +kernel
theorem dX7_longests_16 : decode cX7_longests 16 = .ok (.iaload, 1) := by decide +kernel
theorem dX7_longests_17 : decode cX7_longests 17 = .ok (.istore 4, 2) := by decide +kernel
theorem dX7_longests_19 : decode cX7_longests 19 = .ok (.iload 4, 2) := by decide +kernel
theorem dX7_longests_21 : decode cX7_longests 21 = .ok (.ifCond .lt 144, 3) := by decide +kernel
theorem dX7_longests_24 : decode cX7_longests 24 = .ok (.iconst 0, 1) := by decide +kernel
theorem dX7_longests_25 : decode cX7_longests 25 = .ok (.istore 5, 2) := by decide +kernel
theorem dX7_longests_27 : decode cX7_longests 27 = .ok (.iload_n 3, 1) := by decide +kernel
theorem dX7_longests_28 : decode cX7_longests 28 = .ok (.aload_n 0, 1) := by decide +kernel
theorem dX7_longests_29 : decode cX7_longests 29 = .ok (.getfield 13, 3) := by decide +kernel
theorem dX7_longests_32 : decode cX7_longests 32 = .ok (.iload_n 1, 1) := by decide +kernel
theorem dX7_longests_33 : decode cX7_longests 33 = .ok (.iaload, 1) := by decide +kernel
theorem dX7_longests_34 : decode cX7_longests 34 = .ok (.if_icmp .ge 111, 3) := by decide +kernel
theorem dX7_longests_37 : decode cX7_longests 37 = .ok (.iload 4, 2) := by decide +kernel
theorem dX7_longests_39 : decode cX7_longests 39 = .ok (.aload_n 0, 1) := by decide +kernel
theorem dX7_longests_40 : decode cX7_longests 40 = .ok (.getfield 13, 3) := by decide +kernel
theorem dX7_longests_43 : decode cX7_longests 43 = .ok (.iload_n 2, 1) := by decide +kernel
theorem dX7_longests_44 : decode cX7_longests 44 = .ok (.iaload, 1) := by decide +kernel
theorem dX7_longests_45 : decode cX7_longests 45 = .ok (.if_icmp .ge 100, 3) := by decide +kernel
theorem dX7_longests_48 : decode cX7_longests 48 = .ok (.aload_n 0, 1) := by decide +kernel
theorem dX7_longests_49 : decode cX7_longests 49 = .ok (.getfield 34, 3) := by decide +kernel
theorem dX7_longests_52 : decode cX7_longests 52 = .ok (.bipush 30, 2) := by decide +kernel
theorem dX7_longests_54 : decode cX7_longests 54 = .ok (.iload_n 3, 1) := by decide +kernel
theorem dX7_longests_55 : decode cX7_longests 55 = .ok (.imul, 1) := by decide +kernel
theorem dX7_longests_56 : decode cX7_longests 56 = .ok (.bipush 30, 2) := by decide +kernel
theorem dX7_longests_58 : decode cX7_longests 58 = .ok (.iadd, 1) := by decide +kernel
theorem dX7_longests_59 : decode cX7_longests 59 = .ok (.iload 4, 2) := by decide +kernel
theorem dX7_longests_61 : decode cX7_longests 61 = .ok (.iadd, 1) := by decide +kernel
theorem dX7_longests_62 : decode cX7_longests 62 = .ok (.iaload, 1) := by decide +kernel
theorem dX7_longests_63 : decode cX7_longests 63 = .ok (.istore 6, 2) := by decide +kernel
theorem dX7_longests_65 : decode cX7_longests 65 = .ok (.aload_n 0, 1) := by decide +kernel
theorem dX7_longests_66 : decode cX7_longests 66 = .ok (.getfield 34, 3) := by decide +kernel
theorem dX7_longests_69 : decode cX7_longests 69 = .ok (.bipush 30, 2) := by decide +kernel
theorem dX7_longests_71 : decode cX7_longests 71 = .ok (.iload_n 3, 1) := by decide +kernel
theorem dX7_longests_72 : decode cX7_longests 72 = .ok (.imul, 1) := by decide +kernel
theorem dX7_longests_73 : decode cX7_longests 73 = .ok (.iload 4, 2) := by decide +kernel
theorem dX7_longests_75 : decode cX7_longests 75 = .ok (.iadd, 1) := by decide +kernel
theorem dX7_longests_76 : decode cX7_longests 76 = .ok (.iconst 1, 1) := by decide +kernel
theorem dX7_longests_77 : decode cX7_longests 77 = .ok (.iadd, 1) := by decide +kernel
theorem dX7_longests_78 : decode cX7_longests 78 = .ok (.iaload, 1) := by decide +kernel
theorem dX7_longests_79 : decode cX7_longests 79 = .ok (.istore 7, 2) := by decide +kernel
theorem dX7_longests_81 : decode cX7_longests 81 = .ok (.aload_n 0, 1) := by decide +kernel
theorem dX7_longests_82 : decode cX7_longests 82 = .ok (.getfield 17, 3) := by decide +kernel
theorem dX7_longests_85 : decode cX7_longests 85 = .ok (.bipush 30, 2) := by decide +kernel
theorem dX7_longests_87 : decode cX7_longests 87 = .ok (.iload_n 1, 1) := by decide +kernel
theorem dX7_longests_88 : decode cX7_longests 88 = .ok (.imul, 1) := by decide +kernel
theorem dX7_longests_89 : decode cX7_longests 89 = .ok (.iload_n 3, 1) := by decide +kernel
theorem dX7_longests_90 : decode cX7_longests 90 = .ok (.iadd, 1) := by decide +kernel
theorem dX7_longests_91 : decode cX7_longests 91 = .ok (.iaload, 1) := by decide +kernel
theorem dX7_longests_92 : decode cX7_longests 92 = .ok (.aload_n 0, 1) := by decide +kernel
theorem dX7_longests_93 : decode cX7_longests 93 = .ok (.getfield 17, 3) := by decide +kernel
theorem dX7_longests_96 : decode cX7_longests 96 = .ok (.bipush 30, 2) := by decide +kernel
theorem dX7_longests_98 : decode cX7_longests 98 = .ok (.iload_n 2, 1) := by decide +kernel
theorem dX7_longests_99 : decode cX7_longests 99 = .ok (.imul, 1) := by decide +kernel
theorem dX7_longests_100 : decode cX7_longests 100 = .ok (.iload 4, 2) := by decide +kernel
theorem dX7_longests_102 : decode cX7_longests 102 = .ok (.iadd, 1) := by decide +kernel
theorem dX7_longests_103 : decode cX7_longests 103 = .ok (.iaload, 1) := by decide +kernel
theorem dX7_longests_104 : decode cX7_longests 104 = .ok (.if_icmp .ne 25, 3) := by decide +kernel
theorem dX7_longests_107 : decode cX7_longests 107 = .ok (.aload_n 0, 1) := by decide +kernel
theorem dX7_longests_108 : decode cX7_longests 108 = .ok (.getfield 34, 3) := by decide +kernel
theorem dX7_longests_111 : decode cX7_longests 111 = .ok (.bipush 30, 2) := by decide +kernel
theorem dX7_longests_113 : decode cX7_longests 113 = .ok (.iload_n 3, 1) := by decide +kernel
theorem dX7_longests_114 : decode cX7_longests 114 = .ok (.imul, 1) := by decide +kernel
theorem dX7_longests_115 : decode cX7_longests 115 = .ok (.bipush 30, 2) := by decide +kernel
theorem dX7_longests_117 : decode cX7_longests 117 = .ok (.iadd, 1) := by decide +kernel
theorem dX7_longests_118 : decode cX7_longests 118 = .ok (.iload 4, 2) := by decide +kernel
theorem dX7_longests_120 : decode cX7_longests 120 = .ok (.iadd, 1) := by decide +kernel
theorem dX7_longests_121 : decode cX7_longests 121 = .ok (.iconst 1, 1) := by decide +kernel
theorem dX7_longests_122 : decode cX7_longests 122 = .ok (.iadd, 1) := by decide +kernel
theorem dX7_longests_123 : decode cX7_longests 123 = .ok (.iaload, 1) := by decide +kernel
theorem dX7_longests_124 : decode cX7_longests 124 = .ok (.iconst 1, 1) := by decide +kernel
theorem dX7_longests_125 : decode cX7_longests 125 = .ok (.iadd, 1) := by decide +kernel
theorem dX7_longests_126 : decode cX7_longests 126 = .ok (.goto 17, 3) := by decide +kernel
theorem dX7_longests_129 : decode cX7_longests 129 = .ok (.iload 6, 2) := by decide +kernel
theorem dX7_longests_131 : decode cX7_longests 131 = .ok (.iload 7, 2) := by decide +kernel
theorem dX7_longests_133 : decode cX7_longests 133 = .ok (.if_icmp .le 8, 3) := by decide +kernel
theorem dX7_longests_136 : decode cX7_longests 136 = .ok (.iload 6, 2) := by decide +kernel
theorem dX7_longests_138 : decode cX7_longests 138 = .ok (.goto 5, 3) := by decide +kernel
theorem dX7_longests_141 : decode cX7_longests 141 = .ok (.iload 7, 2) := by decide +kernel
theorem dX7_longests_143 : decode cX7_longests 143 = .ok (.istore 5, 2) := by decide +kernel
theorem dX7_longests_145 : decode cX7_longests 145 = .ok (.aload_n 0, 1) := by decide +kernel
theorem dX7_longests_146 : decode cX7_longests 146 = .ok (.getfield 34, 3) := by decide +kernel
theorem dX7_longests_149 : decode cX7_longests 149 = .ok (.bipush 30, 2) := by decide +kernel
theorem dX7_longests_151 : decode cX7_longests 151 = .ok (.iload_n 3, 1) := by decide +kernel
theorem dX7_longests_152 : decode cX7_longests 152 = .ok (.imul, 1) := by decide +kernel
theorem dX7_longests_153 : decode cX7_longests 153 = .ok (.iload 4, 2) := by decide +kernel
theorem dX7_longests_155 : decode cX7_longests 155 = .ok (.iadd, 1) := by decide +kernel
theorem dX7_longests_156 : decode cX7_longests 156 = .ok (.iload 5, 2) := by decide +kernel
theorem dX7_longests_158 : decode cX7_longests 158 = .ok (.iastore, 1) := by decide +kernel
theorem dX7_longests_159 : decode cX7_longests 159 = .ok (.iinc 4 (-1), 3) := by decide +kernel
theorem dX7_longests_162 : decode cX7_longests 162 = .ok (.goto (-143), 3) := by decide +kernel
theorem dX7_longests_165 : decode cX7_longests 165 = .ok (.iinc 3 (-1), 3) := by decide +kernel
theorem dX7_longests_168 : decode cX7_longests 168 = .ok (.goto (-161), 3) := by decide +kernel
theorem dX7_longests_171 : decode cX7_longests 171 = .ok (.return_, 1) := by decide +kernel
theorem dX7_next_0 : decode cX7_next 0 = .ok (.iload_n 2, 1) := by decide +kernel
theorem dX7_next_1 : decode cX7_next 1 = .ok (.istore 4, 2) := by decide +kernel
theorem dX7_next_3 : decode cX7_next 3 = .ok (.iload 4, 2) := by decide +kernel
theorem dX7_next_5 : decode cX7_next 5 = .ok (.aload_n 0, 1) := by decide +kernel
theorem dX7_next_6 : decode cX7_next 6 = .ok (.getfield 13, 3) := by decide +kernel
theorem dX7_next_9 : decode cX7_next 9 = .ok (.iload_n 1, 1) := by decide +kernel
theorem dX7_next_10 : decode cX7_next 10 = .ok (.iaload, 1) := by decide +kernel
theorem dX7_next_11 : decode cX7_next 11 = .ok (.if_icmp .ge 25, 3) := by decide +kernel
theorem dX7_next_14 : decode cX7_next 14 = .ok (.aload_n 0, 1) := by decide +kernel
theorem dX7_next_15 : decode cX7_next 15 = .ok (.getfield 17, 3) := by decide +kernel
theorem dX7_next_18 : decode cX7_next 18 = .ok (.bipush 30, 2) := by decide +kernel
theorem dX7_next_20 : decode cX7_next 20 = .ok (.iload_n 1, 1) := by decide +kernel
theorem dX7_next_21 : decode cX7_next 21 = .ok (.imul, 1) := by decide +kernel
theorem dX7_next_22 : decode cX7_next 22 = .ok (.iload 4, 2) := by decide +kernel
theorem dX7_next_24 : decode cX7_next 24 = .ok (.iadd, 1) := by decide +kernel
theorem dX7_next_25 : decode cX7_next 25 = .ok (.iaload, 1) := by decide +kernel
theorem dX7_next_26 : decode cX7_next 26 = .ok (.iload_n 3, 1) := by decide +kernel
theorem dX7_next_27 : decode cX7_next 27 = .ok (.if_icmp .eq 9, 3) := by decide +kernel
theorem dX7_next_30 : decode cX7_next 30 = .ok (.iinc 4 1, 3) := by decide +kernel
theorem dX7_next_33 : decode cX7_next 33 = .ok (.goto (-30), 3) := by decide +kernel
theorem dX7_next_36 : decode cX7_next 36 = .ok (.iload 4, 2) := by decide +kernel
theorem dX7_next_38 : decode cX7_next 38 = .ok (.ireturn, 1) := by decide +kernel
theorem dX7_common_0 : decode cX7_common 0 = .ok (.iload_n 1, 1) := by decide +kernel
theorem dX7_common_1 : decode cX7_common 1 = .ok (.invokestatic 53, 3) := by decide +kernel
theorem dX7_common_4 : decode cX7_common 4 = .ok (.ifCond .eq 17, 3) := by decide +kernel
theorem dX7_common_7 : decode cX7_common 7 = .ok (.iload_n 2, 1) := by decide +kernel
theorem dX7_common_8 : decode cX7_common 8 = .ok (.invokestatic 53, 3) := by decide +kernel
theorem dX7_common_11 : decode cX7_common 11 = .ok (.ifCond .eq 10, 3) := by decide +kernel
theorem dX7_common_14 : decode cX7_common 14 = .ok (.iload_n 3, 1) := by decide +kernel
theorem dX7_common_15 : decode cX7_common 15 = .ok (.invokestatic 53, 3) := by decide +kernel
theorem dX7_common_18 : decode cX7_common 18 = .ok (.ifCond .ne 5, 3) := by decide +kernel
theorem dX7_common_21 : decode cX7_common 21 = .ok (.iconst (-1), 1) := by decide +kernel
theorem dX7_common_22 : decode cX7_common 22 = .ok (.ireturn, 1) := by decide +kernel
theorem dX7_common_23 : decode cX7_common 23 = .ok (.aload_n 0, 1) := by decide +kernel
theorem dX7_common_24 : decode cX7_common 24 = .ok (.iload_n 2, 1) := by decide +kernel
theorem dX7_common_25 : decode cX7_common 25 = .ok (.iload_n 3, 1) := by decide +kernel
theorem dX7_common_26 : decode cX7_common 26 = .ok (.invokevirtual 126, 3) := by decide +kernel
theorem dX7_common_29 : decode cX7_common 29 = .ok (.aload_n 0, 1) := by decide +kernel
theorem dX7_common_30 : decode cX7_common 30 = .ok (.getfield 13, 3) := by decide +kernel
theorem dX7_common_33 : decode cX7_common 33 = .ok (.bipush 20, 2) := by decide +kernel
theorem dX7_common_35 : decode cX7_common 35 = .ok (.iconst 0, 1) := by decide +kernel
theorem dX7_common_36 : decode cX7_common 36 = .ok (.iastore, 1) := by decide +kernel
theorem dX7_common_37 : decode cX7_common 37 = .ok (.iconst 0, 1) := by decide +kernel
theorem dX7_common_38 : decode cX7_common 38 = .ok (.istore 4, 2) := by decide +kernel
theorem dX7_common_40 : decode cX7_common 40 = .ok (.iconst 0, 1) := by decide +kernel
theorem dX7_common_41 : decode cX7_common 41 = .ok (.istore 5, 2) := by decide +kernel
theorem dX7_common_43 : decode cX7_common 43 = .ok (.aload_n 0, 1) := by decide +kernel
theorem dX7_common_44 : decode cX7_common 44 = .ok (.getfield 34, 3) := by decide +kernel
theorem dX7_common_47 : decode cX7_common 47 = .ok (.bipush 30, 2) := by decide +kernel
theorem dX7_common_49 : decode cX7_common 49 = .ok (.iload 4, 2) := by decide +kernel
theorem dX7_common_51 : decode cX7_common 51 = .ok (.imul, 1) := by decide +kernel
theorem dX7_common_52 : decode cX7_common 52 = .ok (.iload 5, 2) := by decide +kernel
theorem dX7_common_54 : decode cX7_common 54 = .ok (.iadd, 1) := by decide +kernel
theorem dX7_common_55 : decode cX7_common 55 = .ok (.iaload, 1) := by decide +kernel
theorem dX7_common_56 : decode cX7_common 56 = .ok (.ifCond .le 137, 3) := by decide +kernel
theorem dX7_common_59 : decode cX7_common 59 = .ok (.iconst 0, 1) := by decide +kernel
theorem dX7_common_60 : decode cX7_common 60 = .ok (.istore 6, 2) := by decide +kernel
theorem dX7_common_62 : decode cX7_common 62 = .ok (.aload_n 0, 1) := by decide +kernel
theorem dX7_common_63 : decode cX7_common 63 = .ok (.iload_n 2, 1) := by decide +kernel
theorem dX7_common_64 : decode cX7_common 64 = .ok (.iload 4, 2) := by decide +kernel
theorem dX7_common_66 : decode cX7_common 66 = .ok (.iload 6, 2) := by decide +kernel
theorem dX7_common_68 : decode cX7_common 68 = .ok (.invokevirtual 129, 3) := by decide +kernel
theorem dX7_common_71 : decode cX7_common 71 = .ok (.istore 7, 2) := by decide +kernel
theorem dX7_common_73 : decode cX7_common 73 = .ok (.aload_n 0, 1) := by decide +kernel
theorem dX7_common_74 : decode cX7_common 74 = .ok (.iload_n 3, 1) := by decide +kernel
theorem dX7_common_75 : decode cX7_common 75 = .ok (.iload 5, 2) := by decide +kernel
theorem dX7_common_77 : decode cX7_common 77 = .ok (.iload 6, 2) := by decide +kernel
theorem dX7_common_79 : decode cX7_common 79 = .ok (.invokevirtual 129, 3) := by decide +kernel
theorem dX7_common_82 : decode cX7_common 82 = .ok (.istore 8, 2) := by decide +kernel
theorem dX7_common_84 : decode cX7_common 84 = .ok (.iload 7, 2) := by decide +kernel
theorem dX7_common_86 : decode cX7_common 86 = .ok (.aload_n 0, 1) := by decide +kernel
theorem dX7_common_87 : decode cX7_common 87 = .ok (.getfield 13, 3) := by decide +kernel
theorem dX7_common_90 : decode cX7_common 90 = .ok (.iload_n 2, 1) := by decide +kernel
theorem dX7_common_91 : decode cX7_common 91 = .ok (.iaload, 1) := by decide +kernel
theorem dX7_common_92 : decode cX7_common 92 = .ok (.if_icmp .eq 50, 3) := by decide +kernel
theorem dX7_common_95 : decode cX7_common 95 = .ok (.iload 8, 2) := by decide +kernel
theorem dX7_common_97 : decode cX7_common 97 = .ok (.aload_n 0, 1) := by decide +kernel
theorem dX7_common_98 : decode cX7_common 98 = .ok (.getfield 13, 3) := by decide +kernel
theorem dX7_common_101 : decode cX7_common 101 = .ok (.iload_n 3, 1) := by decide +kernel
theorem dX7_common_102 : decode cX7_common 102 = .ok (.iaload, 1) := by decide +kernel
theorem dX7_common_103 : decode cX7_common 103 = .ok (.if_icmp .eq 39, 3) := by decide +kernel
theorem dX7_common_106 : decode cX7_common 106 = .ok (.aload_n 0, 1) := by decide +kernel
theorem dX7_common_107 : decode cX7_common 107 = .ok (.getfield 34, 3) := by decide +kernel
theorem dX7_common_110 : decode cX7_common 110 = .ok (.bipush 30, 2) := by decide +kernel
theorem dX7_common_112 : decode cX7_common 112 = .ok (.iload 7, 2) := by decide +kernel
theorem dX7_common_114 : decode cX7_common 114 = .ok (.imul, 1) := by decide +kernel
theorem dX7_common_115 : decode cX7_common 115 = .ok (.bipush 30, 2) := by decide +kernel
theorem dX7_common_117 : decode cX7_common 117 = .ok (.iadd, 1) := by decide +kernel
theorem dX7_common_118 : decode cX7_common 118 = .ok (.iload 8, 2) := by decide +kernel
theorem dX7_common_120 : decode cX7_common 120 = .ok (.iadd, 1) := by decide +kernel
theorem dX7_common_121 : decode cX7_common 121 = .ok (.iconst 1, 1) := by decide +kernel
theorem dX7_common_122 : decode cX7_common 122 = .ok (.iadd, 1) := by decide +kernel
theorem dX7_common_123 : decode cX7_common 123 = .ok (.iaload, 1) := by decide +kernel
theorem dX7_common_124 : decode cX7_common 124 = .ok (.iconst 1, 1) := by decide +kernel
theorem dX7_common_125 : decode cX7_common 125 = .ok (.iadd, 1) := by decide +kernel
theorem dX7_common_126 : decode cX7_common 126 = .ok (.aload_n 0, 1) := by decide +kernel
theorem dX7_common_127 : decode cX7_common 127 = .ok (.getfield 34, 3) := by decide +kernel
theorem dX7_common_130 : decode cX7_common 130 = .ok (.bipush 30, 2) := by decide +kernel
theorem dX7_common_132 : decode cX7_common 132 = .ok (.iload 4, 2) := by decide +kernel
theorem dX7_common_134 : decode cX7_common 134 = .ok (.imul, 1) := by decide +kernel
theorem dX7_common_135 : decode cX7_common 135 = .ok (.iload 5, 2) := by decide +kernel
theorem dX7_common_137 : decode cX7_common 137 = .ok (.iadd, 1) := by decide +kernel
theorem dX7_common_138 : decode cX7_common 138 = .ok (.iaload, 1) := by decide +kernel
theorem dX7_common_139 : decode cX7_common 139 = .ok (.if_icmp .eq 31, 3) := by decide +kernel
theorem dX7_common_142 : decode cX7_common 142 = .ok (.iinc 6 1, 3) := by decide +kernel
theorem dX7_common_145 : decode cX7_common 145 = .ok (.aload_n 0, 1) := by decide +kernel
theorem dX7_common_146 : decode cX7_common 146 = .ok (.iload_n 2, 1) := by decide +kernel
theorem dX7_common_147 : decode cX7_common 147 = .ok (.iload 4, 2) := by decide +kernel
theorem dX7_common_149 : decode cX7_common 149 = .ok (.iload 6, 2) := by decide +kernel
theorem dX7_common_151 : decode cX7_common 151 = .ok (.invokevirtual 129, 3) := by decide +kernel
theorem dX7_common_154 : decode cX7_common 154 = .ok (.istore 7, 2) := by decide +kernel
theorem dX7_common_156 : decode cX7_common 156 = .ok (.aload_n 0, 1) := by decide +kernel
theorem dX7_common_157 : decode cX7_common 157 = .ok (.iload_n 3, 1) := by decide +kernel
end
section
theorem dX7_common_158 : decode cX7_common 158 = .ok (.iload 5, 2) := by decide +kernel
theorem dX7_common_160 : decode cX7_common 160 = .ok (.iload 6, 2) := by decide +kernel
theorem dX7_common_162 : decode cX7_common 162 = .ok (.invokevirtual 129, 3) := by decide +kernel
theorem dX7_common_165 : decode cX7_common 165 = .ok (.istore 8, 2) := by decide +kernel
theorem dX7_common_167 : decode cX7_common 167 = .ok (.goto (-83), 3) := by decide +kernel
theorem dX7_common_170 : decode cX7_common 170 = .ok (.aload_n 0, 1) := by decide +kernel
theorem dX7_common_171 : decode cX7_common 171 = .ok (.bipush 20, 2) := by decide +kernel
theorem dX7_common_173 : decode cX7_common 173 = .ok (.iload 6, 2) := by decide +kernel
theorem dX7_common_175 : decode cX7_common 175 = .ok (.invokevirtual 61, 3) := by decide +kernel
theorem dX7_common_178 : decode cX7_common 178 = .ok (.iload 7, 2) := by decide +kernel
theorem dX7_common_180 : decode cX7_common 180 = .ok (.iconst 1, 1) := by decide +kernel
theorem dX7_common_181 : decode cX7_common 181 = .ok (.iadd, 1) := by decide +kernel
theorem dX7_common_182 : decode cX7_common 182 = .ok (.istore 4, 2) := by decide +kernel
theorem dX7_common_184 : decode cX7_common 184 = .ok (.iload 8, 2) := by decide +kernel
theorem dX7_common_186 : decode cX7_common 186 = .ok (.iconst 1, 1) := by decide +kernel
theorem dX7_common_187 : decode cX7_common 187 = .ok (.iadd, 1) := by decide +kernel
theorem dX7_common_188 : decode cX7_common 188 = .ok (.istore 5, 2) := by decide +kernel
theorem dX7_common_190 : decode cX7_common 190 = .ok (.goto (-147), 3) := by decide +kernel
theorem dX7_common_193 : decode cX7_common 193 = .ok (.aload_n 0, 1) := by decide +kernel
theorem dX7_common_194 : decode cX7_common 194 = .ok (.iload_n 1, 1) := by decide +kernel
theorem dX7_common_195 : decode cX7_common 195 = .ok (.bipush 20, 2) := by decide +kernel
theorem dX7_common_197 : decode cX7_common 197 = .ok (.invokevirtual 69, 3) := by decide +kernel
theorem dX7_common_200 : decode cX7_common 200 = .ok (.aload_n 0, 1) := by decide +kernel
theorem dX7_common_201 : decode cX7_common 201 = .ok (.getfield 13, 3) := by decide +kernel
theorem dX7_common_204 : decode cX7_common 204 = .ok (.iload_n 1, 1) := by decide +kernel
theorem dX7_common_205 : decode cX7_common 205 = .ok (.iaload, 1) := by decide +kernel
theorem dX7_common_206 : decode cX7_common 206 = .ok (.ireturn, 1) := by decide +kernel
theorem dX7_commons_0 : decode cX7_commons 0 = .ok (.iload_n 1, 1) := by decide +kernel
theorem dX7_commons_1 : decode cX7_commons 1 = .ok (.invokestatic 53, 3) := by decide +kernel
theorem dX7_commons_4 : decode cX7_commons 4 = .ok (.ifCond .eq 10, 3) := by decide +kernel
theorem dX7_commons_7 : decode cX7_commons 7 = .ok (.iload_n 2, 1) := by decide +kernel
theorem dX7_commons_8 : decode cX7_commons 8 = .ok (.invokestatic 53, 3) := by decide +kernel
theorem dX7_commons_11 : decode cX7_commons 11 = .ok (.ifCond .ne 7, 3) := by decide +kernel
theorem dX7_commons_14 : decode cX7_commons 14 = .ok (.ldc2_w 124, 3) := by decide +kernel
theorem dX7_commons_17 : decode cX7_commons 17 = .ok (.lreturn, 1) := by decide +kernel
theorem dX7_commons_18 : decode cX7_commons 18 = .ok (.aload_n 0, 1) := by decide +kernel
theorem dX7_commons_19 : decode cX7_commons 19 = .ok (.iload_n 1, 1) := by decide +kernel
theorem dX7_commons_20 : decode cX7_commons 20 = .ok (.iload_n 2, 1) := by decide +kernel
theorem dX7_commons_21 : decode cX7_commons 21 = .ok (.invokevirtual 126, 3) := by decide +kernel
theorem dX7_commons_24 : decode cX7_commons 24 = .ok (.aload_n 0, 1) := by decide +kernel
theorem dX7_commons_25 : decode cX7_commons 25 = .ok (.getfield 13, 3) := by decide +kernel
theorem dX7_commons_28 : decode cX7_commons 28 = .ok (.iload_n 1, 1) := by decide +kernel
theorem dX7_commons_29 : decode cX7_commons 29 = .ok (.iaload, 1) := by decide +kernel
theorem dX7_commons_30 : decode cX7_commons 30 = .ok (.istore_n 3, 1) := by decide +kernel
theorem dX7_commons_31 : decode cX7_commons 31 = .ok (.iload_n 3, 1) := by decide +kernel
theorem dX7_commons_32 : decode cX7_commons 32 = .ok (.ifCond .lt 214, 3) := by decide +kernel
theorem dX7_commons_35 : decode cX7_commons 35 = .ok (.aload_n 0, 1) := by decide +kernel
theorem dX7_commons_36 : decode cX7_commons 36 = .ok (.getfield 13, 3) := by decide +kernel
theorem dX7_commons_39 : decode cX7_commons 39 = .ok (.iload_n 2, 1) := by decide +kernel
theorem dX7_commons_40 : decode cX7_commons 40 = .ok (.iaload, 1) := by decide +kernel
theorem dX7_commons_41 : decode cX7_commons 41 = .ok (.istore 4, 2) := by decide +kernel
theorem dX7_commons_43 : decode cX7_commons 43 = .ok (.iload 4, 2) := by decide +kernel
theorem dX7_commons_45 : decode cX7_commons 45 = .ok (.ifCond .lt 195, 3) := by decide +kernel
theorem dX7_commons_48 : decode cX7_commons 48 = .ok (.aload_n 0, 1) := by decide +kernel
theorem dX7_commons_49 : decode cX7_commons 49 = .ok (.getfield 34, 3) := by decide +kernel
theorem dX7_commons_52 : decode cX7_commons 52 = .ok (.bipush 30, 2) := by decide +kernel
theorem dX7_commons_54 : decode cX7_commons 54 = .ok (.iload_n 3, 1) := by decide +kernel
theorem dX7_commons_55 : decode cX7_commons 55 = .ok (.imul, 1) := by decide +kernel
theorem dX7_commons_56 : decode cX7_commons 56 = .ok (.iload 4, 2) := by decide +kernel
theorem dX7_commons_58 : decode cX7_commons 58 = .ok (.iadd, 1) := by decide +kernel
theorem dX7_commons_59 : decode cX7_commons 59 = .ok (.iaload, 1) := by decide +kernel
theorem dX7_commons_60 : decode cX7_commons 60 = .ok (.ifCond .ne 7, 3) := by decide +kernel
theorem dX7_commons_63 : decode cX7_commons 63 = .ok (.lconst 1, 1) := by decide +kernel
theorem dX7_commons_64 : decode cX7_commons 64 = .ok (.goto 4, 3) := by decide +kernel
theorem dX7_commons_67 : decode cX7_commons 67 = .ok (.lconst 0, 1) := by decide +kernel
theorem dX7_commons_68 : decode cX7_commons 68 = .ok (.lstore 5, 2) := by decide +kernel
theorem dX7_commons_70 : decode cX7_commons 70 = .ok (.iconst 0, 1) := by decide +kernel
theorem dX7_commons_71 : decode cX7_commons 71 = .ok (.istore 7, 2) := by decide +kernel
theorem dX7_commons_73 : decode cX7_commons 73 = .ok (.iload 7, 2) := by decide +kernel
theorem dX7_commons_75 : decode cX7_commons 75 = .ok (.aload_n 0, 1) := by decide +kernel
theorem dX7_commons_76 : decode cX7_commons 76 = .ok (.getfield 7, 3) := by decide +kernel
theorem dX7_commons_79 : decode cX7_commons 79 = .ok (.if_icmp .ge 141, 3) := by decide +kernel
theorem dX7_commons_82 : decode cX7_commons 82 = .ok (.aload_n 0, 1) := by decide +kernel
theorem dX7_commons_83 : decode cX7_commons 83 = .ok (.iload_n 1, 1) := by decide +kernel
theorem dX7_commons_84 : decode cX7_commons 84 = .ok (.iload_n 3, 1) := by decide +kernel
theorem dX7_commons_85 : decode cX7_commons 85 = .ok (.iload 7, 2) := by decide +kernel
theorem dX7_commons_87 : decode cX7_commons 87 = .ok (.invokevirtual 129, 3) := by decide +kernel
theorem dX7_commons_90 : decode cX7_commons 90 = .ok (.istore 8, 2) := by decide +kernel
theorem dX7_commons_92 : decode cX7_commons 92 = .ok (.aload_n 0, 1) := by decide +kernel
theorem dX7_commons_93 : decode cX7_commons 93 = .ok (.iload_n 2, 1) := by decide +kernel
theorem dX7_commons_94 : decode cX7_commons 94 = .ok (.iload 4, 2) := by decide +kernel
theorem dX7_commons_96 : decode cX7_commons 96 = .ok (.iload 7, 2) := by decide +kernel
theorem dX7_commons_98 : decode cX7_commons 98 = .ok (.invokevirtual 129, 3) := by decide +kernel
theorem dX7_commons_101 : decode cX7_commons 101 = .ok (.istore 9, 2) := by decide +kernel
theorem dX7_commons_103 : decode cX7_commons 103 = .ok (.aload_n 0, 1) := by decide +kernel
theorem dX7_commons_104 : decode cX7_commons 104 = .ok (.getfield 34, 3) := by decide +kernel
theorem dX7_commons_107 : decode cX7_commons 107 = .ok (.bipush 30, 2) := by decide +kernel
theorem dX7_commons_109 : decode cX7_commons 109 = .ok (.iload_n 3, 1) := by decide +kernel
theorem dX7_commons_110 : decode cX7_commons 110 = .ok (.imul, 1) := by decide +kernel
theorem dX7_commons_111 : decode cX7_commons 111 = .ok (.iload 4, 2) := by decide +kernel
theorem dX7_commons_113 : decode cX7_commons 113 = .ok (.iadd, 1) := by decide +kernel
theorem dX7_commons_114 : decode cX7_commons 114 = .ok (.iaload, 1) := by decide +kernel
theorem dX7_commons_115 : decode cX7_commons 115 = .ok (.ifCond .le 64, 3) := by decide +kernel
theorem dX7_commons_118 : decode cX7_commons 118 = .ok (.iload 8, 2) := by decide +kernel
theorem dX7_commons_120 : decode cX7_commons 120 = .ok (.aload_n 0, 1) := by decide +kernel
theorem dX7_commons_121 : decode cX7_commons 121 = .ok (.getfield 13, 3) := by decide +kernel
theorem dX7_commons_124 : decode cX7_commons 124 = .ok (.iload_n 1, 1) := by decide +kernel
theorem dX7_commons_125 : decode cX7_commons 125 = .ok (.iaload, 1) := by decide +kernel
theorem dX7_commons_126 : decode cX7_commons 126 = .ok (.if_icmp .ge 53, 3) := by decide +kernel
theorem dX7_commons_129 : decode cX7_commons 129 = .ok (.iload 9, 2) := by decide +kernel
theorem dX7_commons_131 : decode cX7_commons 131 = .ok (.aload_n 0, 1) := by decide +kernel
theorem dX7_commons_132 : decode cX7_commons 132 = .ok (.getfield 13, 3) := by decide +kernel
theorem dX7_commons_135 : decode cX7_commons 135 = .ok (.iload_n 2, 1) := by decide +kernel
theorem dX7_commons_136 : decode cX7_commons 136 = .ok (.iaload, 1) := by decide +kernel
theorem dX7_commons_137 : decode cX7_commons 137 = .ok (.if_icmp .ge 42, 3) := by decide +kernel
theorem dX7_commons_140 : decode cX7_commons 140 = .ok (.aload_n 0, 1) := by decide +kernel
theorem dX7_commons_141 : decode cX7_commons 141 = .ok (.getfield 34, 3) := by decide +kernel
theorem dX7_commons_144 : decode cX7_commons 144 = .ok (.bipush 30, 2) := by decide +kernel
theorem dX7_commons_146 : decode cX7_commons 146 = .ok (.iload 8, 2) := by decide +kernel
theorem dX7_commons_148 : decode cX7_commons 148 = .ok (.imul, 1) := by decide +kernel
theorem dX7_commons_149 : decode cX7_commons 149 = .ok (.bipush 30, 2) := by decide +kernel
theorem dX7_commons_151 : decode cX7_commons 151 = .ok (.iadd, 1) := by decide +kernel
theorem dX7_commons_152 : decode cX7_commons 152 = .ok (.iload 9, 2) := by decide +kernel
theorem dX7_commons_154 : decode cX7_commons 154 = .ok (.iadd, 1) := by decide +kernel
theorem dX7_commons_155 : decode cX7_commons 155 = .ok (.iconst 1, 1) := by decide +kernel
theorem dX7_commons_156 : decode cX7_commons 156 = .ok (.iadd, 1) := by decide +kernel
theorem dX7_commons_157 : decode cX7_commons 157 = .ok (.iaload, 1) := by decide +kernel
theorem dX7_commons_158 : decode cX7_commons 158 = .ok (.iconst 1, 1) := by decide +kernel
theorem dX7_commons_159 : decode cX7_commons 159 = .ok (.iadd, 1) := by decide +kernel
theorem dX7_commons_160 : decode cX7_commons 160 = .ok (.aload_n 0, 1) := by decide +kernel
theorem dX7_commons_161 : decode cX7_commons 161 = .ok (.getfield 34, 3) := by decide +kernel
theorem dX7_commons_164 : decode cX7_commons 164 = .ok (.bipush 30, 2) := by decide +kernel
theorem dX7_commons_166 : decode cX7_commons 166 = .ok (.iload_n 3, 1) := by decide +kernel
theorem dX7_commons_167 : decode cX7_commons 167 = .ok (.imul, 1) := by decide +kernel
theorem dX7_commons_168 : decode cX7_commons 168 = .ok (.iload 4, 2) := by decide +kernel
theorem dX7_commons_170 : decode cX7_commons 170 = .ok (.iadd, 1) := by decide +kernel
theorem dX7_commons_171 : decode cX7_commons 171 = .ok (.iaload, 1) := by decide +kernel
theorem dX7_commons_172 : decode cX7_commons 172 = .ok (.if_icmp .ne 7, 3) := by decide +kernel
theorem dX7_commons_175 : decode cX7_commons 175 = .ok (.iconst 1, 1) := by decide +kernel
theorem dX7_commons_176 : decode cX7_commons 176 = .ok (.goto 4, 3) := by decide +kernel
theorem dX7_commons_179 : decode cX7_commons 179 = .ok (.iconst 0, 1) := by decide +kernel
theorem dX7_commons_180 : decode cX7_commons 180 = .ok (.istore 10, 2) := by decide +kernel
theorem dX7_commons_182 : decode cX7_commons 182 = .ok (.lload 5, 2) := by decide +kernel
theorem dX7_commons_184 : decode cX7_commons 184 = .ok (.iload 10, 2) := by decide +kernel
theorem dX7_commons_186 : decode cX7_commons 186 = .ok (.ifCond .eq 24, 3) := by decide +kernel
theorem dX7_commons_189 : decode cX7_commons 189 = .ok (.aload_n 0, 1) := by decide +kernel
theorem dX7_commons_190 : decode cX7_commons 190 = .ok (.getfield 30, 3) := by decide +kernel
theorem dX7_commons_193 : decode cX7_commons 193 = .ok (.bipush 30, 2) := by decide +kernel
theorem dX7_commons_195 : decode cX7_commons 195 = .ok (.iload 8, 2) := by decide +kernel
theorem dX7_commons_197 : decode cX7_commons 197 = .ok (.imul, 1) := by decide +kernel
theorem dX7_commons_198 : decode cX7_commons 198 = .ok (.bipush 30, 2) := by decide +kernel
theorem dX7_commons_200 : decode cX7_commons 200 = .ok (.iadd, 1) := by decide +kernel
theorem dX7_commons_201 : decode cX7_commons 201 = .ok (.iload 9, 2) := by decide +kernel
theorem dX7_commons_203 : decode cX7_commons 203 = .ok (.iadd, 1) := by decide +kernel
theorem dX7_commons_204 : decode cX7_commons 204 = .ok (.iconst 1, 1) := by decide +kernel
theorem dX7_commons_205 : decode cX7_commons 205 = .ok (.iadd, 1) := by decide +kernel
theorem dX7_commons_206 : decode cX7_commons 206 = .ok (.laload, 1) := by decide +kernel
theorem dX7_commons_207 : decode cX7_commons 207 = .ok (.goto 4, 3) := by decide +kernel
theorem dX7_commons_210 : decode cX7_commons 210 = .ok (.lconst 0, 1) := by decide +kernel
theorem dX7_commons_211 : decode cX7_commons 211 = .ok (.ladd, 1) := by decide +kernel
theorem dX7_commons_212 : decode cX7_commons 212 = .ok (.lstore 5, 2) := by decide +kernel
theorem dX7_commons_214 : decode cX7_commons 214 = .ok (.iinc 7 1, 3) := by decide +kernel
theorem dX7_commons_217 : decode cX7_commons 217 = .ok (.goto (-144), 3) := by decide +kernel
theorem dX7_commons_220 : decode cX7_commons 220 = .ok (.aload_n 0, 1) := by decide +kernel
theorem dX7_commons_221 : decode cX7_commons 221 = .ok (.getfield 30, 3) := by decide +kernel
theorem dX7_commons_224 : decode cX7_commons 224 = .ok (.bipush 30, 2) := by decide +kernel
theorem dX7_commons_226 : decode cX7_commons 226 = .ok (.iload_n 3, 1) := by decide +kernel
theorem dX7_commons_227 : decode cX7_commons 227 = .ok (.imul, 1) := by decide +kernel
theorem dX7_commons_228 : decode cX7_commons 228 = .ok (.iload 4, 2) := by decide +kernel
theorem dX7_commons_230 : decode cX7_commons 230 = .ok (.iadd, 1) := by decide +kernel
theorem dX7_commons_231 : decode cX7_commons 231 = .ok (.lload 5, 2) := by decide +kernel
theorem dX7_commons_233 : decode cX7_commons 233 = .ok (.lastore, 1) := by decide +kernel
theorem dX7_commons_234 : decode cX7_commons 234 = .ok (.iinc 4 (-1), 3) := by decide +kernel
theorem dX7_commons_237 : decode cX7_commons 237 = .ok (.goto (-194), 3) := by decide +kernel
theorem dX7_commons_240 : decode cX7_commons 240 = .ok (.iinc 3 (-1), 3) := by decide +kernel
theorem dX7_commons_243 : decode cX7_commons 243 = .ok (.goto (-212), 3) := by decide +kernel
theorem dX7_commons_246 : decode cX7_commons 246 = .ok (.aload_n 0, 1) := by decide +kernel
theorem dX7_commons_247 : decode cX7_commons 247 = .ok (.getfield 30, 3) := by decide +kernel
theorem dX7_commons_250 : decode cX7_commons 250 = .ok (.iconst 0, 1) := by decide +kernel
theorem dX7_commons_251 : decode cX7_commons 251 = .ok (.laload, 1) := by decide +kernel
theorem dX7_commons_252 : decode cX7_commons 252 = .ok (.lreturn, 1) := by decide +kernel
theorem dX7_editsBetween_0 : decode cX7_editsBetween 0 = .ok (.aload_n 0, 1) := by decide +kernel
theorem dX7_editsBetween_1 : decode cX7_editsBetween 1 = .ok (.getfield 13, 3) := by decide +kernel
theorem dX7_editsBetween_4 : decode cX7_editsBetween 4 = .ok (.iload_n 1, 1) := by decide +kernel
theorem dX7_editsBetween_5 : decode cX7_editsBetween 5 = .ok (.iaload, 1) := by decide +kernel
theorem dX7_editsBetween_6 : decode cX7_editsBetween 6 = .ok (.istore_n 3, 1) := by decide +kernel
theorem dX7_editsBetween_7 : decode cX7_editsBetween 7 = .ok (.iload_n 3, 1) := by decide +kernel
theorem dX7_editsBetween_8 : decode cX7_editsBetween 8 = .ok (.ifCond .lt 203, 3) := by decide +kernel
theorem dX7_editsBetween_11 : decode cX7_editsBetween 11 = .ok (.aload_n 0, 1) := by decide +kernel
theorem dX7_editsBetween_12 : decode cX7_editsBetween 12 = .ok (.getfield 13, 3) := by decide +kernel
theorem dX7_editsBetween_15 : decode cX7_editsBetween 15 = .ok (.iload_n 2, 1) := by decide +kernel
theorem dX7_editsBetween_16 : decode cX7_editsBetween 16 = .ok (.iaload, 1) := by decide +kernel
theorem dX7_editsBetween_17 : decode cX7_editsBetween 17 = .ok (.istore 4, 2) := by decide +kernel
theorem dX7_editsBetween_19 : decode cX7_editsBetween 19 = .ok (.iload 4, 2) := by decide +kernel
theorem dX7_editsBetween_21 : decode cX7_editsBetween 21 = .ok (.ifCond .lt 184, 3) := by decide +kernel
theorem dX7_editsBetween_24 : decode cX7_editsBetween 24 = .ok (.aload_n 0, 1) := by decide +kernel
theorem dX7_editsBetween_25 : decode cX7_editsBetween 25 = .ok (.getfield 13, 3) := by decide +kernel
theorem dX7_editsBetween_28 : decode cX7_editsBetween 28 = .ok (.iload_n 1, 1) := by decide +kernel
theorem dX7_editsBetween_29 : decode cX7_editsBetween 29 = .ok (.iaload, 1) := by decide +kernel
theorem dX7_editsBetween_30 : decode cX7_editsBetween 30 = .ok (.iload_n 3, 1) := by decide +kernel
theorem dX7_editsBetween_31 : decode cX7_editsBetween 31 = .ok (.isub, 1) := by decide +kernel
theorem dX7_editsBetween_32 : decode cX7_editsBetween 32 = .ok (.aload_n 0, 1) := by decide +kernel
theorem dX7_editsBetween_33 : decode cX7_editsBetween 33 = .ok (.getfield 13, 3) := by decide +kernel
theorem dX7_editsBetween_36 : decode cX7_editsBetween 36 = .ok (.iload_n 2, 1) := by decide +kernel
theorem dX7_editsBetween_37 : decode cX7_editsBetween 37 = .ok (.iaload, 1) := by decide +kernel
theorem dX7_editsBetween_38 : decode cX7_editsBetween 38 = .ok (.iadd, 1) := by decide +kernel
theorem dX7_editsBetween_39 : decode cX7_editsBetween 39 = .ok (.iload 4, 2) := by decide +kernel
theorem dX7_editsBetween_41 : decode cX7_editsBetween 41 = .ok (.isub, 1) := by decide +kernel
theorem dX7_editsBetween_42 : decode cX7_editsBetween 42 = .ok (.istore 5, 2) := by decide +kernel
theorem dX7_editsBetween_44 : decode cX7_editsBetween 44 = .ok (.iload_n 3, 1) := by decide +kernel
theorem dX7_editsBetween_45 : decode cX7_editsBetween 45 = .ok (.aload_n 0, 1) := by decide +kernel
theorem dX7_editsBetween_46 : decode cX7_editsBetween 46 = .ok (.getfield 13, 3) := by decide +kernel
theorem dX7_editsBetween_49 : decode cX7_editsBetween 49 = .ok (.iload_n 1, 1) := by decide +kernel
theorem dX7_editsBetween_50 : decode cX7_editsBetween 50 = .ok (.iaload, 1) := by decide +kernel
theorem dX7_editsBetween_51 : decode cX7_editsBetween 51 = .ok (.if_icmp .ge 134, 3) := by decide +kernel
theorem dX7_editsBetween_54 : decode cX7_editsBetween 54 = .ok (.iload 4, 2) := by decide +kernel
theorem dX7_editsBetween_56 : decode cX7_editsBetween 56 = .ok (.aload_n 0, 1) := by decide +kernel
theorem dX7_editsBetween_57 : decode cX7_editsBetween 57 = .ok (.getfield 13, 3) := by decide +kernel
theorem dX7_editsBetween_60 : decode cX7_editsBetween 60 = .ok (.iload_n 2, 1) := by decide +kernel
theorem dX7_editsBetween_61 : decode cX7_editsBetween 61 = .ok (.iaload, 1) := by decide +kernel
theorem dX7_editsBetween_62 : decode cX7_editsBetween 62 = .ok (.if_icmp .ge 123, 3) := by decide +kernel
theorem dX7_editsBetween_65 : decode cX7_editsBetween 65 = .ok (.aload_n 0, 1) := by decide +kernel
theorem dX7_editsBetween_66 : decode cX7_editsBetween 66 = .ok (.getfield 34, 3) := by decide +kernel
theorem dX7_editsBetween_69 : decode cX7_editsBetween 69 = .ok (.bipush 30, 2) := by decide +kernel
theorem dX7_editsBetween_71 : decode cX7_editsBetween 71 = .ok (.iload_n 3, 1) := by decide +kernel
theorem dX7_editsBetween_72 : decode cX7_editsBetween 72 = .ok (.imul, 1) := by decide +kernel
theorem dX7_editsBetween_73 : decode cX7_editsBetween 73 = .ok (.bipush 30, 2) := by decide +kernel
theorem dX7_editsBetween_75 : decode cX7_editsBetween 75 = .ok (.iadd, 1) := by decide +kernel
theorem dX7_editsBetween_76 : decode cX7_editsBetween 76 = .ok (.iload 4, 2) := by decide +kernel
theorem dX7_editsBetween_78 : decode cX7_editsBetween 78 = .ok (.iadd, 1) := by decide +kernel
theorem dX7_editsBetween_79 : decode cX7_editsBetween 79 = .ok (.iconst 1, 1) := by decide +kernel
theorem dX7_editsBetween_80 : decode cX7_editsBetween 80 = .ok (.iadd, 1) := by decide +kernel
theorem dX7_editsBetween_81 : decode cX7_editsBetween 81 = .ok (.iaload, 1) := by decide +kernel
theorem dX7_editsBetween_82 : decode cX7_editsBetween 82 = .ok (.aload_n 0, 1) := by decide +kernel
theorem dX7_editsBetween_83 : decode cX7_editsBetween 83 = .ok (.getfield 17, 3) := by decide +kernel
theorem dX7_editsBetween_86 : decode cX7_editsBetween 86 = .ok (.bipush 30, 2) := by decide +kernel
theorem dX7_editsBetween_88 : decode cX7_editsBetween 88 = .ok (.iload_n 1, 1) := by decide +kernel
theorem dX7_editsBetween_89 : decode cX7_editsBetween 89 = .ok (.imul, 1) := by decide +kernel
theorem dX7_editsBetween_90 : decode cX7_editsBetween 90 = .ok (.iload_n 3, 1) := by decide +kernel
theorem dX7_editsBetween_91 : decode cX7_editsBetween 91 = .ok (.iadd, 1) := by decide +kernel
theorem dX7_editsBetween_92 : decode cX7_editsBetween 92 = .ok (.iaload, 1) := by decide +kernel
theorem dX7_editsBetween_93 : decode cX7_editsBetween 93 = .ok (.aload_n 0, 1) := by decide +kernel
theorem dX7_editsBetween_94 : decode cX7_editsBetween 94 = .ok (.getfield 17, 3) := by decide +kernel
theorem dX7_editsBetween_97 : decode cX7_editsBetween 97 = .ok (.bipush 30, 2) := by decide +kernel
theorem dX7_editsBetween_99 : decode cX7_editsBetween 99 = .ok (.iload_n 2, 1) := by decide +kernel
theorem dX7_editsBetween_100 : decode cX7_editsBetween 100 = .ok (.imul, 1) := by decide +kernel
theorem dX7_editsBetween_101 : decode cX7_editsBetween 101 = .ok (.iload 4, 2) := by decide +kernel
theorem dX7_editsBetween_103 : decode cX7_editsBetween 103 = .ok (.iadd, 1) := by decide +kernel
theorem dX7_editsBetween_104 : decode cX7_editsBetween 104 = .ok (.iaload, 1) := by decide +kernel
theorem dX7_editsBetween_105 : decode cX7_editsBetween 105 = .ok (.if_icmp .ne 7, 3) := by decide +kernel
theorem dX7_editsBetween_108 : decode cX7_editsBetween 108 = .ok (.iconst 0, 1) := by decide +kernel
theorem dX7_editsBetween_109 : decode cX7_editsBetween 109 = .ok (.goto 4, 3) := by decide +kernel
theorem dX7_editsBetween_112 : decode cX7_editsBetween 112 = .ok (.iconst 1, 1) := by decide +kernel
theorem dX7_editsBetween_113 : decode cX7_editsBetween 113 = .ok (.iadd, 1) := by decide +kernel
theorem dX7_editsBetween_114 : decode cX7_editsBetween 114 = .ok (.istore 6, 2) := by decide +kernel
theorem dX7_editsBetween_116 : decode cX7_editsBetween 116 = .ok (.aload_n 0, 1) := by decide +kernel
theorem dX7_editsBetween_117 : decode cX7_editsBetween 117 = .ok (.getfield 34, 3) := by decide +kernel
theorem dX7_editsBetween_120 : decode cX7_editsBetween 120 = .ok (.bipush 30, 2) := by decide +kernel
theorem dX7_editsBetween_122 : decode cX7_editsBetween 122 = .ok (.iload_n 3, 1) := by decide +kernel
theorem dX7_editsBetween_123 : decode cX7_editsBetween 123 = .ok (.imul, 1) := by decide +kernel
theorem dX7_editsBetween_124 : decode cX7_editsBetween 124 = .ok (.bipush 30, 2) := by decide +kernel
theorem dX7_editsBetween_126 : decode cX7_editsBetween 126 = .ok (.iadd, 1) := by decide +kernel
theorem dX7_editsBetween_127 : decode cX7_editsBetween 127 = .ok (.iload 4, 2) := by decide +kernel
theorem dX7_editsBetween_129 : decode cX7_editsBetween 129 = .ok (.iadd, 1) := by decide +kernel
theorem dX7_editsBetween_130 : decode cX7_editsBetween 130 = .ok (.iaload, 1) := by decide +kernel
theorem dX7_editsBetween_131 : decode cX7_editsBetween 131 = .ok (.iconst 1, 1) := by decide +kernel
theorem dX7_editsBetween_132 : decode cX7_editsBetween 132 = .ok (.iadd, 1) := by decide +kernel
theorem dX7_editsBetween_133 : decode cX7_editsBetween 133 = .ok (.istore 7, 2) := by decide +kernel
theorem dX7_editsBetween_135 : decode cX7_editsBetween 135 = .ok (.aload_n 0, 1) := by decide +kernel
theorem dX7_editsBetween_136 : decode cX7_editsBetween 136 = .ok (.getfield 34, 3) := by decide +kernel
theorem dX7_editsBetween_139 : decode cX7_editsBetween 139 = .ok (.bipush 30, 2) := by decide +kernel
theorem dX7_editsBetween_141 : decode cX7_editsBetween 141 = .ok (.iload_n 3, 1) := by decide +kernel
theorem dX7_editsBetween_142 : decode cX7_editsBetween 142 = .ok (.imul, 1) := by decide +kernel
theorem dX7_editsBetween_143 : decode cX7_editsBetween 143 = .ok (.iload 4, 2) := by decide +kernel
theorem dX7_editsBetween_145 : decode cX7_editsBetween 145 = .ok (.iadd, 1) := by decide +kernel
theorem dX7_editsBetween_146 : decode cX7_editsBetween 146 = .ok (.iconst 1, 1) := by decide +kernel
theorem dX7_editsBetween_147 : decode cX7_editsBetween 147 = .ok (.iadd, 1) := by decide +kernel
theorem dX7_editsBetween_148 : decode cX7_editsBetween 148 = .ok (.iaload, 1) := by decide +kernel
theorem dX7_editsBetween_149 : decode cX7_editsBetween 149 = .ok (.iconst 1, 1) := by decide +kernel
theorem dX7_editsBetween_150 : decode cX7_editsBetween 150 = .ok (.iadd, 1) := by decide +kernel
theorem dX7_editsBetween_151 : decode cX7_editsBetween 151 = .ok (.istore 8, 2) := by decide +kernel
theorem dX7_editsBetween_153 : decode cX7_editsBetween 153 = .ok (.iload 6, 2) := by decide +kernel
theorem dX7_editsBetween_155 : decode cX7_editsBetween 155 = .ok (.iload 7, 2) := by decide +kernel
theorem dX7_editsBetween_157 : decode cX7_editsBetween 157 = .ok (.if_icmp .ge 8, 3) := by decide +kernel
theorem dX7_editsBetween_160 : decode cX7_editsBetween 160 = .ok (.iload 6, 2) := by decide +kernel
theorem dX7_editsBetween_162 : decode cX7_editsBetween 162 = .ok (.goto 5, 3) := by decide +kernel
theorem dX7_editsBetween_165 : decode cX7_editsBetween 165 = .ok (.iload 7, 2) := by decide +kernel
theorem dX7_editsBetween_167 : decode cX7_editsBetween 167 = .ok (.istore 5, 2) := by decide +kernel
theorem dX7_editsBetween_169 : decode cX7_editsBetween 169 = .ok (.iload 8, 2) := by decide +kernel
theorem dX7_editsBetween_171 : decode cX7_editsBetween 171 = .ok (.iload 5, 2) := by decide +kernel
theorem dX7_editsBetween_173 : decode cX7_editsBetween 173 = .ok (.if_icmp .ge 8, 3) := by decide +kernel
theorem dX7_editsBetween_176 : decode cX7_editsBetween 176 = .ok (.iload 8, 2) := by decide +kernel
theorem dX7_editsBetween_178 : decode cX7_editsBetween 178 = .ok (.goto 5, 3) := by decide +kernel
theorem dX7_editsBetween_181 : decode cX7_editsBetween 181 = .ok (.iload 5, 2) := by decide +kernel
theorem dX7_editsBetween_183 : decode cX7_editsBetween 183 = .ok (.istore 5, 2) := by decide +kernel
theorem dX7_editsBetween_185 : decode cX7_editsBetween 185 = .ok (.aload_n 0, 1) := by decide +kernel
theorem dX7_editsBetween_186 : decode cX7_editsBetween 186 = .ok (.getfield 34, 3) := by decide +kernel
theorem dX7_editsBetween_189 : decode cX7_editsBetween 189 = .ok (.bipush 30, 2) := by decide +kernel
theorem dX7_editsBetween_191 : decode cX7_editsBetween 191 = .ok (.iload_n 3, 1) := by decide +kernel
theorem dX7_editsBetween_192 : decode cX7_editsBetween 192 = .ok (.imul, 1) := by decide +kernel
theorem dX7_editsBetween_193 : decode cX7_editsBetween 193 = .ok (.iload 4, 2) := by decide +kernel
theorem dX7_editsBetween_195 : decode cX7_editsBetween 195 = .ok (.iadd, 1) := by decide +kernel
theorem dX7_editsBetween_196 : decode cX7_editsBetween 196 = .ok (.iload 5, 2) := by decide +kernel
theorem dX7_editsBetween_198 : decode cX7_editsBetween 198 = .ok (.iastore, 1) := by decide +kernel
theorem dX7_editsBetween_199 : decode cX7_editsBetween 199 = .ok (.iinc 4 (-1), 3) := by decide +kernel
theorem dX7_editsBetween_202 : decode cX7_editsBetween 202 = .ok (.goto (-183), 3) := by decide +kernel
theorem dX7_editsBetween_205 : decode cX7_editsBetween 205 = .ok (.iinc 3 (-1), 3) := by decide +kernel
theorem dX7_editsBetween_208 : decode cX7_editsBetween 208 = .ok (.goto (-201), 3) := by decide +kernel
theorem dX7_editsBetween_211 : decode cX7_editsBetween 211 = .ok (.aload_n 0, 1) := by decide +kernel
theorem dX7_editsBetween_212 : decode cX7_editsBetween 212 = .ok (.getfield 34, 3) := by decide +kernel
theorem dX7_editsBetween_215 : decode cX7_editsBetween 215 = .ok (.iconst 0, 1) := by decide +kernel
theorem dX7_editsBetween_216 : decode cX7_editsBetween 216 = .ok (.iaload, 1) := by decide +kernel
theorem dX7_editsBetween_217 : decode cX7_editsBetween 217 = .ok (.ireturn, 1) := by decide +kernel
theorem dX7_between_0 : decode cX7_between 0 = .ok (.iload_n 1, 1) := by decide +kernel
theorem dX7_between_1 : decode cX7_between 1 = .ok (.invokestatic 53, 3) := by decide +kernel
theorem dX7_between_4 : decode cX7_between 4 = .ok (.ifCond .eq 20, 3) := by decide +kernel
theorem dX7_between_7 : decode cX7_between 7 = .ok (.iload_n 2, 1) := by decide +kernel
theorem dX7_between_8 : decode cX7_between 8 = .ok (.invokestatic 53, 3) := by decide +kernel
theorem dX7_between_11 : decode cX7_between 11 = .ok (.ifCond .eq 13, 3) := by decide +kernel
theorem dX7_between_14 : decode cX7_between 14 = .ok (.iload_n 3, 1) := by decide +kernel
theorem dX7_between_15 : decode cX7_between 15 = .ok (.i2l, 1) := by decide +kernel
theorem dX7_between_16 : decode cX7_between 16 = .ok (.lconst 0, 1) := by decide +kernel
theorem dX7_between_17 : decode cX7_between 17 = .ok (.lconst 1, 1) := by decide +kernel
theorem dX7_between_18 : decode cX7_between 18 = .ok (.invokestatic 39, 3) := by decide +kernel
theorem dX7_between_21 : decode cX7_between 21 = .ok (.ifCond .ne 5, 3) := by decide +kernel
theorem dX7_between_24 : decode cX7_between 24 = .ok (.iconst (-1), 1) := by decide +kernel
theorem dX7_between_25 : decode cX7_between 25 = .ok (.ireturn, 1) := by decide +kernel
theorem dX7_between_26 : decode cX7_between 26 = .ok (.iload_n 3, 1) := by decide +kernel
theorem dX7_between_27 : decode cX7_between 27 = .ok (.ifCond .ne 10, 3) := by decide +kernel
theorem dX7_between_30 : decode cX7_between 30 = .ok (.aload_n 0, 1) := by decide +kernel
theorem dX7_between_31 : decode cX7_between 31 = .ok (.iload_n 1, 1) := by decide +kernel
theorem dX7_between_32 : decode cX7_between 32 = .ok (.iload_n 2, 1) := by decide +kernel
theorem dX7_between_33 : decode cX7_between 33 = .ok (.invokevirtual 132, 3) := by decide +kernel
theorem dX7_between_36 : decode cX7_between 36 = .ok (.ireturn, 1) := by decide +kernel
theorem dX7_between_37 : decode cX7_between 37 = .ok (.aload_n 0, 1) := by decide +kernel
theorem dX7_between_38 : decode cX7_between 38 = .ok (.iload_n 1, 1) := by decide +kernel
theorem dX7_between_39 : decode cX7_between 39 = .ok (.iload_n 2, 1) := by decide +kernel
theorem dX7_between_40 : decode cX7_between 40 = .ok (.invokevirtual 126, 3) := by decide +kernel
theorem dX7_between_43 : decode cX7_between 43 = .ok (.aload_n 0, 1) := by decide +kernel
theorem dX7_between_44 : decode cX7_between 44 = .ok (.getfield 13, 3) := by decide +kernel
theorem dX7_between_47 : decode cX7_between 47 = .ok (.iload_n 1, 1) := by decide +kernel
theorem dX7_between_48 : decode cX7_between 48 = .ok (.iaload, 1) := by decide +kernel
theorem dX7_between_49 : decode cX7_between 49 = .ok (.aload_n 0, 1) := by decide +kernel
theorem dX7_between_50 : decode cX7_between 50 = .ok (.getfield 13, 3) := by decide +kernel
theorem dX7_between_53 : decode cX7_between 53 = .ok (.iload_n 2, 1) := by decide +kernel
theorem dX7_between_54 : decode cX7_between 54 = .ok (.iaload, 1) := by decide +kernel
theorem dX7_between_55 : decode cX7_between 55 = .ok (.iadd, 1) := by decide +kernel
theorem dX7_between_56 : decode cX7_between 56 = .ok (.aload_n 0, 1) := by decide +kernel
theorem dX7_between_57 : decode cX7_between 57 = .ok (.getfield 34, 3) := by decide +kernel
theorem dX7_between_60 : decode cX7_between 60 = .ok (.iconst 0, 1) := by decide +kernel
theorem dX7_between_61 : decode cX7_between 61 = .ok (.iaload, 1) := by decide +kernel
theorem dX7_between_62 : decode cX7_between 62 = .ok (.isub, 1) := by decide +kernel
theorem dX7_between_63 : decode cX7_between 63 = .ok (.ireturn, 1) := by decide +kernel
theorem dX7_parts_0 : decode cX7_parts 0 = .ok (.aload_n 0, 1) := by decide +kernel
theorem dX7_parts_1 : decode cX7_parts 1 = .ok (.getfield 13, 3) := by decide +kernel
theorem dX7_parts_4 : decode cX7_parts 4 = .ok (.iload_n 1, 1) := by decide +kernel
theorem dX7_parts_5 : decode cX7_parts 5 = .ok (.iaload, 1) := by decide +kernel
theorem dX7_parts_6 : decode cX7_parts 6 = .ok (.istore_n 3, 1) := by decide +kernel
theorem dX7_parts_7 : decode cX7_parts 7 = .ok (.iload_n 3, 1) := by decide +kernel
theorem dX7_parts_8 : decode cX7_parts 8 = .ok (.ifCond .lt 121, 3) := by decide +kernel
theorem dX7_parts_11 : decode cX7_parts 11 = .ok (.iconst 0, 1) := by decide +kernel
theorem dX7_parts_12 : decode cX7_parts 12 = .ok (.istore 4, 2) := by decide +kernel
theorem dX7_parts_14 : decode cX7_parts 14 = .ok (.iload 4, 2) := by decide +kernel
theorem dX7_parts_16 : decode cX7_parts 16 = .ok (.iload_n 2, 1) := by decide +kernel
theorem dX7_parts_17 : decode cX7_parts 17 = .ok (.if_icmp .gt 106, 3) := by decide +kernel
theorem dX7_parts_20 : decode cX7_parts 20 = .ok (.iload 4, 2) := by decide +kernel
theorem dX7_parts_22 : decode cX7_parts 22 = .ok (.ifCond .ne 7, 3) := by decide +kernel
theorem dX7_parts_25 : decode cX7_parts 25 = .ok (.lconst 1, 1) := by decide +kernel
theorem dX7_parts_26 : decode cX7_parts 26 = .ok (.goto 4, 3) := by decide +kernel
theorem dX7_parts_29 : decode cX7_parts 29 = .ok (.lconst 0, 1) := by decide +kernel
theorem dX7_parts_30 : decode cX7_parts 30 = .ok (.lstore 5, 2) := by decide +kernel
theorem dX7_parts_32 : decode cX7_parts 32 = .ok (.iconst 0, 1) := by decide +kernel
theorem dX7_parts_33 : decode cX7_parts 33 = .ok (.istore 7, 2) := by decide +kernel
theorem dX7_parts_35 : decode cX7_parts 35 = .ok (.iload 7, 2) := by decide +kernel
theorem dX7_parts_37 : decode cX7_parts 37 = .ok (.aload_n 0, 1) := by decide +kernel
theorem dX7_parts_38 : decode cX7_parts 38 = .ok (.getfield 7, 3) := by decide +kernel
theorem dX7_parts_41 : decode cX7_parts 41 = .ok (.if_icmp .ge 62, 3) := by decide +kernel
theorem dX7_parts_44 : decode cX7_parts 44 = .ok (.iload 4, 2) := by decide +kernel
theorem dX7_parts_46 : decode cX7_parts 46 = .ok (.ifCond .le 57, 3) := by decide +kernel
theorem dX7_parts_49 : decode cX7_parts 49 = .ok (.aload_n 0, 1) := by decide +kernel
theorem dX7_parts_50 : decode cX7_parts 50 = .ok (.iload_n 1, 1) := by decide +kernel
theorem dX7_parts_51 : decode cX7_parts 51 = .ok (.iload_n 3, 1) := by decide +kernel
theorem dX7_parts_52 : decode cX7_parts 52 = .ok (.iload 7, 2) := by decide +kernel
theorem dX7_parts_54 : decode cX7_parts 54 = .ok (.invokevirtual 129, 3) := by decide +kernel
theorem dX7_parts_57 : decode cX7_parts 57 = .ok (.istore 8, 2) := by decide +kernel
theorem dX7_parts_59 : decode cX7_parts 59 = .ok (.lload 5, 2) := by decide +kernel
theorem dX7_parts_61 : decode cX7_parts 61 = .ok (.iload 8, 2) := by decide +kernel
theorem dX7_parts_63 : decode cX7_parts 63 = .ok (.aload_n 0, 1) := by decide +kernel
theorem dX7_parts_64 : decode cX7_parts 64 = .ok (.getfield 13, 3) := by decide +kernel
theorem dX7_parts_67 : decode cX7_parts 67 = .ok (.iload_n 1, 1) := by decide +kernel
theorem dX7_parts_68 : decode cX7_parts 68 = .ok (.iaload, 1) := by decide +kernel
theorem dX7_parts_69 : decode cX7_parts 69 = .ok (.if_icmp .ge 24, 3) := by decide +kernel
theorem dX7_parts_72 : decode cX7_parts 72 = .ok (.aload_n 0, 1) := by decide +kernel
theorem dX7_parts_73 : decode cX7_parts 73 = .ok (.getfield 30, 3) := by decide +kernel
theorem dX7_parts_76 : decode cX7_parts 76 = .ok (.bipush 30, 2) := by decide +kernel
theorem dX7_parts_78 : decode cX7_parts 78 = .ok (.iload 8, 2) := by decide +kernel
theorem dX7_parts_80 : decode cX7_parts 80 = .ok (.imul, 1) := by decide +kernel
theorem dX7_parts_81 : decode cX7_parts 81 = .ok (.bipush 30, 2) := by decide +kernel
theorem dX7_parts_83 : decode cX7_parts 83 = .ok (.iadd, 1) := by decide +kernel
theorem dX7_parts_84 : decode cX7_parts 84 = .ok (.iload 4, 2) := by decide +kernel
theorem dX7_parts_86 : decode cX7_parts 86 = .ok (.iadd, 1) := by decide +kernel
theorem dX7_parts_87 : decode cX7_parts 87 = .ok (.iconst 1, 1) := by decide +kernel
theorem dX7_parts_88 : decode cX7_parts 88 = .ok (.isub, 1) := by decide +kernel
theorem dX7_parts_89 : decode cX7_parts 89 = .ok (.laload, 1) := by decide +kernel
theorem dX7_parts_90 : decode cX7_parts 90 = .ok (.goto 4, 3) := by decide +kernel
theorem dX7_parts_93 : decode cX7_parts 93 = .ok (.lconst 0, 1) := by decide +kernel
theorem dX7_parts_94 : decode cX7_parts 94 = .ok (.ladd, 1) := by decide +kernel
theorem dX7_parts_95 : decode cX7_parts 95 = .ok (.lstore 5, 2) := by decide +kernel
theorem dX7_parts_97 : decode cX7_parts 97 = .ok (.iinc 7 1, 3) := by decide +kernel
theorem dX7_parts_100 : decode cX7_parts 100 = .ok (.goto (-65), 3) := by decide +kernel
theorem dX7_parts_103 : decode cX7_parts 103 = .ok (.aload_n 0, 1) := by decide +kernel
theorem dX7_parts_104 : decode cX7_parts 104 = .ok (.getfield 30, 3) := by decide +kernel
theorem dX7_parts_107 : decode cX7_parts 107 = .ok (.bipush 30, 2) := by decide +kernel
theorem dX7_parts_109 : decode cX7_parts 109 = .ok (.iload_n 3, 1) := by decide +kernel
theorem dX7_parts_110 : decode cX7_parts 110 = .ok (.imul, 1) := by decide +kernel
theorem dX7_parts_111 : decode cX7_parts 111 = .ok (.iload 4, 2) := by decide +kernel
theorem dX7_parts_113 : decode cX7_parts 113 = .ok (.iadd, 1) := by decide +kernel
theorem dX7_parts_114 : decode cX7_parts 114 = .ok (.lload 5, 2) := by decide +kernel
theorem dX7_parts_116 : decode cX7_parts 116 = .ok (.lastore, 1) := by decide +kernel
theorem dX7_parts_117 : decode cX7_parts 117 = .ok (.iinc 4 1, 3) := by decide +kernel
theorem dX7_parts_120 : decode cX7_parts 120 = .ok (.goto (-106), 3) := by decide +kernel
theorem dX7_parts_123 : decode cX7_parts 123 = .ok (.iinc 3 (-1), 3) := by decide +kernel
theorem dX7_parts_126 : decode cX7_parts 126 = .ok (.goto (-119), 3) := by decide +kernel
theorem dX7_parts_129 : decode cX7_parts 129 = .ok (.aload_n 0, 1) := by decide +kernel
theorem dX7_parts_130 : decode cX7_parts 130 = .ok (.getfield 30, 3) := by decide +kernel
theorem dX7_parts_133 : decode cX7_parts 133 = .ok (.iload_n 2, 1) := by decide +kernel
theorem dX7_parts_134 : decode cX7_parts 134 = .ok (.laload, 1) := by decide +kernel
theorem dX7_parts_135 : decode cX7_parts 135 = .ok (.lreturn, 1) := by decide +kernel
theorem dX7_gained_0 : decode cX7_gained 0 = .ok (.lconst 0, 1) := by decide +kernel
theorem dX7_gained_1 : decode cX7_gained 1 = .ok (.lstore_n 3, 1) := by decide +kernel
theorem dX7_gained_2 : decode cX7_gained 2 = .ok (.aload_n 0, 1) := by decide +kernel
theorem dX7_gained_3 : decode cX7_gained 3 = .ok (.getfield 13, 3) := by decide +kernel
theorem dX7_gained_6 : decode cX7_gained 6 = .ok (.iload_n 1, 1) := by decide +kernel
theorem dX7_gained_7 : decode cX7_gained 7 = .ok (.iaload, 1) := by decide +kernel
theorem dX7_gained_8 : decode cX7_gained 8 = .ok (.iload_n 2, 1) := by decide +kernel
theorem dX7_gained_9 : decode cX7_gained 9 = .ok (.iadd, 1) := by decide +kernel
theorem dX7_gained_10 : decode cX7_gained 10 = .ok (.istore 5, 2) := by decide +kernel
theorem dX7_gained_12 : decode cX7_gained 12 = .ok (.iconst 0, 1) := by decide +kernel
theorem dX7_gained_13 : decode cX7_gained 13 = .ok (.istore 6, 2) := by decide +kernel
theorem dX7_gained_15 : decode cX7_gained 15 = .ok (.iload 6, 2) := by decide +kernel
theorem dX7_gained_17 : decode cX7_gained 17 = .ok (.iload_n 2, 1) := by decide +kernel
theorem dX7_gained_18 : decode cX7_gained 18 = .ok (.if_icmp .gt 78, 3) := by decide +kernel
theorem dX7_gained_21 : decode cX7_gained 21 = .ok (.lconst 1, 1) := by decide +kernel
theorem dX7_gained_22 : decode cX7_gained 22 = .ok (.lstore 7, 2) := by decide +kernel
theorem dX7_gained_24 : decode cX7_gained 24 = .ok (.iconst 0, 1) := by decide +kernel
theorem dX7_gained_25 : decode cX7_gained 25 = .ok (.istore 9, 2) := by decide +kernel
theorem dX7_gained_27 : decode cX7_gained 27 = .ok (.iload 9, 2) := by decide +kernel
theorem dX7_gained_29 : decode cX7_gained 29 = .ok (.iload 6, 2) := by decide +kernel
theorem dX7_gained_31 : decode cX7_gained 31 = .ok (.if_icmp .ge 26, 3) := by decide +kernel
theorem dX7_gained_34 : decode cX7_gained 34 = .ok (.lload 7, 2) := by decide +kernel
theorem dX7_gained_36 : decode cX7_gained 36 = .ok (.iload 5, 2) := by decide +kernel
theorem dX7_gained_38 : decode cX7_gained 38 = .ok (.iload 9, 2) := by decide +kernel
theorem dX7_gained_40 : decode cX7_gained 40 = .ok (.isub, 1) := by decide +kernel
theorem dX7_gained_41 : decode cX7_gained 41 = .ok (.i2l, 1) := by decide +kernel
theorem dX7_gained_42 : decode cX7_gained 42 = .ok (.lmul, 1) := by decide +kernel
theorem dX7_gained_43 : decode cX7_gained 43 = .ok (.iload 9, 2) := by decide +kernel
theorem dX7_gained_45 : decode cX7_gained 45 = .ok (.iconst 1, 1) := by decide +kernel
theorem dX7_gained_46 : decode cX7_gained 46 = .ok (.iadd, 1) := by decide +kernel
theorem dX7_gained_47 : decode cX7_gained 47 = .ok (.i2l, 1) := by decide +kernel
theorem dX7_gained_48 : decode cX7_gained 48 = .ok (.ldiv, 1) := by decide +kernel
theorem dX7_gained_49 : decode cX7_gained 49 = .ok (.lstore 7, 2) := by decide +kernel
theorem dX7_gained_51 : decode cX7_gained 51 = .ok (.iinc 9 1, 3) := by decide +kernel
theorem dX7_gained_54 : decode cX7_gained 54 = .ok (.goto (-27), 3) := by decide +kernel
theorem dX7_gained_57 : decode cX7_gained 57 = .ok (.iconst 0, 1) := by decide +kernel
theorem dX7_gained_58 : decode cX7_gained 58 = .ok (.istore 9, 2) := by decide +kernel
theorem dX7_gained_60 : decode cX7_gained 60 = .ok (.iload 9, 2) := by decide +kernel
theorem dX7_gained_62 : decode cX7_gained 62 = .ok (.iload 6, 2) := by decide +kernel
theorem dX7_gained_64 : decode cX7_gained 64 = .ok (.if_icmp .ge 21, 3) := by decide +kernel
theorem dX7_gained_67 : decode cX7_gained 67 = .ok (.lload 7, 2) := by decide +kernel
theorem dX7_gained_69 : decode cX7_gained 69 = .ok (.aload_n 0, 1) := by decide +kernel
theorem dX7_gained_70 : decode cX7_gained 70 = .ok (.getfield 7, 3) := by decide +kernel
theorem dX7_gained_73 : decode cX7_gained 73 = .ok (.iconst 1, 1) := by decide +kernel
theorem dX7_gained_74 : decode cX7_gained 74 = .ok (.isub, 1) := by decide +kernel
theorem dX7_gained_75 : decode cX7_gained 75 = .ok (.i2l, 1) := by decide +kernel
theorem dX7_gained_76 : decode cX7_gained 76 = .ok (.lmul, 1) := by decide +kernel
theorem dX7_gained_77 : decode cX7_gained 77 = .ok (.lstore 7, 2) := by decide +kernel
theorem dX7_gained_79 : decode cX7_gained 79 = .ok (.iinc 9 1, 3) := by decide +kernel
theorem dX7_gained_82 : decode cX7_gained 82 = .ok (.goto (-22), 3) := by decide +kernel
theorem dX7_gained_85 : decode cX7_gained 85 = .ok (.lload_n 3, 1) := by decide +kernel
theorem dX7_gained_86 : decode cX7_gained 86 = .ok (.lload 7, 2) := by decide +kernel
theorem dX7_gained_88 : decode cX7_gained 88 = .ok (.ladd, 1) := by decide +kernel
theorem dX7_gained_89 : decode cX7_gained 89 = .ok (.lstore_n 3, 1) := by decide +kernel
theorem dX7_gained_90 : decode cX7_gained 90 = .ok (.iinc 6 1, 3) := by decide +kernel
theorem dX7_gained_93 : decode cX7_gained 93 = .ok (.goto (-78), 3) := by decide +kernel
theorem dX7_gained_96 : decode cX7_gained 96 = .ok (.lload_n 3, 1) := by decide +kernel
theorem dX7_gained_97 : decode cX7_gained 97 = .ok (.lreturn, 1) := by decide +kernel
theorem dX7_by_0 : decode cX7_by 0 = .ok (.iload_n 1, 1) := by decide +kernel
theorem dX7_by_1 : decode cX7_by 1 = .ok (.invokestatic 53, 3) := by decide +kernel
theorem dX7_by_4 : decode cX7_by 4 = .ok (.ifCond .eq 25, 3) := by decide +kernel
theorem dX7_by_7 : decode cX7_by 7 = .ok (.iload_n 2, 1) := by decide +kernel
theorem dX7_by_8 : decode cX7_by 8 = .ok (.i2l, 1) := by decide +kernel
theorem dX7_by_9 : decode cX7_by 9 = .ok (.lconst 0, 1) := by decide +kernel
theorem dX7_by_10 : decode cX7_by 10 = .ok (.ldc2_w 136, 3) := by decide +kernel
theorem dX7_by_13 : decode cX7_by 13 = .ok (.invokestatic 39, 3) := by decide +kernel
theorem dX7_by_16 : decode cX7_by 16 = .ok (.ifCond .eq 13, 3) := by decide +kernel
theorem dX7_by_19 : decode cX7_by 19 = .ok (.iload_n 3, 1) := by decide +kernel
theorem dX7_by_20 : decode cX7_by 20 = .ok (.i2l, 1) := by decide +kernel
theorem dX7_by_21 : decode cX7_by 21 = .ok (.lconst 0, 1) := by decide +kernel
theorem dX7_by_22 : decode cX7_by 22 = .ok (.lconst 1, 1) := by decide +kernel
theorem dX7_by_23 : decode cX7_by 23 = .ok (.invokestatic 39, 3) := by decide +kernel
theorem dX7_by_26 : decode cX7_by 26 = .ok (.ifCond .ne 7, 3) := by decide +kernel
theorem dX7_by_29 : decode cX7_by 29 = .ok (.ldc2_w 124, 3) := by decide +kernel
theorem dX7_by_32 : decode cX7_by 32 = .ok (.lreturn, 1) := by decide +kernel
theorem dX7_by_33 : decode cX7_by 33 = .ok (.iload_n 3, 1) := by decide +kernel
theorem dX7_by_34 : decode cX7_by 34 = .ok (.iconst 1, 1) := by decide +kernel
theorem dX7_by_35 : decode cX7_by 35 = .ok (.if_icmp .ne 10, 3) := by decide +kernel
theorem dX7_by_38 : decode cX7_by 38 = .ok (.aload_n 0, 1) := by decide +kernel
theorem dX7_by_39 : decode cX7_by 39 = .ok (.iload_n 1, 1) := by decide +kernel
theorem dX7_by_40 : decode cX7_by 40 = .ok (.iload_n 2, 1) := by decide +kernel
theorem dX7_by_41 : decode cX7_by 41 = .ok (.invokevirtual 138, 3) := by decide +kernel
theorem dX7_by_44 : decode cX7_by 44 = .ok (.lreturn, 1) := by decide +kernel
theorem dX7_by_45 : decode cX7_by 45 = .ok (.iload_n 2, 1) := by decide +kernel
theorem dX7_by_46 : decode cX7_by 46 = .ok (.aload_n 0, 1) := by decide +kernel
theorem dX7_by_47 : decode cX7_by 47 = .ok (.getfield 13, 3) := by decide +kernel
theorem dX7_by_50 : decode cX7_by 50 = .ok (.iload_n 1, 1) := by decide +kernel
theorem dX7_by_51 : decode cX7_by 51 = .ok (.iaload, 1) := by decide +kernel
theorem dX7_by_52 : decode cX7_by 52 = .ok (.if_icmp .le 7, 3) := by decide +kernel
theorem dX7_by_55 : decode cX7_by 55 = .ok (.lconst 0, 1) := by decide +kernel
theorem dX7_by_56 : decode cX7_by 56 = .ok (.goto 16, 3) := by decide +kernel
theorem dX7_by_59 : decode cX7_by 59 = .ok (.aload_n 0, 1) := by decide +kernel
theorem dX7_by_60 : decode cX7_by 60 = .ok (.iload_n 1, 1) := by decide +kernel
theorem dX7_by_61 : decode cX7_by 61 = .ok (.aload_n 0, 1) := by decide +kernel
theorem dX7_by_62 : decode cX7_by 62 = .ok (.getfield 13, 3) := by decide +kernel
theorem dX7_by_65 : decode cX7_by 65 = .ok (.iload_n 1, 1) := by decide +kernel
theorem dX7_by_66 : decode cX7_by 66 = .ok (.iaload, 1) := by decide +kernel
theorem dX7_by_67 : decode cX7_by 67 = .ok (.iload_n 2, 1) := by decide +kernel
theorem dX7_by_68 : decode cX7_by 68 = .ok (.isub, 1) := by decide +kernel
theorem dX7_by_69 : decode cX7_by 69 = .ok (.invokevirtual 141, 3) := by decide +kernel
theorem dX7_by_72 : decode cX7_by 72 = .ok (.lreturn, 1) := by decide +kernel
theorem dX7_trace_0 : decode cX7_trace 0 = .ok (.iload_n 1, 1) := by decide +kernel
theorem dX7_trace_1 : decode cX7_trace 1 = .ok (.invokestatic 53, 3) := by decide +kernel
theorem dX7_trace_4 : decode cX7_trace 4 = .ok (.ifCond .ne 5, 3) := by decide +kernel
theorem dX7_trace_7 : decode cX7_trace 7 = .ok (.iconst (-1), 1) := by decide +kernel
theorem dX7_trace_8 : decode cX7_trace 8 = .ok (.ireturn, 1) := by decide +kernel
theorem dX7_trace_9 : decode cX7_trace 9 = .ok (.aload_n 0, 1) := by decide +kernel
theorem dX7_trace_10 : decode cX7_trace 10 = .ok (.getfield 50, 3) := by decide +kernel
theorem dX7_trace_13 : decode cX7_trace 13 = .ok (.bipush 8, 2) := by decide +kernel
theorem dX7_trace_15 : decode cX7_trace 15 = .ok (.if_icmp .ne 6, 3) := by decide +kernel
theorem dX7_trace_18 : decode cX7_trace 18 = .ok (.bipush (-3), 2) := by decide +kernel
theorem dX7_trace_20 : decode cX7_trace 20 = .ok (.ireturn, 1) := by decide +kernel
theorem dX7_trace_21 : decode cX7_trace 21 = .ok (.aload_n 0, 1) := by decide +kernel
theorem dX7_trace_22 : decode cX7_trace 22 = .ok (.bipush 12, 2) := by decide +kernel
theorem dX7_trace_24 : decode cX7_trace 24 = .ok (.aload_n 0, 1) := by decide +kernel
theorem dX7_trace_25 : decode cX7_trace 25 = .ok (.getfield 50, 3) := by decide +kernel
theorem dX7_trace_28 : decode cX7_trace 28 = .ok (.iadd, 1) := by decide +kernel
theorem dX7_trace_29 : decode cX7_trace 29 = .ok (.iload_n 1, 1) := by decide +kernel
theorem dX7_trace_30 : decode cX7_trace 30 = .ok (.invokevirtual 69, 3) := by decide +kernel
theorem dX7_trace_33 : decode cX7_trace 33 = .ok (.aload_n 0, 1) := by decide +kernel
theorem dX7_trace_34 : decode cX7_trace 34 = .ok (.dup, 1) := by decide +kernel
theorem dX7_trace_35 : decode cX7_trace 35 = .ok (.getfield 50, 3) := by decide +kernel
theorem dX7_trace_38 : decode cX7_trace 38 = .ok (.iconst 1, 1) := by decide +kernel
theorem dX7_trace_39 : decode cX7_trace 39 = .ok (.iadd, 1) := by decide +kernel
theorem dX7_trace_40 : decode cX7_trace 40 = .ok (.putfield 50, 3) := by decide +kernel
theorem dX7_trace_43 : decode cX7_trace 43 = .ok (.aload_n 0, 1) := by decide +kernel
theorem dX7_trace_44 : decode cX7_trace 44 = .ok (.getfield 50, 3) := by decide +kernel
theorem dX7_trace_47 : decode cX7_trace 47 = .ok (.ireturn, 1) := by decide +kernel
theorem dX7_noTraces_0 : decode cX7_noTraces 0 = .ok (.aload_n 0, 1) := by decide +kernel
theorem dX7_noTraces_1 : decode cX7_noTraces 1 = .ok (.getfield 50, 3) := by decide +kernel
theorem dX7_noTraces_4 : decode cX7_noTraces 4 = .ok (.istore_n 1, 1) := by decide +kernel
theorem dX7_noTraces_5 : decode cX7_noTraces 5 = .ok (.aload_n 0, 1) := by decide +kernel
theorem dX7_noTraces_6 : decode cX7_noTraces 6 = .ok (.iconst 0, 1) := by decide +kernel
theorem dX7_noTraces_7 : decode cX7_noTraces 7 = .ok (.putfield 50, 3) := by decide +kernel
theorem dX7_noTraces_10 : decode cX7_noTraces 10 = .ok (.iload_n 1, 1) := by decide +kernel
theorem dX7_noTraces_11 : decode cX7_noTraces 11 = .ok (.ireturn, 1) := by decide +kernel
theorem dX7_power_0 : decode cX7_power 0 = .ok (.iconst 1, 1) := by decide +kernel
theorem dX7_power_1 : decode cX7_power 1 = .ok (.istore_n 2, 1) := by decide +kernel
theorem dX7_power_2 : decode cX7_power 2 = .ok (.iconst 0, 1) := by decide +kernel
theorem dX7_power_3 : decode cX7_power 3 = .ok (.istore_n 3, 1) := by decide +kernel
theorem dX7_power_4 : decode cX7_power 4 = .ok (.iload_n 3, 1) := by decide +kernel
theorem dX7_power_5 : decode cX7_power 5 = .ok (.iload_n 1, 1) := by decide +kernel
theorem dX7_power_6 : decode cX7_power 6 = .ok (.if_icmp .ge 23, 3) := by decide +kernel
theorem dX7_power_9 : decode cX7_power 9 = .ok (.iload_n 2, 1) := by decide +kernel
theorem dX7_power_10 : decode cX7_power 10 = .ok (.sipush 4096, 3) := by decide +kernel
theorem dX7_power_13 : decode cX7_power 13 = .ok (.if_icmp .gt 16, 3) := by decide +kernel
theorem dX7_power_16 : decode cX7_power 16 = .ok (.iload_n 2, 1) := by decide +kernel
theorem dX7_power_17 : decode cX7_power 17 = .ok (.aload_n 0, 1) := by decide +kernel
theorem dX7_power_18 : decode cX7_power 18 = .ok (.getfield 7, 3) := by decide +kernel
theorem dX7_power_21 : decode cX7_power 21 = .ok (.imul, 1) := by decide +kernel
theorem dX7_power_22 : decode cX7_power 22 = .ok (.istore_n 2, 1) := by decide +kernel
theorem dX7_power_23 : decode cX7_power 23 = .ok (.iinc 3 1, 3) := by decide +kernel
theorem dX7_power_26 : decode cX7_power 26 = .ok (.goto (-22), 3) := by decide +kernel
theorem dX7_power_29 : decode cX7_power 29 = .ok (.iload_n 2, 1) := by decide +kernel
theorem dX7_power_30 : decode cX7_power 30 = .ok (.ireturn, 1) := by decide +kernel
theorem dX7_numbers_0 : decode cX7_numbers 0 = .ok (.aload_n 0, 1) := by decide +kernel
theorem dX7_numbers_1 : decode cX7_numbers 1 = .ok (.getfield 13, 3) := by decide +kernel
theorem dX7_numbers_4 : decode cX7_numbers 4 = .ok (.bipush 21, 2) := by decide +kernel
theorem dX7_numbers_6 : decode cX7_numbers 6 = .ok (.iload_n 1, 1) := by decide +kernel
theorem dX7_numbers_7 : decode cX7_numbers 7 = .ok (.iastore, 1) := by decide +kernel
theorem dX7_numbers_8 : decode cX7_numbers 8 = .ok (.iload_n 2, 1) := by decide +kernel
theorem dX7_numbers_9 : decode cX7_numbers 9 = .ok (.istore_n 3, 1) := by decide +kernel
theorem dX7_numbers_10 : decode cX7_numbers 10 = .ok (.iload_n 1, 1) := by decide +kernel
theorem dX7_numbers_11 : decode cX7_numbers 11 = .ok (.iconst 1, 1) := by decide +kernel
theorem dX7_numbers_12 : decode cX7_numbers 12 = .ok (.isub, 1) := by decide +kernel
theorem dX7_numbers_13 : decode cX7_numbers 13 = .ok (.istore 4, 2) := by decide +kernel
theorem dX7_numbers_15 : decode cX7_numbers 15 = .ok (.iload 4, 2) := by decide +kernel
theorem dX7_numbers_17 : decode cX7_numbers 17 = .ok (.ifCond .lt 33, 3) := by decide +kernel
theorem dX7_numbers_20 : decode cX7_numbers 20 = .ok (.aload_n 0, 1) := by decide +kernel
theorem dX7_numbers_21 : decode cX7_numbers 21 = .ok (.getfield 17, 3) := by decide +kernel
theorem dX7_numbers_24 : decode cX7_numbers 24 = .ok (.sipush 630, 3) := by decide +kernel
theorem dX7_numbers_27 : decode cX7_numbers 27 = .ok (.iload 4, 2) := by decide +kernel
theorem dX7_numbers_29 : decode cX7_numbers 29 = .ok (.iadd, 1) := by decide +kernel
theorem dX7_numbers_30 : decode cX7_numbers 30 = .ok (.iload_n 3, 1) := by decide +kernel
theorem dX7_numbers_31 : decode cX7_numbers 31 = .ok (.aload_n 0, 1) := by decide +kernel
theorem dX7_numbers_32 : decode cX7_numbers 32 = .ok (.getfield 7, 3) := by decide +kernel
theorem dX7_numbers_35 : decode cX7_numbers 35 = .ok (.irem, 1) := by decide +kernel
theorem dX7_numbers_36 : decode cX7_numbers 36 = .ok (.iastore, 1) := by decide +kernel
theorem dX7_numbers_37 : decode cX7_numbers 37 = .ok (.iload_n 3, 1) := by decide +kernel
theorem dX7_numbers_38 : decode cX7_numbers 38 = .ok (.aload_n 0, 1) := by decide +kernel
theorem dX7_numbers_39 : decode cX7_numbers 39 = .ok (.getfield 7, 3) := by decide +kernel
theorem dX7_numbers_42 : decode cX7_numbers 42 = .ok (.idiv, 1) := by decide +kernel
theorem dX7_numbers_43 : decode cX7_numbers 43 = .ok (.istore_n 3, 1) := by decide +kernel
theorem dX7_numbers_44 : decode cX7_numbers 44 = .ok (.iinc 4 (-1), 3) := by decide +kernel
theorem dX7_numbers_47 : decode cX7_numbers 47 = .ok (.goto (-32), 3) := by decide +kernel
theorem dX7_numbers_50 : decode cX7_numbers 50 = .ok (.return_, 1) := by decide +kernel
theorem dX7_product_0 : decode cX7_product 0 = .ok (.lconst 1, 1) := by decide +kernel
theorem dX7_product_1 : decode cX7_product 1 = .ok (.lstore_n 1, 1) := by decide +kernel
theorem dX7_product_2 : decode cX7_product 2 = .ok (.iconst 0, 1) := by decide +kernel
theorem dX7_product_3 : decode cX7_product 3 = .ok (.istore_n 3, 1) := by decide +kernel
theorem dX7_product_4 : decode cX7_product 4 = .ok (.iload_n 3, 1) := by decide +kernel
theorem dX7_product_5 : decode cX7_product 5 = .ok (.aload_n 0, 1) := by decide +kernel
theorem dX7_product_6 : decode cX7_product 6 = .ok (.getfield 50, 3) := by decide +kernel
theorem dX7_product_9 : decode cX7_product 9 = .ok (.if_icmp .ge 54, 3) := by decide +kernel
theorem dX7_product_12 : decode cX7_product 12 = .ok (.aload_n 0, 1) := by decide +kernel
theorem dX7_product_13 : decode cX7_product 13 = .ok (.bipush 12, 2) := by decide +kernel
theorem dX7_product_15 : decode cX7_product 15 = .ok (.iload_n 3, 1) := by decide +kernel
theorem dX7_product_16 : decode cX7_product 16 = .ok (.iadd, 1) := by decide +kernel
theorem dX7_product_17 : decode cX7_product 17 = .ok (.bipush 21, 2) := by decide +kernel
theorem dX7_product_19 : decode cX7_product 19 = .ok (.invokevirtual 120, 3) := by decide +kernel
theorem dX7_product_22 : decode cX7_product 22 = .ok (.lstore 4, 2) := by decide +kernel
theorem dX7_product_24 : decode cX7_product 24 = .ok (.lload 4, 2) := by decide +kernel
theorem dX7_product_26 : decode cX7_product 26 = .ok (.lconst 0, 1) := by decide +kernel
theorem dX7_product_27 : decode cX7_product 27 = .ok (.lcmp, 1) := by decide +kernel
theorem dX7_product_28 : decode cX7_product 28 = .ok (.ifCond .ne 7, 3) := by decide +kernel
theorem dX7_product_31 : decode cX7_product 31 = .ok (.lconst 0, 1) := by decide +kernel
theorem dX7_product_32 : decode cX7_product 32 = .ok (.goto 24, 3) := by decide +kernel
theorem dX7_product_35 : decode cX7_product 35 = .ok (.lload_n 1, 1) := by decide +kernel
theorem dX7_product_36 : decode cX7_product 36 = .ok (.ldc2_w 144, 3) := by decide +kernel
theorem dX7_product_39 : decode cX7_product 39 = .ok (.lload 4, 2) := by decide +kernel
theorem dX7_product_41 : decode cX7_product 41 = .ok (.ldiv, 1) := by decide +kernel
theorem dX7_product_42 : decode cX7_product 42 = .ok (.lcmp, 1) := by decide +kernel
theorem dX7_product_43 : decode cX7_product 43 = .ok (.ifCond .le 9, 3) := by decide +kernel
theorem dX7_product_46 : decode cX7_product 46 = .ok (.ldc2_w 144, 3) := by decide +kernel
theorem dX7_product_49 : decode cX7_product 49 = .ok (.goto 7, 3) := by decide +kernel
theorem dX7_product_52 : decode cX7_product 52 = .ok (.lload_n 1, 1) := by decide +kernel
theorem dX7_product_53 : decode cX7_product 53 = .ok (.lload 4, 2) := by decide +kernel
theorem dX7_product_55 : decode cX7_product 55 = .ok (.lmul, 1) := by decide +kernel
theorem dX7_product_56 : decode cX7_product 56 = .ok (.lstore_n 1, 1) := by decide +kernel
theorem dX7_product_57 : decode cX7_product 57 = .ok (.iinc 3 1, 3) := by decide +kernel
theorem dX7_product_60 : decode cX7_product 60 = .ok (.goto (-56), 3) := by decide +kernel
theorem dX7_product_63 : decode cX7_product 63 = .ok (.lload_n 1, 1) := by decide +kernel
theorem dX7_product_64 : decode cX7_product 64 = .ok (.lreturn, 1) := by decide +kernel
theorem dX7_sources_0 : decode cX7_sources 0 = .ok (.iload_n 1, 1) := by decide +kernel
theorem dX7_sources_1 : decode cX7_sources 1 = .ok (.i2l, 1) := by decide +kernel
theorem dX7_sources_2 : decode cX7_sources 2 = .ok (.lconst 1, 1) := by decide +kernel
theorem dX7_sources_3 : decode cX7_sources 3 = .ok (.ldc2_w 146, 3) := by decide +kernel
theorem dX7_sources_6 : decode cX7_sources 6 = .ok (.invokestatic 39, 3) := by decide +kernel
theorem dX7_sources_9 : decode cX7_sources 9 = .ok (.ifCond .eq 14, 3) := by decide +kernel
theorem dX7_sources_12 : decode cX7_sources 12 = .ok (.aload_n 0, 1) := by decide +kernel
theorem dX7_sources_13 : decode cX7_sources 13 = .ok (.iload_n 1, 1) := by decide +kernel
theorem dX7_sources_14 : decode cX7_sources 14 = .ok (.invokevirtual 148, 3) := by decide +kernel
theorem dX7_sources_17 : decode cX7_sources 17 = .ok (.sipush 4096, 3) := by decide +kernel
theorem dX7_sources_20 : decode cX7_sources 20 = .ok (.if_icmp .le 5, 3) := by decide +kernel
theorem dX7_sources_23 : decode cX7_sources 23 = .ok (.iconst (-1), 1) := by decide +kernel
theorem dX7_sources_24 : decode cX7_sources 24 = .ok (.ireturn, 1) := by decide +kernel
theorem dX7_sources_25 : decode cX7_sources 25 = .ok (.iconst 0, 1) := by decide +kernel
theorem dX7_sources_26 : decode cX7_sources 26 = .ok (.istore_n 2, 1) := by decide +kernel
theorem dX7_sources_27 : decode cX7_sources 27 = .ok (.iconst 0, 1) := by decide +kernel
theorem dX7_sources_28 : decode cX7_sources 28 = .ok (.istore_n 3, 1) := by decide +kernel
theorem dX7_sources_29 : decode cX7_sources 29 = .ok (.iload_n 3, 1) := by decide +kernel
theorem dX7_sources_30 : decode cX7_sources 30 = .ok (.aload_n 0, 1) := by decide +kernel
theorem dX7_sources_31 : decode cX7_sources 31 = .ok (.iload_n 1, 1) := by decide +kernel
theorem dX7_sources_32 : decode cX7_sources 32 = .ok (.invokevirtual 148, 3) := by decide +kernel
theorem dX7_sources_35 : decode cX7_sources 35 = .ok (.if_icmp .ge 32, 3) := by decide +kernel
theorem dX7_sources_38 : decode cX7_sources 38 = .ok (.aload_n 0, 1) := by decide +kernel
theorem dX7_sources_39 : decode cX7_sources 39 = .ok (.iload_n 1, 1) := by decide +kernel
theorem dX7_sources_40 : decode cX7_sources 40 = .ok (.iload_n 3, 1) := by decide +kernel
theorem dX7_sources_41 : decode cX7_sources 41 = .ok (.invokevirtual 151, 3) := by decide +kernel
theorem dX7_sources_44 : decode cX7_sources 44 = .ok (.iload_n 2, 1) := by decide +kernel
theorem dX7_sources_45 : decode cX7_sources 45 = .ok (.aload_n 0, 1) := by decide +kernel
theorem dX7_sources_46 : decode cX7_sources 46 = .ok (.invokevirtual 154, 3) := by decide +kernel
theorem dX7_sources_49 : decode cX7_sources 49 = .ok (.lconst 0, 1) := by decide +kernel
theorem dX7_sources_50 : decode cX7_sources 50 = .ok (.lcmp, 1) := by decide +kernel
theorem dX7_sources_51 : decode cX7_sources 51 = .ok (.ifCond .le 7, 3) := by decide +kernel
theorem dX7_sources_54 : decode cX7_sources 54 = .ok (.iconst 1, 1) := by decide +kernel
theorem dX7_sources_55 : decode cX7_sources 55 = .ok (.goto 4, 3) := by decide +kernel
theorem dX7_sources_58 : decode cX7_sources 58 = .ok (.iconst 0, 1) := by decide +kernel
theorem dX7_sources_59 : decode cX7_sources 59 = .ok (.iadd, 1) := by decide +kernel
theorem dX7_sources_60 : decode cX7_sources 60 = .ok (.istore_n 2, 1) := by decide +kernel
theorem dX7_sources_61 : decode cX7_sources 61 = .ok (.iinc 3 1, 3) := by decide +kernel
theorem dX7_sources_64 : decode cX7_sources 64 = .ok (.goto (-35), 3) := by decide +kernel
theorem dX7_sources_67 : decode cX7_sources 67 = .ok (.iload_n 2, 1) := by decide +kernel
theorem dX7_sources_68 : decode cX7_sources 68 = .ok (.ireturn, 1) := by decide +kernel
theorem dX7_best_0 : decode cX7_best 0 = .ok (.iload_n 1, 1) := by decide +kernel
theorem dX7_best_1 : decode cX7_best 1 = .ok (.invokestatic 53, 3) := by decide +kernel
theorem dX7_best_4 : decode cX7_best 4 = .ok (.ifCond .eq 26, 3) := by decide +kernel
theorem dX7_best_7 : decode cX7_best 7 = .ok (.iload_n 2, 1) := by decide +kernel
theorem dX7_best_8 : decode cX7_best 8 = .ok (.i2l, 1) := by decide +kernel
theorem dX7_best_9 : decode cX7_best 9 = .ok (.lconst 1, 1) := by decide +kernel
theorem dX7_best_10 : decode cX7_best 10 = .ok (.ldc2_w 146, 3) := by decide +kernel
theorem dX7_best_13 : decode cX7_best 13 = .ok (.invokestatic 39, 3) := by decide +kernel
theorem dX7_best_16 : decode cX7_best 16 = .ok (.ifCond .eq 14, 3) := by decide +kernel
theorem dX7_best_19 : decode cX7_best 19 = .ok (.aload_n 0, 1) := by decide +kernel
theorem dX7_best_20 : decode cX7_best 20 = .ok (.iload_n 2, 1) := by decide +kernel
theorem dX7_best_21 : decode cX7_best 21 = .ok (.invokevirtual 148, 3) := by decide +kernel
theorem dX7_best_24 : decode cX7_best 24 = .ok (.sipush 4096, 3) := by decide +kernel
theorem dX7_best_27 : decode cX7_best 27 = .ok (.if_icmp .le 5, 3) := by decide +kernel
theorem dX7_best_30 : decode cX7_best 30 = .ok (.iconst (-1), 1) := by decide +kernel
theorem dX7_best_31 : decode cX7_best 31 = .ok (.ireturn, 1) := by decide +kernel
theorem dX7_best_32 : decode cX7_best 32 = .ok (.lconst 0, 1) := by decide +kernel
theorem dX7_best_33 : decode cX7_best 33 = .ok (.lstore_n 3, 1) := by decide +kernel
theorem dX7_best_34 : decode cX7_best 34 = .ok (.iconst 0, 1) := by decide +kernel
theorem dX7_best_35 : decode cX7_best 35 = .ok (.istore 5, 2) := by decide +kernel
theorem dX7_best_37 : decode cX7_best 37 = .ok (.iload 5, 2) := by decide +kernel
theorem dX7_best_39 : decode cX7_best 39 = .ok (.aload_n 0, 1) := by decide +kernel
theorem dX7_best_40 : decode cX7_best 40 = .ok (.iload_n 2, 1) := by decide +kernel
theorem dX7_best_41 : decode cX7_best 41 = .ok (.invokevirtual 148, 3) := by decide +kernel
theorem dX7_best_44 : decode cX7_best 44 = .ok (.if_icmp .ge 40, 3) := by decide +kernel
theorem dX7_best_47 : decode cX7_best 47 = .ok (.aload_n 0, 1) := by decide +kernel
theorem dX7_best_48 : decode cX7_best 48 = .ok (.iload_n 2, 1) := by decide +kernel
theorem dX7_best_49 : decode cX7_best 49 = .ok (.iload 5, 2) := by decide +kernel
theorem dX7_best_51 : decode cX7_best 51 = .ok (.invokevirtual 151, 3) := by decide +kernel
theorem dX7_best_54 : decode cX7_best 54 = .ok (.aload_n 0, 1) := by decide +kernel
theorem dX7_best_55 : decode cX7_best 55 = .ok (.invokevirtual 154, 3) := by decide +kernel
theorem dX7_best_58 : decode cX7_best 58 = .ok (.lstore 6, 2) := by decide +kernel
theorem dX7_best_60 : decode cX7_best 60 = .ok (.lload 6, 2) := by decide +kernel
theorem dX7_best_62 : decode cX7_best 62 = .ok (.lload_n 3, 1) := by decide +kernel
theorem dX7_best_63 : decode cX7_best 63 = .ok (.lcmp, 1) := by decide +kernel
theorem dX7_best_64 : decode cX7_best 64 = .ok (.ifCond .le 14, 3) := by decide +kernel
theorem dX7_best_67 : decode cX7_best 67 = .ok (.lload 6, 2) := by decide +kernel
theorem dX7_best_69 : decode cX7_best 69 = .ok (.lstore_n 3, 1) := by decide +kernel
theorem dX7_best_70 : decode cX7_best 70 = .ok (.aload_n 0, 1) := by decide +kernel
theorem dX7_best_71 : decode cX7_best 71 = .ok (.bipush 22, 2) := by decide +kernel
theorem dX7_best_73 : decode cX7_best 73 = .ok (.bipush 21, 2) := by decide +kernel
theorem dX7_best_75 : decode cX7_best 75 = .ok (.invokevirtual 69, 3) := by decide +kernel
theorem dX7_best_78 : decode cX7_best 78 = .ok (.iinc 5 1, 3) := by decide +kernel
theorem dX7_best_81 : decode cX7_best 81 = .ok (.goto (-44), 3) := by decide +kernel
theorem dX7_best_84 : decode cX7_best 84 = .ok (.lload_n 3, 1) := by decide +kernel
theorem dX7_best_85 : decode cX7_best 85 = .ok (.lconst 0, 1) := by decide +kernel
theorem dX7_best_86 : decode cX7_best 86 = .ok (.lcmp, 1) := by decide +kernel
theorem dX7_best_87 : decode cX7_best 87 = .ok (.ifCond .ne 6, 3) := by decide +kernel
theorem dX7_best_90 : decode cX7_best 90 = .ok (.bipush (-4), 2) := by decide +kernel
theorem dX7_best_92 : decode cX7_best 92 = .ok (.ireturn, 1) := by decide +kernel
theorem dX7_best_93 : decode cX7_best 93 = .ok (.aload_n 0, 1) := by decide +kernel
theorem dX7_best_94 : decode cX7_best 94 = .ok (.iload_n 1, 1) := by decide +kernel
theorem dX7_best_95 : decode cX7_best 95 = .ok (.bipush 22, 2) := by decide +kernel
theorem dX7_best_97 : decode cX7_best 97 = .ok (.invokevirtual 69, 3) := by decide +kernel
theorem dX7_best_100 : decode cX7_best 100 = .ok (.iload_n 2, 1) := by decide +kernel
theorem dX7_best_101 : decode cX7_best 101 = .ok (.ireturn, 1) := by decide +kernel
theorem dX7_line_0 : decode cX7_line 0 = .ok (.iload_n 1, 1) := by decide +kernel
theorem dX7_line_1 : decode cX7_line 1 = .ok (.i2l, 1) := by decide +kernel
theorem dX7_line_2 : decode cX7_line 2 = .ok (.lconst 0, 1) := by decide +kernel
theorem dX7_line_3 : decode cX7_line 3 = .ok (.ldc2_w 98, 3) := by decide +kernel
theorem dX7_line_6 : decode cX7_line 6 = .ok (.invokestatic 39, 3) := by decide +kernel
theorem dX7_line_9 : decode cX7_line 9 = .ok (.ifCond .eq 37, 3) := by decide +kernel
theorem dX7_line_12 : decode cX7_line 12 = .ok (.iload_n 2, 1) := by decide +kernel
theorem dX7_line_13 : decode cX7_line 13 = .ok (.i2l, 1) := by decide +kernel
theorem dX7_line_14 : decode cX7_line 14 = .ok (.lconst 0, 1) := by decide +kernel
theorem dX7_line_15 : decode cX7_line 15 = .ok (.ldc2_w 98, 3) := by decide +kernel
theorem dX7_line_18 : decode cX7_line 18 = .ok (.invokestatic 39, 3) := by decide +kernel
theorem dX7_line_21 : decode cX7_line 21 = .ok (.ifCond .eq 25, 3) := by decide +kernel
theorem dX7_line_24 : decode cX7_line 24 = .ok (.iload_n 3, 1) := by decide +kernel
theorem dX7_line_25 : decode cX7_line 25 = .ok (.i2l, 1) := by decide +kernel
theorem dX7_line_26 : decode cX7_line 26 = .ok (.lconst 0, 1) := by decide +kernel
theorem dX7_line_27 : decode cX7_line 27 = .ok (.ldc2_w 98, 3) := by decide +kernel
theorem dX7_line_30 : decode cX7_line 30 = .ok (.invokestatic 39, 3) := by decide +kernel
theorem dX7_line_33 : decode cX7_line 33 = .ok (.ifCond .eq 13, 3) := by decide +kernel
theorem dX7_line_36 : decode cX7_line 36 = .ok (.iload_n 1, 1) := by decide +kernel
theorem dX7_line_37 : decode cX7_line 37 = .ok (.iload_n 2, 1) := by decide +kernel
theorem dX7_line_38 : decode cX7_line 38 = .ok (.iadd, 1) := by decide +kernel
theorem dX7_line_39 : decode cX7_line 39 = .ok (.iload_n 3, 1) := by decide +kernel
theorem dX7_line_40 : decode cX7_line 40 = .ok (.iadd, 1) := by decide +kernel
theorem dX7_line_41 : decode cX7_line 41 = .ok (.bipush 64, 2) := by decide +kernel
theorem dX7_line_43 : decode cX7_line 43 = .ok (.if_icmp .le 5, 3) := by decide +kernel
theorem dX7_line_46 : decode cX7_line 46 = .ok (.iconst (-1), 1) := by decide +kernel
theorem dX7_line_47 : decode cX7_line 47 = .ok (.ireturn, 1) := by decide +kernel
theorem dX7_line_48 : decode cX7_line 48 = .ok (.aload_n 0, 1) := by decide +kernel
theorem dX7_line_49 : decode cX7_line 49 = .ok (.iload_n 1, 1) := by decide +kernel
theorem dX7_line_50 : decode cX7_line 50 = .ok (.putfield 158, 3) := by decide +kernel
theorem dX7_line_53 : decode cX7_line 53 = .ok (.aload_n 0, 1) := by decide +kernel
theorem dX7_line_54 : decode cX7_line 54 = .ok (.iload_n 2, 1) := by decide +kernel
theorem dX7_line_55 : decode cX7_line 55 = .ok (.putfield 161, 3) := by decide +kernel
theorem dX7_line_58 : decode cX7_line 58 = .ok (.aload_n 0, 1) := by decide +kernel
theorem dX7_line_59 : decode cX7_line 59 = .ok (.iload_n 3, 1) := by decide +kernel
theorem dX7_line_60 : decode cX7_line 60 = .ok (.putfield 164, 3) := by decide +kernel
theorem dX7_line_63 : decode cX7_line 63 = .ok (.iconst 0, 1) := by decide +kernel
theorem dX7_line_64 : decode cX7_line 64 = .ok (.ireturn, 1) := by decide +kernel
theorem dX7_seed_0 : decode cX7_seed 0 = .ok (.lload_n 1, 1) := by decide +kernel
theorem dX7_seed_1 : decode cX7_seed 1 = .ok (.lconst 0, 1) := by decide +kernel
theorem dX7_seed_2 : decode cX7_seed 2 = .ok (.lcmp, 1) := by decide +kernel
theorem dX7_seed_3 : decode cX7_seed 3 = .ok (.ifCond .ge 5, 3) := by decide +kernel
theorem dX7_seed_6 : decode cX7_seed 6 = .ok (.iconst (-1), 1) := by decide +kernel
theorem dX7_seed_7 : decode cX7_seed 7 = .ok (.ireturn, 1) := by decide +kernel
theorem dX7_seed_8 : decode cX7_seed 8 = .ok (.aload_n 0, 1) := by decide +kernel
theorem dX7_seed_9 : decode cX7_seed 9 = .ok (.lload_n 1, 1) := by decide +kernel
theorem dX7_seed_10 : decode cX7_seed 10 = .ok (.ldc2_w 167, 3) := by decide +kernel
theorem dX7_seed_13 : decode cX7_seed 13 = .ok (.land, 1) := by decide +kernel
theorem dX7_seed_14 : decode cX7_seed 14 = .ok (.putfield 20, 3) := by decide +kernel
theorem dX7_seed_17 : decode cX7_seed 17 = .ok (.iconst 0, 1) := by decide +kernel
theorem dX7_seed_18 : decode cX7_seed 18 = .ok (.ireturn, 1) := by decide +kernel
theorem dX7_send_0 : decode cX7_send 0 = .ok (.iload_n 1, 1) := by decide +kernel
theorem dX7_send_1 : decode cX7_send 1 = .ok (.invokestatic 53, 3) := by decide +kernel
theorem dX7_send_4 : decode cX7_send 4 = .ok (.ifCond .eq 10, 3) := by decide +kernel
theorem dX7_send_7 : decode cX7_send 7 = .ok (.iload_n 2, 1) := by decide +kernel
theorem dX7_send_8 : decode cX7_send 8 = .ok (.invokestatic 53, 3) := by decide +kernel
theorem dX7_send_11 : decode cX7_send 11 = .ok (.ifCond .ne 5, 3) := by decide +kernel
theorem dX7_send_14 : decode cX7_send 14 = .ok (.iconst (-1), 1) := by decide +kernel
theorem dX7_send_15 : decode cX7_send 15 = .ok (.ireturn, 1) := by decide +kernel
theorem dX7_send_16 : decode cX7_send 16 = .ok (.aload_n 0, 1) := by decide +kernel
theorem dX7_send_17 : decode cX7_send 17 = .ok (.getfield 20, 3) := by decide +kernel
theorem dX7_send_20 : decode cX7_send 20 = .ok (.lstore_n 3, 1) := by decide +kernel
theorem dX7_send_21 : decode cX7_send 21 = .ok (.aload_n 0, 1) := by decide +kernel
theorem dX7_send_22 : decode cX7_send 22 = .ok (.getfield 13, 3) := by decide +kernel
theorem dX7_send_25 : decode cX7_send 25 = .ok (.bipush 20, 2) := by decide +kernel
theorem dX7_send_27 : decode cX7_send 27 = .ok (.iconst 0, 1) := by decide +kernel
theorem dX7_send_28 : decode cX7_send 28 = .ok (.iastore, 1) := by decide +kernel
theorem dX7_send_29 : decode cX7_send 29 = .ok (.iconst 0, 1) := by decide +kernel
theorem dX7_send_30 : decode cX7_send 30 = .ok (.istore 5, 2) := by decide +kernel
theorem dX7_send_32 : decode cX7_send 32 = .ok (.iconst 0, 1) := by decide +kernel
theorem dX7_send_33 : decode cX7_send 33 = .ok (.istore 6, 2) := by decide +kernel
theorem dX7_send_35 : decode cX7_send 35 = .ok (.iload 6, 2) := by decide +kernel
theorem dX7_send_37 : decode cX7_send 37 = .ok (.aload_n 0, 1) := by decide +kernel
theorem dX7_send_38 : decode cX7_send 38 = .ok (.getfield 13, 3) := by decide +kernel
theorem dX7_send_41 : decode cX7_send 41 = .ok (.iload_n 2, 1) := by decide +kernel
theorem dX7_send_42 : decode cX7_send 42 = .ok (.iaload, 1) := by decide +kernel
theorem dX7_send_43 : decode cX7_send 43 = .ok (.if_icmp .ge 135, 3) := by decide +kernel
theorem dX7_send_46 : decode cX7_send 46 = .ok (.lload_n 3, 1) := by decide +kernel
theorem dX7_send_47 : decode cX7_send 47 = .ok (.ldc2_w 169, 3) := by decide +kernel
theorem dX7_send_50 : decode cX7_send 50 = .ok (.lmul, 1) := by decide +kernel
theorem dX7_send_51 : decode cX7_send 51 = .ok (.ldc2_w 37, 3) := by decide +kernel
theorem dX7_send_54 : decode cX7_send 54 = .ok (.ladd, 1) := by decide +kernel
theorem dX7_send_55 : decode cX7_send 55 = .ok (.ldc2_w 167, 3) := by decide +kernel
theorem dX7_send_58 : decode cX7_send 58 = .ok (.land, 1) := by decide +kernel
theorem dX7_send_59 : decode cX7_send 59 = .ok (.lstore_n 3, 1) := by decide +kernel
theorem dX7_send_60 : decode cX7_send 60 = .ok (.lload_n 3, 1) := by decide +kernel
theorem dX7_send_61 : decode cX7_send 61 = .ok (.bipush 42, 2) := by decide +kernel
theorem dX7_send_63 : decode cX7_send 63 = .ok (.lshr, 1) := by decide +kernel
theorem dX7_send_64 : decode cX7_send 64 = .ok (.l2i, 1) := by decide +kernel
theorem dX7_send_65 : decode cX7_send 65 = .ok (.istore 7, 2) := by decide +kernel
theorem dX7_send_67 : decode cX7_send 67 = .ok (.aload_n 0, 1) := by decide +kernel
theorem dX7_send_68 : decode cX7_send 68 = .ok (.getfield 17, 3) := by decide +kernel
theorem dX7_send_71 : decode cX7_send 71 = .ok (.bipush 30, 2) := by decide +kernel
theorem dX7_send_73 : decode cX7_send 73 = .ok (.iload_n 2, 1) := by decide +kernel
theorem dX7_send_74 : decode cX7_send 74 = .ok (.imul, 1) := by decide +kernel
theorem dX7_send_75 : decode cX7_send 75 = .ok (.iload 6, 2) := by decide +kernel
theorem dX7_send_77 : decode cX7_send 77 = .ok (.iadd, 1) := by decide +kernel
theorem dX7_send_78 : decode cX7_send 78 = .ok (.iaload, 1) := by decide +kernel
theorem dX7_send_79 : decode cX7_send 79 = .ok (.istore 8, 2) := by decide +kernel
theorem dX7_send_81 : decode cX7_send 81 = .ok (.iload 7, 2) := by decide +kernel
theorem dX7_send_83 : decode cX7_send 83 = .ok (.aload_n 0, 1) := by decide +kernel
theorem dX7_send_84 : decode cX7_send 84 = .ok (.getfield 158, 3) := by decide +kernel
theorem dX7_send_87 : decode cX7_send 87 = .ok (.if_icmp .lt 85, 3) := by decide +kernel
theorem dX7_send_90 : decode cX7_send 90 = .ok (.iload 7, 2) := by decide +kernel
theorem dX7_send_92 : decode cX7_send 92 = .ok (.aload_n 0, 1) := by decide +kernel
theorem dX7_send_93 : decode cX7_send 93 = .ok (.getfield 158, 3) := by decide +kernel
theorem dX7_send_96 : decode cX7_send 96 = .ok (.aload_n 0, 1) := by decide +kernel
theorem dX7_send_97 : decode cX7_send 97 = .ok (.getfield 161, 3) := by decide +kernel
theorem dX7_send_100 : decode cX7_send 100 = .ok (.iadd, 1) := by decide +kernel
theorem dX7_send_101 : decode cX7_send 101 = .ok (.if_icmp .ge 21, 3) := by decide +kernel
theorem dX7_send_104 : decode cX7_send 104 = .ok (.aload_n 0, 1) := by decide +kernel
theorem dX7_send_105 : decode cX7_send 105 = .ok (.iload 5, 2) := by decide +kernel
theorem dX7_send_107 : decode cX7_send 107 = .ok (.iload 7, 2) := by decide +kernel
theorem dX7_send_109 : decode cX7_send 109 = .ok (.aload_n 0, 1) := by decide +kernel
theorem dX7_send_110 : decode cX7_send 110 = .ok (.getfield 7, 3) := by decide +kernel
theorem dX7_send_113 : decode cX7_send 113 = .ok (.irem, 1) := by decide +kernel
theorem dX7_send_114 : decode cX7_send 114 = .ok (.invokevirtual 171, 3) := by decide +kernel
theorem dX7_send_117 : decode cX7_send 117 = .ok (.istore 5, 2) := by decide +kernel
theorem dX7_send_119 : decode cX7_send 119 = .ok (.goto 43, 3) := by decide +kernel
theorem dX7_send_122 : decode cX7_send 122 = .ok (.iload 7, 2) := by decide +kernel
theorem dX7_send_124 : decode cX7_send 124 = .ok (.aload_n 0, 1) := by decide +kernel
theorem dX7_send_125 : decode cX7_send 125 = .ok (.getfield 158, 3) := by decide +kernel
theorem dX7_send_128 : decode cX7_send 128 = .ok (.aload_n 0, 1) := by decide +kernel
theorem dX7_send_129 : decode cX7_send 129 = .ok (.getfield 161, 3) := by decide +kernel
theorem dX7_send_132 : decode cX7_send 132 = .ok (.iadd, 1) := by decide +kernel
theorem dX7_send_133 : decode cX7_send 133 = .ok (.aload_n 0, 1) := by decide +kernel
theorem dX7_send_134 : decode cX7_send 134 = .ok (.getfield 164, 3) := by decide +kernel
theorem dX7_send_137 : decode cX7_send 137 = .ok (.iadd, 1) := by decide +kernel
theorem dX7_send_138 : decode cX7_send 138 = .ok (.if_icmp .ge 24, 3) := by decide +kernel
theorem dX7_send_141 : decode cX7_send 141 = .ok (.iload 8, 2) := by decide +kernel
theorem dX7_send_143 : decode cX7_send 143 = .ok (.iload 7, 2) := by decide +kernel
theorem dX7_send_145 : decode cX7_send 145 = .ok (.aload_n 0, 1) := by decide +kernel
theorem dX7_send_146 : decode cX7_send 146 = .ok (.getfield 7, 3) := by decide +kernel
theorem dX7_send_149 : decode cX7_send 149 = .ok (.iconst 1, 1) := by decide +kernel
theorem dX7_send_150 : decode cX7_send 150 = .ok (.isub, 1) := by decide +kernel
theorem dX7_send_151 : decode cX7_send 151 = .ok (.irem, 1) := by decide +kernel
theorem dX7_send_152 : decode cX7_send 152 = .ok (.iadd, 1) := by decide +kernel
theorem dX7_send_153 : decode cX7_send 153 = .ok (.iconst 1, 1) := by decide +kernel
theorem dX7_send_154 : decode cX7_send 154 = .ok (.iadd, 1) := by decide +kernel
theorem dX7_send_155 : decode cX7_send 155 = .ok (.aload_n 0, 1) := by decide +kernel
theorem dX7_send_156 : decode cX7_send 156 = .ok (.getfield 7, 3) := by decide +kernel
theorem dX7_send_159 : decode cX7_send 159 = .ok (.irem, 1) := by decide +kernel
theorem dX7_send_160 : decode cX7_send 160 = .ok (.istore 8, 2) := by decide +kernel
theorem dX7_send_162 : decode cX7_send 162 = .ok (.aload_n 0, 1) := by decide +kernel
theorem dX7_send_163 : decode cX7_send 163 = .ok (.iload 5, 2) := by decide +kernel
theorem dX7_send_165 : decode cX7_send 165 = .ok (.iload 8, 2) := by decide +kernel
theorem dX7_send_167 : decode cX7_send 167 = .ok (.invokevirtual 171, 3) := by decide +kernel
theorem dX7_send_170 : decode cX7_send 170 = .ok (.istore 5, 2) := by decide +kernel
theorem dX7_send_172 : decode cX7_send 172 = .ok (.iinc 6 1, 3) := by decide +kernel
theorem dX7_send_175 : decode cX7_send 175 = .ok (.goto (-140), 3) := by decide +kernel
theorem dX7_send_178 : decode cX7_send 178 = .ok (.iload 5, 2) := by decide +kernel
theorem dX7_send_180 : decode cX7_send 180 = .ok (.bipush 24, 2) := by decide +kernel
theorem dX7_send_182 : decode cX7_send 182 = .ok (.if_icmp .le 6, 3) := by decide +kernel
theorem dX7_send_185 : decode cX7_send 185 = .ok (.bipush (-5), 2) := by decide +kernel
theorem dX7_send_187 : decode cX7_send 187 = .ok (.ireturn, 1) := by decide +kernel
theorem dX7_send_188 : decode cX7_send 188 = .ok (.aload_n 0, 1) := by decide +kernel
theorem dX7_send_189 : decode cX7_send 189 = .ok (.lload_n 3, 1) := by decide +kernel
theorem dX7_send_190 : decode cX7_send 190 = .ok (.putfield 20, 3) := by decide +kernel
theorem dX7_send_193 : decode cX7_send 193 = .ok (.aload_n 0, 1) := by decide +kernel
theorem dX7_send_194 : decode cX7_send 194 = .ok (.iload_n 1, 1) := by decide +kernel
theorem dX7_send_195 : decode cX7_send 195 = .ok (.bipush 20, 2) := by decide +kernel
theorem dX7_send_197 : decode cX7_send 197 = .ok (.invokevirtual 69, 3) := by decide +kernel
theorem dX7_send_200 : decode cX7_send 200 = .ok (.aload_n 0, 1) := by decide +kernel
theorem dX7_send_201 : decode cX7_send 201 = .ok (.getfield 13, 3) := by decide +kernel
theorem dX7_send_204 : decode cX7_send 204 = .ok (.iload_n 1, 1) := by decide +kernel
theorem dX7_send_205 : decode cX7_send 205 = .ok (.iaload, 1) := by decide +kernel
theorem dX7_send_206 : decode cX7_send 206 = .ok (.ireturn, 1) := by decide +kernel
theorem dX7_adds_0 : decode cX7_adds 0 = .ok (.iload_n 1, 1) := by decide +kernel
theorem dX7_adds_1 : decode cX7_adds 1 = .ok (.bipush 24, 2) := by decide +kernel
theorem dX7_adds_3 : decode cX7_adds 3 = .ok (.if_icmp .ge 10, 3) := by decide +kernel
theorem dX7_adds_6 : decode cX7_adds 6 = .ok (.aload_n 0, 1) := by decide +kernel
theorem dX7_adds_7 : decode cX7_adds 7 = .ok (.bipush 20, 2) := by decide +kernel
theorem dX7_adds_9 : decode cX7_adds 9 = .ok (.iload_n 2, 1) := by decide +kernel
theorem dX7_adds_10 : decode cX7_adds 10 = .ok (.invokevirtual 61, 3) := by decide +kernel
theorem dX7_adds_13 : decode cX7_adds 13 = .ok (.iload_n 1, 1) := by decide +kernel
theorem dX7_adds_14 : decode cX7_adds 14 = .ok (.iconst 1, 1) := by decide +kernel
theorem dX7_adds_15 : decode cX7_adds 15 = .ok (.iadd, 1) := by decide +kernel
theorem dX7_adds_16 : decode cX7_adds 16 = .ok (.ireturn, 1) := by decide +kernel
theorem dX7_count_0 : decode cX7_count 0 = .ok (.iconst 0, 1) := by decide +kernel
theorem dX7_count_1 : decode cX7_count 1 = .ok (.istore_n 2, 1) := by decide +kernel
theorem dX7_count_2 : decode cX7_count 2 = .ok (.iconst 0, 1) := by decide +kernel
theorem dX7_count_3 : decode cX7_count 3 = .ok (.istore_n 3, 1) := by decide +kernel
theorem dX7_count_4 : decode cX7_count 4 = .ok (.iload_n 3, 1) := by decide +kernel
theorem dX7_count_5 : decode cX7_count 5 = .ok (.bipush 12, 2) := by decide +kernel
theorem dX7_count_7 : decode cX7_count 7 = .ok (.if_icmp .ge 18, 3) := by decide +kernel
theorem dX7_count_10 : decode cX7_count 10 = .ok (.iload_n 2, 1) := by decide +kernel
theorem dX7_count_11 : decode cX7_count 11 = .ok (.aload_n 0, 1) := by decide +kernel
theorem dX7_count_12 : decode cX7_count 12 = .ok (.getfield 13, 3) := by decide +kernel
theorem dX7_count_15 : decode cX7_count 15 = .ok (.iload_n 3, 1) := by decide +kernel
theorem dX7_count_16 : decode cX7_count 16 = .ok (.iaload, 1) := by decide +kernel
theorem dX7_count_17 : decode cX7_count 17 = .ok (.iadd, 1) := by decide +kernel
theorem dX7_count_18 : decode cX7_count 18 = .ok (.istore_n 2, 1) := by decide +kernel
theorem dX7_count_19 : decode cX7_count 19 = .ok (.iinc 3 1, 3) := by decide +kernel
theorem dX7_count_22 : decode cX7_count 22 = .ok (.goto (-18), 3) := by decide +kernel
theorem dX7_count_25 : decode cX7_count 25 = .ok (.iload_n 1, 1) := by decide +kernel
theorem dX7_count_26 : decode cX7_count 26 = .ok (.tableswitch 47 0 3 #[30, 35, 40, 45], 30) := by decide +kernel
theorem dX7_count_56 : decode cX7_count 56 = .ok (.aload_n 0, 1) := by decide +kernel
theorem dX7_count_57 : decode cX7_count 57 = .ok (.getfield 7, 3) := by decide +kernel
theorem dX7_count_60 : decode cX7_count 60 = .ok (.ireturn, 1) := by decide +kernel
theorem dX7_count_61 : decode cX7_count 61 = .ok (.aload_n 0, 1) := by decide +kernel
theorem dX7_count_62 : decode cX7_count 62 = .ok (.getfield 50, 3) := by decide +kernel
theorem dX7_count_65 : decode cX7_count 65 = .ok (.ireturn, 1) := by decide +kernel
theorem dX7_count_66 : decode cX7_count 66 = .ok (.aload_n 0, 1) := by decide +kernel
theorem dX7_count_67 : decode cX7_count 67 = .ok (.getfield 47, 3) := by decide +kernel
theorem dX7_count_70 : decode cX7_count 70 = .ok (.ireturn, 1) := by decide +kernel
theorem dX7_count_71 : decode cX7_count 71 = .ok (.iload_n 2, 1) := by decide +kernel
theorem dX7_count_72 : decode cX7_count 72 = .ok (.ireturn, 1) := by decide +kernel
theorem dX7_count_73 : decode cX7_count 73 = .ok (.iconst (-1), 1) := by decide +kernel
theorem dX7_count_74 : decode cX7_count 74 = .ok (.ireturn, 1) := by decide +kernel
theorem dJ9_max_7cf53_0 : decode cJ9_max_7cf53 0 = .ok (.iload_n 0, 1) := by decide +kernel
theorem dJ9_max_7cf53_1 : decode cJ9_max_7cf53 1 = .ok (.iload_n 1, 1) := by decide +kernel
theorem dJ9_max_7cf53_2 : decode cJ9_max_7cf53 2 = .ok (.if_icmp .lt 7, 3) := by decide +kernel
theorem dJ9_max_7cf53_5 : decode cJ9_max_7cf53 5 = .ok (.iload_n 0, 1) := by decide +kernel
theorem dJ9_max_7cf53_6 : decode cJ9_max_7cf53 6 = .ok (.goto 4, 3) := by decide +kernel
theorem dJ9_max_7cf53_9 : decode cJ9_max_7cf53 9 = .ok (.iload_n 1, 1) := by decide +kernel
theorem dJ9_max_7cf53_10 : decode cJ9_max_7cf53 10 = .ok (.ireturn, 1) := by decide +kernel
theorem dJ9_min_7cf53_0 : decode cJ9_min_7cf53 0 = .ok (.iload_n 0, 1) := by decide +kernel
theorem dJ9_min_7cf53_1 : decode cJ9_min_7cf53 1 = .ok (.iload_n 1, 1) := by decide +kernel
theorem dJ9_min_7cf53_2 : decode cJ9_min_7cf53 2 = .ok (.if_icmp .gt 7, 3) := by decide +kernel
theorem dJ9_min_7cf53_5 : decode cJ9_min_7cf53 5 = .ok (.iload_n 0, 1) := by decide +kernel
theorem dJ9_min_7cf53_6 : decode cJ9_min_7cf53 6 = .ok (.goto 4, 3) := by decide +kernel
theorem dJ9_min_7cf53_9 : decode cJ9_min_7cf53 9 = .ok (.iload_n 1, 1) := by decide +kernel
theorem dJ9_min_7cf53_10 : decode cJ9_min_7cf53 10 = .ok (.ireturn, 1) := by decide +kernel
theorem dJ9_min_f86c9_0 : decode cJ9_min_f86c9 0 = .ok (.lload_n 0, 1) := by decide +kernel
theorem dJ9_min_f86c9_1 : decode cJ9_min_f86c9 1 = .ok (.lload_n 2, 1) := by decide +kernel
theorem dJ9_min_f86c9_2 : decode cJ9_min_f86c9 2 = .ok (.lcmp, 1) := by decide +kernel
theorem dJ9_min_f86c9_3 : decode cJ9_min_f86c9 3 = .ok (.ifCond .gt 7, 3) := by decide +kernel
theorem dJ9_min_f86c9_6 : decode cJ9_min_f86c9 6 = .ok (.lload_n 0, 1) := by decide +kernel
theorem dJ9_min_f86c9_7 : decode cJ9_min_f86c9 7 = .ok (.goto 4, 3) := by decide +kernel
theorem dJ9_min_f86c9_10 : decode cJ9_min_f86c9 10 = .ok (.lload_n 2, 1) := by decide +kernel
theorem dJ9_min_f86c9_11 : decode cJ9_min_f86c9 11 = .ok (.lreturn, 1) := by decide +kernel
theorem dL_law_0 : decode cL_law 0 = .ok (.new 7, 3) := by decide +kernel
theorem dL_law_3 : decode cL_law 3 = .ok (.dup, 1) := by decide +kernel
theorem dL_law_4 : decode cL_law 4 = .ok (.invokespecial 9, 3) := by decide +kernel
theorem dL_law_7 : decode cL_law 7 = .ok (.astore_n 1, 1) := by decide +kernel
theorem dL_law_8 : decode cL_law 8 = .ok (.new 10, 3) := by decide +kernel
theorem dL_law_11 : decode cL_law 11 = .ok (.dup, 1) := by decide +kernel
theorem dL_law_12 : decode cL_law 12 = .ok (.invokespecial 12, 3) := by decide +kernel
theorem dL_law_15 : decode cL_law 15 = .ok (.astore_n 2, 1) := by decide +kernel
theorem dL_law_16 : decode cL_law 16 = .ok (.iconst 0, 1) := by decide +kernel
theorem dL_law_17 : decode cL_law 17 = .ok (.istore_n 3, 1) := by decide +kernel
theorem dL_law_18 : decode cL_law 18 = .ok (.iload_n 3, 1) := by decide +kernel
theorem dL_law_19 : decode cL_law 19 = .ok (.aload_n 0, 1) := by decide +kernel
theorem dL_law_20 : decode cL_law 20 = .ok (.arraylength, 1) := by decide +kernel
theorem dL_law_21 : decode cL_law 21 = .ok (.bipush 6, 2) := by decide +kernel
theorem dL_law_23 : decode cL_law 23 = .ok (.isub, 1) := by decide +kernel
theorem dL_law_24 : decode cL_law 24 = .ok (.if_icmp .gt 944, 3) := by decide +kernel
theorem dL_law_27 : decode cL_law 27 = .ok (.aload_n 0, 1) := by decide +kernel
theorem dL_law_28 : decode cL_law 28 = .ok (.iload_n 3, 1) := by decide +kernel
theorem dL_law_29 : decode cL_law 29 = .ok (.iaload, 1) := by decide +kernel
theorem dL_law_30 : decode cL_law 30 = .ok (.bipush 31, 2) := by decide +kernel
theorem dL_law_32 : decode cL_law 32 = .ok (.iand, 1) := by decide +kernel
theorem dL_law_33 : decode cL_law 33 = .ok (.tableswitch 929 0 22 #[107, 130, 203, 236, 299, 352, 375, 398, 431, 464, 487, 521, 564, 598, 641, 685, 708, 721, 744, 777, 820, 873, 906], 107) := by decide +kernel
theorem dL_law_140 : decode cL_law 140 = .ok (.aload_n 1, 1) := by decide +kernel
theorem dL_law_141 : decode cL_law 141 = .ok (.aload_n 0, 1) := by decide +kernel
theorem dL_law_142 : decode cL_law 142 = .ok (.iload_n 3, 1) := by decide +kernel
theorem dL_law_143 : decode cL_law 143 = .ok (.iconst 1, 1) := by decide +kernel
theorem dL_law_144 : decode cL_law 144 = .ok (.iadd, 1) := by decide +kernel
theorem dL_law_145 : decode cL_law 145 = .ok (.iaload, 1) := by decide +kernel
theorem dL_law_146 : decode cL_law 146 = .ok (.invokevirtual 13, 3) := by decide +kernel
theorem dL_law_149 : decode cL_law 149 = .ok (.aload_n 2, 1) := by decide +kernel
theorem dL_law_150 : decode cL_law 150 = .ok (.aload_n 0, 1) := by decide +kernel
end
section
theorem dL_law_151 : decode cL_law 151 = .ok (.iload_n 3, 1) := by decide +kernel
theorem dL_law_152 : decode cL_law 152 = .ok (.iconst 1, 1) := by decide +kernel
theorem dL_law_153 : decode cL_law 153 = .ok (.iadd, 1) := by decide +kernel
theorem dL_law_154 : decode cL_law 154 = .ok (.iaload, 1) := by decide +kernel
theorem dL_law_155 : decode cL_law 155 = .ok (.invokevirtual 17, 3) := by decide +kernel
theorem dL_law_158 : decode cL_law 158 = .ok (.if_icmp .eq 804, 3) := by decide +kernel
theorem dL_law_161 : decode cL_law 161 = .ok (.iconst 0, 1) := by decide +kernel
theorem dL_law_162 : decode cL_law 162 = .ok (.ireturn, 1) := by decide +kernel
theorem dL_law_163 : decode cL_law 163 = .ok (.aload_n 1, 1) := by decide +kernel
theorem dL_law_164 : decode cL_law 164 = .ok (.aload_n 0, 1) := by decide +kernel
theorem dL_law_165 : decode cL_law 165 = .ok (.iload_n 3, 1) := by decide +kernel
theorem dL_law_166 : decode cL_law 166 = .ok (.iconst 1, 1) := by decide +kernel
theorem dL_law_167 : decode cL_law 167 = .ok (.iadd, 1) := by decide +kernel
theorem dL_law_168 : decode cL_law 168 = .ok (.iaload, 1) := by decide +kernel
theorem dL_law_169 : decode cL_law 169 = .ok (.aload_n 0, 1) := by decide +kernel
theorem dL_law_170 : decode cL_law 170 = .ok (.iload_n 3, 1) := by decide +kernel
theorem dL_law_171 : decode cL_law 171 = .ok (.iconst 2, 1) := by decide +kernel
theorem dL_law_172 : decode cL_law 172 = .ok (.iadd, 1) := by decide +kernel
theorem dL_law_173 : decode cL_law 173 = .ok (.iaload, 1) := by decide +kernel
theorem dL_law_174 : decode cL_law 174 = .ok (.aload_n 0, 1) := by decide +kernel
theorem dL_law_175 : decode cL_law 175 = .ok (.iload_n 3, 1) := by decide +kernel
theorem dL_law_176 : decode cL_law 176 = .ok (.iconst 3, 1) := by decide +kernel
theorem dL_law_177 : decode cL_law 177 = .ok (.iadd, 1) := by decide +kernel
theorem dL_law_178 : decode cL_law 178 = .ok (.iaload, 1) := by decide +kernel
theorem dL_law_179 : decode cL_law 179 = .ok (.i2l, 1) := by decide +kernel
theorem dL_law_180 : decode cL_law 180 = .ok (.bipush 32, 2) := by decide +kernel
theorem dL_law_182 : decode cL_law 182 = .ok (.lshl, 1) := by decide +kernel
theorem dL_law_183 : decode cL_law 183 = .ok (.aload_n 0, 1) := by decide +kernel
theorem dL_law_184 : decode cL_law 184 = .ok (.iload_n 3, 1) := by decide +kernel
theorem dL_law_185 : decode cL_law 185 = .ok (.iconst 4, 1) := by decide +kernel
theorem dL_law_186 : decode cL_law 186 = .ok (.iadd, 1) := by decide +kernel
theorem dL_law_187 : decode cL_law 187 = .ok (.iaload, 1) := by decide +kernel
theorem dL_law_188 : decode cL_law 188 = .ok (.i2l, 1) := by decide +kernel
theorem dL_law_189 : decode cL_law 189 = .ok (.ldc2_w 18, 3) := by decide +kernel
theorem dL_law_192 : decode cL_law 192 = .ok (.land, 1) := by decide +kernel
theorem dL_law_193 : decode cL_law 193 = .ok (.lor, 1) := by decide +kernel
theorem dL_law_194 : decode cL_law 194 = .ok (.invokevirtual 20, 3) := by decide +kernel
theorem dL_law_197 : decode cL_law 197 = .ok (.aload_n 2, 1) := by decide +kernel
theorem dL_law_198 : decode cL_law 198 = .ok (.aload_n 0, 1) := by decide +kernel
theorem dL_law_199 : decode cL_law 199 = .ok (.iload_n 3, 1) := by decide +kernel
theorem dL_law_200 : decode cL_law 200 = .ok (.iconst 1, 1) := by decide +kernel
theorem dL_law_201 : decode cL_law 201 = .ok (.iadd, 1) := by decide +kernel
theorem dL_law_202 : decode cL_law 202 = .ok (.iaload, 1) := by decide +kernel
theorem dL_law_203 : decode cL_law 203 = .ok (.aload_n 0, 1) := by decide +kernel
theorem dL_law_204 : decode cL_law 204 = .ok (.iload_n 3, 1) := by decide +kernel
theorem dL_law_205 : decode cL_law 205 = .ok (.iconst 2, 1) := by decide +kernel
theorem dL_law_206 : decode cL_law 206 = .ok (.iadd, 1) := by decide +kernel
theorem dL_law_207 : decode cL_law 207 = .ok (.iaload, 1) := by decide +kernel
theorem dL_law_208 : decode cL_law 208 = .ok (.aload_n 0, 1) := by decide +kernel
theorem dL_law_209 : decode cL_law 209 = .ok (.iload_n 3, 1) := by decide +kernel
theorem dL_law_210 : decode cL_law 210 = .ok (.iconst 3, 1) := by decide +kernel
theorem dL_law_211 : decode cL_law 211 = .ok (.iadd, 1) := by decide +kernel
theorem dL_law_212 : decode cL_law 212 = .ok (.iaload, 1) := by decide +kernel
theorem dL_law_213 : decode cL_law 213 = .ok (.i2l, 1) := by decide +kernel
theorem dL_law_214 : decode cL_law 214 = .ok (.bipush 32, 2) := by decide +kernel
theorem dL_law_216 : decode cL_law 216 = .ok (.lshl, 1) := by decide +kernel
theorem dL_law_217 : decode cL_law 217 = .ok (.aload_n 0, 1) := by decide +kernel
theorem dL_law_218 : decode cL_law 218 = .ok (.iload_n 3, 1) := by decide +kernel
theorem dL_law_219 : decode cL_law 219 = .ok (.iconst 4, 1) := by decide +kernel
theorem dL_law_220 : decode cL_law 220 = .ok (.iadd, 1) := by decide +kernel
theorem dL_law_221 : decode cL_law 221 = .ok (.iaload, 1) := by decide +kernel
theorem dL_law_222 : decode cL_law 222 = .ok (.i2l, 1) := by decide +kernel
theorem dL_law_223 : decode cL_law 223 = .ok (.ldc2_w 18, 3) := by decide +kernel
theorem dL_law_226 : decode cL_law 226 = .ok (.land, 1) := by decide +kernel
theorem dL_law_227 : decode cL_law 227 = .ok (.lor, 1) := by decide +kernel
theorem dL_law_228 : decode cL_law 228 = .ok (.invokevirtual 24, 3) := by decide +kernel
theorem dL_law_231 : decode cL_law 231 = .ok (.if_icmp .eq 731, 3) := by decide +kernel
theorem dL_law_234 : decode cL_law 234 = .ok (.iconst 0, 1) := by decide +kernel
theorem dL_law_235 : decode cL_law 235 = .ok (.ireturn, 1) := by decide +kernel
theorem dL_law_236 : decode cL_law 236 = .ok (.aload_n 1, 1) := by decide +kernel
theorem dL_law_237 : decode cL_law 237 = .ok (.aload_n 0, 1) := by decide +kernel
theorem dL_law_238 : decode cL_law 238 = .ok (.iload_n 3, 1) := by decide +kernel
theorem dL_law_239 : decode cL_law 239 = .ok (.iconst 1, 1) := by decide +kernel
theorem dL_law_240 : decode cL_law 240 = .ok (.iadd, 1) := by decide +kernel
theorem dL_law_241 : decode cL_law 241 = .ok (.iaload, 1) := by decide +kernel
theorem dL_law_242 : decode cL_law 242 = .ok (.aload_n 0, 1) := by decide +kernel
theorem dL_law_243 : decode cL_law 243 = .ok (.iload_n 3, 1) := by decide +kernel
theorem dL_law_244 : decode cL_law 244 = .ok (.iconst 2, 1) := by decide +kernel
theorem dL_law_245 : decode cL_law 245 = .ok (.iadd, 1) := by decide +kernel
theorem dL_law_246 : decode cL_law 246 = .ok (.iaload, 1) := by decide +kernel
theorem dL_law_247 : decode cL_law 247 = .ok (.invokevirtual 25, 3) := by decide +kernel
theorem dL_law_250 : decode cL_law 250 = .ok (.aload_n 2, 1) := by decide +kernel
theorem dL_law_251 : decode cL_law 251 = .ok (.aload_n 0, 1) := by decide +kernel
theorem dL_law_252 : decode cL_law 252 = .ok (.iload_n 3, 1) := by decide +kernel
theorem dL_law_253 : decode cL_law 253 = .ok (.iconst 1, 1) := by decide +kernel
theorem dL_law_254 : decode cL_law 254 = .ok (.iadd, 1) := by decide +kernel
theorem dL_law_255 : decode cL_law 255 = .ok (.iaload, 1) := by decide +kernel
theorem dL_law_256 : decode cL_law 256 = .ok (.aload_n 0, 1) := by decide +kernel
theorem dL_law_257 : decode cL_law 257 = .ok (.iload_n 3, 1) := by decide +kernel
theorem dL_law_258 : decode cL_law 258 = .ok (.iconst 2, 1) := by decide +kernel
theorem dL_law_259 : decode cL_law 259 = .ok (.iadd, 1) := by decide +kernel
theorem dL_law_260 : decode cL_law 260 = .ok (.iaload, 1) := by decide +kernel
theorem dL_law_261 : decode cL_law 261 = .ok (.invokevirtual 29, 3) := by decide +kernel
theorem dL_law_264 : decode cL_law 264 = .ok (.if_icmp .eq 698, 3) := by decide +kernel
theorem dL_law_267 : decode cL_law 267 = .ok (.iconst 0, 1) := by decide +kernel
theorem dL_law_268 : decode cL_law 268 = .ok (.ireturn, 1) := by decide +kernel
theorem dL_law_269 : decode cL_law 269 = .ok (.aload_n 1, 1) := by decide +kernel
theorem dL_law_270 : decode cL_law 270 = .ok (.aload_n 0, 1) := by decide +kernel
theorem dL_law_271 : decode cL_law 271 = .ok (.iload_n 3, 1) := by decide +kernel
theorem dL_law_272 : decode cL_law 272 = .ok (.iconst 1, 1) := by decide +kernel
theorem dL_law_273 : decode cL_law 273 = .ok (.iadd, 1) := by decide +kernel
theorem dL_law_274 : decode cL_law 274 = .ok (.iaload, 1) := by decide +kernel
theorem dL_law_275 : decode cL_law 275 = .ok (.aload_n 0, 1) := by decide +kernel
theorem dL_law_276 : decode cL_law 276 = .ok (.iload_n 3, 1) := by decide +kernel
theorem dL_law_277 : decode cL_law 277 = .ok (.iconst 2, 1) := by decide +kernel
theorem dL_law_278 : decode cL_law 278 = .ok (.iadd, 1) := by decide +kernel
theorem dL_law_279 : decode cL_law 279 = .ok (.iaload, 1) := by decide +kernel
theorem dL_law_280 : decode cL_law 280 = .ok (.aload_n 0, 1) := by decide +kernel
theorem dL_law_281 : decode cL_law 281 = .ok (.iload_n 3, 1) := by decide +kernel
theorem dL_law_282 : decode cL_law 282 = .ok (.iconst 3, 1) := by decide +kernel
theorem dL_law_283 : decode cL_law 283 = .ok (.iadd, 1) := by decide +kernel
theorem dL_law_284 : decode cL_law 284 = .ok (.iaload, 1) := by decide +kernel
theorem dL_law_285 : decode cL_law 285 = .ok (.aload_n 0, 1) := by decide +kernel
theorem dL_law_286 : decode cL_law 286 = .ok (.iload_n 3, 1) := by decide +kernel
theorem dL_law_287 : decode cL_law 287 = .ok (.iconst 4, 1) := by decide +kernel
theorem dL_law_288 : decode cL_law 288 = .ok (.iadd, 1) := by decide +kernel
theorem dL_law_289 : decode cL_law 289 = .ok (.iaload, 1) := by decide +kernel
theorem dL_law_290 : decode cL_law 290 = .ok (.aload_n 0, 1) := by decide +kernel
theorem dL_law_291 : decode cL_law 291 = .ok (.iload_n 3, 1) := by decide +kernel
theorem dL_law_292 : decode cL_law 292 = .ok (.iconst 5, 1) := by decide +kernel
theorem dL_law_293 : decode cL_law 293 = .ok (.iadd, 1) := by decide +kernel
theorem dL_law_294 : decode cL_law 294 = .ok (.iaload, 1) := by decide +kernel
theorem dL_law_295 : decode cL_law 295 = .ok (.invokevirtual 30, 3) := by decide +kernel
theorem dL_law_298 : decode cL_law 298 = .ok (.aload_n 2, 1) := by decide +kernel
theorem dL_law_299 : decode cL_law 299 = .ok (.aload_n 0, 1) := by decide +kernel
theorem dL_law_300 : decode cL_law 300 = .ok (.iload_n 3, 1) := by decide +kernel
theorem dL_law_301 : decode cL_law 301 = .ok (.iconst 1, 1) := by decide +kernel
theorem dL_law_302 : decode cL_law 302 = .ok (.iadd, 1) := by decide +kernel
theorem dL_law_303 : decode cL_law 303 = .ok (.iaload, 1) := by decide +kernel
theorem dL_law_304 : decode cL_law 304 = .ok (.aload_n 0, 1) := by decide +kernel
theorem dL_law_305 : decode cL_law 305 = .ok (.iload_n 3, 1) := by decide +kernel
theorem dL_law_306 : decode cL_law 306 = .ok (.iconst 2, 1) := by decide +kernel
theorem dL_law_307 : decode cL_law 307 = .ok (.iadd, 1) := by decide +kernel
theorem dL_law_308 : decode cL_law 308 = .ok (.iaload, 1) := by decide +kernel
theorem dL_law_309 : decode cL_law 309 = .ok (.aload_n 0, 1) := by decide +kernel
theorem dL_law_310 : decode cL_law 310 = .ok (.iload_n 3, 1) := by decide +kernel
theorem dL_law_311 : decode cL_law 311 = .ok (.iconst 3, 1) := by decide +kernel
theorem dL_law_312 : decode cL_law 312 = .ok (.iadd, 1) := by decide +kernel
theorem dL_law_313 : decode cL_law 313 = .ok (.iaload, 1) := by decide +kernel
theorem dL_law_314 : decode cL_law 314 = .ok (.aload_n 0, 1) := by decide +kernel
theorem dL_law_315 : decode cL_law 315 = .ok (.iload_n 3, 1) := by decide +kernel
theorem dL_law_316 : decode cL_law 316 = .ok (.iconst 4, 1) := by decide +kernel
theorem dL_law_317 : decode cL_law 317 = .ok (.iadd, 1) := by decide +kernel
theorem dL_law_318 : decode cL_law 318 = .ok (.iaload, 1) := by decide +kernel
theorem dL_law_319 : decode cL_law 319 = .ok (.aload_n 0, 1) := by decide +kernel
theorem dL_law_320 : decode cL_law 320 = .ok (.iload_n 3, 1) := by decide +kernel
theorem dL_law_321 : decode cL_law 321 = .ok (.iconst 5, 1) := by decide +kernel
theorem dL_law_322 : decode cL_law 322 = .ok (.iadd, 1) := by decide +kernel
theorem dL_law_323 : decode cL_law 323 = .ok (.iaload, 1) := by decide +kernel
theorem dL_law_324 : decode cL_law 324 = .ok (.invokevirtual 34, 3) := by decide +kernel
theorem dL_law_327 : decode cL_law 327 = .ok (.if_icmp .eq 635, 3) := by decide +kernel
theorem dL_law_330 : decode cL_law 330 = .ok (.iconst 0, 1) := by decide +kernel
theorem dL_law_331 : decode cL_law 331 = .ok (.ireturn, 1) := by decide +kernel
theorem dL_law_332 : decode cL_law 332 = .ok (.aload_n 1, 1) := by decide +kernel
theorem dL_law_333 : decode cL_law 333 = .ok (.aload_n 0, 1) := by decide +kernel
theorem dL_law_334 : decode cL_law 334 = .ok (.iload_n 3, 1) := by decide +kernel
theorem dL_law_335 : decode cL_law 335 = .ok (.iconst 1, 1) := by decide +kernel
theorem dL_law_336 : decode cL_law 336 = .ok (.iadd, 1) := by decide +kernel
theorem dL_law_337 : decode cL_law 337 = .ok (.iaload, 1) := by decide +kernel
theorem dL_law_338 : decode cL_law 338 = .ok (.aload_n 0, 1) := by decide +kernel
theorem dL_law_339 : decode cL_law 339 = .ok (.iload_n 3, 1) := by decide +kernel
theorem dL_law_340 : decode cL_law 340 = .ok (.iconst 2, 1) := by decide +kernel
theorem dL_law_341 : decode cL_law 341 = .ok (.iadd, 1) := by decide +kernel
theorem dL_law_342 : decode cL_law 342 = .ok (.iaload, 1) := by decide +kernel
theorem dL_law_343 : decode cL_law 343 = .ok (.aload_n 0, 1) := by decide +kernel
theorem dL_law_344 : decode cL_law 344 = .ok (.iload_n 3, 1) := by decide +kernel
theorem dL_law_345 : decode cL_law 345 = .ok (.iconst 3, 1) := by decide +kernel
theorem dL_law_346 : decode cL_law 346 = .ok (.iadd, 1) := by decide +kernel
theorem dL_law_347 : decode cL_law 347 = .ok (.iaload, 1) := by decide +kernel
theorem dL_law_348 : decode cL_law 348 = .ok (.aload_n 0, 1) := by decide +kernel
theorem dL_law_349 : decode cL_law 349 = .ok (.iload_n 3, 1) := by decide +kernel
theorem dL_law_350 : decode cL_law 350 = .ok (.iconst 4, 1) := by decide +kernel
theorem dL_law_351 : decode cL_law 351 = .ok (.iadd, 1) := by decide +kernel
theorem dL_law_352 : decode cL_law 352 = .ok (.iaload, 1) := by decide +kernel
theorem dL_law_353 : decode cL_law 353 = .ok (.invokevirtual 35, 3) := by decide +kernel
theorem dL_law_356 : decode cL_law 356 = .ok (.aload_n 2, 1) := by decide +kernel
theorem dL_law_357 : decode cL_law 357 = .ok (.aload_n 0, 1) := by decide +kernel
theorem dL_law_358 : decode cL_law 358 = .ok (.iload_n 3, 1) := by decide +kernel
theorem dL_law_359 : decode cL_law 359 = .ok (.iconst 1, 1) := by decide +kernel
theorem dL_law_360 : decode cL_law 360 = .ok (.iadd, 1) := by decide +kernel
theorem dL_law_361 : decode cL_law 361 = .ok (.iaload, 1) := by decide +kernel
theorem dL_law_362 : decode cL_law 362 = .ok (.aload_n 0, 1) := by decide +kernel
theorem dL_law_363 : decode cL_law 363 = .ok (.iload_n 3, 1) := by decide +kernel
theorem dL_law_364 : decode cL_law 364 = .ok (.iconst 2, 1) := by decide +kernel
theorem dL_law_365 : decode cL_law 365 = .ok (.iadd, 1) := by decide +kernel
theorem dL_law_366 : decode cL_law 366 = .ok (.iaload, 1) := by decide +kernel
theorem dL_law_367 : decode cL_law 367 = .ok (.aload_n 0, 1) := by decide +kernel
theorem dL_law_368 : decode cL_law 368 = .ok (.iload_n 3, 1) := by decide +kernel
theorem dL_law_369 : decode cL_law 369 = .ok (.iconst 3, 1) := by decide +kernel
theorem dL_law_370 : decode cL_law 370 = .ok (.iadd, 1) := by decide +kernel
theorem dL_law_371 : decode cL_law 371 = .ok (.iaload, 1) := by decide +kernel
theorem dL_law_372 : decode cL_law 372 = .ok (.aload_n 0, 1) := by decide +kernel
theorem dL_law_373 : decode cL_law 373 = .ok (.iload_n 3, 1) := by decide +kernel
theorem dL_law_374 : decode cL_law 374 = .ok (.iconst 4, 1) := by decide +kernel
theorem dL_law_375 : decode cL_law 375 = .ok (.iadd, 1) := by decide +kernel
theorem dL_law_376 : decode cL_law 376 = .ok (.iaload, 1) := by decide +kernel
theorem dL_law_377 : decode cL_law 377 = .ok (.invokevirtual 39, 3) := by decide +kernel
theorem dL_law_380 : decode cL_law 380 = .ok (.if_icmp .eq 582, 3) := by decide +kernel
theorem dL_law_383 : decode cL_law 383 = .ok (.iconst 0, 1) := by decide +kernel
theorem dL_law_384 : decode cL_law 384 = .ok (.ireturn, 1) := by decide +kernel
theorem dL_law_385 : decode cL_law 385 = .ok (.aload_n 1, 1) := by decide +kernel
theorem dL_law_386 : decode cL_law 386 = .ok (.aload_n 0, 1) := by decide +kernel
theorem dL_law_387 : decode cL_law 387 = .ok (.iload_n 3, 1) := by decide +kernel
theorem dL_law_388 : decode cL_law 388 = .ok (.iconst 1, 1) := by decide +kernel
theorem dL_law_389 : decode cL_law 389 = .ok (.iadd, 1) := by decide +kernel
theorem dL_law_390 : decode cL_law 390 = .ok (.iaload, 1) := by decide +kernel
theorem dL_law_391 : decode cL_law 391 = .ok (.invokevirtual 40, 3) := by decide +kernel
theorem dL_law_394 : decode cL_law 394 = .ok (.aload_n 2, 1) := by decide +kernel
theorem dL_law_395 : decode cL_law 395 = .ok (.aload_n 0, 1) := by decide +kernel
theorem dL_law_396 : decode cL_law 396 = .ok (.iload_n 3, 1) := by decide +kernel
theorem dL_law_397 : decode cL_law 397 = .ok (.iconst 1, 1) := by decide +kernel
theorem dL_law_398 : decode cL_law 398 = .ok (.iadd, 1) := by decide +kernel
theorem dL_law_399 : decode cL_law 399 = .ok (.iaload, 1) := by decide +kernel
theorem dL_law_400 : decode cL_law 400 = .ok (.invokevirtual 43, 3) := by decide +kernel
theorem dL_law_403 : decode cL_law 403 = .ok (.if_icmp .eq 559, 3) := by decide +kernel
theorem dL_law_406 : decode cL_law 406 = .ok (.iconst 0, 1) := by decide +kernel
theorem dL_law_407 : decode cL_law 407 = .ok (.ireturn, 1) := by decide +kernel
theorem dL_law_408 : decode cL_law 408 = .ok (.aload_n 1, 1) := by decide +kernel
theorem dL_law_409 : decode cL_law 409 = .ok (.aload_n 0, 1) := by decide +kernel
theorem dL_law_410 : decode cL_law 410 = .ok (.iload_n 3, 1) := by decide +kernel
theorem dL_law_411 : decode cL_law 411 = .ok (.iconst 1, 1) := by decide +kernel
theorem dL_law_412 : decode cL_law 412 = .ok (.iadd, 1) := by decide +kernel
theorem dL_law_413 : decode cL_law 413 = .ok (.iaload, 1) := by decide +kernel
theorem dL_law_414 : decode cL_law 414 = .ok (.invokevirtual 44, 3) := by decide +kernel
theorem dL_law_417 : decode cL_law 417 = .ok (.aload_n 2, 1) := by decide +kernel
theorem dL_law_418 : decode cL_law 418 = .ok (.aload_n 0, 1) := by decide +kernel
theorem dL_law_419 : decode cL_law 419 = .ok (.iload_n 3, 1) := by decide +kernel
theorem dL_law_420 : decode cL_law 420 = .ok (.iconst 1, 1) := by decide +kernel
theorem dL_law_421 : decode cL_law 421 = .ok (.iadd, 1) := by decide +kernel
theorem dL_law_422 : decode cL_law 422 = .ok (.iaload, 1) := by decide +kernel
theorem dL_law_423 : decode cL_law 423 = .ok (.invokevirtual 47, 3) := by decide +kernel
theorem dL_law_426 : decode cL_law 426 = .ok (.if_icmp .eq 536, 3) := by decide +kernel
theorem dL_law_429 : decode cL_law 429 = .ok (.iconst 0, 1) := by decide +kernel
theorem dL_law_430 : decode cL_law 430 = .ok (.ireturn, 1) := by decide +kernel
theorem dL_law_431 : decode cL_law 431 = .ok (.aload_n 1, 1) := by decide +kernel
theorem dL_law_432 : decode cL_law 432 = .ok (.aload_n 0, 1) := by decide +kernel
theorem dL_law_433 : decode cL_law 433 = .ok (.iload_n 3, 1) := by decide +kernel
theorem dL_law_434 : decode cL_law 434 = .ok (.iconst 1, 1) := by decide +kernel
theorem dL_law_435 : decode cL_law 435 = .ok (.iadd, 1) := by decide +kernel
theorem dL_law_436 : decode cL_law 436 = .ok (.iaload, 1) := by decide +kernel
theorem dL_law_437 : decode cL_law 437 = .ok (.aload_n 0, 1) := by decide +kernel
theorem dL_law_438 : decode cL_law 438 = .ok (.iload_n 3, 1) := by decide +kernel
theorem dL_law_439 : decode cL_law 439 = .ok (.iconst 2, 1) := by decide +kernel
theorem dL_law_440 : decode cL_law 440 = .ok (.iadd, 1) := by decide +kernel
theorem dL_law_441 : decode cL_law 441 = .ok (.iaload, 1) := by decide +kernel
theorem dL_law_442 : decode cL_law 442 = .ok (.invokevirtual 48, 3) := by decide +kernel
theorem dL_law_445 : decode cL_law 445 = .ok (.aload_n 2, 1) := by decide +kernel
theorem dL_law_446 : decode cL_law 446 = .ok (.aload_n 0, 1) := by decide +kernel
theorem dL_law_447 : decode cL_law 447 = .ok (.iload_n 3, 1) := by decide +kernel
theorem dL_law_448 : decode cL_law 448 = .ok (.iconst 1, 1) := by decide +kernel
theorem dL_law_449 : decode cL_law 449 = .ok (.iadd, 1) := by decide +kernel
theorem dL_law_450 : decode cL_law 450 = .ok (.iaload, 1) := by decide +kernel
theorem dL_law_451 : decode cL_law 451 = .ok (.aload_n 0, 1) := by decide +kernel
theorem dL_law_452 : decode cL_law 452 = .ok (.iload_n 3, 1) := by decide +kernel
theorem dL_law_453 : decode cL_law 453 = .ok (.iconst 2, 1) := by decide +kernel
theorem dL_law_454 : decode cL_law 454 = .ok (.iadd, 1) := by decide +kernel
theorem dL_law_455 : decode cL_law 455 = .ok (.iaload, 1) := by decide +kernel
theorem dL_law_456 : decode cL_law 456 = .ok (.invokevirtual 51, 3) := by decide +kernel
theorem dL_law_459 : decode cL_law 459 = .ok (.if_icmp .eq 503, 3) := by decide +kernel
theorem dL_law_462 : decode cL_law 462 = .ok (.iconst 0, 1) := by decide +kernel
theorem dL_law_463 : decode cL_law 463 = .ok (.ireturn, 1) := by decide +kernel
theorem dL_law_464 : decode cL_law 464 = .ok (.aload_n 1, 1) := by decide +kernel
theorem dL_law_465 : decode cL_law 465 = .ok (.aload_n 0, 1) := by decide +kernel
theorem dL_law_466 : decode cL_law 466 = .ok (.iload_n 3, 1) := by decide +kernel
theorem dL_law_467 : decode cL_law 467 = .ok (.iconst 1, 1) := by decide +kernel
theorem dL_law_468 : decode cL_law 468 = .ok (.iadd, 1) := by decide +kernel
theorem dL_law_469 : decode cL_law 469 = .ok (.iaload, 1) := by decide +kernel
theorem dL_law_470 : decode cL_law 470 = .ok (.aload_n 0, 1) := by decide +kernel
theorem dL_law_471 : decode cL_law 471 = .ok (.iload_n 3, 1) := by decide +kernel
theorem dL_law_472 : decode cL_law 472 = .ok (.iconst 2, 1) := by decide +kernel
theorem dL_law_473 : decode cL_law 473 = .ok (.iadd, 1) := by decide +kernel
theorem dL_law_474 : decode cL_law 474 = .ok (.iaload, 1) := by decide +kernel
theorem dL_law_475 : decode cL_law 475 = .ok (.invokevirtual 52, 3) := by decide +kernel
theorem dL_law_478 : decode cL_law 478 = .ok (.aload_n 2, 1) := by decide +kernel
theorem dL_law_479 : decode cL_law 479 = .ok (.aload_n 0, 1) := by decide +kernel
theorem dL_law_480 : decode cL_law 480 = .ok (.iload_n 3, 1) := by decide +kernel
theorem dL_law_481 : decode cL_law 481 = .ok (.iconst 1, 1) := by decide +kernel
theorem dL_law_482 : decode cL_law 482 = .ok (.iadd, 1) := by decide +kernel
theorem dL_law_483 : decode cL_law 483 = .ok (.iaload, 1) := by decide +kernel
theorem dL_law_484 : decode cL_law 484 = .ok (.aload_n 0, 1) := by decide +kernel
theorem dL_law_485 : decode cL_law 485 = .ok (.iload_n 3, 1) := by decide +kernel
theorem dL_law_486 : decode cL_law 486 = .ok (.iconst 2, 1) := by decide +kernel
theorem dL_law_487 : decode cL_law 487 = .ok (.iadd, 1) := by decide +kernel
theorem dL_law_488 : decode cL_law 488 = .ok (.iaload, 1) := by decide +kernel
theorem dL_law_489 : decode cL_law 489 = .ok (.invokevirtual 55, 3) := by decide +kernel
theorem dL_law_492 : decode cL_law 492 = .ok (.if_icmp .eq 470, 3) := by decide +kernel
theorem dL_law_495 : decode cL_law 495 = .ok (.iconst 0, 1) := by decide +kernel
theorem dL_law_496 : decode cL_law 496 = .ok (.ireturn, 1) := by decide +kernel
theorem dL_law_497 : decode cL_law 497 = .ok (.aload_n 1, 1) := by decide +kernel
theorem dL_law_498 : decode cL_law 498 = .ok (.aload_n 0, 1) := by decide +kernel
theorem dL_law_499 : decode cL_law 499 = .ok (.iload_n 3, 1) := by decide +kernel
theorem dL_law_500 : decode cL_law 500 = .ok (.iconst 1, 1) := by decide +kernel
theorem dL_law_501 : decode cL_law 501 = .ok (.iadd, 1) := by decide +kernel
theorem dL_law_502 : decode cL_law 502 = .ok (.iaload, 1) := by decide +kernel
theorem dL_law_503 : decode cL_law 503 = .ok (.invokevirtual 56, 3) := by decide +kernel
theorem dL_law_506 : decode cL_law 506 = .ok (.aload_n 2, 1) := by decide +kernel
theorem dL_law_507 : decode cL_law 507 = .ok (.aload_n 0, 1) := by decide +kernel
theorem dL_law_508 : decode cL_law 508 = .ok (.iload_n 3, 1) := by decide +kernel
theorem dL_law_509 : decode cL_law 509 = .ok (.iconst 1, 1) := by decide +kernel
theorem dL_law_510 : decode cL_law 510 = .ok (.iadd, 1) := by decide +kernel
theorem dL_law_511 : decode cL_law 511 = .ok (.iaload, 1) := by decide +kernel
theorem dL_law_512 : decode cL_law 512 = .ok (.invokevirtual 59, 3) := by decide +kernel
theorem dL_law_515 : decode cL_law 515 = .ok (.if_icmp .eq 447, 3) := by decide +kernel
theorem dL_law_518 : decode cL_law 518 = .ok (.iconst 0, 1) := by decide +kernel
theorem dL_law_519 : decode cL_law 519 = .ok (.ireturn, 1) := by decide +kernel
theorem dL_law_520 : decode cL_law 520 = .ok (.aload_n 1, 1) := by decide +kernel
theorem dL_law_521 : decode cL_law 521 = .ok (.aload_n 0, 1) := by decide +kernel
theorem dL_law_522 : decode cL_law 522 = .ok (.iload_n 3, 1) := by decide +kernel
theorem dL_law_523 : decode cL_law 523 = .ok (.iconst 1, 1) := by decide +kernel
theorem dL_law_524 : decode cL_law 524 = .ok (.iadd, 1) := by decide +kernel
theorem dL_law_525 : decode cL_law 525 = .ok (.iaload, 1) := by decide +kernel
theorem dL_law_526 : decode cL_law 526 = .ok (.aload_n 0, 1) := by decide +kernel
theorem dL_law_527 : decode cL_law 527 = .ok (.iload_n 3, 1) := by decide +kernel
theorem dL_law_528 : decode cL_law 528 = .ok (.iconst 2, 1) := by decide +kernel
theorem dL_law_529 : decode cL_law 529 = .ok (.iadd, 1) := by decide +kernel
theorem dL_law_530 : decode cL_law 530 = .ok (.iaload, 1) := by decide +kernel
theorem dL_law_531 : decode cL_law 531 = .ok (.invokevirtual 60, 3) := by decide +kernel
theorem dL_law_534 : decode cL_law 534 = .ok (.aload_n 2, 1) := by decide +kernel
theorem dL_law_535 : decode cL_law 535 = .ok (.aload_n 0, 1) := by decide +kernel
theorem dL_law_536 : decode cL_law 536 = .ok (.iload_n 3, 1) := by decide +kernel
theorem dL_law_537 : decode cL_law 537 = .ok (.iconst 1, 1) := by decide +kernel
theorem dL_law_538 : decode cL_law 538 = .ok (.iadd, 1) := by decide +kernel
theorem dL_law_539 : decode cL_law 539 = .ok (.iaload, 1) := by decide +kernel
theorem dL_law_540 : decode cL_law 540 = .ok (.aload_n 0, 1) := by decide +kernel
theorem dL_law_541 : decode cL_law 541 = .ok (.iload_n 3, 1) := by decide +kernel
theorem dL_law_542 : decode cL_law 542 = .ok (.iconst 2, 1) := by decide +kernel
theorem dL_law_543 : decode cL_law 543 = .ok (.iadd, 1) := by decide +kernel
theorem dL_law_544 : decode cL_law 544 = .ok (.iaload, 1) := by decide +kernel
theorem dL_law_545 : decode cL_law 545 = .ok (.invokevirtual 64, 3) := by decide +kernel
theorem dL_law_548 : decode cL_law 548 = .ok (.lcmp, 1) := by decide +kernel
theorem dL_law_549 : decode cL_law 549 = .ok (.ifCond .eq 413, 3) := by decide +kernel
theorem dL_law_552 : decode cL_law 552 = .ok (.iconst 0, 1) := by decide +kernel
theorem dL_law_553 : decode cL_law 553 = .ok (.ireturn, 1) := by decide +kernel
theorem dL_law_554 : decode cL_law 554 = .ok (.aload_n 1, 1) := by decide +kernel
theorem dL_law_555 : decode cL_law 555 = .ok (.aload_n 0, 1) := by decide +kernel
theorem dL_law_556 : decode cL_law 556 = .ok (.iload_n 3, 1) := by decide +kernel
theorem dL_law_557 : decode cL_law 557 = .ok (.iconst 1, 1) := by decide +kernel
theorem dL_law_558 : decode cL_law 558 = .ok (.iadd, 1) := by decide +kernel
theorem dL_law_559 : decode cL_law 559 = .ok (.iaload, 1) := by decide +kernel
theorem dL_law_560 : decode cL_law 560 = .ok (.aload_n 0, 1) := by decide +kernel
theorem dL_law_561 : decode cL_law 561 = .ok (.iload_n 3, 1) := by decide +kernel
theorem dL_law_562 : decode cL_law 562 = .ok (.iconst 2, 1) := by decide +kernel
theorem dL_law_563 : decode cL_law 563 = .ok (.iadd, 1) := by decide +kernel
theorem dL_law_564 : decode cL_law 564 = .ok (.iaload, 1) := by decide +kernel
theorem dL_law_565 : decode cL_law 565 = .ok (.aload_n 0, 1) := by decide +kernel
theorem dL_law_566 : decode cL_law 566 = .ok (.iload_n 3, 1) := by decide +kernel
theorem dL_law_567 : decode cL_law 567 = .ok (.iconst 3, 1) := by decide +kernel
theorem dL_law_568 : decode cL_law 568 = .ok (.iadd, 1) := by decide +kernel
theorem dL_law_569 : decode cL_law 569 = .ok (.iaload, 1) := by decide +kernel
theorem dL_law_570 : decode cL_law 570 = .ok (.invokevirtual 65, 3) := by decide +kernel
theorem dL_law_573 : decode cL_law 573 = .ok (.aload_n 2, 1) := by decide +kernel
theorem dL_law_574 : decode cL_law 574 = .ok (.aload_n 0, 1) := by decide +kernel
theorem dL_law_575 : decode cL_law 575 = .ok (.iload_n 3, 1) := by decide +kernel
theorem dL_law_576 : decode cL_law 576 = .ok (.iconst 1, 1) := by decide +kernel
theorem dL_law_577 : decode cL_law 577 = .ok (.iadd, 1) := by decide +kernel
theorem dL_law_578 : decode cL_law 578 = .ok (.iaload, 1) := by decide +kernel
theorem dL_law_579 : decode cL_law 579 = .ok (.aload_n 0, 1) := by decide +kernel
theorem dL_law_580 : decode cL_law 580 = .ok (.iload_n 3, 1) := by decide +kernel
theorem dL_law_581 : decode cL_law 581 = .ok (.iconst 2, 1) := by decide +kernel
theorem dL_law_582 : decode cL_law 582 = .ok (.iadd, 1) := by decide +kernel
theorem dL_law_583 : decode cL_law 583 = .ok (.iaload, 1) := by decide +kernel
theorem dL_law_584 : decode cL_law 584 = .ok (.aload_n 0, 1) := by decide +kernel
theorem dL_law_585 : decode cL_law 585 = .ok (.iload_n 3, 1) := by decide +kernel
theorem dL_law_586 : decode cL_law 586 = .ok (.iconst 3, 1) := by decide +kernel
theorem dL_law_587 : decode cL_law 587 = .ok (.iadd, 1) := by decide +kernel
theorem dL_law_588 : decode cL_law 588 = .ok (.iaload, 1) := by decide +kernel
theorem dL_law_589 : decode cL_law 589 = .ok (.invokevirtual 69, 3) := by decide +kernel
theorem dL_law_592 : decode cL_law 592 = .ok (.if_icmp .eq 370, 3) := by decide +kernel
theorem dL_law_595 : decode cL_law 595 = .ok (.iconst 0, 1) := by decide +kernel
theorem dL_law_596 : decode cL_law 596 = .ok (.ireturn, 1) := by decide +kernel
theorem dL_law_597 : decode cL_law 597 = .ok (.aload_n 1, 1) := by decide +kernel
theorem dL_law_598 : decode cL_law 598 = .ok (.aload_n 0, 1) := by decide +kernel
theorem dL_law_599 : decode cL_law 599 = .ok (.iload_n 3, 1) := by decide +kernel
theorem dL_law_600 : decode cL_law 600 = .ok (.iconst 1, 1) := by decide +kernel
theorem dL_law_601 : decode cL_law 601 = .ok (.iadd, 1) := by decide +kernel
theorem dL_law_602 : decode cL_law 602 = .ok (.iaload, 1) := by decide +kernel
theorem dL_law_603 : decode cL_law 603 = .ok (.aload_n 0, 1) := by decide +kernel
theorem dL_law_604 : decode cL_law 604 = .ok (.iload_n 3, 1) := by decide +kernel
theorem dL_law_605 : decode cL_law 605 = .ok (.iconst 2, 1) := by decide +kernel
theorem dL_law_606 : decode cL_law 606 = .ok (.iadd, 1) := by decide +kernel
theorem dL_law_607 : decode cL_law 607 = .ok (.iaload, 1) := by decide +kernel
theorem dL_law_608 : decode cL_law 608 = .ok (.invokevirtual 70, 3) := by decide +kernel
theorem dL_law_611 : decode cL_law 611 = .ok (.aload_n 2, 1) := by decide +kernel
theorem dL_law_612 : decode cL_law 612 = .ok (.aload_n 0, 1) := by decide +kernel
theorem dL_law_613 : decode cL_law 613 = .ok (.iload_n 3, 1) := by decide +kernel
theorem dL_law_614 : decode cL_law 614 = .ok (.iconst 1, 1) := by decide +kernel
theorem dL_law_615 : decode cL_law 615 = .ok (.iadd, 1) := by decide +kernel
theorem dL_law_616 : decode cL_law 616 = .ok (.iaload, 1) := by decide +kernel
theorem dL_law_617 : decode cL_law 617 = .ok (.aload_n 0, 1) := by decide +kernel
theorem dL_law_618 : decode cL_law 618 = .ok (.iload_n 3, 1) := by decide +kernel
theorem dL_law_619 : decode cL_law 619 = .ok (.iconst 2, 1) := by decide +kernel
theorem dL_law_620 : decode cL_law 620 = .ok (.iadd, 1) := by decide +kernel
theorem dL_law_621 : decode cL_law 621 = .ok (.iaload, 1) := by decide +kernel
theorem dL_law_622 : decode cL_law 622 = .ok (.invokevirtual 73, 3) := by decide +kernel
theorem dL_law_625 : decode cL_law 625 = .ok (.lcmp, 1) := by decide +kernel
theorem dL_law_626 : decode cL_law 626 = .ok (.ifCond .eq 336, 3) := by decide +kernel
theorem dL_law_629 : decode cL_law 629 = .ok (.iconst 0, 1) := by decide +kernel
theorem dL_law_630 : decode cL_law 630 = .ok (.ireturn, 1) := by decide +kernel
theorem dL_law_631 : decode cL_law 631 = .ok (.aload_n 1, 1) := by decide +kernel
theorem dL_law_632 : decode cL_law 632 = .ok (.aload_n 0, 1) := by decide +kernel
theorem dL_law_633 : decode cL_law 633 = .ok (.iload_n 3, 1) := by decide +kernel
theorem dL_law_634 : decode cL_law 634 = .ok (.iconst 1, 1) := by decide +kernel
theorem dL_law_635 : decode cL_law 635 = .ok (.iadd, 1) := by decide +kernel
theorem dL_law_636 : decode cL_law 636 = .ok (.iaload, 1) := by decide +kernel
theorem dL_law_637 : decode cL_law 637 = .ok (.aload_n 0, 1) := by decide +kernel
theorem dL_law_638 : decode cL_law 638 = .ok (.iload_n 3, 1) := by decide +kernel
theorem dL_law_639 : decode cL_law 639 = .ok (.iconst 2, 1) := by decide +kernel
theorem dL_law_640 : decode cL_law 640 = .ok (.iadd, 1) := by decide +kernel
theorem dL_law_641 : decode cL_law 641 = .ok (.iaload, 1) := by decide +kernel
theorem dL_law_642 : decode cL_law 642 = .ok (.aload_n 0, 1) := by decide +kernel
theorem dL_law_643 : decode cL_law 643 = .ok (.iload_n 3, 1) := by decide +kernel
theorem dL_law_644 : decode cL_law 644 = .ok (.iconst 3, 1) := by decide +kernel
theorem dL_law_645 : decode cL_law 645 = .ok (.iadd, 1) := by decide +kernel
theorem dL_law_646 : decode cL_law 646 = .ok (.iaload, 1) := by decide +kernel
theorem dL_law_647 : decode cL_law 647 = .ok (.invokevirtual 74, 3) := by decide +kernel
theorem dL_law_650 : decode cL_law 650 = .ok (.aload_n 2, 1) := by decide +kernel
theorem dL_law_651 : decode cL_law 651 = .ok (.aload_n 0, 1) := by decide +kernel
theorem dL_law_652 : decode cL_law 652 = .ok (.iload_n 3, 1) := by decide +kernel
theorem dL_law_653 : decode cL_law 653 = .ok (.iconst 1, 1) := by decide +kernel
theorem dL_law_654 : decode cL_law 654 = .ok (.iadd, 1) := by decide +kernel
theorem dL_law_655 : decode cL_law 655 = .ok (.iaload, 1) := by decide +kernel
theorem dL_law_656 : decode cL_law 656 = .ok (.aload_n 0, 1) := by decide +kernel
theorem dL_law_657 : decode cL_law 657 = .ok (.iload_n 3, 1) := by decide +kernel
theorem dL_law_658 : decode cL_law 658 = .ok (.iconst 2, 1) := by decide +kernel
theorem dL_law_659 : decode cL_law 659 = .ok (.iadd, 1) := by decide +kernel
theorem dL_law_660 : decode cL_law 660 = .ok (.iaload, 1) := by decide +kernel
theorem dL_law_661 : decode cL_law 661 = .ok (.aload_n 0, 1) := by decide +kernel
theorem dL_law_662 : decode cL_law 662 = .ok (.iload_n 3, 1) := by decide +kernel
theorem dL_law_663 : decode cL_law 663 = .ok (.iconst 3, 1) := by decide +kernel
theorem dL_law_664 : decode cL_law 664 = .ok (.iadd, 1) := by decide +kernel
theorem dL_law_665 : decode cL_law 665 = .ok (.iaload, 1) := by decide +kernel
theorem dL_law_666 : decode cL_law 666 = .ok (.invokevirtual 77, 3) := by decide +kernel
theorem dL_law_669 : decode cL_law 669 = .ok (.if_icmp .eq 293, 3) := by decide +kernel
theorem dL_law_672 : decode cL_law 672 = .ok (.iconst 0, 1) := by decide +kernel
theorem dL_law_673 : decode cL_law 673 = .ok (.ireturn, 1) := by decide +kernel
theorem dL_law_674 : decode cL_law 674 = .ok (.aload_n 1, 1) := by decide +kernel
theorem dL_law_675 : decode cL_law 675 = .ok (.aload_n 0, 1) := by decide +kernel
theorem dL_law_676 : decode cL_law 676 = .ok (.iload_n 3, 1) := by decide +kernel
theorem dL_law_677 : decode cL_law 677 = .ok (.iconst 1, 1) := by decide +kernel
theorem dL_law_678 : decode cL_law 678 = .ok (.iadd, 1) := by decide +kernel
theorem dL_law_679 : decode cL_law 679 = .ok (.iaload, 1) := by decide +kernel
theorem dL_law_680 : decode cL_law 680 = .ok (.aload_n 0, 1) := by decide +kernel
theorem dL_law_681 : decode cL_law 681 = .ok (.iload_n 3, 1) := by decide +kernel
theorem dL_law_682 : decode cL_law 682 = .ok (.iconst 2, 1) := by decide +kernel
theorem dL_law_683 : decode cL_law 683 = .ok (.iadd, 1) := by decide +kernel
theorem dL_law_684 : decode cL_law 684 = .ok (.iaload, 1) := by decide +kernel
theorem dL_law_685 : decode cL_law 685 = .ok (.aload_n 0, 1) := by decide +kernel
theorem dL_law_686 : decode cL_law 686 = .ok (.iload_n 3, 1) := by decide +kernel
theorem dL_law_687 : decode cL_law 687 = .ok (.iconst 3, 1) := by decide +kernel
theorem dL_law_688 : decode cL_law 688 = .ok (.iadd, 1) := by decide +kernel
theorem dL_law_689 : decode cL_law 689 = .ok (.iaload, 1) := by decide +kernel
theorem dL_law_690 : decode cL_law 690 = .ok (.invokevirtual 78, 3) := by decide +kernel
theorem dL_law_693 : decode cL_law 693 = .ok (.aload_n 2, 1) := by decide +kernel
theorem dL_law_694 : decode cL_law 694 = .ok (.aload_n 0, 1) := by decide +kernel
theorem dL_law_695 : decode cL_law 695 = .ok (.iload_n 3, 1) := by decide +kernel
theorem dL_law_696 : decode cL_law 696 = .ok (.iconst 1, 1) := by decide +kernel
theorem dL_law_697 : decode cL_law 697 = .ok (.iadd, 1) := by decide +kernel
theorem dL_law_698 : decode cL_law 698 = .ok (.iaload, 1) := by decide +kernel
theorem dL_law_699 : decode cL_law 699 = .ok (.aload_n 0, 1) := by decide +kernel
theorem dL_law_700 : decode cL_law 700 = .ok (.iload_n 3, 1) := by decide +kernel
theorem dL_law_701 : decode cL_law 701 = .ok (.iconst 2, 1) := by decide +kernel
theorem dL_law_702 : decode cL_law 702 = .ok (.iadd, 1) := by decide +kernel
theorem dL_law_703 : decode cL_law 703 = .ok (.iaload, 1) := by decide +kernel
theorem dL_law_704 : decode cL_law 704 = .ok (.aload_n 0, 1) := by decide +kernel
theorem dL_law_705 : decode cL_law 705 = .ok (.iload_n 3, 1) := by decide +kernel
theorem dL_law_706 : decode cL_law 706 = .ok (.iconst 3, 1) := by decide +kernel
theorem dL_law_707 : decode cL_law 707 = .ok (.iadd, 1) := by decide +kernel
theorem dL_law_708 : decode cL_law 708 = .ok (.iaload, 1) := by decide +kernel
theorem dL_law_709 : decode cL_law 709 = .ok (.invokevirtual 82, 3) := by decide +kernel
theorem dL_law_712 : decode cL_law 712 = .ok (.lcmp, 1) := by decide +kernel
theorem dL_law_713 : decode cL_law 713 = .ok (.ifCond .eq 249, 3) := by decide +kernel
theorem dL_law_716 : decode cL_law 716 = .ok (.iconst 0, 1) := by decide +kernel
theorem dL_law_717 : decode cL_law 717 = .ok (.ireturn, 1) := by decide +kernel
theorem dL_law_718 : decode cL_law 718 = .ok (.aload_n 1, 1) := by decide +kernel
theorem dL_law_719 : decode cL_law 719 = .ok (.aload_n 0, 1) := by decide +kernel
theorem dL_law_720 : decode cL_law 720 = .ok (.iload_n 3, 1) := by decide +kernel
theorem dL_law_721 : decode cL_law 721 = .ok (.iconst 1, 1) := by decide +kernel
theorem dL_law_722 : decode cL_law 722 = .ok (.iadd, 1) := by decide +kernel
theorem dL_law_723 : decode cL_law 723 = .ok (.iaload, 1) := by decide +kernel
theorem dL_law_724 : decode cL_law 724 = .ok (.invokevirtual 83, 3) := by decide +kernel
theorem dL_law_727 : decode cL_law 727 = .ok (.aload_n 2, 1) := by decide +kernel
theorem dL_law_728 : decode cL_law 728 = .ok (.aload_n 0, 1) := by decide +kernel
theorem dL_law_729 : decode cL_law 729 = .ok (.iload_n 3, 1) := by decide +kernel
theorem dL_law_730 : decode cL_law 730 = .ok (.iconst 1, 1) := by decide +kernel
theorem dL_law_731 : decode cL_law 731 = .ok (.iadd, 1) := by decide +kernel
theorem dL_law_732 : decode cL_law 732 = .ok (.iaload, 1) := by decide +kernel
theorem dL_law_733 : decode cL_law 733 = .ok (.invokevirtual 86, 3) := by decide +kernel
theorem dL_law_736 : decode cL_law 736 = .ok (.if_icmp .eq 226, 3) := by decide +kernel
theorem dL_law_739 : decode cL_law 739 = .ok (.iconst 0, 1) := by decide +kernel
theorem dL_law_740 : decode cL_law 740 = .ok (.ireturn, 1) := by decide +kernel
theorem dL_law_741 : decode cL_law 741 = .ok (.aload_n 1, 1) := by decide +kernel
theorem dL_law_742 : decode cL_law 742 = .ok (.invokevirtual 87, 3) := by decide +kernel
theorem dL_law_745 : decode cL_law 745 = .ok (.aload_n 2, 1) := by decide +kernel
theorem dL_law_746 : decode cL_law 746 = .ok (.invokevirtual 91, 3) := by decide +kernel
theorem dL_law_749 : decode cL_law 749 = .ok (.if_icmp .eq 213, 3) := by decide +kernel
theorem dL_law_752 : decode cL_law 752 = .ok (.iconst 0, 1) := by decide +kernel
theorem dL_law_753 : decode cL_law 753 = .ok (.ireturn, 1) := by decide +kernel
theorem dL_law_754 : decode cL_law 754 = .ok (.aload_n 1, 1) := by decide +kernel
theorem dL_law_755 : decode cL_law 755 = .ok (.aload_n 0, 1) := by decide +kernel
theorem dL_law_756 : decode cL_law 756 = .ok (.iload_n 3, 1) := by decide +kernel
theorem dL_law_757 : decode cL_law 757 = .ok (.iconst 1, 1) := by decide +kernel
theorem dL_law_758 : decode cL_law 758 = .ok (.iadd, 1) := by decide +kernel
theorem dL_law_759 : decode cL_law 759 = .ok (.iaload, 1) := by decide +kernel
theorem dL_law_760 : decode cL_law 760 = .ok (.invokevirtual 92, 3) := by decide +kernel
theorem dL_law_763 : decode cL_law 763 = .ok (.aload_n 2, 1) := by decide +kernel
theorem dL_law_764 : decode cL_law 764 = .ok (.aload_n 0, 1) := by decide +kernel
theorem dL_law_765 : decode cL_law 765 = .ok (.iload_n 3, 1) := by decide +kernel
theorem dL_law_766 : decode cL_law 766 = .ok (.iconst 1, 1) := by decide +kernel
theorem dL_law_767 : decode cL_law 767 = .ok (.iadd, 1) := by decide +kernel
theorem dL_law_768 : decode cL_law 768 = .ok (.iaload, 1) := by decide +kernel
theorem dL_law_769 : decode cL_law 769 = .ok (.invokevirtual 95, 3) := by decide +kernel
theorem dL_law_772 : decode cL_law 772 = .ok (.if_icmp .eq 190, 3) := by decide +kernel
theorem dL_law_775 : decode cL_law 775 = .ok (.iconst 0, 1) := by decide +kernel
theorem dL_law_776 : decode cL_law 776 = .ok (.ireturn, 1) := by decide +kernel
theorem dL_law_777 : decode cL_law 777 = .ok (.aload_n 1, 1) := by decide +kernel
theorem dL_law_778 : decode cL_law 778 = .ok (.aload_n 0, 1) := by decide +kernel
theorem dL_law_779 : decode cL_law 779 = .ok (.iload_n 3, 1) := by decide +kernel
theorem dL_law_780 : decode cL_law 780 = .ok (.iconst 1, 1) := by decide +kernel
theorem dL_law_781 : decode cL_law 781 = .ok (.iadd, 1) := by decide +kernel
theorem dL_law_782 : decode cL_law 782 = .ok (.iaload, 1) := by decide +kernel
theorem dL_law_783 : decode cL_law 783 = .ok (.aload_n 0, 1) := by decide +kernel
theorem dL_law_784 : decode cL_law 784 = .ok (.iload_n 3, 1) := by decide +kernel
theorem dL_law_785 : decode cL_law 785 = .ok (.iconst 2, 1) := by decide +kernel
theorem dL_law_786 : decode cL_law 786 = .ok (.iadd, 1) := by decide +kernel
theorem dL_law_787 : decode cL_law 787 = .ok (.iaload, 1) := by decide +kernel
theorem dL_law_788 : decode cL_law 788 = .ok (.invokevirtual 96, 3) := by decide +kernel
theorem dL_law_791 : decode cL_law 791 = .ok (.aload_n 2, 1) := by decide +kernel
theorem dL_law_792 : decode cL_law 792 = .ok (.aload_n 0, 1) := by decide +kernel
theorem dL_law_793 : decode cL_law 793 = .ok (.iload_n 3, 1) := by decide +kernel
theorem dL_law_794 : decode cL_law 794 = .ok (.iconst 1, 1) := by decide +kernel
theorem dL_law_795 : decode cL_law 795 = .ok (.iadd, 1) := by decide +kernel
theorem dL_law_796 : decode cL_law 796 = .ok (.iaload, 1) := by decide +kernel
theorem dL_law_797 : decode cL_law 797 = .ok (.aload_n 0, 1) := by decide +kernel
theorem dL_law_798 : decode cL_law 798 = .ok (.iload_n 3, 1) := by decide +kernel
theorem dL_law_799 : decode cL_law 799 = .ok (.iconst 2, 1) := by decide +kernel
theorem dL_law_800 : decode cL_law 800 = .ok (.iadd, 1) := by decide +kernel
theorem dL_law_801 : decode cL_law 801 = .ok (.iaload, 1) := by decide +kernel
theorem dL_law_802 : decode cL_law 802 = .ok (.invokevirtual 99, 3) := by decide +kernel
theorem dL_law_805 : decode cL_law 805 = .ok (.if_icmp .eq 157, 3) := by decide +kernel
theorem dL_law_808 : decode cL_law 808 = .ok (.iconst 0, 1) := by decide +kernel
theorem dL_law_809 : decode cL_law 809 = .ok (.ireturn, 1) := by decide +kernel
theorem dL_law_810 : decode cL_law 810 = .ok (.aload_n 1, 1) := by decide +kernel
theorem dL_law_811 : decode cL_law 811 = .ok (.aload_n 0, 1) := by decide +kernel
theorem dL_law_812 : decode cL_law 812 = .ok (.iload_n 3, 1) := by decide +kernel
theorem dL_law_813 : decode cL_law 813 = .ok (.iconst 1, 1) := by decide +kernel
theorem dL_law_814 : decode cL_law 814 = .ok (.iadd, 1) := by decide +kernel
theorem dL_law_815 : decode cL_law 815 = .ok (.iaload, 1) := by decide +kernel
theorem dL_law_816 : decode cL_law 816 = .ok (.aload_n 0, 1) := by decide +kernel
theorem dL_law_817 : decode cL_law 817 = .ok (.iload_n 3, 1) := by decide +kernel
theorem dL_law_818 : decode cL_law 818 = .ok (.iconst 2, 1) := by decide +kernel
theorem dL_law_819 : decode cL_law 819 = .ok (.iadd, 1) := by decide +kernel
theorem dL_law_820 : decode cL_law 820 = .ok (.iaload, 1) := by decide +kernel
theorem dL_law_821 : decode cL_law 821 = .ok (.aload_n 0, 1) := by decide +kernel
theorem dL_law_822 : decode cL_law 822 = .ok (.iload_n 3, 1) := by decide +kernel
theorem dL_law_823 : decode cL_law 823 = .ok (.iconst 3, 1) := by decide +kernel
theorem dL_law_824 : decode cL_law 824 = .ok (.iadd, 1) := by decide +kernel
theorem dL_law_825 : decode cL_law 825 = .ok (.iaload, 1) := by decide +kernel
theorem dL_law_826 : decode cL_law 826 = .ok (.invokevirtual 100, 3) := by decide +kernel
theorem dL_law_829 : decode cL_law 829 = .ok (.aload_n 2, 1) := by decide +kernel
theorem dL_law_830 : decode cL_law 830 = .ok (.aload_n 0, 1) := by decide +kernel
theorem dL_law_831 : decode cL_law 831 = .ok (.iload_n 3, 1) := by decide +kernel
theorem dL_law_832 : decode cL_law 832 = .ok (.iconst 1, 1) := by decide +kernel
theorem dL_law_833 : decode cL_law 833 = .ok (.iadd, 1) := by decide +kernel
theorem dL_law_834 : decode cL_law 834 = .ok (.iaload, 1) := by decide +kernel
theorem dL_law_835 : decode cL_law 835 = .ok (.aload_n 0, 1) := by decide +kernel
theorem dL_law_836 : decode cL_law 836 = .ok (.iload_n 3, 1) := by decide +kernel
theorem dL_law_837 : decode cL_law 837 = .ok (.iconst 2, 1) := by decide +kernel
theorem dL_law_838 : decode cL_law 838 = .ok (.iadd, 1) := by decide +kernel
theorem dL_law_839 : decode cL_law 839 = .ok (.iaload, 1) := by decide +kernel
theorem dL_law_840 : decode cL_law 840 = .ok (.aload_n 0, 1) := by decide +kernel
theorem dL_law_841 : decode cL_law 841 = .ok (.iload_n 3, 1) := by decide +kernel
theorem dL_law_842 : decode cL_law 842 = .ok (.iconst 3, 1) := by decide +kernel
theorem dL_law_843 : decode cL_law 843 = .ok (.iadd, 1) := by decide +kernel
theorem dL_law_844 : decode cL_law 844 = .ok (.iaload, 1) := by decide +kernel
theorem dL_law_845 : decode cL_law 845 = .ok (.invokevirtual 103, 3) := by decide +kernel
theorem dL_law_848 : decode cL_law 848 = .ok (.if_icmp .eq 114, 3) := by decide +kernel
theorem dL_law_851 : decode cL_law 851 = .ok (.iconst 0, 1) := by decide +kernel
theorem dL_law_852 : decode cL_law 852 = .ok (.ireturn, 1) := by decide +kernel
theorem dL_law_853 : decode cL_law 853 = .ok (.aload_n 1, 1) := by decide +kernel
theorem dL_law_854 : decode cL_law 854 = .ok (.aload_n 0, 1) := by decide +kernel
theorem dL_law_855 : decode cL_law 855 = .ok (.iload_n 3, 1) := by decide +kernel
theorem dL_law_856 : decode cL_law 856 = .ok (.iconst 1, 1) := by decide +kernel
theorem dL_law_857 : decode cL_law 857 = .ok (.iadd, 1) := by decide +kernel
theorem dL_law_858 : decode cL_law 858 = .ok (.iaload, 1) := by decide +kernel
theorem dL_law_859 : decode cL_law 859 = .ok (.i2l, 1) := by decide +kernel
theorem dL_law_860 : decode cL_law 860 = .ok (.bipush 32, 2) := by decide +kernel
theorem dL_law_862 : decode cL_law 862 = .ok (.lshl, 1) := by decide +kernel
theorem dL_law_863 : decode cL_law 863 = .ok (.aload_n 0, 1) := by decide +kernel
theorem dL_law_864 : decode cL_law 864 = .ok (.iload_n 3, 1) := by decide +kernel
theorem dL_law_865 : decode cL_law 865 = .ok (.iconst 2, 1) := by decide +kernel
theorem dL_law_866 : decode cL_law 866 = .ok (.iadd, 1) := by decide +kernel
theorem dL_law_867 : decode cL_law 867 = .ok (.iaload, 1) := by decide +kernel
theorem dL_law_868 : decode cL_law 868 = .ok (.i2l, 1) := by decide +kernel
theorem dL_law_869 : decode cL_law 869 = .ok (.ldc2_w 18, 3) := by decide +kernel
theorem dL_law_872 : decode cL_law 872 = .ok (.land, 1) := by decide +kernel
theorem dL_law_873 : decode cL_law 873 = .ok (.lor, 1) := by decide +kernel
theorem dL_law_874 : decode cL_law 874 = .ok (.invokevirtual 104, 3) := by decide +kernel
theorem dL_law_877 : decode cL_law 877 = .ok (.aload_n 2, 1) := by decide +kernel
theorem dL_law_878 : decode cL_law 878 = .ok (.aload_n 0, 1) := by decide +kernel
theorem dL_law_879 : decode cL_law 879 = .ok (.iload_n 3, 1) := by decide +kernel
theorem dL_law_880 : decode cL_law 880 = .ok (.iconst 1, 1) := by decide +kernel
theorem dL_law_881 : decode cL_law 881 = .ok (.iadd, 1) := by decide +kernel
theorem dL_law_882 : decode cL_law 882 = .ok (.iaload, 1) := by decide +kernel
theorem dL_law_883 : decode cL_law 883 = .ok (.i2l, 1) := by decide +kernel
theorem dL_law_884 : decode cL_law 884 = .ok (.bipush 32, 2) := by decide +kernel
theorem dL_law_886 : decode cL_law 886 = .ok (.lshl, 1) := by decide +kernel
theorem dL_law_887 : decode cL_law 887 = .ok (.aload_n 0, 1) := by decide +kernel
theorem dL_law_888 : decode cL_law 888 = .ok (.iload_n 3, 1) := by decide +kernel
theorem dL_law_889 : decode cL_law 889 = .ok (.iconst 2, 1) := by decide +kernel
theorem dL_law_890 : decode cL_law 890 = .ok (.iadd, 1) := by decide +kernel
theorem dL_law_891 : decode cL_law 891 = .ok (.iaload, 1) := by decide +kernel
theorem dL_law_892 : decode cL_law 892 = .ok (.i2l, 1) := by decide +kernel
theorem dL_law_893 : decode cL_law 893 = .ok (.ldc2_w 18, 3) := by decide +kernel
theorem dL_law_896 : decode cL_law 896 = .ok (.land, 1) := by decide +kernel
theorem dL_law_897 : decode cL_law 897 = .ok (.lor, 1) := by decide +kernel
theorem dL_law_898 : decode cL_law 898 = .ok (.invokevirtual 108, 3) := by decide +kernel
theorem dL_law_901 : decode cL_law 901 = .ok (.if_icmp .eq 61, 3) := by decide +kernel
theorem dL_law_904 : decode cL_law 904 = .ok (.iconst 0, 1) := by decide +kernel
theorem dL_law_905 : decode cL_law 905 = .ok (.ireturn, 1) := by decide +kernel
theorem dL_law_906 : decode cL_law 906 = .ok (.aload_n 1, 1) := by decide +kernel
theorem dL_law_907 : decode cL_law 907 = .ok (.aload_n 0, 1) := by decide +kernel
theorem dL_law_908 : decode cL_law 908 = .ok (.iload_n 3, 1) := by decide +kernel
theorem dL_law_909 : decode cL_law 909 = .ok (.iconst 1, 1) := by decide +kernel
theorem dL_law_910 : decode cL_law 910 = .ok (.iadd, 1) := by decide +kernel
theorem dL_law_911 : decode cL_law 911 = .ok (.iaload, 1) := by decide +kernel
theorem dL_law_912 : decode cL_law 912 = .ok (.aload_n 0, 1) := by decide +kernel
theorem dL_law_913 : decode cL_law 913 = .ok (.iload_n 3, 1) := by decide +kernel
theorem dL_law_914 : decode cL_law 914 = .ok (.iconst 2, 1) := by decide +kernel
theorem dL_law_915 : decode cL_law 915 = .ok (.iadd, 1) := by decide +kernel
theorem dL_law_916 : decode cL_law 916 = .ok (.iaload, 1) := by decide +kernel
theorem dL_law_917 : decode cL_law 917 = .ok (.invokevirtual 109, 3) := by decide +kernel
theorem dL_law_920 : decode cL_law 920 = .ok (.aload_n 2, 1) := by decide +kernel
theorem dL_law_921 : decode cL_law 921 = .ok (.aload_n 0, 1) := by decide +kernel
theorem dL_law_922 : decode cL_law 922 = .ok (.iload_n 3, 1) := by decide +kernel
theorem dL_law_923 : decode cL_law 923 = .ok (.iconst 1, 1) := by decide +kernel
theorem dL_law_924 : decode cL_law 924 = .ok (.iadd, 1) := by decide +kernel
theorem dL_law_925 : decode cL_law 925 = .ok (.iaload, 1) := by decide +kernel
theorem dL_law_926 : decode cL_law 926 = .ok (.aload_n 0, 1) := by decide +kernel
theorem dL_law_927 : decode cL_law 927 = .ok (.iload_n 3, 1) := by decide +kernel
theorem dL_law_928 : decode cL_law 928 = .ok (.iconst 2, 1) := by decide +kernel
theorem dL_law_929 : decode cL_law 929 = .ok (.iadd, 1) := by decide +kernel
theorem dL_law_930 : decode cL_law 930 = .ok (.iaload, 1) := by decide +kernel
theorem dL_law_931 : decode cL_law 931 = .ok (.invokevirtual 112, 3) := by decide +kernel
theorem dL_law_934 : decode cL_law 934 = .ok (.if_icmp .eq 28, 3) := by decide +kernel
theorem dL_law_937 : decode cL_law 937 = .ok (.iconst 0, 1) := by decide +kernel
theorem dL_law_938 : decode cL_law 938 = .ok (.ireturn, 1) := by decide +kernel
theorem dL_law_939 : decode cL_law 939 = .ok (.aload_n 1, 1) := by decide +kernel
theorem dL_law_940 : decode cL_law 940 = .ok (.aload_n 0, 1) := by decide +kernel
theorem dL_law_941 : decode cL_law 941 = .ok (.iload_n 3, 1) := by decide +kernel
theorem dL_law_942 : decode cL_law 942 = .ok (.iconst 1, 1) := by decide +kernel
theorem dL_law_943 : decode cL_law 943 = .ok (.iadd, 1) := by decide +kernel
theorem dL_law_944 : decode cL_law 944 = .ok (.iaload, 1) := by decide +kernel
theorem dL_law_945 : decode cL_law 945 = .ok (.invokevirtual 113, 3) := by decide +kernel
theorem dL_law_948 : decode cL_law 948 = .ok (.aload_n 2, 1) := by decide +kernel
theorem dL_law_949 : decode cL_law 949 = .ok (.aload_n 0, 1) := by decide +kernel
theorem dL_law_950 : decode cL_law 950 = .ok (.iload_n 3, 1) := by decide +kernel
theorem dL_law_951 : decode cL_law 951 = .ok (.iconst 1, 1) := by decide +kernel
theorem dL_law_952 : decode cL_law 952 = .ok (.iadd, 1) := by decide +kernel
theorem dL_law_953 : decode cL_law 953 = .ok (.iaload, 1) := by decide +kernel
theorem dL_law_954 : decode cL_law 954 = .ok (.invokevirtual 116, 3) := by decide +kernel
theorem dL_law_957 : decode cL_law 957 = .ok (.if_icmp .eq 5, 3) := by decide +kernel
theorem dL_law_960 : decode cL_law 960 = .ok (.iconst 0, 1) := by decide +kernel
theorem dL_law_961 : decode cL_law 961 = .ok (.ireturn, 1) := by decide +kernel
theorem dL_law_962 : decode cL_law 962 = .ok (.iinc 3 6, 3) := by decide +kernel
theorem dL_law_965 : decode cL_law 965 = .ok (.goto (-947), 3) := by decide +kernel
theorem dL_law_968 : decode cL_law 968 = .ok (.iconst 1, 1) := by decide +kernel
theorem dL_law_969 : decode cL_law 969 = .ok (.ireturn, 1) := by decide +kernel
end
section
/-! THE JUDGEMENTS: a method's walk, and its contract, over a small world of cells: a list of cells, whose places are the references (place 0 stands for the law's script) -/
abbrev Cel : Type := (Nat × ((Nat → Int32) ⊕ (Nat → Int64) ⊕ (Nat → Option Nat))) ⊕ (Nat × List Value)
abbrev Wd : Type := List Cel
/-- own class, name, code, locals, what it answers, how deep its calls go -/
abbrev Mt : Type := String × MethodName × ByteArray × Nat × Option FieldType × Nat
abbrev aI (n : Nat) (f : Nat → Int32) : Cel := .inl (n, .inl f)
abbrev aJ (n : Nat) (f : Nat → Int64) : Cel := .inl (n, .inr (.inl f))
abbrev aR (n : Nat) (f : Nat → Option Nat) : Cel := .inl (n, .inr (.inr f))
abbrev oB (c : Nat) (fs : List Value) : Cel := .inr (c, fs)
abbrev scrC : Cel := aR 0 (fun _ => none)
abbrev dmy : Value := .retAddr 0
def adr (b B i : Nat) : Nat := if i = 0 then b else B + i
theorem adr_pos {b B i : Nat} (h : i ≠ 0) : adr b B i = B + i := if_neg h
def rv (b B : Nat) : Value → Value
  | .ref i => .ref (adr b B i)
  | v => v
theorem rv_cat (b B : Nat) (v : Value) : (rv b B v).category = v.category := by cases v <;> rfl
def rzE (b B : Nat) (cI cJ cR : ClassId) : Cel → va_E
  | .inl (n, .inl f) => .inl (cI, n, .inl f)
  | .inl (n, .inr (.inl f)) => .inl (cJ, n, .inr (.inl f))
  | .inl (n, .inr (.inr f)) => .inl (cR, n, .inr (.inr (.inr (.inr (fun k => (f k).map (adr b B))))))
  | .inr (c, fs) => .inr (c, fs.map (rv b B))
def szE : Cel → Nat
  | .inl (n, _) => n
  | .inr (_, fs) => fs.length
def tot : Wd → Nat
  | [] => 0
  | e :: w => szE e + tot w
theorem tot_app (w v : Wd) : tot (w ++ v) = tot w + tot v := by
  induction w with
  | nil => simp [tot]
  | cons a w ih => simp [tot, ih, Nat.add_assoc]
theorem tot_set (w : Wd) : ∀ (i : Nat) (e0 e : Cel), w[i]? = some e0 → szE e = szE e0 → tot (w.set i e) = tot w := by
  induction w with
  | nil => intro i e0 e h; simp at h
  | cons a w ih =>
    intro i e0 e h hs
    cases i with
    | zero =>
      simp at h
      subst h
      simp [tot, hs]
    | succ i =>
      simp at h
      simp [tot, ih i e0 e h hs]
/-- the heap holds the world: its cells stand behind B, one after another -/
def RZ (dC : Nat → ClassId) (dI : Nat → Nat → Nat) (cI cJ cR : ClassId) (b B : Nat) (w : Wd) (H : Heap) : Prop :=
  w[0]? = some scrC ∧ H.size = B + w.length ∧ ∀ (i : Nat) (e : Cel), i ≠ 0 → w[i]? = some e → va_at (dC, dI) vwCl (B + i, rzE b B cI cJ cR e) H
theorem RZ.set {dC : Nat → ClassId} {dI : Nat → Nat → Nat} {cI cJ cR : ClassId} {b B : Nat} {w : Wd} {H H1 : Heap} (h : RZ dC dI cI cJ cR b B w H) {i : Nat} (hi : i ≠ 0) {e : Cel}
    (he : va_at (dC, dI) vwCl (B + i, rzE b B cI cJ cR e) H1) (z : H1.size = H.size) (oq : ∀ q : Nat, q ≠ B + i → H1[q]? = H[q]?) : RZ dC dI cI cJ cR b B (w.set i e) H1 := by
  obtain ⟨h0, h1, h2⟩ := h
  refine ⟨?_, by rw [z, h1, List.length_set], fun j e' hj hw => ?_⟩
  · rw [List.getElem?_set_ne hi]; exact h0
  · by_cases hji : i = j
    · subst hji
      by_cases hl : i < w.length
      · rw [List.getElem?_set_self hl] at hw
        cases hw
        exact he
      · rw [List.getElem?_eq_none (by rw [List.length_set]; omega)] at hw
        cases hw
    · rw [List.getElem?_set_ne hji] at hw
      exact (h2 j e' hj hw).kept (oq _ (by show B + j ≠ B + i; omega))
theorem RZ.pos {dC : Nat → ClassId} {dI : Nat → Nat → Nat} {cI cJ cR : ClassId} {b B : Nat} {w : Wd} {H : Heap} (h : RZ dC dI cI cJ cR b B w H) : 0 < w.length := by
  have h0 := h.1
  cases w with
  | nil => simp at h0
  | cons a w => simp
theorem RZ.push {dC : Nat → ClassId} {dI : Nat → Nat → Nat} {cI cJ cR : ClassId} {b B : Nat} {w : Wd} {H H1 : Heap} (h : RZ dC dI cI cJ cR b B w H) {e : Cel}
    (he : va_at (dC, dI) vwCl (H.size, rzE b B cI cJ cR e) H1) (z : H1.size = H.size + 1) (oq : ∀ q : Nat, q < H.size → H1[q]? = H[q]?) : RZ dC dI cI cJ cR b B (w ++ [e]) H1 := by
  have hp := h.pos
  obtain ⟨h0, h1, h2⟩ := h
  refine ⟨by rw [List.getElem?_append_left hp]; exact h0, by rw [z, h1, List.length_append]; rfl, fun j e' hj hw => ?_⟩
  by_cases hl : j < w.length
  · rw [List.getElem?_append_left hl] at hw
    exact (h2 j e' hj hw).kept (oq _ (by show B + j < _; omega))
  · rw [List.getElem?_append_right (by omega)] at hw
    have hz : j - w.length < 1 := (List.getElem?_eq_some_iff.mp hw).1
    have ej : j = w.length := by omega
    subst ej
    rw [Nat.sub_self] at hw
    cases hw
    rw [h1] at he
    exact he
theorem RZ.obj {dC : Nat → ClassId} {dI : Nat → Nat → Nat} {cI cJ cR : ClassId} {b B : Nat} {w : Wd} {H : Heap} (h : RZ dC dI cI cJ cR b B w H) {i c : Nat} {fs : List Value} (hw : w[i]? = some (oB c fs)) : i ≠ 0 ∧ va_at (dC, dI) vwCl (B + i, .inr (c, fs.map (rv b B))) H := by
  have hi : i ≠ 0 := fun e => by subst e; rw [h.1] at hw; cases hw
  exact ⟨hi, h.2.2 i _ hi hw⟩
theorem RZ.arI {dC : Nat → ClassId} {dI : Nat → Nat → Nat} {cI cJ cR : ClassId} {b B : Nat} {w : Wd} {H : Heap} (h : RZ dC dI cI cJ cR b B w H) {i n : Nat} {f : Nat → Int32} (hw : w[i]? = some (aI n f)) : i ≠ 0 ∧ va_at (dC, dI) vwCl (B + i, .inl (cI, n, .inl f)) H := by
  have hi : i ≠ 0 := fun e => by subst e; rw [h.1] at hw; cases hw
  exact ⟨hi, h.2.2 i _ hi hw⟩
theorem RZ.arJ {dC : Nat → ClassId} {dI : Nat → Nat → Nat} {cI cJ cR : ClassId} {b B : Nat} {w : Wd} {H : Heap} (h : RZ dC dI cI cJ cR b B w H) {i n : Nat} {f : Nat → Int64} (hw : w[i]? = some (aJ n f)) : i ≠ 0 ∧ va_at (dC, dI) vwCl (B + i, .inl (cJ, n, .inr (.inl f))) H := by
  have hi : i ≠ 0 := fun e => by subst e; rw [h.1] at hw; cases hw
  exact ⟨hi, h.2.2 i _ hi hw⟩
theorem RZ.arR {dC : Nat → ClassId} {dI : Nat → Nat → Nat} {cI cJ cR : ClassId} {b B : Nat} {w : Wd} {H : Heap} (h : RZ dC dI cI cJ cR b B w H) {i n : Nat} {f : Nat → Option Nat} (hn : 0 < n) (hw : w[i]? = some (aR n f)) : i ≠ 0 ∧ va_at (dC, dI) vwCl (B + i, .inl (cR, n, .inr (.inr (.inr (.inr (fun k => (f k).map (adr b B))))))) H := by
  have hi : i ≠ 0 := fun e => by
    subst e
    rw [h.1] at hw
    have h2 := Option.some.inj hw
    simp only [Sum.inl.injEq, Prod.mk.injEq] at h2
    omega
  exact ⟨hi, h.2.2 i _ hi hw⟩
/-- locals: place by place; a place that isn't known holds dmy (any retAddr) -/
def LH (b B : Nat) (ls : Array Slot) (nL : Nat) (lv : List Value) : Prop := ls.size = nL ∧ lv_wf ls ∧ ∀ (i : Nat) (v : Value), lv[i]? = some v → (∃ n, v = .retAddr n) ∨ ls[i]? = some (.val (rv b B v))
theorem LH.at {b B : Nat} {ls : Array Slot} {nL : Nat} {lv : List Value} (h : LH b B ls nL lv) {i : Nat} {v : Value} (hi : lv[i]? = some v) (hv : ∀ n, v ≠ .retAddr n) : ls[i]? = some (.val (rv b B v)) := (h.2.2 i v hi).resolve_left (fun ⟨n, e⟩ => hv n e)
/-- what is told of the locals, as the kit says it -/
def lvP (b B : Nat) : Nat → List Value → List (Nat × Value)
  | _, [] => []
  | k, v :: l => match v with
    | .retAddr _ => lvP b B (k + 1) l
    | v => (k, rv b B v) :: lvP b B (k + 1) l
theorem lvP_mem {b B : Nat} : ∀ (l : List Value) (k : Nat) (q : Nat × Value), q ∈ lvP b B k l → ∃ (j : Nat) (v : Value), q = (k + j, rv b B v) ∧ l[j]? = some v ∧ ∀ n, v ≠ .retAddr n
  | [], k, q, h => by cases h
  | v :: l, k, q, h => by
    have tail : q ∈ lvP b B (k + 1) l → ∃ (j : Nat) (u : Value), q = (k + j, rv b B u) ∧ (v :: l)[j]? = some u ∧ ∀ n, u ≠ .retAddr n := fun h => by
      obtain ⟨j, u, h1, h2, h3⟩ := lvP_mem l (k + 1) q h
      exact ⟨j + 1, u, by rw [h1, show k + 1 + j = k + (j + 1) by omega], by simpa using h2, h3⟩
    cases v with
    | retAddr n => exact tail h
    | _ =>
      simp only [lvP, List.mem_cons] at h
      rcases h with h | h
      · exact ⟨0, _, by simpa using h, rfl, fun n e => by cases e⟩
      · exact tail h
theorem lvP_in {b B : Nat} : ∀ (l : List Value) (k j : Nat) (v : Value), l[j]? = some v → (∀ n, v ≠ .retAddr n) → (k + j, rv b B v) ∈ lvP b B k l
  | [], k, j, v, h, _ => by simp at h
  | u :: l, k, j, v, h, hv => by
    cases j with
    | zero =>
      simp at h
      subst h
      cases u with
      | retAddr n => exact absurd rfl (hv n)
      | _ => simp [lvP]
    | succ j =>
      simp at h
      have := lvP_in (b := b) (B := B) l (k + 1) j v h hv
      rw [show k + 1 + j = k + (j + 1) by omega] at this
      cases u with
      | retAddr n => exact this
      | _ => exact List.mem_cons_of_mem _ this
theorem LH.has {b B : Nat} {ls : Array Slot} {nL : Nat} {lv : List Value} (h : LH b B ls nL lv) : lv_has ls nL (lvP b B 0 lv) := by
  refine ⟨h.1, h.2.1, fun q hq => ?_⟩
  obtain ⟨j, v, h1, h2, h3⟩ := lvP_mem lv 0 q hq
  subst h1
  simp only [Nat.zero_add]
  exact h.at h2 h3
/-- a store: what stood at the place goes, and a long that it cuts -/
def cut (lv : List Value) : Nat → List Value
  | 0 => lv
  | i + 1 => match lv[i]? with
    | some (.long _) => lv.set i dmy
    | some (.double _) => lv.set i dmy
    | _ => lv
def lset (lv : List Value) (i : Nat) (v : Value) : List Value := (cut lv i).set i v
def lset2 (lv : List Value) (i : Nat) (v : Value) : List Value := ((cut lv i).set i v).set (i + 1) dmy
theorem get_set {α : Type} {l : List α} {i j : Nat} {x y : α} (h : (l.set i x)[j]? = some y) : (i = j ∧ y = x) ∨ (i ≠ j ∧ l[j]? = some y) := by
  by_cases hji : i = j
  · subst hji
    by_cases hl : i < l.length
    · rw [List.getElem?_set_self hl] at h
      cases h
      exact Or.inl ⟨rfl, rfl⟩
    · rw [List.getElem?_eq_none (by rw [List.length_set]; omega)] at h
      cases h
  · rw [List.getElem?_set_ne hji] at h
    exact Or.inr ⟨hji, h⟩
theorem cut_get {lv : List Value} {i j : Nat} {v : Value} (h : (cut lv i)[j]? = some v) : v = dmy ∨ (lv[j]? = some v ∧ ¬ (j + 1 = i ∧ v.category = 2)) := by
  cases i with
  | zero => exact Or.inr ⟨h, fun e => by omega⟩
  | succ i =>
    have key : (lv.set i dmy)[j]? = some v → v = dmy ∨ (lv[j]? = some v ∧ ¬ (j + 1 = i + 1 ∧ v.category = 2)) := fun h => by
      rcases get_set h with ⟨-, h1⟩ | ⟨h1, h2⟩
      · exact Or.inl h1
      · exact Or.inr ⟨h2, fun e => by omega⟩
    have hc : cut lv (i + 1) = match lv[i]? with
      | some (.long _) => lv.set i dmy
      | some (.double _) => lv.set i dmy
      | _ => lv := rfl
    rw [hc] at h
    split at h
    · exact key h
    · exact key h
    · rename_i hn1 hn2
      refine Or.inr ⟨h, fun e => ?_⟩
      have ej : j = i := by omega
      subst ej
      cases v with
      | long x => exact hn1 x h
      | double x => exact hn2 x h
      | _ => simp [Value.category] at e
theorem LH.stored {b B : Nat} {ls' : Array Slot} {nL : Nat} {lv : List Value} {i : Nat} {v : Value} (h : lv_has ls' nL ((i, rv b B v) :: (lvP b B 0 lv).filter (fun q => !(q.1 == i) && !(q.1 + 1 == i && q.2.category == 2)))) : LH b B ls' nL (lset lv i v) := by
  refine ⟨h.1, h.2.1, fun j u hj => ?_⟩
  rcases get_set hj with ⟨hji, e⟩ | ⟨hji, hj⟩
  · subst hji; subst e
    exact Or.inr (h.2.2 (i, rv b B u) List.mem_cons_self)
  · rcases cut_get hj with h1 | ⟨h1, h2⟩
    · exact Or.inl ⟨0, h1⟩
    · by_cases hd : ∃ n, u = .retAddr n
      · exact Or.inl hd
      · refine Or.inr (h.2.2 (j, rv b B u) (List.mem_cons_of_mem _ (List.mem_filter.mpr ⟨?_, ?_⟩)))
        · have := lvP_in (b := b) (B := B) lv 0 j u h1 (fun n e => hd ⟨n, e⟩)
          rwa [Nat.zero_add] at this
        · have e1 : (j == i) = false := by simpa using Ne.symm hji
          simp only [rv_cat, e1]
          by_cases hc : u.category = 2
          · have e2 : (j + 1 == i) = false := by simpa using fun e => h2 ⟨e, hc⟩
            simp [e2]
          · have e2 : (u.category == 2) = false := by simpa using hc
            simp [e2]
theorem LH.stored2 {b B : Nat} {ls' : Array Slot} {nL : Nat} {lv : List Value} {i : Nat} {v : Value} (h : lv_has ls' nL ((i, rv b B v) :: (lvP b B 0 lv).filter (fun q => !(q.1 == i) && (!(q.1 == i + 1) && !(q.1 + 1 == i && q.2.category == 2))))) : LH b B ls' nL (lset2 lv i v) := by
  refine ⟨h.1, h.2.1, fun j u hj => ?_⟩
  rcases get_set hj with ⟨-, e⟩ | ⟨hji2, hj⟩
  · exact Or.inl ⟨0, e⟩
  · rcases get_set hj with ⟨hji, e⟩ | ⟨hji, hj⟩
    · subst hji; subst e
      exact Or.inr (h.2.2 (i, rv b B u) List.mem_cons_self)
    · rcases cut_get hj with h1 | ⟨h1, h2⟩
      · exact Or.inl ⟨0, h1⟩
      · by_cases hd : ∃ n, u = .retAddr n
        · exact Or.inl hd
        · refine Or.inr (h.2.2 (j, rv b B u) (List.mem_cons_of_mem _ (List.mem_filter.mpr ⟨?_, ?_⟩)))
          · have := lvP_in (b := b) (B := B) lv 0 j u h1 (fun n e => hd ⟨n, e⟩)
            rwa [Nat.zero_add] at this
          · have e1 : (j == i) = false := by simpa using Ne.symm hji
            have e3 : (j == i + 1) = false := by simpa using Ne.symm hji2
            simp only [rv_cat, e1, e3]
            by_cases hc : u.category = 2
            · have e2 : (j + 1 == i) = false := by simpa using fun e => h2 ⟨e, hc⟩
              simp [e2]
            · have e2 : (u.category == 2) = false := by simpa using hc
              simp [e2]
/-- what a method begins with -/
def lve : List Value → List Value
  | [] => []
  | v :: l => if v.category = 2 then v :: dmy :: lve l else v :: lve l
theorem lve_get {b B : Nat} : ∀ (vs : List Value) (X : List Slot) (i : Nat) (v : Value), (lve vs)[i]? = some v → v = dmy ∨ (lg_sl (vs.map (rv b B)) ++ X)[i]? = some (.val (rv b B v))
  | [], X, i, v, h => by simp [lve] at h
  | u :: vs, X, i, v, h => by
    have el : lg_sl ((u :: vs).map (rv b B)) = (if u.category = 2 then [.val (rv b B u), .second] else [.val (rv b B u)]) ++ lg_sl (vs.map (rv b B)) := by simp [lg_sl, rv_cat]
    rw [el]
    unfold lve at h
    by_cases hc : u.category = 2
    · rw [if_pos hc] at h ⊢
      match i, h with
      | 0, h => simp at h; exact Or.inr (by simp [h])
      | 1, h => simp at h; exact Or.inl h.symm
      | i + 2, h =>
        simp at h
        rcases lve_get vs X i v h with h1 | h1
        · exact Or.inl h1
        · exact Or.inr (by simpa using h1)
    · rw [if_neg hc] at h ⊢
      match i, h with
      | 0, h => simp at h; exact Or.inr (by simp [h])
      | i + 1, h =>
        simp at h
        rcases lve_get vs X i v h with h1 | h1
        · exact Or.inl h1
        · exact Or.inr (by simpa using h1)
/-- LH of fewer places -/
theorem LH.less {b B : Nat} {ls : Array Slot} {nL : Nat} {lv lv' : List Value} (h : LH b B ls nL lv) (hs : ∀ (i : Nat) (v : Value), lv'[i]? = some v → (∃ n, v = .retAddr n) ∨ lv[i]? = some v) : LH b B ls nL lv' :=
  ⟨h.1, h.2.1, fun i v hi => (hs i v hi).elim Or.inl (fun h1 => h.2.2 i v h1)⟩
theorem LH.drop {b B : Nat} {ls : Array Slot} {nL : Nat} {lv : List Value} (h : LH b B ls nL lv) (k : Nat) : LH b B ls nL (lv.set k dmy) :=
  h.less (fun i v hi => (get_set hi).elim (fun q => Or.inl ⟨0, q.2⟩) (fun q => Or.inr q.2))
/-! the tables' words: those that every method may have, and those of nest mates -/
def TG : List Cond := lw_tbl.filter goodWord
theorem TG_in {w : Cond} (h : w ∈ lw_tbl) (g : goodWord w = true) : w ∈ TG := List.mem_filter.mpr ⟨h, g⟩
theorem TG_good {w : Cond} (h : w ∈ TG) : goodWord w = true := (List.mem_filter.mp h).2
def isN : Cond → Bool
  | .fieldLinkNest .. => true
  | .methodLinkNest .. => true
  | _ => false
def KX (dC : Nat → ClassId) (dI : Nat → Nat → Nat) (cI cJ cR : ClassId) (U : State) : Prop := va_K (dC, dI) vwCl [(cI, .int), (cJ, .long), (cR, .object RX4)] U ∧ (∀ w ∈ lw_tbl, isN w = true → va_Nw w U) ∧ va_AO RX4 U
theorem KX.warm {dC : Nat → ClassId} {dI : Nat → Nat → Nat} {cI cJ cR : ClassId} {s U : State} (hW : s.WarmedH U.vm) (h : KX dC dI cI cJ cR s) : KX dC dI cI cJ cR U := by
  refine ⟨va_K.moved hW.alike h.1, fun w hw hn => ?_, h.2.2.moved hW.alike⟩
  have := h.2.1 w hw hn
  cases w <;> first | exact this.warmF hW | exact this.warmM hW | (simp [isN] at hn)
theorem KX.same {dC : Nat → ClassId} {dI : Nat → Nat → Nat} {cI cJ cR : ClassId} {U : State} {g : JFrame} {mk : MethodId} {a : Array Value} (h : KX dC dI cI cJ cR U) : KX dC dI cI cJ cR (U.calling g mk a) := by
  refine ⟨va_K.moved (u := U) (U := U.calling g mk a) (Vm.Alike.refl U.vm) h.1, fun w hw hn => ?_, h.2.2.moved (u := U) (U := U.calling g mk a) (Vm.Alike.refl U.vm)⟩
  have := h.2.1 w hw hn
  cases w <;> first | exact this.same rfl rfl | (simp [isN] at hn)
/-- what a return instruction gives back -/
def RetOK (ty : Option FieldType) (ins : Instr) (r : Option Value) : Prop :=
  (ins = .ireturn ∧ ty = some .int ∧ ∃ x, r = some (.int x)) ∨ (ins = .ireturn ∧ ty = some .boolean ∧ ∃ x, r = some (.int x) ∧ x &&& 1 = x) ∨ (ins = .lreturn ∧ ty = some .long ∧ ∃ x, r = some (.long x)) ∨
  (ins = .return_ ∧ ty = none ∧ r = none) ∨ (ins = .areturn ∧ (∃ n, ty = some (.object n)) ∧ ∃ i, r = some (.ref i))
/-- a method's contract: from the world w it answers r, and leaves the world w' -/
def QX (dC : Nat → ClassId) (dI : Nat → Nat → Nat) (cI cJ cR : ClassId) (b B : Nat) (r : Option Value) (w' : Wd) : Array Value → State → Outcome → State → Prop := fun _ st oc t =>
  (oc = .returned (r.map (rv b B)) ∧ RZ dC dI cI cJ cR b B w' t.heap) ∧ va_F (fun q => B < q) st t
def PX (dC : Nat → ClassId) (dI : Nat → Nat → Nat) (cI cJ cR : ClassId) (b B : Nat) (As : List Value) (w : Wd) : Array Value → State → Prop := fun v U =>
  v = (As.map (rv b B)).toArray ∧ RZ dC dI cI cJ cR b B w U.heap ∧ B < U.heap.size ∧ KX dC dI cI cJ cR U
def rmO (M : Mt) (w w' : Wd) : Room := { frames := M.2.2.2.2.2, cells := w'.length - w.length, slots := tot w' - tot w, locals := 40 * M.2.2.2.2.2 }
def wsO (M : Mt) : List Cond := Cond.code M.2.1 M.2.2.1 M.2.2.2.1 M.2.2.2.2.1 :: TG
def CW (M : Mt) (As : List Value) (w : Wd) (r : Option Value) (w' : Wd) : Prop :=
  (w.length ≤ w'.length ∧ tot w ≤ tot w') ∧ ∀ (l : Launch) (dC : Nat → ClassId) (dI : Nat → Nat → Nat) (cI cJ cR : ClassId) (b B : Nat),
    Met l M.2.1 (wsO M) (rmO M w w') (PX dC dI cI cJ cR b B As w) (QX dC dI cI cJ cR b B r w') (w'.length - w.length) (tot w' - tot w) (fun q => B < q)
/-- what stands fast while a method's body is walked -/
def CX (M : Mt) (sc : Option (Nat × (Nat → Int32))) (r : Option Value) (w' : Wd) (p : Program) (l : Launch) (e : Env) (R : Room) (s : State) (m : MethodId) (args : Array Value) (below : List Frame) (meth : Method) (c : Code) (Z : State → Prop) (dC : Nat → ClassId) (dI : Nat → Nat → Nat) (cI cJ cR : ClassId) (b B n0 t0 : Nat) : Prop :=
  p.tables.exec = Jvm.exec ∧ c.code = M.2.2.1 ∧ c.maxLocals = M.2.2.2.1 ∧ s.vm.findClass M.1 = some m.cls ∧ (∀ w ∈ TG, w.before args s = true) ∧ KX dC dI cI cJ cR s ∧
  (∀ L xs, sc = some (L, xs) → va_X b L xs s s.heap ∧ b < s.heap.size ∧ b ≤ B) ∧ B < s.heap.size ∧ (M.2.2.2.2.2 ≤ R.frames ∧ 40 * M.2.2.2.2.2 ≤ R.locals ∧ w'.length - n0 ≤ R.cells ∧ tot w' - t0 ≤ R.slots) ∧ (M.2.1.name = "<init>" → meth.name = "<init>") ∧
  ∀ (H : Heap) (locs : List Loc) (pc : Nat) (ls : Array Slot) (ins : Instr), RZ dC dI cI cJ cR b B w' H → va_S (fun q => B < q) s.heap H locs → decode M.2.2.1 pc = .ok (ins, 1) → RetOK M.2.2.2.2.1 ins r →
    W p l e R s m args below meth c H locs (w'.length - n0) (tot w' - t0) Z (F0 m pc ls (r.map (rv b B)).toList)
/-- the walk: from pc, with these locals and this stack, in the world w, the method comes to its end with r and w' -/
def EW (M : Mt) (sc : Option (Nat × (Nat → Int32))) (pc : Nat) (lv st : List Value) (w : Wd) (r : Option Value) (w' : Wd) : Prop :=
  (w.length ≤ w'.length ∧ tot w ≤ tot w') ∧ ∀ (p : Program) (l : Launch) (e : Env) (R : Room) (s : State) (m : MethodId) (args : Array Value) (below : List Frame) (meth : Method) (c : Code) (Z : State → Prop) (dC : Nat → ClassId) (dI : Nat → Nat → Nat) (cI cJ cR : ClassId) (b B n0 t0 : Nat),
    CX M sc r w' p l e R s m args below meth c Z dC dI cI cJ cR b B n0 t0 → n0 ≤ w.length → t0 ≤ tot w → ∀ (H : Heap) (locs : List Loc) (ls : Array Slot), RZ dC dI cI cJ cR b B w H → va_S (fun q => B < q) s.heap H locs → LH b B ls M.2.2.2.1 lv →
      W p l e R s m args below meth c H locs (w.length - n0) (tot w - t0) Z (F0 m pc ls (st.map (rv b B)))
end
section
/-! RULES: an instruction, a rule (written by a program) -/
theorem e_iconst {M : Mt} {sc : Option (Nat × (Nat → Int32))} {pc : Nat} {lv st : List Value} {w : Wd} {r : Option Value} {w' : Wd} {n : Int} (hd : decode M.2.2.1 pc = .ok (.iconst n, 1))
    (k : EW M sc (pc + 1) lv (.int (Int32.ofInt n) :: st) w r w') : EW M sc pc lv st w r w' := by
  refine ⟨k.1, ?_⟩
  intro p l e R s m args below meth c Z dC dI cI cJ cR b B n0 t0 hC hn ht H locs ls hR hS hL
  exact lv_iconst hC.1 hC.2.1 hd rfl (k.2 p l e R s m args below meth c Z dC dI cI cJ cR b B n0 t0 hC hn ht H locs ls hR hS hL)
theorem e_bipush {M : Mt} {sc : Option (Nat × (Nat → Int32))} {pc : Nat} {lv st : List Value} {w : Wd} {r : Option Value} {w' : Wd} {n : Int} (hd : decode M.2.2.1 pc = .ok (.bipush n, 2))
    (k : EW M sc (pc + 2) lv (.int (Int8.ofInt n).toInt32 :: st) w r w') : EW M sc pc lv st w r w' := by
  refine ⟨k.1, ?_⟩
  intro p l e R s m args below meth c Z dC dI cI cJ cR b B n0 t0 hC hn ht H locs ls hR hS hL
  exact lv_bipush hC.1 hC.2.1 hd rfl (k.2 p l e R s m args below meth c Z dC dI cI cJ cR b B n0 t0 hC hn ht H locs ls hR hS hL)
theorem e_sipush {M : Mt} {sc : Option (Nat × (Nat → Int32))} {pc : Nat} {lv st : List Value} {w : Wd} {r : Option Value} {w' : Wd} {n : Int} (hd : decode M.2.2.1 pc = .ok (.sipush n, 3))
    (k : EW M sc (pc + 3) lv (.int (Int16.ofInt n).toInt32 :: st) w r w') : EW M sc pc lv st w r w' := by
  refine ⟨k.1, ?_⟩
  intro p l e R s m args below meth c Z dC dI cI cJ cR b B n0 t0 hC hn ht H locs ls hR hS hL
  exact lv_sipush hC.1 hC.2.1 hd rfl (k.2 p l e R s m args below meth c Z dC dI cI cJ cR b B n0 t0 hC hn ht H locs ls hR hS hL)
theorem e_lconst {M : Mt} {sc : Option (Nat × (Nat → Int32))} {pc : Nat} {lv st : List Value} {w : Wd} {r : Option Value} {w' : Wd} {n : Fin 2} (hd : decode M.2.2.1 pc = .ok (.lconst n, 1))
    (k : EW M sc (pc + 1) lv (.long (Int64.ofNat (n : Nat)) :: st) w r w') : EW M sc pc lv st w r w' := by
  refine ⟨k.1, ?_⟩
  intro p l e R s m args below meth c Z dC dI cI cJ cR b B n0 t0 hC hn ht H locs ls hR hS hL
  exact lv_lconst hC.1 hC.2.1 hd rfl (k.2 p l e R s m args below meth c Z dC dI cI cJ cR b B n0 t0 hC hn ht H locs ls hR hS hL)
theorem e_iload_n {M : Mt} {sc : Option (Nat × (Nat → Int32))} {pc : Nat} {lv st : List Value} {w : Wd} {r : Option Value} {w' : Wd} {n : Fin 4} {x : Int32} (hd : decode M.2.2.1 pc = .ok (.iload_n n, 1)) (hl : lv[(n : Nat)]? = some (.int x))
    (k : EW M sc (pc + 1) lv (.int x :: st) w r w') : EW M sc pc lv st w r w' := by
  refine ⟨k.1, ?_⟩
  intro p l e R s m args below meth c Z dC dI cI cJ cR b B n0 t0 hC hn ht H locs ls hR hS hL
  exact lv_iload_n hC.1 hC.2.1 hd rfl (hL.at hl (fun n h => by cases h)) (k.2 p l e R s m args below meth c Z dC dI cI cJ cR b B n0 t0 hC hn ht H locs ls hR hS hL)
theorem e_iload {M : Mt} {sc : Option (Nat × (Nat → Int32))} {pc : Nat} {lv st : List Value} {w : Wd} {r : Option Value} {w' : Wd} {n : Nat} {x : Int32} (hd : decode M.2.2.1 pc = .ok (.iload n, 2)) (hl : lv[n]? = some (.int x))
    (k : EW M sc (pc + 2) lv (.int x :: st) w r w') : EW M sc pc lv st w r w' := by
  refine ⟨k.1, ?_⟩
  intro p l e R s m args below meth c Z dC dI cI cJ cR b B n0 t0 hC hn ht H locs ls hR hS hL
  exact lv_iload hC.1 hC.2.1 hd (hL.at hl (fun n h => by cases h)) (k.2 p l e R s m args below meth c Z dC dI cI cJ cR b B n0 t0 hC hn ht H locs ls hR hS hL)
theorem e_lload_n {M : Mt} {sc : Option (Nat × (Nat → Int32))} {pc : Nat} {lv st : List Value} {w : Wd} {r : Option Value} {w' : Wd} {n : Fin 4} {x : Int64} (hd : decode M.2.2.1 pc = .ok (.lload_n n, 1)) (hl : lv[(n : Nat)]? = some (.long x))
    (k : EW M sc (pc + 1) lv (.long x :: st) w r w') : EW M sc pc lv st w r w' := by
  refine ⟨k.1, ?_⟩
  intro p l e R s m args below meth c Z dC dI cI cJ cR b B n0 t0 hC hn ht H locs ls hR hS hL
  exact lv_lload_n hC.1 hC.2.1 hd rfl (hL.at hl (fun n h => by cases h)) (k.2 p l e R s m args below meth c Z dC dI cI cJ cR b B n0 t0 hC hn ht H locs ls hR hS hL)
theorem e_lload {M : Mt} {sc : Option (Nat × (Nat → Int32))} {pc : Nat} {lv st : List Value} {w : Wd} {r : Option Value} {w' : Wd} {n : Nat} {x : Int64} (hd : decode M.2.2.1 pc = .ok (.lload n, 2)) (hl : lv[n]? = some (.long x))
    (k : EW M sc (pc + 2) lv (.long x :: st) w r w') : EW M sc pc lv st w r w' := by
  refine ⟨k.1, ?_⟩
  intro p l e R s m args below meth c Z dC dI cI cJ cR b B n0 t0 hC hn ht H locs ls hR hS hL
  exact lv_lload hC.1 hC.2.1 hd (hL.at hl (fun n h => by cases h)) (k.2 p l e R s m args below meth c Z dC dI cI cJ cR b B n0 t0 hC hn ht H locs ls hR hS hL)
theorem e_aload_n {M : Mt} {sc : Option (Nat × (Nat → Int32))} {pc : Nat} {lv st : List Value} {w : Wd} {r : Option Value} {w' : Wd} {n : Fin 4} {x : Nat} (hd : decode M.2.2.1 pc = .ok (.aload_n n, 1)) (hl : lv[(n : Nat)]? = some (.ref x))
    (k : EW M sc (pc + 1) lv (.ref x :: st) w r w') : EW M sc pc lv st w r w' := by
  refine ⟨k.1, ?_⟩
  intro p l e R s m args below meth c Z dC dI cI cJ cR b B n0 t0 hC hn ht H locs ls hR hS hL
  exact lv_aload_n hC.1 hC.2.1 hd rfl (hL.at hl (fun n h => by cases h)) (k.2 p l e R s m args below meth c Z dC dI cI cJ cR b B n0 t0 hC hn ht H locs ls hR hS hL)
theorem e_aload {M : Mt} {sc : Option (Nat × (Nat → Int32))} {pc : Nat} {lv st : List Value} {w : Wd} {r : Option Value} {w' : Wd} {n : Nat} {x : Nat} (hd : decode M.2.2.1 pc = .ok (.aload n, 2)) (hl : lv[n]? = some (.ref x))
    (k : EW M sc (pc + 2) lv (.ref x :: st) w r w') : EW M sc pc lv st w r w' := by
  refine ⟨k.1, ?_⟩
  intro p l e R s m args below meth c Z dC dI cI cJ cR b B n0 t0 hC hn ht H locs ls hR hS hL
  exact lv_aload hC.1 hC.2.1 hd (hL.at hl (fun n h => by cases h)) (k.2 p l e R s m args below meth c Z dC dI cI cJ cR b B n0 t0 hC hn ht H locs ls hR hS hL)
theorem e_istore_n {M : Mt} {sc : Option (Nat × (Nat → Int32))} {pc : Nat} {lv st : List Value} {w : Wd} {r : Option Value} {w' : Wd} {n : Fin 4} {x : Int32} (hd : decode M.2.2.1 pc = .ok (.istore_n n, 1)) (hn9 : (n : Nat) < M.2.2.2.1)
    (k : EW M sc (pc + 1) (lset lv n (.int x)) st w r w') : EW M sc pc lv (.int x :: st) w r w' := by
  refine ⟨k.1, ?_⟩
  intro p l e R s m args below meth c Z dC dI cI cJ cR b B n0 t0 hC hn ht H locs ls hR hS hL
  exact lv_istore_n hC.1 hC.2.1 hd rfl hL.has hn9 rfl (fun ls hl => k.2 p l e R s m args below meth c Z dC dI cI cJ cR b B n0 t0 hC hn ht H locs ls hR hS (LH.stored hl))
theorem e_istore {M : Mt} {sc : Option (Nat × (Nat → Int32))} {pc : Nat} {lv st : List Value} {w : Wd} {r : Option Value} {w' : Wd} {n : Nat} {x : Int32} (hd : decode M.2.2.1 pc = .ok (.istore n, 2)) (hn9 : n < M.2.2.2.1)
    (k : EW M sc (pc + 2) (lset lv n (.int x)) st w r w') : EW M sc pc lv (.int x :: st) w r w' := by
  refine ⟨k.1, ?_⟩
  intro p l e R s m args below meth c Z dC dI cI cJ cR b B n0 t0 hC hn ht H locs ls hR hS hL
  exact lv_istore hC.1 hC.2.1 hd hL.has hn9 rfl (fun ls hl => k.2 p l e R s m args below meth c Z dC dI cI cJ cR b B n0 t0 hC hn ht H locs ls hR hS (LH.stored hl))
theorem e_lstore_n {M : Mt} {sc : Option (Nat × (Nat → Int32))} {pc : Nat} {lv st : List Value} {w : Wd} {r : Option Value} {w' : Wd} {n : Fin 4} {x : Int64} (hd : decode M.2.2.1 pc = .ok (.lstore_n n, 1)) (hn9 : (n : Nat) + 1 < M.2.2.2.1)
    (k : EW M sc (pc + 1) (lset2 lv n (.long x)) st w r w') : EW M sc pc lv (.long x :: st) w r w' := by
  refine ⟨k.1, ?_⟩
  intro p l e R s m args below meth c Z dC dI cI cJ cR b B n0 t0 hC hn ht H locs ls hR hS hL
  exact lv_lstore_n hC.1 hC.2.1 hd rfl hL.has hn9 rfl (fun ls hl => k.2 p l e R s m args below meth c Z dC dI cI cJ cR b B n0 t0 hC hn ht H locs ls hR hS (LH.stored2 hl))
theorem e_lstore {M : Mt} {sc : Option (Nat × (Nat → Int32))} {pc : Nat} {lv st : List Value} {w : Wd} {r : Option Value} {w' : Wd} {n : Nat} {x : Int64} (hd : decode M.2.2.1 pc = .ok (.lstore n, 2)) (hn9 : n + 1 < M.2.2.2.1)
    (k : EW M sc (pc + 2) (lset2 lv n (.long x)) st w r w') : EW M sc pc lv (.long x :: st) w r w' := by
  refine ⟨k.1, ?_⟩
  intro p l e R s m args below meth c Z dC dI cI cJ cR b B n0 t0 hC hn ht H locs ls hR hS hL
  exact lv_lstore hC.1 hC.2.1 hd hL.has hn9 rfl (fun ls hl => k.2 p l e R s m args below meth c Z dC dI cI cJ cR b B n0 t0 hC hn ht H locs ls hR hS (LH.stored2 hl))
theorem e_astore_n {M : Mt} {sc : Option (Nat × (Nat → Int32))} {pc : Nat} {lv st : List Value} {w : Wd} {r : Option Value} {w' : Wd} {n : Fin 4} {x : Nat} (hd : decode M.2.2.1 pc = .ok (.astore_n n, 1)) (hn9 : (n : Nat) < M.2.2.2.1)
    (k : EW M sc (pc + 1) (lset lv n (.ref x)) st w r w') : EW M sc pc lv (.ref x :: st) w r w' := by
  refine ⟨k.1, ?_⟩
  intro p l e R s m args below meth c Z dC dI cI cJ cR b B n0 t0 hC hn ht H locs ls hR hS hL
  exact lv_astore_n hC.1 hC.2.1 hd rfl hL.has hn9 rfl (fun ls hl => k.2 p l e R s m args below meth c Z dC dI cI cJ cR b B n0 t0 hC hn ht H locs ls hR hS (LH.stored hl))
theorem e_astore {M : Mt} {sc : Option (Nat × (Nat → Int32))} {pc : Nat} {lv st : List Value} {w : Wd} {r : Option Value} {w' : Wd} {n : Nat} {x : Nat} (hd : decode M.2.2.1 pc = .ok (.astore n, 2)) (hn9 : n < M.2.2.2.1)
    (k : EW M sc (pc + 2) (lset lv n (.ref x)) st w r w') : EW M sc pc lv (.ref x :: st) w r w' := by
  refine ⟨k.1, ?_⟩
  intro p l e R s m args below meth c Z dC dI cI cJ cR b B n0 t0 hC hn ht H locs ls hR hS hL
  exact lv_astore hC.1 hC.2.1 hd hL.has hn9 rfl (fun ls hl => k.2 p l e R s m args below meth c Z dC dI cI cJ cR b B n0 t0 hC hn ht H locs ls hR hS (LH.stored hl))
theorem e_iinc {M : Mt} {sc : Option (Nat × (Nat → Int32))} {pc : Nat} {lv st : List Value} {w : Wd} {r : Option Value} {w' : Wd} {i : Nat} {n : Int} {x : Int32} (hd : decode M.2.2.1 pc = .ok (.iinc i n, 3)) (hl : lv[i]? = some (.int x)) (hn9 : i < M.2.2.2.1)
    (k : EW M sc (pc + 3) (lset lv i (.int (x + Int32.ofInt n))) st w r w') : EW M sc pc lv st w r w' := by
  refine ⟨k.1, ?_⟩
  intro p l e R s m args below meth c Z dC dI cI cJ cR b B n0 t0 hC hn ht H locs ls hR hS hL
  have hm := lvP_in (b := b) (B := B) lv 0 i _ hl (fun n h => by cases h)
  rw [Nat.zero_add] at hm
  obtain ⟨q, hq⟩ := List.getElem?_of_mem hm
  exact lv_iinc hC.1 hC.2.1 hd hL.has hq rfl hn9 rfl (fun ls hl => k.2 p l e R s m args below meth c Z dC dI cI cJ cR b B n0 t0 hC hn ht H locs ls hR hS (LH.stored hl))
theorem e_iadd {M : Mt} {sc : Option (Nat × (Nat → Int32))} {pc : Nat} {lv st : List Value} {w : Wd} {r : Option Value} {w' : Wd} {x y : Int32} (hd : decode M.2.2.1 pc = .ok (.iadd, 1))
    (k : EW M sc (pc + 1) lv (.int (x + y) :: st) w r w') : EW M sc pc lv (.int y :: .int x :: st) w r w' := by
  refine ⟨k.1, ?_⟩
  intro p l e R s m args below meth c Z dC dI cI cJ cR b B n0 t0 hC hn ht H locs ls hR hS hL
  exact lv_iadd hC.1 hC.2.1 hd (k.2 p l e R s m args below meth c Z dC dI cI cJ cR b B n0 t0 hC hn ht H locs ls hR hS hL)
theorem e_isub {M : Mt} {sc : Option (Nat × (Nat → Int32))} {pc : Nat} {lv st : List Value} {w : Wd} {r : Option Value} {w' : Wd} {x y : Int32} (hd : decode M.2.2.1 pc = .ok (.isub, 1))
    (k : EW M sc (pc + 1) lv (.int (x - y) :: st) w r w') : EW M sc pc lv (.int y :: .int x :: st) w r w' := by
  refine ⟨k.1, ?_⟩
  intro p l e R s m args below meth c Z dC dI cI cJ cR b B n0 t0 hC hn ht H locs ls hR hS hL
  exact lv_isub hC.1 hC.2.1 hd (k.2 p l e R s m args below meth c Z dC dI cI cJ cR b B n0 t0 hC hn ht H locs ls hR hS hL)
theorem e_imul {M : Mt} {sc : Option (Nat × (Nat → Int32))} {pc : Nat} {lv st : List Value} {w : Wd} {r : Option Value} {w' : Wd} {x y : Int32} (hd : decode M.2.2.1 pc = .ok (.imul, 1))
    (k : EW M sc (pc + 1) lv (.int (x * y) :: st) w r w') : EW M sc pc lv (.int y :: .int x :: st) w r w' := by
  refine ⟨k.1, ?_⟩
  intro p l e R s m args below meth c Z dC dI cI cJ cR b B n0 t0 hC hn ht H locs ls hR hS hL
  exact lv_imul hC.1 hC.2.1 hd (k.2 p l e R s m args below meth c Z dC dI cI cJ cR b B n0 t0 hC hn ht H locs ls hR hS hL)
theorem e_iand {M : Mt} {sc : Option (Nat × (Nat → Int32))} {pc : Nat} {lv st : List Value} {w : Wd} {r : Option Value} {w' : Wd} {x y : Int32} (hd : decode M.2.2.1 pc = .ok (.iand, 1))
    (k : EW M sc (pc + 1) lv (.int (x &&& y) :: st) w r w') : EW M sc pc lv (.int y :: .int x :: st) w r w' := by
  refine ⟨k.1, ?_⟩
  intro p l e R s m args below meth c Z dC dI cI cJ cR b B n0 t0 hC hn ht H locs ls hR hS hL
  exact lv_iand hC.1 hC.2.1 hd (k.2 p l e R s m args below meth c Z dC dI cI cJ cR b B n0 t0 hC hn ht H locs ls hR hS hL)
theorem e_idiv {M : Mt} {sc : Option (Nat × (Nat → Int32))} {pc : Nat} {lv st : List Value} {w : Wd} {r : Option Value} {w' : Wd} {x y : Int32} (hd : decode M.2.2.1 pc = .ok (.idiv, 1)) (hne : ¬ y = 0)
    (k : EW M sc (pc + 1) lv (.int (x / y) :: st) w r w') : EW M sc pc lv (.int y :: .int x :: st) w r w' := by
  refine ⟨k.1, ?_⟩
  intro p l e R s m args below meth c Z dC dI cI cJ cR b B n0 t0 hC hn ht H locs ls hR hS hL
  exact lv_idiv hC.1 hC.2.1 hd hne (k.2 p l e R s m args below meth c Z dC dI cI cJ cR b B n0 t0 hC hn ht H locs ls hR hS hL)
theorem e_irem {M : Mt} {sc : Option (Nat × (Nat → Int32))} {pc : Nat} {lv st : List Value} {w : Wd} {r : Option Value} {w' : Wd} {x y : Int32} (hd : decode M.2.2.1 pc = .ok (.irem, 1)) (hne : ¬ y = 0)
    (k : EW M sc (pc + 1) lv (.int (x - x / y * y) :: st) w r w') : EW M sc pc lv (.int y :: .int x :: st) w r w' := by
  refine ⟨k.1, ?_⟩
  intro p l e R s m args below meth c Z dC dI cI cJ cR b B n0 t0 hC hn ht H locs ls hR hS hL
  exact lv_irem hC.1 hC.2.1 hd hne (k.2 p l e R s m args below meth c Z dC dI cI cJ cR b B n0 t0 hC hn ht H locs ls hR hS hL)
theorem e_ladd {M : Mt} {sc : Option (Nat × (Nat → Int32))} {pc : Nat} {lv st : List Value} {w : Wd} {r : Option Value} {w' : Wd} {x y : Int64} (hd : decode M.2.2.1 pc = .ok (.ladd, 1))
    (k : EW M sc (pc + 1) lv (.long (x + y) :: st) w r w') : EW M sc pc lv (.long y :: .long x :: st) w r w' := by
  refine ⟨k.1, ?_⟩
  intro p l e R s m args below meth c Z dC dI cI cJ cR b B n0 t0 hC hn ht H locs ls hR hS hL
  exact lv_ladd hC.1 hC.2.1 hd (k.2 p l e R s m args below meth c Z dC dI cI cJ cR b B n0 t0 hC hn ht H locs ls hR hS hL)
theorem e_lsub {M : Mt} {sc : Option (Nat × (Nat → Int32))} {pc : Nat} {lv st : List Value} {w : Wd} {r : Option Value} {w' : Wd} {x y : Int64} (hd : decode M.2.2.1 pc = .ok (.lsub, 1))
    (k : EW M sc (pc + 1) lv (.long (x - y) :: st) w r w') : EW M sc pc lv (.long y :: .long x :: st) w r w' := by
  refine ⟨k.1, ?_⟩
  intro p l e R s m args below meth c Z dC dI cI cJ cR b B n0 t0 hC hn ht H locs ls hR hS hL
  exact lv_lsub hC.1 hC.2.1 hd (k.2 p l e R s m args below meth c Z dC dI cI cJ cR b B n0 t0 hC hn ht H locs ls hR hS hL)
theorem e_lmul {M : Mt} {sc : Option (Nat × (Nat → Int32))} {pc : Nat} {lv st : List Value} {w : Wd} {r : Option Value} {w' : Wd} {x y : Int64} (hd : decode M.2.2.1 pc = .ok (.lmul, 1))
    (k : EW M sc (pc + 1) lv (.long (x * y) :: st) w r w') : EW M sc pc lv (.long y :: .long x :: st) w r w' := by
  refine ⟨k.1, ?_⟩
  intro p l e R s m args below meth c Z dC dI cI cJ cR b B n0 t0 hC hn ht H locs ls hR hS hL
  exact lv_lmul hC.1 hC.2.1 hd (k.2 p l e R s m args below meth c Z dC dI cI cJ cR b B n0 t0 hC hn ht H locs ls hR hS hL)
theorem e_land {M : Mt} {sc : Option (Nat × (Nat → Int32))} {pc : Nat} {lv st : List Value} {w : Wd} {r : Option Value} {w' : Wd} {x y : Int64} (hd : decode M.2.2.1 pc = .ok (.land, 1))
    (k : EW M sc (pc + 1) lv (.long (x &&& y) :: st) w r w') : EW M sc pc lv (.long y :: .long x :: st) w r w' := by
  refine ⟨k.1, ?_⟩
  intro p l e R s m args below meth c Z dC dI cI cJ cR b B n0 t0 hC hn ht H locs ls hR hS hL
  exact lv_land hC.1 hC.2.1 hd (k.2 p l e R s m args below meth c Z dC dI cI cJ cR b B n0 t0 hC hn ht H locs ls hR hS hL)
theorem e_lor {M : Mt} {sc : Option (Nat × (Nat → Int32))} {pc : Nat} {lv st : List Value} {w : Wd} {r : Option Value} {w' : Wd} {x y : Int64} (hd : decode M.2.2.1 pc = .ok (.lor, 1))
    (k : EW M sc (pc + 1) lv (.long (x ||| y) :: st) w r w') : EW M sc pc lv (.long y :: .long x :: st) w r w' := by
  refine ⟨k.1, ?_⟩
  intro p l e R s m args below meth c Z dC dI cI cJ cR b B n0 t0 hC hn ht H locs ls hR hS hL
  exact lv_lor hC.1 hC.2.1 hd (k.2 p l e R s m args below meth c Z dC dI cI cJ cR b B n0 t0 hC hn ht H locs ls hR hS hL)
theorem e_lxor {M : Mt} {sc : Option (Nat × (Nat → Int32))} {pc : Nat} {lv st : List Value} {w : Wd} {r : Option Value} {w' : Wd} {x y : Int64} (hd : decode M.2.2.1 pc = .ok (.lxor, 1))
    (k : EW M sc (pc + 1) lv (.long (x ^^^ y) :: st) w r w') : EW M sc pc lv (.long y :: .long x :: st) w r w' := by
  refine ⟨k.1, ?_⟩
  intro p l e R s m args below meth c Z dC dI cI cJ cR b B n0 t0 hC hn ht H locs ls hR hS hL
  exact lv_lxor hC.1 hC.2.1 hd (k.2 p l e R s m args below meth c Z dC dI cI cJ cR b B n0 t0 hC hn ht H locs ls hR hS hL)
theorem e_ldiv {M : Mt} {sc : Option (Nat × (Nat → Int32))} {pc : Nat} {lv st : List Value} {w : Wd} {r : Option Value} {w' : Wd} {x y : Int64} (hd : decode M.2.2.1 pc = .ok (.ldiv, 1)) (hne : ¬ y = 0)
    (k : EW M sc (pc + 1) lv (.long (x / y) :: st) w r w') : EW M sc pc lv (.long y :: .long x :: st) w r w' := by
  refine ⟨k.1, ?_⟩
  intro p l e R s m args below meth c Z dC dI cI cJ cR b B n0 t0 hC hn ht H locs ls hR hS hL
  exact lv_ldiv hC.1 hC.2.1 hd hne (k.2 p l e R s m args below meth c Z dC dI cI cJ cR b B n0 t0 hC hn ht H locs ls hR hS hL)
theorem e_i2l {M : Mt} {sc : Option (Nat × (Nat → Int32))} {pc : Nat} {lv st : List Value} {w : Wd} {r : Option Value} {w' : Wd} {x : Int32} (hd : decode M.2.2.1 pc = .ok (.i2l, 1))
    (k : EW M sc (pc + 1) lv (.long x.toInt64 :: st) w r w') : EW M sc pc lv (.int x :: st) w r w' := by
  refine ⟨k.1, ?_⟩
  intro p l e R s m args below meth c Z dC dI cI cJ cR b B n0 t0 hC hn ht H locs ls hR hS hL
  exact lv_i2l hC.1 hC.2.1 hd rfl (k.2 p l e R s m args below meth c Z dC dI cI cJ cR b B n0 t0 hC hn ht H locs ls hR hS hL)
theorem e_l2i {M : Mt} {sc : Option (Nat × (Nat → Int32))} {pc : Nat} {lv st : List Value} {w : Wd} {r : Option Value} {w' : Wd} {x : Int64} (hd : decode M.2.2.1 pc = .ok (.l2i, 1))
    (k : EW M sc (pc + 1) lv (.int x.toInt32 :: st) w r w') : EW M sc pc lv (.long x :: st) w r w' := by
  refine ⟨k.1, ?_⟩
  intro p l e R s m args below meth c Z dC dI cI cJ cR b B n0 t0 hC hn ht H locs ls hR hS hL
  exact lv_l2i hC.1 hC.2.1 hd rfl (k.2 p l e R s m args below meth c Z dC dI cI cJ cR b B n0 t0 hC hn ht H locs ls hR hS hL)
theorem e_lushr {M : Mt} {sc : Option (Nat × (Nat → Int32))} {pc : Nat} {lv st : List Value} {w : Wd} {r : Option Value} {w' : Wd} {x : Int64} {y : Int32} (hd : decode M.2.2.1 pc = .ok (.lushr, 1))
    (k : EW M sc (pc + 1) lv (.long (x.toUInt64 >>> (y.toInt64.toUInt64 &&& Int64.toUInt64 63)).toInt64 :: st) w r w') : EW M sc pc lv (.int y :: .long x :: st) w r w' := by
  refine ⟨k.1, ?_⟩
  intro p l e R s m args below meth c Z dC dI cI cJ cR b B n0 t0 hC hn ht H locs ls hR hS hL
  exact lv_lushr hC.1 hC.2.1 hd rfl (k.2 p l e R s m args below meth c Z dC dI cI cJ cR b B n0 t0 hC hn ht H locs ls hR hS hL)
theorem e_lshl {M : Mt} {sc : Option (Nat × (Nat → Int32))} {pc : Nat} {lv st : List Value} {w : Wd} {r : Option Value} {w' : Wd} {x : Int64} {y : Int32} (hd : decode M.2.2.1 pc = .ok (.lshl, 1))
    (k : EW M sc (pc + 1) lv (.long (x <<< (y.toInt64 &&& 63)) :: st) w r w') : EW M sc pc lv (.int y :: .long x :: st) w r w' := by
  refine ⟨k.1, ?_⟩
  intro p l e R s m args below meth c Z dC dI cI cJ cR b B n0 t0 hC hn ht H locs ls hR hS hL
  exact lv_lshl hC.1 hC.2.1 hd rfl (k.2 p l e R s m args below meth c Z dC dI cI cJ cR b B n0 t0 hC hn ht H locs ls hR hS hL)
theorem e_lshr {M : Mt} {sc : Option (Nat × (Nat → Int32))} {pc : Nat} {lv st : List Value} {w : Wd} {r : Option Value} {w' : Wd} {x : Int64} {y : Int32} (hd : decode M.2.2.1 pc = .ok (.lshr, 1))
    (k : EW M sc (pc + 1) lv (.long (x >>> (y.toInt64 &&& 63)) :: st) w r w') : EW M sc pc lv (.int y :: .long x :: st) w r w' := by
  refine ⟨k.1, ?_⟩
  intro p l e R s m args below meth c Z dC dI cI cJ cR b B n0 t0 hC hn ht H locs ls hR hS hL
  exact lv_lshr hC.1 hC.2.1 hd rfl (k.2 p l e R s m args below meth c Z dC dI cI cJ cR b B n0 t0 hC hn ht H locs ls hR hS hL)
theorem e_lcmp {M : Mt} {sc : Option (Nat × (Nat → Int32))} {pc : Nat} {lv st : List Value} {w : Wd} {r : Option Value} {w' : Wd} {x y : Int64} (hd : decode M.2.2.1 pc = .ok (.lcmp, 1))
    (k : EW M sc (pc + 1) lv (.int (lg_cmp x y) :: st) w r w') : EW M sc pc lv (.long y :: .long x :: st) w r w' := by
  refine ⟨k.1, ?_⟩
  intro p l e R s m args below meth c Z dC dI cI cJ cR b B n0 t0 hC hn ht H locs ls hR hS hL
  exact W.lcmp hC.1 hC.2.1 hd (k.2 p l e R s m args below meth c Z dC dI cI cJ cR b B n0 t0 hC hn ht H locs ls hR hS hL)
theorem e_dup {M : Mt} {sc : Option (Nat × (Nat → Int32))} {pc : Nat} {lv st : List Value} {w : Wd} {r : Option Value} {w' : Wd} {v : Value} (hd : decode M.2.2.1 pc = .ok (.dup, 1)) (hv : v.category = 1)
    (k : EW M sc (pc + 1) lv (v :: v :: st) w r w') : EW M sc pc lv (v :: st) w r w' := by
  refine ⟨k.1, ?_⟩
  intro p l e R s m args below meth c Z dC dI cI cJ cR b B n0 t0 hC hn ht H locs ls hR hS hL
  exact lv_dup hC.1 hC.2.1 hd ((rv_cat b B v).trans hv) (k.2 p l e R s m args below meth c Z dC dI cI cJ cR b B n0 t0 hC hn ht H locs ls hR hS hL)
theorem e_pop {M : Mt} {sc : Option (Nat × (Nat → Int32))} {pc : Nat} {lv st : List Value} {w : Wd} {r : Option Value} {w' : Wd} {v : Value} (hd : decode M.2.2.1 pc = .ok (.pop, 1)) (hv : v.category = 1)
    (k : EW M sc (pc + 1) lv st w r w') : EW M sc pc lv (v :: st) w r w' := by
  refine ⟨k.1, ?_⟩
  intro p l e R s m args below meth c Z dC dI cI cJ cR b B n0 t0 hC hn ht H locs ls hR hS hL
  exact lv_pop hC.1 hC.2.1 hd ((rv_cat b B v).trans hv) (k.2 p l e R s m args below meth c Z dC dI cI cJ cR b B n0 t0 hC hn ht H locs ls hR hS hL)
theorem e_dup2 {M : Mt} {sc : Option (Nat × (Nat → Int32))} {pc : Nat} {lv st : List Value} {w : Wd} {r : Option Value} {w' : Wd} {v u : Value} (hd : decode M.2.2.1 pc = .ok (.dup2, 1)) (hv : v.category = 1) (hu : u.category = 1)
    (k : EW M sc (pc + 1) lv (v :: u :: v :: u :: st) w r w') : EW M sc pc lv (v :: u :: st) w r w' := by
  refine ⟨k.1, ?_⟩
  intro p l e R s m args below meth c Z dC dI cI cJ cR b B n0 t0 hC hn ht H locs ls hR hS hL
  exact lv_dup2_11 hC.1 hC.2.1 hd ((rv_cat b B v).trans hv) ((rv_cat b B u).trans hu) (k.2 p l e R s m args below meth c Z dC dI cI cJ cR b B n0 t0 hC hn ht H locs ls hR hS hL)
theorem e_ldc2 {M : Mt} {sc : Option (Nat × (Nat → Int32))} {pc : Nat} {lv st : List Value} {w : Wd} {r : Option Value} {w' : Wd} {n : Nat} {v : Int64} (hd : decode M.2.2.1 pc = .ok (.ldc2_w n, 3)) (hk : Cond.constantLong M.1 n v ∈ lw_tbl)
    (k : EW M sc (pc + 3) lv (.long v :: st) w r w') : EW M sc pc lv st w r w' := by
  refine ⟨k.1, ?_⟩
  intro p l e R s m args below meth c Z dC dI cI cJ cR b B n0 t0 hC hn ht H locs ls hR hS hL
  exact lv_ldc2 hC.1 hC.2.1 hC.2.2.2.1 (hC.2.2.2.2.1 _ (TG_in hk rfl)) hd (k.2 p l e R s m args below meth c Z dC dI cI cJ cR b B n0 t0 hC hn ht H locs ls hR hS hL)
theorem e_goto {M : Mt} {sc : Option (Nat × (Nat → Int32))} {pc : Nat} {lv st : List Value} {w : Wd} {r : Option Value} {w' : Wd} {off : Int} (tgt : Nat) (hd : decode M.2.2.1 pc = .ok (.goto off, 3)) (ht9 : (pc : Int) + off = (tgt : Int))
    (k : EW M sc tgt lv st w r w') : EW M sc pc lv st w r w' := by
  refine ⟨k.1, ?_⟩
  intro p l e R s m args below meth c Z dC dI cI cJ cR b B n0 t0 hC hn ht H locs ls hR hS hL
  exact lv_goto hC.1 hC.2.1 hd ht9 (k.2 p l e R s m args below meth c Z dC dI cI cJ cR b B n0 t0 hC hn ht H locs ls hR hS hL)
theorem e_if_eq {M : Mt} {sc : Option (Nat × (Nat → Int32))} {pc : Nat} {lv st : List Value} {w : Wd} {r : Option Value} {w' : Wd} {x : Int32} {off : Int} (tgt : Nat) (hd : decode M.2.2.1 pc = .ok (.ifCond .eq off, 3)) (ht9 : (pc : Int) + off = (tgt : Int))
    (kt : x = 0 → EW M sc tgt lv st w r w') (kf : ¬ x = 0 → EW M sc (pc + 3) lv st w r w') : EW M sc pc lv (.int x :: st) w r w' := by
  refine ⟨(Decidable.em (x = 0)).elim (fun h => (kt h).1) (fun h => (kf (by first | exact h | exact Decidable.not_not.mp h)).1), ?_⟩
  intro p l e R s m args below meth c Z dC dI cI cJ cR b B n0 t0 hC hn ht H locs ls hR hS hL
  exact lv_if_eq hC.1 hC.2.1 hd ht9 (fun h9 => (kt h9).2 p l e R s m args below meth c Z dC dI cI cJ cR b B n0 t0 hC hn ht H locs ls hR hS hL) (fun h9 => (kf h9).2 p l e R s m args below meth c Z dC dI cI cJ cR b B n0 t0 hC hn ht H locs ls hR hS hL)
theorem e_icmp_eq {M : Mt} {sc : Option (Nat × (Nat → Int32))} {pc : Nat} {lv st : List Value} {w : Wd} {r : Option Value} {w' : Wd} {x y : Int32} {off : Int} (tgt : Nat) (hd : decode M.2.2.1 pc = .ok (.if_icmp .eq off, 3)) (ht9 : (pc : Int) + off = (tgt : Int))
    (kt : x = y → EW M sc tgt lv st w r w') (kf : ¬ x = y → EW M sc (pc + 3) lv st w r w') : EW M sc pc lv (.int y :: .int x :: st) w r w' := by
  refine ⟨(Decidable.em (x = y)).elim (fun h => (kt h).1) (fun h => (kf (by first | exact h | exact Decidable.not_not.mp h)).1), ?_⟩
  intro p l e R s m args below meth c Z dC dI cI cJ cR b B n0 t0 hC hn ht H locs ls hR hS hL
  exact lv_icmp_eq hC.1 hC.2.1 hd ht9 (fun h9 => (kt h9).2 p l e R s m args below meth c Z dC dI cI cJ cR b B n0 t0 hC hn ht H locs ls hR hS hL) (fun h9 => (kf h9).2 p l e R s m args below meth c Z dC dI cI cJ cR b B n0 t0 hC hn ht H locs ls hR hS hL)
theorem e_if_ne {M : Mt} {sc : Option (Nat × (Nat → Int32))} {pc : Nat} {lv st : List Value} {w : Wd} {r : Option Value} {w' : Wd} {x : Int32} {off : Int} (tgt : Nat) (hd : decode M.2.2.1 pc = .ok (.ifCond .ne off, 3)) (ht9 : (pc : Int) + off = (tgt : Int))
    (kt : ¬ x = 0 → EW M sc tgt lv st w r w') (kf : x = 0 → EW M sc (pc + 3) lv st w r w') : EW M sc pc lv (.int x :: st) w r w' := by
  refine ⟨(Decidable.em (¬ x = 0)).elim (fun h => (kt h).1) (fun h => (kf (by first | exact h | exact Decidable.not_not.mp h)).1), ?_⟩
  intro p l e R s m args below meth c Z dC dI cI cJ cR b B n0 t0 hC hn ht H locs ls hR hS hL
  exact lv_if_ne hC.1 hC.2.1 hd ht9 (fun h9 => (kt h9).2 p l e R s m args below meth c Z dC dI cI cJ cR b B n0 t0 hC hn ht H locs ls hR hS hL) (fun h9 => (kf h9).2 p l e R s m args below meth c Z dC dI cI cJ cR b B n0 t0 hC hn ht H locs ls hR hS hL)
theorem e_icmp_ne {M : Mt} {sc : Option (Nat × (Nat → Int32))} {pc : Nat} {lv st : List Value} {w : Wd} {r : Option Value} {w' : Wd} {x y : Int32} {off : Int} (tgt : Nat) (hd : decode M.2.2.1 pc = .ok (.if_icmp .ne off, 3)) (ht9 : (pc : Int) + off = (tgt : Int))
    (kt : ¬ x = y → EW M sc tgt lv st w r w') (kf : x = y → EW M sc (pc + 3) lv st w r w') : EW M sc pc lv (.int y :: .int x :: st) w r w' := by
  refine ⟨(Decidable.em (¬ x = y)).elim (fun h => (kt h).1) (fun h => (kf (by first | exact h | exact Decidable.not_not.mp h)).1), ?_⟩
  intro p l e R s m args below meth c Z dC dI cI cJ cR b B n0 t0 hC hn ht H locs ls hR hS hL
  exact lv_icmp_ne hC.1 hC.2.1 hd ht9 (fun h9 => (kt h9).2 p l e R s m args below meth c Z dC dI cI cJ cR b B n0 t0 hC hn ht H locs ls hR hS hL) (fun h9 => (kf h9).2 p l e R s m args below meth c Z dC dI cI cJ cR b B n0 t0 hC hn ht H locs ls hR hS hL)
theorem e_if_lt {M : Mt} {sc : Option (Nat × (Nat → Int32))} {pc : Nat} {lv st : List Value} {w : Wd} {r : Option Value} {w' : Wd} {x : Int32} {off : Int} (tgt : Nat) (hd : decode M.2.2.1 pc = .ok (.ifCond .lt off, 3)) (ht9 : (pc : Int) + off = (tgt : Int))
    (kt : x < 0 → EW M sc tgt lv st w r w') (kf : ¬ x < 0 → EW M sc (pc + 3) lv st w r w') : EW M sc pc lv (.int x :: st) w r w' := by
  refine ⟨(Decidable.em (x < 0)).elim (fun h => (kt h).1) (fun h => (kf (by first | exact h | exact Decidable.not_not.mp h)).1), ?_⟩
  intro p l e R s m args below meth c Z dC dI cI cJ cR b B n0 t0 hC hn ht H locs ls hR hS hL
  exact lv_if_lt hC.1 hC.2.1 hd ht9 (fun h9 => (kt h9).2 p l e R s m args below meth c Z dC dI cI cJ cR b B n0 t0 hC hn ht H locs ls hR hS hL) (fun h9 => (kf h9).2 p l e R s m args below meth c Z dC dI cI cJ cR b B n0 t0 hC hn ht H locs ls hR hS hL)
theorem e_icmp_lt {M : Mt} {sc : Option (Nat × (Nat → Int32))} {pc : Nat} {lv st : List Value} {w : Wd} {r : Option Value} {w' : Wd} {x y : Int32} {off : Int} (tgt : Nat) (hd : decode M.2.2.1 pc = .ok (.if_icmp .lt off, 3)) (ht9 : (pc : Int) + off = (tgt : Int))
    (kt : x < y → EW M sc tgt lv st w r w') (kf : ¬ x < y → EW M sc (pc + 3) lv st w r w') : EW M sc pc lv (.int y :: .int x :: st) w r w' := by
  refine ⟨(Decidable.em (x < y)).elim (fun h => (kt h).1) (fun h => (kf (by first | exact h | exact Decidable.not_not.mp h)).1), ?_⟩
  intro p l e R s m args below meth c Z dC dI cI cJ cR b B n0 t0 hC hn ht H locs ls hR hS hL
  exact lv_icmp_lt hC.1 hC.2.1 hd ht9 (fun h9 => (kt h9).2 p l e R s m args below meth c Z dC dI cI cJ cR b B n0 t0 hC hn ht H locs ls hR hS hL) (fun h9 => (kf h9).2 p l e R s m args below meth c Z dC dI cI cJ cR b B n0 t0 hC hn ht H locs ls hR hS hL)
theorem e_if_ge {M : Mt} {sc : Option (Nat × (Nat → Int32))} {pc : Nat} {lv st : List Value} {w : Wd} {r : Option Value} {w' : Wd} {x : Int32} {off : Int} (tgt : Nat) (hd : decode M.2.2.1 pc = .ok (.ifCond .ge off, 3)) (ht9 : (pc : Int) + off = (tgt : Int))
    (kt : 0 ≤ x → EW M sc tgt lv st w r w') (kf : ¬ 0 ≤ x → EW M sc (pc + 3) lv st w r w') : EW M sc pc lv (.int x :: st) w r w' := by
  refine ⟨(Decidable.em (0 ≤ x)).elim (fun h => (kt h).1) (fun h => (kf (by first | exact h | exact Decidable.not_not.mp h)).1), ?_⟩
  intro p l e R s m args below meth c Z dC dI cI cJ cR b B n0 t0 hC hn ht H locs ls hR hS hL
  exact lv_if_ge hC.1 hC.2.1 hd ht9 (fun h9 => (kt h9).2 p l e R s m args below meth c Z dC dI cI cJ cR b B n0 t0 hC hn ht H locs ls hR hS hL) (fun h9 => (kf h9).2 p l e R s m args below meth c Z dC dI cI cJ cR b B n0 t0 hC hn ht H locs ls hR hS hL)
theorem e_icmp_ge {M : Mt} {sc : Option (Nat × (Nat → Int32))} {pc : Nat} {lv st : List Value} {w : Wd} {r : Option Value} {w' : Wd} {x y : Int32} {off : Int} (tgt : Nat) (hd : decode M.2.2.1 pc = .ok (.if_icmp .ge off, 3)) (ht9 : (pc : Int) + off = (tgt : Int))
    (kt : y ≤ x → EW M sc tgt lv st w r w') (kf : ¬ y ≤ x → EW M sc (pc + 3) lv st w r w') : EW M sc pc lv (.int y :: .int x :: st) w r w' := by
  refine ⟨(Decidable.em (y ≤ x)).elim (fun h => (kt h).1) (fun h => (kf (by first | exact h | exact Decidable.not_not.mp h)).1), ?_⟩
  intro p l e R s m args below meth c Z dC dI cI cJ cR b B n0 t0 hC hn ht H locs ls hR hS hL
  exact lv_icmp_ge hC.1 hC.2.1 hd ht9 (fun h9 => (kt h9).2 p l e R s m args below meth c Z dC dI cI cJ cR b B n0 t0 hC hn ht H locs ls hR hS hL) (fun h9 => (kf h9).2 p l e R s m args below meth c Z dC dI cI cJ cR b B n0 t0 hC hn ht H locs ls hR hS hL)
theorem e_if_gt {M : Mt} {sc : Option (Nat × (Nat → Int32))} {pc : Nat} {lv st : List Value} {w : Wd} {r : Option Value} {w' : Wd} {x : Int32} {off : Int} (tgt : Nat) (hd : decode M.2.2.1 pc = .ok (.ifCond .gt off, 3)) (ht9 : (pc : Int) + off = (tgt : Int))
    (kt : 0 < x → EW M sc tgt lv st w r w') (kf : ¬ 0 < x → EW M sc (pc + 3) lv st w r w') : EW M sc pc lv (.int x :: st) w r w' := by
  refine ⟨(Decidable.em (0 < x)).elim (fun h => (kt h).1) (fun h => (kf (by first | exact h | exact Decidable.not_not.mp h)).1), ?_⟩
  intro p l e R s m args below meth c Z dC dI cI cJ cR b B n0 t0 hC hn ht H locs ls hR hS hL
  exact lv_if_gt hC.1 hC.2.1 hd ht9 (fun h9 => (kt h9).2 p l e R s m args below meth c Z dC dI cI cJ cR b B n0 t0 hC hn ht H locs ls hR hS hL) (fun h9 => (kf h9).2 p l e R s m args below meth c Z dC dI cI cJ cR b B n0 t0 hC hn ht H locs ls hR hS hL)
theorem e_icmp_gt {M : Mt} {sc : Option (Nat × (Nat → Int32))} {pc : Nat} {lv st : List Value} {w : Wd} {r : Option Value} {w' : Wd} {x y : Int32} {off : Int} (tgt : Nat) (hd : decode M.2.2.1 pc = .ok (.if_icmp .gt off, 3)) (ht9 : (pc : Int) + off = (tgt : Int))
    (kt : y < x → EW M sc tgt lv st w r w') (kf : ¬ y < x → EW M sc (pc + 3) lv st w r w') : EW M sc pc lv (.int y :: .int x :: st) w r w' := by
  refine ⟨(Decidable.em (y < x)).elim (fun h => (kt h).1) (fun h => (kf (by first | exact h | exact Decidable.not_not.mp h)).1), ?_⟩
  intro p l e R s m args below meth c Z dC dI cI cJ cR b B n0 t0 hC hn ht H locs ls hR hS hL
  exact lv_icmp_gt hC.1 hC.2.1 hd ht9 (fun h9 => (kt h9).2 p l e R s m args below meth c Z dC dI cI cJ cR b B n0 t0 hC hn ht H locs ls hR hS hL) (fun h9 => (kf h9).2 p l e R s m args below meth c Z dC dI cI cJ cR b B n0 t0 hC hn ht H locs ls hR hS hL)
theorem e_if_le {M : Mt} {sc : Option (Nat × (Nat → Int32))} {pc : Nat} {lv st : List Value} {w : Wd} {r : Option Value} {w' : Wd} {x : Int32} {off : Int} (tgt : Nat) (hd : decode M.2.2.1 pc = .ok (.ifCond .le off, 3)) (ht9 : (pc : Int) + off = (tgt : Int))
    (kt : x ≤ 0 → EW M sc tgt lv st w r w') (kf : ¬ x ≤ 0 → EW M sc (pc + 3) lv st w r w') : EW M sc pc lv (.int x :: st) w r w' := by
  refine ⟨(Decidable.em (x ≤ 0)).elim (fun h => (kt h).1) (fun h => (kf (by first | exact h | exact Decidable.not_not.mp h)).1), ?_⟩
  intro p l e R s m args below meth c Z dC dI cI cJ cR b B n0 t0 hC hn ht H locs ls hR hS hL
  exact lv_if_le hC.1 hC.2.1 hd ht9 (fun h9 => (kt h9).2 p l e R s m args below meth c Z dC dI cI cJ cR b B n0 t0 hC hn ht H locs ls hR hS hL) (fun h9 => (kf h9).2 p l e R s m args below meth c Z dC dI cI cJ cR b B n0 t0 hC hn ht H locs ls hR hS hL)
theorem e_icmp_le {M : Mt} {sc : Option (Nat × (Nat → Int32))} {pc : Nat} {lv st : List Value} {w : Wd} {r : Option Value} {w' : Wd} {x y : Int32} {off : Int} (tgt : Nat) (hd : decode M.2.2.1 pc = .ok (.if_icmp .le off, 3)) (ht9 : (pc : Int) + off = (tgt : Int))
    (kt : x ≤ y → EW M sc tgt lv st w r w') (kf : ¬ x ≤ y → EW M sc (pc + 3) lv st w r w') : EW M sc pc lv (.int y :: .int x :: st) w r w' := by
  refine ⟨(Decidable.em (x ≤ y)).elim (fun h => (kt h).1) (fun h => (kf (by first | exact h | exact Decidable.not_not.mp h)).1), ?_⟩
  intro p l e R s m args below meth c Z dC dI cI cJ cR b B n0 t0 hC hn ht H locs ls hR hS hL
  exact lv_icmp_le hC.1 hC.2.1 hd ht9 (fun h9 => (kt h9).2 p l e R s m args below meth c Z dC dI cI cJ cR b B n0 t0 hC hn ht H locs ls hR hS hL) (fun h9 => (kf h9).2 p l e R s m args below meth c Z dC dI cI cJ cR b B n0 t0 hC hn ht H locs ls hR hS hL)
theorem e_tabIn {M : Mt} {sc : Option (Nat × (Nat → Int32))} {pc : Nat} {lv st : List Value} {w : Wd} {r : Option Value} {w' : Wd} {dflt lo hi off : Int} {offs : Array Int} {len : Nat} {x : Int32} (tgt : Nat) (hd : decode M.2.2.1 pc = .ok (.tableswitch dflt lo hi offs, len)) (h1 : ¬ x.toInt < lo) (h2 : ¬ hi < x.toInt) (ho : offs[(x.toInt - lo).toNat]? = some off) (ht9 : (pc : Int) + off = (tgt : Int))
    (k : EW M sc tgt lv st w r w') : EW M sc pc lv (.int x :: st) w r w' := by
  refine ⟨k.1, ?_⟩
  intro p l e R s m args below meth c Z dC dI cI cJ cR b B n0 t0 hC hn ht H locs ls hR hS hL
  exact lv_tableIn hC.1 hC.2.1 hd h1 h2 ho ht9 (k.2 p l e R s m args below meth c Z dC dI cI cJ cR b B n0 t0 hC hn ht H locs ls hR hS hL)
theorem e_tabOut {M : Mt} {sc : Option (Nat × (Nat → Int32))} {pc : Nat} {lv st : List Value} {w : Wd} {r : Option Value} {w' : Wd} {dflt lo hi : Int} {offs : Array Int} {len : Nat} {x : Int32} (tgt : Nat) (hd : decode M.2.2.1 pc = .ok (.tableswitch dflt lo hi offs, len)) (h1 : x.toInt < lo ∨ hi < x.toInt) (ht9 : (pc : Int) + dflt = (tgt : Int))
    (k : EW M sc tgt lv st w r w') : EW M sc pc lv (.int x :: st) w r w' := by
  refine ⟨k.1, ?_⟩
  intro p l e R s m args below meth c Z dC dI cI cJ cR b B n0 t0 hC hn ht H locs ls hR hS hL
  exact lv_tableOut hC.1 hC.2.1 hd h1 ht9 (k.2 p l e R s m args below meth c Z dC dI cI cJ cR b B n0 t0 hC hn ht H locs ls hR hS hL)
theorem e_drop {M : Mt} {sc : Option (Nat × (Nat → Int32))} {pc : Nat} {lv st : List Value} {w : Wd} {r : Option Value} {w' : Wd} (i : Nat) (k : EW M sc pc (lv.set i dmy) st w r w') : EW M sc pc lv st w r w' := by
  refine ⟨k.1, ?_⟩
  intro p l e R s m args below meth c Z dC dI cI cJ cR b B n0 t0 hC hn ht H locs ls hR hS hL
  exact k.2 p l e R s m args below meth c Z dC dI cI cJ cR b B n0 t0 hC hn ht H locs ls hR hS (hL.drop i)
theorem e_sld {M : Mt} {sc : Option (Nat × (Nat → Int32))} {pc : Nat} {lv st : List Value} {w : Wd} {r : Option Value} {w' : Wd} {L : Nat} {xs : Nat → Int32} {i : Int32} (hd : decode M.2.2.1 pc = .ok (.iaload, 1)) (hin : vp_in i L)
    (k : EW M (some (L, xs)) (pc + 1) lv (.int (xs i.toNatClampNeg) :: st) w r w') : EW M (some (L, xs)) pc lv (.int i :: .ref 0 :: st) w r w' := by
  refine ⟨k.1, ?_⟩
  intro p l e R s m args below meth c Z dC dI cI cJ cR b B n0 t0 hC hn ht H locs ls hR hS hL
  obtain ⟨hX, hbl, hbB⟩ := hC.2.2.2.2.2.2.1 L xs rfl
  exact va_sld (A := fun q => B < q) hC.1 hC.2.1 hX hbl (Nat.not_lt.mpr hbB) hS hin hd (k.2 p l e R s m args below meth c Z dC dI cI cJ cR b B n0 t0 hC hn ht H locs ls hR hS hL)
theorem e_slen {M : Mt} {sc : Option (Nat × (Nat → Int32))} {pc : Nat} {lv st : List Value} {w : Wd} {r : Option Value} {w' : Wd} {L : Nat} {xs : Nat → Int32} (hd : decode M.2.2.1 pc = .ok (.arraylength, 1))
    (k : EW M (some (L, xs)) (pc + 1) lv (.int (Int32.ofNat L) :: st) w r w') : EW M (some (L, xs)) pc lv (.ref 0 :: st) w r w' := by
  refine ⟨k.1, ?_⟩
  intro p l e R s m args below meth c Z dC dI cI cJ cR b B n0 t0 hC hn ht H locs ls hR hS hL
  obtain ⟨hX, hbl, hbB⟩ := hC.2.2.2.2.2.2.1 L xs rfl
  exact va_slen (A := fun q => B < q) hC.1 hC.2.1 hX hbl (Nat.not_lt.mpr hbB) hS hd (k.2 p l e R s m args below meth c Z dC dI cI cJ cR b B n0 t0 hC hn ht H locs ls hR hS hL)
theorem e_ret {M : Mt} {sc : Option (Nat × (Nat → Int32))} {pc : Nat} {lv st : List Value} {w : Wd} {r : Option Value} {w' : Wd} {ins : Instr} (hd : decode M.2.2.1 pc = .ok (ins, 1)) (hr : RetOK M.2.2.2.2.1 ins r) (hst : st = r.toList) (hw : w = w') : EW M sc pc lv st w r w' := by
  subst hw
  subst hst
  refine ⟨⟨Nat.le_refl _, Nat.le_refl _⟩, ?_⟩
  intro p l e R s m args below meth c Z dC dI cI cJ cR b B n0 t0 hC hn ht H locs ls hR hS hL
  have := hC.2.2.2.2.2.2.2.2.2.2 H locs pc ls ins hR hS hd hr
  cases r <;> exact this
theorem e_iret {M : Mt} {sc : Option (Nat × (Nat → Int32))} {pc : Nat} {lv : List Value} {w : Wd} {r : Option Value} {w' : Wd} {x : Int32} (hd : decode M.2.2.1 pc = .ok (.ireturn, 1)) (ht : M.2.2.2.2.1 = some .int) (hr : r = some (.int x)) (hw : w = w') : EW M sc pc lv [.int x] w r w' :=
  e_ret hd (Or.inl ⟨rfl, ht, x, hr⟩) (by rw [hr]; rfl) hw
theorem e_zret {M : Mt} {sc : Option (Nat × (Nat → Int32))} {pc : Nat} {lv : List Value} {w : Wd} {r : Option Value} {w' : Wd} {x : Int32} (hd : decode M.2.2.1 pc = .ok (.ireturn, 1)) (ht : M.2.2.2.2.1 = some .boolean) (hx : x &&& 1 = x) (hr : r = some (.int x)) (hw : w = w') : EW M sc pc lv [.int x] w r w' :=
  e_ret hd (Or.inr (Or.inl ⟨rfl, ht, x, hr, hx⟩)) (by rw [hr]; rfl) hw
theorem e_lret {M : Mt} {sc : Option (Nat × (Nat → Int32))} {pc : Nat} {lv : List Value} {w : Wd} {r : Option Value} {w' : Wd} {x : Int64} (hd : decode M.2.2.1 pc = .ok (.lreturn, 1)) (ht : M.2.2.2.2.1 = some .long) (hr : r = some (.long x)) (hw : w = w') : EW M sc pc lv [.long x] w r w' :=
  e_ret hd (Or.inr (Or.inr (Or.inl ⟨rfl, ht, x, hr⟩))) (by rw [hr]; rfl) hw
theorem e_vret {M : Mt} {sc : Option (Nat × (Nat → Int32))} {pc : Nat} {lv : List Value} {w : Wd} {r : Option Value} {w' : Wd} (hd : decode M.2.2.1 pc = .ok (.return_, 1)) (ht : M.2.2.2.2.1 = none) (hr : r = none) (hw : w = w') : EW M sc pc lv [] w r w' :=
  e_ret hd (Or.inr (Or.inr (Or.inr (Or.inl ⟨rfl, ht, hr⟩)))) (by rw [hr]; rfl) hw
theorem e_aret {M : Mt} {sc : Option (Nat × (Nat → Int32))} {pc : Nat} {lv : List Value} {w : Wd} {r : Option Value} {w' : Wd} {i : Nat} {n : String} (hd : decode M.2.2.1 pc = .ok (.areturn, 1)) (ht : M.2.2.2.2.1 = some (.object n)) (hr : r = some (.ref i)) (hw : w = w') : EW M sc pc lv [.ref i] w r w' :=
  e_ret hd (Or.inr (Or.inr (Or.inr (Or.inr ⟨rfl, ⟨n, ht⟩, i, hr⟩)))) (by rw [hr]; rfl) hw
end
section
/-! RULES of the heap: fields, arrays, new cells -/
theorem P1 {D : va_G} {cl : List vw_C} {q : Nat × va_E} {H : Heap} (h : va_at D cl q H) : va_P D cl [q] H := fun k x hx => by
  cases k with
  | zero => cases hx; exact h
  | succ k => simp at hx
theorem u_good {C : String} {T : u_T} {N : Nat} : ∀ w ∈ u_ws C T N, goodWord w = true := fun w hw => by
  obtain ⟨k, -, rfl⟩ := List.mem_map.mp hw
  unfold u_lay
  split <;> rfl
theorem cls_ok {ci : Nat} {C : String} {T : u_T} {N : Nat} (h : vwCl[ci]? = some (C, T, N)) : (∀ w ∈ u_ws C T N, w ∈ TG) ∧ (∃ ty0 : Nat → FieldType, ∀ k, k < N → parseFieldDescriptor (T k).2.2.1 = some (ty0 k)) ∧ ∀ a, a < N → ∀ b, b < N → a ≠ b → (T a).2.1 ≠ (T b).2.1 := by
  match ci, h with
  | 0, h => cases h; exact ⟨fun w hw => TG_in (inX0 w hw) (u_good w hw), ⟨_, tyX0_ok⟩, nmX0⟩
  | 1, h => cases h; exact ⟨fun w hw => TG_in (inX1 w hw) (u_good w hw), ⟨_, tyX1_ok⟩, nmX1⟩
  | 2, h => cases h; exact ⟨fun w hw => TG_in (inX2 w hw) (u_good w hw), ⟨_, tyX2_ok⟩, nmX2⟩
  | 3, h => cases h; exact ⟨fun w hw => TG_in (inX3 w hw) (u_good w hw), ⟨_, tyX3_ok⟩, nmX3⟩
  | 4, h => cases h; exact ⟨fun w hw => TG_in (inX4 w hw) (u_good w hw), ⟨_, tyX4_ok⟩, nmX4⟩
  | 5, h => cases h; exact ⟨fun w hw => TG_in (inX5 w hw) (u_good w hw), ⟨_, tyX5_ok⟩, nmX5⟩
  | 6, h => cases h; exact ⟨fun w hw => TG_in (inX6 w hw) (u_good w hw), ⟨_, tyX6_ok⟩, nmX6⟩
  | 7, h => cases h; exact ⟨fun w hw => TG_in (inX7 w hw) (u_good w hw), ⟨_, tyX7_ok⟩, nmX7⟩
  | k + 8, h => simp [vwCl] at h
/-- a field of an object, by its link -/
def fLk (own : String) (idx ci k : Nat) : Prop := ∃ (C : String) (T : u_T) (N : Nat), vwCl[ci]? = some (C, T, N) ∧ k < N ∧
  (Cond.fieldLink own idx (T k).1 (T k).2.1 (T k).2.2.1 ∈ lw_tbl ∨ ∃ h, Cond.fieldLinkNest own idx (T k).1 (T k).2.1 (T k).2.2.1 h ∈ lw_tbl)
def fPt (own : String) (idx ci k : Nat) (ty : FieldType) : Prop := ∃ (C : String) (T : u_T) (N : Nat), vwCl[ci]? = some (C, T, N) ∧ k < N ∧ parseFieldDescriptor (T k).2.2.1 = some ty ∧ (T k).2.2.2 = false ∧
  (Cond.fieldLink own idx (T k).1 (T k).2.1 (T k).2.2.1 ∈ lw_tbl ∨ ∃ h, Cond.fieldLinkNest own idx (T k).1 (T k).2.1 (T k).2.2.1 h ∈ lw_tbl)
def fPf (own : String) (idx ci k : Nat) (ty : FieldType) : Prop := ∃ (C : String) (T : u_T) (N : Nat), vwCl[ci]? = some (C, T, N) ∧ k < N ∧ parseFieldDescriptor (T k).2.2.1 = some ty ∧ (T k).2.2.2 = true ∧ (T k).1 = own ∧
  Cond.fieldLink own idx (T k).1 (T k).2.1 (T k).2.2.1 ∈ lw_tbl
def tyV : FieldType → Value → Bool
  | .int, .int _ => true
  | .long, .long _ => true
  | .object _, .ref _ => true
  | .array _, .ref _ => true
  | _, _ => false
theorem tyV_ok {ty : FieldType} {v : Value} (b B : Nat) (h : tyV ty v = true) : narrow ty (rv b B v) = rv b B v ∧ fits ty (rv b B v) = true := by
  cases ty <;> cases v <;> first | exact ⟨rfl, rfl⟩ | simp [tyV] at h
theorem rv_ref {b B i : Nat} (h : i ≠ 0) : rv b B (.ref i) = .ref (B + i) := by
  show Value.ref (adr b B i) = _
  rw [adr_pos h]
theorem e_get {M : Mt} {sc : Option (Nat × (Nat → Int32))} {pc : Nat} {lv st : List Value} {w : Wd} {r : Option Value} {w' : Wd} {idx ci k i : Nat} {fs : List Value} {v : Value} (hd : decode M.2.2.1 pc = .ok (.getfield idx, 3)) (hf : fLk M.1 idx ci k) (hw : w[i]? = some (oB ci fs)) (hv : fs[k]? = some v)
    (kk : EW M sc (pc + 3) lv (v :: st) w r w') : EW M sc pc lv (.ref i :: st) w r w' := by
  refine ⟨kk.1, ?_⟩
  intro p l e R s m args below meth c Z dC dI cI cJ cR b B n0 t0 hC hn ht H locs ls hR hS hL
  have K := kk.2 p l e R s m args below meth c Z dC dI cI cJ cR b B n0 t0 hC hn ht H locs ls hR hS hL
  obtain ⟨hi, hat⟩ := hR.obj hw
  obtain ⟨C, T, N, hc, hk, hlk⟩ := hf
  have hv' : (fs.map (rv b B))[k]? = some (rv b B v) := by rw [List.getElem?_map, hv]; rfl
  show W p l e R s m args below meth c H locs _ _ Z (F0 m pc ls (rv b B (.ref i) :: st.map (rv b B)))
  rw [rv_ref hi]
  rcases hlk with hlk | ⟨h, hlk⟩
  · exact va_get hC.1 hC.2.1 hC.2.2.2.2.1 (cls_ok hc).1 hC.2.2.2.1 hC.2.2.2.2.2.1.1 (P1 hat) 0 rfl hc k hk (hC.2.2.2.2.1 _ (TG_in hlk rfl)) (fun _ h => h) hv' hd K
  · exact va_getN hC.1 hC.2.1 hC.2.2.2.2.1 (cls_ok hc).1 hC.2.2.2.1 hC.2.2.2.2.2.1.1 (P1 hat) 0 rfl hc k hk ((hC.2.2.2.2.2.1.2.1 _ hlk rfl).use rfl) (fun _ h => h) hv' hd K
section XPUT
variable {p : Program} {l : Launch} {e : Env} {R : Room} {s : State} {m : MethodId} {args : Array Value} {below : List Frame} {meth : Method} {c : Code} {H : Heap} {locs : List Loc} {cells slots : Nat} {Q : State → Prop}
variable {cc : ByteArray} {pc : Nat} {ls : Array Slot} {rest : List Value} {D : va_G} {cl : List vw_C} {a : Nat} {tys : List (ClassId × FieldType)}
theorem x_put (hexec : p.tables.exec = Jvm.exec) (hb : c.code = cc) {own C : String} {T : u_T} {N ci index : Nat} {Ts : List Cond} (hts : ∀ w ∈ Ts, w.before args s = true) (hin : ∀ w ∈ u_ws C T N, w ∈ Ts) (ty0 : Nat → FieldType) (hty : ∀ k, k < N → parseFieldDescriptor (T k).2.2.1 = some (ty0 k)) (hnm : ∀ a, a < N → ∀ b, b < N → a ≠ b → (T a).2.1 ≠ (T b).2.1) (hown : s.vm.findClass own = some m.cls) (hK : va_K D cl tys s) {fs : List Value} (hat : va_at D cl (a, .inr (ci, fs)) H) (hc : cl[ci]? = some (C, T, N)) (k : Nat) (hk : k < N)
    (hlink : (Cond.fieldLink own index (T k).1 (T k).2.1 (T k).2.2.1).before args s = true ∨ ∃ h, (Cond.fieldLinkNest own index (T k).1 (T k).2.1 (T k).2.2.1 h).before args s = true) (hfin : (T k).2.2.2 = false) {ty : FieldType} {v : Value} (hd : parseFieldDescriptor (T k).2.2.1 = some ty) (hn : narrow ty v = v) (hfit : fits ty v = true) (hl : k < fs.length)
    (hdg : decode cc pc = .ok (.putfield index, 3)) (kk : ∀ (H1 : Heap) (f : Nat), va_at D cl (a, .inr (ci, fs.set k v)) H1 → H1.size = H.size → (∀ q : Nat, q ≠ a → H1[q]? = H[q]?) → W p l e R s m args below meth c H1 (locs ++ [⟨a, f⟩]) cells slots Q (F0 m (pc + 3) ls rest)) : W p l e R s m args below meth c H locs cells slots Q (F0 m pc ls (v :: .ref a :: rest)) := by
  have hap := va_apart (own := own) hts hin ty0 hty hnm hK hc
  obtain ⟨r, h1, cell, q1, q2, q3, q4⟩ := hat
  have hr : r = (C, T, N) := Option.some.inj (h1.symm.trans hc)
  subst hr
  obtain ⟨hS, hfc, kC, hkC, hkind⟩ := hK.1 ci _ hc
  obtain ⟨cf, kf, fi, f, hi, hsl⟩ := hS k hk
  have hlay := hts _ (hin _ (u_in_lay hk))
  unfold u_lay at hlay
  rw [if_neg (by rw [hfin]; decide)] at hlay
  have hst := (u_facts hfc hkC (u_lays hts hin hk) hi).1
  have h6 := u_store hfc hkC hkind hlay hi hd hn hfit
  rcases hlink with hlink | ⟨h, hlink⟩
  · refine W.putK hexec hb (f := f) ⟨hown, hlink, ⟨_, _, _, hi⟩, hst⟩ (by rw [q2]; exact h6) q1 q3 (by rw [hsl]; exact k2_hasslot (q4 k hk)) rfl rfl hdg fun H' e1 e2 e3 => ?_
    rw [hsl] at e1 ⊢
    exact kk H' _ ⟨_, hc, t_OB.to (V := updV (vp_V fs) k v) ⟨_, e1, q2, q3, t_set q4 hap hk v⟩ (fun j _ => vp_updV_set hl v j)⟩ e2 e3
  · refine va_WputK hexec hb (f := f) hown hlink hi hst (by rw [q2]; exact h6) q1 q3 (by rw [hsl]; exact k2_hasslot (q4 k hk)) rfl rfl hdg fun H' e1 e2 e3 => ?_
    rw [hsl] at e1 ⊢
    exact kk H' _ ⟨_, hc, t_OB.to (V := updV (vp_V fs) k v) ⟨_, e1, q2, q3, t_set q4 hap hk v⟩ (fun j _ => vp_updV_set hl v j)⟩ e2 e3
theorem x_putF (hexec : p.tables.exec = Jvm.exec) (hb : c.code = cc) {own C : String} {T : u_T} {N ci index : Nat} {Ts : List Cond} (hts : ∀ w ∈ Ts, w.before args s = true) (hin : ∀ w ∈ u_ws C T N, w ∈ Ts) (ty0 : Nat → FieldType) (hty : ∀ k, k < N → parseFieldDescriptor (T k).2.2.1 = some (ty0 k)) (hnm : ∀ a, a < N → ∀ b, b < N → a ≠ b → (T a).2.1 ≠ (T b).2.1) (hown : s.vm.findClass own = some m.cls) (hK : va_K D cl tys s) {fs : List Value} (hat : va_at D cl (a, .inr (ci, fs)) H) (hc : cl[ci]? = some (C, T, N)) (k : Nat) (hk : k < N)
    (hlink : (Cond.fieldLink own index (T k).1 (T k).2.1 (T k).2.2.1).before args s = true) (hfin : (T k).2.2.2 = true) (hin2 : meth.name = "<init>") (hdecl : (T k).1 = own) {ty : FieldType} {v : Value} (hd : parseFieldDescriptor (T k).2.2.1 = some ty) (hn : narrow ty v = v) (hfit : fits ty v = true) (hl : k < fs.length)
    (hdg : decode cc pc = .ok (.putfield index, 3)) (kk : ∀ (H1 : Heap) (f : Nat), va_at D cl (a, .inr (ci, fs.set k v)) H1 → H1.size = H.size → (∀ q : Nat, q ≠ a → H1[q]? = H[q]?) → W p l e R s m args below meth c H1 (locs ++ [⟨a, f⟩]) cells slots Q (F0 m (pc + 3) ls rest)) : W p l e R s m args below meth c H locs cells slots Q (F0 m pc ls (v :: .ref a :: rest)) := by
  have hap := va_apart (own := own) hts hin ty0 hty hnm hK hc
  obtain ⟨r, h1, cell, q1, q2, q3, q4⟩ := hat
  have hr : r = (C, T, N) := Option.some.inj (h1.symm.trans hc)
  subst hr
  obtain ⟨hS, hfc, kC, hkC, hkind⟩ := hK.1 ci _ hc
  obtain ⟨cf, kf, fi, f, hi, hsl⟩ := hS k hk
  have hlay := hts _ (hin _ (u_in_lay hk))
  unfold u_lay at hlay
  rw [if_pos hfin] at hlay
  have hst := (u_facts hfc hkC (u_lays hts hin hk) hi).1
  have hcf : m.cls = cf := by
    obtain ⟨_, _, c', _, _, _, -, -, hf', -, -, -, hown2, -⟩ := Cond.laysFinal_spec hlay
    have e1 : c' = cf := by have := hi.symm.trans hf'; simp at this; exact this.1.symm
    rw [hdecl] at hown2
    rw [← e1]; exact Option.some.inj (hown.symm.trans hown2)
  have h6 := u_fits hfc hkC hkind (Or.inr hlay) hi hd hn hfit
  refine W.putFinK hexec hb hown hlink hi hst hcf hin2 (by rw [q2]; exact h6) q1 q3 (by rw [hsl]; exact k2_hasslot (q4 k hk)) rfl rfl hdg fun H' e1 e2 e3 => ?_
  rw [hsl] at e1 ⊢
  exact kk H' _ ⟨_, hc, t_OB.to (V := updV (vp_V fs) k v) ⟨_, e1, q2, q3, t_set q4 hap hk v⟩ (fun j _ => vp_updV_set hl v j)⟩ e2 e3
theorem x_iast (hexec : p.tables.exec = Jvm.exec) (hb : c.code = cc) (hK : va_K D cl tys s) (t0 : Nat) {cA : ClassId} {n : Nat} {f : Nat → Int32} (hat : va_at D cl (a, .inl (cA, n, .inl f)) H) (ht : tys[t0]? = some (cA, .int)) {i : Int32} {x : Int32} (hin : vp_in i n) (hdg : decode cc pc = .ok (.iastore, 1))
    (kk : ∀ (H1 : Heap) (f1 : Nat), va_at D cl (a, .inl (cA, n, .inl (va_up f i.toNatClampNeg x))) H1 → H1.size = H.size → (∀ q : Nat, q ≠ a → H1[q]? = H[q]?) → W p l e R s m args below meth c H1 (locs ++ [⟨a, f1⟩]) cells slots Q (F0 m (pc + 1) ls rest)) : W p l e R s m args below meth c H locs cells slots Q (F0 m pc ls (.int x :: .int i :: .ref a :: rest)) := by
  refine W.iast hexec hb hat ((hK.2 t0 _ ht).1 n (fun j => .int (f j))) (fun q => by cases q) (by show ¬ (i < 0 ∨ (arrV _ _ _).slots.size ≤ _); rw [arrV_size]; exact hin) rfl rfl hdg fun H1 e z oq => ?_
  refine kk H1 _ ?_ z oq
  show H1[a]? = some (vp_cell _ _)
  rw [e]
  rw [vp_cell_i, vp_cell_i, arrV_store]
  congr 2
  funext q
  by_cases hq : q = i.toNatClampNeg
  · subst hq
    simp [updV, va_up]
  · simp [updV, va_up, hq]
theorem x_last (hexec : p.tables.exec = Jvm.exec) (hb : c.code = cc) (hK : va_K D cl tys s) (t0 : Nat) {cA : ClassId} {n : Nat} {f : Nat → Int64} (hat : va_at D cl (a, .inl (cA, n, .inr (.inl f))) H) (ht : tys[t0]? = some (cA, .long)) {i : Int32} {x : Int64} (hin : vp_in i n) (hdg : decode cc pc = .ok (.lastore, 1))
    (kk : ∀ (H1 : Heap) (f1 : Nat), va_at D cl (a, .inl (cA, n, .inr (.inl (va_up f i.toNatClampNeg x)))) H1 → H1.size = H.size → (∀ q : Nat, q ≠ a → H1[q]? = H[q]?) → W p l e R s m args below meth c H1 (locs ++ [⟨a, f1⟩]) cells slots Q (F0 m (pc + 1) ls rest)) : W p l e R s m args below meth c H locs cells slots Q (F0 m pc ls (.long x :: .int i :: .ref a :: rest)) := by
  refine W.last hexec hb hat ((hK.2 t0 _ ht).1 n (fun j => .long (f j))) (fun q => by cases q) (by show ¬ (i < 0 ∨ (arrV _ _ _).slots.size ≤ _); rw [arrV_size]; exact hin) rfl rfl hdg fun H1 e z oq => ?_
  refine kk H1 _ ?_ z oq
  show H1[a]? = some (vp_cell _ _)
  rw [e]
  rw [vp_cell_l, vp_cell_l, arrV_store]
  congr 2
  funext q
  by_cases hq : q = i.toNatClampNeg
  · subst hq
    simp [updV, va_up]
  · simp [updV, va_up, hq]
theorem x_aast (hexec : p.tables.exec = Jvm.exec) (hb : c.code = cc) (hK : va_K D cl tys s) (t0 ci : Nat) {cA : ClassId} {q9 : vw_C} {n v : Nat} {vs : List Value} {f : Nat → Option Nat} (hat : va_at D cl (a, .inl (cA, n, .inr (.inr (.inr (.inr f))))) H) (ht : tys[t0]? = some (cA, .object q9.1)) (hv : va_at D cl (v, .inr (ci, vs)) H) (hc : cl[ci]? = some q9) {i : Int32} (hin : vp_in i n) (hdg : decode cc pc = .ok (.aastore, 1))
    (kk : ∀ (H1 : Heap) (f1 : Nat), va_at D cl (a, .inl (cA, n, .inr (.inr (.inr (.inr (va_up f i.toNatClampNeg (some v))))))) H1 → H1.size = H.size → (∀ q : Nat, q ≠ a → H1[q]? = H[q]?) → W p l e R s m args below meth c H1 (locs ++ [⟨a, f1⟩]) cells slots Q (F0 m (pc + 1) ls rest)) : W p l e R s m args below meth c H locs cells slots Q (F0 m pc ls (.ref v :: .int i :: .ref a :: rest)) := by
  have hlt : i.toNatClampNeg < n := Nat.not_le.mp fun q => hin (Or.inr q)
  have h0 : ¬ i < 0 := fun q => hin (Or.inl q)
  obtain ⟨r', hr', cellV, g1, g2, g3, -⟩ := hv
  have hcls := (hK.1 ci q9 hc).2
  obtain ⟨kA, comp, k1, k2, k3, -⟩ := (hK.2 t0 _ ht).2
  have hcomp : comp = D.1 ci := Option.some.inj (k3.symm.trans hcls.1)
  subst hcomp
  obtain ⟨kC, hkC, -⟩ := id hcls.2
  refine W.aast hexec hb hat (fun q h => by cases h) (fun h => by cases h) k1 k2 rfl hkC ⟨h0, by show _ < (arrV _ _ _).slots.size; rw [arrV_size]; exact hlt⟩ g1 (fun q h => by rw [g3] at h; cases h) (by rw [g2]; exact hkC) (by rw [g2]; exact va_assign hcls) rfl rfl hdg fun H1 e z oq => ?_
  refine kk H1 _ ?_ z oq
  show H1[a]? = some (vp_cell _ _)
  rw [e]
  rw [vp_cell_q, vp_cell_q, arrV_store]
  congr 2
  funext q
  by_cases hq : q = i.toNatClampNeg
  · subst hq
    simp [updV, va_up, va_rf]
  · simp [updV, va_up, hq]
end XPUT
theorem tot_setL {w : Wd} {i : Nat} {e0 e : Cel} (h : w[i]? = some e0) (hs : szE e = szE e0) : (w.set i e).length = w.length ∧ tot (w.set i e) = tot w := ⟨List.length_set, tot_set w i e0 e h hs⟩
theorem e_put {M : Mt} {sc : Option (Nat × (Nat → Int32))} {pc : Nat} {lv st : List Value} {w : Wd} {r : Option Value} {w' : Wd} {idx ci k i : Nat} {ty : FieldType} {fs : List Value} {v : Value} (hd : decode M.2.2.1 pc = .ok (.putfield idx, 3)) (hf : fPt M.1 idx ci k ty) (hw : w[i]? = some (oB ci fs)) (hv : tyV ty v = true) (hl : k < fs.length)
    (kk : EW M sc (pc + 3) lv st (w.set i (oB ci (fs.set k v))) r w') : EW M sc pc lv (v :: .ref i :: st) w r w' := by
  have hz := tot_setL (e := oB ci (fs.set k v)) hw (by simp [szE])
  obtain ⟨k1, k2⟩ := kk
  rw [hz.1, hz.2] at k1 k2
  refine ⟨k1, ?_⟩
  intro p l e R s m args below meth c Z dC dI cI cJ cR b B n0 t0 hC hn ht H locs ls hR hS hL
  obtain ⟨hi, hat⟩ := hR.obj hw
  obtain ⟨C, T, N, hc, hk, hp, hfin, hlk⟩ := hf
  obtain ⟨c1, ⟨ty0, c2⟩, c3⟩ := cls_ok hc
  obtain ⟨v1, v2⟩ := tyV_ok b B hv
  show W p l e R s m args below meth c H locs _ _ Z (F0 m pc ls (rv b B v :: rv b B (.ref i) :: st.map (rv b B)))
  rw [rv_ref hi]
  refine x_put hC.1 hC.2.1 hC.2.2.2.2.1 c1 ty0 c2 c3 hC.2.2.2.1 hC.2.2.2.2.2.1.1 hat hc k hk (hlk.elim (fun h => Or.inl (hC.2.2.2.2.1 _ (TG_in h rfl))) (fun ⟨h, q⟩ => Or.inr ⟨h, (hC.2.2.2.2.2.1.2.1 _ q rfl).use rfl⟩)) hfin hp v1 v2 (by rw [List.length_map]; exact hl) hd (fun H1 f a1 a2 a3 => ?_)
  exact k2 p l e R s m args below meth c Z dC dI cI cJ cR b B n0 t0 hC hn ht H1 _ ls (hR.set hi (by rw [← List.map_set] at a1; exact a1) a2 a3) (hS.put a2 a3 (by show B < B + i; omega)) hL
theorem e_putF {M : Mt} {sc : Option (Nat × (Nat → Int32))} {pc : Nat} {lv st : List Value} {w : Wd} {r : Option Value} {w' : Wd} {idx ci k i : Nat} {ty : FieldType} {fs : List Value} {v : Value} (hd : decode M.2.2.1 pc = .ok (.putfield idx, 3)) (hf : fPf M.1 idx ci k ty) (hini : M.2.1.name = "<init>") (hw : w[i]? = some (oB ci fs)) (hv : tyV ty v = true) (hl : k < fs.length)
    (kk : EW M sc (pc + 3) lv st (w.set i (oB ci (fs.set k v))) r w') : EW M sc pc lv (v :: .ref i :: st) w r w' := by
  have hz := tot_setL (e := oB ci (fs.set k v)) hw (by simp [szE])
  obtain ⟨k1, k2⟩ := kk
  rw [hz.1, hz.2] at k1 k2
  refine ⟨k1, ?_⟩
  intro p l e R s m args below meth c Z dC dI cI cJ cR b B n0 t0 hC hn ht H locs ls hR hS hL
  obtain ⟨hi, hat⟩ := hR.obj hw
  obtain ⟨C, T, N, hc, hk, hp, hfin, hdecl, hlk⟩ := hf
  obtain ⟨c1, ⟨ty0, c2⟩, c3⟩ := cls_ok hc
  obtain ⟨v1, v2⟩ := tyV_ok b B hv
  show W p l e R s m args below meth c H locs _ _ Z (F0 m pc ls (rv b B v :: rv b B (.ref i) :: st.map (rv b B)))
  rw [rv_ref hi]
  refine x_putF hC.1 hC.2.1 hC.2.2.2.2.1 c1 ty0 c2 c3 hC.2.2.2.1 hC.2.2.2.2.2.1.1 hat hc k hk (hC.2.2.2.2.1 _ (TG_in hlk rfl)) hfin (hC.2.2.2.2.2.2.2.2.2.1 hini) hdecl hp v1 v2 (by rw [List.length_map]; exact hl) hd (fun H1 f a1 a2 a3 => ?_)
  exact k2 p l e R s m args below meth c Z dC dI cI cJ cR b B n0 t0 hC hn ht H1 _ ls (hR.set hi (by rw [← List.map_set] at a1; exact a1) a2 a3) (hS.put a2 a3 (by show B < B + i; omega)) hL
theorem nI_vp {j : Int32} {k n : Nat} (hj : j = nI k) (hk : k < n) (hn : n < 2 ^ 31) : vp_in j n ∧ j.toNatClampNeg = k := by
  subst hj
  exact ⟨vp_in_nI hk hn, nI_clamp (by omega)⟩
theorem e_iald {M : Mt} {sc : Option (Nat × (Nat → Int32))} {pc : Nat} {lv st : List Value} {w : Wd} {r : Option Value} {w' : Wd} {i n : Nat} {f : Nat → Int32} {j : Int32} (k : Nat) (hd : decode M.2.2.1 pc = .ok (.iaload, 1)) (hw : w[i]? = some (aI n f)) (hj : j = nI k) (hk : k < n) (hn9 : n < 2 ^ 31)
    (kk : EW M sc (pc + 1) lv (.int (f k) :: st) w r w') : EW M sc pc lv (.int j :: .ref i :: st) w r w' := by
  refine ⟨kk.1, ?_⟩
  intro p l e R s m args below meth c Z dC dI cI cJ cR b B n0 t0 hC hn ht H locs ls hR hS hL
  have K := kk.2 p l e R s m args below meth c Z dC dI cI cJ cR b B n0 t0 hC hn ht H locs ls hR hS hL
  obtain ⟨hi, hat⟩ := hR.arI hw
  obtain ⟨q1, q2⟩ := nI_vp hj hk hn9
  show W p l e R s m args below meth c H locs _ _ Z (F0 m pc ls (.int j :: rv b B (.ref i) :: st.map (rv b B)))
  rw [rv_ref hi]
  refine va_iald hC.1 hC.2.1 hC.2.2.2.2.2.1.1 (P1 hat) 0 0 rfl rfl q1 hd ?_
  rw [q2]
  exact K
theorem e_lald {M : Mt} {sc : Option (Nat × (Nat → Int32))} {pc : Nat} {lv st : List Value} {w : Wd} {r : Option Value} {w' : Wd} {i n : Nat} {f : Nat → Int64} {j : Int32} (k : Nat) (hd : decode M.2.2.1 pc = .ok (.laload, 1)) (hw : w[i]? = some (aJ n f)) (hj : j = nI k) (hk : k < n) (hn9 : n < 2 ^ 31)
    (kk : EW M sc (pc + 1) lv (.long (f k) :: st) w r w') : EW M sc pc lv (.int j :: .ref i :: st) w r w' := by
  refine ⟨kk.1, ?_⟩
  intro p l e R s m args below meth c Z dC dI cI cJ cR b B n0 t0 hC hn ht H locs ls hR hS hL
  have K := kk.2 p l e R s m args below meth c Z dC dI cI cJ cR b B n0 t0 hC hn ht H locs ls hR hS hL
  obtain ⟨hi, hat⟩ := hR.arJ hw
  obtain ⟨q1, q2⟩ := nI_vp hj hk hn9
  show W p l e R s m args below meth c H locs _ _ Z (F0 m pc ls (.int j :: rv b B (.ref i) :: st.map (rv b B)))
  rw [rv_ref hi]
  refine va_lald hC.1 hC.2.1 hC.2.2.2.2.2.1.1 (P1 hat) 0 1 rfl rfl q1 hd ?_
  rw [q2]
  exact K
theorem e_aald {M : Mt} {sc : Option (Nat × (Nat → Int32))} {pc : Nat} {lv st : List Value} {w : Wd} {r : Option Value} {w' : Wd} {i n x : Nat} {f : Nat → Option Nat} {j : Int32} (k : Nat) (hd : decode M.2.2.1 pc = .ok (.aaload, 1)) (hw : w[i]? = some (aR n f)) (hj : j = nI k) (hk : k < n) (hn9 : n < 2 ^ 31) (hx : f k = some x)
    (kk : EW M sc (pc + 1) lv (.ref x :: st) w r w') : EW M sc pc lv (.int j :: .ref i :: st) w r w' := by
  refine ⟨kk.1, ?_⟩
  intro p l e R s m args below meth c Z dC dI cI cJ cR b B n0 t0 hC hn ht H locs ls hR hS hL
  have K := kk.2 p l e R s m args below meth c Z dC dI cI cJ cR b B n0 t0 hC hn ht H locs ls hR hS hL
  obtain ⟨hi, hat⟩ := hR.arR (by omega) hw
  obtain ⟨q1, q2⟩ := nI_vp hj hk hn9
  show W p l e R s m args below meth c H locs _ _ Z (F0 m pc ls (.int j :: rv b B (.ref i) :: st.map (rv b B)))
  rw [rv_ref hi]
  refine va_aldq hC.1 hC.2.1 hC.2.2.2.2.2.1.1 (P1 hat) 0 2 rfl rfl q1 hd ?_
  rw [q2]
  simp only [hx]
  exact K
theorem e_alenI {M : Mt} {sc : Option (Nat × (Nat → Int32))} {pc : Nat} {lv st : List Value} {w : Wd} {r : Option Value} {w' : Wd} {i n : Nat} {f : Nat → Int32} (hd : decode M.2.2.1 pc = .ok (.arraylength, 1)) (hw : w[i]? = some (aI n f))
    (kk : EW M sc (pc + 1) lv (.int (nI n) :: st) w r w') : EW M sc pc lv (.ref i :: st) w r w' := by
  refine ⟨kk.1, ?_⟩
  intro p l e R s m args below meth c Z dC dI cI cJ cR b B n0 t0 hC hn ht H locs ls hR hS hL
  have K := kk.2 p l e R s m args below meth c Z dC dI cI cJ cR b B n0 t0 hC hn ht H locs ls hR hS hL
  obtain ⟨hi, hat⟩ := hR.arI hw
  show W p l e R s m args below meth c H locs _ _ Z (F0 m pc ls (rv b B (.ref i) :: st.map (rv b B)))
  rw [rv_ref hi]
  exact va_alen hC.1 hC.2.1 hC.2.2.2.2.2.1.1 (P1 hat) 0 0 rfl rfl rfl hd K
theorem e_iast {M : Mt} {sc : Option (Nat × (Nat → Int32))} {pc : Nat} {lv st : List Value} {w : Wd} {r : Option Value} {w' : Wd} {i n : Nat} {f : Nat → Int32} {j x : Int32} (k : Nat) (hd : decode M.2.2.1 pc = .ok (.iastore, 1)) (hw : w[i]? = some (aI n f)) (hj : j = nI k) (hk : k < n) (hn9 : n < 2 ^ 31)
    (kk : EW M sc (pc + 1) lv st (w.set i (aI n (va_up f k x))) r w') : EW M sc pc lv (.int x :: .int j :: .ref i :: st) w r w' := by
  have hz := tot_setL (e := aI n (va_up f k x)) hw (by simp [szE])
  obtain ⟨k1, k2⟩ := kk
  rw [hz.1, hz.2] at k1 k2
  refine ⟨k1, ?_⟩
  intro p l e R s m args below meth c Z dC dI cI cJ cR b B n0 t0 hC hn ht H locs ls hR hS hL
  obtain ⟨hi, hat⟩ := hR.arI hw
  obtain ⟨q1, q2⟩ := nI_vp hj hk hn9
  show W p l e R s m args below meth c H locs _ _ Z (F0 m pc ls (.int x :: .int j :: rv b B (.ref i) :: st.map (rv b B)))
  rw [rv_ref hi]
  refine x_iast hC.1 hC.2.1 hC.2.2.2.2.2.1.1 0 hat rfl q1 hd (fun H1 f1 a1 a2 a3 => ?_)
  rw [q2] at a1
  exact k2 p l e R s m args below meth c Z dC dI cI cJ cR b B n0 t0 hC hn ht H1 _ ls (hR.set hi a1 a2 a3) (hS.put a2 a3 (by show B < B + i; omega)) hL
theorem e_last {M : Mt} {sc : Option (Nat × (Nat → Int32))} {pc : Nat} {lv st : List Value} {w : Wd} {r : Option Value} {w' : Wd} {i n : Nat} {f : Nat → Int64} {j : Int32} {x : Int64} (k : Nat) (hd : decode M.2.2.1 pc = .ok (.lastore, 1)) (hw : w[i]? = some (aJ n f)) (hj : j = nI k) (hk : k < n) (hn9 : n < 2 ^ 31)
    (kk : EW M sc (pc + 1) lv st (w.set i (aJ n (va_up f k x))) r w') : EW M sc pc lv (.long x :: .int j :: .ref i :: st) w r w' := by
  have hz := tot_setL (e := aJ n (va_up f k x)) hw (by simp [szE])
  obtain ⟨k1, k2⟩ := kk
  rw [hz.1, hz.2] at k1 k2
  refine ⟨k1, ?_⟩
  intro p l e R s m args below meth c Z dC dI cI cJ cR b B n0 t0 hC hn ht H locs ls hR hS hL
  obtain ⟨hi, hat⟩ := hR.arJ hw
  obtain ⟨q1, q2⟩ := nI_vp hj hk hn9
  show W p l e R s m args below meth c H locs _ _ Z (F0 m pc ls (.long x :: .int j :: rv b B (.ref i) :: st.map (rv b B)))
  rw [rv_ref hi]
  refine x_last hC.1 hC.2.1 hC.2.2.2.2.2.1.1 1 hat rfl q1 hd (fun H1 f1 a1 a2 a3 => ?_)
  rw [q2] at a1
  exact k2 p l e R s m args below meth c Z dC dI cI cJ cR b B n0 t0 hC hn ht H1 _ ls (hR.set hi a1 a2 a3) (hS.put a2 a3 (by show B < B + i; omega)) hL
theorem e_aast {M : Mt} {sc : Option (Nat × (Nat → Int32))} {pc : Nat} {lv st : List Value} {w : Wd} {r : Option Value} {w' : Wd} {i n x : Nat} {vs : List Value} {f : Nat → Option Nat} {j : Int32} (k : Nat) (hd : decode M.2.2.1 pc = .ok (.aastore, 1)) (hw : w[i]? = some (aR n f)) (hj : j = nI k) (hk : k < n) (hn9 : n < 2 ^ 31) (hx : w[x]? = some (oB 4 vs))
    (kk : EW M sc (pc + 1) lv st (w.set i (aR n (va_up f k (some x)))) r w') : EW M sc pc lv (.ref x :: .int j :: .ref i :: st) w r w' := by
  have hz := tot_setL (e := aR n (va_up f k (some x))) hw (by simp [szE])
  obtain ⟨k1, k2⟩ := kk
  rw [hz.1, hz.2] at k1 k2
  refine ⟨k1, ?_⟩
  intro p l e R s m args below meth c Z dC dI cI cJ cR b B n0 t0 hC hn ht H locs ls hR hS hL
  obtain ⟨hi, hat⟩ := hR.arR (by omega) hw
  obtain ⟨hx0, hatx⟩ := hR.obj hx
  obtain ⟨q1, q2⟩ := nI_vp hj hk hn9
  show W p l e R s m args below meth c H locs _ _ Z (F0 m pc ls (rv b B (.ref x) :: .int j :: rv b B (.ref i) :: st.map (rv b B)))
  rw [rv_ref hi, rv_ref hx0]
  refine x_aast (q9 := (RX4, TX4, 2)) hC.1 hC.2.1 hC.2.2.2.2.2.1.1 2 4 hat rfl hatx rfl q1 hd (fun H1 f1 a1 a2 a3 => ?_)
  rw [q2] at a1
  refine k2 p l e R s m args below meth c Z dC dI cI cJ cR b B n0 t0 hC hn ht H1 _ ls (hR.set hi ?_ a2 a3) (hS.put a2 a3 (by show B < B + i; omega)) hL
  have e9 : (va_up (fun k => (f k).map (adr b B)) k (some (B + x))) = fun q => (va_up f k (some x) q).map (adr b B) := by
    funext q
    by_cases hq : q = k
    · simp [va_up, hq, adr_pos hx0]
    · simp [va_up, hq]
  rw [e9] at a1
  exact a1
end
section
/-! RULES: new cells, calls, and the contract out of the walk -/
def nNw (own : String) (idx ci : Nat) (fs : List Value) : Prop := ∃ (C : String) (T : u_T) (N : Nat) (ty0 : Nat → FieldType), vwCl[ci]? = some (C, T, N) ∧ Cond.classLink own idx C ∈ lw_tbl ∧ Cond.instantiable C N ∈ lw_tbl ∧ Cond.initialized C ∈ lw_tbl ∧
  (∀ k, k < N → parseFieldDescriptor (T k).2.2.1 = some (ty0 k)) ∧ (∀ j, j < N → defaultValue (ty0 j) = vp_V fs j) ∧ fs.length = N ∧ ∀ b B, fs.map (rv b B) = fs
theorem RZ.size {dC : Nat → ClassId} {dI : Nat → Nat → Nat} {cI cJ cR : ClassId} {b B : Nat} {w : Wd} {H : Heap} (h : RZ dC dI cI cJ cR b B w H) : rv b B (.ref w.length) = .ref H.size := by
  rw [rv_ref (Nat.ne_of_gt h.pos), h.2.1]
theorem va_S.grow {A : Nat → Prop} {H0 H H1 : Heap} {locs : List Loc} (h : va_S A H0 H locs) (z : H1.size = H.size + 1) (oq : ∀ q : Nat, q < H.size → H1[q]? = H[q]?) : va_S A H0 H1 locs :=
  ⟨Nat.le_trans h.1 (by omega), fun x h1 h2 => (oq x (Nat.lt_of_lt_of_le h1 h.1)).trans (h.2.1 x h1 h2), h.2.2⟩
theorem e_new {M : Mt} {sc : Option (Nat × (Nat → Int32))} {pc : Nat} {lv st : List Value} {w : Wd} {r : Option Value} {w' : Wd} {idx ci : Nat} {fs : List Value} (hd : decode M.2.2.1 pc = .ok (.new idx, 3)) (hf : nNw M.1 idx ci fs)
    (kk : EW M sc (pc + 3) lv (.ref w.length :: st) (w ++ [oB ci fs]) r w') : EW M sc pc lv st w r w' := by
  obtain ⟨C, T, N, ty0, hc, h1, h2, h3, h4, h5, h6, h7⟩ := hf
  have z1 : (w ++ [oB ci fs]).length = w.length + 1 := by simp
  have z2 : tot (w ++ [oB ci fs]) = tot w + N := by rw [tot_app]; simp [tot, szE, h6]
  obtain ⟨k1, k2⟩ := kk
  rw [z1, z2] at k1 k2
  refine ⟨⟨by omega, by omega⟩, ?_⟩
  intro p l e R s m args below meth c Z dC dI cI cJ cR b B n0 t0 hC hn ht H locs ls hR hS hL
  have hts := hC.2.2.2.2.1
  have hrm := hC.2.2.2.2.2.2.2.2.1
  have hKn := hC.2.2.2.2.2.1.1.1 ci _ hc
  refine W.newcK hC.1 hC.2.1 hC.2.2.2.1 (hts _ (TG_in h1 rfl)) (hts _ (TG_in h2 rfl)) (hts _ (TG_in h3 rfl)) rfl hd (by omega) (by omega) hKn.2.1 rfl fun H1 kC hkC e1 e2 e3 => ?_
  have K := k2 p l e R s m args below meth c Z dC dI cI cJ cR b B n0 t0 hC (by omega) (by omega) H1 locs ls (hR.push (e := oB ci fs) (by
    show va_at _ _ (H.size, .inr (ci, fs.map (rv b B))) H1
    rw [h7]
    exact ⟨_, hc, (u_born ty0 hts (cls_ok hc).1 hKn hkC e1 h4).to h5⟩) e2 e3) (hS.grow e2 e3) hL
  have K : W p l e R s m args below meth c H1 locs (w.length + 1 - n0) (tot w + N - t0) Z (F0 m (pc + 3) ls (rv b B (.ref w.length) :: st.map (rv b B))) := K
  rw [hR.size, show w.length + 1 - n0 = w.length - n0 + 1 by omega, show tot w + N - t0 = tot w - t0 + N by omega] at K
  exact K
theorem e_newI {M : Mt} {sc : Option (Nat × (Nat → Int32))} {pc : Nat} {lv st : List Value} {w : Wd} {r : Option Value} {w' : Wd} {j : Int32} (n : Nat) (hd : decode M.2.2.1 pc = .ok (.newarray .int, 2)) (hj : j = nI n) (hn9 : n ≤ 1000000) (hcl : Cond.arrayClass .int ∈ lw_tbl)
    (kk : EW M sc (pc + 2) lv (.ref w.length :: st) (w ++ [aI n (fun _ => 0)]) r w') : EW M sc pc lv (.int j :: st) w r w' := by
  have z1 : (w ++ [aI n (fun _ => 0)]).length = w.length + 1 := by simp
  have z2 : tot (w ++ [aI n (fun _ => 0)]) = tot w + n := by rw [tot_app]; simp [tot, szE]
  obtain ⟨k1, k2⟩ := kk
  rw [z1, z2] at k1 k2
  refine ⟨⟨by omega, by omega⟩, ?_⟩
  intro p l e R s m args below meth c Z dC dI cI cJ cR b B n0 t0 hC hn ht H locs ls hR hS hL
  have hts := hC.2.2.2.2.1
  have hrm := hC.2.2.2.2.2.2.2.2.1
  subst hj
  refine va_newaK (atype := .int) hC.1 hC.2.1 (hts _ (TG_in hcl rfl)) rfl hd rfl (nI_pos (by omega)) (nI_clamp (by omega)) (by show n * 4 ≤ _; omega) (by omega) (by omega) rfl fun H1 cA e1 e2 e3 hAr hNm => ?_
  have hcA : cA = cI := Option.some.inj (hNm.symm.trans (hC.2.2.2.2.2.1.1.2 0 _ rfl).2)
  subst hcA
  have K := k2 p l e R s m args below meth c Z dC dI cA cJ cR b B n0 t0 hC (by omega) (by omega) H1 locs ls (hR.push (e := aI n (fun _ => 0)) e1 e2 e3) (hS.grow e2 e3) hL
  have K : W p l e R s m args below meth c H1 locs (w.length + 1 - n0) (tot w + n - t0) Z (F0 m (pc + 2) ls (rv b B (.ref w.length) :: st.map (rv b B))) := K
  rw [hR.size, show w.length + 1 - n0 = w.length - n0 + 1 by omega, show tot w + n - t0 = tot w - t0 + n by omega] at K
  exact K
theorem e_newJ {M : Mt} {sc : Option (Nat × (Nat → Int32))} {pc : Nat} {lv st : List Value} {w : Wd} {r : Option Value} {w' : Wd} {j : Int32} (n : Nat) (hd : decode M.2.2.1 pc = .ok (.newarray .long, 2)) (hj : j = nI n) (hn9 : n ≤ 1000000) (hcl : Cond.arrayClass .long ∈ lw_tbl)
    (kk : EW M sc (pc + 2) lv (.ref w.length :: st) (w ++ [aJ n (fun _ => 0)]) r w') : EW M sc pc lv (.int j :: st) w r w' := by
  have z1 : (w ++ [aJ n (fun _ => 0)]).length = w.length + 1 := by simp
  have z2 : tot (w ++ [aJ n (fun _ => 0)]) = tot w + n := by rw [tot_app]; simp [tot, szE]
  obtain ⟨k1, k2⟩ := kk
  rw [z1, z2] at k1 k2
  refine ⟨⟨by omega, by omega⟩, ?_⟩
  intro p l e R s m args below meth c Z dC dI cI cJ cR b B n0 t0 hC hn ht H locs ls hR hS hL
  have hts := hC.2.2.2.2.1
  have hrm := hC.2.2.2.2.2.2.2.2.1
  subst hj
  refine va_newaK (atype := .long) hC.1 hC.2.1 (hts _ (TG_in hcl rfl)) rfl hd rfl (nI_pos (by omega)) (nI_clamp (by omega)) (by show n * 8 ≤ _; omega) (by omega) (by omega) rfl fun H1 cA e1 e2 e3 hAr hNm => ?_
  have hcA : cA = cJ := Option.some.inj (hNm.symm.trans (hC.2.2.2.2.2.1.1.2 1 _ rfl).2)
  subst hcA
  have K := k2 p l e R s m args below meth c Z dC dI cI cA cR b B n0 t0 hC (by omega) (by omega) H1 locs ls (hR.push (e := aJ n (fun _ => 0)) e1 e2 e3) (hS.grow e2 e3) hL
  have K : W p l e R s m args below meth c H1 locs (w.length + 1 - n0) (tot w + n - t0) Z (F0 m (pc + 2) ls (rv b B (.ref w.length) :: st.map (rv b B))) := K
  rw [hR.size, show w.length + 1 - n0 = w.length - n0 + 1 by omega, show tot w + n - t0 = tot w - t0 + n by omega] at K
  exact K
theorem e_newR {M : Mt} {sc : Option (Nat × (Nat → Int32))} {pc idx : Nat} {lv st : List Value} {w : Wd} {r : Option Value} {w' : Wd} {j : Int32} (n : Nat) (hd : decode M.2.2.1 pc = .ok (.anewarray idx, 3)) (hj : j = nI n) (hn9 : n ≤ 1000000) (hcl : Cond.classLink M.1 idx RX4 ∈ lw_tbl)
    (kk : EW M sc (pc + 3) lv (.ref w.length :: st) (w ++ [aR n (fun _ => none)]) r w') : EW M sc pc lv (.int j :: st) w r w' := by
  have z1 : (w ++ [aR n (fun _ => none)]).length = w.length + 1 := by simp
  have z2 : tot (w ++ [aR n (fun _ => none)]) = tot w + n := by rw [tot_app]; simp [tot, szE]
  obtain ⟨k1, k2⟩ := kk
  rw [z1, z2] at k1 k2
  refine ⟨⟨by omega, by omega⟩, ?_⟩
  intro p l e R s m args below meth c Z dC dI cI cJ cR b B n0 t0 hC hn ht H locs ls hR hS hL
  have hts := hC.2.2.2.2.1
  have hrm := hC.2.2.2.2.2.2.2.2.1
  subst hj
  have hcn : (nI n).toNatClampNeg = n := nI_clamp (by omega)
  refine W.anew hC.1 hC.2.1 hC.2.2.2.1 (hts _ (TG_in hcl rfl)) (va_AO.use hC.2.2.2.2.2.1.2.2) rfl hd rfl (nI_pos (by omega)) (by rw [hcn]; omega) (by omega) (by rw [hcn]; omega) fun cA kA comp f1 f2 f3 f4 => ?_
  rw [hcn]
  generalize hH1 : H.push ({ cls := cA, slots := Array.replicate n .null, vm := .none } : Cell) = H1
  have e2 : H1.size = H.size + 1 := by rw [← hH1, Array.size_push]
  have e1 : H1[H.size]? = some (arrV cA n (fun _ => .null)) := by rw [← hH1, Array.getElem?_push_size, ← arrV_new]
  have e3 : ∀ q : Nat, q < H.size → H1[q]? = H[q]? := fun q hq => by rw [← hH1, Array.getElem?_push, if_neg (Nat.ne_of_lt hq)]
  obtain ⟨-, -, -, -, -, g4⟩ := (hC.2.2.2.2.2.1.1.2 2 _ rfl).2
  have hcA : cA = cR := Option.some.inj (f1.symm.trans g4)
  subst hcA
  have K := k2 p l e R s m args below meth c Z dC dI cI cJ cA b B n0 t0 hC (by omega) (by omega) H1 locs ls (hR.push (e := aR n (fun _ => none)) e1 e2 e3) (hS.grow e2 e3) hL
  have K : W p l e R s m args below meth c H1 locs (w.length + 1 - n0) (tot w + n - t0) Z (F0 m (pc + 3) ls (rv b B (.ref w.length) :: st.map (rv b B))) := K
  rw [hR.size, show w.length + 1 - n0 = w.length - n0 + 1 by omega, show tot w + n - t0 = tot w - t0 + n by omega] at K
  exact K
/-- Object's own constructor -/
theorem e_oinit {M : Mt} {sc : Option (Nat × (Nat → Int32))} {pc idx i : Nat} {lv st : List Value} {w : Wd} {r : Option Value} {w' : Wd} (hd : decode M.2.2.1 pc = .ok (.invokespecial idx, 3)) (h1 : Cond.methodLink M.1 idx objectInit ∈ lw_tbl) (h2 : Cond.instanceMethod objectInit ∈ lw_tbl) (h3 : Cond.code objectInit ⟨#[0xb1]⟩ 1 none ∈ lw_tbl) (hdp : 1 ≤ M.2.2.2.2.2) (hsum : (st.map Value.category).sum ≤ 8)
    (k : EW M sc (pc + 3) lv st w r w') : EW M sc pc lv (.ref i :: st) w r w' := by
  refine ⟨k.1, ?_⟩
  intro p l e R s m args below meth c Z dC dI cI cJ cR b B n0 t0 hC hn ht H locs ls hR hS hL
  have hts := hC.2.2.2.2.1
  have hrm := hC.2.2.2.2.2.2.2.2.1
  have hcs : ((st.map (rv b B)).map fun v => v.category).sum ≤ 8 := by
    rw [List.map_map, show ((fun v : Value => v.category) ∘ rv b B) = Value.category from funext (rv_cat b B)]; exact hsum
  exact W.objInit hC.1 hC.2.1 hC.2.2.2.1 (hts _ (TG_in h1 rfl)) (hts _ (TG_in h2 rfl)) (hts _ (TG_in h3 rfl)) rfl (by rw [hC.2.2.1]; exact hL.1) rfl hd (by omega) (by have := lv_room (m := m) (pc := pc) (ls := ls) (rest := (Value.ref i :: st).map (rv b B)) hcs; omega) (k.2 p l e R s m args below meth c Z dC dI cI cJ cR b B n0 t0 hC hn ht H locs ls hR hS hL)
/-- what is told of a method that is called -/
def mFx (M : Mt) (n : Nat) : Prop := Cond.code M.2.1 M.2.2.1 M.2.2.2.1 M.2.2.2.2.1 ∈ lw_tbl ∧ Cond.initialized M.2.1.cls ∈ lw_tbl ∧ (M.2.1.cls ≠ "java/lang/invoke/MethodHandle" ∧ M.2.1.cls ≠ "java/lang/invoke/VarHandle" ∧ (parseMethodDescriptor M.2.1.desc).map (fun d => d.parameters.length) = some n) ∧ M.2.2.2.1 ≤ 21 ∧ plainName M.2.1.cls = true ∧ M.1 = M.2.1.cls
def mLk (own : String) (idx : Nat) (y : MethodName) : Prop := Cond.methodLink own idx y ∈ lw_tbl ∨ ∃ h, Cond.methodLinkNest own idx y h ∈ lw_tbl
section XCALL
variable {p : Program} {l : Launch} {e : Env} {R : Room} {s : State} {m : MethodId} {args : Array Value} {below : List Frame} {meth : Method} {c : Code} {H : Heap} {locs : List Loc} {cells slots : Nat} {Z : State → Prop}
theorem x_call {dC : Nat → ClassId} {dI : Nat → Nat → Nat} {cI cJ cR : ClassId} {b B pc mc ms : Nat} {ls : Array Slot} {rest st0 : List Value} {a : Array Value} {r1 : Option Value} {w1 : Wd} (hr : va_Run p l e R s m args below meth c H locs cells slots mc ms (F0 m pc ls st0) rest (QX dC dI cI cJ cR b B r1 w1 a) (fun q => B < q)) (hS : va_S (fun q => B < q) s.heap H locs)
    (kk : ∀ (H1 : Heap) (locs1 : List Loc), RZ dC dI cI cJ cR b B w1 H1 → va_S (fun q => B < q) s.heap H1 locs1 → W p l e R s m args below meth c H1 locs1 (cells + mc) (slots + ms) Z (F0 m (pc + 3) ls ((r1.map (rv b B)).toList ++ rest))) : W p l e R s m args below meth c H locs cells slots Z (F0 m pc ls st0) := by
  intro T hT X
  obtain ⟨v, st₀, t, T', L, h0, X', hL, e1, e2, ⟨⟨hv, hp⟩, hz, hk⟩, st⟩ := hr T hT X
  have hv := Outcome.returned.inj hv
  subst hv
  rw [h0] at hz hk
  obtain ⟨t2, a1, b1⟩ := kk T'.heap (locs ++ L) (by rw [e1]; exact hp)
    ⟨Nat.le_trans hS.1 (by rw [e1]; exact hz), fun q h1 h2 => by rw [e1, hk q (Nat.lt_of_lt_of_le h1 hS.1) h2]; exact hS.2.1 q h1 h2, fun q hq => by
      rcases List.mem_append.mp hq with h | h
      · exact hS.2.2 q h
      · exact hL q h⟩ T' rfl X'
  exact ⟨t2, st t2 a1, b1⟩
end XCALL
theorem PX_blind {dC : Nat → ClassId} {dI : Nat → Nat → Nat} {cI cJ cR : ClassId} {b B : Nat} {As : List Value} {w : Wd} : FrameBlind (PX dC dI cI cJ cR b B As w) := fun a U g mk h => ⟨h.1, h.2.1, h.2.2.1, h.2.2.2.same⟩
theorem pay_M {M : Mt} {n : Nat} (hf : mFx M n) {args : Array Value} {s : State} (hts : ∀ w ∈ TG, w.before args s = true) : ∀ w ∈ wsO M, ∀ (a' : Array Value) (U : State), s.WarmedH U.vm → w.before a' U = true := by
  refine pay_in hts (fun w hw => ?_)
  rcases List.mem_cons.mp hw with h | h
  · subst h
    exact ⟨TG_in hf.1 rfl, good_of_word rfl⟩
  · exact ⟨h, good_of_word (TG_good h)⟩
theorem sum_rv {st : List Value} (b B : Nat) (h : (st.map Value.category).sum ≤ 8) : ((st.map (rv b B)).map fun v => v.category).sum ≤ 8 := by
  rw [List.map_map, show ((fun v : Value => v.category) ∘ rv b B) = Value.category from funext (rv_cat b B)]; exact h
theorem map_rev (b B : Nat) (As : List Value) (x : List Value) : (As.reverse ++ x).map (rv b B) = (As.map (rv b B)).reverse ++ x.map (rv b B) := by simp
theorem opt_rv (b B : Nat) (r1 : Option Value) (rest : List Value) : (r1.toList ++ rest).map (rv b B) = (r1.map (rv b B)).toList ++ rest.map (rv b B) := by cases r1 <;> simp
theorem sig_len {n : Nat} {d : String} (h : (parseMethodDescriptor d).map (fun d => d.parameters.length) = some n) : ∀ sig, parseMethodDescriptor d = some sig → n = sig.parameters.length := fun sig h2 => by
  rw [h2] at h
  exact (Option.some.inj h).symm
/-- a call of an instance method: its receiver's class is known -/
theorem e_callV {M M' : Mt} {sc : Option (Nat × (Nat → Int32))} {pc idx i ci n : Nat} {lv st As rest fs : List Value} {w w1 : Wd} {r r1 : Option Value} {w' : Wd} {T : u_T} {N : Nat} (hd : decode M.2.2.1 pc = .ok (.invokevirtual idx, 3)) (hl : mLk M.1 idx M'.2.1) (hf : mFx M' n) (hi1 : Cond.instanceMethod M'.2.1 ∈ lw_tbl) (hi2 : Cond.selects M'.2.1.cls M'.2.1 M'.2.1 ∈ lw_tbl) (hcl : vwCl[ci]? = some (M'.2.1.cls, T, N)) (hdp : M'.2.2.2.2.2 + 1 ≤ M.2.2.2.2.2)
    (hc : CW M' (.ref i :: As) w r1 w1) (hw : w[i]? = some (oB ci fs)) (hst : st = As.reverse ++ .ref i :: rest) (hlen : As.length = n) (hsum : (rest.map Value.category).sum ≤ 8) (kk : EW M sc (pc + 3) lv (r1.toList ++ rest) w1 r w') : EW M sc pc lv st w r w' := by
  obtain ⟨k1, k2⟩ := kk
  obtain ⟨c1, c2⟩ := hc
  refine ⟨⟨by omega, by omega⟩, ?_⟩
  intro p l e R s m args below meth c Z dC dI cI cJ cR b B n0 t0 hC hn ht H locs ls hR hS hL
  have hts := hC.2.2.2.2.1
  have hrm := hC.2.2.2.2.2.2.2.2.1
  have hMet := c2 l dC dI cI cJ cR b B
  obtain ⟨hi, hat⟩ := hR.obj hw
  have hrec := va_recv hC.2.2.2.2.2.1.1 (P1 hat) hcl (q0 := 0) rfl
  have hpre : PreV s H M'.2.1.cls (B + i) (PX dC dI cI cJ cR b B (.ref i :: As) w) (As.map (rv b B)) := ⟨PX_blind, hrec, fun U hU hW => ⟨by rw [List.map_cons, rv_ref hi], by rw [hU]; exact hR, by rw [hU, hR.2.1]; have := hR.pos; omega, hC.2.2.2.2.2.1.warm hW⟩⟩
  have hstk : (F0 m pc ls (st.map (rv b B))).stack = (As.map (rv b B)).reverse ++ .ref (B + i) :: rest.map (rv b B) := by
    show st.map (rv b B) = _
    rw [hst, map_rev, List.map_cons, rv_ref hi]
  have hcode := hts _ (TG_in hf.1 rfl)
  have hini := hts _ (TG_in hf.2.1 rfl)
  have hroom : (rmO M' w w1).frames + 1 ≤ R.frames ∧ 8 + (M'.2.2.2.1 + 11) + (rmO M' w w1).locals ≤ R.locals := by
    have := hf.2.2.2.1
    constructor
    · show M'.2.2.2.2.2 + 1 ≤ _; omega
    · show 8 + (M'.2.2.2.1 + 11) + 40 * M'.2.2.2.2.2 ≤ _; omega
  have hfit : w.length - n0 + (w1.length - w.length) ≤ R.cells ∧ tot w - t0 + (tot w1 - tot w) ≤ R.slots := ⟨by omega, by omega⟩
  have hrun : va_Run p l e R s m args below meth c H locs (w.length - n0) (tot w - t0) (w1.length - w.length) (tot w1 - tot w) (F0 m pc ls (st.map (rv b B))) (rest.map (rv b B)) (QX dC dI cI cJ cR b B r1 w1 (Value.ref (B + i) :: As.map (rv b B)).toArray) (fun q => B < q) := by
    rcases hl with hl | ⟨h, hl⟩
    · exact va_runV (C := M'.2.1.cls) ⟨hC.1, hC.2.1, hC.2.2.1, hC.2.2.2.1, hts⟩ hMet ⟨⟨rfl, rfl, hroom.1, hroom.2, pay_M hf hts, List.mem_cons_self, hcode, hini, ⟨hf.2.2.1.1, hf.2.2.1.2.1⟩, sig_len hf.2.2.1.2.2, hts _ (TG_in hl rfl)⟩, hts _ (TG_in hi1 rfl), hts _ (TG_in hi2 rfl)⟩ hpre rfl (by rw [List.length_map]; exact hlen) hL.1 hstk (lv_room (sum_rv b B hsum)) hd hfit
    · exact va_runVN (C := M'.2.1.cls) (host := h) ⟨hC.1, hC.2.1, hC.2.2.1, hC.2.2.2.1, hts⟩ hMet ⟨⟨⟨rfl, rfl, hroom.1, hroom.2, pay_M hf hts, List.mem_cons_self⟩, hcode, hini, ⟨hf.2.2.1.1, hf.2.2.1.2.1⟩, sig_len hf.2.2.1.2.2, (hC.2.2.2.2.2.1.2.1 _ hl rfl).use rfl⟩, hts _ (TG_in hi1 rfl), hts _ (TG_in hi2 rfl)⟩ hpre rfl (by rw [List.length_map]; exact hlen) hL.1 hstk (lv_room (sum_rv b B hsum)) hd hfit
  refine x_call hrun hS (fun H1 locs1 hR1 hS1 => ?_)
  have K := k2 p l e R s m args below meth c Z dC dI cI cJ cR b B n0 t0 hC (by omega) (by omega) H1 locs1 ls hR1 hS1 hL
  rw [opt_rv, show w1.length - n0 = w.length - n0 + (w1.length - w.length) by omega, show tot w1 - t0 = tot w - t0 + (tot w1 - tot w) by omega] at K
  exact K
/-- a call of a static method -/
theorem e_callS {M M' : Mt} {sc : Option (Nat × (Nat → Int32))} {pc idx n : Nat} {lv st As rest : List Value} {w w1 : Wd} {r r1 : Option Value} {w' : Wd} (hd : decode M.2.2.1 pc = .ok (.invokestatic idx, 3)) (hl : mLk M.1 idx M'.2.1) (hf : mFx M' n) (hi1 : Cond.static M'.2.1 ∈ lw_tbl) (hdp : M'.2.2.2.2.2 + 1 ≤ M.2.2.2.2.2)
    (hc : CW M' As w r1 w1) (hst : st = As.reverse ++ rest) (hlen : As.length = n) (hsum : (rest.map Value.category).sum ≤ 8) (kk : EW M sc (pc + 3) lv (r1.toList ++ rest) w1 r w') : EW M sc pc lv st w r w' := by
  obtain ⟨k1, k2⟩ := kk
  obtain ⟨c1, c2⟩ := hc
  refine ⟨⟨by omega, by omega⟩, ?_⟩
  intro p l e R s m args below meth c Z dC dI cI cJ cR b B n0 t0 hC hn ht H locs ls hR hS hL
  have hts := hC.2.2.2.2.1
  have hrm := hC.2.2.2.2.2.2.2.2.1
  have hMet := c2 l dC dI cI cJ cR b B
  have hpre : PreS s H (PX dC dI cI cJ cR b B As w) (As.map (rv b B)) := ⟨PX_blind, fun U hU hW => ⟨rfl, by rw [hU]; exact hR, by rw [hU, hR.2.1]; have := hR.pos; omega, hC.2.2.2.2.2.1.warm hW⟩⟩
  have hstk : (F0 m pc ls (st.map (rv b B))).stack = (As.map (rv b B)).reverse ++ rest.map (rv b B) := by
    show st.map (rv b B) = _
    rw [hst, map_rev]
  have hcode := hts _ (TG_in hf.1 rfl)
  have hini := hts _ (TG_in hf.2.1 rfl)
  have hroom : (rmO M' w w1).frames + 1 ≤ R.frames ∧ 8 + (M'.2.2.2.1 + 11) + (rmO M' w w1).locals ≤ R.locals := by
    have := hf.2.2.2.1
    constructor
    · show M'.2.2.2.2.2 + 1 ≤ _; omega
    · show 8 + (M'.2.2.2.1 + 11) + 40 * M'.2.2.2.2.2 ≤ _; omega
  have hfit : w.length - n0 + (w1.length - w.length) ≤ R.cells ∧ tot w - t0 + (tot w1 - tot w) ≤ R.slots := ⟨by omega, by omega⟩
  have hrun : va_Run p l e R s m args below meth c H locs (w.length - n0) (tot w - t0) (w1.length - w.length) (tot w1 - tot w) (F0 m pc ls (st.map (rv b B))) (rest.map (rv b B)) (QX dC dI cI cJ cR b B r1 w1 (As.map (rv b B)).toArray) (fun q => B < q) := by
    rcases hl with hl | ⟨h, hl⟩
    · exact va_runS ⟨hC.1, hC.2.1, hC.2.2.1, hC.2.2.2.1, hts⟩ hMet ⟨⟨rfl, rfl, hroom.1, hroom.2, pay_M hf hts, List.mem_cons_self, hcode, hini, ⟨hf.2.2.1.1, hf.2.2.1.2.1⟩, sig_len hf.2.2.1.2.2, hts _ (TG_in hl rfl)⟩, hts _ (TG_in hi1 rfl)⟩ hpre rfl (by rw [List.length_map]; exact hlen) hL.1 hstk (lv_room (sum_rv b B hsum)) hd hfit
    · exact va_runSN (host := h) ⟨hC.1, hC.2.1, hC.2.2.1, hC.2.2.2.1, hts⟩ hMet ⟨⟨⟨rfl, rfl, hroom.1, hroom.2, pay_M hf hts, List.mem_cons_self⟩, hcode, hini, ⟨hf.2.2.1.1, hf.2.2.1.2.1⟩, sig_len hf.2.2.1.2.2, (hC.2.2.2.2.2.1.2.1 _ hl rfl).use rfl⟩, hts _ (TG_in hi1 rfl), trivial⟩ hpre rfl (by rw [List.length_map]; exact hlen) hL.1 hstk (lv_room (sum_rv b B hsum)) hd hfit
  refine x_call hrun hS (fun H1 locs1 hR1 hS1 => ?_)
  have K := k2 p l e R s m args below meth c Z dC dI cI cJ cR b B n0 t0 hC (by omega) (by omega) H1 locs1 ls hR1 hS1 hL
  rw [opt_rv, show w1.length - n0 = w.length - n0 + (w1.length - w.length) by omega, show tot w1 - t0 = tot w - t0 + (tot w1 - tot w) by omega] at K
  exact K
/-- a call of a constructor -/
theorem e_callI {M M' : Mt} {sc : Option (Nat × (Nat → Int32))} {pc idx i n : Nat} {lv st As rest : List Value} {w w1 : Wd} {r : Option Value} {w' : Wd} (hd : decode M.2.2.1 pc = .ok (.invokespecial idx, 3)) (hl : mLk M.1 idx M'.2.1) (hf : mFx M' n) (hi1 : Cond.instanceMethod M'.2.1 ∈ lw_tbl) (hnm : M'.2.1.name = "<init>") (hrt : M'.2.2.2.2.1 = none) (hdp : M'.2.2.2.2.2 + 1 ≤ M.2.2.2.2.2) (hi : i ≠ 0)
    (hc : CW M' (.ref i :: As) w none w1) (hst : st = As.reverse ++ .ref i :: rest) (hlen : As.length = n) (hsum : (rest.map Value.category).sum ≤ 8) (kk : EW M sc (pc + 3) lv rest w1 r w') : EW M sc pc lv st w r w' := by
  obtain ⟨k1, k2⟩ := kk
  obtain ⟨c1, c2⟩ := hc
  refine ⟨⟨by omega, by omega⟩, ?_⟩
  intro p l e R s m args below meth c Z dC dI cI cJ cR b B n0 t0 hC hn ht H locs ls hR hS hL
  have hts := hC.2.2.2.2.1
  have hrm := hC.2.2.2.2.2.2.2.2.1
  have hMet := c2 l dC dI cI cJ cR b B
  have hpre : PreS s H (PX dC dI cI cJ cR b B (.ref i :: As) w) (.ref (B + i) :: As.map (rv b B)) := ⟨PX_blind, fun U hU hW => ⟨by rw [List.map_cons, rv_ref hi], by rw [hU]; exact hR, by rw [hU, hR.2.1]; have := hR.pos; omega, hC.2.2.2.2.2.1.warm hW⟩⟩
  have hstk : (F0 m pc ls (st.map (rv b B))).stack = (As.map (rv b B)).reverse ++ .ref (B + i) :: rest.map (rv b B) := by
    show st.map (rv b B) = _
    rw [hst, map_rev, List.map_cons, rv_ref hi]
  have hcode := hts _ (TG_in hf.1 rfl)
  have hini := hts _ (TG_in hf.2.1 rfl)
  have hmem : Cond.code M'.2.1 M'.2.2.1 M'.2.2.2.1 none ∈ wsO M' := by rw [← hrt]; exact List.mem_cons_self
  rw [hrt] at hcode
  have hroom : (rmO M' w w1).frames + 1 ≤ R.frames ∧ 8 + (M'.2.2.2.1 + 11) + (rmO M' w w1).locals ≤ R.locals := by
    have := hf.2.2.2.1
    constructor
    · show M'.2.2.2.2.2 + 1 ≤ _; omega
    · show 8 + (M'.2.2.2.1 + 11) + 40 * M'.2.2.2.2.2 ≤ _; omega
  have hfit : w.length - n0 + (w1.length - w.length) ≤ R.cells ∧ tot w - t0 + (tot w1 - tot w) ≤ R.slots := ⟨by omega, by omega⟩
  have hrun : va_Run p l e R s m args below meth c H locs (w.length - n0) (tot w - t0) (w1.length - w.length) (tot w1 - tot w) (F0 m pc ls (st.map (rv b B))) (rest.map (rv b B)) (QX dC dI cI cJ cR b B none w1 (Value.ref (B + i) :: As.map (rv b B)).toArray) (fun q => B < q) := by
    rcases hl with hl | ⟨h, hl⟩
    · exact va_runI ⟨hC.1, hC.2.1, hC.2.2.1, hC.2.2.2.1, hts⟩ hMet ⟨⟨rfl, rfl, hroom.1, hroom.2, pay_M hf hts, hmem, hcode, hini, ⟨hf.2.2.1.1, hf.2.2.1.2.1⟩, sig_len hf.2.2.1.2.2, hts _ (TG_in hl rfl)⟩, hnm, hts _ (TG_in hi1 rfl)⟩ hpre rfl (by rw [List.length_map]; exact hlen) hL.1 hstk (lv_room (sum_rv b B hsum)) hd hfit
    · exact va_runIN (host := h) ⟨hC.1, hC.2.1, hC.2.2.1, hC.2.2.2.1, hts⟩ hMet ⟨⟨⟨rfl, rfl, hroom.1, hroom.2, pay_M hf hts, hmem⟩, hcode, hini, ⟨hf.2.2.1.1, hf.2.2.1.2.1⟩, sig_len hf.2.2.1.2.2, (hC.2.2.2.2.2.1.2.1 _ hl rfl).use rfl⟩, hnm, hts _ (TG_in hi1 rfl)⟩ hpre rfl (by rw [List.length_map]; exact hlen) hL.1 hstk (lv_room (sum_rv b B hsum)) hd hfit
  refine x_call hrun hS (fun H1 locs1 hR1 hS1 => ?_)
  have K := k2 p l e R s m args below meth c Z dC dI cI cJ cR b B n0 t0 hC (by omega) (by omega) H1 locs1 ls hR1 hS1 hL
  rw [show w1.length - n0 = w.length - n0 + (w1.length - w.length) by omega, show tot w1 - t0 = tot w - t0 + (tot w1 - tot w) by omega] at K
  exact K
theorem lve_len (b B : Nat) : ∀ vs : List Value, (lg_sl (vs.map (rv b B))).length = (lve vs).length
  | [] => rfl
  | u :: vs => by
    have el : lg_sl ((u :: vs).map (rv b B)) = (if u.category = 2 then [.val (rv b B u), .second] else [.val (rv b B u)]) ++ lg_sl (vs.map (rv b B)) := by simp [lg_sl, rv_cat]
    rw [el, List.length_append, lve_len b B vs, show lve (u :: vs) = if u.category = 2 then u :: dmy :: lve vs else u :: lve vs from rfl]
    by_cases hc : u.category = 2
    · rw [if_pos hc, if_pos hc]; simp; omega
    · rw [if_neg hc, if_neg hc]; simp; omega
/-- the contract out of the walk -/
theorem cw_of {M : Mt} {As lv : List Value} {w w' : Wd} {r : Option Value} {n : Nat} (hf : mFx M n) (hlv : lve As ++ List.replicate (M.2.2.2.1 - (lve As).length) dmy = lv) (hle : (lve As).length ≤ M.2.2.2.1) (hE : EW M none 0 lv [] w r w') : CW M As w r w' := by
  refine ⟨hE.1, fun l dC dI cI cJ cR b B => ?_⟩
  refine Met.ofW (cc := M.2.2.1) (maxL := M.2.2.2.1) (ret := M.2.2.2.2.1) hf.2.2.2.2.1 rfl ?_
  intro p e s m args below meth c s₁ Bd hml hv
  obtain ⟨rfl, hR, hB, hK⟩ := hv
  have hts := atoms_spec (ws := wsO M) Bd.pre
  have hown : s.vm.findClass M.1 = some m.cls := by rw [hf.2.2.2.2.2]; exact findClass_of_methodNamed Bd.named
  rw [lg_entry_eq]
  have hlen := lve_len b B As
  have hl := lv_entry (As.map (rv b B)) (n := M.2.2.2.1) (by rw [hlen]; exact hle)
  have hLH : LH b B (lg_sl (As.map (rv b B)) ++ List.replicate (M.2.2.2.1 - (lg_sl (As.map (rv b B))).length) Slot.unset).toArray M.2.2.2.1 lv := by
    refine ⟨hl.1, hl.2.1, fun i v hi => ?_⟩
    rw [← hlv] at hi
    by_cases hlt : i < (lve As).length
    · rw [List.getElem?_append_left hlt] at hi
      rcases lve_get (b := b) (B := B) As (List.replicate (M.2.2.2.1 - (lg_sl (As.map (rv b B))).length) Slot.unset) i v hi with h1 | h1
      · exact Or.inl ⟨0, h1⟩
      · exact Or.inr (by rw [List.getElem?_toArray]; exact h1)
    · rw [List.getElem?_append_right (by omega)] at hi
      exact Or.inl ⟨0, (List.mem_replicate.mp (List.mem_of_getElem? hi)).2⟩
  have hlocks := Bd.notSynchronized
  have hr := Bd.returns
  have K := hE.2 p l e (headSpec (wsO M) (rmO M w w')).room s m (As.map (rv b B)).toArray below meth c (MQ below (QX dC dI cI cJ cR b B r w') (As.map (rv b B)).toArray s (w'.length - w.length) (tot w' - tot w) (fun q => B < q)) dC dI cI cJ cR b B w.length (tot w)
    ⟨Bd.exec, Bd.bytes, hml, hown, fun w hw => hts w (List.mem_cons_of_mem _ hw), hK, fun L xs h => (by cases h), hB, ⟨Nat.le_refl _, Nat.le_refl _, Nat.le_refl _, Nat.le_refl _⟩, fun h => (name_of_methodNamed Bd.named Bd.method).1.trans h, fun H locs pc ls ins hRe hSe hd hro => ?_⟩ (Nat.le_refl _) (Nat.le_refl _) s.heap [] _ hR va_S.rf hLH
  · rw [Nat.sub_self, Nat.sub_self] at K
    exact K
  · rcases hro with ⟨rfl, ht, x, rfl⟩ | ⟨rfl, ht, x, rfl, hx⟩ | ⟨rfl, ht, x, rfl⟩ | ⟨rfl, ht, rfl⟩ | ⟨rfl, ⟨nm, ht⟩, i, rfl⟩
    · exact W.iret Bd.exec Bd.bytes (hr.trans ht) (fun t ht hW => ⟨⟨rfl, by rw [ht]; exact hRe⟩, hSe.F ht⟩) hSe.2.2 hd hlocks
    · exact W.zret Bd.exec Bd.bytes (hr.trans ht) (by show Value.int (x &&& 1) = _; rw [hx]) (fun t ht hW => ⟨⟨rfl, by rw [ht]; exact hRe⟩, hSe.F ht⟩) hSe.2.2 hd hlocks
    · exact W.lret Bd.exec Bd.bytes (hr.trans ht) (fun t ht hW => ⟨⟨rfl, by rw [ht]; exact hRe⟩, hSe.F ht⟩) hSe.2.2 hd hlocks
    · exact W.vret Bd.exec Bd.bytes (hr.trans ht) (fun t ht hW => ⟨⟨rfl, by rw [ht]; exact hRe⟩, hSe.F ht⟩) hSe.2.2 hd hlocks
    · exact W.aret Bd.exec Bd.bytes (hr.trans ht) (Or.inl ⟨nm, rfl⟩) (Or.inr ⟨_, rfl⟩) (fun t ht hW => ⟨⟨rfl, by rw [ht]; exact hRe⟩, hSe.F ht⟩) hSe.2.2 hd hlocks
end
section
theorem e_mmax {M : Mt} {sc : Option (Nat × (Nat → Int32))} {pc idx : Nat} {lv st : List Value} {w : Wd} {r : Option Value} {w' : Wd} {x y : Int32} (hd : decode M.2.2.1 pc = .ok (.invokestatic idx, 3)) (h1 : Cond.methodLink M.1 idx Lib.Math.max.name ∈ lw_tbl) (hdp : 1 ≤ M.2.2.2.2.2) (hsum : (st.map Value.category).sum ≤ 8)
    (k : EW M sc (pc + 3) lv (.int (if x < y then y else x) :: st) w r w') : EW M sc pc lv (.int y :: .int x :: st) w r w' := by
  refine ⟨k.1, ?_⟩
  intro p l e R s m args below meth c Z dC dI cI cJ cR b B n0 t0 hC hn ht H locs ls hR hS hL
  have hts := hC.2.2.2.2.1
  have hrm := hC.2.2.2.2.2.2.2.2.1
  have k1 := k.1
  have hcs := sum_rv b B hsum
  exact va_mmax hC.1 hC.2.1 (by rw [hC.2.2.1, hL.1]) hC.2.2.2.1 (hts _ (TG_in h1 rfl)) (hts _ (TG_in (by decide +kernel : Cond.static Lib.Math.max.name ∈ lw_tbl) rfl)) (hts _ (TG_in (by decide +kernel : Cond.initialized "java/lang/Math" ∈ lw_tbl) rfl)) (hts _ (TG_in (by decide +kernel : Cond.code Lib.Math.max.name Lib.Math.max.code 2 (some .int) ∈ lw_tbl) rfl)) (by omega) (by omega) (by omega) (by omega) hd (k.2 p l e R s m args below meth c Z dC dI cI cJ cR b B n0 t0 hC hn ht H locs ls hR hS hL)
theorem e_mmin {M : Mt} {sc : Option (Nat × (Nat → Int32))} {pc idx : Nat} {lv st : List Value} {w : Wd} {r : Option Value} {w' : Wd} {x y : Int32} (hd : decode M.2.2.1 pc = .ok (.invokestatic idx, 3)) (h1 : Cond.methodLink M.1 idx Lib.Math.min.name ∈ lw_tbl) (hdp : 1 ≤ M.2.2.2.2.2) (hsum : (st.map Value.category).sum ≤ 8)
    (k : EW M sc (pc + 3) lv (.int (if y < x then y else x) :: st) w r w') : EW M sc pc lv (.int y :: .int x :: st) w r w' := by
  refine ⟨k.1, ?_⟩
  intro p l e R s m args below meth c Z dC dI cI cJ cR b B n0 t0 hC hn ht H locs ls hR hS hL
  have hts := hC.2.2.2.2.1
  have hrm := hC.2.2.2.2.2.2.2.2.1
  have k1 := k.1
  have hcs := sum_rv b B hsum
  exact va_mmin hC.1 hC.2.1 (by rw [hC.2.2.1, hL.1]) hC.2.2.2.1 (hts _ (TG_in h1 rfl)) (hts _ (TG_in (by decide +kernel : Cond.static Lib.Math.min.name ∈ lw_tbl) rfl)) (hts _ (TG_in (by decide +kernel : Cond.initialized "java/lang/Math" ∈ lw_tbl) rfl)) (hts _ (TG_in (by decide +kernel : Cond.code Lib.Math.min.name Lib.Math.min.code 2 (some .int) ∈ lw_tbl) rfl)) (by omega) (by omega) (by omega) (by omega) hd (k.2 p l e R s m args below meth c Z dC dI cI cJ cR b B n0 t0 hC hn ht H locs ls hR hS hL)
theorem e_lmin {M : Mt} {sc : Option (Nat × (Nat → Int32))} {pc idx : Nat} {lv st : List Value} {w : Wd} {r : Option Value} {w' : Wd} {x y : Int64} (hd : decode M.2.2.1 pc = .ok (.invokestatic idx, 3)) (h1 : Cond.methodLink M.1 idx Lib.MathLoose.min_long.x ∈ lw_tbl) (hdp : 1 ≤ M.2.2.2.2.2) (hsum : (st.map Value.category).sum ≤ 8)
    (k : EW M sc (pc + 3) lv (.long (if y < x then y else x) :: st) w r w') : EW M sc pc lv (.long y :: .long x :: st) w r w' := by
  refine ⟨k.1, ?_⟩
  intro p l e R s m args below meth c Z dC dI cI cJ cR b B n0 t0 hC hn ht H locs ls hR hS hL
  have hts := hC.2.2.2.2.1
  have hrm := hC.2.2.2.2.2.2.2.2.1
  have k1 := k.1
  have hcs := sum_rv b B hsum
  exact va_mmin_long hC.1 hC.2.1 (by rw [hC.2.2.1, hL.1]) hC.2.2.2.1 (hts _ (TG_in h1 rfl)) (hts _ (TG_in (by decide +kernel : Cond.static Lib.MathLoose.min_long.x ∈ lw_tbl) rfl)) (hts _ (TG_in (by decide +kernel : Cond.initialized "java/lang/Math" ∈ lw_tbl) rfl)) (hts _ (TG_in (by decide +kernel : Cond.code Lib.MathLoose.min_long.x Lib.MathLoose.min_long.code 4 (some .long) ∈ lw_tbl) rfl)) (by omega) (by omega) (by omega) (by omega) hd (k.2 p l e R s m args below meth c Z dC dI cI cJ cR b B n0 t0 hC hn ht H locs ls hR hS hL)
end
section
/-! THE PROGRAM: its methods and links (written by a program) -/
def mV (M : Mt) (n ci : Nat) : Prop := mFx M n ∧ Cond.instanceMethod M.2.1 ∈ lw_tbl ∧ Cond.selects M.2.1.cls M.2.1 M.2.1 ∈ lw_tbl ∧ ∃ (T : u_T) (N : Nat), vwCl[ci]? = some (M.2.1.cls, T, N)
def mS (M : Mt) (n : Nat) : Prop := mFx M n ∧ Cond.static M.2.1 ∈ lw_tbl
def mI (M : Mt) (n : Nat) : Prop := mFx M n ∧ Cond.instanceMethod M.2.1 ∈ lw_tbl ∧ M.2.1.name = "<init>" ∧ M.2.2.2.2.1 = none
theorem c_V {M M' : Mt} {sc : Option (Nat × (Nat → Int32))} {pc idx i ci n : Nat} {lv st As rest fs : List Value} {w w1 : Wd} {r r1 : Option Value} {w' : Wd} (hd : decode M.2.2.1 pc = .ok (.invokevirtual idx, 3)) (hl : mLk M.1 idx M'.2.1) (hf : mV M' n ci) (hdp : M'.2.2.2.2.2 + 1 ≤ M.2.2.2.2.2)
    (hc : CW M' (.ref i :: As) w r1 w1) (hw : w[i]? = some (oB ci fs)) (hst : st = As.reverse ++ .ref i :: rest) (hlen : As.length = n) (hsum : (rest.map Value.category).sum ≤ 8) (kk : EW M sc (pc + 3) lv (r1.toList ++ rest) w1 r w') : EW M sc pc lv st w r w' := by
  obtain ⟨h1, h2, h3, T, N, h4⟩ := hf
  exact e_callV hd hl h1 h2 h3 h4 hdp hc hw hst hlen hsum kk
theorem c_S {M M' : Mt} {sc : Option (Nat × (Nat → Int32))} {pc idx n : Nat} {lv st As rest : List Value} {w w1 : Wd} {r r1 : Option Value} {w' : Wd} (hd : decode M.2.2.1 pc = .ok (.invokestatic idx, 3)) (hl : mLk M.1 idx M'.2.1) (hf : mS M' n) (hdp : M'.2.2.2.2.2 + 1 ≤ M.2.2.2.2.2)
    (hc : CW M' As w r1 w1) (hst : st = As.reverse ++ rest) (hlen : As.length = n) (hsum : (rest.map Value.category).sum ≤ 8) (kk : EW M sc (pc + 3) lv (r1.toList ++ rest) w1 r w') : EW M sc pc lv st w r w' := e_callS hd hl hf.1 hf.2 hdp hc hst hlen hsum kk
theorem c_I {M M' : Mt} {sc : Option (Nat × (Nat → Int32))} {pc idx i n : Nat} {lv st As rest : List Value} {w w1 : Wd} {r : Option Value} {w' : Wd} (hd : decode M.2.2.1 pc = .ok (.invokespecial idx, 3)) (hl : mLk M.1 idx M'.2.1) (hf : mI M' n) (hdp : M'.2.2.2.2.2 + 1 ≤ M.2.2.2.2.2) (hi : i ≠ 0)
    (hc : CW M' (.ref i :: As) w none w1) (hst : st = As.reverse ++ .ref i :: rest) (hlen : As.length = n) (hsum : (rest.map Value.category).sum ≤ 8) (kk : EW M sc (pc + 3) lv rest w1 r w') : EW M sc pc lv st w r w' := e_callI hd hl hf.1 hf.2.1 hf.2.2.1 hf.2.2.2 hdp hi hc hst hlen hsum kk
abbrev mX6_init : Mt := (RX6, yX6_init, cX6_init, 2, none, 3)
theorem fx_X6_init : Cond.code yX6_init cX6_init 2 none ∈ lw_tbl ∧ Cond.initialized yX6_init.cls ∈ lw_tbl ∧ (yX6_init.cls ≠ "java/lang/invoke/MethodHandle" ∧ yX6_init.cls ≠ "java/lang/invoke/VarHandle" ∧ (parseMethodDescriptor yX6_init.desc).map (fun d => d.parameters.length) = some 0) ∧ 2 ≤ 21 ∧ plainName yX6_init.cls = true ∧ RX6 = yX6_init.cls := ⟨(by decide +kernel), (by decide +kernel), ⟨(by decide +kernel), (by decide +kernel), (by decide +kernel)⟩, (by decide +kernel), (by decide +kernel), rfl⟩
theorem mi_X6_init : mI mX6_init 0 := ⟨fx_X6_init, (by decide +kernel), rfl, rfl⟩
abbrev mX6_letters : Mt := (RX6, yX6_letters, cX6_letters, 3, (some .int), 3)
theorem fx_X6_letters : Cond.code yX6_letters cX6_letters 3 (some .int) ∈ lw_tbl ∧ Cond.initialized yX6_letters.cls ∈ lw_tbl ∧ (yX6_letters.cls ≠ "java/lang/invoke/MethodHandle" ∧ yX6_letters.cls ≠ "java/lang/invoke/VarHandle" ∧ (parseMethodDescriptor yX6_letters.desc).map (fun d => d.parameters.length) = some 1) ∧ 3 ≤ 21 ∧ plainName yX6_letters.cls = true ∧ RX6 = yX6_letters.cls := ⟨(by decide +kernel), (by decide +kernel), ⟨(by decide +kernel), (by decide +kernel), (by decide +kernel)⟩, (by decide +kernel), (by decide +kernel), rfl⟩
theorem mv_X6_letters : mV mX6_letters 1 6 := ⟨fx_X6_letters, (by decide +kernel : Cond.instanceMethod yX6_letters ∈ lw_tbl), (by decide +kernel : Cond.selects yX6_letters.cls yX6_letters yX6_letters ∈ lw_tbl), TX6, 7, rfl⟩
abbrev mX6_word : Mt := (RX6, yX6_word, cX6_word, 5, (some .int), 3)
theorem fx_X6_word : Cond.code yX6_word cX6_word 5 (some .int) ∈ lw_tbl ∧ Cond.initialized yX6_word.cls ∈ lw_tbl ∧ (yX6_word.cls ≠ "java/lang/invoke/MethodHandle" ∧ yX6_word.cls ≠ "java/lang/invoke/VarHandle" ∧ (parseMethodDescriptor yX6_word.desc).map (fun d => d.parameters.length) = some 3) ∧ 5 ≤ 21 ∧ plainName yX6_word.cls = true ∧ RX6 = yX6_word.cls := ⟨(by decide +kernel), (by decide +kernel), ⟨(by decide +kernel), (by decide +kernel), (by decide +kernel)⟩, (by decide +kernel), (by decide +kernel), rfl⟩
theorem mv_X6_word : mV mX6_word 3 6 := ⟨fx_X6_word, (by decide +kernel : Cond.instanceMethod yX6_word ∈ lw_tbl), (by decide +kernel : Cond.selects yX6_word.cls yX6_word yX6_word ∈ lw_tbl), TX6, 7, rfl⟩
abbrev mX6_at : Mt := (RX6, yX6_at, cX6_at, 4, (some .int), 2)
theorem fx_X6_at : Cond.code yX6_at cX6_at 4 (some .int) ∈ lw_tbl ∧ Cond.initialized yX6_at.cls ∈ lw_tbl ∧ (yX6_at.cls ≠ "java/lang/invoke/MethodHandle" ∧ yX6_at.cls ≠ "java/lang/invoke/VarHandle" ∧ (parseMethodDescriptor yX6_at.desc).map (fun d => d.parameters.length) = some 2) ∧ 4 ≤ 21 ∧ plainName yX6_at.cls = true ∧ RX6 = yX6_at.cls := ⟨(by decide +kernel), (by decide +kernel), ⟨(by decide +kernel), (by decide +kernel), (by decide +kernel)⟩, (by decide +kernel), (by decide +kernel), rfl⟩
theorem mv_X6_at : mV mX6_at 2 6 := ⟨fx_X6_at, (by decide +kernel : Cond.instanceMethod yX6_at ∈ lw_tbl), (by decide +kernel : Cond.selects yX6_at.cls yX6_at yX6_at ∈ lw_tbl), TX6, 7, rfl⟩
abbrev mX6_edit : Mt := (RX6, yX6_edit, cX6_edit, 7, (some .int), 3)
theorem fx_X6_edit : Cond.code yX6_edit cX6_edit 7 (some .int) ∈ lw_tbl ∧ Cond.initialized yX6_edit.cls ∈ lw_tbl ∧ (yX6_edit.cls ≠ "java/lang/invoke/MethodHandle" ∧ yX6_edit.cls ≠ "java/lang/invoke/VarHandle" ∧ (parseMethodDescriptor yX6_edit.desc).map (fun d => d.parameters.length) = some 5) ∧ 7 ≤ 21 ∧ plainName yX6_edit.cls = true ∧ RX6 = yX6_edit.cls := ⟨(by decide +kernel), (by decide +kernel), ⟨(by decide +kernel), (by decide +kernel), (by decide +kernel)⟩, (by decide +kernel), (by decide +kernel), rfl⟩
theorem mv_X6_edit : mV mX6_edit 5 6 := ⟨fx_X6_edit, (by decide +kernel : Cond.instanceMethod yX6_edit ∈ lw_tbl), (by decide +kernel : Cond.selects yX6_edit.cls yX6_edit yX6_edit ∈ lw_tbl), TX6, 7, rfl⟩
abbrev mX6_code : Mt := (RX6, yX6_code, cX6_code, 6, (some .int), 7)
theorem fx_X6_code : Cond.code yX6_code cX6_code 6 (some .int) ∈ lw_tbl ∧ Cond.initialized yX6_code.cls ∈ lw_tbl ∧ (yX6_code.cls ≠ "java/lang/invoke/MethodHandle" ∧ yX6_code.cls ≠ "java/lang/invoke/VarHandle" ∧ (parseMethodDescriptor yX6_code.desc).map (fun d => d.parameters.length) = some 4) ∧ 6 ≤ 21 ∧ plainName yX6_code.cls = true ∧ RX6 = yX6_code.cls := ⟨(by decide +kernel), (by decide +kernel), ⟨(by decide +kernel), (by decide +kernel), (by decide +kernel)⟩, (by decide +kernel), (by decide +kernel), rfl⟩
theorem mv_X6_code : mV mX6_code 4 6 := ⟨fx_X6_code, (by decide +kernel : Cond.instanceMethod yX6_code ∈ lw_tbl), (by decide +kernel : Cond.selects yX6_code.cls yX6_code yX6_code ∈ lw_tbl), TX6, 7, rfl⟩
abbrev mX6_sum : Mt := (RX6, yX6_sum, cX6_sum, 2, (some .int), 3)
theorem fx_X6_sum : Cond.code yX6_sum cX6_sum 2 (some .int) ∈ lw_tbl ∧ Cond.initialized yX6_sum.cls ∈ lw_tbl ∧ (yX6_sum.cls ≠ "java/lang/invoke/MethodHandle" ∧ yX6_sum.cls ≠ "java/lang/invoke/VarHandle" ∧ (parseMethodDescriptor yX6_sum.desc).map (fun d => d.parameters.length) = some 1) ∧ 2 ≤ 21 ∧ plainName yX6_sum.cls = true ∧ RX6 = yX6_sum.cls := ⟨(by decide +kernel), (by decide +kernel), ⟨(by decide +kernel), (by decide +kernel), (by decide +kernel)⟩, (by decide +kernel), (by decide +kernel), rfl⟩
theorem mv_X6_sum : mV mX6_sum 1 6 := ⟨fx_X6_sum, (by decide +kernel : Cond.instanceMethod yX6_sum ∈ lw_tbl), (by decide +kernel : Cond.selects yX6_sum.cls yX6_sum yX6_sum ∈ lw_tbl), TX6, 7, rfl⟩
abbrev mX6_isOf : Mt := (RX6, yX6_isOf, cX6_isOf, 2, (some .int), 4)
theorem fx_X6_isOf : Cond.code yX6_isOf cX6_isOf 2 (some .int) ∈ lw_tbl ∧ Cond.initialized yX6_isOf.cls ∈ lw_tbl ∧ (yX6_isOf.cls ≠ "java/lang/invoke/MethodHandle" ∧ yX6_isOf.cls ≠ "java/lang/invoke/VarHandle" ∧ (parseMethodDescriptor yX6_isOf.desc).map (fun d => d.parameters.length) = some 1) ∧ 2 ≤ 21 ∧ plainName yX6_isOf.cls = true ∧ RX6 = yX6_isOf.cls := ⟨(by decide +kernel), (by decide +kernel), ⟨(by decide +kernel), (by decide +kernel), (by decide +kernel)⟩, (by decide +kernel), (by decide +kernel), rfl⟩
theorem mv_X6_isOf : mV mX6_isOf 1 6 := ⟨fx_X6_isOf, (by decide +kernel : Cond.instanceMethod yX6_isOf ∈ lw_tbl), (by decide +kernel : Cond.selects yX6_isOf.cls yX6_isOf yX6_isOf ∈ lw_tbl), TX6, 7, rfl⟩
abbrev mX6_listed : Mt := (RX6, yX6_listed, cX6_listed, 3, (some .int), 5)
theorem fx_X6_listed : Cond.code yX6_listed cX6_listed 3 (some .int) ∈ lw_tbl ∧ Cond.initialized yX6_listed.cls ∈ lw_tbl ∧ (yX6_listed.cls ≠ "java/lang/invoke/MethodHandle" ∧ yX6_listed.cls ≠ "java/lang/invoke/VarHandle" ∧ (parseMethodDescriptor yX6_listed.desc).map (fun d => d.parameters.length) = some 2) ∧ 3 ≤ 21 ∧ plainName yX6_listed.cls = true ∧ RX6 = yX6_listed.cls := ⟨(by decide +kernel), (by decide +kernel), ⟨(by decide +kernel), (by decide +kernel), (by decide +kernel)⟩, (by decide +kernel), (by decide +kernel), rfl⟩
theorem mv_X6_listed : mV mX6_listed 2 6 := ⟨fx_X6_listed, (by decide +kernel : Cond.instanceMethod yX6_listed ∈ lw_tbl), (by decide +kernel : Cond.selects yX6_listed.cls yX6_listed yX6_listed ∈ lw_tbl), TX6, 7, rfl⟩
abbrev mX6_mend : Mt := (RX6, yX6_mend, cX6_mend, 3, (some .int), 7)
theorem fx_X6_mend : Cond.code yX6_mend cX6_mend 3 (some .int) ∈ lw_tbl ∧ Cond.initialized yX6_mend.cls ∈ lw_tbl ∧ (yX6_mend.cls ≠ "java/lang/invoke/MethodHandle" ∧ yX6_mend.cls ≠ "java/lang/invoke/VarHandle" ∧ (parseMethodDescriptor yX6_mend.desc).map (fun d => d.parameters.length) = some 2) ∧ 3 ≤ 21 ∧ plainName yX6_mend.cls = true ∧ RX6 = yX6_mend.cls := ⟨(by decide +kernel), (by decide +kernel), ⟨(by decide +kernel), (by decide +kernel), (by decide +kernel)⟩, (by decide +kernel), (by decide +kernel), rfl⟩
theorem mv_X6_mend : mV mX6_mend 2 6 := ⟨fx_X6_mend, (by decide +kernel : Cond.instanceMethod yX6_mend ∈ lw_tbl), (by decide +kernel : Cond.selects yX6_mend.cls yX6_mend yX6_mend ∈ lw_tbl), TX6, 7, rfl⟩
abbrev mX6_near : Mt := (RX6, yX6_near, cX6_near, 2, (some .int), 7)
theorem fx_X6_near : Cond.code yX6_near cX6_near 2 (some .int) ∈ lw_tbl ∧ Cond.initialized yX6_near.cls ∈ lw_tbl ∧ (yX6_near.cls ≠ "java/lang/invoke/MethodHandle" ∧ yX6_near.cls ≠ "java/lang/invoke/VarHandle" ∧ (parseMethodDescriptor yX6_near.desc).map (fun d => d.parameters.length) = some 1) ∧ 2 ≤ 21 ∧ plainName yX6_near.cls = true ∧ RX6 = yX6_near.cls := ⟨(by decide +kernel), (by decide +kernel), ⟨(by decide +kernel), (by decide +kernel), (by decide +kernel)⟩, (by decide +kernel), (by decide +kernel), rfl⟩
theorem mv_X6_near : mV mX6_near 1 6 := ⟨fx_X6_near, (by decide +kernel : Cond.instanceMethod yX6_near ∈ lw_tbl), (by decide +kernel : Cond.selects yX6_near.cls yX6_near yX6_near ∈ lw_tbl), TX6, 7, rfl⟩
abbrev mX6_liesIn : Mt := (RX6, yX6_liesIn, cX6_liesIn, 3, (some .long), 3)
theorem fx_X6_liesIn : Cond.code yX6_liesIn cX6_liesIn 3 (some .long) ∈ lw_tbl ∧ Cond.initialized yX6_liesIn.cls ∈ lw_tbl ∧ (yX6_liesIn.cls ≠ "java/lang/invoke/MethodHandle" ∧ yX6_liesIn.cls ≠ "java/lang/invoke/VarHandle" ∧ (parseMethodDescriptor yX6_liesIn.desc).map (fun d => d.parameters.length) = some 2) ∧ 3 ≤ 21 ∧ plainName yX6_liesIn.cls = true ∧ RX6 = yX6_liesIn.cls := ⟨(by decide +kernel), (by decide +kernel), ⟨(by decide +kernel), (by decide +kernel), (by decide +kernel)⟩, (by decide +kernel), (by decide +kernel), rfl⟩
theorem mv_X6_liesIn : mV mX6_liesIn 2 6 := ⟨fx_X6_liesIn, (by decide +kernel : Cond.instanceMethod yX6_liesIn ∈ lw_tbl), (by decide +kernel : Cond.selects yX6_liesIn.cls yX6_liesIn yX6_liesIn ∈ lw_tbl), TX6, 7, rfl⟩
abbrev mX6_common : Mt := (RX6, yX6_common, cX6_common, 5, (some .int), 5)
theorem fx_X6_common : Cond.code yX6_common cX6_common 5 (some .int) ∈ lw_tbl ∧ Cond.initialized yX6_common.cls ∈ lw_tbl ∧ (yX6_common.cls ≠ "java/lang/invoke/MethodHandle" ∧ yX6_common.cls ≠ "java/lang/invoke/VarHandle" ∧ (parseMethodDescriptor yX6_common.desc).map (fun d => d.parameters.length) = some 3) ∧ 5 ≤ 21 ∧ plainName yX6_common.cls = true ∧ RX6 = yX6_common.cls := ⟨(by decide +kernel), (by decide +kernel), ⟨(by decide +kernel), (by decide +kernel), (by decide +kernel)⟩, (by decide +kernel), (by decide +kernel), rfl⟩
theorem mv_X6_common : mV mX6_common 3 6 := ⟨fx_X6_common, (by decide +kernel : Cond.instanceMethod yX6_common ∈ lw_tbl), (by decide +kernel : Cond.selects yX6_common.cls yX6_common yX6_common ∈ lw_tbl), TX6, 7, rfl⟩
abbrev mX6_commons : Mt := (RX6, yX6_commons, cX6_commons, 3, (some .long), 5)
theorem fx_X6_commons : Cond.code yX6_commons cX6_commons 3 (some .long) ∈ lw_tbl ∧ Cond.initialized yX6_commons.cls ∈ lw_tbl ∧ (yX6_commons.cls ≠ "java/lang/invoke/MethodHandle" ∧ yX6_commons.cls ≠ "java/lang/invoke/VarHandle" ∧ (parseMethodDescriptor yX6_commons.desc).map (fun d => d.parameters.length) = some 2) ∧ 3 ≤ 21 ∧ plainName yX6_commons.cls = true ∧ RX6 = yX6_commons.cls := ⟨(by decide +kernel), (by decide +kernel), ⟨(by decide +kernel), (by decide +kernel), (by decide +kernel)⟩, (by decide +kernel), (by decide +kernel), rfl⟩
theorem mv_X6_commons : mV mX6_commons 2 6 := ⟨fx_X6_commons, (by decide +kernel : Cond.instanceMethod yX6_commons ∈ lw_tbl), (by decide +kernel : Cond.selects yX6_commons.cls yX6_commons yX6_commons ∈ lw_tbl), TX6, 7, rfl⟩
abbrev mX6_between : Mt := (RX6, yX6_between, cX6_between, 4, (some .int), 4)
theorem fx_X6_between : Cond.code yX6_between cX6_between 4 (some .int) ∈ lw_tbl ∧ Cond.initialized yX6_between.cls ∈ lw_tbl ∧ (yX6_between.cls ≠ "java/lang/invoke/MethodHandle" ∧ yX6_between.cls ≠ "java/lang/invoke/VarHandle" ∧ (parseMethodDescriptor yX6_between.desc).map (fun d => d.parameters.length) = some 3) ∧ 4 ≤ 21 ∧ plainName yX6_between.cls = true ∧ RX6 = yX6_between.cls := ⟨(by decide +kernel), (by decide +kernel), ⟨(by decide +kernel), (by decide +kernel), (by decide +kernel)⟩, (by decide +kernel), (by decide +kernel), rfl⟩
theorem mv_X6_between : mV mX6_between 3 6 := ⟨fx_X6_between, (by decide +kernel : Cond.instanceMethod yX6_between ∈ lw_tbl), (by decide +kernel : Cond.selects yX6_between.cls yX6_between yX6_between ∈ lw_tbl), TX6, 7, rfl⟩
abbrev mX6_by : Mt := (RX6, yX6_by, cX6_by, 4, (some .long), 5)
theorem fx_X6_by : Cond.code yX6_by cX6_by 4 (some .long) ∈ lw_tbl ∧ Cond.initialized yX6_by.cls ∈ lw_tbl ∧ (yX6_by.cls ≠ "java/lang/invoke/MethodHandle" ∧ yX6_by.cls ≠ "java/lang/invoke/VarHandle" ∧ (parseMethodDescriptor yX6_by.desc).map (fun d => d.parameters.length) = some 3) ∧ 4 ≤ 21 ∧ plainName yX6_by.cls = true ∧ RX6 = yX6_by.cls := ⟨(by decide +kernel), (by decide +kernel), ⟨(by decide +kernel), (by decide +kernel), (by decide +kernel)⟩, (by decide +kernel), (by decide +kernel), rfl⟩
theorem mv_X6_by : mV mX6_by 3 6 := ⟨fx_X6_by, (by decide +kernel : Cond.instanceMethod yX6_by ∈ lw_tbl), (by decide +kernel : Cond.selects yX6_by.cls yX6_by yX6_by ∈ lw_tbl), TX6, 7, rfl⟩
abbrev mX6_trace : Mt := (RX6, yX6_trace, cX6_trace, 2, (some .int), 4)
theorem fx_X6_trace : Cond.code yX6_trace cX6_trace 2 (some .int) ∈ lw_tbl ∧ Cond.initialized yX6_trace.cls ∈ lw_tbl ∧ (yX6_trace.cls ≠ "java/lang/invoke/MethodHandle" ∧ yX6_trace.cls ≠ "java/lang/invoke/VarHandle" ∧ (parseMethodDescriptor yX6_trace.desc).map (fun d => d.parameters.length) = some 1) ∧ 2 ≤ 21 ∧ plainName yX6_trace.cls = true ∧ RX6 = yX6_trace.cls := ⟨(by decide +kernel), (by decide +kernel), ⟨(by decide +kernel), (by decide +kernel), (by decide +kernel)⟩, (by decide +kernel), (by decide +kernel), rfl⟩
theorem mv_X6_trace : mV mX6_trace 1 6 := ⟨fx_X6_trace, (by decide +kernel : Cond.instanceMethod yX6_trace ∈ lw_tbl), (by decide +kernel : Cond.selects yX6_trace.cls yX6_trace yX6_trace ∈ lw_tbl), TX6, 7, rfl⟩
abbrev mX6_noTraces : Mt := (RX6, yX6_noTraces, cX6_noTraces, 2, (some .int), 2)
theorem fx_X6_noTraces : Cond.code yX6_noTraces cX6_noTraces 2 (some .int) ∈ lw_tbl ∧ Cond.initialized yX6_noTraces.cls ∈ lw_tbl ∧ (yX6_noTraces.cls ≠ "java/lang/invoke/MethodHandle" ∧ yX6_noTraces.cls ≠ "java/lang/invoke/VarHandle" ∧ (parseMethodDescriptor yX6_noTraces.desc).map (fun d => d.parameters.length) = some 0) ∧ 2 ≤ 21 ∧ plainName yX6_noTraces.cls = true ∧ RX6 = yX6_noTraces.cls := ⟨(by decide +kernel), (by decide +kernel), ⟨(by decide +kernel), (by decide +kernel), (by decide +kernel)⟩, (by decide +kernel), (by decide +kernel), rfl⟩
theorem mv_X6_noTraces : mV mX6_noTraces 0 6 := ⟨fx_X6_noTraces, (by decide +kernel : Cond.instanceMethod yX6_noTraces ∈ lw_tbl), (by decide +kernel : Cond.selects yX6_noTraces.cls yX6_noTraces yX6_noTraces ∈ lw_tbl), TX6, 7, rfl⟩
abbrev mX6_sources : Mt := (RX6, yX6_sources, cX6_sources, 2, (some .int), 19)
theorem fx_X6_sources : Cond.code yX6_sources cX6_sources 2 (some .int) ∈ lw_tbl ∧ Cond.initialized yX6_sources.cls ∈ lw_tbl ∧ (yX6_sources.cls ≠ "java/lang/invoke/MethodHandle" ∧ yX6_sources.cls ≠ "java/lang/invoke/VarHandle" ∧ (parseMethodDescriptor yX6_sources.desc).map (fun d => d.parameters.length) = some 1) ∧ 2 ≤ 21 ∧ plainName yX6_sources.cls = true ∧ RX6 = yX6_sources.cls := ⟨(by decide +kernel), (by decide +kernel), ⟨(by decide +kernel), (by decide +kernel), (by decide +kernel)⟩, (by decide +kernel), (by decide +kernel), rfl⟩
theorem mv_X6_sources : mV mX6_sources 1 6 := ⟨fx_X6_sources, (by decide +kernel : Cond.instanceMethod yX6_sources ∈ lw_tbl), (by decide +kernel : Cond.selects yX6_sources.cls yX6_sources yX6_sources ∈ lw_tbl), TX6, 7, rfl⟩
abbrev mX6_best : Mt := (RX6, yX6_best, cX6_best, 3, (some .int), 19)
theorem fx_X6_best : Cond.code yX6_best cX6_best 3 (some .int) ∈ lw_tbl ∧ Cond.initialized yX6_best.cls ∈ lw_tbl ∧ (yX6_best.cls ≠ "java/lang/invoke/MethodHandle" ∧ yX6_best.cls ≠ "java/lang/invoke/VarHandle" ∧ (parseMethodDescriptor yX6_best.desc).map (fun d => d.parameters.length) = some 2) ∧ 3 ≤ 21 ∧ plainName yX6_best.cls = true ∧ RX6 = yX6_best.cls := ⟨(by decide +kernel), (by decide +kernel), ⟨(by decide +kernel), (by decide +kernel), (by decide +kernel)⟩, (by decide +kernel), (by decide +kernel), rfl⟩
theorem mv_X6_best : mV mX6_best 2 6 := ⟨fx_X6_best, (by decide +kernel : Cond.instanceMethod yX6_best ∈ lw_tbl), (by decide +kernel : Cond.selects yX6_best.cls yX6_best yX6_best ∈ lw_tbl), TX6, 7, rfl⟩
abbrev mX6_line : Mt := (RX6, yX6_line, cX6_line, 4, (some .int), 2)
theorem fx_X6_line : Cond.code yX6_line cX6_line 4 (some .int) ∈ lw_tbl ∧ Cond.initialized yX6_line.cls ∈ lw_tbl ∧ (yX6_line.cls ≠ "java/lang/invoke/MethodHandle" ∧ yX6_line.cls ≠ "java/lang/invoke/VarHandle" ∧ (parseMethodDescriptor yX6_line.desc).map (fun d => d.parameters.length) = some 3) ∧ 4 ≤ 21 ∧ plainName yX6_line.cls = true ∧ RX6 = yX6_line.cls := ⟨(by decide +kernel), (by decide +kernel), ⟨(by decide +kernel), (by decide +kernel), (by decide +kernel)⟩, (by decide +kernel), (by decide +kernel), rfl⟩
theorem mv_X6_line : mV mX6_line 3 6 := ⟨fx_X6_line, (by decide +kernel : Cond.instanceMethod yX6_line ∈ lw_tbl), (by decide +kernel : Cond.selects yX6_line.cls yX6_line yX6_line ∈ lw_tbl), TX6, 7, rfl⟩
abbrev mX6_seed : Mt := (RX6, yX6_seed, cX6_seed, 3, (some .int), 1)
theorem fx_X6_seed : Cond.code yX6_seed cX6_seed 3 (some .int) ∈ lw_tbl ∧ Cond.initialized yX6_seed.cls ∈ lw_tbl ∧ (yX6_seed.cls ≠ "java/lang/invoke/MethodHandle" ∧ yX6_seed.cls ≠ "java/lang/invoke/VarHandle" ∧ (parseMethodDescriptor yX6_seed.desc).map (fun d => d.parameters.length) = some 1) ∧ 3 ≤ 21 ∧ plainName yX6_seed.cls = true ∧ RX6 = yX6_seed.cls := ⟨(by decide +kernel), (by decide +kernel), ⟨(by decide +kernel), (by decide +kernel), (by decide +kernel)⟩, (by decide +kernel), (by decide +kernel), rfl⟩
theorem mv_X6_seed : mV mX6_seed 1 6 := ⟨fx_X6_seed, (by decide +kernel : Cond.instanceMethod yX6_seed ∈ lw_tbl), (by decide +kernel : Cond.selects yX6_seed.cls yX6_seed yX6_seed ∈ lw_tbl), TX6, 7, rfl⟩
abbrev mX6_send : Mt := (RX6, yX6_send, cX6_send, 3, (some .int), 7)
theorem fx_X6_send : Cond.code yX6_send cX6_send 3 (some .int) ∈ lw_tbl ∧ Cond.initialized yX6_send.cls ∈ lw_tbl ∧ (yX6_send.cls ≠ "java/lang/invoke/MethodHandle" ∧ yX6_send.cls ≠ "java/lang/invoke/VarHandle" ∧ (parseMethodDescriptor yX6_send.desc).map (fun d => d.parameters.length) = some 2) ∧ 3 ≤ 21 ∧ plainName yX6_send.cls = true ∧ RX6 = yX6_send.cls := ⟨(by decide +kernel), (by decide +kernel), ⟨(by decide +kernel), (by decide +kernel), (by decide +kernel)⟩, (by decide +kernel), (by decide +kernel), rfl⟩
theorem mv_X6_send : mV mX6_send 2 6 := ⟨fx_X6_send, (by decide +kernel : Cond.instanceMethod yX6_send ∈ lw_tbl), (by decide +kernel : Cond.selects yX6_send.cls yX6_send yX6_send ∈ lw_tbl), TX6, 7, rfl⟩
abbrev mX6_count : Mt := (RX6, yX6_count, cX6_count, 2, (some .int), 2)
theorem fx_X6_count : Cond.code yX6_count cX6_count 2 (some .int) ∈ lw_tbl ∧ Cond.initialized yX6_count.cls ∈ lw_tbl ∧ (yX6_count.cls ≠ "java/lang/invoke/MethodHandle" ∧ yX6_count.cls ≠ "java/lang/invoke/VarHandle" ∧ (parseMethodDescriptor yX6_count.desc).map (fun d => d.parameters.length) = some 1) ∧ 2 ≤ 21 ∧ plainName yX6_count.cls = true ∧ RX6 = yX6_count.cls := ⟨(by decide +kernel), (by decide +kernel), ⟨(by decide +kernel), (by decide +kernel), (by decide +kernel)⟩, (by decide +kernel), (by decide +kernel), rfl⟩
theorem mv_X6_count : mV mX6_count 1 6 := ⟨fx_X6_count, (by decide +kernel : Cond.instanceMethod yX6_count ∈ lw_tbl), (by decide +kernel : Cond.selects yX6_count.cls yX6_count yX6_count ∈ lw_tbl), TX6, 7, rfl⟩
abbrev mX6_lettersOfAll : Mt := (RX6, yX6_lettersOfAll, cX6_lettersOfAll, 3, (some .int), 1)
theorem fx_X6_lettersOfAll : Cond.code yX6_lettersOfAll cX6_lettersOfAll 3 (some .int) ∈ lw_tbl ∧ Cond.initialized yX6_lettersOfAll.cls ∈ lw_tbl ∧ (yX6_lettersOfAll.cls ≠ "java/lang/invoke/MethodHandle" ∧ yX6_lettersOfAll.cls ≠ "java/lang/invoke/VarHandle" ∧ (parseMethodDescriptor yX6_lettersOfAll.desc).map (fun d => d.parameters.length) = some 0) ∧ 3 ≤ 21 ∧ plainName yX6_lettersOfAll.cls = true ∧ RX6 = yX6_lettersOfAll.cls := ⟨(by decide +kernel), (by decide +kernel), ⟨(by decide +kernel), (by decide +kernel), (by decide +kernel)⟩, (by decide +kernel), (by decide +kernel), rfl⟩
theorem mv_X6_lettersOfAll : mV mX6_lettersOfAll 0 6 := ⟨fx_X6_lettersOfAll, (by decide +kernel : Cond.instanceMethod yX6_lettersOfAll ∈ lw_tbl), (by decide +kernel : Cond.selects yX6_lettersOfAll.cls yX6_lettersOfAll yX6_lettersOfAll ∈ lw_tbl), TX6, 7, rfl⟩
abbrev mX6_isLetter : Mt := (RX6, yX6_isLetter, cX6_isLetter, 2, (some .boolean), 1)
theorem fx_X6_isLetter : Cond.code yX6_isLetter cX6_isLetter 2 (some .boolean) ∈ lw_tbl ∧ Cond.initialized yX6_isLetter.cls ∈ lw_tbl ∧ (yX6_isLetter.cls ≠ "java/lang/invoke/MethodHandle" ∧ yX6_isLetter.cls ≠ "java/lang/invoke/VarHandle" ∧ (parseMethodDescriptor yX6_isLetter.desc).map (fun d => d.parameters.length) = some 1) ∧ 2 ≤ 21 ∧ plainName yX6_isLetter.cls = true ∧ RX6 = yX6_isLetter.cls := ⟨(by decide +kernel), (by decide +kernel), ⟨(by decide +kernel), (by decide +kernel), (by decide +kernel)⟩, (by decide +kernel), (by decide +kernel), rfl⟩
theorem mv_X6_isLetter : mV mX6_isLetter 1 6 := ⟨fx_X6_isLetter, (by decide +kernel : Cond.instanceMethod yX6_isLetter ∈ lw_tbl), (by decide +kernel : Cond.selects yX6_isLetter.cls yX6_isLetter yX6_isLetter ∈ lw_tbl), TX6, 7, rfl⟩
abbrev mX6_isEdit : Mt := (RX6, yX6_isEdit, cX6_isEdit, 5, (some .boolean), 2)
theorem fx_X6_isEdit : Cond.code yX6_isEdit cX6_isEdit 5 (some .boolean) ∈ lw_tbl ∧ Cond.initialized yX6_isEdit.cls ∈ lw_tbl ∧ (yX6_isEdit.cls ≠ "java/lang/invoke/MethodHandle" ∧ yX6_isEdit.cls ≠ "java/lang/invoke/VarHandle" ∧ (parseMethodDescriptor yX6_isEdit.desc).map (fun d => d.parameters.length) = some 4) ∧ 5 ≤ 21 ∧ plainName yX6_isEdit.cls = true ∧ RX6 = yX6_isEdit.cls := ⟨(by decide +kernel), (by decide +kernel), ⟨(by decide +kernel), (by decide +kernel), (by decide +kernel)⟩, (by decide +kernel), (by decide +kernel), rfl⟩
theorem mv_X6_isEdit : mV mX6_isEdit 4 6 := ⟨fx_X6_isEdit, (by decide +kernel : Cond.instanceMethod yX6_isEdit ∈ lw_tbl), (by decide +kernel : Cond.selects yX6_isEdit.cls yX6_isEdit yX6_isEdit ∈ lw_tbl), TX6, 7, rfl⟩
abbrev mX6_isRow : Mt := (RX6, yX6_isRow, cX6_isRow, 5, (some .boolean), 2)
theorem fx_X6_isRow : Cond.code yX6_isRow cX6_isRow 5 (some .boolean) ∈ lw_tbl ∧ Cond.initialized yX6_isRow.cls ∈ lw_tbl ∧ (yX6_isRow.cls ≠ "java/lang/invoke/MethodHandle" ∧ yX6_isRow.cls ≠ "java/lang/invoke/VarHandle" ∧ (parseMethodDescriptor yX6_isRow.desc).map (fun d => d.parameters.length) = some 2) ∧ 5 ≤ 21 ∧ plainName yX6_isRow.cls = true ∧ RX6 = yX6_isRow.cls := ⟨(by decide +kernel), (by decide +kernel), ⟨(by decide +kernel), (by decide +kernel), (by decide +kernel)⟩, (by decide +kernel), (by decide +kernel), rfl⟩
theorem mv_X6_isRow : mV mX6_isRow 2 6 := ⟨fx_X6_isRow, (by decide +kernel : Cond.instanceMethod yX6_isRow ∈ lw_tbl), (by decide +kernel : Cond.selects yX6_isRow.cls yX6_isRow yX6_isRow ∈ lw_tbl), TX6, 7, rfl⟩
abbrev mX6_isSourceLength : Mt := (RX6, yX6_isSourceLength, cX6_isSourceLength, 4, (some .boolean), 1)
theorem fx_X6_isSourceLength : Cond.code yX6_isSourceLength cX6_isSourceLength 4 (some .boolean) ∈ lw_tbl ∧ Cond.initialized yX6_isSourceLength.cls ∈ lw_tbl ∧ (yX6_isSourceLength.cls ≠ "java/lang/invoke/MethodHandle" ∧ yX6_isSourceLength.cls ≠ "java/lang/invoke/VarHandle" ∧ (parseMethodDescriptor yX6_isSourceLength.desc).map (fun d => d.parameters.length) = some 1) ∧ 4 ≤ 21 ∧ plainName yX6_isSourceLength.cls = true ∧ RX6 = yX6_isSourceLength.cls := ⟨(by decide +kernel), (by decide +kernel), ⟨(by decide +kernel), (by decide +kernel), (by decide +kernel)⟩, (by decide +kernel), (by decide +kernel), rfl⟩
theorem mv_X6_isSourceLength : mV mX6_isSourceLength 1 6 := ⟨fx_X6_isSourceLength, (by decide +kernel : Cond.instanceMethod yX6_isSourceLength ∈ lw_tbl), (by decide +kernel : Cond.selects yX6_isSourceLength.cls yX6_isSourceLength yX6_isSourceLength ∈ lw_tbl), TX6, 7, rfl⟩
abbrev mX6_isRegister : Mt := (RX6, yX6_isRegister, cX6_isRegister, 1, (some .boolean), 1)
theorem fx_X6_isRegister : Cond.code yX6_isRegister cX6_isRegister 1 (some .boolean) ∈ lw_tbl ∧ Cond.initialized yX6_isRegister.cls ∈ lw_tbl ∧ (yX6_isRegister.cls ≠ "java/lang/invoke/MethodHandle" ∧ yX6_isRegister.cls ≠ "java/lang/invoke/VarHandle" ∧ (parseMethodDescriptor yX6_isRegister.desc).map (fun d => d.parameters.length) = some 1) ∧ 1 ≤ 21 ∧ plainName yX6_isRegister.cls = true ∧ RX6 = yX6_isRegister.cls := ⟨(by decide +kernel), (by decide +kernel), ⟨(by decide +kernel), (by decide +kernel), (by decide +kernel)⟩, (by decide +kernel), (by decide +kernel), rfl⟩
theorem ms_X6_isRegister : mS mX6_isRegister 1 := ⟨fx_X6_isRegister, (by decide +kernel)⟩
abbrev mX6_isEither : Mt := (RX6, yX6_isEither, cX6_isEither, 1, (some .boolean), 1)
theorem fx_X6_isEither : Cond.code yX6_isEither cX6_isEither 1 (some .boolean) ∈ lw_tbl ∧ Cond.initialized yX6_isEither.cls ∈ lw_tbl ∧ (yX6_isEither.cls ≠ "java/lang/invoke/MethodHandle" ∧ yX6_isEither.cls ≠ "java/lang/invoke/VarHandle" ∧ (parseMethodDescriptor yX6_isEither.desc).map (fun d => d.parameters.length) = some 1) ∧ 1 ≤ 21 ∧ plainName yX6_isEither.cls = true ∧ RX6 = yX6_isEither.cls := ⟨(by decide +kernel), (by decide +kernel), ⟨(by decide +kernel), (by decide +kernel), (by decide +kernel)⟩, (by decide +kernel), (by decide +kernel), rfl⟩
theorem ms_X6_isEither : mS mX6_isEither 1 := ⟨fx_X6_isEither, (by decide +kernel)⟩
abbrev mX6_isChance : Mt := (RX6, yX6_isChance, cX6_isChance, 1, (some .boolean), 1)
theorem fx_X6_isChance : Cond.code yX6_isChance cX6_isChance 1 (some .boolean) ∈ lw_tbl ∧ Cond.initialized yX6_isChance.cls ∈ lw_tbl ∧ (yX6_isChance.cls ≠ "java/lang/invoke/MethodHandle" ∧ yX6_isChance.cls ≠ "java/lang/invoke/VarHandle" ∧ (parseMethodDescriptor yX6_isChance.desc).map (fun d => d.parameters.length) = some 1) ∧ 1 ≤ 21 ∧ plainName yX6_isChance.cls = true ∧ RX6 = yX6_isChance.cls := ⟨(by decide +kernel), (by decide +kernel), ⟨(by decide +kernel), (by decide +kernel), (by decide +kernel)⟩, (by decide +kernel), (by decide +kernel), rfl⟩
theorem ms_X6_isChance : mS mX6_isChance 1 := ⟨fx_X6_isChance, (by decide +kernel)⟩
abbrev mX7_init : Mt := (RX7, yX7_init, cX7_init, 1, none, 1)
theorem fx_X7_init : Cond.code yX7_init cX7_init 1 none ∈ lw_tbl ∧ Cond.initialized yX7_init.cls ∈ lw_tbl ∧ (yX7_init.cls ≠ "java/lang/invoke/MethodHandle" ∧ yX7_init.cls ≠ "java/lang/invoke/VarHandle" ∧ (parseMethodDescriptor yX7_init.desc).map (fun d => d.parameters.length) = some 0) ∧ 1 ≤ 21 ∧ plainName yX7_init.cls = true ∧ RX7 = yX7_init.cls := ⟨(by decide +kernel), (by decide +kernel), ⟨(by decide +kernel), (by decide +kernel), (by decide +kernel)⟩, (by decide +kernel), (by decide +kernel), rfl⟩
theorem mi_X7_init : mI mX7_init 0 := ⟨fx_X7_init, (by decide +kernel), rfl, rfl⟩
abbrev mX7_in : Mt := (RX7, yX7_in, cX7_in, 6, (some .boolean), 1)
theorem fx_X7_in : Cond.code yX7_in cX7_in 6 (some .boolean) ∈ lw_tbl ∧ Cond.initialized yX7_in.cls ∈ lw_tbl ∧ (yX7_in.cls ≠ "java/lang/invoke/MethodHandle" ∧ yX7_in.cls ≠ "java/lang/invoke/VarHandle" ∧ (parseMethodDescriptor yX7_in.desc).map (fun d => d.parameters.length) = some 3) ∧ 6 ≤ 21 ∧ plainName yX7_in.cls = true ∧ RX7 = yX7_in.cls := ⟨(by decide +kernel), (by decide +kernel), ⟨(by decide +kernel), (by decide +kernel), (by decide +kernel)⟩, (by decide +kernel), (by decide +kernel), rfl⟩
theorem ms_X7_in : mS mX7_in 3 := ⟨fx_X7_in, (by decide +kernel)⟩
abbrev mX7_isRegister : Mt := (RX7, yX7_isRegister, cX7_isRegister, 1, (some .boolean), 2)
theorem fx_X7_isRegister : Cond.code yX7_isRegister cX7_isRegister 1 (some .boolean) ∈ lw_tbl ∧ Cond.initialized yX7_isRegister.cls ∈ lw_tbl ∧ (yX7_isRegister.cls ≠ "java/lang/invoke/MethodHandle" ∧ yX7_isRegister.cls ≠ "java/lang/invoke/VarHandle" ∧ (parseMethodDescriptor yX7_isRegister.desc).map (fun d => d.parameters.length) = some 1) ∧ 1 ≤ 21 ∧ plainName yX7_isRegister.cls = true ∧ RX7 = yX7_isRegister.cls := ⟨(by decide +kernel), (by decide +kernel), ⟨(by decide +kernel), (by decide +kernel), (by decide +kernel)⟩, (by decide +kernel), (by decide +kernel), rfl⟩
theorem ms_X7_isRegister : mS mX7_isRegister 1 := ⟨fx_X7_isRegister, (by decide +kernel)⟩
abbrev mX7_letters : Mt := (RX7, yX7_letters, cX7_letters, 3, (some .int), 2)
theorem fx_X7_letters : Cond.code yX7_letters cX7_letters 3 (some .int) ∈ lw_tbl ∧ Cond.initialized yX7_letters.cls ∈ lw_tbl ∧ (yX7_letters.cls ≠ "java/lang/invoke/MethodHandle" ∧ yX7_letters.cls ≠ "java/lang/invoke/VarHandle" ∧ (parseMethodDescriptor yX7_letters.desc).map (fun d => d.parameters.length) = some 1) ∧ 3 ≤ 21 ∧ plainName yX7_letters.cls = true ∧ RX7 = yX7_letters.cls := ⟨(by decide +kernel), (by decide +kernel), ⟨(by decide +kernel), (by decide +kernel), (by decide +kernel)⟩, (by decide +kernel), (by decide +kernel), rfl⟩
theorem mv_X7_letters : mV mX7_letters 1 7 := ⟨fx_X7_letters, (by decide +kernel : Cond.instanceMethod yX7_letters ∈ lw_tbl), (by decide +kernel : Cond.selects yX7_letters.cls yX7_letters yX7_letters ∈ lw_tbl), TX7, 17, rfl⟩
abbrev mX7_puts : Mt := (RX7, yX7_puts, cX7_puts, 3, none, 1)
theorem fx_X7_puts : Cond.code yX7_puts cX7_puts 3 none ∈ lw_tbl ∧ Cond.initialized yX7_puts.cls ∈ lw_tbl ∧ (yX7_puts.cls ≠ "java/lang/invoke/MethodHandle" ∧ yX7_puts.cls ≠ "java/lang/invoke/VarHandle" ∧ (parseMethodDescriptor yX7_puts.desc).map (fun d => d.parameters.length) = some 2) ∧ 3 ≤ 21 ∧ plainName yX7_puts.cls = true ∧ RX7 = yX7_puts.cls := ⟨(by decide +kernel), (by decide +kernel), ⟨(by decide +kernel), (by decide +kernel), (by decide +kernel)⟩, (by decide +kernel), (by decide +kernel), rfl⟩
theorem mv_X7_puts : mV mX7_puts 2 7 := ⟨fx_X7_puts, (by decide +kernel : Cond.instanceMethod yX7_puts ∈ lw_tbl), (by decide +kernel : Cond.selects yX7_puts.cls yX7_puts yX7_puts ∈ lw_tbl), TX7, 17, rfl⟩
abbrev mX7_copies : Mt := (RX7, yX7_copies, cX7_copies, 4, none, 1)
theorem fx_X7_copies : Cond.code yX7_copies cX7_copies 4 none ∈ lw_tbl ∧ Cond.initialized yX7_copies.cls ∈ lw_tbl ∧ (yX7_copies.cls ≠ "java/lang/invoke/MethodHandle" ∧ yX7_copies.cls ≠ "java/lang/invoke/VarHandle" ∧ (parseMethodDescriptor yX7_copies.desc).map (fun d => d.parameters.length) = some 2) ∧ 4 ≤ 21 ∧ plainName yX7_copies.cls = true ∧ RX7 = yX7_copies.cls := ⟨(by decide +kernel), (by decide +kernel), ⟨(by decide +kernel), (by decide +kernel), (by decide +kernel)⟩, (by decide +kernel), (by decide +kernel), rfl⟩
theorem mv_X7_copies : mV mX7_copies 2 7 := ⟨fx_X7_copies, (by decide +kernel : Cond.instanceMethod yX7_copies ∈ lw_tbl), (by decide +kernel : Cond.selects yX7_copies.cls yX7_copies yX7_copies ∈ lw_tbl), TX7, 17, rfl⟩
abbrev mX7_word : Mt := (RX7, yX7_word, cX7_word, 6, (some .int), 3)
theorem fx_X7_word : Cond.code yX7_word cX7_word 6 (some .int) ∈ lw_tbl ∧ Cond.initialized yX7_word.cls ∈ lw_tbl ∧ (yX7_word.cls ≠ "java/lang/invoke/MethodHandle" ∧ yX7_word.cls ≠ "java/lang/invoke/VarHandle" ∧ (parseMethodDescriptor yX7_word.desc).map (fun d => d.parameters.length) = some 3) ∧ 6 ≤ 21 ∧ plainName yX7_word.cls = true ∧ RX7 = yX7_word.cls := ⟨(by decide +kernel), (by decide +kernel), ⟨(by decide +kernel), (by decide +kernel), (by decide +kernel)⟩, (by decide +kernel), (by decide +kernel), rfl⟩
theorem mv_X7_word : mV mX7_word 3 7 := ⟨fx_X7_word, (by decide +kernel : Cond.instanceMethod yX7_word ∈ lw_tbl), (by decide +kernel : Cond.selects yX7_word.cls yX7_word yX7_word ∈ lw_tbl), TX7, 17, rfl⟩
abbrev mX7_at : Mt := (RX7, yX7_at, cX7_at, 3, (some .int), 3)
theorem fx_X7_at : Cond.code yX7_at cX7_at 3 (some .int) ∈ lw_tbl ∧ Cond.initialized yX7_at.cls ∈ lw_tbl ∧ (yX7_at.cls ≠ "java/lang/invoke/MethodHandle" ∧ yX7_at.cls ≠ "java/lang/invoke/VarHandle" ∧ (parseMethodDescriptor yX7_at.desc).map (fun d => d.parameters.length) = some 2) ∧ 3 ≤ 21 ∧ plainName yX7_at.cls = true ∧ RX7 = yX7_at.cls := ⟨(by decide +kernel), (by decide +kernel), ⟨(by decide +kernel), (by decide +kernel), (by decide +kernel)⟩, (by decide +kernel), (by decide +kernel), rfl⟩
theorem mv_X7_at : mV mX7_at 2 7 := ⟨fx_X7_at, (by decide +kernel : Cond.instanceMethod yX7_at ∈ lw_tbl), (by decide +kernel : Cond.selects yX7_at.cls yX7_at yX7_at ∈ lw_tbl), TX7, 17, rfl⟩
abbrev mX7_edits : Mt := (RX7, yX7_edits, cX7_edits, 7, none, 2)
theorem fx_X7_edits : Cond.code yX7_edits cX7_edits 7 none ∈ lw_tbl ∧ Cond.initialized yX7_edits.cls ∈ lw_tbl ∧ (yX7_edits.cls ≠ "java/lang/invoke/MethodHandle" ∧ yX7_edits.cls ≠ "java/lang/invoke/VarHandle" ∧ (parseMethodDescriptor yX7_edits.desc).map (fun d => d.parameters.length) = some 5) ∧ 7 ≤ 21 ∧ plainName yX7_edits.cls = true ∧ RX7 = yX7_edits.cls := ⟨(by decide +kernel), (by decide +kernel), ⟨(by decide +kernel), (by decide +kernel), (by decide +kernel)⟩, (by decide +kernel), (by decide +kernel), rfl⟩
theorem mv_X7_edits : mV mX7_edits 5 7 := ⟨fx_X7_edits, (by decide +kernel : Cond.instanceMethod yX7_edits ∈ lw_tbl), (by decide +kernel : Cond.selects yX7_edits.cls yX7_edits yX7_edits ∈ lw_tbl), TX7, 17, rfl⟩
abbrev mX7_edit : Mt := (RX7, yX7_edit, cX7_edit, 6, (some .int), 3)
theorem fx_X7_edit : Cond.code yX7_edit cX7_edit 6 (some .int) ∈ lw_tbl ∧ Cond.initialized yX7_edit.cls ∈ lw_tbl ∧ (yX7_edit.cls ≠ "java/lang/invoke/MethodHandle" ∧ yX7_edit.cls ≠ "java/lang/invoke/VarHandle" ∧ (parseMethodDescriptor yX7_edit.desc).map (fun d => d.parameters.length) = some 5) ∧ 6 ≤ 21 ∧ plainName yX7_edit.cls = true ∧ RX7 = yX7_edit.cls := ⟨(by decide +kernel), (by decide +kernel), ⟨(by decide +kernel), (by decide +kernel), (by decide +kernel)⟩, (by decide +kernel), (by decide +kernel), rfl⟩
theorem mv_X7_edit : mV mX7_edit 5 7 := ⟨fx_X7_edit, (by decide +kernel : Cond.instanceMethod yX7_edit ∈ lw_tbl), (by decide +kernel : Cond.selects yX7_edit.cls yX7_edit yX7_edit ∈ lw_tbl), TX7, 17, rfl⟩
abbrev mX7_sumOf : Mt := (RX7, yX7_sumOf, cX7_sumOf, 4, (some .int), 1)
theorem fx_X7_sumOf : Cond.code yX7_sumOf cX7_sumOf 4 (some .int) ∈ lw_tbl ∧ Cond.initialized yX7_sumOf.cls ∈ lw_tbl ∧ (yX7_sumOf.cls ≠ "java/lang/invoke/MethodHandle" ∧ yX7_sumOf.cls ≠ "java/lang/invoke/VarHandle" ∧ (parseMethodDescriptor yX7_sumOf.desc).map (fun d => d.parameters.length) = some 1) ∧ 4 ≤ 21 ∧ plainName yX7_sumOf.cls = true ∧ RX7 = yX7_sumOf.cls := ⟨(by decide +kernel), (by decide +kernel), ⟨(by decide +kernel), (by decide +kernel), (by decide +kernel)⟩, (by decide +kernel), (by decide +kernel), rfl⟩
theorem mv_X7_sumOf : mV mX7_sumOf 1 7 := ⟨fx_X7_sumOf, (by decide +kernel : Cond.instanceMethod yX7_sumOf ∈ lw_tbl), (by decide +kernel : Cond.selects yX7_sumOf.cls yX7_sumOf yX7_sumOf ∈ lw_tbl), TX7, 17, rfl⟩
abbrev mX7_lettersOf : Mt := (RX7, yX7_lettersOf, cX7_lettersOf, 4, (some .int), 1)
theorem fx_X7_lettersOf : Cond.code yX7_lettersOf cX7_lettersOf 4 (some .int) ∈ lw_tbl ∧ Cond.initialized yX7_lettersOf.cls ∈ lw_tbl ∧ (yX7_lettersOf.cls ≠ "java/lang/invoke/MethodHandle" ∧ yX7_lettersOf.cls ≠ "java/lang/invoke/VarHandle" ∧ (parseMethodDescriptor yX7_lettersOf.desc).map (fun d => d.parameters.length) = some 1) ∧ 4 ≤ 21 ∧ plainName yX7_lettersOf.cls = true ∧ RX7 = yX7_lettersOf.cls := ⟨(by decide +kernel), (by decide +kernel), ⟨(by decide +kernel), (by decide +kernel), (by decide +kernel)⟩, (by decide +kernel), (by decide +kernel), rfl⟩
theorem mv_X7_lettersOf : mV mX7_lettersOf 1 7 := ⟨fx_X7_lettersOf, (by decide +kernel : Cond.instanceMethod yX7_lettersOf ∈ lw_tbl), (by decide +kernel : Cond.selects yX7_lettersOf.cls yX7_lettersOf yX7_lettersOf ∈ lw_tbl), TX7, 17, rfl⟩
abbrev mX7_isCode : Mt := (RX7, yX7_isCode, cX7_isCode, 2, (some .boolean), 2)
theorem fx_X7_isCode : Cond.code yX7_isCode cX7_isCode 2 (some .boolean) ∈ lw_tbl ∧ Cond.initialized yX7_isCode.cls ∈ lw_tbl ∧ (yX7_isCode.cls ≠ "java/lang/invoke/MethodHandle" ∧ yX7_isCode.cls ≠ "java/lang/invoke/VarHandle" ∧ (parseMethodDescriptor yX7_isCode.desc).map (fun d => d.parameters.length) = some 1) ∧ 2 ≤ 21 ∧ plainName yX7_isCode.cls = true ∧ RX7 = yX7_isCode.cls := ⟨(by decide +kernel), (by decide +kernel), ⟨(by decide +kernel), (by decide +kernel), (by decide +kernel)⟩, (by decide +kernel), (by decide +kernel), rfl⟩
theorem mv_X7_isCode : mV mX7_isCode 1 7 := ⟨fx_X7_isCode, (by decide +kernel : Cond.instanceMethod yX7_isCode ∈ lw_tbl), (by decide +kernel : Cond.selects yX7_isCode.cls yX7_isCode yX7_isCode ∈ lw_tbl), TX7, 17, rfl⟩
abbrev mX7_state : Mt := (RX7, yX7_state, cX7_state, 4, (some .int), 1)
theorem fx_X7_state : Cond.code yX7_state cX7_state 4 (some .int) ∈ lw_tbl ∧ Cond.initialized yX7_state.cls ∈ lw_tbl ∧ (yX7_state.cls ≠ "java/lang/invoke/MethodHandle" ∧ yX7_state.cls ≠ "java/lang/invoke/VarHandle" ∧ (parseMethodDescriptor yX7_state.desc).map (fun d => d.parameters.length) = some 4) ∧ 4 ≤ 21 ∧ plainName yX7_state.cls = true ∧ RX7 = yX7_state.cls := ⟨(by decide +kernel), (by decide +kernel), ⟨(by decide +kernel), (by decide +kernel), (by decide +kernel)⟩, (by decide +kernel), (by decide +kernel), rfl⟩
theorem ms_X7_state : mS mX7_state 4 := ⟨fx_X7_state, (by decide +kernel)⟩
abbrev mX7_step : Mt := (RX7, yX7_step, cX7_step, 4, (some .int), 1)
theorem fx_X7_step : Cond.code yX7_step cX7_step 4 (some .int) ∈ lw_tbl ∧ Cond.initialized yX7_step.cls ∈ lw_tbl ∧ (yX7_step.cls ≠ "java/lang/invoke/MethodHandle" ∧ yX7_step.cls ≠ "java/lang/invoke/VarHandle" ∧ (parseMethodDescriptor yX7_step.desc).map (fun d => d.parameters.length) = some 3) ∧ 4 ≤ 21 ∧ plainName yX7_step.cls = true ∧ RX7 = yX7_step.cls := ⟨(by decide +kernel), (by decide +kernel), ⟨(by decide +kernel), (by decide +kernel), (by decide +kernel)⟩, (by decide +kernel), (by decide +kernel), rfl⟩
theorem mv_X7_step : mV mX7_step 3 7 := ⟨fx_X7_step, (by decide +kernel : Cond.instanceMethod yX7_step ∈ lw_tbl), (by decide +kernel : Cond.selects yX7_step.cls yX7_step yX7_step ∈ lw_tbl), TX7, 17, rfl⟩
abbrev mX7_counts : Mt := (RX7, yX7_counts, cX7_counts, 7, none, 2)
theorem fx_X7_counts : Cond.code yX7_counts cX7_counts 7 none ∈ lw_tbl ∧ Cond.initialized yX7_counts.cls ∈ lw_tbl ∧ (yX7_counts.cls ≠ "java/lang/invoke/MethodHandle" ∧ yX7_counts.cls ≠ "java/lang/invoke/VarHandle" ∧ (parseMethodDescriptor yX7_counts.desc).map (fun d => d.parameters.length) = some 0) ∧ 7 ≤ 21 ∧ plainName yX7_counts.cls = true ∧ RX7 = yX7_counts.cls := ⟨(by decide +kernel), (by decide +kernel), ⟨(by decide +kernel), (by decide +kernel), (by decide +kernel)⟩, (by decide +kernel), (by decide +kernel), rfl⟩
theorem mv_X7_counts : mV mX7_counts 0 7 := ⟨fx_X7_counts, (by decide +kernel : Cond.instanceMethod yX7_counts ∈ lw_tbl), (by decide +kernel : Cond.selects yX7_counts.cls yX7_counts yX7_counts ∈ lw_tbl), TX7, 17, rfl⟩
abbrev mX7_code : Mt := (RX7, yX7_code, cX7_code, 5, (some .int), 3)
theorem fx_X7_code : Cond.code yX7_code cX7_code 5 (some .int) ∈ lw_tbl ∧ Cond.initialized yX7_code.cls ∈ lw_tbl ∧ (yX7_code.cls ≠ "java/lang/invoke/MethodHandle" ∧ yX7_code.cls ≠ "java/lang/invoke/VarHandle" ∧ (parseMethodDescriptor yX7_code.desc).map (fun d => d.parameters.length) = some 4) ∧ 5 ≤ 21 ∧ plainName yX7_code.cls = true ∧ RX7 = yX7_code.cls := ⟨(by decide +kernel), (by decide +kernel), ⟨(by decide +kernel), (by decide +kernel), (by decide +kernel)⟩, (by decide +kernel), (by decide +kernel), rfl⟩
theorem mv_X7_code : mV mX7_code 4 7 := ⟨fx_X7_code, (by decide +kernel : Cond.instanceMethod yX7_code ∈ lw_tbl), (by decide +kernel : Cond.selects yX7_code.cls yX7_code yX7_code ∈ lw_tbl), TX7, 17, rfl⟩
abbrev mX7_codeSize : Mt := (RX7, yX7_codeSize, cX7_codeSize, 1, (some .int), 2)
theorem fx_X7_codeSize : Cond.code yX7_codeSize cX7_codeSize 1 (some .int) ∈ lw_tbl ∧ Cond.initialized yX7_codeSize.cls ∈ lw_tbl ∧ (yX7_codeSize.cls ≠ "java/lang/invoke/MethodHandle" ∧ yX7_codeSize.cls ≠ "java/lang/invoke/VarHandle" ∧ (parseMethodDescriptor yX7_codeSize.desc).map (fun d => d.parameters.length) = some 0) ∧ 1 ≤ 21 ∧ plainName yX7_codeSize.cls = true ∧ RX7 = yX7_codeSize.cls := ⟨(by decide +kernel), (by decide +kernel), ⟨(by decide +kernel), (by decide +kernel), (by decide +kernel)⟩, (by decide +kernel), (by decide +kernel), rfl⟩
theorem mv_X7_codeSize : mV mX7_codeSize 0 7 := ⟨fx_X7_codeSize, (by decide +kernel : Cond.instanceMethod yX7_codeSize ∈ lw_tbl), (by decide +kernel : Cond.selects yX7_codeSize.cls yX7_codeSize yX7_codeSize ∈ lw_tbl), TX7, 17, rfl⟩
abbrev mX7_sum : Mt := (RX7, yX7_sum, cX7_sum, 2, (some .int), 3)
theorem fx_X7_sum : Cond.code yX7_sum cX7_sum 2 (some .int) ∈ lw_tbl ∧ Cond.initialized yX7_sum.cls ∈ lw_tbl ∧ (yX7_sum.cls ≠ "java/lang/invoke/MethodHandle" ∧ yX7_sum.cls ≠ "java/lang/invoke/VarHandle" ∧ (parseMethodDescriptor yX7_sum.desc).map (fun d => d.parameters.length) = some 1) ∧ 2 ≤ 21 ∧ plainName yX7_sum.cls = true ∧ RX7 = yX7_sum.cls := ⟨(by decide +kernel), (by decide +kernel), ⟨(by decide +kernel), (by decide +kernel), (by decide +kernel)⟩, (by decide +kernel), (by decide +kernel), rfl⟩
theorem mv_X7_sum : mV mX7_sum 1 7 := ⟨fx_X7_sum, (by decide +kernel : Cond.instanceMethod yX7_sum ∈ lw_tbl), (by decide +kernel : Cond.selects yX7_sum.cls yX7_sum yX7_sum ∈ lw_tbl), TX7, 17, rfl⟩
abbrev mX7_isOf : Mt := (RX7, yX7_isOf, cX7_isOf, 2, (some .int), 3)
theorem fx_X7_isOf : Cond.code yX7_isOf cX7_isOf 2 (some .int) ∈ lw_tbl ∧ Cond.initialized yX7_isOf.cls ∈ lw_tbl ∧ (yX7_isOf.cls ≠ "java/lang/invoke/MethodHandle" ∧ yX7_isOf.cls ≠ "java/lang/invoke/VarHandle" ∧ (parseMethodDescriptor yX7_isOf.desc).map (fun d => d.parameters.length) = some 1) ∧ 2 ≤ 21 ∧ plainName yX7_isOf.cls = true ∧ RX7 = yX7_isOf.cls := ⟨(by decide +kernel), (by decide +kernel), ⟨(by decide +kernel), (by decide +kernel), (by decide +kernel)⟩, (by decide +kernel), (by decide +kernel), rfl⟩
theorem mv_X7_isOf : mV mX7_isOf 1 7 := ⟨fx_X7_isOf, (by decide +kernel : Cond.instanceMethod yX7_isOf ∈ lw_tbl), (by decide +kernel : Cond.selects yX7_isOf.cls yX7_isOf yX7_isOf ∈ lw_tbl), TX7, 17, rfl⟩
abbrev mX7_listed : Mt := (RX7, yX7_listed, cX7_listed, 10, (some .int), 3)
theorem fx_X7_listed : Cond.code yX7_listed cX7_listed 10 (some .int) ∈ lw_tbl ∧ Cond.initialized yX7_listed.cls ∈ lw_tbl ∧ (yX7_listed.cls ≠ "java/lang/invoke/MethodHandle" ∧ yX7_listed.cls ≠ "java/lang/invoke/VarHandle" ∧ (parseMethodDescriptor yX7_listed.desc).map (fun d => d.parameters.length) = some 2) ∧ 10 ≤ 21 ∧ plainName yX7_listed.cls = true ∧ RX7 = yX7_listed.cls := ⟨(by decide +kernel), (by decide +kernel), ⟨(by decide +kernel), (by decide +kernel), (by decide +kernel)⟩, (by decide +kernel), (by decide +kernel), rfl⟩
theorem mv_X7_listed : mV mX7_listed 2 7 := ⟨fx_X7_listed, (by decide +kernel : Cond.instanceMethod yX7_listed ∈ lw_tbl), (by decide +kernel : Cond.selects yX7_listed.cls yX7_listed yX7_listed ∈ lw_tbl), TX7, 17, rfl⟩
abbrev mX7_meets : Mt := (RX7, yX7_meets, cX7_meets, 4, none, 3)
theorem fx_X7_meets : Cond.code yX7_meets cX7_meets 4 none ∈ lw_tbl ∧ Cond.initialized yX7_meets.cls ∈ lw_tbl ∧ (yX7_meets.cls ≠ "java/lang/invoke/MethodHandle" ∧ yX7_meets.cls ≠ "java/lang/invoke/VarHandle" ∧ (parseMethodDescriptor yX7_meets.desc).map (fun d => d.parameters.length) = some 0) ∧ 4 ≤ 21 ∧ plainName yX7_meets.cls = true ∧ RX7 = yX7_meets.cls := ⟨(by decide +kernel), (by decide +kernel), ⟨(by decide +kernel), (by decide +kernel), (by decide +kernel)⟩, (by decide +kernel), (by decide +kernel), rfl⟩
theorem mv_X7_meets : mV mX7_meets 0 7 := ⟨fx_X7_meets, (by decide +kernel : Cond.instanceMethod yX7_meets ∈ lw_tbl), (by decide +kernel : Cond.selects yX7_meets.cls yX7_meets yX7_meets ∈ lw_tbl), TX7, 17, rfl⟩
abbrev mX7_looks : Mt := (RX7, yX7_looks, cX7_looks, 5, none, 4)
theorem fx_X7_looks : Cond.code yX7_looks cX7_looks 5 none ∈ lw_tbl ∧ Cond.initialized yX7_looks.cls ∈ lw_tbl ∧ (yX7_looks.cls ≠ "java/lang/invoke/MethodHandle" ∧ yX7_looks.cls ≠ "java/lang/invoke/VarHandle" ∧ (parseMethodDescriptor yX7_looks.desc).map (fun d => d.parameters.length) = some 1) ∧ 5 ≤ 21 ∧ plainName yX7_looks.cls = true ∧ RX7 = yX7_looks.cls := ⟨(by decide +kernel), (by decide +kernel), ⟨(by decide +kernel), (by decide +kernel), (by decide +kernel)⟩, (by decide +kernel), (by decide +kernel), rfl⟩
theorem mv_X7_looks : mV mX7_looks 1 7 := ⟨fx_X7_looks, (by decide +kernel : Cond.instanceMethod yX7_looks ∈ lw_tbl), (by decide +kernel : Cond.selects yX7_looks.cls yX7_looks yX7_looks ∈ lw_tbl), TX7, 17, rfl⟩
abbrev mX7_near : Mt := (RX7, yX7_near, cX7_near, 2, (some .int), 5)
theorem fx_X7_near : Cond.code yX7_near cX7_near 2 (some .int) ∈ lw_tbl ∧ Cond.initialized yX7_near.cls ∈ lw_tbl ∧ (yX7_near.cls ≠ "java/lang/invoke/MethodHandle" ∧ yX7_near.cls ≠ "java/lang/invoke/VarHandle" ∧ (parseMethodDescriptor yX7_near.desc).map (fun d => d.parameters.length) = some 1) ∧ 2 ≤ 21 ∧ plainName yX7_near.cls = true ∧ RX7 = yX7_near.cls := ⟨(by decide +kernel), (by decide +kernel), ⟨(by decide +kernel), (by decide +kernel), (by decide +kernel)⟩, (by decide +kernel), (by decide +kernel), rfl⟩
theorem mv_X7_near : mV mX7_near 1 7 := ⟨fx_X7_near, (by decide +kernel : Cond.instanceMethod yX7_near ∈ lw_tbl), (by decide +kernel : Cond.selects yX7_near.cls yX7_near yX7_near ∈ lw_tbl), TX7, 17, rfl⟩
abbrev mX7_mend : Mt := (RX7, yX7_mend, cX7_mend, 4, (some .int), 5)
theorem fx_X7_mend : Cond.code yX7_mend cX7_mend 4 (some .int) ∈ lw_tbl ∧ Cond.initialized yX7_mend.cls ∈ lw_tbl ∧ (yX7_mend.cls ≠ "java/lang/invoke/MethodHandle" ∧ yX7_mend.cls ≠ "java/lang/invoke/VarHandle" ∧ (parseMethodDescriptor yX7_mend.desc).map (fun d => d.parameters.length) = some 2) ∧ 4 ≤ 21 ∧ plainName yX7_mend.cls = true ∧ RX7 = yX7_mend.cls := ⟨(by decide +kernel), (by decide +kernel), ⟨(by decide +kernel), (by decide +kernel), (by decide +kernel)⟩, (by decide +kernel), (by decide +kernel), rfl⟩
theorem mv_X7_mend : mV mX7_mend 2 7 := ⟨fx_X7_mend, (by decide +kernel : Cond.instanceMethod yX7_mend ∈ lw_tbl), (by decide +kernel : Cond.selects yX7_mend.cls yX7_mend yX7_mend ∈ lw_tbl), TX7, 17, rfl⟩
abbrev mX7_lies : Mt := (RX7, yX7_lies, cX7_lies, 7, (some .long), 1)
theorem fx_X7_lies : Cond.code yX7_lies cX7_lies 7 (some .long) ∈ lw_tbl ∧ Cond.initialized yX7_lies.cls ∈ lw_tbl ∧ (yX7_lies.cls ≠ "java/lang/invoke/MethodHandle" ∧ yX7_lies.cls ≠ "java/lang/invoke/VarHandle" ∧ (parseMethodDescriptor yX7_lies.desc).map (fun d => d.parameters.length) = some 2) ∧ 7 ≤ 21 ∧ plainName yX7_lies.cls = true ∧ RX7 = yX7_lies.cls := ⟨(by decide +kernel), (by decide +kernel), ⟨(by decide +kernel), (by decide +kernel), (by decide +kernel)⟩, (by decide +kernel), (by decide +kernel), rfl⟩
theorem mv_X7_lies : mV mX7_lies 2 7 := ⟨fx_X7_lies, (by decide +kernel : Cond.instanceMethod yX7_lies ∈ lw_tbl), (by decide +kernel : Cond.selects yX7_lies.cls yX7_lies yX7_lies ∈ lw_tbl), TX7, 17, rfl⟩
abbrev mX7_liesIn : Mt := (RX7, yX7_liesIn, cX7_liesIn, 3, (some .long), 3)
theorem fx_X7_liesIn : Cond.code yX7_liesIn cX7_liesIn 3 (some .long) ∈ lw_tbl ∧ Cond.initialized yX7_liesIn.cls ∈ lw_tbl ∧ (yX7_liesIn.cls ≠ "java/lang/invoke/MethodHandle" ∧ yX7_liesIn.cls ≠ "java/lang/invoke/VarHandle" ∧ (parseMethodDescriptor yX7_liesIn.desc).map (fun d => d.parameters.length) = some 2) ∧ 3 ≤ 21 ∧ plainName yX7_liesIn.cls = true ∧ RX7 = yX7_liesIn.cls := ⟨(by decide +kernel), (by decide +kernel), ⟨(by decide +kernel), (by decide +kernel), (by decide +kernel)⟩, (by decide +kernel), (by decide +kernel), rfl⟩
theorem mv_X7_liesIn : mV mX7_liesIn 2 7 := ⟨fx_X7_liesIn, (by decide +kernel : Cond.instanceMethod yX7_liesIn ∈ lw_tbl), (by decide +kernel : Cond.selects yX7_liesIn.cls yX7_liesIn yX7_liesIn ∈ lw_tbl), TX7, 17, rfl⟩
abbrev mX7_longests : Mt := (RX7, yX7_longests, cX7_longests, 8, none, 1)
theorem fx_X7_longests : Cond.code yX7_longests cX7_longests 8 none ∈ lw_tbl ∧ Cond.initialized yX7_longests.cls ∈ lw_tbl ∧ (yX7_longests.cls ≠ "java/lang/invoke/MethodHandle" ∧ yX7_longests.cls ≠ "java/lang/invoke/VarHandle" ∧ (parseMethodDescriptor yX7_longests.desc).map (fun d => d.parameters.length) = some 2) ∧ 8 ≤ 21 ∧ plainName yX7_longests.cls = true ∧ RX7 = yX7_longests.cls := ⟨(by decide +kernel), (by decide +kernel), ⟨(by decide +kernel), (by decide +kernel), (by decide +kernel)⟩, (by decide +kernel), (by decide +kernel), rfl⟩
theorem mv_X7_longests : mV mX7_longests 2 7 := ⟨fx_X7_longests, (by decide +kernel : Cond.instanceMethod yX7_longests ∈ lw_tbl), (by decide +kernel : Cond.selects yX7_longests.cls yX7_longests yX7_longests ∈ lw_tbl), TX7, 17, rfl⟩
abbrev mX7_next : Mt := (RX7, yX7_next, cX7_next, 5, (some .int), 1)
theorem fx_X7_next : Cond.code yX7_next cX7_next 5 (some .int) ∈ lw_tbl ∧ Cond.initialized yX7_next.cls ∈ lw_tbl ∧ (yX7_next.cls ≠ "java/lang/invoke/MethodHandle" ∧ yX7_next.cls ≠ "java/lang/invoke/VarHandle" ∧ (parseMethodDescriptor yX7_next.desc).map (fun d => d.parameters.length) = some 3) ∧ 5 ≤ 21 ∧ plainName yX7_next.cls = true ∧ RX7 = yX7_next.cls := ⟨(by decide +kernel), (by decide +kernel), ⟨(by decide +kernel), (by decide +kernel), (by decide +kernel)⟩, (by decide +kernel), (by decide +kernel), rfl⟩
theorem mv_X7_next : mV mX7_next 3 7 := ⟨fx_X7_next, (by decide +kernel : Cond.instanceMethod yX7_next ∈ lw_tbl), (by decide +kernel : Cond.selects yX7_next.cls yX7_next yX7_next ∈ lw_tbl), TX7, 17, rfl⟩
abbrev mX7_common : Mt := (RX7, yX7_common, cX7_common, 9, (some .int), 3)
theorem fx_X7_common : Cond.code yX7_common cX7_common 9 (some .int) ∈ lw_tbl ∧ Cond.initialized yX7_common.cls ∈ lw_tbl ∧ (yX7_common.cls ≠ "java/lang/invoke/MethodHandle" ∧ yX7_common.cls ≠ "java/lang/invoke/VarHandle" ∧ (parseMethodDescriptor yX7_common.desc).map (fun d => d.parameters.length) = some 3) ∧ 9 ≤ 21 ∧ plainName yX7_common.cls = true ∧ RX7 = yX7_common.cls := ⟨(by decide +kernel), (by decide +kernel), ⟨(by decide +kernel), (by decide +kernel), (by decide +kernel)⟩, (by decide +kernel), (by decide +kernel), rfl⟩
theorem mv_X7_common : mV mX7_common 3 7 := ⟨fx_X7_common, (by decide +kernel : Cond.instanceMethod yX7_common ∈ lw_tbl), (by decide +kernel : Cond.selects yX7_common.cls yX7_common yX7_common ∈ lw_tbl), TX7, 17, rfl⟩
abbrev mX7_commons : Mt := (RX7, yX7_commons, cX7_commons, 11, (some .long), 3)
theorem fx_X7_commons : Cond.code yX7_commons cX7_commons 11 (some .long) ∈ lw_tbl ∧ Cond.initialized yX7_commons.cls ∈ lw_tbl ∧ (yX7_commons.cls ≠ "java/lang/invoke/MethodHandle" ∧ yX7_commons.cls ≠ "java/lang/invoke/VarHandle" ∧ (parseMethodDescriptor yX7_commons.desc).map (fun d => d.parameters.length) = some 2) ∧ 11 ≤ 21 ∧ plainName yX7_commons.cls = true ∧ RX7 = yX7_commons.cls := ⟨(by decide +kernel), (by decide +kernel), ⟨(by decide +kernel), (by decide +kernel), (by decide +kernel)⟩, (by decide +kernel), (by decide +kernel), rfl⟩
theorem mv_X7_commons : mV mX7_commons 2 7 := ⟨fx_X7_commons, (by decide +kernel : Cond.instanceMethod yX7_commons ∈ lw_tbl), (by decide +kernel : Cond.selects yX7_commons.cls yX7_commons yX7_commons ∈ lw_tbl), TX7, 17, rfl⟩
abbrev mX7_editsBetween : Mt := (RX7, yX7_editsBetween, cX7_editsBetween, 9, (some .int), 1)
theorem fx_X7_editsBetween : Cond.code yX7_editsBetween cX7_editsBetween 9 (some .int) ∈ lw_tbl ∧ Cond.initialized yX7_editsBetween.cls ∈ lw_tbl ∧ (yX7_editsBetween.cls ≠ "java/lang/invoke/MethodHandle" ∧ yX7_editsBetween.cls ≠ "java/lang/invoke/VarHandle" ∧ (parseMethodDescriptor yX7_editsBetween.desc).map (fun d => d.parameters.length) = some 2) ∧ 9 ≤ 21 ∧ plainName yX7_editsBetween.cls = true ∧ RX7 = yX7_editsBetween.cls := ⟨(by decide +kernel), (by decide +kernel), ⟨(by decide +kernel), (by decide +kernel), (by decide +kernel)⟩, (by decide +kernel), (by decide +kernel), rfl⟩
theorem mv_X7_editsBetween : mV mX7_editsBetween 2 7 := ⟨fx_X7_editsBetween, (by decide +kernel : Cond.instanceMethod yX7_editsBetween ∈ lw_tbl), (by decide +kernel : Cond.selects yX7_editsBetween.cls yX7_editsBetween yX7_editsBetween ∈ lw_tbl), TX7, 17, rfl⟩
abbrev mX7_between : Mt := (RX7, yX7_between, cX7_between, 4, (some .int), 3)
theorem fx_X7_between : Cond.code yX7_between cX7_between 4 (some .int) ∈ lw_tbl ∧ Cond.initialized yX7_between.cls ∈ lw_tbl ∧ (yX7_between.cls ≠ "java/lang/invoke/MethodHandle" ∧ yX7_between.cls ≠ "java/lang/invoke/VarHandle" ∧ (parseMethodDescriptor yX7_between.desc).map (fun d => d.parameters.length) = some 3) ∧ 4 ≤ 21 ∧ plainName yX7_between.cls = true ∧ RX7 = yX7_between.cls := ⟨(by decide +kernel), (by decide +kernel), ⟨(by decide +kernel), (by decide +kernel), (by decide +kernel)⟩, (by decide +kernel), (by decide +kernel), rfl⟩
theorem mv_X7_between : mV mX7_between 3 7 := ⟨fx_X7_between, (by decide +kernel : Cond.instanceMethod yX7_between ∈ lw_tbl), (by decide +kernel : Cond.selects yX7_between.cls yX7_between yX7_between ∈ lw_tbl), TX7, 17, rfl⟩
abbrev mX7_parts : Mt := (RX7, yX7_parts, cX7_parts, 9, (some .long), 2)
theorem fx_X7_parts : Cond.code yX7_parts cX7_parts 9 (some .long) ∈ lw_tbl ∧ Cond.initialized yX7_parts.cls ∈ lw_tbl ∧ (yX7_parts.cls ≠ "java/lang/invoke/MethodHandle" ∧ yX7_parts.cls ≠ "java/lang/invoke/VarHandle" ∧ (parseMethodDescriptor yX7_parts.desc).map (fun d => d.parameters.length) = some 2) ∧ 9 ≤ 21 ∧ plainName yX7_parts.cls = true ∧ RX7 = yX7_parts.cls := ⟨(by decide +kernel), (by decide +kernel), ⟨(by decide +kernel), (by decide +kernel), (by decide +kernel)⟩, (by decide +kernel), (by decide +kernel), rfl⟩
theorem mv_X7_parts : mV mX7_parts 2 7 := ⟨fx_X7_parts, (by decide +kernel : Cond.instanceMethod yX7_parts ∈ lw_tbl), (by decide +kernel : Cond.selects yX7_parts.cls yX7_parts yX7_parts ∈ lw_tbl), TX7, 17, rfl⟩
abbrev mX7_gained : Mt := (RX7, yX7_gained, cX7_gained, 10, (some .long), 1)
theorem fx_X7_gained : Cond.code yX7_gained cX7_gained 10 (some .long) ∈ lw_tbl ∧ Cond.initialized yX7_gained.cls ∈ lw_tbl ∧ (yX7_gained.cls ≠ "java/lang/invoke/MethodHandle" ∧ yX7_gained.cls ≠ "java/lang/invoke/VarHandle" ∧ (parseMethodDescriptor yX7_gained.desc).map (fun d => d.parameters.length) = some 2) ∧ 10 ≤ 21 ∧ plainName yX7_gained.cls = true ∧ RX7 = yX7_gained.cls := ⟨(by decide +kernel), (by decide +kernel), ⟨(by decide +kernel), (by decide +kernel), (by decide +kernel)⟩, (by decide +kernel), (by decide +kernel), rfl⟩
theorem mv_X7_gained : mV mX7_gained 2 7 := ⟨fx_X7_gained, (by decide +kernel : Cond.instanceMethod yX7_gained ∈ lw_tbl), (by decide +kernel : Cond.selects yX7_gained.cls yX7_gained yX7_gained ∈ lw_tbl), TX7, 17, rfl⟩
abbrev mX7_by : Mt := (RX7, yX7_by, cX7_by, 4, (some .long), 3)
theorem fx_X7_by : Cond.code yX7_by cX7_by 4 (some .long) ∈ lw_tbl ∧ Cond.initialized yX7_by.cls ∈ lw_tbl ∧ (yX7_by.cls ≠ "java/lang/invoke/MethodHandle" ∧ yX7_by.cls ≠ "java/lang/invoke/VarHandle" ∧ (parseMethodDescriptor yX7_by.desc).map (fun d => d.parameters.length) = some 3) ∧ 4 ≤ 21 ∧ plainName yX7_by.cls = true ∧ RX7 = yX7_by.cls := ⟨(by decide +kernel), (by decide +kernel), ⟨(by decide +kernel), (by decide +kernel), (by decide +kernel)⟩, (by decide +kernel), (by decide +kernel), rfl⟩
theorem mv_X7_by : mV mX7_by 3 7 := ⟨fx_X7_by, (by decide +kernel : Cond.instanceMethod yX7_by ∈ lw_tbl), (by decide +kernel : Cond.selects yX7_by.cls yX7_by yX7_by ∈ lw_tbl), TX7, 17, rfl⟩
abbrev mX7_trace : Mt := (RX7, yX7_trace, cX7_trace, 2, (some .int), 3)
theorem fx_X7_trace : Cond.code yX7_trace cX7_trace 2 (some .int) ∈ lw_tbl ∧ Cond.initialized yX7_trace.cls ∈ lw_tbl ∧ (yX7_trace.cls ≠ "java/lang/invoke/MethodHandle" ∧ yX7_trace.cls ≠ "java/lang/invoke/VarHandle" ∧ (parseMethodDescriptor yX7_trace.desc).map (fun d => d.parameters.length) = some 1) ∧ 2 ≤ 21 ∧ plainName yX7_trace.cls = true ∧ RX7 = yX7_trace.cls := ⟨(by decide +kernel), (by decide +kernel), ⟨(by decide +kernel), (by decide +kernel), (by decide +kernel)⟩, (by decide +kernel), (by decide +kernel), rfl⟩
theorem mv_X7_trace : mV mX7_trace 1 7 := ⟨fx_X7_trace, (by decide +kernel : Cond.instanceMethod yX7_trace ∈ lw_tbl), (by decide +kernel : Cond.selects yX7_trace.cls yX7_trace yX7_trace ∈ lw_tbl), TX7, 17, rfl⟩
abbrev mX7_noTraces : Mt := (RX7, yX7_noTraces, cX7_noTraces, 2, (some .int), 1)
theorem fx_X7_noTraces : Cond.code yX7_noTraces cX7_noTraces 2 (some .int) ∈ lw_tbl ∧ Cond.initialized yX7_noTraces.cls ∈ lw_tbl ∧ (yX7_noTraces.cls ≠ "java/lang/invoke/MethodHandle" ∧ yX7_noTraces.cls ≠ "java/lang/invoke/VarHandle" ∧ (parseMethodDescriptor yX7_noTraces.desc).map (fun d => d.parameters.length) = some 0) ∧ 2 ≤ 21 ∧ plainName yX7_noTraces.cls = true ∧ RX7 = yX7_noTraces.cls := ⟨(by decide +kernel), (by decide +kernel), ⟨(by decide +kernel), (by decide +kernel), (by decide +kernel)⟩, (by decide +kernel), (by decide +kernel), rfl⟩
theorem mv_X7_noTraces : mV mX7_noTraces 0 7 := ⟨fx_X7_noTraces, (by decide +kernel : Cond.instanceMethod yX7_noTraces ∈ lw_tbl), (by decide +kernel : Cond.selects yX7_noTraces.cls yX7_noTraces yX7_noTraces ∈ lw_tbl), TX7, 17, rfl⟩
abbrev mX7_power : Mt := (RX7, yX7_power, cX7_power, 4, (some .int), 1)
theorem fx_X7_power : Cond.code yX7_power cX7_power 4 (some .int) ∈ lw_tbl ∧ Cond.initialized yX7_power.cls ∈ lw_tbl ∧ (yX7_power.cls ≠ "java/lang/invoke/MethodHandle" ∧ yX7_power.cls ≠ "java/lang/invoke/VarHandle" ∧ (parseMethodDescriptor yX7_power.desc).map (fun d => d.parameters.length) = some 1) ∧ 4 ≤ 21 ∧ plainName yX7_power.cls = true ∧ RX7 = yX7_power.cls := ⟨(by decide +kernel), (by decide +kernel), ⟨(by decide +kernel), (by decide +kernel), (by decide +kernel)⟩, (by decide +kernel), (by decide +kernel), rfl⟩
theorem mv_X7_power : mV mX7_power 1 7 := ⟨fx_X7_power, (by decide +kernel : Cond.instanceMethod yX7_power ∈ lw_tbl), (by decide +kernel : Cond.selects yX7_power.cls yX7_power yX7_power ∈ lw_tbl), TX7, 17, rfl⟩
abbrev mX7_numbers : Mt := (RX7, yX7_numbers, cX7_numbers, 5, none, 1)
theorem fx_X7_numbers : Cond.code yX7_numbers cX7_numbers 5 none ∈ lw_tbl ∧ Cond.initialized yX7_numbers.cls ∈ lw_tbl ∧ (yX7_numbers.cls ≠ "java/lang/invoke/MethodHandle" ∧ yX7_numbers.cls ≠ "java/lang/invoke/VarHandle" ∧ (parseMethodDescriptor yX7_numbers.desc).map (fun d => d.parameters.length) = some 2) ∧ 5 ≤ 21 ∧ plainName yX7_numbers.cls = true ∧ RX7 = yX7_numbers.cls := ⟨(by decide +kernel), (by decide +kernel), ⟨(by decide +kernel), (by decide +kernel), (by decide +kernel)⟩, (by decide +kernel), (by decide +kernel), rfl⟩
theorem mv_X7_numbers : mV mX7_numbers 2 7 := ⟨fx_X7_numbers, (by decide +kernel : Cond.instanceMethod yX7_numbers ∈ lw_tbl), (by decide +kernel : Cond.selects yX7_numbers.cls yX7_numbers yX7_numbers ∈ lw_tbl), TX7, 17, rfl⟩
abbrev mX7_product : Mt := (RX7, yX7_product, cX7_product, 6, (some .long), 2)
theorem fx_X7_product : Cond.code yX7_product cX7_product 6 (some .long) ∈ lw_tbl ∧ Cond.initialized yX7_product.cls ∈ lw_tbl ∧ (yX7_product.cls ≠ "java/lang/invoke/MethodHandle" ∧ yX7_product.cls ≠ "java/lang/invoke/VarHandle" ∧ (parseMethodDescriptor yX7_product.desc).map (fun d => d.parameters.length) = some 0) ∧ 6 ≤ 21 ∧ plainName yX7_product.cls = true ∧ RX7 = yX7_product.cls := ⟨(by decide +kernel), (by decide +kernel), ⟨(by decide +kernel), (by decide +kernel), (by decide +kernel)⟩, (by decide +kernel), (by decide +kernel), rfl⟩
theorem mv_X7_product : mV mX7_product 0 7 := ⟨fx_X7_product, (by decide +kernel : Cond.instanceMethod yX7_product ∈ lw_tbl), (by decide +kernel : Cond.selects yX7_product.cls yX7_product yX7_product ∈ lw_tbl), TX7, 17, rfl⟩
abbrev mX7_sources : Mt := (RX7, yX7_sources, cX7_sources, 4, (some .int), 3)
theorem fx_X7_sources : Cond.code yX7_sources cX7_sources 4 (some .int) ∈ lw_tbl ∧ Cond.initialized yX7_sources.cls ∈ lw_tbl ∧ (yX7_sources.cls ≠ "java/lang/invoke/MethodHandle" ∧ yX7_sources.cls ≠ "java/lang/invoke/VarHandle" ∧ (parseMethodDescriptor yX7_sources.desc).map (fun d => d.parameters.length) = some 1) ∧ 4 ≤ 21 ∧ plainName yX7_sources.cls = true ∧ RX7 = yX7_sources.cls := ⟨(by decide +kernel), (by decide +kernel), ⟨(by decide +kernel), (by decide +kernel), (by decide +kernel)⟩, (by decide +kernel), (by decide +kernel), rfl⟩
theorem mv_X7_sources : mV mX7_sources 1 7 := ⟨fx_X7_sources, (by decide +kernel : Cond.instanceMethod yX7_sources ∈ lw_tbl), (by decide +kernel : Cond.selects yX7_sources.cls yX7_sources yX7_sources ∈ lw_tbl), TX7, 17, rfl⟩
abbrev mX7_best : Mt := (RX7, yX7_best, cX7_best, 8, (some .int), 3)
theorem fx_X7_best : Cond.code yX7_best cX7_best 8 (some .int) ∈ lw_tbl ∧ Cond.initialized yX7_best.cls ∈ lw_tbl ∧ (yX7_best.cls ≠ "java/lang/invoke/MethodHandle" ∧ yX7_best.cls ≠ "java/lang/invoke/VarHandle" ∧ (parseMethodDescriptor yX7_best.desc).map (fun d => d.parameters.length) = some 2) ∧ 8 ≤ 21 ∧ plainName yX7_best.cls = true ∧ RX7 = yX7_best.cls := ⟨(by decide +kernel), (by decide +kernel), ⟨(by decide +kernel), (by decide +kernel), (by decide +kernel)⟩, (by decide +kernel), (by decide +kernel), rfl⟩
theorem mv_X7_best : mV mX7_best 2 7 := ⟨fx_X7_best, (by decide +kernel : Cond.instanceMethod yX7_best ∈ lw_tbl), (by decide +kernel : Cond.selects yX7_best.cls yX7_best yX7_best ∈ lw_tbl), TX7, 17, rfl⟩
abbrev mX7_line : Mt := (RX7, yX7_line, cX7_line, 4, (some .int), 2)
theorem fx_X7_line : Cond.code yX7_line cX7_line 4 (some .int) ∈ lw_tbl ∧ Cond.initialized yX7_line.cls ∈ lw_tbl ∧ (yX7_line.cls ≠ "java/lang/invoke/MethodHandle" ∧ yX7_line.cls ≠ "java/lang/invoke/VarHandle" ∧ (parseMethodDescriptor yX7_line.desc).map (fun d => d.parameters.length) = some 3) ∧ 4 ≤ 21 ∧ plainName yX7_line.cls = true ∧ RX7 = yX7_line.cls := ⟨(by decide +kernel), (by decide +kernel), ⟨(by decide +kernel), (by decide +kernel), (by decide +kernel)⟩, (by decide +kernel), (by decide +kernel), rfl⟩
theorem mv_X7_line : mV mX7_line 3 7 := ⟨fx_X7_line, (by decide +kernel : Cond.instanceMethod yX7_line ∈ lw_tbl), (by decide +kernel : Cond.selects yX7_line.cls yX7_line yX7_line ∈ lw_tbl), TX7, 17, rfl⟩
abbrev mX7_seed : Mt := (RX7, yX7_seed, cX7_seed, 3, (some .int), 1)
theorem fx_X7_seed : Cond.code yX7_seed cX7_seed 3 (some .int) ∈ lw_tbl ∧ Cond.initialized yX7_seed.cls ∈ lw_tbl ∧ (yX7_seed.cls ≠ "java/lang/invoke/MethodHandle" ∧ yX7_seed.cls ≠ "java/lang/invoke/VarHandle" ∧ (parseMethodDescriptor yX7_seed.desc).map (fun d => d.parameters.length) = some 1) ∧ 3 ≤ 21 ∧ plainName yX7_seed.cls = true ∧ RX7 = yX7_seed.cls := ⟨(by decide +kernel), (by decide +kernel), ⟨(by decide +kernel), (by decide +kernel), (by decide +kernel)⟩, (by decide +kernel), (by decide +kernel), rfl⟩
theorem mv_X7_seed : mV mX7_seed 1 7 := ⟨fx_X7_seed, (by decide +kernel : Cond.instanceMethod yX7_seed ∈ lw_tbl), (by decide +kernel : Cond.selects yX7_seed.cls yX7_seed yX7_seed ∈ lw_tbl), TX7, 17, rfl⟩
abbrev mX7_send : Mt := (RX7, yX7_send, cX7_send, 9, (some .int), 3)
theorem fx_X7_send : Cond.code yX7_send cX7_send 9 (some .int) ∈ lw_tbl ∧ Cond.initialized yX7_send.cls ∈ lw_tbl ∧ (yX7_send.cls ≠ "java/lang/invoke/MethodHandle" ∧ yX7_send.cls ≠ "java/lang/invoke/VarHandle" ∧ (parseMethodDescriptor yX7_send.desc).map (fun d => d.parameters.length) = some 2) ∧ 9 ≤ 21 ∧ plainName yX7_send.cls = true ∧ RX7 = yX7_send.cls := ⟨(by decide +kernel), (by decide +kernel), ⟨(by decide +kernel), (by decide +kernel), (by decide +kernel)⟩, (by decide +kernel), (by decide +kernel), rfl⟩
theorem mv_X7_send : mV mX7_send 2 7 := ⟨fx_X7_send, (by decide +kernel : Cond.instanceMethod yX7_send ∈ lw_tbl), (by decide +kernel : Cond.selects yX7_send.cls yX7_send yX7_send ∈ lw_tbl), TX7, 17, rfl⟩
abbrev mX7_adds : Mt := (RX7, yX7_adds, cX7_adds, 3, (some .int), 2)
theorem fx_X7_adds : Cond.code yX7_adds cX7_adds 3 (some .int) ∈ lw_tbl ∧ Cond.initialized yX7_adds.cls ∈ lw_tbl ∧ (yX7_adds.cls ≠ "java/lang/invoke/MethodHandle" ∧ yX7_adds.cls ≠ "java/lang/invoke/VarHandle" ∧ (parseMethodDescriptor yX7_adds.desc).map (fun d => d.parameters.length) = some 2) ∧ 3 ≤ 21 ∧ plainName yX7_adds.cls = true ∧ RX7 = yX7_adds.cls := ⟨(by decide +kernel), (by decide +kernel), ⟨(by decide +kernel), (by decide +kernel), (by decide +kernel)⟩, (by decide +kernel), (by decide +kernel), rfl⟩
theorem mv_X7_adds : mV mX7_adds 2 7 := ⟨fx_X7_adds, (by decide +kernel : Cond.instanceMethod yX7_adds ∈ lw_tbl), (by decide +kernel : Cond.selects yX7_adds.cls yX7_adds yX7_adds ∈ lw_tbl), TX7, 17, rfl⟩
abbrev mX7_count : Mt := (RX7, yX7_count, cX7_count, 4, (some .int), 1)
theorem fx_X7_count : Cond.code yX7_count cX7_count 4 (some .int) ∈ lw_tbl ∧ Cond.initialized yX7_count.cls ∈ lw_tbl ∧ (yX7_count.cls ≠ "java/lang/invoke/MethodHandle" ∧ yX7_count.cls ≠ "java/lang/invoke/VarHandle" ∧ (parseMethodDescriptor yX7_count.desc).map (fun d => d.parameters.length) = some 1) ∧ 4 ≤ 21 ∧ plainName yX7_count.cls = true ∧ RX7 = yX7_count.cls := ⟨(by decide +kernel), (by decide +kernel), ⟨(by decide +kernel), (by decide +kernel), (by decide +kernel)⟩, (by decide +kernel), (by decide +kernel), rfl⟩
theorem mv_X7_count : mV mX7_count 1 7 := ⟨fx_X7_count, (by decide +kernel : Cond.instanceMethod yX7_count ∈ lw_tbl), (by decide +kernel : Cond.selects yX7_count.cls yX7_count yX7_count ∈ lw_tbl), TX7, 17, rfl⟩
abbrev mX0_init : Mt := (RX0, yX0_init, cX0_init, 1, none, 2)
theorem fx_X0_init : Cond.code yX0_init cX0_init 1 none ∈ lw_tbl ∧ Cond.initialized yX0_init.cls ∈ lw_tbl ∧ (yX0_init.cls ≠ "java/lang/invoke/MethodHandle" ∧ yX0_init.cls ≠ "java/lang/invoke/VarHandle" ∧ (parseMethodDescriptor yX0_init.desc).map (fun d => d.parameters.length) = some 0) ∧ 1 ≤ 21 ∧ plainName yX0_init.cls = true ∧ RX0 = yX0_init.cls := ⟨(by decide +kernel), (by decide +kernel), ⟨(by decide +kernel), (by decide +kernel), (by decide +kernel)⟩, (by decide +kernel), (by decide +kernel), rfl⟩
theorem mi_X0_init : mI mX0_init 0 := ⟨fx_X0_init, (by decide +kernel), rfl, rfl⟩
abbrev mX0_stands : Mt := (RX0, yX0_stands, cX0_stands, 1, (some .boolean), 1)
theorem fx_X0_stands : Cond.code yX0_stands cX0_stands 1 (some .boolean) ∈ lw_tbl ∧ Cond.initialized yX0_stands.cls ∈ lw_tbl ∧ (yX0_stands.cls ≠ "java/lang/invoke/MethodHandle" ∧ yX0_stands.cls ≠ "java/lang/invoke/VarHandle" ∧ (parseMethodDescriptor yX0_stands.desc).map (fun d => d.parameters.length) = some 0) ∧ 1 ≤ 21 ∧ plainName yX0_stands.cls = true ∧ RX0 = yX0_stands.cls := ⟨(by decide +kernel), (by decide +kernel), ⟨(by decide +kernel), (by decide +kernel), (by decide +kernel)⟩, (by decide +kernel), (by decide +kernel), rfl⟩
theorem mv_X0_stands : mV mX0_stands 0 0 := ⟨fx_X0_stands, (by decide +kernel : Cond.instanceMethod yX0_stands ∈ lw_tbl), (by decide +kernel : Cond.selects yX0_stands.cls yX0_stands yX0_stands ∈ lw_tbl), TX0, 10, rfl⟩
abbrev mX0_forget : Mt := (RX0, yX0_forget, cX0_forget, 1, none, 1)
theorem fx_X0_forget : Cond.code yX0_forget cX0_forget 1 none ∈ lw_tbl ∧ Cond.initialized yX0_forget.cls ∈ lw_tbl ∧ (yX0_forget.cls ≠ "java/lang/invoke/MethodHandle" ∧ yX0_forget.cls ≠ "java/lang/invoke/VarHandle" ∧ (parseMethodDescriptor yX0_forget.desc).map (fun d => d.parameters.length) = some 0) ∧ 1 ≤ 21 ∧ plainName yX0_forget.cls = true ∧ RX0 = yX0_forget.cls := ⟨(by decide +kernel), (by decide +kernel), ⟨(by decide +kernel), (by decide +kernel), (by decide +kernel)⟩, (by decide +kernel), (by decide +kernel), rfl⟩
theorem mv_X0_forget : mV mX0_forget 0 0 := ⟨fx_X0_forget, (by decide +kernel : Cond.instanceMethod yX0_forget ∈ lw_tbl), (by decide +kernel : Cond.selects yX0_forget.cls yX0_forget yX0_forget ∈ lw_tbl), TX0, 10, rfl⟩
abbrev mX0_tell : Mt := (RX0, yX0_tell, cX0_tell, 6, none, 6)
theorem fx_X0_tell : Cond.code yX0_tell cX0_tell 6 none ∈ lw_tbl ∧ Cond.initialized yX0_tell.cls ∈ lw_tbl ∧ (yX0_tell.cls ≠ "java/lang/invoke/MethodHandle" ∧ yX0_tell.cls ≠ "java/lang/invoke/VarHandle" ∧ (parseMethodDescriptor yX0_tell.desc).map (fun d => d.parameters.length) = some 5) ∧ 6 ≤ 21 ∧ plainName yX0_tell.cls = true ∧ RX0 = yX0_tell.cls := ⟨(by decide +kernel), (by decide +kernel), ⟨(by decide +kernel), (by decide +kernel), (by decide +kernel)⟩, (by decide +kernel), (by decide +kernel), rfl⟩
theorem mv_X0_tell : mV mX0_tell 5 0 := ⟨fx_X0_tell, (by decide +kernel : Cond.instanceMethod yX0_tell ∈ lw_tbl), (by decide +kernel : Cond.selects yX0_tell.cls yX0_tell yX0_tell ∈ lw_tbl), TX0, 10, rfl⟩
abbrev mX0_makeRoom : Mt := (RX0, yX0_makeRoom, cX0_makeRoom, 2, none, 2)
theorem fx_X0_makeRoom : Cond.code yX0_makeRoom cX0_makeRoom 2 none ∈ lw_tbl ∧ Cond.initialized yX0_makeRoom.cls ∈ lw_tbl ∧ (yX0_makeRoom.cls ≠ "java/lang/invoke/MethodHandle" ∧ yX0_makeRoom.cls ≠ "java/lang/invoke/VarHandle" ∧ (parseMethodDescriptor yX0_makeRoom.desc).map (fun d => d.parameters.length) = some 0) ∧ 2 ≤ 21 ∧ plainName yX0_makeRoom.cls = true ∧ RX0 = yX0_makeRoom.cls := ⟨(by decide +kernel), (by decide +kernel), ⟨(by decide +kernel), (by decide +kernel), (by decide +kernel)⟩, (by decide +kernel), (by decide +kernel), rfl⟩
theorem mv_X0_makeRoom : mV mX0_makeRoom 0 0 := ⟨fx_X0_makeRoom, (by decide +kernel : Cond.instanceMethod yX0_makeRoom ∈ lw_tbl), (by decide +kernel : Cond.selects yX0_makeRoom.cls yX0_makeRoom yX0_makeRoom ∈ lw_tbl), TX0, 10, rfl⟩
abbrev mX0_countWays : Mt := (RX0, yX0_countWays, cX0_countWays, 3, none, 5)
theorem fx_X0_countWays : Cond.code yX0_countWays cX0_countWays 3 none ∈ lw_tbl ∧ Cond.initialized yX0_countWays.cls ∈ lw_tbl ∧ (yX0_countWays.cls ≠ "java/lang/invoke/MethodHandle" ∧ yX0_countWays.cls ≠ "java/lang/invoke/VarHandle" ∧ (parseMethodDescriptor yX0_countWays.desc).map (fun d => d.parameters.length) = some 0) ∧ 3 ≤ 21 ∧ plainName yX0_countWays.cls = true ∧ RX0 = yX0_countWays.cls := ⟨(by decide +kernel), (by decide +kernel), ⟨(by decide +kernel), (by decide +kernel), (by decide +kernel)⟩, (by decide +kernel), (by decide +kernel), rfl⟩
theorem mv_X0_countWays : mV mX0_countWays 0 0 := ⟨fx_X0_countWays, (by decide +kernel : Cond.instanceMethod yX0_countWays ∈ lw_tbl), (by decide +kernel : Cond.selects yX0_countWays.cls yX0_countWays yX0_countWays ∈ lw_tbl), TX0, 10, rfl⟩
abbrev mX0_countWaysBehind : Mt := (RX0, yX0_countWaysBehind, cX0_countWaysBehind, 5, none, 4)
theorem fx_X0_countWaysBehind : Cond.code yX0_countWaysBehind cX0_countWaysBehind 5 none ∈ lw_tbl ∧ Cond.initialized yX0_countWaysBehind.cls ∈ lw_tbl ∧ (yX0_countWaysBehind.cls ≠ "java/lang/invoke/MethodHandle" ∧ yX0_countWaysBehind.cls ≠ "java/lang/invoke/VarHandle" ∧ (parseMethodDescriptor yX0_countWaysBehind.desc).map (fun d => d.parameters.length) = some 2) ∧ 5 ≤ 21 ∧ plainName yX0_countWaysBehind.cls = true ∧ RX0 = yX0_countWaysBehind.cls := ⟨(by decide +kernel), (by decide +kernel), ⟨(by decide +kernel), (by decide +kernel), (by decide +kernel)⟩, (by decide +kernel), (by decide +kernel), rfl⟩
theorem mv_X0_countWaysBehind : mV mX0_countWaysBehind 2 0 := ⟨fx_X0_countWaysBehind, (by decide +kernel : Cond.instanceMethod yX0_countWaysBehind ∈ lw_tbl), (by decide +kernel : Cond.selects yX0_countWaysBehind.cls yX0_countWaysBehind yX0_countWaysBehind ∈ lw_tbl), TX0, 10, rfl⟩
abbrev mX0_waysByNext : Mt := (RX0, yX0_waysByNext, cX0_waysByNext, 7, (some .int), 3)
theorem fx_X0_waysByNext : Cond.code yX0_waysByNext cX0_waysByNext 7 (some .int) ∈ lw_tbl ∧ Cond.initialized yX0_waysByNext.cls ∈ lw_tbl ∧ (yX0_waysByNext.cls ≠ "java/lang/invoke/MethodHandle" ∧ yX0_waysByNext.cls ≠ "java/lang/invoke/VarHandle" ∧ (parseMethodDescriptor yX0_waysByNext.desc).map (fun d => d.parameters.length) = some 4) ∧ 7 ≤ 21 ∧ plainName yX0_waysByNext.cls = true ∧ RX0 = yX0_waysByNext.cls := ⟨(by decide +kernel), (by decide +kernel), ⟨(by decide +kernel), (by decide +kernel), (by decide +kernel)⟩, (by decide +kernel), (by decide +kernel), rfl⟩
theorem mv_X0_waysByNext : mV mX0_waysByNext 4 0 := ⟨fx_X0_waysByNext, (by decide +kernel : Cond.instanceMethod yX0_waysByNext ∈ lw_tbl), (by decide +kernel : Cond.selects yX0_waysByNext.cls yX0_waysByNext yX0_waysByNext ∈ lw_tbl), TX0, 10, rfl⟩
abbrev mX0_waysToEnd : Mt := (RX0, yX0_waysToEnd, cX0_waysToEnd, 5, (some .int), 2)
theorem fx_X0_waysToEnd : Cond.code yX0_waysToEnd cX0_waysToEnd 5 (some .int) ∈ lw_tbl ∧ Cond.initialized yX0_waysToEnd.cls ∈ lw_tbl ∧ (yX0_waysToEnd.cls ≠ "java/lang/invoke/MethodHandle" ∧ yX0_waysToEnd.cls ≠ "java/lang/invoke/VarHandle" ∧ (parseMethodDescriptor yX0_waysToEnd.desc).map (fun d => d.parameters.length) = some 4) ∧ 5 ≤ 21 ∧ plainName yX0_waysToEnd.cls = true ∧ RX0 = yX0_waysToEnd.cls := ⟨(by decide +kernel), (by decide +kernel), ⟨(by decide +kernel), (by decide +kernel), (by decide +kernel)⟩, (by decide +kernel), (by decide +kernel), rfl⟩
theorem mv_X0_waysToEnd : mV mX0_waysToEnd 4 0 := ⟨fx_X0_waysToEnd, (by decide +kernel : Cond.instanceMethod yX0_waysToEnd ∈ lw_tbl), (by decide +kernel : Cond.selects yX0_waysToEnd.cls yX0_waysToEnd yX0_waysToEnd ∈ lw_tbl), TX0, 10, rfl⟩
abbrev mX0_cell : Mt := (RX0, yX0_cell, cX0_cell, 5, (some .int), 1)
theorem fx_X0_cell : Cond.code yX0_cell cX0_cell 5 (some .int) ∈ lw_tbl ∧ Cond.initialized yX0_cell.cls ∈ lw_tbl ∧ (yX0_cell.cls ≠ "java/lang/invoke/MethodHandle" ∧ yX0_cell.cls ≠ "java/lang/invoke/VarHandle" ∧ (parseMethodDescriptor yX0_cell.desc).map (fun d => d.parameters.length) = some 4) ∧ 5 ≤ 21 ∧ plainName yX0_cell.cls = true ∧ RX0 = yX0_cell.cls := ⟨(by decide +kernel), (by decide +kernel), ⟨(by decide +kernel), (by decide +kernel), (by decide +kernel)⟩, (by decide +kernel), (by decide +kernel), rfl⟩
theorem mv_X0_cell : mV mX0_cell 4 0 := ⟨fx_X0_cell, (by decide +kernel : Cond.instanceMethod yX0_cell ∈ lw_tbl), (by decide +kernel : Cond.selects yX0_cell.cls yX0_cell yX0_cell ∈ lw_tbl), TX0, 10, rfl⟩
abbrev mX0_sumWith : Mt := (RX0, yX0_sumWith, cX0_sumWith, 5, (some .int), 1)
theorem fx_X0_sumWith : Cond.code yX0_sumWith cX0_sumWith 5 (some .int) ∈ lw_tbl ∧ Cond.initialized yX0_sumWith.cls ∈ lw_tbl ∧ (yX0_sumWith.cls ≠ "java/lang/invoke/MethodHandle" ∧ yX0_sumWith.cls ≠ "java/lang/invoke/VarHandle" ∧ (parseMethodDescriptor yX0_sumWith.desc).map (fun d => d.parameters.length) = some 4) ∧ 5 ≤ 21 ∧ plainName yX0_sumWith.cls = true ∧ RX0 = yX0_sumWith.cls := ⟨(by decide +kernel), (by decide +kernel), ⟨(by decide +kernel), (by decide +kernel), (by decide +kernel)⟩, (by decide +kernel), (by decide +kernel), rfl⟩
theorem mv_X0_sumWith : mV mX0_sumWith 4 0 := ⟨fx_X0_sumWith, (by decide +kernel : Cond.instanceMethod yX0_sumWith ∈ lw_tbl), (by decide +kernel : Cond.selects yX0_sumWith.cls yX0_sumWith yX0_sumWith ∈ lw_tbl), TX0, 10, rfl⟩
abbrev mX0_sumOf : Mt := (RX0, yX0_sumOf, cX0_sumOf, 6, (some .int), 2)
theorem fx_X0_sumOf : Cond.code yX0_sumOf cX0_sumOf 6 (some .int) ∈ lw_tbl ∧ Cond.initialized yX0_sumOf.cls ∈ lw_tbl ∧ (yX0_sumOf.cls ≠ "java/lang/invoke/MethodHandle" ∧ yX0_sumOf.cls ≠ "java/lang/invoke/VarHandle" ∧ (parseMethodDescriptor yX0_sumOf.desc).map (fun d => d.parameters.length) = some 1) ∧ 6 ≤ 21 ∧ plainName yX0_sumOf.cls = true ∧ RX0 = yX0_sumOf.cls := ⟨(by decide +kernel), (by decide +kernel), ⟨(by decide +kernel), (by decide +kernel), (by decide +kernel)⟩, (by decide +kernel), (by decide +kernel), rfl⟩
theorem mv_X0_sumOf : mV mX0_sumOf 1 0 := ⟨fx_X0_sumOf, (by decide +kernel : Cond.instanceMethod yX0_sumOf ∈ lw_tbl), (by decide +kernel : Cond.selects yX0_sumOf.cls yX0_sumOf yX0_sumOf ∈ lw_tbl), TX0, 10, rfl⟩
abbrev mX0_holds : Mt := (RX0, yX0_holds, cX0_holds, 4, (some .boolean), 3)
theorem fx_X0_holds : Cond.code yX0_holds cX0_holds 4 (some .boolean) ∈ lw_tbl ∧ Cond.initialized yX0_holds.cls ∈ lw_tbl ∧ (yX0_holds.cls ≠ "java/lang/invoke/MethodHandle" ∧ yX0_holds.cls ≠ "java/lang/invoke/VarHandle" ∧ (parseMethodDescriptor yX0_holds.desc).map (fun d => d.parameters.length) = some 1) ∧ 4 ≤ 21 ∧ plainName yX0_holds.cls = true ∧ RX0 = yX0_holds.cls := ⟨(by decide +kernel), (by decide +kernel), ⟨(by decide +kernel), (by decide +kernel), (by decide +kernel)⟩, (by decide +kernel), (by decide +kernel), rfl⟩
theorem mv_X0_holds : mV mX0_holds 1 0 := ⟨fx_X0_holds, (by decide +kernel : Cond.instanceMethod yX0_holds ∈ lw_tbl), (by decide +kernel : Cond.selects yX0_holds.cls yX0_holds yX0_holds ∈ lw_tbl), TX0, 10, rfl⟩
abbrev mX0_write : Mt := (RX0, yX0_write, cX0_write, 10, none, 4)
theorem fx_X0_write : Cond.code yX0_write cX0_write 10 none ∈ lw_tbl ∧ Cond.initialized yX0_write.cls ∈ lw_tbl ∧ (yX0_write.cls ≠ "java/lang/invoke/MethodHandle" ∧ yX0_write.cls ≠ "java/lang/invoke/VarHandle" ∧ (parseMethodDescriptor yX0_write.desc).map (fun d => d.parameters.length) = some 2) ∧ 10 ≤ 21 ∧ plainName yX0_write.cls = true ∧ RX0 = yX0_write.cls := ⟨(by decide +kernel), (by decide +kernel), ⟨(by decide +kernel), (by decide +kernel), (by decide +kernel)⟩, (by decide +kernel), (by decide +kernel), rfl⟩
theorem mv_X0_write : mV mX0_write 2 0 := ⟨fx_X0_write, (by decide +kernel : Cond.instanceMethod yX0_write ∈ lw_tbl), (by decide +kernel : Cond.selects yX0_write.cls yX0_write yX0_write ∈ lw_tbl), TX0, 10, rfl⟩
abbrev mX0_neighbours : Mt := (RX0, yX0_neighbours, cX0_neighbours, 2, (some .int), 6)
theorem fx_X0_neighbours : Cond.code yX0_neighbours cX0_neighbours 2 (some .int) ∈ lw_tbl ∧ Cond.initialized yX0_neighbours.cls ∈ lw_tbl ∧ (yX0_neighbours.cls ≠ "java/lang/invoke/MethodHandle" ∧ yX0_neighbours.cls ≠ "java/lang/invoke/VarHandle" ∧ (parseMethodDescriptor yX0_neighbours.desc).map (fun d => d.parameters.length) = some 1) ∧ 2 ≤ 21 ∧ plainName yX0_neighbours.cls = true ∧ RX0 = yX0_neighbours.cls := ⟨(by decide +kernel), (by decide +kernel), ⟨(by decide +kernel), (by decide +kernel), (by decide +kernel)⟩, (by decide +kernel), (by decide +kernel), rfl⟩
theorem mv_X0_neighbours : mV mX0_neighbours 1 0 := ⟨fx_X0_neighbours, (by decide +kernel : Cond.instanceMethod yX0_neighbours ∈ lw_tbl), (by decide +kernel : Cond.selects yX0_neighbours.cls yX0_neighbours yX0_neighbours ∈ lw_tbl), TX0, 10, rfl⟩
abbrev mX0_neighboursByTurn : Mt := (RX0, yX0_neighboursByTurn, cX0_neighboursByTurn, 5, (some .int), 5)
theorem fx_X0_neighboursByTurn : Cond.code yX0_neighboursByTurn cX0_neighboursByTurn 5 (some .int) ∈ lw_tbl ∧ Cond.initialized yX0_neighboursByTurn.cls ∈ lw_tbl ∧ (yX0_neighboursByTurn.cls ≠ "java/lang/invoke/MethodHandle" ∧ yX0_neighboursByTurn.cls ≠ "java/lang/invoke/VarHandle" ∧ (parseMethodDescriptor yX0_neighboursByTurn.desc).map (fun d => d.parameters.length) = some 1) ∧ 5 ≤ 21 ∧ plainName yX0_neighboursByTurn.cls = true ∧ RX0 = yX0_neighboursByTurn.cls := ⟨(by decide +kernel), (by decide +kernel), ⟨(by decide +kernel), (by decide +kernel), (by decide +kernel)⟩, (by decide +kernel), (by decide +kernel), rfl⟩
theorem mv_X0_neighboursByTurn : mV mX0_neighboursByTurn 1 0 := ⟨fx_X0_neighboursByTurn, (by decide +kernel : Cond.instanceMethod yX0_neighboursByTurn ∈ lw_tbl), (by decide +kernel : Cond.selects yX0_neighboursByTurn.cls yX0_neighboursByTurn yX0_neighboursByTurn ∈ lw_tbl), TX0, 10, rfl⟩
abbrev mX0_neighboursByGain : Mt := (RX0, yX0_neighboursByGain, cX0_neighboursByGain, 4, (some .int), 5)
theorem fx_X0_neighboursByGain : Cond.code yX0_neighboursByGain cX0_neighboursByGain 4 (some .int) ∈ lw_tbl ∧ Cond.initialized yX0_neighboursByGain.cls ∈ lw_tbl ∧ (yX0_neighboursByGain.cls ≠ "java/lang/invoke/MethodHandle" ∧ yX0_neighboursByGain.cls ≠ "java/lang/invoke/VarHandle" ∧ (parseMethodDescriptor yX0_neighboursByGain.desc).map (fun d => d.parameters.length) = some 1) ∧ 4 ≤ 21 ∧ plainName yX0_neighboursByGain.cls = true ∧ RX0 = yX0_neighboursByGain.cls := ⟨(by decide +kernel), (by decide +kernel), ⟨(by decide +kernel), (by decide +kernel), (by decide +kernel)⟩, (by decide +kernel), (by decide +kernel), rfl⟩
theorem mv_X0_neighboursByGain : mV mX0_neighboursByGain 1 0 := ⟨fx_X0_neighboursByGain, (by decide +kernel : Cond.instanceMethod yX0_neighboursByGain ∈ lw_tbl), (by decide +kernel : Cond.selects yX0_neighboursByGain.cls yX0_neighboursByGain yX0_neighboursByGain ∈ lw_tbl), TX0, 10, rfl⟩
abbrev mX0_neighboursByLoss : Mt := (RX0, yX0_neighboursByLoss, cX0_neighboursByLoss, 5, (some .int), 5)
theorem fx_X0_neighboursByLoss : Cond.code yX0_neighboursByLoss cX0_neighboursByLoss 5 (some .int) ∈ lw_tbl ∧ Cond.initialized yX0_neighboursByLoss.cls ∈ lw_tbl ∧ (yX0_neighboursByLoss.cls ≠ "java/lang/invoke/MethodHandle" ∧ yX0_neighboursByLoss.cls ≠ "java/lang/invoke/VarHandle" ∧ (parseMethodDescriptor yX0_neighboursByLoss.desc).map (fun d => d.parameters.length) = some 1) ∧ 5 ≤ 21 ∧ plainName yX0_neighboursByLoss.cls = true ∧ RX0 = yX0_neighboursByLoss.cls := ⟨(by decide +kernel), (by decide +kernel), ⟨(by decide +kernel), (by decide +kernel), (by decide +kernel)⟩, (by decide +kernel), (by decide +kernel), rfl⟩
theorem mv_X0_neighboursByLoss : mV mX0_neighboursByLoss 1 0 := ⟨fx_X0_neighboursByLoss, (by decide +kernel : Cond.instanceMethod yX0_neighboursByLoss ∈ lw_tbl), (by decide +kernel : Cond.selects yX0_neighboursByLoss.cls yX0_neighboursByLoss yX0_neighboursByLoss ∈ lw_tbl), TX0, 10, rfl⟩
abbrev mX0_take : Mt := (RX0, yX0_take, cX0_take, 1, (some .int), 4)
theorem fx_X0_take : Cond.code yX0_take cX0_take 1 (some .int) ∈ lw_tbl ∧ Cond.initialized yX0_take.cls ∈ lw_tbl ∧ (yX0_take.cls ≠ "java/lang/invoke/MethodHandle" ∧ yX0_take.cls ≠ "java/lang/invoke/VarHandle" ∧ (parseMethodDescriptor yX0_take.desc).map (fun d => d.parameters.length) = some 0) ∧ 1 ≤ 21 ∧ plainName yX0_take.cls = true ∧ RX0 = yX0_take.cls := ⟨(by decide +kernel), (by decide +kernel), ⟨(by decide +kernel), (by decide +kernel), (by decide +kernel)⟩, (by decide +kernel), (by decide +kernel), rfl⟩
theorem mv_X0_take : mV mX0_take 0 0 := ⟨fx_X0_take, (by decide +kernel : Cond.instanceMethod yX0_take ∈ lw_tbl), (by decide +kernel : Cond.selects yX0_take.cls yX0_take yX0_take ∈ lw_tbl), TX0, 10, rfl⟩
abbrev mX1_init : Mt := (RX1, yX1_init, cX1_init, 1, none, 2)
theorem fx_X1_init : Cond.code yX1_init cX1_init 1 none ∈ lw_tbl ∧ Cond.initialized yX1_init.cls ∈ lw_tbl ∧ (yX1_init.cls ≠ "java/lang/invoke/MethodHandle" ∧ yX1_init.cls ≠ "java/lang/invoke/VarHandle" ∧ (parseMethodDescriptor yX1_init.desc).map (fun d => d.parameters.length) = some 0) ∧ 1 ≤ 21 ∧ plainName yX1_init.cls = true ∧ RX1 = yX1_init.cls := ⟨(by decide +kernel), (by decide +kernel), ⟨(by decide +kernel), (by decide +kernel), (by decide +kernel)⟩, (by decide +kernel), (by decide +kernel), rfl⟩
theorem mi_X1_init : mI mX1_init 0 := ⟨fx_X1_init, (by decide +kernel), rfl, rfl⟩
abbrev mX1_tell : Mt := (RX1, yX1_tell, cX1_tell, 4, none, 1)
theorem fx_X1_tell : Cond.code yX1_tell cX1_tell 4 none ∈ lw_tbl ∧ Cond.initialized yX1_tell.cls ∈ lw_tbl ∧ (yX1_tell.cls ≠ "java/lang/invoke/MethodHandle" ∧ yX1_tell.cls ≠ "java/lang/invoke/VarHandle" ∧ (parseMethodDescriptor yX1_tell.desc).map (fun d => d.parameters.length) = some 3) ∧ 4 ≤ 21 ∧ plainName yX1_tell.cls = true ∧ RX1 = yX1_tell.cls := ⟨(by decide +kernel), (by decide +kernel), ⟨(by decide +kernel), (by decide +kernel), (by decide +kernel)⟩, (by decide +kernel), (by decide +kernel), rfl⟩
theorem mv_X1_tell : mV mX1_tell 3 1 := ⟨fx_X1_tell, (by decide +kernel : Cond.instanceMethod yX1_tell ∈ lw_tbl), (by decide +kernel : Cond.selects yX1_tell.cls yX1_tell yX1_tell ∈ lw_tbl), TX1, 5, rfl⟩
abbrev mX1_carry : Mt := (RX1, yX1_carry, cX1_carry, 6, (some .boolean), 6)
theorem fx_X1_carry : Cond.code yX1_carry cX1_carry 6 (some .boolean) ∈ lw_tbl ∧ Cond.initialized yX1_carry.cls ∈ lw_tbl ∧ (yX1_carry.cls ≠ "java/lang/invoke/MethodHandle" ∧ yX1_carry.cls ≠ "java/lang/invoke/VarHandle" ∧ (parseMethodDescriptor yX1_carry.desc).map (fun d => d.parameters.length) = some 2) ∧ 6 ≤ 21 ∧ plainName yX1_carry.cls = true ∧ RX1 = yX1_carry.cls := ⟨(by decide +kernel), (by decide +kernel), ⟨(by decide +kernel), (by decide +kernel), (by decide +kernel)⟩, (by decide +kernel), (by decide +kernel), rfl⟩
theorem mv_X1_carry : mV mX1_carry 2 1 := ⟨fx_X1_carry, (by decide +kernel : Cond.instanceMethod yX1_carry ∈ lw_tbl), (by decide +kernel : Cond.selects yX1_carry.cls yX1_carry yX1_carry ∈ lw_tbl), TX1, 5, rfl⟩
abbrev mX1_carryLetter : Mt := (RX1, yX1_carryLetter, cX1_carryLetter, 4, (some .boolean), 5)
theorem fx_X1_carryLetter : Cond.code yX1_carryLetter cX1_carryLetter 4 (some .boolean) ∈ lw_tbl ∧ Cond.initialized yX1_carryLetter.cls ∈ lw_tbl ∧ (yX1_carryLetter.cls ≠ "java/lang/invoke/MethodHandle" ∧ yX1_carryLetter.cls ≠ "java/lang/invoke/VarHandle" ∧ (parseMethodDescriptor yX1_carryLetter.desc).map (fun d => d.parameters.length) = some 3) ∧ 4 ≤ 21 ∧ plainName yX1_carryLetter.cls = true ∧ RX1 = yX1_carryLetter.cls := ⟨(by decide +kernel), (by decide +kernel), ⟨(by decide +kernel), (by decide +kernel), (by decide +kernel)⟩, (by decide +kernel), (by decide +kernel), rfl⟩
theorem mv_X1_carryLetter : mV mX1_carryLetter 3 1 := ⟨fx_X1_carryLetter, (by decide +kernel : Cond.instanceMethod yX1_carryLetter ∈ lw_tbl), (by decide +kernel : Cond.selects yX1_carryLetter.cls yX1_carryLetter yX1_carryLetter ∈ lw_tbl), TX1, 5, rfl⟩
abbrev mX1_takeUp : Mt := (RX1, yX1_takeUp, cX1_takeUp, 2, (some .boolean), 4)
theorem fx_X1_takeUp : Cond.code yX1_takeUp cX1_takeUp 2 (some .boolean) ∈ lw_tbl ∧ Cond.initialized yX1_takeUp.cls ∈ lw_tbl ∧ (yX1_takeUp.cls ≠ "java/lang/invoke/MethodHandle" ∧ yX1_takeUp.cls ≠ "java/lang/invoke/VarHandle" ∧ (parseMethodDescriptor yX1_takeUp.desc).map (fun d => d.parameters.length) = some 1) ∧ 2 ≤ 21 ∧ plainName yX1_takeUp.cls = true ∧ RX1 = yX1_takeUp.cls := ⟨(by decide +kernel), (by decide +kernel), ⟨(by decide +kernel), (by decide +kernel), (by decide +kernel)⟩, (by decide +kernel), (by decide +kernel), rfl⟩
theorem mv_X1_takeUp : mV mX1_takeUp 1 1 := ⟨fx_X1_takeUp, (by decide +kernel : Cond.instanceMethod yX1_takeUp ∈ lw_tbl), (by decide +kernel : Cond.selects yX1_takeUp.cls yX1_takeUp yX1_takeUp ∈ lw_tbl), TX1, 5, rfl⟩
abbrev mX2_init : Mt := (RX2, yX2_init, cX2_init, 1, none, 2)
theorem fx_X2_init : Cond.code yX2_init cX2_init 1 none ∈ lw_tbl ∧ Cond.initialized yX2_init.cls ∈ lw_tbl ∧ (yX2_init.cls ≠ "java/lang/invoke/MethodHandle" ∧ yX2_init.cls ≠ "java/lang/invoke/VarHandle" ∧ (parseMethodDescriptor yX2_init.desc).map (fun d => d.parameters.length) = some 0) ∧ 1 ≤ 21 ∧ plainName yX2_init.cls = true ∧ RX2 = yX2_init.cls := ⟨(by decide +kernel), (by decide +kernel), ⟨(by decide +kernel), (by decide +kernel), (by decide +kernel)⟩, (by decide +kernel), (by decide +kernel), rfl⟩
theorem mi_X2_init : mI mX2_init 0 := ⟨fx_X2_init, (by decide +kernel), rfl, rfl⟩
abbrev mX2_cell : Mt := (RX2, yX2_cell, cX2_cell, 2, (some .int), 1)
theorem fx_X2_cell : Cond.code yX2_cell cX2_cell 2 (some .int) ∈ lw_tbl ∧ Cond.initialized yX2_cell.cls ∈ lw_tbl ∧ (yX2_cell.cls ≠ "java/lang/invoke/MethodHandle" ∧ yX2_cell.cls ≠ "java/lang/invoke/VarHandle" ∧ (parseMethodDescriptor yX2_cell.desc).map (fun d => d.parameters.length) = some 2) ∧ 2 ≤ 21 ∧ plainName yX2_cell.cls = true ∧ RX2 = yX2_cell.cls := ⟨(by decide +kernel), (by decide +kernel), ⟨(by decide +kernel), (by decide +kernel), (by decide +kernel)⟩, (by decide +kernel), (by decide +kernel), rfl⟩
theorem ms_X2_cell : mS mX2_cell 2 := ⟨fx_X2_cell, (by decide +kernel)⟩
abbrev mX2_longest : Mt := (RX2, yX2_longest, cX2_longest, 5, (some .int), 3)
theorem fx_X2_longest : Cond.code yX2_longest cX2_longest 5 (some .int) ∈ lw_tbl ∧ Cond.initialized yX2_longest.cls ∈ lw_tbl ∧ (yX2_longest.cls ≠ "java/lang/invoke/MethodHandle" ∧ yX2_longest.cls ≠ "java/lang/invoke/VarHandle" ∧ (parseMethodDescriptor yX2_longest.desc).map (fun d => d.parameters.length) = some 2) ∧ 5 ≤ 21 ∧ plainName yX2_longest.cls = true ∧ RX2 = yX2_longest.cls := ⟨(by decide +kernel), (by decide +kernel), ⟨(by decide +kernel), (by decide +kernel), (by decide +kernel)⟩, (by decide +kernel), (by decide +kernel), rfl⟩
theorem mv_X2_longest : mV mX2_longest 2 2 := ⟨fx_X2_longest, (by decide +kernel : Cond.instanceMethod yX2_longest ∈ lw_tbl), (by decide +kernel : Cond.selects yX2_longest.cls yX2_longest yX2_longest ∈ lw_tbl), TX2, 3, rfl⟩
abbrev mX2_longestFrom : Mt := (RX2, yX2_longestFrom, cX2_longestFrom, 5, (some .int), 2)
theorem fx_X2_longestFrom : Cond.code yX2_longestFrom cX2_longestFrom 5 (some .int) ∈ lw_tbl ∧ Cond.initialized yX2_longestFrom.cls ∈ lw_tbl ∧ (yX2_longestFrom.cls ≠ "java/lang/invoke/MethodHandle" ∧ yX2_longestFrom.cls ≠ "java/lang/invoke/VarHandle" ∧ (parseMethodDescriptor yX2_longestFrom.desc).map (fun d => d.parameters.length) = some 4) ∧ 5 ≤ 21 ∧ plainName yX2_longestFrom.cls = true ∧ RX2 = yX2_longestFrom.cls := ⟨(by decide +kernel), (by decide +kernel), ⟨(by decide +kernel), (by decide +kernel), (by decide +kernel)⟩, (by decide +kernel), (by decide +kernel), rfl⟩
theorem mv_X2_longestFrom : mV mX2_longestFrom 4 2 := ⟨fx_X2_longestFrom, (by decide +kernel : Cond.instanceMethod yX2_longestFrom ∈ lw_tbl), (by decide +kernel : Cond.selects yX2_longestFrom.cls yX2_longestFrom yX2_longestFrom ∈ lw_tbl), TX2, 3, rfl⟩
abbrev mX2_goesOn : Mt := (RX2, yX2_goesOn, cX2_goesOn, 6, (some .boolean), 2)
theorem fx_X2_goesOn : Cond.code yX2_goesOn cX2_goesOn 6 (some .boolean) ∈ lw_tbl ∧ Cond.initialized yX2_goesOn.cls ∈ lw_tbl ∧ (yX2_goesOn.cls ≠ "java/lang/invoke/MethodHandle" ∧ yX2_goesOn.cls ≠ "java/lang/invoke/VarHandle" ∧ (parseMethodDescriptor yX2_goesOn.desc).map (fun d => d.parameters.length) = some 5) ∧ 6 ≤ 21 ∧ plainName yX2_goesOn.cls = true ∧ RX2 = yX2_goesOn.cls := ⟨(by decide +kernel), (by decide +kernel), ⟨(by decide +kernel), (by decide +kernel), (by decide +kernel)⟩, (by decide +kernel), (by decide +kernel), rfl⟩
theorem mv_X2_goesOn : mV mX2_goesOn 5 2 := ⟨fx_X2_goesOn, (by decide +kernel : Cond.instanceMethod yX2_goesOn ∈ lw_tbl), (by decide +kernel : Cond.selects yX2_goesOn.cls yX2_goesOn yX2_goesOn ∈ lw_tbl), TX2, 3, rfl⟩
abbrev mX2_firstLongest : Mt := (RX2, yX2_firstLongest, cX2_firstLongest, 8, (some (.object "LostLetters$Row")), 4)
theorem fx_X2_firstLongest : Cond.code yX2_firstLongest cX2_firstLongest 8 (some (.object "LostLetters$Row")) ∈ lw_tbl ∧ Cond.initialized yX2_firstLongest.cls ∈ lw_tbl ∧ (yX2_firstLongest.cls ≠ "java/lang/invoke/MethodHandle" ∧ yX2_firstLongest.cls ≠ "java/lang/invoke/VarHandle" ∧ (parseMethodDescriptor yX2_firstLongest.desc).map (fun d => d.parameters.length) = some 3) ∧ 8 ≤ 21 ∧ plainName yX2_firstLongest.cls = true ∧ RX2 = yX2_firstLongest.cls := ⟨(by decide +kernel), (by decide +kernel), ⟨(by decide +kernel), (by decide +kernel), (by decide +kernel)⟩, (by decide +kernel), (by decide +kernel), rfl⟩
theorem mv_X2_firstLongest : mV mX2_firstLongest 3 2 := ⟨fx_X2_firstLongest, (by decide +kernel : Cond.instanceMethod yX2_firstLongest ∈ lw_tbl), (by decide +kernel : Cond.selects yX2_firstLongest.cls yX2_firstLongest yX2_firstLongest ∈ lw_tbl), TX2, 3, rfl⟩
abbrev mX2_howManyLongest : Mt := (RX2, yX2_howManyLongest, cX2_howManyLongest, 6, (some .long), 4)
theorem fx_X2_howManyLongest : Cond.code yX2_howManyLongest cX2_howManyLongest 6 (some .long) ∈ lw_tbl ∧ Cond.initialized yX2_howManyLongest.cls ∈ lw_tbl ∧ (yX2_howManyLongest.cls ≠ "java/lang/invoke/MethodHandle" ∧ yX2_howManyLongest.cls ≠ "java/lang/invoke/VarHandle" ∧ (parseMethodDescriptor yX2_howManyLongest.desc).map (fun d => d.parameters.length) = some 3) ∧ 6 ≤ 21 ∧ plainName yX2_howManyLongest.cls = true ∧ RX2 = yX2_howManyLongest.cls := ⟨(by decide +kernel), (by decide +kernel), ⟨(by decide +kernel), (by decide +kernel), (by decide +kernel)⟩, (by decide +kernel), (by decide +kernel), rfl⟩
theorem mv_X2_howManyLongest : mV mX2_howManyLongest 3 2 := ⟨fx_X2_howManyLongest, (by decide +kernel : Cond.instanceMethod yX2_howManyLongest ∈ lw_tbl), (by decide +kernel : Cond.selects yX2_howManyLongest.cls yX2_howManyLongest yX2_howManyLongest ∈ lw_tbl), TX2, 3, rfl⟩
abbrev mX2_howManyFrom : Mt := (RX2, yX2_howManyFrom, cX2_howManyFrom, 12, (some .long), 3)
theorem fx_X2_howManyFrom : Cond.code yX2_howManyFrom cX2_howManyFrom 12 (some .long) ∈ lw_tbl ∧ Cond.initialized yX2_howManyFrom.cls ∈ lw_tbl ∧ (yX2_howManyFrom.cls ≠ "java/lang/invoke/MethodHandle" ∧ yX2_howManyFrom.cls ≠ "java/lang/invoke/VarHandle" ∧ (parseMethodDescriptor yX2_howManyFrom.desc).map (fun d => d.parameters.length) = some 5) ∧ 12 ≤ 21 ∧ plainName yX2_howManyFrom.cls = true ∧ RX2 = yX2_howManyFrom.cls := ⟨(by decide +kernel), (by decide +kernel), ⟨(by decide +kernel), (by decide +kernel), (by decide +kernel)⟩, (by decide +kernel), (by decide +kernel), rfl⟩
theorem mv_X2_howManyFrom : mV mX2_howManyFrom 5 2 := ⟨fx_X2_howManyFrom, (by decide +kernel : Cond.instanceMethod yX2_howManyFrom ∈ lw_tbl), (by decide +kernel : Cond.selects yX2_howManyFrom.cls yX2_howManyFrom yX2_howManyFrom ∈ lw_tbl), TX2, 3, rfl⟩
abbrev mX2_edits : Mt := (RX2, yX2_edits, cX2_edits, 5, (some .int), 3)
theorem fx_X2_edits : Cond.code yX2_edits cX2_edits 5 (some .int) ∈ lw_tbl ∧ Cond.initialized yX2_edits.cls ∈ lw_tbl ∧ (yX2_edits.cls ≠ "java/lang/invoke/MethodHandle" ∧ yX2_edits.cls ≠ "java/lang/invoke/VarHandle" ∧ (parseMethodDescriptor yX2_edits.desc).map (fun d => d.parameters.length) = some 2) ∧ 5 ≤ 21 ∧ plainName yX2_edits.cls = true ∧ RX2 = yX2_edits.cls := ⟨(by decide +kernel), (by decide +kernel), ⟨(by decide +kernel), (by decide +kernel), (by decide +kernel)⟩, (by decide +kernel), (by decide +kernel), rfl⟩
theorem mv_X2_edits : mV mX2_edits 2 2 := ⟨fx_X2_edits, (by decide +kernel : Cond.instanceMethod yX2_edits ∈ lw_tbl), (by decide +kernel : Cond.selects yX2_edits.cls yX2_edits yX2_edits ∈ lw_tbl), TX2, 3, rfl⟩
abbrev mX2_editsFrom : Mt := (RX2, yX2_editsFrom, cX2_editsFrom, 6, (some .int), 2)
theorem fx_X2_editsFrom : Cond.code yX2_editsFrom cX2_editsFrom 6 (some .int) ∈ lw_tbl ∧ Cond.initialized yX2_editsFrom.cls ∈ lw_tbl ∧ (yX2_editsFrom.cls ≠ "java/lang/invoke/MethodHandle" ∧ yX2_editsFrom.cls ≠ "java/lang/invoke/VarHandle" ∧ (parseMethodDescriptor yX2_editsFrom.desc).map (fun d => d.parameters.length) = some 4) ∧ 6 ≤ 21 ∧ plainName yX2_editsFrom.cls = true ∧ RX2 = yX2_editsFrom.cls := ⟨(by decide +kernel), (by decide +kernel), ⟨(by decide +kernel), (by decide +kernel), (by decide +kernel)⟩, (by decide +kernel), (by decide +kernel), rfl⟩
theorem mv_X2_editsFrom : mV mX2_editsFrom 4 2 := ⟨fx_X2_editsFrom, (by decide +kernel : Cond.instanceMethod yX2_editsFrom ∈ lw_tbl), (by decide +kernel : Cond.selects yX2_editsFrom.cls yX2_editsFrom yX2_editsFrom ∈ lw_tbl), TX2, 3, rfl⟩
abbrev mX3_init : Mt := (RX3, yX3_init, cX3_init, 1, none, 1)
theorem fx_X3_init : Cond.code yX3_init cX3_init 1 none ∈ lw_tbl ∧ Cond.initialized yX3_init.cls ∈ lw_tbl ∧ (yX3_init.cls ≠ "java/lang/invoke/MethodHandle" ∧ yX3_init.cls ≠ "java/lang/invoke/VarHandle" ∧ (parseMethodDescriptor yX3_init.desc).map (fun d => d.parameters.length) = some 0) ∧ 1 ≤ 21 ∧ plainName yX3_init.cls = true ∧ RX3 = yX3_init.cls := ⟨(by decide +kernel), (by decide +kernel), ⟨(by decide +kernel), (by decide +kernel), (by decide +kernel)⟩, (by decide +kernel), (by decide +kernel), rfl⟩
theorem mi_X3_init : mI mX3_init 0 := ⟨fx_X3_init, (by decide +kernel), rfl, rfl⟩
abbrev mX3_howOften : Mt := (RX3, yX3_howOften, cX3_howOften, 6, (some .long), 2)
theorem fx_X3_howOften : Cond.code yX3_howOften cX3_howOften 6 (some .long) ∈ lw_tbl ∧ Cond.initialized yX3_howOften.cls ∈ lw_tbl ∧ (yX3_howOften.cls ≠ "java/lang/invoke/MethodHandle" ∧ yX3_howOften.cls ≠ "java/lang/invoke/VarHandle" ∧ (parseMethodDescriptor yX3_howOften.desc).map (fun d => d.parameters.length) = some 2) ∧ 6 ≤ 21 ∧ plainName yX3_howOften.cls = true ∧ RX3 = yX3_howOften.cls := ⟨(by decide +kernel), (by decide +kernel), ⟨(by decide +kernel), (by decide +kernel), (by decide +kernel)⟩, (by decide +kernel), (by decide +kernel), rfl⟩
theorem mv_X3_howOften : mV mX3_howOften 2 3 := ⟨fx_X3_howOften, (by decide +kernel : Cond.instanceMethod yX3_howOften ∈ lw_tbl), (by decide +kernel : Cond.selects yX3_howOften.cls yX3_howOften yX3_howOften ∈ lw_tbl), TX3, 2, rfl⟩
abbrev mX3_byLosing : Mt := (RX3, yX3_byLosing, cX3_byLosing, 6, (some .long), 4)
theorem fx_X3_byLosing : Cond.code yX3_byLosing cX3_byLosing 6 (some .long) ∈ lw_tbl ∧ Cond.initialized yX3_byLosing.cls ∈ lw_tbl ∧ (yX3_byLosing.cls ≠ "java/lang/invoke/MethodHandle" ∧ yX3_byLosing.cls ≠ "java/lang/invoke/VarHandle" ∧ (parseMethodDescriptor yX3_byLosing.desc).map (fun d => d.parameters.length) = some 3) ∧ 6 ≤ 21 ∧ plainName yX3_byLosing.cls = true ∧ RX3 = yX3_byLosing.cls := ⟨(by decide +kernel), (by decide +kernel), ⟨(by decide +kernel), (by decide +kernel), (by decide +kernel)⟩, (by decide +kernel), (by decide +kernel), rfl⟩
theorem mv_X3_byLosing : mV mX3_byLosing 3 3 := ⟨fx_X3_byLosing, (by decide +kernel : Cond.instanceMethod yX3_byLosing ∈ lw_tbl), (by decide +kernel : Cond.selects yX3_byLosing.cls yX3_byLosing yX3_byLosing ∈ lw_tbl), TX3, 2, rfl⟩
abbrev mX3_leftFrom : Mt := (RX3, yX3_leftFrom, cX3_leftFrom, 9, (some .long), 3)
theorem fx_X3_leftFrom : Cond.code yX3_leftFrom cX3_leftFrom 9 (some .long) ∈ lw_tbl ∧ Cond.initialized yX3_leftFrom.cls ∈ lw_tbl ∧ (yX3_leftFrom.cls ≠ "java/lang/invoke/MethodHandle" ∧ yX3_leftFrom.cls ≠ "java/lang/invoke/VarHandle" ∧ (parseMethodDescriptor yX3_leftFrom.desc).map (fun d => d.parameters.length) = some 4) ∧ 9 ≤ 21 ∧ plainName yX3_leftFrom.cls = true ∧ RX3 = yX3_leftFrom.cls := ⟨(by decide +kernel), (by decide +kernel), ⟨(by decide +kernel), (by decide +kernel), (by decide +kernel)⟩, (by decide +kernel), (by decide +kernel), rfl⟩
theorem mv_X3_leftFrom : mV mX3_leftFrom 4 3 := ⟨fx_X3_leftFrom, (by decide +kernel : Cond.instanceMethod yX3_leftFrom ∈ lw_tbl), (by decide +kernel : Cond.selects yX3_leftFrom.cls yX3_leftFrom yX3_leftFrom ∈ lw_tbl), TX3, 2, rfl⟩
abbrev mX3_byGaining : Mt := (RX3, yX3_byGaining, cX3_byGaining, 12, (some .long), 1)
theorem fx_X3_byGaining : Cond.code yX3_byGaining cX3_byGaining 12 (some .long) ∈ lw_tbl ∧ Cond.initialized yX3_byGaining.cls ∈ lw_tbl ∧ (yX3_byGaining.cls ≠ "java/lang/invoke/MethodHandle" ∧ yX3_byGaining.cls ≠ "java/lang/invoke/VarHandle" ∧ (parseMethodDescriptor yX3_byGaining.desc).map (fun d => d.parameters.length) = some 3) ∧ 12 ≤ 21 ∧ plainName yX3_byGaining.cls = true ∧ RX3 = yX3_byGaining.cls := ⟨(by decide +kernel), (by decide +kernel), ⟨(by decide +kernel), (by decide +kernel), (by decide +kernel)⟩, (by decide +kernel), (by decide +kernel), rfl⟩
theorem mv_X3_byGaining : mV mX3_byGaining 3 3 := ⟨fx_X3_byGaining, (by decide +kernel : Cond.instanceMethod yX3_byGaining ∈ lw_tbl), (by decide +kernel : Cond.selects yX3_byGaining.cls yX3_byGaining yX3_byGaining ∈ lw_tbl), TX3, 2, rfl⟩
abbrev mX4_init : Mt := (RX4, yX4_init, cX4_init, 1, none, 1)
theorem fx_X4_init : Cond.code yX4_init cX4_init 1 none ∈ lw_tbl ∧ Cond.initialized yX4_init.cls ∈ lw_tbl ∧ (yX4_init.cls ≠ "java/lang/invoke/MethodHandle" ∧ yX4_init.cls ≠ "java/lang/invoke/VarHandle" ∧ (parseMethodDescriptor yX4_init.desc).map (fun d => d.parameters.length) = some 0) ∧ 1 ≤ 21 ∧ plainName yX4_init.cls = true ∧ RX4 = yX4_init.cls := ⟨(by decide +kernel), (by decide +kernel), ⟨(by decide +kernel), (by decide +kernel), (by decide +kernel)⟩, (by decide +kernel), (by decide +kernel), rfl⟩
theorem mi_X4_init : mI mX4_init 0 := ⟨fx_X4_init, (by decide +kernel), rfl, rfl⟩
abbrev mX4_clear : Mt := (RX4, yX4_clear, cX4_clear, 1, none, 2)
theorem fx_X4_clear : Cond.code yX4_clear cX4_clear 1 none ∈ lw_tbl ∧ Cond.initialized yX4_clear.cls ∈ lw_tbl ∧ (yX4_clear.cls ≠ "java/lang/invoke/MethodHandle" ∧ yX4_clear.cls ≠ "java/lang/invoke/VarHandle" ∧ (parseMethodDescriptor yX4_clear.desc).map (fun d => d.parameters.length) = some 0) ∧ 1 ≤ 21 ∧ plainName yX4_clear.cls = true ∧ RX4 = yX4_clear.cls := ⟨(by decide +kernel), (by decide +kernel), ⟨(by decide +kernel), (by decide +kernel), (by decide +kernel)⟩, (by decide +kernel), (by decide +kernel), rfl⟩
theorem mv_X4_clear : mV mX4_clear 0 4 := ⟨fx_X4_clear, (by decide +kernel : Cond.instanceMethod yX4_clear ∈ lw_tbl), (by decide +kernel : Cond.selects yX4_clear.cls yX4_clear yX4_clear ∈ lw_tbl), TX4, 2, rfl⟩
abbrev mX4_put : Mt := (RX4, yX4_put, cX4_put, 4, none, 1)
theorem fx_X4_put : Cond.code yX4_put cX4_put 4 none ∈ lw_tbl ∧ Cond.initialized yX4_put.cls ∈ lw_tbl ∧ (yX4_put.cls ≠ "java/lang/invoke/MethodHandle" ∧ yX4_put.cls ≠ "java/lang/invoke/VarHandle" ∧ (parseMethodDescriptor yX4_put.desc).map (fun d => d.parameters.length) = some 2) ∧ 4 ≤ 21 ∧ plainName yX4_put.cls = true ∧ RX4 = yX4_put.cls := ⟨(by decide +kernel), (by decide +kernel), ⟨(by decide +kernel), (by decide +kernel), (by decide +kernel)⟩, (by decide +kernel), (by decide +kernel), rfl⟩
theorem mv_X4_put : mV mX4_put 2 4 := ⟨fx_X4_put, (by decide +kernel : Cond.instanceMethod yX4_put ∈ lw_tbl), (by decide +kernel : Cond.selects yX4_put.cls yX4_put yX4_put ∈ lw_tbl), TX4, 2, rfl⟩
abbrev mX4_become : Mt := (RX4, yX4_become, cX4_become, 2, none, 2)
theorem fx_X4_become : Cond.code yX4_become cX4_become 2 none ∈ lw_tbl ∧ Cond.initialized yX4_become.cls ∈ lw_tbl ∧ (yX4_become.cls ≠ "java/lang/invoke/MethodHandle" ∧ yX4_become.cls ≠ "java/lang/invoke/VarHandle" ∧ (parseMethodDescriptor yX4_become.desc).map (fun d => d.parameters.length) = some 1) ∧ 2 ≤ 21 ∧ plainName yX4_become.cls = true ∧ RX4 = yX4_become.cls := ⟨(by decide +kernel), (by decide +kernel), ⟨(by decide +kernel), (by decide +kernel), (by decide +kernel)⟩, (by decide +kernel), (by decide +kernel), rfl⟩
theorem mv_X4_become : mV mX4_become 1 4 := ⟨fx_X4_become, (by decide +kernel : Cond.instanceMethod yX4_become ∈ lw_tbl), (by decide +kernel : Cond.selects yX4_become.cls yX4_become yX4_become ∈ lw_tbl), TX4, 2, rfl⟩
abbrev mX4_isFull : Mt := (RX4, yX4_isFull, cX4_isFull, 1, (some .boolean), 1)
theorem fx_X4_isFull : Cond.code yX4_isFull cX4_isFull 1 (some .boolean) ∈ lw_tbl ∧ Cond.initialized yX4_isFull.cls ∈ lw_tbl ∧ (yX4_isFull.cls ≠ "java/lang/invoke/MethodHandle" ∧ yX4_isFull.cls ≠ "java/lang/invoke/VarHandle" ∧ (parseMethodDescriptor yX4_isFull.desc).map (fun d => d.parameters.length) = some 0) ∧ 1 ≤ 21 ∧ plainName yX4_isFull.cls = true ∧ RX4 = yX4_isFull.cls := ⟨(by decide +kernel), (by decide +kernel), ⟨(by decide +kernel), (by decide +kernel), (by decide +kernel)⟩, (by decide +kernel), (by decide +kernel), rfl⟩
theorem mv_X4_isFull : mV mX4_isFull 0 4 := ⟨fx_X4_isFull, (by decide +kernel : Cond.instanceMethod yX4_isFull ∈ lw_tbl), (by decide +kernel : Cond.selects yX4_isFull.cls yX4_isFull yX4_isFull ∈ lw_tbl), TX4, 2, rfl⟩
abbrev mX4_letter : Mt := (RX4, yX4_letter, cX4_letter, 2, (some .int), 1)
theorem fx_X4_letter : Cond.code yX4_letter cX4_letter 2 (some .int) ∈ lw_tbl ∧ Cond.initialized yX4_letter.cls ∈ lw_tbl ∧ (yX4_letter.cls ≠ "java/lang/invoke/MethodHandle" ∧ yX4_letter.cls ≠ "java/lang/invoke/VarHandle" ∧ (parseMethodDescriptor yX4_letter.desc).map (fun d => d.parameters.length) = some 1) ∧ 2 ≤ 21 ∧ plainName yX4_letter.cls = true ∧ RX4 = yX4_letter.cls := ⟨(by decide +kernel), (by decide +kernel), ⟨(by decide +kernel), (by decide +kernel), (by decide +kernel)⟩, (by decide +kernel), (by decide +kernel), rfl⟩
theorem mv_X4_letter : mV mX4_letter 1 4 := ⟨fx_X4_letter, (by decide +kernel : Cond.instanceMethod yX4_letter ∈ lw_tbl), (by decide +kernel : Cond.selects yX4_letter.cls yX4_letter yX4_letter ∈ lw_tbl), TX4, 2, rfl⟩
abbrev mX4_turn : Mt := (RX4, yX4_turn, cX4_turn, 3, none, 1)
theorem fx_X4_turn : Cond.code yX4_turn cX4_turn 3 none ∈ lw_tbl ∧ Cond.initialized yX4_turn.cls ∈ lw_tbl ∧ (yX4_turn.cls ≠ "java/lang/invoke/MethodHandle" ∧ yX4_turn.cls ≠ "java/lang/invoke/VarHandle" ∧ (parseMethodDescriptor yX4_turn.desc).map (fun d => d.parameters.length) = some 2) ∧ 3 ≤ 21 ∧ plainName yX4_turn.cls = true ∧ RX4 = yX4_turn.cls := ⟨(by decide +kernel), (by decide +kernel), ⟨(by decide +kernel), (by decide +kernel), (by decide +kernel)⟩, (by decide +kernel), (by decide +kernel), rfl⟩
theorem mv_X4_turn : mV mX4_turn 2 4 := ⟨fx_X4_turn, (by decide +kernel : Cond.instanceMethod yX4_turn ∈ lw_tbl), (by decide +kernel : Cond.selects yX4_turn.cls yX4_turn yX4_turn ∈ lw_tbl), TX4, 2, rfl⟩
abbrev mX4_lose : Mt := (RX4, yX4_lose, cX4_lose, 2, none, 2)
theorem fx_X4_lose : Cond.code yX4_lose cX4_lose 2 none ∈ lw_tbl ∧ Cond.initialized yX4_lose.cls ∈ lw_tbl ∧ (yX4_lose.cls ≠ "java/lang/invoke/MethodHandle" ∧ yX4_lose.cls ≠ "java/lang/invoke/VarHandle" ∧ (parseMethodDescriptor yX4_lose.desc).map (fun d => d.parameters.length) = some 1) ∧ 2 ≤ 21 ∧ plainName yX4_lose.cls = true ∧ RX4 = yX4_lose.cls := ⟨(by decide +kernel), (by decide +kernel), ⟨(by decide +kernel), (by decide +kernel), (by decide +kernel)⟩, (by decide +kernel), (by decide +kernel), rfl⟩
theorem mv_X4_lose : mV mX4_lose 1 4 := ⟨fx_X4_lose, (by decide +kernel : Cond.instanceMethod yX4_lose ∈ lw_tbl), (by decide +kernel : Cond.selects yX4_lose.cls yX4_lose yX4_lose ∈ lw_tbl), TX4, 2, rfl⟩
abbrev mX4_gain : Mt := (RX4, yX4_gain, cX4_gain, 3, none, 2)
theorem fx_X4_gain : Cond.code yX4_gain cX4_gain 3 none ∈ lw_tbl ∧ Cond.initialized yX4_gain.cls ∈ lw_tbl ∧ (yX4_gain.cls ≠ "java/lang/invoke/MethodHandle" ∧ yX4_gain.cls ≠ "java/lang/invoke/VarHandle" ∧ (parseMethodDescriptor yX4_gain.desc).map (fun d => d.parameters.length) = some 2) ∧ 3 ≤ 21 ∧ plainName yX4_gain.cls = true ∧ RX4 = yX4_gain.cls := ⟨(by decide +kernel), (by decide +kernel), ⟨(by decide +kernel), (by decide +kernel), (by decide +kernel)⟩, (by decide +kernel), (by decide +kernel), rfl⟩
theorem mv_X4_gain : mV mX4_gain 2 4 := ⟨fx_X4_gain, (by decide +kernel : Cond.instanceMethod yX4_gain ∈ lw_tbl), (by decide +kernel : Cond.selects yX4_gain.cls yX4_gain yX4_gain ∈ lw_tbl), TX4, 2, rfl⟩
abbrev mX4_append : Mt := (RX4, yX4_append, cX4_append, 2, none, 3)
theorem fx_X4_append : Cond.code yX4_append cX4_append 2 none ∈ lw_tbl ∧ Cond.initialized yX4_append.cls ∈ lw_tbl ∧ (yX4_append.cls ≠ "java/lang/invoke/MethodHandle" ∧ yX4_append.cls ≠ "java/lang/invoke/VarHandle" ∧ (parseMethodDescriptor yX4_append.desc).map (fun d => d.parameters.length) = some 1) ∧ 2 ≤ 21 ∧ plainName yX4_append.cls = true ∧ RX4 = yX4_append.cls := ⟨(by decide +kernel), (by decide +kernel), ⟨(by decide +kernel), (by decide +kernel), (by decide +kernel)⟩, (by decide +kernel), (by decide +kernel), rfl⟩
theorem mv_X4_append : mV mX4_append 1 4 := ⟨fx_X4_append, (by decide +kernel : Cond.instanceMethod yX4_append ∈ lw_tbl), (by decide +kernel : Cond.selects yX4_append.cls yX4_append yX4_append ∈ lw_tbl), TX4, 2, rfl⟩
abbrev mX4_ahead : Mt := (RX4, yX4_ahead, cX4_ahead, 2, (some .long), 1)
theorem fx_X4_ahead : Cond.code yX4_ahead cX4_ahead 2 (some .long) ∈ lw_tbl ∧ Cond.initialized yX4_ahead.cls ∈ lw_tbl ∧ (yX4_ahead.cls ≠ "java/lang/invoke/MethodHandle" ∧ yX4_ahead.cls ≠ "java/lang/invoke/VarHandle" ∧ (parseMethodDescriptor yX4_ahead.desc).map (fun d => d.parameters.length) = some 1) ∧ 2 ≤ 21 ∧ plainName yX4_ahead.cls = true ∧ RX4 = yX4_ahead.cls := ⟨(by decide +kernel), (by decide +kernel), ⟨(by decide +kernel), (by decide +kernel), (by decide +kernel)⟩, (by decide +kernel), (by decide +kernel), rfl⟩
theorem mv_X4_ahead : mV mX4_ahead 1 4 := ⟨fx_X4_ahead, (by decide +kernel : Cond.instanceMethod yX4_ahead ∈ lw_tbl), (by decide +kernel : Cond.selects yX4_ahead.cls yX4_ahead yX4_ahead ∈ lw_tbl), TX4, 2, rfl⟩
abbrev mX4_next : Mt := (RX4, yX4_next, cX4_next, 4, (some .int), 2)
theorem fx_X4_next : Cond.code yX4_next cX4_next 4 (some .int) ∈ lw_tbl ∧ Cond.initialized yX4_next.cls ∈ lw_tbl ∧ (yX4_next.cls ≠ "java/lang/invoke/MethodHandle" ∧ yX4_next.cls ≠ "java/lang/invoke/VarHandle" ∧ (parseMethodDescriptor yX4_next.desc).map (fun d => d.parameters.length) = some 2) ∧ 4 ≤ 21 ∧ plainName yX4_next.cls = true ∧ RX4 = yX4_next.cls := ⟨(by decide +kernel), (by decide +kernel), ⟨(by decide +kernel), (by decide +kernel), (by decide +kernel)⟩, (by decide +kernel), (by decide +kernel), rfl⟩
theorem mv_X4_next : mV mX4_next 2 4 := ⟨fx_X4_next, (by decide +kernel : Cond.instanceMethod yX4_next ∈ lw_tbl), (by decide +kernel : Cond.selects yX4_next.cls yX4_next yX4_next ∈ lw_tbl), TX4, 2, rfl⟩
abbrev mX5_init : Mt := (RX5, yX5_init, cX5_init, 2, none, 2)
theorem fx_X5_init : Cond.code yX5_init cX5_init 2 none ∈ lw_tbl ∧ Cond.initialized yX5_init.cls ∈ lw_tbl ∧ (yX5_init.cls ≠ "java/lang/invoke/MethodHandle" ∧ yX5_init.cls ≠ "java/lang/invoke/VarHandle" ∧ (parseMethodDescriptor yX5_init.desc).map (fun d => d.parameters.length) = some 0) ∧ 2 ≤ 21 ∧ plainName yX5_init.cls = true ∧ RX5 = yX5_init.cls := ⟨(by decide +kernel), (by decide +kernel), ⟨(by decide +kernel), (by decide +kernel), (by decide +kernel)⟩, (by decide +kernel), (by decide +kernel), rfl⟩
theorem mi_X5_init : mI mX5_init 0 := ⟨fx_X5_init, (by decide +kernel), rfl, rfl⟩
abbrev mX5_keep : Mt := (RX5, yX5_keep, cX5_keep, 2, none, 3)
theorem fx_X5_keep : Cond.code yX5_keep cX5_keep 2 none ∈ lw_tbl ∧ Cond.initialized yX5_keep.cls ∈ lw_tbl ∧ (yX5_keep.cls ≠ "java/lang/invoke/MethodHandle" ∧ yX5_keep.cls ≠ "java/lang/invoke/VarHandle" ∧ (parseMethodDescriptor yX5_keep.desc).map (fun d => d.parameters.length) = some 1) ∧ 2 ≤ 21 ∧ plainName yX5_keep.cls = true ∧ RX5 = yX5_keep.cls := ⟨(by decide +kernel), (by decide +kernel), ⟨(by decide +kernel), (by decide +kernel), (by decide +kernel)⟩, (by decide +kernel), (by decide +kernel), rfl⟩
theorem mv_X5_keep : mV mX5_keep 1 5 := ⟨fx_X5_keep, (by decide +kernel : Cond.instanceMethod yX5_keep ∈ lw_tbl), (by decide +kernel : Cond.selects yX5_keep.cls yX5_keep yX5_keep ∈ lw_tbl), TX5, 9, rfl⟩
abbrev mX5_forget : Mt := (RX5, yX5_forget, cX5_forget, 1, none, 1)
theorem fx_X5_forget : Cond.code yX5_forget cX5_forget 1 none ∈ lw_tbl ∧ Cond.initialized yX5_forget.cls ∈ lw_tbl ∧ (yX5_forget.cls ≠ "java/lang/invoke/MethodHandle" ∧ yX5_forget.cls ≠ "java/lang/invoke/VarHandle" ∧ (parseMethodDescriptor yX5_forget.desc).map (fun d => d.parameters.length) = some 0) ∧ 1 ≤ 21 ∧ plainName yX5_forget.cls = true ∧ RX5 = yX5_forget.cls := ⟨(by decide +kernel), (by decide +kernel), ⟨(by decide +kernel), (by decide +kernel), (by decide +kernel)⟩, (by decide +kernel), (by decide +kernel), rfl⟩
theorem mv_X5_forget : mV mX5_forget 0 5 := ⟨fx_X5_forget, (by decide +kernel : Cond.instanceMethod yX5_forget ∈ lw_tbl), (by decide +kernel : Cond.selects yX5_forget.cls yX5_forget yX5_forget ∈ lw_tbl), TX5, 9, rfl⟩
abbrev mX5_search : Mt := (RX5, yX5_search, cX5_search, 4, (some .int), 18)
theorem fx_X5_search : Cond.code yX5_search cX5_search 4 (some .int) ∈ lw_tbl ∧ Cond.initialized yX5_search.cls ∈ lw_tbl ∧ (yX5_search.cls ≠ "java/lang/invoke/MethodHandle" ∧ yX5_search.cls ≠ "java/lang/invoke/VarHandle" ∧ (parseMethodDescriptor yX5_search.desc).map (fun d => d.parameters.length) = some 2) ∧ 4 ≤ 21 ∧ plainName yX5_search.cls = true ∧ RX5 = yX5_search.cls := ⟨(by decide +kernel), (by decide +kernel), ⟨(by decide +kernel), (by decide +kernel), (by decide +kernel)⟩, (by decide +kernel), (by decide +kernel), rfl⟩
theorem mv_X5_search : mV mX5_search 2 5 := ⟨fx_X5_search, (by decide +kernel : Cond.instanceMethod yX5_search ∈ lw_tbl), (by decide +kernel : Cond.selects yX5_search.cls yX5_search yX5_search ∈ lw_tbl), TX5, 9, rfl⟩
abbrev mX5_cell : Mt := (RX5, yX5_cell, cX5_cell, 3, (some .int), 1)
theorem fx_X5_cell : Cond.code yX5_cell cX5_cell 3 (some .int) ∈ lw_tbl ∧ Cond.initialized yX5_cell.cls ∈ lw_tbl ∧ (yX5_cell.cls ≠ "java/lang/invoke/MethodHandle" ∧ yX5_cell.cls ≠ "java/lang/invoke/VarHandle" ∧ (parseMethodDescriptor yX5_cell.desc).map (fun d => d.parameters.length) = some 3) ∧ 3 ≤ 21 ∧ plainName yX5_cell.cls = true ∧ RX5 = yX5_cell.cls := ⟨(by decide +kernel), (by decide +kernel), ⟨(by decide +kernel), (by decide +kernel), (by decide +kernel)⟩, (by decide +kernel), (by decide +kernel), rfl⟩
theorem ms_X5_cell : mS mX5_cell 3 := ⟨fx_X5_cell, (by decide +kernel)⟩
abbrev mX5_explore (k : Nat) : Mt := (RX5, yX5_explore, cX5_explore, 3, none, 4 + k)
theorem fx_X5_explore : Cond.code yX5_explore cX5_explore 3 none ∈ lw_tbl ∧ Cond.initialized yX5_explore.cls ∈ lw_tbl ∧ (yX5_explore.cls ≠ "java/lang/invoke/MethodHandle" ∧ yX5_explore.cls ≠ "java/lang/invoke/VarHandle" ∧ (parseMethodDescriptor yX5_explore.desc).map (fun d => d.parameters.length) = some 1) ∧ 3 ≤ 21 ∧ plainName yX5_explore.cls = true ∧ RX5 = yX5_explore.cls := ⟨(by decide +kernel), (by decide +kernel), ⟨(by decide +kernel), (by decide +kernel), (by decide +kernel)⟩, (by decide +kernel), (by decide +kernel), rfl⟩
theorem mv_X5_explore (k : Nat) : mV (mX5_explore k) 1 5 := ⟨fx_X5_explore, (by decide +kernel : Cond.instanceMethod yX5_explore ∈ lw_tbl), (by decide +kernel : Cond.selects yX5_explore.cls yX5_explore yX5_explore ∈ lw_tbl), TX5, 9, rfl⟩
abbrev mX5_allFollow : Mt := (RX5, yX5_allFollow, cX5_allFollow, 4, (some .boolean), 3)
theorem fx_X5_allFollow : Cond.code yX5_allFollow cX5_allFollow 4 (some .boolean) ∈ lw_tbl ∧ Cond.initialized yX5_allFollow.cls ∈ lw_tbl ∧ (yX5_allFollow.cls ≠ "java/lang/invoke/MethodHandle" ∧ yX5_allFollow.cls ≠ "java/lang/invoke/VarHandle" ∧ (parseMethodDescriptor yX5_allFollow.desc).map (fun d => d.parameters.length) = some 2) ∧ 4 ≤ 21 ∧ plainName yX5_allFollow.cls = true ∧ RX5 = yX5_allFollow.cls := ⟨(by decide +kernel), (by decide +kernel), ⟨(by decide +kernel), (by decide +kernel), (by decide +kernel)⟩, (by decide +kernel), (by decide +kernel), rfl⟩
theorem mv_X5_allFollow : mV mX5_allFollow 2 5 := ⟨fx_X5_allFollow, (by decide +kernel : Cond.instanceMethod yX5_allFollow ∈ lw_tbl), (by decide +kernel : Cond.selects yX5_allFollow.cls yX5_allFollow yX5_allFollow ∈ lw_tbl), TX5, 9, rfl⟩
abbrev mX5_follows : Mt := (RX5, yX5_follows, cX5_follows, 11, (some .boolean), 2)
theorem fx_X5_follows : Cond.code yX5_follows cX5_follows 11 (some .boolean) ∈ lw_tbl ∧ Cond.initialized yX5_follows.cls ∈ lw_tbl ∧ (yX5_follows.cls ≠ "java/lang/invoke/MethodHandle" ∧ yX5_follows.cls ≠ "java/lang/invoke/VarHandle" ∧ (parseMethodDescriptor yX5_follows.desc).map (fun d => d.parameters.length) = some 3) ∧ 11 ≤ 21 ∧ plainName yX5_follows.cls = true ∧ RX5 = yX5_follows.cls := ⟨(by decide +kernel), (by decide +kernel), ⟨(by decide +kernel), (by decide +kernel), (by decide +kernel)⟩, (by decide +kernel), (by decide +kernel), rfl⟩
theorem mv_X5_follows : mV mX5_follows 3 5 := ⟨fx_X5_follows, (by decide +kernel : Cond.instanceMethod yX5_follows ∈ lw_tbl), (by decide +kernel : Cond.selects yX5_follows.cls yX5_follows yX5_follows ∈ lw_tbl), TX5, 9, rfl⟩
abbrev mX5_weigh : Mt := (RX5, yX5_weigh, cX5_weigh, 4, none, 3)
theorem fx_X5_weigh : Cond.code yX5_weigh cX5_weigh 4 none ∈ lw_tbl ∧ Cond.initialized yX5_weigh.cls ∈ lw_tbl ∧ (yX5_weigh.cls ≠ "java/lang/invoke/MethodHandle" ∧ yX5_weigh.cls ≠ "java/lang/invoke/VarHandle" ∧ (parseMethodDescriptor yX5_weigh.desc).map (fun d => d.parameters.length) = some 0) ∧ 4 ≤ 21 ∧ plainName yX5_weigh.cls = true ∧ RX5 = yX5_weigh.cls := ⟨(by decide +kernel), (by decide +kernel), ⟨(by decide +kernel), (by decide +kernel), (by decide +kernel)⟩, (by decide +kernel), (by decide +kernel), rfl⟩
theorem mv_X5_weigh : mV mX5_weigh 0 5 := ⟨fx_X5_weigh, (by decide +kernel : Cond.instanceMethod yX5_weigh ∈ lw_tbl), (by decide +kernel : Cond.selects yX5_weigh.cls yX5_weigh yX5_weigh ∈ lw_tbl), TX5, 9, rfl⟩
abbrev mL_law : Mt := (RL, yL_law, cL_law, 4, (some .boolean), 20)
theorem ml_L_9 : mLk RL 9 yX6_init := Or.inl (by decide +kernel)
theorem ml_L_12 : mLk RL 12 yX7_init := Or.inl (by decide +kernel)
theorem ml_L_13 : mLk RL 13 yX6_letters := Or.inl (by decide +kernel)
theorem ml_L_17 : mLk RL 17 yX7_letters := Or.inl (by decide +kernel)
theorem ml_L_20 : mLk RL 20 yX6_word := Or.inl (by decide +kernel)
theorem ml_L_24 : mLk RL 24 yX7_word := Or.inl (by decide +kernel)
theorem ml_L_25 : mLk RL 25 yX6_at := Or.inl (by decide +kernel)
theorem ml_L_29 : mLk RL 29 yX7_at := Or.inl (by decide +kernel)
theorem ml_L_30 : mLk RL 30 yX6_edit := Or.inl (by decide +kernel)
theorem ml_L_34 : mLk RL 34 yX7_edit := Or.inl (by decide +kernel)
theorem ml_L_35 : mLk RL 35 yX6_code := Or.inl (by decide +kernel)
theorem ml_L_39 : mLk RL 39 yX7_code := Or.inl (by decide +kernel)
theorem ml_L_40 : mLk RL 40 yX6_sum := Or.inl (by decide +kernel)
theorem ml_L_43 : mLk RL 43 yX7_sum := Or.inl (by decide +kernel)
theorem ml_L_44 : mLk RL 44 yX6_isOf := Or.inl (by decide +kernel)
theorem ml_L_47 : mLk RL 47 yX7_isOf := Or.inl (by decide +kernel)
theorem ml_L_48 : mLk RL 48 yX6_listed := Or.inl (by decide +kernel)
theorem ml_L_51 : mLk RL 51 yX7_listed := Or.inl (by decide +kernel)
theorem ml_L_52 : mLk RL 52 yX6_mend := Or.inl (by decide +kernel)
theorem ml_L_55 : mLk RL 55 yX7_mend := Or.inl (by decide +kernel)
theorem ml_L_56 : mLk RL 56 yX6_near := Or.inl (by decide +kernel)
theorem ml_L_59 : mLk RL 59 yX7_near := Or.inl (by decide +kernel)
theorem ml_L_60 : mLk RL 60 yX6_liesIn := Or.inl (by decide +kernel)
theorem ml_L_64 : mLk RL 64 yX7_liesIn := Or.inl (by decide +kernel)
theorem ml_L_65 : mLk RL 65 yX6_common := Or.inl (by decide +kernel)
theorem ml_L_69 : mLk RL 69 yX7_common := Or.inl (by decide +kernel)
theorem ml_L_70 : mLk RL 70 yX6_commons := Or.inl (by decide +kernel)
theorem ml_L_73 : mLk RL 73 yX7_commons := Or.inl (by decide +kernel)
theorem ml_L_74 : mLk RL 74 yX6_between := Or.inl (by decide +kernel)
theorem ml_L_77 : mLk RL 77 yX7_between := Or.inl (by decide +kernel)
theorem ml_L_78 : mLk RL 78 yX6_by := Or.inl (by decide +kernel)
theorem ml_L_82 : mLk RL 82 yX7_by := Or.inl (by decide +kernel)
theorem ml_L_83 : mLk RL 83 yX6_trace := Or.inl (by decide +kernel)
theorem ml_L_86 : mLk RL 86 yX7_trace := Or.inl (by decide +kernel)
theorem ml_L_87 : mLk RL 87 yX6_noTraces := Or.inl (by decide +kernel)
theorem ml_L_91 : mLk RL 91 yX7_noTraces := Or.inl (by decide +kernel)
theorem ml_L_92 : mLk RL 92 yX6_sources := Or.inl (by decide +kernel)
theorem ml_L_95 : mLk RL 95 yX7_sources := Or.inl (by decide +kernel)
theorem ml_L_96 : mLk RL 96 yX6_best := Or.inl (by decide +kernel)
theorem ml_L_99 : mLk RL 99 yX7_best := Or.inl (by decide +kernel)
theorem ml_L_100 : mLk RL 100 yX6_line := Or.inl (by decide +kernel)
theorem ml_L_103 : mLk RL 103 yX7_line := Or.inl (by decide +kernel)
theorem ml_L_104 : mLk RL 104 yX6_seed := Or.inl (by decide +kernel)
theorem ml_L_108 : mLk RL 108 yX7_seed := Or.inl (by decide +kernel)
theorem ml_L_109 : mLk RL 109 yX6_send := Or.inl (by decide +kernel)
theorem ml_L_112 : mLk RL 112 yX7_send := Or.inl (by decide +kernel)
theorem ml_L_113 : mLk RL 113 yX6_count := Or.inl (by decide +kernel)
theorem ml_L_116 : mLk RL 116 yX7_count := Or.inl (by decide +kernel)
theorem lo_X0 : Cond.methodLink RX0 3 objectInit ∈ lw_tbl := (by decide +kernel)
theorem ml_X0_11 : mLk RX0 11 yX4_init := Or.inr ⟨"LostLetters", (by decide +kernel)⟩
theorem ml_X0_44 : mLk RX0 44 yX0_makeRoom := Or.inl (by decide +kernel)
theorem ml_X0_47 : mLk RX0 47 yX0_countWays := Or.inl (by decide +kernel)
theorem lm_X0_50 : Cond.methodLink RX0 50 Lib.Math.min.name ∈ lw_tbl := (by decide +kernel)
theorem lm_X0_56 : Cond.methodLink RX0 56 Lib.Math.max.name ∈ lw_tbl := (by decide +kernel)
theorem ml_X0_59 : mLk RX0 59 yX0_countWaysBehind := Or.inl (by decide +kernel)
theorem ml_X0_63 : mLk RX0 63 yX0_waysByNext := Or.inl (by decide +kernel)
theorem ml_X0_70 : mLk RX0 70 yX0_cell := Or.inl (by decide +kernel)
theorem ml_X0_73 : mLk RX0 73 yX0_sumWith := Or.inl (by decide +kernel)
theorem ml_X0_76 : mLk RX0 76 yX0_waysToEnd := Or.inl (by decide +kernel)
theorem ml_X0_80 : mLk RX0 80 yX4_letter := Or.inr ⟨"LostLetters", (by decide +kernel)⟩
theorem ml_X0_84 : mLk RX0 84 yX0_sumOf := Or.inl (by decide +kernel)
theorem ml_X0_88 : mLk RX0 88 yX4_clear := Or.inr ⟨"LostLetters", (by decide +kernel)⟩
theorem ml_X0_91 : mLk RX0 91 yX4_append := Or.inr ⟨"LostLetters", (by decide +kernel)⟩
theorem ml_X0_95 : mLk RX0 95 yX0_neighboursByTurn := Or.inl (by decide +kernel)
theorem ml_X0_98 : mLk RX0 98 yX0_neighboursByGain := Or.inl (by decide +kernel)
theorem ml_X0_101 : mLk RX0 101 yX0_neighboursByLoss := Or.inl (by decide +kernel)
theorem ml_X0_104 : mLk RX0 104 yX4_become := Or.inr ⟨"LostLetters", (by decide +kernel)⟩
theorem ml_X0_108 : mLk RX0 108 yX4_turn := Or.inr ⟨"LostLetters", (by decide +kernel)⟩
theorem ml_X0_111 : mLk RX0 111 yX0_take := Or.inl (by decide +kernel)
theorem ml_X0_115 : mLk RX0 115 yX4_lose := Or.inr ⟨"LostLetters", (by decide +kernel)⟩
theorem ml_X0_118 : mLk RX0 118 yX4_gain := Or.inr ⟨"LostLetters", (by decide +kernel)⟩
theorem ml_X0_121 : mLk RX0 121 yX0_holds := Or.inl (by decide +kernel)
theorem lo_X1 : Cond.methodLink RX1 1 objectInit ∈ lw_tbl := (by decide +kernel)
theorem ml_X1_9 : mLk RX1 9 yX4_init := Or.inr ⟨"LostLetters", (by decide +kernel)⟩
theorem ml_X1_30 : mLk RX1 30 yX4_clear := Or.inr ⟨"LostLetters", (by decide +kernel)⟩
theorem ml_X1_42 : mLk RX1 42 yX4_letter := Or.inr ⟨"LostLetters", (by decide +kernel)⟩
theorem ml_X1_46 : mLk RX1 46 yX1_carryLetter := Or.inl (by decide +kernel)
theorem ml_X1_50 : mLk RX1 50 yX1_takeUp := Or.inl (by decide +kernel)
theorem ml_X1_54 : mLk RX1 54 yX4_isFull := Or.inr ⟨"LostLetters", (by decide +kernel)⟩
theorem ml_X1_58 : mLk RX1 58 yX4_append := Or.inr ⟨"LostLetters", (by decide +kernel)⟩
theorem lo_X2 : Cond.methodLink RX2 3 objectInit ∈ lw_tbl := (by decide +kernel)
theorem ml_X2_21 : mLk RX2 21 yX4_init := Or.inr ⟨"LostLetters", (by decide +kernel)⟩
theorem ml_X2_30 : mLk RX2 30 yX2_cell := Or.inl (by decide +kernel)
theorem ml_X2_34 : mLk RX2 34 yX2_longestFrom := Or.inl (by decide +kernel)
theorem ml_X2_38 : mLk RX2 38 yX4_letter := Or.inr ⟨"LostLetters", (by decide +kernel)⟩
theorem lm_X2_42 : Cond.methodLink RX2 42 Lib.Math.max.name ∈ lw_tbl := (by decide +kernel)
theorem ml_X2_47 : mLk RX2 47 yX4_clear := Or.inr ⟨"LostLetters", (by decide +kernel)⟩
theorem ml_X2_50 : mLk RX2 50 yX4_next := Or.inr ⟨"LostLetters", (by decide +kernel)⟩
theorem ml_X2_53 : mLk RX2 53 yX2_goesOn := Or.inl (by decide +kernel)
theorem ml_X2_57 : mLk RX2 57 yX4_append := Or.inr ⟨"LostLetters", (by decide +kernel)⟩
theorem ml_X2_61 : mLk RX2 61 yX2_howManyFrom := Or.inl (by decide +kernel)
theorem ml_X2_65 : mLk RX2 65 yX2_editsFrom := Or.inl (by decide +kernel)
theorem lm_X2_68 : Cond.methodLink RX2 68 Lib.Math.min.name ∈ lw_tbl := (by decide +kernel)
theorem lo_X3 : Cond.methodLink RX3 3 objectInit ∈ lw_tbl := (by decide +kernel)
theorem ml_X3_24 : mLk RX3 24 yX4_letter := Or.inr ⟨"LostLetters", (by decide +kernel)⟩
theorem ml_X3_28 : mLk RX3 28 yX3_leftFrom := Or.inl (by decide +kernel)
theorem ml_X3_32 : mLk RX3 32 yX4_next := Or.inr ⟨"LostLetters", (by decide +kernel)⟩
theorem lo_X4 : Cond.methodLink RX4 3 objectInit ∈ lw_tbl := (by decide +kernel)
theorem ml_X4_9 : mLk RX4 9 yX4_put := Or.inl (by decide +kernel)
theorem ml_X4_27 : mLk RX4 27 yX4_ahead := Or.inl (by decide +kernel)
theorem ml_X4_31 : mLk RX4 31 yX4_gain := Or.inl (by decide +kernel)
theorem ml_X4_35 : mLk RX4 35 yX4_letter := Or.inl (by decide +kernel)
theorem lo_X5 : Cond.methodLink RX5 3 objectInit ∈ lw_tbl := (by decide +kernel)
theorem ml_X5_17 : mLk RX5 17 yX4_init := Or.inr ⟨"LostLetters", (by decide +kernel)⟩
theorem ml_X5_33 : mLk RX5 33 yX4_become := Or.inr ⟨"LostLetters", (by decide +kernel)⟩
theorem ml_X5_50 : mLk RX5 50 yX4_put := Or.inr ⟨"LostLetters", (by decide +kernel)⟩
theorem ml_X5_55 : mLk RX5 55 yX5_cell := Or.inl (by decide +kernel)
theorem ml_X5_59 : mLk RX5 59 yX5_explore := Or.inl (by decide +kernel)
theorem ml_X5_63 : mLk RX5 63 yX5_weigh := Or.inl (by decide +kernel)
theorem ml_X5_66 : mLk RX5 66 yX5_allFollow := Or.inl (by decide +kernel)
theorem ml_X5_70 : mLk RX5 70 yX4_turn := Or.inr ⟨"LostLetters", (by decide +kernel)⟩
theorem ml_X5_74 : mLk RX5 74 yX5_follows := Or.inl (by decide +kernel)
theorem lm_X5_78 : Cond.methodLink RX5 78 Lib.Math.max.name ∈ lw_tbl := (by decide +kernel)
theorem lm_X5_84 : Cond.methodLink RX5 84 Lib.Math.min.name ∈ lw_tbl := (by decide +kernel)
theorem ml_X5_87 : mLk RX5 87 yX4_letter := Or.inr ⟨"LostLetters", (by decide +kernel)⟩
theorem lm_X5_93 : Cond.methodLink RX5 93 Lib.MathLoose.min_long.x ∈ lw_tbl := (by decide +kernel)
theorem lo_X6 : Cond.methodLink RX6 1 objectInit ∈ lw_tbl := (by decide +kernel)
theorem ml_X6_19 : mLk RX6 19 yX4_init := Or.inr ⟨"LostLetters", (by decide +kernel)⟩
theorem ml_X6_22 : mLk RX6 22 yX0_init := Or.inr ⟨"LostLetters", (by decide +kernel)⟩
theorem ml_X6_29 : mLk RX6 29 yX3_init := Or.inr ⟨"LostLetters", (by decide +kernel)⟩
theorem ml_X6_36 : mLk RX6 36 yX2_init := Or.inr ⟨"LostLetters", (by decide +kernel)⟩
theorem ml_X6_43 : mLk RX6 43 yX5_init := Or.inr ⟨"LostLetters", (by decide +kernel)⟩
theorem ml_X6_50 : mLk RX6 50 yX1_init := Or.inr ⟨"LostLetters", (by decide +kernel)⟩
theorem ml_X6_55 : mLk RX6 55 yX4_clear := Or.inr ⟨"LostLetters", (by decide +kernel)⟩
theorem ml_X6_58 : mLk RX6 58 yX0_forget := Or.inr ⟨"LostLetters", (by decide +kernel)⟩
theorem ml_X6_61 : mLk RX6 61 yX5_forget := Or.inr ⟨"LostLetters", (by decide +kernel)⟩
theorem ml_X6_62 : mLk RX6 62 yX6_isRegister := Or.inl (by decide +kernel)
theorem ml_X6_66 : mLk RX6 66 yX6_isRow := Or.inl (by decide +kernel)
theorem ml_X6_70 : mLk RX6 70 yX4_put := Or.inr ⟨"LostLetters", (by decide +kernel)⟩
theorem ml_X6_77 : mLk RX6 77 yX4_letter := Or.inr ⟨"LostLetters", (by decide +kernel)⟩
theorem ml_X6_81 : mLk RX6 81 yX6_isEdit := Or.inl (by decide +kernel)
theorem ml_X6_85 : mLk RX6 85 yX4_isFull := Or.inr ⟨"LostLetters", (by decide +kernel)⟩
theorem ml_X6_89 : mLk RX6 89 yX4_become := Or.inr ⟨"LostLetters", (by decide +kernel)⟩
theorem ml_X6_93 : mLk RX6 93 yX4_lose := Or.inr ⟨"LostLetters", (by decide +kernel)⟩
theorem ml_X6_97 : mLk RX6 97 yX4_gain := Or.inr ⟨"LostLetters", (by decide +kernel)⟩
theorem ml_X6_101 : mLk RX6 101 yX4_turn := Or.inr ⟨"LostLetters", (by decide +kernel)⟩
theorem ml_X6_104 : mLk RX6 104 yX6_isLetter := Or.inl (by decide +kernel)
theorem ml_X6_107 : mLk RX6 107 yX0_tell := Or.inr ⟨"LostLetters", (by decide +kernel)⟩
theorem ml_X6_112 : mLk RX6 112 yX0_stands := Or.inr ⟨"LostLetters", (by decide +kernel)⟩
theorem ml_X6_115 : mLk RX6 115 yX0_sumOf := Or.inr ⟨"LostLetters", (by decide +kernel)⟩
theorem ml_X6_119 : mLk RX6 119 yX0_holds := Or.inr ⟨"LostLetters", (by decide +kernel)⟩
theorem ml_X6_123 : mLk RX6 123 yX0_write := Or.inr ⟨"LostLetters", (by decide +kernel)⟩
theorem ml_X6_127 : mLk RX6 127 yX0_neighbours := Or.inr ⟨"LostLetters", (by decide +kernel)⟩
theorem ml_X6_136 : mLk RX6 136 yX3_howOften := Or.inr ⟨"LostLetters", (by decide +kernel)⟩
theorem ml_X6_140 : mLk RX6 140 yX2_longest := Or.inr ⟨"LostLetters", (by decide +kernel)⟩
theorem ml_X6_144 : mLk RX6 144 yX2_firstLongest := Or.inr ⟨"LostLetters", (by decide +kernel)⟩
theorem ml_X6_148 : mLk RX6 148 yX2_howManyLongest := Or.inr ⟨"LostLetters", (by decide +kernel)⟩
theorem ml_X6_152 : mLk RX6 152 yX6_isEither := Or.inl (by decide +kernel)
theorem ml_X6_155 : mLk RX6 155 yX2_edits := Or.inr ⟨"LostLetters", (by decide +kernel)⟩
theorem ml_X6_158 : mLk RX6 158 yX3_byLosing := Or.inr ⟨"LostLetters", (by decide +kernel)⟩
theorem ml_X6_162 : mLk RX6 162 yX3_byGaining := Or.inr ⟨"LostLetters", (by decide +kernel)⟩
theorem ml_X6_166 : mLk RX6 166 yX5_keep := Or.inr ⟨"LostLetters", (by decide +kernel)⟩
theorem ml_X6_169 : mLk RX6 169 yX6_isSourceLength := Or.inl (by decide +kernel)
theorem ml_X6_172 : mLk RX6 172 yX5_search := Or.inr ⟨"LostLetters", (by decide +kernel)⟩
theorem ml_X6_179 : mLk RX6 179 yX6_isChance := Or.inl (by decide +kernel)
theorem ml_X6_182 : mLk RX6 182 yX1_tell := Or.inr ⟨"LostLetters", (by decide +kernel)⟩
theorem ml_X6_189 : mLk RX6 189 yX1_carry := Or.inr ⟨"LostLetters", (by decide +kernel)⟩
theorem ml_X6_199 : mLk RX6 199 yX6_lettersOfAll := Or.inl (by decide +kernel)
theorem lo_X7 : Cond.methodLink RX7 1 objectInit ∈ lw_tbl := (by decide +kernel)
theorem ml_X7_39 : mLk RX7 39 yX7_in := Or.inl (by decide +kernel)
theorem ml_X7_53 : mLk RX7 53 yX7_isRegister := Or.inl (by decide +kernel)
theorem ml_X7_61 : mLk RX7 61 yX7_puts := Or.inl (by decide +kernel)
theorem ml_X7_65 : mLk RX7 65 yX7_edits := Or.inl (by decide +kernel)
theorem ml_X7_69 : mLk RX7 69 yX7_copies := Or.inl (by decide +kernel)
theorem ml_X7_72 : mLk RX7 72 yX7_sumOf := Or.inl (by decide +kernel)
theorem ml_X7_82 : mLk RX7 82 yX7_lettersOf := Or.inl (by decide +kernel)
theorem ml_X7_88 : mLk RX7 88 yX7_step := Or.inl (by decide +kernel)
theorem ml_X7_92 : mLk RX7 92 yX7_state := Or.inl (by decide +kernel)
theorem ml_X7_100 : mLk RX7 100 yX7_counts := Or.inl (by decide +kernel)
theorem ml_X7_103 : mLk RX7 103 yX7_codeSize := Or.inl (by decide +kernel)
theorem ml_X7_107 : mLk RX7 107 yX7_isCode := Or.inl (by decide +kernel)
theorem ml_X7_113 : mLk RX7 113 yX7_meets := Or.inl (by decide +kernel)
theorem ml_X7_116 : mLk RX7 116 yX7_looks := Or.inl (by decide +kernel)
theorem ml_X7_120 : mLk RX7 120 yX7_lies := Or.inl (by decide +kernel)
theorem ml_X7_126 : mLk RX7 126 yX7_longests := Or.inl (by decide +kernel)
theorem ml_X7_129 : mLk RX7 129 yX7_next := Or.inl (by decide +kernel)
theorem ml_X7_132 : mLk RX7 132 yX7_editsBetween := Or.inl (by decide +kernel)
theorem ml_X7_138 : mLk RX7 138 yX7_gained := Or.inl (by decide +kernel)
theorem ml_X7_141 : mLk RX7 141 yX7_parts := Or.inl (by decide +kernel)
theorem ml_X7_148 : mLk RX7 148 yX7_power := Or.inl (by decide +kernel)
theorem ml_X7_151 : mLk RX7 151 yX7_numbers := Or.inl (by decide +kernel)
theorem ml_X7_154 : mLk RX7 154 yX7_product := Or.inl (by decide +kernel)
theorem ml_X7_171 : mLk RX7 171 yX7_adds := Or.inl (by decide +kernel)
theorem lo_i : Cond.instanceMethod objectInit ∈ lw_tbl := (by decide +kernel)
theorem lo_c : Cond.code objectInit ⟨#[0xb1]⟩ 1 none ∈ lw_tbl := (by decide +kernel)
theorem la_I : Cond.arrayClass .int ∈ lw_tbl := (by decide +kernel)
theorem la_J : Cond.arrayClass .long ∈ lw_tbl := (by decide +kernel)
theorem fl_X0_12 : fLk RX0 12 0 0 := ⟨RX0, TX0, 10, rfl, (by decide +kernel), (Or.inl (by decide +kernel))⟩
theorem fp_X0_12 : fPf RX0 12 0 0 (.object "LostLetters$Row") := ⟨RX0, TX0, 10, rfl, (by decide +kernel), (by decide +kernel), rfl, rfl, (by decide +kernel)⟩
theorem fl_X0_18 : fLk RX0 18 0 1 := ⟨RX0, TX0, 10, rfl, (by decide +kernel), (Or.inl (by decide +kernel))⟩
theorem fp_X0_18 : fPf RX0 18 0 1 (.object "LostLetters$Row") := ⟨RX0, TX0, 10, rfl, (by decide +kernel), (by decide +kernel), rfl, rfl, (by decide +kernel)⟩
theorem fl_X0_21 : fLk RX0 21 0 2 := ⟨RX0, TX0, 10, rfl, (by decide +kernel), (Or.inl (by decide +kernel))⟩
theorem fp_X0_21 : fPt RX0 21 0 2 (.array .int) := ⟨RX0, TX0, 10, rfl, (by decide +kernel), (by decide +kernel), rfl, (Or.inl (by decide +kernel))⟩
theorem fl_X0_25 : fLk RX0 25 0 3 := ⟨RX0, TX0, 10, rfl, (by decide +kernel), (Or.inl (by decide +kernel))⟩
theorem fp_X0_25 : fPt RX0 25 0 3 .int := ⟨RX0, TX0, 10, rfl, (by decide +kernel), (by decide +kernel), rfl, (Or.inl (by decide +kernel))⟩
theorem fl_X0_29 : fLk RX0 29 0 5 := ⟨RX0, TX0, 10, rfl, (by decide +kernel), (Or.inl (by decide +kernel))⟩
theorem fp_X0_29 : fPt RX0 29 0 5 .int := ⟨RX0, TX0, 10, rfl, (by decide +kernel), (by decide +kernel), rfl, (Or.inl (by decide +kernel))⟩
theorem fl_X0_32 : fLk RX0 32 0 8 := ⟨RX0, TX0, 10, rfl, (by decide +kernel), (Or.inl (by decide +kernel))⟩
theorem fp_X0_32 : fPt RX0 32 0 8 .int := ⟨RX0, TX0, 10, rfl, (by decide +kernel), (by decide +kernel), rfl, (Or.inl (by decide +kernel))⟩
theorem fl_X0_35 : fLk RX0 35 0 4 := ⟨RX0, TX0, 10, rfl, (by decide +kernel), (Or.inl (by decide +kernel))⟩
theorem fp_X0_35 : fPt RX0 35 0 4 .int := ⟨RX0, TX0, 10, rfl, (by decide +kernel), (by decide +kernel), rfl, (Or.inl (by decide +kernel))⟩
theorem fl_X0_38 : fLk RX0 38 0 6 := ⟨RX0, TX0, 10, rfl, (by decide +kernel), (Or.inl (by decide +kernel))⟩
theorem fp_X0_38 : fPt RX0 38 0 6 .int := ⟨RX0, TX0, 10, rfl, (by decide +kernel), (by decide +kernel), rfl, (Or.inl (by decide +kernel))⟩
theorem fl_X0_41 : fLk RX0 41 0 7 := ⟨RX0, TX0, 10, rfl, (by decide +kernel), (Or.inl (by decide +kernel))⟩
theorem fp_X0_41 : fPt RX0 41 0 7 .int := ⟨RX0, TX0, 10, rfl, (by decide +kernel), (by decide +kernel), rfl, (Or.inl (by decide +kernel))⟩
theorem fp_X0_67 : fPt RX0 67 0 9 .int := ⟨RX0, TX0, 10, rfl, (by decide +kernel), (by decide +kernel), rfl, (Or.inl (by decide +kernel))⟩
theorem fl_X0_79 : fLk RX0 79 4 1 := ⟨RX4, TX4, 2, rfl, (by decide +kernel), (Or.inr ⟨"LostLetters", (by decide +kernel)⟩)⟩
theorem fl_X1_10 : fLk RX1 10 1 0 := ⟨RX1, TX1, 5, rfl, (by decide +kernel), (Or.inl (by decide +kernel))⟩
theorem fp_X1_10 : fPf RX1 10 1 0 (.object "LostLetters$Row") := ⟨RX1, TX1, 5, rfl, (by decide +kernel), (by decide +kernel), rfl, rfl, (by decide +kernel)⟩
theorem fl_X1_16 : fLk RX1 16 1 4 := ⟨RX1, TX1, 5, rfl, (by decide +kernel), (Or.inl (by decide +kernel))⟩
theorem fp_X1_16 : fPt RX1 16 1 4 .long := ⟨RX1, TX1, 5, rfl, (by decide +kernel), (by decide +kernel), rfl, (Or.inl (by decide +kernel))⟩
theorem fl_X1_20 : fLk RX1 20 1 1 := ⟨RX1, TX1, 5, rfl, (by decide +kernel), (Or.inl (by decide +kernel))⟩
theorem fp_X1_20 : fPt RX1 20 1 1 .int := ⟨RX1, TX1, 5, rfl, (by decide +kernel), (by decide +kernel), rfl, (Or.inl (by decide +kernel))⟩
theorem fl_X1_24 : fLk RX1 24 1 2 := ⟨RX1, TX1, 5, rfl, (by decide +kernel), (Or.inl (by decide +kernel))⟩
theorem fp_X1_24 : fPt RX1 24 1 2 .int := ⟨RX1, TX1, 5, rfl, (by decide +kernel), (by decide +kernel), rfl, (Or.inl (by decide +kernel))⟩
theorem fl_X1_27 : fLk RX1 27 1 3 := ⟨RX1, TX1, 5, rfl, (by decide +kernel), (Or.inl (by decide +kernel))⟩
theorem fp_X1_27 : fPt RX1 27 1 3 .int := ⟨RX1, TX1, 5, rfl, (by decide +kernel), (by decide +kernel), rfl, (Or.inl (by decide +kernel))⟩
theorem fl_X1_33 : fLk RX1 33 4 1 := ⟨RX4, TX4, 2, rfl, (by decide +kernel), (Or.inr ⟨"LostLetters", (by decide +kernel)⟩)⟩
theorem fl_X2_11 : fLk RX2 11 2 0 := ⟨RX2, TX2, 3, rfl, (by decide +kernel), (Or.inl (by decide +kernel))⟩
theorem fp_X2_11 : fPf RX2 11 2 0 (.array .int) := ⟨RX2, TX2, 3, rfl, (by decide +kernel), (by decide +kernel), rfl, rfl, (by decide +kernel)⟩
theorem fl_X2_15 : fLk RX2 15 2 1 := ⟨RX2, TX2, 3, rfl, (by decide +kernel), (Or.inl (by decide +kernel))⟩
theorem fp_X2_15 : fPf RX2 15 2 1 (.array .long) := ⟨RX2, TX2, 3, rfl, (by decide +kernel), (by decide +kernel), rfl, rfl, (by decide +kernel)⟩
theorem fl_X2_22 : fLk RX2 22 2 2 := ⟨RX2, TX2, 3, rfl, (by decide +kernel), (Or.inl (by decide +kernel))⟩
theorem fp_X2_22 : fPf RX2 22 2 2 (.object "LostLetters$Row") := ⟨RX2, TX2, 3, rfl, (by decide +kernel), (by decide +kernel), rfl, rfl, (by decide +kernel)⟩
theorem fl_X2_26 : fLk RX2 26 4 1 := ⟨RX4, TX4, 2, rfl, (by decide +kernel), (Or.inr ⟨"LostLetters", (by decide +kernel)⟩)⟩
theorem fl_X3_9 : fLk RX3 9 3 0 := ⟨RX3, TX3, 2, rfl, (by decide +kernel), (Or.inl (by decide +kernel))⟩
theorem fp_X3_9 : fPf RX3 9 3 0 (.array .long) := ⟨RX3, TX3, 2, rfl, (by decide +kernel), (by decide +kernel), rfl, rfl, (by decide +kernel)⟩
theorem fl_X3_15 : fLk RX3 15 3 1 := ⟨RX3, TX3, 2, rfl, (by decide +kernel), (Or.inl (by decide +kernel))⟩
theorem fp_X3_15 : fPf RX3 15 3 1 (.array .long) := ⟨RX3, TX3, 2, rfl, (by decide +kernel), (by decide +kernel), rfl, rfl, (by decide +kernel)⟩
theorem fl_X3_18 : fLk RX3 18 4 1 := ⟨RX4, TX4, 2, rfl, (by decide +kernel), (Or.inr ⟨"LostLetters", (by decide +kernel)⟩)⟩
theorem fl_X4_15 : fLk RX4 15 4 1 := ⟨RX4, TX4, 2, rfl, (by decide +kernel), (Or.inl (by decide +kernel))⟩
theorem fp_X4_15 : fPt RX4 15 4 1 .int := ⟨RX4, TX4, 2, rfl, (by decide +kernel), (by decide +kernel), rfl, (Or.inl (by decide +kernel))⟩
theorem fl_X4_19 : fLk RX4 19 4 0 := ⟨RX4, TX4, 2, rfl, (by decide +kernel), (Or.inl (by decide +kernel))⟩
theorem fp_X4_19 : fPt RX4 19 4 0 .long := ⟨RX4, TX4, 2, rfl, (by decide +kernel), (by decide +kernel), rfl, (Or.inl (by decide +kernel))⟩
theorem fl_X5_11 : fLk RX5 11 5 0 := ⟨RX5, TX5, 9, rfl, (by decide +kernel), (Or.inl (by decide +kernel))⟩
theorem fp_X5_11 : fPf RX5 11 5 0 (.array (.object "LostLetters$Row")) := ⟨RX5, TX5, 9, rfl, (by decide +kernel), (by decide +kernel), rfl, rfl, (by decide +kernel)⟩
theorem fl_X5_18 : fLk RX5 18 5 1 := ⟨RX5, TX5, 9, rfl, (by decide +kernel), (Or.inl (by decide +kernel))⟩
theorem fp_X5_18 : fPf RX5 18 5 1 (.array .int) := ⟨RX5, TX5, 9, rfl, (by decide +kernel), (by decide +kernel), rfl, rfl, (by decide +kernel)⟩
theorem fl_X5_22 : fLk RX5 22 5 2 := ⟨RX5, TX5, 9, rfl, (by decide +kernel), (Or.inl (by decide +kernel))⟩
theorem fp_X5_22 : fPf RX5 22 5 2 (.object "LostLetters$Row") := ⟨RX5, TX5, 9, rfl, (by decide +kernel), (by decide +kernel), rfl, rfl, (by decide +kernel)⟩
theorem fl_X5_26 : fLk RX5 26 5 3 := ⟨RX5, TX5, 9, rfl, (by decide +kernel), (Or.inl (by decide +kernel))⟩
theorem fp_X5_26 : fPf RX5 26 5 3 (.object "LostLetters$Row") := ⟨RX5, TX5, 9, rfl, (by decide +kernel), (by decide +kernel), rfl, rfl, (by decide +kernel)⟩
theorem fl_X5_29 : fLk RX5 29 5 4 := ⟨RX5, TX5, 9, rfl, (by decide +kernel), (Or.inl (by decide +kernel))⟩
theorem fp_X5_29 : fPt RX5 29 5 4 .int := ⟨RX5, TX5, 9, rfl, (by decide +kernel), (by decide +kernel), rfl, (Or.inl (by decide +kernel))⟩
theorem fl_X5_37 : fLk RX5 37 5 5 := ⟨RX5, TX5, 9, rfl, (by decide +kernel), (Or.inl (by decide +kernel))⟩
theorem fp_X5_37 : fPt RX5 37 5 5 .int := ⟨RX5, TX5, 9, rfl, (by decide +kernel), (by decide +kernel), rfl, (Or.inl (by decide +kernel))⟩
theorem fl_X5_40 : fLk RX5 40 5 6 := ⟨RX5, TX5, 9, rfl, (by decide +kernel), (Or.inl (by decide +kernel))⟩
theorem fp_X5_40 : fPt RX5 40 5 6 .int := ⟨RX5, TX5, 9, rfl, (by decide +kernel), (by decide +kernel), rfl, (Or.inl (by decide +kernel))⟩
theorem fl_X5_43 : fLk RX5 43 5 7 := ⟨RX5, TX5, 9, rfl, (by decide +kernel), (Or.inl (by decide +kernel))⟩
theorem fp_X5_43 : fPt RX5 43 5 7 .int := ⟨RX5, TX5, 9, rfl, (by decide +kernel), (by decide +kernel), rfl, (Or.inl (by decide +kernel))⟩
theorem fl_X5_46 : fLk RX5 46 5 8 := ⟨RX5, TX5, 9, rfl, (by decide +kernel), (Or.inl (by decide +kernel))⟩
theorem fp_X5_46 : fPt RX5 46 5 8 .long := ⟨RX5, TX5, 9, rfl, (by decide +kernel), (by decide +kernel), rfl, (Or.inl (by decide +kernel))⟩
theorem fl_X5_54 : fLk RX5 54 4 1 := ⟨RX4, TX4, 2, rfl, (by decide +kernel), (Or.inr ⟨"LostLetters", (by decide +kernel)⟩)⟩
theorem fl_X6_9 : fLk RX6 9 6 6 := ⟨RX6, TX6, 7, rfl, (by decide +kernel), (Or.inl (by decide +kernel))⟩
theorem fp_X6_9 : fPt RX6 9 6 6 .int := ⟨RX6, TX6, 7, rfl, (by decide +kernel), (by decide +kernel), rfl, (Or.inl (by decide +kernel))⟩
theorem fl_X6_15 : fLk RX6 15 6 0 := ⟨RX6, TX6, 7, rfl, (by decide +kernel), (Or.inl (by decide +kernel))⟩
theorem fp_X6_15 : fPf RX6 15 6 0 (.array (.object "LostLetters$Row")) := ⟨RX6, TX6, 7, rfl, (by decide +kernel), (by decide +kernel), rfl, rfl, (by decide +kernel)⟩
theorem fl_X6_23 : fLk RX6 23 6 1 := ⟨RX6, TX6, 7, rfl, (by decide +kernel), (Or.inl (by decide +kernel))⟩
theorem fp_X6_23 : fPf RX6 23 6 1 (.object "LostLetters$Code") := ⟨RX6, TX6, 7, rfl, (by decide +kernel), (by decide +kernel), rfl, rfl, (by decide +kernel)⟩
theorem fl_X6_30 : fLk RX6 30 6 2 := ⟨RX6, TX6, 7, rfl, (by decide +kernel), (Or.inl (by decide +kernel))⟩
theorem fp_X6_30 : fPf RX6 30 6 2 (.object "LostLetters$Parts") := ⟨RX6, TX6, 7, rfl, (by decide +kernel), (by decide +kernel), rfl, rfl, (by decide +kernel)⟩
theorem fl_X6_37 : fLk RX6 37 6 3 := ⟨RX6, TX6, 7, rfl, (by decide +kernel), (Or.inl (by decide +kernel))⟩
theorem fp_X6_37 : fPf RX6 37 6 3 (.object "LostLetters$Pair") := ⟨RX6, TX6, 7, rfl, (by decide +kernel), (by decide +kernel), rfl, rfl, (by decide +kernel)⟩
theorem fl_X6_44 : fLk RX6 44 6 4 := ⟨RX6, TX6, 7, rfl, (by decide +kernel), (Or.inl (by decide +kernel))⟩
theorem fp_X6_44 : fPf RX6 44 6 4 (.object "LostLetters$Traces") := ⟨RX6, TX6, 7, rfl, (by decide +kernel), (by decide +kernel), rfl, rfl, (by decide +kernel)⟩
theorem fl_X6_51 : fLk RX6 51 6 5 := ⟨RX6, TX6, 7, rfl, (by decide +kernel), (Or.inl (by decide +kernel))⟩
theorem fp_X6_51 : fPf RX6 51 6 5 (.object "LostLetters$Line") := ⟨RX6, TX6, 7, rfl, (by decide +kernel), (by decide +kernel), rfl, rfl, (by decide +kernel)⟩
theorem fl_X6_74 : fLk RX6 74 4 1 := ⟨RX4, TX4, 2, rfl, (by decide +kernel), (Or.inr ⟨"LostLetters", (by decide +kernel)⟩)⟩
theorem fl_X6_111 : fLk RX6 111 0 9 := ⟨RX0, TX0, 10, rfl, (by decide +kernel), (Or.inr ⟨"LostLetters", (by decide +kernel)⟩)⟩
theorem fl_X6_130 : fLk RX6 130 0 1 := ⟨RX0, TX0, 10, rfl, (by decide +kernel), (Or.inr ⟨"LostLetters", (by decide +kernel)⟩)⟩
theorem fl_X6_165 : fLk RX6 165 5 4 := ⟨RX5, TX5, 9, rfl, (by decide +kernel), (Or.inr ⟨"LostLetters", (by decide +kernel)⟩)⟩
theorem fl_X6_176 : fLk RX6 176 5 3 := ⟨RX5, TX5, 9, rfl, (by decide +kernel), (Or.inr ⟨"LostLetters", (by decide +kernel)⟩)⟩
theorem fp_X6_185 : fPt RX6 185 1 4 .long := ⟨RX1, TX1, 5, rfl, (by decide +kernel), (by decide +kernel), rfl, (Or.inr ⟨"LostLetters", (by decide +kernel)⟩)⟩
theorem fl_X6_193 : fLk RX6 193 1 0 := ⟨RX1, TX1, 5, rfl, (by decide +kernel), (Or.inr ⟨"LostLetters", (by decide +kernel)⟩)⟩
theorem fl_X6_196 : fLk RX6 196 0 4 := ⟨RX0, TX0, 10, rfl, (by decide +kernel), (Or.inr ⟨"LostLetters", (by decide +kernel)⟩)⟩
theorem fl_X7_7 : fLk RX7 7 7 0 := ⟨RX7, TX7, 17, rfl, (by decide +kernel), (Or.inl (by decide +kernel))⟩
theorem fp_X7_7 : fPt RX7 7 7 0 .int := ⟨RX7, TX7, 17, rfl, (by decide +kernel), (by decide +kernel), rfl, (Or.inl (by decide +kernel))⟩
theorem fl_X7_13 : fLk RX7 13 7 1 := ⟨RX7, TX7, 17, rfl, (by decide +kernel), (Or.inl (by decide +kernel))⟩
theorem fp_X7_13 : fPf RX7 13 7 1 (.array .int) := ⟨RX7, TX7, 17, rfl, (by decide +kernel), (by decide +kernel), rfl, rfl, (by decide +kernel)⟩
theorem fl_X7_17 : fLk RX7 17 7 2 := ⟨RX7, TX7, 17, rfl, (by decide +kernel), (Or.inl (by decide +kernel))⟩
theorem fp_X7_17 : fPf RX7 17 7 2 (.array .int) := ⟨RX7, TX7, 17, rfl, (by decide +kernel), (by decide +kernel), rfl, rfl, (by decide +kernel)⟩
theorem fl_X7_20 : fLk RX7 20 7 11 := ⟨RX7, TX7, 17, rfl, (by decide +kernel), (Or.inl (by decide +kernel))⟩
theorem fp_X7_20 : fPt RX7 20 7 11 .long := ⟨RX7, TX7, 17, rfl, (by decide +kernel), (by decide +kernel), rfl, (Or.inl (by decide +kernel))⟩
theorem fl_X7_24 : fLk RX7 24 7 12 := ⟨RX7, TX7, 17, rfl, (by decide +kernel), (Or.inl (by decide +kernel))⟩
theorem fp_X7_24 : fPf RX7 24 7 12 (.array .int) := ⟨RX7, TX7, 17, rfl, (by decide +kernel), (by decide +kernel), rfl, rfl, (by decide +kernel)⟩
theorem fl_X7_27 : fLk RX7 27 7 13 := ⟨RX7, TX7, 17, rfl, (by decide +kernel), (Or.inl (by decide +kernel))⟩
theorem fp_X7_27 : fPf RX7 27 7 13 (.array .int) := ⟨RX7, TX7, 17, rfl, (by decide +kernel), (by decide +kernel), rfl, rfl, (by decide +kernel)⟩
theorem fl_X7_30 : fLk RX7 30 7 15 := ⟨RX7, TX7, 17, rfl, (by decide +kernel), (Or.inl (by decide +kernel))⟩
theorem fp_X7_30 : fPf RX7 30 7 15 (.array .long) := ⟨RX7, TX7, 17, rfl, (by decide +kernel), (by decide +kernel), rfl, rfl, (by decide +kernel)⟩
theorem fl_X7_34 : fLk RX7 34 7 16 := ⟨RX7, TX7, 17, rfl, (by decide +kernel), (Or.inl (by decide +kernel))⟩
theorem fp_X7_34 : fPf RX7 34 7 16 (.array .int) := ⟨RX7, TX7, 17, rfl, (by decide +kernel), (by decide +kernel), rfl, rfl, (by decide +kernel)⟩
theorem fl_X7_47 : fLk RX7 47 7 3 := ⟨RX7, TX7, 17, rfl, (by decide +kernel), (Or.inl (by decide +kernel))⟩
theorem fp_X7_47 : fPt RX7 47 7 3 .int := ⟨RX7, TX7, 17, rfl, (by decide +kernel), (by decide +kernel), rfl, (Or.inl (by decide +kernel))⟩
theorem fl_X7_50 : fLk RX7 50 7 7 := ⟨RX7, TX7, 17, rfl, (by decide +kernel), (Or.inl (by decide +kernel))⟩
theorem fp_X7_50 : fPt RX7 50 7 7 .int := ⟨RX7, TX7, 17, rfl, (by decide +kernel), (by decide +kernel), rfl, (Or.inl (by decide +kernel))⟩
theorem fl_X7_76 : fLk RX7 76 7 4 := ⟨RX7, TX7, 17, rfl, (by decide +kernel), (Or.inl (by decide +kernel))⟩
theorem fp_X7_76 : fPt RX7 76 7 4 .int := ⟨RX7, TX7, 17, rfl, (by decide +kernel), (by decide +kernel), rfl, (Or.inl (by decide +kernel))⟩
theorem fl_X7_79 : fLk RX7 79 7 5 := ⟨RX7, TX7, 17, rfl, (by decide +kernel), (Or.inl (by decide +kernel))⟩
theorem fp_X7_79 : fPt RX7 79 7 5 .int := ⟨RX7, TX7, 17, rfl, (by decide +kernel), (by decide +kernel), rfl, (Or.inl (by decide +kernel))⟩
theorem fl_X7_85 : fLk RX7 85 7 6 := ⟨RX7, TX7, 17, rfl, (by decide +kernel), (Or.inl (by decide +kernel))⟩
theorem fp_X7_85 : fPt RX7 85 7 6 .int := ⟨RX7, TX7, 17, rfl, (by decide +kernel), (by decide +kernel), rfl, (Or.inl (by decide +kernel))⟩
theorem fl_X7_110 : fLk RX7 110 7 14 := ⟨RX7, TX7, 17, rfl, (by decide +kernel), (Or.inl (by decide +kernel))⟩
theorem fp_X7_110 : fPt RX7 110 7 14 .int := ⟨RX7, TX7, 17, rfl, (by decide +kernel), (by decide +kernel), rfl, (Or.inl (by decide +kernel))⟩
theorem fl_X7_158 : fLk RX7 158 7 8 := ⟨RX7, TX7, 17, rfl, (by decide +kernel), (Or.inl (by decide +kernel))⟩
theorem fp_X7_158 : fPt RX7 158 7 8 .int := ⟨RX7, TX7, 17, rfl, (by decide +kernel), (by decide +kernel), rfl, (Or.inl (by decide +kernel))⟩
theorem fl_X7_161 : fLk RX7 161 7 9 := ⟨RX7, TX7, 17, rfl, (by decide +kernel), (Or.inl (by decide +kernel))⟩
theorem fp_X7_161 : fPt RX7 161 7 9 .int := ⟨RX7, TX7, 17, rfl, (by decide +kernel), (by decide +kernel), rfl, (Or.inl (by decide +kernel))⟩
theorem fl_X7_164 : fLk RX7 164 7 10 := ⟨RX7, TX7, 17, rfl, (by decide +kernel), (Or.inl (by decide +kernel))⟩
theorem fp_X7_164 : fPt RX7 164 7 10 .int := ⟨RX7, TX7, 17, rfl, (by decide +kernel), (by decide +kernel), rfl, (Or.inl (by decide +kernel))⟩
theorem lk_L_18 : Cond.constantLong RL 18 (4294967295) ∈ lw_tbl := (by decide +kernel)
theorem lk_X1_36 : Cond.constantLong RX1 36 (25214903917) ∈ lw_tbl := (by decide +kernel)
theorem lk_X1_38 : Cond.constantLong RX1 38 (11) ∈ lw_tbl := (by decide +kernel)
theorem lk_X1_40 : Cond.constantLong RX1 40 (281474976710655) ∈ lw_tbl := (by decide +kernel)
theorem lk_X4_23 : Cond.constantLong RX4 23 (3) ∈ lw_tbl := (by decide +kernel)
theorem lk_X4_25 : Cond.constantLong RX4 25 (-1) ∈ lw_tbl := (by decide +kernel)
theorem lk_X5_91 : Cond.constantLong RX5 91 (1000000000000000) ∈ lw_tbl := (by decide +kernel)
theorem lk_X6_134 : Cond.constantLong RX6 134 (-1) ∈ lw_tbl := (by decide +kernel)
theorem lk_X7_37 : Cond.constantLong RX7 37 (11) ∈ lw_tbl := (by decide +kernel)
theorem lk_X7_43 : Cond.constantLong RX7 43 (2) ∈ lw_tbl := (by decide +kernel)
theorem lk_X7_45 : Cond.constantLong RX7 45 (4) ∈ lw_tbl := (by decide +kernel)
theorem lk_X7_57 : Cond.constantLong RX7 57 (24) ∈ lw_tbl := (by decide +kernel)
theorem lk_X7_59 : Cond.constantLong RX7 59 (3) ∈ lw_tbl := (by decide +kernel)
theorem lk_X7_96 : Cond.constantLong RX7 96 (16) ∈ lw_tbl := (by decide +kernel)
theorem lk_X7_98 : Cond.constantLong RX7 98 (64) ∈ lw_tbl := (by decide +kernel)
theorem lk_X7_124 : Cond.constantLong RX7 124 (-1) ∈ lw_tbl := (by decide +kernel)
theorem lk_X7_136 : Cond.constantLong RX7 136 (6) ∈ lw_tbl := (by decide +kernel)
theorem lk_X7_144 : Cond.constantLong RX7 144 (1000000000000000) ∈ lw_tbl := (by decide +kernel)
theorem lk_X7_146 : Cond.constantLong RX7 146 (12) ∈ lw_tbl := (by decide +kernel)
theorem lk_X7_167 : Cond.constantLong RX7 167 (281474976710655) ∈ lw_tbl := (by decide +kernel)
theorem lk_X7_169 : Cond.constantLong RX7 169 (25214903917) ∈ lw_tbl := (by decide +kernel)
theorem ln_L_7 : nNw RL 7 6 [.null, .null, .null, .null, .null, .null, .int 0] := ⟨RX6, TX6, 7, tyX6, rfl, (by decide +kernel), (by decide +kernel), (by decide +kernel), tyX6_ok, by decide +kernel, rfl, fun _ _ => rfl⟩
theorem ln_L_10 : nNw RL 10 7 [.int 0, .null, .null, .int 0, .int 0, .int 0, .int 0, .int 0, .int 0, .int 0, .int 0, .long 0, .null, .null, .int 0, .null, .null] := ⟨RX7, TX7, 17, tyX7, rfl, (by decide +kernel), (by decide +kernel), (by decide +kernel), tyX7_ok, by decide +kernel, rfl, fun _ _ => rfl⟩
theorem ln_X0_9 : nNw RX0 9 4 [.long 0, .int 0] := ⟨RX4, TX4, 2, tyX4, rfl, (by decide +kernel), (by decide +kernel), (by decide +kernel), tyX4_ok, by decide +kernel, rfl, fun _ _ => rfl⟩
theorem ln_X1_7 : nNw RX1 7 4 [.long 0, .int 0] := ⟨RX4, TX4, 2, tyX4, rfl, (by decide +kernel), (by decide +kernel), (by decide +kernel), tyX4_ok, by decide +kernel, rfl, fun _ _ => rfl⟩
theorem ln_X2_19 : nNw RX2 19 4 [.long 0, .int 0] := ⟨RX4, TX4, 2, tyX4, rfl, (by decide +kernel), (by decide +kernel), (by decide +kernel), tyX4_ok, by decide +kernel, rfl, fun _ _ => rfl⟩
theorem lr_X5_9 : Cond.classLink RX5 9 RX4 ∈ lw_tbl := (by decide +kernel)
theorem ln_X5_9 : nNw RX5 9 4 [.long 0, .int 0] := ⟨RX4, TX4, 2, tyX4, rfl, (by decide +kernel), (by decide +kernel), (by decide +kernel), tyX4_ok, by decide +kernel, rfl, fun _ _ => rfl⟩
theorem lr_X6_13 : Cond.classLink RX6 13 RX4 ∈ lw_tbl := (by decide +kernel)
theorem ln_X6_13 : nNw RX6 13 4 [.long 0, .int 0] := ⟨RX4, TX4, 2, tyX4, rfl, (by decide +kernel), (by decide +kernel), (by decide +kernel), tyX4_ok, by decide +kernel, rfl, fun _ _ => rfl⟩
theorem ln_X6_20 : nNw RX6 20 0 [.null, .null, .null, .int 0, .int 0, .int 0, .int 0, .int 0, .int 0, .int 0] := ⟨RX0, TX0, 10, tyX0, rfl, (by decide +kernel), (by decide +kernel), (by decide +kernel), tyX0_ok, by decide +kernel, rfl, fun _ _ => rfl⟩
theorem ln_X6_27 : nNw RX6 27 3 [.null, .null] := ⟨RX3, TX3, 2, tyX3, rfl, (by decide +kernel), (by decide +kernel), (by decide +kernel), tyX3_ok, by decide +kernel, rfl, fun _ _ => rfl⟩
theorem ln_X6_34 : nNw RX6 34 2 [.null, .null, .null] := ⟨RX2, TX2, 3, tyX2, rfl, (by decide +kernel), (by decide +kernel), (by decide +kernel), tyX2_ok, by decide +kernel, rfl, fun _ _ => rfl⟩
theorem ln_X6_41 : nNw RX6 41 5 [.null, .null, .null, .null, .int 0, .int 0, .int 0, .int 0, .long 0] := ⟨RX5, TX5, 9, tyX5, rfl, (by decide +kernel), (by decide +kernel), (by decide +kernel), tyX5_ok, by decide +kernel, rfl, fun _ _ => rfl⟩
theorem ln_X6_48 : nNw RX6 48 1 [.null, .int 0, .int 0, .int 0, .long 0] := ⟨RX1, TX1, 5, tyX1, rfl, (by decide +kernel), (by decide +kernel), (by decide +kernel), tyX1_ok, by decide +kernel, rfl, fun _ _ => rfl⟩
end
section
/-! helpers of the walk: places in plain numbers, constants, stores, calls with and without an answer -/
theorem pn (pc' : Nat) {M : Mt} {sc : Option (Nat × (Nat → Int32))} {pc : Nat} {lv st : List Value} {w : Wd} {r : Option Value} {w' : Wd} (h : pc = pc') (k : EW M sc pc' lv st w r w') : EW M sc pc lv st w r w' := h ▸ k
theorem e_ic (v : Int32) {M : Mt} {sc : Option (Nat × (Nat → Int32))} {pc : Nat} {lv st : List Value} {w : Wd} {r : Option Value} {w' : Wd} {n : Int} (hd : decode M.2.2.1 pc = .ok (.iconst n, 1)) (hv : Int32.ofInt n = v) (k : EW M sc (pc + 1) lv (.int v :: st) w r w') : EW M sc pc lv st w r w' := by
  subst hv; exact e_iconst hd k
theorem e_bi (v : Int32) {M : Mt} {sc : Option (Nat × (Nat → Int32))} {pc : Nat} {lv st : List Value} {w : Wd} {r : Option Value} {w' : Wd} {n : Int} (hd : decode M.2.2.1 pc = .ok (.bipush n, 2)) (hv : (Int8.ofInt n).toInt32 = v) (k : EW M sc (pc + 2) lv (.int v :: st) w r w') : EW M sc pc lv st w r w' := by
  subst hv; exact e_bipush hd k
theorem e_si (v : Int32) {M : Mt} {sc : Option (Nat × (Nat → Int32))} {pc : Nat} {lv st : List Value} {w : Wd} {r : Option Value} {w' : Wd} {n : Int} (hd : decode M.2.2.1 pc = .ok (.sipush n, 3)) (hv : (Int16.ofInt n).toInt32 = v) (k : EW M sc (pc + 3) lv (.int v :: st) w r w') : EW M sc pc lv st w r w' := by
  subst hv; exact e_sipush hd k
theorem e_lc (v : Int64) {M : Mt} {sc : Option (Nat × (Nat → Int32))} {pc : Nat} {lv st : List Value} {w : Wd} {r : Option Value} {w' : Wd} {n : Fin 2} (hd : decode M.2.2.1 pc = .ok (.lconst n, 1)) (hv : Int64.ofNat (n : Nat) = v) (k : EW M sc (pc + 1) lv (.long v :: st) w r w') : EW M sc pc lv st w r w' := by
  subst hv; exact e_lconst hd k
theorem s_in (lv' : List Value) {M : Mt} {sc : Option (Nat × (Nat → Int32))} {pc : Nat} {lv st : List Value} {w : Wd} {r : Option Value} {w' : Wd} {n : Fin 4} {x : Int32} (hd : decode M.2.2.1 pc = .ok (.istore_n n, 1)) (hn9 : (n : Nat) < M.2.2.2.1) (hlv : lset lv n (.int x) = lv') (k : EW M sc (pc + 1) lv' st w r w') : EW M sc pc lv (.int x :: st) w r w' := by
  subst hlv; exact e_istore_n hd hn9 k
theorem s_i (lv' : List Value) {M : Mt} {sc : Option (Nat × (Nat → Int32))} {pc : Nat} {lv st : List Value} {w : Wd} {r : Option Value} {w' : Wd} {n : Nat} {x : Int32} (hd : decode M.2.2.1 pc = .ok (.istore n, 2)) (hn9 : n < M.2.2.2.1) (hlv : lset lv n (.int x) = lv') (k : EW M sc (pc + 2) lv' st w r w') : EW M sc pc lv (.int x :: st) w r w' := by
  subst hlv; exact e_istore hd hn9 k
theorem s_an (lv' : List Value) {M : Mt} {sc : Option (Nat × (Nat → Int32))} {pc : Nat} {lv st : List Value} {w : Wd} {r : Option Value} {w' : Wd} {n : Fin 4} {x : Nat} (hd : decode M.2.2.1 pc = .ok (.astore_n n, 1)) (hn9 : (n : Nat) < M.2.2.2.1) (hlv : lset lv n (.ref x) = lv') (k : EW M sc (pc + 1) lv' st w r w') : EW M sc pc lv (.ref x :: st) w r w' := by
  subst hlv; exact e_astore_n hd hn9 k
theorem s_a (lv' : List Value) {M : Mt} {sc : Option (Nat × (Nat → Int32))} {pc : Nat} {lv st : List Value} {w : Wd} {r : Option Value} {w' : Wd} {n : Nat} {x : Nat} (hd : decode M.2.2.1 pc = .ok (.astore n, 2)) (hn9 : n < M.2.2.2.1) (hlv : lset lv n (.ref x) = lv') (k : EW M sc (pc + 2) lv' st w r w') : EW M sc pc lv (.ref x :: st) w r w' := by
  subst hlv; exact e_astore hd hn9 k
theorem s_ln (lv' : List Value) {M : Mt} {sc : Option (Nat × (Nat → Int32))} {pc : Nat} {lv st : List Value} {w : Wd} {r : Option Value} {w' : Wd} {n : Fin 4} {x : Int64} (hd : decode M.2.2.1 pc = .ok (.lstore_n n, 1)) (hn9 : (n : Nat) + 1 < M.2.2.2.1) (hlv : lset2 lv n (.long x) = lv') (k : EW M sc (pc + 1) lv' st w r w') : EW M sc pc lv (.long x :: st) w r w' := by
  subst hlv; exact e_lstore_n hd hn9 k
theorem s_l (lv' : List Value) {M : Mt} {sc : Option (Nat × (Nat → Int32))} {pc : Nat} {lv st : List Value} {w : Wd} {r : Option Value} {w' : Wd} {n : Nat} {x : Int64} (hd : decode M.2.2.1 pc = .ok (.lstore n, 2)) (hn9 : n + 1 < M.2.2.2.1) (hlv : lset2 lv n (.long x) = lv') (k : EW M sc (pc + 2) lv' st w r w') : EW M sc pc lv (.long x :: st) w r w' := by
  subst hlv; exact e_lstore hd hn9 k
theorem s_inc (lv' : List Value) {M : Mt} {sc : Option (Nat × (Nat → Int32))} {pc : Nat} {lv st : List Value} {w : Wd} {r : Option Value} {w' : Wd} {i : Nat} {n : Int} {x : Int32} (v : Int32) (hd : decode M.2.2.1 pc = .ok (.iinc i n, 3)) (hv : Int32.ofInt n = v) (hl : lv[i]? = some (.int x)) (hn9 : i < M.2.2.2.1) (hlv : lset lv i (.int (x + v)) = lv') (k : EW M sc (pc + 3) lv' st w r w') : EW M sc pc lv st w r w' := by
  subst hlv; subst hv; exact e_iinc hd hl hn9 k
theorem e_dr (lv' : List Value) {M : Mt} {sc : Option (Nat × (Nat → Int32))} {pc : Nat} {lv st : List Value} {w : Wd} {r : Option Value} {w' : Wd} (i : Nat) (h : lv.set i dmy = lv') (k : EW M sc pc lv' st w r w') : EW M sc pc lv st w r w' := by
  subst h; exact e_drop i k
theorem c_V1 {M M' : Mt} {sc : Option (Nat × (Nat → Int32))} {pc idx i ci n : Nat} {lv st As rest fs : List Value} {w w1 : Wd} {r : Option Value} {v : Value} {w' : Wd} (hd : decode M.2.2.1 pc = .ok (.invokevirtual idx, 3)) (hl : mLk M.1 idx M'.2.1) (hf : mV M' n ci) (hdp : M'.2.2.2.2.2 + 1 ≤ M.2.2.2.2.2)
    (hc : CW M' (.ref i :: As) w (some v) w1) (hw : w[i]? = some (oB ci fs)) (hst : st = As.reverse ++ .ref i :: rest) (hlen : As.length = n) (hsum : (rest.map Value.category).sum ≤ 8) (kk : EW M sc (pc + 3) lv (v :: rest) w1 r w') : EW M sc pc lv st w r w' := c_V hd hl hf hdp hc hw hst hlen hsum kk
theorem c_V0 {M M' : Mt} {sc : Option (Nat × (Nat → Int32))} {pc idx i ci n : Nat} {lv st As rest fs : List Value} {w w1 : Wd} {r : Option Value} {w' : Wd} (hd : decode M.2.2.1 pc = .ok (.invokevirtual idx, 3)) (hl : mLk M.1 idx M'.2.1) (hf : mV M' n ci) (hdp : M'.2.2.2.2.2 + 1 ≤ M.2.2.2.2.2)
    (hc : CW M' (.ref i :: As) w none w1) (hw : w[i]? = some (oB ci fs)) (hst : st = As.reverse ++ .ref i :: rest) (hlen : As.length = n) (hsum : (rest.map Value.category).sum ≤ 8) (kk : EW M sc (pc + 3) lv rest w1 r w') : EW M sc pc lv st w r w' := c_V hd hl hf hdp hc hw hst hlen hsum kk
theorem c_S1 {M M' : Mt} {sc : Option (Nat × (Nat → Int32))} {pc idx n : Nat} {lv st As rest : List Value} {w w1 : Wd} {r : Option Value} {v : Value} {w' : Wd} (hd : decode M.2.2.1 pc = .ok (.invokestatic idx, 3)) (hl : mLk M.1 idx M'.2.1) (hf : mS M' n) (hdp : M'.2.2.2.2.2 + 1 ≤ M.2.2.2.2.2)
    (hc : CW M' As w (some v) w1) (hst : st = As.reverse ++ rest) (hlen : As.length = n) (hsum : (rest.map Value.category).sum ≤ 8) (kk : EW M sc (pc + 3) lv (v :: rest) w1 r w') : EW M sc pc lv st w r w' := c_S hd hl hf hdp hc hst hlen hsum kk
theorem gse {w : Wd} {i : Nat} {e0 e : Cel} (h : w[i]? = some e0) : (w.set i e)[i]? = some e := List.getElem?_set_self (List.getElem?_eq_some_iff.mp h).1
theorem gne {w : Wd} {i j : Nat} {e x : Cel} (h : i ≠ j) (hw : w[j]? = some e) : (w.set i x)[j]? = some e := by rw [List.getElem?_set_ne h]; exact hw
theorem set_id {w : Wd} {i : Nat} {e : Cel} (h : w[i]? = some e) : w.set i e = w := by
  apply List.ext_getElem?
  intro j
  by_cases hj : i = j
  · subst hj
    rw [gse h, h]
  · rw [List.getElem?_set_ne hj]
theorem nz {w : Wd} {i c : Nat} {fs : List Value} (h0 : w[0]? = some scrC) (h : w[i]? = some (oB c fs)) : i ≠ 0 := fun e => by subst e; rw [h0] at h; cases h
/-! first methods, by hand -/
end
section
/-! pasted from the kit: laws/BITS, COUNTS, NUMBERS -/
theorem fa_lt (a b : Int32) : a < b ↔ a.toInt < b.toInt := Int32.lt_iff_toInt_lt
theorem fa_le (a b : Int32) : a ≤ b ↔ a.toInt ≤ b.toInt := Int32.le_iff_toInt_le
theorem fa_eq (a b : Int32) : a = b ↔ a.toInt = b.toInt := Int32.toInt_inj.symm
theorem fa_lt64 (a b : Int64) : a < b ↔ a.toInt < b.toInt := Int64.lt_iff_toInt_lt
theorem fa_le64 (a b : Int64) : a ≤ b ↔ a.toInt ≤ b.toInt := Int64.le_iff_toInt_le
theorem fa_eq64 (a b : Int64) : a = b ↔ a.toInt = b.toInt := Int64.toInt_inj.symm
theorem fa_wide_lt (a b : Int32) : a.toInt64 < b.toInt64 ↔ a < b := by rw [fa_lt64, fa_lt, Int32.toInt_toInt64, Int32.toInt_toInt64]
theorem fa_wide_le (a b : Int32) : a.toInt64 ≤ b.toInt64 ↔ a ≤ b := by rw [fa_le64, fa_le, Int32.toInt_toInt64, Int32.toInt_toInt64]
theorem fa_wide_eq (a b : Int32) : a.toInt64 = b.toInt64 ↔ a = b := by rw [fa_eq64, fa_eq, Int32.toInt_toInt64, Int32.toInt_toInt64]
theorem fa_lit (n : Nat) : (OfNat.ofNat n : Int32) = nI n := rfl
theorem fa_litL (n : Nat) : (OfNat.ofNat n : Int64) = lN n := rfl
theorem fa_and (a b : Nat) : nI a &&& nI b = nI (a &&& b) := by
  apply Int32.toBitVec_inj.1
  show BitVec.ofNat 32 a &&& BitVec.ofNat 32 b = BitVec.ofNat 32 (a &&& b)
  apply BitVec.eq_of_getLsbD_eq
  intro i hi
  simp [hi]
theorem fa_mask (n k : Nat) : nI n &&& nI (2 ^ k - 1) = nI (n % 2 ^ k) := by rw [fa_and, Nat.and_two_pow_sub_one_eq_mod]
theorem wb_tb (n : Nat) : (lN n).toBitVec = BitVec.ofNat 64 n := rfl
theorem wb_inj {a b : Int64} (h : a.toBitVec = b.toBitVec) : a = b := Int64.toBitVec_inj.mp h
theorem wb_tn {n : Nat} (h : n < 2 ^ 64) : (lN n).toBitVec.toNat = n := by rw [wb_tb, BitVec.toNat_ofNat, Nat.mod_eq_of_lt h]
theorem wb_of (x : Int64) : ∃ n, n < 2 ^ 64 ∧ x = lN n := ⟨x.toBitVec.toNat, x.toBitVec.isLt, wb_inj (by rw [wb_tb]; simp)⟩
theorem wb_of32 (x : Int32) : ∃ n, n < 2 ^ 32 ∧ x = nI n := ⟨x.toBitVec.toNat, x.toBitVec.isLt, Int32.toBitVec_inj.mp (by show _ = BitVec.ofNat 32 _; simp)⟩
theorem wb_c : ∀ k, k < 64 → ((nI k).toInt64 &&& 63) = lN k := by decide +kernel
theorem wb_cu : ∀ k, k < 64 → ((nI k).toInt64.toUInt64 &&& Int64.toUInt64 63) = UInt64.ofNat k := by decide +kernel
theorem wb_sm : ∀ k, k < 64 → (BitVec.ofNat 64 k).smod 64 = BitVec.ofNat 64 k := by decide +kernel
theorem wb_pw {a b : Nat} (h : a ≤ b) : 2 ^ b = 2 ^ a * 2 ^ (b - a) := by rw [← Nat.pow_add]; congr 1; omega
theorem wb_lt2 {a b : Nat} (h : a < b) : 2 ^ a < 2 ^ b := Nat.pow_lt_pow_right (by decide) h
theorem wb_mod (n : Nat) : lN n = lN (n % 2 ^ 64) := wb_inj (by rw [wb_tb, wb_tb]; apply BitVec.eq_of_toNat_eq; rw [BitVec.toNat_ofNat, BitVec.toNat_ofNat, Nat.mod_mod])
theorem wb_shr {n k : Nat} (hn : n < 2 ^ 64) (hk : k < 64) : ((lN n).toUInt64 >>> ((nI k).toInt64.toUInt64 &&& Int64.toUInt64 63)).toInt64 = lN (n / 2 ^ k) := by
  rw [wb_cu k hk]
  apply wb_inj
  apply BitVec.eq_of_toNat_eq
  show ((lN n).toUInt64 >>> UInt64.ofNat k).toNat = (BitVec.ofNat 64 _).toNat
  have h1 : (UInt64.ofNat k).toNat = k := by
    show (BitVec.ofNat 64 k).toNat = k
    rw [BitVec.toNat_ofNat, Nat.mod_eq_of_lt (by omega)]
  have h2 : (lN n).toUInt64.toNat = n := wb_tn hn
  rw [UInt64.toNat_shiftRight, h1, h2, Nat.mod_eq_of_lt hk, Nat.shiftRight_eq_div_pow, BitVec.toNat_ofNat, Nat.mod_eq_of_lt (Nat.lt_of_le_of_lt (Nat.div_le_self _ _) hn)]
theorem wb_shl (n : Nat) {k : Nat} (hk : k < 64) : lN n <<< ((nI k).toInt64 &&& 63) = lN (n * 2 ^ k) := by
  rw [wb_c k hk]
  apply wb_inj
  rw [Int64.toBitVec_shiftLeft, wb_tb, wb_tb, wb_tb, wb_sm k hk]
  apply BitVec.eq_of_toNat_eq
  rw [BitVec.shiftLeft_eq', BitVec.toNat_shiftLeft, BitVec.toNat_ofNat, BitVec.toNat_ofNat, BitVec.toNat_ofNat, Nat.mod_eq_of_lt (show k < 2 ^ 64 by omega), Nat.shiftLeft_eq, Nat.mul_mod, Nat.mod_mod, ← Nat.mul_mod]
theorem fb_andL (a b : Nat) : lN a &&& lN b = lN (a &&& b) := by
  apply Int64.toBitVec_inj.1
  show BitVec.ofNat 64 a &&& BitVec.ofNat 64 b = BitVec.ofNat 64 (a &&& b)
  apply BitVec.eq_of_getLsbD_eq
  intro i hi
  simp [hi]
theorem fb_orL (a b : Nat) : lN a ||| lN b = lN (a ||| b) := by
  apply Int64.toBitVec_inj.1
  show BitVec.ofNat 64 a ||| BitVec.ofNat 64 b = BitVec.ofNat 64 (a ||| b)
  apply BitVec.eq_of_getLsbD_eq
  intro i hi
  simp [hi]
theorem fb_xorL (a b : Nat) : lN a ^^^ lN b = lN (a ^^^ b) := by
  apply Int64.toBitVec_inj.1
  show BitVec.ofNat 64 a ^^^ BitVec.ofNat 64 b = BitVec.ofNat 64 (a ^^^ b)
  apply BitVec.eq_of_getLsbD_eq
  intro i hi
  simp [hi]
/-! WORDS: letters below 4, two bits each, the first lowest -/
def enc : List Nat → Nat
  | [] => 0
  | a :: u => a + 4 * enc u
def okL (u : List Nat) : Prop := ∀ a ∈ u, a < 4
def okW (u : List Nat) : Prop := u.length ≤ 24 ∧ okL u
theorem okL_get {u : List Nat} (h : okL u) (i : Nat) : u.getD i 0 < 4 := by
  by_cases hi : i < u.length
  · rw [List.getD_eq_getElem?_getD, List.getElem?_eq_getElem hi]
    exact h _ (List.getElem_mem hi)
  · rw [List.getD_eq_getElem?_getD, List.getElem?_eq_none (by omega)]
    decide
theorem enc_lt : ∀ {u : List Nat}, okL u → enc u < 4 ^ u.length
  | [], _ => by simp [enc]
  | a :: u, h => by
    have h1 := enc_lt (u := u) (fun x hx => h x (List.mem_cons_of_mem _ hx))
    have h2 := h a List.mem_cons_self
    simp only [enc, List.length_cons, Nat.pow_succ]
    omega
theorem enc_lt48 {u : List Nat} (h : okW u) : enc u < 2 ^ 48 := by
  have h1 := enc_lt h.2
  have h2 : 4 ^ u.length ≤ 4 ^ 24 := Nat.pow_le_pow_right (by decide) h.1
  have h3 : (4 : Nat) ^ 24 = 2 ^ 48 := by decide
  omega
theorem enc_bit : ∀ (u : List Nat), okL u → ∀ j, (enc u).testBit j = (u.getD (j / 2) 0).testBit (j % 2)
  | [], _, j => by simp [enc]
  | a :: u, h, j => by
    have h1 := enc_bit u (fun x hx => h x (List.mem_cons_of_mem _ hx))
    have h2 : a < 2 ^ 2 := h a List.mem_cons_self
    have e : enc (a :: u) = 2 ^ 2 * enc u + a := by simp [enc]; omega
    rw [e, Nat.testBit_two_pow_mul_add _ h2]
    by_cases hj : j < 2
    · rw [if_pos hj, show j / 2 = 0 by omega, show j % 2 = j by omega]
      rfl
    · rw [if_neg hj, h1, show j / 2 = (j - 2) / 2 + 1 by omega, show j % 2 = (j - 2) % 2 by omega]
      rfl
theorem enc_div : ∀ (u : List Nat) (i : Nat), okL u → enc u / 4 ^ i % 4 = u.getD i 0
  | [], i, _ => by simp [enc]
  | a :: u, 0, h => by
    have h2 := h a List.mem_cons_self
    simp [enc]; omega
  | a :: u, i + 1, h => by
    have h1 := enc_div u i (fun x hx => h x (List.mem_cons_of_mem _ hx))
    have h2 := h a List.mem_cons_self
    have e : enc (a :: u) / 4 = enc u := by simp [enc]; omega
    rw [Nat.pow_succ, Nat.mul_comm, ← Nat.div_div_eq_div_mul, e, h1]
    rfl
theorem enc_inj : ∀ {u v : List Nat}, okL u → okL v → u.length = v.length → enc u = enc v → u = v
  | [], [], _, _, _, _ => rfl
  | [], b :: v, _, _, h, _ => by simp at h
  | a :: u, [], _, _, h, _ => by simp at h
  | a :: u, b :: v, h1, h2, h3, h4 => by
    have e1 := h1 a List.mem_cons_self
    have e2 := h2 b List.mem_cons_self
    simp [enc] at h4
    have e3 : enc u = enc v := by omega
    have e4 : a = b := by omega
    rw [e4, enc_inj (fun x hx => h1 x (List.mem_cons_of_mem _ hx)) (fun x hx => h2 x (List.mem_cons_of_mem _ hx)) (by simpa using h3) e3]
def usr (x : Int64) (k : Int32) : Int64 := (x.toUInt64 >>> (k.toInt64.toUInt64 &&& Int64.toUInt64 63)).toInt64
def bLet (b : Int64) (i : Int32) : Int32 := (usr b (2 * i)).toInt32 &&& 3
def bAhd (b : Int64) (i : Int32) : Int64 := b &&& ((1 : Int64) <<< ((2 * i).toInt64 &&& 63) - 1)
def bTrn (b : Int64) (i l : Int32) : Int64 := (b &&& (((3 : Int64) <<< ((2 * i).toInt64 &&& 63)) ^^^ (-1))) ||| (l.toInt64 <<< ((2 * i).toInt64 &&& 63))
def bLos (b : Int64) (i : Int32) : Int64 := bAhd b i ||| (usr b (2 * i + 2) <<< ((2 * i).toInt64 &&& 63))
def bGan (b : Int64) (i l : Int32) : Int64 := (bAhd b i ||| (l.toInt64 <<< ((2 * i).toInt64 &&& 63))) ||| (usr b (2 * i) <<< ((2 * i + 2).toInt64 &&& 63))
theorem n2 (i : Nat) : (2 : Int32) * nI i = nI (2 * i) := pk_mul 2 i
theorem n22 (i : Nat) : nI (2 * i) + 2 = nI (2 * i + 2) := nI_add (2 * i) 2
theorem p4 (i : Nat) : (2 : Nat) ^ (2 * i) = 4 ^ i := by rw [Nat.pow_mul]
theorem bLet_w {u : List Nat} (h : okW u) {i : Nat} (hi : i < 32) : bLet (lN (enc u)) (nI i) = nI (u.getD i 0) := by
  have h1 := enc_lt48 h
  unfold bLet usr
  rw [n2, wb_shr (by omega) (by omega), lN_i, p4]
  have e := fa_mask (enc u / 4 ^ i) 2
  rw [show (2 : Nat) ^ 2 = 4 from rfl] at e
  rw [show (3 : Int32) = nI (4 - 1) from rfl, e, enc_div u i h.2]
theorem lN_m1 : (-1 : Int64) = lN (2 ^ 64 - 1) := by decide +kernel
theorem bAhd_w {n : Nat} {i : Nat} (hi : i < 32) : bAhd (lN n) (nI i) = lN (n % 4 ^ i) := by
  unfold bAhd
  rw [n2, show (1 : Int64) = lN 1 from rfl, wb_shl 1 (by omega), Nat.one_mul, lN_sub (Nat.one_le_two_pow), fb_andL, Nat.and_two_pow_sub_one_eq_mod, p4]
theorem bit_hi {n j k : Nat} (h : n < 2 ^ k) (hj : k ≤ j) : n.testBit j = false := Nat.testBit_lt_two_pow (Nat.lt_of_lt_of_le h (Nat.pow_le_pow_right (by decide) hj))
theorem bTrn_w {u : List Nat} (h : okW u) {i l : Nat} (hi : i < u.length) (hl : l < 4) : bTrn (lN (enc u)) (nI i) (nI l) = lN (enc (u.set i l)) := by
  have h1 := enc_lt48 h
  have h24 := h.1
  have hok : okL (u.set i l) := fun a ha => by
    rcases List.mem_or_eq_of_mem_set ha with h9 | h9
    · exact h.2 a h9
    · omega
  unfold bTrn
  rw [n2, show (3 : Int64) = lN 3 from rfl, lN_m1, wb_shl 3 (by omega), nI_l (by omega), wb_shl l (by omega), fb_xorL, fb_andL, fb_orL]
  congr 1
  apply Nat.eq_of_testBit_eq
  intro j
  rw [Nat.testBit_or, Nat.testBit_and, Nat.testBit_xor, Nat.testBit_mul_two_pow, Nat.testBit_mul_two_pow, Nat.testBit_two_pow_sub_one, enc_bit _ h.2, enc_bit _ hok]
  have hb3 : ∀ k, Nat.testBit 3 k = decide (k < 2) := fun k => by
    have := Nat.testBit_two_pow_sub_one 2 k
    simpa using this
  rw [hb3]
  by_cases c1 : j < 2 * i
  · have e1 : ¬ 2 * i ≤ j := by omega
    have e2 : i ≠ j / 2 := by omega
    have e3 : j < 64 := by omega
    simp [e1, e3, List.getD_eq_getElem?_getD, List.getElem?_set_ne e2]
  · by_cases c2 : j < 2 * i + 2
    · have e1 : 2 * i ≤ j := by omega
      have e2 : j / 2 = i := by omega
      have e3 : j - 2 * i < 2 := by omega
      have e4 : j % 2 = j - 2 * i := by omega
      have e5 : j < 64 := by omega
      simp [e1, e2, e3, e4, e5, List.getD_eq_getElem?_getD, List.getElem?_set_self hi]
    · have e1 : 2 * i ≤ j := by omega
      have e2 : i ≠ j / 2 := by omega
      have e3 : ¬ j - 2 * i < 2 := by omega
      have e4 : l.testBit (j - 2 * i) = false := bit_hi (k := 2) (by omega) (by omega)
      by_cases e5 : j < 64
      · simp [e1, e3, e4, e5, List.getD_eq_getElem?_getD, List.getElem?_set_ne e2]
      · have e6 : u.length ≤ j / 2 := by omega
        simp [e1, e3, e4, List.getD_eq_getElem?_getD, List.getElem?_set_ne e2, List.getElem?_eq_none e6]
theorem erase_get {u : List Nat} {i k : Nat} : (u.eraseIdx i).getD k 0 = if k < i then u.getD k 0 else u.getD (k + 1) 0 := by
  rw [List.getD_eq_getElem?_getD, List.getElem?_eraseIdx]
  by_cases h : k < i
  · simp [h, List.getD_eq_getElem?_getD]
  · simp [h, List.getD_eq_getElem?_getD]
theorem bLos_w {u : List Nat} (h : okW u) {i : Nat} (hi : i < u.length) : bLos (lN (enc u)) (nI i) = lN (enc (u.eraseIdx i)) := by
  have h1 := enc_lt48 h
  have h24 := h.1
  have hok : okL (u.eraseIdx i) := fun a ha => h.2 a (List.mem_of_mem_eraseIdx ha)
  unfold bLos usr
  rw [bAhd_w (by omega), n2, n22, wb_shr (by omega) (by omega), wb_shl _ (by omega), fb_orL]
  congr 1
  apply Nat.eq_of_testBit_eq
  intro j
  rw [Nat.testBit_or, Nat.testBit_mul_two_pow, ← p4, Nat.testBit_mod_two_pow, Nat.testBit_div_two_pow, enc_bit _ h.2, enc_bit _ h.2, enc_bit _ hok, erase_get]
  by_cases c1 : j < 2 * i
  · have e1 : ¬ 2 * i ≤ j := by omega
    have e2 : j / 2 < i := by omega
    simp [c1, e1, e2]
  · have e1 : 2 * i ≤ j := by omega
    have e2 : ¬ j / 2 < i := by omega
    have e3 : (j - 2 * i + (2 * i + 2)) / 2 = j / 2 + 1 := by omega
    have e4 : (j - 2 * i + (2 * i + 2)) % 2 = j % 2 := by omega
    simp [c1, e1, e2, e3, e4]
theorem ins_get {u : List Nat} {i k l : Nat} (hi : i ≤ u.length) : (u.insertIdx i l).getD k 0 = if k < i then u.getD k 0 else if k = i then l else u.getD (k - 1) 0 := by
  rw [List.getD_eq_getElem?_getD, List.getElem?_insertIdx]
  by_cases h : k < i
  · simp [h, List.getD_eq_getElem?_getD]
  · by_cases h2 : k = i
    · subst h2
      simp [hi]
    · simp [h, h2, List.getD_eq_getElem?_getD]
theorem bGan_w {u : List Nat} (h : okW u) {i l : Nat} (hi : i ≤ u.length) (hl : l < 4) : bGan (lN (enc u)) (nI i) (nI l) = lN (enc (u.insertIdx i l)) := by
  have h1 := enc_lt48 h
  have h24 := h.1
  have hok : okL (u.insertIdx i l) := fun a ha => by
    rcases (List.mem_insertIdx hi).mp ha with h9 | h9
    · omega
    · exact h.2 a h9
  unfold bGan usr
  rw [bAhd_w (by omega), n2, n22, wb_shr (by omega) (by omega), nI_l (by omega), wb_shl l (by omega), wb_shl (enc u / _) (by omega), fb_orL, fb_orL]
  congr 1
  apply Nat.eq_of_testBit_eq
  intro j
  rw [Nat.testBit_or, Nat.testBit_or, Nat.testBit_mul_two_pow, Nat.testBit_mul_two_pow, ← p4, Nat.testBit_mod_two_pow, Nat.testBit_div_two_pow, enc_bit _ h.2, enc_bit _ h.2, enc_bit _ hok, ins_get hi]
  by_cases c1 : j < 2 * i
  · have e1 : ¬ 2 * i ≤ j := by omega
    have e2 : j / 2 < i := by omega
    have e3 : ¬ 2 * i + 2 ≤ j := by omega
    simp [c1, e1, e2, e3]
  · by_cases c2 : j < 2 * i + 2
    · have e1 : 2 * i ≤ j := by omega
      have e2 : ¬ j / 2 < i := by omega
      have e3 : ¬ 2 * i + 2 ≤ j := by omega
      have e4 : j / 2 = i := by omega
      have e5 : j - 2 * i = j % 2 := by omega
      simp [c1, e1, e3, e4, e5]
    · have e1 : 2 * i ≤ j := by omega
      have e2 : ¬ j / 2 < i := by omega
      have e3 : 2 * i + 2 ≤ j := by omega
      have e4 : ¬ j / 2 = i := by omega
      have e5 : l.testBit (j - 2 * i) = false := bit_hi (k := 2) (by omega) (by omega)
      have e6 : (j - (2 * i + 2) + 2 * i) / 2 = j / 2 - 1 := by omega
      have e7 : (j - (2 * i + 2) + 2 * i) % 2 = j % 2 := by omega
      simp [c1, e1, e2, e3, e4, e5, e6, e7]
end
section
/-! LostLetters$Row -/
abbrev rwC (b : Int64) (n : Int32) : Cel := oB 4 [.long b, .int n]
theorem r_init (w : Wd) (i : Nat) : CW mX4_init [.ref i] w none w := by
  refine cw_of (M := mX4_init) fx_X4_init (lv := [.ref i]) rfl (Nat.le_of_ble_eq_true rfl) ?_
  refine e_aload_n dX4_init_0 rfl (pn 1 rfl ?_)
  refine e_oinit dX4_init_1 lo_X4 lo_i lo_c (by decide) (Nat.le_of_ble_eq_true rfl) (pn 4 rfl ?_)
  exact e_vret dX4_init_4 rfl rfl rfl
theorem r_put {w : Wd} {i : Nat} {b0 : Int64} {n0 : Int32} (n : Int32) (b : Int64) (h : w[i]? = some (rwC b0 n0)) : CW mX4_put [.ref i, .int n, .long b] w none (w.set i (rwC b n)) := by
  refine cw_of (M := mX4_put) fx_X4_put (lv := [.ref i, .int n, .long b, dmy]) rfl (Nat.le_of_ble_eq_true rfl) ?_
  refine e_aload_n dX4_put_0 rfl (pn 1 rfl ?_)
  refine e_iload_n dX4_put_1 rfl (pn 2 rfl ?_)
  refine e_put dX4_put_2 fp_X4_15 h rfl (Nat.le_of_ble_eq_true rfl) (pn 5 rfl ?_)
  refine e_aload_n dX4_put_5 rfl (pn 6 rfl ?_)
  refine e_lload_n dX4_put_6 rfl (pn 7 rfl ?_)
  refine e_put dX4_put_7 fp_X4_19 (gse h) rfl (Nat.le_of_ble_eq_true rfl) (pn 10 rfl ?_)
  exact e_vret dX4_put_10 rfl rfl (by simp)
theorem r_clear {w : Wd} {i : Nat} {b0 : Int64} {n0 : Int32} (h : w[i]? = some (rwC b0 n0)) : CW mX4_clear [.ref i] w none (w.set i (rwC 0 0)) := by
  refine cw_of (M := mX4_clear) fx_X4_clear (lv := [.ref i]) rfl (Nat.le_of_ble_eq_true rfl) ?_
  refine e_aload_n dX4_clear_0 rfl (pn 1 rfl ?_)
  refine e_ic (0) dX4_clear_1 (by decide) (pn 2 rfl ?_)
  refine e_lc (0) dX4_clear_2 (by decide) (pn 3 rfl ?_)
  refine c_V0 dX4_clear_3 ml_X4_9 mv_X4_put (by decide) (r_put 0 0 h) h rfl rfl (Nat.le_of_ble_eq_true rfl) (pn 6 rfl ?_)
  exact e_vret dX4_clear_6 rfl rfl rfl
theorem r_become {w : Wd} {i j : Nat} {b0 b : Int64} {n0 n : Int32} (h : w[i]? = some (rwC b0 n0)) (h2 : w[j]? = some (rwC b n)) : CW mX4_become [.ref i, .ref j] w none (w.set i (rwC b n)) := by
  refine cw_of (M := mX4_become) fx_X4_become (lv := [.ref i, .ref j]) rfl (Nat.le_of_ble_eq_true rfl) ?_
  refine e_aload_n dX4_become_0 rfl (pn 1 rfl ?_)
  refine e_aload_n dX4_become_1 rfl (pn 2 rfl ?_)
  refine e_get dX4_become_2 fl_X4_15 h2 rfl (pn 5 rfl ?_)
  refine e_aload_n dX4_become_5 rfl (pn 6 rfl ?_)
  refine e_get dX4_become_6 fl_X4_19 h2 rfl (pn 9 rfl ?_)
  refine c_V0 dX4_become_9 ml_X4_9 mv_X4_put (by decide) (r_put n b h) h rfl rfl (Nat.le_of_ble_eq_true rfl) (pn 12 rfl ?_)
  exact e_vret dX4_become_12 rfl rfl rfl
theorem r_isFull {w : Wd} {i : Nat} {b : Int64} {n : Int32} (h : w[i]? = some (rwC b n)) : CW mX4_isFull [.ref i] w (some (.int (if n < 24 then 0 else 1))) w := by
  refine cw_of (M := mX4_isFull) fx_X4_isFull (lv := [.ref i]) rfl (Nat.le_of_ble_eq_true rfl) ?_
  refine e_aload_n dX4_isFull_0 rfl (pn 1 rfl ?_)
  refine e_get dX4_isFull_1 fl_X4_15 h rfl (pn 4 rfl ?_)
  refine e_bi (24) dX4_isFull_4 (by decide) (pn 6 rfl ?_)
  refine e_icmp_lt 13 dX4_isFull_6 (by decide) (fun c6 => ?_) (fun c6 => pn 9 rfl ?_)
  · refine e_ic (0) dX4_isFull_13 (by decide) (pn 14 rfl ?_)
    exact e_zret dX4_isFull_14 rfl (by decide) (by rw [if_pos c6]) rfl
  · refine e_ic (1) dX4_isFull_9 (by decide) (pn 10 rfl ?_)
    refine e_goto 14 dX4_isFull_10 (by decide) ?_
    exact e_zret dX4_isFull_14 rfl (by decide) (by rw [if_neg c6]) rfl
theorem r_letter {w : Wd} {i : Nat} {b : Int64} {n : Int32} (x : Int32) (h : w[i]? = some (rwC b n)) : CW mX4_letter [.ref i, .int x] w (some (.int (bLet b x))) w := by
  refine cw_of (M := mX4_letter) fx_X4_letter (lv := [.ref i, .int x]) rfl (Nat.le_of_ble_eq_true rfl) ?_
  refine e_aload_n dX4_letter_0 rfl (pn 1 rfl ?_)
  refine e_get dX4_letter_1 fl_X4_19 h rfl (pn 4 rfl ?_)
  refine e_ic (2) dX4_letter_4 (by decide) (pn 5 rfl ?_)
  refine e_iload_n dX4_letter_5 rfl (pn 6 rfl ?_)
  refine e_imul dX4_letter_6 (pn 7 rfl ?_)
  refine e_lushr dX4_letter_7 (pn 8 rfl ?_)
  refine e_l2i dX4_letter_8 (pn 9 rfl ?_)
  refine e_ic (3) dX4_letter_9 (by decide) (pn 10 rfl ?_)
  refine e_iand dX4_letter_10 (pn 11 rfl ?_)
  exact e_iret dX4_letter_11 rfl rfl rfl
theorem r_ahead {w : Wd} {i : Nat} {b : Int64} {n : Int32} (x : Int32) (h : w[i]? = some (rwC b n)) : CW mX4_ahead [.ref i, .int x] w (some (.long (bAhd b x))) w := by
  refine cw_of (M := mX4_ahead) fx_X4_ahead (lv := [.ref i, .int x]) rfl (Nat.le_of_ble_eq_true rfl) ?_
  refine e_aload_n dX4_ahead_0 rfl (pn 1 rfl ?_)
  refine e_get dX4_ahead_1 fl_X4_19 h rfl (pn 4 rfl ?_)
  refine e_lc (1) dX4_ahead_4 (by decide) (pn 5 rfl ?_)
  refine e_ic (2) dX4_ahead_5 (by decide) (pn 6 rfl ?_)
  refine e_iload_n dX4_ahead_6 rfl (pn 7 rfl ?_)
  refine e_imul dX4_ahead_7 (pn 8 rfl ?_)
  refine e_lshl dX4_ahead_8 (pn 9 rfl ?_)
  refine e_lc (1) dX4_ahead_9 (by decide) (pn 10 rfl ?_)
  refine e_lsub dX4_ahead_10 (pn 11 rfl ?_)
  refine e_land dX4_ahead_11 (pn 12 rfl ?_)
  exact e_lret dX4_ahead_12 rfl rfl rfl
theorem r_turn {w : Wd} {i : Nat} {b : Int64} {n : Int32} (x l : Int32) (h : w[i]? = some (rwC b n)) : CW mX4_turn [.ref i, .int x, .int l] w none (w.set i (rwC (bTrn b x l) n)) := by
  refine cw_of (M := mX4_turn) fx_X4_turn (lv := [.ref i, .int x, .int l]) rfl (Nat.le_of_ble_eq_true rfl) ?_
  refine e_aload_n dX4_turn_0 rfl (pn 1 rfl ?_)
  refine e_aload_n dX4_turn_1 rfl (pn 2 rfl ?_)
  refine e_get dX4_turn_2 fl_X4_19 h rfl (pn 5 rfl ?_)
  refine e_ldc2 dX4_turn_5 lk_X4_23 (pn 8 rfl ?_)
  refine e_ic (2) dX4_turn_8 (by decide) (pn 9 rfl ?_)
  refine e_iload_n dX4_turn_9 rfl (pn 10 rfl ?_)
  refine e_imul dX4_turn_10 (pn 11 rfl ?_)
  refine e_lshl dX4_turn_11 (pn 12 rfl ?_)
  refine e_ldc2 dX4_turn_12 lk_X4_25 (pn 15 rfl ?_)
  refine e_lxor dX4_turn_15 (pn 16 rfl ?_)
  refine e_land dX4_turn_16 (pn 17 rfl ?_)
  refine e_iload_n dX4_turn_17 rfl (pn 18 rfl ?_)
  refine e_i2l dX4_turn_18 (pn 19 rfl ?_)
  refine e_ic (2) dX4_turn_19 (by decide) (pn 20 rfl ?_)
  refine e_iload_n dX4_turn_20 rfl (pn 21 rfl ?_)
  refine e_imul dX4_turn_21 (pn 22 rfl ?_)
  refine e_lshl dX4_turn_22 (pn 23 rfl ?_)
  refine e_lor dX4_turn_23 (pn 24 rfl ?_)
  refine e_put dX4_turn_24 fp_X4_19 h rfl (Nat.le_of_ble_eq_true rfl) (pn 27 rfl ?_)
  exact e_vret dX4_turn_27 rfl rfl rfl
theorem r_lose {w : Wd} {i : Nat} {b : Int64} {n : Int32} (x : Int32) (h : w[i]? = some (rwC b n)) : CW mX4_lose [.ref i, .int x] w none (w.set i (rwC (bLos b x) (n - 1))) := by
  refine cw_of (M := mX4_lose) fx_X4_lose (lv := [.ref i, .int x]) rfl (Nat.le_of_ble_eq_true rfl) ?_
  refine e_aload_n dX4_lose_0 rfl (pn 1 rfl ?_)
  refine e_aload_n dX4_lose_1 rfl (pn 2 rfl ?_)
  refine e_iload_n dX4_lose_2 rfl (pn 3 rfl ?_)
  refine c_V1 dX4_lose_3 ml_X4_27 mv_X4_ahead (by decide) (r_ahead x h) h rfl rfl (Nat.le_of_ble_eq_true rfl) (pn 6 rfl ?_)
  refine e_aload_n dX4_lose_6 rfl (pn 7 rfl ?_)
  refine e_get dX4_lose_7 fl_X4_19 h rfl (pn 10 rfl ?_)
  refine e_ic (2) dX4_lose_10 (by decide) (pn 11 rfl ?_)
  refine e_iload_n dX4_lose_11 rfl (pn 12 rfl ?_)
  refine e_imul dX4_lose_12 (pn 13 rfl ?_)
  refine e_ic (2) dX4_lose_13 (by decide) (pn 14 rfl ?_)
  refine e_iadd dX4_lose_14 (pn 15 rfl ?_)
  refine e_lushr dX4_lose_15 (pn 16 rfl ?_)
  refine e_ic (2) dX4_lose_16 (by decide) (pn 17 rfl ?_)
  refine e_iload_n dX4_lose_17 rfl (pn 18 rfl ?_)
  refine e_imul dX4_lose_18 (pn 19 rfl ?_)
  refine e_lshl dX4_lose_19 (pn 20 rfl ?_)
  refine e_lor dX4_lose_20 (pn 21 rfl ?_)
  refine e_put dX4_lose_21 fp_X4_19 h rfl (Nat.le_of_ble_eq_true rfl) (pn 24 rfl ?_)
  refine e_aload_n dX4_lose_24 rfl (pn 25 rfl ?_)
  refine e_dup dX4_lose_25 rfl (pn 26 rfl ?_)
  refine e_get dX4_lose_26 fl_X4_15 (gse h) rfl (pn 29 rfl ?_)
  refine e_ic (1) dX4_lose_29 (by decide) (pn 30 rfl ?_)
  refine e_isub dX4_lose_30 (pn 31 rfl ?_)
  refine e_put dX4_lose_31 fp_X4_15 (gse h) rfl (Nat.le_of_ble_eq_true rfl) (pn 34 rfl ?_)
  exact e_vret dX4_lose_34 rfl rfl (by simp [bLos, usr])
theorem r_gain {w : Wd} {i : Nat} {b : Int64} {n : Int32} (x l : Int32) (h : w[i]? = some (rwC b n)) : CW mX4_gain [.ref i, .int x, .int l] w none (w.set i (rwC (bGan b x l) (n + 1))) := by
  refine cw_of (M := mX4_gain) fx_X4_gain (lv := [.ref i, .int x, .int l]) rfl (Nat.le_of_ble_eq_true rfl) ?_
  refine e_aload_n dX4_gain_0 rfl (pn 1 rfl ?_)
  refine e_aload_n dX4_gain_1 rfl (pn 2 rfl ?_)
  refine e_iload_n dX4_gain_2 rfl (pn 3 rfl ?_)
  refine c_V1 dX4_gain_3 ml_X4_27 mv_X4_ahead (by decide) (r_ahead x h) h rfl rfl (Nat.le_of_ble_eq_true rfl) (pn 6 rfl ?_)
  refine e_iload_n dX4_gain_6 rfl (pn 7 rfl ?_)
  refine e_i2l dX4_gain_7 (pn 8 rfl ?_)
  refine e_ic (2) dX4_gain_8 (by decide) (pn 9 rfl ?_)
  refine e_iload_n dX4_gain_9 rfl (pn 10 rfl ?_)
  refine e_imul dX4_gain_10 (pn 11 rfl ?_)
  refine e_lshl dX4_gain_11 (pn 12 rfl ?_)
  refine e_lor dX4_gain_12 (pn 13 rfl ?_)
  refine e_aload_n dX4_gain_13 rfl (pn 14 rfl ?_)
  refine e_get dX4_gain_14 fl_X4_19 h rfl (pn 17 rfl ?_)
  refine e_ic (2) dX4_gain_17 (by decide) (pn 18 rfl ?_)
  refine e_iload_n dX4_gain_18 rfl (pn 19 rfl ?_)
  refine e_imul dX4_gain_19 (pn 20 rfl ?_)
  refine e_lushr dX4_gain_20 (pn 21 rfl ?_)
  refine e_ic (2) dX4_gain_21 (by decide) (pn 22 rfl ?_)
  refine e_iload_n dX4_gain_22 rfl (pn 23 rfl ?_)
  refine e_imul dX4_gain_23 (pn 24 rfl ?_)
  refine e_ic (2) dX4_gain_24 (by decide) (pn 25 rfl ?_)
  refine e_iadd dX4_gain_25 (pn 26 rfl ?_)
  refine e_lshl dX4_gain_26 (pn 27 rfl ?_)
  refine e_lor dX4_gain_27 (pn 28 rfl ?_)
  refine e_put dX4_gain_28 fp_X4_19 h rfl (Nat.le_of_ble_eq_true rfl) (pn 31 rfl ?_)
  refine e_aload_n dX4_gain_31 rfl (pn 32 rfl ?_)
  refine e_dup dX4_gain_32 rfl (pn 33 rfl ?_)
  refine e_get dX4_gain_33 fl_X4_15 (gse h) rfl (pn 36 rfl ?_)
  refine e_ic (1) dX4_gain_36 (by decide) (pn 37 rfl ?_)
  refine e_iadd dX4_gain_37 (pn 38 rfl ?_)
  refine e_put dX4_gain_38 fp_X4_15 (gse h) rfl (Nat.le_of_ble_eq_true rfl) (pn 41 rfl ?_)
  exact e_vret dX4_gain_41 rfl rfl (by simp [bGan, usr])
theorem r_append {w : Wd} {i : Nat} {b : Int64} {n : Int32} (l : Int32) (h : w[i]? = some (rwC b n)) : CW mX4_append [.ref i, .int l] w none (w.set i (rwC (bGan b n l) (n + 1))) := by
  refine cw_of (M := mX4_append) fx_X4_append (lv := [.ref i, .int l]) rfl (Nat.le_of_ble_eq_true rfl) ?_
  refine e_aload_n dX4_append_0 rfl (pn 1 rfl ?_)
  refine e_aload_n dX4_append_1 rfl (pn 2 rfl ?_)
  refine e_get dX4_append_2 fl_X4_15 h rfl (pn 5 rfl ?_)
  refine e_iload_n dX4_append_5 rfl (pn 6 rfl ?_)
  refine c_V0 dX4_append_6 ml_X4_31 mv_X4_gain (by decide) (r_gain n l h) h rfl rfl (Nat.le_of_ble_eq_true rfl) (pn 9 rfl ?_)
  exact e_vret dX4_append_9 rfl rfl rfl
/-! the same, of words -/
abbrev rowW (u : List Nat) : Cel := rwC (lN (enc u)) (nI u.length)
theorem w_letter {w : Wd} {i : Nat} {u : List Nat} (ok : okW u) (h : w[i]? = some (rowW u)) {k : Nat} (hk : k < 32) : CW mX4_letter [.ref i, .int (nI k)] w (some (.int (nI (u.getD k 0)))) w := by
  have := r_letter (nI k) h
  rw [bLet_w ok hk] at this
  exact this
theorem w_turn {w : Wd} {i : Nat} {u : List Nat} (ok : okW u) (h : w[i]? = some (rowW u)) {k l : Nat} (hk : k < u.length) (hl : l < 4) : CW mX4_turn [.ref i, .int (nI k), .int (nI l)] w none (w.set i (rowW (u.set k l))) := by
  have := r_turn (nI k) (nI l) h
  rw [bTrn_w ok hk hl] at this
  rw [rowW, List.length_set]
  exact this
theorem w_lose {w : Wd} {i : Nat} {u : List Nat} (ok : okW u) (h : w[i]? = some (rowW u)) {k : Nat} (hk : k < u.length) : CW mX4_lose [.ref i, .int (nI k)] w none (w.set i (rowW (u.eraseIdx k))) := by
  have := r_lose (nI k) h
  rw [bLos_w ok hk, show nI u.length - 1 = nI (u.length - 1) from pk_sub (b := 1) (by omega)] at this
  rw [rowW, List.length_eraseIdx_of_lt hk]
  exact this
theorem w_gain {w : Wd} {i : Nat} {u : List Nat} (ok : okW u) (h : w[i]? = some (rowW u)) {k l : Nat} (hk : k ≤ u.length) (hl : l < 4) : CW mX4_gain [.ref i, .int (nI k), .int (nI l)] w none (w.set i (rowW (u.insertIdx k l))) := by
  have := r_gain (nI k) (nI l) h
  rw [bGan_w ok hk hl, nI_1] at this
  rw [rowW, List.length_insertIdx_of_le_length hk]
  exact this
theorem ins_end (u : List Nat) (l : Nat) : u.insertIdx u.length l = u ++ [l] := by
  induction u with
  | nil => rfl
  | cons a u ih => simpa using ih
theorem w_append {w : Wd} {i : Nat} {u : List Nat} (ok : okW u) (h : w[i]? = some (rowW u)) {l : Nat} (hl : l < 4) : CW mX4_append [.ref i, .int (nI l)] w none (w.set i (rowW (u ++ [l]))) := by
  have := r_append (nI l) h
  rw [bGan_w ok (Nat.le_refl _) hl, nI_1, ins_end] at this
  rw [rowW, List.length_append]
  exact this
theorem w_clear {w : Wd} {i : Nat} {b0 : Int64} {n0 : Int32} (h : w[i]? = some (rwC b0 n0)) : CW mX4_clear [.ref i] w none (w.set i (rowW [])) := r_clear h
/-- the first place from p on that has the letter, or how many there are -/
def nxF (u : List Nat) (l : Nat) : Nat → Nat → Nat
  | 0, p => p
  | f + 1, p => if p < u.length ∧ u.getD p 0 ≠ l then nxF u l f (p + 1) else p
def nxW (u : List Nat) (l i : Nat) : Nat := nxF u l (u.length - i) i
theorem w_next_loop {w : Wd} {i : Nat} {u : List Nat} (ok : okW u) (h : w[i]? = some (rowW u)) (l i0 : Nat) (hl : l < 2 ^ 31) : ∀ (f p : Nat), u.length - p ≤ f → p < 2 ^ 30 → EW mX4_next none 2 [.ref i, .int (nI l), .int (nI i0), .int (nI p)] [] w (some (.int (nI (nxF u l f p)))) w := by
  have h24 := ok.1
  have h4 := okL_get ok.2
  intro f
  induction f with
  | zero =>
    intro p hp hp24
    refine e_iload_n dX4_next_2 rfl (pn 3 rfl ?_)
    refine e_aload_n dX4_next_3 rfl (pn 4 rfl ?_)
    refine e_get dX4_next_4 fl_X4_15 h rfl (pn 7 rfl ?_)
    refine e_icmp_ge 25 dX4_next_7 (by decide) (fun c7 => ?_) (fun c7 => pn 10 rfl ?_)
    · refine e_iload_n dX4_next_25 rfl (pn 26 rfl ?_)
      exact e_iret dX4_next_26 rfl rfl rfl
    · exact absurd (nI_le (by omega) (by omega)) c7
  | succ f ih =>
    intro p hp hp24
    refine e_iload_n dX4_next_2 rfl (pn 3 rfl ?_)
    refine e_aload_n dX4_next_3 rfl (pn 4 rfl ?_)
    refine e_get dX4_next_4 fl_X4_15 h rfl (pn 7 rfl ?_)
    refine e_icmp_ge 25 dX4_next_7 (by decide) (fun c7 => ?_) (fun c7 => pn 10 rfl ?_)
    · refine e_iload_n dX4_next_25 rfl (pn 26 rfl ?_)
      have hc : ¬ p < u.length := fun q => nI_ge q (by omega) c7
      exact e_iret dX4_next_26 rfl (by rw [nxF, if_neg (fun q => hc q.1)]) rfl
    · have hc : p < u.length := Nat.lt_of_not_le (fun q => c7 (nI_le q (by omega)))
      refine e_aload_n dX4_next_10 rfl (pn 11 rfl ?_)
      refine e_iload_n dX4_next_11 rfl (pn 12 rfl ?_)
      refine c_V1 dX4_next_12 ml_X4_35 mv_X4_letter (by decide) (w_letter ok h (show p < 32 by omega)) h rfl rfl (Nat.le_of_ble_eq_true rfl) (pn 15 rfl ?_)
      refine e_iload_n dX4_next_15 rfl (pn 16 rfl ?_)
      refine e_icmp_eq 25 dX4_next_16 (by decide) (fun c16 => ?_) (fun c16 => pn 19 rfl ?_)
      · refine e_iload_n dX4_next_25 rfl (pn 26 rfl ?_)
        have e := (nI_eq (by have := h4 p; omega) hl).mp c16
        exact e_iret dX4_next_26 rfl (by rw [nxF, if_neg (fun q => q.2 e)]) rfl
      · refine s_inc [_, _, _, _] (1) dX4_next_19 (by decide) rfl (by decide) rfl (pn 22 rfl ?_)
        refine e_goto 2 dX4_next_22 (by decide) ?_
        have e : nxF u l (f + 1) p = nxF u l f (p + 1) := by rw [nxF, if_pos ⟨hc, fun q => c16 (by rw [q])⟩]
        rw [e, nI_1]
        exact ih (p + 1) (by omega) (by omega)
theorem w_next {w : Wd} {i : Nat} {u : List Nat} (ok : okW u) (h : w[i]? = some (rowW u)) {l p : Nat} (hl : l < 2 ^ 31) (hp : p < 2 ^ 30) : CW mX4_next [.ref i, .int (nI l), .int (nI p)] w (some (.int (nI (nxW u l p)))) w := by
  refine cw_of (M := mX4_next) fx_X4_next (lv := [.ref i, .int (nI l), .int (nI p), dmy]) rfl (Nat.le_of_ble_eq_true rfl) ?_
  refine e_iload_n dX4_next_0 rfl (pn 1 rfl ?_)
  refine s_in [_, _, _, _] dX4_next_1 (by decide) rfl (pn 2 rfl ?_)
  exact w_next_loop ok h l p hl _ p (Nat.le_refl _) hp
end
section
/-! LostLetters$Pair: this at 22, lengths at 23, numbers at 24, first at 25 -/
theorem cx (i j : Nat) : nI i * 25 + nI j = nI (i * 25 + j) := by rw [show (25 : Int32) = nI 25 from rfl, pk_mul, nI_add]
theorem m1_lt (k : Nat) (hk : k < 2 ^ 31) : nI k + (-1) < 0 ↔ k = 0 := by
  cases k with
  | zero => exact ⟨fun _ => rfl, fun _ => by decide⟩
  | succ k => rw [pk_m1]; exact ⟨fun h => absurd h (nI_pos (by omega)), fun h => by omega⟩
theorem p_cell (w : Wd) (x y : Int32) : CW mX2_cell [.int x, .int y] w (some (.int (x * 25 + y))) w := by
  refine cw_of (M := mX2_cell) fx_X2_cell (lv := [.int x, .int y]) rfl (Nat.le_of_ble_eq_true rfl) ?_
  refine e_iload_n dX2_cell_0 rfl (pn 1 rfl ?_)
  refine e_bi (25) dX2_cell_1 (by decide) (pn 3 rfl ?_)
  refine e_imul dX2_cell_3 (pn 4 rfl ?_)
  refine e_iload_n dX2_cell_4 rfl (pn 5 rfl ?_)
  refine e_iadd dX2_cell_5 (pn 6 rfl ?_)
  exact e_iret dX2_cell_6 rfl rfl rfl
theorem pw {M : Mt} {sc : Option (Nat × (Nat → Int32))} {pc : Nat} {lv st : List Value} {w w1 : Wd} {r : Option Value} {w' : Wd} (h : w = w1) (k : EW M sc pc lv st w1 r w') : EW M sc pc lv st w r w' := h ▸ k
/-- the heap of a pair: this, its table, two words -/
def pH (w : Wd) (f : Nat → Int32) (a b : Nat) (t u : List Nat) : Prop := w[22]? = some (oB 2 [.ref 23, .ref 24, .ref 25]) ∧ w[23]? = some (aI 625 f) ∧ w[a]? = some (rowW t) ∧ w[b]? = some (rowW u) ∧ okW t ∧ okW u
theorem pH.up {w : Wd} {f : Nat → Int32} {a b : Nat} {t u : List Nat} (h : pH w f a b t u) (g : Nat → Int32) : pH (w.set 23 (aI 625 g)) g a b t u := by
  obtain ⟨h1, h2, h3, h4, h5, h6⟩ := h
  have ea : 23 ≠ a := fun e => by subst e; rw [h2] at h3; cases h3
  have eb : 23 ≠ b := fun e => by subst e; rw [h2] at h4; cases h4
  exact ⟨gne (by decide) h1, gse h2, gne ea h3, gne eb h4, h5, h6⟩
def lgV (f : Nat → Int32) (t u : List Nat) (i j : Nat) : Int32 :=
  if i < t.length ∧ j < u.length then (if t.getD i 0 = u.getD j 0 then f ((i + 1) * 25 + (j + 1)) + 1 else (if f ((i + 1) * 25 + j) < f (i * 25 + (j + 1)) then f (i * 25 + (j + 1)) else f ((i + 1) * 25 + j))) else 0
theorem p_lF {w : Wd} {f : Nat → Int32} {a b : Nat} {t u : List Nat} (h : pH w f a b t u) {i j : Nat} (hi : i ≤ t.length) (hj : j ≤ u.length) : CW mX2_longestFrom [.ref 22, .ref a, .int (nI i), .ref b, .int (nI j)] w (some (.int (lgV f t u i j))) w := by
  obtain ⟨h1, h2, h3, h4, h5, h6⟩ := h
  have b1 := h5.1
  have b2 := h6.1
  have l1 := okL_get h5.2 i
  have l2 := okL_get h6.2 j
  refine cw_of (M := mX2_longestFrom) fx_X2_longestFrom (lv := [.ref 22, .ref a, .int (nI i), .ref b, .int (nI j)]) rfl (Nat.le_of_ble_eq_true rfl) ?_
  refine e_iload_n dX2_longestFrom_0 rfl (pn 1 rfl ?_)
  refine e_aload_n dX2_longestFrom_1 rfl (pn 2 rfl ?_)
  refine e_get dX2_longestFrom_2 fl_X2_26 h3 rfl (pn 5 rfl ?_)
  refine e_icmp_ge 17 dX2_longestFrom_5 (by decide) (fun c5 => ?_) (fun c5 => pn 8 rfl ?_)
  · have hc : ¬ i < t.length := fun q => nI_ge q (by omega) c5
    refine e_ic (0) dX2_longestFrom_17 (by decide) (pn 18 rfl ?_)
    exact e_iret dX2_longestFrom_18 rfl (by rw [lgV, if_neg (fun q => hc q.1)]) rfl
  · have hc : i < t.length := Nat.lt_of_not_le (fun q => c5 (nI_le q (by omega)))
    refine e_iload dX2_longestFrom_8 rfl (pn 10 rfl ?_)
    refine e_aload_n dX2_longestFrom_10 rfl (pn 11 rfl ?_)
    refine e_get dX2_longestFrom_11 fl_X2_26 h4 rfl (pn 14 rfl ?_)
    refine e_icmp_lt 19 dX2_longestFrom_14 (by decide) (fun c14 => ?_) (fun c14 => pn 17 rfl ?_)
    · have hc2 : j < u.length := Nat.lt_of_not_le (fun q => nI_nlt q (by omega) c14)
      refine e_aload_n dX2_longestFrom_19 rfl (pn 20 rfl ?_)
      refine e_iload_n dX2_longestFrom_20 rfl (pn 21 rfl ?_)
      refine c_V1 dX2_longestFrom_21 ml_X2_38 mv_X4_letter (by decide) (w_letter h5 h3 (show i < 32 by omega)) h3 rfl rfl (Nat.le_of_ble_eq_true rfl) (pn 24 rfl ?_)
      refine e_aload_n dX2_longestFrom_24 rfl (pn 25 rfl ?_)
      refine e_iload dX2_longestFrom_25 rfl (pn 27 rfl ?_)
      refine c_V1 dX2_longestFrom_27 ml_X2_38 mv_X4_letter (by decide) (w_letter h6 h4 (show j < 32 by omega)) h4 rfl rfl (Nat.le_of_ble_eq_true rfl) (pn 30 rfl ?_)
      refine e_icmp_ne 51 dX2_longestFrom_30 (by decide) (fun c30 => ?_) (fun c30 => pn 33 rfl ?_)
      · have hne : ¬ t.getD i 0 = u.getD j 0 := fun q => c30 (by rw [q])
        refine e_aload_n dX2_longestFrom_51 rfl (pn 52 rfl ?_)
        refine e_get dX2_longestFrom_52 fl_X2_11 h1 rfl (pn 55 rfl ?_)
        refine e_iload_n dX2_longestFrom_55 rfl (pn 56 rfl ?_)
        refine e_ic (1) dX2_longestFrom_56 (by decide) (pn 57 rfl ?_)
        refine e_iadd dX2_longestFrom_57 (pn 58 rfl ?_)
        refine e_iload dX2_longestFrom_58 rfl (pn 60 rfl ?_)
        refine c_S1 dX2_longestFrom_60 ml_X2_30 ms_X2_cell (by decide) (p_cell w _ _) rfl rfl (Nat.le_of_ble_eq_true rfl) (pn 63 rfl ?_)
        refine e_iald ((i + 1) * 25 + j) dX2_longestFrom_63 h2 (by rw [nI_1, cx]) (by omega) (by decide) (pn 64 rfl ?_)
        refine e_aload_n dX2_longestFrom_64 rfl (pn 65 rfl ?_)
        refine e_get dX2_longestFrom_65 fl_X2_11 h1 rfl (pn 68 rfl ?_)
        refine e_iload_n dX2_longestFrom_68 rfl (pn 69 rfl ?_)
        refine e_iload dX2_longestFrom_69 rfl (pn 71 rfl ?_)
        refine e_ic (1) dX2_longestFrom_71 (by decide) (pn 72 rfl ?_)
        refine e_iadd dX2_longestFrom_72 (pn 73 rfl ?_)
        refine c_S1 dX2_longestFrom_73 ml_X2_30 ms_X2_cell (by decide) (p_cell w _ _) rfl rfl (Nat.le_of_ble_eq_true rfl) (pn 76 rfl ?_)
        refine e_iald (i * 25 + (j + 1)) dX2_longestFrom_76 h2 (by rw [nI_1, cx]) (by omega) (by decide) (pn 77 rfl ?_)
        refine e_mmax dX2_longestFrom_77 lm_X2_42 (by decide) (Nat.le_of_ble_eq_true rfl) (pn 80 rfl ?_)
        exact e_iret dX2_longestFrom_80 rfl (by rw [lgV, if_pos ⟨hc, hc2⟩, if_neg hne]) rfl
      · have he : t.getD i 0 = u.getD j 0 := (nI_eq (by omega) (by omega)).mp c30
        refine e_aload_n dX2_longestFrom_33 rfl (pn 34 rfl ?_)
        refine e_get dX2_longestFrom_34 fl_X2_11 h1 rfl (pn 37 rfl ?_)
        refine e_iload_n dX2_longestFrom_37 rfl (pn 38 rfl ?_)
        refine e_ic (1) dX2_longestFrom_38 (by decide) (pn 39 rfl ?_)
        refine e_iadd dX2_longestFrom_39 (pn 40 rfl ?_)
        refine e_iload dX2_longestFrom_40 rfl (pn 42 rfl ?_)
        refine e_ic (1) dX2_longestFrom_42 (by decide) (pn 43 rfl ?_)
        refine e_iadd dX2_longestFrom_43 (pn 44 rfl ?_)
        refine c_S1 dX2_longestFrom_44 ml_X2_30 ms_X2_cell (by decide) (p_cell w _ _) rfl rfl (Nat.le_of_ble_eq_true rfl) (pn 47 rfl ?_)
        refine e_iald ((i + 1) * 25 + (j + 1)) dX2_longestFrom_47 h2 (by rw [nI_1, nI_1, cx]) (by omega) (by decide) (pn 48 rfl ?_)
        refine e_ic (1) dX2_longestFrom_48 (by decide) (pn 49 rfl ?_)
        refine e_iadd dX2_longestFrom_49 (pn 50 rfl ?_)
        exact e_iret dX2_longestFrom_50 rfl (by rw [lgV, if_pos ⟨hc, hc2⟩, if_pos he]) rfl
    · have hc2 : ¬ j < u.length := fun q => c14 (nI_lt q (by omega))
      refine e_ic (0) dX2_longestFrom_17 (by decide) (pn 18 rfl ?_)
      exact e_iret dX2_longestFrom_18 rfl (by rw [lgV, if_neg (fun q => hc2 q.2)]) rfl
def edV (f : Nat → Int32) (t u : List Nat) (i j : Nat) : Int32 :=
  if i < t.length ∧ j < u.length then (if t.getD i 0 = u.getD j 0 then f ((i + 1) * 25 + (j + 1)) else
    1 + (let y := (if f (i * 25 + (j + 1)) < f ((i + 1) * 25 + j) then f (i * 25 + (j + 1)) else f ((i + 1) * 25 + j)); if y < f ((i + 1) * 25 + (j + 1)) then y else f ((i + 1) * 25 + (j + 1)))) else nI t.length - nI i + nI u.length - nI j
theorem p_eF {w : Wd} {f : Nat → Int32} {a b : Nat} {t u : List Nat} (h : pH w f a b t u) {i j : Nat} (hi : i ≤ t.length) (hj : j ≤ u.length) : CW mX2_editsFrom [.ref 22, .ref a, .int (nI i), .ref b, .int (nI j)] w (some (.int (edV f t u i j))) w := by
  obtain ⟨h1, h2, h3, h4, h5, h6⟩ := h
  have b1 := h5.1
  have b2 := h6.1
  have l1 := okL_get h5.2 i
  have l2 := okL_get h6.2 j
  refine cw_of (M := mX2_editsFrom) fx_X2_editsFrom (lv := [.ref 22, .ref a, .int (nI i), .ref b, .int (nI j), dmy]) rfl (Nat.le_of_ble_eq_true rfl) ?_
  refine e_iload_n dX2_editsFrom_0 rfl (pn 1 rfl ?_)
  refine e_aload_n dX2_editsFrom_1 rfl (pn 2 rfl ?_)
  refine e_get dX2_editsFrom_2 fl_X2_26 h3 rfl (pn 5 rfl ?_)
  refine e_icmp_ge 17 dX2_editsFrom_5 (by decide) (fun c5 => ?_) (fun c5 => pn 8 rfl ?_)
  · have hc : ¬ i < t.length := fun q => nI_ge q (by omega) c5
    refine e_aload_n dX2_editsFrom_17 rfl (pn 18 rfl ?_)
    refine e_get dX2_editsFrom_18 fl_X2_26 h3 rfl (pn 21 rfl ?_)
    refine e_iload_n dX2_editsFrom_21 rfl (pn 22 rfl ?_)
    refine e_isub dX2_editsFrom_22 (pn 23 rfl ?_)
    refine e_aload_n dX2_editsFrom_23 rfl (pn 24 rfl ?_)
    refine e_get dX2_editsFrom_24 fl_X2_26 h4 rfl (pn 27 rfl ?_)
    refine e_iadd dX2_editsFrom_27 (pn 28 rfl ?_)
    refine e_iload dX2_editsFrom_28 rfl (pn 30 rfl ?_)
    refine e_isub dX2_editsFrom_30 (pn 31 rfl ?_)
    exact e_iret dX2_editsFrom_31 rfl (by rw [edV, if_neg (fun q => hc q.1)]) rfl
  · have hc : i < t.length := Nat.lt_of_not_le (fun q => c5 (nI_le q (by omega)))
    refine e_iload dX2_editsFrom_8 rfl (pn 10 rfl ?_)
    refine e_aload_n dX2_editsFrom_10 rfl (pn 11 rfl ?_)
    refine e_get dX2_editsFrom_11 fl_X2_26 h4 rfl (pn 14 rfl ?_)
    refine e_icmp_lt 32 dX2_editsFrom_14 (by decide) (fun c14 => ?_) (fun c14 => pn 17 rfl ?_)
    · have hc2 : j < u.length := Nat.lt_of_not_le (fun q => nI_nlt q (by omega) c14)
      refine e_aload_n dX2_editsFrom_32 rfl (pn 33 rfl ?_)
      refine e_get dX2_editsFrom_33 fl_X2_11 h1 rfl (pn 36 rfl ?_)
      refine e_iload_n dX2_editsFrom_36 rfl (pn 37 rfl ?_)
      refine e_ic (1) dX2_editsFrom_37 (by decide) (pn 38 rfl ?_)
      refine e_iadd dX2_editsFrom_38 (pn 39 rfl ?_)
      refine e_iload dX2_editsFrom_39 rfl (pn 41 rfl ?_)
      refine e_ic (1) dX2_editsFrom_41 (by decide) (pn 42 rfl ?_)
      refine e_iadd dX2_editsFrom_42 (pn 43 rfl ?_)
      refine c_S1 dX2_editsFrom_43 ml_X2_30 ms_X2_cell (by decide) (p_cell w _ _) rfl rfl (Nat.le_of_ble_eq_true rfl) (pn 46 rfl ?_)
      refine e_iald ((i + 1) * 25 + (j + 1)) dX2_editsFrom_46 h2 (by rw [nI_1, nI_1, cx]) (by omega) (by decide) (pn 47 rfl ?_)
      refine s_i [_, _, _, _, _, _] dX2_editsFrom_47 (by decide) rfl (pn 49 rfl ?_)
      refine e_aload_n dX2_editsFrom_49 rfl (pn 50 rfl ?_)
      refine e_iload_n dX2_editsFrom_50 rfl (pn 51 rfl ?_)
      refine c_V1 dX2_editsFrom_51 ml_X2_38 mv_X4_letter (by decide) (w_letter h5 h3 (show i < 32 by omega)) h3 rfl rfl (Nat.le_of_ble_eq_true rfl) (pn 54 rfl ?_)
      refine e_aload_n dX2_editsFrom_54 rfl (pn 55 rfl ?_)
      refine e_iload dX2_editsFrom_55 rfl (pn 57 rfl ?_)
      refine c_V1 dX2_editsFrom_57 ml_X2_38 mv_X4_letter (by decide) (w_letter h6 h4 (show j < 32 by omega)) h4 rfl rfl (Nat.le_of_ble_eq_true rfl) (pn 60 rfl ?_)
      refine e_icmp_ne 66 dX2_editsFrom_60 (by decide) (fun c60 => ?_) (fun c60 => pn 63 rfl ?_)
      · have hne : ¬ t.getD i 0 = u.getD j 0 := fun q => c60 (by rw [q])
        refine e_ic (1) dX2_editsFrom_66 (by decide) (pn 67 rfl ?_)
        refine e_iload dX2_editsFrom_67 rfl (pn 69 rfl ?_)
        refine e_aload_n dX2_editsFrom_69 rfl (pn 70 rfl ?_)
        refine e_get dX2_editsFrom_70 fl_X2_11 h1 rfl (pn 73 rfl ?_)
        refine e_iload_n dX2_editsFrom_73 rfl (pn 74 rfl ?_)
        refine e_ic (1) dX2_editsFrom_74 (by decide) (pn 75 rfl ?_)
        refine e_iadd dX2_editsFrom_75 (pn 76 rfl ?_)
        refine e_iload dX2_editsFrom_76 rfl (pn 78 rfl ?_)
        refine c_S1 dX2_editsFrom_78 ml_X2_30 ms_X2_cell (by decide) (p_cell w _ _) rfl rfl (Nat.le_of_ble_eq_true rfl) (pn 81 rfl ?_)
        refine e_iald ((i + 1) * 25 + j) dX2_editsFrom_81 h2 (by rw [nI_1, cx]) (by omega) (by decide) (pn 82 rfl ?_)
        refine e_aload_n dX2_editsFrom_82 rfl (pn 83 rfl ?_)
        refine e_get dX2_editsFrom_83 fl_X2_11 h1 rfl (pn 86 rfl ?_)
        refine e_iload_n dX2_editsFrom_86 rfl (pn 87 rfl ?_)
        refine e_iload dX2_editsFrom_87 rfl (pn 89 rfl ?_)
        refine e_ic (1) dX2_editsFrom_89 (by decide) (pn 90 rfl ?_)
        refine e_iadd dX2_editsFrom_90 (pn 91 rfl ?_)
        refine c_S1 dX2_editsFrom_91 ml_X2_30 ms_X2_cell (by decide) (p_cell w _ _) rfl rfl (Nat.le_of_ble_eq_true rfl) (pn 94 rfl ?_)
        refine e_iald (i * 25 + (j + 1)) dX2_editsFrom_94 h2 (by rw [nI_1, cx]) (by omega) (by decide) (pn 95 rfl ?_)
        refine e_mmin dX2_editsFrom_95 lm_X2_68 (by decide) (Nat.le_of_ble_eq_true rfl) (pn 98 rfl ?_)
        refine e_mmin dX2_editsFrom_98 lm_X2_68 (by decide) (Nat.le_of_ble_eq_true rfl) (pn 101 rfl ?_)
        refine e_iadd dX2_editsFrom_101 (pn 102 rfl ?_)
        exact e_iret dX2_editsFrom_102 rfl (by rw [edV, if_pos ⟨hc, hc2⟩, if_neg hne]) rfl
      · have he : t.getD i 0 = u.getD j 0 := (nI_eq (by omega) (by omega)).mp c60
        refine e_iload dX2_editsFrom_63 rfl (pn 65 rfl ?_)
        exact e_iret dX2_editsFrom_65 rfl (by rw [edV, if_pos ⟨hc, hc2⟩, if_pos he]) rfl
    · have hc2 : ¬ j < u.length := fun q => c14 (nI_lt q (by omega))
      refine e_aload_n dX2_editsFrom_17 rfl (pn 18 rfl ?_)
      refine e_get dX2_editsFrom_18 fl_X2_26 h3 rfl (pn 21 rfl ?_)
      refine e_iload_n dX2_editsFrom_21 rfl (pn 22 rfl ?_)
      refine e_isub dX2_editsFrom_22 (pn 23 rfl ?_)
      refine e_aload_n dX2_editsFrom_23 rfl (pn 24 rfl ?_)
      refine e_get dX2_editsFrom_24 fl_X2_26 h4 rfl (pn 27 rfl ?_)
      refine e_iadd dX2_editsFrom_27 (pn 28 rfl ?_)
      refine e_iload dX2_editsFrom_28 rfl (pn 30 rfl ?_)
      refine e_isub dX2_editsFrom_30 (pn 31 rfl ?_)
      exact e_iret dX2_editsFrom_31 rfl (by rw [edV, if_neg (fun q => hc2 q.2)]) rfl
def lgI (t u : List Nat) (i : Nat) : Nat → (Nat → Int32) → Nat → Int32
  | 0, f => f
  | k + 1, f => lgI t u i k (va_up f (i * 25 + k) (lgV f t u i k))
def lgO (t u : List Nat) : Nat → (Nat → Int32) → Nat → Int32
  | 0, f => f
  | k + 1, f => lgO t u k (lgI t u k (u.length + 1) f)
theorem p_lg_in {w : Wd} {f0 : Nat → Int32} {a b : Nat} {t u : List Nat} (h : pH w f0 a b t u) {r : Option Value} {w' : Wd} (i : Nat) (hi : i ≤ t.length) : ∀ (k : Nat) (f : Nat → Int32), k ≤ u.length + 1 → EW mX2_longest none 46 [.ref 22, .ref a, .ref b, .int (nI i), dmy] [] (w.set 23 (aI 625 (lgI t u i k f))) r w' → EW mX2_longest none 15 [.ref 22, .ref a, .ref b, .int (nI i), .int (nI k + (-1))] [] (w.set 23 (aI 625 f)) r w' := by
  have b1 := h.2.2.2.2.1.1
  have b2 := h.2.2.2.2.2.1
  intro k
  induction k with
  | zero =>
    intro f hk K
    refine e_iload dX2_longest_15 rfl (pn 17 rfl ?_)
    refine e_if_lt 46 dX2_longest_17 (by decide) (fun c17 => ?_) (fun c17 => pn 20 rfl ?_)
    · exact e_dr [_, _, _, _, _] 4 rfl K
    · exact absurd ((m1_lt 0 (by decide)).mpr rfl) c17
  | succ k ih =>
    intro f hk K
    have hp := h.up f
    simp only [pk_m1]
    refine e_iload dX2_longest_15 rfl (pn 17 rfl ?_)
    refine e_if_lt 46 dX2_longest_17 (by decide) (fun c17 => ?_) (fun c17 => pn 20 rfl ?_)
    · exact absurd c17 (nI_pos (by omega))
    · refine e_aload_n dX2_longest_20 rfl (pn 21 rfl ?_)
      refine e_get dX2_longest_21 fl_X2_11 hp.1 rfl (pn 24 rfl ?_)
      refine e_iload_n dX2_longest_24 rfl (pn 25 rfl ?_)
      refine e_iload dX2_longest_25 rfl (pn 27 rfl ?_)
      refine c_S1 dX2_longest_27 ml_X2_30 ms_X2_cell (by decide) (p_cell _ _ _) rfl rfl (Nat.le_of_ble_eq_true rfl) (pn 30 rfl ?_)
      refine e_aload_n dX2_longest_30 rfl (pn 31 rfl ?_)
      refine e_aload_n dX2_longest_31 rfl (pn 32 rfl ?_)
      refine e_iload_n dX2_longest_32 rfl (pn 33 rfl ?_)
      refine e_aload_n dX2_longest_33 rfl (pn 34 rfl ?_)
      refine e_iload dX2_longest_34 rfl (pn 36 rfl ?_)
      refine c_V1 dX2_longest_36 ml_X2_34 mv_X2_longestFrom (by decide) (p_lF hp hi (by omega)) hp.1 rfl rfl (Nat.le_of_ble_eq_true rfl) (pn 39 rfl ?_)
      refine e_iast (i * 25 + k) dX2_longest_39 hp.2.1 (cx i k) (by omega) (by decide) (pn 40 rfl ?_)
      rw [List.set_set]
      refine s_inc [_, _, _, _, _] (-1) dX2_longest_40 (by decide) rfl (by decide) rfl (pn 43 rfl ?_)
      refine e_goto 15 dX2_longest_43 (by decide) ?_
      exact ih _ (by omega) K
theorem p_lg_out {w : Wd} {f0 : Nat → Int32} {a b : Nat} {t u : List Nat} (h : pH w f0 a b t u) {r : Option Value} {w' : Wd} : ∀ (k : Nat) (f : Nat → Int32), k ≤ t.length + 1 → EW mX2_longest none 52 [.ref 22, .ref a, .ref b, dmy, dmy] [] (w.set 23 (aI 625 (lgO t u k f))) r w' → EW mX2_longest none 5 [.ref 22, .ref a, .ref b, .int (nI k + (-1)), dmy] [] (w.set 23 (aI 625 f)) r w' := by
  have b1 := h.2.2.2.2.1.1
  have b2 := h.2.2.2.2.2.1
  intro k
  induction k with
  | zero =>
    intro f hk K
    refine e_iload_n dX2_longest_5 rfl (pn 6 rfl ?_)
    refine e_if_lt 52 dX2_longest_6 (by decide) (fun c6 => ?_) (fun c6 => pn 9 rfl ?_)
    · exact e_dr [_, _, _, _, _] 3 rfl K
    · exact absurd ((m1_lt 0 (by decide)).mpr rfl) c6
  | succ k ih =>
    intro f hk K
    have hp := h.up f
    simp only [pk_m1]
    refine e_iload_n dX2_longest_5 rfl (pn 6 rfl ?_)
    refine e_if_lt 52 dX2_longest_6 (by decide) (fun c6 => ?_) (fun c6 => pn 9 rfl ?_)
    · exact absurd c6 (nI_pos (by omega))
    · refine e_aload_n dX2_longest_9 rfl (pn 10 rfl ?_)
      refine e_get dX2_longest_10 fl_X2_26 hp.2.2.2.1 rfl (pn 13 rfl ?_)
      refine s_i [_, _, _, _, _] dX2_longest_13 (by decide) rfl (pn 15 rfl ?_)
      rw [← pk_m1 u.length]
      refine p_lg_in h k (by omega) (u.length + 1) f (Nat.le_refl _) ?_
      refine s_inc [_, _, _, _, _] (-1) dX2_longest_46 (by decide) rfl (by decide) rfl (pn 49 rfl ?_)
      refine e_goto 5 dX2_longest_49 (by decide) ?_
      exact ih _ (by omega) K
theorem p_lg {w : Wd} {f : Nat → Int32} {a b : Nat} {t u : List Nat} (h : pH w f a b t u) : CW mX2_longest [.ref 22, .ref a, .ref b] w (some (.int (lgO t u (t.length + 1) f 0))) (w.set 23 (aI 625 (lgO t u (t.length + 1) f))) := by
  refine cw_of (M := mX2_longest) fx_X2_longest (lv := [.ref 22, .ref a, .ref b, dmy, dmy]) rfl (Nat.le_of_ble_eq_true rfl) ?_
  refine e_aload_n dX2_longest_0 rfl (pn 1 rfl ?_)
  refine e_get dX2_longest_1 fl_X2_26 h.2.2.1 rfl (pn 4 rfl ?_)
  refine s_in [_, _, _, _, _] dX2_longest_4 (by decide) rfl (pn 5 rfl ?_)
  refine pw (set_id h.2.1).symm ?_
  rw [← pk_m1 t.length]
  refine p_lg_out h (t.length + 1) f (Nat.le_refl _) ?_
  refine e_aload_n dX2_longest_52 rfl (pn 53 rfl ?_)
  refine e_get dX2_longest_53 fl_X2_11 (h.up _).1 rfl (pn 56 rfl ?_)
  refine e_ic (0) dX2_longest_56 (by decide) (pn 57 rfl ?_)
  refine e_iald (0) dX2_longest_57 (h.up _).2.1 rfl (by decide) (by decide) (pn 58 rfl ?_)
  exact e_iret dX2_longest_58 rfl rfl rfl

def edI (t u : List Nat) (i : Nat) : Nat → (Nat → Int32) → Nat → Int32
  | 0, f => f
  | k + 1, f => edI t u i k (va_up f (i * 25 + k) (edV f t u i k))
def edO (t u : List Nat) : Nat → (Nat → Int32) → Nat → Int32
  | 0, f => f
  | k + 1, f => edO t u k (edI t u k (u.length + 1) f)
theorem p_ed_in {w : Wd} {f0 : Nat → Int32} {a b : Nat} {t u : List Nat} (h : pH w f0 a b t u) {r : Option Value} {w' : Wd} (i : Nat) (hi : i ≤ t.length) : ∀ (k : Nat) (f : Nat → Int32), k ≤ u.length + 1 → EW mX2_edits none 46 [.ref 22, .ref a, .ref b, .int (nI i), dmy] [] (w.set 23 (aI 625 (edI t u i k f))) r w' → EW mX2_edits none 15 [.ref 22, .ref a, .ref b, .int (nI i), .int (nI k + (-1))] [] (w.set 23 (aI 625 f)) r w' := by
  have b1 := h.2.2.2.2.1.1
  have b2 := h.2.2.2.2.2.1
  intro k
  induction k with
  | zero =>
    intro f hk K
    refine e_iload dX2_edits_15 rfl (pn 17 rfl ?_)
    refine e_if_lt 46 dX2_edits_17 (by decide) (fun c17 => ?_) (fun c17 => pn 20 rfl ?_)
    · exact e_dr [_, _, _, _, _] 4 rfl K
    · exact absurd ((m1_lt 0 (by decide)).mpr rfl) c17
  | succ k ih =>
    intro f hk K
    have hp := h.up f
    simp only [pk_m1]
    refine e_iload dX2_edits_15 rfl (pn 17 rfl ?_)
    refine e_if_lt 46 dX2_edits_17 (by decide) (fun c17 => ?_) (fun c17 => pn 20 rfl ?_)
    · exact absurd c17 (nI_pos (by omega))
    · refine e_aload_n dX2_edits_20 rfl (pn 21 rfl ?_)
      refine e_get dX2_edits_21 fl_X2_11 hp.1 rfl (pn 24 rfl ?_)
      refine e_iload_n dX2_edits_24 rfl (pn 25 rfl ?_)
      refine e_iload dX2_edits_25 rfl (pn 27 rfl ?_)
      refine c_S1 dX2_edits_27 ml_X2_30 ms_X2_cell (by decide) (p_cell _ _ _) rfl rfl (Nat.le_of_ble_eq_true rfl) (pn 30 rfl ?_)
      refine e_aload_n dX2_edits_30 rfl (pn 31 rfl ?_)
      refine e_aload_n dX2_edits_31 rfl (pn 32 rfl ?_)
      refine e_iload_n dX2_edits_32 rfl (pn 33 rfl ?_)
      refine e_aload_n dX2_edits_33 rfl (pn 34 rfl ?_)
      refine e_iload dX2_edits_34 rfl (pn 36 rfl ?_)
      refine c_V1 dX2_edits_36 ml_X2_65 mv_X2_editsFrom (by decide) (p_eF hp hi (by omega)) hp.1 rfl rfl (Nat.le_of_ble_eq_true rfl) (pn 39 rfl ?_)
      refine e_iast (i * 25 + k) dX2_edits_39 hp.2.1 (cx i k) (by omega) (by decide) (pn 40 rfl ?_)
      rw [List.set_set]
      refine s_inc [_, _, _, _, _] (-1) dX2_edits_40 (by decide) rfl (by decide) rfl (pn 43 rfl ?_)
      refine e_goto 15 dX2_edits_43 (by decide) ?_
      exact ih _ (by omega) K
theorem p_ed_out {w : Wd} {f0 : Nat → Int32} {a b : Nat} {t u : List Nat} (h : pH w f0 a b t u) {r : Option Value} {w' : Wd} : ∀ (k : Nat) (f : Nat → Int32), k ≤ t.length + 1 → EW mX2_edits none 52 [.ref 22, .ref a, .ref b, dmy, dmy] [] (w.set 23 (aI 625 (edO t u k f))) r w' → EW mX2_edits none 5 [.ref 22, .ref a, .ref b, .int (nI k + (-1)), dmy] [] (w.set 23 (aI 625 f)) r w' := by
  have b1 := h.2.2.2.2.1.1
  have b2 := h.2.2.2.2.2.1
  intro k
  induction k with
  | zero =>
    intro f hk K
    refine e_iload_n dX2_edits_5 rfl (pn 6 rfl ?_)
    refine e_if_lt 52 dX2_edits_6 (by decide) (fun c6 => ?_) (fun c6 => pn 9 rfl ?_)
    · exact e_dr [_, _, _, _, _] 3 rfl K
    · exact absurd ((m1_lt 0 (by decide)).mpr rfl) c6
  | succ k ih =>
    intro f hk K
    have hp := h.up f
    simp only [pk_m1]
    refine e_iload_n dX2_edits_5 rfl (pn 6 rfl ?_)
    refine e_if_lt 52 dX2_edits_6 (by decide) (fun c6 => ?_) (fun c6 => pn 9 rfl ?_)
    · exact absurd c6 (nI_pos (by omega))
    · refine e_aload_n dX2_edits_9 rfl (pn 10 rfl ?_)
      refine e_get dX2_edits_10 fl_X2_26 hp.2.2.2.1 rfl (pn 13 rfl ?_)
      refine s_i [_, _, _, _, _] dX2_edits_13 (by decide) rfl (pn 15 rfl ?_)
      rw [← pk_m1 u.length]
      refine p_ed_in h k (by omega) (u.length + 1) f (Nat.le_refl _) ?_
      refine s_inc [_, _, _, _, _] (-1) dX2_edits_46 (by decide) rfl (by decide) rfl (pn 49 rfl ?_)
      refine e_goto 5 dX2_edits_49 (by decide) ?_
      exact ih _ (by omega) K
theorem p_ed {w : Wd} {f : Nat → Int32} {a b : Nat} {t u : List Nat} (h : pH w f a b t u) : CW mX2_edits [.ref 22, .ref a, .ref b] w (some (.int (edO t u (t.length + 1) f 0))) (w.set 23 (aI 625 (edO t u (t.length + 1) f))) := by
  refine cw_of (M := mX2_edits) fx_X2_edits (lv := [.ref 22, .ref a, .ref b, dmy, dmy]) rfl (Nat.le_of_ble_eq_true rfl) ?_
  refine e_aload_n dX2_edits_0 rfl (pn 1 rfl ?_)
  refine e_get dX2_edits_1 fl_X2_26 h.2.2.1 rfl (pn 4 rfl ?_)
  refine s_in [_, _, _, _, _] dX2_edits_4 (by decide) rfl (pn 5 rfl ?_)
  refine pw (set_id h.2.1).symm ?_
  rw [← pk_m1 t.length]
  refine p_ed_out h (t.length + 1) f (Nat.le_refl _) ?_
  refine e_aload_n dX2_edits_52 rfl (pn 53 rfl ?_)
  refine e_get dX2_edits_53 fl_X2_11 (h.up _).1 rfl (pn 56 rfl ?_)
  refine e_ic (0) dX2_edits_56 (by decide) (pn 57 rfl ?_)
  refine e_iald (0) dX2_edits_57 (h.up _).2.1 rfl (by decide) (by decide) (pn 58 rfl ?_)
  exact e_iret dX2_edits_58 rfl rfl rfl


abbrev gsW (f : Nat → Int32) (t u : List Nat) (p r : Nat) (len : Int32) : Prop := p < t.length ∧ r < u.length ∧ f ((p + 1) * 25 + (r + 1)) + 1 = len
theorem p_go {w : Wd} {f : Nat → Int32} {a b : Nat} {t u : List Nat} (h : pH w f a b t u) {p r : Nat} (hp : p < 2 ^ 30) (hr : r < 2 ^ 30) (len : Int32) : CW mX2_goesOn [.ref 22, .ref a, .int (nI p), .ref b, .int (nI r), .int len] w (some (.int (if gsW f t u p r len then 1 else 0))) w := by
  obtain ⟨h1, h2, h3, h4, h5, h6⟩ := h
  have b1 := h5.1
  have b2 := h6.1
  refine cw_of (M := mX2_goesOn) fx_X2_goesOn (lv := [.ref 22, .ref a, .int (nI p), .ref b, .int (nI r), .int len]) rfl (Nat.le_of_ble_eq_true rfl) ?_
  refine e_iload_n dX2_goesOn_0 rfl (pn 1 rfl ?_)
  refine e_aload_n dX2_goesOn_1 rfl (pn 2 rfl ?_)
  refine e_get dX2_goesOn_2 fl_X2_26 h3 rfl (pn 5 rfl ?_)
  refine e_icmp_ge 43 dX2_goesOn_5 (by decide) (fun c5 => ?_) (fun c5 => pn 8 rfl ?_)
  · have hc : ¬ p < t.length := fun q => nI_ge q (by omega) c5
    refine e_ic (0) dX2_goesOn_43 (by decide) (pn 44 rfl ?_)
    exact e_zret dX2_goesOn_44 rfl (by decide) (by rw [if_neg (fun q => hc q.1)]) rfl
  · have hc : p < t.length := Nat.lt_of_not_le (fun q => c5 (nI_le q (by omega)))
    refine e_iload dX2_goesOn_8 rfl (pn 10 rfl ?_)
    refine e_aload_n dX2_goesOn_10 rfl (pn 11 rfl ?_)
    refine e_get dX2_goesOn_11 fl_X2_26 h4 rfl (pn 14 rfl ?_)
    refine e_icmp_ge 43 dX2_goesOn_14 (by decide) (fun c14 => ?_) (fun c14 => pn 17 rfl ?_)
    · have hc2 : ¬ r < u.length := fun q => nI_ge q (by omega) c14
      refine e_ic (0) dX2_goesOn_43 (by decide) (pn 44 rfl ?_)
      exact e_zret dX2_goesOn_44 rfl (by decide) (by rw [if_neg (fun q => hc2 q.2.1)]) rfl
    · have hc2 : r < u.length := Nat.lt_of_not_le (fun q => c14 (nI_le q (by omega)))
      refine e_aload_n dX2_goesOn_17 rfl (pn 18 rfl ?_)
      refine e_get dX2_goesOn_18 fl_X2_11 h1 rfl (pn 21 rfl ?_)
      refine e_iload_n dX2_goesOn_21 rfl (pn 22 rfl ?_)
      refine e_ic (1) dX2_goesOn_22 (by decide) (pn 23 rfl ?_)
      refine e_iadd dX2_goesOn_23 (pn 24 rfl ?_)
      refine e_iload dX2_goesOn_24 rfl (pn 26 rfl ?_)
      refine e_ic (1) dX2_goesOn_26 (by decide) (pn 27 rfl ?_)
      refine e_iadd dX2_goesOn_27 (pn 28 rfl ?_)
      refine c_S1 dX2_goesOn_28 ml_X2_30 ms_X2_cell (by decide) (p_cell w _ _) rfl rfl (Nat.le_of_ble_eq_true rfl) (pn 31 rfl ?_)
      refine e_iald ((p + 1) * 25 + (r + 1)) dX2_goesOn_31 h2 (by rw [nI_1, nI_1, cx]) (by omega) (by decide) (pn 32 rfl ?_)
      refine e_ic (1) dX2_goesOn_32 (by decide) (pn 33 rfl ?_)
      refine e_iadd dX2_goesOn_33 (pn 34 rfl ?_)
      refine e_iload dX2_goesOn_34 rfl (pn 36 rfl ?_)
      refine e_icmp_ne 43 dX2_goesOn_36 (by decide) (fun c36 => ?_) (fun c36 => pn 39 rfl ?_)
      · refine e_ic (0) dX2_goesOn_43 (by decide) (pn 44 rfl ?_)
        exact e_zret dX2_goesOn_44 rfl (by decide) (by rw [if_neg (fun q => c36 q.2.2)]) rfl
      · refine e_ic (1) dX2_goesOn_39 (by decide) (pn 40 rfl ?_)
        refine e_goto 44 dX2_goesOn_40 (by decide) ?_
        exact e_zret dX2_goesOn_44 rfl (by decide) (by rw [if_pos ⟨hc, hc2, c36⟩]) rfl
theorem nxF_le (u : List Nat) (l : Nat) : ∀ f p, p ≤ nxF u l f p ∧ nxF u l f p ≤ p + f
  | 0, p => ⟨Nat.le_refl _, Nat.le_refl _⟩
  | f + 1, p => by
    rw [nxF]
    split
    · have := nxF_le u l f (p + 1)
      omega
    · omega
theorem nxW_le (u : List Nat) (l p : Nat) : p ≤ nxW u l p ∧ (nxW u l p ≤ u.length ∨ nxW u l p = p) := by
  have := nxF_le u l (u.length - p) p
  unfold nxW
  omega
theorem pH.up25 {w : Wd} {f : Nat → Int32} {a b : Nat} {t u : List Nat} (h : pH w f a b t u) (ea : 25 ≠ a) (eb : 25 ≠ b) (x : Cel) : pH (w.set 25 x) f a b t u :=
  ⟨gne (by decide) h.1, gne (by decide) h.2.1, gne ea h.2.2.1, gne eb h.2.2.2.1, h.2.2.2.2.1, h.2.2.2.2.2⟩
/-- the first letter that goes on -/
def flL (f : Nat → Int32) (t u : List Nat) (i j : Nat) (len : Int32) : Nat → Nat → Nat
  | 0, l => l
  | n + 1, l => if gsW f t u (nxW t l i) (nxW u l j) len then l else flL f t u i j len n (l + 1)
def flO (f : Nat → Int32) (t u : List Nat) (q : Nat) : Nat → Nat → Nat → List Nat → List Nat
  | 0, _, _, acc => acc
  | n + 1, i, j, acc => flO f t u q n (nxW t (flL f t u i j (nI (n + 1)) (q - 1) 0) i + 1) (nxW u (flL f t u i j (nI (n + 1)) (q - 1) 0) j + 1) (acc ++ [flL f t u i j (nI (n + 1)) (q - 1) 0])
theorem flL_le (f : Nat → Int32) (t u : List Nat) (i j : Nat) (len : Int32) : ∀ n l, flL f t u i j len n l ≤ l + n
  | 0, l => Nat.le_refl _
  | n + 1, l => by
    rw [flL]
    split
    · omega
    · have := flL_le f t u i j len n (l + 1)
      omega
theorem p_fl_in {w : Wd} {f : Nat → Int32} {a b : Nat} {t u : List Nat} (h : pH w f a b t u) {r : Option Value} {w' : Wd} {q : Nat} (hq : 2 ≤ q ∧ q ≤ 4) {i j : Nat} (hi : i < 2 ^ 20) (hj : j < 2 ^ 20) (len : Int32) : ∀ (n l : Nat), l + n = q - 1 → EW mX2_firstLongest none 70 [.ref 22, .ref a, .ref b, .int (nI q), .int (nI i), .int (nI j), .int len, .int (nI (flL f t u i j len n l))] [] w r w' → EW mX2_firstLongest none 29 [.ref 22, .ref a, .ref b, .int (nI q), .int (nI i), .int (nI j), .int len, .int (nI l)] [] w r w' := by
  have b1 := h.2.2.2.2.1.1
  have b2 := h.2.2.2.2.2.1
  have hq1 : nI q - 1 = nI (q - 1) := pk_sub (b := 1) (by omega)
  intro n
  induction n with
  | zero =>
    intro l hl K
    refine e_iload dX2_firstLongest_29 rfl (pn 31 rfl ?_)
    refine e_iload_n dX2_firstLongest_31 rfl (pn 32 rfl ?_)
    refine e_ic (1) dX2_firstLongest_32 (by decide) (pn 33 rfl ?_)
    refine e_isub dX2_firstLongest_33 (pn 34 rfl ?_)
    rw [hq1]
    refine e_icmp_ge 70 dX2_firstLongest_34 (by decide) (fun c34 => ?_) (fun c34 => pn 37 rfl ?_)
    · exact K
    · exact absurd (nI_le (by omega) (by omega)) c34
  | succ n ih =>
    intro l hl K
    refine e_iload dX2_firstLongest_29 rfl (pn 31 rfl ?_)
    refine e_iload_n dX2_firstLongest_31 rfl (pn 32 rfl ?_)
    refine e_ic (1) dX2_firstLongest_32 (by decide) (pn 33 rfl ?_)
    refine e_isub dX2_firstLongest_33 (pn 34 rfl ?_)
    rw [hq1]
    refine e_icmp_ge 70 dX2_firstLongest_34 (by decide) (fun c34 => ?_) (fun c34 => pn 37 rfl ?_)
    · exact absurd c34 (nI_ge (by omega) (by omega))
    · have n1 := nxW_le t l i
      have n2 := nxW_le u l j
      refine e_aload_n dX2_firstLongest_37 rfl (pn 38 rfl ?_)
      refine e_aload_n dX2_firstLongest_38 rfl (pn 39 rfl ?_)
      refine e_aload_n dX2_firstLongest_39 rfl (pn 40 rfl ?_)
      refine e_iload dX2_firstLongest_40 rfl (pn 42 rfl ?_)
      refine e_iload dX2_firstLongest_42 rfl (pn 44 rfl ?_)
      refine c_V1 dX2_firstLongest_44 ml_X2_50 mv_X4_next (by decide) (w_next h.2.2.2.2.1 h.2.2.1 (l := l) (p := i) (by omega) (by omega)) h.2.2.1 rfl rfl (Nat.le_of_ble_eq_true rfl) (pn 47 rfl ?_)
      refine e_aload_n dX2_firstLongest_47 rfl (pn 48 rfl ?_)
      refine e_aload_n dX2_firstLongest_48 rfl (pn 49 rfl ?_)
      refine e_iload dX2_firstLongest_49 rfl (pn 51 rfl ?_)
      refine e_iload dX2_firstLongest_51 rfl (pn 53 rfl ?_)
      refine c_V1 dX2_firstLongest_53 ml_X2_50 mv_X4_next (by decide) (w_next h.2.2.2.2.2 h.2.2.2.1 (l := l) (p := j) (by omega) (by omega)) h.2.2.2.1 rfl rfl (Nat.le_of_ble_eq_true rfl) (pn 56 rfl ?_)
      refine e_iload dX2_firstLongest_56 rfl (pn 58 rfl ?_)
      refine c_V1 dX2_firstLongest_58 ml_X2_53 mv_X2_goesOn (by decide) (p_go h (by omega) (by omega) len) h.1 rfl rfl (Nat.le_of_ble_eq_true rfl) (pn 61 rfl ?_)
      rw [flL] at K
      by_cases hg : gsW f t u (nxW t l i) (nxW u l j) len
      · rw [if_pos hg] at K ⊢
        refine e_if_ne 70 dX2_firstLongest_61 (by decide) (fun c61 => ?_) (fun c61 => pn 64 rfl ?_)
        · exact K
        · exact absurd c61 (by decide)
      · rw [if_neg hg] at K ⊢
        refine e_if_ne 70 dX2_firstLongest_61 (by decide) (fun c61 => ?_) (fun c61 => pn 64 rfl ?_)
        · exact absurd rfl c61
        · refine s_inc [_, _, _, _, _, _, _, _] (1) dX2_firstLongest_64 (by decide) rfl (by decide) rfl (pn 67 rfl ?_)
          refine e_goto 29 dX2_firstLongest_67 (by decide) ?_
          rw [nI_1]
          exact ih (l + 1) (by omega) K
theorem okW_snoc {u : List Nat} (h : okW u) (hl : u.length < 24) {l : Nat} (h4 : l < 4) : okW (u ++ [l]) :=
  ⟨by simp; omega, fun a ha => by
    rcases List.mem_append.mp ha with h9 | h9
    · exact h.2 a h9
    · rw [List.mem_singleton.mp h9]; exact h4⟩
theorem p_fl_out {w : Wd} {f : Nat → Int32} {a b : Nat} {t u : List Nat} (h : pH w f a b t u) (ea : 25 ≠ a) (eb : 25 ≠ b) {x0 : Cel} (h25 : w[25]? = some x0) {q : Nat} (hq : 2 ≤ q ∧ q ≤ 4) : ∀ (n i j : Nat) (acc : List Nat), i + n ≤ 100 → j + n ≤ 100 → okW acc → acc.length + n ≤ 24 → EW mX2_firstLongest none 21 [.ref 22, .ref a, .ref b, .int (nI q), .int (nI i), .int (nI j), .int (nI n), dmy] [] (w.set 25 (rowW acc)) (some (.ref 25)) (w.set 25 (rowW (flO f t u q n i j acc))) := by
  have b1 := h.2.2.2.2.1.1
  have b2 := h.2.2.2.2.2.1
  intro n
  induction n with
  | zero =>
    intro i j acc hi hj hok hl
    have hp := h.up25 ea eb (rowW acc)
    refine e_iload dX2_firstLongest_21 rfl (pn 23 rfl ?_)
    refine e_if_le 109 dX2_firstLongest_23 (by decide) (fun c23 => ?_) (fun c23 => pn 26 rfl ?_)
    · refine e_aload_n dX2_firstLongest_109 rfl (pn 110 rfl ?_)
      refine e_get dX2_firstLongest_110 fl_X2_22 hp.1 rfl (pn 113 rfl ?_)
      exact e_aret dX2_firstLongest_113 rfl rfl rfl
    · exact absurd (by decide) c23
  | succ n ih =>
    intro i j acc hi hj hok hl
    have hp := h.up25 ea eb (rowW acc)
    have fl := flL_le f t u i j (nI (n + 1)) (q - 1) 0
    refine e_iload dX2_firstLongest_21 rfl (pn 23 rfl ?_)
    refine e_if_le 109 dX2_firstLongest_23 (by decide) (fun c23 => ?_) (fun c23 => pn 26 rfl ?_)
    · exact absurd c23 (nI_nle (by omega) (by omega))
    · refine e_ic (0) dX2_firstLongest_26 (by decide) (pn 27 rfl ?_)
      refine s_i [_, _, _, _, _, _, _, _] dX2_firstLongest_27 (by decide) rfl (pn 29 rfl ?_)
      refine p_fl_in hp hq (i := i) (j := j) (by omega) (by omega) (nI (n + 1)) (q - 1) 0 (by omega) ?_
      generalize hL : flL f t u i j (nI (n + 1)) (q - 1) 0 = l at *
      have n1 := nxW_le t l i
      have n2 := nxW_le u l j
      have hp2 := h.up25 ea eb (rowW (acc ++ [l]))
      have g25 : (w.set 25 (rowW acc))[25]? = some (rowW acc) := gse h25
      refine e_aload_n dX2_firstLongest_70 rfl (pn 71 rfl ?_)
      refine e_get dX2_firstLongest_71 fl_X2_22 hp.1 rfl (pn 74 rfl ?_)
      refine e_iload dX2_firstLongest_74 rfl (pn 76 rfl ?_)
      refine c_V0 dX2_firstLongest_76 ml_X2_57 mv_X4_append (by decide) (w_append hok g25 (l := l) (by omega)) g25 rfl rfl (Nat.le_of_ble_eq_true rfl) (pn 79 rfl ?_)
      rw [List.set_set]
      refine e_aload_n dX2_firstLongest_79 rfl (pn 80 rfl ?_)
      refine e_iload dX2_firstLongest_80 rfl (pn 82 rfl ?_)
      refine e_iload dX2_firstLongest_82 rfl (pn 84 rfl ?_)
      refine c_V1 dX2_firstLongest_84 ml_X2_50 mv_X4_next (by decide) (w_next hp2.2.2.2.2.1 hp2.2.2.1 (l := l) (p := i) (by omega) (by omega)) hp2.2.2.1 rfl rfl (Nat.le_of_ble_eq_true rfl) (pn 87 rfl ?_)
      refine e_ic (1) dX2_firstLongest_87 (by decide) (pn 88 rfl ?_)
      refine e_iadd dX2_firstLongest_88 (pn 89 rfl ?_)
      refine s_i [_, _, _, _, _, _, _, _] dX2_firstLongest_89 (by decide) rfl (pn 91 rfl ?_)
      refine e_aload_n dX2_firstLongest_91 rfl (pn 92 rfl ?_)
      refine e_iload dX2_firstLongest_92 rfl (pn 94 rfl ?_)
      refine e_iload dX2_firstLongest_94 rfl (pn 96 rfl ?_)
      refine c_V1 dX2_firstLongest_96 ml_X2_50 mv_X4_next (by decide) (w_next hp2.2.2.2.2.2 hp2.2.2.2.1 (l := l) (p := j) (by omega) (by omega)) hp2.2.2.2.1 rfl rfl (Nat.le_of_ble_eq_true rfl) (pn 99 rfl ?_)
      refine e_ic (1) dX2_firstLongest_99 (by decide) (pn 100 rfl ?_)
      refine e_iadd dX2_firstLongest_100 (pn 101 rfl ?_)
      refine s_i [_, _, _, _, _, _, _, _] dX2_firstLongest_101 (by decide) rfl (pn 103 rfl ?_)
      refine s_inc [_, _, _, _, _, _, _, _] (-1) dX2_firstLongest_103 (by decide) rfl (by decide) rfl (pn 106 rfl ?_)
      refine e_goto 21 dX2_firstLongest_106 (by decide) ?_
      rw [nI_1, nI_1, pk_m1, flO, hL]
      refine e_dr [_, _, _, _, _, _, _, _] 7 rfl ?_
      exact ih _ _ _ (by omega) (by omega) (okW_snoc hok (by omega) (by omega)) (by simp; omega)
theorem p_fl {w : Wd} {f : Nat → Int32} {a b : Nat} {t u : List Nat} (h : pH w f a b t u) (ea : 25 ≠ a) (eb : 25 ≠ b) {v : List Nat} (h25 : w[25]? = some (rowW v)) {q : Nat} (hq : 2 ≤ q ∧ q ≤ 4) {n : Nat} (hn : f 0 = nI n) (hn24 : n ≤ 24) : CW mX2_firstLongest [.ref 22, .ref a, .ref b, .int (nI q)] w (some (.ref 25)) (w.set 25 (rowW (flO f t u q n 0 0 []))) := by
  have hp := h.up25 ea eb (rowW [])
  refine cw_of (M := mX2_firstLongest) fx_X2_firstLongest (lv := [.ref 22, .ref a, .ref b, .int (nI q), dmy, dmy, dmy, dmy]) rfl (Nat.le_of_ble_eq_true rfl) ?_
  refine e_aload_n dX2_firstLongest_0 rfl (pn 1 rfl ?_)
  refine e_get dX2_firstLongest_1 fl_X2_22 h.1 rfl (pn 4 rfl ?_)
  refine c_V0 dX2_firstLongest_4 ml_X2_47 mv_X4_clear (by decide) (w_clear h25) h25 rfl rfl (Nat.le_of_ble_eq_true rfl) (pn 7 rfl ?_)
  refine e_ic (0) dX2_firstLongest_7 (by decide) (pn 8 rfl ?_)
  refine s_i [_, _, _, _, _, _, _, _] dX2_firstLongest_8 (by decide) rfl (pn 10 rfl ?_)
  refine e_ic (0) dX2_firstLongest_10 (by decide) (pn 11 rfl ?_)
  refine s_i [_, _, _, _, _, _, _, _] dX2_firstLongest_11 (by decide) rfl (pn 13 rfl ?_)
  refine e_aload_n dX2_firstLongest_13 rfl (pn 14 rfl ?_)
  refine e_get dX2_firstLongest_14 fl_X2_11 hp.1 rfl (pn 17 rfl ?_)
  refine e_ic (0) dX2_firstLongest_17 (by decide) (pn 18 rfl ?_)
  refine e_iald (0) dX2_firstLongest_18 hp.2.1 rfl (by decide) (by decide) (pn 19 rfl ?_)
  refine s_i [_, _, _, _, _, _, _, _] dX2_firstLongest_19 (by decide) rfl (pn 21 rfl ?_)
  rw [hn]
  exact p_fl_out h ea eb h25 hq n 0 0 [] (by omega) (by omega) ⟨by simp, fun a ha => by cases ha⟩ (by simpa using hn24)
end
section
/-! Pair.howManyFrom, howManyLongest -/
def pJ (w : Wd) (f : Nat → Int32) (g : Nat → Int64) (a b : Nat) (t u : List Nat) : Prop := pH w f a b t u ∧ w[24]? = some (aJ 625 g)
theorem pJ.up {w : Wd} {f : Nat → Int32} {g : Nat → Int64} {a b : Nat} {t u : List Nat} (h : pJ w f g a b t u) (g2 : Nat → Int64) : pJ (w.set 24 (aJ 625 g2)) f g2 a b t u := by
  obtain ⟨⟨h1, h2, h3, h4, h5, h6⟩, h7⟩ := h
  have ea : 24 ≠ a := fun e => by subst e; rw [h7] at h3; cases h3
  have eb : 24 ≠ b := fun e => by subst e; rw [h7] at h4; cases h4
  exact ⟨⟨gne (by decide) h1, gne (by decide) h2, gne ea h3, gne eb h4, h5, h6⟩, gse h7⟩
def hmS (f : Nat → Int32) (g : Nat → Int64) (t u : List Nat) (i j : Nat) (len : Int32) : Nat → Int64
  | 0 => 0
  | l + 1 => if gsW f t u (nxW t l i) (nxW u l j) len then hmS f g t u i j len l + g ((nxW t l i + 1) * 25 + (nxW u l j + 1)) else hmS f g t u i j len l
def hmV (f : Nat → Int32) (g : Nat → Int64) (q : Nat) (t u : List Nat) (i j : Nat) : Int64 := if f (i * 25 + j) = 0 then 1 else hmS f g t u i j (f (i * 25 + j)) q
theorem p_hS {w : Wd} {f : Nat → Int32} {g : Nat → Int64} {a b : Nat} {t u : List Nat} (h : pJ w f g a b t u) {q : Nat} (hq : 2 ≤ q ∧ q ≤ 4) {i j : Nat} (hi : i ≤ t.length) (hj : j ≤ u.length) (len : Int32) : ∀ (n l : Nat), l + n = q → EW mX2_howManyFrom none 26 [.ref 22, .ref a, .int (nI i), .ref b, .int (nI j), .int (nI q), .int len, .long (hmS f g t u i j len l), dmy, .int (nI l), dmy, dmy] [] w (some (.long (hmS f g t u i j len q))) w := by
  obtain ⟨hp, h7⟩ := h
  have b1 := hp.2.2.2.2.1.1
  have b2 := hp.2.2.2.2.2.1
  intro n
  induction n with
  | zero =>
    intro l hl
    have e : l = q := by omega
    subst e
    refine e_iload dX2_howManyFrom_26 rfl (pn 28 rfl ?_)
    refine e_iload dX2_howManyFrom_28 rfl (pn 30 rfl ?_)
    refine e_icmp_ge 94 dX2_howManyFrom_30 (by decide) (fun c30 => ?_) (fun c30 => pn 33 rfl ?_)
    · refine e_lload dX2_howManyFrom_94 rfl (pn 96 rfl ?_)
      exact e_lret dX2_howManyFrom_96 rfl rfl rfl
    · exact absurd (nI_le (Nat.le_refl _) (by omega)) c30
  | succ n ih =>
    intro l hl
    have n1 := nxW_le t l i
    have n2 := nxW_le u l j
    refine e_iload dX2_howManyFrom_26 rfl (pn 28 rfl ?_)
    refine e_iload dX2_howManyFrom_28 rfl (pn 30 rfl ?_)
    refine e_icmp_ge 94 dX2_howManyFrom_30 (by decide) (fun c30 => ?_) (fun c30 => pn 33 rfl ?_)
    · exact absurd c30 (nI_ge (by omega) (by omega))
    · refine e_aload_n dX2_howManyFrom_33 rfl (pn 34 rfl ?_)
      refine e_iload dX2_howManyFrom_34 rfl (pn 36 rfl ?_)
      refine e_iload_n dX2_howManyFrom_36 rfl (pn 37 rfl ?_)
      refine c_V1 dX2_howManyFrom_37 ml_X2_50 mv_X4_next (by decide) (w_next hp.2.2.2.2.1 hp.2.2.1 (l := l) (p := i) (by omega) (by omega)) hp.2.2.1 rfl rfl (Nat.le_of_ble_eq_true rfl) (pn 40 rfl ?_)
      refine s_i [_, _, _, _, _, _, _, _, _, _, _, _] dX2_howManyFrom_40 (by decide) rfl (pn 42 rfl ?_)
      refine e_aload_n dX2_howManyFrom_42 rfl (pn 43 rfl ?_)
      refine e_iload dX2_howManyFrom_43 rfl (pn 45 rfl ?_)
      refine e_iload dX2_howManyFrom_45 rfl (pn 47 rfl ?_)
      refine c_V1 dX2_howManyFrom_47 ml_X2_50 mv_X4_next (by decide) (w_next hp.2.2.2.2.2 hp.2.2.2.1 (l := l) (p := j) (by omega) (by omega)) hp.2.2.2.1 rfl rfl (Nat.le_of_ble_eq_true rfl) (pn 50 rfl ?_)
      refine s_i [_, _, _, _, _, _, _, _, _, _, _, _] dX2_howManyFrom_50 (by decide) rfl (pn 52 rfl ?_)
      refine e_aload_n dX2_howManyFrom_52 rfl (pn 53 rfl ?_)
      refine e_aload_n dX2_howManyFrom_53 rfl (pn 54 rfl ?_)
      refine e_iload dX2_howManyFrom_54 rfl (pn 56 rfl ?_)
      refine e_aload_n dX2_howManyFrom_56 rfl (pn 57 rfl ?_)
      refine e_iload dX2_howManyFrom_57 rfl (pn 59 rfl ?_)
      refine e_iload dX2_howManyFrom_59 rfl (pn 61 rfl ?_)
      refine c_V1 dX2_howManyFrom_61 ml_X2_53 mv_X2_goesOn (by decide) (p_go hp (by omega) (by omega) len) hp.1 rfl rfl (Nat.le_of_ble_eq_true rfl) (pn 64 rfl ?_)
      have K := ih (l + 1) (by omega)
      rw [hmS] at K
      by_cases hg : gsW f t u (nxW t l i) (nxW u l j) len
      · rw [if_pos hg] at K ⊢
        have g1 := hg.1
        have g2 := hg.2.1
        refine e_if_eq 88 dX2_howManyFrom_64 (by decide) (fun c64 => ?_) (fun c64 => pn 67 rfl ?_)
        · exact absurd c64 (by decide)
        · refine e_lload dX2_howManyFrom_67 rfl (pn 69 rfl ?_)
          refine e_aload_n dX2_howManyFrom_69 rfl (pn 70 rfl ?_)
          refine e_get dX2_howManyFrom_70 fl_X2_15 hp.1 rfl (pn 73 rfl ?_)
          refine e_iload dX2_howManyFrom_73 rfl (pn 75 rfl ?_)
          refine e_ic (1) dX2_howManyFrom_75 (by decide) (pn 76 rfl ?_)
          refine e_iadd dX2_howManyFrom_76 (pn 77 rfl ?_)
          refine e_iload dX2_howManyFrom_77 rfl (pn 79 rfl ?_)
          refine e_ic (1) dX2_howManyFrom_79 (by decide) (pn 80 rfl ?_)
          refine e_iadd dX2_howManyFrom_80 (pn 81 rfl ?_)
          refine c_S1 dX2_howManyFrom_81 ml_X2_30 ms_X2_cell (by decide) (p_cell w _ _) rfl rfl (Nat.le_of_ble_eq_true rfl) (pn 84 rfl ?_)
          refine e_lald ((nxW t l i + 1) * 25 + (nxW u l j + 1)) dX2_howManyFrom_84 h7 (by rw [nI_1, nI_1, cx]) (by omega) (by decide) (pn 85 rfl ?_)
          refine e_ladd dX2_howManyFrom_85 (pn 86 rfl ?_)
          refine s_l [_, _, _, _, _, _, _, _, _, _, _, _] dX2_howManyFrom_86 (by decide) rfl (pn 88 rfl ?_)
          refine s_inc [_, _, _, _, _, _, _, _, _, _, _, _] (1) dX2_howManyFrom_88 (by decide) rfl (by decide) rfl (pn 91 rfl ?_)
          refine e_goto 26 dX2_howManyFrom_91 (by decide) ?_
          rw [nI_1]
          refine e_dr [_, _, _, _, _, _, _, _, _, _, _, _] 10 rfl (e_dr [_, _, _, _, _, _, _, _, _, _, _, _] 11 rfl ?_)
          exact K
      · rw [if_neg hg] at K ⊢
        refine e_if_eq 88 dX2_howManyFrom_64 (by decide) (fun c64 => ?_) (fun c64 => pn 67 rfl ?_)
        · refine s_inc [_, _, _, _, _, _, _, _, _, _, _, _] (1) dX2_howManyFrom_88 (by decide) rfl (by decide) rfl (pn 91 rfl ?_)
          refine e_goto 26 dX2_howManyFrom_91 (by decide) ?_
          rw [nI_1]
          refine e_dr [_, _, _, _, _, _, _, _, _, _, _, _] 10 rfl (e_dr [_, _, _, _, _, _, _, _, _, _, _, _] 11 rfl ?_)
          exact K
        · exact absurd rfl c64
theorem p_hF {w : Wd} {f : Nat → Int32} {g : Nat → Int64} {a b : Nat} {t u : List Nat} (h : pJ w f g a b t u) {q : Nat} (hq : 2 ≤ q ∧ q ≤ 4) {i j : Nat} (hi : i ≤ t.length) (hj : j ≤ u.length) : CW mX2_howManyFrom [.ref 22, .ref a, .int (nI i), .ref b, .int (nI j), .int (nI q)] w (some (.long (hmV f g q t u i j))) w := by
  have b1 := h.1.2.2.2.2.1.1
  have b2 := h.1.2.2.2.2.2.1
  refine cw_of (M := mX2_howManyFrom) fx_X2_howManyFrom (lv := [.ref 22, .ref a, .int (nI i), .ref b, .int (nI j), .int (nI q), dmy, dmy, dmy, dmy, dmy, dmy]) rfl (Nat.le_of_ble_eq_true rfl) ?_
  refine e_aload_n dX2_howManyFrom_0 rfl (pn 1 rfl ?_)
  refine e_get dX2_howManyFrom_1 fl_X2_11 h.1.1 rfl (pn 4 rfl ?_)
  refine e_iload_n dX2_howManyFrom_4 rfl (pn 5 rfl ?_)
  refine e_iload dX2_howManyFrom_5 rfl (pn 7 rfl ?_)
  refine c_S1 dX2_howManyFrom_7 ml_X2_30 ms_X2_cell (by decide) (p_cell w _ _) rfl rfl (Nat.le_of_ble_eq_true rfl) (pn 10 rfl ?_)
  refine e_iald (i * 25 + j) dX2_howManyFrom_10 h.1.2.1 (cx i j) (by omega) (by decide) (pn 11 rfl ?_)
  refine s_i [_, _, _, _, _, _, _, _, _, _, _, _] dX2_howManyFrom_11 (by decide) rfl (pn 13 rfl ?_)
  refine e_iload dX2_howManyFrom_13 rfl (pn 15 rfl ?_)
  refine e_if_ne 20 dX2_howManyFrom_15 (by decide) (fun c15 => ?_) (fun c15 => pn 18 rfl ?_)
  · refine e_lc (0) dX2_howManyFrom_20 (by decide) (pn 21 rfl ?_)
    refine s_l [_, _, _, _, _, _, _, _, _, _, _, _] dX2_howManyFrom_21 (by decide) rfl (pn 23 rfl ?_)
    refine e_ic (0) dX2_howManyFrom_23 (by decide) (pn 24 rfl ?_)
    refine s_i [_, _, _, _, _, _, _, _, _, _, _, _] dX2_howManyFrom_24 (by decide) rfl (pn 26 rfl ?_)
    rw [hmV, if_neg c15]
    exact p_hS h hq hi hj _ q 0 (by omega)
  · refine e_lc (1) dX2_howManyFrom_18 (by decide) (pn 19 rfl ?_)
    exact e_lret dX2_howManyFrom_19 rfl (by rw [hmV, if_pos c15]) rfl
def hmI (f : Nat → Int32) (q : Nat) (t u : List Nat) (i : Nat) : Nat → (Nat → Int64) → Nat → Int64
  | 0, g => g
  | k + 1, g => hmI f q t u i k (va_up g (i * 25 + k) (hmV f g q t u i k))
def hmO (f : Nat → Int32) (q : Nat) (t u : List Nat) : Nat → (Nat → Int64) → Nat → Int64
  | 0, g => g
  | k + 1, g => hmO f q t u k (hmI f q t u k (u.length + 1) g)
theorem p_hm_in {w : Wd} {f : Nat → Int32} {g0 : Nat → Int64} {a b : Nat} {t u : List Nat} (h : pJ w f g0 a b t u) {q : Nat} (hq : 2 ≤ q ∧ q ≤ 4) {r : Option Value} {w' : Wd} (i : Nat) (hi : i ≤ t.length) : ∀ (k : Nat) (g : Nat → Int64), k ≤ u.length + 1 → EW mX2_howManyLongest none 51 [.ref 22, .ref a, .ref b, .int (nI q), .int (nI i), dmy] [] (w.set 24 (aJ 625 (hmI f q t u i k g))) r w' → EW mX2_howManyLongest none 17 [.ref 22, .ref a, .ref b, .int (nI q), .int (nI i), .int (nI k + (-1))] [] (w.set 24 (aJ 625 g)) r w' := by
  have b1 := h.1.2.2.2.2.1.1
  have b2 := h.1.2.2.2.2.2.1
  intro k
  induction k with
  | zero =>
    intro g hk K
    refine e_iload dX2_howManyLongest_17 rfl (pn 19 rfl ?_)
    refine e_if_lt 51 dX2_howManyLongest_19 (by decide) (fun c19 => ?_) (fun c19 => pn 22 rfl ?_)
    · exact e_dr [_, _, _, _, _, _] 5 rfl K
    · exact absurd ((m1_lt 0 (by decide)).mpr rfl) c19
  | succ k ih =>
    intro g hk K
    have hp := h.up g
    simp only [pk_m1]
    refine e_iload dX2_howManyLongest_17 rfl (pn 19 rfl ?_)
    refine e_if_lt 51 dX2_howManyLongest_19 (by decide) (fun c19 => ?_) (fun c19 => pn 22 rfl ?_)
    · exact absurd c19 (nI_pos (by omega))
    · refine e_aload_n dX2_howManyLongest_22 rfl (pn 23 rfl ?_)
      refine e_get dX2_howManyLongest_23 fl_X2_15 hp.1.1 rfl (pn 26 rfl ?_)
      refine e_iload dX2_howManyLongest_26 rfl (pn 28 rfl ?_)
      refine e_iload dX2_howManyLongest_28 rfl (pn 30 rfl ?_)
      refine c_S1 dX2_howManyLongest_30 ml_X2_30 ms_X2_cell (by decide) (p_cell _ _ _) rfl rfl (Nat.le_of_ble_eq_true rfl) (pn 33 rfl ?_)
      refine e_aload_n dX2_howManyLongest_33 rfl (pn 34 rfl ?_)
      refine e_aload_n dX2_howManyLongest_34 rfl (pn 35 rfl ?_)
      refine e_iload dX2_howManyLongest_35 rfl (pn 37 rfl ?_)
      refine e_aload_n dX2_howManyLongest_37 rfl (pn 38 rfl ?_)
      refine e_iload dX2_howManyLongest_38 rfl (pn 40 rfl ?_)
      refine e_iload_n dX2_howManyLongest_40 rfl (pn 41 rfl ?_)
      refine c_V1 dX2_howManyLongest_41 ml_X2_61 mv_X2_howManyFrom (by decide) (p_hF hp hq hi (by omega)) hp.1.1 rfl rfl (Nat.le_of_ble_eq_true rfl) (pn 44 rfl ?_)
      refine e_last (i * 25 + k) dX2_howManyLongest_44 hp.2 (cx i k) (by omega) (by decide) (pn 45 rfl ?_)
      rw [List.set_set]
      refine s_inc [_, _, _, _, _, _] (-1) dX2_howManyLongest_45 (by decide) rfl (by decide) rfl (pn 48 rfl ?_)
      refine e_goto 17 dX2_howManyLongest_48 (by decide) ?_
      exact ih _ (by omega) K
theorem p_hm_out {w : Wd} {f : Nat → Int32} {g0 : Nat → Int64} {a b : Nat} {t u : List Nat} (h : pJ w f g0 a b t u) {q : Nat} (hq : 2 ≤ q ∧ q ≤ 4) {r : Option Value} {w' : Wd} : ∀ (k : Nat) (g : Nat → Int64), k ≤ t.length + 1 → EW mX2_howManyLongest none 57 [.ref 22, .ref a, .ref b, .int (nI q), dmy, dmy] [] (w.set 24 (aJ 625 (hmO f q t u k g))) r w' → EW mX2_howManyLongest none 6 [.ref 22, .ref a, .ref b, .int (nI q), .int (nI k + (-1)), dmy] [] (w.set 24 (aJ 625 g)) r w' := by
  have b1 := h.1.2.2.2.2.1.1
  have b2 := h.1.2.2.2.2.2.1
  intro k
  induction k with
  | zero =>
    intro g hk K
    refine e_iload dX2_howManyLongest_6 rfl (pn 8 rfl ?_)
    refine e_if_lt 57 dX2_howManyLongest_8 (by decide) (fun c8 => ?_) (fun c8 => pn 11 rfl ?_)
    · exact e_dr [_, _, _, _, _, _] 4 rfl K
    · exact absurd ((m1_lt 0 (by decide)).mpr rfl) c8
  | succ k ih =>
    intro g hk K
    have hp := h.up g
    simp only [pk_m1]
    refine e_iload dX2_howManyLongest_6 rfl (pn 8 rfl ?_)
    refine e_if_lt 57 dX2_howManyLongest_8 (by decide) (fun c8 => ?_) (fun c8 => pn 11 rfl ?_)
    · exact absurd c8 (nI_pos (by omega))
    · refine e_aload_n dX2_howManyLongest_11 rfl (pn 12 rfl ?_)
      refine e_get dX2_howManyLongest_12 fl_X2_26 hp.1.2.2.2.1 rfl (pn 15 rfl ?_)
      refine s_i [_, _, _, _, _, _] dX2_howManyLongest_15 (by decide) rfl (pn 17 rfl ?_)
      rw [← pk_m1 u.length]
      refine p_hm_in h hq k (by omega) (u.length + 1) g (Nat.le_refl _) ?_
      refine s_inc [_, _, _, _, _, _] (-1) dX2_howManyLongest_51 (by decide) rfl (by decide) rfl (pn 54 rfl ?_)
      refine e_goto 6 dX2_howManyLongest_54 (by decide) ?_
      exact ih _ (by omega) K
theorem p_hm {w : Wd} {f : Nat → Int32} {g : Nat → Int64} {a b : Nat} {t u : List Nat} (h : pJ w f g a b t u) {q : Nat} (hq : 2 ≤ q ∧ q ≤ 4) : CW mX2_howManyLongest [.ref 22, .ref a, .ref b, .int (nI q)] w (some (.long (hmO f q t u (t.length + 1) g 0))) (w.set 24 (aJ 625 (hmO f q t u (t.length + 1) g))) := by
  refine cw_of (M := mX2_howManyLongest) fx_X2_howManyLongest (lv := [.ref 22, .ref a, .ref b, .int (nI q), dmy, dmy]) rfl (Nat.le_of_ble_eq_true rfl) ?_
  refine e_aload_n dX2_howManyLongest_0 rfl (pn 1 rfl ?_)
  refine e_get dX2_howManyLongest_1 fl_X2_26 h.1.2.2.1 rfl (pn 4 rfl ?_)
  refine s_i [_, _, _, _, _, _] dX2_howManyLongest_4 (by decide) rfl (pn 6 rfl ?_)
  refine pw (set_id h.2).symm ?_
  rw [← pk_m1 t.length]
  refine p_hm_out h hq (t.length + 1) g (Nat.le_refl _) ?_
  refine e_aload_n dX2_howManyLongest_57 rfl (pn 58 rfl ?_)
  refine e_get dX2_howManyLongest_58 fl_X2_15 (h.up _).1.1 rfl (pn 61 rfl ?_)
  refine e_ic (0) dX2_howManyLongest_61 (by decide) (pn 62 rfl ?_)
  refine e_lald (0) dX2_howManyLongest_62 (h.up _).2 rfl (by decide) (by decide) (pn 63 rfl ?_)
  exact e_lret dX2_howManyLongest_63 rfl rfl rfl
end
section
/-! LostLetters$Parts: this at 19, embedded at 20, left at 21 -/
def pP (w : Wd) (e g : Nat → Int64) : Prop := w[19]? = some (oB 3 [.ref 20, .ref 21]) ∧ w[20]? = some (aJ 25 e) ∧ w[21]? = some (aJ 175 g)
theorem pP.up {w : Wd} {e g : Nat → Int64} (h : pP w e g) (e2 : Nat → Int64) : pP (w.set 20 (aJ 25 e2)) e2 g := ⟨gne (by decide) h.1, gse h.2.1, gne (by decide) h.2.2⟩
theorem pP.upL {w : Wd} {e g : Nat → Int64} (h : pP w e g) (g2 : Nat → Int64) : pP (w.set 21 (aJ 175 g2)) e g2 := ⟨gne (by decide) h.1, gne (by decide) h.2.1, gse h.2.2⟩
theorem neJ {w : Wd} {i a n : Nat} {e : Nat → Int64} {u : List Nat} (h : w[i]? = some (aJ n e)) (ha : w[a]? = some (rowW u)) : i ≠ a := fun q => by subst q; rw [h] at ha; cases ha
theorem neI {w : Wd} {i a n : Nat} {e : Nat → Int32} {u : List Nat} (h : w[i]? = some (aI n e)) (ha : w[a]? = some (rowW u)) : i ≠ a := fun q => by subst q; rw [h] at ha; cases ha
def hoZ : Nat → Nat → (Nat → Int64) → Nat → Int64
  | 0, _, e => e
  | n + 1, k, e => hoZ n (k + 1) (va_up e k 0)
def hoI (s : List Nat) (l : Nat) : Nat → (Nat → Int64) → Nat → Int64
  | 0, e => e
  | k + 1, e => hoI s l k (if s.getD k 0 = l then va_up e (k + 1) (e (k + 1) + e k) else e)
def hoO (s t : List Nat) : Nat → Nat → (Nat → Int64) → Nat → Int64
  | 0, _, e => e
  | n + 1, i, e => hoO s t n (i + 1) (hoI s (t.getD i 0) s.length e)
def hoV (s t : List Nat) (e : Nat → Int64) : Nat → Int64 := hoO s t t.length 0 (hoZ s.length 1 (va_up e 0 1))
theorem o_Z {w : Wd} {e0 g : Nat → Int64} (h : pP w e0 g) {a b : Nat} {s : List Nat} (ha : w[a]? = some (rowW s)) (oks : okW s) {r : Option Value} {w' : Wd} : ∀ (n k : Nat) (e : Nat → Int64), k + n = s.length + 1 → EW mX3_howOften none 30 [.ref 19, .ref a, .ref b, dmy, dmy, dmy] [] (w.set 20 (aJ 25 (hoZ n k e))) r w' → EW mX3_howOften none 9 [.ref 19, .ref a, .ref b, .int (nI k), dmy, dmy] [] (w.set 20 (aJ 25 e)) r w' := by
  have b1 := oks.1
  have e1 := neJ h.2.1 ha
  intro n
  induction n with
  | zero =>
    intro k e hk K
    refine e_iload_n dX3_howOften_9 rfl (pn 10 rfl ?_)
    refine e_aload_n dX3_howOften_10 rfl (pn 11 rfl ?_)
    refine e_get dX3_howOften_11 fl_X3_18 (gne e1 ha) rfl (pn 14 rfl ?_)
    refine e_icmp_gt 30 dX3_howOften_14 (by decide) (fun c14 => ?_) (fun c14 => pn 17 rfl ?_)
    · exact e_dr [_, _, _, _, _, _] 3 rfl K
    · exact absurd (nI_lt (by omega) (by omega)) c14
  | succ n ih =>
    intro k e hk K
    refine e_iload_n dX3_howOften_9 rfl (pn 10 rfl ?_)
    refine e_aload_n dX3_howOften_10 rfl (pn 11 rfl ?_)
    refine e_get dX3_howOften_11 fl_X3_18 (gne e1 ha) rfl (pn 14 rfl ?_)
    refine e_icmp_gt 30 dX3_howOften_14 (by decide) (fun c14 => ?_) (fun c14 => pn 17 rfl ?_)
    · exact absurd c14 (nI_nlt (by omega) (by omega))
    · refine e_aload_n dX3_howOften_17 rfl (pn 18 rfl ?_)
      refine e_get dX3_howOften_18 fl_X3_9 (h.up e).1 rfl (pn 21 rfl ?_)
      refine e_iload_n dX3_howOften_21 rfl (pn 22 rfl ?_)
      refine e_lc (0) dX3_howOften_22 (by decide) (pn 23 rfl ?_)
      refine e_last (k) dX3_howOften_23 (h.up e).2.1 rfl (by omega) (by decide) (pn 24 rfl ?_)
      rw [List.set_set]
      refine s_inc [_, _, _, _, _, _] (1) dX3_howOften_24 (by decide) rfl (by decide) rfl (pn 27 rfl ?_)
      refine e_goto 9 dX3_howOften_27 (by decide) ?_
      rw [nI_1]
      exact ih (k + 1) _ (by omega) K
theorem o_I {w : Wd} {e0 g : Nat → Int64} (h : pP w e0 g) {a b i l : Nat} {s : List Nat} (ha : w[a]? = some (rowW s)) (oks : okW s) (hl : l < 4) {r : Option Value} {w' : Wd} : ∀ (k : Nat) (e : Nat → Int64), k ≤ s.length → EW mX3_howOften none 97 [.ref 19, .ref a, .ref b, .int (nI i), dmy, dmy] [] (w.set 20 (aJ 25 (hoI s l k e))) r w' → EW mX3_howOften none 53 [.ref 19, .ref a, .ref b, .int (nI i), .int (nI l), .int (nI k)] [] (w.set 20 (aJ 25 e)) r w' := by
  have b1 := oks.1
  have e1 := neJ h.2.1 ha
  intro k
  induction k with
  | zero =>
    intro e hk K
    refine e_iload dX3_howOften_53 rfl (pn 55 rfl ?_)
    refine e_ic (1) dX3_howOften_55 (by decide) (pn 56 rfl ?_)
    refine e_icmp_lt 97 dX3_howOften_56 (by decide) (fun c56 => ?_) (fun c56 => pn 59 rfl ?_)
    · exact e_dr [_, _, _, _, _, _] 4 rfl (e_dr [_, _, _, _, _, _] 5 rfl K)
    · exact absurd (by decide) c56
  | succ k ih =>
    intro e hk K
    have s4 := okL_get oks.2 k
    have hp := h.up e
    have q1 : nI (k + 1) - 1 = nI k := nI_pred k
    refine e_iload dX3_howOften_53 rfl (pn 55 rfl ?_)
    refine e_ic (1) dX3_howOften_55 (by decide) (pn 56 rfl ?_)
    refine e_icmp_lt 97 dX3_howOften_56 (by decide) (fun c56 => ?_) (fun c56 => pn 59 rfl ?_)
    · exact absurd c56 (nI_nlt (b := 1) (by omega) (by omega))
    · refine e_aload_n dX3_howOften_59 rfl (pn 60 rfl ?_)
      refine e_iload dX3_howOften_60 rfl (pn 62 rfl ?_)
      refine e_ic (1) dX3_howOften_62 (by decide) (pn 63 rfl ?_)
      refine e_isub dX3_howOften_63 (pn 64 rfl ?_)
      rw [q1]
      refine c_V1 dX3_howOften_64 ml_X3_24 mv_X4_letter (by decide) (w_letter oks (gne e1 ha) (show k < 32 by omega)) (gne e1 ha) rfl rfl (Nat.le_of_ble_eq_true rfl) (pn 67 rfl ?_)
      refine e_iload dX3_howOften_67 rfl (pn 69 rfl ?_)
      rw [hoI] at K
      refine e_icmp_ne 91 dX3_howOften_69 (by decide) (fun c69 => ?_) (fun c69 => pn 72 rfl ?_)
      · have hne : ¬ s.getD k 0 = l := fun q => c69 (by rw [q])
        rw [if_neg hne] at K
        refine s_inc [_, _, _, _, _, _] (-1) dX3_howOften_91 (by decide) rfl (by decide) rfl (pn 94 rfl ?_)
        refine e_goto 53 dX3_howOften_94 (by decide) ?_
        rw [pk_m1]
        exact ih _ (by omega) K
      · have he : s.getD k 0 = l := (nI_eq (by omega) (by omega)).mp c69
        rw [if_pos he] at K
        refine e_aload_n dX3_howOften_72 rfl (pn 73 rfl ?_)
        refine e_get dX3_howOften_73 fl_X3_9 hp.1 rfl (pn 76 rfl ?_)
        refine e_iload dX3_howOften_76 rfl (pn 78 rfl ?_)
        refine e_dup2 dX3_howOften_78 rfl rfl (pn 79 rfl ?_)
        refine e_lald (k + 1) dX3_howOften_79 hp.2.1 rfl (by omega) (by decide) (pn 80 rfl ?_)
        refine e_aload_n dX3_howOften_80 rfl (pn 81 rfl ?_)
        refine e_get dX3_howOften_81 fl_X3_9 hp.1 rfl (pn 84 rfl ?_)
        refine e_iload dX3_howOften_84 rfl (pn 86 rfl ?_)
        refine e_ic (1) dX3_howOften_86 (by decide) (pn 87 rfl ?_)
        refine e_isub dX3_howOften_87 (pn 88 rfl ?_)
        refine e_lald (k) dX3_howOften_88 hp.2.1 q1 (by omega) (by decide) (pn 89 rfl ?_)
        refine e_ladd dX3_howOften_89 (pn 90 rfl ?_)
        refine e_last (k + 1) dX3_howOften_90 hp.2.1 rfl (by omega) (by decide) (pn 91 rfl ?_)
        rw [List.set_set]
        refine s_inc [_, _, _, _, _, _] (-1) dX3_howOften_91 (by decide) rfl (by decide) rfl (pn 94 rfl ?_)
        refine e_goto 53 dX3_howOften_94 (by decide) ?_
        rw [pk_m1]
        exact ih _ (by omega) K
theorem o_O {w : Wd} {e0 g : Nat → Int64} (h : pP w e0 g) {a b : Nat} {s t : List Nat} (ha : w[a]? = some (rowW s)) (hb : w[b]? = some (rowW t)) (oks : okW s) (okt : okW t) {r : Option Value} {w' : Wd} : ∀ (n i : Nat) (e : Nat → Int64), i + n = t.length → EW mX3_howOften none 103 [.ref 19, .ref a, .ref b, dmy, dmy, dmy] [] (w.set 20 (aJ 25 (hoO s t n i e))) r w' → EW mX3_howOften none 32 [.ref 19, .ref a, .ref b, .int (nI i), dmy, dmy] [] (w.set 20 (aJ 25 e)) r w' := by
  have b1 := oks.1
  have b2 := okt.1
  have e1 := neJ h.2.1 ha
  have e2 := neJ h.2.1 hb
  intro n
  induction n with
  | zero =>
    intro i e hi K
    refine e_iload_n dX3_howOften_32 rfl (pn 33 rfl ?_)
    refine e_aload_n dX3_howOften_33 rfl (pn 34 rfl ?_)
    refine e_get dX3_howOften_34 fl_X3_18 (gne e2 hb) rfl (pn 37 rfl ?_)
    refine e_icmp_ge 103 dX3_howOften_37 (by decide) (fun c37 => ?_) (fun c37 => pn 40 rfl ?_)
    · exact e_dr [_, _, _, _, _, _] 3 rfl K
    · exact absurd (nI_le (by omega) (by omega)) c37
  | succ n ih =>
    intro i e hi K
    refine e_iload_n dX3_howOften_32 rfl (pn 33 rfl ?_)
    refine e_aload_n dX3_howOften_33 rfl (pn 34 rfl ?_)
    refine e_get dX3_howOften_34 fl_X3_18 (gne e2 hb) rfl (pn 37 rfl ?_)
    refine e_icmp_ge 103 dX3_howOften_37 (by decide) (fun c37 => ?_) (fun c37 => pn 40 rfl ?_)
    · exact absurd c37 (nI_ge (by omega) (by omega))
    · refine e_aload_n dX3_howOften_40 rfl (pn 41 rfl ?_)
      refine e_iload_n dX3_howOften_41 rfl (pn 42 rfl ?_)
      refine c_V1 dX3_howOften_42 ml_X3_24 mv_X4_letter (by decide) (w_letter okt (gne e2 hb) (show i < 32 by omega)) (gne e2 hb) rfl rfl (Nat.le_of_ble_eq_true rfl) (pn 45 rfl ?_)
      refine s_i [_, _, _, _, _, _] dX3_howOften_45 (by decide) rfl (pn 47 rfl ?_)
      refine e_aload_n dX3_howOften_47 rfl (pn 48 rfl ?_)
      refine e_get dX3_howOften_48 fl_X3_18 (gne e1 ha) rfl (pn 51 rfl ?_)
      refine s_i [_, _, _, _, _, _] dX3_howOften_51 (by decide) rfl (pn 53 rfl ?_)
      refine o_I h ha oks (okL_get okt.2 i) s.length e (Nat.le_refl _) ?_
      refine s_inc [_, _, _, _, _, _] (1) dX3_howOften_97 (by decide) rfl (by decide) rfl (pn 100 rfl ?_)
      refine e_goto 32 dX3_howOften_100 (by decide) ?_
      rw [nI_1]
      exact ih (i + 1) _ (by omega) K
theorem o_V {w : Wd} {e g : Nat → Int64} (h : pP w e g) {a b : Nat} {s t : List Nat} (ha : w[a]? = some (rowW s)) (hb : w[b]? = some (rowW t)) (oks : okW s) (okt : okW t) : CW mX3_howOften [.ref 19, .ref a, .ref b] w (some (.long (hoV s t e s.length))) (w.set 20 (aJ 25 (hoV s t e))) := by
  have b1 := oks.1
  have e1 := neJ h.2.1 ha
  refine cw_of (M := mX3_howOften) fx_X3_howOften (lv := [.ref 19, .ref a, .ref b, dmy, dmy, dmy]) rfl (Nat.le_of_ble_eq_true rfl) ?_
  refine e_aload_n dX3_howOften_0 rfl (pn 1 rfl ?_)
  refine e_get dX3_howOften_1 fl_X3_9 h.1 rfl (pn 4 rfl ?_)
  refine e_ic (0) dX3_howOften_4 (by decide) (pn 5 rfl ?_)
  refine e_lc (1) dX3_howOften_5 (by decide) (pn 6 rfl ?_)
  refine e_last (0) dX3_howOften_6 h.2.1 rfl (by decide) (by decide) (pn 7 rfl ?_)
  refine e_ic (1) dX3_howOften_7 (by decide) (pn 8 rfl ?_)
  refine s_in [_, _, _, _, _, _] dX3_howOften_8 (by decide) rfl (pn 9 rfl ?_)
  refine o_Z h ha oks s.length 1 _ (by omega) ?_
  refine e_ic (0) dX3_howOften_30 (by decide) (pn 31 rfl ?_)
  refine s_in [_, _, _, _, _, _] dX3_howOften_31 (by decide) rfl (pn 32 rfl ?_)
  refine o_O h ha hb oks okt t.length 0 _ (by omega) ?_
  refine e_aload_n dX3_howOften_103 rfl (pn 104 rfl ?_)
  refine e_get dX3_howOften_104 fl_X3_9 (h.up _).1 rfl (pn 107 rfl ?_)
  refine e_aload_n dX3_howOften_107 rfl (pn 108 rfl ?_)
  refine e_get dX3_howOften_108 fl_X3_18 (gne e1 ha) rfl (pn 111 rfl ?_)
  refine e_lald (s.length) dX3_howOften_111 (h.up _).2.1 rfl (by omega) (by decide) (pn 112 rfl ?_)
  exact e_lret dX3_howOften_112 rfl rfl rfl
/-! byLosing -/
def lfS (g : Nat → Int64) (t : List Nat) (i lost : Nat) : Nat → Int64
  | 0 => 0
  | l + 1 => if nxW t l i < t.length ∧ nxW t l i - i ≤ lost then lfS g t i lost l + g ((nxW t l i + 1) * 7 + lost - (nxW t l i - i)) else lfS g t i lost l
def lfV (g : Nat → Int64) (q : Nat) (t : List Nat) (i lost : Nat) : Int64 := if t.length - i ≤ lost then (if t.length - i = lost then 1 else 0) else lfS g t i lost q
theorem l_S {w : Wd} {e g : Nat → Int64} (h : pP w e g) {a : Nat} {t : List Nat} (ha : w[a]? = some (rowW t)) (okt : okW t) {q : Nat} (hq : 2 ≤ q ∧ q ≤ 4) {i lost : Nat} (hi : i ≤ t.length) (hlo : lost ≤ 6) : ∀ (n l : Nat), l + n = q → EW mX3_leftFrom none 32 [.ref 19, .ref a, .int (nI i), .int (nI lost), .int (nI q), .long (lfS g t i lost l), dmy, .int (nI l), dmy] [] w (some (.long (lfS g t i lost q))) w := by
  have b1 := okt.1
  intro n
  induction n with
  | zero =>
    intro l hl
    have e : l = q := by omega
    subst e
    refine e_iload dX3_leftFrom_32 rfl (pn 34 rfl ?_)
    refine e_iload dX3_leftFrom_34 rfl (pn 36 rfl ?_)
    refine e_icmp_ge 95 dX3_leftFrom_36 (by decide) (fun c36 => ?_) (fun c36 => pn 39 rfl ?_)
    · refine e_lload dX3_leftFrom_95 rfl (pn 97 rfl ?_)
      exact e_lret dX3_leftFrom_97 rfl rfl rfl
    · exact absurd (nI_le (Nat.le_refl _) (by omega)) c36
  | succ n ih =>
    intro l hl
    have n1 := nxW_le t l i
    have K := ih (l + 1) (by omega)
    rw [lfS] at K
    refine e_iload dX3_leftFrom_32 rfl (pn 34 rfl ?_)
    refine e_iload dX3_leftFrom_34 rfl (pn 36 rfl ?_)
    refine e_icmp_ge 95 dX3_leftFrom_36 (by decide) (fun c36 => ?_) (fun c36 => pn 39 rfl ?_)
    · exact absurd c36 (nI_ge (by omega) (by omega))
    · refine e_aload_n dX3_leftFrom_39 rfl (pn 40 rfl ?_)
      refine e_iload dX3_leftFrom_40 rfl (pn 42 rfl ?_)
      refine e_iload_n dX3_leftFrom_42 rfl (pn 43 rfl ?_)
      refine c_V1 dX3_leftFrom_43 ml_X3_32 mv_X4_next (by decide) (w_next okt ha (l := l) (p := i) (by omega) (by omega)) ha rfl rfl (Nat.le_of_ble_eq_true rfl) (pn 46 rfl ?_)
      refine s_i [_, _, _, _, _, _, _, _, _] dX3_leftFrom_46 (by decide) rfl (pn 48 rfl ?_)
      refine e_iload dX3_leftFrom_48 rfl (pn 50 rfl ?_)
      refine e_aload_n dX3_leftFrom_50 rfl (pn 51 rfl ?_)
      refine e_get dX3_leftFrom_51 fl_X3_18 ha rfl (pn 54 rfl ?_)
      refine e_icmp_ge 89 dX3_leftFrom_54 (by decide) (fun c54 => ?_) (fun c54 => pn 57 rfl ?_)
      · have hc : ¬ nxW t l i < t.length := fun q => nI_ge q (by omega) c54
        rw [if_neg (fun q => hc q.1)] at K
        refine s_inc [_, _, _, _, _, _, _, _, _] (1) dX3_leftFrom_89 (by decide) rfl (by decide) rfl (pn 92 rfl ?_)
        refine e_goto 32 dX3_leftFrom_92 (by decide) ?_
        rw [nI_1]
        exact e_dr [_, _, _, _, _, _, _, _, _] 8 rfl K
      · have hc : nxW t l i < t.length := Nat.lt_of_not_le (fun q => c54 (nI_le q (by omega)))
        refine e_iload dX3_leftFrom_57 rfl (pn 59 rfl ?_)
        refine e_iload_n dX3_leftFrom_59 rfl (pn 60 rfl ?_)
        refine e_isub dX3_leftFrom_60 (pn 61 rfl ?_)
        refine e_iload_n dX3_leftFrom_61 rfl (pn 62 rfl ?_)
        rw [pk_sub n1.1]
        refine e_icmp_gt 89 dX3_leftFrom_62 (by decide) (fun c62 => ?_) (fun c62 => pn 65 rfl ?_)
        · have hc2 : ¬ nxW t l i - i ≤ lost := fun q => nI_nlt q (by omega) c62
          rw [if_neg (fun q => hc2 q.2)] at K
          refine s_inc [_, _, _, _, _, _, _, _, _] (1) dX3_leftFrom_89 (by decide) rfl (by decide) rfl (pn 92 rfl ?_)
          refine e_goto 32 dX3_leftFrom_92 (by decide) ?_
          rw [nI_1]
          exact e_dr [_, _, _, _, _, _, _, _, _] 8 rfl K
        · have hc2 : nxW t l i - i ≤ lost := Nat.le_of_not_lt (fun q => c62 (nI_lt q (by omega)))
          rw [if_pos ⟨hc, hc2⟩] at K
          have ix : (nI (nxW t l i) + 1) * 7 + nI lost - (nI (nxW t l i) - nI i) = nI ((nxW t l i + 1) * 7 + lost - (nxW t l i - i)) := by
            rw [nI_1, show (7 : Int32) = nI 7 from rfl, pk_mul, nI_add, pk_sub n1.1, pk_sub (by omega)]
          refine e_lload dX3_leftFrom_65 rfl (pn 67 rfl ?_)
          refine e_aload_n dX3_leftFrom_67 rfl (pn 68 rfl ?_)
          refine e_get dX3_leftFrom_68 fl_X3_15 h.1 rfl (pn 71 rfl ?_)
          refine e_iload dX3_leftFrom_71 rfl (pn 73 rfl ?_)
          refine e_ic (1) dX3_leftFrom_73 (by decide) (pn 74 rfl ?_)
          refine e_iadd dX3_leftFrom_74 (pn 75 rfl ?_)
          refine e_bi (7) dX3_leftFrom_75 (by decide) (pn 77 rfl ?_)
          refine e_imul dX3_leftFrom_77 (pn 78 rfl ?_)
          refine e_iload_n dX3_leftFrom_78 rfl (pn 79 rfl ?_)
          refine e_iadd dX3_leftFrom_79 (pn 80 rfl ?_)
          refine e_iload dX3_leftFrom_80 rfl (pn 82 rfl ?_)
          refine e_iload_n dX3_leftFrom_82 rfl (pn 83 rfl ?_)
          refine e_isub dX3_leftFrom_83 (pn 84 rfl ?_)
          refine e_isub dX3_leftFrom_84 (pn 85 rfl ?_)
          refine e_lald ((nxW t l i + 1) * 7 + lost - (nxW t l i - i)) dX3_leftFrom_85 h.2.2 ix (by omega) (by decide) (pn 86 rfl ?_)
          refine e_ladd dX3_leftFrom_86 (pn 87 rfl ?_)
          refine s_l [_, _, _, _, _, _, _, _, _] dX3_leftFrom_87 (by decide) rfl (pn 89 rfl ?_)
          refine s_inc [_, _, _, _, _, _, _, _, _] (1) dX3_leftFrom_89 (by decide) rfl (by decide) rfl (pn 92 rfl ?_)
          refine e_goto 32 dX3_leftFrom_92 (by decide) ?_
          rw [nI_1]
          exact e_dr [_, _, _, _, _, _, _, _, _] 8 rfl K
theorem l_V {w : Wd} {e g : Nat → Int64} (h : pP w e g) {a : Nat} {t : List Nat} (ha : w[a]? = some (rowW t)) (okt : okW t) {q : Nat} (hq : 2 ≤ q ∧ q ≤ 4) {i lost : Nat} (hi : i ≤ t.length) (hlo : lost ≤ 6) : CW mX3_leftFrom [.ref 19, .ref a, .int (nI i), .int (nI lost), .int (nI q)] w (some (.long (lfV g q t i lost))) w := by
  have b1 := okt.1
  refine cw_of (M := mX3_leftFrom) fx_X3_leftFrom (lv := [.ref 19, .ref a, .int (nI i), .int (nI lost), .int (nI q), dmy, dmy, dmy, dmy]) rfl (Nat.le_of_ble_eq_true rfl) ?_
  refine e_aload_n dX3_leftFrom_0 rfl (pn 1 rfl ?_)
  refine e_get dX3_leftFrom_1 fl_X3_18 ha rfl (pn 4 rfl ?_)
  refine e_iload_n dX3_leftFrom_4 rfl (pn 5 rfl ?_)
  refine e_isub dX3_leftFrom_5 (pn 6 rfl ?_)
  refine e_iload_n dX3_leftFrom_6 rfl (pn 7 rfl ?_)
  rw [pk_sub hi]
  refine e_icmp_gt 26 dX3_leftFrom_7 (by decide) (fun c7 => ?_) (fun c7 => pn 10 rfl ?_)
  · have hc : ¬ t.length - i ≤ lost := fun q => nI_nlt q (by omega) c7
    rw [lfV, if_neg hc]
    refine e_lc (0) dX3_leftFrom_26 (by decide) (pn 27 rfl ?_)
    refine s_l [_, _, _, _, _, _, _, _, _] dX3_leftFrom_27 (by decide) rfl (pn 29 rfl ?_)
    refine e_ic (0) dX3_leftFrom_29 (by decide) (pn 30 rfl ?_)
    refine s_i [_, _, _, _, _, _, _, _, _] dX3_leftFrom_30 (by decide) rfl (pn 32 rfl ?_)
    exact l_S h ha okt hq hi hlo q 0 (by omega)
  · have hc : t.length - i ≤ lost := Nat.le_of_not_lt (fun q => c7 (nI_lt q (by omega)))
    rw [lfV, if_pos hc]
    refine e_aload_n dX3_leftFrom_10 rfl (pn 11 rfl ?_)
    refine e_get dX3_leftFrom_11 fl_X3_18 ha rfl (pn 14 rfl ?_)
    refine e_iload_n dX3_leftFrom_14 rfl (pn 15 rfl ?_)
    refine e_isub dX3_leftFrom_15 (pn 16 rfl ?_)
    refine e_iload_n dX3_leftFrom_16 rfl (pn 17 rfl ?_)
    rw [pk_sub hi]
    refine e_icmp_ne 24 dX3_leftFrom_17 (by decide) (fun c17 => ?_) (fun c17 => pn 20 rfl ?_)
    · have hc2 : ¬ t.length - i = lost := fun q => c17 (by rw [q])
      refine e_lc (0) dX3_leftFrom_24 (by decide) (pn 25 rfl ?_)
      exact e_lret dX3_leftFrom_25 rfl (by rw [if_neg hc2]) rfl
    · have hc2 : t.length - i = lost := (nI_eq (by omega) (by omega)).mp c17
      refine e_lc (1) dX3_leftFrom_20 (by decide) (pn 21 rfl ?_)
      refine e_goto 25 dX3_leftFrom_21 (by decide) ?_
      exact e_lret dX3_leftFrom_25 rfl (by rw [if_pos hc2]) rfl
def lfI (q : Nat) (t : List Nat) (i : Nat) : Nat → Nat → (Nat → Int64) → Nat → Int64
  | 0, _, g => g
  | m + 1, lost, g => lfI q t i m (lost + 1) (va_up g (i * 7 + lost) (lfV g q t i lost))
def lfO (q n : Nat) (t : List Nat) : Nat → (Nat → Int64) → Nat → Int64
  | 0, g => g
  | k + 1, g => lfO q n t k (lfI q t k (n + 1) 0 g)
theorem l_in {w : Wd} {e g0 : Nat → Int64} (h : pP w e g0) {a : Nat} {t : List Nat} (ha : w[a]? = some (rowW t)) (okt : okW t) {q n : Nat} (hq : 2 ≤ q ∧ q ≤ 4) (hn : n ≤ 6) {r : Option Value} {w' : Wd} (i : Nat) (hi : i ≤ t.length) : ∀ (m lost : Nat) (g : Nat → Int64), lost + m = n + 1 → EW mX3_byLosing none 49 [.ref 19, .ref a, .int (nI n), .int (nI q), .int (nI i), dmy] [] (w.set 21 (aJ 175 (lfI q t i m lost g))) r w' → EW mX3_byLosing none 14 [.ref 19, .ref a, .int (nI n), .int (nI q), .int (nI i), .int (nI lost)] [] (w.set 21 (aJ 175 g)) r w' := by
  have b1 := okt.1
  have e1 := neJ h.2.2 ha
  intro m
  induction m with
  | zero =>
    intro lost g hm K
    refine e_iload dX3_byLosing_14 rfl (pn 16 rfl ?_)
    refine e_iload_n dX3_byLosing_16 rfl (pn 17 rfl ?_)
    refine e_icmp_gt 49 dX3_byLosing_17 (by decide) (fun c17 => ?_) (fun c17 => pn 20 rfl ?_)
    · exact e_dr [_, _, _, _, _, _] 5 rfl K
    · exact absurd (nI_lt (by omega) (by omega)) c17
  | succ m ih =>
    intro lost g hm K
    have hp := h.upL g
    refine e_iload dX3_byLosing_14 rfl (pn 16 rfl ?_)
    refine e_iload_n dX3_byLosing_16 rfl (pn 17 rfl ?_)
    refine e_icmp_gt 49 dX3_byLosing_17 (by decide) (fun c17 => ?_) (fun c17 => pn 20 rfl ?_)
    · exact absurd c17 (nI_nlt (by omega) (by omega))
    · refine e_aload_n dX3_byLosing_20 rfl (pn 21 rfl ?_)
      refine e_get dX3_byLosing_21 fl_X3_15 hp.1 rfl (pn 24 rfl ?_)
      refine e_iload dX3_byLosing_24 rfl (pn 26 rfl ?_)
      refine e_bi (7) dX3_byLosing_26 (by decide) (pn 28 rfl ?_)
      refine e_imul dX3_byLosing_28 (pn 29 rfl ?_)
      refine e_iload dX3_byLosing_29 rfl (pn 31 rfl ?_)
      refine e_iadd dX3_byLosing_31 (pn 32 rfl ?_)
      refine e_aload_n dX3_byLosing_32 rfl (pn 33 rfl ?_)
      refine e_aload_n dX3_byLosing_33 rfl (pn 34 rfl ?_)
      refine e_iload dX3_byLosing_34 rfl (pn 36 rfl ?_)
      refine e_iload dX3_byLosing_36 rfl (pn 38 rfl ?_)
      refine e_iload_n dX3_byLosing_38 rfl (pn 39 rfl ?_)
      refine c_V1 dX3_byLosing_39 ml_X3_28 mv_X3_leftFrom (by decide) (l_V hp (gne e1 ha) okt hq hi (by omega)) hp.1 rfl rfl (Nat.le_of_ble_eq_true rfl) (pn 42 rfl ?_)
      refine e_last (i * 7 + lost) dX3_byLosing_42 hp.2.2 (by rw [show (7 : Int32) = nI 7 from rfl, pk_mul, nI_add]) (by omega) (by decide) (pn 43 rfl ?_)
      rw [List.set_set]
      refine s_inc [_, _, _, _, _, _] (1) dX3_byLosing_43 (by decide) rfl (by decide) rfl (pn 46 rfl ?_)
      refine e_goto 14 dX3_byLosing_46 (by decide) ?_
      rw [nI_1]
      exact ih (lost + 1) _ (by omega) K
theorem l_out {w : Wd} {e g0 : Nat → Int64} (h : pP w e g0) {a : Nat} {t : List Nat} (ha : w[a]? = some (rowW t)) (okt : okW t) {q n : Nat} (hq : 2 ≤ q ∧ q ≤ 4) (hn : n ≤ 6) {r : Option Value} {w' : Wd} : ∀ (k : Nat) (g : Nat → Int64), k ≤ t.length + 1 → EW mX3_byLosing none 55 [.ref 19, .ref a, .int (nI n), .int (nI q), dmy, dmy] [] (w.set 21 (aJ 175 (lfO q n t k g))) r w' → EW mX3_byLosing none 6 [.ref 19, .ref a, .int (nI n), .int (nI q), .int (nI k + (-1)), dmy] [] (w.set 21 (aJ 175 g)) r w' := by
  have b1 := okt.1
  intro k
  induction k with
  | zero =>
    intro g hk K
    refine e_iload dX3_byLosing_6 rfl (pn 8 rfl ?_)
    refine e_if_lt 55 dX3_byLosing_8 (by decide) (fun c8 => ?_) (fun c8 => pn 11 rfl ?_)
    · exact e_dr [_, _, _, _, _, _] 4 rfl K
    · exact absurd ((m1_lt 0 (by decide)).mpr rfl) c8
  | succ k ih =>
    intro g hk K
    simp only [pk_m1]
    refine e_iload dX3_byLosing_6 rfl (pn 8 rfl ?_)
    refine e_if_lt 55 dX3_byLosing_8 (by decide) (fun c8 => ?_) (fun c8 => pn 11 rfl ?_)
    · exact absurd c8 (nI_pos (by omega))
    · refine e_ic (0) dX3_byLosing_11 (by decide) (pn 12 rfl ?_)
      refine s_i [_, _, _, _, _, _] dX3_byLosing_12 (by decide) rfl (pn 14 rfl ?_)
      refine l_in h ha okt hq hn k (by omega) (n + 1) 0 g (by omega) ?_
      refine s_inc [_, _, _, _, _, _] (-1) dX3_byLosing_49 (by decide) rfl (by decide) rfl (pn 52 rfl ?_)
      refine e_goto 6 dX3_byLosing_52 (by decide) ?_
      exact ih _ (by omega) K
theorem l_by {w : Wd} {e g : Nat → Int64} (h : pP w e g) {a : Nat} {t : List Nat} (ha : w[a]? = some (rowW t)) (okt : okW t) {q n : Nat} (hq : 2 ≤ q ∧ q ≤ 4) (hn : n ≤ 6) : CW mX3_byLosing [.ref 19, .ref a, .int (nI n), .int (nI q)] w (some (.long (lfO q n t (t.length + 1) g n))) (w.set 21 (aJ 175 (lfO q n t (t.length + 1) g))) := by
  refine cw_of (M := mX3_byLosing) fx_X3_byLosing (lv := [.ref 19, .ref a, .int (nI n), .int (nI q), dmy, dmy]) rfl (Nat.le_of_ble_eq_true rfl) ?_
  refine e_aload_n dX3_byLosing_0 rfl (pn 1 rfl ?_)
  refine e_get dX3_byLosing_1 fl_X3_18 ha rfl (pn 4 rfl ?_)
  refine s_i [_, _, _, _, _, _] dX3_byLosing_4 (by decide) rfl (pn 6 rfl ?_)
  refine pw (set_id h.2.2).symm ?_
  rw [← pk_m1 t.length]
  refine l_out h ha okt hq hn (t.length + 1) g (Nat.le_refl _) ?_
  refine e_aload_n dX3_byLosing_55 rfl (pn 56 rfl ?_)
  refine e_get dX3_byLosing_56 fl_X3_15 (h.upL _).1 rfl (pn 59 rfl ?_)
  refine e_iload_n dX3_byLosing_59 rfl (pn 60 rfl ?_)
  refine e_lald (n) dX3_byLosing_60 (h.upL _).2.2 rfl (by omega) (by decide) (pn 61 rfl ?_)
  exact e_lret dX3_byLosing_61 rfl rfl rfl
/-! byGaining -/
def bgL (len q1 : Int32) : Nat → Nat → Int64 → Int64 → Int64 → Int64
  | 0, _, _, _, A => A
  | n + 1, i, P, O, A => bgL len q1 n (i + 1) (P * (len - nI i).toInt64 / (nI i + 1).toInt64) (O * q1.toInt64) (A + P * O)
theorem ne0L {i : Nat} (h : i < 2 ^ 30) : ¬ (nI i + 1).toInt64 = 0 := by
  rw [nI_1, nI_l (by omega), show (0 : Int64) = lN 0 from rfl, lN_eq (by omega) (by omega)]
  omega
theorem g_L {w : Wd} {a : Nat} {len q n0 : Int32} {n : Nat} (hn : n ≤ 6) : ∀ (m i : Nat) (P O A : Int64), i + m = n + 1 → EW mX3_byGaining none 20 [.ref 19, .ref a, .int (nI n), .int q, .int len, .long P, dmy, .long O, dmy, .long A, dmy, .int (nI i)] [] w (some (.long (bgL len (q - 1) m i P O A))) w := by
  intro m
  induction m with
  | zero =>
    intro i P O A hi
    refine e_iload dX3_byGaining_20 rfl (pn 22 rfl ?_)
    refine e_iload_n dX3_byGaining_22 rfl (pn 23 rfl ?_)
    refine e_icmp_gt 68 dX3_byGaining_23 (by decide) (fun c23 => ?_) (fun c23 => pn 26 rfl ?_)
    · refine e_lload dX3_byGaining_68 rfl (pn 70 rfl ?_)
      exact e_lret dX3_byGaining_70 rfl rfl rfl
    · exact absurd (nI_lt (by omega) (by omega)) c23
  | succ m ih =>
    intro i P O A hi
    refine e_iload dX3_byGaining_20 rfl (pn 22 rfl ?_)
    refine e_iload_n dX3_byGaining_22 rfl (pn 23 rfl ?_)
    refine e_icmp_gt 68 dX3_byGaining_23 (by decide) (fun c23 => ?_) (fun c23 => pn 26 rfl ?_)
    · exact absurd c23 (nI_nlt (by omega) (by omega))
    · refine e_lload dX3_byGaining_26 rfl (pn 28 rfl ?_)
      refine e_lload dX3_byGaining_28 rfl (pn 30 rfl ?_)
      refine e_lload dX3_byGaining_30 rfl (pn 32 rfl ?_)
      refine e_lmul dX3_byGaining_32 (pn 33 rfl ?_)
      refine e_ladd dX3_byGaining_33 (pn 34 rfl ?_)
      refine s_l [_, _, _, _, _, _, _, _, _, _, _, _] dX3_byGaining_34 (by decide) rfl (pn 36 rfl ?_)
      refine e_lload dX3_byGaining_36 rfl (pn 38 rfl ?_)
      refine e_iload dX3_byGaining_38 rfl (pn 40 rfl ?_)
      refine e_iload dX3_byGaining_40 rfl (pn 42 rfl ?_)
      refine e_isub dX3_byGaining_42 (pn 43 rfl ?_)
      refine e_i2l dX3_byGaining_43 (pn 44 rfl ?_)
      refine e_lmul dX3_byGaining_44 (pn 45 rfl ?_)
      refine e_iload dX3_byGaining_45 rfl (pn 47 rfl ?_)
      refine e_ic (1) dX3_byGaining_47 (by decide) (pn 48 rfl ?_)
      refine e_iadd dX3_byGaining_48 (pn 49 rfl ?_)
      refine e_i2l dX3_byGaining_49 (pn 50 rfl ?_)
      refine e_ldiv dX3_byGaining_50 (ne0L (by omega)) (pn 51 rfl ?_)
      refine s_l [_, _, _, _, _, _, _, _, _, _, _, _] dX3_byGaining_51 (by decide) rfl (pn 53 rfl ?_)
      refine e_lload dX3_byGaining_53 rfl (pn 55 rfl ?_)
      refine e_iload_n dX3_byGaining_55 rfl (pn 56 rfl ?_)
      refine e_ic (1) dX3_byGaining_56 (by decide) (pn 57 rfl ?_)
      refine e_isub dX3_byGaining_57 (pn 58 rfl ?_)
      refine e_i2l dX3_byGaining_58 (pn 59 rfl ?_)
      refine e_lmul dX3_byGaining_59 (pn 60 rfl ?_)
      refine s_l [_, _, _, _, _, _, _, _, _, _, _, _] dX3_byGaining_60 (by decide) rfl (pn 62 rfl ?_)
      refine s_inc [_, _, _, _, _, _, _, _, _, _, _, _] (1) dX3_byGaining_62 (by decide) rfl (by decide) rfl (pn 65 rfl ?_)
      refine e_goto 20 dX3_byGaining_65 (by decide) ?_
      rw [bgL]
      have K := ih (i + 1) (P * (len - nI i).toInt64 / (nI i + 1).toInt64) (O * (q - 1).toInt64) (A + P * O) (by omega)
      rw [← nI_1 i] at K
      exact K
theorem g_by {w : Wd} {a : Nat} {t : List Nat} (ha : w[a]? = some (rowW t)) {q : Int32} {n : Nat} (hn : n ≤ 6) : CW mX3_byGaining [.ref 19, .ref a, .int (nI n), .int q] w (some (.long (bgL (nI t.length + nI n) (q - 1) (n + 1) 0 1 1 0))) w := by
  refine cw_of (M := mX3_byGaining) fx_X3_byGaining (lv := [.ref 19, .ref a, .int (nI n), .int q, dmy, dmy, dmy, dmy, dmy, dmy, dmy, dmy]) rfl (Nat.le_of_ble_eq_true rfl) ?_
  refine e_aload_n dX3_byGaining_0 rfl (pn 1 rfl ?_)
  refine e_get dX3_byGaining_1 fl_X3_18 ha rfl (pn 4 rfl ?_)
  refine e_iload_n dX3_byGaining_4 rfl (pn 5 rfl ?_)
  refine e_iadd dX3_byGaining_5 (pn 6 rfl ?_)
  refine s_i [_, _, _, _, _, _, _, _, _, _, _, _] dX3_byGaining_6 (by decide) rfl (pn 8 rfl ?_)
  refine e_lc (1) dX3_byGaining_8 (by decide) (pn 9 rfl ?_)
  refine s_l [_, _, _, _, _, _, _, _, _, _, _, _] dX3_byGaining_9 (by decide) rfl (pn 11 rfl ?_)
  refine e_lc (1) dX3_byGaining_11 (by decide) (pn 12 rfl ?_)
  refine s_l [_, _, _, _, _, _, _, _, _, _, _, _] dX3_byGaining_12 (by decide) rfl (pn 14 rfl ?_)
  refine e_lc (0) dX3_byGaining_14 (by decide) (pn 15 rfl ?_)
  refine s_l [_, _, _, _, _, _, _, _, _, _, _, _] dX3_byGaining_15 (by decide) rfl (pn 17 rfl ?_)
  refine e_ic (0) dX3_byGaining_17 (by decide) (pn 18 rfl ?_)
  refine s_i [_, _, _, _, _, _, _, _, _, _, _, _] dX3_byGaining_18 (by decide) rfl (pn 20 rfl ?_)
  exact g_L (n0 := 0) hn (n + 1) 0 1 1 0 (by omega)
end
section
/-! LostLetters$Code: this at 15, tried at 16, found at 17, ways at wr -/
abbrev cdF (wr : Nat) (q n m a b lm : Nat) (sz : Int32) : Cel := oB 0 [.ref 16, .ref 17, .ref wr, .int (nI q), .int (nI n), .int (nI m), .int (nI a), .int (nI b), .int (nI lm), .int sz]
def cP (q n m a b lm : Nat) : Prop := (2 ≤ q ∧ q ≤ 4) ∧ (1 ≤ n ∧ n ≤ 16) ∧ (1 ≤ m ∧ m ≤ 64) ∧ a < m ∧ b < lm ∧ (1 ≤ lm ∧ lm ≤ 4)
def swN (q m s p last l : Nat) : Nat := if q = 2 then (s + p * l) % m else if 1 < p ∧ last ≤ l then (s + p - 1) % m else s
theorem swN_lt {q m s p last l : Nat} (hm : 0 < m) (hs : s < m) : swN q m s p last l < m := by
  unfold swN
  split
  · exact Nat.mod_lt _ hm
  · split
    · exact Nat.mod_lt _ hm
    · exact hs
theorem d_sumWith {w : Wd} {wr q n m a b lm : Nat} {sz : Int32} (h : w[15]? = some (cdF wr q n m a b lm sz)) (hq : q ≤ 4) (hm : 1 ≤ m ∧ m ≤ 64) {s p last l : Nat} (hs : s < m) (hp : p ≤ 30) (hp1 : 1 ≤ p) (hla : last < 4) (hl : l < 4) : CW mX0_sumWith [.ref 15, .int (nI s), .int (nI p), .int (nI last), .int (nI l)] w (some (.int (nI (swN q m s p last l)))) w := by
  have pl : p * l ≤ 30 * 4 := Nat.mul_le_mul hp (by omega)
  refine cw_of (M := mX0_sumWith) fx_X0_sumWith (lv := [.ref 15, .int (nI s), .int (nI p), .int (nI last), .int (nI l)]) rfl (Nat.le_of_ble_eq_true rfl) ?_
  refine e_aload_n dX0_sumWith_0 rfl (pn 1 rfl ?_)
  refine e_get dX0_sumWith_1 fl_X0_25 h rfl (pn 4 rfl ?_)
  refine e_ic (2) dX0_sumWith_4 (by decide) (pn 5 rfl ?_)
  refine e_icmp_ne 20 dX0_sumWith_5 (by decide) (fun c5 => ?_) (fun c5 => pn 8 rfl ?_)
  · have hc : ¬ q = 2 := fun e => c5 (by rw [e]; rfl)
    refine e_iload_n dX0_sumWith_20 rfl (pn 21 rfl ?_)
    refine e_ic (1) dX0_sumWith_21 (by decide) (pn 22 rfl ?_)
    refine e_icmp_le 44 dX0_sumWith_22 (by decide) (fun c22 => ?_) (fun c22 => pn 25 rfl ?_)
    · have hc2 : ¬ 1 < p := fun e => (nI_ge (a := 1) e (by omega)) c22
      refine e_iload_n dX0_sumWith_44 rfl (pn 45 rfl ?_)
      exact e_iret dX0_sumWith_45 rfl (by rw [swN, if_neg hc, if_neg (fun e => hc2 e.1)]) rfl
    · have hc2 : 1 < p := Nat.lt_of_not_le (fun e => c22 (nI_le (b := 1) e (by omega)))
      refine e_iload dX0_sumWith_25 rfl (pn 27 rfl ?_)
      refine e_iload_n dX0_sumWith_27 rfl (pn 28 rfl ?_)
      refine e_icmp_lt 44 dX0_sumWith_28 (by decide) (fun c28 => ?_) (fun c28 => pn 31 rfl ?_)
      · have hc3 : ¬ last ≤ l := fun e => nI_nlt e (by omega) c28
        refine e_iload_n dX0_sumWith_44 rfl (pn 45 rfl ?_)
        exact e_iret dX0_sumWith_45 rfl (by rw [swN, if_neg hc, if_neg (fun e => hc3 e.2)]) rfl
      · have hc3 : last ≤ l := Nat.le_of_not_lt (fun e => c28 (nI_lt e (by omega)))
        refine e_iload_n dX0_sumWith_31 rfl (pn 32 rfl ?_)
        refine e_iload_n dX0_sumWith_32 rfl (pn 33 rfl ?_)
        refine e_iadd dX0_sumWith_33 (pn 34 rfl ?_)
        refine e_ic (1) dX0_sumWith_34 (by decide) (pn 35 rfl ?_)
        refine e_isub dX0_sumWith_35 (pn 36 rfl ?_)
        refine e_aload_n dX0_sumWith_36 rfl (pn 37 rfl ?_)
        refine e_get dX0_sumWith_37 fl_X0_29 h rfl (pn 40 rfl ?_)
        refine e_irem dX0_sumWith_40 (nI_ne0 (by omega) (by omega)) (pn 41 rfl ?_)
        refine e_goto 45 dX0_sumWith_41 (by decide) ?_
        exact e_iret dX0_sumWith_45 rfl (by rw [swN, if_neg hc, if_pos ⟨hc2, hc3⟩, nI_add, show nI (s + p) - 1 = nI (s + p - 1) from pk_sub (b := 1) (by omega), pk_rem (by omega) (by omega) (by omega)]) rfl
  · have hc : q = 2 := (nI_eq (b := 2) (by omega) (by omega)).mp c5
    refine e_iload_n dX0_sumWith_8 rfl (pn 9 rfl ?_)
    refine e_iload_n dX0_sumWith_9 rfl (pn 10 rfl ?_)
    refine e_iload dX0_sumWith_10 rfl (pn 12 rfl ?_)
    refine e_imul dX0_sumWith_12 (pn 13 rfl ?_)
    refine e_iadd dX0_sumWith_13 (pn 14 rfl ?_)
    refine e_aload_n dX0_sumWith_14 rfl (pn 15 rfl ?_)
    refine e_get dX0_sumWith_15 fl_X0_29 h rfl (pn 18 rfl ?_)
    refine e_irem dX0_sumWith_18 (nI_ne0 (by omega) (by omega)) (pn 19 rfl ?_)
    exact e_iret dX0_sumWith_19 rfl (by rw [swN, if_pos hc, pk_mul, nI_add, pk_rem (by omega) (by omega) (by omega)]) rfl
def ceN (q m lm p last s c : Nat) : Nat := (((p - 1) * q + last) * m + s) * lm + c
theorem ce_lt {q n m lm p last s c : Nat} (h1 : 1 ≤ p) (h2 : p < n) (h3 : last < q) (h4 : s < m) (h5 : c < lm) : ceN q m lm p last s c < (n - 1) * q * m * lm := by
  have a1 : (p - 1) * q + last < (n - 1) * q := by
    calc (p - 1) * q + last < (p - 1) * q + q := by omega
      _ = (p - 1 + 1) * q := by rw [Nat.add_mul, Nat.one_mul]
      _ ≤ (n - 1) * q := Nat.mul_le_mul_right _ (by omega)
  have a2 : ((p - 1) * q + last) * m + s < (n - 1) * q * m := by
    calc ((p - 1) * q + last) * m + s < ((p - 1) * q + last) * m + m := by omega
      _ = ((p - 1) * q + last + 1) * m := by rw [Nat.add_mul _ 1, Nat.one_mul]
      _ ≤ (n - 1) * q * m := Nat.mul_le_mul_right _ (by omega)
  unfold ceN
  calc (((p - 1) * q + last) * m + s) * lm + c < (((p - 1) * q + last) * m + s) * lm + lm := by omega
    _ = (((p - 1) * q + last) * m + s + 1) * lm := by rw [Nat.add_mul _ 1, Nat.one_mul]
    _ ≤ (n - 1) * q * m * lm := Nat.mul_le_mul_right _ (by omega)
theorem d_cell {w : Wd} {wr q n m a b lm : Nat} {sz : Int32} (h : w[15]? = some (cdF wr q n m a b lm sz)) {p last s c : Nat} (hp : 1 ≤ p) : CW mX0_cell [.ref 15, .int (nI p), .int (nI last), .int (nI s), .int (nI c)] w (some (.int (nI (ceN q m lm p last s c)))) w := by
  refine cw_of (M := mX0_cell) fx_X0_cell (lv := [.ref 15, .int (nI p), .int (nI last), .int (nI s), .int (nI c)]) rfl (Nat.le_of_ble_eq_true rfl) ?_
  refine e_iload_n dX0_cell_0 rfl (pn 1 rfl ?_)
  refine e_ic (1) dX0_cell_1 (by decide) (pn 2 rfl ?_)
  refine e_isub dX0_cell_2 (pn 3 rfl ?_)
  refine e_aload_n dX0_cell_3 rfl (pn 4 rfl ?_)
  refine e_get dX0_cell_4 fl_X0_25 h rfl (pn 7 rfl ?_)
  refine e_imul dX0_cell_7 (pn 8 rfl ?_)
  refine e_iload_n dX0_cell_8 rfl (pn 9 rfl ?_)
  refine e_iadd dX0_cell_9 (pn 10 rfl ?_)
  refine e_aload_n dX0_cell_10 rfl (pn 11 rfl ?_)
  refine e_get dX0_cell_11 fl_X0_29 h rfl (pn 14 rfl ?_)
  refine e_imul dX0_cell_14 (pn 15 rfl ?_)
  refine e_iload_n dX0_cell_15 rfl (pn 16 rfl ?_)
  refine e_iadd dX0_cell_16 (pn 17 rfl ?_)
  refine e_aload_n dX0_cell_17 rfl (pn 18 rfl ?_)
  refine e_get dX0_cell_18 fl_X0_32 h rfl (pn 21 rfl ?_)
  refine e_imul dX0_cell_21 (pn 22 rfl ?_)
  refine e_iload dX0_cell_22 rfl (pn 24 rfl ?_)
  refine e_iadd dX0_cell_24 (pn 25 rfl ?_)
  exact e_iret dX0_cell_25 rfl (by rw [show nI p - 1 = nI (p - 1) from pk_sub (b := 1) hp, pk_mul, nI_add, pk_mul, nI_add, pk_mul, nI_add, ceN]) rfl
/-- this, its table -/
def cH (w : Wd) (wr len : Nat) (f : Nat → Int32) (q n m a b lm : Nat) (sz : Int32) : Prop := w[15]? = some (cdF wr q n m a b lm sz) ∧ w[wr]? = some (aI len f) ∧ (n - 1) * q * m * lm ≤ len ∧ len ≤ 15360 ∧ cP q n m a b lm
def weV (f : Nat → Int32) (q n m a b lm p last s c : Nat) : Int32 := if p < n then f (ceN q m lm p last s c) else if s = a ∧ c = b then 1 else 0
theorem d_we {w : Wd} {wr len q n m a b lm : Nat} {f : Nat → Int32} {sz : Int32} (h : cH w wr len f q n m a b lm sz) {p last s c : Nat} (hp : 1 ≤ p) (hp2 : p ≤ 16) (h3 : last < q) (h4 : s < m) (h5 : c < lm) : CW mX0_waysToEnd [.ref 15, .int (nI p), .int (nI last), .int (nI s), .int (nI c)] w (some (.int (weV f q n m a b lm p last s c))) w := by
  obtain ⟨h1, h2, hl, hl2, hq, hn, hm, ha, hb, hlm⟩ := h
  refine cw_of (M := mX0_waysToEnd) fx_X0_waysToEnd (lv := [.ref 15, .int (nI p), .int (nI last), .int (nI s), .int (nI c)]) rfl (Nat.le_of_ble_eq_true rfl) ?_
  refine e_iload_n dX0_waysToEnd_0 rfl (pn 1 rfl ?_)
  refine e_aload_n dX0_waysToEnd_1 rfl (pn 2 rfl ?_)
  refine e_get dX0_waysToEnd_2 fl_X0_35 h1 rfl (pn 5 rfl ?_)
  refine e_icmp_lt 31 dX0_waysToEnd_5 (by decide) (fun c5 => ?_) (fun c5 => pn 8 rfl ?_)
  · have hc : p < n := Nat.lt_of_not_le (fun e => nI_nlt e (by omega) c5)
    have hx := ce_lt hp hc h3 h4 h5
    refine e_aload_n dX0_waysToEnd_31 rfl (pn 32 rfl ?_)
    refine e_get dX0_waysToEnd_32 fl_X0_21 h1 rfl (pn 35 rfl ?_)
    refine e_aload_n dX0_waysToEnd_35 rfl (pn 36 rfl ?_)
    refine e_iload_n dX0_waysToEnd_36 rfl (pn 37 rfl ?_)
    refine e_iload_n dX0_waysToEnd_37 rfl (pn 38 rfl ?_)
    refine e_iload_n dX0_waysToEnd_38 rfl (pn 39 rfl ?_)
    refine e_iload dX0_waysToEnd_39 rfl (pn 41 rfl ?_)
    refine c_V1 dX0_waysToEnd_41 ml_X0_70 mv_X0_cell (by decide) (d_cell h1 hp) h1 rfl rfl (Nat.le_of_ble_eq_true rfl) (pn 44 rfl ?_)
    refine e_iald (ceN q m lm p last s c) dX0_waysToEnd_44 h2 rfl (by omega) (by omega) (pn 45 rfl ?_)
    exact e_iret dX0_waysToEnd_45 rfl (by rw [weV, if_pos hc]) rfl
  · have hc : ¬ p < n := fun e => c5 (nI_lt e (by omega))
    rw [weV, if_neg hc]
    refine e_iload_n dX0_waysToEnd_8 rfl (pn 9 rfl ?_)
    refine e_aload_n dX0_waysToEnd_9 rfl (pn 10 rfl ?_)
    refine e_get dX0_waysToEnd_10 fl_X0_38 h1 rfl (pn 13 rfl ?_)
    refine e_icmp_ne 29 dX0_waysToEnd_13 (by decide) (fun c13 => ?_) (fun c13 => pn 16 rfl ?_)
    · have hc2 : ¬ s = a := fun e => c13 (by rw [e])
      refine e_ic (0) dX0_waysToEnd_29 (by decide) (pn 30 rfl ?_)
      exact e_iret dX0_waysToEnd_30 rfl (by rw [if_neg (fun e => hc2 e.1)]) rfl
    · have hc2 : s = a := (nI_eq (by omega) (by omega)).mp c13
      refine e_iload dX0_waysToEnd_16 rfl (pn 18 rfl ?_)
      refine e_aload_n dX0_waysToEnd_18 rfl (pn 19 rfl ?_)
      refine e_get dX0_waysToEnd_19 fl_X0_41 h1 rfl (pn 22 rfl ?_)
      refine e_icmp_ne 29 dX0_waysToEnd_22 (by decide) (fun c22 => ?_) (fun c22 => pn 25 rfl ?_)
      · have hc3 : ¬ c = b := fun e => c22 (by rw [e])
        refine e_ic (0) dX0_waysToEnd_29 (by decide) (pn 30 rfl ?_)
        exact e_iret dX0_waysToEnd_30 rfl (by rw [if_neg (fun e => hc3 e.2)]) rfl
      · have hc3 : c = b := (nI_eq (by omega) (by omega)).mp c22
        refine e_ic (1) dX0_waysToEnd_25 (by decide) (pn 26 rfl ?_)
        refine e_goto 30 dX0_waysToEnd_26 (by decide) ?_
        exact e_iret dX0_waysToEnd_30 rfl (by rw [if_pos ⟨hc2, hc3⟩]) rfl
def wbS (f : Nat → Int32) (q n m a b lm p last s c : Nat) : Nat → Int32
  | 0 => 0
  | l + 1 => wbS f q n m a b lm p last s c l + weV f q n m a b lm (p + 1) l (swN q m s (p + 1) last l) ((c + l) % lm)
theorem d_wb {w : Wd} {wr len q n m a b lm : Nat} {f : Nat → Int32} {sz : Int32} (h : cH w wr len f q n m a b lm sz) {p last s c : Nat} (hp : p ≤ 15) (h3 : last < q) (h4 : s < m) (h5 : c < lm) : CW mX0_waysByNext [.ref 15, .int (nI p), .int (nI last), .int (nI s), .int (nI c)] w (some (.int (wbS f q n m a b lm p last s c q))) w := by
  obtain ⟨hq, hn, hm, ha, hb, hlm⟩ := h.2.2.2.2
  have loop : ∀ (k l : Nat), l + k = q → EW mX0_waysByNext none 6 [.ref 15, .int (nI p), .int (nI last), .int (nI s), .int (nI c), .int (wbS f q n m a b lm p last s c l), .int (nI l)] [] w (some (.int (wbS f q n m a b lm p last s c q))) w := by
    intro k
    induction k with
    | zero =>
      intro l hl
      have e : l = q := by omega
      subst e
      refine e_iload dX0_waysByNext_6 rfl (pn 8 rfl ?_)
      refine e_aload_n dX0_waysByNext_8 rfl (pn 9 rfl ?_)
      refine e_get dX0_waysByNext_9 fl_X0_25 h.1 rfl (pn 12 rfl ?_)
      refine e_icmp_ge 56 dX0_waysByNext_12 (by decide) (fun c12 => ?_) (fun c12 => pn 15 rfl ?_)
      · refine e_iload dX0_waysByNext_56 rfl (pn 58 rfl ?_)
        exact e_iret dX0_waysByNext_58 rfl rfl rfl
      · exact absurd (nI_le (Nat.le_refl _) (by omega)) c12
    | succ k ih =>
      intro l hl
      have K := ih (l + 1) (by omega)
      rw [wbS] at K
      have hsw := swN_lt (q := q) (p := p + 1) (last := last) (l := l) (show 0 < m by omega) h4
      have hcl := Nat.mod_lt (c + l) (show 0 < lm by omega)
      refine e_iload dX0_waysByNext_6 rfl (pn 8 rfl ?_)
      refine e_aload_n dX0_waysByNext_8 rfl (pn 9 rfl ?_)
      refine e_get dX0_waysByNext_9 fl_X0_25 h.1 rfl (pn 12 rfl ?_)
      refine e_icmp_ge 56 dX0_waysByNext_12 (by decide) (fun c12 => ?_) (fun c12 => pn 15 rfl ?_)
      · exact absurd c12 (nI_ge (by omega) (by omega))
      · refine e_iload dX0_waysByNext_15 rfl (pn 17 rfl ?_)
        refine e_aload_n dX0_waysByNext_17 rfl (pn 18 rfl ?_)
        refine e_iload_n dX0_waysByNext_18 rfl (pn 19 rfl ?_)
        refine e_ic (1) dX0_waysByNext_19 (by decide) (pn 20 rfl ?_)
        refine e_iadd dX0_waysByNext_20 (pn 21 rfl ?_)
        refine e_iload dX0_waysByNext_21 rfl (pn 23 rfl ?_)
        refine e_aload_n dX0_waysByNext_23 rfl (pn 24 rfl ?_)
        refine e_iload_n dX0_waysByNext_24 rfl (pn 25 rfl ?_)
        refine e_iload_n dX0_waysByNext_25 rfl (pn 26 rfl ?_)
        refine e_ic (1) dX0_waysByNext_26 (by decide) (pn 27 rfl ?_)
        refine e_iadd dX0_waysByNext_27 (pn 28 rfl ?_)
        refine e_iload_n dX0_waysByNext_28 rfl (pn 29 rfl ?_)
        refine e_iload dX0_waysByNext_29 rfl (pn 31 rfl ?_)
        rw [nI_1]
        refine c_V1 dX0_waysByNext_31 ml_X0_73 mv_X0_sumWith (by decide) (d_sumWith h.1 hq.2 hm h4 (p := p + 1) (l := l) (by omega) (by omega) (by omega) (by omega)) h.1 rfl rfl (Nat.le_of_ble_eq_true rfl) (pn 34 rfl ?_)
        refine e_iload dX0_waysByNext_34 rfl (pn 36 rfl ?_)
        refine e_iload dX0_waysByNext_36 rfl (pn 38 rfl ?_)
        refine e_iadd dX0_waysByNext_38 (pn 39 rfl ?_)
        refine e_aload_n dX0_waysByNext_39 rfl (pn 40 rfl ?_)
        refine e_get dX0_waysByNext_40 fl_X0_32 h.1 rfl (pn 43 rfl ?_)
        refine e_irem dX0_waysByNext_43 (nI_ne0 (by omega) (by omega)) (pn 44 rfl ?_)
        rw [nI_add, pk_rem (by omega) (by omega) (by omega)]
        refine c_V1 dX0_waysByNext_44 ml_X0_76 mv_X0_waysToEnd (by decide) (d_we h (p := p + 1) (last := l) (by omega) (by omega) (by omega) hsw hcl) h.1 rfl rfl (Nat.le_of_ble_eq_true rfl) (pn 47 rfl ?_)
        refine e_iadd dX0_waysByNext_47 (pn 48 rfl ?_)
        refine s_i [_, _, _, _, _, _, _] dX0_waysByNext_48 (by decide) rfl (pn 50 rfl ?_)
        refine s_inc [_, _, _, _, _, _, _] (1) dX0_waysByNext_50 (by decide) rfl (by decide) rfl (pn 53 rfl ?_)
        refine e_goto 6 dX0_waysByNext_53 (by decide) ?_
        rw [nI_1]
        exact K
  refine cw_of (M := mX0_waysByNext) fx_X0_waysByNext (lv := [.ref 15, .int (nI p), .int (nI last), .int (nI s), .int (nI c), dmy, dmy]) rfl (Nat.le_of_ble_eq_true rfl) ?_
  refine e_ic (0) dX0_waysByNext_0 (by decide) (pn 1 rfl ?_)
  refine s_i [_, _, _, _, _, _, _] dX0_waysByNext_1 (by decide) rfl (pn 3 rfl ?_)
  refine e_ic (0) dX0_waysByNext_3 (by decide) (pn 4 rfl ?_)
  refine s_i [_, _, _, _, _, _, _] dX0_waysByNext_4 (by decide) rfl (pn 6 rfl ?_)
  exact loop q 0 (by omega)
theorem cH.up {w : Wd} {wr len q n m a b lm : Nat} {f : Nat → Int32} {sz : Int32} (h : cH w wr len f q n m a b lm sz) (g : Nat → Int32) : cH (w.set wr (aI len g)) wr len g q n m a b lm sz := by
  have e : wr ≠ 15 := fun q => by
    have h1 := h.1
    have h2 := h.2.1
    rw [q, h1] at h2
    cases h2
  exact ⟨gne e h.1, gse h.2.1, h.2.2⟩
def cbC (q n m a b lm p last s : Nat) : Nat → Nat → (Nat → Int32) → Nat → Int32
  | 0, _, f => f
  | k + 1, c, f => cbC q n m a b lm p last s k (c + 1) (va_up f (ceN q m lm p last s c) (wbS f q n m a b lm p last s c q))
def cbS (q n m a b lm p last : Nat) : Nat → Nat → (Nat → Int32) → Nat → Int32
  | 0, _, f => f
  | k + 1, s, f => cbS q n m a b lm p last k (s + 1) (cbC q n m a b lm p last s lm 0 f)
theorem d_cb {w : Wd} {wr len q n m a b lm : Nat} {f0 : Nat → Int32} {sz : Int32} (h : cH w wr len f0 q n m a b lm sz) {p last : Nat} (hp1 : 1 ≤ p) (hp : p < n) (h3 : last < q) : CW mX0_countWaysBehind [.ref 15, .int (nI p), .int (nI last)] w none (w.set wr (aI len (cbS q n m a b lm p last m 0 f0))) := by
  obtain ⟨hq, hn, hm, ha, hb, hlm⟩ := h.2.2.2.2
  have hle := h.2.2.1
  have hle2 := h.2.2.2.1
  have inner : ∀ (s : Nat), s < m → ∀ {r : Option Value} {w' : Wd} (k c : Nat) (f : Nat → Int32), c + k = lm → EW mX0_countWaysBehind none 51 [.ref 15, .int (nI p), .int (nI last), .int (nI s), dmy] [] (w.set wr (aI len (cbC q n m a b lm p last s k c f))) r w' → EW mX0_countWaysBehind none 13 [.ref 15, .int (nI p), .int (nI last), .int (nI s), .int (nI c)] [] (w.set wr (aI len f)) r w' := by
    intro s hs r w' k
    induction k with
    | zero =>
      intro c f hc K
      refine e_iload dX0_countWaysBehind_13 rfl (pn 15 rfl ?_)
      refine e_aload_n dX0_countWaysBehind_15 rfl (pn 16 rfl ?_)
      refine e_get dX0_countWaysBehind_16 fl_X0_32 (h.up f).1 rfl (pn 19 rfl ?_)
      refine e_icmp_ge 51 dX0_countWaysBehind_19 (by decide) (fun c19 => ?_) (fun c19 => pn 22 rfl ?_)
      · exact e_dr [_, _, _, _, _] 4 rfl K
      · exact absurd (nI_le (by omega) (by omega)) c19
    | succ k ih =>
      intro c f hc K
      have hp2 := h.up f
      have hx := ce_lt hp1 hp h3 hs (show c < lm by omega)
      refine e_iload dX0_countWaysBehind_13 rfl (pn 15 rfl ?_)
      refine e_aload_n dX0_countWaysBehind_15 rfl (pn 16 rfl ?_)
      refine e_get dX0_countWaysBehind_16 fl_X0_32 hp2.1 rfl (pn 19 rfl ?_)
      refine e_icmp_ge 51 dX0_countWaysBehind_19 (by decide) (fun c19 => ?_) (fun c19 => pn 22 rfl ?_)
      · exact absurd c19 (nI_ge (by omega) (by omega))
      · refine e_aload_n dX0_countWaysBehind_22 rfl (pn 23 rfl ?_)
        refine e_get dX0_countWaysBehind_23 fl_X0_21 hp2.1 rfl (pn 26 rfl ?_)
        refine e_aload_n dX0_countWaysBehind_26 rfl (pn 27 rfl ?_)
        refine e_iload_n dX0_countWaysBehind_27 rfl (pn 28 rfl ?_)
        refine e_iload_n dX0_countWaysBehind_28 rfl (pn 29 rfl ?_)
        refine e_iload_n dX0_countWaysBehind_29 rfl (pn 30 rfl ?_)
        refine e_iload dX0_countWaysBehind_30 rfl (pn 32 rfl ?_)
        refine c_V1 dX0_countWaysBehind_32 ml_X0_70 mv_X0_cell (by decide) (d_cell hp2.1 hp1) hp2.1 rfl rfl (Nat.le_of_ble_eq_true rfl) (pn 35 rfl ?_)
        refine e_aload_n dX0_countWaysBehind_35 rfl (pn 36 rfl ?_)
        refine e_iload_n dX0_countWaysBehind_36 rfl (pn 37 rfl ?_)
        refine e_iload_n dX0_countWaysBehind_37 rfl (pn 38 rfl ?_)
        refine e_iload_n dX0_countWaysBehind_38 rfl (pn 39 rfl ?_)
        refine e_iload dX0_countWaysBehind_39 rfl (pn 41 rfl ?_)
        refine c_V1 dX0_countWaysBehind_41 ml_X0_63 mv_X0_waysByNext (by decide) (d_wb hp2 (by omega) h3 hs (show c < lm by omega)) hp2.1 rfl rfl (Nat.le_of_ble_eq_true rfl) (pn 44 rfl ?_)
        refine e_iast (ceN q m lm p last s c) dX0_countWaysBehind_44 hp2.2.1 rfl (by omega) (by omega) (pn 45 rfl ?_)
        rw [List.set_set]
        refine s_inc [_, _, _, _, _] (1) dX0_countWaysBehind_45 (by decide) rfl (by decide) rfl (pn 48 rfl ?_)
        refine e_goto 13 dX0_countWaysBehind_48 (by decide) ?_
        rw [nI_1]
        exact ih (c + 1) _ (by omega) K
  have outer : ∀ {r : Option Value} {w' : Wd} (k s : Nat) (f : Nat → Int32), s + k = m → EW mX0_countWaysBehind none 57 [.ref 15, .int (nI p), .int (nI last), dmy, dmy] [] (w.set wr (aI len (cbS q n m a b lm p last k s f))) r w' → EW mX0_countWaysBehind none 2 [.ref 15, .int (nI p), .int (nI last), .int (nI s), dmy] [] (w.set wr (aI len f)) r w' := by
    intro r w' k
    induction k with
    | zero =>
      intro s f hs K
      refine e_iload_n dX0_countWaysBehind_2 rfl (pn 3 rfl ?_)
      refine e_aload_n dX0_countWaysBehind_3 rfl (pn 4 rfl ?_)
      refine e_get dX0_countWaysBehind_4 fl_X0_29 (h.up f).1 rfl (pn 7 rfl ?_)
      refine e_icmp_ge 57 dX0_countWaysBehind_7 (by decide) (fun c7 => ?_) (fun c7 => pn 10 rfl ?_)
      · exact e_dr [_, _, _, _, _] 3 rfl K
      · exact absurd (nI_le (by omega) (by omega)) c7
    | succ k ih =>
      intro s f hs K
      refine e_iload_n dX0_countWaysBehind_2 rfl (pn 3 rfl ?_)
      refine e_aload_n dX0_countWaysBehind_3 rfl (pn 4 rfl ?_)
      refine e_get dX0_countWaysBehind_4 fl_X0_29 (h.up f).1 rfl (pn 7 rfl ?_)
      refine e_icmp_ge 57 dX0_countWaysBehind_7 (by decide) (fun c7 => ?_) (fun c7 => pn 10 rfl ?_)
      · exact absurd c7 (nI_ge (by omega) (by omega))
      · refine e_ic (0) dX0_countWaysBehind_10 (by decide) (pn 11 rfl ?_)
        refine s_i [_, _, _, _, _] dX0_countWaysBehind_11 (by decide) rfl (pn 13 rfl ?_)
        refine inner s (by omega) lm 0 f (by omega) ?_
        refine s_inc [_, _, _, _, _] (1) dX0_countWaysBehind_51 (by decide) rfl (by decide) rfl (pn 54 rfl ?_)
        refine e_goto 2 dX0_countWaysBehind_54 (by decide) ?_
        rw [nI_1]
        exact ih (s + 1) _ (by omega) K
  refine cw_of (M := mX0_countWaysBehind) fx_X0_countWaysBehind (lv := [.ref 15, .int (nI p), .int (nI last), dmy, dmy]) rfl (Nat.le_of_ble_eq_true rfl) ?_
  refine e_ic (0) dX0_countWaysBehind_0 (by decide) (pn 1 rfl ?_)
  refine s_in [_, _, _, _, _] dX0_countWaysBehind_1 (by decide) rfl (pn 2 rfl ?_)
  refine pw (set_id h.2.1).symm ?_
  refine outer m 0 f0 (by omega) ?_
  exact e_vret dX0_countWaysBehind_57 rfl rfl rfl
def cwL (q n m a b lm p : Nat) : Nat → Nat → (Nat → Int32) → Nat → Int32
  | 0, _, f => f
  | k + 1, last, f => cwL q n m a b lm p k (last + 1) (cbS q n m a b lm p last m 0 f)
def cwP (q n m a b lm : Nat) : Nat → (Nat → Int32) → Nat → Int32
  | 0, f => f
  | p + 1, f => cwP q n m a b lm p (cwL q n m a b lm (p + 1) q 0 f)
theorem d_cW {w : Wd} {wr len q n m a b lm : Nat} {f0 : Nat → Int32} {sz : Int32} (h : cH w wr len f0 q n m a b lm sz) : CW mX0_countWays [.ref 15] w none ((w.set wr (aI len (cwP q n m a b lm (n - 1) f0))).set 15 (cdF wr q n m a b lm (wbS (cwP q n m a b lm (n - 1) f0) q n m a b lm 0 0 0 0 q))) := by
  obtain ⟨hq, hn, hm, ha, hb, hlm⟩ := h.2.2.2.2
  have inner : ∀ (p : Nat), 1 ≤ p → p < n → ∀ {r : Option Value} {w' : Wd} (k last : Nat) (f : Nat → Int32), last + k = q → EW mX0_countWays none 34 [.ref 15, .int (nI p), dmy] [] (w.set wr (aI len (cwL q n m a b lm p k last f))) r w' → EW mX0_countWays none 14 [.ref 15, .int (nI p), .int (nI last)] [] (w.set wr (aI len f)) r w' := by
    intro p hp1 hp r w' k
    induction k with
    | zero =>
      intro c f hc K
      refine e_iload_n dX0_countWays_14 rfl (pn 15 rfl ?_)
      refine e_aload_n dX0_countWays_15 rfl (pn 16 rfl ?_)
      refine e_get dX0_countWays_16 fl_X0_25 (h.up f).1 rfl (pn 19 rfl ?_)
      refine e_icmp_ge 34 dX0_countWays_19 (by decide) (fun c19 => ?_) (fun c19 => pn 22 rfl ?_)
      · exact e_dr [_, _, _] 2 rfl K
      · exact absurd (nI_le (by omega) (by omega)) c19
    | succ k ih =>
      intro c f hc K
      have hp2 := h.up f
      refine e_iload_n dX0_countWays_14 rfl (pn 15 rfl ?_)
      refine e_aload_n dX0_countWays_15 rfl (pn 16 rfl ?_)
      refine e_get dX0_countWays_16 fl_X0_25 hp2.1 rfl (pn 19 rfl ?_)
      refine e_icmp_ge 34 dX0_countWays_19 (by decide) (fun c19 => ?_) (fun c19 => pn 22 rfl ?_)
      · exact absurd c19 (nI_ge (by omega) (by omega))
      · refine e_aload_n dX0_countWays_22 rfl (pn 23 rfl ?_)
        refine e_iload_n dX0_countWays_23 rfl (pn 24 rfl ?_)
        refine e_iload_n dX0_countWays_24 rfl (pn 25 rfl ?_)
        refine c_V0 dX0_countWays_25 ml_X0_59 mv_X0_countWaysBehind (by decide) (d_cb hp2 hp1 hp (show c < q by omega)) hp2.1 rfl rfl (Nat.le_of_ble_eq_true rfl) (pn 28 rfl ?_)
        rw [List.set_set]
        refine s_inc [_, _, _] (1) dX0_countWays_28 (by decide) rfl (by decide) rfl (pn 31 rfl ?_)
        refine e_goto 14 dX0_countWays_31 (by decide) ?_
        rw [nI_1]
        exact ih (c + 1) _ (by omega) K
  have outer : ∀ {r : Option Value} {w' : Wd} (p : Nat) (f : Nat → Int32), p < n → EW mX0_countWays none 40 [.ref 15, dmy, dmy] [] (w.set wr (aI len (cwP q n m a b lm p f))) r w' → EW mX0_countWays none 7 [.ref 15, .int (nI p), dmy] [] (w.set wr (aI len f)) r w' := by
    intro r w' p
    induction p with
    | zero =>
      intro f hs K
      refine e_iload_n dX0_countWays_7 rfl (pn 8 rfl ?_)
      refine e_ic (1) dX0_countWays_8 (by decide) (pn 9 rfl ?_)
      refine e_icmp_lt 40 dX0_countWays_9 (by decide) (fun c9 => ?_) (fun c9 => pn 12 rfl ?_)
      · exact e_dr [_, _, _] 1 rfl K
      · exact absurd (by decide) c9
    | succ p ih =>
      intro f hs K
      refine e_iload_n dX0_countWays_7 rfl (pn 8 rfl ?_)
      refine e_ic (1) dX0_countWays_8 (by decide) (pn 9 rfl ?_)
      refine e_icmp_lt 40 dX0_countWays_9 (by decide) (fun c9 => ?_) (fun c9 => pn 12 rfl ?_)
      · exact absurd c9 (nI_nlt (b := 1) (by omega) (by omega))
      · refine e_ic (0) dX0_countWays_12 (by decide) (pn 13 rfl ?_)
        refine s_in [_, _, _] dX0_countWays_13 (by decide) rfl (pn 14 rfl ?_)
        refine inner (p + 1) (by omega) hs q 0 f (by omega) ?_
        refine s_inc [_, _, _] (-1) dX0_countWays_34 (by decide) rfl (by decide) rfl (pn 37 rfl ?_)
        refine e_goto 7 dX0_countWays_37 (by decide) ?_
        rw [pk_m1]
        exact ih _ (by omega) K
  have hE := h.up (cwP q n m a b lm (n - 1) f0)
  refine cw_of (M := mX0_countWays) fx_X0_countWays (lv := [.ref 15, dmy, dmy]) rfl (Nat.le_of_ble_eq_true rfl) ?_
  refine e_aload_n dX0_countWays_0 rfl (pn 1 rfl ?_)
  refine e_get dX0_countWays_1 fl_X0_35 h.1 rfl (pn 4 rfl ?_)
  refine e_ic (1) dX0_countWays_4 (by decide) (pn 5 rfl ?_)
  refine e_isub dX0_countWays_5 (pn 6 rfl ?_)
  refine s_in [_, _, _] dX0_countWays_6 (by decide) rfl (pn 7 rfl ?_)
  refine pw (set_id h.2.1).symm ?_
  rw [show nI n - 1 = nI (n - 1) from pk_sub (b := 1) hn.1]
  refine outer (n - 1) f0 (by omega) ?_
  refine e_aload_n dX0_countWays_40 rfl (pn 41 rfl ?_)
  refine e_aload_n dX0_countWays_41 rfl (pn 42 rfl ?_)
  refine e_ic (0) dX0_countWays_42 (by decide) (pn 43 rfl ?_)
  refine e_ic (0) dX0_countWays_43 (by decide) (pn 44 rfl ?_)
  refine e_ic (0) dX0_countWays_44 (by decide) (pn 45 rfl ?_)
  refine e_ic (0) dX0_countWays_45 (by decide) (pn 46 rfl ?_)
  refine c_V1 dX0_countWays_46 ml_X0_63 mv_X0_waysByNext (by decide) (d_wb hE (p := 0) (last := 0) (s := 0) (c := 0) (by omega) (by omega) (by omega) (by omega)) hE.1 rfl rfl (Nat.le_of_ble_eq_true rfl) (pn 49 rfl ?_)
  refine e_put dX0_countWays_49 fp_X0_67 hE.1 rfl (Nat.le_of_ble_eq_true rfl) (pn 52 rfl ?_)
  exact e_vret dX0_countWays_52 rfl rfl rfl
end
