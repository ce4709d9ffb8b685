section
-- ===== PART A: goes FIRST, ahead of the names: the tables' words, and 'selects' of the private methods out of them =====
/-- a private method of a class that the tables say can be made, by its rows of tables_1 -/
def lw_okq (q : MethodName × Nat) : Prop := (q.1.cls ≠ "java/lang/invoke/MethodHandle" ∧ q.1.cls ≠ "java/lang/invoke/VarHandle") ∧ Cond.instantiable q.1.cls q.2 ∈ tables_1 ∧ Cond.privateMethod q.1 ∈ tables_1 ∧ Cond.instanceMethod q.1 ∈ tables_1
theorem lw_p0 : lw_okq (⟨"FoldKeeper$TextReader", "restart", "()V"⟩, 8) := ⟨⟨by decide +kernel, by decide +kernel⟩, List.mem_of_getElem? (i := 27) (by decide +kernel), List.mem_of_getElem? (i := 294) (by decide +kernel), List.mem_of_getElem? (i := 295) (by decide +kernel)⟩
theorem lw_p1 : lw_okq (⟨"FoldKeeper$Tokens", "passName", "()Z"⟩, 6) := ⟨⟨by decide +kernel, by decide +kernel⟩, List.mem_of_getElem? (i := 33) (by decide +kernel), List.mem_of_getElem? (i := 317) (by decide +kernel), List.mem_of_getElem? (i := 318) (by decide +kernel)⟩
theorem lw_p2 : lw_okq (⟨"FoldKeeper$Tokens", "passNumber", "()Z"⟩, 6) := ⟨⟨by decide +kernel, by decide +kernel⟩, List.mem_of_getElem? (i := 33) (by decide +kernel), List.mem_of_getElem? (i := 324) (by decide +kernel), List.mem_of_getElem? (i := 325) (by decide +kernel)⟩
theorem lw_p3 : lw_okq (⟨"FoldKeeper$Tokens", "passQuote", "()Z"⟩, 6) := ⟨⟨by decide +kernel, by decide +kernel⟩, List.mem_of_getElem? (i := 33) (by decide +kernel), List.mem_of_getElem? (i := 332) (by decide +kernel), List.mem_of_getElem? (i := 333) (by decide +kernel)⟩
theorem lw_p4 : lw_okq (⟨"FoldKeeper$Tokens", "passSemicolon", "(I)Z"⟩, 6) := ⟨⟨by decide +kernel, by decide +kernel⟩, List.mem_of_getElem? (i := 33) (by decide +kernel), List.mem_of_getElem? (i := 354) (by decide +kernel), List.mem_of_getElem? (i := 355) (by decide +kernel)⟩
theorem lw_p5 : lw_okq (⟨"FoldKeeper$TextReader", "takeMarks", "()Z"⟩, 8) := ⟨⟨by decide +kernel, by decide +kernel⟩, List.mem_of_getElem? (i := 27) (by decide +kernel), List.mem_of_getElem? (i := 358) (by decide +kernel), List.mem_of_getElem? (i := 359) (by decide +kernel)⟩
theorem lw_p6 : lw_okq (⟨"FoldKeeper$TextReader", "takeToken", "()Z"⟩, 8) := ⟨⟨by decide +kernel, by decide +kernel⟩, List.mem_of_getElem? (i := 27) (by decide +kernel), List.mem_of_getElem? (i := 377) (by decide +kernel), List.mem_of_getElem? (i := 378) (by decide +kernel)⟩
theorem lw_p7 : lw_okq (⟨"FoldKeeper$TextReader", "takeName", "()Z"⟩, 8) := ⟨⟨by decide +kernel, by decide +kernel⟩, List.mem_of_getElem? (i := 27) (by decide +kernel), List.mem_of_getElem? (i := 381) (by decide +kernel), List.mem_of_getElem? (i := 382) (by decide +kernel)⟩
theorem lw_p8 : lw_okq (⟨"FoldKeeper$TextReader", "goOnWith", "(I)Z"⟩, 8) := ⟨⟨by decide +kernel, by decide +kernel⟩, List.mem_of_getElem? (i := 27) (by decide +kernel), List.mem_of_getElem? (i := 439) (by decide +kernel), List.mem_of_getElem? (i := 440) (by decide +kernel)⟩
theorem lw_p9 : lw_okq (⟨"FoldKeeper$TextReader", "takeNumber", "()Z"⟩, 8) := ⟨⟨by decide +kernel, by decide +kernel⟩, List.mem_of_getElem? (i := 27) (by decide +kernel), List.mem_of_getElem? (i := 448) (by decide +kernel), List.mem_of_getElem? (i := 449) (by decide +kernel)⟩
theorem lw_p10 : lw_okq (⟨"FoldKeeper$TextReader", "takeQuote", "()Z"⟩, 8) := ⟨⟨by decide +kernel, by decide +kernel⟩, List.mem_of_getElem? (i := 27) (by decide +kernel), List.mem_of_getElem? (i := 452) (by decide +kernel), List.mem_of_getElem? (i := 453) (by decide +kernel)⟩
theorem lw_p11 : lw_okq (⟨"FoldKeeper$Row", "openGap", "(II)V"⟩, 2) := ⟨⟨by decide +kernel, by decide +kernel⟩, List.mem_of_getElem? (i := 107) (by decide +kernel), List.mem_of_getElem? (i := 464) (by decide +kernel), List.mem_of_getElem? (i := 465) (by decide +kernel)⟩
theorem lw_p12 : lw_okq (⟨"FoldKeeper", "startedAnew", "()I"⟩, 9) := ⟨⟨by decide +kernel, by decide +kernel⟩, List.mem_of_getElem? (i := 19) (by decide +kernel), List.mem_of_getElem? (i := 479) (by decide +kernel), List.mem_of_getElem? (i := 480) (by decide +kernel)⟩
theorem lw_p13 : lw_okq (⟨"FoldKeeper$History", "present", "()LFoldKeeper$Row;"⟩, 4) := ⟨⟨by decide +kernel, by decide +kernel⟩, List.mem_of_getElem? (i := 192) (by decide +kernel), List.mem_of_getElem? (i := 487) (by decide +kernel), List.mem_of_getElem? (i := 488) (by decide +kernel)⟩
theorem lw_p14 : lw_okq (⟨"FoldKeeper$Brackets", "pairUp", "(I[I)V"⟩, 8) := ⟨⟨by decide +kernel, by decide +kernel⟩, List.mem_of_getElem? (i := 152) (by decide +kernel), List.mem_of_getElem? (i := 496) (by decide +kernel), List.mem_of_getElem? (i := 497) (by decide +kernel)⟩
theorem lw_p15 : lw_okq (⟨"FoldKeeper$Brackets", "countAlong", "()V"⟩, 8) := ⟨⟨by decide +kernel, by decide +kernel⟩, List.mem_of_getElem? (i := 152) (by decide +kernel), List.mem_of_getElem? (i := 509) (by decide +kernel), List.mem_of_getElem? (i := 510) (by decide +kernel)⟩
def lw_privs_1 : List (MethodName × Nat) := [(⟨"FoldKeeper$TextReader", "restart", "()V"⟩, 8), (⟨"FoldKeeper$Tokens", "passName", "()Z"⟩, 6), (⟨"FoldKeeper$Tokens", "passNumber", "()Z"⟩, 6), (⟨"FoldKeeper$Tokens", "passQuote", "()Z"⟩, 6), (⟨"FoldKeeper$Tokens", "passSemicolon", "(I)Z"⟩, 6), (⟨"FoldKeeper$TextReader", "takeMarks", "()Z"⟩, 8), (⟨"FoldKeeper$TextReader", "takeToken", "()Z"⟩, 8), (⟨"FoldKeeper$TextReader", "takeName", "()Z"⟩, 8), (⟨"FoldKeeper$TextReader", "goOnWith", "(I)Z"⟩, 8), (⟨"FoldKeeper$TextReader", "takeNumber", "()Z"⟩, 8), (⟨"FoldKeeper$TextReader", "takeQuote", "()Z"⟩, 8), (⟨"FoldKeeper$Row", "openGap", "(II)V"⟩, 2), (⟨"FoldKeeper", "startedAnew", "()I"⟩, 9), (⟨"FoldKeeper$History", "present", "()LFoldKeeper$Row;"⟩, 4), (⟨"FoldKeeper$Brackets", "pairUp", "(I[I)V"⟩, 8), (⟨"FoldKeeper$Brackets", "countAlong", "()V"⟩, 8)]
theorem lw_r1 : ∀ q ∈ lw_privs_1, lw_okq q := List.forall_mem_cons.mpr ⟨lw_p0, List.forall_mem_cons.mpr ⟨lw_p1, List.forall_mem_cons.mpr ⟨lw_p2, List.forall_mem_cons.mpr ⟨lw_p3, List.forall_mem_cons.mpr ⟨lw_p4, List.forall_mem_cons.mpr ⟨lw_p5, List.forall_mem_cons.mpr ⟨lw_p6, List.forall_mem_cons.mpr ⟨lw_p7, List.forall_mem_cons.mpr ⟨lw_p8, List.forall_mem_cons.mpr ⟨lw_p9, List.forall_mem_cons.mpr ⟨lw_p10, List.forall_mem_cons.mpr ⟨lw_p11, List.forall_mem_cons.mpr ⟨lw_p12, List.forall_mem_cons.mpr ⟨lw_p13, List.forall_mem_cons.mpr ⟨lw_p14, List.forall_mem_cons.mpr ⟨lw_p15, fun _ h => absurd h List.not_mem_nil⟩⟩⟩⟩⟩⟩⟩⟩⟩⟩⟩⟩⟩⟩⟩⟩
theorem lw_p16 : lw_okq (⟨"FoldKeeper$Brackets", "nest", "()V"⟩, 8) := ⟨⟨by decide +kernel, by decide +kernel⟩, List.mem_of_getElem? (i := 152) (by decide +kernel), List.mem_of_getElem? (i := 517) (by decide +kernel), List.mem_of_getElem? (i := 518) (by decide +kernel)⟩
theorem lw_p17 : lw_okq (⟨"FoldKeeper$Brackets", "isFolded", "(I)Z"⟩, 8) := ⟨⟨by decide +kernel, by decide +kernel⟩, List.mem_of_getElem? (i := 152) (by decide +kernel), List.mem_of_getElem? (i := 521) (by decide +kernel), List.mem_of_getElem? (i := 522) (by decide +kernel)⟩
theorem lw_p18 : lw_okq (⟨"FoldKeeper$Brackets", "belongsTo", "(II)Z"⟩, 8) := ⟨⟨by decide +kernel, by decide +kernel⟩, List.mem_of_getElem? (i := 152) (by decide +kernel), List.mem_of_getElem? (i := 550) (by decide +kernel), List.mem_of_getElem? (i := 551) (by decide +kernel)⟩
theorem lw_p19 : lw_okq (⟨"FoldKeeper$Brackets", "isBare", "(I)Z"⟩, 8) := ⟨⟨by decide +kernel, by decide +kernel⟩, List.mem_of_getElem? (i := 152) (by decide +kernel), List.mem_of_getElem? (i := 554) (by decide +kernel), List.mem_of_getElem? (i := 555) (by decide +kernel)⟩
theorem lw_p20 : lw_okq (⟨"FoldKeeper", "edited", "(I)I"⟩, 9) := ⟨⟨by decide +kernel, by decide +kernel⟩, List.mem_of_getElem? (i := 19) (by decide +kernel), List.mem_of_getElem? (i := 647) (by decide +kernel), List.mem_of_getElem? (i := 648) (by decide +kernel)⟩
theorem lw_p21 : lw_okq (⟨"FoldKeeper$Row", "swapParts", "(III)V"⟩, 2) := ⟨⟨by decide +kernel, by decide +kernel⟩, List.mem_of_getElem? (i := 107) (by decide +kernel), List.mem_of_getElem? (i := 682) (by decide +kernel), List.mem_of_getElem? (i := 683) (by decide +kernel)⟩
theorem lw_p22 : lw_okq (⟨"FoldKeeper$Row", "reverse", "(II)V"⟩, 2) := ⟨⟨by decide +kernel, by decide +kernel⟩, List.mem_of_getElem? (i := 107) (by decide +kernel), List.mem_of_getElem? (i := 686) (by decide +kernel), List.mem_of_getElem? (i := 687) (by decide +kernel)⟩
theorem lw_p23 : lw_okq (⟨"FoldKeeperModel", "readsOn", "()V"⟩, 31) := ⟨⟨by decide +kernel, by decide +kernel⟩, List.mem_of_getElem? (i := 797) (by decide +kernel), List.mem_of_getElem? (i := 913) (by decide +kernel), List.mem_of_getElem? (i := 914) (by decide +kernel)⟩
theorem lw_p24 : lw_okq (⟨"FoldKeeperModel", "byteAt", "(I)I"⟩, 31) := ⟨⟨by decide +kernel, by decide +kernel⟩, List.mem_of_getElem? (i := 797) (by decide +kernel), List.mem_of_getElem? (i := 917) (by decide +kernel), List.mem_of_getElem? (i := 918) (by decide +kernel)⟩
theorem lw_p25 : lw_okq (⟨"FoldKeeperModel", "fails", "(I)V"⟩, 31) := ⟨⟨by decide +kernel, by decide +kernel⟩, List.mem_of_getElem? (i := 797) (by decide +kernel), List.mem_of_getElem? (i := 925) (by decide +kernel), List.mem_of_getElem? (i := 926) (by decide +kernel)⟩
theorem lw_p26 : lw_okq (⟨"FoldKeeperModel", "quoteRead", "()V"⟩, 31) := ⟨⟨by decide +kernel, by decide +kernel⟩, List.mem_of_getElem? (i := 797) (by decide +kernel), List.mem_of_getElem? (i := 929) (by decide +kernel), List.mem_of_getElem? (i := 930) (by decide +kernel)⟩
theorem lw_p27 : lw_okq (⟨"FoldKeeperModel", "readLine", "()V"⟩, 31) := ⟨⟨by decide +kernel, by decide +kernel⟩, List.mem_of_getElem? (i := 797) (by decide +kernel), List.mem_of_getElem? (i := 939) (by decide +kernel), List.mem_of_getElem? (i := 940) (by decide +kernel)⟩
theorem lw_p28 : lw_okq (⟨"FoldKeeperModel", "nameHere", "()I"⟩, 31) := ⟨⟨by decide +kernel, by decide +kernel⟩, List.mem_of_getElem? (i := 797) (by decide +kernel), List.mem_of_getElem? (i := 943) (by decide +kernel), List.mem_of_getElem? (i := 944) (by decide +kernel)⟩
theorem lw_p29 : lw_okq (⟨"FoldKeeperModel", "takes", "()V"⟩, 31) := ⟨⟨by decide +kernel, by decide +kernel⟩, List.mem_of_getElem? (i := 797) (by decide +kernel), List.mem_of_getElem? (i := 947) (by decide +kernel), List.mem_of_getElem? (i := 948) (by decide +kernel)⟩
theorem lw_p30 : lw_okq (⟨"FoldKeeperModel", "signsRead", "(I)V"⟩, 31) := ⟨⟨by decide +kernel, by decide +kernel⟩, List.mem_of_getElem? (i := 797) (by decide +kernel), List.mem_of_getElem? (i := 951) (by decide +kernel), List.mem_of_getElem? (i := 952) (by decide +kernel)⟩
theorem lw_p31 : lw_okq (⟨"FoldKeeperModel", "numberRead", "(II)I"⟩, 31) := ⟨⟨by decide +kernel, by decide +kernel⟩, List.mem_of_getElem? (i := 797) (by decide +kernel), List.mem_of_getElem? (i := 955) (by decide +kernel), List.mem_of_getElem? (i := 956) (by decide +kernel)⟩
def lw_privs_2 : List (MethodName × Nat) := [(⟨"FoldKeeper$Brackets", "nest", "()V"⟩, 8), (⟨"FoldKeeper$Brackets", "isFolded", "(I)Z"⟩, 8), (⟨"FoldKeeper$Brackets", "belongsTo", "(II)Z"⟩, 8), (⟨"FoldKeeper$Brackets", "isBare", "(I)Z"⟩, 8), (⟨"FoldKeeper", "edited", "(I)I"⟩, 9), (⟨"FoldKeeper$Row", "swapParts", "(III)V"⟩, 2), (⟨"FoldKeeper$Row", "reverse", "(II)V"⟩, 2), (⟨"FoldKeeperModel", "readsOn", "()V"⟩, 31), (⟨"FoldKeeperModel", "byteAt", "(I)I"⟩, 31), (⟨"FoldKeeperModel", "fails", "(I)V"⟩, 31), (⟨"FoldKeeperModel", "quoteRead", "()V"⟩, 31), (⟨"FoldKeeperModel", "readLine", "()V"⟩, 31), (⟨"FoldKeeperModel", "nameHere", "()I"⟩, 31), (⟨"FoldKeeperModel", "takes", "()V"⟩, 31), (⟨"FoldKeeperModel", "signsRead", "(I)V"⟩, 31), (⟨"FoldKeeperModel", "numberRead", "(II)I"⟩, 31)]
theorem lw_r2 : ∀ q ∈ lw_privs_2, lw_okq q := List.forall_mem_cons.mpr ⟨lw_p16, List.forall_mem_cons.mpr ⟨lw_p17, List.forall_mem_cons.mpr ⟨lw_p18, List.forall_mem_cons.mpr ⟨lw_p19, List.forall_mem_cons.mpr ⟨lw_p20, List.forall_mem_cons.mpr ⟨lw_p21, List.forall_mem_cons.mpr ⟨lw_p22, List.forall_mem_cons.mpr ⟨lw_p23, List.forall_mem_cons.mpr ⟨lw_p24, List.forall_mem_cons.mpr ⟨lw_p25, List.forall_mem_cons.mpr ⟨lw_p26, List.forall_mem_cons.mpr ⟨lw_p27, List.forall_mem_cons.mpr ⟨lw_p28, List.forall_mem_cons.mpr ⟨lw_p29, List.forall_mem_cons.mpr ⟨lw_p30, List.forall_mem_cons.mpr ⟨lw_p31, fun _ h => absurd h List.not_mem_nil⟩⟩⟩⟩⟩⟩⟩⟩⟩⟩⟩⟩⟩⟩⟩⟩
theorem lw_p32 : lw_okq (⟨"FoldKeeperModel", "isWhole", "()Z"⟩, 31) := ⟨⟨by decide +kernel, by decide +kernel⟩, List.mem_of_getElem? (i := 797) (by decide +kernel), List.mem_of_getElem? (i := 959) (by decide +kernel), List.mem_of_getElem? (i := 960) (by decide +kernel)⟩
theorem lw_p33 : lw_okq (⟨"FoldKeeperModel", "copies", "(II)V"⟩, 31) := ⟨⟨by decide +kernel, by decide +kernel⟩, List.mem_of_getElem? (i := 797) (by decide +kernel), List.mem_of_getElem? (i := 966) (by decide +kernel), List.mem_of_getElem? (i := 967) (by decide +kernel)⟩
theorem lw_p34 : lw_okq (⟨"FoldKeeperModel", "many", "()I"⟩, 31) := ⟨⟨by decide +kernel, by decide +kernel⟩, List.mem_of_getElem? (i := 797) (by decide +kernel), List.mem_of_getElem? (i := 970) (by decide +kernel), List.mem_of_getElem? (i := 971) (by decide +kernel)⟩
theorem lw_p35 : lw_okq (⟨"FoldKeeperModel", "linesTo", "(I)I"⟩, 31) := ⟨⟨by decide +kernel, by decide +kernel⟩, List.mem_of_getElem? (i := 797) (by decide +kernel), List.mem_of_getElem? (i := 987) (by decide +kernel), List.mem_of_getElem? (i := 988) (by decide +kernel)⟩
theorem lw_p36 : lw_okq (⟨"FoldKeeperModel", "signAt", "(I)I"⟩, 31) := ⟨⟨by decide +kernel, by decide +kernel⟩, List.mem_of_getElem? (i := 797) (by decide +kernel), List.mem_of_getElem? (i := 991) (by decide +kernel), List.mem_of_getElem? (i := 992) (by decide +kernel)⟩
theorem lw_p37 : lw_okq (⟨"FoldKeeperModel", "greatestLevel", "()I"⟩, 31) := ⟨⟨by decide +kernel, by decide +kernel⟩, List.mem_of_getElem? (i := 797) (by decide +kernel), List.mem_of_getElem? (i := 995) (by decide +kernel), List.mem_of_getElem? (i := 996) (by decide +kernel)⟩
theorem lw_p38 : lw_okq (⟨"FoldKeeperModel", "findsAll", "()V"⟩, 31) := ⟨⟨by decide +kernel, by decide +kernel⟩, List.mem_of_getElem? (i := 797) (by decide +kernel), List.mem_of_getElem? (i := 999) (by decide +kernel), List.mem_of_getElem? (i := 1000) (by decide +kernel)⟩
theorem lw_p39 : lw_okq (⟨"FoldKeeperModel", "finds", "(I[I)V"⟩, 31) := ⟨⟨by decide +kernel, by decide +kernel⟩, List.mem_of_getElem? (i := 797) (by decide +kernel), List.mem_of_getElem? (i := 1003) (by decide +kernel), List.mem_of_getElem? (i := 1004) (by decide +kernel)⟩
theorem lw_p40 : lw_okq (⟨"FoldKeeperModel", "levelOf", "(I)I"⟩, 31) := ⟨⟨by decide +kernel, by decide +kernel⟩, List.mem_of_getElem? (i := 797) (by decide +kernel), List.mem_of_getElem? (i := 1007) (by decide +kernel), List.mem_of_getElem? (i := 1008) (by decide +kernel)⟩
theorem lw_p41 : lw_okq (⟨"FoldKeeperModel", "counted", "(I)I"⟩, 31) := ⟨⟨by decide +kernel, by decide +kernel⟩, List.mem_of_getElem? (i := 797) (by decide +kernel), List.mem_of_getElem? (i := 1012) (by decide +kernel), List.mem_of_getElem? (i := 1013) (by decide +kernel)⟩
theorem lw_p42 : lw_okq (⟨"FoldKeeperModel", "isCounted", "(II)Z"⟩, 31) := ⟨⟨by decide +kernel, by decide +kernel⟩, List.mem_of_getElem? (i := 797) (by decide +kernel), List.mem_of_getElem? (i := 1016) (by decide +kernel), List.mem_of_getElem? (i := 1017) (by decide +kernel)⟩
theorem lw_p43 : lw_okq (⟨"FoldKeeperModel", "isFirst", "(I)Z"⟩, 31) := ⟨⟨by decide +kernel, by decide +kernel⟩, List.mem_of_getElem? (i := 797) (by decide +kernel), List.mem_of_getElem? (i := 1020) (by decide +kernel), List.mem_of_getElem? (i := 1021) (by decide +kernel)⟩
theorem lw_p44 : lw_okq (⟨"FoldKeeperModel", "isBare", "(I)Z"⟩, 31) := ⟨⟨by decide +kernel, by decide +kernel⟩, List.mem_of_getElem? (i := 797) (by decide +kernel), List.mem_of_getElem? (i := 1024) (by decide +kernel), List.mem_of_getElem? (i := 1025) (by decide +kernel)⟩
theorem lw_p45 : lw_okq (⟨"FoldKeeperModel", "isClashing", "(I)Z"⟩, 31) := ⟨⟨by decide +kernel, by decide +kernel⟩, List.mem_of_getElem? (i := 797) (by decide +kernel), List.mem_of_getElem? (i := 1028) (by decide +kernel), List.mem_of_getElem? (i := 1029) (by decide +kernel)⟩
theorem lw_p46 : lw_okq (⟨"FoldKeeperModel", "isFolded", "(I)Z"⟩, 31) := ⟨⟨by decide +kernel, by decide +kernel⟩, List.mem_of_getElem? (i := 797) (by decide +kernel), List.mem_of_getElem? (i := 1032) (by decide +kernel), List.mem_of_getElem? (i := 1033) (by decide +kernel)⟩
theorem lw_p47 : lw_okq (⟨"FoldKeeperModel", "isMarked", "(I)Z"⟩, 31) := ⟨⟨by decide +kernel, by decide +kernel⟩, List.mem_of_getElem? (i := 797) (by decide +kernel), List.mem_of_getElem? (i := 1036) (by decide +kernel), List.mem_of_getElem? (i := 1037) (by decide +kernel)⟩
def lw_privs_3 : List (MethodName × Nat) := [(⟨"FoldKeeperModel", "isWhole", "()Z"⟩, 31), (⟨"FoldKeeperModel", "copies", "(II)V"⟩, 31), (⟨"FoldKeeperModel", "many", "()I"⟩, 31), (⟨"FoldKeeperModel", "linesTo", "(I)I"⟩, 31), (⟨"FoldKeeperModel", "signAt", "(I)I"⟩, 31), (⟨"FoldKeeperModel", "greatestLevel", "()I"⟩, 31), (⟨"FoldKeeperModel", "findsAll", "()V"⟩, 31), (⟨"FoldKeeperModel", "finds", "(I[I)V"⟩, 31), (⟨"FoldKeeperModel", "levelOf", "(I)I"⟩, 31), (⟨"FoldKeeperModel", "counted", "(I)I"⟩, 31), (⟨"FoldKeeperModel", "isCounted", "(II)Z"⟩, 31), (⟨"FoldKeeperModel", "isFirst", "(I)Z"⟩, 31), (⟨"FoldKeeperModel", "isBare", "(I)Z"⟩, 31), (⟨"FoldKeeperModel", "isClashing", "(I)Z"⟩, 31), (⟨"FoldKeeperModel", "isFolded", "(I)Z"⟩, 31), (⟨"FoldKeeperModel", "isMarked", "(I)Z"⟩, 31)]
theorem lw_r3 : ∀ q ∈ lw_privs_3, lw_okq q := List.forall_mem_cons.mpr ⟨lw_p32, List.forall_mem_cons.mpr ⟨lw_p33, List.forall_mem_cons.mpr ⟨lw_p34, List.forall_mem_cons.mpr ⟨lw_p35, List.forall_mem_cons.mpr ⟨lw_p36, List.forall_mem_cons.mpr ⟨lw_p37, List.forall_mem_cons.mpr ⟨lw_p38, List.forall_mem_cons.mpr ⟨lw_p39, List.forall_mem_cons.mpr ⟨lw_p40, List.forall_mem_cons.mpr ⟨lw_p41, List.forall_mem_cons.mpr ⟨lw_p42, List.forall_mem_cons.mpr ⟨lw_p43, List.forall_mem_cons.mpr ⟨lw_p44, List.forall_mem_cons.mpr ⟨lw_p45, List.forall_mem_cons.mpr ⟨lw_p46, List.forall_mem_cons.mpr ⟨lw_p47, fun _ h => absurd h List.not_mem_nil⟩⟩⟩⟩⟩⟩⟩⟩⟩⟩⟩⟩⟩⟩⟩⟩
theorem lw_p48 : lw_okq (⟨"FoldKeeperModel", "isHidden", "(I)Z"⟩, 31) := ⟨⟨by decide +kernel, by decide +kernel⟩, List.mem_of_getElem? (i := 797) (by decide +kernel), List.mem_of_getElem? (i := 1040) (by decide +kernel), List.mem_of_getElem? (i := 1041) (by decide +kernel)⟩
theorem lw_p49 : lw_okq (⟨"FoldKeeperModel", "isThere", "(I)Z"⟩, 31) := ⟨⟨by decide +kernel, by decide +kernel⟩, List.mem_of_getElem? (i := 797) (by decide +kernel), List.mem_of_getElem? (i := 1048) (by decide +kernel), List.mem_of_getElem? (i := 1049) (by decide +kernel)⟩
theorem lw_p50 : lw_okq (⟨"FoldKeeperModel", "depthAt", "(I)I"⟩, 31) := ⟨⟨by decide +kernel, by decide +kernel⟩, List.mem_of_getElem? (i := 797) (by decide +kernel), List.mem_of_getElem? (i := 1052) (by decide +kernel), List.mem_of_getElem? (i := 1053) (by decide +kernel)⟩
theorem lw_p51 : lw_okq (⟨"FoldKeeperModel", "isPlace", "(I)Z"⟩, 31) := ⟨⟨by decide +kernel, by decide +kernel⟩, List.mem_of_getElem? (i := 797) (by decide +kernel), List.mem_of_getElem? (i := 1063) (by decide +kernel), List.mem_of_getElem? (i := 1064) (by decide +kernel)⟩
theorem lw_p52 : lw_okq (⟨"FoldKeeperModel", "wholeFrom", "(I)I"⟩, 31) := ⟨⟨by decide +kernel, by decide +kernel⟩, List.mem_of_getElem? (i := 797) (by decide +kernel), List.mem_of_getElem? (i := 1076) (by decide +kernel), List.mem_of_getElem? (i := 1077) (by decide +kernel)⟩
theorem lw_p53 : lw_okq (⟨"FoldKeeperModel", "edits", "()V"⟩, 31) := ⟨⟨by decide +kernel, by decide +kernel⟩, List.mem_of_getElem? (i := 797) (by decide +kernel), List.mem_of_getElem? (i := 1096) (by decide +kernel), List.mem_of_getElem? (i := 1097) (by decide +kernel)⟩
theorem lw_p54 : lw_okq (⟨"FoldKeeperModel", "remembers", "()V"⟩, 31) := ⟨⟨by decide +kernel, by decide +kernel⟩, List.mem_of_getElem? (i := 797) (by decide +kernel), List.mem_of_getElem? (i := 1100) (by decide +kernel), List.mem_of_getElem? (i := 1101) (by decide +kernel)⟩
theorem lw_p55 : lw_okq (⟨"FoldKeeperModel", "keepsIn", "([II)V"⟩, 31) := ⟨⟨by decide +kernel, by decide +kernel⟩, List.mem_of_getElem? (i := 797) (by decide +kernel), List.mem_of_getElem? (i := 1104) (by decide +kernel), List.mem_of_getElem? (i := 1105) (by decide +kernel)⟩
theorem lw_p56 : lw_okq (⟨"FoldKeeperModel", "comesIn", "(II)V"⟩, 31) := ⟨⟨by decide +kernel, by decide +kernel⟩, List.mem_of_getElem? (i := 797) (by decide +kernel), List.mem_of_getElem? (i := 1112) (by decide +kernel), List.mem_of_getElem? (i := 1113) (by decide +kernel)⟩
theorem lw_p57 : lw_okq (⟨"FoldKeeperModel", "isPart", "(II)Z"⟩, 31) := ⟨⟨by decide +kernel, by decide +kernel⟩, List.mem_of_getElem? (i := 797) (by decide +kernel), List.mem_of_getElem? (i := 1120) (by decide +kernel), List.mem_of_getElem? (i := 1121) (by decide +kernel)⟩
theorem lw_p58 : lw_okq (⟨"FoldKeeperModel", "goes", "(II)V"⟩, 31) := ⟨⟨by decide +kernel, by decide +kernel⟩, List.mem_of_getElem? (i := 797) (by decide +kernel), List.mem_of_getElem? (i := 1124) (by decide +kernel), List.mem_of_getElem? (i := 1125) (by decide +kernel)⟩
theorem lw_p59 : lw_okq (⟨"FoldKeeperModel", "lifts", "(II)V"⟩, 31) := ⟨⟨by decide +kernel, by decide +kernel⟩, List.mem_of_getElem? (i := 797) (by decide +kernel), List.mem_of_getElem? (i := 1132) (by decide +kernel), List.mem_of_getElem? (i := 1133) (by decide +kernel)⟩
theorem lw_p60 : lw_okq (⟨"FoldKeeperModel", "laysDown", "(II)V"⟩, 31) := ⟨⟨by decide +kernel, by decide +kernel⟩, List.mem_of_getElem? (i := 797) (by decide +kernel), List.mem_of_getElem? (i := 1136) (by decide +kernel), List.mem_of_getElem? (i := 1137) (by decide +kernel)⟩
theorem lw_p61 : lw_okq (⟨"FoldKeeperModel", "comesFrom", "([II)V"⟩, 31) := ⟨⟨by decide +kernel, by decide +kernel⟩, List.mem_of_getElem? (i := 797) (by decide +kernel), List.mem_of_getElem? (i := 1168) (by decide +kernel), List.mem_of_getElem? (i := 1169) (by decide +kernel)⟩
def lw_privs_4 : List (MethodName × Nat) := [(⟨"FoldKeeperModel", "isHidden", "(I)Z"⟩, 31), (⟨"FoldKeeperModel", "isThere", "(I)Z"⟩, 31), (⟨"FoldKeeperModel", "depthAt", "(I)I"⟩, 31), (⟨"FoldKeeperModel", "isPlace", "(I)Z"⟩, 31), (⟨"FoldKeeperModel", "wholeFrom", "(I)I"⟩, 31), (⟨"FoldKeeperModel", "edits", "()V"⟩, 31), (⟨"FoldKeeperModel", "remembers", "()V"⟩, 31), (⟨"FoldKeeperModel", "keepsIn", "([II)V"⟩, 31), (⟨"FoldKeeperModel", "comesIn", "(II)V"⟩, 31), (⟨"FoldKeeperModel", "isPart", "(II)Z"⟩, 31), (⟨"FoldKeeperModel", "goes", "(II)V"⟩, 31), (⟨"FoldKeeperModel", "lifts", "(II)V"⟩, 31), (⟨"FoldKeeperModel", "laysDown", "(II)V"⟩, 31), (⟨"FoldKeeperModel", "comesFrom", "([II)V"⟩, 31)]
theorem lw_r4 : ∀ q ∈ lw_privs_4, lw_okq q := List.forall_mem_cons.mpr ⟨lw_p48, List.forall_mem_cons.mpr ⟨lw_p49, List.forall_mem_cons.mpr ⟨lw_p50, List.forall_mem_cons.mpr ⟨lw_p51, List.forall_mem_cons.mpr ⟨lw_p52, List.forall_mem_cons.mpr ⟨lw_p53, List.forall_mem_cons.mpr ⟨lw_p54, List.forall_mem_cons.mpr ⟨lw_p55, List.forall_mem_cons.mpr ⟨lw_p56, List.forall_mem_cons.mpr ⟨lw_p57, List.forall_mem_cons.mpr ⟨lw_p58, List.forall_mem_cons.mpr ⟨lw_p59, List.forall_mem_cons.mpr ⟨lw_p60, List.forall_mem_cons.mpr ⟨lw_p61, fun _ h => absurd h List.not_mem_nil⟩⟩⟩⟩⟩⟩⟩⟩⟩⟩⟩⟩⟩⟩
def lw_privs : List (MethodName × Nat) := lw_privs_1 ++ (lw_privs_2 ++ (lw_privs_3 ++ (lw_privs_4)))
def lw_tbl : List Cond := k2_sels lw_privs ++ tables_1
theorem lw_privs_ok : ∀ q ∈ lw_privs, lw_okq q := by
  show ∀ q ∈ lw_privs_1 ++ (lw_privs_2 ++ (lw_privs_3 ++ (lw_privs_4))), lw_okq q
  exact List.forall_mem_append.mpr ⟨lw_r1, List.forall_mem_append.mpr ⟨lw_r2, List.forall_mem_append.mpr ⟨lw_r3, lw_r4⟩⟩⟩
end
section
/-! ===== BEGIN printed: names, fields, word lists, decode rows ===== -/
def RX0 : String := "FoldKeeper$Blame"
def TX0 : u_T := fun k => match k with
  | 0 => ("FoldKeeper$Blame", "fault", "I", false)
  | 1 => ("FoldKeeper$Blame", "place", "I", false)
  | 2 => ("FoldKeeper$Blame", "line", "I", false)
  | 3 => ("FoldKeeper$Blame", "token", "I", false)
  | _ => ("FoldKeeper$Blame", "inQuote", "I", false)
def tyX0 : Nat → FieldType := fun k => match k with
  | 0 => .int
  | 1 => .int
  | 2 => .int
  | 3 => .int
  | _ => .int
theorem nmX0 : ∀ a, a < 5 → ∀ b, b < 5 → a ≠ b → (TX0 a).2.1 ≠ (TX0 b).2.1 := by decide +kernel
theorem tyX0_ok : ∀ k, k < 5 → parseFieldDescriptor (TX0 k).2.2.1 = some (tyX0 k) := by decide +kernel
abbrev cX0_init : ByteArray := prog_2_method_1_code
def yX0_init : MethodName := ⟨RX0, "<init>", "()V"⟩
abbrev cX0_restart : ByteArray := prog_2_method_2_code
def yX0_restart : MethodName := ⟨RX0, "restart", "()V"⟩
abbrev cX0_tokenTaken : ByteArray := prog_2_method_3_code
def yX0_tokenTaken : MethodName := ⟨RX0, "tokenTaken", "()V"⟩
abbrev cX0_lineTaken : ByteArray := prog_2_method_4_code
def yX0_lineTaken : MethodName := ⟨RX0, "lineTaken", "()V"⟩
abbrev cX0_stopAt : ByteArray := prog_2_method_5_code
def yX0_stopAt : MethodName := ⟨RX0, "stopAt", "(II)Z"⟩
abbrev cX0_stopInQuote : ByteArray := prog_2_method_6_code
def yX0_stopInQuote : MethodName := ⟨RX0, "stopInQuote", "(III)Z"⟩
abbrev cX0_part : ByteArray := prog_2_method_7_code
def yX0_part : MethodName := ⟨RX0, "part", "(I)I"⟩
def RX1 : String := "FoldKeeper$Brackets"
def TX1 : u_T := fun k => match k with
  | 0 => ("FoldKeeper$Brackets", "row", "LFoldKeeper$Row;", true)
  | 1 => ("FoldKeeper$Brackets", "partners", "[I", true)
  | 2 => ("FoldKeeper$Brackets", "partnersAlone", "[I", true)
  | 3 => ("FoldKeeper$Brackets", "heap", "[I", true)
  | 4 => ("FoldKeeper$Brackets", "depths", "[I", true)
  | 5 => ("FoldKeeper$Brackets", "slashes", "[I", true)
  | 6 => ("FoldKeeper$Brackets", "levels", "[I", true)
  | _ => ("FoldKeeper$Brackets", "hidden", "[Z", true)
def tyX1 : Nat → FieldType := fun k => match k with
  | 0 => .object "FoldKeeper$Row"
  | 1 => .array .int
  | 2 => .array .int
  | 3 => .array .int
  | 4 => .array .int
  | 5 => .array .int
  | 6 => .array .int
  | _ => .array .boolean
theorem nmX1 : ∀ a, a < 8 → ∀ b, b < 8 → a ≠ b → (TX1 a).2.1 ≠ (TX1 b).2.1 := by decide +kernel
theorem tyX1_ok : ∀ k, k < 8 → parseFieldDescriptor (TX1 k).2.2.1 = some (tyX1 k) := by decide +kernel
abbrev cX1_init : ByteArray := prog_3_method_1_code
def yX1_init : MethodName := ⟨RX1, "<init>", "()V"⟩
abbrev cX1_survey : ByteArray := prog_3_method_2_code
def yX1_survey : MethodName := ⟨RX1, "survey", "()V"⟩
abbrev cX1_pairUp : ByteArray := prog_3_method_3_code
def yX1_pairUp : MethodName := ⟨RX1, "pairUp", "(I[I)V"⟩
abbrev cX1_isOf : ByteArray := prog_3_method_4_code
def yX1_isOf : MethodName := ⟨RX1, "isOf", "(II)Z"⟩
abbrev cX1_countAlong : ByteArray := prog_3_method_5_code
def yX1_countAlong : MethodName := ⟨RX1, "countAlong", "()V"⟩
abbrev cX1_nest : ByteArray := prog_3_method_6_code
def yX1_nest : MethodName := ⟨RX1, "nest", "()V"⟩
abbrev cX1_isFolded : ByteArray := prog_3_method_7_code
def yX1_isFolded : MethodName := ⟨RX1, "isFolded", "(I)Z"⟩
abbrev cX1_isBare : ByteArray := prog_3_method_8_code
def yX1_isBare : MethodName := ⟨RX1, "isBare", "(I)Z"⟩
abbrev cX1_clashes : ByteArray := prog_3_method_9_code
def yX1_clashes : MethodName := ⟨RX1, "clashes", "(I)Z"⟩
abbrev cX1_tally : ByteArray := prog_3_method_10_code
def yX1_tally : MethodName := ⟨RX1, "tally", "(I)I"⟩
abbrev cX1_belongsTo : ByteArray := prog_3_method_11_code
def yX1_belongsTo : MethodName := ⟨RX1, "belongsTo", "(II)Z"⟩
abbrev cX1_greatestLevel : ByteArray := prog_3_method_12_code
def yX1_greatestLevel : MethodName := ⟨RX1, "greatestLevel", "()I"⟩
abbrev cX1_leastDepth : ByteArray := prog_3_method_13_code
def yX1_leastDepth : MethodName := ⟨RX1, "leastDepth", "(II)I"⟩
abbrev cX1_innermostAround : ByteArray := prog_3_method_14_code
def yX1_innermostAround : MethodName := ⟨RX1, "innermostAround", "(II)I"⟩
abbrev cX1_wholeTill : ByteArray := prog_3_method_15_code
def yX1_wholeTill : MethodName := ⟨RX1, "wholeTill", "(I)I"⟩
abbrev cX1_longestFrom : ByteArray := prog_3_method_16_code
def yX1_longestFrom : MethodName := ⟨RX1, "longestFrom", "()I"⟩
abbrev cX1_nextBare : ByteArray := prog_3_method_17_code
def yX1_nextBare : MethodName := ⟨RX1, "nextBare", "(I)I"⟩
abbrev cX1_lastBare : ByteArray := prog_3_method_18_code
def yX1_lastBare : MethodName := ⟨RX1, "lastBare", "(I)I"⟩
abbrev cX1_seenAt : ByteArray := prog_3_method_19_code
def yX1_seenAt : MethodName := ⟨RX1, "seenAt", "(I)I"⟩
def RX2 : String := "FoldKeeper$History"
def TX2 : u_T := fun k => match k with
  | 0 => ("FoldKeeper$History", "states", "[LFoldKeeper$Row;", true)
  | 1 => ("FoldKeeper$History", "oldest", "I", false)
  | 2 => ("FoldKeeper$History", "past", "I", false)
  | _ => ("FoldKeeper$History", "ahead", "I", false)
def tyX2 : Nat → FieldType := fun k => match k with
  | 0 => .array (.object "FoldKeeper$Row")
  | 1 => .int
  | 2 => .int
  | _ => .int
theorem nmX2 : ∀ a, a < 4 → ∀ b, b < 4 → a ≠ b → (TX2 a).2.1 ≠ (TX2 b).2.1 := by decide +kernel
theorem tyX2_ok : ∀ k, k < 4 → parseFieldDescriptor (TX2 k).2.2.1 = some (tyX2 k) := by decide +kernel
abbrev cX2_init : ByteArray := prog_4_method_1_code
def yX2_init : MethodName := ⟨RX2, "<init>", "()V"⟩
abbrev cX2_add : ByteArray := prog_4_method_2_code
def yX2_add : MethodName := ⟨RX2, "add", "(LFoldKeeper$Row;)V"⟩
abbrev cX2_restart : ByteArray := prog_4_method_3_code
def yX2_restart : MethodName := ⟨RX2, "restart", "(LFoldKeeper$Row;)V"⟩
abbrev cX2_stepBack : ByteArray := prog_4_method_4_code
def yX2_stepBack : MethodName := ⟨RX2, "stepBack", "()LFoldKeeper$Row;"⟩
abbrev cX2_stepOn : ByteArray := prog_4_method_5_code
def yX2_stepOn : MethodName := ⟨RX2, "stepOn", "()LFoldKeeper$Row;"⟩
abbrev cX2_present : ByteArray := prog_4_method_6_code
def yX2_present : MethodName := ⟨RX2, "present", "()LFoldKeeper$Row;"⟩
def RX3 : String := "FoldKeeper$Row"
def TX3 : u_T := fun k => match k with
  | 0 => ("FoldKeeper$Row", "cells", "[I", true)
  | _ => ("FoldKeeper$Row", "size", "I", false)
def tyX3 : Nat → FieldType := fun k => match k with
  | 0 => .array .int
  | _ => .int
theorem nmX3 : ∀ a, a < 2 → ∀ b, b < 2 → a ≠ b → (TX3 a).2.1 ≠ (TX3 b).2.1 := by decide +kernel
theorem tyX3_ok : ∀ k, k < 2 → parseFieldDescriptor (TX3 k).2.2.1 = some (tyX3 k) := by decide +kernel
abbrev cX3_init : ByteArray := prog_5_method_1_code
def yX3_init : MethodName := ⟨RX3, "<init>", "()V"⟩
abbrev cX3_hasSign : ByteArray := prog_5_method_2_code
def yX3_hasSign : MethodName := ⟨RX3, "hasSign", "(I)Z"⟩
abbrev cX3_hasPlace : ByteArray := prog_5_method_3_code
def yX3_hasPlace : MethodName := ⟨RX3, "hasPlace", "(I)Z"⟩
abbrev cX3_hasPart : ByteArray := prog_5_method_4_code
def yX3_hasPart : MethodName := ⟨RX3, "hasPart", "(II)Z"⟩
abbrev cX3_room : ByteArray := prog_5_method_5_code
def yX3_room : MethodName := ⟨RX3, "room", "()I"⟩
abbrev cX3_byteAt : ByteArray := prog_5_method_6_code
def yX3_byteAt : MethodName := ⟨RX3, "byteAt", "(I)I"⟩
abbrev cX3_markedAt : ByteArray := prog_5_method_7_code
def yX3_markedAt : MethodName := ⟨RX3, "markedAt", "(I)Z"⟩
abbrev cX3_setByte : ByteArray := prog_5_method_8_code
def yX3_setByte : MethodName := ⟨RX3, "setByte", "(II)V"⟩
abbrev cX3_setMark : ByteArray := prog_5_method_9_code
def yX3_setMark : MethodName := ⟨RX3, "setMark", "(IZ)V"⟩
abbrev cX3_become : ByteArray := prog_5_method_10_code
def yX3_become : MethodName := ⟨RX3, "become", "(LFoldKeeper$Row;)V"⟩
abbrev cX3_clear : ByteArray := prog_5_method_11_code
def yX3_clear : MethodName := ⟨RX3, "clear", "()V"⟩
abbrev cX3_bringIn : ByteArray := prog_5_method_12_code
def yX3_bringIn : MethodName := ⟨RX3, "bringIn", "(II)V"⟩
abbrev cX3_takeOut : ByteArray := prog_5_method_13_code
def yX3_takeOut : MethodName := ⟨RX3, "takeOut", "(II)V"⟩
abbrev cX3_shift : ByteArray := prog_5_method_14_code
def yX3_shift : MethodName := ⟨RX3, "shift", "(III)V"⟩
abbrev cX3_repeat : ByteArray := prog_5_method_15_code
def yX3_repeat : MethodName := ⟨RX3, "repeat", "(III)V"⟩
abbrev cX3_turnAbout : ByteArray := prog_5_method_16_code
def yX3_turnAbout : MethodName := ⟨RX3, "turnAbout", "(II)I"⟩
abbrev cX3_openingSigns : ByteArray := prog_5_method_17_code
def yX3_openingSigns : MethodName := ⟨RX3, "openingSigns", "()I"⟩
abbrev cX3_closingSigns : ByteArray := prog_5_method_18_code
def yX3_closingSigns : MethodName := ⟨RX3, "closingSigns", "()I"⟩
abbrev cX3_openGap : ByteArray := prog_5_method_19_code
def yX3_openGap : MethodName := ⟨RX3, "openGap", "(II)V"⟩
abbrev cX3_swapParts : ByteArray := prog_5_method_20_code
def yX3_swapParts : MethodName := ⟨RX3, "swapParts", "(III)V"⟩
abbrev cX3_reverse : ByteArray := prog_5_method_21_code
def yX3_reverse : MethodName := ⟨RX3, "reverse", "(II)V"⟩
def RX4 : String := "FoldKeeper$Sheet"
def TX4 : u_T := fun k => match k with
  | 0 => ("FoldKeeper$Sheet", "cells", "[I", true)
  | 1 => ("FoldKeeper$Sheet", "there", "Z", false)
  | 2 => ("FoldKeeper$Sheet", "lane", "I", false)
  | _ => ("FoldKeeper$Sheet", "size", "I", false)
def tyX4 : Nat → FieldType := fun k => match k with
  | 0 => .array .int
  | 1 => .boolean
  | 2 => .int
  | _ => .int
theorem nmX4 : ∀ a, a < 4 → ∀ b, b < 4 → a ≠ b → (TX4 a).2.1 ≠ (TX4 b).2.1 := by decide +kernel
theorem tyX4_ok : ∀ k, k < 4 → parseFieldDescriptor (TX4 k).2.2.1 = some (tyX4 k) := by decide +kernel
abbrev cX4_init : ByteArray := prog_6_method_1_code
def yX4_init : MethodName := ⟨RX4, "<init>", "()V"⟩
abbrev cX4_makeNew : ByteArray := prog_6_method_2_code
def yX4_makeNew : MethodName := ⟨RX4, "makeNew", "(II)V"⟩
abbrev cX4_faultAt : ByteArray := prog_6_method_3_code
def yX4_faultAt : MethodName := ⟨RX4, "faultAt", "(II)I"⟩
abbrev cX4_setCell : ByteArray := prog_6_method_4_code
def yX4_setCell : MethodName := ⟨RX4, "setCell", "(II)V"⟩
def RX5 : String := "FoldKeeper$Signs"
def TX5 : u_T := fun k => match k with
  | _ => ("", "", "", false)
def tyX5 : Nat → FieldType := fun k => match k with
  | _ => .int
theorem nmX5 : ∀ a, a < 0 → ∀ b, b < 0 → a ≠ b → (TX5 a).2.1 ≠ (TX5 b).2.1 := by decide +kernel
theorem tyX5_ok : ∀ k, k < 0 → parseFieldDescriptor (TX5 k).2.2.1 = some (tyX5 k) := by decide +kernel
abbrev cX5_isSign : ByteArray := prog_7_method_2_code
def yX5_isSign : MethodName := ⟨RX5, "isSign", "(I)Z"⟩
abbrev cX5_isLetter : ByteArray := prog_7_method_3_code
def yX5_isLetter : MethodName := ⟨RX5, "isLetter", "(I)Z"⟩
abbrev cX5_isBracket : ByteArray := prog_7_method_4_code
def yX5_isBracket : MethodName := ⟨RX5, "isBracket", "(I)Z"⟩
abbrev cX5_opens : ByteArray := prog_7_method_5_code
def yX5_opens : MethodName := ⟨RX5, "opens", "(I)Z"⟩
abbrev cX5_closes : ByteArray := prog_7_method_6_code
def yX5_closes : MethodName := ⟨RX5, "closes", "(I)Z"⟩
abbrev cX5_kindOf : ByteArray := prog_7_method_7_code
def yX5_kindOf : MethodName := ⟨RX5, "kindOf", "(I)I"⟩
abbrev cX5_turned : ByteArray := prog_7_method_8_code
def yX5_turned : MethodName := ⟨RX5, "turned", "(I)I"⟩
def RX6 : String := "FoldKeeper$Tape"
def TX6 : u_T := fun k => match k with
  | 0 => ("FoldKeeper$Tape", "bytes", "[I", true)
  | _ => ("FoldKeeper$Tape", "length", "I", false)
def tyX6 : Nat → FieldType := fun k => match k with
  | 0 => .array .int
  | _ => .int
theorem nmX6 : ∀ a, a < 2 → ∀ b, b < 2 → a ≠ b → (TX6 a).2.1 ≠ (TX6 b).2.1 := by decide +kernel
theorem tyX6_ok : ∀ k, k < 2 → parseFieldDescriptor (TX6 k).2.2.1 = some (tyX6 k) := by decide +kernel
abbrev cX6_init : ByteArray := prog_8_method_1_code
def yX6_init : MethodName := ⟨RX6, "<init>", "()V"⟩
abbrev cX6_append : ByteArray := prog_8_method_2_code
def yX6_append : MethodName := ⟨RX6, "append", "(I)V"⟩
abbrev cX6_shorten : ByteArray := prog_8_method_3_code
def yX6_shorten : MethodName := ⟨RX6, "shorten", "(I)V"⟩
def RX7 : String := "FoldKeeper$TextReader"
def TX7 : u_T := fun k => match k with
  | 0 => ("FoldKeeper$TextReader", "tokens", "LFoldKeeper$Tokens;", true)
  | 1 => ("FoldKeeper$TextReader", "tape", "LFoldKeeper$Tape;", true)
  | 2 => ("FoldKeeper$TextReader", "blame", "LFoldKeeper$Blame;", true)
  | 3 => ("FoldKeeper$TextReader", "draft", "LFoldKeeper$Row;", true)
  | 4 => ("FoldKeeper$TextReader", "toMark", "[Z", true)
  | 5 => ("FoldKeeper$TextReader", "expected", "I", false)
  | 6 => ("FoldKeeper$TextReader", "marking", "Z", false)
  | _ => ("FoldKeeper$TextReader", "times", "I", false)
def tyX7 : Nat → FieldType := fun k => match k with
  | 0 => .object "FoldKeeper$Tokens"
  | 1 => .object "FoldKeeper$Tape"
  | 2 => .object "FoldKeeper$Blame"
  | 3 => .object "FoldKeeper$Row"
  | 4 => .array .boolean
  | 5 => .int
  | 6 => .boolean
  | _ => .int
theorem nmX7 : ∀ a, a < 8 → ∀ b, b < 8 → a ≠ b → (TX7 a).2.1 ≠ (TX7 b).2.1 := by decide +kernel
theorem tyX7_ok : ∀ k, k < 8 → parseFieldDescriptor (TX7 k).2.2.1 = some (tyX7 k) := by decide +kernel
abbrev cX7_init : ByteArray := prog_9_method_1_code
def yX7_init : MethodName := ⟨RX7, "<init>", "()V"⟩
abbrev cX7_takeText : ByteArray := prog_9_method_2_code
def yX7_takeText : MethodName := ⟨RX7, "takeText", "()Z"⟩
abbrev cX7_restart : ByteArray := prog_9_method_3_code
def yX7_restart : MethodName := ⟨RX7, "restart", "()V"⟩
abbrev cX7_takeToken : ByteArray := prog_9_method_4_code
def yX7_takeToken : MethodName := ⟨RX7, "takeToken", "()Z"⟩
abbrev cX7_takeName : ByteArray := prog_9_method_5_code
def yX7_takeName : MethodName := ⟨RX7, "takeName", "()Z"⟩
abbrev cX7_takeNumber : ByteArray := prog_9_method_6_code
def yX7_takeNumber : MethodName := ⟨RX7, "takeNumber", "()Z"⟩
abbrev cX7_takeQuote : ByteArray := prog_9_method_7_code
def yX7_takeQuote : MethodName := ⟨RX7, "takeQuote", "()Z"⟩
abbrev cX7_goOnWith : ByteArray := prog_9_method_8_code
def yX7_goOnWith : MethodName := ⟨RX7, "goOnWith", "(I)Z"⟩
abbrev cX7_takeMarks : ByteArray := prog_9_method_9_code
def yX7_takeMarks : MethodName := ⟨RX7, "takeMarks", "()Z"⟩
def RX8 : String := "FoldKeeper$Tokens"
def TX8 : u_T := fun k => match k with
  | 0 => ("FoldKeeper$Tokens", "tape", "LFoldKeeper$Tape;", true)
  | 1 => ("FoldKeeper$Tokens", "blame", "LFoldKeeper$Blame;", true)
  | 2 => ("FoldKeeper$Tokens", "kind", "I", false)
  | 3 => ("FoldKeeper$Tokens", "from", "I", false)
  | 4 => ("FoldKeeper$Tokens", "till", "I", false)
  | _ => ("FoldKeeper$Tokens", "number", "I", false)
def tyX8 : Nat → FieldType := fun k => match k with
  | 0 => .object "FoldKeeper$Tape"
  | 1 => .object "FoldKeeper$Blame"
  | 2 => .int
  | 3 => .int
  | 4 => .int
  | _ => .int
theorem nmX8 : ∀ a, a < 6 → ∀ b, b < 6 → a ≠ b → (TX8 a).2.1 ≠ (TX8 b).2.1 := by decide +kernel
theorem tyX8_ok : ∀ k, k < 6 → parseFieldDescriptor (TX8 k).2.2.1 = some (tyX8 k) := by decide +kernel
abbrev cX8_init : ByteArray := prog_10_method_1_code
def yX8_init : MethodName := ⟨RX8, "<init>", "()V"⟩
abbrev cX8_restart : ByteArray := prog_10_method_2_code
def yX8_restart : MethodName := ⟨RX8, "restart", "()V"⟩
abbrev cX8_advance : ByteArray := prog_10_method_3_code
def yX8_advance : MethodName := ⟨RX8, "advance", "()Z"⟩
abbrev cX8_passName : ByteArray := prog_10_method_4_code
def yX8_passName : MethodName := ⟨RX8, "passName", "()Z"⟩
abbrev cX8_passNumber : ByteArray := prog_10_method_5_code
def yX8_passNumber : MethodName := ⟨RX8, "passNumber", "()Z"⟩
abbrev cX8_passQuote : ByteArray := prog_10_method_6_code
def yX8_passQuote : MethodName := ⟨RX8, "passQuote", "()Z"⟩
abbrev cX8_passSemicolon : ByteArray := prog_10_method_7_code
def yX8_passSemicolon : MethodName := ⟨RX8, "passSemicolon", "(I)Z"⟩
abbrev cX8_isFigure : ByteArray := prog_10_method_8_code
def yX8_isFigure : MethodName := ⟨RX8, "isFigure", "(I)Z"⟩
abbrev cX8_isName : ByteArray := prog_10_method_9_code
def yX8_isName : MethodName := ⟨RX8, "isName", "(Ljava/lang/String;)Z"⟩
def RX9 : String := "FoldKeeper"
def TX9 : u_T := fun k => match k with
  | 0 => ("FoldKeeper", "reader", "LFoldKeeper$TextReader;", true)
  | 1 => ("FoldKeeper", "tape", "LFoldKeeper$Tape;", true)
  | 2 => ("FoldKeeper", "brackets", "LFoldKeeper$Brackets;", true)
  | 3 => ("FoldKeeper", "row", "LFoldKeeper$Row;", true)
  | 4 => ("FoldKeeper", "history", "LFoldKeeper$History;", true)
  | 5 => ("FoldKeeper", "images", "[LFoldKeeper$Row;", true)
  | 6 => ("FoldKeeper", "kept", "[Z", true)
  | 7 => ("FoldKeeper", "sheets", "[LFoldKeeper$Sheet;", true)
  | _ => ("FoldKeeper", "tornBy", "I", false)
def tyX9 : Nat → FieldType := fun k => match k with
  | 0 => .object "FoldKeeper$TextReader"
  | 1 => .object "FoldKeeper$Tape"
  | 2 => .object "FoldKeeper$Brackets"
  | 3 => .object "FoldKeeper$Row"
  | 4 => .object "FoldKeeper$History"
  | 5 => .array (.object "FoldKeeper$Row")
  | 6 => .array .boolean
  | 7 => .array (.object "FoldKeeper$Sheet")
  | _ => .int
theorem nmX9 : ∀ a, a < 9 → ∀ b, b < 9 → a ≠ b → (TX9 a).2.1 ≠ (TX9 b).2.1 := by decide +kernel
theorem tyX9_ok : ∀ k, k < 9 → parseFieldDescriptor (TX9 k).2.2.1 = some (tyX9 k) := by decide +kernel
abbrev cX9_init : ByteArray := prog_1_method_1_code
def yX9_init : MethodName := ⟨RX9, "<init>", "()V"⟩
abbrev cX9_feed : ByteArray := prog_1_method_2_code
def yX9_feed : MethodName := ⟨RX9, "feed", "(I)I"⟩
abbrev cX9_end : ByteArray := prog_1_method_3_code
def yX9_end : MethodName := ⟨RX9, "end", "(I)I"⟩
abbrev cX9_text : ByteArray := prog_1_method_4_code
def yX9_text : MethodName := ⟨RX9, "text", "()I"⟩
abbrev cX9_fault : ByteArray := prog_1_method_5_code
def yX9_fault : MethodName := ⟨RX9, "fault", "()I"⟩
abbrev cX9_reason : ByteArray := prog_1_method_6_code
def yX9_reason : MethodName := ⟨RX9, "reason", "(I)I"⟩
abbrev cX9_rule : ByteArray := prog_1_method_7_code
def yX9_rule : MethodName := ⟨RX9, "rule", "(I)I"⟩
abbrev cX9_sign : ByteArray := prog_1_method_8_code
def yX9_sign : MethodName := ⟨RX9, "sign", "(II)I"⟩
abbrev cX9_low : ByteArray := prog_1_method_9_code
def yX9_low : MethodName := ⟨RX9, "low", "(II)I"⟩
abbrev cX9_around : ByteArray := prog_1_method_10_code
def yX9_around : MethodName := ⟨RX9, "around", "(II)I"⟩
abbrev cX9_whole : ByteArray := prog_1_method_11_code
def yX9_whole : MethodName := ⟨RX9, "whole", "(I)I"⟩
abbrev cX9_bare : ByteArray := prog_1_method_12_code
def yX9_bare : MethodName := ⟨RX9, "bare", "(II)I"⟩
abbrev cX9_longest : ByteArray := prog_1_method_13_code
def yX9_longest : MethodName := ⟨RX9, "longest", "(I)I"⟩
abbrev cX9_seen : ByteArray := prog_1_method_14_code
def yX9_seen : MethodName := ⟨RX9, "seen", "(I)I"⟩
abbrev cX9_put : ByteArray := prog_1_method_15_code
def yX9_put : MethodName := ⟨RX9, "put", "(II)I"⟩
abbrev cX9_insert : ByteArray := prog_1_method_16_code
def yX9_insert : MethodName := ⟨RX9, "insert", "(II)I"⟩
abbrev cX9_drop : ByteArray := prog_1_method_17_code
def yX9_drop : MethodName := ⟨RX9, "drop", "(II)I"⟩
abbrev cX9_move : ByteArray := prog_1_method_18_code
def yX9_move : MethodName := ⟨RX9, "move", "(III)I"⟩
abbrev cX9_copy : ByteArray := prog_1_method_19_code
def yX9_copy : MethodName := ⟨RX9, "copy", "(III)I"⟩
abbrev cX9_turn : ByteArray := prog_1_method_20_code
def yX9_turn : MethodName := ⟨RX9, "turn", "(II)I"⟩
abbrev cX9_mark : ByteArray := prog_1_method_21_code
def yX9_mark : MethodName := ⟨RX9, "mark", "(II)I"⟩
abbrev cX9_grow : ByteArray := prog_1_method_22_code
def yX9_grow : MethodName := ⟨RX9, "grow", "(II)I"⟩
abbrev cX9_undo : ByteArray := prog_1_method_23_code
def yX9_undo : MethodName := ⟨RX9, "undo", "()I"⟩
abbrev cX9_redo : ByteArray := prog_1_method_24_code
def yX9_redo : MethodName := ⟨RX9, "redo", "()I"⟩
abbrev cX9_keep : ByteArray := prog_1_method_25_code
def yX9_keep : MethodName := ⟨RX9, "keep", "(I)I"⟩
abbrev cX9_back : ByteArray := prog_1_method_26_code
def yX9_back : MethodName := ⟨RX9, "back", "(I)I"⟩
abbrev cX9_sheet : ByteArray := prog_1_method_27_code
def yX9_sheet : MethodName := ⟨RX9, "sheet", "(III)I"⟩
abbrev cX9_lay : ByteArray := prog_1_method_28_code
def yX9_lay : MethodName := ⟨RX9, "lay", "(III)I"⟩
abbrev cX9_read : ByteArray := prog_1_method_29_code
def yX9_read : MethodName := ⟨RX9, "read", "(IIII)I"⟩
abbrev cX9_torn : ByteArray := prog_1_method_30_code
def yX9_torn : MethodName := ⟨RX9, "torn", "()I"⟩
abbrev cX9_count : ByteArray := prog_1_method_31_code
def yX9_count : MethodName := ⟨RX9, "count", "(I)I"⟩
abbrev cX9_edited : ByteArray := prog_1_method_32_code
def yX9_edited : MethodName := ⟨RX9, "edited", "(I)I"⟩
abbrev cX9_startedAnew : ByteArray := prog_1_method_33_code
def yX9_startedAnew : MethodName := ⟨RX9, "startedAnew", "()I"⟩
abbrev cX9_hasSheet : ByteArray := prog_1_method_34_code
def yX9_hasSheet : MethodName := ⟨RX9, "hasSheet", "(I)Z"⟩
abbrev cX9_isLane : ByteArray := prog_1_method_35_code
def yX9_isLane : MethodName := ⟨RX9, "isLane", "(I)Z"⟩
abbrev cX9_oneIf : ByteArray := prog_1_method_36_code
def yX9_oneIf : MethodName := ⟨RX9, "oneIf", "(Z)I"⟩
def RX10 : String := "FoldKeeperModel"
def TX10 : u_T := fun k => match k with
  | 0 => ("FoldKeeperModel", "state", "[I", true)
  | 1 => ("FoldKeeperModel", "tape", "[I", true)
  | 2 => ("FoldKeeperModel", "taped", "I", false)
  | 3 => ("FoldKeeperModel", "fault", "I", false)
  | 4 => ("FoldKeeperModel", "broken", "I", false)
  | 5 => ("FoldKeeperModel", "brokenAt", "I", false)
  | 6 => ("FoldKeeperModel", "spot", "I", false)
  | 7 => ("FoldKeeperModel", "here", "I", false)
  | 8 => ("FoldKeeperModel", "token", "I", false)
  | 9 => ("FoldKeeperModel", "value", "I", false)
  | 10 => ("FoldKeeperModel", "lineAt", "I", false)
  | 11 => ("FoldKeeperModel", "tokenAt", "I", false)
  | 12 => ("FoldKeeperModel", "byteIn", "I", false)
  | 13 => ("FoldKeeperModel", "quoteAt", "I", false)
  | 14 => ("FoldKeeperModel", "reasons", "[I", true)
  | 15 => ("FoldKeeperModel", "ends", "[I", true)
  | 16 => ("FoldKeeperModel", "letters", "[I", true)
  | 17 => ("FoldKeeperModel", "marks", "[I", true)
  | 18 => ("FoldKeeperModel", "partners", "[I", true)
  | 19 => ("FoldKeeperModel", "alone", "[I", true)
  | 20 => ("FoldKeeperModel", "heap", "[I", true)
  | 21 => ("FoldKeeperModel", "undos", "[I", true)
  | 22 => ("FoldKeeperModel", "redos", "[I", true)
  | 23 => ("FoldKeeperModel", "undone", "I", false)
  | 24 => ("FoldKeeperModel", "redone", "I", false)
  | 25 => ("FoldKeeperModel", "other", "[I", true)
  | 26 => ("FoldKeeperModel", "isKept", "[Z", true)
  | 27 => ("FoldKeeperModel", "lanes", "[I", true)
  | 28 => ("FoldKeeperModel", "lengths", "[I", true)
  | 29 => ("FoldKeeperModel", "cells", "[I", true)
  | _ => ("FoldKeeperModel", "torn", "I", false)
def tyX10 : Nat → FieldType := fun k => match k with
  | 0 => .array .int
  | 1 => .array .int
  | 2 => .int
  | 3 => .int
  | 4 => .int
  | 5 => .int
  | 6 => .int
  | 7 => .int
  | 8 => .int
  | 9 => .int
  | 10 => .int
  | 11 => .int
  | 12 => .int
  | 13 => .int
  | 14 => .array .int
  | 15 => .array .int
  | 16 => .array .int
  | 17 => .array .int
  | 18 => .array .int
  | 19 => .array .int
  | 20 => .array .int
  | 21 => .array .int
  | 22 => .array .int
  | 23 => .int
  | 24 => .int
  | 25 => .array .int
  | 26 => .array .boolean
  | 27 => .array .int
  | 28 => .array .int
  | 29 => .array .int
  | _ => .int
theorem nmX10 : ∀ a, a < 31 → ∀ b, b < 31 → a ≠ b → (TX10 a).2.1 ≠ (TX10 b).2.1 := by decide +kernel
theorem tyX10_ok : ∀ k, k < 31 → parseFieldDescriptor (TX10 k).2.2.1 = some (tyX10 k) := by decide +kernel
abbrev cX10_init : ByteArray := prog_12_method_1_code
def yX10_init : MethodName := ⟨RX10, "<init>", "()V"⟩
abbrev cX10_in : ByteArray := prog_12_method_3_code
def yX10_in : MethodName := ⟨RX10, "in", "(JJJ)Z"⟩
abbrev cX10_feed : ByteArray := prog_12_method_4_code
def yX10_feed : MethodName := ⟨RX10, "feed", "(I)I"⟩
abbrev cX10_end : ByteArray := prog_12_method_5_code
def yX10_end : MethodName := ⟨RX10, "end", "(I)I"⟩
abbrev cX10_byteAt : ByteArray := prog_12_method_6_code
def yX10_byteAt : MethodName := ⟨RX10, "byteAt", "(I)I"⟩
abbrev cX10_fails : ByteArray := prog_12_method_7_code
def yX10_fails : MethodName := ⟨RX10, "fails", "(I)V"⟩
abbrev cX10_kindOf : ByteArray := prog_12_method_8_code
def yX10_kindOf : MethodName := ⟨RX10, "kindOf", "(I)I"⟩
abbrev cX10_isOpen : ByteArray := prog_12_method_9_code
def yX10_isOpen : MethodName := ⟨RX10, "isOpen", "(I)Z"⟩
abbrev cX10_isClose : ByteArray := prog_12_method_10_code
def yX10_isClose : MethodName := ⟨RX10, "isClose", "(I)Z"⟩
abbrev cX10_isSign : ByteArray := prog_12_method_11_code
def yX10_isSign : MethodName := ⟨RX10, "isSign", "(I)Z"⟩
abbrev cX10_nameHere : ByteArray := prog_12_method_12_code
def yX10_nameHere : MethodName := ⟨RX10, "nameHere", "()I"⟩
abbrev cX10_quoteRead : ByteArray := prog_12_method_13_code
def yX10_quoteRead : MethodName := ⟨RX10, "quoteRead", "()V"⟩
abbrev cX10_readsOn : ByteArray := prog_12_method_14_code
def yX10_readsOn : MethodName := ⟨RX10, "readsOn", "()V"⟩
abbrev cX10_takes : ByteArray := prog_12_method_15_code
def yX10_takes : MethodName := ⟨RX10, "takes", "()V"⟩
abbrev cX10_numberRead : ByteArray := prog_12_method_16_code
def yX10_numberRead : MethodName := ⟨RX10, "numberRead", "(II)I"⟩
abbrev cX10_signsRead : ByteArray := prog_12_method_17_code
def yX10_signsRead : MethodName := ⟨RX10, "signsRead", "(I)V"⟩
abbrev cX10_readLine : ByteArray := prog_12_method_18_code
def yX10_readLine : MethodName := ⟨RX10, "readLine", "()V"⟩
abbrev cX10_isWhole : ByteArray := prog_12_method_19_code
def yX10_isWhole : MethodName := ⟨RX10, "isWhole", "()Z"⟩
abbrev cX10_text : ByteArray := prog_12_method_20_code
def yX10_text : MethodName := ⟨RX10, "text", "()I"⟩
abbrev cX10_fault : ByteArray := prog_12_method_21_code
def yX10_fault : MethodName := ⟨RX10, "fault", "()I"⟩
abbrev cX10_reason : ByteArray := prog_12_method_22_code
def yX10_reason : MethodName := ⟨RX10, "reason", "(I)I"⟩
abbrev cX10_copies : ByteArray := prog_12_method_23_code
def yX10_copies : MethodName := ⟨RX10, "copies", "(II)V"⟩
abbrev cX10_many : ByteArray := prog_12_method_24_code
def yX10_many : MethodName := ⟨RX10, "many", "()I"⟩
abbrev cX10_signAt : ByteArray := prog_12_method_25_code
def yX10_signAt : MethodName := ⟨RX10, "signAt", "(I)I"⟩
abbrev cX10_isMarked : ByteArray := prog_12_method_26_code
def yX10_isMarked : MethodName := ⟨RX10, "isMarked", "(I)Z"⟩
abbrev cX10_finds : ByteArray := prog_12_method_27_code
def yX10_finds : MethodName := ⟨RX10, "finds", "(I[I)V"⟩
abbrev cX10_findsAll : ByteArray := prog_12_method_28_code
def yX10_findsAll : MethodName := ⟨RX10, "findsAll", "()V"⟩
abbrev cX10_isFirst : ByteArray := prog_12_method_29_code
def yX10_isFirst : MethodName := ⟨RX10, "isFirst", "(I)Z"⟩
abbrev cX10_isBare : ByteArray := prog_12_method_30_code
def yX10_isBare : MethodName := ⟨RX10, "isBare", "(I)Z"⟩
abbrev cX10_isClashing : ByteArray := prog_12_method_31_code
def yX10_isClashing : MethodName := ⟨RX10, "isClashing", "(I)Z"⟩
abbrev cX10_isFolded : ByteArray := prog_12_method_32_code
def yX10_isFolded : MethodName := ⟨RX10, "isFolded", "(I)Z"⟩
abbrev cX10_isHidden : ByteArray := prog_12_method_33_code
def yX10_isHidden : MethodName := ⟨RX10, "isHidden", "(I)Z"⟩
abbrev cX10_levelOf : ByteArray := prog_12_method_34_code
def yX10_levelOf : MethodName := ⟨RX10, "levelOf", "(I)I"⟩
abbrev cX10_depthAt : ByteArray := prog_12_method_35_code
def yX10_depthAt : MethodName := ⟨RX10, "depthAt", "(I)I"⟩
abbrev cX10_linesTo : ByteArray := prog_12_method_36_code
def yX10_linesTo : MethodName := ⟨RX10, "linesTo", "(I)I"⟩
abbrev cX10_isCounted : ByteArray := prog_12_method_37_code
def yX10_isCounted : MethodName := ⟨RX10, "isCounted", "(II)Z"⟩
abbrev cX10_counted : ByteArray := prog_12_method_38_code
def yX10_counted : MethodName := ⟨RX10, "counted", "(I)I"⟩
abbrev cX10_greatestLevel : ByteArray := prog_12_method_39_code
def yX10_greatestLevel : MethodName := ⟨RX10, "greatestLevel", "()I"⟩
abbrev cX10_rule : ByteArray := prog_12_method_40_code
def yX10_rule : MethodName := ⟨RX10, "rule", "(I)I"⟩
abbrev cX10_isThere : ByteArray := prog_12_method_41_code
def yX10_isThere : MethodName := ⟨RX10, "isThere", "(I)Z"⟩
abbrev cX10_isPlace : ByteArray := prog_12_method_42_code
def yX10_isPlace : MethodName := ⟨RX10, "isPlace", "(I)Z"⟩
abbrev cX10_sign : ByteArray := prog_12_method_43_code
def yX10_sign : MethodName := ⟨RX10, "sign", "(II)I"⟩
abbrev cX10_low : ByteArray := prog_12_method_44_code
def yX10_low : MethodName := ⟨RX10, "low", "(II)I"⟩
abbrev cX10_around : ByteArray := prog_12_method_45_code
def yX10_around : MethodName := ⟨RX10, "around", "(II)I"⟩
abbrev cX10_wholeFrom : ByteArray := prog_12_method_46_code
def yX10_wholeFrom : MethodName := ⟨RX10, "wholeFrom", "(I)I"⟩
abbrev cX10_whole : ByteArray := prog_12_method_47_code
def yX10_whole : MethodName := ⟨RX10, "whole", "(I)I"⟩
abbrev cX10_bare : ByteArray := prog_12_method_48_code
def yX10_bare : MethodName := ⟨RX10, "bare", "(II)I"⟩
abbrev cX10_longest : ByteArray := prog_12_method_49_code
def yX10_longest : MethodName := ⟨RX10, "longest", "(I)I"⟩
abbrev cX10_seen : ByteArray := prog_12_method_50_code
def yX10_seen : MethodName := ⟨RX10, "seen", "(I)I"⟩
abbrev cX10_keepsIn : ByteArray := prog_12_method_51_code
def yX10_keepsIn : MethodName := ⟨RX10, "keepsIn", "([II)V"⟩
abbrev cX10_comesFrom : ByteArray := prog_12_method_52_code
def yX10_comesFrom : MethodName := ⟨RX10, "comesFrom", "([II)V"⟩
abbrev cX10_remembers : ByteArray := prog_12_method_53_code
def yX10_remembers : MethodName := ⟨RX10, "remembers", "()V"⟩
abbrev cX10_edits : ByteArray := prog_12_method_54_code
def yX10_edits : MethodName := ⟨RX10, "edits", "()V"⟩
abbrev cX10_put : ByteArray := prog_12_method_55_code
def yX10_put : MethodName := ⟨RX10, "put", "(II)I"⟩
abbrev cX10_comesIn : ByteArray := prog_12_method_56_code
def yX10_comesIn : MethodName := ⟨RX10, "comesIn", "(II)V"⟩
abbrev cX10_insert : ByteArray := prog_12_method_57_code
def yX10_insert : MethodName := ⟨RX10, "insert", "(II)I"⟩
abbrev cX10_isPart : ByteArray := prog_12_method_58_code
def yX10_isPart : MethodName := ⟨RX10, "isPart", "(II)Z"⟩
abbrev cX10_goes : ByteArray := prog_12_method_59_code
def yX10_goes : MethodName := ⟨RX10, "goes", "(II)V"⟩
abbrev cX10_drop : ByteArray := prog_12_method_60_code
def yX10_drop : MethodName := ⟨RX10, "drop", "(II)I"⟩
abbrev cX10_lifts : ByteArray := prog_12_method_61_code
def yX10_lifts : MethodName := ⟨RX10, "lifts", "(II)V"⟩
abbrev cX10_laysDown : ByteArray := prog_12_method_62_code
def yX10_laysDown : MethodName := ⟨RX10, "laysDown", "(II)V"⟩
abbrev cX10_move : ByteArray := prog_12_method_63_code
def yX10_move : MethodName := ⟨RX10, "move", "(III)I"⟩
abbrev cX10_copy : ByteArray := prog_12_method_64_code
def yX10_copy : MethodName := ⟨RX10, "copy", "(III)I"⟩
abbrev cX10_turned : ByteArray := prog_12_method_65_code
def yX10_turned : MethodName := ⟨RX10, "turned", "(I)I"⟩
abbrev cX10_turn : ByteArray := prog_12_method_66_code
def yX10_turn : MethodName := ⟨RX10, "turn", "(II)I"⟩
abbrev cX10_mark : ByteArray := prog_12_method_67_code
def yX10_mark : MethodName := ⟨RX10, "mark", "(II)I"⟩
abbrev cX10_drawn : ByteArray := prog_12_method_68_code
def yX10_drawn : MethodName := ⟨RX10, "drawn", "(I)I"⟩
abbrev cX10_grow : ByteArray := prog_12_method_69_code
def yX10_grow : MethodName := ⟨RX10, "grow", "(II)I"⟩
abbrev cX10_undo : ByteArray := prog_12_method_70_code
def yX10_undo : MethodName := ⟨RX10, "undo", "()I"⟩
abbrev cX10_redo : ByteArray := prog_12_method_71_code
def yX10_redo : MethodName := ⟨RX10, "redo", "()I"⟩
abbrev cX10_keep : ByteArray := prog_12_method_72_code
def yX10_keep : MethodName := ⟨RX10, "keep", "(I)I"⟩
abbrev cX10_back : ByteArray := prog_12_method_73_code
def yX10_back : MethodName := ⟨RX10, "back", "(I)I"⟩
abbrev cX10_sheet : ByteArray := prog_12_method_74_code
def yX10_sheet : MethodName := ⟨RX10, "sheet", "(III)I"⟩
abbrev cX10_lay : ByteArray := prog_12_method_75_code
def yX10_lay : MethodName := ⟨RX10, "lay", "(III)I"⟩
abbrev cX10_read : ByteArray := prog_12_method_76_code
def yX10_read : MethodName := ⟨RX10, "read", "(IIII)I"⟩
abbrev cX10_torn : ByteArray := prog_12_method_77_code
def yX10_torn : MethodName := ⟨RX10, "torn", "()I"⟩
abbrev cX10_count : ByteArray := prog_12_method_78_code
def yX10_count : MethodName := ⟨RX10, "count", "(I)I"⟩
def RJ9 : String := "java/lang/Math"
def TJ9 : u_T := fun k => match k with
  | _ => ("", "", "", false)
def tyJ9 : Nat → FieldType := fun k => match k with
  | _ => .int
theorem nmJ9 : ∀ a, a < 0 → ∀ b, b < 0 → a ≠ b → (TJ9 a).2.1 ≠ (TJ9 b).2.1 := by decide +kernel
theorem tyJ9_ok : ∀ k, k < 0 → parseFieldDescriptor (TJ9 k).2.2.1 = some (tyJ9 k) := by decide +kernel
abbrev cJ9_max_7cf53 : ByteArray := prog_13_method_65_code
def yJ9_max_7cf53 : MethodName := ⟨RJ9, "max", "(II)I"⟩
abbrev cJ9_min_7cf53 : ByteArray := prog_13_method_69_code
def yJ9_min_7cf53 : MethodName := ⟨RJ9, "min", "(II)I"⟩
def RJ0 : String := "java/lang/String"
def TJ0 : u_T := fun k => match k with
  | _ => ("", "", "", false)
def tyJ0 : Nat → FieldType := fun k => match k with
  | _ => .int
theorem nmJ0 : ∀ a, a < 0 → ∀ b, b < 0 → a ≠ b → (TJ0 a).2.1 ≠ (TJ0 b).2.1 := by decide +kernel
theorem tyJ0_ok : ∀ k, k < 0 → parseFieldDescriptor (TJ0 k).2.2.1 = some (tyJ0 k) := by decide +kernel
abbrev cJ0_length_8abf5 : ByteArray := prog_14_method_54_code
def yJ0_length_8abf5 : MethodName := ⟨RJ0, "length", "()I"⟩
abbrev cJ0_charAt_5068e : ByteArray := prog_14_method_56_code
def yJ0_charAt_5068e : MethodName := ⟨RJ0, "charAt", "(I)C"⟩
abbrev cJ0_coder_7d493 : ByteArray := prog_14_method_152_code
def yJ0_coder_7d493 : MethodName := ⟨RJ0, "coder", "()B"⟩
abbrev cJ0_isLatin1_aae02 : ByteArray := prog_14_method_154_code
def yJ0_isLatin1_aae02 : MethodName := ⟨RJ0, "isLatin1", "()Z"⟩
abbrev cJ0_checkIndex_df160 : ByteArray := prog_14_method_155_code
def yJ0_checkIndex_df160 : MethodName := ⟨RJ0, "checkIndex", "(II)V"⟩
def RJ1 : String := "java/lang/StringLatin1"
def TJ1 : u_T := fun k => match k with
  | _ => ("", "", "", false)
def tyJ1 : Nat → FieldType := fun k => match k with
  | _ => .int
theorem nmJ1 : ∀ a, a < 0 → ∀ b, b < 0 → a ≠ b → (TJ1 a).2.1 ≠ (TJ1 b).2.1 := by decide +kernel
theorem tyJ1_ok : ∀ k, k < 0 → parseFieldDescriptor (TJ1 k).2.2.1 = some (tyJ1 k) := by decide +kernel
abbrev cJ1_charAt_3b067 : ByteArray := prog_15_method_2_code
def yJ1_charAt_3b067 : MethodName := ⟨RJ1, "charAt", "([BI)C"⟩
def RJ2 : String := "java/lang/StringUTF16"
def TJ2 : u_T := fun k => match k with
  | _ => ("", "", "", false)
def tyJ2 : Nat → FieldType := fun k => match k with
  | _ => .int
theorem nmJ2 : ∀ a, a < 0 → ∀ b, b < 0 → a ≠ b → (TJ2 a).2.1 ≠ (TJ2 b).2.1 := by decide +kernel
theorem tyJ2_ok : ∀ k, k < 0 → parseFieldDescriptor (TJ2 k).2.2.1 = some (tyJ2 k) := by decide +kernel
abbrev cJ2_getChar_3b067 : ByteArray := prog_16_method_5_code
def yJ2_getChar_3b067 : MethodName := ⟨RJ2, "getChar", "([BI)C"⟩
abbrev cJ2_length_9d52b : ByteArray := prog_16_method_6_code
def yJ2_length_9d52b : MethodName := ⟨RJ2, "length", "([B)I"⟩
abbrev cJ2_charAt_3b067 : ByteArray := prog_16_method_83_code
def yJ2_charAt_3b067 : MethodName := ⟨RJ2, "charAt", "([BI)C"⟩
abbrev cJ2_checkIndex_2214a : ByteArray := prog_16_method_91_code
def yJ2_checkIndex_2214a : MethodName := ⟨RJ2, "checkIndex", "(I[B)V"⟩
def RJ10 : String := "java/lang/System"
def TJ10 : u_T := fun k => match k with
  | _ => ("", "", "", false)
def tyJ10 : Nat → FieldType := fun k => match k with
  | _ => .int
theorem nmJ10 : ∀ a, a < 0 → ∀ b, b < 0 → a ≠ b → (TJ10 a).2.1 ≠ (TJ10 b).2.1 := by decide +kernel
theorem tyJ10_ok : ∀ k, k < 0 → parseFieldDescriptor (TJ10 k).2.2.1 = some (tyJ10 k) := by decide +kernel
def RJ3 : String := "jdk/internal/util/Preconditions"
def TJ3 : u_T := fun k => match k with
  | _ => ("", "", "", false)
def tyJ3 : Nat → FieldType := fun k => match k with
  | _ => .int
theorem nmJ3 : ∀ a, a < 0 → ∀ b, b < 0 → a ≠ b → (TJ3 a).2.1 ≠ (TJ3 b).2.1 := by decide +kernel
theorem tyJ3_ok : ∀ k, k < 0 → parseFieldDescriptor (TJ3 k).2.2.1 = some (tyJ3 k) := by decide +kernel
abbrev cJ3_checkIndex_8e157 : ByteArray := prog_18_method_11_code
def yJ3_checkIndex_8e157 : MethodName := ⟨RJ3, "checkIndex", "(IILjava/util/function/BiFunction;)I"⟩
def RL : String := "FoldKeeperLaw"
abbrev cL_law : ByteArray := code
def yL_law : MethodName := ⟨RL, "law", "([I)Z"⟩
abbrev vwCl : List vw_C := [(RX0, TX0, 5), (RX1, TX1, 8), (RX2, TX2, 4), (RX3, TX3, 2), (RX4, TX4, 4), (RX6, TX6, 2), (RX7, TX7, 8), (RX8, TX8, 6), (RX9, TX9, 9), (RX10, TX10, 31)]
end
section
theorem dX0_init_0 : decode cX0_init 0 = .ok (.aload_n 0, 1) := by decide +kernel
theorem dX0_init_1 : decode cX0_init 1 = .ok (.invokespecial 3, 3) := by decide +kernel
theorem dX0_init_4 : decode cX0_init 4 = .ok (.return_, 1) := by decide +kernel
theorem dX0_restart_0 : decode cX0_restart 0 = .ok (.aload_n 0, 1) := by decide +kernel
theorem dX0_restart_1 : decode cX0_restart 1 = .ok (.iconst 0, 1) := by decide +kernel
theorem dX0_restart_2 : decode cX0_restart 2 = .ok (.putfield 9, 3) := by decide +kernel
theorem dX0_restart_5 : decode cX0_restart 5 = .ok (.aload_n 0, 1) := by decide +kernel
theorem dX0_restart_6 : decode cX0_restart 6 = .ok (.iconst 0, 1) := by decide +kernel
theorem dX0_restart_7 : decode cX0_restart 7 = .ok (.putfield 15, 3) := by decide +kernel
theorem dX0_restart_10 : decode cX0_restart 10 = .ok (.aload_n 0, 1) := by decide +kernel
theorem dX0_restart_11 : decode cX0_restart 11 = .ok (.iconst 0, 1) := by decide +kernel
theorem dX0_restart_12 : decode cX0_restart 12 = .ok (.putfield 18, 3) := by decide +kernel
theorem dX0_restart_15 : decode cX0_restart 15 = .ok (.aload_n 0, 1) := by decide +kernel
theorem dX0_restart_16 : decode cX0_restart 16 = .ok (.iconst 0, 1) := by decide +kernel
theorem dX0_restart_17 : decode cX0_restart 17 = .ok (.putfield 21, 3) := by decide +kernel
theorem dX0_restart_20 : decode cX0_restart 20 = .ok (.aload_n 0, 1) := by decide +kernel
theorem dX0_restart_21 : decode cX0_restart 21 = .ok (.bipush (-4), 2) := by decide +kernel
theorem dX0_restart_23 : decode cX0_restart 23 = .ok (.putfield 24, 3) := by decide +kernel
theorem dX0_restart_26 : decode cX0_restart 26 = .ok (.return_, 1) := by decide +kernel
theorem dX0_tokenTaken_0 : decode cX0_tokenTaken 0 = .ok (.aload_n 0, 1) := by decide +kernel
theorem dX0_tokenTaken_1 : decode cX0_tokenTaken 1 = .ok (.dup, 1) := by decide +kernel
theorem dX0_tokenTaken_2 : decode cX0_tokenTaken 2 = .ok (.getfield 21, 3) := by decide +kernel
theorem dX0_tokenTaken_5 : decode cX0_tokenTaken 5 = .ok (.iconst 1, 1) := by decide +kernel
theorem dX0_tokenTaken_6 : decode cX0_tokenTaken 6 = .ok (.iadd, 1) := by decide +kernel
theorem dX0_tokenTaken_7 : decode cX0_tokenTaken 7 = .ok (.putfield 21, 3) := by decide +kernel
theorem dX0_tokenTaken_10 : decode cX0_tokenTaken 10 = .ok (.return_, 1) := by decide +kernel
theorem dX0_lineTaken_0 : decode cX0_lineTaken 0 = .ok (.aload_n 0, 1) := by decide +kernel
theorem dX0_lineTaken_1 : decode cX0_lineTaken 1 = .ok (.dup, 1) := by decide +kernel
theorem dX0_lineTaken_2 : decode cX0_lineTaken 2 = .ok (.getfield 18, 3) := by decide +kernel
theorem dX0_lineTaken_5 : decode cX0_lineTaken 5 = .ok (.iconst 1, 1) := by decide +kernel
theorem dX0_lineTaken_6 : decode cX0_lineTaken 6 = .ok (.iadd, 1) := by decide +kernel
theorem dX0_lineTaken_7 : decode cX0_lineTaken 7 = .ok (.putfield 18, 3) := by decide +kernel
theorem dX0_lineTaken_10 : decode cX0_lineTaken 10 = .ok (.aload_n 0, 1) := by decide +kernel
theorem dX0_lineTaken_11 : decode cX0_lineTaken 11 = .ok (.iconst 0, 1) := by decide +kernel
theorem dX0_lineTaken_12 : decode cX0_lineTaken 12 = .ok (.putfield 21, 3) := by decide +kernel
theorem dX0_lineTaken_15 : decode cX0_lineTaken 15 = .ok (.return_, 1) := by decide +kernel
theorem dX0_stopAt_0 : decode cX0_stopAt 0 = .ok (.aload_n 0, 1) := by decide +kernel
theorem dX0_stopAt_1 : decode cX0_stopAt 1 = .ok (.iload_n 1, 1) := by decide +kernel
theorem dX0_stopAt_2 : decode cX0_stopAt 2 = .ok (.putfield 9, 3) := by decide +kernel
theorem dX0_stopAt_5 : decode cX0_stopAt 5 = .ok (.aload_n 0, 1) := by decide +kernel
theorem dX0_stopAt_6 : decode cX0_stopAt 6 = .ok (.iload_n 2, 1) := by decide +kernel
theorem dX0_stopAt_7 : decode cX0_stopAt 7 = .ok (.putfield 15, 3) := by decide +kernel
theorem dX0_stopAt_10 : decode cX0_stopAt 10 = .ok (.iconst 0, 1) := by decide +kernel
theorem dX0_stopAt_11 : decode cX0_stopAt 11 = .ok (.ireturn, 1) := by decide +kernel
theorem dX0_stopInQuote_0 : decode cX0_stopInQuote 0 = .ok (.aload_n 0, 1) := by decide +kernel
theorem dX0_stopInQuote_1 : decode cX0_stopInQuote 1 = .ok (.iload_n 3, 1) := by decide +kernel
theorem dX0_stopInQuote_2 : decode cX0_stopInQuote 2 = .ok (.putfield 24, 3) := by decide +kernel
theorem dX0_stopInQuote_5 : decode cX0_stopInQuote 5 = .ok (.aload_n 0, 1) := by decide +kernel
theorem dX0_stopInQuote_6 : decode cX0_stopInQuote 6 = .ok (.iload_n 1, 1) := by decide +kernel
theorem dX0_stopInQuote_7 : decode cX0_stopInQuote 7 = .ok (.iload_n 2, 1) := by decide +kernel
theorem dX0_stopInQuote_8 : decode cX0_stopInQuote 8 = .ok (.invokevirtual 27, 3) := by decide +kernel
theorem dX0_stopInQuote_11 : decode cX0_stopInQuote 11 = .ok (.ireturn, 1) := by decide +kernel
theorem dX0_part_0 : decode cX0_part 0 = .ok (.aload_n 0, 1) := by decide +kernel
theorem dX0_part_1 : decode cX0_part 1 = .ok (.getfield 9, 3) := by decide +kernel
theorem dX0_part_4 : decode cX0_part 4 = .ok (.ifCond .eq 12, 3) := by decide +kernel
theorem dX0_part_7 : decode cX0_part 7 = .ok (.aload_n 0, 1) := by decide +kernel
theorem dX0_part_8 : decode cX0_part 8 = .ok (.getfield 9, 3) := by decide +kernel
theorem dX0_part_11 : decode cX0_part 11 = .ok (.bipush 6, 2) := by decide +kernel
theorem dX0_part_13 : decode cX0_part 13 = .ok (.if_icmp .ne 6, 3) := by decide +kernel
theorem dX0_part_16 : decode cX0_part 16 = .ok (.bipush (-4), 2) := by decide +kernel
theorem dX0_part_18 : decode cX0_part 18 = .ok (.ireturn, 1) := by decide +kernel
theorem dX0_part_19 : decode cX0_part 19 = .ok (.iload_n 1, 1) := by decide +kernel
theorem dX0_part_20 : decode cX0_part 20 = .ok (.lookupswitch 38 #[(0, 28), (1, 33)], 28) := by decide +kernel
theorem dX0_part_48 : decode cX0_part 48 = .ok (.aload_n 0, 1) := by decide +kernel
theorem dX0_part_49 : decode cX0_part 49 = .ok (.getfield 18, 3) := by decide +kernel
theorem dX0_part_52 : decode cX0_part 52 = .ok (.ireturn, 1) := by decide +kernel
theorem dX0_part_53 : decode cX0_part 53 = .ok (.aload_n 0, 1) := by decide +kernel
theorem dX0_part_54 : decode cX0_part 54 = .ok (.getfield 21, 3) := by decide +kernel
theorem dX0_part_57 : decode cX0_part 57 = .ok (.ireturn, 1) := by decide +kernel
theorem dX0_part_58 : decode cX0_part 58 = .ok (.aload_n 0, 1) := by decide +kernel
theorem dX0_part_59 : decode cX0_part 59 = .ok (.getfield 24, 3) := by decide +kernel
theorem dX0_part_62 : decode cX0_part 62 = .ok (.ireturn, 1) := by decide +kernel
theorem dX1_init_0 : decode cX1_init 0 = .ok (.aload_n 0, 1) := by decide +kernel
theorem dX1_init_1 : decode cX1_init 1 = .ok (.invokespecial 3, 3) := by decide +kernel
theorem dX1_init_4 : decode cX1_init 4 = .ok (.aload_n 0, 1) := by decide +kernel
theorem dX1_init_5 : decode cX1_init 5 = .ok (.new 9, 3) := by decide +kernel
theorem dX1_init_8 : decode cX1_init 8 = .ok (.dup, 1) := by decide +kernel
theorem dX1_init_9 : decode cX1_init 9 = .ok (.invokespecial 11, 3) := by decide +kernel
theorem dX1_init_12 : decode cX1_init 12 = .ok (.putfield 12, 3) := by decide +kernel
theorem dX1_init_15 : decode cX1_init 15 = .ok (.aload_n 0, 1) := by decide +kernel
theorem dX1_init_16 : decode cX1_init 16 = .ok (.bipush 60, 2) := by decide +kernel
theorem dX1_init_18 : decode cX1_init 18 = .ok (.newarray .int, 2) := by decide +kernel
theorem dX1_init_20 : decode cX1_init 20 = .ok (.putfield 18, 3) := by decide +kernel
theorem dX1_init_23 : decode cX1_init 23 = .ok (.aload_n 0, 1) := by decide +kernel
theorem dX1_init_24 : decode cX1_init 24 = .ok (.bipush 60, 2) := by decide +kernel
theorem dX1_init_26 : decode cX1_init 26 = .ok (.newarray .int, 2) := by decide +kernel
theorem dX1_init_28 : decode cX1_init 28 = .ok (.putfield 22, 3) := by decide +kernel
theorem dX1_init_31 : decode cX1_init 31 = .ok (.aload_n 0, 1) := by decide +kernel
theorem dX1_init_32 : decode cX1_init 32 = .ok (.bipush 60, 2) := by decide +kernel
theorem dX1_init_34 : decode cX1_init 34 = .ok (.newarray .int, 2) := by decide +kernel
theorem dX1_init_36 : decode cX1_init 36 = .ok (.putfield 25, 3) := by decide +kernel
theorem dX1_init_39 : decode cX1_init 39 = .ok (.aload_n 0, 1) := by decide +kernel
theorem dX1_init_40 : decode cX1_init 40 = .ok (.bipush 61, 2) := by decide +kernel
theorem dX1_init_42 : decode cX1_init 42 = .ok (.newarray .int, 2) := by decide +kernel
theorem dX1_init_44 : decode cX1_init 44 = .ok (.putfield 28, 3) := by decide +kernel
theorem dX1_init_47 : decode cX1_init 47 = .ok (.aload_n 0, 1) := by decide +kernel
theorem dX1_init_48 : decode cX1_init 48 = .ok (.bipush 61, 2) := by decide +kernel
theorem dX1_init_50 : decode cX1_init 50 = .ok (.newarray .int, 2) := by decide +kernel
theorem dX1_init_52 : decode cX1_init 52 = .ok (.putfield 31, 3) := by decide +kernel
theorem dX1_init_55 : decode cX1_init 55 = .ok (.aload_n 0, 1) := by decide +kernel
theorem dX1_init_56 : decode cX1_init 56 = .ok (.bipush 60, 2) := by decide +kernel
theorem dX1_init_58 : decode cX1_init 58 = .ok (.newarray .int, 2) := by decide +kernel
theorem dX1_init_60 : decode cX1_init 60 = .ok (.putfield 34, 3) := by decide +kernel
theorem dX1_init_63 : decode cX1_init 63 = .ok (.aload_n 0, 1) := by decide +kernel
theorem dX1_init_64 : decode cX1_init 64 = .ok (.bipush 60, 2) := by decide +kernel
theorem dX1_init_66 : decode cX1_init 66 = .ok (.newarray .boolean, 2) := by decide +kernel
theorem dX1_init_68 : decode cX1_init 68 = .ok (.putfield 37, 3) := by decide +kernel
theorem dX1_init_71 : decode cX1_init 71 = .ok (.return_, 1) := by decide +kernel
theorem dX1_survey_0 : decode cX1_survey 0 = .ok (.iconst 0, 1) := by decide +kernel
theorem dX1_survey_1 : decode cX1_survey 1 = .ok (.istore_n 1, 1) := by decide +kernel
theorem dX1_survey_2 : decode cX1_survey 2 = .ok (.iload_n 1, 1) := by decide +kernel
theorem dX1_survey_3 : decode cX1_survey 3 = .ok (.aload_n 0, 1) := by decide +kernel
theorem dX1_survey_4 : decode cX1_survey 4 = .ok (.getfield 12, 3) := by decide +kernel
theorem dX1_survey_7 : decode cX1_survey 7 = .ok (.getfield 41, 3) := by decide +kernel
theorem dX1_survey_10 : decode cX1_survey 10 = .ok (.if_icmp .ge 25, 3) := by decide +kernel
theorem dX1_survey_13 : decode cX1_survey 13 = .ok (.aload_n 0, 1) := by decide +kernel
theorem dX1_survey_14 : decode cX1_survey 14 = .ok (.getfield 18, 3) := by decide +kernel
theorem dX1_survey_17 : decode cX1_survey 17 = .ok (.iload_n 1, 1) := by decide +kernel
theorem dX1_survey_18 : decode cX1_survey 18 = .ok (.bipush (-4), 2) := by decide +kernel
theorem dX1_survey_20 : decode cX1_survey 20 = .ok (.iastore, 1) := by decide +kernel
theorem dX1_survey_21 : decode cX1_survey 21 = .ok (.aload_n 0, 1) := by decide +kernel
theorem dX1_survey_22 : decode cX1_survey 22 = .ok (.getfield 22, 3) := by decide +kernel
theorem dX1_survey_25 : decode cX1_survey 25 = .ok (.iload_n 1, 1) := by decide +kernel
theorem dX1_survey_26 : decode cX1_survey 26 = .ok (.bipush (-4), 2) := by decide +kernel
theorem dX1_survey_28 : decode cX1_survey 28 = .ok (.iastore, 1) := by decide +kernel
theorem dX1_survey_29 : decode cX1_survey 29 = .ok (.iinc 1 1, 3) := by decide +kernel
theorem dX1_survey_32 : decode cX1_survey 32 = .ok (.goto (-30), 3) := by decide +kernel
theorem dX1_survey_35 : decode cX1_survey 35 = .ok (.aload_n 0, 1) := by decide +kernel
theorem dX1_survey_36 : decode cX1_survey 36 = .ok (.iconst 3, 1) := by decide +kernel
theorem dX1_survey_37 : decode cX1_survey 37 = .ok (.aload_n 0, 1) := by decide +kernel
theorem dX1_survey_38 : decode cX1_survey 38 = .ok (.getfield 18, 3) := by decide +kernel
theorem dX1_survey_41 : decode cX1_survey 41 = .ok (.invokevirtual 45, 3) := by decide +kernel
theorem dX1_survey_44 : decode cX1_survey 44 = .ok (.iconst 0, 1) := by decide +kernel
theorem dX1_survey_45 : decode cX1_survey 45 = .ok (.istore_n 1, 1) := by decide +kernel
theorem dX1_survey_46 : decode cX1_survey 46 = .ok (.iload_n 1, 1) := by decide +kernel
theorem dX1_survey_47 : decode cX1_survey 47 = .ok (.iconst 3, 1) := by decide +kernel
theorem dX1_survey_48 : decode cX1_survey 48 = .ok (.if_icmp .ge 18, 3) := by decide +kernel
theorem dX1_survey_51 : decode cX1_survey 51 = .ok (.aload_n 0, 1) := by decide +kernel
theorem dX1_survey_52 : decode cX1_survey 52 = .ok (.iload_n 1, 1) := by decide +kernel
theorem dX1_survey_53 : decode cX1_survey 53 = .ok (.aload_n 0, 1) := by decide +kernel
theorem dX1_survey_54 : decode cX1_survey 54 = .ok (.getfield 22, 3) := by decide +kernel
theorem dX1_survey_57 : decode cX1_survey 57 = .ok (.invokevirtual 45, 3) := by decide +kernel
theorem dX1_survey_60 : decode cX1_survey 60 = .ok (.iinc 1 1, 3) := by decide +kernel
theorem dX1_survey_63 : decode cX1_survey 63 = .ok (.goto (-17), 3) := by decide +kernel
theorem dX1_survey_66 : decode cX1_survey 66 = .ok (.aload_n 0, 1) := by decide +kernel
theorem dX1_survey_67 : decode cX1_survey 67 = .ok (.invokevirtual 49, 3) := by decide +kernel
theorem dX1_survey_70 : decode cX1_survey 70 = .ok (.aload_n 0, 1) := by decide +kernel
theorem dX1_survey_71 : decode cX1_survey 71 = .ok (.invokevirtual 52, 3) := by decide +kernel
theorem dX1_survey_74 : decode cX1_survey 74 = .ok (.return_, 1) := by decide +kernel
theorem dX1_pairUp_0 : decode cX1_pairUp 0 = .ok (.iconst 0, 1) := by decide +kernel
theorem dX1_pairUp_1 : decode cX1_pairUp 1 = .ok (.istore_n 3, 1) := by decide +kernel
theorem dX1_pairUp_2 : decode cX1_pairUp 2 = .ok (.iconst 0, 1) := by decide +kernel
theorem dX1_pairUp_3 : decode cX1_pairUp 3 = .ok (.istore 4, 2) := by decide +kernel
theorem dX1_pairUp_5 : decode cX1_pairUp 5 = .ok (.iload 4, 2) := by decide +kernel
theorem dX1_pairUp_7 : decode cX1_pairUp 7 = .ok (.aload_n 0, 1) := by decide +kernel
theorem dX1_pairUp_8 : decode cX1_pairUp 8 = .ok (.getfield 12, 3) := by decide +kernel
theorem dX1_pairUp_11 : decode cX1_pairUp 11 = .ok (.getfield 41, 3) := by decide +kernel
theorem dX1_pairUp_14 : decode cX1_pairUp 14 = .ok (.if_icmp .ge 81, 3) := by decide +kernel
theorem dX1_pairUp_17 : decode cX1_pairUp 17 = .ok (.aload_n 0, 1) := by decide +kernel
theorem dX1_pairUp_18 : decode cX1_pairUp 18 = .ok (.getfield 12, 3) := by decide +kernel
theorem dX1_pairUp_21 : decode cX1_pairUp 21 = .ok (.iload 4, 2) := by decide +kernel
theorem dX1_pairUp_23 : decode cX1_pairUp 23 = .ok (.invokevirtual 55, 3) := by decide +kernel
theorem dX1_pairUp_26 : decode cX1_pairUp 26 = .ok (.istore 5, 2) := by decide +kernel
theorem dX1_pairUp_28 : decode cX1_pairUp 28 = .ok (.iload 5, 2) := by decide +kernel
theorem dX1_pairUp_30 : decode cX1_pairUp 30 = .ok (.iload_n 1, 1) := by decide +kernel
theorem dX1_pairUp_31 : decode cX1_pairUp 31 = .ok (.invokestatic 59, 3) := by decide +kernel
theorem dX1_pairUp_34 : decode cX1_pairUp 34 = .ok (.ifCond .ne 6, 3) := by decide +kernel
theorem dX1_pairUp_37 : decode cX1_pairUp 37 = .ok (.goto 52, 3) := by decide +kernel
theorem dX1_pairUp_40 : decode cX1_pairUp 40 = .ok (.iload 5, 2) := by decide +kernel
theorem dX1_pairUp_42 : decode cX1_pairUp 42 = .ok (.invokestatic 63, 3) := by decide +kernel
theorem dX1_pairUp_45 : decode cX1_pairUp 45 = .ok (.ifCond .eq 17, 3) := by decide +kernel
theorem dX1_pairUp_48 : decode cX1_pairUp 48 = .ok (.aload_n 0, 1) := by decide +kernel
theorem dX1_pairUp_49 : decode cX1_pairUp 49 = .ok (.getfield 25, 3) := by decide +kernel
theorem dX1_pairUp_52 : decode cX1_pairUp 52 = .ok (.iload_n 3, 1) := by decide +kernel
theorem dX1_pairUp_53 : decode cX1_pairUp 53 = .ok (.iload 4, 2) := by decide +kernel
theorem dX1_pairUp_55 : decode cX1_pairUp 55 = .ok (.iastore, 1) := by decide +kernel
theorem dX1_pairUp_56 : decode cX1_pairUp 56 = .ok (.iinc 3 1, 3) := by decide +kernel
theorem dX1_pairUp_59 : decode cX1_pairUp 59 = .ok (.goto 30, 3) := by decide +kernel
theorem dX1_pairUp_62 : decode cX1_pairUp 62 = .ok (.iload_n 3, 1) := by decide +kernel
theorem dX1_pairUp_63 : decode cX1_pairUp 63 = .ok (.ifCond .le 26, 3) := by decide +kernel
theorem dX1_pairUp_66 : decode cX1_pairUp 66 = .ok (.iinc 3 (-1), 3) := by decide +kernel
theorem dX1_pairUp_69 : decode cX1_pairUp 69 = .ok (.aload_n 2, 1) := by decide +kernel
theorem dX1_pairUp_70 : decode cX1_pairUp 70 = .ok (.iload 4, 2) := by decide +kernel
theorem dX1_pairUp_72 : decode cX1_pairUp 72 = .ok (.aload_n 0, 1) := by decide +kernel
theorem dX1_pairUp_73 : decode cX1_pairUp 73 = .ok (.getfield 25, 3) := by decide +kernel
theorem dX1_pairUp_76 : decode cX1_pairUp 76 = .ok (.iload_n 3, 1) := by decide +kernel
theorem dX1_pairUp_77 : decode cX1_pairUp 77 = .ok (.iaload, 1) := by decide +kernel
theorem dX1_pairUp_78 : decode cX1_pairUp 78 = .ok (.iastore, 1) := by decide +kernel
theorem dX1_pairUp_79 : decode cX1_pairUp 79 = .ok (.aload_n 2, 1) := by decide +kernel
theorem dX1_pairUp_80 : decode cX1_pairUp 80 = .ok (.aload_n 0, 1) := by decide +kernel
theorem dX1_pairUp_81 : decode cX1_pairUp 81 = .ok (.getfield 25, 3) := by decide +kernel
theorem dX1_pairUp_84 : decode cX1_pairUp 84 = .ok (.iload_n 3, 1) := by decide +kernel
theorem dX1_pairUp_85 : decode cX1_pairUp 85 = .ok (.iaload, 1) := by decide +kernel
theorem dX1_pairUp_86 : decode cX1_pairUp 86 = .ok (.iload 4, 2) := by decide +kernel
theorem dX1_pairUp_88 : decode cX1_pairUp 88 = .ok (.iastore, 1) := by decide +kernel
theorem dX1_pairUp_89 : decode cX1_pairUp 89 = .ok (.iinc 4 1, 3) := by decide +kernel
theorem dX1_pairUp_92 : decode cX1_pairUp 92 = .ok (.goto (-87), 3) := by decide +kernel
theorem dX1_pairUp_95 : decode cX1_pairUp 95 = .ok (.return_, 1) := by decide +kernel
theorem dX1_isOf_0 : decode cX1_isOf 0 = .ok (.iload_n 0, 1) := by decide +kernel
theorem dX1_isOf_1 : decode cX1_isOf 1 = .ok (.invokestatic 69, 3) := by decide +kernel
theorem dX1_isOf_4 : decode cX1_isOf 4 = .ok (.ifCond .eq 20, 3) := by decide +kernel
theorem dX1_isOf_7 : decode cX1_isOf 7 = .ok (.iload_n 1, 1) := by decide +kernel
theorem dX1_isOf_8 : decode cX1_isOf 8 = .ok (.iconst 3, 1) := by decide +kernel
theorem dX1_isOf_9 : decode cX1_isOf 9 = .ok (.if_icmp .eq 11, 3) := by decide +kernel
theorem dX1_isOf_12 : decode cX1_isOf 12 = .ok (.iload_n 0, 1) := by decide +kernel
theorem dX1_isOf_13 : decode cX1_isOf 13 = .ok (.invokestatic 72, 3) := by decide +kernel
theorem dX1_isOf_16 : decode cX1_isOf 16 = .ok (.iload_n 1, 1) := by decide +kernel
theorem dX1_isOf_17 : decode cX1_isOf 17 = .ok (.if_icmp .ne 7, 3) := by decide +kernel
theorem dX1_isOf_20 : decode cX1_isOf 20 = .ok (.iconst 1, 1) := by decide +kernel
theorem dX1_isOf_21 : decode cX1_isOf 21 = .ok (.goto 4, 3) := by decide +kernel
theorem dX1_isOf_24 : decode cX1_isOf 24 = .ok (.iconst 0, 1) := by decide +kernel
theorem dX1_isOf_25 : decode cX1_isOf 25 = .ok (.ireturn, 1) := by decide +kernel
theorem dX1_countAlong_0 : decode cX1_countAlong 0 = .ok (.iconst 0, 1) := by decide +kernel
theorem dX1_countAlong_1 : decode cX1_countAlong 1 = .ok (.istore_n 1, 1) := by decide +kernel
theorem dX1_countAlong_2 : decode cX1_countAlong 2 = .ok (.iload_n 1, 1) := by decide +kernel
theorem dX1_countAlong_3 : decode cX1_countAlong 3 = .ok (.aload_n 0, 1) := by decide +kernel
theorem dX1_countAlong_4 : decode cX1_countAlong 4 = .ok (.getfield 12, 3) := by decide +kernel
theorem dX1_countAlong_7 : decode cX1_countAlong 7 = .ok (.getfield 41, 3) := by decide +kernel
theorem dX1_countAlong_10 : decode cX1_countAlong 10 = .ok (.if_icmp .ge 77, 3) := by decide +kernel
theorem dX1_countAlong_13 : decode cX1_countAlong 13 = .ok (.aload_n 0, 1) := by decide +kernel
theorem dX1_countAlong_14 : decode cX1_countAlong 14 = .ok (.getfield 12, 3) := by decide +kernel
theorem dX1_countAlong_17 : decode cX1_countAlong 17 = .ok (.iload_n 1, 1) := by decide +kernel
theorem dX1_countAlong_18 : decode cX1_countAlong 18 = .ok (.invokevirtual 55, 3) := by decide +kernel
theorem dX1_countAlong_21 : decode cX1_countAlong 21 = .ok (.istore_n 2, 1) := by decide +kernel
theorem dX1_countAlong_22 : decode cX1_countAlong 22 = .ok (.aload_n 0, 1) := by decide +kernel
theorem dX1_countAlong_23 : decode cX1_countAlong 23 = .ok (.getfield 28, 3) := by decide +kernel
theorem dX1_countAlong_26 : decode cX1_countAlong 26 = .ok (.iload_n 1, 1) := by decide +kernel
theorem dX1_countAlong_27 : decode cX1_countAlong 27 = .ok (.iconst 1, 1) := by decide +kernel
theorem dX1_countAlong_28 : decode cX1_countAlong 28 = .ok (.iadd, 1) := by decide +kernel
theorem dX1_countAlong_29 : decode cX1_countAlong 29 = .ok (.aload_n 0, 1) := by decide +kernel
theorem dX1_countAlong_30 : decode cX1_countAlong 30 = .ok (.getfield 28, 3) := by decide +kernel
theorem dX1_countAlong_33 : decode cX1_countAlong 33 = .ok (.iload_n 1, 1) := by decide +kernel
theorem dX1_countAlong_34 : decode cX1_countAlong 34 = .ok (.iaload, 1) := by decide +kernel
theorem dX1_countAlong_35 : decode cX1_countAlong 35 = .ok (.iload_n 2, 1) := by decide +kernel
theorem dX1_countAlong_36 : decode cX1_countAlong 36 = .ok (.invokestatic 63, 3) := by decide +kernel
theorem dX1_countAlong_39 : decode cX1_countAlong 39 = .ok (.invokestatic 75, 3) := by decide +kernel
theorem dX1_countAlong_42 : decode cX1_countAlong 42 = .ok (.iadd, 1) := by decide +kernel
theorem dX1_countAlong_43 : decode cX1_countAlong 43 = .ok (.iload_n 2, 1) := by decide +kernel
theorem dX1_countAlong_44 : decode cX1_countAlong 44 = .ok (.invokestatic 79, 3) := by decide +kernel
theorem dX1_countAlong_47 : decode cX1_countAlong 47 = .ok (.invokestatic 75, 3) := by decide +kernel
theorem dX1_countAlong_50 : decode cX1_countAlong 50 = .ok (.isub, 1) := by decide +kernel
theorem dX1_countAlong_51 : decode cX1_countAlong 51 = .ok (.iastore, 1) := by decide +kernel
theorem dX1_countAlong_52 : decode cX1_countAlong 52 = .ok (.aload_n 0, 1) := by decide +kernel
theorem dX1_countAlong_53 : decode cX1_countAlong 53 = .ok (.getfield 31, 3) := by decide +kernel
theorem dX1_countAlong_56 : decode cX1_countAlong 56 = .ok (.iload_n 1, 1) := by decide +kernel
theorem dX1_countAlong_57 : decode cX1_countAlong 57 = .ok (.iconst 1, 1) := by decide +kernel
theorem dX1_countAlong_58 : decode cX1_countAlong 58 = .ok (.iadd, 1) := by decide +kernel
theorem dX1_countAlong_59 : decode cX1_countAlong 59 = .ok (.aload_n 0, 1) := by decide +kernel
theorem dX1_countAlong_60 : decode cX1_countAlong 60 = .ok (.getfield 31, 3) := by decide +kernel
theorem dX1_countAlong_63 : decode cX1_countAlong 63 = .ok (.iload_n 1, 1) := by decide +kernel
theorem dX1_countAlong_64 : decode cX1_countAlong 64 = .ok (.iaload, 1) := by decide +kernel
theorem dX1_countAlong_65 : decode cX1_countAlong 65 = .ok (.iload_n 2, 1) := by decide +kernel
theorem dX1_countAlong_66 : decode cX1_countAlong 66 = .ok (.bipush 47, 2) := by decide +kernel
theorem dX1_countAlong_68 : decode cX1_countAlong 68 = .ok (.if_icmp .ne 7, 3) := by decide +kernel
theorem dX1_countAlong_71 : decode cX1_countAlong 71 = .ok (.iconst 1, 1) := by decide +kernel
theorem dX1_countAlong_72 : decode cX1_countAlong 72 = .ok (.goto 4, 3) := by decide +kernel
theorem dX1_countAlong_75 : decode cX1_countAlong 75 = .ok (.iconst 0, 1) := by decide +kernel
theorem dX1_countAlong_76 : decode cX1_countAlong 76 = .ok (.invokestatic 75, 3) := by decide +kernel
theorem dX1_countAlong_79 : decode cX1_countAlong 79 = .ok (.iadd, 1) := by decide +kernel
theorem dX1_countAlong_80 : decode cX1_countAlong 80 = .ok (.iastore, 1) := by decide +kernel
theorem dX1_countAlong_81 : decode cX1_countAlong 81 = .ok (.iinc 1 1, 3) := by decide +kernel
theorem dX1_countAlong_84 : decode cX1_countAlong 84 = .ok (.goto (-82), 3) := by decide +kernel
theorem dX1_countAlong_87 : decode cX1_countAlong 87 = .ok (.return_, 1) := by decide +kernel
theorem dX1_nest_0 : decode cX1_nest 0 = .ok (.iconst 0, 1) := by decide +kernel
theorem dX1_nest_1 : decode cX1_nest 1 = .ok (.istore_n 1, 1) := by decide +kernel
theorem dX1_nest_2 : decode cX1_nest 2 = .ok (.iconst 0, 1) := by decide +kernel
theorem dX1_nest_3 : decode cX1_nest 3 = .ok (.istore_n 2, 1) := by decide +kernel
theorem dX1_nest_4 : decode cX1_nest 4 = .ok (.iconst 0, 1) := by decide +kernel
theorem dX1_nest_5 : decode cX1_nest 5 = .ok (.istore_n 3, 1) := by decide +kernel
theorem dX1_nest_6 : decode cX1_nest 6 = .ok (.iload_n 3, 1) := by decide +kernel
theorem dX1_nest_7 : decode cX1_nest 7 = .ok (.aload_n 0, 1) := by decide +kernel
theorem dX1_nest_8 : decode cX1_nest 8 = .ok (.getfield 12, 3) := by decide +kernel
theorem dX1_nest_11 : decode cX1_nest 11 = .ok (.getfield 41, 3) := by decide +kernel
theorem dX1_nest_14 : decode cX1_nest 14 = .ok (.if_icmp .ge 85, 3) := by decide +kernel
theorem dX1_nest_17 : decode cX1_nest 17 = .ok (.aload_n 0, 1) := by decide +kernel
theorem dX1_nest_18 : decode cX1_nest 18 = .ok (.getfield 18, 3) := by decide +kernel
theorem dX1_nest_21 : decode cX1_nest 21 = .ok (.iload_n 3, 1) := by decide +kernel
theorem dX1_nest_22 : decode cX1_nest 22 = .ok (.iaload, 1) := by decide +kernel
theorem dX1_nest_23 : decode cX1_nest 23 = .ok (.istore 4, 2) := by decide +kernel
theorem dX1_nest_25 : decode cX1_nest 25 = .ok (.iload 4, 2) := by decide +kernel
theorem dX1_nest_27 : decode cX1_nest 27 = .ok (.ifCond .lt 24, 3) := by decide +kernel
theorem dX1_nest_30 : decode cX1_nest 30 = .ok (.iload 4, 2) := by decide +kernel
theorem dX1_nest_32 : decode cX1_nest 32 = .ok (.iload_n 3, 1) := by decide +kernel
theorem dX1_nest_33 : decode cX1_nest 33 = .ok (.if_icmp .ge 18, 3) := by decide +kernel
theorem dX1_nest_36 : decode cX1_nest 36 = .ok (.iinc 1 (-1), 3) := by decide +kernel
theorem dX1_nest_39 : decode cX1_nest 39 = .ok (.iload_n 2, 1) := by decide +kernel
theorem dX1_nest_40 : decode cX1_nest 40 = .ok (.aload_n 0, 1) := by decide +kernel
theorem dX1_nest_41 : decode cX1_nest 41 = .ok (.iload 4, 2) := by decide +kernel
theorem dX1_nest_43 : decode cX1_nest 43 = .ok (.invokevirtual 82, 3) := by decide +kernel
theorem dX1_nest_46 : decode cX1_nest 46 = .ok (.invokestatic 75, 3) := by decide +kernel
theorem dX1_nest_49 : decode cX1_nest 49 = .ok (.isub, 1) := by decide +kernel
theorem dX1_nest_50 : decode cX1_nest 50 = .ok (.istore_n 2, 1) := by decide +kernel
theorem dX1_nest_51 : decode cX1_nest 51 = .ok (.aload_n 0, 1) := by decide +kernel
theorem dX1_nest_52 : decode cX1_nest 52 = .ok (.getfield 34, 3) := by decide +kernel
theorem dX1_nest_55 : decode cX1_nest 55 = .ok (.iload_n 3, 1) := by decide +kernel
theorem dX1_nest_56 : decode cX1_nest 56 = .ok (.iload_n 1, 1) := by decide +kernel
theorem dX1_nest_57 : decode cX1_nest 57 = .ok (.iastore, 1) := by decide +kernel
theorem dX1_nest_58 : decode cX1_nest 58 = .ok (.aload_n 0, 1) := by decide +kernel
theorem dX1_nest_59 : decode cX1_nest 59 = .ok (.getfield 37, 3) := by decide +kernel
theorem dX1_nest_62 : decode cX1_nest 62 = .ok (.iload_n 3, 1) := by decide +kernel
theorem dX1_nest_63 : decode cX1_nest 63 = .ok (.iload_n 2, 1) := by decide +kernel
theorem dX1_nest_64 : decode cX1_nest 64 = .ok (.ifCond .le 7, 3) := by decide +kernel
theorem dX1_nest_67 : decode cX1_nest 67 = .ok (.iconst 1, 1) := by decide +kernel
theorem dX1_nest_68 : decode cX1_nest 68 = .ok (.goto 4, 3) := by decide +kernel
theorem dX1_nest_71 : decode cX1_nest 71 = .ok (.iconst 0, 1) := by decide +kernel
theorem dX1_nest_72 : decode cX1_nest 72 = .ok (.bastore, 1) := by decide +kernel
theorem dX1_nest_73 : decode cX1_nest 73 = .ok (.iload 4, 2) := by decide +kernel
theorem dX1_nest_75 : decode cX1_nest 75 = .ok (.iload_n 3, 1) := by decide +kernel
theorem dX1_nest_76 : decode cX1_nest 76 = .ok (.if_icmp .le 17, 3) := by decide +kernel
theorem dX1_nest_79 : decode cX1_nest 79 = .ok (.iinc 1 1, 3) := by decide +kernel
theorem dX1_nest_82 : decode cX1_nest 82 = .ok (.iload_n 2, 1) := by decide +kernel
theorem dX1_nest_83 : decode cX1_nest 83 = .ok (.aload_n 0, 1) := by decide +kernel
theorem dX1_nest_84 : decode cX1_nest 84 = .ok (.iload_n 3, 1) := by decide +kernel
theorem dX1_nest_85 : decode cX1_nest 85 = .ok (.invokevirtual 82, 3) := by decide +kernel
theorem dX1_nest_88 : decode cX1_nest 88 = .ok (.invokestatic 75, 3) := by decide +kernel
theorem dX1_nest_91 : decode cX1_nest 91 = .ok (.iadd, 1) := by decide +kernel
theorem dX1_nest_92 : decode cX1_nest 92 = .ok (.istore_n 2, 1) := by decide +kernel
theorem dX1_nest_93 : decode cX1_nest 93 = .ok (.iinc 3 1, 3) := by decide +kernel
theorem dX1_nest_96 : decode cX1_nest 96 = .ok (.goto (-90), 3) := by decide +kernel
theorem dX1_nest_99 : decode cX1_nest 99 = .ok (.return_, 1) := by decide +kernel
theorem dX1_isFolded_0 : decode cX1_isFolded 0 = .ok (.aload_n 0, 1) := by decide +kernel
theorem dX1_isFolded_1 : decode cX1_isFolded 1 = .ok (.getfield 18, 3) := by decide +kernel
theorem dX1_isFolded_4 : decode cX1_isFolded 4 = .ok (.iload_n 1, 1) := by decide +kernel
theorem dX1_isFolded_5 : decode cX1_isFolded 5 = .ok (.iaload, 1) := by decide +kernel
theorem dX1_isFolded_6 : decode cX1_isFolded 6 = .ok (.istore_n 2, 1) := by decide +kernel
theorem dX1_isFolded_7 : decode cX1_isFolded 7 = .ok (.iload_n 2, 1) := by decide +kernel
theorem dX1_isFolded_8 : decode cX1_isFolded 8 = .ok (.iload_n 1, 1) := by decide +kernel
theorem dX1_isFolded_9 : decode cX1_isFolded 9 = .ok (.if_icmp .le 33, 3) := by decide +kernel
theorem dX1_isFolded_12 : decode cX1_isFolded 12 = .ok (.aload_n 0, 1) := by decide +kernel
theorem dX1_isFolded_13 : decode cX1_isFolded 13 = .ok (.getfield 12, 3) := by decide +kernel
theorem dX1_isFolded_16 : decode cX1_isFolded 16 = .ok (.iload_n 1, 1) := by decide +kernel
theorem dX1_isFolded_17 : decode cX1_isFolded 17 = .ok (.invokevirtual 85, 3) := by decide +kernel
theorem dX1_isFolded_20 : decode cX1_isFolded 20 = .ok (.ifCond .eq 22, 3) := by decide +kernel
theorem dX1_isFolded_23 : decode cX1_isFolded 23 = .ok (.aload_n 0, 1) := by decide +kernel
theorem dX1_isFolded_24 : decode cX1_isFolded 24 = .ok (.getfield 31, 3) := by decide +kernel
theorem dX1_isFolded_27 : decode cX1_isFolded 27 = .ok (.iload_n 2, 1) := by decide +kernel
theorem dX1_isFolded_28 : decode cX1_isFolded 28 = .ok (.iaload, 1) := by decide +kernel
theorem dX1_isFolded_29 : decode cX1_isFolded 29 = .ok (.aload_n 0, 1) := by decide +kernel
theorem dX1_isFolded_30 : decode cX1_isFolded 30 = .ok (.getfield 31, 3) := by decide +kernel
theorem dX1_isFolded_33 : decode cX1_isFolded 33 = .ok (.iload_n 1, 1) := by decide +kernel
theorem dX1_isFolded_34 : decode cX1_isFolded 34 = .ok (.iaload, 1) := by decide +kernel
theorem dX1_isFolded_35 : decode cX1_isFolded 35 = .ok (.if_icmp .le 7, 3) := by decide +kernel
theorem dX1_isFolded_38 : decode cX1_isFolded 38 = .ok (.iconst 1, 1) := by decide +kernel
theorem dX1_isFolded_39 : decode cX1_isFolded 39 = .ok (.goto 4, 3) := by decide +kernel
theorem dX1_isFolded_42 : decode cX1_isFolded 42 = .ok (.iconst 0, 1) := by decide +kernel
theorem dX1_isFolded_43 : decode cX1_isFolded 43 = .ok (.ireturn, 1) := by decide +kernel
theorem dX1_isBare_0 : decode cX1_isBare 0 = .ok (.aload_n 0, 1) := by decide +kernel
theorem dX1_isBare_1 : decode cX1_isBare 1 = .ok (.getfield 12, 3) := by decide +kernel
theorem dX1_isBare_4 : decode cX1_isBare 4 = .ok (.iload_n 1, 1) := by decide +kernel
theorem dX1_isBare_5 : decode cX1_isBare 5 = .ok (.invokevirtual 55, 3) := by decide +kernel
theorem dX1_isBare_8 : decode cX1_isBare 8 = .ok (.invokestatic 69, 3) := by decide +kernel
theorem dX1_isBare_11 : decode cX1_isBare 11 = .ok (.ifCond .eq 18, 3) := by decide +kernel
theorem dX1_isBare_14 : decode cX1_isBare 14 = .ok (.aload_n 0, 1) := by decide +kernel
theorem dX1_isBare_15 : decode cX1_isBare 15 = .ok (.getfield 18, 3) := by decide +kernel
theorem dX1_isBare_18 : decode cX1_isBare 18 = .ok (.iload_n 1, 1) := by decide +kernel
theorem dX1_isBare_19 : decode cX1_isBare 19 = .ok (.iaload, 1) := by decide +kernel
theorem dX1_isBare_20 : decode cX1_isBare 20 = .ok (.bipush (-4), 2) := by decide +kernel
theorem dX1_isBare_22 : decode cX1_isBare 22 = .ok (.if_icmp .ne 7, 3) := by decide +kernel
theorem dX1_isBare_25 : decode cX1_isBare 25 = .ok (.iconst 1, 1) := by decide +kernel
theorem dX1_isBare_26 : decode cX1_isBare 26 = .ok (.goto 4, 3) := by decide +kernel
theorem dX1_isBare_29 : decode cX1_isBare 29 = .ok (.iconst 0, 1) := by decide +kernel
theorem dX1_isBare_30 : decode cX1_isBare 30 = .ok (.ireturn, 1) := by decide +kernel
theorem dX1_clashes_0 : decode cX1_clashes 0 = .ok (.aload_n 0, 1) := by decide +kernel
theorem dX1_clashes_1 : decode cX1_clashes 1 = .ok (.getfield 18, 3) := by decide +kernel
theorem dX1_clashes_4 : decode cX1_clashes 4 = .ok (.iload_n 1, 1) := by decide +kernel
theorem dX1_clashes_5 : decode cX1_clashes 5 = .ok (.iaload, 1) := by decide +kernel
theorem dX1_clashes_6 : decode cX1_clashes 6 = .ok (.istore_n 2, 1) := by decide +kernel
theorem dX1_clashes_7 : decode cX1_clashes 7 = .ok (.iload_n 2, 1) := by decide +kernel
theorem dX1_clashes_8 : decode cX1_clashes 8 = .ok (.ifCond .lt 32, 3) := by decide +kernel
theorem dX1_clashes_11 : decode cX1_clashes 11 = .ok (.aload_n 0, 1) := by decide +kernel
theorem dX1_clashes_12 : decode cX1_clashes 12 = .ok (.getfield 12, 3) := by decide +kernel
theorem dX1_clashes_15 : decode cX1_clashes 15 = .ok (.iload_n 1, 1) := by decide +kernel
theorem dX1_clashes_16 : decode cX1_clashes 16 = .ok (.invokevirtual 55, 3) := by decide +kernel
theorem dX1_clashes_19 : decode cX1_clashes 19 = .ok (.invokestatic 72, 3) := by decide +kernel
theorem dX1_clashes_22 : decode cX1_clashes 22 = .ok (.aload_n 0, 1) := by decide +kernel
theorem dX1_clashes_23 : decode cX1_clashes 23 = .ok (.getfield 12, 3) := by decide +kernel
theorem dX1_clashes_26 : decode cX1_clashes 26 = .ok (.iload_n 2, 1) := by decide +kernel
theorem dX1_clashes_27 : decode cX1_clashes 27 = .ok (.invokevirtual 55, 3) := by decide +kernel
theorem dX1_clashes_30 : decode cX1_clashes 30 = .ok (.invokestatic 72, 3) := by decide +kernel
theorem dX1_clashes_33 : decode cX1_clashes 33 = .ok (.if_icmp .eq 7, 3) := by decide +kernel
theorem dX1_clashes_36 : decode cX1_clashes 36 = .ok (.iconst 1, 1) := by decide +kernel
theorem dX1_clashes_37 : decode cX1_clashes 37 = .ok (.goto 4, 3) := by decide +kernel
theorem dX1_clashes_40 : decode cX1_clashes 40 = .ok (.iconst 0, 1) := by decide +kernel
theorem dX1_clashes_41 : decode cX1_clashes 41 = .ok (.ireturn, 1) := by decide +kernel
theorem dX1_tally_0 : decode cX1_tally 0 = .ok (.iconst 0, 1) := by decide +kernel
theorem dX1_tally_1 : decode cX1_tally 1 = .ok (.istore_n 2, 1) := by decide +kernel
theorem dX1_tally_2 : decode cX1_tally 2 = .ok (.iconst 0, 1) := by decide +kernel
theorem dX1_tally_3 : decode cX1_tally 3 = .ok (.istore_n 3, 1) := by decide +kernel
theorem dX1_tally_4 : decode cX1_tally 4 = .ok (.iload_n 3, 1) := by decide +kernel
theorem dX1_tally_5 : decode cX1_tally 5 = .ok (.aload_n 0, 1) := by decide +kernel
theorem dX1_tally_6 : decode cX1_tally 6 = .ok (.getfield 12, 3) := by decide +kernel
theorem dX1_tally_9 : decode cX1_tally 9 = .ok (.getfield 41, 3) := by decide +kernel
theorem dX1_tally_12 : decode cX1_tally 12 = .ok (.if_icmp .ge 21, 3) := by decide +kernel
theorem dX1_tally_15 : decode cX1_tally 15 = .ok (.iload_n 2, 1) := by decide +kernel
theorem dX1_tally_16 : decode cX1_tally 16 = .ok (.aload_n 0, 1) := by decide +kernel
theorem dX1_tally_17 : decode cX1_tally 17 = .ok (.iload_n 3, 1) := by decide +kernel
theorem dX1_tally_18 : decode cX1_tally 18 = .ok (.iload_n 1, 1) := by decide +kernel
theorem dX1_tally_19 : decode cX1_tally 19 = .ok (.invokevirtual 88, 3) := by decide +kernel
theorem dX1_tally_22 : decode cX1_tally 22 = .ok (.invokestatic 75, 3) := by decide +kernel
theorem dX1_tally_25 : decode cX1_tally 25 = .ok (.iadd, 1) := by decide +kernel
theorem dX1_tally_26 : decode cX1_tally 26 = .ok (.istore_n 2, 1) := by decide +kernel
theorem dX1_tally_27 : decode cX1_tally 27 = .ok (.iinc 3 1, 3) := by decide +kernel
theorem dX1_tally_30 : decode cX1_tally 30 = .ok (.goto (-26), 3) := by decide +kernel
theorem dX1_tally_33 : decode cX1_tally 33 = .ok (.iload_n 2, 1) := by decide +kernel
theorem dX1_tally_34 : decode cX1_tally 34 = .ok (.ireturn, 1) := by decide +kernel
theorem dX1_belongsTo_0 : decode cX1_belongsTo 0 = .ok (.iload_n 2, 1) := by decide +kernel
theorem dX1_belongsTo_1 : decode cX1_belongsTo 1 = .ok (.tableswitch 107 2 7 #[39, 55, 61, 85, 91, 98], 39) := by decide +kernel
theorem dX1_belongsTo_40 : decode cX1_belongsTo 40 = .ok (.aload_n 0, 1) := by decide +kernel
theorem dX1_belongsTo_41 : decode cX1_belongsTo 41 = .ok (.getfield 18, 3) := by decide +kernel
theorem dX1_belongsTo_44 : decode cX1_belongsTo 44 = .ok (.iload_n 1, 1) := by decide +kernel
theorem dX1_belongsTo_45 : decode cX1_belongsTo 45 = .ok (.iaload, 1) := by decide +kernel
theorem dX1_belongsTo_46 : decode cX1_belongsTo 46 = .ok (.iload_n 1, 1) := by decide +kernel
theorem dX1_belongsTo_47 : decode cX1_belongsTo 47 = .ok (.if_icmp .le 7, 3) := by decide +kernel
theorem dX1_belongsTo_50 : decode cX1_belongsTo 50 = .ok (.iconst 1, 1) := by decide +kernel
theorem dX1_belongsTo_51 : decode cX1_belongsTo 51 = .ok (.goto 4, 3) := by decide +kernel
theorem dX1_belongsTo_54 : decode cX1_belongsTo 54 = .ok (.iconst 0, 1) := by decide +kernel
theorem dX1_belongsTo_55 : decode cX1_belongsTo 55 = .ok (.ireturn, 1) := by decide +kernel
theorem dX1_belongsTo_56 : decode cX1_belongsTo 56 = .ok (.aload_n 0, 1) := by decide +kernel
theorem dX1_belongsTo_57 : decode cX1_belongsTo 57 = .ok (.iload_n 1, 1) := by decide +kernel
theorem dX1_belongsTo_58 : decode cX1_belongsTo 58 = .ok (.invokevirtual 91, 3) := by decide +kernel
theorem dX1_belongsTo_61 : decode cX1_belongsTo 61 = .ok (.ireturn, 1) := by decide +kernel
theorem dX1_belongsTo_62 : decode cX1_belongsTo 62 = .ok (.aload_n 0, 1) := by decide +kernel
theorem dX1_belongsTo_63 : decode cX1_belongsTo 63 = .ok (.getfield 18, 3) := by decide +kernel
theorem dX1_belongsTo_66 : decode cX1_belongsTo 66 = .ok (.iload_n 1, 1) := by decide +kernel
theorem dX1_belongsTo_67 : decode cX1_belongsTo 67 = .ok (.iaload, 1) := by decide +kernel
theorem dX1_belongsTo_68 : decode cX1_belongsTo 68 = .ok (.iload_n 1, 1) := by decide +kernel
theorem dX1_belongsTo_69 : decode cX1_belongsTo 69 = .ok (.if_icmp .le 15, 3) := by decide +kernel
theorem dX1_belongsTo_72 : decode cX1_belongsTo 72 = .ok (.aload_n 0, 1) := by decide +kernel
theorem dX1_belongsTo_73 : decode cX1_belongsTo 73 = .ok (.iload_n 1, 1) := by decide +kernel
theorem dX1_belongsTo_74 : decode cX1_belongsTo 74 = .ok (.invokevirtual 94, 3) := by decide +kernel
theorem dX1_belongsTo_77 : decode cX1_belongsTo 77 = .ok (.ifCond .eq 7, 3) := by decide +kernel
theorem dX1_belongsTo_80 : decode cX1_belongsTo 80 = .ok (.iconst 1, 1) := by decide +kernel
theorem dX1_belongsTo_81 : decode cX1_belongsTo 81 = .ok (.goto 4, 3) := by decide +kernel
theorem dX1_belongsTo_84 : decode cX1_belongsTo 84 = .ok (.iconst 0, 1) := by decide +kernel
theorem dX1_belongsTo_85 : decode cX1_belongsTo 85 = .ok (.ireturn, 1) := by decide +kernel
theorem dX1_belongsTo_86 : decode cX1_belongsTo 86 = .ok (.aload_n 0, 1) := by decide +kernel
theorem dX1_belongsTo_87 : decode cX1_belongsTo 87 = .ok (.iload_n 1, 1) := by decide +kernel
theorem dX1_belongsTo_88 : decode cX1_belongsTo 88 = .ok (.invokevirtual 82, 3) := by decide +kernel
theorem dX1_belongsTo_91 : decode cX1_belongsTo 91 = .ok (.ireturn, 1) := by decide +kernel
theorem dX1_belongsTo_92 : decode cX1_belongsTo 92 = .ok (.aload_n 0, 1) := by decide +kernel
theorem dX1_belongsTo_93 : decode cX1_belongsTo 93 = .ok (.getfield 37, 3) := by decide +kernel
theorem dX1_belongsTo_96 : decode cX1_belongsTo 96 = .ok (.iload_n 1, 1) := by decide +kernel
theorem dX1_belongsTo_97 : decode cX1_belongsTo 97 = .ok (.baload, 1) := by decide +kernel
theorem dX1_belongsTo_98 : decode cX1_belongsTo 98 = .ok (.ireturn, 1) := by decide +kernel
theorem dX1_belongsTo_99 : decode cX1_belongsTo 99 = .ok (.aload_n 0, 1) := by decide +kernel
theorem dX1_belongsTo_100 : decode cX1_belongsTo 100 = .ok (.getfield 12, 3) := by decide +kernel
theorem dX1_belongsTo_103 : decode cX1_belongsTo 103 = .ok (.iload_n 1, 1) := by decide +kernel
theorem dX1_belongsTo_104 : decode cX1_belongsTo 104 = .ok (.invokevirtual 85, 3) := by decide +kernel
theorem dX1_belongsTo_107 : decode cX1_belongsTo 107 = .ok (.ireturn, 1) := by decide +kernel
theorem dX1_belongsTo_108 : decode cX1_belongsTo 108 = .ok (.iconst 0, 1) := by decide +kernel
theorem dX1_belongsTo_109 : decode cX1_belongsTo 109 = .ok (.ireturn, 1) := by decide +kernel
theorem dX1_greatestLevel_0 : decode cX1_greatestLevel 0 = .ok (.iconst 0, 1) := by decide +kernel
theorem dX1_greatestLevel_1 : decode cX1_greatestLevel 1 = .ok (.istore_n 1, 1) := by decide +kernel
theorem dX1_greatestLevel_2 : decode cX1_greatestLevel 2 = .ok (.iconst 0, 1) := by decide +kernel
theorem dX1_greatestLevel_3 : decode cX1_greatestLevel 3 = .ok (.istore_n 2, 1) := by decide +kernel
theorem dX1_greatestLevel_4 : decode cX1_greatestLevel 4 = .ok (.iload_n 2, 1) := by decide +kernel
theorem dX1_greatestLevel_5 : decode cX1_greatestLevel 5 = .ok (.aload_n 0, 1) := by decide +kernel
theorem dX1_greatestLevel_6 : decode cX1_greatestLevel 6 = .ok (.getfield 12, 3) := by decide +kernel
theorem dX1_greatestLevel_9 : decode cX1_greatestLevel 9 = .ok (.getfield 41, 3) := by decide +kernel
theorem dX1_greatestLevel_12 : decode cX1_greatestLevel 12 = .ok (.if_icmp .ge 20, 3) := by decide +kernel
theorem dX1_greatestLevel_15 : decode cX1_greatestLevel 15 = .ok (.iload_n 1, 1) := by decide +kernel
theorem dX1_greatestLevel_16 : decode cX1_greatestLevel 16 = .ok (.aload_n 0, 1) := by decide +kernel
theorem dX1_greatestLevel_17 : decode cX1_greatestLevel 17 = .ok (.getfield 34, 3) := by decide +kernel
theorem dX1_greatestLevel_20 : decode cX1_greatestLevel 20 = .ok (.iload_n 2, 1) := by decide +kernel
theorem dX1_greatestLevel_21 : decode cX1_greatestLevel 21 = .ok (.iaload, 1) := by decide +kernel
theorem dX1_greatestLevel_22 : decode cX1_greatestLevel 22 = .ok (.invokestatic 97, 3) := by decide +kernel
theorem dX1_greatestLevel_25 : decode cX1_greatestLevel 25 = .ok (.istore_n 1, 1) := by decide +kernel
theorem dX1_greatestLevel_26 : decode cX1_greatestLevel 26 = .ok (.iinc 2 1, 3) := by decide +kernel
theorem dX1_greatestLevel_29 : decode cX1_greatestLevel 29 = .ok (.goto (-25), 3) := by decide +kernel
theorem dX1_greatestLevel_32 : decode cX1_greatestLevel 32 = .ok (.iload_n 1, 1) := by decide +kernel
theorem dX1_greatestLevel_33 : decode cX1_greatestLevel 33 = .ok (.ireturn, 1) := by decide +kernel
theorem dX1_leastDepth_0 : decode cX1_leastDepth 0 = .ok (.aload_n 0, 1) := by decide +kernel
theorem dX1_leastDepth_1 : decode cX1_leastDepth 1 = .ok (.getfield 28, 3) := by decide +kernel
theorem dX1_leastDepth_4 : decode cX1_leastDepth 4 = .ok (.iload_n 1, 1) := by decide +kernel
theorem dX1_leastDepth_5 : decode cX1_leastDepth 5 = .ok (.iaload, 1) := by decide +kernel
theorem dX1_leastDepth_6 : decode cX1_leastDepth 6 = .ok (.istore_n 3, 1) := by decide +kernel
theorem dX1_leastDepth_7 : decode cX1_leastDepth 7 = .ok (.iload_n 1, 1) := by decide +kernel
theorem dX1_leastDepth_8 : decode cX1_leastDepth 8 = .ok (.istore 4, 2) := by decide +kernel
theorem dX1_leastDepth_10 : decode cX1_leastDepth 10 = .ok (.iload 4, 2) := by decide +kernel
theorem dX1_leastDepth_12 : decode cX1_leastDepth 12 = .ok (.iload_n 2, 1) := by decide +kernel
theorem dX1_leastDepth_13 : decode cX1_leastDepth 13 = .ok (.if_icmp .gt 21, 3) := by decide +kernel
theorem dX1_leastDepth_16 : decode cX1_leastDepth 16 = .ok (.iload_n 3, 1) := by decide +kernel
theorem dX1_leastDepth_17 : decode cX1_leastDepth 17 = .ok (.aload_n 0, 1) := by decide +kernel
theorem dX1_leastDepth_18 : decode cX1_leastDepth 18 = .ok (.getfield 28, 3) := by decide +kernel
theorem dX1_leastDepth_21 : decode cX1_leastDepth 21 = .ok (.iload 4, 2) := by decide +kernel
theorem dX1_leastDepth_23 : decode cX1_leastDepth 23 = .ok (.iaload, 1) := by decide +kernel
theorem dX1_leastDepth_24 : decode cX1_leastDepth 24 = .ok (.invokestatic 103, 3) := by decide +kernel
theorem dX1_leastDepth_27 : decode cX1_leastDepth 27 = .ok (.istore_n 3, 1) := by decide +kernel
theorem dX1_leastDepth_28 : decode cX1_leastDepth 28 = .ok (.iinc 4 1, 3) := by decide +kernel
theorem dX1_leastDepth_31 : decode cX1_leastDepth 31 = .ok (.goto (-21), 3) := by decide +kernel
theorem dX1_leastDepth_34 : decode cX1_leastDepth 34 = .ok (.iload_n 3, 1) := by decide +kernel
theorem dX1_leastDepth_35 : decode cX1_leastDepth 35 = .ok (.ireturn, 1) := by decide +kernel
theorem dX1_innermostAround_0 : decode cX1_innermostAround 0 = .ok (.iload_n 2, 1) := by decide +kernel
theorem dX1_innermostAround_1 : decode cX1_innermostAround 1 = .ok (.iconst 3, 1) := by decide +kernel
theorem dX1_innermostAround_2 : decode cX1_innermostAround 2 = .ok (.if_icmp .ne 10, 3) := by decide +kernel
theorem dX1_innermostAround_5 : decode cX1_innermostAround 5 = .ok (.aload_n 0, 1) := by decide +kernel
theorem dX1_innermostAround_6 : decode cX1_innermostAround 6 = .ok (.getfield 18, 3) := by decide +kernel
theorem dX1_innermostAround_9 : decode cX1_innermostAround 9 = .ok (.goto 7, 3) := by decide +kernel
theorem dX1_innermostAround_12 : decode cX1_innermostAround 12 = .ok (.aload_n 0, 1) := by decide +kernel
theorem dX1_innermostAround_13 : decode cX1_innermostAround 13 = .ok (.getfield 22, 3) := by decide +kernel
theorem dX1_innermostAround_16 : decode cX1_innermostAround 16 = .ok (.astore_n 3, 1) := by decide +kernel
theorem dX1_innermostAround_17 : decode cX1_innermostAround 17 = .ok (.iload_n 1, 1) := by decide +kernel
theorem dX1_innermostAround_18 : decode cX1_innermostAround 18 = .ok (.iconst 1, 1) := by decide +kernel
theorem dX1_innermostAround_19 : decode cX1_innermostAround 19 = .ok (.isub, 1) := by decide +kernel
theorem dX1_innermostAround_20 : decode cX1_innermostAround 20 = .ok (.istore 4, 2) := by decide +kernel
theorem dX1_innermostAround_22 : decode cX1_innermostAround 22 = .ok (.iload 4, 2) := by decide +kernel
theorem dX1_innermostAround_24 : decode cX1_innermostAround 24 = .ok (.ifCond .lt 36, 3) := by decide +kernel
theorem dX1_innermostAround_27 : decode cX1_innermostAround 27 = .ok (.aload_n 0, 1) := by decide +kernel
theorem dX1_innermostAround_28 : decode cX1_innermostAround 28 = .ok (.getfield 12, 3) := by decide +kernel
theorem dX1_innermostAround_31 : decode cX1_innermostAround 31 = .ok (.iload 4, 2) := by decide +kernel
theorem dX1_innermostAround_33 : decode cX1_innermostAround 33 = .ok (.invokevirtual 55, 3) := by decide +kernel
theorem dX1_innermostAround_36 : decode cX1_innermostAround 36 = .ok (.iload_n 2, 1) := by decide +kernel
theorem dX1_innermostAround_37 : decode cX1_innermostAround 37 = .ok (.invokestatic 59, 3) := by decide +kernel
theorem dX1_innermostAround_40 : decode cX1_innermostAround 40 = .ok (.ifCond .eq 14, 3) := by decide +kernel
theorem dX1_innermostAround_43 : decode cX1_innermostAround 43 = .ok (.aload_n 3, 1) := by decide +kernel
theorem dX1_innermostAround_44 : decode cX1_innermostAround 44 = .ok (.iload 4, 2) := by decide +kernel
theorem dX1_innermostAround_46 : decode cX1_innermostAround 46 = .ok (.iaload, 1) := by decide +kernel
theorem dX1_innermostAround_47 : decode cX1_innermostAround 47 = .ok (.iload_n 1, 1) := by decide +kernel
theorem dX1_innermostAround_48 : decode cX1_innermostAround 48 = .ok (.if_icmp .le 6, 3) := by decide +kernel
theorem dX1_innermostAround_51 : decode cX1_innermostAround 51 = .ok (.iload 4, 2) := by decide +kernel
theorem dX1_innermostAround_53 : decode cX1_innermostAround 53 = .ok (.ireturn, 1) := by decide +kernel
theorem dX1_innermostAround_54 : decode cX1_innermostAround 54 = .ok (.iinc 4 (-1), 3) := by decide +kernel
theorem dX1_innermostAround_57 : decode cX1_innermostAround 57 = .ok (.goto (-35), 3) := by decide +kernel
theorem dX1_innermostAround_60 : decode cX1_innermostAround 60 = .ok (.bipush (-4), 2) := by decide +kernel
theorem dX1_innermostAround_62 : decode cX1_innermostAround 62 = .ok (.ireturn, 1) := by decide +kernel
theorem dX1_wholeTill_0 : decode cX1_wholeTill 0 = .ok (.iload_n 1, 1) := by decide +kernel
theorem dX1_wholeTill_1 : decode cX1_wholeTill 1 = .ok (.istore_n 2, 1) := by decide +kernel
theorem dX1_wholeTill_2 : decode cX1_wholeTill 2 = .ok (.iload_n 2, 1) := by decide +kernel
theorem dX1_wholeTill_3 : decode cX1_wholeTill 3 = .ok (.aload_n 0, 1) := by decide +kernel
theorem dX1_wholeTill_4 : decode cX1_wholeTill 4 = .ok (.getfield 12, 3) := by decide +kernel
theorem dX1_wholeTill_7 : decode cX1_wholeTill 7 = .ok (.getfield 41, 3) := by decide +kernel
theorem dX1_wholeTill_10 : decode cX1_wholeTill 10 = .ok (.if_icmp .ge 35, 3) := by decide +kernel
theorem dX1_wholeTill_13 : decode cX1_wholeTill 13 = .ok (.aload_n 0, 1) := by decide +kernel
theorem dX1_wholeTill_14 : decode cX1_wholeTill 14 = .ok (.getfield 12, 3) := by decide +kernel
theorem dX1_wholeTill_17 : decode cX1_wholeTill 17 = .ok (.iload_n 2, 1) := by decide +kernel
theorem dX1_wholeTill_18 : decode cX1_wholeTill 18 = .ok (.invokevirtual 55, 3) := by decide +kernel
theorem dX1_wholeTill_21 : decode cX1_wholeTill 21 = .ok (.invokestatic 69, 3) := by decide +kernel
theorem dX1_wholeTill_24 : decode cX1_wholeTill 24 = .ok (.ifCond .eq 15, 3) := by decide +kernel
theorem dX1_wholeTill_27 : decode cX1_wholeTill 27 = .ok (.aload_n 0, 1) := by decide +kernel
theorem dX1_wholeTill_28 : decode cX1_wholeTill 28 = .ok (.getfield 18, 3) := by decide +kernel
theorem dX1_wholeTill_31 : decode cX1_wholeTill 31 = .ok (.iload_n 2, 1) := by decide +kernel
theorem dX1_wholeTill_32 : decode cX1_wholeTill 32 = .ok (.iaload, 1) := by decide +kernel
theorem dX1_wholeTill_33 : decode cX1_wholeTill 33 = .ok (.iload_n 1, 1) := by decide +kernel
theorem dX1_wholeTill_34 : decode cX1_wholeTill 34 = .ok (.if_icmp .ge 5, 3) := by decide +kernel
theorem dX1_wholeTill_37 : decode cX1_wholeTill 37 = .ok (.iload_n 2, 1) := by decide +kernel
theorem dX1_wholeTill_38 : decode cX1_wholeTill 38 = .ok (.ireturn, 1) := by decide +kernel
theorem dX1_wholeTill_39 : decode cX1_wholeTill 39 = .ok (.iinc 2 1, 3) := by decide +kernel
theorem dX1_wholeTill_42 : decode cX1_wholeTill 42 = .ok (.goto (-40), 3) := by decide +kernel
theorem dX1_wholeTill_45 : decode cX1_wholeTill 45 = .ok (.aload_n 0, 1) := by decide +kernel
theorem dX1_wholeTill_46 : decode cX1_wholeTill 46 = .ok (.getfield 12, 3) := by decide +kernel
theorem dX1_wholeTill_49 : decode cX1_wholeTill 49 = .ok (.getfield 41, 3) := by decide +kernel
theorem dX1_wholeTill_52 : decode cX1_wholeTill 52 = .ok (.ireturn, 1) := by decide +kernel
theorem dX1_longestFrom_0 : decode cX1_longestFrom 0 = .ok (.iconst 0, 1) := by decide +kernel
theorem dX1_longestFrom_1 : decode cX1_longestFrom 1 = .ok (.istore_n 1, 1) := by decide +kernel
theorem dX1_longestFrom_2 : decode cX1_longestFrom 2 = .ok (.iconst 0, 1) := by decide +kernel
theorem dX1_longestFrom_3 : decode cX1_longestFrom 3 = .ok (.istore_n 2, 1) := by decide +kernel
theorem dX1_longestFrom_4 : decode cX1_longestFrom 4 = .ok (.iconst 0, 1) := by decide +kernel
theorem dX1_longestFrom_5 : decode cX1_longestFrom 5 = .ok (.istore_n 3, 1) := by decide +kernel
theorem dX1_longestFrom_6 : decode cX1_longestFrom 6 = .ok (.iload_n 3, 1) := by decide +kernel
theorem dX1_longestFrom_7 : decode cX1_longestFrom 7 = .ok (.aload_n 0, 1) := by decide +kernel
theorem dX1_longestFrom_8 : decode cX1_longestFrom 8 = .ok (.getfield 12, 3) := by decide +kernel
theorem dX1_longestFrom_11 : decode cX1_longestFrom 11 = .ok (.getfield 41, 3) := by decide +kernel
theorem dX1_longestFrom_14 : decode cX1_longestFrom 14 = .ok (.if_icmp .ge 29, 3) := by decide +kernel
theorem dX1_longestFrom_17 : decode cX1_longestFrom 17 = .ok (.aload_n 0, 1) := by decide +kernel
theorem dX1_longestFrom_18 : decode cX1_longestFrom 18 = .ok (.iload_n 3, 1) := by decide +kernel
theorem dX1_longestFrom_19 : decode cX1_longestFrom 19 = .ok (.invokevirtual 106, 3) := by decide +kernel
theorem dX1_longestFrom_22 : decode cX1_longestFrom 22 = .ok (.iload_n 3, 1) := by decide +kernel
theorem dX1_longestFrom_23 : decode cX1_longestFrom 23 = .ok (.isub, 1) := by decide +kernel
theorem dX1_longestFrom_24 : decode cX1_longestFrom 24 = .ok (.istore 4, 2) := by decide +kernel
theorem dX1_longestFrom_26 : decode cX1_longestFrom 26 = .ok (.iload 4, 2) := by decide +kernel
theorem dX1_longestFrom_28 : decode cX1_longestFrom 28 = .ok (.iload_n 2, 1) := by decide +kernel
theorem dX1_longestFrom_29 : decode cX1_longestFrom 29 = .ok (.if_icmp .le 8, 3) := by decide +kernel
theorem dX1_longestFrom_32 : decode cX1_longestFrom 32 = .ok (.iload_n 3, 1) := by decide +kernel
theorem dX1_longestFrom_33 : decode cX1_longestFrom 33 = .ok (.istore_n 1, 1) := by decide +kernel
theorem dX1_longestFrom_34 : decode cX1_longestFrom 34 = .ok (.iload 4, 2) := by decide +kernel
theorem dX1_longestFrom_36 : decode cX1_longestFrom 36 = .ok (.istore_n 2, 1) := by decide +kernel
theorem dX1_longestFrom_37 : decode cX1_longestFrom 37 = .ok (.iinc 3 1, 3) := by decide +kernel
theorem dX1_longestFrom_40 : decode cX1_longestFrom 40 = .ok (.goto (-34), 3) := by decide +kernel
theorem dX1_longestFrom_43 : decode cX1_longestFrom 43 = .ok (.iload_n 1, 1) := by decide +kernel
theorem dX1_longestFrom_44 : decode cX1_longestFrom 44 = .ok (.ireturn, 1) := by decide +kernel
theorem dX1_nextBare_0 : decode cX1_nextBare 0 = .ok (.iload_n 1, 1) := by decide +kernel
theorem dX1_nextBare_1 : decode cX1_nextBare 1 = .ok (.istore_n 2, 1) := by decide +kernel
theorem dX1_nextBare_2 : decode cX1_nextBare 2 = .ok (.iload_n 2, 1) := by decide +kernel
theorem dX1_nextBare_3 : decode cX1_nextBare 3 = .ok (.aload_n 0, 1) := by decide +kernel
theorem dX1_nextBare_4 : decode cX1_nextBare 4 = .ok (.getfield 12, 3) := by decide +kernel
theorem dX1_nextBare_7 : decode cX1_nextBare 7 = .ok (.getfield 41, 3) := by decide +kernel
theorem dX1_nextBare_10 : decode cX1_nextBare 10 = .ok (.if_icmp .ge 19, 3) := by decide +kernel
theorem dX1_nextBare_13 : decode cX1_nextBare 13 = .ok (.aload_n 0, 1) := by decide +kernel
theorem dX1_nextBare_14 : decode cX1_nextBare 14 = .ok (.iload_n 2, 1) := by decide +kernel
theorem dX1_nextBare_15 : decode cX1_nextBare 15 = .ok (.invokevirtual 91, 3) := by decide +kernel
theorem dX1_nextBare_18 : decode cX1_nextBare 18 = .ok (.ifCond .eq 5, 3) := by decide +kernel
theorem dX1_nextBare_21 : decode cX1_nextBare 21 = .ok (.iload_n 2, 1) := by decide +kernel
theorem dX1_nextBare_22 : decode cX1_nextBare 22 = .ok (.ireturn, 1) := by decide +kernel
theorem dX1_nextBare_23 : decode cX1_nextBare 23 = .ok (.iinc 2 1, 3) := by decide +kernel
theorem dX1_nextBare_26 : decode cX1_nextBare 26 = .ok (.goto (-24), 3) := by decide +kernel
theorem dX1_nextBare_29 : decode cX1_nextBare 29 = .ok (.bipush (-4), 2) := by decide +kernel
theorem dX1_nextBare_31 : decode cX1_nextBare 31 = .ok (.ireturn, 1) := by decide +kernel
theorem dX1_lastBare_0 : decode cX1_lastBare 0 = .ok (.iload_n 1, 1) := by decide +kernel
theorem dX1_lastBare_1 : decode cX1_lastBare 1 = .ok (.iconst 1, 1) := by decide +kernel
theorem dX1_lastBare_2 : decode cX1_lastBare 2 = .ok (.isub, 1) := by decide +kernel
theorem dX1_lastBare_3 : decode cX1_lastBare 3 = .ok (.istore_n 2, 1) := by decide +kernel
theorem dX1_lastBare_4 : decode cX1_lastBare 4 = .ok (.iload_n 2, 1) := by decide +kernel
theorem dX1_lastBare_5 : decode cX1_lastBare 5 = .ok (.ifCond .lt 19, 3) := by decide +kernel
theorem dX1_lastBare_8 : decode cX1_lastBare 8 = .ok (.aload_n 0, 1) := by decide +kernel
theorem dX1_lastBare_9 : decode cX1_lastBare 9 = .ok (.iload_n 2, 1) := by decide +kernel
theorem dX1_lastBare_10 : decode cX1_lastBare 10 = .ok (.invokevirtual 91, 3) := by decide +kernel
theorem dX1_lastBare_13 : decode cX1_lastBare 13 = .ok (.ifCond .eq 5, 3) := by decide +kernel
theorem dX1_lastBare_16 : decode cX1_lastBare 16 = .ok (.iload_n 2, 1) := by decide +kernel
theorem dX1_lastBare_17 : decode cX1_lastBare 17 = .ok (.ireturn, 1) := by decide +kernel
theorem dX1_lastBare_18 : decode cX1_lastBare 18 = .ok (.iinc 2 (-1), 3) := by decide +kernel
theorem dX1_lastBare_21 : decode cX1_lastBare 21 = .ok (.goto (-17), 3) := by decide +kernel
theorem dX1_lastBare_24 : decode cX1_lastBare 24 = .ok (.bipush (-4), 2) := by decide +kernel
theorem dX1_lastBare_26 : decode cX1_lastBare 26 = .ok (.ireturn, 1) := by decide +kernel
theorem dX1_seenAt_0 : decode cX1_seenAt 0 = .ok (.iconst 0, 1) := by decide +kernel
theorem dX1_seenAt_1 : decode cX1_seenAt 1 = .ok (.istore_n 2, 1) := by decide +kernel
theorem dX1_seenAt_2 : decode cX1_seenAt 2 = .ok (.iconst 0, 1) := by decide +kernel
theorem dX1_seenAt_3 : decode cX1_seenAt 3 = .ok (.istore_n 3, 1) := by decide +kernel
theorem dX1_seenAt_4 : decode cX1_seenAt 4 = .ok (.iload_n 3, 1) := by decide +kernel
theorem dX1_seenAt_5 : decode cX1_seenAt 5 = .ok (.aload_n 0, 1) := by decide +kernel
theorem dX1_seenAt_6 : decode cX1_seenAt 6 = .ok (.getfield 12, 3) := by decide +kernel
theorem dX1_seenAt_9 : decode cX1_seenAt 9 = .ok (.getfield 41, 3) := by decide +kernel
theorem dX1_seenAt_12 : decode cX1_seenAt 12 = .ok (.if_icmp .ge 28, 3) := by decide +kernel
theorem dX1_seenAt_15 : decode cX1_seenAt 15 = .ok (.aload_n 0, 1) := by decide +kernel
theorem dX1_seenAt_16 : decode cX1_seenAt 16 = .ok (.getfield 37, 3) := by decide +kernel
theorem dX1_seenAt_19 : decode cX1_seenAt 19 = .ok (.iload_n 3, 1) := by decide +kernel
theorem dX1_seenAt_20 : decode cX1_seenAt 20 = .ok (.baload, 1) := by decide +kernel
theorem dX1_seenAt_21 : decode cX1_seenAt 21 = .ok (.ifCond .ne 13, 3) := by decide +kernel
theorem dX1_seenAt_24 : decode cX1_seenAt 24 = .ok (.iload_n 2, 1) := by decide +kernel
theorem dX1_seenAt_25 : decode cX1_seenAt 25 = .ok (.iload_n 1, 1) := by decide +kernel
theorem dX1_seenAt_26 : decode cX1_seenAt 26 = .ok (.if_icmp .ne 5, 3) := by decide +kernel
theorem dX1_seenAt_29 : decode cX1_seenAt 29 = .ok (.iload_n 3, 1) := by decide +kernel
theorem dX1_seenAt_30 : decode cX1_seenAt 30 = .ok (.ireturn, 1) := by decide +kernel
theorem dX1_seenAt_31 : decode cX1_seenAt 31 = .ok (.iinc 2 1, 3) := by decide +kernel
theorem dX1_seenAt_34 : decode cX1_seenAt 34 = .ok (.iinc 3 1, 3) := by decide +kernel
theorem dX1_seenAt_37 : decode cX1_seenAt 37 = .ok (.goto (-33), 3) := by decide +kernel
theorem dX1_seenAt_40 : decode cX1_seenAt 40 = .ok (.bipush (-4), 2) := by decide +kernel
theorem dX1_seenAt_42 : decode cX1_seenAt 42 = .ok (.ireturn, 1) := by decide +kernel
theorem dX2_init_0 : decode cX2_init 0 = .ok (.aload_n 0, 1) := by decide +kernel
theorem dX2_init_1 : decode cX2_init 1 = .ok (.invokespecial 3, 3) := by decide +kernel
theorem dX2_init_4 : decode cX2_init 4 = .ok (.aload_n 0, 1) := by decide +kernel
theorem dX2_init_5 : decode cX2_init 5 = .ok (.bipush 21, 2) := by decide +kernel
theorem dX2_init_7 : decode cX2_init 7 = .ok (.anewarray 11, 3) := by decide +kernel
theorem dX2_init_10 : decode cX2_init 10 = .ok (.putfield 13, 3) := by decide +kernel
theorem dX2_init_13 : decode cX2_init 13 = .ok (.iconst 0, 1) := by decide +kernel
theorem dX2_init_14 : decode cX2_init 14 = .ok (.istore_n 1, 1) := by decide +kernel
theorem dX2_init_15 : decode cX2_init 15 = .ok (.iload_n 1, 1) := by decide +kernel
theorem dX2_init_16 : decode cX2_init 16 = .ok (.bipush 21, 2) := by decide +kernel
theorem dX2_init_18 : decode cX2_init 18 = .ok (.if_icmp .ge 22, 3) := by decide +kernel
theorem dX2_init_21 : decode cX2_init 21 = .ok (.aload_n 0, 1) := by decide +kernel
theorem dX2_init_22 : decode cX2_init 22 = .ok (.getfield 13, 3) := by decide +kernel
theorem dX2_init_25 : decode cX2_init 25 = .ok (.iload_n 1, 1) := by decide +kernel
theorem dX2_init_26 : decode cX2_init 26 = .ok (.new 11, 3) := by decide +kernel
theorem dX2_init_29 : decode cX2_init 29 = .ok (.dup, 1) := by decide +kernel
theorem dX2_init_30 : decode cX2_init 30 = .ok (.invokespecial 17, 3) := by decide +kernel
theorem dX2_init_33 : decode cX2_init 33 = .ok (.aastore, 1) := by decide +kernel
theorem dX2_init_34 : decode cX2_init 34 = .ok (.iinc 1 1, 3) := by decide +kernel
theorem dX2_init_37 : decode cX2_init 37 = .ok (.goto (-22), 3) := by decide +kernel
theorem dX2_init_40 : decode cX2_init 40 = .ok (.return_, 1) := by decide +kernel
theorem dX2_add_0 : decode cX2_add 0 = .ok (.aload_n 0, 1) := by decide +kernel
theorem dX2_add_1 : decode cX2_add 1 = .ok (.iconst 0, 1) := by decide +kernel
theorem dX2_add_2 : decode cX2_add 2 = .ok (.putfield 18, 3) := by decide +kernel
theorem dX2_add_5 : decode cX2_add 5 = .ok (.aload_n 0, 1) := by decide +kernel
theorem dX2_add_6 : decode cX2_add 6 = .ok (.getfield 22, 3) := by decide +kernel
theorem dX2_add_9 : decode cX2_add 9 = .ok (.bipush 20, 2) := by decide +kernel
theorem dX2_add_11 : decode cX2_add 11 = .ok (.if_icmp .ge 16, 3) := by decide +kernel
theorem dX2_add_14 : decode cX2_add 14 = .ok (.aload_n 0, 1) := by decide +kernel
theorem dX2_add_15 : decode cX2_add 15 = .ok (.dup, 1) := by decide +kernel
theorem dX2_add_16 : decode cX2_add 16 = .ok (.getfield 22, 3) := by decide +kernel
theorem dX2_add_19 : decode cX2_add 19 = .ok (.iconst 1, 1) := by decide +kernel
theorem dX2_add_20 : decode cX2_add 20 = .ok (.iadd, 1) := by decide +kernel
theorem dX2_add_21 : decode cX2_add 21 = .ok (.putfield 22, 3) := by decide +kernel
theorem dX2_add_24 : decode cX2_add 24 = .ok (.goto 16, 3) := by decide +kernel
theorem dX2_add_27 : decode cX2_add 27 = .ok (.aload_n 0, 1) := by decide +kernel
theorem dX2_add_28 : decode cX2_add 28 = .ok (.aload_n 0, 1) := by decide +kernel
theorem dX2_add_29 : decode cX2_add 29 = .ok (.getfield 25, 3) := by decide +kernel
theorem dX2_add_32 : decode cX2_add 32 = .ok (.iconst 1, 1) := by decide +kernel
theorem dX2_add_33 : decode cX2_add 33 = .ok (.iadd, 1) := by decide +kernel
theorem dX2_add_34 : decode cX2_add 34 = .ok (.bipush 21, 2) := by decide +kernel
theorem dX2_add_36 : decode cX2_add 36 = .ok (.irem, 1) := by decide +kernel
theorem dX2_add_37 : decode cX2_add 37 = .ok (.putfield 25, 3) := by decide +kernel
theorem dX2_add_40 : decode cX2_add 40 = .ok (.aload_n 0, 1) := by decide +kernel
theorem dX2_add_41 : decode cX2_add 41 = .ok (.invokevirtual 28, 3) := by decide +kernel
theorem dX2_add_44 : decode cX2_add 44 = .ok (.aload_n 1, 1) := by decide +kernel
theorem dX2_add_45 : decode cX2_add 45 = .ok (.invokevirtual 32, 3) := by decide +kernel
theorem dX2_add_48 : decode cX2_add 48 = .ok (.return_, 1) := by decide +kernel
theorem dX2_restart_0 : decode cX2_restart 0 = .ok (.aload_n 0, 1) := by decide +kernel
theorem dX2_restart_1 : decode cX2_restart 1 = .ok (.iconst 0, 1) := by decide +kernel
theorem dX2_restart_2 : decode cX2_restart 2 = .ok (.putfield 22, 3) := by decide +kernel
theorem dX2_restart_5 : decode cX2_restart 5 = .ok (.aload_n 0, 1) := by decide +kernel
theorem dX2_restart_6 : decode cX2_restart 6 = .ok (.iconst 0, 1) := by decide +kernel
theorem dX2_restart_7 : decode cX2_restart 7 = .ok (.putfield 18, 3) := by decide +kernel
theorem dX2_restart_10 : decode cX2_restart 10 = .ok (.aload_n 0, 1) := by decide +kernel
theorem dX2_restart_11 : decode cX2_restart 11 = .ok (.invokevirtual 28, 3) := by decide +kernel
theorem dX2_restart_14 : decode cX2_restart 14 = .ok (.aload_n 1, 1) := by decide +kernel
theorem dX2_restart_15 : decode cX2_restart 15 = .ok (.invokevirtual 32, 3) := by decide +kernel
theorem dX2_restart_18 : decode cX2_restart 18 = .ok (.return_, 1) := by decide +kernel
theorem dX2_stepBack_0 : decode cX2_stepBack 0 = .ok (.aload_n 0, 1) := by decide +kernel
theorem dX2_stepBack_1 : decode cX2_stepBack 1 = .ok (.dup, 1) := by decide +kernel
theorem dX2_stepBack_2 : decode cX2_stepBack 2 = .ok (.getfield 22, 3) := by decide +kernel
theorem dX2_stepBack_5 : decode cX2_stepBack 5 = .ok (.iconst 1, 1) := by decide +kernel
theorem dX2_stepBack_6 : decode cX2_stepBack 6 = .ok (.isub, 1) := by decide +kernel
theorem dX2_stepBack_7 : decode cX2_stepBack 7 = .ok (.putfield 22, 3) := by decide +kernel
theorem dX2_stepBack_10 : decode cX2_stepBack 10 = .ok (.aload_n 0, 1) := by decide +kernel
theorem dX2_stepBack_11 : decode cX2_stepBack 11 = .ok (.dup, 1) := by decide +kernel
theorem dX2_stepBack_12 : decode cX2_stepBack 12 = .ok (.getfield 18, 3) := by decide +kernel
theorem dX2_stepBack_15 : decode cX2_stepBack 15 = .ok (.iconst 1, 1) := by decide +kernel
theorem dX2_stepBack_16 : decode cX2_stepBack 16 = .ok (.iadd, 1) := by decide +kernel
theorem dX2_stepBack_17 : decode cX2_stepBack 17 = .ok (.putfield 18, 3) := by decide +kernel
theorem dX2_stepBack_20 : decode cX2_stepBack 20 = .ok (.aload_n 0, 1) := by decide +kernel
theorem dX2_stepBack_21 : decode cX2_stepBack 21 = .ok (.invokevirtual 28, 3) := by decide +kernel
theorem dX2_stepBack_24 : decode cX2_stepBack 24 = .ok (.areturn, 1) := by decide +kernel
theorem dX2_stepOn_0 : decode cX2_stepOn 0 = .ok (.aload_n 0, 1) := by decide +kernel
theorem dX2_stepOn_1 : decode cX2_stepOn 1 = .ok (.dup, 1) := by decide +kernel
theorem dX2_stepOn_2 : decode cX2_stepOn 2 = .ok (.getfield 22, 3) := by decide +kernel
theorem dX2_stepOn_5 : decode cX2_stepOn 5 = .ok (.iconst 1, 1) := by decide +kernel
theorem dX2_stepOn_6 : decode cX2_stepOn 6 = .ok (.iadd, 1) := by decide +kernel
theorem dX2_stepOn_7 : decode cX2_stepOn 7 = .ok (.putfield 22, 3) := by decide +kernel
theorem dX2_stepOn_10 : decode cX2_stepOn 10 = .ok (.aload_n 0, 1) := by decide +kernel
theorem dX2_stepOn_11 : decode cX2_stepOn 11 = .ok (.dup, 1) := by decide +kernel
theorem dX2_stepOn_12 : decode cX2_stepOn 12 = .ok (.getfield 18, 3) := by decide +kernel
theorem dX2_stepOn_15 : decode cX2_stepOn 15 = .ok (.iconst 1, 1) := by decide +kernel
theorem dX2_stepOn_16 : decode cX2_stepOn 16 = .ok (.isub, 1) := by decide +kernel
theorem dX2_stepOn_17 : decode cX2_stepOn 17 = .ok (.putfield 18, 3) := by decide +kernel
theorem dX2_stepOn_20 : decode cX2_stepOn 20 = .ok (.aload_n 0, 1) := by decide +kernel
theorem dX2_stepOn_21 : decode cX2_stepOn 21 = .ok (.invokevirtual 28, 3) := by decide +kernel
theorem dX2_stepOn_24 : decode cX2_stepOn 24 = .ok (.areturn, 1) := by decide +kernel
theorem dX2_present_0 : decode cX2_present 0 = .ok (.aload_n 0, 1) := by decide +kernel
theorem dX2_present_1 : decode cX2_present 1 = .ok (.getfield 13, 3) := by decide +kernel
theorem dX2_present_4 : decode cX2_present 4 = .ok (.aload_n 0, 1) := by decide +kernel
theorem dX2_present_5 : decode cX2_present 5 = .ok (.getfield 25, 3) := by decide +kernel
theorem dX2_present_8 : decode cX2_present 8 = .ok (.aload_n 0, 1) := by decide +kernel
theorem dX2_present_9 : decode cX2_present 9 = .ok (.getfield 22, 3) := by decide +kernel
theorem dX2_present_12 : decode cX2_present 12 = .ok (.iadd, 1) := by decide +kernel
theorem dX2_present_13 : decode cX2_present 13 = .ok (.bipush 21, 2) := by decide +kernel
theorem dX2_present_15 : decode cX2_present 15 = .ok (.irem, 1) := by decide +kernel
theorem dX2_present_16 : decode cX2_present 16 = .ok (.aaload, 1) := by decide +kernel
theorem dX2_present_17 : decode cX2_present 17 = .ok (.areturn, 1) := by decide +kernel
theorem dX3_init_0 : decode cX3_init 0 = .ok (.aload_n 0, 1) := by decide +kernel
theorem dX3_init_1 : decode cX3_init 1 = .ok (.invokespecial 3, 3) := by decide +kernel
theorem dX3_init_4 : decode cX3_init 4 = .ok (.aload_n 0, 1) := by decide +kernel
theorem dX3_init_5 : decode cX3_init 5 = .ok (.bipush 60, 2) := by decide +kernel
theorem dX3_init_7 : decode cX3_init 7 = .ok (.newarray .int, 2) := by decide +kernel
theorem dX3_init_9 : decode cX3_init 9 = .ok (.putfield 9, 3) := by decide +kernel
theorem dX3_init_12 : decode cX3_init 12 = .ok (.return_, 1) := by decide +kernel
theorem dX3_hasSign_0 : decode cX3_hasSign 0 = .ok (.iload_n 1, 1) := by decide +kernel
theorem dX3_hasSign_1 : decode cX3_hasSign 1 = .ok (.ifCond .lt 15, 3) := by decide +kernel
theorem dX3_hasSign_4 : decode cX3_hasSign 4 = .ok (.iload_n 1, 1) := by decide +kernel
theorem dX3_hasSign_5 : decode cX3_hasSign 5 = .ok (.aload_n 0, 1) := by decide +kernel
theorem dX3_hasSign_6 : decode cX3_hasSign 6 = .ok (.getfield 15, 3) := by decide +kernel
theorem dX3_hasSign_9 : decode cX3_hasSign 9 = .ok (.if_icmp .ge 7, 3) := by decide +kernel
theorem dX3_hasSign_12 : decode cX3_hasSign 12 = .ok (.iconst 1, 1) := by decide +kernel
theorem dX3_hasSign_13 : decode cX3_hasSign 13 = .ok (.goto 4, 3) := by decide +kernel
theorem dX3_hasSign_16 : decode cX3_hasSign 16 = .ok (.iconst 0, 1) := by decide +kernel
theorem dX3_hasSign_17 : decode cX3_hasSign 17 = .ok (.ireturn, 1) := by decide +kernel
theorem dX3_hasPlace_0 : decode cX3_hasPlace 0 = .ok (.iload_n 1, 1) := by decide +kernel
theorem dX3_hasPlace_1 : decode cX3_hasPlace 1 = .ok (.ifCond .lt 15, 3) := by decide +kernel
theorem dX3_hasPlace_4 : decode cX3_hasPlace 4 = .ok (.iload_n 1, 1) := by decide +kernel
theorem dX3_hasPlace_5 : decode cX3_hasPlace 5 = .ok (.aload_n 0, 1) := by decide +kernel
theorem dX3_hasPlace_6 : decode cX3_hasPlace 6 = .ok (.getfield 15, 3) := by decide +kernel
theorem dX3_hasPlace_9 : decode cX3_hasPlace 9 = .ok (.if_icmp .gt 7, 3) := by decide +kernel
theorem dX3_hasPlace_12 : decode cX3_hasPlace 12 = .ok (.iconst 1, 1) := by decide +kernel
theorem dX3_hasPlace_13 : decode cX3_hasPlace 13 = .ok (.goto 4, 3) := by decide +kernel
theorem dX3_hasPlace_16 : decode cX3_hasPlace 16 = .ok (.iconst 0, 1) := by decide +kernel
theorem dX3_hasPlace_17 : decode cX3_hasPlace 17 = .ok (.ireturn, 1) := by decide +kernel
theorem dX3_hasPart_0 : decode cX3_hasPart 0 = .ok (.aload_n 0, 1) := by decide +kernel
theorem dX3_hasPart_1 : decode cX3_hasPart 1 = .ok (.iload_n 1, 1) := by decide +kernel
theorem dX3_hasPart_2 : decode cX3_hasPart 2 = .ok (.invokevirtual 19, 3) := by decide +kernel
theorem dX3_hasPart_5 : decode cX3_hasPart 5 = .ok (.ifCond .eq 22, 3) := by decide +kernel
theorem dX3_hasPart_8 : decode cX3_hasPart 8 = .ok (.iload_n 2, 1) := by decide +kernel
theorem dX3_hasPart_9 : decode cX3_hasPart 9 = .ok (.iconst 1, 1) := by decide +kernel
theorem dX3_hasPart_10 : decode cX3_hasPart 10 = .ok (.if_icmp .lt 17, 3) := by decide +kernel
theorem dX3_hasPart_13 : decode cX3_hasPart 13 = .ok (.iload_n 2, 1) := by decide +kernel
theorem dX3_hasPart_14 : decode cX3_hasPart 14 = .ok (.aload_n 0, 1) := by decide +kernel
theorem dX3_hasPart_15 : decode cX3_hasPart 15 = .ok (.getfield 15, 3) := by decide +kernel
theorem dX3_hasPart_18 : decode cX3_hasPart 18 = .ok (.iload_n 1, 1) := by decide +kernel
theorem dX3_hasPart_19 : decode cX3_hasPart 19 = .ok (.isub, 1) := by decide +kernel
theorem dX3_hasPart_20 : decode cX3_hasPart 20 = .ok (.if_icmp .gt 7, 3) := by decide +kernel
theorem dX3_hasPart_23 : decode cX3_hasPart 23 = .ok (.iconst 1, 1) := by decide +kernel
theorem dX3_hasPart_24 : decode cX3_hasPart 24 = .ok (.goto 4, 3) := by decide +kernel
theorem dX3_hasPart_27 : decode cX3_hasPart 27 = .ok (.iconst 0, 1) := by decide +kernel
theorem dX3_hasPart_28 : decode cX3_hasPart 28 = .ok (.ireturn, 1) := by decide +kernel
theorem dX3_room_0 : decode cX3_room 0 = .ok (.bipush 60, 2) := by decide +kernel
theorem dX3_room_2 : decode cX3_room 2 = .ok (.aload_n 0, 1) := by decide +kernel
theorem dX3_room_3 : decode cX3_room 3 = .ok (.getfield 15, 3) := by decide +kernel
theorem dX3_room_6 : decode cX3_room 6 = .ok (.isub, 1) := by decide +kernel
theorem dX3_room_7 : decode cX3_room 7 = .ok (.ireturn, 1) := by decide +kernel
theorem dX3_byteAt_0 : decode cX3_byteAt 0 = .ok (.aload_n 0, 1) := by decide +kernel
theorem dX3_byteAt_1 : decode cX3_byteAt 1 = .ok (.getfield 9, 3) := by decide +kernel
theorem dX3_byteAt_4 : decode cX3_byteAt 4 = .ok (.iload_n 1, 1) := by decide +kernel
theorem dX3_byteAt_5 : decode cX3_byteAt 5 = .ok (.iaload, 1) := by decide +kernel
theorem dX3_byteAt_6 : decode cX3_byteAt 6 = .ok (.bipush 127, 2) := by decide +kernel
theorem dX3_byteAt_8 : decode cX3_byteAt 8 = .ok (.iand, 1) := by decide +kernel
theorem dX3_byteAt_9 : decode cX3_byteAt 9 = .ok (.ireturn, 1) := by decide +kernel
theorem dX3_markedAt_0 : decode cX3_markedAt 0 = .ok (.aload_n 0, 1) := by decide +kernel
theorem dX3_markedAt_1 : decode cX3_markedAt 1 = .ok (.getfield 9, 3) := by decide +kernel
theorem dX3_markedAt_4 : decode cX3_markedAt 4 = .ok (.iload_n 1, 1) := by decide +kernel
theorem dX3_markedAt_5 : decode cX3_markedAt 5 = .ok (.iaload, 1) := by decide +kernel
theorem dX3_markedAt_6 : decode cX3_markedAt 6 = .ok (.sipush 128, 3) := by decide +kernel
theorem dX3_markedAt_9 : decode cX3_markedAt 9 = .ok (.iand, 1) := by decide +kernel
theorem dX3_markedAt_10 : decode cX3_markedAt 10 = .ok (.ifCond .eq 7, 3) := by decide +kernel
theorem dX3_markedAt_13 : decode cX3_markedAt 13 = .ok (.iconst 1, 1) := by decide +kernel
theorem dX3_markedAt_14 : decode cX3_markedAt 14 = .ok (.goto 4, 3) := by decide +kernel
theorem dX3_markedAt_17 : decode cX3_markedAt 17 = .ok (.iconst 0, 1) := by decide +kernel
theorem dX3_markedAt_18 : decode cX3_markedAt 18 = .ok (.ireturn, 1) := by decide +kernel
theorem dX3_setByte_0 : decode cX3_setByte 0 = .ok (.aload_n 0, 1) := by decide +kernel
theorem dX3_setByte_1 : decode cX3_setByte 1 = .ok (.getfield 9, 3) := by decide +kernel
theorem dX3_setByte_4 : decode cX3_setByte 4 = .ok (.iload_n 1, 1) := by decide +kernel
theorem dX3_setByte_5 : decode cX3_setByte 5 = .ok (.iload_n 2, 1) := by decide +kernel
theorem dX3_setByte_6 : decode cX3_setByte 6 = .ok (.iastore, 1) := by decide +kernel
theorem dX3_setByte_7 : decode cX3_setByte 7 = .ok (.return_, 1) := by decide +kernel
theorem dX3_setMark_0 : decode cX3_setMark 0 = .ok (.aload_n 0, 1) := by decide +kernel
theorem dX3_setMark_1 : decode cX3_setMark 1 = .ok (.getfield 9, 3) := by decide +kernel
theorem dX3_setMark_4 : decode cX3_setMark 4 = .ok (.iload_n 1, 1) := by decide +kernel
theorem dX3_setMark_5 : decode cX3_setMark 5 = .ok (.iload_n 2, 1) := by decide +kernel
theorem dX3_setMark_6 : decode cX3_setMark 6 = .ok (.ifCond .eq 15, 3) := by decide +kernel
theorem dX3_setMark_9 : decode cX3_setMark 9 = .ok (.aload_n 0, 1) := by decide +kernel
theorem dX3_setMark_10 : decode cX3_setMark 10 = .ok (.iload_n 1, 1) := by decide +kernel
theorem dX3_setMark_11 : decode cX3_setMark 11 = .ok (.invokevirtual 23, 3) := by decide +kernel
theorem dX3_setMark_14 : decode cX3_setMark 14 = .ok (.sipush 128, 3) := by decide +kernel
theorem dX3_setMark_17 : decode cX3_setMark 17 = .ok (.ior, 1) := by decide +kernel
theorem dX3_setMark_18 : decode cX3_setMark 18 = .ok (.goto 8, 3) := by decide +kernel
theorem dX3_setMark_21 : decode cX3_setMark 21 = .ok (.aload_n 0, 1) := by decide +kernel
theorem dX3_setMark_22 : decode cX3_setMark 22 = .ok (.iload_n 1, 1) := by decide +kernel
theorem dX3_setMark_23 : decode cX3_setMark 23 = .ok (.invokevirtual 23, 3) := by decide +kernel
theorem dX3_setMark_26 : decode cX3_setMark 26 = .ok (.iastore, 1) := by decide +kernel
theorem dX3_setMark_27 : decode cX3_setMark 27 = .ok (.return_, 1) := by decide +kernel
theorem dX3_become_0 : decode cX3_become 0 = .ok (.aload_n 0, 1) := by decide +kernel
theorem dX3_become_1 : decode cX3_become 1 = .ok (.aload_n 1, 1) := by decide +kernel
theorem dX3_become_2 : decode cX3_become 2 = .ok (.getfield 15, 3) := by decide +kernel
theorem dX3_become_5 : decode cX3_become 5 = .ok (.putfield 15, 3) := by decide +kernel
theorem dX3_become_8 : decode cX3_become 8 = .ok (.aload_n 1, 1) := by decide +kernel
theorem dX3_become_9 : decode cX3_become 9 = .ok (.getfield 9, 3) := by decide +kernel
theorem dX3_become_12 : decode cX3_become 12 = .ok (.iconst 0, 1) := by decide +kernel
theorem dX3_become_13 : decode cX3_become 13 = .ok (.aload_n 0, 1) := by decide +kernel
theorem dX3_become_14 : decode cX3_become 14 = .ok (.getfield 9, 3) := by decide +kernel
theorem dX3_become_17 : decode cX3_become 17 = .ok (.iconst 0, 1) := by decide +kernel
theorem dX3_become_18 : decode cX3_become 18 = .ok (.aload_n 0, 1) := by decide +kernel
theorem dX3_become_19 : decode cX3_become 19 = .ok (.getfield 15, 3) := by decide +kernel
theorem dX3_become_22 : decode cX3_become 22 = .ok (.invokestatic 27, 3) := by decide +kernel
theorem dX3_become_25 : decode cX3_become 25 = .ok (.return_, 1) := by decide +kernel
theorem dX3_clear_0 : decode cX3_clear 0 = .ok (.aload_n 0, 1) := by decide +kernel
theorem dX3_clear_1 : decode cX3_clear 1 = .ok (.iconst 0, 1) := by decide +kernel
theorem dX3_clear_2 : decode cX3_clear 2 = .ok (.putfield 15, 3) := by decide +kernel
theorem dX3_clear_5 : decode cX3_clear 5 = .ok (.return_, 1) := by decide +kernel
theorem dX3_bringIn_0 : decode cX3_bringIn 0 = .ok (.aload_n 0, 1) := by decide +kernel
theorem dX3_bringIn_1 : decode cX3_bringIn 1 = .ok (.iload_n 1, 1) := by decide +kernel
theorem dX3_bringIn_2 : decode cX3_bringIn 2 = .ok (.iconst 1, 1) := by decide +kernel
theorem dX3_bringIn_3 : decode cX3_bringIn 3 = .ok (.invokevirtual 33, 3) := by decide +kernel
theorem dX3_bringIn_6 : decode cX3_bringIn 6 = .ok (.aload_n 0, 1) := by decide +kernel
theorem dX3_bringIn_7 : decode cX3_bringIn 7 = .ok (.getfield 9, 3) := by decide +kernel
theorem dX3_bringIn_10 : decode cX3_bringIn 10 = .ok (.iload_n 1, 1) := by decide +kernel
theorem dX3_bringIn_11 : decode cX3_bringIn 11 = .ok (.iload_n 2, 1) := by decide +kernel
theorem dX3_bringIn_12 : decode cX3_bringIn 12 = .ok (.iastore, 1) := by decide +kernel
theorem dX3_bringIn_13 : decode cX3_bringIn 13 = .ok (.return_, 1) := by decide +kernel
theorem dX3_takeOut_0 : decode cX3_takeOut 0 = .ok (.aload_n 0, 1) := by decide +kernel
theorem dX3_takeOut_1 : decode cX3_takeOut 1 = .ok (.getfield 9, 3) := by decide +kernel
theorem dX3_takeOut_4 : decode cX3_takeOut 4 = .ok (.iload_n 1, 1) := by decide +kernel
theorem dX3_takeOut_5 : decode cX3_takeOut 5 = .ok (.iload_n 2, 1) := by decide +kernel
theorem dX3_takeOut_6 : decode cX3_takeOut 6 = .ok (.iadd, 1) := by decide +kernel
theorem dX3_takeOut_7 : decode cX3_takeOut 7 = .ok (.aload_n 0, 1) := by decide +kernel
theorem dX3_takeOut_8 : decode cX3_takeOut 8 = .ok (.getfield 9, 3) := by decide +kernel
theorem dX3_takeOut_11 : decode cX3_takeOut 11 = .ok (.iload_n 1, 1) := by decide +kernel
theorem dX3_takeOut_12 : decode cX3_takeOut 12 = .ok (.aload_n 0, 1) := by decide +kernel
theorem dX3_takeOut_13 : decode cX3_takeOut 13 = .ok (.getfield 15, 3) := by decide +kernel
theorem dX3_takeOut_16 : decode cX3_takeOut 16 = .ok (.iload_n 1, 1) := by decide +kernel
theorem dX3_takeOut_17 : decode cX3_takeOut 17 = .ok (.isub, 1) := by decide +kernel
theorem dX3_takeOut_18 : decode cX3_takeOut 18 = .ok (.iload_n 2, 1) := by decide +kernel
theorem dX3_takeOut_19 : decode cX3_takeOut 19 = .ok (.isub, 1) := by decide +kernel
theorem dX3_takeOut_20 : decode cX3_takeOut 20 = .ok (.invokestatic 27, 3) := by decide +kernel
theorem dX3_takeOut_23 : decode cX3_takeOut 23 = .ok (.aload_n 0, 1) := by decide +kernel
theorem dX3_takeOut_24 : decode cX3_takeOut 24 = .ok (.dup, 1) := by decide +kernel
theorem dX3_takeOut_25 : decode cX3_takeOut 25 = .ok (.getfield 15, 3) := by decide +kernel
theorem dX3_takeOut_28 : decode cX3_takeOut 28 = .ok (.iload_n 2, 1) := by decide +kernel
theorem dX3_takeOut_29 : decode cX3_takeOut 29 = .ok (.isub, 1) := by decide +kernel
theorem dX3_takeOut_30 : decode cX3_takeOut 30 = .ok (.putfield 15, 3) := by decide +kernel
theorem dX3_takeOut_33 : decode cX3_takeOut 33 = .ok (.return_, 1) := by decide +kernel
theorem dX3_shift_0 : decode cX3_shift 0 = .ok (.iload_n 3, 1) := by decide +kernel
theorem dX3_shift_1 : decode cX3_shift 1 = .ok (.iload_n 1, 1) := by decide +kernel
theorem dX3_shift_2 : decode cX3_shift 2 = .ok (.if_icmp .gt 15, 3) := by decide +kernel
theorem dX3_shift_5 : decode cX3_shift 5 = .ok (.aload_n 0, 1) := by decide +kernel
theorem dX3_shift_6 : decode cX3_shift 6 = .ok (.iload_n 3, 1) := by decide +kernel
theorem dX3_shift_7 : decode cX3_shift 7 = .ok (.iload_n 1, 1) := by decide +kernel
theorem dX3_shift_8 : decode cX3_shift 8 = .ok (.iload_n 1, 1) := by decide +kernel
theorem dX3_shift_9 : decode cX3_shift 9 = .ok (.iload_n 2, 1) := by decide +kernel
theorem dX3_shift_10 : decode cX3_shift 10 = .ok (.iadd, 1) := by decide +kernel
theorem dX3_shift_11 : decode cX3_shift 11 = .ok (.invokevirtual 37, 3) := by decide +kernel
theorem dX3_shift_14 : decode cX3_shift 14 = .ok (.goto 12, 3) := by decide +kernel
theorem dX3_shift_17 : decode cX3_shift 17 = .ok (.aload_n 0, 1) := by decide +kernel
theorem dX3_shift_18 : decode cX3_shift 18 = .ok (.iload_n 1, 1) := by decide +kernel
theorem dX3_shift_19 : decode cX3_shift 19 = .ok (.iload_n 1, 1) := by decide +kernel
theorem dX3_shift_20 : decode cX3_shift 20 = .ok (.iload_n 2, 1) := by decide +kernel
theorem dX3_shift_21 : decode cX3_shift 21 = .ok (.iadd, 1) := by decide +kernel
theorem dX3_shift_22 : decode cX3_shift 22 = .ok (.iload_n 3, 1) := by decide +kernel
theorem dX3_shift_23 : decode cX3_shift 23 = .ok (.invokevirtual 37, 3) := by decide +kernel
theorem dX3_shift_26 : decode cX3_shift 26 = .ok (.return_, 1) := by decide +kernel
theorem dX3_repeat_0 : decode cX3_repeat 0 = .ok (.aload_n 0, 1) := by decide +kernel
theorem dX3_repeat_1 : decode cX3_repeat 1 = .ok (.iload_n 3, 1) := by decide +kernel
theorem dX3_repeat_2 : decode cX3_repeat 2 = .ok (.iload_n 2, 1) := by decide +kernel
theorem dX3_repeat_3 : decode cX3_repeat 3 = .ok (.invokevirtual 33, 3) := by decide +kernel
theorem dX3_repeat_6 : decode cX3_repeat 6 = .ok (.iconst 0, 1) := by decide +kernel
theorem dX3_repeat_7 : decode cX3_repeat 7 = .ok (.istore 4, 2) := by decide +kernel
theorem dX3_repeat_9 : decode cX3_repeat 9 = .ok (.iload 4, 2) := by decide +kernel
theorem dX3_repeat_11 : decode cX3_repeat 11 = .ok (.iload_n 2, 1) := by decide +kernel
theorem dX3_repeat_12 : decode cX3_repeat 12 = .ok (.if_icmp .ge 48, 3) := by decide +kernel
theorem dX3_repeat_15 : decode cX3_repeat 15 = .ok (.iload_n 1, 1) := by decide +kernel
theorem dX3_repeat_16 : decode cX3_repeat 16 = .ok (.iload 4, 2) := by decide +kernel
theorem dX3_repeat_18 : decode cX3_repeat 18 = .ok (.iadd, 1) := by decide +kernel
theorem dX3_repeat_19 : decode cX3_repeat 19 = .ok (.iload_n 3, 1) := by decide +kernel
theorem dX3_repeat_20 : decode cX3_repeat 20 = .ok (.if_icmp .ge 10, 3) := by decide +kernel
theorem dX3_repeat_23 : decode cX3_repeat 23 = .ok (.iload_n 1, 1) := by decide +kernel
theorem dX3_repeat_24 : decode cX3_repeat 24 = .ok (.iload 4, 2) := by decide +kernel
theorem dX3_repeat_26 : decode cX3_repeat 26 = .ok (.iadd, 1) := by decide +kernel
theorem dX3_repeat_27 : decode cX3_repeat 27 = .ok (.goto 9, 3) := by decide +kernel
theorem dX3_repeat_30 : decode cX3_repeat 30 = .ok (.iload_n 1, 1) := by decide +kernel
theorem dX3_repeat_31 : decode cX3_repeat 31 = .ok (.iload 4, 2) := by decide +kernel
theorem dX3_repeat_33 : decode cX3_repeat 33 = .ok (.iadd, 1) := by decide +kernel
theorem dX3_repeat_34 : decode cX3_repeat 34 = .ok (.iload_n 2, 1) := by decide +kernel
theorem dX3_repeat_35 : decode cX3_repeat 35 = .ok (.iadd, 1) := by decide +kernel
theorem dX3_repeat_36 : decode cX3_repeat 36 = .ok (.istore 5, 2) := by decide +kernel
theorem dX3_repeat_38 : decode cX3_repeat 38 = .ok (.aload_n 0, 1) := by decide +kernel
theorem dX3_repeat_39 : decode cX3_repeat 39 = .ok (.getfield 9, 3) := by decide +kernel
theorem dX3_repeat_42 : decode cX3_repeat 42 = .ok (.iload_n 3, 1) := by decide +kernel
theorem dX3_repeat_43 : decode cX3_repeat 43 = .ok (.iload 4, 2) := by decide +kernel
theorem dX3_repeat_45 : decode cX3_repeat 45 = .ok (.iadd, 1) := by decide +kernel
theorem dX3_repeat_46 : decode cX3_repeat 46 = .ok (.aload_n 0, 1) := by decide +kernel
theorem dX3_repeat_47 : decode cX3_repeat 47 = .ok (.getfield 9, 3) := by decide +kernel
theorem dX3_repeat_50 : decode cX3_repeat 50 = .ok (.iload 5, 2) := by decide +kernel
theorem dX3_repeat_52 : decode cX3_repeat 52 = .ok (.iaload, 1) := by decide +kernel
theorem dX3_repeat_53 : decode cX3_repeat 53 = .ok (.iastore, 1) := by decide +kernel
theorem dX3_repeat_54 : decode cX3_repeat 54 = .ok (.iinc 4 1, 3) := by decide +kernel
theorem dX3_repeat_57 : decode cX3_repeat 57 = .ok (.goto (-48), 3) := by decide +kernel
theorem dX3_repeat_60 : decode cX3_repeat 60 = .ok (.return_, 1) := by decide +kernel
theorem dX3_turnAbout_0 : decode cX3_turnAbout 0 = .ok (.aload_n 0, 1) := by decide +kernel
theorem dX3_turnAbout_1 : decode cX3_turnAbout 1 = .ok (.iload_n 1, 1) := by decide +kernel
theorem dX3_turnAbout_2 : decode cX3_turnAbout 2 = .ok (.iload_n 1, 1) := by decide +kernel
theorem dX3_turnAbout_3 : decode cX3_turnAbout 3 = .ok (.iload_n 2, 1) := by decide +kernel
theorem dX3_turnAbout_4 : decode cX3_turnAbout 4 = .ok (.iadd, 1) := by decide +kernel
theorem dX3_turnAbout_5 : decode cX3_turnAbout 5 = .ok (.invokevirtual 41, 3) := by decide +kernel
theorem dX3_turnAbout_8 : decode cX3_turnAbout 8 = .ok (.iconst 0, 1) := by decide +kernel
theorem dX3_turnAbout_9 : decode cX3_turnAbout 9 = .ok (.istore_n 3, 1) := by decide +kernel
theorem dX3_turnAbout_10 : decode cX3_turnAbout 10 = .ok (.iload_n 1, 1) := by decide +kernel
theorem dX3_turnAbout_11 : decode cX3_turnAbout 11 = .ok (.istore 4, 2) := by decide +kernel
theorem dX3_turnAbout_13 : decode cX3_turnAbout 13 = .ok (.iload 4, 2) := by decide +kernel
theorem dX3_turnAbout_15 : decode cX3_turnAbout 15 = .ok (.iload_n 1, 1) := by decide +kernel
theorem dX3_turnAbout_16 : decode cX3_turnAbout 16 = .ok (.iload_n 2, 1) := by decide +kernel
theorem dX3_turnAbout_17 : decode cX3_turnAbout 17 = .ok (.iadd, 1) := by decide +kernel
theorem dX3_turnAbout_18 : decode cX3_turnAbout 18 = .ok (.if_icmp .ge 39, 3) := by decide +kernel
theorem dX3_turnAbout_21 : decode cX3_turnAbout 21 = .ok (.aload_n 0, 1) := by decide +kernel
theorem dX3_turnAbout_22 : decode cX3_turnAbout 22 = .ok (.iload 4, 2) := by decide +kernel
theorem dX3_turnAbout_24 : decode cX3_turnAbout 24 = .ok (.invokevirtual 23, 3) := by decide +kernel
theorem dX3_turnAbout_27 : decode cX3_turnAbout 27 = .ok (.istore 5, 2) := by decide +kernel
theorem dX3_turnAbout_29 : decode cX3_turnAbout 29 = .ok (.iload_n 3, 1) := by decide +kernel
theorem dX3_turnAbout_30 : decode cX3_turnAbout 30 = .ok (.iload 5, 2) := by decide +kernel
theorem dX3_turnAbout_32 : decode cX3_turnAbout 32 = .ok (.invokestatic 44, 3) := by decide +kernel
theorem dX3_turnAbout_35 : decode cX3_turnAbout 35 = .ok (.invokestatic 49, 3) := by decide +kernel
theorem dX3_turnAbout_38 : decode cX3_turnAbout 38 = .ok (.iadd, 1) := by decide +kernel
theorem dX3_turnAbout_39 : decode cX3_turnAbout 39 = .ok (.istore_n 3, 1) := by decide +kernel
theorem dX3_turnAbout_40 : decode cX3_turnAbout 40 = .ok (.aload_n 0, 1) := by decide +kernel
theorem dX3_turnAbout_41 : decode cX3_turnAbout 41 = .ok (.iload 4, 2) := by decide +kernel
theorem dX3_turnAbout_43 : decode cX3_turnAbout 43 = .ok (.iload 5, 2) := by decide +kernel
theorem dX3_turnAbout_45 : decode cX3_turnAbout 45 = .ok (.invokestatic 53, 3) := by decide +kernel
theorem dX3_turnAbout_48 : decode cX3_turnAbout 48 = .ok (.invokevirtual 56, 3) := by decide +kernel
theorem dX3_turnAbout_51 : decode cX3_turnAbout 51 = .ok (.iinc 4 1, 3) := by decide +kernel
theorem dX3_turnAbout_54 : decode cX3_turnAbout 54 = .ok (.goto (-41), 3) := by decide +kernel
theorem dX3_turnAbout_57 : decode cX3_turnAbout 57 = .ok (.iload_n 3, 1) := by decide +kernel
theorem dX3_turnAbout_58 : decode cX3_turnAbout 58 = .ok (.ireturn, 1) := by decide +kernel
theorem dX3_openingSigns_0 : decode cX3_openingSigns 0 = .ok (.iconst 0, 1) := by decide +kernel
theorem dX3_openingSigns_1 : decode cX3_openingSigns 1 = .ok (.istore_n 1, 1) := by decide +kernel
theorem dX3_openingSigns_2 : decode cX3_openingSigns 2 = .ok (.iconst 0, 1) := by decide +kernel
theorem dX3_openingSigns_3 : decode cX3_openingSigns 3 = .ok (.istore_n 2, 1) := by decide +kernel
theorem dX3_openingSigns_4 : decode cX3_openingSigns 4 = .ok (.iload_n 2, 1) := by decide +kernel
theorem dX3_openingSigns_5 : decode cX3_openingSigns 5 = .ok (.aload_n 0, 1) := by decide +kernel
theorem dX3_openingSigns_6 : decode cX3_openingSigns 6 = .ok (.getfield 15, 3) := by decide +kernel
theorem dX3_openingSigns_9 : decode cX3_openingSigns 9 = .ok (.if_icmp .ge 23, 3) := by decide +kernel
theorem dX3_openingSigns_12 : decode cX3_openingSigns 12 = .ok (.iload_n 1, 1) := by decide +kernel
theorem dX3_openingSigns_13 : decode cX3_openingSigns 13 = .ok (.aload_n 0, 1) := by decide +kernel
theorem dX3_openingSigns_14 : decode cX3_openingSigns 14 = .ok (.iload_n 2, 1) := by decide +kernel
theorem dX3_openingSigns_15 : decode cX3_openingSigns 15 = .ok (.invokevirtual 23, 3) := by decide +kernel
theorem dX3_openingSigns_18 : decode cX3_openingSigns 18 = .ok (.invokestatic 59, 3) := by decide +kernel
theorem dX3_openingSigns_21 : decode cX3_openingSigns 21 = .ok (.invokestatic 49, 3) := by decide +kernel
theorem dX3_openingSigns_24 : decode cX3_openingSigns 24 = .ok (.iadd, 1) := by decide +kernel
theorem dX3_openingSigns_25 : decode cX3_openingSigns 25 = .ok (.istore_n 1, 1) := by decide +kernel
theorem dX3_openingSigns_26 : decode cX3_openingSigns 26 = .ok (.iinc 2 1, 3) := by decide +kernel
theorem dX3_openingSigns_29 : decode cX3_openingSigns 29 = .ok (.goto (-25), 3) := by decide +kernel
theorem dX3_openingSigns_32 : decode cX3_openingSigns 32 = .ok (.iload_n 1, 1) := by decide +kernel
theorem dX3_openingSigns_33 : decode cX3_openingSigns 33 = .ok (.ireturn, 1) := by decide +kernel
theorem dX3_closingSigns_0 : decode cX3_closingSigns 0 = .ok (.iconst 0, 1) := by decide +kernel
theorem dX3_closingSigns_1 : decode cX3_closingSigns 1 = .ok (.istore_n 1, 1) := by decide +kernel
theorem dX3_closingSigns_2 : decode cX3_closingSigns 2 = .ok (.iconst 0, 1) := by decide +kernel
theorem dX3_closingSigns_3 : decode cX3_closingSigns 3 = .ok (.istore_n 2, 1) := by decide +kernel
theorem dX3_closingSigns_4 : decode cX3_closingSigns 4 = .ok (.iload_n 2, 1) := by decide +kernel
theorem dX3_closingSigns_5 : decode cX3_closingSigns 5 = .ok (.aload_n 0, 1) := by decide +kernel
theorem dX3_closingSigns_6 : decode cX3_closingSigns 6 = .ok (.getfield 15, 3) := by decide +kernel
theorem dX3_closingSigns_9 : decode cX3_closingSigns 9 = .ok (.if_icmp .ge 23, 3) := by decide +kernel
theorem dX3_closingSigns_12 : decode cX3_closingSigns 12 = .ok (.iload_n 1, 1) := by decide +kernel
theorem dX3_closingSigns_13 : decode cX3_closingSigns 13 = .ok (.aload_n 0, 1) := by decide +kernel
theorem dX3_closingSigns_14 : decode cX3_closingSigns 14 = .ok (.iload_n 2, 1) := by decide +kernel
theorem dX3_closingSigns_15 : decode cX3_closingSigns 15 = .ok (.invokevirtual 23, 3) := by decide +kernel
theorem dX3_closingSigns_18 : decode cX3_closingSigns 18 = .ok (.invokestatic 62, 3) := by decide +kernel
theorem dX3_closingSigns_21 : decode cX3_closingSigns 21 = .ok (.invokestatic 49, 3) := by decide +kernel
theorem dX3_closingSigns_24 : decode cX3_closingSigns 24 = .ok (.iadd, 1) := by decide +kernel
theorem dX3_closingSigns_25 : decode cX3_closingSigns 25 = .ok (.istore_n 1, 1) := by decide +kernel
theorem dX3_closingSigns_26 : decode cX3_closingSigns 26 = .ok (.iinc 2 1, 3) := by decide +kernel
theorem dX3_closingSigns_29 : decode cX3_closingSigns 29 = .ok (.goto (-25), 3) := by decide +kernel
theorem dX3_closingSigns_32 : decode cX3_closingSigns 32 = .ok (.iload_n 1, 1) := by decide +kernel
theorem dX3_closingSigns_33 : decode cX3_closingSigns 33 = .ok (.ireturn, 1) := by decide +kernel
theorem dX3_openGap_0 : decode cX3_openGap 0 = .ok (.aload_n 0, 1) := by decide +kernel
theorem dX3_openGap_1 : decode cX3_openGap 1 = .ok (.getfield 9, 3) := by decide +kernel
theorem dX3_openGap_4 : decode cX3_openGap 4 = .ok (.iload_n 1, 1) := by decide +kernel
theorem dX3_openGap_5 : decode cX3_openGap 5 = .ok (.aload_n 0, 1) := by decide +kernel
theorem dX3_openGap_6 : decode cX3_openGap 6 = .ok (.getfield 9, 3) := by decide +kernel
theorem dX3_openGap_9 : decode cX3_openGap 9 = .ok (.iload_n 1, 1) := by decide +kernel
theorem dX3_openGap_10 : decode cX3_openGap 10 = .ok (.iload_n 2, 1) := by decide +kernel
theorem dX3_openGap_11 : decode cX3_openGap 11 = .ok (.iadd, 1) := by decide +kernel
theorem dX3_openGap_12 : decode cX3_openGap 12 = .ok (.aload_n 0, 1) := by decide +kernel
theorem dX3_openGap_13 : decode cX3_openGap 13 = .ok (.getfield 15, 3) := by decide +kernel
theorem dX3_openGap_16 : decode cX3_openGap 16 = .ok (.iload_n 1, 1) := by decide +kernel
theorem dX3_openGap_17 : decode cX3_openGap 17 = .ok (.isub, 1) := by decide +kernel
theorem dX3_openGap_18 : decode cX3_openGap 18 = .ok (.invokestatic 27, 3) := by decide +kernel
theorem dX3_openGap_21 : decode cX3_openGap 21 = .ok (.aload_n 0, 1) := by decide +kernel
theorem dX3_openGap_22 : decode cX3_openGap 22 = .ok (.dup, 1) := by decide +kernel
theorem dX3_openGap_23 : decode cX3_openGap 23 = .ok (.getfield 15, 3) := by decide +kernel
theorem dX3_openGap_26 : decode cX3_openGap 26 = .ok (.iload_n 2, 1) := by decide +kernel
theorem dX3_openGap_27 : decode cX3_openGap 27 = .ok (.iadd, 1) := by decide +kernel
theorem dX3_openGap_28 : decode cX3_openGap 28 = .ok (.putfield 15, 3) := by decide +kernel
theorem dX3_openGap_31 : decode cX3_openGap 31 = .ok (.return_, 1) := by decide +kernel
theorem dX3_swapParts_0 : decode cX3_swapParts 0 = .ok (.aload_n 0, 1) := by decide +kernel
theorem dX3_swapParts_1 : decode cX3_swapParts 1 = .ok (.iload_n 1, 1) := by decide +kernel
theorem dX3_swapParts_2 : decode cX3_swapParts 2 = .ok (.iload_n 2, 1) := by decide +kernel
theorem dX3_swapParts_3 : decode cX3_swapParts 3 = .ok (.invokevirtual 41, 3) := by decide +kernel
theorem dX3_swapParts_6 : decode cX3_swapParts 6 = .ok (.aload_n 0, 1) := by decide +kernel
theorem dX3_swapParts_7 : decode cX3_swapParts 7 = .ok (.iload_n 2, 1) := by decide +kernel
theorem dX3_swapParts_8 : decode cX3_swapParts 8 = .ok (.iload_n 3, 1) := by decide +kernel
theorem dX3_swapParts_9 : decode cX3_swapParts 9 = .ok (.invokevirtual 41, 3) := by decide +kernel
theorem dX3_swapParts_12 : decode cX3_swapParts 12 = .ok (.aload_n 0, 1) := by decide +kernel
theorem dX3_swapParts_13 : decode cX3_swapParts 13 = .ok (.iload_n 1, 1) := by decide +kernel
theorem dX3_swapParts_14 : decode cX3_swapParts 14 = .ok (.iload_n 3, 1) := by decide +kernel
theorem dX3_swapParts_15 : decode cX3_swapParts 15 = .ok (.invokevirtual 41, 3) := by decide +kernel
theorem dX3_swapParts_18 : decode cX3_swapParts 18 = .ok (.return_, 1) := by decide +kernel
theorem dX3_reverse_0 : decode cX3_reverse 0 = .ok (.iload_n 2, 1) := by decide +kernel
theorem dX3_reverse_1 : decode cX3_reverse 1 = .ok (.iconst 1, 1) := by decide +kernel
theorem dX3_reverse_2 : decode cX3_reverse 2 = .ok (.isub, 1) := by decide +kernel
theorem dX3_reverse_3 : decode cX3_reverse 3 = .ok (.istore_n 3, 1) := by decide +kernel
theorem dX3_reverse_4 : decode cX3_reverse 4 = .ok (.iload_n 1, 1) := by decide +kernel
theorem dX3_reverse_5 : decode cX3_reverse 5 = .ok (.istore 4, 2) := by decide +kernel
theorem dX3_reverse_7 : decode cX3_reverse 7 = .ok (.iload 4, 2) := by decide +kernel
theorem dX3_reverse_9 : decode cX3_reverse 9 = .ok (.iload_n 3, 1) := by decide +kernel
theorem dX3_reverse_10 : decode cX3_reverse 10 = .ok (.if_icmp .ge 42, 3) := by decide +kernel
theorem dX3_reverse_13 : decode cX3_reverse 13 = .ok (.aload_n 0, 1) := by decide +kernel
theorem dX3_reverse_14 : decode cX3_reverse 14 = .ok (.getfield 9, 3) := by decide +kernel
theorem dX3_reverse_17 : decode cX3_reverse 17 = .ok (.iload 4, 2) := by decide +kernel
theorem dX3_reverse_19 : decode cX3_reverse 19 = .ok (.iaload, 1) := by decide +kernel
theorem dX3_reverse_20 : decode cX3_reverse 20 = .ok (.istore 5, 2) := by decide +kernel
theorem dX3_reverse_22 : decode cX3_reverse 22 = .ok (.aload_n 0, 1) := by decide +kernel
theorem dX3_reverse_23 : decode cX3_reverse 23 = .ok (.getfield 9, 3) := by decide +kernel
theorem dX3_reverse_26 : decode cX3_reverse 26 = .ok (.iload 4, 2) := by decide +kernel
theorem dX3_reverse_28 : decode cX3_reverse 28 = .ok (.aload_n 0, 1) := by decide +kernel
theorem dX3_reverse_29 : decode cX3_reverse 29 = .ok (.getfield 9, 3) := by decide +kernel
theorem dX3_reverse_32 : decode cX3_reverse 32 = .ok (.iload_n 3, 1) := by decide +kernel
theorem dX3_reverse_33 : decode cX3_reverse 33 = .ok (.iaload, 1) := by decide +kernel
theorem dX3_reverse_34 : decode cX3_reverse 34 = .ok (.iastore, 1) := by decide +kernel
theorem dX3_reverse_35 : decode cX3_reverse 35 = .ok (.aload_n 0, 1) := by decide +kernel
theorem dX3_reverse_36 : decode cX3_reverse 36 = .ok (.getfield 9, 3) := by decide +kernel
theorem dX3_reverse_39 : decode cX3_reverse 39 = .ok (.iload_n 3, 1) := by decide +kernel
theorem dX3_reverse_40 : decode cX3_reverse 40 = .ok (.iload 5, 2) := by decide +kernel
theorem dX3_reverse_42 : decode cX3_reverse 42 = .ok (.iastore, 1) := by decide +kernel
theorem dX3_reverse_43 : decode cX3_reverse 43 = .ok (.iinc 3 (-1), 3) := by decide +kernel
theorem dX3_reverse_46 : decode cX3_reverse 46 = .ok (.iinc 4 1, 3) := by decide +kernel
theorem dX3_reverse_49 : decode cX3_reverse 49 = .ok (.goto (-42), 3) := by decide +kernel
theorem dX3_reverse_52 : decode cX3_reverse 52 = .ok (.return_, 1) := by decide +kernel
theorem dX4_init_0 : decode cX4_init 0 = .ok (.aload_n 0, 1) := by decide +kernel
theorem dX4_init_1 : decode cX4_init 1 = .ok (.invokespecial 3, 3) := by decide +kernel
theorem dX4_init_4 : decode cX4_init 4 = .ok (.aload_n 0, 1) := by decide +kernel
theorem dX4_init_5 : decode cX4_init 5 = .ok (.bipush 40, 2) := by decide +kernel
theorem dX4_init_7 : decode cX4_init 7 = .ok (.newarray .int, 2) := by decide +kernel
theorem dX4_init_9 : decode cX4_init 9 = .ok (.putfield 9, 3) := by decide +kernel
theorem dX4_init_12 : decode cX4_init 12 = .ok (.return_, 1) := by decide +kernel
theorem dX4_makeNew_0 : decode cX4_makeNew 0 = .ok (.aload_n 0, 1) := by decide +kernel
theorem dX4_makeNew_1 : decode cX4_makeNew 1 = .ok (.iconst 1, 1) := by decide +kernel
theorem dX4_makeNew_2 : decode cX4_makeNew 2 = .ok (.putfield 15, 3) := by decide +kernel
theorem dX4_makeNew_5 : decode cX4_makeNew 5 = .ok (.aload_n 0, 1) := by decide +kernel
theorem dX4_makeNew_6 : decode cX4_makeNew 6 = .ok (.iload_n 1, 1) := by decide +kernel
theorem dX4_makeNew_7 : decode cX4_makeNew 7 = .ok (.putfield 19, 3) := by decide +kernel
theorem dX4_makeNew_10 : decode cX4_makeNew 10 = .ok (.aload_n 0, 1) := by decide +kernel
theorem dX4_makeNew_11 : decode cX4_makeNew 11 = .ok (.iload_n 2, 1) := by decide +kernel
theorem dX4_makeNew_12 : decode cX4_makeNew 12 = .ok (.putfield 23, 3) := by decide +kernel
theorem dX4_makeNew_15 : decode cX4_makeNew 15 = .ok (.iconst 0, 1) := by decide +kernel
theorem dX4_makeNew_16 : decode cX4_makeNew 16 = .ok (.istore_n 3, 1) := by decide +kernel
theorem dX4_makeNew_17 : decode cX4_makeNew 17 = .ok (.iload_n 3, 1) := by decide +kernel
theorem dX4_makeNew_18 : decode cX4_makeNew 18 = .ok (.iload_n 2, 1) := by decide +kernel
theorem dX4_makeNew_19 : decode cX4_makeNew 19 = .ok (.if_icmp .ge 16, 3) := by decide +kernel
theorem dX4_makeNew_22 : decode cX4_makeNew 22 = .ok (.aload_n 0, 1) := by decide +kernel
theorem dX4_makeNew_23 : decode cX4_makeNew 23 = .ok (.getfield 9, 3) := by decide +kernel
theorem dX4_makeNew_26 : decode cX4_makeNew 26 = .ok (.iload_n 3, 1) := by decide +kernel
theorem dX4_makeNew_27 : decode cX4_makeNew 27 = .ok (.iconst 0, 1) := by decide +kernel
theorem dX4_makeNew_28 : decode cX4_makeNew 28 = .ok (.iastore, 1) := by decide +kernel
theorem dX4_makeNew_29 : decode cX4_makeNew 29 = .ok (.iinc 3 1, 3) := by decide +kernel
theorem dX4_makeNew_32 : decode cX4_makeNew 32 = .ok (.goto (-15), 3) := by decide +kernel
theorem dX4_makeNew_35 : decode cX4_makeNew 35 = .ok (.return_, 1) := by decide +kernel
theorem dX4_faultAt_0 : decode cX4_faultAt 0 = .ok (.aload_n 0, 1) := by decide +kernel
theorem dX4_faultAt_1 : decode cX4_faultAt 1 = .ok (.getfield 15, 3) := by decide +kernel
theorem dX4_faultAt_4 : decode cX4_faultAt 4 = .ok (.ifCond .ne 5, 3) := by decide +kernel
theorem dX4_faultAt_7 : decode cX4_faultAt 7 = .ok (.iconst 1, 1) := by decide +kernel
theorem dX4_faultAt_8 : decode cX4_faultAt 8 = .ok (.ireturn, 1) := by decide +kernel
theorem dX4_faultAt_9 : decode cX4_faultAt 9 = .ok (.iload_n 1, 1) := by decide +kernel
theorem dX4_faultAt_10 : decode cX4_faultAt 10 = .ok (.aload_n 0, 1) := by decide +kernel
theorem dX4_faultAt_11 : decode cX4_faultAt 11 = .ok (.getfield 19, 3) := by decide +kernel
theorem dX4_faultAt_14 : decode cX4_faultAt 14 = .ok (.if_icmp .eq 5, 3) := by decide +kernel
theorem dX4_faultAt_17 : decode cX4_faultAt 17 = .ok (.iconst 3, 1) := by decide +kernel
theorem dX4_faultAt_18 : decode cX4_faultAt 18 = .ok (.ireturn, 1) := by decide +kernel
theorem dX4_faultAt_19 : decode cX4_faultAt 19 = .ok (.iload_n 2, 1) := by decide +kernel
theorem dX4_faultAt_20 : decode cX4_faultAt 20 = .ok (.ifCond .lt 11, 3) := by decide +kernel
theorem dX4_faultAt_23 : decode cX4_faultAt 23 = .ok (.iload_n 2, 1) := by decide +kernel
theorem dX4_faultAt_24 : decode cX4_faultAt 24 = .ok (.aload_n 0, 1) := by decide +kernel
theorem dX4_faultAt_25 : decode cX4_faultAt 25 = .ok (.getfield 23, 3) := by decide +kernel
theorem dX4_faultAt_28 : decode cX4_faultAt 28 = .ok (.if_icmp .lt 7, 3) := by decide +kernel
theorem dX4_faultAt_31 : decode cX4_faultAt 31 = .ok (.iconst 2, 1) := by decide +kernel
theorem dX4_faultAt_32 : decode cX4_faultAt 32 = .ok (.goto 4, 3) := by decide +kernel
theorem dX4_faultAt_35 : decode cX4_faultAt 35 = .ok (.iconst 0, 1) := by decide +kernel
theorem dX4_faultAt_36 : decode cX4_faultAt 36 = .ok (.ireturn, 1) := by decide +kernel
theorem dX4_setCell_0 : decode cX4_setCell 0 = .ok (.aload_n 0, 1) := by decide +kernel
theorem dX4_setCell_1 : decode cX4_setCell 1 = .ok (.getfield 19, 3) := by decide +kernel
theorem dX4_setCell_4 : decode cX4_setCell 4 = .ok (.lookupswitch 50 #[(0, 28), (1, 39)], 28) := by decide +kernel
theorem dX4_setCell_32 : decode cX4_setCell 32 = .ok (.aload_n 0, 1) := by decide +kernel
theorem dX4_setCell_33 : decode cX4_setCell 33 = .ok (.getfield 9, 3) := by decide +kernel
theorem dX4_setCell_36 : decode cX4_setCell 36 = .ok (.iload_n 1, 1) := by decide +kernel
theorem dX4_setCell_37 : decode cX4_setCell 37 = .ok (.iload_n 2, 1) := by decide +kernel
theorem dX4_setCell_38 : decode cX4_setCell 38 = .ok (.i2b, 1) := by decide +kernel
theorem dX4_setCell_39 : decode cX4_setCell 39 = .ok (.iastore, 1) := by decide +kernel
theorem dX4_setCell_40 : decode cX4_setCell 40 = .ok (.goto 21, 3) := by decide +kernel
theorem dX4_setCell_43 : decode cX4_setCell 43 = .ok (.aload_n 0, 1) := by decide +kernel
theorem dX4_setCell_44 : decode cX4_setCell 44 = .ok (.getfield 9, 3) := by decide +kernel
theorem dX4_setCell_47 : decode cX4_setCell 47 = .ok (.iload_n 1, 1) := by decide +kernel
theorem dX4_setCell_48 : decode cX4_setCell 48 = .ok (.iload_n 2, 1) := by decide +kernel
theorem dX4_setCell_49 : decode cX4_setCell 49 = .ok (.i2s, 1) := by decide +kernel
theorem dX4_setCell_50 : decode cX4_setCell 50 = .ok (.iastore, 1) := by decide +kernel
theorem dX4_setCell_51 : decode cX4_setCell 51 = .ok (.goto 10, 3) := by decide +kernel
theorem dX4_setCell_54 : decode cX4_setCell 54 = .ok (.aload_n 0, 1) := by decide +kernel
theorem dX4_setCell_55 : decode cX4_setCell 55 = .ok (.getfield 9, 3) := by decide +kernel
theorem dX4_setCell_58 : decode cX4_setCell 58 = .ok (.iload_n 1, 1) := by decide +kernel
theorem dX4_setCell_59 : decode cX4_setCell 59 = .ok (.iload_n 2, 1) := by decide +kernel
theorem dX4_setCell_60 : decode cX4_setCell 60 = .ok (.iastore, 1) := by decide +kernel
theorem dX4_setCell_61 : decode cX4_setCell 61 = .ok (.return_, 1) := by decide +kernel
theorem dX5_isSign_0 : decode cX5_isSign 0 = .ok (.iload_n 0, 1) := by decide +kernel
theorem dX5_isSign_1 : decode cX5_isSign 1 = .ok (.invokestatic 9, 3) := by decide +kernel
theorem dX5_isSign_4 : decode cX5_isSign 4 = .ok (.ifCond .ne 16, 3) := by decide +kernel
theorem dX5_isSign_7 : decode cX5_isSign 7 = .ok (.iload_n 0, 1) := by decide +kernel
theorem dX5_isSign_8 : decode cX5_isSign 8 = .ok (.invokestatic 15, 3) := by decide +kernel
theorem dX5_isSign_11 : decode cX5_isSign 11 = .ok (.ifCond .ne 9, 3) := by decide +kernel
theorem dX5_isSign_14 : decode cX5_isSign 14 = .ok (.iload_n 0, 1) := by decide +kernel
theorem dX5_isSign_15 : decode cX5_isSign 15 = .ok (.bipush 47, 2) := by decide +kernel
theorem dX5_isSign_17 : decode cX5_isSign 17 = .ok (.if_icmp .ne 7, 3) := by decide +kernel
theorem dX5_isSign_20 : decode cX5_isSign 20 = .ok (.iconst 1, 1) := by decide +kernel
theorem dX5_isSign_21 : decode cX5_isSign 21 = .ok (.goto 4, 3) := by decide +kernel
theorem dX5_isSign_24 : decode cX5_isSign 24 = .ok (.iconst 0, 1) := by decide +kernel
theorem dX5_isSign_25 : decode cX5_isSign 25 = .ok (.ireturn, 1) := by decide +kernel
theorem dX5_isLetter_0 : decode cX5_isLetter 0 = .ok (.iload_n 0, 1) := by decide +kernel
theorem dX5_isLetter_1 : decode cX5_isLetter 1 = .ok (.bipush 97, 2) := by decide +kernel
theorem dX5_isLetter_3 : decode cX5_isLetter 3 = .ok (.if_icmp .lt 13, 3) := by decide +kernel
theorem dX5_isLetter_6 : decode cX5_isLetter 6 = .ok (.iload_n 0, 1) := by decide +kernel
theorem dX5_isLetter_7 : decode cX5_isLetter 7 = .ok (.bipush 122, 2) := by decide +kernel
theorem dX5_isLetter_9 : decode cX5_isLetter 9 = .ok (.if_icmp .gt 7, 3) := by decide +kernel
theorem dX5_isLetter_12 : decode cX5_isLetter 12 = .ok (.iconst 1, 1) := by decide +kernel
theorem dX5_isLetter_13 : decode cX5_isLetter 13 = .ok (.goto 4, 3) := by decide +kernel
theorem dX5_isLetter_16 : decode cX5_isLetter 16 = .ok (.iconst 0, 1) := by decide +kernel
theorem dX5_isLetter_17 : decode cX5_isLetter 17 = .ok (.ireturn, 1) := by decide +kernel
theorem dX5_isBracket_0 : decode cX5_isBracket 0 = .ok (.iload_n 0, 1) := by decide +kernel
theorem dX5_isBracket_1 : decode cX5_isBracket 1 = .ok (.invokestatic 18, 3) := by decide +kernel
theorem dX5_isBracket_4 : decode cX5_isBracket 4 = .ok (.ifCond .ne 10, 3) := by decide +kernel
theorem dX5_isBracket_7 : decode cX5_isBracket 7 = .ok (.iload_n 0, 1) := by decide +kernel
theorem dX5_isBracket_8 : decode cX5_isBracket 8 = .ok (.invokestatic 21, 3) := by decide +kernel
theorem dX5_isBracket_11 : decode cX5_isBracket 11 = .ok (.ifCond .eq 7, 3) := by decide +kernel
theorem dX5_isBracket_14 : decode cX5_isBracket 14 = .ok (.iconst 1, 1) := by decide +kernel
theorem dX5_isBracket_15 : decode cX5_isBracket 15 = .ok (.goto 4, 3) := by decide +kernel
theorem dX5_isBracket_18 : decode cX5_isBracket 18 = .ok (.iconst 0, 1) := by decide +kernel
theorem dX5_isBracket_19 : decode cX5_isBracket 19 = .ok (.ireturn, 1) := by decide +kernel
theorem dX5_opens_0 : decode cX5_opens 0 = .ok (.iload_n 0, 1) := by decide +kernel
theorem dX5_opens_1 : decode cX5_opens 1 = .ok (.bipush 40, 2) := by decide +kernel
theorem dX5_opens_3 : decode cX5_opens 3 = .ok (.if_icmp .eq 15, 3) := by decide +kernel
theorem dX5_opens_6 : decode cX5_opens 6 = .ok (.iload_n 0, 1) := by decide +kernel
theorem dX5_opens_7 : decode cX5_opens 7 = .ok (.bipush 91, 2) := by decide +kernel
theorem dX5_opens_9 : decode cX5_opens 9 = .ok (.if_icmp .eq 9, 3) := by decide +kernel
theorem dX5_opens_12 : decode cX5_opens 12 = .ok (.iload_n 0, 1) := by decide +kernel
theorem dX5_opens_13 : decode cX5_opens 13 = .ok (.bipush 123, 2) := by decide +kernel
theorem dX5_opens_15 : decode cX5_opens 15 = .ok (.if_icmp .ne 7, 3) := by decide +kernel
theorem dX5_opens_18 : decode cX5_opens 18 = .ok (.iconst 1, 1) := by decide +kernel
theorem dX5_opens_19 : decode cX5_opens 19 = .ok (.goto 4, 3) := by decide +kernel
theorem dX5_opens_22 : decode cX5_opens 22 = .ok (.iconst 0, 1) := by decide +kernel
theorem dX5_opens_23 : decode cX5_opens 23 = .ok (.ireturn, 1) := by decide +kernel
theorem dX5_closes_0 : decode cX5_closes 0 = .ok (.iload_n 0, 1) := by decide +kernel
theorem dX5_closes_1 : decode cX5_closes 1 = .ok (.bipush 41, 2) := by decide +kernel
theorem dX5_closes_3 : decode cX5_closes 3 = .ok (.if_icmp .eq 15, 3) := by decide +kernel
theorem dX5_closes_6 : decode cX5_closes 6 = .ok (.iload_n 0, 1) := by decide +kernel
theorem dX5_closes_7 : decode cX5_closes 7 = .ok (.bipush 93, 2) := by decide +kernel
theorem dX5_closes_9 : decode cX5_closes 9 = .ok (.if_icmp .eq 9, 3) := by decide +kernel
theorem dX5_closes_12 : decode cX5_closes 12 = .ok (.iload_n 0, 1) := by decide +kernel
theorem dX5_closes_13 : decode cX5_closes 13 = .ok (.bipush 125, 2) := by decide +kernel
theorem dX5_closes_15 : decode cX5_closes 15 = .ok (.if_icmp .ne 7, 3) := by decide +kernel
theorem dX5_closes_18 : decode cX5_closes 18 = .ok (.iconst 1, 1) := by decide +kernel
theorem dX5_closes_19 : decode cX5_closes 19 = .ok (.goto 4, 3) := by decide +kernel
theorem dX5_closes_22 : decode cX5_closes 22 = .ok (.iconst 0, 1) := by decide +kernel
theorem dX5_closes_23 : decode cX5_closes 23 = .ok (.ireturn, 1) := by decide +kernel
theorem dX5_kindOf_0 : decode cX5_kindOf 0 = .ok (.iload_n 0, 1) := by decide +kernel
theorem dX5_kindOf_1 : decode cX5_kindOf 1 = .ok (.lookupswitch 65 #[(40, 59), (41, 59), (91, 61), (93, 61), (123, 63), (125, 63)], 59) := by decide +kernel
theorem dX5_kindOf_60 : decode cX5_kindOf 60 = .ok (.iconst 0, 1) := by decide +kernel
theorem dX5_kindOf_61 : decode cX5_kindOf 61 = .ok (.ireturn, 1) := by decide +kernel
theorem dX5_kindOf_62 : decode cX5_kindOf 62 = .ok (.iconst 1, 1) := by decide +kernel
theorem dX5_kindOf_63 : decode cX5_kindOf 63 = .ok (.ireturn, 1) := by decide +kernel
theorem dX5_kindOf_64 : decode cX5_kindOf 64 = .ok (.iconst 2, 1) := by decide +kernel
theorem dX5_kindOf_65 : decode cX5_kindOf 65 = .ok (.ireturn, 1) := by decide +kernel
theorem dX5_kindOf_66 : decode cX5_kindOf 66 = .ok (.bipush (-4), 2) := by decide +kernel
theorem dX5_kindOf_68 : decode cX5_kindOf 68 = .ok (.ireturn, 1) := by decide +kernel
theorem dX5_turned_0 : decode cX5_turned 0 = .ok (.iload_n 0, 1) := by decide +kernel
theorem dX5_turned_1 : decode cX5_turned 1 = .ok (.lookupswitch 77 #[(40, 59), (41, 62), (91, 65), (93, 68), (123, 71), (125, 74)], 59) := by decide +kernel
theorem dX5_turned_60 : decode cX5_turned 60 = .ok (.bipush 41, 2) := by decide +kernel
theorem dX5_turned_62 : decode cX5_turned 62 = .ok (.ireturn, 1) := by decide +kernel
theorem dX5_turned_63 : decode cX5_turned 63 = .ok (.bipush 40, 2) := by decide +kernel
theorem dX5_turned_65 : decode cX5_turned 65 = .ok (.ireturn, 1) := by decide +kernel
theorem dX5_turned_66 : decode cX5_turned 66 = .ok (.bipush 93, 2) := by decide +kernel
theorem dX5_turned_68 : decode cX5_turned 68 = .ok (.ireturn, 1) := by decide +kernel
theorem dX5_turned_69 : decode cX5_turned 69 = .ok (.bipush 91, 2) := by decide +kernel
theorem dX5_turned_71 : decode cX5_turned 71 = .ok (.ireturn, 1) := by decide +kernel
theorem dX5_turned_72 : decode cX5_turned 72 = .ok (.bipush 125, 2) := by decide +kernel
theorem dX5_turned_74 : decode cX5_turned 74 = .ok (.ireturn, 1) := by decide +kernel
theorem dX5_turned_75 : decode cX5_turned 75 = .ok (.bipush 123, 2) := by decide +kernel
theorem dX5_turned_77 : decode cX5_turned 77 = .ok (.ireturn, 1) := by decide +kernel
theorem dX5_turned_78 : decode cX5_turned 78 = .ok (.iload_n 0, 1) := by decide +kernel
theorem dX5_turned_79 : decode cX5_turned 79 = .ok (.ireturn, 1) := by decide +kernel
theorem dX6_init_0 : decode cX6_init 0 = .ok (.aload_n 0, 1) := by decide +kernel
theorem dX6_init_1 : decode cX6_init 1 = .ok (.invokespecial 3, 3) := by decide +kernel
theorem dX6_init_4 : decode cX6_init 4 = .ok (.aload_n 0, 1) := by decide +kernel
theorem dX6_init_5 : decode cX6_init 5 = .ok (.sipush 160, 3) := by decide +kernel
theorem dX6_init_8 : decode cX6_init 8 = .ok (.newarray .int, 2) := by decide +kernel
theorem dX6_init_10 : decode cX6_init 10 = .ok (.putfield 9, 3) := by decide +kernel
theorem dX6_init_13 : decode cX6_init 13 = .ok (.return_, 1) := by decide +kernel
theorem dX6_append_0 : decode cX6_append 0 = .ok (.aload_n 0, 1) := by decide +kernel
theorem dX6_append_1 : decode cX6_append 1 = .ok (.getfield 9, 3) := by decide +kernel
theorem dX6_append_4 : decode cX6_append 4 = .ok (.aload_n 0, 1) := by decide +kernel
theorem dX6_append_5 : decode cX6_append 5 = .ok (.getfield 15, 3) := by decide +kernel
theorem dX6_append_8 : decode cX6_append 8 = .ok (.iload_n 1, 1) := by decide +kernel
theorem dX6_append_9 : decode cX6_append 9 = .ok (.iastore, 1) := by decide +kernel
theorem dX6_append_10 : decode cX6_append 10 = .ok (.aload_n 0, 1) := by decide +kernel
theorem dX6_append_11 : decode cX6_append 11 = .ok (.dup, 1) := by decide +kernel
theorem dX6_append_12 : decode cX6_append 12 = .ok (.getfield 15, 3) := by decide +kernel
theorem dX6_append_15 : decode cX6_append 15 = .ok (.iconst 1, 1) := by decide +kernel
theorem dX6_append_16 : decode cX6_append 16 = .ok (.iadd, 1) := by decide +kernel
theorem dX6_append_17 : decode cX6_append 17 = .ok (.putfield 15, 3) := by decide +kernel
theorem dX6_append_20 : decode cX6_append 20 = .ok (.return_, 1) := by decide +kernel
theorem dX6_shorten_0 : decode cX6_shorten 0 = .ok (.aload_n 0, 1) := by decide +kernel
theorem dX6_shorten_1 : decode cX6_shorten 1 = .ok (.iload_n 1, 1) := by decide +kernel
theorem dX6_shorten_2 : decode cX6_shorten 2 = .ok (.putfield 15, 3) := by decide +kernel
theorem dX6_shorten_5 : decode cX6_shorten 5 = .ok (.return_, 1) := by decide +kernel
theorem dX7_init_0 : decode cX7_init 0 = .ok (.aload_n 0, 1) := by decide +kernel
theorem dX7_init_1 : decode cX7_init 1 = .ok (.invokespecial 3, 3) := by decide +kernel
theorem dX7_init_4 : decode cX7_init 4 = .ok (.aload_n 0, 1) := by decide +kernel
theorem dX7_init_5 : decode cX7_init 5 = .ok (.new 9, 3) := by decide +kernel
theorem dX7_init_8 : decode cX7_init 8 = .ok (.dup, 1) := by decide +kernel
theorem dX7_init_9 : decode cX7_init 9 = .ok (.invokespecial 11, 3) := by decide +kernel
theorem dX7_init_12 : decode cX7_init 12 = .ok (.putfield 12, 3) := by decide +kernel
theorem dX7_init_15 : decode cX7_init 15 = .ok (.aload_n 0, 1) := by decide +kernel
theorem dX7_init_16 : decode cX7_init 16 = .ok (.aload_n 0, 1) := by decide +kernel
theorem dX7_init_17 : decode cX7_init 17 = .ok (.getfield 12, 3) := by decide +kernel
theorem dX7_init_20 : decode cX7_init 20 = .ok (.getfield 18, 3) := by decide +kernel
theorem dX7_init_23 : decode cX7_init 23 = .ok (.putfield 22, 3) := by decide +kernel
theorem dX7_init_26 : decode cX7_init 26 = .ok (.aload_n 0, 1) := by decide +kernel
theorem dX7_init_27 : decode cX7_init 27 = .ok (.aload_n 0, 1) := by decide +kernel
theorem dX7_init_28 : decode cX7_init 28 = .ok (.getfield 12, 3) := by decide +kernel
theorem dX7_init_31 : decode cX7_init 31 = .ok (.getfield 23, 3) := by decide +kernel
theorem dX7_init_34 : decode cX7_init 34 = .ok (.putfield 27, 3) := by decide +kernel
theorem dX7_init_37 : decode cX7_init 37 = .ok (.aload_n 0, 1) := by decide +kernel
theorem dX7_init_38 : decode cX7_init 38 = .ok (.new 28, 3) := by decide +kernel
theorem dX7_init_41 : decode cX7_init 41 = .ok (.dup, 1) := by decide +kernel
theorem dX7_init_42 : decode cX7_init 42 = .ok (.invokespecial 30, 3) := by decide +kernel
theorem dX7_init_45 : decode cX7_init 45 = .ok (.putfield 31, 3) := by decide +kernel
theorem dX7_init_48 : decode cX7_init 48 = .ok (.aload_n 0, 1) := by decide +kernel
theorem dX7_init_49 : decode cX7_init 49 = .ok (.bipush 60, 2) := by decide +kernel
theorem dX7_init_51 : decode cX7_init 51 = .ok (.newarray .boolean, 2) := by decide +kernel
theorem dX7_init_53 : decode cX7_init 53 = .ok (.putfield 35, 3) := by decide +kernel
theorem dX7_init_56 : decode cX7_init 56 = .ok (.return_, 1) := by decide +kernel
theorem dX7_takeText_0 : decode cX7_takeText 0 = .ok (.aload_n 0, 1) := by decide +kernel
theorem dX7_takeText_1 : decode cX7_takeText 1 = .ok (.invokevirtual 39, 3) := by decide +kernel
theorem dX7_takeText_4 : decode cX7_takeText 4 = .ok (.iconst 0, 1) := by decide +kernel
theorem dX7_takeText_5 : decode cX7_takeText 5 = .ok (.istore_n 1, 1) := by decide +kernel
theorem dX7_takeText_6 : decode cX7_takeText 6 = .ok (.iload_n 1, 1) := by decide +kernel
theorem dX7_takeText_7 : decode cX7_takeText 7 = .ok (.sipush 160, 3) := by decide +kernel
theorem dX7_takeText_10 : decode cX7_takeText 10 = .ok (.if_icmp .gt 83, 3) := by decide +kernel
theorem dX7_takeText_13 : decode cX7_takeText 13 = .ok (.aload_n 0, 1) := by decide +kernel
theorem dX7_takeText_14 : decode cX7_takeText 14 = .ok (.getfield 12, 3) := by decide +kernel
theorem dX7_takeText_17 : decode cX7_takeText 17 = .ok (.invokevirtual 42, 3) := by decide +kernel
theorem dX7_takeText_20 : decode cX7_takeText 20 = .ok (.ifCond .ne 5, 3) := by decide +kernel
theorem dX7_takeText_23 : decode cX7_takeText 23 = .ok (.iconst 0, 1) := by decide +kernel
theorem dX7_takeText_24 : decode cX7_takeText 24 = .ok (.ireturn, 1) := by decide +kernel
theorem dX7_takeText_25 : decode cX7_takeText 25 = .ok (.aload_n 0, 1) := by decide +kernel
theorem dX7_takeText_26 : decode cX7_takeText 26 = .ok (.getfield 12, 3) := by decide +kernel
theorem dX7_takeText_29 : decode cX7_takeText 29 = .ok (.getfield 46, 3) := by decide +kernel
theorem dX7_takeText_32 : decode cX7_takeText 32 = .ok (.ifCond .ne 16, 3) := by decide +kernel
theorem dX7_takeText_35 : decode cX7_takeText 35 = .ok (.aload_n 0, 1) := by decide +kernel
theorem dX7_takeText_36 : decode cX7_takeText 36 = .ok (.getfield 50, 3) := by decide +kernel
theorem dX7_takeText_39 : decode cX7_takeText 39 = .ok (.iconst 1, 1) := by decide +kernel
theorem dX7_takeText_40 : decode cX7_takeText 40 = .ok (.if_icmp .ne 8, 3) := by decide +kernel
theorem dX7_takeText_43 : decode cX7_takeText 43 = .ok (.aload_n 0, 1) := by decide +kernel
theorem dX7_takeText_44 : decode cX7_takeText 44 = .ok (.invokevirtual 53, 3) := by decide +kernel
theorem dX7_takeText_47 : decode cX7_takeText 47 = .ok (.ireturn, 1) := by decide +kernel
theorem dX7_takeText_48 : decode cX7_takeText 48 = .ok (.aload_n 0, 1) := by decide +kernel
theorem dX7_takeText_49 : decode cX7_takeText 49 = .ok (.getfield 12, 3) := by decide +kernel
theorem dX7_takeText_52 : decode cX7_takeText 52 = .ok (.getfield 46, 3) := by decide +kernel
theorem dX7_takeText_55 : decode cX7_takeText 55 = .ok (.aload_n 0, 1) := by decide +kernel
theorem dX7_takeText_56 : decode cX7_takeText 56 = .ok (.getfield 50, 3) := by decide +kernel
theorem dX7_takeText_59 : decode cX7_takeText 59 = .ok (.if_icmp .eq 19, 3) := by decide +kernel
theorem dX7_takeText_62 : decode cX7_takeText 62 = .ok (.aload_n 0, 1) := by decide +kernel
theorem dX7_takeText_63 : decode cX7_takeText 63 = .ok (.getfield 27, 3) := by decide +kernel
theorem dX7_takeText_66 : decode cX7_takeText 66 = .ok (.iconst 2, 1) := by decide +kernel
theorem dX7_takeText_67 : decode cX7_takeText 67 = .ok (.aload_n 0, 1) := by decide +kernel
theorem dX7_takeText_68 : decode cX7_takeText 68 = .ok (.getfield 12, 3) := by decide +kernel
theorem dX7_takeText_71 : decode cX7_takeText 71 = .ok (.getfield 58, 3) := by decide +kernel
theorem dX7_takeText_74 : decode cX7_takeText 74 = .ok (.invokevirtual 61, 3) := by decide +kernel
theorem dX7_takeText_77 : decode cX7_takeText 77 = .ok (.ireturn, 1) := by decide +kernel
theorem dX7_takeText_78 : decode cX7_takeText 78 = .ok (.aload_n 0, 1) := by decide +kernel
theorem dX7_takeText_79 : decode cX7_takeText 79 = .ok (.invokevirtual 65, 3) := by decide +kernel
theorem dX7_takeText_82 : decode cX7_takeText 82 = .ok (.ifCond .ne 5, 3) := by decide +kernel
theorem dX7_takeText_85 : decode cX7_takeText 85 = .ok (.iconst 0, 1) := by decide +kernel
theorem dX7_takeText_86 : decode cX7_takeText 86 = .ok (.ireturn, 1) := by decide +kernel
theorem dX7_takeText_87 : decode cX7_takeText 87 = .ok (.iinc 1 1, 3) := by decide +kernel
theorem dX7_takeText_90 : decode cX7_takeText 90 = .ok (.goto (-84), 3) := by decide +kernel
theorem dX7_takeText_93 : decode cX7_takeText 93 = .ok (.aload_n 0, 1) := by decide +kernel
theorem dX7_takeText_94 : decode cX7_takeText 94 = .ok (.getfield 27, 3) := by decide +kernel
theorem dX7_takeText_97 : decode cX7_takeText 97 = .ok (.iconst 2, 1) := by decide +kernel
theorem dX7_takeText_98 : decode cX7_takeText 98 = .ok (.aload_n 0, 1) := by decide +kernel
theorem dX7_takeText_99 : decode cX7_takeText 99 = .ok (.getfield 22, 3) := by decide +kernel
theorem dX7_takeText_102 : decode cX7_takeText 102 = .ok (.getfield 68, 3) := by decide +kernel
theorem dX7_takeText_105 : decode cX7_takeText 105 = .ok (.invokevirtual 61, 3) := by decide +kernel
theorem dX7_takeText_108 : decode cX7_takeText 108 = .ok (.ireturn, 1) := by decide +kernel
theorem dX7_restart_0 : decode cX7_restart 0 = .ok (.aload_n 0, 1) := by decide +kernel
theorem dX7_restart_1 : decode cX7_restart 1 = .ok (.getfield 27, 3) := by decide +kernel
theorem dX7_restart_4 : decode cX7_restart 4 = .ok (.invokevirtual 73, 3) := by decide +kernel
theorem dX7_restart_7 : decode cX7_restart 7 = .ok (.aload_n 0, 1) := by decide +kernel
theorem dX7_restart_8 : decode cX7_restart 8 = .ok (.getfield 12, 3) := by decide +kernel
theorem dX7_restart_11 : decode cX7_restart 11 = .ok (.invokevirtual 74, 3) := by decide +kernel
theorem dX7_restart_14 : decode cX7_restart 14 = .ok (.aload_n 0, 1) := by decide +kernel
theorem dX7_restart_15 : decode cX7_restart 15 = .ok (.getfield 31, 3) := by decide +kernel
theorem dX7_restart_18 : decode cX7_restart 18 = .ok (.invokevirtual 75, 3) := by decide +kernel
theorem dX7_restart_21 : decode cX7_restart 21 = .ok (.iconst 0, 1) := by decide +kernel
theorem dX7_restart_22 : decode cX7_restart 22 = .ok (.istore_n 1, 1) := by decide +kernel
theorem dX7_restart_23 : decode cX7_restart 23 = .ok (.iload_n 1, 1) := by decide +kernel
theorem dX7_restart_24 : decode cX7_restart 24 = .ok (.bipush 60, 2) := by decide +kernel
theorem dX7_restart_26 : decode cX7_restart 26 = .ok (.if_icmp .ge 16, 3) := by decide +kernel
theorem dX7_restart_29 : decode cX7_restart 29 = .ok (.aload_n 0, 1) := by decide +kernel
theorem dX7_restart_30 : decode cX7_restart 30 = .ok (.getfield 35, 3) := by decide +kernel
theorem dX7_restart_33 : decode cX7_restart 33 = .ok (.iload_n 1, 1) := by decide +kernel
theorem dX7_restart_34 : decode cX7_restart 34 = .ok (.iconst 0, 1) := by decide +kernel
theorem dX7_restart_35 : decode cX7_restart 35 = .ok (.bastore, 1) := by decide +kernel
theorem dX7_restart_36 : decode cX7_restart 36 = .ok (.iinc 1 1, 3) := by decide +kernel
theorem dX7_restart_39 : decode cX7_restart 39 = .ok (.goto (-16), 3) := by decide +kernel
theorem dX7_restart_42 : decode cX7_restart 42 = .ok (.aload_n 0, 1) := by decide +kernel
theorem dX7_restart_43 : decode cX7_restart 43 = .ok (.iconst 1, 1) := by decide +kernel
theorem dX7_restart_44 : decode cX7_restart 44 = .ok (.putfield 50, 3) := by decide +kernel
theorem dX7_restart_47 : decode cX7_restart 47 = .ok (.return_, 1) := by decide +kernel
theorem dX7_takeToken_0 : decode cX7_takeToken 0 = .ok (.aload_n 0, 1) := by decide +kernel
theorem dX7_takeToken_1 : decode cX7_takeToken 1 = .ok (.getfield 50, 3) := by decide +kernel
theorem dX7_takeToken_4 : decode cX7_takeToken 4 = .ok (.tableswitch 47 1 4 #[32, 37, 47, 42], 32) := by decide +kernel
theorem dX7_takeToken_36 : decode cX7_takeToken 36 = .ok (.aload_n 0, 1) := by decide +kernel
theorem dX7_takeToken_37 : decode cX7_takeToken 37 = .ok (.invokevirtual 78, 3) := by decide +kernel
theorem dX7_takeToken_40 : decode cX7_takeToken 40 = .ok (.ireturn, 1) := by decide +kernel
theorem dX7_takeToken_41 : decode cX7_takeToken 41 = .ok (.aload_n 0, 1) := by decide +kernel
theorem dX7_takeToken_42 : decode cX7_takeToken 42 = .ok (.invokevirtual 81, 3) := by decide +kernel
theorem dX7_takeToken_45 : decode cX7_takeToken 45 = .ok (.ireturn, 1) := by decide +kernel
theorem dX7_takeToken_46 : decode cX7_takeToken 46 = .ok (.aload_n 0, 1) := by decide +kernel
theorem dX7_takeToken_47 : decode cX7_takeToken 47 = .ok (.invokevirtual 84, 3) := by decide +kernel
theorem dX7_takeToken_50 : decode cX7_takeToken 50 = .ok (.ireturn, 1) := by decide +kernel
theorem dX7_takeToken_51 : decode cX7_takeToken 51 = .ok (.aload_n 0, 1) := by decide +kernel
theorem dX7_takeToken_52 : decode cX7_takeToken 52 = .ok (.getfield 27, 3) := by decide +kernel
theorem dX7_takeToken_55 : decode cX7_takeToken 55 = .ok (.invokevirtual 87, 3) := by decide +kernel
theorem dX7_takeToken_58 : decode cX7_takeToken 58 = .ok (.aload_n 0, 1) := by decide +kernel
theorem dX7_takeToken_59 : decode cX7_takeToken 59 = .ok (.iconst 1, 1) := by decide +kernel
theorem dX7_takeToken_60 : decode cX7_takeToken 60 = .ok (.putfield 50, 3) := by decide +kernel
theorem dX7_takeToken_63 : decode cX7_takeToken 63 = .ok (.iconst 1, 1) := by decide +kernel
theorem dX7_takeToken_64 : decode cX7_takeToken 64 = .ok (.ireturn, 1) := by decide +kernel
theorem dX7_takeName_0 : decode cX7_takeName 0 = .ok (.aload_n 0, 1) := by decide +kernel
theorem dX7_takeName_1 : decode cX7_takeName 1 = .ok (.iconst 1, 1) := by decide +kernel
theorem dX7_takeName_2 : decode cX7_takeName 2 = .ok (.putfield 90, 3) := by decide +kernel
theorem dX7_takeName_5 : decode cX7_takeName 5 = .ok (.aload_n 0, 1) := by decide +kernel
theorem dX7_takeName_6 : decode cX7_takeName 6 = .ok (.aload_n 0, 1) := by decide +kernel
theorem dX7_takeName_7 : decode cX7_takeName 7 = .ok (.getfield 12, 3) := by decide +kernel
theorem dX7_takeName_10 : decode cX7_takeName 10 = .ok (.ldc 93, 2) := by decide +kernel
theorem dX7_takeName_12 : decode cX7_takeName 12 = .ok (.invokevirtual 95, 3) := by decide +kernel
theorem dX7_takeName_15 : decode cX7_takeName 15 = .ok (.putfield 99, 3) := by decide +kernel
theorem dX7_takeName_18 : decode cX7_takeName 18 = .ok (.aload_n 0, 1) := by decide +kernel
theorem dX7_takeName_19 : decode cX7_takeName 19 = .ok (.getfield 12, 3) := by decide +kernel
theorem dX7_takeName_22 : decode cX7_takeName 22 = .ok (.ldc 103, 2) := by decide +kernel
theorem dX7_takeName_24 : decode cX7_takeName 24 = .ok (.invokevirtual 95, 3) := by decide +kernel
theorem dX7_takeName_27 : decode cX7_takeName 27 = .ok (.ifCond .eq 9, 3) := by decide +kernel
theorem dX7_takeName_30 : decode cX7_takeName 30 = .ok (.aload_n 0, 1) := by decide +kernel
theorem dX7_takeName_31 : decode cX7_takeName 31 = .ok (.iconst 4, 1) := by decide +kernel
theorem dX7_takeName_32 : decode cX7_takeName 32 = .ok (.invokevirtual 105, 3) := by decide +kernel
theorem dX7_takeName_35 : decode cX7_takeName 35 = .ok (.ireturn, 1) := by decide +kernel
theorem dX7_takeName_36 : decode cX7_takeName 36 = .ok (.aload_n 0, 1) := by decide +kernel
theorem dX7_takeName_37 : decode cX7_takeName 37 = .ok (.getfield 99, 3) := by decide +kernel
theorem dX7_takeName_40 : decode cX7_takeName 40 = .ok (.ifCond .ne 15, 3) := by decide +kernel
theorem dX7_takeName_43 : decode cX7_takeName 43 = .ok (.aload_n 0, 1) := by decide +kernel
theorem dX7_takeName_44 : decode cX7_takeName 44 = .ok (.getfield 12, 3) := by decide +kernel
theorem dX7_takeName_47 : decode cX7_takeName 47 = .ok (.ldc 109, 2) := by decide +kernel
theorem dX7_takeName_49 : decode cX7_takeName 49 = .ok (.invokevirtual 95, 3) := by decide +kernel
theorem dX7_takeName_52 : decode cX7_takeName 52 = .ok (.ifCond .eq 9, 3) := by decide +kernel
theorem dX7_takeName_55 : decode cX7_takeName 55 = .ok (.aload_n 0, 1) := by decide +kernel
theorem dX7_takeName_56 : decode cX7_takeName 56 = .ok (.iconst 2, 1) := by decide +kernel
theorem dX7_takeName_57 : decode cX7_takeName 57 = .ok (.invokevirtual 105, 3) := by decide +kernel
theorem dX7_takeName_60 : decode cX7_takeName 60 = .ok (.ireturn, 1) := by decide +kernel
theorem dX7_takeName_61 : decode cX7_takeName 61 = .ok (.aload_n 0, 1) := by decide +kernel
theorem dX7_takeName_62 : decode cX7_takeName 62 = .ok (.getfield 27, 3) := by decide +kernel
theorem dX7_takeName_65 : decode cX7_takeName 65 = .ok (.iconst 2, 1) := by decide +kernel
theorem dX7_takeName_66 : decode cX7_takeName 66 = .ok (.aload_n 0, 1) := by decide +kernel
theorem dX7_takeName_67 : decode cX7_takeName 67 = .ok (.getfield 12, 3) := by decide +kernel
theorem dX7_takeName_70 : decode cX7_takeName 70 = .ok (.getfield 58, 3) := by decide +kernel
theorem dX7_takeName_73 : decode cX7_takeName 73 = .ok (.invokevirtual 61, 3) := by decide +kernel
theorem dX7_takeName_76 : decode cX7_takeName 76 = .ok (.ireturn, 1) := by decide +kernel
theorem dX7_takeNumber_0 : decode cX7_takeNumber 0 = .ok (.aload_n 0, 1) := by decide +kernel
theorem dX7_takeNumber_1 : decode cX7_takeNumber 1 = .ok (.getfield 99, 3) := by decide +kernel
theorem dX7_takeNumber_4 : decode cX7_takeNumber 4 = .ok (.ifCond .eq 7, 3) := by decide +kernel
theorem dX7_takeNumber_7 : decode cX7_takeNumber 7 = .ok (.iconst 0, 1) := by decide +kernel
theorem dX7_takeNumber_8 : decode cX7_takeNumber 8 = .ok (.goto 4, 3) := by decide +kernel
theorem dX7_takeNumber_11 : decode cX7_takeNumber 11 = .ok (.iconst 1, 1) := by decide +kernel
theorem dX7_takeNumber_12 : decode cX7_takeNumber 12 = .ok (.istore_n 1, 1) := by decide +kernel
theorem dX7_takeNumber_13 : decode cX7_takeNumber 13 = .ok (.aload_n 0, 1) := by decide +kernel
theorem dX7_takeNumber_14 : decode cX7_takeNumber 14 = .ok (.getfield 99, 3) := by decide +kernel
theorem dX7_takeNumber_17 : decode cX7_takeNumber 17 = .ok (.ifCond .eq 8, 3) := by decide +kernel
theorem dX7_takeNumber_20 : decode cX7_takeNumber 20 = .ok (.bipush 59, 2) := by decide +kernel
theorem dX7_takeNumber_22 : decode cX7_takeNumber 22 = .ok (.goto 5, 3) := by decide +kernel
theorem dX7_takeNumber_25 : decode cX7_takeNumber 25 = .ok (.bipush 9, 2) := by decide +kernel
theorem dX7_takeNumber_27 : decode cX7_takeNumber 27 = .ok (.istore_n 2, 1) := by decide +kernel
theorem dX7_takeNumber_28 : decode cX7_takeNumber 28 = .ok (.aload_n 0, 1) := by decide +kernel
theorem dX7_takeNumber_29 : decode cX7_takeNumber 29 = .ok (.getfield 12, 3) := by decide +kernel
theorem dX7_takeNumber_32 : decode cX7_takeNumber 32 = .ok (.getfield 111, 3) := by decide +kernel
theorem dX7_takeNumber_35 : decode cX7_takeNumber 35 = .ok (.iload_n 1, 1) := by decide +kernel
theorem dX7_takeNumber_36 : decode cX7_takeNumber 36 = .ok (.if_icmp .lt 14, 3) := by decide +kernel
theorem dX7_takeNumber_39 : decode cX7_takeNumber 39 = .ok (.aload_n 0, 1) := by decide +kernel
theorem dX7_takeNumber_40 : decode cX7_takeNumber 40 = .ok (.getfield 12, 3) := by decide +kernel
theorem dX7_takeNumber_43 : decode cX7_takeNumber 43 = .ok (.getfield 111, 3) := by decide +kernel
theorem dX7_takeNumber_46 : decode cX7_takeNumber 46 = .ok (.iload_n 2, 1) := by decide +kernel
theorem dX7_takeNumber_47 : decode cX7_takeNumber 47 = .ok (.if_icmp .le 19, 3) := by decide +kernel
theorem dX7_takeNumber_50 : decode cX7_takeNumber 50 = .ok (.aload_n 0, 1) := by decide +kernel
theorem dX7_takeNumber_51 : decode cX7_takeNumber 51 = .ok (.getfield 27, 3) := by decide +kernel
theorem dX7_takeNumber_54 : decode cX7_takeNumber 54 = .ok (.iconst 3, 1) := by decide +kernel
theorem dX7_takeNumber_55 : decode cX7_takeNumber 55 = .ok (.aload_n 0, 1) := by decide +kernel
theorem dX7_takeNumber_56 : decode cX7_takeNumber 56 = .ok (.getfield 12, 3) := by decide +kernel
theorem dX7_takeNumber_59 : decode cX7_takeNumber 59 = .ok (.getfield 58, 3) := by decide +kernel
theorem dX7_takeNumber_62 : decode cX7_takeNumber 62 = .ok (.invokevirtual 61, 3) := by decide +kernel
theorem dX7_takeNumber_65 : decode cX7_takeNumber 65 = .ok (.ireturn, 1) := by decide +kernel
theorem dX7_takeNumber_66 : decode cX7_takeNumber 66 = .ok (.aload_n 0, 1) := by decide +kernel
theorem dX7_takeNumber_67 : decode cX7_takeNumber 67 = .ok (.getfield 99, 3) := by decide +kernel
theorem dX7_takeNumber_70 : decode cX7_takeNumber 70 = .ok (.ifCond .eq 22, 3) := by decide +kernel
theorem dX7_takeNumber_73 : decode cX7_takeNumber 73 = .ok (.aload_n 0, 1) := by decide +kernel
theorem dX7_takeNumber_74 : decode cX7_takeNumber 74 = .ok (.getfield 35, 3) := by decide +kernel
theorem dX7_takeNumber_77 : decode cX7_takeNumber 77 = .ok (.aload_n 0, 1) := by decide +kernel
theorem dX7_takeNumber_78 : decode cX7_takeNumber 78 = .ok (.getfield 12, 3) := by decide +kernel
theorem dX7_takeNumber_81 : decode cX7_takeNumber 81 = .ok (.getfield 111, 3) := by decide +kernel
theorem dX7_takeNumber_84 : decode cX7_takeNumber 84 = .ok (.iconst 1, 1) := by decide +kernel
theorem dX7_takeNumber_85 : decode cX7_takeNumber 85 = .ok (.bastore, 1) := by decide +kernel
theorem dX7_takeNumber_86 : decode cX7_takeNumber 86 = .ok (.aload_n 0, 1) := by decide +kernel
theorem dX7_takeNumber_87 : decode cX7_takeNumber 87 = .ok (.iconst 3, 1) := by decide +kernel
theorem dX7_takeNumber_88 : decode cX7_takeNumber 88 = .ok (.invokevirtual 105, 3) := by decide +kernel
theorem dX7_takeNumber_91 : decode cX7_takeNumber 91 = .ok (.ireturn, 1) := by decide +kernel
theorem dX7_takeNumber_92 : decode cX7_takeNumber 92 = .ok (.aload_n 0, 1) := by decide +kernel
theorem dX7_takeNumber_93 : decode cX7_takeNumber 93 = .ok (.aload_n 0, 1) := by decide +kernel
theorem dX7_takeNumber_94 : decode cX7_takeNumber 94 = .ok (.getfield 12, 3) := by decide +kernel
theorem dX7_takeNumber_97 : decode cX7_takeNumber 97 = .ok (.getfield 111, 3) := by decide +kernel
theorem dX7_takeNumber_100 : decode cX7_takeNumber 100 = .ok (.putfield 90, 3) := by decide +kernel
theorem dX7_takeNumber_103 : decode cX7_takeNumber 103 = .ok (.aload_n 0, 1) := by decide +kernel
theorem dX7_takeNumber_104 : decode cX7_takeNumber 104 = .ok (.iconst 4, 1) := by decide +kernel
theorem dX7_takeNumber_105 : decode cX7_takeNumber 105 = .ok (.invokevirtual 105, 3) := by decide +kernel
theorem dX7_takeNumber_108 : decode cX7_takeNumber 108 = .ok (.ireturn, 1) := by decide +kernel
theorem dX7_takeQuote_0 : decode cX7_takeQuote 0 = .ok (.aload_n 0, 1) := by decide +kernel
theorem dX7_takeQuote_1 : decode cX7_takeQuote 1 = .ok (.getfield 12, 3) := by decide +kernel
theorem dX7_takeQuote_4 : decode cX7_takeQuote 4 = .ok (.getfield 58, 3) := by decide +kernel
theorem dX7_takeQuote_7 : decode cX7_takeQuote 7 = .ok (.iconst 1, 1) := by decide +kernel
theorem dX7_takeQuote_8 : decode cX7_takeQuote 8 = .ok (.iadd, 1) := by decide +kernel
theorem dX7_takeQuote_9 : decode cX7_takeQuote 9 = .ok (.istore_n 1, 1) := by decide +kernel
theorem dX7_takeQuote_10 : decode cX7_takeQuote 10 = .ok (.aload_n 0, 1) := by decide +kernel
theorem dX7_takeQuote_11 : decode cX7_takeQuote 11 = .ok (.getfield 12, 3) := by decide +kernel
theorem dX7_takeQuote_14 : decode cX7_takeQuote 14 = .ok (.getfield 114, 3) := by decide +kernel
theorem dX7_takeQuote_17 : decode cX7_takeQuote 17 = .ok (.iconst 1, 1) := by decide +kernel
theorem dX7_takeQuote_18 : decode cX7_takeQuote 18 = .ok (.isub, 1) := by decide +kernel
theorem dX7_takeQuote_19 : decode cX7_takeQuote 19 = .ok (.istore_n 2, 1) := by decide +kernel
theorem dX7_takeQuote_20 : decode cX7_takeQuote 20 = .ok (.aload_n 0, 1) := by decide +kernel
theorem dX7_takeQuote_21 : decode cX7_takeQuote 21 = .ok (.getfield 90, 3) := by decide +kernel
theorem dX7_takeQuote_24 : decode cX7_takeQuote 24 = .ok (.iload_n 2, 1) := by decide +kernel
theorem dX7_takeQuote_25 : decode cX7_takeQuote 25 = .ok (.iload_n 1, 1) := by decide +kernel
theorem dX7_takeQuote_26 : decode cX7_takeQuote 26 = .ok (.isub, 1) := by decide +kernel
theorem dX7_takeQuote_27 : decode cX7_takeQuote 27 = .ok (.imul, 1) := by decide +kernel
theorem dX7_takeQuote_28 : decode cX7_takeQuote 28 = .ok (.aload_n 0, 1) := by decide +kernel
theorem dX7_takeQuote_29 : decode cX7_takeQuote 29 = .ok (.getfield 31, 3) := by decide +kernel
theorem dX7_takeQuote_32 : decode cX7_takeQuote 32 = .ok (.invokevirtual 117, 3) := by decide +kernel
theorem dX7_takeQuote_35 : decode cX7_takeQuote 35 = .ok (.if_icmp .le 19, 3) := by decide +kernel
theorem dX7_takeQuote_38 : decode cX7_takeQuote 38 = .ok (.aload_n 0, 1) := by decide +kernel
theorem dX7_takeQuote_39 : decode cX7_takeQuote 39 = .ok (.getfield 27, 3) := by decide +kernel
theorem dX7_takeQuote_42 : decode cX7_takeQuote 42 = .ok (.iconst 5, 1) := by decide +kernel
theorem dX7_takeQuote_43 : decode cX7_takeQuote 43 = .ok (.aload_n 0, 1) := by decide +kernel
theorem dX7_takeQuote_44 : decode cX7_takeQuote 44 = .ok (.getfield 12, 3) := by decide +kernel
theorem dX7_takeQuote_47 : decode cX7_takeQuote 47 = .ok (.getfield 58, 3) := by decide +kernel
theorem dX7_takeQuote_50 : decode cX7_takeQuote 50 = .ok (.invokevirtual 61, 3) := by decide +kernel
theorem dX7_takeQuote_53 : decode cX7_takeQuote 53 = .ok (.ireturn, 1) := by decide +kernel
theorem dX7_takeQuote_54 : decode cX7_takeQuote 54 = .ok (.iconst 0, 1) := by decide +kernel
theorem dX7_takeQuote_55 : decode cX7_takeQuote 55 = .ok (.istore_n 3, 1) := by decide +kernel
theorem dX7_takeQuote_56 : decode cX7_takeQuote 56 = .ok (.iload_n 3, 1) := by decide +kernel
theorem dX7_takeQuote_57 : decode cX7_takeQuote 57 = .ok (.aload_n 0, 1) := by decide +kernel
theorem dX7_takeQuote_58 : decode cX7_takeQuote 58 = .ok (.getfield 90, 3) := by decide +kernel
theorem dX7_takeQuote_61 : decode cX7_takeQuote 61 = .ok (.if_icmp .ge 48, 3) := by decide +kernel
theorem dX7_takeQuote_64 : decode cX7_takeQuote 64 = .ok (.iload_n 1, 1) := by decide +kernel
theorem dX7_takeQuote_65 : decode cX7_takeQuote 65 = .ok (.istore 4, 2) := by decide +kernel
theorem dX7_takeQuote_67 : decode cX7_takeQuote 67 = .ok (.iload 4, 2) := by decide +kernel
theorem dX7_takeQuote_69 : decode cX7_takeQuote 69 = .ok (.iload_n 2, 1) := by decide +kernel
theorem dX7_takeQuote_70 : decode cX7_takeQuote 70 = .ok (.if_icmp .ge 33, 3) := by decide +kernel
theorem dX7_takeQuote_73 : decode cX7_takeQuote 73 = .ok (.aload_n 0, 1) := by decide +kernel
theorem dX7_takeQuote_74 : decode cX7_takeQuote 74 = .ok (.getfield 31, 3) := by decide +kernel
theorem dX7_takeQuote_77 : decode cX7_takeQuote 77 = .ok (.aload_n 0, 1) := by decide +kernel
theorem dX7_takeQuote_78 : decode cX7_takeQuote 78 = .ok (.getfield 31, 3) := by decide +kernel
theorem dX7_takeQuote_81 : decode cX7_takeQuote 81 = .ok (.getfield 121, 3) := by decide +kernel
theorem dX7_takeQuote_84 : decode cX7_takeQuote 84 = .ok (.aload_n 0, 1) := by decide +kernel
theorem dX7_takeQuote_85 : decode cX7_takeQuote 85 = .ok (.getfield 22, 3) := by decide +kernel
theorem dX7_takeQuote_88 : decode cX7_takeQuote 88 = .ok (.getfield 124, 3) := by decide +kernel
theorem dX7_takeQuote_91 : decode cX7_takeQuote 91 = .ok (.iload 4, 2) := by decide +kernel
theorem dX7_takeQuote_93 : decode cX7_takeQuote 93 = .ok (.iaload, 1) := by decide +kernel
theorem dX7_takeQuote_94 : decode cX7_takeQuote 94 = .ok (.invokevirtual 128, 3) := by decide +kernel
theorem dX7_takeQuote_97 : decode cX7_takeQuote 97 = .ok (.iinc 4 1, 3) := by decide +kernel
theorem dX7_takeQuote_100 : decode cX7_takeQuote 100 = .ok (.goto (-33), 3) := by decide +kernel
theorem dX7_takeQuote_103 : decode cX7_takeQuote 103 = .ok (.iinc 3 1, 3) := by decide +kernel
theorem dX7_takeQuote_106 : decode cX7_takeQuote 106 = .ok (.goto (-50), 3) := by decide +kernel
theorem dX7_takeQuote_109 : decode cX7_takeQuote 109 = .ok (.aload_n 0, 1) := by decide +kernel
theorem dX7_takeQuote_110 : decode cX7_takeQuote 110 = .ok (.iconst 3, 1) := by decide +kernel
theorem dX7_takeQuote_111 : decode cX7_takeQuote 111 = .ok (.invokevirtual 105, 3) := by decide +kernel
theorem dX7_takeQuote_114 : decode cX7_takeQuote 114 = .ok (.ireturn, 1) := by decide +kernel
theorem dX7_goOnWith_0 : decode cX7_goOnWith 0 = .ok (.aload_n 0, 1) := by decide +kernel
theorem dX7_goOnWith_1 : decode cX7_goOnWith 1 = .ok (.getfield 27, 3) := by decide +kernel
theorem dX7_goOnWith_4 : decode cX7_goOnWith 4 = .ok (.invokevirtual 132, 3) := by decide +kernel
theorem dX7_goOnWith_7 : decode cX7_goOnWith 7 = .ok (.aload_n 0, 1) := by decide +kernel
theorem dX7_goOnWith_8 : decode cX7_goOnWith 8 = .ok (.iload_n 1, 1) := by decide +kernel
theorem dX7_goOnWith_9 : decode cX7_goOnWith 9 = .ok (.putfield 50, 3) := by decide +kernel
theorem dX7_goOnWith_12 : decode cX7_goOnWith 12 = .ok (.iconst 1, 1) := by decide +kernel
theorem dX7_goOnWith_13 : decode cX7_goOnWith 13 = .ok (.ireturn, 1) := by decide +kernel
theorem dX7_takeMarks_0 : decode cX7_takeMarks 0 = .ok (.iconst 0, 1) := by decide +kernel
theorem dX7_takeMarks_1 : decode cX7_takeMarks 1 = .ok (.istore_n 1, 1) := by decide +kernel
theorem dX7_takeMarks_2 : decode cX7_takeMarks 2 = .ok (.iload_n 1, 1) := by decide +kernel
theorem dX7_takeMarks_3 : decode cX7_takeMarks 3 = .ok (.bipush 60, 2) := by decide +kernel
theorem dX7_takeMarks_5 : decode cX7_takeMarks 5 = .ok (.if_icmp .ge 69, 3) := by decide +kernel
theorem dX7_takeMarks_8 : decode cX7_takeMarks 8 = .ok (.aload_n 0, 1) := by decide +kernel
theorem dX7_takeMarks_9 : decode cX7_takeMarks 9 = .ok (.getfield 35, 3) := by decide +kernel
theorem dX7_takeMarks_12 : decode cX7_takeMarks 12 = .ok (.iload_n 1, 1) := by decide +kernel
theorem dX7_takeMarks_13 : decode cX7_takeMarks 13 = .ok (.baload, 1) := by decide +kernel
theorem dX7_takeMarks_14 : decode cX7_takeMarks 14 = .ok (.ifCond .eq 54, 3) := by decide +kernel
theorem dX7_takeMarks_17 : decode cX7_takeMarks 17 = .ok (.aload_n 0, 1) := by decide +kernel
theorem dX7_takeMarks_18 : decode cX7_takeMarks 18 = .ok (.getfield 31, 3) := by decide +kernel
theorem dX7_takeMarks_21 : decode cX7_takeMarks 21 = .ok (.iload_n 1, 1) := by decide +kernel
theorem dX7_takeMarks_22 : decode cX7_takeMarks 22 = .ok (.invokevirtual 135, 3) := by decide +kernel
theorem dX7_takeMarks_25 : decode cX7_takeMarks 25 = .ok (.ifCond .eq 17, 3) := by decide +kernel
theorem dX7_takeMarks_28 : decode cX7_takeMarks 28 = .ok (.aload_n 0, 1) := by decide +kernel
theorem dX7_takeMarks_29 : decode cX7_takeMarks 29 = .ok (.getfield 31, 3) := by decide +kernel
theorem dX7_takeMarks_32 : decode cX7_takeMarks 32 = .ok (.iload_n 1, 1) := by decide +kernel
theorem dX7_takeMarks_33 : decode cX7_takeMarks 33 = .ok (.invokevirtual 138, 3) := by decide +kernel
theorem dX7_takeMarks_36 : decode cX7_takeMarks 36 = .ok (.invokestatic 142, 3) := by decide +kernel
theorem dX7_takeMarks_39 : decode cX7_takeMarks 39 = .ok (.ifCond .ne 20, 3) := by decide +kernel
theorem dX7_takeMarks_42 : decode cX7_takeMarks 42 = .ok (.aload_n 0, 1) := by decide +kernel
theorem dX7_takeMarks_43 : decode cX7_takeMarks 43 = .ok (.getfield 27, 3) := by decide +kernel
theorem dX7_takeMarks_46 : decode cX7_takeMarks 46 = .ok (.bipush 6, 2) := by decide +kernel
theorem dX7_takeMarks_48 : decode cX7_takeMarks 48 = .ok (.aload_n 0, 1) := by decide +kernel
theorem dX7_takeMarks_49 : decode cX7_takeMarks 49 = .ok (.getfield 22, 3) := by decide +kernel
theorem dX7_takeMarks_52 : decode cX7_takeMarks 52 = .ok (.getfield 68, 3) := by decide +kernel
theorem dX7_takeMarks_55 : decode cX7_takeMarks 55 = .ok (.invokevirtual 61, 3) := by decide +kernel
theorem dX7_takeMarks_58 : decode cX7_takeMarks 58 = .ok (.ireturn, 1) := by decide +kernel
theorem dX7_takeMarks_59 : decode cX7_takeMarks 59 = .ok (.aload_n 0, 1) := by decide +kernel
theorem dX7_takeMarks_60 : decode cX7_takeMarks 60 = .ok (.getfield 31, 3) := by decide +kernel
theorem dX7_takeMarks_63 : decode cX7_takeMarks 63 = .ok (.iload_n 1, 1) := by decide +kernel
theorem dX7_takeMarks_64 : decode cX7_takeMarks 64 = .ok (.iconst 1, 1) := by decide +kernel
theorem dX7_takeMarks_65 : decode cX7_takeMarks 65 = .ok (.invokevirtual 147, 3) := by decide +kernel
theorem dX7_takeMarks_68 : decode cX7_takeMarks 68 = .ok (.iinc 1 1, 3) := by decide +kernel
theorem dX7_takeMarks_71 : decode cX7_takeMarks 71 = .ok (.goto (-69), 3) := by decide +kernel
theorem dX7_takeMarks_74 : decode cX7_takeMarks 74 = .ok (.iconst 1, 1) := by decide +kernel
theorem dX7_takeMarks_75 : decode cX7_takeMarks 75 = .ok (.ireturn, 1) := by decide +kernel
theorem dX8_init_0 : decode cX8_init 0 = .ok (.aload_n 0, 1) := by decide +kernel
theorem dX8_init_1 : decode cX8_init 1 = .ok (.invokespecial 1, 3) := by decide +kernel
theorem dX8_init_4 : decode cX8_init 4 = .ok (.aload_n 0, 1) := by decide +kernel
theorem dX8_init_5 : decode cX8_init 5 = .ok (.new 7, 3) := by decide +kernel
theorem dX8_init_8 : decode cX8_init 8 = .ok (.dup, 1) := by decide +kernel
theorem dX8_init_9 : decode cX8_init 9 = .ok (.invokespecial 9, 3) := by decide +kernel
theorem dX8_init_12 : decode cX8_init 12 = .ok (.putfield 10, 3) := by decide +kernel
theorem dX8_init_15 : decode cX8_init 15 = .ok (.aload_n 0, 1) := by decide +kernel
theorem dX8_init_16 : decode cX8_init 16 = .ok (.new 16, 3) := by decide +kernel
theorem dX8_init_19 : decode cX8_init 19 = .ok (.dup, 1) := by decide +kernel
theorem dX8_init_20 : decode cX8_init 20 = .ok (.invokespecial 18, 3) := by decide +kernel
theorem dX8_init_23 : decode cX8_init 23 = .ok (.putfield 19, 3) := by decide +kernel
theorem dX8_init_26 : decode cX8_init 26 = .ok (.return_, 1) := by decide +kernel
theorem dX8_restart_0 : decode cX8_restart 0 = .ok (.aload_n 0, 1) := by decide +kernel
theorem dX8_restart_1 : decode cX8_restart 1 = .ok (.iconst 0, 1) := by decide +kernel
theorem dX8_restart_2 : decode cX8_restart 2 = .ok (.putfield 23, 3) := by decide +kernel
theorem dX8_restart_5 : decode cX8_restart 5 = .ok (.return_, 1) := by decide +kernel
theorem dX8_advance_0 : decode cX8_advance 0 = .ok (.aload_n 0, 1) := by decide +kernel
theorem dX8_advance_1 : decode cX8_advance 1 = .ok (.getfield 23, 3) := by decide +kernel
theorem dX8_advance_4 : decode cX8_advance 4 = .ok (.aload_n 0, 1) := by decide +kernel
theorem dX8_advance_5 : decode cX8_advance 5 = .ok (.getfield 10, 3) := by decide +kernel
theorem dX8_advance_8 : decode cX8_advance 8 = .ok (.getfield 27, 3) := by decide +kernel
theorem dX8_advance_11 : decode cX8_advance 11 = .ok (.if_icmp .ge 33, 3) := by decide +kernel
theorem dX8_advance_14 : decode cX8_advance 14 = .ok (.aload_n 0, 1) := by decide +kernel
theorem dX8_advance_15 : decode cX8_advance 15 = .ok (.getfield 10, 3) := by decide +kernel
theorem dX8_advance_18 : decode cX8_advance 18 = .ok (.getfield 30, 3) := by decide +kernel
theorem dX8_advance_21 : decode cX8_advance 21 = .ok (.aload_n 0, 1) := by decide +kernel
theorem dX8_advance_22 : decode cX8_advance 22 = .ok (.getfield 23, 3) := by decide +kernel
theorem dX8_advance_25 : decode cX8_advance 25 = .ok (.iaload, 1) := by decide +kernel
theorem dX8_advance_26 : decode cX8_advance 26 = .ok (.bipush 32, 2) := by decide +kernel
theorem dX8_advance_28 : decode cX8_advance 28 = .ok (.if_icmp .ne 16, 3) := by decide +kernel
theorem dX8_advance_31 : decode cX8_advance 31 = .ok (.aload_n 0, 1) := by decide +kernel
theorem dX8_advance_32 : decode cX8_advance 32 = .ok (.dup, 1) := by decide +kernel
theorem dX8_advance_33 : decode cX8_advance 33 = .ok (.getfield 23, 3) := by decide +kernel
theorem dX8_advance_36 : decode cX8_advance 36 = .ok (.iconst 1, 1) := by decide +kernel
theorem dX8_advance_37 : decode cX8_advance 37 = .ok (.iadd, 1) := by decide +kernel
theorem dX8_advance_38 : decode cX8_advance 38 = .ok (.putfield 23, 3) := by decide +kernel
theorem dX8_advance_41 : decode cX8_advance 41 = .ok (.goto (-41), 3) := by decide +kernel
theorem dX8_advance_44 : decode cX8_advance 44 = .ok (.aload_n 0, 1) := by decide +kernel
theorem dX8_advance_45 : decode cX8_advance 45 = .ok (.aload_n 0, 1) := by decide +kernel
theorem dX8_advance_46 : decode cX8_advance 46 = .ok (.getfield 23, 3) := by decide +kernel
theorem dX8_advance_49 : decode cX8_advance 49 = .ok (.putfield 34, 3) := by decide +kernel
theorem dX8_advance_52 : decode cX8_advance 52 = .ok (.aload_n 0, 1) := by decide +kernel
theorem dX8_advance_53 : decode cX8_advance 53 = .ok (.getfield 34, 3) := by decide +kernel
theorem dX8_advance_56 : decode cX8_advance 56 = .ok (.aload_n 0, 1) := by decide +kernel
theorem dX8_advance_57 : decode cX8_advance 57 = .ok (.getfield 10, 3) := by decide +kernel
theorem dX8_advance_60 : decode cX8_advance 60 = .ok (.getfield 27, 3) := by decide +kernel
theorem dX8_advance_63 : decode cX8_advance 63 = .ok (.if_icmp .lt 10, 3) := by decide +kernel
theorem dX8_advance_66 : decode cX8_advance 66 = .ok (.aload_n 0, 1) := by decide +kernel
theorem dX8_advance_67 : decode cX8_advance 67 = .ok (.iconst 0, 1) := by decide +kernel
theorem dX8_advance_68 : decode cX8_advance 68 = .ok (.putfield 37, 3) := by decide +kernel
theorem dX8_advance_71 : decode cX8_advance 71 = .ok (.iconst 1, 1) := by decide +kernel
theorem dX8_advance_72 : decode cX8_advance 72 = .ok (.ireturn, 1) := by decide +kernel
theorem dX8_advance_73 : decode cX8_advance 73 = .ok (.aload_n 0, 1) := by decide +kernel
theorem dX8_advance_74 : decode cX8_advance 74 = .ok (.getfield 10, 3) := by decide +kernel
theorem dX8_advance_77 : decode cX8_advance 77 = .ok (.getfield 30, 3) := by decide +kernel
theorem dX8_advance_80 : decode cX8_advance 80 = .ok (.aload_n 0, 1) := by decide +kernel
theorem dX8_advance_81 : decode cX8_advance 81 = .ok (.getfield 34, 3) := by decide +kernel
theorem dX8_advance_84 : decode cX8_advance 84 = .ok (.iaload, 1) := by decide +kernel
theorem dX8_advance_85 : decode cX8_advance 85 = .ok (.istore_n 1, 1) := by decide +kernel
theorem dX8_advance_86 : decode cX8_advance 86 = .ok (.iload_n 1, 1) := by decide +kernel
theorem dX8_advance_87 : decode cX8_advance 87 = .ok (.invokestatic 40, 3) := by decide +kernel
theorem dX8_advance_90 : decode cX8_advance 90 = .ok (.ifCond .eq 8, 3) := by decide +kernel
theorem dX8_advance_93 : decode cX8_advance 93 = .ok (.aload_n 0, 1) := by decide +kernel
theorem dX8_advance_94 : decode cX8_advance 94 = .ok (.invokevirtual 46, 3) := by decide +kernel
theorem dX8_advance_97 : decode cX8_advance 97 = .ok (.ireturn, 1) := by decide +kernel
theorem dX8_advance_98 : decode cX8_advance 98 = .ok (.iload_n 1, 1) := by decide +kernel
theorem dX8_advance_99 : decode cX8_advance 99 = .ok (.invokestatic 50, 3) := by decide +kernel
theorem dX8_advance_102 : decode cX8_advance 102 = .ok (.ifCond .eq 8, 3) := by decide +kernel
theorem dX8_advance_105 : decode cX8_advance 105 = .ok (.aload_n 0, 1) := by decide +kernel
theorem dX8_advance_106 : decode cX8_advance 106 = .ok (.invokevirtual 53, 3) := by decide +kernel
theorem dX8_advance_109 : decode cX8_advance 109 = .ok (.ireturn, 1) := by decide +kernel
theorem dX8_advance_110 : decode cX8_advance 110 = .ok (.iload_n 1, 1) := by decide +kernel
theorem dX8_advance_111 : decode cX8_advance 111 = .ok (.bipush 34, 2) := by decide +kernel
theorem dX8_advance_113 : decode cX8_advance 113 = .ok (.if_icmp .ne 8, 3) := by decide +kernel
theorem dX8_advance_116 : decode cX8_advance 116 = .ok (.aload_n 0, 1) := by decide +kernel
theorem dX8_advance_117 : decode cX8_advance 117 = .ok (.invokevirtual 56, 3) := by decide +kernel
theorem dX8_advance_120 : decode cX8_advance 120 = .ok (.ireturn, 1) := by decide +kernel
theorem dX8_advance_121 : decode cX8_advance 121 = .ok (.aload_n 0, 1) := by decide +kernel
theorem dX8_advance_122 : decode cX8_advance 122 = .ok (.iload_n 1, 1) := by decide +kernel
theorem dX8_advance_123 : decode cX8_advance 123 = .ok (.invokevirtual 59, 3) := by decide +kernel
theorem dX8_advance_126 : decode cX8_advance 126 = .ok (.ireturn, 1) := by decide +kernel
theorem dX8_passName_0 : decode cX8_passName 0 = .ok (.aload_n 0, 1) := by decide +kernel
theorem dX8_passName_1 : decode cX8_passName 1 = .ok (.iconst 1, 1) := by decide +kernel
theorem dX8_passName_2 : decode cX8_passName 2 = .ok (.putfield 37, 3) := by decide +kernel
theorem dX8_passName_5 : decode cX8_passName 5 = .ok (.aload_n 0, 1) := by decide +kernel
theorem dX8_passName_6 : decode cX8_passName 6 = .ok (.getfield 23, 3) := by decide +kernel
theorem dX8_passName_9 : decode cX8_passName 9 = .ok (.aload_n 0, 1) := by decide +kernel
theorem dX8_passName_10 : decode cX8_passName 10 = .ok (.getfield 10, 3) := by decide +kernel
theorem dX8_passName_13 : decode cX8_passName 13 = .ok (.getfield 27, 3) := by decide +kernel
theorem dX8_passName_16 : decode cX8_passName 16 = .ok (.if_icmp .ge 34, 3) := by decide +kernel
theorem dX8_passName_19 : decode cX8_passName 19 = .ok (.aload_n 0, 1) := by decide +kernel
theorem dX8_passName_20 : decode cX8_passName 20 = .ok (.getfield 10, 3) := by decide +kernel
theorem dX8_passName_23 : decode cX8_passName 23 = .ok (.getfield 30, 3) := by decide +kernel
theorem dX8_passName_26 : decode cX8_passName 26 = .ok (.aload_n 0, 1) := by decide +kernel
theorem dX8_passName_27 : decode cX8_passName 27 = .ok (.getfield 23, 3) := by decide +kernel
theorem dX8_passName_30 : decode cX8_passName 30 = .ok (.iaload, 1) := by decide +kernel
theorem dX8_passName_31 : decode cX8_passName 31 = .ok (.invokestatic 40, 3) := by decide +kernel
theorem dX8_passName_34 : decode cX8_passName 34 = .ok (.ifCond .eq 16, 3) := by decide +kernel
theorem dX8_passName_37 : decode cX8_passName 37 = .ok (.aload_n 0, 1) := by decide +kernel
theorem dX8_passName_38 : decode cX8_passName 38 = .ok (.dup, 1) := by decide +kernel
theorem dX8_passName_39 : decode cX8_passName 39 = .ok (.getfield 23, 3) := by decide +kernel
theorem dX8_passName_42 : decode cX8_passName 42 = .ok (.iconst 1, 1) := by decide +kernel
theorem dX8_passName_43 : decode cX8_passName 43 = .ok (.iadd, 1) := by decide +kernel
theorem dX8_passName_44 : decode cX8_passName 44 = .ok (.putfield 23, 3) := by decide +kernel
theorem dX8_passName_47 : decode cX8_passName 47 = .ok (.goto (-42), 3) := by decide +kernel
theorem dX8_passName_50 : decode cX8_passName 50 = .ok (.iconst 1, 1) := by decide +kernel
theorem dX8_passName_51 : decode cX8_passName 51 = .ok (.ireturn, 1) := by decide +kernel
theorem dX8_passNumber_0 : decode cX8_passNumber 0 = .ok (.aload_n 0, 1) := by decide +kernel
theorem dX8_passNumber_1 : decode cX8_passNumber 1 = .ok (.iconst 2, 1) := by decide +kernel
theorem dX8_passNumber_2 : decode cX8_passNumber 2 = .ok (.putfield 37, 3) := by decide +kernel
theorem dX8_passNumber_5 : decode cX8_passNumber 5 = .ok (.aload_n 0, 1) := by decide +kernel
theorem dX8_passNumber_6 : decode cX8_passNumber 6 = .ok (.iconst 0, 1) := by decide +kernel
theorem dX8_passNumber_7 : decode cX8_passNumber 7 = .ok (.putfield 62, 3) := by decide +kernel
theorem dX8_passNumber_10 : decode cX8_passNumber 10 = .ok (.aload_n 0, 1) := by decide +kernel
theorem dX8_passNumber_11 : decode cX8_passNumber 11 = .ok (.getfield 23, 3) := by decide +kernel
theorem dX8_passNumber_14 : decode cX8_passNumber 14 = .ok (.aload_n 0, 1) := by decide +kernel
theorem dX8_passNumber_15 : decode cX8_passNumber 15 = .ok (.getfield 10, 3) := by decide +kernel
theorem dX8_passNumber_18 : decode cX8_passNumber 18 = .ok (.getfield 27, 3) := by decide +kernel
theorem dX8_passNumber_21 : decode cX8_passNumber 21 = .ok (.if_icmp .ge 61, 3) := by decide +kernel
theorem dX8_passNumber_24 : decode cX8_passNumber 24 = .ok (.aload_n 0, 1) := by decide +kernel
theorem dX8_passNumber_25 : decode cX8_passNumber 25 = .ok (.getfield 10, 3) := by decide +kernel
theorem dX8_passNumber_28 : decode cX8_passNumber 28 = .ok (.getfield 30, 3) := by decide +kernel
theorem dX8_passNumber_31 : decode cX8_passNumber 31 = .ok (.aload_n 0, 1) := by decide +kernel
theorem dX8_passNumber_32 : decode cX8_passNumber 32 = .ok (.getfield 23, 3) := by decide +kernel
theorem dX8_passNumber_35 : decode cX8_passNumber 35 = .ok (.iaload, 1) := by decide +kernel
theorem dX8_passNumber_36 : decode cX8_passNumber 36 = .ok (.invokestatic 50, 3) := by decide +kernel
theorem dX8_passNumber_39 : decode cX8_passNumber 39 = .ok (.ifCond .eq 43, 3) := by decide +kernel
theorem dX8_passNumber_42 : decode cX8_passNumber 42 = .ok (.aload_n 0, 1) := by decide +kernel
theorem dX8_passNumber_43 : decode cX8_passNumber 43 = .ok (.aload_n 0, 1) := by decide +kernel
theorem dX8_passNumber_44 : decode cX8_passNumber 44 = .ok (.getfield 62, 3) := by decide +kernel
theorem dX8_passNumber_47 : decode cX8_passNumber 47 = .ok (.bipush 10, 2) := by decide +kernel
theorem dX8_passNumber_49 : decode cX8_passNumber 49 = .ok (.imul, 1) := by decide +kernel
theorem dX8_passNumber_50 : decode cX8_passNumber 50 = .ok (.aload_n 0, 1) := by decide +kernel
theorem dX8_passNumber_51 : decode cX8_passNumber 51 = .ok (.getfield 10, 3) := by decide +kernel
theorem dX8_passNumber_54 : decode cX8_passNumber 54 = .ok (.getfield 30, 3) := by decide +kernel
theorem dX8_passNumber_57 : decode cX8_passNumber 57 = .ok (.aload_n 0, 1) := by decide +kernel
theorem dX8_passNumber_58 : decode cX8_passNumber 58 = .ok (.getfield 23, 3) := by decide +kernel
theorem dX8_passNumber_61 : decode cX8_passNumber 61 = .ok (.iaload, 1) := by decide +kernel
theorem dX8_passNumber_62 : decode cX8_passNumber 62 = .ok (.iadd, 1) := by decide +kernel
theorem dX8_passNumber_63 : decode cX8_passNumber 63 = .ok (.bipush 48, 2) := by decide +kernel
theorem dX8_passNumber_65 : decode cX8_passNumber 65 = .ok (.isub, 1) := by decide +kernel
theorem dX8_passNumber_66 : decode cX8_passNumber 66 = .ok (.putfield 62, 3) := by decide +kernel
theorem dX8_passNumber_69 : decode cX8_passNumber 69 = .ok (.aload_n 0, 1) := by decide +kernel
theorem dX8_passNumber_70 : decode cX8_passNumber 70 = .ok (.dup, 1) := by decide +kernel
theorem dX8_passNumber_71 : decode cX8_passNumber 71 = .ok (.getfield 23, 3) := by decide +kernel
theorem dX8_passNumber_74 : decode cX8_passNumber 74 = .ok (.iconst 1, 1) := by decide +kernel
theorem dX8_passNumber_75 : decode cX8_passNumber 75 = .ok (.iadd, 1) := by decide +kernel
theorem dX8_passNumber_76 : decode cX8_passNumber 76 = .ok (.putfield 23, 3) := by decide +kernel
theorem dX8_passNumber_79 : decode cX8_passNumber 79 = .ok (.goto (-69), 3) := by decide +kernel
theorem dX8_passNumber_82 : decode cX8_passNumber 82 = .ok (.aload_n 0, 1) := by decide +kernel
theorem dX8_passNumber_83 : decode cX8_passNumber 83 = .ok (.getfield 23, 3) := by decide +kernel
theorem dX8_passNumber_86 : decode cX8_passNumber 86 = .ok (.aload_n 0, 1) := by decide +kernel
theorem dX8_passNumber_87 : decode cX8_passNumber 87 = .ok (.getfield 34, 3) := by decide +kernel
theorem dX8_passNumber_90 : decode cX8_passNumber 90 = .ok (.isub, 1) := by decide +kernel
theorem dX8_passNumber_91 : decode cX8_passNumber 91 = .ok (.iconst 2, 1) := by decide +kernel
theorem dX8_passNumber_92 : decode cX8_passNumber 92 = .ok (.if_icmp .le 18, 3) := by decide +kernel
theorem dX8_passNumber_95 : decode cX8_passNumber 95 = .ok (.aload_n 0, 1) := by decide +kernel
theorem dX8_passNumber_96 : decode cX8_passNumber 96 = .ok (.getfield 19, 3) := by decide +kernel
theorem dX8_passNumber_99 : decode cX8_passNumber 99 = .ok (.iconst 1, 1) := by decide +kernel
theorem dX8_passNumber_100 : decode cX8_passNumber 100 = .ok (.aload_n 0, 1) := by decide +kernel
theorem dX8_passNumber_101 : decode cX8_passNumber 101 = .ok (.getfield 34, 3) := by decide +kernel
theorem dX8_passNumber_104 : decode cX8_passNumber 104 = .ok (.invokevirtual 65, 3) := by decide +kernel
theorem dX8_passNumber_107 : decode cX8_passNumber 107 = .ok (.ifCond .eq 7, 3) := by decide +kernel
theorem dX8_passNumber_110 : decode cX8_passNumber 110 = .ok (.iconst 1, 1) := by decide +kernel
theorem dX8_passNumber_111 : decode cX8_passNumber 111 = .ok (.goto 4, 3) := by decide +kernel
theorem dX8_passNumber_114 : decode cX8_passNumber 114 = .ok (.iconst 0, 1) := by decide +kernel
theorem dX8_passNumber_115 : decode cX8_passNumber 115 = .ok (.ireturn, 1) := by decide +kernel
theorem dX8_passQuote_0 : decode cX8_passQuote 0 = .ok (.aload_n 0, 1) := by decide +kernel
theorem dX8_passQuote_1 : decode cX8_passQuote 1 = .ok (.iconst 4, 1) := by decide +kernel
theorem dX8_passQuote_2 : decode cX8_passQuote 2 = .ok (.putfield 37, 3) := by decide +kernel
theorem dX8_passQuote_5 : decode cX8_passQuote 5 = .ok (.aload_n 0, 1) := by decide +kernel
theorem dX8_passQuote_6 : decode cX8_passQuote 6 = .ok (.aload_n 0, 1) := by decide +kernel
theorem dX8_passQuote_7 : decode cX8_passQuote 7 = .ok (.getfield 34, 3) := by decide +kernel
theorem dX8_passQuote_10 : decode cX8_passQuote 10 = .ok (.iconst 1, 1) := by decide +kernel
theorem dX8_passQuote_11 : decode cX8_passQuote 11 = .ok (.iadd, 1) := by decide +kernel
theorem dX8_passQuote_12 : decode cX8_passQuote 12 = .ok (.putfield 23, 3) := by decide +kernel
theorem dX8_passQuote_15 : decode cX8_passQuote 15 = .ok (.aload_n 0, 1) := by decide +kernel
theorem dX8_passQuote_16 : decode cX8_passQuote 16 = .ok (.getfield 23, 3) := by decide +kernel
theorem dX8_passQuote_19 : decode cX8_passQuote 19 = .ok (.aload_n 0, 1) := by decide +kernel
theorem dX8_passQuote_20 : decode cX8_passQuote 20 = .ok (.getfield 10, 3) := by decide +kernel
theorem dX8_passQuote_23 : decode cX8_passQuote 23 = .ok (.getfield 27, 3) := by decide +kernel
theorem dX8_passQuote_26 : decode cX8_passQuote 26 = .ok (.if_icmp .ge 78, 3) := by decide +kernel
theorem dX8_passQuote_29 : decode cX8_passQuote 29 = .ok (.aload_n 0, 1) := by decide +kernel
theorem dX8_passQuote_30 : decode cX8_passQuote 30 = .ok (.getfield 10, 3) := by decide +kernel
theorem dX8_passQuote_33 : decode cX8_passQuote 33 = .ok (.getfield 30, 3) := by decide +kernel
theorem dX8_passQuote_36 : decode cX8_passQuote 36 = .ok (.aload_n 0, 1) := by decide +kernel
theorem dX8_passQuote_37 : decode cX8_passQuote 37 = .ok (.getfield 23, 3) := by decide +kernel
theorem dX8_passQuote_40 : decode cX8_passQuote 40 = .ok (.iaload, 1) := by decide +kernel
theorem dX8_passQuote_41 : decode cX8_passQuote 41 = .ok (.istore_n 1, 1) := by decide +kernel
theorem dX8_passQuote_42 : decode cX8_passQuote 42 = .ok (.iload_n 1, 1) := by decide +kernel
theorem dX8_passQuote_43 : decode cX8_passQuote 43 = .ok (.bipush 34, 2) := by decide +kernel
theorem dX8_passQuote_45 : decode cX8_passQuote 45 = .ok (.if_icmp .ne 15, 3) := by decide +kernel
theorem dX8_passQuote_48 : decode cX8_passQuote 48 = .ok (.aload_n 0, 1) := by decide +kernel
theorem dX8_passQuote_49 : decode cX8_passQuote 49 = .ok (.dup, 1) := by decide +kernel
theorem dX8_passQuote_50 : decode cX8_passQuote 50 = .ok (.getfield 23, 3) := by decide +kernel
theorem dX8_passQuote_53 : decode cX8_passQuote 53 = .ok (.iconst 1, 1) := by decide +kernel
theorem dX8_passQuote_54 : decode cX8_passQuote 54 = .ok (.iadd, 1) := by decide +kernel
theorem dX8_passQuote_55 : decode cX8_passQuote 55 = .ok (.putfield 23, 3) := by decide +kernel
theorem dX8_passQuote_58 : decode cX8_passQuote 58 = .ok (.iconst 1, 1) := by decide +kernel
theorem dX8_passQuote_59 : decode cX8_passQuote 59 = .ok (.ireturn, 1) := by decide +kernel
theorem dX8_passQuote_60 : decode cX8_passQuote 60 = .ok (.iload_n 1, 1) := by decide +kernel
theorem dX8_passQuote_61 : decode cX8_passQuote 61 = .ok (.invokestatic 69, 3) := by decide +kernel
theorem dX8_passQuote_64 : decode cX8_passQuote 64 = .ok (.ifCond .ne 27, 3) := by decide +kernel
theorem dX8_passQuote_67 : decode cX8_passQuote 67 = .ok (.aload_n 0, 1) := by decide +kernel
theorem dX8_passQuote_68 : decode cX8_passQuote 68 = .ok (.getfield 19, 3) := by decide +kernel
theorem dX8_passQuote_71 : decode cX8_passQuote 71 = .ok (.iconst 1, 1) := by decide +kernel
theorem dX8_passQuote_72 : decode cX8_passQuote 72 = .ok (.aload_n 0, 1) := by decide +kernel
theorem dX8_passQuote_73 : decode cX8_passQuote 73 = .ok (.getfield 23, 3) := by decide +kernel
theorem dX8_passQuote_76 : decode cX8_passQuote 76 = .ok (.aload_n 0, 1) := by decide +kernel
theorem dX8_passQuote_77 : decode cX8_passQuote 77 = .ok (.getfield 23, 3) := by decide +kernel
theorem dX8_passQuote_80 : decode cX8_passQuote 80 = .ok (.aload_n 0, 1) := by decide +kernel
theorem dX8_passQuote_81 : decode cX8_passQuote 81 = .ok (.getfield 34, 3) := by decide +kernel
theorem dX8_passQuote_84 : decode cX8_passQuote 84 = .ok (.isub, 1) := by decide +kernel
theorem dX8_passQuote_85 : decode cX8_passQuote 85 = .ok (.iconst 1, 1) := by decide +kernel
theorem dX8_passQuote_86 : decode cX8_passQuote 86 = .ok (.isub, 1) := by decide +kernel
theorem dX8_passQuote_87 : decode cX8_passQuote 87 = .ok (.invokevirtual 72, 3) := by decide +kernel
theorem dX8_passQuote_90 : decode cX8_passQuote 90 = .ok (.ireturn, 1) := by decide +kernel
theorem dX8_passQuote_91 : decode cX8_passQuote 91 = .ok (.aload_n 0, 1) := by decide +kernel
theorem dX8_passQuote_92 : decode cX8_passQuote 92 = .ok (.dup, 1) := by decide +kernel
theorem dX8_passQuote_93 : decode cX8_passQuote 93 = .ok (.getfield 23, 3) := by decide +kernel
theorem dX8_passQuote_96 : decode cX8_passQuote 96 = .ok (.iconst 1, 1) := by decide +kernel
theorem dX8_passQuote_97 : decode cX8_passQuote 97 = .ok (.iadd, 1) := by decide +kernel
theorem dX8_passQuote_98 : decode cX8_passQuote 98 = .ok (.putfield 23, 3) := by decide +kernel
theorem dX8_passQuote_101 : decode cX8_passQuote 101 = .ok (.goto (-86), 3) := by decide +kernel
theorem dX8_passQuote_104 : decode cX8_passQuote 104 = .ok (.aload_n 0, 1) := by decide +kernel
theorem dX8_passQuote_105 : decode cX8_passQuote 105 = .ok (.getfield 19, 3) := by decide +kernel
theorem dX8_passQuote_108 : decode cX8_passQuote 108 = .ok (.iconst 2, 1) := by decide +kernel
theorem dX8_passQuote_109 : decode cX8_passQuote 109 = .ok (.aload_n 0, 1) := by decide +kernel
theorem dX8_passQuote_110 : decode cX8_passQuote 110 = .ok (.getfield 23, 3) := by decide +kernel
theorem dX8_passQuote_113 : decode cX8_passQuote 113 = .ok (.aload_n 0, 1) := by decide +kernel
theorem dX8_passQuote_114 : decode cX8_passQuote 114 = .ok (.getfield 23, 3) := by decide +kernel
theorem dX8_passQuote_117 : decode cX8_passQuote 117 = .ok (.aload_n 0, 1) := by decide +kernel
theorem dX8_passQuote_118 : decode cX8_passQuote 118 = .ok (.getfield 34, 3) := by decide +kernel
theorem dX8_passQuote_121 : decode cX8_passQuote 121 = .ok (.isub, 1) := by decide +kernel
theorem dX8_passQuote_122 : decode cX8_passQuote 122 = .ok (.iconst 1, 1) := by decide +kernel
theorem dX8_passQuote_123 : decode cX8_passQuote 123 = .ok (.isub, 1) := by decide +kernel
theorem dX8_passQuote_124 : decode cX8_passQuote 124 = .ok (.invokevirtual 72, 3) := by decide +kernel
theorem dX8_passQuote_127 : decode cX8_passQuote 127 = .ok (.ireturn, 1) := by decide +kernel
theorem dX8_passSemicolon_0 : decode cX8_passSemicolon 0 = .ok (.aload_n 0, 1) := by decide +kernel
theorem dX8_passSemicolon_1 : decode cX8_passSemicolon 1 = .ok (.iconst 3, 1) := by decide +kernel
theorem dX8_passSemicolon_2 : decode cX8_passSemicolon 2 = .ok (.putfield 37, 3) := by decide +kernel
theorem dX8_passSemicolon_5 : decode cX8_passSemicolon 5 = .ok (.aload_n 0, 1) := by decide +kernel
theorem dX8_passSemicolon_6 : decode cX8_passSemicolon 6 = .ok (.dup, 1) := by decide +kernel
theorem dX8_passSemicolon_7 : decode cX8_passSemicolon 7 = .ok (.getfield 23, 3) := by decide +kernel
theorem dX8_passSemicolon_10 : decode cX8_passSemicolon 10 = .ok (.iconst 1, 1) := by decide +kernel
theorem dX8_passSemicolon_11 : decode cX8_passSemicolon 11 = .ok (.iadd, 1) := by decide +kernel
theorem dX8_passSemicolon_12 : decode cX8_passSemicolon 12 = .ok (.putfield 23, 3) := by decide +kernel
theorem dX8_passSemicolon_15 : decode cX8_passSemicolon 15 = .ok (.iload_n 1, 1) := by decide +kernel
theorem dX8_passSemicolon_16 : decode cX8_passSemicolon 16 = .ok (.bipush 59, 2) := by decide +kernel
theorem dX8_passSemicolon_18 : decode cX8_passSemicolon 18 = .ok (.if_icmp .eq 18, 3) := by decide +kernel
theorem dX8_passSemicolon_21 : decode cX8_passSemicolon 21 = .ok (.aload_n 0, 1) := by decide +kernel
theorem dX8_passSemicolon_22 : decode cX8_passSemicolon 22 = .ok (.getfield 19, 3) := by decide +kernel
theorem dX8_passSemicolon_25 : decode cX8_passSemicolon 25 = .ok (.iconst 1, 1) := by decide +kernel
theorem dX8_passSemicolon_26 : decode cX8_passSemicolon 26 = .ok (.aload_n 0, 1) := by decide +kernel
theorem dX8_passSemicolon_27 : decode cX8_passSemicolon 27 = .ok (.getfield 34, 3) := by decide +kernel
theorem dX8_passSemicolon_30 : decode cX8_passSemicolon 30 = .ok (.invokevirtual 65, 3) := by decide +kernel
theorem dX8_passSemicolon_33 : decode cX8_passSemicolon 33 = .ok (.ifCond .eq 7, 3) := by decide +kernel
theorem dX8_passSemicolon_36 : decode cX8_passSemicolon 36 = .ok (.iconst 1, 1) := by decide +kernel
theorem dX8_passSemicolon_37 : decode cX8_passSemicolon 37 = .ok (.goto 4, 3) := by decide +kernel
theorem dX8_passSemicolon_40 : decode cX8_passSemicolon 40 = .ok (.iconst 0, 1) := by decide +kernel
theorem dX8_passSemicolon_41 : decode cX8_passSemicolon 41 = .ok (.ireturn, 1) := by decide +kernel
theorem dX8_isFigure_0 : decode cX8_isFigure 0 = .ok (.iload_n 0, 1) := by decide +kernel
theorem dX8_isFigure_1 : decode cX8_isFigure 1 = .ok (.bipush 48, 2) := by decide +kernel
theorem dX8_isFigure_3 : decode cX8_isFigure 3 = .ok (.if_icmp .lt 13, 3) := by decide +kernel
theorem dX8_isFigure_6 : decode cX8_isFigure 6 = .ok (.iload_n 0, 1) := by decide +kernel
theorem dX8_isFigure_7 : decode cX8_isFigure 7 = .ok (.bipush 57, 2) := by decide +kernel
theorem dX8_isFigure_9 : decode cX8_isFigure 9 = .ok (.if_icmp .gt 7, 3) := by decide +kernel
theorem dX8_isFigure_12 : decode cX8_isFigure 12 = .ok (.iconst 1, 1) := by decide +kernel
theorem dX8_isFigure_13 : decode cX8_isFigure 13 = .ok (.goto 4, 3) := by decide +kernel
theorem dX8_isFigure_16 : decode cX8_isFigure 16 = .ok (.iconst 0, 1) := by decide +kernel
theorem dX8_isFigure_17 : decode cX8_isFigure 17 = .ok (.ireturn, 1) := by decide +kernel
theorem dX8_isName_0 : decode cX8_isName 0 = .ok (.aload_n 0, 1) := by decide +kernel
theorem dX8_isName_1 : decode cX8_isName 1 = .ok (.getfield 37, 3) := by decide +kernel
theorem dX8_isName_4 : decode cX8_isName 4 = .ok (.iconst 1, 1) := by decide +kernel
theorem dX8_isName_5 : decode cX8_isName 5 = .ok (.if_icmp .ne 19, 3) := by decide +kernel
theorem dX8_isName_8 : decode cX8_isName 8 = .ok (.aload_n 0, 1) := by decide +kernel
theorem dX8_isName_9 : decode cX8_isName 9 = .ok (.getfield 23, 3) := by decide +kernel
theorem dX8_isName_12 : decode cX8_isName 12 = .ok (.aload_n 0, 1) := by decide +kernel
theorem dX8_isName_13 : decode cX8_isName 13 = .ok (.getfield 34, 3) := by decide +kernel
theorem dX8_isName_16 : decode cX8_isName 16 = .ok (.isub, 1) := by decide +kernel
theorem dX8_isName_17 : decode cX8_isName 17 = .ok (.aload_n 1, 1) := by decide +kernel
theorem dX8_isName_18 : decode cX8_isName 18 = .ok (.invokevirtual 76, 3) := by decide +kernel
theorem dX8_isName_21 : decode cX8_isName 21 = .ok (.if_icmp .eq 5, 3) := by decide +kernel
theorem dX8_isName_24 : decode cX8_isName 24 = .ok (.iconst 0, 1) := by decide +kernel
theorem dX8_isName_25 : decode cX8_isName 25 = .ok (.ireturn, 1) := by decide +kernel
theorem dX8_isName_26 : decode cX8_isName 26 = .ok (.iconst 0, 1) := by decide +kernel
theorem dX8_isName_27 : decode cX8_isName 27 = .ok (.istore_n 2, 1) := by decide +kernel
theorem dX8_isName_28 : decode cX8_isName 28 = .ok (.iload_n 2, 1) := by decide +kernel
theorem dX8_isName_29 : decode cX8_isName 29 = .ok (.aload_n 1, 1) := by decide +kernel
theorem dX8_isName_30 : decode cX8_isName 30 = .ok (.invokevirtual 76, 3) := by decide +kernel
theorem dX8_isName_33 : decode cX8_isName 33 = .ok (.if_icmp .ge 33, 3) := by decide +kernel
theorem dX8_isName_36 : decode cX8_isName 36 = .ok (.aload_n 0, 1) := by decide +kernel
theorem dX8_isName_37 : decode cX8_isName 37 = .ok (.getfield 10, 3) := by decide +kernel
theorem dX8_isName_40 : decode cX8_isName 40 = .ok (.getfield 30, 3) := by decide +kernel
theorem dX8_isName_43 : decode cX8_isName 43 = .ok (.aload_n 0, 1) := by decide +kernel
theorem dX8_isName_44 : decode cX8_isName 44 = .ok (.getfield 34, 3) := by decide +kernel
theorem dX8_isName_47 : decode cX8_isName 47 = .ok (.iload_n 2, 1) := by decide +kernel
theorem dX8_isName_48 : decode cX8_isName 48 = .ok (.iadd, 1) := by decide +kernel
theorem dX8_isName_49 : decode cX8_isName 49 = .ok (.iaload, 1) := by decide +kernel
theorem dX8_isName_50 : decode cX8_isName 50 = .ok (.aload_n 1, 1) := by decide +kernel
theorem dX8_isName_51 : decode cX8_isName 51 = .ok (.iload_n 2, 1) := by decide +kernel
theorem dX8_isName_52 : decode cX8_isName 52 = .ok (.invokevirtual 81, 3) := by decide +kernel
theorem dX8_isName_55 : decode cX8_isName 55 = .ok (.if_icmp .eq 5, 3) := by decide +kernel
theorem dX8_isName_58 : decode cX8_isName 58 = .ok (.iconst 0, 1) := by decide +kernel
theorem dX8_isName_59 : decode cX8_isName 59 = .ok (.ireturn, 1) := by decide +kernel
theorem dX8_isName_60 : decode cX8_isName 60 = .ok (.iinc 2 1, 3) := by decide +kernel
theorem dX8_isName_63 : decode cX8_isName 63 = .ok (.goto (-35), 3) := by decide +kernel
theorem dX8_isName_66 : decode cX8_isName 66 = .ok (.iconst 1, 1) := by decide +kernel
theorem dX8_isName_67 : decode cX8_isName 67 = .ok (.ireturn, 1) := by decide +kernel
theorem dJ9_max_7cf53_0 : decode cJ9_max_7cf53 0 = .ok (.iload_n 0, 1) := by decide +kernel
theorem dJ9_max_7cf53_1 : decode cJ9_max_7cf53 1 = .ok (.iload_n 1, 1) := by decide +kernel
theorem dJ9_max_7cf53_2 : decode cJ9_max_7cf53 2 = .ok (.if_icmp .lt 7, 3) := by decide +kernel
theorem dJ9_max_7cf53_5 : decode cJ9_max_7cf53 5 = .ok (.iload_n 0, 1) := by decide +kernel
theorem dJ9_max_7cf53_6 : decode cJ9_max_7cf53 6 = .ok (.goto 4, 3) := by decide +kernel
theorem dJ9_max_7cf53_9 : decode cJ9_max_7cf53 9 = .ok (.iload_n 1, 1) := by decide +kernel
theorem dJ9_max_7cf53_10 : decode cJ9_max_7cf53 10 = .ok (.ireturn, 1) := by decide +kernel
theorem dJ9_min_7cf53_0 : decode cJ9_min_7cf53 0 = .ok (.iload_n 0, 1) := by decide +kernel
theorem dJ9_min_7cf53_1 : decode cJ9_min_7cf53 1 = .ok (.iload_n 1, 1) := by decide +kernel
theorem dJ9_min_7cf53_2 : decode cJ9_min_7cf53 2 = .ok (.if_icmp .gt 7, 3) := by decide +kernel
theorem dJ9_min_7cf53_5 : decode cJ9_min_7cf53 5 = .ok (.iload_n 0, 1) := by decide +kernel
theorem dJ9_min_7cf53_6 : decode cJ9_min_7cf53 6 = .ok (.goto 4, 3) := by decide +kernel
theorem dJ9_min_7cf53_9 : decode cJ9_min_7cf53 9 = .ok (.iload_n 1, 1) := by decide +kernel
theorem dJ9_min_7cf53_10 : decode cJ9_min_7cf53 10 = .ok (.ireturn, 1) := by decide +kernel
theorem dJ0_length_8abf5_0 : decode cJ0_length_8abf5 0 = .ok (.aload_n 0, 1) := by decide +kernel
theorem dJ0_length_8abf5_1 : decode cJ0_length_8abf5 1 = .ok (.getfield 9, 3) := by decide +kernel
theorem dJ0_length_8abf5_4 : decode cJ0_length_8abf5 4 = .ok (.arraylength, 1) := by decide +kernel
theorem dJ0_length_8abf5_5 : decode cJ0_length_8abf5 5 = .ok (.aload_n 0, 1) := by decide +kernel
theorem dJ0_length_8abf5_6 : decode cJ0_length_8abf5 6 = .ok (.invokevirtual 335, 3) := by decide +kernel
theorem dJ0_length_8abf5_9 : decode cJ0_length_8abf5 9 = .ok (.ishr, 1) := by decide +kernel
theorem dJ0_length_8abf5_10 : decode cJ0_length_8abf5 10 = .ok (.ireturn, 1) := by decide +kernel
theorem dJ0_charAt_5068e_0 : decode cJ0_charAt_5068e 0 = .ok (.aload_n 0, 1) := by decide +kernel
theorem dJ0_charAt_5068e_1 : decode cJ0_charAt_5068e 1 = .ok (.invokevirtual 492, 3) := by decide +kernel
theorem dJ0_charAt_5068e_4 : decode cJ0_charAt_5068e 4 = .ok (.ifCond .eq 12, 3) := by decide +kernel
theorem dJ0_charAt_5068e_7 : decode cJ0_charAt_5068e 7 = .ok (.aload_n 0, 1) := by decide +kernel
theorem dJ0_charAt_5068e_8 : decode cJ0_charAt_5068e 8 = .ok (.getfield 9, 3) := by decide +kernel
theorem dJ0_charAt_5068e_11 : decode cJ0_charAt_5068e 11 = .ok (.iload_n 1, 1) := by decide +kernel
theorem dJ0_charAt_5068e_12 : decode cJ0_charAt_5068e 12 = .ok (.invokestatic 495, 3) := by decide +kernel
theorem dJ0_charAt_5068e_15 : decode cJ0_charAt_5068e 15 = .ok (.ireturn, 1) := by decide +kernel
theorem dJ0_charAt_5068e_16 : decode cJ0_charAt_5068e 16 = .ok (.aload_n 0, 1) := by decide +kernel
theorem dJ0_charAt_5068e_17 : decode cJ0_charAt_5068e 17 = .ok (.getfield 9, 3) := by decide +kernel
theorem dJ0_charAt_5068e_20 : decode cJ0_charAt_5068e 20 = .ok (.iload_n 1, 1) := by decide +kernel
theorem dJ0_charAt_5068e_21 : decode cJ0_charAt_5068e 21 = .ok (.invokestatic 498, 3) := by decide +kernel
theorem dJ0_charAt_5068e_24 : decode cJ0_charAt_5068e 24 = .ok (.ireturn, 1) := by decide +kernel
theorem dJ0_coder_7d493_0 : decode cJ0_coder_7d493 0 = .ok (.getstatic 38, 3) := by decide +kernel
theorem dJ0_coder_7d493_3 : decode cJ0_coder_7d493 3 = .ok (.ifCond .eq 10, 3) := by decide +kernel
theorem dJ0_coder_7d493_6 : decode cJ0_coder_7d493 6 = .ok (.aload_n 0, 1) := by decide +kernel
theorem dJ0_coder_7d493_7 : decode cJ0_coder_7d493 7 = .ok (.getfield 15, 3) := by decide +kernel
theorem dJ0_coder_7d493_10 : decode cJ0_coder_7d493 10 = .ok (.goto 4, 3) := by decide +kernel
theorem dJ0_coder_7d493_13 : decode cJ0_coder_7d493 13 = .ok (.iconst 1, 1) := by decide +kernel
theorem dJ0_coder_7d493_14 : decode cJ0_coder_7d493 14 = .ok (.ireturn, 1) := by decide +kernel
theorem dJ0_isLatin1_aae02_0 : decode cJ0_isLatin1_aae02 0 = .ok (.getstatic 38, 3) := by decide +kernel
theorem dJ0_isLatin1_aae02_3 : decode cJ0_isLatin1_aae02 3 = .ok (.ifCond .eq 14, 3) := by decide +kernel
theorem dJ0_isLatin1_aae02_6 : decode cJ0_isLatin1_aae02 6 = .ok (.aload_n 0, 1) := by decide +kernel
theorem dJ0_isLatin1_aae02_7 : decode cJ0_isLatin1_aae02 7 = .ok (.getfield 15, 3) := by decide +kernel
theorem dJ0_isLatin1_aae02_10 : decode cJ0_isLatin1_aae02 10 = .ok (.ifCond .ne 7, 3) := by decide +kernel
theorem dJ0_isLatin1_aae02_13 : decode cJ0_isLatin1_aae02 13 = .ok (.iconst 1, 1) := by decide +kernel
theorem dJ0_isLatin1_aae02_14 : decode cJ0_isLatin1_aae02 14 = .ok (.goto 4, 3) := by decide +kernel
theorem dJ0_isLatin1_aae02_17 : decode cJ0_isLatin1_aae02 17 = .ok (.iconst 0, 1) := by decide +kernel
theorem dJ0_isLatin1_aae02_18 : decode cJ0_isLatin1_aae02 18 = .ok (.ireturn, 1) := by decide +kernel
theorem dJ0_checkIndex_df160_0 : decode cJ0_checkIndex_df160 0 = .ok (.iload_n 0, 1) := by decide +kernel
theorem dJ0_checkIndex_df160_1 : decode cJ0_checkIndex_df160 1 = .ok (.iload_n 1, 1) := by decide +kernel
theorem dJ0_checkIndex_df160_2 : decode cJ0_checkIndex_df160 2 = .ok (.getstatic 1053, 3) := by decide +kernel
theorem dJ0_checkIndex_df160_5 : decode cJ0_checkIndex_df160 5 = .ok (.invokestatic 1059, 3) := by decide +kernel
theorem dJ0_checkIndex_df160_8 : decode cJ0_checkIndex_df160 8 = .ok (.pop, 1) := by decide +kernel
theorem dJ0_checkIndex_df160_9 : decode cJ0_checkIndex_df160 9 = .ok (.return_, 1) := by decide +kernel
theorem dJ1_charAt_3b067_0 : decode cJ1_charAt_3b067 0 = .ok (.iload_n 1, 1) := by decide +kernel
theorem dJ1_charAt_3b067_1 : decode cJ1_charAt_3b067 1 = .ok (.aload_n 0, 1) := by decide +kernel
theorem dJ1_charAt_3b067_2 : decode cJ1_charAt_3b067 2 = .ok (.arraylength, 1) := by decide +kernel
theorem dJ1_charAt_3b067_3 : decode cJ1_charAt_3b067 3 = .ok (.invokestatic 9, 3) := by decide +kernel
theorem dJ1_charAt_3b067_6 : decode cJ1_charAt_3b067 6 = .ok (.aload_n 0, 1) := by decide +kernel
theorem dJ1_charAt_3b067_7 : decode cJ1_charAt_3b067 7 = .ok (.iload_n 1, 1) := by decide +kernel
theorem dJ1_charAt_3b067_8 : decode cJ1_charAt_3b067 8 = .ok (.baload, 1) := by decide +kernel
theorem dJ1_charAt_3b067_9 : decode cJ1_charAt_3b067 9 = .ok (.sipush 255, 3) := by decide +kernel
theorem dJ1_charAt_3b067_12 : decode cJ1_charAt_3b067 12 = .ok (.iand, 1) := by decide +kernel
theorem dJ1_charAt_3b067_13 : decode cJ1_charAt_3b067 13 = .ok (.i2c, 1) := by decide +kernel
theorem dJ1_charAt_3b067_14 : decode cJ1_charAt_3b067 14 = .ok (.ireturn, 1) := by decide +kernel
theorem dJ2_getChar_3b067_0 : decode cJ2_getChar_3b067 0 = .ok (.getstatic 44, 3) := by decide +kernel
theorem dJ2_getChar_3b067_3 : decode cJ2_getChar_3b067 3 = .ok (.ifCond .ne 25, 3) := by decide +kernel
theorem dJ2_getChar_3b067_6 : decode cJ2_getChar_3b067 6 = .ok (.iload_n 1, 1) := by decide +kernel
theorem dJ2_getChar_3b067_7 : decode cJ2_getChar_3b067 7 = .ok (.ifCond .lt 11, 3) := by decide +kernel
theorem dJ2_getChar_3b067_10 : decode cJ2_getChar_3b067 10 = .ok (.iload_n 1, 1) := by decide +kernel
theorem dJ2_getChar_3b067_11 : decode cJ2_getChar_3b067 11 = .ok (.aload_n 0, 1) := by decide +kernel
theorem dJ2_getChar_3b067_12 : decode cJ2_getChar_3b067 12 = .ok (.invokestatic 48, 3) := by decide +kernel
theorem dJ2_getChar_3b067_15 : decode cJ2_getChar_3b067 15 = .ok (.if_icmp .lt 13, 3) := by decide +kernel
theorem dJ2_getChar_3b067_18 : decode cJ2_getChar_3b067 18 = .ok (.new 52, 3) := by decide +kernel
theorem dJ2_getChar_3b067_21 : decode cJ2_getChar_3b067 21 = .ok (.dup, 1) := by decide +kernel
theorem dJ2_getChar_3b067_22 : decode cJ2_getChar_3b067 22 = .ok (.ldc 54, 2) := by decide +kernel
theorem dJ2_getChar_3b067_24 : decode cJ2_getChar_3b067 24 = .ok (.invokespecial 56, 3) := by decide +kernel
theorem dJ2_getChar_3b067_27 : decode cJ2_getChar_3b067 27 = .ok (.athrow, 1) := by decide +kernel
theorem dJ2_getChar_3b067_28 : decode cJ2_getChar_3b067 28 = .ok (.iload_n 1, 1) := by decide +kernel
theorem dJ2_getChar_3b067_29 : decode cJ2_getChar_3b067 29 = .ok (.iconst 1, 1) := by decide +kernel
theorem dJ2_getChar_3b067_30 : decode cJ2_getChar_3b067 30 = .ok (.ishl, 1) := by decide +kernel
theorem dJ2_getChar_3b067_31 : decode cJ2_getChar_3b067 31 = .ok (.istore_n 1, 1) := by decide +kernel
theorem dJ2_getChar_3b067_32 : decode cJ2_getChar_3b067 32 = .ok (.aload_n 0, 1) := by decide +kernel
theorem dJ2_getChar_3b067_33 : decode cJ2_getChar_3b067 33 = .ok (.iload_n 1, 1) := by decide +kernel
theorem dJ2_getChar_3b067_34 : decode cJ2_getChar_3b067 34 = .ok (.iinc 1 1, 3) := by decide +kernel
theorem dJ2_getChar_3b067_37 : decode cJ2_getChar_3b067 37 = .ok (.baload, 1) := by decide +kernel
theorem dJ2_getChar_3b067_38 : decode cJ2_getChar_3b067 38 = .ok (.sipush 255, 3) := by decide +kernel
theorem dJ2_getChar_3b067_41 : decode cJ2_getChar_3b067 41 = .ok (.iand, 1) := by decide +kernel
theorem dJ2_getChar_3b067_42 : decode cJ2_getChar_3b067 42 = .ok (.getstatic 59, 3) := by decide +kernel
theorem dJ2_getChar_3b067_45 : decode cJ2_getChar_3b067 45 = .ok (.ishl, 1) := by decide +kernel
theorem dJ2_getChar_3b067_46 : decode cJ2_getChar_3b067 46 = .ok (.aload_n 0, 1) := by decide +kernel
theorem dJ2_getChar_3b067_47 : decode cJ2_getChar_3b067 47 = .ok (.iload_n 1, 1) := by decide +kernel
theorem dJ2_getChar_3b067_48 : decode cJ2_getChar_3b067 48 = .ok (.baload, 1) := by decide +kernel
theorem dJ2_getChar_3b067_49 : decode cJ2_getChar_3b067 49 = .ok (.sipush 255, 3) := by decide +kernel
theorem dJ2_getChar_3b067_52 : decode cJ2_getChar_3b067 52 = .ok (.iand, 1) := by decide +kernel
theorem dJ2_getChar_3b067_53 : decode cJ2_getChar_3b067 53 = .ok (.getstatic 63, 3) := by decide +kernel
theorem dJ2_getChar_3b067_56 : decode cJ2_getChar_3b067 56 = .ok (.ishl, 1) := by decide +kernel
theorem dJ2_getChar_3b067_57 : decode cJ2_getChar_3b067 57 = .ok (.ior, 1) := by decide +kernel
theorem dJ2_getChar_3b067_58 : decode cJ2_getChar_3b067 58 = .ok (.i2c, 1) := by decide +kernel
theorem dJ2_getChar_3b067_59 : decode cJ2_getChar_3b067 59 = .ok (.ireturn, 1) := by decide +kernel
theorem dJ2_length_9d52b_0 : decode cJ2_length_9d52b 0 = .ok (.aload_n 0, 1) := by decide +kernel
theorem dJ2_length_9d52b_1 : decode cJ2_length_9d52b 1 = .ok (.arraylength, 1) := by decide +kernel
theorem dJ2_length_9d52b_2 : decode cJ2_length_9d52b 2 = .ok (.iconst 1, 1) := by decide +kernel
theorem dJ2_length_9d52b_3 : decode cJ2_length_9d52b 3 = .ok (.ishr, 1) := by decide +kernel
theorem dJ2_length_9d52b_4 : decode cJ2_length_9d52b 4 = .ok (.ireturn, 1) := by decide +kernel
theorem dJ2_charAt_3b067_0 : decode cJ2_charAt_3b067 0 = .ok (.iload_n 1, 1) := by decide +kernel
theorem dJ2_charAt_3b067_1 : decode cJ2_charAt_3b067 1 = .ok (.aload_n 0, 1) := by decide +kernel
theorem dJ2_charAt_3b067_2 : decode cJ2_charAt_3b067 2 = .ok (.invokestatic 67, 3) := by decide +kernel
theorem dJ2_charAt_3b067_5 : decode cJ2_charAt_3b067 5 = .ok (.aload_n 0, 1) := by decide +kernel
theorem dJ2_charAt_3b067_6 : decode cJ2_charAt_3b067 6 = .ok (.iload_n 1, 1) := by decide +kernel
theorem dJ2_charAt_3b067_7 : decode cJ2_charAt_3b067 7 = .ok (.invokestatic 71, 3) := by decide +kernel
theorem dJ2_charAt_3b067_10 : decode cJ2_charAt_3b067 10 = .ok (.ireturn, 1) := by decide +kernel
theorem dJ2_checkIndex_2214a_0 : decode cJ2_checkIndex_2214a 0 = .ok (.iload_n 0, 1) := by decide +kernel
theorem dJ2_checkIndex_2214a_1 : decode cJ2_checkIndex_2214a 1 = .ok (.aload_n 1, 1) := by decide +kernel
theorem dJ2_checkIndex_2214a_2 : decode cJ2_checkIndex_2214a 2 = .ok (.invokestatic 48, 3) := by decide +kernel
theorem dJ2_checkIndex_2214a_5 : decode cJ2_checkIndex_2214a 5 = .ok (.invokestatic 414, 3) := by decide +kernel
theorem dJ2_checkIndex_2214a_8 : decode cJ2_checkIndex_2214a 8 = .ok (.return_, 1) := by decide +kernel
theorem dJ3_checkIndex_8e157_0 : decode cJ3_checkIndex_8e157 0 = .ok (.iload_n 0, 1) := by decide +kernel
theorem dJ3_checkIndex_8e157_1 : decode cJ3_checkIndex_8e157 1 = .ok (.ifCond .lt 8, 3) := by decide +kernel
theorem dJ3_checkIndex_8e157_4 : decode cJ3_checkIndex_8e157 4 = .ok (.iload_n 0, 1) := by decide +kernel
theorem dJ3_checkIndex_8e157_5 : decode cJ3_checkIndex_8e157 5 = .ok (.iload_n 1, 1) := by decide +kernel
theorem dJ3_checkIndex_8e157_6 : decode cJ3_checkIndex_8e157 6 = .ok (.if_icmp .lt 10, 3) := by decide +kernel
theorem dJ3_checkIndex_8e157_9 : decode cJ3_checkIndex_8e157 9 = .ok (.aload_n 2, 1) := by decide +kernel
theorem dJ3_checkIndex_8e157_10 : decode cJ3_checkIndex_8e157 10 = .ok (.iload_n 0, 1) := by decide +kernel
theorem dJ3_checkIndex_8e157_11 : decode cJ3_checkIndex_8e157 11 = .ok (.iload_n 1, 1) := by decide +kernel
theorem dJ3_checkIndex_8e157_12 : decode cJ3_checkIndex_8e157 12 = .ok (.invokestatic 95, 3) := by decide +kernel
theorem dJ3_checkIndex_8e157_15 : decode cJ3_checkIndex_8e157 15 = .ok (.athrow, 1) := by decide +kernel
theorem dJ3_checkIndex_8e157_16 : decode cJ3_checkIndex_8e157 16 = .ok (.iload_n 0, 1) := by decide +kernel
theorem dJ3_checkIndex_8e157_17 : decode cJ3_checkIndex_8e157 17 = .ok (.ireturn, 1) := by decide +kernel
end
section
theorem dX9_init_0 : decode cX9_init 0 = .ok (.aload_n 0, 1) := by decide +kernel
theorem dX9_init_1 : decode cX9_init 1 = .ok (.invokespecial 1, 3) := by decide +kernel
theorem dX9_init_4 : decode cX9_init 4 = .ok (.aload_n 0, 1) := by decide +kernel
theorem dX9_init_5 : decode cX9_init 5 = .ok (.new 7, 3) := by decide +kernel
theorem dX9_init_8 : decode cX9_init 8 = .ok (.dup, 1) := by decide +kernel
theorem dX9_init_9 : decode cX9_init 9 = .ok (.invokespecial 9, 3) := by decide +kernel
theorem dX9_init_12 : decode cX9_init 12 = .ok (.putfield 10, 3) := by decide +kernel
theorem dX9_init_15 : decode cX9_init 15 = .ok (.aload_n 0, 1) := by decide +kernel
theorem dX9_init_16 : decode cX9_init 16 = .ok (.aload_n 0, 1) := by decide +kernel
theorem dX9_init_17 : decode cX9_init 17 = .ok (.getfield 10, 3) := by decide +kernel
theorem dX9_init_20 : decode cX9_init 20 = .ok (.getfield 16, 3) := by decide +kernel
theorem dX9_init_23 : decode cX9_init 23 = .ok (.putfield 20, 3) := by decide +kernel
theorem dX9_init_26 : decode cX9_init 26 = .ok (.aload_n 0, 1) := by decide +kernel
theorem dX9_init_27 : decode cX9_init 27 = .ok (.new 21, 3) := by decide +kernel
theorem dX9_init_30 : decode cX9_init 30 = .ok (.dup, 1) := by decide +kernel
theorem dX9_init_31 : decode cX9_init 31 = .ok (.invokespecial 23, 3) := by decide +kernel
theorem dX9_init_34 : decode cX9_init 34 = .ok (.putfield 24, 3) := by decide +kernel
theorem dX9_init_37 : decode cX9_init 37 = .ok (.aload_n 0, 1) := by decide +kernel
theorem dX9_init_38 : decode cX9_init 38 = .ok (.aload_n 0, 1) := by decide +kernel
theorem dX9_init_39 : decode cX9_init 39 = .ok (.getfield 24, 3) := by decide +kernel
theorem dX9_init_42 : decode cX9_init 42 = .ok (.getfield 28, 3) := by decide +kernel
theorem dX9_init_45 : decode cX9_init 45 = .ok (.putfield 32, 3) := by decide +kernel
theorem dX9_init_48 : decode cX9_init 48 = .ok (.aload_n 0, 1) := by decide +kernel
theorem dX9_init_49 : decode cX9_init 49 = .ok (.new 33, 3) := by decide +kernel
theorem dX9_init_52 : decode cX9_init 52 = .ok (.dup, 1) := by decide +kernel
theorem dX9_init_53 : decode cX9_init 53 = .ok (.invokespecial 35, 3) := by decide +kernel
theorem dX9_init_56 : decode cX9_init 56 = .ok (.putfield 36, 3) := by decide +kernel
theorem dX9_init_59 : decode cX9_init 59 = .ok (.aload_n 0, 1) := by decide +kernel
theorem dX9_init_60 : decode cX9_init 60 = .ok (.iconst 2, 1) := by decide +kernel
theorem dX9_init_61 : decode cX9_init 61 = .ok (.anewarray 40, 3) := by decide +kernel
theorem dX9_init_64 : decode cX9_init 64 = .ok (.putfield 42, 3) := by decide +kernel
theorem dX9_init_67 : decode cX9_init 67 = .ok (.iconst 0, 1) := by decide +kernel
theorem dX9_init_68 : decode cX9_init 68 = .ok (.istore_n 1, 1) := by decide +kernel
theorem dX9_init_69 : decode cX9_init 69 = .ok (.iload_n 1, 1) := by decide +kernel
theorem dX9_init_70 : decode cX9_init 70 = .ok (.iconst 2, 1) := by decide +kernel
theorem dX9_init_71 : decode cX9_init 71 = .ok (.if_icmp .ge 22, 3) := by decide +kernel
theorem dX9_init_74 : decode cX9_init 74 = .ok (.aload_n 0, 1) := by decide +kernel
theorem dX9_init_75 : decode cX9_init 75 = .ok (.getfield 42, 3) := by decide +kernel
theorem dX9_init_78 : decode cX9_init 78 = .ok (.iload_n 1, 1) := by decide +kernel
theorem dX9_init_79 : decode cX9_init 79 = .ok (.new 40, 3) := by decide +kernel
theorem dX9_init_82 : decode cX9_init 82 = .ok (.dup, 1) := by decide +kernel
theorem dX9_init_83 : decode cX9_init 83 = .ok (.invokespecial 46, 3) := by decide +kernel
theorem dX9_init_86 : decode cX9_init 86 = .ok (.aastore, 1) := by decide +kernel
theorem dX9_init_87 : decode cX9_init 87 = .ok (.iinc 1 1, 3) := by decide +kernel
theorem dX9_init_90 : decode cX9_init 90 = .ok (.goto (-21), 3) := by decide +kernel
theorem dX9_init_93 : decode cX9_init 93 = .ok (.aload_n 0, 1) := by decide +kernel
theorem dX9_init_94 : decode cX9_init 94 = .ok (.iconst 2, 1) := by decide +kernel
theorem dX9_init_95 : decode cX9_init 95 = .ok (.newarray .boolean, 2) := by decide +kernel
theorem dX9_init_97 : decode cX9_init 97 = .ok (.putfield 47, 3) := by decide +kernel
theorem dX9_init_100 : decode cX9_init 100 = .ok (.aload_n 0, 1) := by decide +kernel
theorem dX9_init_101 : decode cX9_init 101 = .ok (.iconst 4, 1) := by decide +kernel
theorem dX9_init_102 : decode cX9_init 102 = .ok (.anewarray 51, 3) := by decide +kernel
theorem dX9_init_105 : decode cX9_init 105 = .ok (.putfield 53, 3) := by decide +kernel
theorem dX9_init_108 : decode cX9_init 108 = .ok (.iconst 0, 1) := by decide +kernel
theorem dX9_init_109 : decode cX9_init 109 = .ok (.istore_n 1, 1) := by decide +kernel
theorem dX9_init_110 : decode cX9_init 110 = .ok (.iload_n 1, 1) := by decide +kernel
theorem dX9_init_111 : decode cX9_init 111 = .ok (.iconst 4, 1) := by decide +kernel
theorem dX9_init_112 : decode cX9_init 112 = .ok (.if_icmp .ge 22, 3) := by decide +kernel
theorem dX9_init_115 : decode cX9_init 115 = .ok (.aload_n 0, 1) := by decide +kernel
theorem dX9_init_116 : decode cX9_init 116 = .ok (.getfield 53, 3) := by decide +kernel
theorem dX9_init_119 : decode cX9_init 119 = .ok (.iload_n 1, 1) := by decide +kernel
theorem dX9_init_120 : decode cX9_init 120 = .ok (.new 51, 3) := by decide +kernel
theorem dX9_init_123 : decode cX9_init 123 = .ok (.dup, 1) := by decide +kernel
theorem dX9_init_124 : decode cX9_init 124 = .ok (.invokespecial 57, 3) := by decide +kernel
theorem dX9_init_127 : decode cX9_init 127 = .ok (.aastore, 1) := by decide +kernel
theorem dX9_init_128 : decode cX9_init 128 = .ok (.iinc 1 1, 3) := by decide +kernel
theorem dX9_init_131 : decode cX9_init 131 = .ok (.goto (-21), 3) := by decide +kernel
theorem dX9_init_134 : decode cX9_init 134 = .ok (.return_, 1) := by decide +kernel
theorem dX9_feed_0 : decode cX9_feed 0 = .ok (.iload_n 1, 1) := by decide +kernel
theorem dX9_feed_1 : decode cX9_feed 1 = .ok (.ifCond .lt 9, 3) := by decide +kernel
theorem dX9_feed_4 : decode cX9_feed 4 = .ok (.iload_n 1, 1) := by decide +kernel
theorem dX9_feed_5 : decode cX9_feed 5 = .ok (.bipush 127, 2) := by decide +kernel
theorem dX9_feed_7 : decode cX9_feed 7 = .ok (.if_icmp .le 5, 3) := by decide +kernel
theorem dX9_feed_10 : decode cX9_feed 10 = .ok (.iconst (-1), 1) := by decide +kernel
theorem dX9_feed_11 : decode cX9_feed 11 = .ok (.ireturn, 1) := by decide +kernel
theorem dX9_feed_12 : decode cX9_feed 12 = .ok (.aload_n 0, 1) := by decide +kernel
theorem dX9_feed_13 : decode cX9_feed 13 = .ok (.getfield 20, 3) := by decide +kernel
theorem dX9_feed_16 : decode cX9_feed 16 = .ok (.getfield 58, 3) := by decide +kernel
theorem dX9_feed_19 : decode cX9_feed 19 = .ok (.sipush 160, 3) := by decide +kernel
theorem dX9_feed_22 : decode cX9_feed 22 = .ok (.if_icmp .lt 6, 3) := by decide +kernel
theorem dX9_feed_25 : decode cX9_feed 25 = .ok (.bipush (-3), 2) := by decide +kernel
theorem dX9_feed_27 : decode cX9_feed 27 = .ok (.ireturn, 1) := by decide +kernel
theorem dX9_feed_28 : decode cX9_feed 28 = .ok (.aload_n 0, 1) := by decide +kernel
theorem dX9_feed_29 : decode cX9_feed 29 = .ok (.getfield 20, 3) := by decide +kernel
theorem dX9_feed_32 : decode cX9_feed 32 = .ok (.iload_n 1, 1) := by decide +kernel
theorem dX9_feed_33 : decode cX9_feed 33 = .ok (.invokevirtual 64, 3) := by decide +kernel
theorem dX9_feed_36 : decode cX9_feed 36 = .ok (.aload_n 0, 1) := by decide +kernel
theorem dX9_feed_37 : decode cX9_feed 37 = .ok (.getfield 20, 3) := by decide +kernel
theorem dX9_feed_40 : decode cX9_feed 40 = .ok (.getfield 58, 3) := by decide +kernel
theorem dX9_feed_43 : decode cX9_feed 43 = .ok (.ireturn, 1) := by decide +kernel
theorem dX9_end_0 : decode cX9_end 0 = .ok (.iload_n 1, 1) := by decide +kernel
theorem dX9_end_1 : decode cX9_end 1 = .ok (.ifCond .lt 14, 3) := by decide +kernel
theorem dX9_end_4 : decode cX9_end 4 = .ok (.iload_n 1, 1) := by decide +kernel
theorem dX9_end_5 : decode cX9_end 5 = .ok (.aload_n 0, 1) := by decide +kernel
theorem dX9_end_6 : decode cX9_end 6 = .ok (.getfield 20, 3) := by decide +kernel
theorem dX9_end_9 : decode cX9_end 9 = .ok (.getfield 58, 3) := by decide +kernel
theorem dX9_end_12 : decode cX9_end 12 = .ok (.if_icmp .le 5, 3) := by decide +kernel
theorem dX9_end_15 : decode cX9_end 15 = .ok (.iconst (-1), 1) := by decide +kernel
theorem dX9_end_16 : decode cX9_end 16 = .ok (.ireturn, 1) := by decide +kernel
theorem dX9_end_17 : decode cX9_end 17 = .ok (.aload_n 0, 1) := by decide +kernel
theorem dX9_end_18 : decode cX9_end 18 = .ok (.getfield 20, 3) := by decide +kernel
theorem dX9_end_21 : decode cX9_end 21 = .ok (.getfield 58, 3) := by decide +kernel
theorem dX9_end_24 : decode cX9_end 24 = .ok (.istore_n 2, 1) := by decide +kernel
theorem dX9_end_25 : decode cX9_end 25 = .ok (.aload_n 0, 1) := by decide +kernel
theorem dX9_end_26 : decode cX9_end 26 = .ok (.getfield 20, 3) := by decide +kernel
theorem dX9_end_29 : decode cX9_end 29 = .ok (.iload_n 1, 1) := by decide +kernel
theorem dX9_end_30 : decode cX9_end 30 = .ok (.invokevirtual 68, 3) := by decide +kernel
theorem dX9_end_33 : decode cX9_end 33 = .ok (.iload_n 2, 1) := by decide +kernel
theorem dX9_end_34 : decode cX9_end 34 = .ok (.ireturn, 1) := by decide +kernel
theorem dX9_text_0 : decode cX9_text 0 = .ok (.aload_n 0, 1) := by decide +kernel
theorem dX9_text_1 : decode cX9_text 1 = .ok (.getfield 10, 3) := by decide +kernel
theorem dX9_text_4 : decode cX9_text 4 = .ok (.invokevirtual 71, 3) := by decide +kernel
theorem dX9_text_7 : decode cX9_text 7 = .ok (.istore_n 1, 1) := by decide +kernel
theorem dX9_text_8 : decode cX9_text 8 = .ok (.aload_n 0, 1) := by decide +kernel
theorem dX9_text_9 : decode cX9_text 9 = .ok (.getfield 20, 3) := by decide +kernel
theorem dX9_text_12 : decode cX9_text 12 = .ok (.iconst 0, 1) := by decide +kernel
theorem dX9_text_13 : decode cX9_text 13 = .ok (.invokevirtual 68, 3) := by decide +kernel
theorem dX9_text_16 : decode cX9_text 16 = .ok (.iload_n 1, 1) := by decide +kernel
theorem dX9_text_17 : decode cX9_text 17 = .ok (.ifCond .ne 17, 3) := by decide +kernel
theorem dX9_text_20 : decode cX9_text 20 = .ok (.bipush (-10), 2) := by decide +kernel
theorem dX9_text_22 : decode cX9_text 22 = .ok (.aload_n 0, 1) := by decide +kernel
theorem dX9_text_23 : decode cX9_text 23 = .ok (.getfield 10, 3) := by decide +kernel
theorem dX9_text_26 : decode cX9_text 26 = .ok (.getfield 75, 3) := by decide +kernel
theorem dX9_text_29 : decode cX9_text 29 = .ok (.getfield 79, 3) := by decide +kernel
theorem dX9_text_32 : decode cX9_text 32 = .ok (.isub, 1) := by decide +kernel
theorem dX9_text_33 : decode cX9_text 33 = .ok (.ireturn, 1) := by decide +kernel
theorem dX9_text_34 : decode cX9_text 34 = .ok (.aload_n 0, 1) := by decide +kernel
theorem dX9_text_35 : decode cX9_text 35 = .ok (.getfield 32, 3) := by decide +kernel
theorem dX9_text_38 : decode cX9_text 38 = .ok (.aload_n 0, 1) := by decide +kernel
theorem dX9_text_39 : decode cX9_text 39 = .ok (.getfield 10, 3) := by decide +kernel
theorem dX9_text_42 : decode cX9_text 42 = .ok (.getfield 84, 3) := by decide +kernel
theorem dX9_text_45 : decode cX9_text 45 = .ok (.invokevirtual 87, 3) := by decide +kernel
theorem dX9_text_48 : decode cX9_text 48 = .ok (.iconst 0, 1) := by decide +kernel
theorem dX9_text_49 : decode cX9_text 49 = .ok (.istore_n 2, 1) := by decide +kernel
theorem dX9_text_50 : decode cX9_text 50 = .ok (.iload_n 2, 1) := by decide +kernel
theorem dX9_text_51 : decode cX9_text 51 = .ok (.iconst 2, 1) := by decide +kernel
theorem dX9_text_52 : decode cX9_text 52 = .ok (.if_icmp .ge 16, 3) := by decide +kernel
theorem dX9_text_55 : decode cX9_text 55 = .ok (.aload_n 0, 1) := by decide +kernel
theorem dX9_text_56 : decode cX9_text 56 = .ok (.getfield 47, 3) := by decide +kernel
theorem dX9_text_59 : decode cX9_text 59 = .ok (.iload_n 2, 1) := by decide +kernel
theorem dX9_text_60 : decode cX9_text 60 = .ok (.iconst 0, 1) := by decide +kernel
theorem dX9_text_61 : decode cX9_text 61 = .ok (.bastore, 1) := by decide +kernel
theorem dX9_text_62 : decode cX9_text 62 = .ok (.iinc 2 1, 3) := by decide +kernel
theorem dX9_text_65 : decode cX9_text 65 = .ok (.goto (-15), 3) := by decide +kernel
theorem dX9_text_68 : decode cX9_text 68 = .ok (.aload_n 0, 1) := by decide +kernel
theorem dX9_text_69 : decode cX9_text 69 = .ok (.invokevirtual 91, 3) := by decide +kernel
theorem dX9_text_72 : decode cX9_text 72 = .ok (.ireturn, 1) := by decide +kernel
theorem dX9_fault_0 : decode cX9_fault 0 = .ok (.aload_n 0, 1) := by decide +kernel
theorem dX9_fault_1 : decode cX9_fault 1 = .ok (.getfield 10, 3) := by decide +kernel
theorem dX9_fault_4 : decode cX9_fault 4 = .ok (.getfield 75, 3) := by decide +kernel
theorem dX9_fault_7 : decode cX9_fault 7 = .ok (.getfield 95, 3) := by decide +kernel
theorem dX9_fault_10 : decode cX9_fault 10 = .ok (.ireturn, 1) := by decide +kernel
theorem dX9_reason_0 : decode cX9_reason 0 = .ok (.iload_n 1, 1) := by decide +kernel
theorem dX9_reason_1 : decode cX9_reason 1 = .ok (.ifCond .lt 8, 3) := by decide +kernel
theorem dX9_reason_4 : decode cX9_reason 4 = .ok (.iload_n 1, 1) := by decide +kernel
theorem dX9_reason_5 : decode cX9_reason 5 = .ok (.iconst 2, 1) := by decide +kernel
theorem dX9_reason_6 : decode cX9_reason 6 = .ok (.if_icmp .le 5, 3) := by decide +kernel
theorem dX9_reason_9 : decode cX9_reason 9 = .ok (.iconst (-1), 1) := by decide +kernel
theorem dX9_reason_10 : decode cX9_reason 10 = .ok (.ireturn, 1) := by decide +kernel
theorem dX9_reason_11 : decode cX9_reason 11 = .ok (.aload_n 0, 1) := by decide +kernel
theorem dX9_reason_12 : decode cX9_reason 12 = .ok (.getfield 10, 3) := by decide +kernel
theorem dX9_reason_15 : decode cX9_reason 15 = .ok (.getfield 75, 3) := by decide +kernel
theorem dX9_reason_18 : decode cX9_reason 18 = .ok (.iload_n 1, 1) := by decide +kernel
theorem dX9_reason_19 : decode cX9_reason 19 = .ok (.invokevirtual 98, 3) := by decide +kernel
theorem dX9_reason_22 : decode cX9_reason 22 = .ok (.ireturn, 1) := by decide +kernel
theorem dX9_rule_0 : decode cX9_rule 0 = .ok (.iload_n 1, 1) := by decide +kernel
theorem dX9_rule_1 : decode cX9_rule 1 = .ok (.tableswitch 118 0 10 #[59, 67, 85, 85, 85, 85, 85, 85, 94, 102, 110], 59) := by decide +kernel
theorem dX9_rule_60 : decode cX9_rule 60 = .ok (.aload_n 0, 1) := by decide +kernel
theorem dX9_rule_61 : decode cX9_rule 61 = .ok (.getfield 32, 3) := by decide +kernel
theorem dX9_rule_64 : decode cX9_rule 64 = .ok (.getfield 102, 3) := by decide +kernel
theorem dX9_rule_67 : decode cX9_rule 67 = .ok (.ireturn, 1) := by decide +kernel
theorem dX9_rule_68 : decode cX9_rule 68 = .ok (.aload_n 0, 1) := by decide +kernel
theorem dX9_rule_69 : decode cX9_rule 69 = .ok (.getfield 24, 3) := by decide +kernel
theorem dX9_rule_72 : decode cX9_rule 72 = .ok (.getfield 105, 3) := by decide +kernel
theorem dX9_rule_75 : decode cX9_rule 75 = .ok (.aload_n 0, 1) := by decide +kernel
theorem dX9_rule_76 : decode cX9_rule 76 = .ok (.getfield 32, 3) := by decide +kernel
theorem dX9_rule_79 : decode cX9_rule 79 = .ok (.getfield 102, 3) := by decide +kernel
theorem dX9_rule_82 : decode cX9_rule 82 = .ok (.iaload, 1) := by decide +kernel
theorem dX9_rule_83 : decode cX9_rule 83 = .ok (.iconst 1, 1) := by decide +kernel
theorem dX9_rule_84 : decode cX9_rule 84 = .ok (.iadd, 1) := by decide +kernel
theorem dX9_rule_85 : decode cX9_rule 85 = .ok (.ireturn, 1) := by decide +kernel
theorem dX9_rule_86 : decode cX9_rule 86 = .ok (.aload_n 0, 1) := by decide +kernel
theorem dX9_rule_87 : decode cX9_rule 87 = .ok (.getfield 24, 3) := by decide +kernel
theorem dX9_rule_90 : decode cX9_rule 90 = .ok (.iload_n 1, 1) := by decide +kernel
theorem dX9_rule_91 : decode cX9_rule 91 = .ok (.invokevirtual 109, 3) := by decide +kernel
theorem dX9_rule_94 : decode cX9_rule 94 = .ok (.ireturn, 1) := by decide +kernel
theorem dX9_rule_95 : decode cX9_rule 95 = .ok (.aload_n 0, 1) := by decide +kernel
theorem dX9_rule_96 : decode cX9_rule 96 = .ok (.getfield 36, 3) := by decide +kernel
theorem dX9_rule_99 : decode cX9_rule 99 = .ok (.getfield 112, 3) := by decide +kernel
theorem dX9_rule_102 : decode cX9_rule 102 = .ok (.ireturn, 1) := by decide +kernel
theorem dX9_rule_103 : decode cX9_rule 103 = .ok (.aload_n 0, 1) := by decide +kernel
theorem dX9_rule_104 : decode cX9_rule 104 = .ok (.getfield 36, 3) := by decide +kernel
theorem dX9_rule_107 : decode cX9_rule 107 = .ok (.getfield 115, 3) := by decide +kernel
theorem dX9_rule_110 : decode cX9_rule 110 = .ok (.ireturn, 1) := by decide +kernel
theorem dX9_rule_111 : decode cX9_rule 111 = .ok (.aload_n 0, 1) := by decide +kernel
theorem dX9_rule_112 : decode cX9_rule 112 = .ok (.getfield 24, 3) := by decide +kernel
theorem dX9_rule_115 : decode cX9_rule 115 = .ok (.invokevirtual 118, 3) := by decide +kernel
theorem dX9_rule_118 : decode cX9_rule 118 = .ok (.ireturn, 1) := by decide +kernel
theorem dX9_rule_119 : decode cX9_rule 119 = .ok (.iconst (-1), 1) := by decide +kernel
theorem dX9_rule_120 : decode cX9_rule 120 = .ok (.ireturn, 1) := by decide +kernel
theorem dX9_sign_0 : decode cX9_sign 0 = .ok (.aload_n 0, 1) := by decide +kernel
theorem dX9_sign_1 : decode cX9_sign 1 = .ok (.getfield 32, 3) := by decide +kernel
theorem dX9_sign_4 : decode cX9_sign 4 = .ok (.iload_n 1, 1) := by decide +kernel
theorem dX9_sign_5 : decode cX9_sign 5 = .ok (.invokevirtual 121, 3) := by decide +kernel
theorem dX9_sign_8 : decode cX9_sign 8 = .ok (.ifCond .ne 5, 3) := by decide +kernel
theorem dX9_sign_11 : decode cX9_sign 11 = .ok (.iconst (-1), 1) := by decide +kernel
theorem dX9_sign_12 : decode cX9_sign 12 = .ok (.ireturn, 1) := by decide +kernel
theorem dX9_sign_13 : decode cX9_sign 13 = .ok (.iload_n 2, 1) := by decide +kernel
theorem dX9_sign_14 : decode cX9_sign 14 = .ok (.tableswitch 146 0 8 #[50, 59, 69, 79, 89, 99, 111, 123, 136], 50) := by decide +kernel
theorem dX9_sign_64 : decode cX9_sign 64 = .ok (.aload_n 0, 1) := by decide +kernel
theorem dX9_sign_65 : decode cX9_sign 65 = .ok (.getfield 32, 3) := by decide +kernel
theorem dX9_sign_68 : decode cX9_sign 68 = .ok (.iload_n 1, 1) := by decide +kernel
theorem dX9_sign_69 : decode cX9_sign 69 = .ok (.invokevirtual 125, 3) := by decide +kernel
theorem dX9_sign_72 : decode cX9_sign 72 = .ok (.ireturn, 1) := by decide +kernel
theorem dX9_sign_73 : decode cX9_sign 73 = .ok (.aload_n 0, 1) := by decide +kernel
theorem dX9_sign_74 : decode cX9_sign 74 = .ok (.getfield 24, 3) := by decide +kernel
theorem dX9_sign_77 : decode cX9_sign 77 = .ok (.getfield 128, 3) := by decide +kernel
theorem dX9_sign_80 : decode cX9_sign 80 = .ok (.iload_n 1, 1) := by decide +kernel
theorem dX9_sign_81 : decode cX9_sign 81 = .ok (.iaload, 1) := by decide +kernel
theorem dX9_sign_82 : decode cX9_sign 82 = .ok (.ireturn, 1) := by decide +kernel
theorem dX9_sign_83 : decode cX9_sign 83 = .ok (.aload_n 0, 1) := by decide +kernel
theorem dX9_sign_84 : decode cX9_sign 84 = .ok (.getfield 24, 3) := by decide +kernel
theorem dX9_sign_87 : decode cX9_sign 87 = .ok (.getfield 131, 3) := by decide +kernel
theorem dX9_sign_90 : decode cX9_sign 90 = .ok (.iload_n 1, 1) := by decide +kernel
theorem dX9_sign_91 : decode cX9_sign 91 = .ok (.iaload, 1) := by decide +kernel
theorem dX9_sign_92 : decode cX9_sign 92 = .ok (.ireturn, 1) := by decide +kernel
theorem dX9_sign_93 : decode cX9_sign 93 = .ok (.aload_n 0, 1) := by decide +kernel
theorem dX9_sign_94 : decode cX9_sign 94 = .ok (.getfield 24, 3) := by decide +kernel
theorem dX9_sign_97 : decode cX9_sign 97 = .ok (.getfield 134, 3) := by decide +kernel
theorem dX9_sign_100 : decode cX9_sign 100 = .ok (.iload_n 1, 1) := by decide +kernel
theorem dX9_sign_101 : decode cX9_sign 101 = .ok (.iaload, 1) := by decide +kernel
theorem dX9_sign_102 : decode cX9_sign 102 = .ok (.ireturn, 1) := by decide +kernel
theorem dX9_sign_103 : decode cX9_sign 103 = .ok (.aload_n 0, 1) := by decide +kernel
theorem dX9_sign_104 : decode cX9_sign 104 = .ok (.getfield 24, 3) := by decide +kernel
theorem dX9_sign_107 : decode cX9_sign 107 = .ok (.getfield 137, 3) := by decide +kernel
theorem dX9_sign_110 : decode cX9_sign 110 = .ok (.iload_n 1, 1) := by decide +kernel
theorem dX9_sign_111 : decode cX9_sign 111 = .ok (.iaload, 1) := by decide +kernel
theorem dX9_sign_112 : decode cX9_sign 112 = .ok (.ireturn, 1) := by decide +kernel
theorem dX9_sign_113 : decode cX9_sign 113 = .ok (.aload_n 0, 1) := by decide +kernel
theorem dX9_sign_114 : decode cX9_sign 114 = .ok (.getfield 24, 3) := by decide +kernel
theorem dX9_sign_117 : decode cX9_sign 117 = .ok (.iload_n 1, 1) := by decide +kernel
theorem dX9_sign_118 : decode cX9_sign 118 = .ok (.invokevirtual 140, 3) := by decide +kernel
theorem dX9_sign_121 : decode cX9_sign 121 = .ok (.invokestatic 143, 3) := by decide +kernel
theorem dX9_sign_124 : decode cX9_sign 124 = .ok (.ireturn, 1) := by decide +kernel
theorem dX9_sign_125 : decode cX9_sign 125 = .ok (.aload_n 0, 1) := by decide +kernel
theorem dX9_sign_126 : decode cX9_sign 126 = .ok (.getfield 32, 3) := by decide +kernel
theorem dX9_sign_129 : decode cX9_sign 129 = .ok (.iload_n 1, 1) := by decide +kernel
theorem dX9_sign_130 : decode cX9_sign 130 = .ok (.invokevirtual 147, 3) := by decide +kernel
theorem dX9_sign_133 : decode cX9_sign 133 = .ok (.invokestatic 143, 3) := by decide +kernel
theorem dX9_sign_136 : decode cX9_sign 136 = .ok (.ireturn, 1) := by decide +kernel
theorem dX9_sign_137 : decode cX9_sign 137 = .ok (.aload_n 0, 1) := by decide +kernel
theorem dX9_sign_138 : decode cX9_sign 138 = .ok (.getfield 24, 3) := by decide +kernel
theorem dX9_sign_141 : decode cX9_sign 141 = .ok (.getfield 150, 3) := by decide +kernel
theorem dX9_sign_144 : decode cX9_sign 144 = .ok (.iload_n 1, 1) := by decide +kernel
theorem dX9_sign_145 : decode cX9_sign 145 = .ok (.baload, 1) := by decide +kernel
theorem dX9_sign_146 : decode cX9_sign 146 = .ok (.invokestatic 143, 3) := by decide +kernel
theorem dX9_sign_149 : decode cX9_sign 149 = .ok (.ireturn, 1) := by decide +kernel
theorem dX9_sign_150 : decode cX9_sign 150 = .ok (.aload_n 0, 1) := by decide +kernel
theorem dX9_sign_151 : decode cX9_sign 151 = .ok (.getfield 24, 3) := by decide +kernel
theorem dX9_sign_154 : decode cX9_sign 154 = .ok (.getfield 105, 3) := by decide +kernel
theorem dX9_sign_157 : decode cX9_sign 157 = .ok (.iload_n 1, 1) := by decide +kernel
theorem dX9_sign_158 : decode cX9_sign 158 = .ok (.iaload, 1) := by decide +kernel
theorem dX9_sign_159 : decode cX9_sign 159 = .ok (.ireturn, 1) := by decide +kernel
theorem dX9_sign_160 : decode cX9_sign 160 = .ok (.iconst (-1), 1) := by decide +kernel
theorem dX9_sign_161 : decode cX9_sign 161 = .ok (.ireturn, 1) := by decide +kernel
theorem dX9_low_0 : decode cX9_low 0 = .ok (.aload_n 0, 1) := by decide +kernel
theorem dX9_low_1 : decode cX9_low 1 = .ok (.getfield 32, 3) := by decide +kernel
theorem dX9_low_4 : decode cX9_low 4 = .ok (.iload_n 1, 1) := by decide +kernel
theorem dX9_low_5 : decode cX9_low 5 = .ok (.invokevirtual 153, 3) := by decide +kernel
theorem dX9_low_8 : decode cX9_low 8 = .ok (.ifCond .eq 19, 3) := by decide +kernel
theorem dX9_low_11 : decode cX9_low 11 = .ok (.aload_n 0, 1) := by decide +kernel
theorem dX9_low_12 : decode cX9_low 12 = .ok (.getfield 32, 3) := by decide +kernel
theorem dX9_low_15 : decode cX9_low 15 = .ok (.iload_n 2, 1) := by decide +kernel
theorem dX9_low_16 : decode cX9_low 16 = .ok (.invokevirtual 153, 3) := by decide +kernel
theorem dX9_low_19 : decode cX9_low 19 = .ok (.ifCond .eq 8, 3) := by decide +kernel
theorem dX9_low_22 : decode cX9_low 22 = .ok (.iload_n 2, 1) := by decide +kernel
theorem dX9_low_23 : decode cX9_low 23 = .ok (.iload_n 1, 1) := by decide +kernel
theorem dX9_low_24 : decode cX9_low 24 = .ok (.if_icmp .ge 5, 3) := by decide +kernel
theorem dX9_low_27 : decode cX9_low 27 = .ok (.iconst (-1), 1) := by decide +kernel
theorem dX9_low_28 : decode cX9_low 28 = .ok (.ireturn, 1) := by decide +kernel
theorem dX9_low_29 : decode cX9_low 29 = .ok (.aload_n 0, 1) := by decide +kernel
theorem dX9_low_30 : decode cX9_low 30 = .ok (.getfield 24, 3) := by decide +kernel
theorem dX9_low_33 : decode cX9_low 33 = .ok (.iload_n 1, 1) := by decide +kernel
theorem dX9_low_34 : decode cX9_low 34 = .ok (.iload_n 2, 1) := by decide +kernel
theorem dX9_low_35 : decode cX9_low 35 = .ok (.invokevirtual 156, 3) := by decide +kernel
theorem dX9_low_38 : decode cX9_low 38 = .ok (.ireturn, 1) := by decide +kernel
theorem dX9_around_0 : decode cX9_around 0 = .ok (.aload_n 0, 1) := by decide +kernel
theorem dX9_around_1 : decode cX9_around 1 = .ok (.getfield 32, 3) := by decide +kernel
theorem dX9_around_4 : decode cX9_around 4 = .ok (.iload_n 1, 1) := by decide +kernel
theorem dX9_around_5 : decode cX9_around 5 = .ok (.invokevirtual 121, 3) := by decide +kernel
theorem dX9_around_8 : decode cX9_around 8 = .ok (.ifCond .eq 12, 3) := by decide +kernel
theorem dX9_around_11 : decode cX9_around 11 = .ok (.iload_n 2, 1) := by decide +kernel
theorem dX9_around_12 : decode cX9_around 12 = .ok (.ifCond .lt 8, 3) := by decide +kernel
theorem dX9_around_15 : decode cX9_around 15 = .ok (.iload_n 2, 1) := by decide +kernel
theorem dX9_around_16 : decode cX9_around 16 = .ok (.iconst 3, 1) := by decide +kernel
theorem dX9_around_17 : decode cX9_around 17 = .ok (.if_icmp .le 5, 3) := by decide +kernel
theorem dX9_around_20 : decode cX9_around 20 = .ok (.iconst (-1), 1) := by decide +kernel
theorem dX9_around_21 : decode cX9_around 21 = .ok (.ireturn, 1) := by decide +kernel
theorem dX9_around_22 : decode cX9_around 22 = .ok (.aload_n 0, 1) := by decide +kernel
theorem dX9_around_23 : decode cX9_around 23 = .ok (.getfield 24, 3) := by decide +kernel
theorem dX9_around_26 : decode cX9_around 26 = .ok (.iload_n 1, 1) := by decide +kernel
theorem dX9_around_27 : decode cX9_around 27 = .ok (.iload_n 2, 1) := by decide +kernel
theorem dX9_around_28 : decode cX9_around 28 = .ok (.invokevirtual 160, 3) := by decide +kernel
theorem dX9_around_31 : decode cX9_around 31 = .ok (.ireturn, 1) := by decide +kernel
theorem dX9_whole_0 : decode cX9_whole 0 = .ok (.aload_n 0, 1) := by decide +kernel
theorem dX9_whole_1 : decode cX9_whole 1 = .ok (.getfield 32, 3) := by decide +kernel
theorem dX9_whole_4 : decode cX9_whole 4 = .ok (.iload_n 1, 1) := by decide +kernel
theorem dX9_whole_5 : decode cX9_whole 5 = .ok (.invokevirtual 153, 3) := by decide +kernel
theorem dX9_whole_8 : decode cX9_whole 8 = .ok (.ifCond .ne 5, 3) := by decide +kernel
theorem dX9_whole_11 : decode cX9_whole 11 = .ok (.iconst (-1), 1) := by decide +kernel
theorem dX9_whole_12 : decode cX9_whole 12 = .ok (.ireturn, 1) := by decide +kernel
theorem dX9_whole_13 : decode cX9_whole 13 = .ok (.aload_n 0, 1) := by decide +kernel
theorem dX9_whole_14 : decode cX9_whole 14 = .ok (.getfield 24, 3) := by decide +kernel
theorem dX9_whole_17 : decode cX9_whole 17 = .ok (.iload_n 1, 1) := by decide +kernel
theorem dX9_whole_18 : decode cX9_whole 18 = .ok (.invokevirtual 163, 3) := by decide +kernel
theorem dX9_whole_21 : decode cX9_whole 21 = .ok (.ireturn, 1) := by decide +kernel
theorem dX9_bare_0 : decode cX9_bare 0 = .ok (.aload_n 0, 1) := by decide +kernel
theorem dX9_bare_1 : decode cX9_bare 1 = .ok (.getfield 32, 3) := by decide +kernel
theorem dX9_bare_4 : decode cX9_bare 4 = .ok (.iload_n 1, 1) := by decide +kernel
theorem dX9_bare_5 : decode cX9_bare 5 = .ok (.invokevirtual 153, 3) := by decide +kernel
theorem dX9_bare_8 : decode cX9_bare 8 = .ok (.ifCond .ne 5, 3) := by decide +kernel
theorem dX9_bare_11 : decode cX9_bare 11 = .ok (.iconst (-1), 1) := by decide +kernel
theorem dX9_bare_12 : decode cX9_bare 12 = .ok (.ireturn, 1) := by decide +kernel
theorem dX9_bare_13 : decode cX9_bare 13 = .ok (.iload_n 2, 1) := by decide +kernel
theorem dX9_bare_14 : decode cX9_bare 14 = .ok (.lookupswitch 44 #[(0, 26), (1, 35)], 26) := by decide +kernel
theorem dX9_bare_40 : decode cX9_bare 40 = .ok (.aload_n 0, 1) := by decide +kernel
theorem dX9_bare_41 : decode cX9_bare 41 = .ok (.getfield 24, 3) := by decide +kernel
theorem dX9_bare_44 : decode cX9_bare 44 = .ok (.iload_n 1, 1) := by decide +kernel
theorem dX9_bare_45 : decode cX9_bare 45 = .ok (.invokevirtual 166, 3) := by decide +kernel
theorem dX9_bare_48 : decode cX9_bare 48 = .ok (.ireturn, 1) := by decide +kernel
theorem dX9_bare_49 : decode cX9_bare 49 = .ok (.aload_n 0, 1) := by decide +kernel
theorem dX9_bare_50 : decode cX9_bare 50 = .ok (.getfield 24, 3) := by decide +kernel
theorem dX9_bare_53 : decode cX9_bare 53 = .ok (.iload_n 1, 1) := by decide +kernel
theorem dX9_bare_54 : decode cX9_bare 54 = .ok (.invokevirtual 169, 3) := by decide +kernel
theorem dX9_bare_57 : decode cX9_bare 57 = .ok (.ireturn, 1) := by decide +kernel
theorem dX9_bare_58 : decode cX9_bare 58 = .ok (.iconst (-1), 1) := by decide +kernel
theorem dX9_bare_59 : decode cX9_bare 59 = .ok (.ireturn, 1) := by decide +kernel
theorem dX9_longest_0 : decode cX9_longest 0 = .ok (.iload_n 1, 1) := by decide +kernel
theorem dX9_longest_1 : decode cX9_longest 1 = .ok (.ifCond .lt 8, 3) := by decide +kernel
theorem dX9_longest_4 : decode cX9_longest 4 = .ok (.iload_n 1, 1) := by decide +kernel
theorem dX9_longest_5 : decode cX9_longest 5 = .ok (.iconst 1, 1) := by decide +kernel
theorem dX9_longest_6 : decode cX9_longest 6 = .ok (.if_icmp .le 5, 3) := by decide +kernel
theorem dX9_longest_9 : decode cX9_longest 9 = .ok (.iconst (-1), 1) := by decide +kernel
theorem dX9_longest_10 : decode cX9_longest 10 = .ok (.ireturn, 1) := by decide +kernel
theorem dX9_longest_11 : decode cX9_longest 11 = .ok (.aload_n 0, 1) := by decide +kernel
theorem dX9_longest_12 : decode cX9_longest 12 = .ok (.getfield 24, 3) := by decide +kernel
theorem dX9_longest_15 : decode cX9_longest 15 = .ok (.invokevirtual 172, 3) := by decide +kernel
theorem dX9_longest_18 : decode cX9_longest 18 = .ok (.istore_n 2, 1) := by decide +kernel
theorem dX9_longest_19 : decode cX9_longest 19 = .ok (.iload_n 1, 1) := by decide +kernel
theorem dX9_longest_20 : decode cX9_longest 20 = .ok (.ifCond .ne 7, 3) := by decide +kernel
theorem dX9_longest_23 : decode cX9_longest 23 = .ok (.iload_n 2, 1) := by decide +kernel
theorem dX9_longest_24 : decode cX9_longest 24 = .ok (.goto 13, 3) := by decide +kernel
theorem dX9_longest_27 : decode cX9_longest 27 = .ok (.aload_n 0, 1) := by decide +kernel
theorem dX9_longest_28 : decode cX9_longest 28 = .ok (.getfield 24, 3) := by decide +kernel
theorem dX9_longest_31 : decode cX9_longest 31 = .ok (.iload_n 2, 1) := by decide +kernel
theorem dX9_longest_32 : decode cX9_longest 32 = .ok (.invokevirtual 163, 3) := by decide +kernel
theorem dX9_longest_35 : decode cX9_longest 35 = .ok (.iload_n 2, 1) := by decide +kernel
theorem dX9_longest_36 : decode cX9_longest 36 = .ok (.isub, 1) := by decide +kernel
theorem dX9_longest_37 : decode cX9_longest 37 = .ok (.ireturn, 1) := by decide +kernel
theorem dX9_seen_0 : decode cX9_seen 0 = .ok (.iload_n 1, 1) := by decide +kernel
theorem dX9_seen_1 : decode cX9_seen 1 = .ok (.ifCond .ge 5, 3) := by decide +kernel
theorem dX9_seen_4 : decode cX9_seen 4 = .ok (.iconst (-1), 1) := by decide +kernel
theorem dX9_seen_5 : decode cX9_seen 5 = .ok (.ireturn, 1) := by decide +kernel
theorem dX9_seen_6 : decode cX9_seen 6 = .ok (.aload_n 0, 1) := by decide +kernel
theorem dX9_seen_7 : decode cX9_seen 7 = .ok (.getfield 24, 3) := by decide +kernel
theorem dX9_seen_10 : decode cX9_seen 10 = .ok (.iload_n 1, 1) := by decide +kernel
theorem dX9_seen_11 : decode cX9_seen 11 = .ok (.invokevirtual 175, 3) := by decide +kernel
theorem dX9_seen_14 : decode cX9_seen 14 = .ok (.ireturn, 1) := by decide +kernel
theorem dX9_put_0 : decode cX9_put 0 = .ok (.aload_n 0, 1) := by decide +kernel
theorem dX9_put_1 : decode cX9_put 1 = .ok (.getfield 32, 3) := by decide +kernel
theorem dX9_put_4 : decode cX9_put 4 = .ok (.iload_n 1, 1) := by decide +kernel
theorem dX9_put_5 : decode cX9_put 5 = .ok (.invokevirtual 121, 3) := by decide +kernel
theorem dX9_put_8 : decode cX9_put 8 = .ok (.ifCond .eq 10, 3) := by decide +kernel
theorem dX9_put_11 : decode cX9_put 11 = .ok (.iload_n 2, 1) := by decide +kernel
theorem dX9_put_12 : decode cX9_put 12 = .ok (.invokestatic 178, 3) := by decide +kernel
theorem dX9_put_15 : decode cX9_put 15 = .ok (.ifCond .ne 5, 3) := by decide +kernel
theorem dX9_put_18 : decode cX9_put 18 = .ok (.iconst (-1), 1) := by decide +kernel
theorem dX9_put_19 : decode cX9_put 19 = .ok (.ireturn, 1) := by decide +kernel
theorem dX9_put_20 : decode cX9_put 20 = .ok (.aload_n 0, 1) := by decide +kernel
theorem dX9_put_21 : decode cX9_put 21 = .ok (.getfield 32, 3) := by decide +kernel
theorem dX9_put_24 : decode cX9_put 24 = .ok (.iload_n 1, 1) := by decide +kernel
theorem dX9_put_25 : decode cX9_put 25 = .ok (.invokevirtual 125, 3) := by decide +kernel
theorem dX9_put_28 : decode cX9_put 28 = .ok (.istore_n 3, 1) := by decide +kernel
theorem dX9_put_29 : decode cX9_put 29 = .ok (.aload_n 0, 1) := by decide +kernel
theorem dX9_put_30 : decode cX9_put 30 = .ok (.getfield 32, 3) := by decide +kernel
theorem dX9_put_33 : decode cX9_put 33 = .ok (.iload_n 1, 1) := by decide +kernel
theorem dX9_put_34 : decode cX9_put 34 = .ok (.iload_n 2, 1) := by decide +kernel
theorem dX9_put_35 : decode cX9_put 35 = .ok (.invokevirtual 183, 3) := by decide +kernel
theorem dX9_put_38 : decode cX9_put 38 = .ok (.aload_n 0, 1) := by decide +kernel
theorem dX9_put_39 : decode cX9_put 39 = .ok (.iload_n 3, 1) := by decide +kernel
theorem dX9_put_40 : decode cX9_put 40 = .ok (.invokevirtual 187, 3) := by decide +kernel
theorem dX9_put_43 : decode cX9_put 43 = .ok (.ireturn, 1) := by decide +kernel
theorem dX9_insert_0 : decode cX9_insert 0 = .ok (.aload_n 0, 1) := by decide +kernel
theorem dX9_insert_1 : decode cX9_insert 1 = .ok (.getfield 32, 3) := by decide +kernel
theorem dX9_insert_4 : decode cX9_insert 4 = .ok (.iload_n 1, 1) := by decide +kernel
theorem dX9_insert_5 : decode cX9_insert 5 = .ok (.invokevirtual 153, 3) := by decide +kernel
theorem dX9_insert_8 : decode cX9_insert 8 = .ok (.ifCond .eq 10, 3) := by decide +kernel
theorem dX9_insert_11 : decode cX9_insert 11 = .ok (.iload_n 2, 1) := by decide +kernel
theorem dX9_insert_12 : decode cX9_insert 12 = .ok (.invokestatic 178, 3) := by decide +kernel
theorem dX9_insert_15 : decode cX9_insert 15 = .ok (.ifCond .ne 5, 3) := by decide +kernel
theorem dX9_insert_18 : decode cX9_insert 18 = .ok (.iconst (-1), 1) := by decide +kernel
theorem dX9_insert_19 : decode cX9_insert 19 = .ok (.ireturn, 1) := by decide +kernel
theorem dX9_insert_20 : decode cX9_insert 20 = .ok (.aload_n 0, 1) := by decide +kernel
theorem dX9_insert_21 : decode cX9_insert 21 = .ok (.getfield 32, 3) := by decide +kernel
theorem dX9_insert_24 : decode cX9_insert 24 = .ok (.invokevirtual 190, 3) := by decide +kernel
theorem dX9_insert_27 : decode cX9_insert 27 = .ok (.iconst 1, 1) := by decide +kernel
theorem dX9_insert_28 : decode cX9_insert 28 = .ok (.if_icmp .ge 6, 3) := by decide +kernel
theorem dX9_insert_31 : decode cX9_insert 31 = .ok (.bipush (-3), 2) := by decide +kernel
theorem dX9_insert_33 : decode cX9_insert 33 = .ok (.ireturn, 1) := by decide +kernel
theorem dX9_insert_34 : decode cX9_insert 34 = .ok (.aload_n 0, 1) := by decide +kernel
theorem dX9_insert_35 : decode cX9_insert 35 = .ok (.getfield 32, 3) := by decide +kernel
theorem dX9_insert_38 : decode cX9_insert 38 = .ok (.iload_n 1, 1) := by decide +kernel
theorem dX9_insert_39 : decode cX9_insert 39 = .ok (.iload_n 2, 1) := by decide +kernel
theorem dX9_insert_40 : decode cX9_insert 40 = .ok (.invokevirtual 193, 3) := by decide +kernel
theorem dX9_insert_43 : decode cX9_insert 43 = .ok (.aload_n 0, 1) := by decide +kernel
theorem dX9_insert_44 : decode cX9_insert 44 = .ok (.aload_n 0, 1) := by decide +kernel
theorem dX9_insert_45 : decode cX9_insert 45 = .ok (.getfield 32, 3) := by decide +kernel
theorem dX9_insert_48 : decode cX9_insert 48 = .ok (.getfield 102, 3) := by decide +kernel
theorem dX9_insert_51 : decode cX9_insert 51 = .ok (.invokevirtual 187, 3) := by decide +kernel
theorem dX9_insert_54 : decode cX9_insert 54 = .ok (.ireturn, 1) := by decide +kernel
theorem dX9_drop_0 : decode cX9_drop 0 = .ok (.aload_n 0, 1) := by decide +kernel
theorem dX9_drop_1 : decode cX9_drop 1 = .ok (.getfield 32, 3) := by decide +kernel
theorem dX9_drop_4 : decode cX9_drop 4 = .ok (.iload_n 1, 1) := by decide +kernel
theorem dX9_drop_5 : decode cX9_drop 5 = .ok (.iload_n 2, 1) := by decide +kernel
theorem dX9_drop_6 : decode cX9_drop 6 = .ok (.invokevirtual 196, 3) := by decide +kernel
theorem dX9_drop_9 : decode cX9_drop 9 = .ok (.ifCond .ne 5, 3) := by decide +kernel
theorem dX9_drop_12 : decode cX9_drop 12 = .ok (.iconst (-1), 1) := by decide +kernel
theorem dX9_drop_13 : decode cX9_drop 13 = .ok (.ireturn, 1) := by decide +kernel
theorem dX9_drop_14 : decode cX9_drop 14 = .ok (.aload_n 0, 1) := by decide +kernel
theorem dX9_drop_15 : decode cX9_drop 15 = .ok (.getfield 32, 3) := by decide +kernel
theorem dX9_drop_18 : decode cX9_drop 18 = .ok (.iload_n 1, 1) := by decide +kernel
theorem dX9_drop_19 : decode cX9_drop 19 = .ok (.iload_n 2, 1) := by decide +kernel
theorem dX9_drop_20 : decode cX9_drop 20 = .ok (.invokevirtual 200, 3) := by decide +kernel
theorem dX9_drop_23 : decode cX9_drop 23 = .ok (.aload_n 0, 1) := by decide +kernel
theorem dX9_drop_24 : decode cX9_drop 24 = .ok (.aload_n 0, 1) := by decide +kernel
theorem dX9_drop_25 : decode cX9_drop 25 = .ok (.getfield 32, 3) := by decide +kernel
theorem dX9_drop_28 : decode cX9_drop 28 = .ok (.getfield 102, 3) := by decide +kernel
theorem dX9_drop_31 : decode cX9_drop 31 = .ok (.invokevirtual 187, 3) := by decide +kernel
theorem dX9_drop_34 : decode cX9_drop 34 = .ok (.ireturn, 1) := by decide +kernel
theorem dX9_move_0 : decode cX9_move 0 = .ok (.aload_n 0, 1) := by decide +kernel
theorem dX9_move_1 : decode cX9_move 1 = .ok (.getfield 32, 3) := by decide +kernel
theorem dX9_move_4 : decode cX9_move 4 = .ok (.iload_n 1, 1) := by decide +kernel
theorem dX9_move_5 : decode cX9_move 5 = .ok (.iload_n 2, 1) := by decide +kernel
theorem dX9_move_6 : decode cX9_move 6 = .ok (.invokevirtual 196, 3) := by decide +kernel
theorem dX9_move_9 : decode cX9_move 9 = .ok (.ifCond .eq 26, 3) := by decide +kernel
theorem dX9_move_12 : decode cX9_move 12 = .ok (.aload_n 0, 1) := by decide +kernel
theorem dX9_move_13 : decode cX9_move 13 = .ok (.getfield 32, 3) := by decide +kernel
theorem dX9_move_16 : decode cX9_move 16 = .ok (.iload_n 3, 1) := by decide +kernel
theorem dX9_move_17 : decode cX9_move 17 = .ok (.invokevirtual 153, 3) := by decide +kernel
theorem dX9_move_20 : decode cX9_move 20 = .ok (.ifCond .eq 15, 3) := by decide +kernel
theorem dX9_move_23 : decode cX9_move 23 = .ok (.iload_n 3, 1) := by decide +kernel
theorem dX9_move_24 : decode cX9_move 24 = .ok (.iload_n 1, 1) := by decide +kernel
theorem dX9_move_25 : decode cX9_move 25 = .ok (.if_icmp .le 12, 3) := by decide +kernel
theorem dX9_move_28 : decode cX9_move 28 = .ok (.iload_n 3, 1) := by decide +kernel
theorem dX9_move_29 : decode cX9_move 29 = .ok (.iload_n 1, 1) := by decide +kernel
theorem dX9_move_30 : decode cX9_move 30 = .ok (.iload_n 2, 1) := by decide +kernel
theorem dX9_move_31 : decode cX9_move 31 = .ok (.iadd, 1) := by decide +kernel
theorem dX9_move_32 : decode cX9_move 32 = .ok (.if_icmp .ge 5, 3) := by decide +kernel
theorem dX9_move_35 : decode cX9_move 35 = .ok (.iconst (-1), 1) := by decide +kernel
theorem dX9_move_36 : decode cX9_move 36 = .ok (.ireturn, 1) := by decide +kernel
theorem dX9_move_37 : decode cX9_move 37 = .ok (.aload_n 0, 1) := by decide +kernel
theorem dX9_move_38 : decode cX9_move 38 = .ok (.getfield 32, 3) := by decide +kernel
theorem dX9_move_41 : decode cX9_move 41 = .ok (.iload_n 1, 1) := by decide +kernel
theorem dX9_move_42 : decode cX9_move 42 = .ok (.iload_n 2, 1) := by decide +kernel
theorem dX9_move_43 : decode cX9_move 43 = .ok (.iload_n 3, 1) := by decide +kernel
theorem dX9_move_44 : decode cX9_move 44 = .ok (.invokevirtual 203, 3) := by decide +kernel
theorem dX9_move_47 : decode cX9_move 47 = .ok (.aload_n 0, 1) := by decide +kernel
theorem dX9_move_48 : decode cX9_move 48 = .ok (.iconst 1, 1) := by decide +kernel
theorem dX9_move_49 : decode cX9_move 49 = .ok (.invokevirtual 187, 3) := by decide +kernel
theorem dX9_move_52 : decode cX9_move 52 = .ok (.ireturn, 1) := by decide +kernel
theorem dX9_copy_0 : decode cX9_copy 0 = .ok (.aload_n 0, 1) := by decide +kernel
theorem dX9_copy_1 : decode cX9_copy 1 = .ok (.getfield 32, 3) := by decide +kernel
theorem dX9_copy_4 : decode cX9_copy 4 = .ok (.iload_n 1, 1) := by decide +kernel
theorem dX9_copy_5 : decode cX9_copy 5 = .ok (.iload_n 2, 1) := by decide +kernel
theorem dX9_copy_6 : decode cX9_copy 6 = .ok (.invokevirtual 196, 3) := by decide +kernel
theorem dX9_copy_9 : decode cX9_copy 9 = .ok (.ifCond .eq 14, 3) := by decide +kernel
theorem dX9_copy_12 : decode cX9_copy 12 = .ok (.aload_n 0, 1) := by decide +kernel
theorem dX9_copy_13 : decode cX9_copy 13 = .ok (.getfield 32, 3) := by decide +kernel
theorem dX9_copy_16 : decode cX9_copy 16 = .ok (.iload_n 3, 1) := by decide +kernel
theorem dX9_copy_17 : decode cX9_copy 17 = .ok (.invokevirtual 153, 3) := by decide +kernel
theorem dX9_copy_20 : decode cX9_copy 20 = .ok (.ifCond .ne 5, 3) := by decide +kernel
theorem dX9_copy_23 : decode cX9_copy 23 = .ok (.iconst (-1), 1) := by decide +kernel
theorem dX9_copy_24 : decode cX9_copy 24 = .ok (.ireturn, 1) := by decide +kernel
theorem dX9_copy_25 : decode cX9_copy 25 = .ok (.aload_n 0, 1) := by decide +kernel
theorem dX9_copy_26 : decode cX9_copy 26 = .ok (.getfield 32, 3) := by decide +kernel
theorem dX9_copy_29 : decode cX9_copy 29 = .ok (.invokevirtual 190, 3) := by decide +kernel
theorem dX9_copy_32 : decode cX9_copy 32 = .ok (.iload_n 2, 1) := by decide +kernel
theorem dX9_copy_33 : decode cX9_copy 33 = .ok (.if_icmp .ge 6, 3) := by decide +kernel
theorem dX9_copy_36 : decode cX9_copy 36 = .ok (.bipush (-3), 2) := by decide +kernel
theorem dX9_copy_38 : decode cX9_copy 38 = .ok (.ireturn, 1) := by decide +kernel
theorem dX9_copy_39 : decode cX9_copy 39 = .ok (.aload_n 0, 1) := by decide +kernel
theorem dX9_copy_40 : decode cX9_copy 40 = .ok (.getfield 32, 3) := by decide +kernel
theorem dX9_copy_43 : decode cX9_copy 43 = .ok (.iload_n 1, 1) := by decide +kernel
theorem dX9_copy_44 : decode cX9_copy 44 = .ok (.iload_n 2, 1) := by decide +kernel
theorem dX9_copy_45 : decode cX9_copy 45 = .ok (.iload_n 3, 1) := by decide +kernel
theorem dX9_copy_46 : decode cX9_copy 46 = .ok (.invokevirtual 207, 3) := by decide +kernel
theorem dX9_copy_49 : decode cX9_copy 49 = .ok (.aload_n 0, 1) := by decide +kernel
theorem dX9_copy_50 : decode cX9_copy 50 = .ok (.aload_n 0, 1) := by decide +kernel
theorem dX9_copy_51 : decode cX9_copy 51 = .ok (.getfield 32, 3) := by decide +kernel
theorem dX9_copy_54 : decode cX9_copy 54 = .ok (.getfield 102, 3) := by decide +kernel
theorem dX9_copy_57 : decode cX9_copy 57 = .ok (.invokevirtual 187, 3) := by decide +kernel
theorem dX9_copy_60 : decode cX9_copy 60 = .ok (.ireturn, 1) := by decide +kernel
theorem dX9_turn_0 : decode cX9_turn 0 = .ok (.aload_n 0, 1) := by decide +kernel
theorem dX9_turn_1 : decode cX9_turn 1 = .ok (.getfield 32, 3) := by decide +kernel
theorem dX9_turn_4 : decode cX9_turn 4 = .ok (.iload_n 1, 1) := by decide +kernel
theorem dX9_turn_5 : decode cX9_turn 5 = .ok (.iload_n 2, 1) := by decide +kernel
theorem dX9_turn_6 : decode cX9_turn 6 = .ok (.invokevirtual 196, 3) := by decide +kernel
theorem dX9_turn_9 : decode cX9_turn 9 = .ok (.ifCond .ne 5, 3) := by decide +kernel
theorem dX9_turn_12 : decode cX9_turn 12 = .ok (.iconst (-1), 1) := by decide +kernel
theorem dX9_turn_13 : decode cX9_turn 13 = .ok (.ireturn, 1) := by decide +kernel
theorem dX9_turn_14 : decode cX9_turn 14 = .ok (.aload_n 0, 1) := by decide +kernel
theorem dX9_turn_15 : decode cX9_turn 15 = .ok (.aload_n 0, 1) := by decide +kernel
theorem dX9_turn_16 : decode cX9_turn 16 = .ok (.getfield 32, 3) := by decide +kernel
theorem dX9_turn_19 : decode cX9_turn 19 = .ok (.iload_n 1, 1) := by decide +kernel
theorem dX9_turn_20 : decode cX9_turn 20 = .ok (.iload_n 2, 1) := by decide +kernel
theorem dX9_turn_21 : decode cX9_turn 21 = .ok (.invokevirtual 210, 3) := by decide +kernel
theorem dX9_turn_24 : decode cX9_turn 24 = .ok (.invokevirtual 187, 3) := by decide +kernel
theorem dX9_turn_27 : decode cX9_turn 27 = .ok (.ireturn, 1) := by decide +kernel
theorem dX9_mark_0 : decode cX9_mark 0 = .ok (.aload_n 0, 1) := by decide +kernel
theorem dX9_mark_1 : decode cX9_mark 1 = .ok (.getfield 32, 3) := by decide +kernel
theorem dX9_mark_4 : decode cX9_mark 4 = .ok (.iload_n 1, 1) := by decide +kernel
theorem dX9_mark_5 : decode cX9_mark 5 = .ok (.invokevirtual 121, 3) := by decide +kernel
theorem dX9_mark_8 : decode cX9_mark 8 = .ok (.ifCond .eq 26, 3) := by decide +kernel
theorem dX9_mark_11 : decode cX9_mark 11 = .ok (.iload_n 2, 1) := by decide +kernel
theorem dX9_mark_12 : decode cX9_mark 12 = .ok (.ifCond .lt 22, 3) := by decide +kernel
theorem dX9_mark_15 : decode cX9_mark 15 = .ok (.iload_n 2, 1) := by decide +kernel
theorem dX9_mark_16 : decode cX9_mark 16 = .ok (.iconst 1, 1) := by decide +kernel
theorem dX9_mark_17 : decode cX9_mark 17 = .ok (.if_icmp .gt 17, 3) := by decide +kernel
theorem dX9_mark_20 : decode cX9_mark 20 = .ok (.aload_n 0, 1) := by decide +kernel
theorem dX9_mark_21 : decode cX9_mark 21 = .ok (.getfield 32, 3) := by decide +kernel
theorem dX9_mark_24 : decode cX9_mark 24 = .ok (.iload_n 1, 1) := by decide +kernel
theorem dX9_mark_25 : decode cX9_mark 25 = .ok (.invokevirtual 125, 3) := by decide +kernel
theorem dX9_mark_28 : decode cX9_mark 28 = .ok (.invokestatic 213, 3) := by decide +kernel
theorem dX9_mark_31 : decode cX9_mark 31 = .ok (.ifCond .ne 5, 3) := by decide +kernel
theorem dX9_mark_34 : decode cX9_mark 34 = .ok (.iconst (-1), 1) := by decide +kernel
theorem dX9_mark_35 : decode cX9_mark 35 = .ok (.ireturn, 1) := by decide +kernel
theorem dX9_mark_36 : decode cX9_mark 36 = .ok (.aload_n 0, 1) := by decide +kernel
theorem dX9_mark_37 : decode cX9_mark 37 = .ok (.getfield 32, 3) := by decide +kernel
theorem dX9_mark_40 : decode cX9_mark 40 = .ok (.iload_n 1, 1) := by decide +kernel
theorem dX9_mark_41 : decode cX9_mark 41 = .ok (.invokevirtual 147, 3) := by decide +kernel
theorem dX9_mark_44 : decode cX9_mark 44 = .ok (.invokestatic 143, 3) := by decide +kernel
theorem dX9_mark_47 : decode cX9_mark 47 = .ok (.istore_n 3, 1) := by decide +kernel
theorem dX9_mark_48 : decode cX9_mark 48 = .ok (.aload_n 0, 1) := by decide +kernel
theorem dX9_mark_49 : decode cX9_mark 49 = .ok (.getfield 32, 3) := by decide +kernel
theorem dX9_mark_52 : decode cX9_mark 52 = .ok (.iload_n 1, 1) := by decide +kernel
theorem dX9_mark_53 : decode cX9_mark 53 = .ok (.iload_n 2, 1) := by decide +kernel
theorem dX9_mark_54 : decode cX9_mark 54 = .ok (.iconst 1, 1) := by decide +kernel
theorem dX9_mark_55 : decode cX9_mark 55 = .ok (.if_icmp .ne 7, 3) := by decide +kernel
theorem dX9_mark_58 : decode cX9_mark 58 = .ok (.iconst 1, 1) := by decide +kernel
theorem dX9_mark_59 : decode cX9_mark 59 = .ok (.goto 4, 3) := by decide +kernel
theorem dX9_mark_62 : decode cX9_mark 62 = .ok (.iconst 0, 1) := by decide +kernel
theorem dX9_mark_63 : decode cX9_mark 63 = .ok (.invokevirtual 216, 3) := by decide +kernel
theorem dX9_mark_66 : decode cX9_mark 66 = .ok (.aload_n 0, 1) := by decide +kernel
theorem dX9_mark_67 : decode cX9_mark 67 = .ok (.iload_n 3, 1) := by decide +kernel
theorem dX9_mark_68 : decode cX9_mark 68 = .ok (.invokevirtual 187, 3) := by decide +kernel
theorem dX9_mark_71 : decode cX9_mark 71 = .ok (.ireturn, 1) := by decide +kernel
theorem dX9_grow_0 : decode cX9_grow 0 = .ok (.iload_n 2, 1) := by decide +kernel
theorem dX9_grow_1 : decode cX9_grow 1 = .ok (.iconst 1, 1) := by decide +kernel
theorem dX9_grow_2 : decode cX9_grow 2 = .ok (.if_icmp .lt 9, 3) := by decide +kernel
theorem dX9_grow_5 : decode cX9_grow 5 = .ok (.iload_n 2, 1) := by decide +kernel
theorem dX9_grow_6 : decode cX9_grow 6 = .ok (.bipush 30, 2) := by decide +kernel
theorem dX9_grow_8 : decode cX9_grow 8 = .ok (.if_icmp .le 5, 3) := by decide +kernel
theorem dX9_grow_11 : decode cX9_grow 11 = .ok (.iconst (-1), 1) := by decide +kernel
theorem dX9_grow_12 : decode cX9_grow 12 = .ok (.ireturn, 1) := by decide +kernel
theorem dX9_grow_13 : decode cX9_grow 13 = .ok (.iconst 0, 1) := by decide +kernel
theorem dX9_grow_14 : decode cX9_grow 14 = .ok (.istore_n 3, 1) := by decide +kernel
theorem dX9_grow_15 : decode cX9_grow 15 = .ok (.iload_n 1, 1) := by decide +kernel
theorem dX9_grow_16 : decode cX9_grow 16 = .ok (.istore 4, 2) := by decide +kernel
theorem dX9_grow_18 : decode cX9_grow 18 = .ok (.iload_n 3, 1) := by decide +kernel
theorem dX9_grow_19 : decode cX9_grow 19 = .ok (.iload_n 2, 1) := by decide +kernel
theorem dX9_grow_20 : decode cX9_grow 20 = .ok (.if_icmp .ge 72, 3) := by decide +kernel
theorem dX9_grow_23 : decode cX9_grow 23 = .ok (.aload_n 0, 1) := by decide +kernel
theorem dX9_grow_24 : decode cX9_grow 24 = .ok (.getfield 32, 3) := by decide +kernel
theorem dX9_grow_27 : decode cX9_grow 27 = .ok (.invokevirtual 190, 3) := by decide +kernel
theorem dX9_grow_30 : decode cX9_grow 30 = .ok (.ifCond .le 62, 3) := by decide +kernel
theorem dX9_grow_33 : decode cX9_grow 33 = .ok (.iload 4, 2) := by decide +kernel
theorem dX9_grow_35 : decode cX9_grow 35 = .ok (.ldc 220, 2) := by decide +kernel
theorem dX9_grow_37 : decode cX9_grow 37 = .ok (.imul, 1) := by decide +kernel
theorem dX9_grow_38 : decode cX9_grow 38 = .ok (.sipush 12345, 3) := by decide +kernel
theorem dX9_grow_41 : decode cX9_grow 41 = .ok (.iadd, 1) := by decide +kernel
theorem dX9_grow_42 : decode cX9_grow 42 = .ok (.istore 4, 2) := by decide +kernel
theorem dX9_grow_44 : decode cX9_grow 44 = .ok (.iload 4, 2) := by decide +kernel
theorem dX9_grow_46 : decode cX9_grow 46 = .ok (.bipush 16, 2) := by decide +kernel
theorem dX9_grow_48 : decode cX9_grow 48 = .ok (.ishr, 1) := by decide +kernel
theorem dX9_grow_49 : decode cX9_grow 49 = .ok (.sipush 32767, 3) := by decide +kernel
theorem dX9_grow_52 : decode cX9_grow 52 = .ok (.iand, 1) := by decide +kernel
theorem dX9_grow_53 : decode cX9_grow 53 = .ok (.istore 5, 2) := by decide +kernel
theorem dX9_grow_55 : decode cX9_grow 55 = .ok (.aload_n 0, 1) := by decide +kernel
theorem dX9_grow_56 : decode cX9_grow 56 = .ok (.getfield 32, 3) := by decide +kernel
theorem dX9_grow_59 : decode cX9_grow 59 = .ok (.iload 5, 2) := by decide +kernel
theorem dX9_grow_61 : decode cX9_grow 61 = .ok (.aload_n 0, 1) := by decide +kernel
theorem dX9_grow_62 : decode cX9_grow 62 = .ok (.getfield 32, 3) := by decide +kernel
theorem dX9_grow_65 : decode cX9_grow 65 = .ok (.getfield 102, 3) := by decide +kernel
theorem dX9_grow_68 : decode cX9_grow 68 = .ok (.iconst 1, 1) := by decide +kernel
theorem dX9_grow_69 : decode cX9_grow 69 = .ok (.iadd, 1) := by decide +kernel
theorem dX9_grow_70 : decode cX9_grow 70 = .ok (.irem, 1) := by decide +kernel
theorem dX9_grow_71 : decode cX9_grow 71 = .ok (.getstatic 221, 3) := by decide +kernel
theorem dX9_grow_74 : decode cX9_grow 74 = .ok (.iload 5, 2) := by decide +kernel
theorem dX9_grow_76 : decode cX9_grow 76 = .ok (.bipush 64, 2) := by decide +kernel
theorem dX9_grow_78 : decode cX9_grow 78 = .ok (.idiv, 1) := by decide +kernel
theorem dX9_grow_79 : decode cX9_grow 79 = .ok (.bipush 9, 2) := by decide +kernel
theorem dX9_grow_81 : decode cX9_grow 81 = .ok (.irem, 1) := by decide +kernel
theorem dX9_grow_82 : decode cX9_grow 82 = .ok (.caload, 1) := by decide +kernel
theorem dX9_grow_83 : decode cX9_grow 83 = .ok (.invokevirtual 193, 3) := by decide +kernel
theorem dX9_grow_86 : decode cX9_grow 86 = .ok (.iinc 3 1, 3) := by decide +kernel
theorem dX9_grow_89 : decode cX9_grow 89 = .ok (.goto (-71), 3) := by decide +kernel
theorem dX9_grow_92 : decode cX9_grow 92 = .ok (.aload_n 0, 1) := by decide +kernel
theorem dX9_grow_93 : decode cX9_grow 93 = .ok (.iload_n 3, 1) := by decide +kernel
theorem dX9_grow_94 : decode cX9_grow 94 = .ok (.invokevirtual 187, 3) := by decide +kernel
theorem dX9_grow_97 : decode cX9_grow 97 = .ok (.ireturn, 1) := by decide +kernel
theorem dX9_undo_0 : decode cX9_undo 0 = .ok (.aload_n 0, 1) := by decide +kernel
theorem dX9_undo_1 : decode cX9_undo 1 = .ok (.getfield 36, 3) := by decide +kernel
theorem dX9_undo_4 : decode cX9_undo 4 = .ok (.getfield 112, 3) := by decide +kernel
theorem dX9_undo_7 : decode cX9_undo 7 = .ok (.iconst 1, 1) := by decide +kernel
theorem dX9_undo_8 : decode cX9_undo 8 = .ok (.if_icmp .ge 6, 3) := by decide +kernel
theorem dX9_undo_11 : decode cX9_undo 11 = .ok (.bipush (-2), 2) := by decide +kernel
theorem dX9_undo_13 : decode cX9_undo 13 = .ok (.ireturn, 1) := by decide +kernel
theorem dX9_undo_14 : decode cX9_undo 14 = .ok (.aload_n 0, 1) := by decide +kernel
theorem dX9_undo_15 : decode cX9_undo 15 = .ok (.getfield 32, 3) := by decide +kernel
theorem dX9_undo_18 : decode cX9_undo 18 = .ok (.aload_n 0, 1) := by decide +kernel
theorem dX9_undo_19 : decode cX9_undo 19 = .ok (.getfield 36, 3) := by decide +kernel
theorem dX9_undo_22 : decode cX9_undo 22 = .ok (.invokevirtual 225, 3) := by decide +kernel
theorem dX9_undo_25 : decode cX9_undo 25 = .ok (.invokevirtual 87, 3) := by decide +kernel
theorem dX9_undo_28 : decode cX9_undo 28 = .ok (.aload_n 0, 1) := by decide +kernel
theorem dX9_undo_29 : decode cX9_undo 29 = .ok (.getfield 24, 3) := by decide +kernel
theorem dX9_undo_32 : decode cX9_undo 32 = .ok (.invokevirtual 229, 3) := by decide +kernel
theorem dX9_undo_35 : decode cX9_undo 35 = .ok (.aload_n 0, 1) := by decide +kernel
theorem dX9_undo_36 : decode cX9_undo 36 = .ok (.getfield 32, 3) := by decide +kernel
theorem dX9_undo_39 : decode cX9_undo 39 = .ok (.getfield 102, 3) := by decide +kernel
theorem dX9_undo_42 : decode cX9_undo 42 = .ok (.ireturn, 1) := by decide +kernel
theorem dX9_redo_0 : decode cX9_redo 0 = .ok (.aload_n 0, 1) := by decide +kernel
theorem dX9_redo_1 : decode cX9_redo 1 = .ok (.getfield 36, 3) := by decide +kernel
theorem dX9_redo_4 : decode cX9_redo 4 = .ok (.getfield 115, 3) := by decide +kernel
theorem dX9_redo_7 : decode cX9_redo 7 = .ok (.iconst 1, 1) := by decide +kernel
theorem dX9_redo_8 : decode cX9_redo 8 = .ok (.if_icmp .ge 6, 3) := by decide +kernel
theorem dX9_redo_11 : decode cX9_redo 11 = .ok (.bipush (-2), 2) := by decide +kernel
theorem dX9_redo_13 : decode cX9_redo 13 = .ok (.ireturn, 1) := by decide +kernel
theorem dX9_redo_14 : decode cX9_redo 14 = .ok (.aload_n 0, 1) := by decide +kernel
theorem dX9_redo_15 : decode cX9_redo 15 = .ok (.getfield 32, 3) := by decide +kernel
theorem dX9_redo_18 : decode cX9_redo 18 = .ok (.aload_n 0, 1) := by decide +kernel
theorem dX9_redo_19 : decode cX9_redo 19 = .ok (.getfield 36, 3) := by decide +kernel
theorem dX9_redo_22 : decode cX9_redo 22 = .ok (.invokevirtual 232, 3) := by decide +kernel
theorem dX9_redo_25 : decode cX9_redo 25 = .ok (.invokevirtual 87, 3) := by decide +kernel
theorem dX9_redo_28 : decode cX9_redo 28 = .ok (.aload_n 0, 1) := by decide +kernel
theorem dX9_redo_29 : decode cX9_redo 29 = .ok (.getfield 24, 3) := by decide +kernel
theorem dX9_redo_32 : decode cX9_redo 32 = .ok (.invokevirtual 229, 3) := by decide +kernel
theorem dX9_redo_35 : decode cX9_redo 35 = .ok (.aload_n 0, 1) := by decide +kernel
theorem dX9_redo_36 : decode cX9_redo 36 = .ok (.getfield 32, 3) := by decide +kernel
theorem dX9_redo_39 : decode cX9_redo 39 = .ok (.getfield 102, 3) := by decide +kernel
theorem dX9_redo_42 : decode cX9_redo 42 = .ok (.ireturn, 1) := by decide +kernel
theorem dX9_keep_0 : decode cX9_keep 0 = .ok (.iload_n 1, 1) := by decide +kernel
theorem dX9_keep_1 : decode cX9_keep 1 = .ok (.ifCond .lt 8, 3) := by decide +kernel
theorem dX9_keep_4 : decode cX9_keep 4 = .ok (.iload_n 1, 1) := by decide +kernel
theorem dX9_keep_5 : decode cX9_keep 5 = .ok (.iconst 2, 1) := by decide +kernel
theorem dX9_keep_6 : decode cX9_keep 6 = .ok (.if_icmp .lt 5, 3) := by decide +kernel
theorem dX9_keep_9 : decode cX9_keep 9 = .ok (.iconst (-1), 1) := by decide +kernel
theorem dX9_keep_10 : decode cX9_keep 10 = .ok (.ireturn, 1) := by decide +kernel
theorem dX9_keep_11 : decode cX9_keep 11 = .ok (.aload_n 0, 1) := by decide +kernel
theorem dX9_keep_12 : decode cX9_keep 12 = .ok (.getfield 47, 3) := by decide +kernel
theorem dX9_keep_15 : decode cX9_keep 15 = .ok (.iload_n 1, 1) := by decide +kernel
theorem dX9_keep_16 : decode cX9_keep 16 = .ok (.baload, 1) := by decide +kernel
theorem dX9_keep_17 : decode cX9_keep 17 = .ok (.invokestatic 143, 3) := by decide +kernel
theorem dX9_keep_20 : decode cX9_keep 20 = .ok (.istore_n 2, 1) := by decide +kernel
theorem dX9_keep_21 : decode cX9_keep 21 = .ok (.aload_n 0, 1) := by decide +kernel
theorem dX9_keep_22 : decode cX9_keep 22 = .ok (.getfield 42, 3) := by decide +kernel
theorem dX9_keep_25 : decode cX9_keep 25 = .ok (.iload_n 1, 1) := by decide +kernel
theorem dX9_keep_26 : decode cX9_keep 26 = .ok (.aaload, 1) := by decide +kernel
theorem dX9_keep_27 : decode cX9_keep 27 = .ok (.aload_n 0, 1) := by decide +kernel
theorem dX9_keep_28 : decode cX9_keep 28 = .ok (.getfield 32, 3) := by decide +kernel
theorem dX9_keep_31 : decode cX9_keep 31 = .ok (.invokevirtual 87, 3) := by decide +kernel
theorem dX9_keep_34 : decode cX9_keep 34 = .ok (.aload_n 0, 1) := by decide +kernel
theorem dX9_keep_35 : decode cX9_keep 35 = .ok (.getfield 47, 3) := by decide +kernel
theorem dX9_keep_38 : decode cX9_keep 38 = .ok (.iload_n 1, 1) := by decide +kernel
theorem dX9_keep_39 : decode cX9_keep 39 = .ok (.iconst 1, 1) := by decide +kernel
theorem dX9_keep_40 : decode cX9_keep 40 = .ok (.bastore, 1) := by decide +kernel
theorem dX9_keep_41 : decode cX9_keep 41 = .ok (.iload_n 2, 1) := by decide +kernel
theorem dX9_keep_42 : decode cX9_keep 42 = .ok (.ireturn, 1) := by decide +kernel
theorem dX9_back_0 : decode cX9_back 0 = .ok (.iload_n 1, 1) := by decide +kernel
theorem dX9_back_1 : decode cX9_back 1 = .ok (.ifCond .lt 8, 3) := by decide +kernel
theorem dX9_back_4 : decode cX9_back 4 = .ok (.iload_n 1, 1) := by decide +kernel
theorem dX9_back_5 : decode cX9_back 5 = .ok (.iconst 2, 1) := by decide +kernel
theorem dX9_back_6 : decode cX9_back 6 = .ok (.if_icmp .lt 5, 3) := by decide +kernel
theorem dX9_back_9 : decode cX9_back 9 = .ok (.iconst (-1), 1) := by decide +kernel
theorem dX9_back_10 : decode cX9_back 10 = .ok (.ireturn, 1) := by decide +kernel
theorem dX9_back_11 : decode cX9_back 11 = .ok (.aload_n 0, 1) := by decide +kernel
theorem dX9_back_12 : decode cX9_back 12 = .ok (.getfield 47, 3) := by decide +kernel
theorem dX9_back_15 : decode cX9_back 15 = .ok (.iload_n 1, 1) := by decide +kernel
theorem dX9_back_16 : decode cX9_back 16 = .ok (.baload, 1) := by decide +kernel
theorem dX9_back_17 : decode cX9_back 17 = .ok (.ifCond .ne 6, 3) := by decide +kernel
theorem dX9_back_20 : decode cX9_back 20 = .ok (.bipush (-2), 2) := by decide +kernel
theorem dX9_back_22 : decode cX9_back 22 = .ok (.ireturn, 1) := by decide +kernel
theorem dX9_back_23 : decode cX9_back 23 = .ok (.aload_n 0, 1) := by decide +kernel
theorem dX9_back_24 : decode cX9_back 24 = .ok (.getfield 32, 3) := by decide +kernel
theorem dX9_back_27 : decode cX9_back 27 = .ok (.aload_n 0, 1) := by decide +kernel
theorem dX9_back_28 : decode cX9_back 28 = .ok (.getfield 42, 3) := by decide +kernel
theorem dX9_back_31 : decode cX9_back 31 = .ok (.iload_n 1, 1) := by decide +kernel
theorem dX9_back_32 : decode cX9_back 32 = .ok (.aaload, 1) := by decide +kernel
theorem dX9_back_33 : decode cX9_back 33 = .ok (.invokevirtual 87, 3) := by decide +kernel
theorem dX9_back_36 : decode cX9_back 36 = .ok (.aload_n 0, 1) := by decide +kernel
theorem dX9_back_37 : decode cX9_back 37 = .ok (.invokevirtual 91, 3) := by decide +kernel
theorem dX9_back_40 : decode cX9_back 40 = .ok (.ireturn, 1) := by decide +kernel
theorem dX9_sheet_0 : decode cX9_sheet 0 = .ok (.iload_n 1, 1) := by decide +kernel
theorem dX9_sheet_1 : decode cX9_sheet 1 = .ok (.invokestatic 235, 3) := by decide +kernel
theorem dX9_sheet_4 : decode cX9_sheet 4 = .ok (.ifCond .eq 16, 3) := by decide +kernel
theorem dX9_sheet_7 : decode cX9_sheet 7 = .ok (.iload_n 2, 1) := by decide +kernel
theorem dX9_sheet_8 : decode cX9_sheet 8 = .ok (.invokestatic 238, 3) := by decide +kernel
theorem dX9_sheet_11 : decode cX9_sheet 11 = .ok (.ifCond .eq 9, 3) := by decide +kernel
theorem dX9_sheet_14 : decode cX9_sheet 14 = .ok (.iload_n 3, 1) := by decide +kernel
theorem dX9_sheet_15 : decode cX9_sheet 15 = .ok (.bipush 40, 2) := by decide +kernel
theorem dX9_sheet_17 : decode cX9_sheet 17 = .ok (.if_icmp .le 5, 3) := by decide +kernel
theorem dX9_sheet_20 : decode cX9_sheet 20 = .ok (.iconst (-1), 1) := by decide +kernel
theorem dX9_sheet_21 : decode cX9_sheet 21 = .ok (.ireturn, 1) := by decide +kernel
theorem dX9_sheet_22 : decode cX9_sheet 22 = .ok (.iload_n 3, 1) := by decide +kernel
theorem dX9_sheet_23 : decode cX9_sheet 23 = .ok (.ifCond .ge 6, 3) := by decide +kernel
theorem dX9_sheet_26 : decode cX9_sheet 26 = .ok (.bipush (-14), 2) := by decide +kernel
theorem dX9_sheet_28 : decode cX9_sheet 28 = .ok (.ireturn, 1) := by decide +kernel
theorem dX9_sheet_29 : decode cX9_sheet 29 = .ok (.aload_n 0, 1) := by decide +kernel
theorem dX9_sheet_30 : decode cX9_sheet 30 = .ok (.getfield 53, 3) := by decide +kernel
theorem dX9_sheet_33 : decode cX9_sheet 33 = .ok (.iload_n 1, 1) := by decide +kernel
theorem dX9_sheet_34 : decode cX9_sheet 34 = .ok (.aaload, 1) := by decide +kernel
theorem dX9_sheet_35 : decode cX9_sheet 35 = .ok (.iload_n 2, 1) := by decide +kernel
theorem dX9_sheet_36 : decode cX9_sheet 36 = .ok (.iload_n 3, 1) := by decide +kernel
theorem dX9_sheet_37 : decode cX9_sheet 37 = .ok (.invokevirtual 241, 3) := by decide +kernel
theorem dX9_sheet_40 : decode cX9_sheet 40 = .ok (.iconst 1, 1) := by decide +kernel
theorem dX9_sheet_41 : decode cX9_sheet 41 = .ok (.ireturn, 1) := by decide +kernel
theorem dX9_lay_0 : decode cX9_lay 0 = .ok (.iload_n 1, 1) := by decide +kernel
theorem dX9_lay_1 : decode cX9_lay 1 = .ok (.invokestatic 235, 3) := by decide +kernel
theorem dX9_lay_4 : decode cX9_lay 4 = .ok (.ifCond .ne 5, 3) := by decide +kernel
theorem dX9_lay_7 : decode cX9_lay 7 = .ok (.iconst (-1), 1) := by decide +kernel
theorem dX9_lay_8 : decode cX9_lay 8 = .ok (.ireturn, 1) := by decide +kernel
theorem dX9_lay_9 : decode cX9_lay 9 = .ok (.aload_n 0, 1) := by decide +kernel
theorem dX9_lay_10 : decode cX9_lay 10 = .ok (.getfield 53, 3) := by decide +kernel
theorem dX9_lay_13 : decode cX9_lay 13 = .ok (.iload_n 1, 1) := by decide +kernel
theorem dX9_lay_14 : decode cX9_lay 14 = .ok (.aaload, 1) := by decide +kernel
theorem dX9_lay_15 : decode cX9_lay 15 = .ok (.aload_n 0, 1) := by decide +kernel
theorem dX9_lay_16 : decode cX9_lay 16 = .ok (.getfield 53, 3) := by decide +kernel
theorem dX9_lay_19 : decode cX9_lay 19 = .ok (.iload_n 1, 1) := by decide +kernel
theorem dX9_lay_20 : decode cX9_lay 20 = .ok (.aaload, 1) := by decide +kernel
theorem dX9_lay_21 : decode cX9_lay 21 = .ok (.getfield 244, 3) := by decide +kernel
theorem dX9_lay_24 : decode cX9_lay 24 = .ok (.iload_n 2, 1) := by decide +kernel
theorem dX9_lay_25 : decode cX9_lay 25 = .ok (.invokevirtual 247, 3) := by decide +kernel
theorem dX9_lay_28 : decode cX9_lay 28 = .ok (.istore 4, 2) := by decide +kernel
theorem dX9_lay_30 : decode cX9_lay 30 = .ok (.iload 4, 2) := by decide +kernel
theorem dX9_lay_32 : decode cX9_lay 32 = .ok (.ifCond .eq 9, 3) := by decide +kernel
theorem dX9_lay_35 : decode cX9_lay 35 = .ok (.bipush (-10), 2) := by decide +kernel
theorem dX9_lay_37 : decode cX9_lay 37 = .ok (.iload 4, 2) := by decide +kernel
theorem dX9_lay_39 : decode cX9_lay 39 = .ok (.isub, 1) := by decide +kernel
theorem dX9_lay_40 : decode cX9_lay 40 = .ok (.ireturn, 1) := by decide +kernel
theorem dX9_lay_41 : decode cX9_lay 41 = .ok (.aload_n 0, 1) := by decide +kernel
theorem dX9_lay_42 : decode cX9_lay 42 = .ok (.getfield 53, 3) := by decide +kernel
theorem dX9_lay_45 : decode cX9_lay 45 = .ok (.iload_n 1, 1) := by decide +kernel
theorem dX9_lay_46 : decode cX9_lay 46 = .ok (.aaload, 1) := by decide +kernel
theorem dX9_lay_47 : decode cX9_lay 47 = .ok (.iload_n 2, 1) := by decide +kernel
theorem dX9_lay_48 : decode cX9_lay 48 = .ok (.iload_n 3, 1) := by decide +kernel
theorem dX9_lay_49 : decode cX9_lay 49 = .ok (.invokevirtual 250, 3) := by decide +kernel
theorem dX9_lay_52 : decode cX9_lay 52 = .ok (.iconst 1, 1) := by decide +kernel
theorem dX9_lay_53 : decode cX9_lay 53 = .ok (.ireturn, 1) := by decide +kernel
theorem dX9_read_0 : decode cX9_read 0 = .ok (.iload_n 1, 1) := by decide +kernel
theorem dX9_read_1 : decode cX9_read 1 = .ok (.invokestatic 235, 3) := by decide +kernel
theorem dX9_read_4 : decode cX9_read 4 = .ok (.ifCond .eq 22, 3) := by decide +kernel
theorem dX9_read_7 : decode cX9_read 7 = .ok (.iload_n 2, 1) := by decide +kernel
theorem dX9_read_8 : decode cX9_read 8 = .ok (.invokestatic 238, 3) := by decide +kernel
theorem dX9_read_11 : decode cX9_read 11 = .ok (.ifCond .eq 15, 3) := by decide +kernel
theorem dX9_read_14 : decode cX9_read 14 = .ok (.iload 4, 2) := by decide +kernel
theorem dX9_read_16 : decode cX9_read 16 = .ok (.ifCond .lt 10, 3) := by decide +kernel
theorem dX9_read_19 : decode cX9_read 19 = .ok (.iload 4, 2) := by decide +kernel
theorem dX9_read_21 : decode cX9_read 21 = .ok (.bipush 40, 2) := by decide +kernel
theorem dX9_read_23 : decode cX9_read 23 = .ok (.if_icmp .le 5, 3) := by decide +kernel
theorem dX9_read_26 : decode cX9_read 26 = .ok (.iconst (-1), 1) := by decide +kernel
theorem dX9_read_27 : decode cX9_read 27 = .ok (.ireturn, 1) := by decide +kernel
theorem dX9_read_28 : decode cX9_read 28 = .ok (.aload_n 0, 1) := by decide +kernel
theorem dX9_read_29 : decode cX9_read 29 = .ok (.getfield 53, 3) := by decide +kernel
theorem dX9_read_32 : decode cX9_read 32 = .ok (.iload_n 1, 1) := by decide +kernel
theorem dX9_read_33 : decode cX9_read 33 = .ok (.aaload, 1) := by decide +kernel
theorem dX9_read_34 : decode cX9_read 34 = .ok (.astore 5, 2) := by decide +kernel
theorem dX9_read_36 : decode cX9_read 36 = .ok (.iconst 0, 1) := by decide +kernel
theorem dX9_read_37 : decode cX9_read 37 = .ok (.istore 6, 2) := by decide +kernel
theorem dX9_read_39 : decode cX9_read 39 = .ok (.iconst 0, 1) := by decide +kernel
theorem dX9_read_40 : decode cX9_read 40 = .ok (.istore 7, 2) := by decide +kernel
theorem dX9_read_42 : decode cX9_read 42 = .ok (.iload 7, 2) := by decide +kernel
theorem dX9_read_44 : decode cX9_read 44 = .ok (.iload 4, 2) := by decide +kernel
theorem dX9_read_46 : decode cX9_read 46 = .ok (.if_icmp .ge 65, 3) := by decide +kernel
theorem dX9_read_49 : decode cX9_read 49 = .ok (.iload 6, 2) := by decide +kernel
theorem dX9_read_51 : decode cX9_read 51 = .ok (.ifCond .ne 60, 3) := by decide +kernel
theorem dX9_read_54 : decode cX9_read 54 = .ok (.aload 5, 2) := by decide +kernel
theorem dX9_read_56 : decode cX9_read 56 = .ok (.iload_n 2, 1) := by decide +kernel
theorem dX9_read_57 : decode cX9_read 57 = .ok (.iload_n 3, 1) := by decide +kernel
theorem dX9_read_58 : decode cX9_read 58 = .ok (.iload 7, 2) := by decide +kernel
theorem dX9_read_60 : decode cX9_read 60 = .ok (.iadd, 1) := by decide +kernel
theorem dX9_read_61 : decode cX9_read 61 = .ok (.invokevirtual 247, 3) := by decide +kernel
theorem dX9_read_64 : decode cX9_read 64 = .ok (.istore 6, 2) := by decide +kernel
theorem dX9_read_66 : decode cX9_read 66 = .ok (.iload 6, 2) := by decide +kernel
theorem dX9_read_68 : decode cX9_read 68 = .ok (.ifCond .ne (-26), 3) := by decide +kernel
theorem dX9_read_71 : decode cX9_read 71 = .ok (.aload 5, 2) := by decide +kernel
theorem dX9_read_73 : decode cX9_read 73 = .ok (.getfield 253, 3) := by decide +kernel
theorem dX9_read_76 : decode cX9_read 76 = .ok (.iload_n 3, 1) := by decide +kernel
theorem dX9_read_77 : decode cX9_read 77 = .ok (.iload 7, 2) := by decide +kernel
theorem dX9_read_79 : decode cX9_read 79 = .ok (.iadd, 1) := by decide +kernel
theorem dX9_read_80 : decode cX9_read 80 = .ok (.iaload, 1) := by decide +kernel
theorem dX9_read_81 : decode cX9_read 81 = .ok (.invokestatic 178, 3) := by decide +kernel
theorem dX9_read_84 : decode cX9_read 84 = .ok (.ifCond .eq 15, 3) := by decide +kernel
theorem dX9_read_87 : decode cX9_read 87 = .ok (.aload_n 0, 1) := by decide +kernel
theorem dX9_read_88 : decode cX9_read 88 = .ok (.getfield 32, 3) := by decide +kernel
theorem dX9_read_91 : decode cX9_read 91 = .ok (.invokevirtual 190, 3) := by decide +kernel
theorem dX9_read_94 : decode cX9_read 94 = .ok (.iload 7, 2) := by decide +kernel
theorem dX9_read_96 : decode cX9_read 96 = .ok (.if_icmp .gt 9, 3) := by decide +kernel
theorem dX9_read_99 : decode cX9_read 99 = .ok (.bipush (-20), 2) := by decide +kernel
theorem dX9_read_101 : decode cX9_read 101 = .ok (.iload 7, 2) := by decide +kernel
theorem dX9_read_103 : decode cX9_read 103 = .ok (.isub, 1) := by decide +kernel
theorem dX9_read_104 : decode cX9_read 104 = .ok (.ireturn, 1) := by decide +kernel
theorem dX9_read_105 : decode cX9_read 105 = .ok (.iinc 7 1, 3) := by decide +kernel
theorem dX9_read_108 : decode cX9_read 108 = .ok (.goto (-66), 3) := by decide +kernel
theorem dX9_read_111 : decode cX9_read 111 = .ok (.iconst 0, 1) := by decide +kernel
theorem dX9_read_112 : decode cX9_read 112 = .ok (.istore 8, 2) := by decide +kernel
theorem dX9_read_114 : decode cX9_read 114 = .ok (.iload 8, 2) := by decide +kernel
theorem dX9_read_116 : decode cX9_read 116 = .ok (.iload 7, 2) := by decide +kernel
theorem dX9_read_118 : decode cX9_read 118 = .ok (.if_icmp .ge 33, 3) := by decide +kernel
theorem dX9_read_121 : decode cX9_read 121 = .ok (.aload_n 0, 1) := by decide +kernel
theorem dX9_read_122 : decode cX9_read 122 = .ok (.getfield 32, 3) := by decide +kernel
theorem dX9_read_125 : decode cX9_read 125 = .ok (.aload_n 0, 1) := by decide +kernel
theorem dX9_read_126 : decode cX9_read 126 = .ok (.getfield 32, 3) := by decide +kernel
theorem dX9_read_129 : decode cX9_read 129 = .ok (.getfield 102, 3) := by decide +kernel
theorem dX9_read_132 : decode cX9_read 132 = .ok (.aload 5, 2) := by decide +kernel
theorem dX9_read_134 : decode cX9_read 134 = .ok (.getfield 253, 3) := by decide +kernel
theorem dX9_read_137 : decode cX9_read 137 = .ok (.iload_n 3, 1) := by decide +kernel
theorem dX9_read_138 : decode cX9_read 138 = .ok (.iload 8, 2) := by decide +kernel
theorem dX9_read_140 : decode cX9_read 140 = .ok (.iadd, 1) := by decide +kernel
theorem dX9_read_141 : decode cX9_read 141 = .ok (.iaload, 1) := by decide +kernel
theorem dX9_read_142 : decode cX9_read 142 = .ok (.invokevirtual 193, 3) := by decide +kernel
theorem dX9_read_145 : decode cX9_read 145 = .ok (.iinc 8 1, 3) := by decide +kernel
theorem dX9_read_148 : decode cX9_read 148 = .ok (.goto (-34), 3) := by decide +kernel
theorem dX9_read_151 : decode cX9_read 151 = .ok (.aload_n 0, 1) := by decide +kernel
theorem dX9_read_152 : decode cX9_read 152 = .ok (.iload 6, 2) := by decide +kernel
theorem dX9_read_154 : decode cX9_read 154 = .ok (.putfield 256, 3) := by decide +kernel
theorem dX9_read_157 : decode cX9_read 157 = .ok (.aload_n 0, 1) := by decide +kernel
theorem dX9_read_158 : decode cX9_read 158 = .ok (.iload 7, 2) := by decide +kernel
theorem dX9_read_160 : decode cX9_read 160 = .ok (.invokevirtual 187, 3) := by decide +kernel
theorem dX9_read_163 : decode cX9_read 163 = .ok (.ireturn, 1) := by decide +kernel
theorem dX9_torn_0 : decode cX9_torn 0 = .ok (.aload_n 0, 1) := by decide +kernel
theorem dX9_torn_1 : decode cX9_torn 1 = .ok (.getfield 256, 3) := by decide +kernel
theorem dX9_torn_4 : decode cX9_torn 4 = .ok (.ireturn, 1) := by decide +kernel
theorem dX9_count_0 : decode cX9_count 0 = .ok (.iload_n 1, 1) := by decide +kernel
theorem dX9_count_1 : decode cX9_count 1 = .ok (.tableswitch 106 0 4 #[35, 55, 63, 90, 98], 35) := by decide +kernel
theorem dX9_count_36 : decode cX9_count 36 = .ok (.aload_n 0, 1) := by decide +kernel
theorem dX9_count_37 : decode cX9_count 37 = .ok (.getfield 47, 3) := by decide +kernel
theorem dX9_count_40 : decode cX9_count 40 = .ok (.iconst 0, 1) := by decide +kernel
theorem dX9_count_41 : decode cX9_count 41 = .ok (.baload, 1) := by decide +kernel
theorem dX9_count_42 : decode cX9_count 42 = .ok (.invokestatic 143, 3) := by decide +kernel
theorem dX9_count_45 : decode cX9_count 45 = .ok (.aload_n 0, 1) := by decide +kernel
theorem dX9_count_46 : decode cX9_count 46 = .ok (.getfield 47, 3) := by decide +kernel
theorem dX9_count_49 : decode cX9_count 49 = .ok (.iconst 1, 1) := by decide +kernel
theorem dX9_count_50 : decode cX9_count 50 = .ok (.baload, 1) := by decide +kernel
theorem dX9_count_51 : decode cX9_count 51 = .ok (.invokestatic 143, 3) := by decide +kernel
theorem dX9_count_54 : decode cX9_count 54 = .ok (.iadd, 1) := by decide +kernel
theorem dX9_count_55 : decode cX9_count 55 = .ok (.ireturn, 1) := by decide +kernel
theorem dX9_count_56 : decode cX9_count 56 = .ok (.aload_n 0, 1) := by decide +kernel
theorem dX9_count_57 : decode cX9_count 57 = .ok (.getfield 20, 3) := by decide +kernel
theorem dX9_count_60 : decode cX9_count 60 = .ok (.getfield 58, 3) := by decide +kernel
theorem dX9_count_63 : decode cX9_count 63 = .ok (.ireturn, 1) := by decide +kernel
theorem dX9_count_64 : decode cX9_count 64 = .ok (.aload_n 0, 1) := by decide +kernel
theorem dX9_count_65 : decode cX9_count 65 = .ok (.getfield 53, 3) := by decide +kernel
theorem dX9_count_68 : decode cX9_count 68 = .ok (.iconst 0, 1) := by decide +kernel
theorem dX9_count_69 : decode cX9_count 69 = .ok (.aaload, 1) := by decide +kernel
theorem dX9_count_70 : decode cX9_count 70 = .ok (.getfield 259, 3) := by decide +kernel
theorem dX9_count_73 : decode cX9_count 73 = .ok (.ifCond .eq 15, 3) := by decide +kernel
theorem dX9_count_76 : decode cX9_count 76 = .ok (.aload_n 0, 1) := by decide +kernel
theorem dX9_count_77 : decode cX9_count 77 = .ok (.getfield 53, 3) := by decide +kernel
theorem dX9_count_80 : decode cX9_count 80 = .ok (.iconst 0, 1) := by decide +kernel
theorem dX9_count_81 : decode cX9_count 81 = .ok (.aaload, 1) := by decide +kernel
theorem dX9_count_82 : decode cX9_count 82 = .ok (.getfield 263, 3) := by decide +kernel
theorem dX9_count_85 : decode cX9_count 85 = .ok (.goto 5, 3) := by decide +kernel
theorem dX9_count_88 : decode cX9_count 88 = .ok (.bipush (-4), 2) := by decide +kernel
theorem dX9_count_90 : decode cX9_count 90 = .ok (.ireturn, 1) := by decide +kernel
theorem dX9_count_91 : decode cX9_count 91 = .ok (.aload_n 0, 1) := by decide +kernel
theorem dX9_count_92 : decode cX9_count 92 = .ok (.getfield 32, 3) := by decide +kernel
theorem dX9_count_95 : decode cX9_count 95 = .ok (.invokevirtual 264, 3) := by decide +kernel
theorem dX9_count_98 : decode cX9_count 98 = .ok (.ireturn, 1) := by decide +kernel
theorem dX9_count_99 : decode cX9_count 99 = .ok (.aload_n 0, 1) := by decide +kernel
theorem dX9_count_100 : decode cX9_count 100 = .ok (.getfield 32, 3) := by decide +kernel
theorem dX9_count_103 : decode cX9_count 103 = .ok (.invokevirtual 267, 3) := by decide +kernel
theorem dX9_count_106 : decode cX9_count 106 = .ok (.ireturn, 1) := by decide +kernel
theorem dX9_count_107 : decode cX9_count 107 = .ok (.iconst (-1), 1) := by decide +kernel
theorem dX9_count_108 : decode cX9_count 108 = .ok (.ireturn, 1) := by decide +kernel
theorem dX9_edited_0 : decode cX9_edited 0 = .ok (.aload_n 0, 1) := by decide +kernel
theorem dX9_edited_1 : decode cX9_edited 1 = .ok (.getfield 36, 3) := by decide +kernel
theorem dX9_edited_4 : decode cX9_edited 4 = .ok (.aload_n 0, 1) := by decide +kernel
theorem dX9_edited_5 : decode cX9_edited 5 = .ok (.getfield 32, 3) := by decide +kernel
theorem dX9_edited_8 : decode cX9_edited 8 = .ok (.invokevirtual 270, 3) := by decide +kernel
theorem dX9_edited_11 : decode cX9_edited 11 = .ok (.aload_n 0, 1) := by decide +kernel
theorem dX9_edited_12 : decode cX9_edited 12 = .ok (.getfield 24, 3) := by decide +kernel
theorem dX9_edited_15 : decode cX9_edited 15 = .ok (.invokevirtual 229, 3) := by decide +kernel
theorem dX9_edited_18 : decode cX9_edited 18 = .ok (.iload_n 1, 1) := by decide +kernel
theorem dX9_edited_19 : decode cX9_edited 19 = .ok (.ireturn, 1) := by decide +kernel
theorem dX9_startedAnew_0 : decode cX9_startedAnew 0 = .ok (.aload_n 0, 1) := by decide +kernel
theorem dX9_startedAnew_1 : decode cX9_startedAnew 1 = .ok (.getfield 36, 3) := by decide +kernel
theorem dX9_startedAnew_4 : decode cX9_startedAnew 4 = .ok (.aload_n 0, 1) := by decide +kernel
theorem dX9_startedAnew_5 : decode cX9_startedAnew 5 = .ok (.getfield 32, 3) := by decide +kernel
theorem dX9_startedAnew_8 : decode cX9_startedAnew 8 = .ok (.invokevirtual 273, 3) := by decide +kernel
theorem dX9_startedAnew_11 : decode cX9_startedAnew 11 = .ok (.aload_n 0, 1) := by decide +kernel
theorem dX9_startedAnew_12 : decode cX9_startedAnew 12 = .ok (.getfield 24, 3) := by decide +kernel
theorem dX9_startedAnew_15 : decode cX9_startedAnew 15 = .ok (.invokevirtual 229, 3) := by decide +kernel
theorem dX9_startedAnew_18 : decode cX9_startedAnew 18 = .ok (.aload_n 0, 1) := by decide +kernel
theorem dX9_startedAnew_19 : decode cX9_startedAnew 19 = .ok (.getfield 32, 3) := by decide +kernel
theorem dX9_startedAnew_22 : decode cX9_startedAnew 22 = .ok (.getfield 102, 3) := by decide +kernel
theorem dX9_startedAnew_25 : decode cX9_startedAnew 25 = .ok (.ireturn, 1) := by decide +kernel
theorem dX9_hasSheet_0 : decode cX9_hasSheet 0 = .ok (.iload_n 0, 1) := by decide +kernel
theorem dX9_hasSheet_1 : decode cX9_hasSheet 1 = .ok (.ifCond .lt 12, 3) := by decide +kernel
theorem dX9_hasSheet_4 : decode cX9_hasSheet 4 = .ok (.iload_n 0, 1) := by decide +kernel
theorem dX9_hasSheet_5 : decode cX9_hasSheet 5 = .ok (.iconst 4, 1) := by decide +kernel
theorem dX9_hasSheet_6 : decode cX9_hasSheet 6 = .ok (.if_icmp .ge 7, 3) := by decide +kernel
theorem dX9_hasSheet_9 : decode cX9_hasSheet 9 = .ok (.iconst 1, 1) := by decide +kernel
theorem dX9_hasSheet_10 : decode cX9_hasSheet 10 = .ok (.goto 4, 3) := by decide +kernel
theorem dX9_hasSheet_13 : decode cX9_hasSheet 13 = .ok (.iconst 0, 1) := by decide +kernel
theorem dX9_hasSheet_14 : decode cX9_hasSheet 14 = .ok (.ireturn, 1) := by decide +kernel
theorem dX9_isLane_0 : decode cX9_isLane 0 = .ok (.iload_n 0, 1) := by decide +kernel
theorem dX9_isLane_1 : decode cX9_isLane 1 = .ok (.ifCond .lt 12, 3) := by decide +kernel
theorem dX9_isLane_4 : decode cX9_isLane 4 = .ok (.iload_n 0, 1) := by decide +kernel
theorem dX9_isLane_5 : decode cX9_isLane 5 = .ok (.iconst 3, 1) := by decide +kernel
theorem dX9_isLane_6 : decode cX9_isLane 6 = .ok (.if_icmp .ge 7, 3) := by decide +kernel
theorem dX9_isLane_9 : decode cX9_isLane 9 = .ok (.iconst 1, 1) := by decide +kernel
theorem dX9_isLane_10 : decode cX9_isLane 10 = .ok (.goto 4, 3) := by decide +kernel
theorem dX9_isLane_13 : decode cX9_isLane 13 = .ok (.iconst 0, 1) := by decide +kernel
theorem dX9_isLane_14 : decode cX9_isLane 14 = .ok (.ireturn, 1) := by decide +kernel
theorem dX9_oneIf_0 : decode cX9_oneIf 0 = .ok (.iload_n 0, 1) := by decide +kernel
theorem dX9_oneIf_1 : decode cX9_oneIf 1 = .ok (.ifCond .eq 7, 3) := by decide +kernel
theorem dX9_oneIf_4 : decode cX9_oneIf 4 = .ok (.iconst 1, 1) := by decide +kernel
theorem dX9_oneIf_5 : decode cX9_oneIf 5 = .ok (.goto 4, 3) := by decide +kernel
theorem dX9_oneIf_8 : decode cX9_oneIf 8 = .ok (.iconst 0, 1) := by decide +kernel
theorem dX9_oneIf_9 : decode cX9_oneIf 9 = .ok (.ireturn, 1) := by decide +kernel
end
section
theorem dX10_init_0 : decode cX10_init 0 = .ok (.aload_n 0, 1) := by decide +kernel
theorem dX10_init_1 : decode cX10_init 1 = .ok (.invokespecial 1, 3) := by decide +kernel
theorem dX10_init_4 : decode cX10_init 4 = .ok (.aload_n 0, 1) := by decide +kernel
theorem dX10_init_5 : decode cX10_init 5 = .ok (.sipush 305, 3) := by decide +kernel
theorem dX10_init_8 : decode cX10_init 8 = .ok (.newarray .int, 2) := by decide +kernel
theorem dX10_init_10 : decode cX10_init 10 = .ok (.putfield 7, 3) := by decide +kernel
theorem dX10_init_13 : decode cX10_init 13 = .ok (.aload_n 0, 1) := by decide +kernel
theorem dX10_init_14 : decode cX10_init 14 = .ok (.sipush 160, 3) := by decide +kernel
theorem dX10_init_17 : decode cX10_init 17 = .ok (.newarray .int, 2) := by decide +kernel
theorem dX10_init_19 : decode cX10_init 19 = .ok (.putfield 13, 3) := by decide +kernel
theorem dX10_init_22 : decode cX10_init 22 = .ok (.aload_n 0, 1) := by decide +kernel
theorem dX10_init_23 : decode cX10_init 23 = .ok (.iconst 3, 1) := by decide +kernel
theorem dX10_init_24 : decode cX10_init 24 = .ok (.newarray .int, 2) := by decide +kernel
theorem dX10_init_26 : decode cX10_init 26 = .ok (.dup, 1) := by decide +kernel
theorem dX10_init_27 : decode cX10_init 27 = .ok (.iconst 0, 1) := by decide +kernel
theorem dX10_init_28 : decode cX10_init 28 = .ok (.bipush (-4), 2) := by decide +kernel
theorem dX10_init_30 : decode cX10_init 30 = .ok (.iastore, 1) := by decide +kernel
theorem dX10_init_31 : decode cX10_init 31 = .ok (.dup, 1) := by decide +kernel
theorem dX10_init_32 : decode cX10_init 32 = .ok (.iconst 1, 1) := by decide +kernel
theorem dX10_init_33 : decode cX10_init 33 = .ok (.bipush (-4), 2) := by decide +kernel
theorem dX10_init_35 : decode cX10_init 35 = .ok (.iastore, 1) := by decide +kernel
theorem dX10_init_36 : decode cX10_init 36 = .ok (.dup, 1) := by decide +kernel
theorem dX10_init_37 : decode cX10_init 37 = .ok (.iconst 2, 1) := by decide +kernel
theorem dX10_init_38 : decode cX10_init 38 = .ok (.bipush (-4), 2) := by decide +kernel
theorem dX10_init_40 : decode cX10_init 40 = .ok (.iastore, 1) := by decide +kernel
theorem dX10_init_41 : decode cX10_init 41 = .ok (.putfield 16, 3) := by decide +kernel
theorem dX10_init_44 : decode cX10_init 44 = .ok (.aload_n 0, 1) := by decide +kernel
theorem dX10_init_45 : decode cX10_init 45 = .ok (.iconst 4, 1) := by decide +kernel
theorem dX10_init_46 : decode cX10_init 46 = .ok (.newarray .int, 2) := by decide +kernel
theorem dX10_init_48 : decode cX10_init 48 = .ok (.dup, 1) := by decide +kernel
theorem dX10_init_49 : decode cX10_init 49 = .ok (.iconst 0, 1) := by decide +kernel
theorem dX10_init_50 : decode cX10_init 50 = .ok (.iconst 0, 1) := by decide +kernel
theorem dX10_init_51 : decode cX10_init 51 = .ok (.iastore, 1) := by decide +kernel
theorem dX10_init_52 : decode cX10_init 52 = .ok (.dup, 1) := by decide +kernel
theorem dX10_init_53 : decode cX10_init 53 = .ok (.iconst 1, 1) := by decide +kernel
theorem dX10_init_54 : decode cX10_init 54 = .ok (.iconst 3, 1) := by decide +kernel
theorem dX10_init_55 : decode cX10_init 55 = .ok (.iastore, 1) := by decide +kernel
theorem dX10_init_56 : decode cX10_init 56 = .ok (.dup, 1) := by decide +kernel
theorem dX10_init_57 : decode cX10_init 57 = .ok (.iconst 2, 1) := by decide +kernel
theorem dX10_init_58 : decode cX10_init 58 = .ok (.bipush 6, 2) := by decide +kernel
theorem dX10_init_60 : decode cX10_init 60 = .ok (.iastore, 1) := by decide +kernel
theorem dX10_init_61 : decode cX10_init 61 = .ok (.dup, 1) := by decide +kernel
theorem dX10_init_62 : decode cX10_init 62 = .ok (.iconst 3, 1) := by decide +kernel
theorem dX10_init_63 : decode cX10_init 63 = .ok (.bipush 10, 2) := by decide +kernel
theorem dX10_init_65 : decode cX10_init 65 = .ok (.iastore, 1) := by decide +kernel
theorem dX10_init_66 : decode cX10_init 66 = .ok (.putfield 19, 3) := by decide +kernel
theorem dX10_init_69 : decode cX10_init 69 = .ok (.aload_n 0, 1) := by decide +kernel
theorem dX10_init_70 : decode cX10_init 70 = .ok (.bipush 10, 2) := by decide +kernel
theorem dX10_init_72 : decode cX10_init 72 = .ok (.newarray .int, 2) := by decide +kernel
theorem dX10_init_74 : decode cX10_init 74 = .ok (.dup, 1) := by decide +kernel
theorem dX10_init_75 : decode cX10_init 75 = .ok (.iconst 0, 1) := by decide +kernel
theorem dX10_init_76 : decode cX10_init 76 = .ok (.bipush 114, 2) := by decide +kernel
theorem dX10_init_78 : decode cX10_init 78 = .ok (.iastore, 1) := by decide +kernel
theorem dX10_init_79 : decode cX10_init 79 = .ok (.dup, 1) := by decide +kernel
theorem dX10_init_80 : decode cX10_init 80 = .ok (.iconst 1, 1) := by decide +kernel
theorem dX10_init_81 : decode cX10_init 81 = .ok (.bipush 111, 2) := by decide +kernel
theorem dX10_init_83 : decode cX10_init 83 = .ok (.iastore, 1) := by decide +kernel
theorem dX10_init_84 : decode cX10_init 84 = .ok (.dup, 1) := by decide +kernel
theorem dX10_init_85 : decode cX10_init 85 = .ok (.iconst 2, 1) := by decide +kernel
theorem dX10_init_86 : decode cX10_init 86 = .ok (.bipush 119, 2) := by decide +kernel
theorem dX10_init_88 : decode cX10_init 88 = .ok (.iastore, 1) := by decide +kernel
theorem dX10_init_89 : decode cX10_init 89 = .ok (.dup, 1) := by decide +kernel
theorem dX10_init_90 : decode cX10_init 90 = .ok (.iconst 3, 1) := by decide +kernel
theorem dX10_init_91 : decode cX10_init 91 = .ok (.bipush 114, 2) := by decide +kernel
theorem dX10_init_93 : decode cX10_init 93 = .ok (.iastore, 1) := by decide +kernel
theorem dX10_init_94 : decode cX10_init 94 = .ok (.dup, 1) := by decide +kernel
theorem dX10_init_95 : decode cX10_init 95 = .ok (.iconst 4, 1) := by decide +kernel
theorem dX10_init_96 : decode cX10_init 96 = .ok (.bipush 101, 2) := by decide +kernel
theorem dX10_init_98 : decode cX10_init 98 = .ok (.iastore, 1) := by decide +kernel
theorem dX10_init_99 : decode cX10_init 99 = .ok (.dup, 1) := by decide +kernel
theorem dX10_init_100 : decode cX10_init 100 = .ok (.iconst 5, 1) := by decide +kernel
theorem dX10_init_101 : decode cX10_init 101 = .ok (.bipush 112, 2) := by decide +kernel
theorem dX10_init_103 : decode cX10_init 103 = .ok (.iastore, 1) := by decide +kernel
theorem dX10_init_104 : decode cX10_init 104 = .ok (.dup, 1) := by decide +kernel
theorem dX10_init_105 : decode cX10_init 105 = .ok (.bipush 6, 2) := by decide +kernel
theorem dX10_init_107 : decode cX10_init 107 = .ok (.bipush 109, 2) := by decide +kernel
theorem dX10_init_109 : decode cX10_init 109 = .ok (.iastore, 1) := by decide +kernel
theorem dX10_init_110 : decode cX10_init 110 = .ok (.dup, 1) := by decide +kernel
theorem dX10_init_111 : decode cX10_init 111 = .ok (.bipush 7, 2) := by decide +kernel
theorem dX10_init_113 : decode cX10_init 113 = .ok (.bipush 97, 2) := by decide +kernel
theorem dX10_init_115 : decode cX10_init 115 = .ok (.iastore, 1) := by decide +kernel
theorem dX10_init_116 : decode cX10_init 116 = .ok (.dup, 1) := by decide +kernel
theorem dX10_init_117 : decode cX10_init 117 = .ok (.bipush 8, 2) := by decide +kernel
theorem dX10_init_119 : decode cX10_init 119 = .ok (.bipush 114, 2) := by decide +kernel
theorem dX10_init_121 : decode cX10_init 121 = .ok (.iastore, 1) := by decide +kernel
theorem dX10_init_122 : decode cX10_init 122 = .ok (.dup, 1) := by decide +kernel
theorem dX10_init_123 : decode cX10_init 123 = .ok (.bipush 9, 2) := by decide +kernel
theorem dX10_init_125 : decode cX10_init 125 = .ok (.bipush 107, 2) := by decide +kernel
theorem dX10_init_127 : decode cX10_init 127 = .ok (.iastore, 1) := by decide +kernel
theorem dX10_init_128 : decode cX10_init 128 = .ok (.putfield 22, 3) := by decide +kernel
theorem dX10_init_131 : decode cX10_init 131 = .ok (.aload_n 0, 1) := by decide +kernel
theorem dX10_init_132 : decode cX10_init 132 = .ok (.bipush 60, 2) := by decide +kernel
theorem dX10_init_134 : decode cX10_init 134 = .ok (.newarray .int, 2) := by decide +kernel
theorem dX10_init_136 : decode cX10_init 136 = .ok (.putfield 25, 3) := by decide +kernel
theorem dX10_init_139 : decode cX10_init 139 = .ok (.aload_n 0, 1) := by decide +kernel
theorem dX10_init_140 : decode cX10_init 140 = .ok (.bipush 60, 2) := by decide +kernel
theorem dX10_init_142 : decode cX10_init 142 = .ok (.newarray .int, 2) := by decide +kernel
theorem dX10_init_144 : decode cX10_init 144 = .ok (.putfield 28, 3) := by decide +kernel
theorem dX10_init_147 : decode cX10_init 147 = .ok (.aload_n 0, 1) := by decide +kernel
theorem dX10_init_148 : decode cX10_init 148 = .ok (.bipush 60, 2) := by decide +kernel
theorem dX10_init_150 : decode cX10_init 150 = .ok (.newarray .int, 2) := by decide +kernel
theorem dX10_init_152 : decode cX10_init 152 = .ok (.putfield 31, 3) := by decide +kernel
theorem dX10_init_155 : decode cX10_init 155 = .ok (.aload_n 0, 1) := by decide +kernel
theorem dX10_init_156 : decode cX10_init 156 = .ok (.bipush 60, 2) := by decide +kernel
theorem dX10_init_158 : decode cX10_init 158 = .ok (.newarray .int, 2) := by decide +kernel
theorem dX10_init_160 : decode cX10_init 160 = .ok (.putfield 34, 3) := by decide +kernel
theorem dX10_init_163 : decode cX10_init 163 = .ok (.aload_n 0, 1) := by decide +kernel
theorem dX10_init_164 : decode cX10_init 164 = .ok (.sipush 1220, 3) := by decide +kernel
theorem dX10_init_167 : decode cX10_init 167 = .ok (.newarray .int, 2) := by decide +kernel
theorem dX10_init_169 : decode cX10_init 169 = .ok (.putfield 37, 3) := by decide +kernel
theorem dX10_init_172 : decode cX10_init 172 = .ok (.aload_n 0, 1) := by decide +kernel
theorem dX10_init_173 : decode cX10_init 173 = .ok (.sipush 1220, 3) := by decide +kernel
theorem dX10_init_176 : decode cX10_init 176 = .ok (.newarray .int, 2) := by decide +kernel
theorem dX10_init_178 : decode cX10_init 178 = .ok (.putfield 40, 3) := by decide +kernel
theorem dX10_init_181 : decode cX10_init 181 = .ok (.aload_n 0, 1) := by decide +kernel
theorem dX10_init_182 : decode cX10_init 182 = .ok (.bipush 120, 2) := by decide +kernel
theorem dX10_init_184 : decode cX10_init 184 = .ok (.newarray .int, 2) := by decide +kernel
theorem dX10_init_186 : decode cX10_init 186 = .ok (.putfield 43, 3) := by decide +kernel
theorem dX10_init_189 : decode cX10_init 189 = .ok (.aload_n 0, 1) := by decide +kernel
theorem dX10_init_190 : decode cX10_init 190 = .ok (.iconst 2, 1) := by decide +kernel
theorem dX10_init_191 : decode cX10_init 191 = .ok (.newarray .boolean, 2) := by decide +kernel
theorem dX10_init_193 : decode cX10_init 193 = .ok (.dup, 1) := by decide +kernel
theorem dX10_init_194 : decode cX10_init 194 = .ok (.iconst 0, 1) := by decide +kernel
theorem dX10_init_195 : decode cX10_init 195 = .ok (.iconst 0, 1) := by decide +kernel
theorem dX10_init_196 : decode cX10_init 196 = .ok (.bastore, 1) := by decide +kernel
theorem dX10_init_197 : decode cX10_init 197 = .ok (.dup, 1) := by decide +kernel
theorem dX10_init_198 : decode cX10_init 198 = .ok (.iconst 1, 1) := by decide +kernel
theorem dX10_init_199 : decode cX10_init 199 = .ok (.iconst 0, 1) := by decide +kernel
theorem dX10_init_200 : decode cX10_init 200 = .ok (.bastore, 1) := by decide +kernel
theorem dX10_init_201 : decode cX10_init 201 = .ok (.putfield 46, 3) := by decide +kernel
theorem dX10_init_204 : decode cX10_init 204 = .ok (.aload_n 0, 1) := by decide +kernel
theorem dX10_init_205 : decode cX10_init 205 = .ok (.iconst 4, 1) := by decide +kernel
theorem dX10_init_206 : decode cX10_init 206 = .ok (.newarray .int, 2) := by decide +kernel
theorem dX10_init_208 : decode cX10_init 208 = .ok (.dup, 1) := by decide +kernel
theorem dX10_init_209 : decode cX10_init 209 = .ok (.iconst 0, 1) := by decide +kernel
theorem dX10_init_210 : decode cX10_init 210 = .ok (.bipush (-4), 2) := by decide +kernel
theorem dX10_init_212 : decode cX10_init 212 = .ok (.iastore, 1) := by decide +kernel
theorem dX10_init_213 : decode cX10_init 213 = .ok (.dup, 1) := by decide +kernel
theorem dX10_init_214 : decode cX10_init 214 = .ok (.iconst 1, 1) := by decide +kernel
theorem dX10_init_215 : decode cX10_init 215 = .ok (.bipush (-4), 2) := by decide +kernel
theorem dX10_init_217 : decode cX10_init 217 = .ok (.iastore, 1) := by decide +kernel
theorem dX10_init_218 : decode cX10_init 218 = .ok (.dup, 1) := by decide +kernel
theorem dX10_init_219 : decode cX10_init 219 = .ok (.iconst 2, 1) := by decide +kernel
theorem dX10_init_220 : decode cX10_init 220 = .ok (.bipush (-4), 2) := by decide +kernel
theorem dX10_init_222 : decode cX10_init 222 = .ok (.iastore, 1) := by decide +kernel
theorem dX10_init_223 : decode cX10_init 223 = .ok (.dup, 1) := by decide +kernel
theorem dX10_init_224 : decode cX10_init 224 = .ok (.iconst 3, 1) := by decide +kernel
theorem dX10_init_225 : decode cX10_init 225 = .ok (.bipush (-4), 2) := by decide +kernel
theorem dX10_init_227 : decode cX10_init 227 = .ok (.iastore, 1) := by decide +kernel
theorem dX10_init_228 : decode cX10_init 228 = .ok (.putfield 50, 3) := by decide +kernel
theorem dX10_init_231 : decode cX10_init 231 = .ok (.aload_n 0, 1) := by decide +kernel
theorem dX10_init_232 : decode cX10_init 232 = .ok (.iconst 4, 1) := by decide +kernel
theorem dX10_init_233 : decode cX10_init 233 = .ok (.newarray .int, 2) := by decide +kernel
theorem dX10_init_235 : decode cX10_init 235 = .ok (.dup, 1) := by decide +kernel
theorem dX10_init_236 : decode cX10_init 236 = .ok (.iconst 0, 1) := by decide +kernel
theorem dX10_init_237 : decode cX10_init 237 = .ok (.iconst 0, 1) := by decide +kernel
theorem dX10_init_238 : decode cX10_init 238 = .ok (.iastore, 1) := by decide +kernel
theorem dX10_init_239 : decode cX10_init 239 = .ok (.dup, 1) := by decide +kernel
theorem dX10_init_240 : decode cX10_init 240 = .ok (.iconst 1, 1) := by decide +kernel
theorem dX10_init_241 : decode cX10_init 241 = .ok (.iconst 0, 1) := by decide +kernel
theorem dX10_init_242 : decode cX10_init 242 = .ok (.iastore, 1) := by decide +kernel
theorem dX10_init_243 : decode cX10_init 243 = .ok (.dup, 1) := by decide +kernel
theorem dX10_init_244 : decode cX10_init 244 = .ok (.iconst 2, 1) := by decide +kernel
theorem dX10_init_245 : decode cX10_init 245 = .ok (.iconst 0, 1) := by decide +kernel
theorem dX10_init_246 : decode cX10_init 246 = .ok (.iastore, 1) := by decide +kernel
theorem dX10_init_247 : decode cX10_init 247 = .ok (.dup, 1) := by decide +kernel
theorem dX10_init_248 : decode cX10_init 248 = .ok (.iconst 3, 1) := by decide +kernel
theorem dX10_init_249 : decode cX10_init 249 = .ok (.iconst 0, 1) := by decide +kernel
theorem dX10_init_250 : decode cX10_init 250 = .ok (.iastore, 1) := by decide +kernel
theorem dX10_init_251 : decode cX10_init 251 = .ok (.putfield 53, 3) := by decide +kernel
theorem dX10_init_254 : decode cX10_init 254 = .ok (.aload_n 0, 1) := by decide +kernel
theorem dX10_init_255 : decode cX10_init 255 = .ok (.sipush 160, 3) := by decide +kernel
theorem dX10_init_258 : decode cX10_init 258 = .ok (.newarray .int, 2) := by decide +kernel
theorem dX10_init_260 : decode cX10_init 260 = .ok (.putfield 56, 3) := by decide +kernel
theorem dX10_init_263 : decode cX10_init 263 = .ok (.return_, 1) := by decide +kernel
theorem dX10_in_0 : decode cX10_in 0 = .ok (.lload_n 0, 1) := by decide +kernel
theorem dX10_in_1 : decode cX10_in 1 = .ok (.lload_n 2, 1) := by decide +kernel
theorem dX10_in_2 : decode cX10_in 2 = .ok (.lcmp, 1) := by decide +kernel
theorem dX10_in_3 : decode cX10_in 3 = .ok (.ifCond .lt 14, 3) := by decide +kernel
theorem dX10_in_6 : decode cX10_in 6 = .ok (.lload_n 0, 1) := by decide +kernel
theorem dX10_in_7 : decode cX10_in 7 = .ok (.lload 4, 2) := by decide +kernel
theorem dX10_in_9 : decode cX10_in 9 = .ok (.lcmp, 1) := by decide +kernel
theorem dX10_in_10 : decode cX10_in 10 = .ok (.ifCond .gt 7, 3) := by decide +kernel
theorem dX10_in_13 : decode cX10_in 13 = .ok (.iconst 1, 1) := by decide +kernel
theorem dX10_in_14 : decode cX10_in 14 = .ok (.goto 4, 3) := by decide +kernel
theorem dX10_in_17 : decode cX10_in 17 = .ok (.iconst 0, 1) := by decide +kernel
theorem dX10_in_18 : decode cX10_in 18 = .ok (.ireturn, 1) := by decide +kernel
theorem dX10_feed_0 : decode cX10_feed 0 = .ok (.iload_n 1, 1) := by decide +kernel
theorem dX10_feed_1 : decode cX10_feed 1 = .ok (.i2l, 1) := by decide +kernel
theorem dX10_feed_2 : decode cX10_feed 2 = .ok (.lconst 0, 1) := by decide +kernel
theorem dX10_feed_3 : decode cX10_feed 3 = .ok (.ldc2_w 59, 3) := by decide +kernel
theorem dX10_feed_6 : decode cX10_feed 6 = .ok (.invokestatic 61, 3) := by decide +kernel
theorem dX10_feed_9 : decode cX10_feed 9 = .ok (.ifCond .ne 5, 3) := by decide +kernel
theorem dX10_feed_12 : decode cX10_feed 12 = .ok (.iconst (-1), 1) := by decide +kernel
theorem dX10_feed_13 : decode cX10_feed 13 = .ok (.ireturn, 1) := by decide +kernel
theorem dX10_feed_14 : decode cX10_feed 14 = .ok (.aload_n 0, 1) := by decide +kernel
theorem dX10_feed_15 : decode cX10_feed 15 = .ok (.getfield 65, 3) := by decide +kernel
theorem dX10_feed_18 : decode cX10_feed 18 = .ok (.sipush 160, 3) := by decide +kernel
theorem dX10_feed_21 : decode cX10_feed 21 = .ok (.if_icmp .ne 6, 3) := by decide +kernel
theorem dX10_feed_24 : decode cX10_feed 24 = .ok (.bipush (-3), 2) := by decide +kernel
theorem dX10_feed_26 : decode cX10_feed 26 = .ok (.ireturn, 1) := by decide +kernel
theorem dX10_feed_27 : decode cX10_feed 27 = .ok (.aload_n 0, 1) := by decide +kernel
theorem dX10_feed_28 : decode cX10_feed 28 = .ok (.getfield 13, 3) := by decide +kernel
theorem dX10_feed_31 : decode cX10_feed 31 = .ok (.aload_n 0, 1) := by decide +kernel
theorem dX10_feed_32 : decode cX10_feed 32 = .ok (.getfield 65, 3) := by decide +kernel
theorem dX10_feed_35 : decode cX10_feed 35 = .ok (.iload_n 1, 1) := by decide +kernel
theorem dX10_feed_36 : decode cX10_feed 36 = .ok (.iastore, 1) := by decide +kernel
theorem dX10_feed_37 : decode cX10_feed 37 = .ok (.aload_n 0, 1) := by decide +kernel
theorem dX10_feed_38 : decode cX10_feed 38 = .ok (.dup, 1) := by decide +kernel
theorem dX10_feed_39 : decode cX10_feed 39 = .ok (.getfield 65, 3) := by decide +kernel
theorem dX10_feed_42 : decode cX10_feed 42 = .ok (.iconst 1, 1) := by decide +kernel
theorem dX10_feed_43 : decode cX10_feed 43 = .ok (.iadd, 1) := by decide +kernel
theorem dX10_feed_44 : decode cX10_feed 44 = .ok (.putfield 65, 3) := by decide +kernel
theorem dX10_feed_47 : decode cX10_feed 47 = .ok (.aload_n 0, 1) := by decide +kernel
theorem dX10_feed_48 : decode cX10_feed 48 = .ok (.getfield 65, 3) := by decide +kernel
theorem dX10_feed_51 : decode cX10_feed 51 = .ok (.ireturn, 1) := by decide +kernel
theorem dX10_end_0 : decode cX10_end 0 = .ok (.iload_n 1, 1) := by decide +kernel
theorem dX10_end_1 : decode cX10_end 1 = .ok (.i2l, 1) := by decide +kernel
theorem dX10_end_2 : decode cX10_end 2 = .ok (.lconst 0, 1) := by decide +kernel
theorem dX10_end_3 : decode cX10_end 3 = .ok (.aload_n 0, 1) := by decide +kernel
theorem dX10_end_4 : decode cX10_end 4 = .ok (.getfield 65, 3) := by decide +kernel
theorem dX10_end_7 : decode cX10_end 7 = .ok (.i2l, 1) := by decide +kernel
theorem dX10_end_8 : decode cX10_end 8 = .ok (.invokestatic 61, 3) := by decide +kernel
theorem dX10_end_11 : decode cX10_end 11 = .ok (.ifCond .ne 5, 3) := by decide +kernel
theorem dX10_end_14 : decode cX10_end 14 = .ok (.iconst (-1), 1) := by decide +kernel
theorem dX10_end_15 : decode cX10_end 15 = .ok (.ireturn, 1) := by decide +kernel
theorem dX10_end_16 : decode cX10_end 16 = .ok (.aload_n 0, 1) := by decide +kernel
theorem dX10_end_17 : decode cX10_end 17 = .ok (.getfield 65, 3) := by decide +kernel
theorem dX10_end_20 : decode cX10_end 20 = .ok (.istore_n 2, 1) := by decide +kernel
theorem dX10_end_21 : decode cX10_end 21 = .ok (.aload_n 0, 1) := by decide +kernel
theorem dX10_end_22 : decode cX10_end 22 = .ok (.iload_n 1, 1) := by decide +kernel
theorem dX10_end_23 : decode cX10_end 23 = .ok (.putfield 65, 3) := by decide +kernel
theorem dX10_end_26 : decode cX10_end 26 = .ok (.iload_n 2, 1) := by decide +kernel
theorem dX10_end_27 : decode cX10_end 27 = .ok (.ireturn, 1) := by decide +kernel
theorem dX10_byteAt_0 : decode cX10_byteAt 0 = .ok (.iload_n 1, 1) := by decide +kernel
theorem dX10_byteAt_1 : decode cX10_byteAt 1 = .ok (.aload_n 0, 1) := by decide +kernel
theorem dX10_byteAt_2 : decode cX10_byteAt 2 = .ok (.getfield 65, 3) := by decide +kernel
theorem dX10_byteAt_5 : decode cX10_byteAt 5 = .ok (.if_icmp .ge 12, 3) := by decide +kernel
theorem dX10_byteAt_8 : decode cX10_byteAt 8 = .ok (.aload_n 0, 1) := by decide +kernel
theorem dX10_byteAt_9 : decode cX10_byteAt 9 = .ok (.getfield 13, 3) := by decide +kernel
theorem dX10_byteAt_12 : decode cX10_byteAt 12 = .ok (.iload_n 1, 1) := by decide +kernel
theorem dX10_byteAt_13 : decode cX10_byteAt 13 = .ok (.iaload, 1) := by decide +kernel
theorem dX10_byteAt_14 : decode cX10_byteAt 14 = .ok (.goto 5, 3) := by decide +kernel
theorem dX10_byteAt_17 : decode cX10_byteAt 17 = .ok (.bipush (-4), 2) := by decide +kernel
theorem dX10_byteAt_19 : decode cX10_byteAt 19 = .ok (.ireturn, 1) := by decide +kernel
theorem dX10_fails_0 : decode cX10_fails 0 = .ok (.aload_n 0, 1) := by decide +kernel
theorem dX10_fails_1 : decode cX10_fails 1 = .ok (.getfield 69, 3) := by decide +kernel
theorem dX10_fails_4 : decode cX10_fails 4 = .ok (.ifCond .ne 16, 3) := by decide +kernel
theorem dX10_fails_7 : decode cX10_fails 7 = .ok (.aload_n 0, 1) := by decide +kernel
theorem dX10_fails_8 : decode cX10_fails 8 = .ok (.iload_n 1, 1) := by decide +kernel
theorem dX10_fails_9 : decode cX10_fails 9 = .ok (.putfield 69, 3) := by decide +kernel
theorem dX10_fails_12 : decode cX10_fails 12 = .ok (.aload_n 0, 1) := by decide +kernel
theorem dX10_fails_13 : decode cX10_fails 13 = .ok (.aload_n 0, 1) := by decide +kernel
theorem dX10_fails_14 : decode cX10_fails 14 = .ok (.getfield 72, 3) := by decide +kernel
theorem dX10_fails_17 : decode cX10_fails 17 = .ok (.putfield 75, 3) := by decide +kernel
theorem dX10_fails_20 : decode cX10_fails 20 = .ok (.return_, 1) := by decide +kernel
theorem dX10_kindOf_0 : decode cX10_kindOf 0 = .ok (.iload_n 0, 1) := by decide +kernel
theorem dX10_kindOf_1 : decode cX10_kindOf 1 = .ok (.bipush 40, 2) := by decide +kernel
theorem dX10_kindOf_3 : decode cX10_kindOf 3 = .ok (.if_icmp .eq 9, 3) := by decide +kernel
theorem dX10_kindOf_6 : decode cX10_kindOf 6 = .ok (.iload_n 0, 1) := by decide +kernel
theorem dX10_kindOf_7 : decode cX10_kindOf 7 = .ok (.bipush 41, 2) := by decide +kernel
theorem dX10_kindOf_9 : decode cX10_kindOf 9 = .ok (.if_icmp .ne 7, 3) := by decide +kernel
theorem dX10_kindOf_12 : decode cX10_kindOf 12 = .ok (.iconst 0, 1) := by decide +kernel
theorem dX10_kindOf_13 : decode cX10_kindOf 13 = .ok (.goto 37, 3) := by decide +kernel
theorem dX10_kindOf_16 : decode cX10_kindOf 16 = .ok (.iload_n 0, 1) := by decide +kernel
theorem dX10_kindOf_17 : decode cX10_kindOf 17 = .ok (.bipush 91, 2) := by decide +kernel
theorem dX10_kindOf_19 : decode cX10_kindOf 19 = .ok (.if_icmp .eq 9, 3) := by decide +kernel
theorem dX10_kindOf_22 : decode cX10_kindOf 22 = .ok (.iload_n 0, 1) := by decide +kernel
theorem dX10_kindOf_23 : decode cX10_kindOf 23 = .ok (.bipush 93, 2) := by decide +kernel
theorem dX10_kindOf_25 : decode cX10_kindOf 25 = .ok (.if_icmp .ne 7, 3) := by decide +kernel
theorem dX10_kindOf_28 : decode cX10_kindOf 28 = .ok (.iconst 1, 1) := by decide +kernel
theorem dX10_kindOf_29 : decode cX10_kindOf 29 = .ok (.goto 21, 3) := by decide +kernel
theorem dX10_kindOf_32 : decode cX10_kindOf 32 = .ok (.iload_n 0, 1) := by decide +kernel
theorem dX10_kindOf_33 : decode cX10_kindOf 33 = .ok (.bipush 123, 2) := by decide +kernel
theorem dX10_kindOf_35 : decode cX10_kindOf 35 = .ok (.if_icmp .eq 9, 3) := by decide +kernel
theorem dX10_kindOf_38 : decode cX10_kindOf 38 = .ok (.iload_n 0, 1) := by decide +kernel
theorem dX10_kindOf_39 : decode cX10_kindOf 39 = .ok (.bipush 125, 2) := by decide +kernel
theorem dX10_kindOf_41 : decode cX10_kindOf 41 = .ok (.if_icmp .ne 7, 3) := by decide +kernel
theorem dX10_kindOf_44 : decode cX10_kindOf 44 = .ok (.iconst 2, 1) := by decide +kernel
theorem dX10_kindOf_45 : decode cX10_kindOf 45 = .ok (.goto 5, 3) := by decide +kernel
theorem dX10_kindOf_48 : decode cX10_kindOf 48 = .ok (.bipush (-4), 2) := by decide +kernel
theorem dX10_kindOf_50 : decode cX10_kindOf 50 = .ok (.ireturn, 1) := by decide +kernel
theorem dX10_isOpen_0 : decode cX10_isOpen 0 = .ok (.iload_n 0, 1) := by decide +kernel
theorem dX10_isOpen_1 : decode cX10_isOpen 1 = .ok (.bipush 40, 2) := by decide +kernel
theorem dX10_isOpen_3 : decode cX10_isOpen 3 = .ok (.if_icmp .eq 15, 3) := by decide +kernel
theorem dX10_isOpen_6 : decode cX10_isOpen 6 = .ok (.iload_n 0, 1) := by decide +kernel
theorem dX10_isOpen_7 : decode cX10_isOpen 7 = .ok (.bipush 91, 2) := by decide +kernel
theorem dX10_isOpen_9 : decode cX10_isOpen 9 = .ok (.if_icmp .eq 9, 3) := by decide +kernel
theorem dX10_isOpen_12 : decode cX10_isOpen 12 = .ok (.iload_n 0, 1) := by decide +kernel
theorem dX10_isOpen_13 : decode cX10_isOpen 13 = .ok (.bipush 123, 2) := by decide +kernel
theorem dX10_isOpen_15 : decode cX10_isOpen 15 = .ok (.if_icmp .ne 7, 3) := by decide +kernel
theorem dX10_isOpen_18 : decode cX10_isOpen 18 = .ok (.iconst 1, 1) := by decide +kernel
theorem dX10_isOpen_19 : decode cX10_isOpen 19 = .ok (.goto 4, 3) := by decide +kernel
theorem dX10_isOpen_22 : decode cX10_isOpen 22 = .ok (.iconst 0, 1) := by decide +kernel
theorem dX10_isOpen_23 : decode cX10_isOpen 23 = .ok (.ireturn, 1) := by decide +kernel
theorem dX10_isClose_0 : decode cX10_isClose 0 = .ok (.iload_n 0, 1) := by decide +kernel
theorem dX10_isClose_1 : decode cX10_isClose 1 = .ok (.bipush 41, 2) := by decide +kernel
theorem dX10_isClose_3 : decode cX10_isClose 3 = .ok (.if_icmp .eq 15, 3) := by decide +kernel
theorem dX10_isClose_6 : decode cX10_isClose 6 = .ok (.iload_n 0, 1) := by decide +kernel
theorem dX10_isClose_7 : decode cX10_isClose 7 = .ok (.bipush 93, 2) := by decide +kernel
theorem dX10_isClose_9 : decode cX10_isClose 9 = .ok (.if_icmp .eq 9, 3) := by decide +kernel
theorem dX10_isClose_12 : decode cX10_isClose 12 = .ok (.iload_n 0, 1) := by decide +kernel
theorem dX10_isClose_13 : decode cX10_isClose 13 = .ok (.bipush 125, 2) := by decide +kernel
theorem dX10_isClose_15 : decode cX10_isClose 15 = .ok (.if_icmp .ne 7, 3) := by decide +kernel
theorem dX10_isClose_18 : decode cX10_isClose 18 = .ok (.iconst 1, 1) := by decide +kernel
theorem dX10_isClose_19 : decode cX10_isClose 19 = .ok (.goto 4, 3) := by decide +kernel
theorem dX10_isClose_22 : decode cX10_isClose 22 = .ok (.iconst 0, 1) := by decide +kernel
theorem dX10_isClose_23 : decode cX10_isClose 23 = .ok (.ireturn, 1) := by decide +kernel
theorem dX10_isSign_0 : decode cX10_isSign 0 = .ok (.iload_n 0, 1) := by decide +kernel
theorem dX10_isSign_1 : decode cX10_isSign 1 = .ok (.invokestatic 78, 3) := by decide +kernel
theorem dX10_isSign_4 : decode cX10_isSign 4 = .ok (.bipush (-4), 2) := by decide +kernel
theorem dX10_isSign_6 : decode cX10_isSign 6 = .ok (.if_icmp .ne 23, 3) := by decide +kernel
theorem dX10_isSign_9 : decode cX10_isSign 9 = .ok (.iload_n 0, 1) := by decide +kernel
theorem dX10_isSign_10 : decode cX10_isSign 10 = .ok (.i2l, 1) := by decide +kernel
theorem dX10_isSign_11 : decode cX10_isSign 11 = .ok (.ldc2_w 82, 3) := by decide +kernel
theorem dX10_isSign_14 : decode cX10_isSign 14 = .ok (.ldc2_w 84, 3) := by decide +kernel
theorem dX10_isSign_17 : decode cX10_isSign 17 = .ok (.invokestatic 61, 3) := by decide +kernel
theorem dX10_isSign_20 : decode cX10_isSign 20 = .ok (.ifCond .ne 9, 3) := by decide +kernel
theorem dX10_isSign_23 : decode cX10_isSign 23 = .ok (.iload_n 0, 1) := by decide +kernel
theorem dX10_isSign_24 : decode cX10_isSign 24 = .ok (.bipush 47, 2) := by decide +kernel
theorem dX10_isSign_26 : decode cX10_isSign 26 = .ok (.if_icmp .ne 7, 3) := by decide +kernel
theorem dX10_isSign_29 : decode cX10_isSign 29 = .ok (.iconst 1, 1) := by decide +kernel
theorem dX10_isSign_30 : decode cX10_isSign 30 = .ok (.goto 4, 3) := by decide +kernel
theorem dX10_isSign_33 : decode cX10_isSign 33 = .ok (.iconst 0, 1) := by decide +kernel
theorem dX10_isSign_34 : decode cX10_isSign 34 = .ok (.ireturn, 1) := by decide +kernel
theorem dX10_nameHere_0 : decode cX10_nameHere 0 = .ok (.iconst 0, 1) := by decide +kernel
theorem dX10_nameHere_1 : decode cX10_nameHere 1 = .ok (.istore_n 1, 1) := by decide +kernel
theorem dX10_nameHere_2 : decode cX10_nameHere 2 = .ok (.iload_n 1, 1) := by decide +kernel
theorem dX10_nameHere_3 : decode cX10_nameHere 3 = .ok (.iconst 3, 1) := by decide +kernel
theorem dX10_nameHere_4 : decode cX10_nameHere 4 = .ok (.if_icmp .ge 113, 3) := by decide +kernel
theorem dX10_nameHere_7 : decode cX10_nameHere 7 = .ok (.aload_n 0, 1) := by decide +kernel
theorem dX10_nameHere_8 : decode cX10_nameHere 8 = .ok (.getfield 86, 3) := by decide +kernel
theorem dX10_nameHere_11 : decode cX10_nameHere 11 = .ok (.iconst 1, 1) := by decide +kernel
theorem dX10_nameHere_12 : decode cX10_nameHere 12 = .ok (.if_icmp .ne 105, 3) := by decide +kernel
theorem dX10_nameHere_15 : decode cX10_nameHere 15 = .ok (.aload_n 0, 1) := by decide +kernel
theorem dX10_nameHere_16 : decode cX10_nameHere 16 = .ok (.getfield 89, 3) := by decide +kernel
theorem dX10_nameHere_19 : decode cX10_nameHere 19 = .ok (.aload_n 0, 1) := by decide +kernel
theorem dX10_nameHere_20 : decode cX10_nameHere 20 = .ok (.getfield 72, 3) := by decide +kernel
theorem dX10_nameHere_23 : decode cX10_nameHere 23 = .ok (.isub, 1) := by decide +kernel
theorem dX10_nameHere_24 : decode cX10_nameHere 24 = .ok (.aload_n 0, 1) := by decide +kernel
theorem dX10_nameHere_25 : decode cX10_nameHere 25 = .ok (.getfield 19, 3) := by decide +kernel
theorem dX10_nameHere_28 : decode cX10_nameHere 28 = .ok (.iload_n 1, 1) := by decide +kernel
theorem dX10_nameHere_29 : decode cX10_nameHere 29 = .ok (.iconst 1, 1) := by decide +kernel
theorem dX10_nameHere_30 : decode cX10_nameHere 30 = .ok (.iadd, 1) := by decide +kernel
theorem dX10_nameHere_31 : decode cX10_nameHere 31 = .ok (.iaload, 1) := by decide +kernel
theorem dX10_nameHere_32 : decode cX10_nameHere 32 = .ok (.aload_n 0, 1) := by decide +kernel
theorem dX10_nameHere_33 : decode cX10_nameHere 33 = .ok (.getfield 19, 3) := by decide +kernel
theorem dX10_nameHere_36 : decode cX10_nameHere 36 = .ok (.iload_n 1, 1) := by decide +kernel
theorem dX10_nameHere_37 : decode cX10_nameHere 37 = .ok (.iaload, 1) := by decide +kernel
theorem dX10_nameHere_38 : decode cX10_nameHere 38 = .ok (.isub, 1) := by decide +kernel
theorem dX10_nameHere_39 : decode cX10_nameHere 39 = .ok (.if_icmp .ne 7, 3) := by decide +kernel
theorem dX10_nameHere_42 : decode cX10_nameHere 42 = .ok (.iconst 1, 1) := by decide +kernel
theorem dX10_nameHere_43 : decode cX10_nameHere 43 = .ok (.goto 4, 3) := by decide +kernel
theorem dX10_nameHere_46 : decode cX10_nameHere 46 = .ok (.iconst 0, 1) := by decide +kernel
theorem dX10_nameHere_47 : decode cX10_nameHere 47 = .ok (.istore_n 2, 1) := by decide +kernel
theorem dX10_nameHere_48 : decode cX10_nameHere 48 = .ok (.iconst 0, 1) := by decide +kernel
theorem dX10_nameHere_49 : decode cX10_nameHere 49 = .ok (.istore_n 3, 1) := by decide +kernel
theorem dX10_nameHere_50 : decode cX10_nameHere 50 = .ok (.iload_n 2, 1) := by decide +kernel
theorem dX10_nameHere_51 : decode cX10_nameHere 51 = .ok (.ifCond .eq 54, 3) := by decide +kernel
theorem dX10_nameHere_54 : decode cX10_nameHere 54 = .ok (.iload_n 3, 1) := by decide +kernel
theorem dX10_nameHere_55 : decode cX10_nameHere 55 = .ok (.aload_n 0, 1) := by decide +kernel
theorem dX10_nameHere_56 : decode cX10_nameHere 56 = .ok (.getfield 89, 3) := by decide +kernel
theorem dX10_nameHere_59 : decode cX10_nameHere 59 = .ok (.aload_n 0, 1) := by decide +kernel
theorem dX10_nameHere_60 : decode cX10_nameHere 60 = .ok (.getfield 72, 3) := by decide +kernel
theorem dX10_nameHere_63 : decode cX10_nameHere 63 = .ok (.isub, 1) := by decide +kernel
theorem dX10_nameHere_64 : decode cX10_nameHere 64 = .ok (.if_icmp .ge 41, 3) := by decide +kernel
theorem dX10_nameHere_67 : decode cX10_nameHere 67 = .ok (.aload_n 0, 1) := by decide +kernel
theorem dX10_nameHere_68 : decode cX10_nameHere 68 = .ok (.aload_n 0, 1) := by decide +kernel
theorem dX10_nameHere_69 : decode cX10_nameHere 69 = .ok (.getfield 72, 3) := by decide +kernel
theorem dX10_nameHere_72 : decode cX10_nameHere 72 = .ok (.iload_n 3, 1) := by decide +kernel
theorem dX10_nameHere_73 : decode cX10_nameHere 73 = .ok (.iadd, 1) := by decide +kernel
theorem dX10_nameHere_74 : decode cX10_nameHere 74 = .ok (.invokevirtual 92, 3) := by decide +kernel
theorem dX10_nameHere_77 : decode cX10_nameHere 77 = .ok (.aload_n 0, 1) := by decide +kernel
theorem dX10_nameHere_78 : decode cX10_nameHere 78 = .ok (.getfield 22, 3) := by decide +kernel
theorem dX10_nameHere_81 : decode cX10_nameHere 81 = .ok (.aload_n 0, 1) := by decide +kernel
theorem dX10_nameHere_82 : decode cX10_nameHere 82 = .ok (.getfield 19, 3) := by decide +kernel
theorem dX10_nameHere_85 : decode cX10_nameHere 85 = .ok (.iload_n 1, 1) := by decide +kernel
theorem dX10_nameHere_86 : decode cX10_nameHere 86 = .ok (.iaload, 1) := by decide +kernel
theorem dX10_nameHere_87 : decode cX10_nameHere 87 = .ok (.iload_n 3, 1) := by decide +kernel
theorem dX10_nameHere_88 : decode cX10_nameHere 88 = .ok (.iadd, 1) := by decide +kernel
theorem dX10_nameHere_89 : decode cX10_nameHere 89 = .ok (.iaload, 1) := by decide +kernel
theorem dX10_nameHere_90 : decode cX10_nameHere 90 = .ok (.if_icmp .ne 7, 3) := by decide +kernel
theorem dX10_nameHere_93 : decode cX10_nameHere 93 = .ok (.iconst 1, 1) := by decide +kernel
theorem dX10_nameHere_94 : decode cX10_nameHere 94 = .ok (.goto 4, 3) := by decide +kernel
theorem dX10_nameHere_97 : decode cX10_nameHere 97 = .ok (.iconst 0, 1) := by decide +kernel
theorem dX10_nameHere_98 : decode cX10_nameHere 98 = .ok (.istore_n 2, 1) := by decide +kernel
theorem dX10_nameHere_99 : decode cX10_nameHere 99 = .ok (.iinc 3 1, 3) := by decide +kernel
theorem dX10_nameHere_102 : decode cX10_nameHere 102 = .ok (.goto (-52), 3) := by decide +kernel
theorem dX10_nameHere_105 : decode cX10_nameHere 105 = .ok (.iload_n 2, 1) := by decide +kernel
theorem dX10_nameHere_106 : decode cX10_nameHere 106 = .ok (.ifCond .eq 5, 3) := by decide +kernel
theorem dX10_nameHere_109 : decode cX10_nameHere 109 = .ok (.iload_n 1, 1) := by decide +kernel
theorem dX10_nameHere_110 : decode cX10_nameHere 110 = .ok (.ireturn, 1) := by decide +kernel
theorem dX10_nameHere_111 : decode cX10_nameHere 111 = .ok (.iinc 1 1, 3) := by decide +kernel
theorem dX10_nameHere_114 : decode cX10_nameHere 114 = .ok (.goto (-112), 3) := by decide +kernel
theorem dX10_nameHere_117 : decode cX10_nameHere 117 = .ok (.bipush (-4), 2) := by decide +kernel
theorem dX10_nameHere_119 : decode cX10_nameHere 119 = .ok (.ireturn, 1) := by decide +kernel
theorem dX10_quoteRead_0 : decode cX10_quoteRead 0 = .ok (.aload_n 0, 1) := by decide +kernel
theorem dX10_quoteRead_1 : decode cX10_quoteRead 1 = .ok (.iconst 4, 1) := by decide +kernel
theorem dX10_quoteRead_2 : decode cX10_quoteRead 2 = .ok (.putfield 86, 3) := by decide +kernel
theorem dX10_quoteRead_5 : decode cX10_quoteRead 5 = .ok (.aload_n 0, 1) := by decide +kernel
theorem dX10_quoteRead_6 : decode cX10_quoteRead 6 = .ok (.aload_n 0, 1) := by decide +kernel
theorem dX10_quoteRead_7 : decode cX10_quoteRead 7 = .ok (.getfield 72, 3) := by decide +kernel
theorem dX10_quoteRead_10 : decode cX10_quoteRead 10 = .ok (.putfield 95, 3) := by decide +kernel
theorem dX10_quoteRead_13 : decode cX10_quoteRead 13 = .ok (.aload_n 0, 1) := by decide +kernel
theorem dX10_quoteRead_14 : decode cX10_quoteRead 14 = .ok (.dup, 1) := by decide +kernel
theorem dX10_quoteRead_15 : decode cX10_quoteRead 15 = .ok (.getfield 89, 3) := by decide +kernel
theorem dX10_quoteRead_18 : decode cX10_quoteRead 18 = .ok (.iconst 1, 1) := by decide +kernel
theorem dX10_quoteRead_19 : decode cX10_quoteRead 19 = .ok (.iadd, 1) := by decide +kernel
theorem dX10_quoteRead_20 : decode cX10_quoteRead 20 = .ok (.putfield 89, 3) := by decide +kernel
theorem dX10_quoteRead_23 : decode cX10_quoteRead 23 = .ok (.aload_n 0, 1) := by decide +kernel
theorem dX10_quoteRead_24 : decode cX10_quoteRead 24 = .ok (.getfield 69, 3) := by decide +kernel
theorem dX10_quoteRead_27 : decode cX10_quoteRead 27 = .ok (.ifCond .ne 88, 3) := by decide +kernel
theorem dX10_quoteRead_30 : decode cX10_quoteRead 30 = .ok (.aload_n 0, 1) := by decide +kernel
theorem dX10_quoteRead_31 : decode cX10_quoteRead 31 = .ok (.aload_n 0, 1) := by decide +kernel
theorem dX10_quoteRead_32 : decode cX10_quoteRead 32 = .ok (.getfield 89, 3) := by decide +kernel
theorem dX10_quoteRead_35 : decode cX10_quoteRead 35 = .ok (.invokevirtual 92, 3) := by decide +kernel
theorem dX10_quoteRead_38 : decode cX10_quoteRead 38 = .ok (.bipush 34, 2) := by decide +kernel
theorem dX10_quoteRead_40 : decode cX10_quoteRead 40 = .ok (.if_icmp .eq 75, 3) := by decide +kernel
theorem dX10_quoteRead_43 : decode cX10_quoteRead 43 = .ok (.aload_n 0, 1) := by decide +kernel
theorem dX10_quoteRead_44 : decode cX10_quoteRead 44 = .ok (.aload_n 0, 1) := by decide +kernel
theorem dX10_quoteRead_45 : decode cX10_quoteRead 45 = .ok (.getfield 89, 3) := by decide +kernel
theorem dX10_quoteRead_48 : decode cX10_quoteRead 48 = .ok (.invokevirtual 92, 3) := by decide +kernel
theorem dX10_quoteRead_51 : decode cX10_quoteRead 51 = .ok (.invokestatic 98, 3) := by decide +kernel
theorem dX10_quoteRead_54 : decode cX10_quoteRead 54 = .ok (.ifCond .ne 48, 3) := by decide +kernel
theorem dX10_quoteRead_57 : decode cX10_quoteRead 57 = .ok (.aload_n 0, 1) := by decide +kernel
theorem dX10_quoteRead_58 : decode cX10_quoteRead 58 = .ok (.aload_n 0, 1) := by decide +kernel
theorem dX10_quoteRead_59 : decode cX10_quoteRead 59 = .ok (.getfield 89, 3) := by decide +kernel
theorem dX10_quoteRead_62 : decode cX10_quoteRead 62 = .ok (.aload_n 0, 1) := by decide +kernel
theorem dX10_quoteRead_63 : decode cX10_quoteRead 63 = .ok (.getfield 95, 3) := by decide +kernel
theorem dX10_quoteRead_66 : decode cX10_quoteRead 66 = .ok (.isub, 1) := by decide +kernel
theorem dX10_quoteRead_67 : decode cX10_quoteRead 67 = .ok (.iconst 1, 1) := by decide +kernel
theorem dX10_quoteRead_68 : decode cX10_quoteRead 68 = .ok (.isub, 1) := by decide +kernel
theorem dX10_quoteRead_69 : decode cX10_quoteRead 69 = .ok (.putfield 102, 3) := by decide +kernel
theorem dX10_quoteRead_72 : decode cX10_quoteRead 72 = .ok (.aload_n 0, 1) := by decide +kernel
theorem dX10_quoteRead_73 : decode cX10_quoteRead 73 = .ok (.aload_n 0, 1) := by decide +kernel
theorem dX10_quoteRead_74 : decode cX10_quoteRead 74 = .ok (.getfield 89, 3) := by decide +kernel
theorem dX10_quoteRead_77 : decode cX10_quoteRead 77 = .ok (.putfield 72, 3) := by decide +kernel
theorem dX10_quoteRead_80 : decode cX10_quoteRead 80 = .ok (.aload_n 0, 1) := by decide +kernel
theorem dX10_quoteRead_81 : decode cX10_quoteRead 81 = .ok (.aload_n 0, 1) := by decide +kernel
theorem dX10_quoteRead_82 : decode cX10_quoteRead 82 = .ok (.aload_n 0, 1) := by decide +kernel
theorem dX10_quoteRead_83 : decode cX10_quoteRead 83 = .ok (.getfield 89, 3) := by decide +kernel
theorem dX10_quoteRead_86 : decode cX10_quoteRead 86 = .ok (.invokevirtual 92, 3) := by decide +kernel
theorem dX10_quoteRead_89 : decode cX10_quoteRead 89 = .ok (.bipush (-4), 2) := by decide +kernel
theorem dX10_quoteRead_91 : decode cX10_quoteRead 91 = .ok (.if_icmp .ne 7, 3) := by decide +kernel
theorem dX10_quoteRead_94 : decode cX10_quoteRead 94 = .ok (.iconst 2, 1) := by decide +kernel
theorem dX10_quoteRead_95 : decode cX10_quoteRead 95 = .ok (.goto 4, 3) := by decide +kernel
theorem dX10_quoteRead_98 : decode cX10_quoteRead 98 = .ok (.iconst 1, 1) := by decide +kernel
theorem dX10_quoteRead_99 : decode cX10_quoteRead 99 = .ok (.invokevirtual 105, 3) := by decide +kernel
theorem dX10_quoteRead_102 : decode cX10_quoteRead 102 = .ok (.aload_n 0, 1) := by decide +kernel
theorem dX10_quoteRead_103 : decode cX10_quoteRead 103 = .ok (.dup, 1) := by decide +kernel
theorem dX10_quoteRead_104 : decode cX10_quoteRead 104 = .ok (.getfield 89, 3) := by decide +kernel
theorem dX10_quoteRead_107 : decode cX10_quoteRead 107 = .ok (.iconst 1, 1) := by decide +kernel
theorem dX10_quoteRead_108 : decode cX10_quoteRead 108 = .ok (.iadd, 1) := by decide +kernel
theorem dX10_quoteRead_109 : decode cX10_quoteRead 109 = .ok (.putfield 89, 3) := by decide +kernel
theorem dX10_quoteRead_112 : decode cX10_quoteRead 112 = .ok (.goto (-89), 3) := by decide +kernel
theorem dX10_quoteRead_115 : decode cX10_quoteRead 115 = .ok (.aload_n 0, 1) := by decide +kernel
theorem dX10_quoteRead_116 : decode cX10_quoteRead 116 = .ok (.dup, 1) := by decide +kernel
theorem dX10_quoteRead_117 : decode cX10_quoteRead 117 = .ok (.getfield 89, 3) := by decide +kernel
theorem dX10_quoteRead_120 : decode cX10_quoteRead 120 = .ok (.iconst 1, 1) := by decide +kernel
theorem dX10_quoteRead_121 : decode cX10_quoteRead 121 = .ok (.iadd, 1) := by decide +kernel
theorem dX10_quoteRead_122 : decode cX10_quoteRead 122 = .ok (.putfield 89, 3) := by decide +kernel
theorem dX10_quoteRead_125 : decode cX10_quoteRead 125 = .ok (.return_, 1) := by decide +kernel
theorem dX10_readsOn_0 : decode cX10_readsOn 0 = .ok (.aload_n 0, 1) := by decide +kernel
theorem dX10_readsOn_1 : decode cX10_readsOn 1 = .ok (.getfield 69, 3) := by decide +kernel
theorem dX10_readsOn_4 : decode cX10_readsOn 4 = .ok (.ifCond .le 4, 3) := by decide +kernel
theorem dX10_readsOn_7 : decode cX10_readsOn 7 = .ok (.return_, 1) := by decide +kernel
theorem dX10_readsOn_8 : decode cX10_readsOn 8 = .ok (.aload_n 0, 1) := by decide +kernel
theorem dX10_readsOn_9 : decode cX10_readsOn 9 = .ok (.aload_n 0, 1) := by decide +kernel
theorem dX10_readsOn_10 : decode cX10_readsOn 10 = .ok (.getfield 89, 3) := by decide +kernel
theorem dX10_readsOn_13 : decode cX10_readsOn 13 = .ok (.invokevirtual 92, 3) := by decide +kernel
theorem dX10_readsOn_16 : decode cX10_readsOn 16 = .ok (.bipush 32, 2) := by decide +kernel
theorem dX10_readsOn_18 : decode cX10_readsOn 18 = .ok (.if_icmp .ne 16, 3) := by decide +kernel
theorem dX10_readsOn_21 : decode cX10_readsOn 21 = .ok (.aload_n 0, 1) := by decide +kernel
theorem dX10_readsOn_22 : decode cX10_readsOn 22 = .ok (.dup, 1) := by decide +kernel
theorem dX10_readsOn_23 : decode cX10_readsOn 23 = .ok (.getfield 89, 3) := by decide +kernel
theorem dX10_readsOn_26 : decode cX10_readsOn 26 = .ok (.iconst 1, 1) := by decide +kernel
theorem dX10_readsOn_27 : decode cX10_readsOn 27 = .ok (.iadd, 1) := by decide +kernel
theorem dX10_readsOn_28 : decode cX10_readsOn 28 = .ok (.putfield 89, 3) := by decide +kernel
theorem dX10_readsOn_31 : decode cX10_readsOn 31 = .ok (.goto (-23), 3) := by decide +kernel
theorem dX10_readsOn_34 : decode cX10_readsOn 34 = .ok (.aload_n 0, 1) := by decide +kernel
theorem dX10_readsOn_35 : decode cX10_readsOn 35 = .ok (.aload_n 0, 1) := by decide +kernel
theorem dX10_readsOn_36 : decode cX10_readsOn 36 = .ok (.getfield 89, 3) := by decide +kernel
theorem dX10_readsOn_39 : decode cX10_readsOn 39 = .ok (.putfield 72, 3) := by decide +kernel
theorem dX10_readsOn_42 : decode cX10_readsOn 42 = .ok (.aload_n 0, 1) := by decide +kernel
theorem dX10_readsOn_43 : decode cX10_readsOn 43 = .ok (.aload_n 0, 1) := by decide +kernel
theorem dX10_readsOn_44 : decode cX10_readsOn 44 = .ok (.getfield 89, 3) := by decide +kernel
theorem dX10_readsOn_47 : decode cX10_readsOn 47 = .ok (.invokevirtual 92, 3) := by decide +kernel
theorem dX10_readsOn_50 : decode cX10_readsOn 50 = .ok (.istore_n 1, 1) := by decide +kernel
theorem dX10_readsOn_51 : decode cX10_readsOn 51 = .ok (.aload_n 0, 1) := by decide +kernel
theorem dX10_readsOn_52 : decode cX10_readsOn 52 = .ok (.iconst 0, 1) := by decide +kernel
theorem dX10_readsOn_53 : decode cX10_readsOn 53 = .ok (.putfield 109, 3) := by decide +kernel
theorem dX10_readsOn_56 : decode cX10_readsOn 56 = .ok (.aload_n 0, 1) := by decide +kernel
theorem dX10_readsOn_57 : decode cX10_readsOn 57 = .ok (.bipush (-4), 2) := by decide +kernel
theorem dX10_readsOn_59 : decode cX10_readsOn 59 = .ok (.putfield 102, 3) := by decide +kernel
theorem dX10_readsOn_62 : decode cX10_readsOn 62 = .ok (.iload_n 1, 1) := by decide +kernel
theorem dX10_readsOn_63 : decode cX10_readsOn 63 = .ok (.bipush (-4), 2) := by decide +kernel
theorem dX10_readsOn_65 : decode cX10_readsOn 65 = .ok (.if_icmp .ne 11, 3) := by decide +kernel
theorem dX10_readsOn_68 : decode cX10_readsOn 68 = .ok (.aload_n 0, 1) := by decide +kernel
theorem dX10_readsOn_69 : decode cX10_readsOn 69 = .ok (.iconst 0, 1) := by decide +kernel
theorem dX10_readsOn_70 : decode cX10_readsOn 70 = .ok (.putfield 86, 3) := by decide +kernel
theorem dX10_readsOn_73 : decode cX10_readsOn 73 = .ok (.goto 215, 3) := by decide +kernel
theorem dX10_readsOn_76 : decode cX10_readsOn 76 = .ok (.iload_n 1, 1) := by decide +kernel
theorem dX10_readsOn_77 : decode cX10_readsOn 77 = .ok (.i2l, 1) := by decide +kernel
theorem dX10_readsOn_78 : decode cX10_readsOn 78 = .ok (.ldc2_w 82, 3) := by decide +kernel
theorem dX10_readsOn_81 : decode cX10_readsOn 81 = .ok (.ldc2_w 84, 3) := by decide +kernel
theorem dX10_readsOn_84 : decode cX10_readsOn 84 = .ok (.invokestatic 61, 3) := by decide +kernel
theorem dX10_readsOn_87 : decode cX10_readsOn 87 = .ok (.ifCond .eq 45, 3) := by decide +kernel
theorem dX10_readsOn_90 : decode cX10_readsOn 90 = .ok (.aload_n 0, 1) := by decide +kernel
theorem dX10_readsOn_91 : decode cX10_readsOn 91 = .ok (.aload_n 0, 1) := by decide +kernel
theorem dX10_readsOn_92 : decode cX10_readsOn 92 = .ok (.getfield 89, 3) := by decide +kernel
theorem dX10_readsOn_95 : decode cX10_readsOn 95 = .ok (.invokevirtual 92, 3) := by decide +kernel
theorem dX10_readsOn_98 : decode cX10_readsOn 98 = .ok (.i2l, 1) := by decide +kernel
theorem dX10_readsOn_99 : decode cX10_readsOn 99 = .ok (.ldc2_w 82, 3) := by decide +kernel
theorem dX10_readsOn_102 : decode cX10_readsOn 102 = .ok (.ldc2_w 84, 3) := by decide +kernel
theorem dX10_readsOn_105 : decode cX10_readsOn 105 = .ok (.invokestatic 61, 3) := by decide +kernel
theorem dX10_readsOn_108 : decode cX10_readsOn 108 = .ok (.ifCond .eq 16, 3) := by decide +kernel
theorem dX10_readsOn_111 : decode cX10_readsOn 111 = .ok (.aload_n 0, 1) := by decide +kernel
theorem dX10_readsOn_112 : decode cX10_readsOn 112 = .ok (.dup, 1) := by decide +kernel
theorem dX10_readsOn_113 : decode cX10_readsOn 113 = .ok (.getfield 89, 3) := by decide +kernel
theorem dX10_readsOn_116 : decode cX10_readsOn 116 = .ok (.iconst 1, 1) := by decide +kernel
theorem dX10_readsOn_117 : decode cX10_readsOn 117 = .ok (.iadd, 1) := by decide +kernel
theorem dX10_readsOn_118 : decode cX10_readsOn 118 = .ok (.putfield 89, 3) := by decide +kernel
theorem dX10_readsOn_121 : decode cX10_readsOn 121 = .ok (.goto (-31), 3) := by decide +kernel
theorem dX10_readsOn_124 : decode cX10_readsOn 124 = .ok (.aload_n 0, 1) := by decide +kernel
theorem dX10_readsOn_125 : decode cX10_readsOn 125 = .ok (.iconst 1, 1) := by decide +kernel
theorem dX10_readsOn_126 : decode cX10_readsOn 126 = .ok (.putfield 86, 3) := by decide +kernel
theorem dX10_readsOn_129 : decode cX10_readsOn 129 = .ok (.goto 159, 3) := by decide +kernel
theorem dX10_readsOn_132 : decode cX10_readsOn 132 = .ok (.iload_n 1, 1) := by decide +kernel
theorem dX10_readsOn_133 : decode cX10_readsOn 133 = .ok (.i2l, 1) := by decide +kernel
theorem dX10_readsOn_134 : decode cX10_readsOn 134 = .ok (.ldc2_w 112, 3) := by decide +kernel
theorem dX10_readsOn_137 : decode cX10_readsOn 137 = .ok (.ldc2_w 114, 3) := by decide +kernel
theorem dX10_readsOn_140 : decode cX10_readsOn 140 = .ok (.invokestatic 61, 3) := by decide +kernel
theorem dX10_readsOn_143 : decode cX10_readsOn 143 = .ok (.ifCond .eq 106, 3) := by decide +kernel
theorem dX10_readsOn_146 : decode cX10_readsOn 146 = .ok (.aload_n 0, 1) := by decide +kernel
theorem dX10_readsOn_147 : decode cX10_readsOn 147 = .ok (.aload_n 0, 1) := by decide +kernel
theorem dX10_readsOn_148 : decode cX10_readsOn 148 = .ok (.getfield 89, 3) := by decide +kernel
theorem dX10_readsOn_151 : decode cX10_readsOn 151 = .ok (.invokevirtual 92, 3) := by decide +kernel
theorem dX10_readsOn_154 : decode cX10_readsOn 154 = .ok (.i2l, 1) := by decide +kernel
theorem dX10_readsOn_155 : decode cX10_readsOn 155 = .ok (.ldc2_w 112, 3) := by decide +kernel
theorem dX10_readsOn_158 : decode cX10_readsOn 158 = .ok (.ldc2_w 114, 3) := by decide +kernel
theorem dX10_readsOn_161 : decode cX10_readsOn 161 = .ok (.invokestatic 61, 3) := by decide +kernel
theorem dX10_readsOn_164 : decode cX10_readsOn 164 = .ok (.ifCond .eq 59, 3) := by decide +kernel
theorem dX10_readsOn_167 : decode cX10_readsOn 167 = .ok (.aload_n 0, 1) := by decide +kernel
theorem dX10_readsOn_168 : decode cX10_readsOn 168 = .ok (.aload_n 0, 1) := by decide +kernel
theorem dX10_readsOn_169 : decode cX10_readsOn 169 = .ok (.getfield 89, 3) := by decide +kernel
theorem dX10_readsOn_172 : decode cX10_readsOn 172 = .ok (.aload_n 0, 1) := by decide +kernel
theorem dX10_readsOn_173 : decode cX10_readsOn 173 = .ok (.getfield 72, 3) := by decide +kernel
theorem dX10_readsOn_176 : decode cX10_readsOn 176 = .ok (.isub, 1) := by decide +kernel
theorem dX10_readsOn_177 : decode cX10_readsOn 177 = .ok (.iconst 2, 1) := by decide +kernel
theorem dX10_readsOn_178 : decode cX10_readsOn 178 = .ok (.if_icmp .ge 25, 3) := by decide +kernel
theorem dX10_readsOn_181 : decode cX10_readsOn 181 = .ok (.bipush 10, 2) := by decide +kernel
theorem dX10_readsOn_183 : decode cX10_readsOn 183 = .ok (.aload_n 0, 1) := by decide +kernel
theorem dX10_readsOn_184 : decode cX10_readsOn 184 = .ok (.getfield 109, 3) := by decide +kernel
theorem dX10_readsOn_187 : decode cX10_readsOn 187 = .ok (.imul, 1) := by decide +kernel
theorem dX10_readsOn_188 : decode cX10_readsOn 188 = .ok (.aload_n 0, 1) := by decide +kernel
theorem dX10_readsOn_189 : decode cX10_readsOn 189 = .ok (.aload_n 0, 1) := by decide +kernel
theorem dX10_readsOn_190 : decode cX10_readsOn 190 = .ok (.getfield 89, 3) := by decide +kernel
theorem dX10_readsOn_193 : decode cX10_readsOn 193 = .ok (.invokevirtual 92, 3) := by decide +kernel
theorem dX10_readsOn_196 : decode cX10_readsOn 196 = .ok (.iadd, 1) := by decide +kernel
theorem dX10_readsOn_197 : decode cX10_readsOn 197 = .ok (.bipush 48, 2) := by decide +kernel
theorem dX10_readsOn_199 : decode cX10_readsOn 199 = .ok (.isub, 1) := by decide +kernel
theorem dX10_readsOn_200 : decode cX10_readsOn 200 = .ok (.goto 7, 3) := by decide +kernel
theorem dX10_readsOn_203 : decode cX10_readsOn 203 = .ok (.aload_n 0, 1) := by decide +kernel
theorem dX10_readsOn_204 : decode cX10_readsOn 204 = .ok (.getfield 109, 3) := by decide +kernel
theorem dX10_readsOn_207 : decode cX10_readsOn 207 = .ok (.putfield 109, 3) := by decide +kernel
theorem dX10_readsOn_210 : decode cX10_readsOn 210 = .ok (.aload_n 0, 1) := by decide +kernel
theorem dX10_readsOn_211 : decode cX10_readsOn 211 = .ok (.dup, 1) := by decide +kernel
theorem dX10_readsOn_212 : decode cX10_readsOn 212 = .ok (.getfield 89, 3) := by decide +kernel
theorem dX10_readsOn_215 : decode cX10_readsOn 215 = .ok (.iconst 1, 1) := by decide +kernel
theorem dX10_readsOn_216 : decode cX10_readsOn 216 = .ok (.iadd, 1) := by decide +kernel
theorem dX10_readsOn_217 : decode cX10_readsOn 217 = .ok (.putfield 89, 3) := by decide +kernel
theorem dX10_readsOn_220 : decode cX10_readsOn 220 = .ok (.goto (-74), 3) := by decide +kernel
theorem dX10_readsOn_223 : decode cX10_readsOn 223 = .ok (.aload_n 0, 1) := by decide +kernel
theorem dX10_readsOn_224 : decode cX10_readsOn 224 = .ok (.iconst 2, 1) := by decide +kernel
theorem dX10_readsOn_225 : decode cX10_readsOn 225 = .ok (.putfield 86, 3) := by decide +kernel
theorem dX10_readsOn_228 : decode cX10_readsOn 228 = .ok (.aload_n 0, 1) := by decide +kernel
theorem dX10_readsOn_229 : decode cX10_readsOn 229 = .ok (.getfield 89, 3) := by decide +kernel
theorem dX10_readsOn_232 : decode cX10_readsOn 232 = .ok (.aload_n 0, 1) := by decide +kernel
theorem dX10_readsOn_233 : decode cX10_readsOn 233 = .ok (.getfield 72, 3) := by decide +kernel
theorem dX10_readsOn_236 : decode cX10_readsOn 236 = .ok (.isub, 1) := by decide +kernel
theorem dX10_readsOn_237 : decode cX10_readsOn 237 = .ok (.iconst 2, 1) := by decide +kernel
theorem dX10_readsOn_238 : decode cX10_readsOn 238 = .ok (.if_icmp .le 50, 3) := by decide +kernel
theorem dX10_readsOn_241 : decode cX10_readsOn 241 = .ok (.aload_n 0, 1) := by decide +kernel
theorem dX10_readsOn_242 : decode cX10_readsOn 242 = .ok (.iconst 1, 1) := by decide +kernel
theorem dX10_readsOn_243 : decode cX10_readsOn 243 = .ok (.invokevirtual 105, 3) := by decide +kernel
theorem dX10_readsOn_246 : decode cX10_readsOn 246 = .ok (.goto 42, 3) := by decide +kernel
theorem dX10_readsOn_249 : decode cX10_readsOn 249 = .ok (.iload_n 1, 1) := by decide +kernel
theorem dX10_readsOn_250 : decode cX10_readsOn 250 = .ok (.bipush 34, 2) := by decide +kernel
theorem dX10_readsOn_252 : decode cX10_readsOn 252 = .ok (.if_icmp .ne 10, 3) := by decide +kernel
theorem dX10_readsOn_255 : decode cX10_readsOn 255 = .ok (.aload_n 0, 1) := by decide +kernel
theorem dX10_readsOn_256 : decode cX10_readsOn 256 = .ok (.invokevirtual 116, 3) := by decide +kernel
theorem dX10_readsOn_259 : decode cX10_readsOn 259 = .ok (.goto 29, 3) := by decide +kernel
theorem dX10_readsOn_262 : decode cX10_readsOn 262 = .ok (.aload_n 0, 1) := by decide +kernel
theorem dX10_readsOn_263 : decode cX10_readsOn 263 = .ok (.iconst 3, 1) := by decide +kernel
theorem dX10_readsOn_264 : decode cX10_readsOn 264 = .ok (.putfield 86, 3) := by decide +kernel
theorem dX10_readsOn_267 : decode cX10_readsOn 267 = .ok (.aload_n 0, 1) := by decide +kernel
theorem dX10_readsOn_268 : decode cX10_readsOn 268 = .ok (.dup, 1) := by decide +kernel
theorem dX10_readsOn_269 : decode cX10_readsOn 269 = .ok (.getfield 89, 3) := by decide +kernel
theorem dX10_readsOn_272 : decode cX10_readsOn 272 = .ok (.iconst 1, 1) := by decide +kernel
theorem dX10_readsOn_273 : decode cX10_readsOn 273 = .ok (.iadd, 1) := by decide +kernel
theorem dX10_readsOn_274 : decode cX10_readsOn 274 = .ok (.putfield 89, 3) := by decide +kernel
theorem dX10_readsOn_277 : decode cX10_readsOn 277 = .ok (.iload_n 1, 1) := by decide +kernel
theorem dX10_readsOn_278 : decode cX10_readsOn 278 = .ok (.bipush 59, 2) := by decide +kernel
theorem dX10_readsOn_280 : decode cX10_readsOn 280 = .ok (.if_icmp .eq 8, 3) := by decide +kernel
theorem dX10_readsOn_283 : decode cX10_readsOn 283 = .ok (.aload_n 0, 1) := by decide +kernel
theorem dX10_readsOn_284 : decode cX10_readsOn 284 = .ok (.iconst 1, 1) := by decide +kernel
theorem dX10_readsOn_285 : decode cX10_readsOn 285 = .ok (.invokevirtual 105, 3) := by decide +kernel
theorem dX10_readsOn_288 : decode cX10_readsOn 288 = .ok (.return_, 1) := by decide +kernel
theorem dX10_takes_0 : decode cX10_takes 0 = .ok (.aload_n 0, 1) := by decide +kernel
theorem dX10_takes_1 : decode cX10_takes 1 = .ok (.getfield 69, 3) := by decide +kernel
theorem dX10_takes_4 : decode cX10_takes 4 = .ok (.ifCond .ne 13, 3) := by decide +kernel
theorem dX10_takes_7 : decode cX10_takes 7 = .ok (.aload_n 0, 1) := by decide +kernel
theorem dX10_takes_8 : decode cX10_takes 8 = .ok (.dup, 1) := by decide +kernel
theorem dX10_takes_9 : decode cX10_takes 9 = .ok (.getfield 119, 3) := by decide +kernel
theorem dX10_takes_12 : decode cX10_takes 12 = .ok (.iconst 1, 1) := by decide +kernel
theorem dX10_takes_13 : decode cX10_takes 13 = .ok (.iadd, 1) := by decide +kernel
theorem dX10_takes_14 : decode cX10_takes 14 = .ok (.putfield 119, 3) := by decide +kernel
theorem dX10_takes_17 : decode cX10_takes 17 = .ok (.aload_n 0, 1) := by decide +kernel
theorem dX10_takes_18 : decode cX10_takes 18 = .ok (.invokevirtual 122, 3) := by decide +kernel
theorem dX10_takes_21 : decode cX10_takes 21 = .ok (.return_, 1) := by decide +kernel
theorem dX10_numberRead_0 : decode cX10_numberRead 0 = .ok (.aload_n 0, 1) := by decide +kernel
theorem dX10_numberRead_1 : decode cX10_numberRead 1 = .ok (.getfield 69, 3) := by decide +kernel
theorem dX10_numberRead_4 : decode cX10_numberRead 4 = .ok (.ifCond .ne 16, 3) := by decide +kernel
theorem dX10_numberRead_7 : decode cX10_numberRead 7 = .ok (.aload_n 0, 1) := by decide +kernel
theorem dX10_numberRead_8 : decode cX10_numberRead 8 = .ok (.getfield 86, 3) := by decide +kernel
theorem dX10_numberRead_11 : decode cX10_numberRead 11 = .ok (.iconst 2, 1) := by decide +kernel
theorem dX10_numberRead_12 : decode cX10_numberRead 12 = .ok (.if_icmp .eq 8, 3) := by decide +kernel
theorem dX10_numberRead_15 : decode cX10_numberRead 15 = .ok (.aload_n 0, 1) := by decide +kernel
theorem dX10_numberRead_16 : decode cX10_numberRead 16 = .ok (.iconst 2, 1) := by decide +kernel
theorem dX10_numberRead_17 : decode cX10_numberRead 17 = .ok (.invokevirtual 105, 3) := by decide +kernel
theorem dX10_numberRead_20 : decode cX10_numberRead 20 = .ok (.aload_n 0, 1) := by decide +kernel
theorem dX10_numberRead_21 : decode cX10_numberRead 21 = .ok (.getfield 69, 3) := by decide +kernel
theorem dX10_numberRead_24 : decode cX10_numberRead 24 = .ok (.ifCond .ne 23, 3) := by decide +kernel
theorem dX10_numberRead_27 : decode cX10_numberRead 27 = .ok (.aload_n 0, 1) := by decide +kernel
theorem dX10_numberRead_28 : decode cX10_numberRead 28 = .ok (.getfield 109, 3) := by decide +kernel
theorem dX10_numberRead_31 : decode cX10_numberRead 31 = .ok (.i2l, 1) := by decide +kernel
theorem dX10_numberRead_32 : decode cX10_numberRead 32 = .ok (.iload_n 1, 1) := by decide +kernel
theorem dX10_numberRead_33 : decode cX10_numberRead 33 = .ok (.i2l, 1) := by decide +kernel
theorem dX10_numberRead_34 : decode cX10_numberRead 34 = .ok (.iload_n 2, 1) := by decide +kernel
theorem dX10_numberRead_35 : decode cX10_numberRead 35 = .ok (.i2l, 1) := by decide +kernel
theorem dX10_numberRead_36 : decode cX10_numberRead 36 = .ok (.invokestatic 61, 3) := by decide +kernel
theorem dX10_numberRead_39 : decode cX10_numberRead 39 = .ok (.ifCond .ne 8, 3) := by decide +kernel
theorem dX10_numberRead_42 : decode cX10_numberRead 42 = .ok (.aload_n 0, 1) := by decide +kernel
theorem dX10_numberRead_43 : decode cX10_numberRead 43 = .ok (.iconst 3, 1) := by decide +kernel
theorem dX10_numberRead_44 : decode cX10_numberRead 44 = .ok (.invokevirtual 105, 3) := by decide +kernel
theorem dX10_numberRead_47 : decode cX10_numberRead 47 = .ok (.aload_n 0, 1) := by decide +kernel
theorem dX10_numberRead_48 : decode cX10_numberRead 48 = .ok (.getfield 109, 3) := by decide +kernel
theorem dX10_numberRead_51 : decode cX10_numberRead 51 = .ok (.istore_n 3, 1) := by decide +kernel
theorem dX10_numberRead_52 : decode cX10_numberRead 52 = .ok (.aload_n 0, 1) := by decide +kernel
theorem dX10_numberRead_53 : decode cX10_numberRead 53 = .ok (.invokevirtual 125, 3) := by decide +kernel
theorem dX10_numberRead_56 : decode cX10_numberRead 56 = .ok (.aload_n 0, 1) := by decide +kernel
theorem dX10_numberRead_57 : decode cX10_numberRead 57 = .ok (.getfield 69, 3) := by decide +kernel
theorem dX10_numberRead_60 : decode cX10_numberRead 60 = .ok (.ifCond .ne 7, 3) := by decide +kernel
theorem dX10_numberRead_63 : decode cX10_numberRead 63 = .ok (.iload_n 3, 1) := by decide +kernel
theorem dX10_numberRead_64 : decode cX10_numberRead 64 = .ok (.goto 4, 3) := by decide +kernel
theorem dX10_numberRead_67 : decode cX10_numberRead 67 = .ok (.iload_n 1, 1) := by decide +kernel
theorem dX10_numberRead_68 : decode cX10_numberRead 68 = .ok (.ireturn, 1) := by decide +kernel
theorem dX10_signsRead_0 : decode cX10_signsRead 0 = .ok (.aload_n 0, 1) := by decide +kernel
theorem dX10_signsRead_1 : decode cX10_signsRead 1 = .ok (.getfield 69, 3) := by decide +kernel
theorem dX10_signsRead_4 : decode cX10_signsRead 4 = .ok (.ifCond .ne 16, 3) := by decide +kernel
theorem dX10_signsRead_7 : decode cX10_signsRead 7 = .ok (.aload_n 0, 1) := by decide +kernel
theorem dX10_signsRead_8 : decode cX10_signsRead 8 = .ok (.getfield 86, 3) := by decide +kernel
theorem dX10_signsRead_11 : decode cX10_signsRead 11 = .ok (.iconst 4, 1) := by decide +kernel
theorem dX10_signsRead_12 : decode cX10_signsRead 12 = .ok (.if_icmp .eq 8, 3) := by decide +kernel
theorem dX10_signsRead_15 : decode cX10_signsRead 15 = .ok (.aload_n 0, 1) := by decide +kernel
theorem dX10_signsRead_16 : decode cX10_signsRead 16 = .ok (.iconst 2, 1) := by decide +kernel
theorem dX10_signsRead_17 : decode cX10_signsRead 17 = .ok (.invokevirtual 105, 3) := by decide +kernel
theorem dX10_signsRead_20 : decode cX10_signsRead 20 = .ok (.aload_n 0, 1) := by decide +kernel
theorem dX10_signsRead_21 : decode cX10_signsRead 21 = .ok (.getfield 89, 3) := by decide +kernel
theorem dX10_signsRead_24 : decode cX10_signsRead 24 = .ok (.aload_n 0, 1) := by decide +kernel
theorem dX10_signsRead_25 : decode cX10_signsRead 25 = .ok (.getfield 72, 3) := by decide +kernel
theorem dX10_signsRead_28 : decode cX10_signsRead 28 = .ok (.isub, 1) := by decide +kernel
theorem dX10_signsRead_29 : decode cX10_signsRead 29 = .ok (.iconst 2, 1) := by decide +kernel
theorem dX10_signsRead_30 : decode cX10_signsRead 30 = .ok (.isub, 1) := by decide +kernel
theorem dX10_signsRead_31 : decode cX10_signsRead 31 = .ok (.istore_n 2, 1) := by decide +kernel
theorem dX10_signsRead_32 : decode cX10_signsRead 32 = .ok (.aload_n 0, 1) := by decide +kernel
theorem dX10_signsRead_33 : decode cX10_signsRead 33 = .ok (.getfield 7, 3) := by decide +kernel
theorem dX10_signsRead_36 : decode cX10_signsRead 36 = .ok (.sipush 243, 3) := by decide +kernel
theorem dX10_signsRead_39 : decode cX10_signsRead 39 = .ok (.iaload, 1) := by decide +kernel
theorem dX10_signsRead_40 : decode cX10_signsRead 40 = .ok (.istore_n 3, 1) := by decide +kernel
theorem dX10_signsRead_41 : decode cX10_signsRead 41 = .ok (.aload_n 0, 1) := by decide +kernel
theorem dX10_signsRead_42 : decode cX10_signsRead 42 = .ok (.getfield 69, 3) := by decide +kernel
theorem dX10_signsRead_45 : decode cX10_signsRead 45 = .ok (.ifCond .ne 18, 3) := by decide +kernel
theorem dX10_signsRead_48 : decode cX10_signsRead 48 = .ok (.iload_n 3, 1) := by decide +kernel
theorem dX10_signsRead_49 : decode cX10_signsRead 49 = .ok (.iload_n 1, 1) := by decide +kernel
theorem dX10_signsRead_50 : decode cX10_signsRead 50 = .ok (.iload_n 2, 1) := by decide +kernel
theorem dX10_signsRead_51 : decode cX10_signsRead 51 = .ok (.imul, 1) := by decide +kernel
theorem dX10_signsRead_52 : decode cX10_signsRead 52 = .ok (.iadd, 1) := by decide +kernel
theorem dX10_signsRead_53 : decode cX10_signsRead 53 = .ok (.bipush 60, 2) := by decide +kernel
theorem dX10_signsRead_55 : decode cX10_signsRead 55 = .ok (.if_icmp .le 8, 3) := by decide +kernel
theorem dX10_signsRead_58 : decode cX10_signsRead 58 = .ok (.aload_n 0, 1) := by decide +kernel
theorem dX10_signsRead_59 : decode cX10_signsRead 59 = .ok (.iconst 5, 1) := by decide +kernel
theorem dX10_signsRead_60 : decode cX10_signsRead 60 = .ok (.invokevirtual 105, 3) := by decide +kernel
theorem dX10_signsRead_63 : decode cX10_signsRead 63 = .ok (.iconst 0, 1) := by decide +kernel
theorem dX10_signsRead_64 : decode cX10_signsRead 64 = .ok (.istore 4, 2) := by decide +kernel
theorem dX10_signsRead_66 : decode cX10_signsRead 66 = .ok (.iload 4, 2) := by decide +kernel
theorem dX10_signsRead_68 : decode cX10_signsRead 68 = .ok (.iload_n 1, 1) := by decide +kernel
theorem dX10_signsRead_69 : decode cX10_signsRead 69 = .ok (.iload_n 2, 1) := by decide +kernel
theorem dX10_signsRead_70 : decode cX10_signsRead 70 = .ok (.imul, 1) := by decide +kernel
theorem dX10_signsRead_71 : decode cX10_signsRead 71 = .ok (.if_icmp .ge 44, 3) := by decide +kernel
theorem dX10_signsRead_74 : decode cX10_signsRead 74 = .ok (.aload_n 0, 1) := by decide +kernel
theorem dX10_signsRead_75 : decode cX10_signsRead 75 = .ok (.getfield 69, 3) := by decide +kernel
theorem dX10_signsRead_78 : decode cX10_signsRead 78 = .ok (.ifCond .ne 37, 3) := by decide +kernel
theorem dX10_signsRead_81 : decode cX10_signsRead 81 = .ok (.aload_n 0, 1) := by decide +kernel
theorem dX10_signsRead_82 : decode cX10_signsRead 82 = .ok (.getfield 7, 3) := by decide +kernel
theorem dX10_signsRead_85 : decode cX10_signsRead 85 = .ok (.sipush 183, 3) := by decide +kernel
theorem dX10_signsRead_88 : decode cX10_signsRead 88 = .ok (.iload_n 3, 1) := by decide +kernel
theorem dX10_signsRead_89 : decode cX10_signsRead 89 = .ok (.iadd, 1) := by decide +kernel
theorem dX10_signsRead_90 : decode cX10_signsRead 90 = .ok (.iload 4, 2) := by decide +kernel
theorem dX10_signsRead_92 : decode cX10_signsRead 92 = .ok (.iadd, 1) := by decide +kernel
theorem dX10_signsRead_93 : decode cX10_signsRead 93 = .ok (.aload_n 0, 1) := by decide +kernel
theorem dX10_signsRead_94 : decode cX10_signsRead 94 = .ok (.aload_n 0, 1) := by decide +kernel
theorem dX10_signsRead_95 : decode cX10_signsRead 95 = .ok (.getfield 72, 3) := by decide +kernel
theorem dX10_signsRead_98 : decode cX10_signsRead 98 = .ok (.iconst 1, 1) := by decide +kernel
theorem dX10_signsRead_99 : decode cX10_signsRead 99 = .ok (.iadd, 1) := by decide +kernel
theorem dX10_signsRead_100 : decode cX10_signsRead 100 = .ok (.iload 4, 2) := by decide +kernel
theorem dX10_signsRead_102 : decode cX10_signsRead 102 = .ok (.iload_n 2, 1) := by decide +kernel
theorem dX10_signsRead_103 : decode cX10_signsRead 103 = .ok (.irem, 1) := by decide +kernel
theorem dX10_signsRead_104 : decode cX10_signsRead 104 = .ok (.iadd, 1) := by decide +kernel
theorem dX10_signsRead_105 : decode cX10_signsRead 105 = .ok (.invokevirtual 92, 3) := by decide +kernel
theorem dX10_signsRead_108 : decode cX10_signsRead 108 = .ok (.iastore, 1) := by decide +kernel
theorem dX10_signsRead_109 : decode cX10_signsRead 109 = .ok (.iinc 4 1, 3) := by decide +kernel
theorem dX10_signsRead_112 : decode cX10_signsRead 112 = .ok (.goto (-46), 3) := by decide +kernel
theorem dX10_signsRead_115 : decode cX10_signsRead 115 = .ok (.aload_n 0, 1) := by decide +kernel
theorem dX10_signsRead_116 : decode cX10_signsRead 116 = .ok (.getfield 69, 3) := by decide +kernel
theorem dX10_signsRead_119 : decode cX10_signsRead 119 = .ok (.ifCond .ne 16, 3) := by decide +kernel
theorem dX10_signsRead_122 : decode cX10_signsRead 122 = .ok (.aload_n 0, 1) := by decide +kernel
theorem dX10_signsRead_123 : decode cX10_signsRead 123 = .ok (.getfield 7, 3) := by decide +kernel
theorem dX10_signsRead_126 : decode cX10_signsRead 126 = .ok (.sipush 243, 3) := by decide +kernel
theorem dX10_signsRead_129 : decode cX10_signsRead 129 = .ok (.iload_n 3, 1) := by decide +kernel
theorem dX10_signsRead_130 : decode cX10_signsRead 130 = .ok (.iload_n 1, 1) := by decide +kernel
theorem dX10_signsRead_131 : decode cX10_signsRead 131 = .ok (.iload_n 2, 1) := by decide +kernel
theorem dX10_signsRead_132 : decode cX10_signsRead 132 = .ok (.imul, 1) := by decide +kernel
theorem dX10_signsRead_133 : decode cX10_signsRead 133 = .ok (.iadd, 1) := by decide +kernel
theorem dX10_signsRead_134 : decode cX10_signsRead 134 = .ok (.iastore, 1) := by decide +kernel
theorem dX10_signsRead_135 : decode cX10_signsRead 135 = .ok (.aload_n 0, 1) := by decide +kernel
theorem dX10_signsRead_136 : decode cX10_signsRead 136 = .ok (.invokevirtual 125, 3) := by decide +kernel
theorem dX10_signsRead_139 : decode cX10_signsRead 139 = .ok (.return_, 1) := by decide +kernel
theorem dX10_readLine_0 : decode cX10_readLine 0 = .ok (.aload_n 0, 1) := by decide +kernel
theorem dX10_readLine_1 : decode cX10_readLine 1 = .ok (.invokevirtual 128, 3) := by decide +kernel
theorem dX10_readLine_4 : decode cX10_readLine 4 = .ok (.istore_n 1, 1) := by decide +kernel
theorem dX10_readLine_5 : decode cX10_readLine 5 = .ok (.iload_n 1, 1) := by decide +kernel
theorem dX10_readLine_6 : decode cX10_readLine 6 = .ok (.bipush (-4), 2) := by decide +kernel
theorem dX10_readLine_8 : decode cX10_readLine 8 = .ok (.if_icmp .ne 9, 3) := by decide +kernel
theorem dX10_readLine_11 : decode cX10_readLine 11 = .ok (.aload_n 0, 1) := by decide +kernel
theorem dX10_readLine_12 : decode cX10_readLine 12 = .ok (.iconst 2, 1) := by decide +kernel
theorem dX10_readLine_13 : decode cX10_readLine 13 = .ok (.invokevirtual 105, 3) := by decide +kernel
theorem dX10_readLine_16 : decode cX10_readLine 16 = .ok (.return_, 1) := by decide +kernel
theorem dX10_readLine_17 : decode cX10_readLine 17 = .ok (.aload_n 0, 1) := by decide +kernel
theorem dX10_readLine_18 : decode cX10_readLine 18 = .ok (.invokevirtual 125, 3) := by decide +kernel
theorem dX10_readLine_21 : decode cX10_readLine 21 = .ok (.iload_n 1, 1) := by decide +kernel
theorem dX10_readLine_22 : decode cX10_readLine 22 = .ok (.ifCond .ne 11, 3) := by decide +kernel
theorem dX10_readLine_25 : decode cX10_readLine 25 = .ok (.aload_n 0, 1) := by decide +kernel
theorem dX10_readLine_26 : decode cX10_readLine 26 = .ok (.iconst 1, 1) := by decide +kernel
theorem dX10_readLine_27 : decode cX10_readLine 27 = .ok (.invokevirtual 132, 3) := by decide +kernel
theorem dX10_readLine_30 : decode cX10_readLine 30 = .ok (.goto 48, 3) := by decide +kernel
theorem dX10_readLine_33 : decode cX10_readLine 33 = .ok (.iload_n 1, 1) := by decide +kernel
theorem dX10_readLine_34 : decode cX10_readLine 34 = .ok (.iconst 1, 1) := by decide +kernel
theorem dX10_readLine_35 : decode cX10_readLine 35 = .ok (.if_icmp .ne 17, 3) := by decide +kernel
theorem dX10_readLine_38 : decode cX10_readLine 38 = .ok (.aload_n 0, 1) := by decide +kernel
theorem dX10_readLine_39 : decode cX10_readLine 39 = .ok (.aload_n 0, 1) := by decide +kernel
theorem dX10_readLine_40 : decode cX10_readLine 40 = .ok (.iconst 1, 1) := by decide +kernel
theorem dX10_readLine_41 : decode cX10_readLine 41 = .ok (.bipush 9, 2) := by decide +kernel
theorem dX10_readLine_43 : decode cX10_readLine 43 = .ok (.invokevirtual 135, 3) := by decide +kernel
theorem dX10_readLine_46 : decode cX10_readLine 46 = .ok (.invokevirtual 132, 3) := by decide +kernel
theorem dX10_readLine_49 : decode cX10_readLine 49 = .ok (.goto 29, 3) := by decide +kernel
theorem dX10_readLine_52 : decode cX10_readLine 52 = .ok (.aload_n 0, 1) := by decide +kernel
theorem dX10_readLine_53 : decode cX10_readLine 53 = .ok (.iconst 0, 1) := by decide +kernel
theorem dX10_readLine_54 : decode cX10_readLine 54 = .ok (.bipush 59, 2) := by decide +kernel
theorem dX10_readLine_56 : decode cX10_readLine 56 = .ok (.invokevirtual 135, 3) := by decide +kernel
theorem dX10_readLine_59 : decode cX10_readLine 59 = .ok (.istore_n 2, 1) := by decide +kernel
theorem dX10_readLine_60 : decode cX10_readLine 60 = .ok (.aload_n 0, 1) := by decide +kernel
theorem dX10_readLine_61 : decode cX10_readLine 61 = .ok (.getfield 25, 3) := by decide +kernel
theorem dX10_readLine_64 : decode cX10_readLine 64 = .ok (.iload_n 2, 1) := by decide +kernel
theorem dX10_readLine_65 : decode cX10_readLine 65 = .ok (.aload_n 0, 1) := by decide +kernel
theorem dX10_readLine_66 : decode cX10_readLine 66 = .ok (.getfield 69, 3) := by decide +kernel
theorem dX10_readLine_69 : decode cX10_readLine 69 = .ok (.ifCond .ne 7, 3) := by decide +kernel
theorem dX10_readLine_72 : decode cX10_readLine 72 = .ok (.iconst 1, 1) := by decide +kernel
theorem dX10_readLine_73 : decode cX10_readLine 73 = .ok (.goto 4, 3) := by decide +kernel
theorem dX10_readLine_76 : decode cX10_readLine 76 = .ok (.iconst 0, 1) := by decide +kernel
theorem dX10_readLine_77 : decode cX10_readLine 77 = .ok (.iastore, 1) := by decide +kernel
theorem dX10_readLine_78 : decode cX10_readLine 78 = .ok (.aload_n 0, 1) := by decide +kernel
theorem dX10_readLine_79 : decode cX10_readLine 79 = .ok (.getfield 69, 3) := by decide +kernel
theorem dX10_readLine_82 : decode cX10_readLine 82 = .ok (.ifCond .ne 16, 3) := by decide +kernel
theorem dX10_readLine_85 : decode cX10_readLine 85 = .ok (.aload_n 0, 1) := by decide +kernel
theorem dX10_readLine_86 : decode cX10_readLine 86 = .ok (.getfield 86, 3) := by decide +kernel
theorem dX10_readLine_89 : decode cX10_readLine 89 = .ok (.iconst 3, 1) := by decide +kernel
theorem dX10_readLine_90 : decode cX10_readLine 90 = .ok (.if_icmp .eq 8, 3) := by decide +kernel
theorem dX10_readLine_93 : decode cX10_readLine 93 = .ok (.aload_n 0, 1) := by decide +kernel
theorem dX10_readLine_94 : decode cX10_readLine 94 = .ok (.iconst 2, 1) := by decide +kernel
theorem dX10_readLine_95 : decode cX10_readLine 95 = .ok (.invokevirtual 105, 3) := by decide +kernel
theorem dX10_readLine_98 : decode cX10_readLine 98 = .ok (.aload_n 0, 1) := by decide +kernel
theorem dX10_readLine_99 : decode cX10_readLine 99 = .ok (.getfield 69, 3) := by decide +kernel
theorem dX10_readLine_102 : decode cX10_readLine 102 = .ok (.ifCond .ne 18, 3) := by decide +kernel
theorem dX10_readLine_105 : decode cX10_readLine 105 = .ok (.aload_n 0, 1) := by decide +kernel
theorem dX10_readLine_106 : decode cX10_readLine 106 = .ok (.dup, 1) := by decide +kernel
theorem dX10_readLine_107 : decode cX10_readLine 107 = .ok (.getfield 139, 3) := by decide +kernel
theorem dX10_readLine_110 : decode cX10_readLine 110 = .ok (.iconst 1, 1) := by decide +kernel
theorem dX10_readLine_111 : decode cX10_readLine 111 = .ok (.iadd, 1) := by decide +kernel
theorem dX10_readLine_112 : decode cX10_readLine 112 = .ok (.putfield 139, 3) := by decide +kernel
theorem dX10_readLine_115 : decode cX10_readLine 115 = .ok (.aload_n 0, 1) := by decide +kernel
theorem dX10_readLine_116 : decode cX10_readLine 116 = .ok (.iconst 0, 1) := by decide +kernel
theorem dX10_readLine_117 : decode cX10_readLine 117 = .ok (.putfield 119, 3) := by decide +kernel
theorem dX10_readLine_120 : decode cX10_readLine 120 = .ok (.aload_n 0, 1) := by decide +kernel
theorem dX10_readLine_121 : decode cX10_readLine 121 = .ok (.invokevirtual 122, 3) := by decide +kernel
theorem dX10_readLine_124 : decode cX10_readLine 124 = .ok (.return_, 1) := by decide +kernel
theorem dX10_isWhole_0 : decode cX10_isWhole 0 = .ok (.iconst 1, 1) := by decide +kernel
theorem dX10_isWhole_1 : decode cX10_isWhole 1 = .ok (.istore_n 1, 1) := by decide +kernel
theorem dX10_isWhole_2 : decode cX10_isWhole 2 = .ok (.iconst 0, 1) := by decide +kernel
theorem dX10_isWhole_3 : decode cX10_isWhole 3 = .ok (.istore_n 2, 1) := by decide +kernel
theorem dX10_isWhole_4 : decode cX10_isWhole 4 = .ok (.iload_n 2, 1) := by decide +kernel
theorem dX10_isWhole_5 : decode cX10_isWhole 5 = .ok (.bipush 60, 2) := by decide +kernel
theorem dX10_isWhole_7 : decode cX10_isWhole 7 = .ok (.if_icmp .ge 96, 3) := by decide +kernel
theorem dX10_isWhole_10 : decode cX10_isWhole 10 = .ok (.iload_n 2, 1) := by decide +kernel
theorem dX10_isWhole_11 : decode cX10_isWhole 11 = .ok (.aload_n 0, 1) := by decide +kernel
theorem dX10_isWhole_12 : decode cX10_isWhole 12 = .ok (.getfield 7, 3) := by decide +kernel
theorem dX10_isWhole_15 : decode cX10_isWhole 15 = .ok (.sipush 243, 3) := by decide +kernel
theorem dX10_isWhole_18 : decode cX10_isWhole 18 = .ok (.iaload, 1) := by decide +kernel
theorem dX10_isWhole_19 : decode cX10_isWhole 19 = .ok (.if_icmp .ge 23, 3) := by decide +kernel
theorem dX10_isWhole_22 : decode cX10_isWhole 22 = .ok (.aload_n 0, 1) := by decide +kernel
theorem dX10_isWhole_23 : decode cX10_isWhole 23 = .ok (.getfield 7, 3) := by decide +kernel
theorem dX10_isWhole_26 : decode cX10_isWhole 26 = .ok (.sipush 183, 3) := by decide +kernel
theorem dX10_isWhole_29 : decode cX10_isWhole 29 = .ok (.iload_n 2, 1) := by decide +kernel
theorem dX10_isWhole_30 : decode cX10_isWhole 30 = .ok (.iadd, 1) := by decide +kernel
theorem dX10_isWhole_31 : decode cX10_isWhole 31 = .ok (.iaload, 1) := by decide +kernel
theorem dX10_isWhole_32 : decode cX10_isWhole 32 = .ok (.invokestatic 142, 3) := by decide +kernel
theorem dX10_isWhole_35 : decode cX10_isWhole 35 = .ok (.ifCond .eq 7, 3) := by decide +kernel
theorem dX10_isWhole_38 : decode cX10_isWhole 38 = .ok (.iconst 1, 1) := by decide +kernel
theorem dX10_isWhole_39 : decode cX10_isWhole 39 = .ok (.goto 4, 3) := by decide +kernel
theorem dX10_isWhole_42 : decode cX10_isWhole 42 = .ok (.iconst 0, 1) := by decide +kernel
theorem dX10_isWhole_43 : decode cX10_isWhole 43 = .ok (.istore_n 3, 1) := by decide +kernel
theorem dX10_isWhole_44 : decode cX10_isWhole 44 = .ok (.iload_n 1, 1) := by decide +kernel
theorem dX10_isWhole_45 : decode cX10_isWhole 45 = .ok (.ifCond .eq 20, 3) := by decide +kernel
theorem dX10_isWhole_48 : decode cX10_isWhole 48 = .ok (.aload_n 0, 1) := by decide +kernel
theorem dX10_isWhole_49 : decode cX10_isWhole 49 = .ok (.getfield 25, 3) := by decide +kernel
theorem dX10_isWhole_52 : decode cX10_isWhole 52 = .ok (.iload_n 2, 1) := by decide +kernel
theorem dX10_isWhole_53 : decode cX10_isWhole 53 = .ok (.iaload, 1) := by decide +kernel
theorem dX10_isWhole_54 : decode cX10_isWhole 54 = .ok (.ifCond .eq 7, 3) := by decide +kernel
theorem dX10_isWhole_57 : decode cX10_isWhole 57 = .ok (.iload_n 3, 1) := by decide +kernel
theorem dX10_isWhole_58 : decode cX10_isWhole 58 = .ok (.ifCond .eq 7, 3) := by decide +kernel
theorem dX10_isWhole_61 : decode cX10_isWhole 61 = .ok (.iconst 1, 1) := by decide +kernel
theorem dX10_isWhole_62 : decode cX10_isWhole 62 = .ok (.goto 4, 3) := by decide +kernel
theorem dX10_isWhole_65 : decode cX10_isWhole 65 = .ok (.iconst 0, 1) := by decide +kernel
theorem dX10_isWhole_66 : decode cX10_isWhole 66 = .ok (.istore_n 1, 1) := by decide +kernel
theorem dX10_isWhole_67 : decode cX10_isWhole 67 = .ok (.aload_n 0, 1) := by decide +kernel
theorem dX10_isWhole_68 : decode cX10_isWhole 68 = .ok (.getfield 7, 3) := by decide +kernel
theorem dX10_isWhole_71 : decode cX10_isWhole 71 = .ok (.sipush 183, 3) := by decide +kernel
theorem dX10_isWhole_74 : decode cX10_isWhole 74 = .ok (.iload_n 2, 1) := by decide +kernel
theorem dX10_isWhole_75 : decode cX10_isWhole 75 = .ok (.iadd, 1) := by decide +kernel
theorem dX10_isWhole_76 : decode cX10_isWhole 76 = .ok (.dup2, 1) := by decide +kernel
theorem dX10_isWhole_77 : decode cX10_isWhole 77 = .ok (.iaload, 1) := by decide +kernel
theorem dX10_isWhole_78 : decode cX10_isWhole 78 = .ok (.aload_n 0, 1) := by decide +kernel
theorem dX10_isWhole_79 : decode cX10_isWhole 79 = .ok (.getfield 25, 3) := by decide +kernel
theorem dX10_isWhole_82 : decode cX10_isWhole 82 = .ok (.iload_n 2, 1) := by decide +kernel
theorem dX10_isWhole_83 : decode cX10_isWhole 83 = .ok (.iaload, 1) := by decide +kernel
theorem dX10_isWhole_84 : decode cX10_isWhole 84 = .ok (.iconst 1, 1) := by decide +kernel
theorem dX10_isWhole_85 : decode cX10_isWhole 85 = .ok (.if_icmp .ne 9, 3) := by decide +kernel
theorem dX10_isWhole_88 : decode cX10_isWhole 88 = .ok (.sipush 128, 3) := by decide +kernel
theorem dX10_isWhole_91 : decode cX10_isWhole 91 = .ok (.goto 4, 3) := by decide +kernel
theorem dX10_isWhole_94 : decode cX10_isWhole 94 = .ok (.iconst 0, 1) := by decide +kernel
theorem dX10_isWhole_95 : decode cX10_isWhole 95 = .ok (.iadd, 1) := by decide +kernel
theorem dX10_isWhole_96 : decode cX10_isWhole 96 = .ok (.iastore, 1) := by decide +kernel
theorem dX10_isWhole_97 : decode cX10_isWhole 97 = .ok (.iinc 2 1, 3) := by decide +kernel
theorem dX10_isWhole_100 : decode cX10_isWhole 100 = .ok (.goto (-96), 3) := by decide +kernel
theorem dX10_isWhole_103 : decode cX10_isWhole 103 = .ok (.iload_n 1, 1) := by decide +kernel
theorem dX10_isWhole_104 : decode cX10_isWhole 104 = .ok (.ireturn, 1) := by decide +kernel
theorem dX10_text_0 : decode cX10_text 0 = .ok (.aload_n 0, 1) := by decide +kernel
theorem dX10_text_1 : decode cX10_text 1 = .ok (.iconst 0, 1) := by decide +kernel
theorem dX10_text_2 : decode cX10_text 2 = .ok (.putfield 69, 3) := by decide +kernel
theorem dX10_text_5 : decode cX10_text 5 = .ok (.aload_n 0, 1) := by decide +kernel
theorem dX10_text_6 : decode cX10_text 6 = .ok (.iconst 0, 1) := by decide +kernel
theorem dX10_text_7 : decode cX10_text 7 = .ok (.putfield 89, 3) := by decide +kernel
theorem dX10_text_10 : decode cX10_text 10 = .ok (.aload_n 0, 1) := by decide +kernel
theorem dX10_text_11 : decode cX10_text 11 = .ok (.iconst 0, 1) := by decide +kernel
theorem dX10_text_12 : decode cX10_text 12 = .ok (.putfield 139, 3) := by decide +kernel
theorem dX10_text_15 : decode cX10_text 15 = .ok (.aload_n 0, 1) := by decide +kernel
theorem dX10_text_16 : decode cX10_text 16 = .ok (.iconst 0, 1) := by decide +kernel
theorem dX10_text_17 : decode cX10_text 17 = .ok (.putfield 119, 3) := by decide +kernel
theorem dX10_text_20 : decode cX10_text 20 = .ok (.iconst 0, 1) := by decide +kernel
theorem dX10_text_21 : decode cX10_text 21 = .ok (.istore_n 1, 1) := by decide +kernel
theorem dX10_text_22 : decode cX10_text 22 = .ok (.iload_n 1, 1) := by decide +kernel
theorem dX10_text_23 : decode cX10_text 23 = .ok (.bipush 61, 2) := by decide +kernel
theorem dX10_text_25 : decode cX10_text 25 = .ok (.if_icmp .ge 20, 3) := by decide +kernel
theorem dX10_text_28 : decode cX10_text 28 = .ok (.aload_n 0, 1) := by decide +kernel
theorem dX10_text_29 : decode cX10_text 29 = .ok (.getfield 7, 3) := by decide +kernel
theorem dX10_text_32 : decode cX10_text 32 = .ok (.sipush 183, 3) := by decide +kernel
theorem dX10_text_35 : decode cX10_text 35 = .ok (.iload_n 1, 1) := by decide +kernel
theorem dX10_text_36 : decode cX10_text 36 = .ok (.iadd, 1) := by decide +kernel
theorem dX10_text_37 : decode cX10_text 37 = .ok (.iconst 0, 1) := by decide +kernel
theorem dX10_text_38 : decode cX10_text 38 = .ok (.iastore, 1) := by decide +kernel
theorem dX10_text_39 : decode cX10_text 39 = .ok (.iinc 1 1, 3) := by decide +kernel
theorem dX10_text_42 : decode cX10_text 42 = .ok (.goto (-20), 3) := by decide +kernel
theorem dX10_text_45 : decode cX10_text 45 = .ok (.iconst 0, 1) := by decide +kernel
theorem dX10_text_46 : decode cX10_text 46 = .ok (.istore_n 1, 1) := by decide +kernel
theorem dX10_text_47 : decode cX10_text 47 = .ok (.iload_n 1, 1) := by decide +kernel
theorem dX10_text_48 : decode cX10_text 48 = .ok (.bipush 60, 2) := by decide +kernel
theorem dX10_text_50 : decode cX10_text 50 = .ok (.if_icmp .ge 16, 3) := by decide +kernel
theorem dX10_text_53 : decode cX10_text 53 = .ok (.aload_n 0, 1) := by decide +kernel
theorem dX10_text_54 : decode cX10_text 54 = .ok (.getfield 25, 3) := by decide +kernel
theorem dX10_text_57 : decode cX10_text 57 = .ok (.iload_n 1, 1) := by decide +kernel
theorem dX10_text_58 : decode cX10_text 58 = .ok (.iconst 0, 1) := by decide +kernel
theorem dX10_text_59 : decode cX10_text 59 = .ok (.iastore, 1) := by decide +kernel
theorem dX10_text_60 : decode cX10_text 60 = .ok (.iinc 1 1, 3) := by decide +kernel
theorem dX10_text_63 : decode cX10_text 63 = .ok (.goto (-16), 3) := by decide +kernel
theorem dX10_text_66 : decode cX10_text 66 = .ok (.aload_n 0, 1) := by decide +kernel
theorem dX10_text_67 : decode cX10_text 67 = .ok (.invokevirtual 122, 3) := by decide +kernel
theorem dX10_text_70 : decode cX10_text 70 = .ok (.aload_n 0, 1) := by decide +kernel
theorem dX10_text_71 : decode cX10_text 71 = .ok (.getfield 69, 3) := by decide +kernel
theorem dX10_text_74 : decode cX10_text 74 = .ok (.ifCond .ne 17, 3) := by decide +kernel
theorem dX10_text_77 : decode cX10_text 77 = .ok (.aload_n 0, 1) := by decide +kernel
theorem dX10_text_78 : decode cX10_text 78 = .ok (.getfield 86, 3) := by decide +kernel
theorem dX10_text_81 : decode cX10_text 81 = .ok (.ifCond .eq 10, 3) := by decide +kernel
theorem dX10_text_84 : decode cX10_text 84 = .ok (.aload_n 0, 1) := by decide +kernel
theorem dX10_text_85 : decode cX10_text 85 = .ok (.invokevirtual 145, 3) := by decide +kernel
theorem dX10_text_88 : decode cX10_text 88 = .ok (.goto (-18), 3) := by decide +kernel
theorem dX10_text_91 : decode cX10_text 91 = .ok (.aload_n 0, 1) := by decide +kernel
theorem dX10_text_92 : decode cX10_text 92 = .ok (.getfield 69, 3) := by decide +kernel
theorem dX10_text_95 : decode cX10_text 95 = .ok (.ifCond .le 7, 3) := by decide +kernel
theorem dX10_text_98 : decode cX10_text 98 = .ok (.iconst 1, 1) := by decide +kernel
theorem dX10_text_99 : decode cX10_text 99 = .ok (.goto 4, 3) := by decide +kernel
theorem dX10_text_102 : decode cX10_text 102 = .ok (.iconst 0, 1) := by decide +kernel
theorem dX10_text_103 : decode cX10_text 103 = .ok (.istore_n 1, 1) := by decide +kernel
theorem dX10_text_104 : decode cX10_text 104 = .ok (.aload_n 0, 1) := by decide +kernel
theorem dX10_text_105 : decode cX10_text 105 = .ok (.getfield 69, 3) := by decide +kernel
theorem dX10_text_108 : decode cX10_text 108 = .ok (.ifCond .ne 16, 3) := by decide +kernel
theorem dX10_text_111 : decode cX10_text 111 = .ok (.aload_n 0, 1) := by decide +kernel
theorem dX10_text_112 : decode cX10_text 112 = .ok (.invokevirtual 148, 3) := by decide +kernel
theorem dX10_text_115 : decode cX10_text 115 = .ok (.ifCond .ne 9, 3) := by decide +kernel
theorem dX10_text_118 : decode cX10_text 118 = .ok (.aload_n 0, 1) := by decide +kernel
theorem dX10_text_119 : decode cX10_text 119 = .ok (.bipush 6, 2) := by decide +kernel
theorem dX10_text_121 : decode cX10_text 121 = .ok (.invokevirtual 105, 3) := by decide +kernel
theorem dX10_text_124 : decode cX10_text 124 = .ok (.aload_n 0, 1) := by decide +kernel
theorem dX10_text_125 : decode cX10_text 125 = .ok (.iconst 0, 1) := by decide +kernel
theorem dX10_text_126 : decode cX10_text 126 = .ok (.putfield 65, 3) := by decide +kernel
theorem dX10_text_129 : decode cX10_text 129 = .ok (.aload_n 0, 1) := by decide +kernel
theorem dX10_text_130 : decode cX10_text 130 = .ok (.aload_n 0, 1) := by decide +kernel
theorem dX10_text_131 : decode cX10_text 131 = .ok (.getfield 69, 3) := by decide +kernel
theorem dX10_text_134 : decode cX10_text 134 = .ok (.putfield 152, 3) := by decide +kernel
theorem dX10_text_137 : decode cX10_text 137 = .ok (.aload_n 0, 1) := by decide +kernel
theorem dX10_text_138 : decode cX10_text 138 = .ok (.getfield 16, 3) := by decide +kernel
theorem dX10_text_141 : decode cX10_text 141 = .ok (.iconst 0, 1) := by decide +kernel
theorem dX10_text_142 : decode cX10_text 142 = .ok (.iload_n 1, 1) := by decide +kernel
theorem dX10_text_143 : decode cX10_text 143 = .ok (.ifCond .eq 10, 3) := by decide +kernel
theorem dX10_text_146 : decode cX10_text 146 = .ok (.aload_n 0, 1) := by decide +kernel
theorem dX10_text_147 : decode cX10_text 147 = .ok (.getfield 139, 3) := by decide +kernel
theorem dX10_text_150 : decode cX10_text 150 = .ok (.goto 5, 3) := by decide +kernel
theorem dX10_text_153 : decode cX10_text 153 = .ok (.bipush (-4), 2) := by decide +kernel
theorem dX10_text_155 : decode cX10_text 155 = .ok (.iastore, 1) := by decide +kernel
theorem dX10_text_156 : decode cX10_text 156 = .ok (.aload_n 0, 1) := by decide +kernel
theorem dX10_text_157 : decode cX10_text 157 = .ok (.getfield 16, 3) := by decide +kernel
theorem dX10_text_160 : decode cX10_text 160 = .ok (.iconst 1, 1) := by decide +kernel
theorem dX10_text_161 : decode cX10_text 161 = .ok (.iload_n 1, 1) := by decide +kernel
theorem dX10_text_162 : decode cX10_text 162 = .ok (.ifCond .eq 10, 3) := by decide +kernel
theorem dX10_text_165 : decode cX10_text 165 = .ok (.aload_n 0, 1) := by decide +kernel
theorem dX10_text_166 : decode cX10_text 166 = .ok (.getfield 119, 3) := by decide +kernel
theorem dX10_text_169 : decode cX10_text 169 = .ok (.goto 5, 3) := by decide +kernel
theorem dX10_text_172 : decode cX10_text 172 = .ok (.bipush (-4), 2) := by decide +kernel
theorem dX10_text_174 : decode cX10_text 174 = .ok (.iastore, 1) := by decide +kernel
theorem dX10_text_175 : decode cX10_text 175 = .ok (.aload_n 0, 1) := by decide +kernel
theorem dX10_text_176 : decode cX10_text 176 = .ok (.getfield 16, 3) := by decide +kernel
theorem dX10_text_179 : decode cX10_text 179 = .ok (.iconst 2, 1) := by decide +kernel
theorem dX10_text_180 : decode cX10_text 180 = .ok (.iload_n 1, 1) := by decide +kernel
theorem dX10_text_181 : decode cX10_text 181 = .ok (.ifCond .eq 10, 3) := by decide +kernel
theorem dX10_text_184 : decode cX10_text 184 = .ok (.aload_n 0, 1) := by decide +kernel
theorem dX10_text_185 : decode cX10_text 185 = .ok (.getfield 102, 3) := by decide +kernel
theorem dX10_text_188 : decode cX10_text 188 = .ok (.goto 5, 3) := by decide +kernel
theorem dX10_text_191 : decode cX10_text 191 = .ok (.bipush (-4), 2) := by decide +kernel
theorem dX10_text_193 : decode cX10_text 193 = .ok (.iastore, 1) := by decide +kernel
theorem dX10_text_194 : decode cX10_text 194 = .ok (.aload_n 0, 1) := by decide +kernel
theorem dX10_text_195 : decode cX10_text 195 = .ok (.getfield 69, 3) := by decide +kernel
theorem dX10_text_198 : decode cX10_text 198 = .ok (.ifCond .le 11, 3) := by decide +kernel
theorem dX10_text_201 : decode cX10_text 201 = .ok (.bipush (-10), 2) := by decide +kernel
theorem dX10_text_203 : decode cX10_text 203 = .ok (.aload_n 0, 1) := by decide +kernel
theorem dX10_text_204 : decode cX10_text 204 = .ok (.getfield 75, 3) := by decide +kernel
theorem dX10_text_207 : decode cX10_text 207 = .ok (.isub, 1) := by decide +kernel
theorem dX10_text_208 : decode cX10_text 208 = .ok (.ireturn, 1) := by decide +kernel
theorem dX10_text_209 : decode cX10_text 209 = .ok (.aload_n 0, 1) := by decide +kernel
theorem dX10_text_210 : decode cX10_text 210 = .ok (.sipush 183, 3) := by decide +kernel
theorem dX10_text_213 : decode cX10_text 213 = .ok (.iconst 0, 1) := by decide +kernel
theorem dX10_text_214 : decode cX10_text 214 = .ok (.invokevirtual 155, 3) := by decide +kernel
theorem dX10_text_217 : decode cX10_text 217 = .ok (.aload_n 0, 1) := by decide +kernel
theorem dX10_text_218 : decode cX10_text 218 = .ok (.iconst 0, 1) := by decide +kernel
theorem dX10_text_219 : decode cX10_text 219 = .ok (.putfield 159, 3) := by decide +kernel
theorem dX10_text_222 : decode cX10_text 222 = .ok (.aload_n 0, 1) := by decide +kernel
theorem dX10_text_223 : decode cX10_text 223 = .ok (.iconst 0, 1) := by decide +kernel
theorem dX10_text_224 : decode cX10_text 224 = .ok (.putfield 162, 3) := by decide +kernel
theorem dX10_text_227 : decode cX10_text 227 = .ok (.aload_n 0, 1) := by decide +kernel
theorem dX10_text_228 : decode cX10_text 228 = .ok (.getfield 46, 3) := by decide +kernel
theorem dX10_text_231 : decode cX10_text 231 = .ok (.iconst 0, 1) := by decide +kernel
theorem dX10_text_232 : decode cX10_text 232 = .ok (.iconst 0, 1) := by decide +kernel
theorem dX10_text_233 : decode cX10_text 233 = .ok (.bastore, 1) := by decide +kernel
theorem dX10_text_234 : decode cX10_text 234 = .ok (.aload_n 0, 1) := by decide +kernel
theorem dX10_text_235 : decode cX10_text 235 = .ok (.getfield 46, 3) := by decide +kernel
theorem dX10_text_238 : decode cX10_text 238 = .ok (.iconst 1, 1) := by decide +kernel
theorem dX10_text_239 : decode cX10_text 239 = .ok (.iconst 0, 1) := by decide +kernel
theorem dX10_text_240 : decode cX10_text 240 = .ok (.bastore, 1) := by decide +kernel
theorem dX10_text_241 : decode cX10_text 241 = .ok (.aload_n 0, 1) := by decide +kernel
theorem dX10_text_242 : decode cX10_text 242 = .ok (.invokevirtual 165, 3) := by decide +kernel
theorem dX10_text_245 : decode cX10_text 245 = .ok (.ireturn, 1) := by decide +kernel
theorem dX10_fault_0 : decode cX10_fault 0 = .ok (.aload_n 0, 1) := by decide +kernel
theorem dX10_fault_1 : decode cX10_fault 1 = .ok (.getfield 152, 3) := by decide +kernel
theorem dX10_fault_4 : decode cX10_fault 4 = .ok (.ireturn, 1) := by decide +kernel
theorem dX10_reason_0 : decode cX10_reason 0 = .ok (.iload_n 1, 1) := by decide +kernel
theorem dX10_reason_1 : decode cX10_reason 1 = .ok (.i2l, 1) := by decide +kernel
theorem dX10_reason_2 : decode cX10_reason 2 = .ok (.lconst 0, 1) := by decide +kernel
theorem dX10_reason_3 : decode cX10_reason 3 = .ok (.ldc2_w 168, 3) := by decide +kernel
theorem dX10_reason_6 : decode cX10_reason 6 = .ok (.invokestatic 61, 3) := by decide +kernel
theorem dX10_reason_9 : decode cX10_reason 9 = .ok (.ifCond .eq 12, 3) := by decide +kernel
theorem dX10_reason_12 : decode cX10_reason 12 = .ok (.aload_n 0, 1) := by decide +kernel
theorem dX10_reason_13 : decode cX10_reason 13 = .ok (.getfield 16, 3) := by decide +kernel
theorem dX10_reason_16 : decode cX10_reason 16 = .ok (.iload_n 1, 1) := by decide +kernel
theorem dX10_reason_17 : decode cX10_reason 17 = .ok (.iaload, 1) := by decide +kernel
theorem dX10_reason_18 : decode cX10_reason 18 = .ok (.goto 4, 3) := by decide +kernel
theorem dX10_reason_21 : decode cX10_reason 21 = .ok (.iconst (-1), 1) := by decide +kernel
theorem dX10_reason_22 : decode cX10_reason 22 = .ok (.ireturn, 1) := by decide +kernel
theorem dX10_copies_0 : decode cX10_copies 0 = .ok (.iconst 0, 1) := by decide +kernel
theorem dX10_copies_1 : decode cX10_copies 1 = .ok (.istore_n 3, 1) := by decide +kernel
theorem dX10_copies_2 : decode cX10_copies 2 = .ok (.iload_n 3, 1) := by decide +kernel
theorem dX10_copies_3 : decode cX10_copies 3 = .ok (.bipush 61, 2) := by decide +kernel
theorem dX10_copies_5 : decode cX10_copies 5 = .ok (.if_icmp .ge 25, 3) := by decide +kernel
theorem dX10_copies_8 : decode cX10_copies 8 = .ok (.aload_n 0, 1) := by decide +kernel
theorem dX10_copies_9 : decode cX10_copies 9 = .ok (.getfield 7, 3) := by decide +kernel
theorem dX10_copies_12 : decode cX10_copies 12 = .ok (.iload_n 2, 1) := by decide +kernel
theorem dX10_copies_13 : decode cX10_copies 13 = .ok (.iload_n 3, 1) := by decide +kernel
theorem dX10_copies_14 : decode cX10_copies 14 = .ok (.iadd, 1) := by decide +kernel
theorem dX10_copies_15 : decode cX10_copies 15 = .ok (.aload_n 0, 1) := by decide +kernel
theorem dX10_copies_16 : decode cX10_copies 16 = .ok (.getfield 7, 3) := by decide +kernel
theorem dX10_copies_19 : decode cX10_copies 19 = .ok (.iload_n 1, 1) := by decide +kernel
theorem dX10_copies_20 : decode cX10_copies 20 = .ok (.iload_n 3, 1) := by decide +kernel
theorem dX10_copies_21 : decode cX10_copies 21 = .ok (.iadd, 1) := by decide +kernel
theorem dX10_copies_22 : decode cX10_copies 22 = .ok (.iaload, 1) := by decide +kernel
theorem dX10_copies_23 : decode cX10_copies 23 = .ok (.iastore, 1) := by decide +kernel
theorem dX10_copies_24 : decode cX10_copies 24 = .ok (.iinc 3 1, 3) := by decide +kernel
theorem dX10_copies_27 : decode cX10_copies 27 = .ok (.goto (-25), 3) := by decide +kernel
theorem dX10_copies_30 : decode cX10_copies 30 = .ok (.return_, 1) := by decide +kernel
theorem dX10_many_0 : decode cX10_many 0 = .ok (.aload_n 0, 1) := by decide +kernel
theorem dX10_many_1 : decode cX10_many 1 = .ok (.getfield 7, 3) := by decide +kernel
theorem dX10_many_4 : decode cX10_many 4 = .ok (.bipush 60, 2) := by decide +kernel
theorem dX10_many_6 : decode cX10_many 6 = .ok (.iaload, 1) := by decide +kernel
theorem dX10_many_7 : decode cX10_many 7 = .ok (.ireturn, 1) := by decide +kernel
theorem dX10_signAt_0 : decode cX10_signAt 0 = .ok (.aload_n 0, 1) := by decide +kernel
theorem dX10_signAt_1 : decode cX10_signAt 1 = .ok (.getfield 7, 3) := by decide +kernel
theorem dX10_signAt_4 : decode cX10_signAt 4 = .ok (.iload_n 1, 1) := by decide +kernel
theorem dX10_signAt_5 : decode cX10_signAt 5 = .ok (.iaload, 1) := by decide +kernel
theorem dX10_signAt_6 : decode cX10_signAt 6 = .ok (.sipush 128, 3) := by decide +kernel
theorem dX10_signAt_9 : decode cX10_signAt 9 = .ok (.irem, 1) := by decide +kernel
theorem dX10_signAt_10 : decode cX10_signAt 10 = .ok (.ireturn, 1) := by decide +kernel
theorem dX10_isMarked_0 : decode cX10_isMarked 0 = .ok (.aload_n 0, 1) := by decide +kernel
theorem dX10_isMarked_1 : decode cX10_isMarked 1 = .ok (.getfield 7, 3) := by decide +kernel
theorem dX10_isMarked_4 : decode cX10_isMarked 4 = .ok (.iload_n 1, 1) := by decide +kernel
theorem dX10_isMarked_5 : decode cX10_isMarked 5 = .ok (.iaload, 1) := by decide +kernel
theorem dX10_isMarked_6 : decode cX10_isMarked 6 = .ok (.sipush 128, 3) := by decide +kernel
theorem dX10_isMarked_9 : decode cX10_isMarked 9 = .ok (.if_icmp .lt 7, 3) := by decide +kernel
theorem dX10_isMarked_12 : decode cX10_isMarked 12 = .ok (.iconst 1, 1) := by decide +kernel
theorem dX10_isMarked_13 : decode cX10_isMarked 13 = .ok (.goto 4, 3) := by decide +kernel
theorem dX10_isMarked_16 : decode cX10_isMarked 16 = .ok (.iconst 0, 1) := by decide +kernel
theorem dX10_isMarked_17 : decode cX10_isMarked 17 = .ok (.ireturn, 1) := by decide +kernel
theorem dX10_finds_0 : decode cX10_finds 0 = .ok (.iconst 0, 1) := by decide +kernel
theorem dX10_finds_1 : decode cX10_finds 1 = .ok (.istore_n 3, 1) := by decide +kernel
theorem dX10_finds_2 : decode cX10_finds 2 = .ok (.iconst 0, 1) := by decide +kernel
theorem dX10_finds_3 : decode cX10_finds 3 = .ok (.istore 4, 2) := by decide +kernel
theorem dX10_finds_5 : decode cX10_finds 5 = .ok (.iload 4, 2) := by decide +kernel
theorem dX10_finds_7 : decode cX10_finds 7 = .ok (.aload_n 0, 1) := by decide +kernel
theorem dX10_finds_8 : decode cX10_finds 8 = .ok (.invokevirtual 165, 3) := by decide +kernel
theorem dX10_finds_11 : decode cX10_finds 11 = .ok (.if_icmp .ge 134, 3) := by decide +kernel
theorem dX10_finds_14 : decode cX10_finds 14 = .ok (.aload_n 0, 1) := by decide +kernel
theorem dX10_finds_15 : decode cX10_finds 15 = .ok (.iload 4, 2) := by decide +kernel
theorem dX10_finds_17 : decode cX10_finds 17 = .ok (.invokevirtual 170, 3) := by decide +kernel
theorem dX10_finds_20 : decode cX10_finds 20 = .ok (.istore 5, 2) := by decide +kernel
theorem dX10_finds_22 : decode cX10_finds 22 = .ok (.iload 5, 2) := by decide +kernel
theorem dX10_finds_24 : decode cX10_finds 24 = .ok (.invokestatic 78, 3) := by decide +kernel
theorem dX10_finds_27 : decode cX10_finds 27 = .ok (.bipush (-4), 2) := by decide +kernel
theorem dX10_finds_29 : decode cX10_finds 29 = .ok (.if_icmp .eq 21, 3) := by decide +kernel
theorem dX10_finds_32 : decode cX10_finds 32 = .ok (.iload_n 1, 1) := by decide +kernel
theorem dX10_finds_33 : decode cX10_finds 33 = .ok (.iconst 3, 1) := by decide +kernel
theorem dX10_finds_34 : decode cX10_finds 34 = .ok (.if_icmp .eq 12, 3) := by decide +kernel
theorem dX10_finds_37 : decode cX10_finds 37 = .ok (.iload 5, 2) := by decide +kernel
theorem dX10_finds_39 : decode cX10_finds 39 = .ok (.invokestatic 78, 3) := by decide +kernel
theorem dX10_finds_42 : decode cX10_finds 42 = .ok (.iload_n 1, 1) := by decide +kernel
theorem dX10_finds_43 : decode cX10_finds 43 = .ok (.if_icmp .ne 7, 3) := by decide +kernel
theorem dX10_finds_46 : decode cX10_finds 46 = .ok (.iconst 1, 1) := by decide +kernel
theorem dX10_finds_47 : decode cX10_finds 47 = .ok (.goto 4, 3) := by decide +kernel
theorem dX10_finds_50 : decode cX10_finds 50 = .ok (.iconst 0, 1) := by decide +kernel
theorem dX10_finds_51 : decode cX10_finds 51 = .ok (.istore 6, 2) := by decide +kernel
theorem dX10_finds_53 : decode cX10_finds 53 = .ok (.aload_n 2, 1) := by decide +kernel
theorem dX10_finds_54 : decode cX10_finds 54 = .ok (.iload 4, 2) := by decide +kernel
theorem dX10_finds_56 : decode cX10_finds 56 = .ok (.iload 6, 2) := by decide +kernel
theorem dX10_finds_58 : decode cX10_finds 58 = .ok (.ifCond .ne 12, 3) := by decide +kernel
theorem dX10_finds_61 : decode cX10_finds 61 = .ok (.iload_n 1, 1) := by decide +kernel
theorem dX10_finds_62 : decode cX10_finds 62 = .ok (.iconst 3, 1) := by decide +kernel
theorem dX10_finds_63 : decode cX10_finds 63 = .ok (.if_icmp .eq 7, 3) := by decide +kernel
theorem dX10_finds_66 : decode cX10_finds 66 = .ok (.iload_n 1, 1) := by decide +kernel
theorem dX10_finds_67 : decode cX10_finds 67 = .ok (.ifCond .ne 8, 3) := by decide +kernel
theorem dX10_finds_70 : decode cX10_finds 70 = .ok (.bipush (-4), 2) := by decide +kernel
theorem dX10_finds_72 : decode cX10_finds 72 = .ok (.goto 7, 3) := by decide +kernel
theorem dX10_finds_75 : decode cX10_finds 75 = .ok (.aload_n 2, 1) := by decide +kernel
theorem dX10_finds_76 : decode cX10_finds 76 = .ok (.iload 4, 2) := by decide +kernel
theorem dX10_finds_78 : decode cX10_finds 78 = .ok (.iaload, 1) := by decide +kernel
theorem dX10_finds_79 : decode cX10_finds 79 = .ok (.iastore, 1) := by decide +kernel
theorem dX10_finds_80 : decode cX10_finds 80 = .ok (.iload 6, 2) := by decide +kernel
theorem dX10_finds_82 : decode cX10_finds 82 = .ok (.ifCond .eq 25, 3) := by decide +kernel
theorem dX10_finds_85 : decode cX10_finds 85 = .ok (.iload 5, 2) := by decide +kernel
theorem dX10_finds_87 : decode cX10_finds 87 = .ok (.invokestatic 142, 3) := by decide +kernel
theorem dX10_finds_90 : decode cX10_finds 90 = .ok (.ifCond .eq 17, 3) := by decide +kernel
theorem dX10_finds_93 : decode cX10_finds 93 = .ok (.aload_n 0, 1) := by decide +kernel
theorem dX10_finds_94 : decode cX10_finds 94 = .ok (.getfield 34, 3) := by decide +kernel
theorem dX10_finds_97 : decode cX10_finds 97 = .ok (.iload_n 3, 1) := by decide +kernel
theorem dX10_finds_98 : decode cX10_finds 98 = .ok (.iload 4, 2) := by decide +kernel
theorem dX10_finds_100 : decode cX10_finds 100 = .ok (.iastore, 1) := by decide +kernel
theorem dX10_finds_101 : decode cX10_finds 101 = .ok (.iinc 3 1, 3) := by decide +kernel
theorem dX10_finds_104 : decode cX10_finds 104 = .ok (.goto 35, 3) := by decide +kernel
theorem dX10_finds_107 : decode cX10_finds 107 = .ok (.iload 6, 2) := by decide +kernel
theorem dX10_finds_109 : decode cX10_finds 109 = .ok (.ifCond .eq 30, 3) := by decide +kernel
theorem dX10_finds_112 : decode cX10_finds 112 = .ok (.iload_n 3, 1) := by decide +kernel
theorem dX10_finds_113 : decode cX10_finds 113 = .ok (.ifCond .le 26, 3) := by decide +kernel
theorem dX10_finds_116 : decode cX10_finds 116 = .ok (.iinc 3 (-1), 3) := by decide +kernel
theorem dX10_finds_119 : decode cX10_finds 119 = .ok (.aload_n 2, 1) := by decide +kernel
theorem dX10_finds_120 : decode cX10_finds 120 = .ok (.iload 4, 2) := by decide +kernel
theorem dX10_finds_122 : decode cX10_finds 122 = .ok (.aload_n 0, 1) := by decide +kernel
theorem dX10_finds_123 : decode cX10_finds 123 = .ok (.getfield 34, 3) := by decide +kernel
theorem dX10_finds_126 : decode cX10_finds 126 = .ok (.iload_n 3, 1) := by decide +kernel
theorem dX10_finds_127 : decode cX10_finds 127 = .ok (.iaload, 1) := by decide +kernel
theorem dX10_finds_128 : decode cX10_finds 128 = .ok (.iastore, 1) := by decide +kernel
theorem dX10_finds_129 : decode cX10_finds 129 = .ok (.aload_n 2, 1) := by decide +kernel
theorem dX10_finds_130 : decode cX10_finds 130 = .ok (.aload_n 0, 1) := by decide +kernel
theorem dX10_finds_131 : decode cX10_finds 131 = .ok (.getfield 34, 3) := by decide +kernel
theorem dX10_finds_134 : decode cX10_finds 134 = .ok (.iload_n 3, 1) := by decide +kernel
theorem dX10_finds_135 : decode cX10_finds 135 = .ok (.iaload, 1) := by decide +kernel
theorem dX10_finds_136 : decode cX10_finds 136 = .ok (.iload 4, 2) := by decide +kernel
theorem dX10_finds_138 : decode cX10_finds 138 = .ok (.iastore, 1) := by decide +kernel
theorem dX10_finds_139 : decode cX10_finds 139 = .ok (.iinc 4 1, 3) := by decide +kernel
theorem dX10_finds_142 : decode cX10_finds 142 = .ok (.goto (-137), 3) := by decide +kernel
theorem dX10_finds_145 : decode cX10_finds 145 = .ok (.return_, 1) := by decide +kernel
theorem dX10_findsAll_0 : decode cX10_findsAll 0 = .ok (.aload_n 0, 1) := by decide +kernel
theorem dX10_findsAll_1 : decode cX10_findsAll 1 = .ok (.iconst 3, 1) := by decide +kernel
theorem dX10_findsAll_2 : decode cX10_findsAll 2 = .ok (.aload_n 0, 1) := by decide +kernel
theorem dX10_findsAll_3 : decode cX10_findsAll 3 = .ok (.getfield 28, 3) := by decide +kernel
theorem dX10_findsAll_6 : decode cX10_findsAll 6 = .ok (.invokevirtual 173, 3) := by decide +kernel
theorem dX10_findsAll_9 : decode cX10_findsAll 9 = .ok (.iconst 0, 1) := by decide +kernel
theorem dX10_findsAll_10 : decode cX10_findsAll 10 = .ok (.istore_n 1, 1) := by decide +kernel
theorem dX10_findsAll_11 : decode cX10_findsAll 11 = .ok (.iload_n 1, 1) := by decide +kernel
theorem dX10_findsAll_12 : decode cX10_findsAll 12 = .ok (.iconst 3, 1) := by decide +kernel
theorem dX10_findsAll_13 : decode cX10_findsAll 13 = .ok (.if_icmp .ge 18, 3) := by decide +kernel
theorem dX10_findsAll_16 : decode cX10_findsAll 16 = .ok (.aload_n 0, 1) := by decide +kernel
theorem dX10_findsAll_17 : decode cX10_findsAll 17 = .ok (.iload_n 1, 1) := by decide +kernel
theorem dX10_findsAll_18 : decode cX10_findsAll 18 = .ok (.aload_n 0, 1) := by decide +kernel
theorem dX10_findsAll_19 : decode cX10_findsAll 19 = .ok (.getfield 31, 3) := by decide +kernel
theorem dX10_findsAll_22 : decode cX10_findsAll 22 = .ok (.invokevirtual 173, 3) := by decide +kernel
theorem dX10_findsAll_25 : decode cX10_findsAll 25 = .ok (.iinc 1 1, 3) := by decide +kernel
theorem dX10_findsAll_28 : decode cX10_findsAll 28 = .ok (.goto (-17), 3) := by decide +kernel
theorem dX10_findsAll_31 : decode cX10_findsAll 31 = .ok (.return_, 1) := by decide +kernel
theorem dX10_isFirst_0 : decode cX10_isFirst 0 = .ok (.aload_n 0, 1) := by decide +kernel
theorem dX10_isFirst_1 : decode cX10_isFirst 1 = .ok (.getfield 28, 3) := by decide +kernel
theorem dX10_isFirst_4 : decode cX10_isFirst 4 = .ok (.iload_n 1, 1) := by decide +kernel
theorem dX10_isFirst_5 : decode cX10_isFirst 5 = .ok (.iaload, 1) := by decide +kernel
theorem dX10_isFirst_6 : decode cX10_isFirst 6 = .ok (.iload_n 1, 1) := by decide +kernel
theorem dX10_isFirst_7 : decode cX10_isFirst 7 = .ok (.if_icmp .le 7, 3) := by decide +kernel
theorem dX10_isFirst_10 : decode cX10_isFirst 10 = .ok (.iconst 1, 1) := by decide +kernel
theorem dX10_isFirst_11 : decode cX10_isFirst 11 = .ok (.goto 4, 3) := by decide +kernel
theorem dX10_isFirst_14 : decode cX10_isFirst 14 = .ok (.iconst 0, 1) := by decide +kernel
theorem dX10_isFirst_15 : decode cX10_isFirst 15 = .ok (.ireturn, 1) := by decide +kernel
theorem dX10_isBare_0 : decode cX10_isBare 0 = .ok (.aload_n 0, 1) := by decide +kernel
theorem dX10_isBare_1 : decode cX10_isBare 1 = .ok (.iload_n 1, 1) := by decide +kernel
theorem dX10_isBare_2 : decode cX10_isBare 2 = .ok (.invokevirtual 170, 3) := by decide +kernel
theorem dX10_isBare_5 : decode cX10_isBare 5 = .ok (.invokestatic 78, 3) := by decide +kernel
theorem dX10_isBare_8 : decode cX10_isBare 8 = .ok (.bipush (-4), 2) := by decide +kernel
theorem dX10_isBare_10 : decode cX10_isBare 10 = .ok (.if_icmp .eq 18, 3) := by decide +kernel
theorem dX10_isBare_13 : decode cX10_isBare 13 = .ok (.aload_n 0, 1) := by decide +kernel
theorem dX10_isBare_14 : decode cX10_isBare 14 = .ok (.getfield 28, 3) := by decide +kernel
theorem dX10_isBare_17 : decode cX10_isBare 17 = .ok (.iload_n 1, 1) := by decide +kernel
theorem dX10_isBare_18 : decode cX10_isBare 18 = .ok (.iaload, 1) := by decide +kernel
theorem dX10_isBare_19 : decode cX10_isBare 19 = .ok (.bipush (-4), 2) := by decide +kernel
theorem dX10_isBare_21 : decode cX10_isBare 21 = .ok (.if_icmp .ne 7, 3) := by decide +kernel
theorem dX10_isBare_24 : decode cX10_isBare 24 = .ok (.iconst 1, 1) := by decide +kernel
theorem dX10_isBare_25 : decode cX10_isBare 25 = .ok (.goto 4, 3) := by decide +kernel
theorem dX10_isBare_28 : decode cX10_isBare 28 = .ok (.iconst 0, 1) := by decide +kernel
theorem dX10_isBare_29 : decode cX10_isBare 29 = .ok (.ireturn, 1) := by decide +kernel
theorem dX10_isClashing_0 : decode cX10_isClashing 0 = .ok (.aload_n 0, 1) := by decide +kernel
theorem dX10_isClashing_1 : decode cX10_isClashing 1 = .ok (.getfield 28, 3) := by decide +kernel
theorem dX10_isClashing_4 : decode cX10_isClashing 4 = .ok (.iload_n 1, 1) := by decide +kernel
theorem dX10_isClashing_5 : decode cX10_isClashing 5 = .ok (.iaload, 1) := by decide +kernel
theorem dX10_isClashing_6 : decode cX10_isClashing 6 = .ok (.bipush (-4), 2) := by decide +kernel
theorem dX10_isClashing_8 : decode cX10_isClashing 8 = .ok (.if_icmp .eq 31, 3) := by decide +kernel
theorem dX10_isClashing_11 : decode cX10_isClashing 11 = .ok (.aload_n 0, 1) := by decide +kernel
theorem dX10_isClashing_12 : decode cX10_isClashing 12 = .ok (.iload_n 1, 1) := by decide +kernel
theorem dX10_isClashing_13 : decode cX10_isClashing 13 = .ok (.invokevirtual 170, 3) := by decide +kernel
theorem dX10_isClashing_16 : decode cX10_isClashing 16 = .ok (.invokestatic 78, 3) := by decide +kernel
theorem dX10_isClashing_19 : decode cX10_isClashing 19 = .ok (.aload_n 0, 1) := by decide +kernel
theorem dX10_isClashing_20 : decode cX10_isClashing 20 = .ok (.aload_n 0, 1) := by decide +kernel
theorem dX10_isClashing_21 : decode cX10_isClashing 21 = .ok (.getfield 28, 3) := by decide +kernel
theorem dX10_isClashing_24 : decode cX10_isClashing 24 = .ok (.iload_n 1, 1) := by decide +kernel
theorem dX10_isClashing_25 : decode cX10_isClashing 25 = .ok (.iaload, 1) := by decide +kernel
theorem dX10_isClashing_26 : decode cX10_isClashing 26 = .ok (.invokevirtual 170, 3) := by decide +kernel
theorem dX10_isClashing_29 : decode cX10_isClashing 29 = .ok (.invokestatic 78, 3) := by decide +kernel
theorem dX10_isClashing_32 : decode cX10_isClashing 32 = .ok (.if_icmp .eq 7, 3) := by decide +kernel
theorem dX10_isClashing_35 : decode cX10_isClashing 35 = .ok (.iconst 1, 1) := by decide +kernel
theorem dX10_isClashing_36 : decode cX10_isClashing 36 = .ok (.goto 4, 3) := by decide +kernel
theorem dX10_isClashing_39 : decode cX10_isClashing 39 = .ok (.iconst 0, 1) := by decide +kernel
theorem dX10_isClashing_40 : decode cX10_isClashing 40 = .ok (.ireturn, 1) := by decide +kernel
theorem dX10_isFolded_0 : decode cX10_isFolded 0 = .ok (.iconst 0, 1) := by decide +kernel
theorem dX10_isFolded_1 : decode cX10_isFolded 1 = .ok (.istore_n 2, 1) := by decide +kernel
theorem dX10_isFolded_2 : decode cX10_isFolded 2 = .ok (.iload_n 1, 1) := by decide +kernel
theorem dX10_isFolded_3 : decode cX10_isFolded 3 = .ok (.iconst 1, 1) := by decide +kernel
theorem dX10_isFolded_4 : decode cX10_isFolded 4 = .ok (.iadd, 1) := by decide +kernel
theorem dX10_isFolded_5 : decode cX10_isFolded 5 = .ok (.istore_n 3, 1) := by decide +kernel
theorem dX10_isFolded_6 : decode cX10_isFolded 6 = .ok (.aload_n 0, 1) := by decide +kernel
theorem dX10_isFolded_7 : decode cX10_isFolded 7 = .ok (.iload_n 1, 1) := by decide +kernel
theorem dX10_isFolded_8 : decode cX10_isFolded 8 = .ok (.invokevirtual 177, 3) := by decide +kernel
theorem dX10_isFolded_11 : decode cX10_isFolded 11 = .ok (.ifCond .eq 39, 3) := by decide +kernel
theorem dX10_isFolded_14 : decode cX10_isFolded 14 = .ok (.iload_n 3, 1) := by decide +kernel
theorem dX10_isFolded_15 : decode cX10_isFolded 15 = .ok (.aload_n 0, 1) := by decide +kernel
theorem dX10_isFolded_16 : decode cX10_isFolded 16 = .ok (.getfield 28, 3) := by decide +kernel
theorem dX10_isFolded_19 : decode cX10_isFolded 19 = .ok (.iload_n 1, 1) := by decide +kernel
theorem dX10_isFolded_20 : decode cX10_isFolded 20 = .ok (.iaload, 1) := by decide +kernel
theorem dX10_isFolded_21 : decode cX10_isFolded 21 = .ok (.if_icmp .ge 29, 3) := by decide +kernel
theorem dX10_isFolded_24 : decode cX10_isFolded 24 = .ok (.iload_n 2, 1) := by decide +kernel
theorem dX10_isFolded_25 : decode cX10_isFolded 25 = .ok (.ifCond .ne 13, 3) := by decide +kernel
theorem dX10_isFolded_28 : decode cX10_isFolded 28 = .ok (.aload_n 0, 1) := by decide +kernel
theorem dX10_isFolded_29 : decode cX10_isFolded 29 = .ok (.iload_n 3, 1) := by decide +kernel
theorem dX10_isFolded_30 : decode cX10_isFolded 30 = .ok (.invokevirtual 170, 3) := by decide +kernel
theorem dX10_isFolded_33 : decode cX10_isFolded 33 = .ok (.bipush 47, 2) := by decide +kernel
theorem dX10_isFolded_35 : decode cX10_isFolded 35 = .ok (.if_icmp .ne 7, 3) := by decide +kernel
theorem dX10_isFolded_38 : decode cX10_isFolded 38 = .ok (.iconst 1, 1) := by decide +kernel
theorem dX10_isFolded_39 : decode cX10_isFolded 39 = .ok (.goto 4, 3) := by decide +kernel
theorem dX10_isFolded_42 : decode cX10_isFolded 42 = .ok (.iconst 0, 1) := by decide +kernel
theorem dX10_isFolded_43 : decode cX10_isFolded 43 = .ok (.istore_n 2, 1) := by decide +kernel
theorem dX10_isFolded_44 : decode cX10_isFolded 44 = .ok (.iinc 3 1, 3) := by decide +kernel
theorem dX10_isFolded_47 : decode cX10_isFolded 47 = .ok (.goto (-41), 3) := by decide +kernel
theorem dX10_isFolded_50 : decode cX10_isFolded 50 = .ok (.iload_n 2, 1) := by decide +kernel
theorem dX10_isFolded_51 : decode cX10_isFolded 51 = .ok (.ifCond .eq 15, 3) := by decide +kernel
theorem dX10_isFolded_54 : decode cX10_isFolded 54 = .ok (.aload_n 0, 1) := by decide +kernel
theorem dX10_isFolded_55 : decode cX10_isFolded 55 = .ok (.iload_n 1, 1) := by decide +kernel
theorem dX10_isFolded_56 : decode cX10_isFolded 56 = .ok (.invokevirtual 180, 3) := by decide +kernel
theorem dX10_isFolded_59 : decode cX10_isFolded 59 = .ok (.ifCond .eq 7, 3) := by decide +kernel
theorem dX10_isFolded_62 : decode cX10_isFolded 62 = .ok (.iconst 1, 1) := by decide +kernel
theorem dX10_isFolded_63 : decode cX10_isFolded 63 = .ok (.goto 4, 3) := by decide +kernel
theorem dX10_isFolded_66 : decode cX10_isFolded 66 = .ok (.iconst 0, 1) := by decide +kernel
theorem dX10_isFolded_67 : decode cX10_isFolded 67 = .ok (.ireturn, 1) := by decide +kernel
theorem dX10_isHidden_0 : decode cX10_isHidden 0 = .ok (.iconst 0, 1) := by decide +kernel
theorem dX10_isHidden_1 : decode cX10_isHidden 1 = .ok (.istore_n 2, 1) := by decide +kernel
theorem dX10_isHidden_2 : decode cX10_isHidden 2 = .ok (.iconst 0, 1) := by decide +kernel
theorem dX10_isHidden_3 : decode cX10_isHidden 3 = .ok (.istore_n 3, 1) := by decide +kernel
theorem dX10_isHidden_4 : decode cX10_isHidden 4 = .ok (.iload_n 3, 1) := by decide +kernel
theorem dX10_isHidden_5 : decode cX10_isHidden 5 = .ok (.iload_n 1, 1) := by decide +kernel
theorem dX10_isHidden_6 : decode cX10_isHidden 6 = .ok (.if_icmp .ge 37, 3) := by decide +kernel
theorem dX10_isHidden_9 : decode cX10_isHidden 9 = .ok (.iload_n 2, 1) := by decide +kernel
theorem dX10_isHidden_10 : decode cX10_isHidden 10 = .ok (.ifCond .ne 21, 3) := by decide +kernel
theorem dX10_isHidden_13 : decode cX10_isHidden 13 = .ok (.aload_n 0, 1) := by decide +kernel
theorem dX10_isHidden_14 : decode cX10_isHidden 14 = .ok (.getfield 28, 3) := by decide +kernel
theorem dX10_isHidden_17 : decode cX10_isHidden 17 = .ok (.iload_n 3, 1) := by decide +kernel
theorem dX10_isHidden_18 : decode cX10_isHidden 18 = .ok (.iaload, 1) := by decide +kernel
theorem dX10_isHidden_19 : decode cX10_isHidden 19 = .ok (.iload_n 1, 1) := by decide +kernel
theorem dX10_isHidden_20 : decode cX10_isHidden 20 = .ok (.if_icmp .le 15, 3) := by decide +kernel
theorem dX10_isHidden_23 : decode cX10_isHidden 23 = .ok (.aload_n 0, 1) := by decide +kernel
theorem dX10_isHidden_24 : decode cX10_isHidden 24 = .ok (.iload_n 3, 1) := by decide +kernel
theorem dX10_isHidden_25 : decode cX10_isHidden 25 = .ok (.invokevirtual 183, 3) := by decide +kernel
theorem dX10_isHidden_28 : decode cX10_isHidden 28 = .ok (.ifCond .eq 7, 3) := by decide +kernel
theorem dX10_isHidden_31 : decode cX10_isHidden 31 = .ok (.iconst 1, 1) := by decide +kernel
theorem dX10_isHidden_32 : decode cX10_isHidden 32 = .ok (.goto 4, 3) := by decide +kernel
theorem dX10_isHidden_35 : decode cX10_isHidden 35 = .ok (.iconst 0, 1) := by decide +kernel
theorem dX10_isHidden_36 : decode cX10_isHidden 36 = .ok (.istore_n 2, 1) := by decide +kernel
theorem dX10_isHidden_37 : decode cX10_isHidden 37 = .ok (.iinc 3 1, 3) := by decide +kernel
theorem dX10_isHidden_40 : decode cX10_isHidden 40 = .ok (.goto (-36), 3) := by decide +kernel
theorem dX10_isHidden_43 : decode cX10_isHidden 43 = .ok (.iload_n 2, 1) := by decide +kernel
theorem dX10_isHidden_44 : decode cX10_isHidden 44 = .ok (.ireturn, 1) := by decide +kernel
theorem dX10_levelOf_0 : decode cX10_levelOf 0 = .ok (.iconst 0, 1) := by decide +kernel
theorem dX10_levelOf_1 : decode cX10_levelOf 1 = .ok (.istore_n 2, 1) := by decide +kernel
theorem dX10_levelOf_2 : decode cX10_levelOf 2 = .ok (.iconst 0, 1) := by decide +kernel
theorem dX10_levelOf_3 : decode cX10_levelOf 3 = .ok (.istore_n 3, 1) := by decide +kernel
theorem dX10_levelOf_4 : decode cX10_levelOf 4 = .ok (.iload_n 3, 1) := by decide +kernel
theorem dX10_levelOf_5 : decode cX10_levelOf 5 = .ok (.iload_n 1, 1) := by decide +kernel
theorem dX10_levelOf_6 : decode cX10_levelOf 6 = .ok (.if_icmp .ge 27, 3) := by decide +kernel
theorem dX10_levelOf_9 : decode cX10_levelOf 9 = .ok (.iload_n 2, 1) := by decide +kernel
theorem dX10_levelOf_10 : decode cX10_levelOf 10 = .ok (.aload_n 0, 1) := by decide +kernel
theorem dX10_levelOf_11 : decode cX10_levelOf 11 = .ok (.getfield 28, 3) := by decide +kernel
theorem dX10_levelOf_14 : decode cX10_levelOf 14 = .ok (.iload_n 3, 1) := by decide +kernel
theorem dX10_levelOf_15 : decode cX10_levelOf 15 = .ok (.iaload, 1) := by decide +kernel
theorem dX10_levelOf_16 : decode cX10_levelOf 16 = .ok (.iload_n 1, 1) := by decide +kernel
theorem dX10_levelOf_17 : decode cX10_levelOf 17 = .ok (.if_icmp .le 7, 3) := by decide +kernel
theorem dX10_levelOf_20 : decode cX10_levelOf 20 = .ok (.iconst 1, 1) := by decide +kernel
theorem dX10_levelOf_21 : decode cX10_levelOf 21 = .ok (.goto 4, 3) := by decide +kernel
theorem dX10_levelOf_24 : decode cX10_levelOf 24 = .ok (.iconst 0, 1) := by decide +kernel
theorem dX10_levelOf_25 : decode cX10_levelOf 25 = .ok (.iadd, 1) := by decide +kernel
theorem dX10_levelOf_26 : decode cX10_levelOf 26 = .ok (.istore_n 2, 1) := by decide +kernel
theorem dX10_levelOf_27 : decode cX10_levelOf 27 = .ok (.iinc 3 1, 3) := by decide +kernel
theorem dX10_levelOf_30 : decode cX10_levelOf 30 = .ok (.goto (-26), 3) := by decide +kernel
theorem dX10_levelOf_33 : decode cX10_levelOf 33 = .ok (.iload_n 2, 1) := by decide +kernel
theorem dX10_levelOf_34 : decode cX10_levelOf 34 = .ok (.ireturn, 1) := by decide +kernel
theorem dX10_depthAt_0 : decode cX10_depthAt 0 = .ok (.iconst 0, 1) := by decide +kernel
theorem dX10_depthAt_1 : decode cX10_depthAt 1 = .ok (.istore_n 2, 1) := by decide +kernel
theorem dX10_depthAt_2 : decode cX10_depthAt 2 = .ok (.iconst 0, 1) := by decide +kernel
theorem dX10_depthAt_3 : decode cX10_depthAt 3 = .ok (.istore_n 3, 1) := by decide +kernel
theorem dX10_depthAt_4 : decode cX10_depthAt 4 = .ok (.iload_n 3, 1) := by decide +kernel
theorem dX10_depthAt_5 : decode cX10_depthAt 5 = .ok (.iload_n 1, 1) := by decide +kernel
theorem dX10_depthAt_6 : decode cX10_depthAt 6 = .ok (.if_icmp .ge 43, 3) := by decide +kernel
theorem dX10_depthAt_9 : decode cX10_depthAt 9 = .ok (.iload_n 2, 1) := by decide +kernel
theorem dX10_depthAt_10 : decode cX10_depthAt 10 = .ok (.aload_n 0, 1) := by decide +kernel
theorem dX10_depthAt_11 : decode cX10_depthAt 11 = .ok (.iload_n 3, 1) := by decide +kernel
theorem dX10_depthAt_12 : decode cX10_depthAt 12 = .ok (.invokevirtual 170, 3) := by decide +kernel
theorem dX10_depthAt_15 : decode cX10_depthAt 15 = .ok (.invokestatic 142, 3) := by decide +kernel
theorem dX10_depthAt_18 : decode cX10_depthAt 18 = .ok (.ifCond .eq 7, 3) := by decide +kernel
theorem dX10_depthAt_21 : decode cX10_depthAt 21 = .ok (.iconst 1, 1) := by decide +kernel
theorem dX10_depthAt_22 : decode cX10_depthAt 22 = .ok (.goto 19, 3) := by decide +kernel
theorem dX10_depthAt_25 : decode cX10_depthAt 25 = .ok (.aload_n 0, 1) := by decide +kernel
theorem dX10_depthAt_26 : decode cX10_depthAt 26 = .ok (.iload_n 3, 1) := by decide +kernel
theorem dX10_depthAt_27 : decode cX10_depthAt 27 = .ok (.invokevirtual 170, 3) := by decide +kernel
theorem dX10_depthAt_30 : decode cX10_depthAt 30 = .ok (.invokestatic 186, 3) := by decide +kernel
theorem dX10_depthAt_33 : decode cX10_depthAt 33 = .ok (.ifCond .eq 7, 3) := by decide +kernel
theorem dX10_depthAt_36 : decode cX10_depthAt 36 = .ok (.iconst (-1), 1) := by decide +kernel
theorem dX10_depthAt_37 : decode cX10_depthAt 37 = .ok (.goto 4, 3) := by decide +kernel
theorem dX10_depthAt_40 : decode cX10_depthAt 40 = .ok (.iconst 0, 1) := by decide +kernel
theorem dX10_depthAt_41 : decode cX10_depthAt 41 = .ok (.iadd, 1) := by decide +kernel
theorem dX10_depthAt_42 : decode cX10_depthAt 42 = .ok (.istore_n 2, 1) := by decide +kernel
theorem dX10_depthAt_43 : decode cX10_depthAt 43 = .ok (.iinc 3 1, 3) := by decide +kernel
theorem dX10_depthAt_46 : decode cX10_depthAt 46 = .ok (.goto (-42), 3) := by decide +kernel
theorem dX10_depthAt_49 : decode cX10_depthAt 49 = .ok (.iload_n 2, 1) := by decide +kernel
theorem dX10_depthAt_50 : decode cX10_depthAt 50 = .ok (.ireturn, 1) := by decide +kernel
theorem dX10_linesTo_0 : decode cX10_linesTo 0 = .ok (.iconst 0, 1) := by decide +kernel
theorem dX10_linesTo_1 : decode cX10_linesTo 1 = .ok (.istore_n 2, 1) := by decide +kernel
theorem dX10_linesTo_2 : decode cX10_linesTo 2 = .ok (.iconst 0, 1) := by decide +kernel
theorem dX10_linesTo_3 : decode cX10_linesTo 3 = .ok (.istore_n 3, 1) := by decide +kernel
theorem dX10_linesTo_4 : decode cX10_linesTo 4 = .ok (.iload_n 3, 1) := by decide +kernel
theorem dX10_linesTo_5 : decode cX10_linesTo 5 = .ok (.iload_n 1, 1) := by decide +kernel
theorem dX10_linesTo_6 : decode cX10_linesTo 6 = .ok (.if_icmp .ge 27, 3) := by decide +kernel
theorem dX10_linesTo_9 : decode cX10_linesTo 9 = .ok (.iload_n 2, 1) := by decide +kernel
theorem dX10_linesTo_10 : decode cX10_linesTo 10 = .ok (.aload_n 0, 1) := by decide +kernel
theorem dX10_linesTo_11 : decode cX10_linesTo 11 = .ok (.iload_n 3, 1) := by decide +kernel
theorem dX10_linesTo_12 : decode cX10_linesTo 12 = .ok (.invokevirtual 170, 3) := by decide +kernel
theorem dX10_linesTo_15 : decode cX10_linesTo 15 = .ok (.bipush 47, 2) := by decide +kernel
theorem dX10_linesTo_17 : decode cX10_linesTo 17 = .ok (.if_icmp .ne 7, 3) := by decide +kernel
theorem dX10_linesTo_20 : decode cX10_linesTo 20 = .ok (.iconst 1, 1) := by decide +kernel
theorem dX10_linesTo_21 : decode cX10_linesTo 21 = .ok (.goto 4, 3) := by decide +kernel
theorem dX10_linesTo_24 : decode cX10_linesTo 24 = .ok (.iconst 0, 1) := by decide +kernel
theorem dX10_linesTo_25 : decode cX10_linesTo 25 = .ok (.iadd, 1) := by decide +kernel
theorem dX10_linesTo_26 : decode cX10_linesTo 26 = .ok (.istore_n 2, 1) := by decide +kernel
theorem dX10_linesTo_27 : decode cX10_linesTo 27 = .ok (.iinc 3 1, 3) := by decide +kernel
theorem dX10_linesTo_30 : decode cX10_linesTo 30 = .ok (.goto (-26), 3) := by decide +kernel
theorem dX10_linesTo_33 : decode cX10_linesTo 33 = .ok (.iload_n 2, 1) := by decide +kernel
theorem dX10_linesTo_34 : decode cX10_linesTo 34 = .ok (.ireturn, 1) := by decide +kernel
theorem dX10_isCounted_0 : decode cX10_isCounted 0 = .ok (.iload_n 1, 1) := by decide +kernel
theorem dX10_isCounted_1 : decode cX10_isCounted 1 = .ok (.tableswitch 81 2 6 #[35, 41, 47, 69, 75], 35) := by decide +kernel
theorem dX10_isCounted_36 : decode cX10_isCounted 36 = .ok (.aload_n 0, 1) := by decide +kernel
theorem dX10_isCounted_37 : decode cX10_isCounted 37 = .ok (.iload_n 2, 1) := by decide +kernel
theorem dX10_isCounted_38 : decode cX10_isCounted 38 = .ok (.invokevirtual 177, 3) := by decide +kernel
theorem dX10_isCounted_41 : decode cX10_isCounted 41 = .ok (.ireturn, 1) := by decide +kernel
theorem dX10_isCounted_42 : decode cX10_isCounted 42 = .ok (.aload_n 0, 1) := by decide +kernel
theorem dX10_isCounted_43 : decode cX10_isCounted 43 = .ok (.iload_n 2, 1) := by decide +kernel
theorem dX10_isCounted_44 : decode cX10_isCounted 44 = .ok (.invokevirtual 189, 3) := by decide +kernel
theorem dX10_isCounted_47 : decode cX10_isCounted 47 = .ok (.ireturn, 1) := by decide +kernel
theorem dX10_isCounted_48 : decode cX10_isCounted 48 = .ok (.aload_n 0, 1) := by decide +kernel
theorem dX10_isCounted_49 : decode cX10_isCounted 49 = .ok (.iload_n 2, 1) := by decide +kernel
theorem dX10_isCounted_50 : decode cX10_isCounted 50 = .ok (.invokevirtual 177, 3) := by decide +kernel
theorem dX10_isCounted_53 : decode cX10_isCounted 53 = .ok (.ifCond .eq 15, 3) := by decide +kernel
theorem dX10_isCounted_56 : decode cX10_isCounted 56 = .ok (.aload_n 0, 1) := by decide +kernel
theorem dX10_isCounted_57 : decode cX10_isCounted 57 = .ok (.iload_n 2, 1) := by decide +kernel
theorem dX10_isCounted_58 : decode cX10_isCounted 58 = .ok (.invokevirtual 192, 3) := by decide +kernel
theorem dX10_isCounted_61 : decode cX10_isCounted 61 = .ok (.ifCond .eq 7, 3) := by decide +kernel
theorem dX10_isCounted_64 : decode cX10_isCounted 64 = .ok (.iconst 1, 1) := by decide +kernel
theorem dX10_isCounted_65 : decode cX10_isCounted 65 = .ok (.goto 4, 3) := by decide +kernel
theorem dX10_isCounted_68 : decode cX10_isCounted 68 = .ok (.iconst 0, 1) := by decide +kernel
theorem dX10_isCounted_69 : decode cX10_isCounted 69 = .ok (.ireturn, 1) := by decide +kernel
theorem dX10_isCounted_70 : decode cX10_isCounted 70 = .ok (.aload_n 0, 1) := by decide +kernel
theorem dX10_isCounted_71 : decode cX10_isCounted 71 = .ok (.iload_n 2, 1) := by decide +kernel
theorem dX10_isCounted_72 : decode cX10_isCounted 72 = .ok (.invokevirtual 183, 3) := by decide +kernel
theorem dX10_isCounted_75 : decode cX10_isCounted 75 = .ok (.ireturn, 1) := by decide +kernel
theorem dX10_isCounted_76 : decode cX10_isCounted 76 = .ok (.aload_n 0, 1) := by decide +kernel
theorem dX10_isCounted_77 : decode cX10_isCounted 77 = .ok (.iload_n 2, 1) := by decide +kernel
theorem dX10_isCounted_78 : decode cX10_isCounted 78 = .ok (.invokevirtual 195, 3) := by decide +kernel
theorem dX10_isCounted_81 : decode cX10_isCounted 81 = .ok (.ireturn, 1) := by decide +kernel
theorem dX10_isCounted_82 : decode cX10_isCounted 82 = .ok (.aload_n 0, 1) := by decide +kernel
theorem dX10_isCounted_83 : decode cX10_isCounted 83 = .ok (.iload_n 2, 1) := by decide +kernel
theorem dX10_isCounted_84 : decode cX10_isCounted 84 = .ok (.invokevirtual 180, 3) := by decide +kernel
theorem dX10_isCounted_87 : decode cX10_isCounted 87 = .ok (.ireturn, 1) := by decide +kernel
theorem dX10_counted_0 : decode cX10_counted 0 = .ok (.aload_n 0, 1) := by decide +kernel
theorem dX10_counted_1 : decode cX10_counted 1 = .ok (.invokevirtual 198, 3) := by decide +kernel
theorem dX10_counted_4 : decode cX10_counted 4 = .ok (.iconst 0, 1) := by decide +kernel
theorem dX10_counted_5 : decode cX10_counted 5 = .ok (.istore_n 2, 1) := by decide +kernel
theorem dX10_counted_6 : decode cX10_counted 6 = .ok (.iconst 0, 1) := by decide +kernel
theorem dX10_counted_7 : decode cX10_counted 7 = .ok (.istore_n 3, 1) := by decide +kernel
theorem dX10_counted_8 : decode cX10_counted 8 = .ok (.iload_n 3, 1) := by decide +kernel
theorem dX10_counted_9 : decode cX10_counted 9 = .ok (.aload_n 0, 1) := by decide +kernel
theorem dX10_counted_10 : decode cX10_counted 10 = .ok (.invokevirtual 165, 3) := by decide +kernel
theorem dX10_counted_13 : decode cX10_counted 13 = .ok (.if_icmp .ge 26, 3) := by decide +kernel
theorem dX10_counted_16 : decode cX10_counted 16 = .ok (.iload_n 2, 1) := by decide +kernel
theorem dX10_counted_17 : decode cX10_counted 17 = .ok (.aload_n 0, 1) := by decide +kernel
theorem dX10_counted_18 : decode cX10_counted 18 = .ok (.iload_n 1, 1) := by decide +kernel
theorem dX10_counted_19 : decode cX10_counted 19 = .ok (.iload_n 3, 1) := by decide +kernel
theorem dX10_counted_20 : decode cX10_counted 20 = .ok (.invokevirtual 201, 3) := by decide +kernel
theorem dX10_counted_23 : decode cX10_counted 23 = .ok (.ifCond .eq 7, 3) := by decide +kernel
theorem dX10_counted_26 : decode cX10_counted 26 = .ok (.iconst 1, 1) := by decide +kernel
theorem dX10_counted_27 : decode cX10_counted 27 = .ok (.goto 4, 3) := by decide +kernel
theorem dX10_counted_30 : decode cX10_counted 30 = .ok (.iconst 0, 1) := by decide +kernel
theorem dX10_counted_31 : decode cX10_counted 31 = .ok (.iadd, 1) := by decide +kernel
theorem dX10_counted_32 : decode cX10_counted 32 = .ok (.istore_n 2, 1) := by decide +kernel
theorem dX10_counted_33 : decode cX10_counted 33 = .ok (.iinc 3 1, 3) := by decide +kernel
theorem dX10_counted_36 : decode cX10_counted 36 = .ok (.goto (-28), 3) := by decide +kernel
theorem dX10_counted_39 : decode cX10_counted 39 = .ok (.iload_n 2, 1) := by decide +kernel
theorem dX10_counted_40 : decode cX10_counted 40 = .ok (.ireturn, 1) := by decide +kernel
theorem dX10_greatestLevel_0 : decode cX10_greatestLevel 0 = .ok (.aload_n 0, 1) := by decide +kernel
theorem dX10_greatestLevel_1 : decode cX10_greatestLevel 1 = .ok (.invokevirtual 198, 3) := by decide +kernel
theorem dX10_greatestLevel_4 : decode cX10_greatestLevel 4 = .ok (.iconst 0, 1) := by decide +kernel
theorem dX10_greatestLevel_5 : decode cX10_greatestLevel 5 = .ok (.istore_n 1, 1) := by decide +kernel
theorem dX10_greatestLevel_6 : decode cX10_greatestLevel 6 = .ok (.iconst 0, 1) := by decide +kernel
theorem dX10_greatestLevel_7 : decode cX10_greatestLevel 7 = .ok (.istore_n 2, 1) := by decide +kernel
theorem dX10_greatestLevel_8 : decode cX10_greatestLevel 8 = .ok (.iload_n 2, 1) := by decide +kernel
theorem dX10_greatestLevel_9 : decode cX10_greatestLevel 9 = .ok (.aload_n 0, 1) := by decide +kernel
theorem dX10_greatestLevel_10 : decode cX10_greatestLevel 10 = .ok (.invokevirtual 165, 3) := by decide +kernel
theorem dX10_greatestLevel_13 : decode cX10_greatestLevel 13 = .ok (.if_icmp .ge 28, 3) := by decide +kernel
theorem dX10_greatestLevel_16 : decode cX10_greatestLevel 16 = .ok (.aload_n 0, 1) := by decide +kernel
theorem dX10_greatestLevel_17 : decode cX10_greatestLevel 17 = .ok (.iload_n 2, 1) := by decide +kernel
theorem dX10_greatestLevel_18 : decode cX10_greatestLevel 18 = .ok (.invokevirtual 205, 3) := by decide +kernel
theorem dX10_greatestLevel_21 : decode cX10_greatestLevel 21 = .ok (.iload_n 1, 1) := by decide +kernel
theorem dX10_greatestLevel_22 : decode cX10_greatestLevel 22 = .ok (.if_icmp .le 11, 3) := by decide +kernel
theorem dX10_greatestLevel_25 : decode cX10_greatestLevel 25 = .ok (.aload_n 0, 1) := by decide +kernel
theorem dX10_greatestLevel_26 : decode cX10_greatestLevel 26 = .ok (.iload_n 2, 1) := by decide +kernel
theorem dX10_greatestLevel_27 : decode cX10_greatestLevel 27 = .ok (.invokevirtual 205, 3) := by decide +kernel
theorem dX10_greatestLevel_30 : decode cX10_greatestLevel 30 = .ok (.goto 4, 3) := by decide +kernel
theorem dX10_greatestLevel_33 : decode cX10_greatestLevel 33 = .ok (.iload_n 1, 1) := by decide +kernel
theorem dX10_greatestLevel_34 : decode cX10_greatestLevel 34 = .ok (.istore_n 1, 1) := by decide +kernel
theorem dX10_greatestLevel_35 : decode cX10_greatestLevel 35 = .ok (.iinc 2 1, 3) := by decide +kernel
theorem dX10_greatestLevel_38 : decode cX10_greatestLevel 38 = .ok (.goto (-30), 3) := by decide +kernel
theorem dX10_greatestLevel_41 : decode cX10_greatestLevel 41 = .ok (.iload_n 1, 1) := by decide +kernel
theorem dX10_greatestLevel_42 : decode cX10_greatestLevel 42 = .ok (.ireturn, 1) := by decide +kernel
theorem dX10_rule_0 : decode cX10_rule 0 = .ok (.iload_n 1, 1) := by decide +kernel
theorem dX10_rule_1 : decode cX10_rule 1 = .ok (.tableswitch 90 0 10 #[59, 64, 90, 90, 90, 90, 90, 90, 75, 80, 85], 59) := by decide +kernel
theorem dX10_rule_60 : decode cX10_rule 60 = .ok (.aload_n 0, 1) := by decide +kernel
theorem dX10_rule_61 : decode cX10_rule 61 = .ok (.invokevirtual 165, 3) := by decide +kernel
theorem dX10_rule_64 : decode cX10_rule 64 = .ok (.ireturn, 1) := by decide +kernel
theorem dX10_rule_65 : decode cX10_rule 65 = .ok (.aload_n 0, 1) := by decide +kernel
theorem dX10_rule_66 : decode cX10_rule 66 = .ok (.aload_n 0, 1) := by decide +kernel
theorem dX10_rule_67 : decode cX10_rule 67 = .ok (.invokevirtual 165, 3) := by decide +kernel
theorem dX10_rule_70 : decode cX10_rule 70 = .ok (.invokevirtual 208, 3) := by decide +kernel
theorem dX10_rule_73 : decode cX10_rule 73 = .ok (.iconst 1, 1) := by decide +kernel
theorem dX10_rule_74 : decode cX10_rule 74 = .ok (.iadd, 1) := by decide +kernel
theorem dX10_rule_75 : decode cX10_rule 75 = .ok (.ireturn, 1) := by decide +kernel
theorem dX10_rule_76 : decode cX10_rule 76 = .ok (.aload_n 0, 1) := by decide +kernel
theorem dX10_rule_77 : decode cX10_rule 77 = .ok (.getfield 159, 3) := by decide +kernel
theorem dX10_rule_80 : decode cX10_rule 80 = .ok (.ireturn, 1) := by decide +kernel
theorem dX10_rule_81 : decode cX10_rule 81 = .ok (.aload_n 0, 1) := by decide +kernel
theorem dX10_rule_82 : decode cX10_rule 82 = .ok (.getfield 162, 3) := by decide +kernel
theorem dX10_rule_85 : decode cX10_rule 85 = .ok (.ireturn, 1) := by decide +kernel
theorem dX10_rule_86 : decode cX10_rule 86 = .ok (.aload_n 0, 1) := by decide +kernel
theorem dX10_rule_87 : decode cX10_rule 87 = .ok (.invokevirtual 211, 3) := by decide +kernel
theorem dX10_rule_90 : decode cX10_rule 90 = .ok (.ireturn, 1) := by decide +kernel
theorem dX10_rule_91 : decode cX10_rule 91 = .ok (.iload_n 1, 1) := by decide +kernel
theorem dX10_rule_92 : decode cX10_rule 92 = .ok (.i2l, 1) := by decide +kernel
theorem dX10_rule_93 : decode cX10_rule 93 = .ok (.ldc2_w 168, 3) := by decide +kernel
theorem dX10_rule_96 : decode cX10_rule 96 = .ok (.ldc2_w 214, 3) := by decide +kernel
theorem dX10_rule_99 : decode cX10_rule 99 = .ok (.invokestatic 61, 3) := by decide +kernel
theorem dX10_rule_102 : decode cX10_rule 102 = .ok (.ifCond .eq 11, 3) := by decide +kernel
theorem dX10_rule_105 : decode cX10_rule 105 = .ok (.aload_n 0, 1) := by decide +kernel
theorem dX10_rule_106 : decode cX10_rule 106 = .ok (.iload_n 1, 1) := by decide +kernel
theorem dX10_rule_107 : decode cX10_rule 107 = .ok (.invokevirtual 216, 3) := by decide +kernel
theorem dX10_rule_110 : decode cX10_rule 110 = .ok (.goto 4, 3) := by decide +kernel
theorem dX10_rule_113 : decode cX10_rule 113 = .ok (.iconst (-1), 1) := by decide +kernel
theorem dX10_rule_114 : decode cX10_rule 114 = .ok (.ireturn, 1) := by decide +kernel
theorem dX10_isThere_0 : decode cX10_isThere 0 = .ok (.iload_n 1, 1) := by decide +kernel
theorem dX10_isThere_1 : decode cX10_isThere 1 = .ok (.i2l, 1) := by decide +kernel
theorem dX10_isThere_2 : decode cX10_isThere 2 = .ok (.lconst 0, 1) := by decide +kernel
theorem dX10_isThere_3 : decode cX10_isThere 3 = .ok (.aload_n 0, 1) := by decide +kernel
theorem dX10_isThere_4 : decode cX10_isThere 4 = .ok (.invokevirtual 165, 3) := by decide +kernel
theorem dX10_isThere_7 : decode cX10_isThere 7 = .ok (.iconst 1, 1) := by decide +kernel
theorem dX10_isThere_8 : decode cX10_isThere 8 = .ok (.isub, 1) := by decide +kernel
theorem dX10_isThere_9 : decode cX10_isThere 9 = .ok (.i2l, 1) := by decide +kernel
theorem dX10_isThere_10 : decode cX10_isThere 10 = .ok (.invokestatic 61, 3) := by decide +kernel
theorem dX10_isThere_13 : decode cX10_isThere 13 = .ok (.ireturn, 1) := by decide +kernel
theorem dX10_isPlace_0 : decode cX10_isPlace 0 = .ok (.iload_n 1, 1) := by decide +kernel
theorem dX10_isPlace_1 : decode cX10_isPlace 1 = .ok (.i2l, 1) := by decide +kernel
theorem dX10_isPlace_2 : decode cX10_isPlace 2 = .ok (.lconst 0, 1) := by decide +kernel
theorem dX10_isPlace_3 : decode cX10_isPlace 3 = .ok (.aload_n 0, 1) := by decide +kernel
theorem dX10_isPlace_4 : decode cX10_isPlace 4 = .ok (.invokevirtual 165, 3) := by decide +kernel
theorem dX10_isPlace_7 : decode cX10_isPlace 7 = .ok (.i2l, 1) := by decide +kernel
theorem dX10_isPlace_8 : decode cX10_isPlace 8 = .ok (.invokestatic 61, 3) := by decide +kernel
theorem dX10_isPlace_11 : decode cX10_isPlace 11 = .ok (.ireturn, 1) := by decide +kernel
theorem dX10_sign_0 : decode cX10_sign 0 = .ok (.aload_n 0, 1) := by decide +kernel
theorem dX10_sign_1 : decode cX10_sign 1 = .ok (.iload_n 1, 1) := by decide +kernel
theorem dX10_sign_2 : decode cX10_sign 2 = .ok (.invokevirtual 219, 3) := by decide +kernel
theorem dX10_sign_5 : decode cX10_sign 5 = .ok (.ifCond .ne 5, 3) := by decide +kernel
theorem dX10_sign_8 : decode cX10_sign 8 = .ok (.iconst (-1), 1) := by decide +kernel
theorem dX10_sign_9 : decode cX10_sign 9 = .ok (.ireturn, 1) := by decide +kernel
theorem dX10_sign_10 : decode cX10_sign 10 = .ok (.aload_n 0, 1) := by decide +kernel
theorem dX10_sign_11 : decode cX10_sign 11 = .ok (.invokevirtual 198, 3) := by decide +kernel
theorem dX10_sign_14 : decode cX10_sign 14 = .ok (.iload_n 2, 1) := by decide +kernel
theorem dX10_sign_15 : decode cX10_sign 15 = .ok (.tableswitch 129 0 8 #[49, 55, 61, 67, 74, 81, 95, 109, 123], 49) := by decide +kernel
theorem dX10_sign_64 : decode cX10_sign 64 = .ok (.aload_n 0, 1) := by decide +kernel
theorem dX10_sign_65 : decode cX10_sign 65 = .ok (.iload_n 1, 1) := by decide +kernel
theorem dX10_sign_66 : decode cX10_sign 66 = .ok (.invokevirtual 170, 3) := by decide +kernel
theorem dX10_sign_69 : decode cX10_sign 69 = .ok (.ireturn, 1) := by decide +kernel
theorem dX10_sign_70 : decode cX10_sign 70 = .ok (.aload_n 0, 1) := by decide +kernel
theorem dX10_sign_71 : decode cX10_sign 71 = .ok (.iload_n 1, 1) := by decide +kernel
theorem dX10_sign_72 : decode cX10_sign 72 = .ok (.invokevirtual 222, 3) := by decide +kernel
theorem dX10_sign_75 : decode cX10_sign 75 = .ok (.ireturn, 1) := by decide +kernel
theorem dX10_sign_76 : decode cX10_sign 76 = .ok (.aload_n 0, 1) := by decide +kernel
theorem dX10_sign_77 : decode cX10_sign 77 = .ok (.iload_n 1, 1) := by decide +kernel
theorem dX10_sign_78 : decode cX10_sign 78 = .ok (.invokevirtual 205, 3) := by decide +kernel
theorem dX10_sign_81 : decode cX10_sign 81 = .ok (.ireturn, 1) := by decide +kernel
theorem dX10_sign_82 : decode cX10_sign 82 = .ok (.aload_n 0, 1) := by decide +kernel
theorem dX10_sign_83 : decode cX10_sign 83 = .ok (.getfield 28, 3) := by decide +kernel
theorem dX10_sign_86 : decode cX10_sign 86 = .ok (.iload_n 1, 1) := by decide +kernel
theorem dX10_sign_87 : decode cX10_sign 87 = .ok (.iaload, 1) := by decide +kernel
theorem dX10_sign_88 : decode cX10_sign 88 = .ok (.ireturn, 1) := by decide +kernel
theorem dX10_sign_89 : decode cX10_sign 89 = .ok (.aload_n 0, 1) := by decide +kernel
theorem dX10_sign_90 : decode cX10_sign 90 = .ok (.getfield 31, 3) := by decide +kernel
theorem dX10_sign_93 : decode cX10_sign 93 = .ok (.iload_n 1, 1) := by decide +kernel
theorem dX10_sign_94 : decode cX10_sign 94 = .ok (.iaload, 1) := by decide +kernel
theorem dX10_sign_95 : decode cX10_sign 95 = .ok (.ireturn, 1) := by decide +kernel
theorem dX10_sign_96 : decode cX10_sign 96 = .ok (.aload_n 0, 1) := by decide +kernel
theorem dX10_sign_97 : decode cX10_sign 97 = .ok (.iload_n 1, 1) := by decide +kernel
theorem dX10_sign_98 : decode cX10_sign 98 = .ok (.invokevirtual 192, 3) := by decide +kernel
theorem dX10_sign_101 : decode cX10_sign 101 = .ok (.ifCond .eq 7, 3) := by decide +kernel
theorem dX10_sign_104 : decode cX10_sign 104 = .ok (.iconst 1, 1) := by decide +kernel
theorem dX10_sign_105 : decode cX10_sign 105 = .ok (.goto 4, 3) := by decide +kernel
theorem dX10_sign_108 : decode cX10_sign 108 = .ok (.iconst 0, 1) := by decide +kernel
theorem dX10_sign_109 : decode cX10_sign 109 = .ok (.ireturn, 1) := by decide +kernel
theorem dX10_sign_110 : decode cX10_sign 110 = .ok (.aload_n 0, 1) := by decide +kernel
theorem dX10_sign_111 : decode cX10_sign 111 = .ok (.iload_n 1, 1) := by decide +kernel
theorem dX10_sign_112 : decode cX10_sign 112 = .ok (.invokevirtual 180, 3) := by decide +kernel
theorem dX10_sign_115 : decode cX10_sign 115 = .ok (.ifCond .eq 7, 3) := by decide +kernel
theorem dX10_sign_118 : decode cX10_sign 118 = .ok (.iconst 1, 1) := by decide +kernel
theorem dX10_sign_119 : decode cX10_sign 119 = .ok (.goto 4, 3) := by decide +kernel
theorem dX10_sign_122 : decode cX10_sign 122 = .ok (.iconst 0, 1) := by decide +kernel
theorem dX10_sign_123 : decode cX10_sign 123 = .ok (.ireturn, 1) := by decide +kernel
theorem dX10_sign_124 : decode cX10_sign 124 = .ok (.aload_n 0, 1) := by decide +kernel
theorem dX10_sign_125 : decode cX10_sign 125 = .ok (.iload_n 1, 1) := by decide +kernel
theorem dX10_sign_126 : decode cX10_sign 126 = .ok (.invokevirtual 195, 3) := by decide +kernel
theorem dX10_sign_129 : decode cX10_sign 129 = .ok (.ifCond .eq 7, 3) := by decide +kernel
theorem dX10_sign_132 : decode cX10_sign 132 = .ok (.iconst 1, 1) := by decide +kernel
theorem dX10_sign_133 : decode cX10_sign 133 = .ok (.goto 4, 3) := by decide +kernel
theorem dX10_sign_136 : decode cX10_sign 136 = .ok (.iconst 0, 1) := by decide +kernel
theorem dX10_sign_137 : decode cX10_sign 137 = .ok (.ireturn, 1) := by decide +kernel
theorem dX10_sign_138 : decode cX10_sign 138 = .ok (.aload_n 0, 1) := by decide +kernel
theorem dX10_sign_139 : decode cX10_sign 139 = .ok (.iload_n 1, 1) := by decide +kernel
theorem dX10_sign_140 : decode cX10_sign 140 = .ok (.invokevirtual 208, 3) := by decide +kernel
theorem dX10_sign_143 : decode cX10_sign 143 = .ok (.ireturn, 1) := by decide +kernel
theorem dX10_sign_144 : decode cX10_sign 144 = .ok (.iconst (-1), 1) := by decide +kernel
theorem dX10_sign_145 : decode cX10_sign 145 = .ok (.ireturn, 1) := by decide +kernel
theorem dX10_low_0 : decode cX10_low 0 = .ok (.aload_n 0, 1) := by decide +kernel
theorem dX10_low_1 : decode cX10_low 1 = .ok (.iload_n 1, 1) := by decide +kernel
theorem dX10_low_2 : decode cX10_low 2 = .ok (.invokevirtual 225, 3) := by decide +kernel
theorem dX10_low_5 : decode cX10_low 5 = .ok (.ifCond .eq 16, 3) := by decide +kernel
theorem dX10_low_8 : decode cX10_low 8 = .ok (.aload_n 0, 1) := by decide +kernel
theorem dX10_low_9 : decode cX10_low 9 = .ok (.iload_n 2, 1) := by decide +kernel
theorem dX10_low_10 : decode cX10_low 10 = .ok (.invokevirtual 225, 3) := by decide +kernel
theorem dX10_low_13 : decode cX10_low 13 = .ok (.ifCond .eq 8, 3) := by decide +kernel
theorem dX10_low_16 : decode cX10_low 16 = .ok (.iload_n 2, 1) := by decide +kernel
theorem dX10_low_17 : decode cX10_low 17 = .ok (.iload_n 1, 1) := by decide +kernel
theorem dX10_low_18 : decode cX10_low 18 = .ok (.if_icmp .ge 5, 3) := by decide +kernel
theorem dX10_low_21 : decode cX10_low 21 = .ok (.iconst (-1), 1) := by decide +kernel
theorem dX10_low_22 : decode cX10_low 22 = .ok (.ireturn, 1) := by decide +kernel
theorem dX10_low_23 : decode cX10_low 23 = .ok (.aload_n 0, 1) := by decide +kernel
theorem dX10_low_24 : decode cX10_low 24 = .ok (.iload_n 1, 1) := by decide +kernel
theorem dX10_low_25 : decode cX10_low 25 = .ok (.invokevirtual 222, 3) := by decide +kernel
theorem dX10_low_28 : decode cX10_low 28 = .ok (.istore_n 3, 1) := by decide +kernel
theorem dX10_low_29 : decode cX10_low 29 = .ok (.iload_n 1, 1) := by decide +kernel
theorem dX10_low_30 : decode cX10_low 30 = .ok (.istore 4, 2) := by decide +kernel
theorem dX10_low_32 : decode cX10_low 32 = .ok (.iload 4, 2) := by decide +kernel
theorem dX10_low_34 : decode cX10_low 34 = .ok (.iload_n 2, 1) := by decide +kernel
theorem dX10_low_35 : decode cX10_low 35 = .ok (.if_icmp .gt 30, 3) := by decide +kernel
theorem dX10_low_38 : decode cX10_low 38 = .ok (.aload_n 0, 1) := by decide +kernel
theorem dX10_low_39 : decode cX10_low 39 = .ok (.iload 4, 2) := by decide +kernel
theorem dX10_low_41 : decode cX10_low 41 = .ok (.invokevirtual 222, 3) := by decide +kernel
theorem dX10_low_44 : decode cX10_low 44 = .ok (.iload_n 3, 1) := by decide +kernel
theorem dX10_low_45 : decode cX10_low 45 = .ok (.if_icmp .ge 12, 3) := by decide +kernel
theorem dX10_low_48 : decode cX10_low 48 = .ok (.aload_n 0, 1) := by decide +kernel
theorem dX10_low_49 : decode cX10_low 49 = .ok (.iload 4, 2) := by decide +kernel
theorem dX10_low_51 : decode cX10_low 51 = .ok (.invokevirtual 222, 3) := by decide +kernel
theorem dX10_low_54 : decode cX10_low 54 = .ok (.goto 4, 3) := by decide +kernel
theorem dX10_low_57 : decode cX10_low 57 = .ok (.iload_n 3, 1) := by decide +kernel
theorem dX10_low_58 : decode cX10_low 58 = .ok (.istore_n 3, 1) := by decide +kernel
theorem dX10_low_59 : decode cX10_low 59 = .ok (.iinc 4 1, 3) := by decide +kernel
theorem dX10_low_62 : decode cX10_low 62 = .ok (.goto (-30), 3) := by decide +kernel
theorem dX10_low_65 : decode cX10_low 65 = .ok (.iload_n 3, 1) := by decide +kernel
theorem dX10_low_66 : decode cX10_low 66 = .ok (.ireturn, 1) := by decide +kernel
theorem dX10_around_0 : decode cX10_around 0 = .ok (.aload_n 0, 1) := by decide +kernel
theorem dX10_around_1 : decode cX10_around 1 = .ok (.iload_n 1, 1) := by decide +kernel
theorem dX10_around_2 : decode cX10_around 2 = .ok (.invokevirtual 219, 3) := by decide +kernel
theorem dX10_around_5 : decode cX10_around 5 = .ok (.ifCond .eq 15, 3) := by decide +kernel
theorem dX10_around_8 : decode cX10_around 8 = .ok (.iload_n 2, 1) := by decide +kernel
theorem dX10_around_9 : decode cX10_around 9 = .ok (.i2l, 1) := by decide +kernel
theorem dX10_around_10 : decode cX10_around 10 = .ok (.lconst 0, 1) := by decide +kernel
theorem dX10_around_11 : decode cX10_around 11 = .ok (.ldc2_w 228, 3) := by decide +kernel
theorem dX10_around_14 : decode cX10_around 14 = .ok (.invokestatic 61, 3) := by decide +kernel
theorem dX10_around_17 : decode cX10_around 17 = .ok (.ifCond .ne 5, 3) := by decide +kernel
theorem dX10_around_20 : decode cX10_around 20 = .ok (.iconst (-1), 1) := by decide +kernel
theorem dX10_around_21 : decode cX10_around 21 = .ok (.ireturn, 1) := by decide +kernel
theorem dX10_around_22 : decode cX10_around 22 = .ok (.aload_n 0, 1) := by decide +kernel
theorem dX10_around_23 : decode cX10_around 23 = .ok (.invokevirtual 198, 3) := by decide +kernel
theorem dX10_around_26 : decode cX10_around 26 = .ok (.iload_n 1, 1) := by decide +kernel
theorem dX10_around_27 : decode cX10_around 27 = .ok (.iconst 1, 1) := by decide +kernel
theorem dX10_around_28 : decode cX10_around 28 = .ok (.isub, 1) := by decide +kernel
theorem dX10_around_29 : decode cX10_around 29 = .ok (.istore_n 3, 1) := by decide +kernel
theorem dX10_around_30 : decode cX10_around 30 = .ok (.iload_n 3, 1) := by decide +kernel
theorem dX10_around_31 : decode cX10_around 31 = .ok (.ifCond .lt 68, 3) := by decide +kernel
theorem dX10_around_34 : decode cX10_around 34 = .ok (.iload_n 2, 1) := by decide +kernel
theorem dX10_around_35 : decode cX10_around 35 = .ok (.iconst 3, 1) := by decide +kernel
theorem dX10_around_36 : decode cX10_around 36 = .ok (.if_icmp .ne 21, 3) := by decide +kernel
theorem dX10_around_39 : decode cX10_around 39 = .ok (.aload_n 0, 1) := by decide +kernel
theorem dX10_around_40 : decode cX10_around 40 = .ok (.getfield 28, 3) := by decide +kernel
theorem dX10_around_43 : decode cX10_around 43 = .ok (.iload_n 3, 1) := by decide +kernel
theorem dX10_around_44 : decode cX10_around 44 = .ok (.iaload, 1) := by decide +kernel
theorem dX10_around_45 : decode cX10_around 45 = .ok (.iload_n 1, 1) := by decide +kernel
theorem dX10_around_46 : decode cX10_around 46 = .ok (.if_icmp .le 7, 3) := by decide +kernel
theorem dX10_around_49 : decode cX10_around 49 = .ok (.iconst 1, 1) := by decide +kernel
theorem dX10_around_50 : decode cX10_around 50 = .ok (.goto 34, 3) := by decide +kernel
theorem dX10_around_53 : decode cX10_around 53 = .ok (.iconst 0, 1) := by decide +kernel
theorem dX10_around_54 : decode cX10_around 54 = .ok (.goto 30, 3) := by decide +kernel
theorem dX10_around_57 : decode cX10_around 57 = .ok (.aload_n 0, 1) := by decide +kernel
theorem dX10_around_58 : decode cX10_around 58 = .ok (.iload_n 3, 1) := by decide +kernel
theorem dX10_around_59 : decode cX10_around 59 = .ok (.invokevirtual 170, 3) := by decide +kernel
theorem dX10_around_62 : decode cX10_around 62 = .ok (.invokestatic 78, 3) := by decide +kernel
theorem dX10_around_65 : decode cX10_around 65 = .ok (.iload_n 2, 1) := by decide +kernel
theorem dX10_around_66 : decode cX10_around 66 = .ok (.if_icmp .ne 17, 3) := by decide +kernel
theorem dX10_around_69 : decode cX10_around 69 = .ok (.aload_n 0, 1) := by decide +kernel
theorem dX10_around_70 : decode cX10_around 70 = .ok (.getfield 31, 3) := by decide +kernel
theorem dX10_around_73 : decode cX10_around 73 = .ok (.iload_n 3, 1) := by decide +kernel
theorem dX10_around_74 : decode cX10_around 74 = .ok (.iaload, 1) := by decide +kernel
theorem dX10_around_75 : decode cX10_around 75 = .ok (.iload_n 1, 1) := by decide +kernel
theorem dX10_around_76 : decode cX10_around 76 = .ok (.if_icmp .le 7, 3) := by decide +kernel
theorem dX10_around_79 : decode cX10_around 79 = .ok (.iconst 1, 1) := by decide +kernel
theorem dX10_around_80 : decode cX10_around 80 = .ok (.goto 4, 3) := by decide +kernel
theorem dX10_around_83 : decode cX10_around 83 = .ok (.iconst 0, 1) := by decide +kernel
theorem dX10_around_84 : decode cX10_around 84 = .ok (.istore 4, 2) := by decide +kernel
theorem dX10_around_86 : decode cX10_around 86 = .ok (.iload 4, 2) := by decide +kernel
theorem dX10_around_88 : decode cX10_around 88 = .ok (.ifCond .eq 5, 3) := by decide +kernel
theorem dX10_around_91 : decode cX10_around 91 = .ok (.iload_n 3, 1) := by decide +kernel
theorem dX10_around_92 : decode cX10_around 92 = .ok (.ireturn, 1) := by decide +kernel
theorem dX10_around_93 : decode cX10_around 93 = .ok (.iinc 3 (-1), 3) := by decide +kernel
theorem dX10_around_96 : decode cX10_around 96 = .ok (.goto (-66), 3) := by decide +kernel
theorem dX10_around_99 : decode cX10_around 99 = .ok (.bipush (-4), 2) := by decide +kernel
theorem dX10_around_101 : decode cX10_around 101 = .ok (.ireturn, 1) := by decide +kernel
theorem dX10_wholeFrom_0 : decode cX10_wholeFrom 0 = .ok (.iload_n 1, 1) := by decide +kernel
theorem dX10_wholeFrom_1 : decode cX10_wholeFrom 1 = .ok (.istore_n 2, 1) := by decide +kernel
theorem dX10_wholeFrom_2 : decode cX10_wholeFrom 2 = .ok (.iload_n 1, 1) := by decide +kernel
theorem dX10_wholeFrom_3 : decode cX10_wholeFrom 3 = .ok (.istore_n 3, 1) := by decide +kernel
theorem dX10_wholeFrom_4 : decode cX10_wholeFrom 4 = .ok (.iload_n 1, 1) := by decide +kernel
theorem dX10_wholeFrom_5 : decode cX10_wholeFrom 5 = .ok (.istore 4, 2) := by decide +kernel
theorem dX10_wholeFrom_7 : decode cX10_wholeFrom 7 = .ok (.iload 4, 2) := by decide +kernel
theorem dX10_wholeFrom_9 : decode cX10_wholeFrom 9 = .ok (.aload_n 0, 1) := by decide +kernel
theorem dX10_wholeFrom_10 : decode cX10_wholeFrom 10 = .ok (.invokevirtual 165, 3) := by decide +kernel
theorem dX10_wholeFrom_13 : decode cX10_wholeFrom 13 = .ok (.if_icmp .ge 86, 3) := by decide +kernel
theorem dX10_wholeFrom_16 : decode cX10_wholeFrom 16 = .ok (.aload_n 0, 1) := by decide +kernel
theorem dX10_wholeFrom_17 : decode cX10_wholeFrom 17 = .ok (.iload 4, 2) := by decide +kernel
theorem dX10_wholeFrom_19 : decode cX10_wholeFrom 19 = .ok (.invokevirtual 170, 3) := by decide +kernel
theorem dX10_wholeFrom_22 : decode cX10_wholeFrom 22 = .ok (.invokestatic 78, 3) := by decide +kernel
theorem dX10_wholeFrom_25 : decode cX10_wholeFrom 25 = .ok (.bipush (-4), 2) := by decide +kernel
theorem dX10_wholeFrom_27 : decode cX10_wholeFrom 27 = .ok (.if_icmp .eq 51, 3) := by decide +kernel
theorem dX10_wholeFrom_30 : decode cX10_wholeFrom 30 = .ok (.aload_n 0, 1) := by decide +kernel
theorem dX10_wholeFrom_31 : decode cX10_wholeFrom 31 = .ok (.getfield 28, 3) := by decide +kernel
theorem dX10_wholeFrom_34 : decode cX10_wholeFrom 34 = .ok (.iload 4, 2) := by decide +kernel
theorem dX10_wholeFrom_36 : decode cX10_wholeFrom 36 = .ok (.iaload, 1) := by decide +kernel
theorem dX10_wholeFrom_37 : decode cX10_wholeFrom 37 = .ok (.bipush (-4), 2) := by decide +kernel
theorem dX10_wholeFrom_39 : decode cX10_wholeFrom 39 = .ok (.if_icmp .eq 14, 3) := by decide +kernel
theorem dX10_wholeFrom_42 : decode cX10_wholeFrom 42 = .ok (.aload_n 0, 1) := by decide +kernel
theorem dX10_wholeFrom_43 : decode cX10_wholeFrom 43 = .ok (.getfield 28, 3) := by decide +kernel
theorem dX10_wholeFrom_46 : decode cX10_wholeFrom 46 = .ok (.iload 4, 2) := by decide +kernel
theorem dX10_wholeFrom_48 : decode cX10_wholeFrom 48 = .ok (.iaload, 1) := by decide +kernel
theorem dX10_wholeFrom_49 : decode cX10_wholeFrom 49 = .ok (.iload_n 1, 1) := by decide +kernel
theorem dX10_wholeFrom_50 : decode cX10_wholeFrom 50 = .ok (.if_icmp .ge 5, 3) := by decide +kernel
theorem dX10_wholeFrom_53 : decode cX10_wholeFrom 53 = .ok (.iload_n 2, 1) := by decide +kernel
theorem dX10_wholeFrom_54 : decode cX10_wholeFrom 54 = .ok (.ireturn, 1) := by decide +kernel
theorem dX10_wholeFrom_55 : decode cX10_wholeFrom 55 = .ok (.aload_n 0, 1) := by decide +kernel
theorem dX10_wholeFrom_56 : decode cX10_wholeFrom 56 = .ok (.getfield 28, 3) := by decide +kernel
theorem dX10_wholeFrom_59 : decode cX10_wholeFrom 59 = .ok (.iload 4, 2) := by decide +kernel
theorem dX10_wholeFrom_61 : decode cX10_wholeFrom 61 = .ok (.iaload, 1) := by decide +kernel
theorem dX10_wholeFrom_62 : decode cX10_wholeFrom 62 = .ok (.iload_n 3, 1) := by decide +kernel
theorem dX10_wholeFrom_63 : decode cX10_wholeFrom 63 = .ok (.if_icmp .le 13, 3) := by decide +kernel
theorem dX10_wholeFrom_66 : decode cX10_wholeFrom 66 = .ok (.aload_n 0, 1) := by decide +kernel
theorem dX10_wholeFrom_67 : decode cX10_wholeFrom 67 = .ok (.getfield 28, 3) := by decide +kernel
theorem dX10_wholeFrom_70 : decode cX10_wholeFrom 70 = .ok (.iload 4, 2) := by decide +kernel
theorem dX10_wholeFrom_72 : decode cX10_wholeFrom 72 = .ok (.iaload, 1) := by decide +kernel
theorem dX10_wholeFrom_73 : decode cX10_wholeFrom 73 = .ok (.goto 4, 3) := by decide +kernel
theorem dX10_wholeFrom_76 : decode cX10_wholeFrom 76 = .ok (.iload_n 3, 1) := by decide +kernel
theorem dX10_wholeFrom_77 : decode cX10_wholeFrom 77 = .ok (.istore_n 3, 1) := by decide +kernel
theorem dX10_wholeFrom_78 : decode cX10_wholeFrom 78 = .ok (.iload_n 3, 1) := by decide +kernel
theorem dX10_wholeFrom_79 : decode cX10_wholeFrom 79 = .ok (.iload 4, 2) := by decide +kernel
theorem dX10_wholeFrom_81 : decode cX10_wholeFrom 81 = .ok (.if_icmp .gt 10, 3) := by decide +kernel
theorem dX10_wholeFrom_84 : decode cX10_wholeFrom 84 = .ok (.iload 4, 2) := by decide +kernel
theorem dX10_wholeFrom_86 : decode cX10_wholeFrom 86 = .ok (.iconst 1, 1) := by decide +kernel
theorem dX10_wholeFrom_87 : decode cX10_wholeFrom 87 = .ok (.iadd, 1) := by decide +kernel
theorem dX10_wholeFrom_88 : decode cX10_wholeFrom 88 = .ok (.goto 4, 3) := by decide +kernel
theorem dX10_wholeFrom_91 : decode cX10_wholeFrom 91 = .ok (.iload_n 2, 1) := by decide +kernel
theorem dX10_wholeFrom_92 : decode cX10_wholeFrom 92 = .ok (.istore_n 2, 1) := by decide +kernel
theorem dX10_wholeFrom_93 : decode cX10_wholeFrom 93 = .ok (.iinc 4 1, 3) := by decide +kernel
theorem dX10_wholeFrom_96 : decode cX10_wholeFrom 96 = .ok (.goto (-89), 3) := by decide +kernel
theorem dX10_wholeFrom_99 : decode cX10_wholeFrom 99 = .ok (.iload_n 2, 1) := by decide +kernel
theorem dX10_wholeFrom_100 : decode cX10_wholeFrom 100 = .ok (.ireturn, 1) := by decide +kernel
theorem dX10_whole_0 : decode cX10_whole 0 = .ok (.aload_n 0, 1) := by decide +kernel
theorem dX10_whole_1 : decode cX10_whole 1 = .ok (.iload_n 1, 1) := by decide +kernel
theorem dX10_whole_2 : decode cX10_whole 2 = .ok (.invokevirtual 225, 3) := by decide +kernel
theorem dX10_whole_5 : decode cX10_whole 5 = .ok (.ifCond .ne 5, 3) := by decide +kernel
theorem dX10_whole_8 : decode cX10_whole 8 = .ok (.iconst (-1), 1) := by decide +kernel
theorem dX10_whole_9 : decode cX10_whole 9 = .ok (.ireturn, 1) := by decide +kernel
theorem dX10_whole_10 : decode cX10_whole 10 = .ok (.aload_n 0, 1) := by decide +kernel
theorem dX10_whole_11 : decode cX10_whole 11 = .ok (.invokevirtual 198, 3) := by decide +kernel
theorem dX10_whole_14 : decode cX10_whole 14 = .ok (.aload_n 0, 1) := by decide +kernel
theorem dX10_whole_15 : decode cX10_whole 15 = .ok (.iload_n 1, 1) := by decide +kernel
theorem dX10_whole_16 : decode cX10_whole 16 = .ok (.invokevirtual 230, 3) := by decide +kernel
theorem dX10_whole_19 : decode cX10_whole 19 = .ok (.ireturn, 1) := by decide +kernel
theorem dX10_bare_0 : decode cX10_bare 0 = .ok (.aload_n 0, 1) := by decide +kernel
theorem dX10_bare_1 : decode cX10_bare 1 = .ok (.iload_n 1, 1) := by decide +kernel
theorem dX10_bare_2 : decode cX10_bare 2 = .ok (.invokevirtual 225, 3) := by decide +kernel
theorem dX10_bare_5 : decode cX10_bare 5 = .ok (.ifCond .eq 13, 3) := by decide +kernel
theorem dX10_bare_8 : decode cX10_bare 8 = .ok (.iload_n 2, 1) := by decide +kernel
theorem dX10_bare_9 : decode cX10_bare 9 = .ok (.i2l, 1) := by decide +kernel
theorem dX10_bare_10 : decode cX10_bare 10 = .ok (.lconst 0, 1) := by decide +kernel
theorem dX10_bare_11 : decode cX10_bare 11 = .ok (.lconst 1, 1) := by decide +kernel
theorem dX10_bare_12 : decode cX10_bare 12 = .ok (.invokestatic 61, 3) := by decide +kernel
theorem dX10_bare_15 : decode cX10_bare 15 = .ok (.ifCond .ne 5, 3) := by decide +kernel
theorem dX10_bare_18 : decode cX10_bare 18 = .ok (.iconst (-1), 1) := by decide +kernel
theorem dX10_bare_19 : decode cX10_bare 19 = .ok (.ireturn, 1) := by decide +kernel
theorem dX10_bare_20 : decode cX10_bare 20 = .ok (.aload_n 0, 1) := by decide +kernel
theorem dX10_bare_21 : decode cX10_bare 21 = .ok (.invokevirtual 198, 3) := by decide +kernel
theorem dX10_bare_24 : decode cX10_bare 24 = .ok (.bipush (-4), 2) := by decide +kernel
theorem dX10_bare_26 : decode cX10_bare 26 = .ok (.istore_n 3, 1) := by decide +kernel
theorem dX10_bare_27 : decode cX10_bare 27 = .ok (.iconst 0, 1) := by decide +kernel
theorem dX10_bare_28 : decode cX10_bare 28 = .ok (.istore 4, 2) := by decide +kernel
theorem dX10_bare_30 : decode cX10_bare 30 = .ok (.iload 4, 2) := by decide +kernel
theorem dX10_bare_32 : decode cX10_bare 32 = .ok (.aload_n 0, 1) := by decide +kernel
theorem dX10_bare_33 : decode cX10_bare 33 = .ok (.invokevirtual 165, 3) := by decide +kernel
theorem dX10_bare_36 : decode cX10_bare 36 = .ok (.if_icmp .ge 62, 3) := by decide +kernel
theorem dX10_bare_39 : decode cX10_bare 39 = .ok (.aload_n 0, 1) := by decide +kernel
theorem dX10_bare_40 : decode cX10_bare 40 = .ok (.iload 4, 2) := by decide +kernel
theorem dX10_bare_42 : decode cX10_bare 42 = .ok (.invokevirtual 189, 3) := by decide +kernel
theorem dX10_bare_45 : decode cX10_bare 45 = .ok (.ifCond .eq 32, 3) := by decide +kernel
theorem dX10_bare_48 : decode cX10_bare 48 = .ok (.iload_n 2, 1) := by decide +kernel
theorem dX10_bare_49 : decode cX10_bare 49 = .ok (.ifCond .ne 18, 3) := by decide +kernel
theorem dX10_bare_52 : decode cX10_bare 52 = .ok (.iload 4, 2) := by decide +kernel
theorem dX10_bare_54 : decode cX10_bare 54 = .ok (.iload_n 1, 1) := by decide +kernel
theorem dX10_bare_55 : decode cX10_bare 55 = .ok (.if_icmp .lt 22, 3) := by decide +kernel
theorem dX10_bare_58 : decode cX10_bare 58 = .ok (.iload_n 3, 1) := by decide +kernel
theorem dX10_bare_59 : decode cX10_bare 59 = .ok (.bipush (-4), 2) := by decide +kernel
theorem dX10_bare_61 : decode cX10_bare 61 = .ok (.if_icmp .ne 16, 3) := by decide +kernel
theorem dX10_bare_64 : decode cX10_bare 64 = .ok (.goto 9, 3) := by decide +kernel
theorem dX10_bare_67 : decode cX10_bare 67 = .ok (.iload 4, 2) := by decide +kernel
theorem dX10_bare_69 : decode cX10_bare 69 = .ok (.iload_n 1, 1) := by decide +kernel
theorem dX10_bare_70 : decode cX10_bare 70 = .ok (.if_icmp .ge 7, 3) := by decide +kernel
theorem dX10_bare_73 : decode cX10_bare 73 = .ok (.iconst 1, 1) := by decide +kernel
theorem dX10_bare_74 : decode cX10_bare 74 = .ok (.goto 4, 3) := by decide +kernel
theorem dX10_bare_77 : decode cX10_bare 77 = .ok (.iconst 0, 1) := by decide +kernel
theorem dX10_bare_78 : decode cX10_bare 78 = .ok (.istore 5, 2) := by decide +kernel
theorem dX10_bare_80 : decode cX10_bare 80 = .ok (.iload 5, 2) := by decide +kernel
theorem dX10_bare_82 : decode cX10_bare 82 = .ok (.ifCond .eq 8, 3) := by decide +kernel
theorem dX10_bare_85 : decode cX10_bare 85 = .ok (.iload 4, 2) := by decide +kernel
theorem dX10_bare_87 : decode cX10_bare 87 = .ok (.goto 4, 3) := by decide +kernel
theorem dX10_bare_90 : decode cX10_bare 90 = .ok (.iload_n 3, 1) := by decide +kernel
theorem dX10_bare_91 : decode cX10_bare 91 = .ok (.istore_n 3, 1) := by decide +kernel
theorem dX10_bare_92 : decode cX10_bare 92 = .ok (.iinc 4 1, 3) := by decide +kernel
theorem dX10_bare_95 : decode cX10_bare 95 = .ok (.goto (-65), 3) := by decide +kernel
theorem dX10_bare_98 : decode cX10_bare 98 = .ok (.iload_n 3, 1) := by decide +kernel
theorem dX10_bare_99 : decode cX10_bare 99 = .ok (.ireturn, 1) := by decide +kernel
theorem dX10_longest_0 : decode cX10_longest 0 = .ok (.iload_n 1, 1) := by decide +kernel
theorem dX10_longest_1 : decode cX10_longest 1 = .ok (.i2l, 1) := by decide +kernel
theorem dX10_longest_2 : decode cX10_longest 2 = .ok (.lconst 0, 1) := by decide +kernel
theorem dX10_longest_3 : decode cX10_longest 3 = .ok (.lconst 1, 1) := by decide +kernel
theorem dX10_longest_4 : decode cX10_longest 4 = .ok (.invokestatic 61, 3) := by decide +kernel
theorem dX10_longest_7 : decode cX10_longest 7 = .ok (.ifCond .ne 5, 3) := by decide +kernel
theorem dX10_longest_10 : decode cX10_longest 10 = .ok (.iconst (-1), 1) := by decide +kernel
theorem dX10_longest_11 : decode cX10_longest 11 = .ok (.ireturn, 1) := by decide +kernel
theorem dX10_longest_12 : decode cX10_longest 12 = .ok (.aload_n 0, 1) := by decide +kernel
theorem dX10_longest_13 : decode cX10_longest 13 = .ok (.invokevirtual 198, 3) := by decide +kernel
theorem dX10_longest_16 : decode cX10_longest 16 = .ok (.iconst 0, 1) := by decide +kernel
theorem dX10_longest_17 : decode cX10_longest 17 = .ok (.istore_n 2, 1) := by decide +kernel
theorem dX10_longest_18 : decode cX10_longest 18 = .ok (.iconst 0, 1) := by decide +kernel
theorem dX10_longest_19 : decode cX10_longest 19 = .ok (.istore_n 3, 1) := by decide +kernel
theorem dX10_longest_20 : decode cX10_longest 20 = .ok (.iconst 0, 1) := by decide +kernel
theorem dX10_longest_21 : decode cX10_longest 21 = .ok (.istore 4, 2) := by decide +kernel
theorem dX10_longest_23 : decode cX10_longest 23 = .ok (.iload 4, 2) := by decide +kernel
theorem dX10_longest_25 : decode cX10_longest 25 = .ok (.aload_n 0, 1) := by decide +kernel
theorem dX10_longest_26 : decode cX10_longest 26 = .ok (.invokevirtual 165, 3) := by decide +kernel
theorem dX10_longest_29 : decode cX10_longest 29 = .ok (.if_icmp .ge 46, 3) := by decide +kernel
theorem dX10_longest_32 : decode cX10_longest 32 = .ok (.aload_n 0, 1) := by decide +kernel
theorem dX10_longest_33 : decode cX10_longest 33 = .ok (.iload 4, 2) := by decide +kernel
theorem dX10_longest_35 : decode cX10_longest 35 = .ok (.invokevirtual 230, 3) := by decide +kernel
theorem dX10_longest_38 : decode cX10_longest 38 = .ok (.iload 4, 2) := by decide +kernel
theorem dX10_longest_40 : decode cX10_longest 40 = .ok (.isub, 1) := by decide +kernel
theorem dX10_longest_41 : decode cX10_longest 41 = .ok (.istore 5, 2) := by decide +kernel
theorem dX10_longest_43 : decode cX10_longest 43 = .ok (.iload 5, 2) := by decide +kernel
theorem dX10_longest_45 : decode cX10_longest 45 = .ok (.iload_n 3, 1) := by decide +kernel
theorem dX10_longest_46 : decode cX10_longest 46 = .ok (.if_icmp .le 8, 3) := by decide +kernel
theorem dX10_longest_49 : decode cX10_longest 49 = .ok (.iload 4, 2) := by decide +kernel
theorem dX10_longest_51 : decode cX10_longest 51 = .ok (.goto 4, 3) := by decide +kernel
theorem dX10_longest_54 : decode cX10_longest 54 = .ok (.iload_n 2, 1) := by decide +kernel
theorem dX10_longest_55 : decode cX10_longest 55 = .ok (.istore_n 2, 1) := by decide +kernel
theorem dX10_longest_56 : decode cX10_longest 56 = .ok (.iload 5, 2) := by decide +kernel
theorem dX10_longest_58 : decode cX10_longest 58 = .ok (.iload_n 3, 1) := by decide +kernel
theorem dX10_longest_59 : decode cX10_longest 59 = .ok (.if_icmp .le 8, 3) := by decide +kernel
theorem dX10_longest_62 : decode cX10_longest 62 = .ok (.iload 5, 2) := by decide +kernel
theorem dX10_longest_64 : decode cX10_longest 64 = .ok (.goto 4, 3) := by decide +kernel
theorem dX10_longest_67 : decode cX10_longest 67 = .ok (.iload_n 3, 1) := by decide +kernel
theorem dX10_longest_68 : decode cX10_longest 68 = .ok (.istore_n 3, 1) := by decide +kernel
theorem dX10_longest_69 : decode cX10_longest 69 = .ok (.iinc 4 1, 3) := by decide +kernel
theorem dX10_longest_72 : decode cX10_longest 72 = .ok (.goto (-49), 3) := by decide +kernel
theorem dX10_longest_75 : decode cX10_longest 75 = .ok (.iload_n 1, 1) := by decide +kernel
theorem dX10_longest_76 : decode cX10_longest 76 = .ok (.ifCond .ne 7, 3) := by decide +kernel
theorem dX10_longest_79 : decode cX10_longest 79 = .ok (.iload_n 2, 1) := by decide +kernel
theorem dX10_longest_80 : decode cX10_longest 80 = .ok (.goto 4, 3) := by decide +kernel
theorem dX10_longest_83 : decode cX10_longest 83 = .ok (.iload_n 3, 1) := by decide +kernel
theorem dX10_longest_84 : decode cX10_longest 84 = .ok (.ireturn, 1) := by decide +kernel
theorem dX10_seen_0 : decode cX10_seen 0 = .ok (.iload_n 1, 1) := by decide +kernel
theorem dX10_seen_1 : decode cX10_seen 1 = .ok (.ifCond .ge 5, 3) := by decide +kernel
theorem dX10_seen_4 : decode cX10_seen 4 = .ok (.iconst (-1), 1) := by decide +kernel
theorem dX10_seen_5 : decode cX10_seen 5 = .ok (.ireturn, 1) := by decide +kernel
theorem dX10_seen_6 : decode cX10_seen 6 = .ok (.aload_n 0, 1) := by decide +kernel
theorem dX10_seen_7 : decode cX10_seen 7 = .ok (.invokevirtual 198, 3) := by decide +kernel
theorem dX10_seen_10 : decode cX10_seen 10 = .ok (.iload_n 1, 1) := by decide +kernel
theorem dX10_seen_11 : decode cX10_seen 11 = .ok (.istore_n 2, 1) := by decide +kernel
theorem dX10_seen_12 : decode cX10_seen 12 = .ok (.iconst 0, 1) := by decide +kernel
theorem dX10_seen_13 : decode cX10_seen 13 = .ok (.istore_n 3, 1) := by decide +kernel
theorem dX10_seen_14 : decode cX10_seen 14 = .ok (.iload_n 3, 1) := by decide +kernel
theorem dX10_seen_15 : decode cX10_seen 15 = .ok (.aload_n 0, 1) := by decide +kernel
theorem dX10_seen_16 : decode cX10_seen 16 = .ok (.invokevirtual 165, 3) := by decide +kernel
theorem dX10_seen_19 : decode cX10_seen 19 = .ok (.if_icmp .ge 26, 3) := by decide +kernel
theorem dX10_seen_22 : decode cX10_seen 22 = .ok (.aload_n 0, 1) := by decide +kernel
theorem dX10_seen_23 : decode cX10_seen 23 = .ok (.iload_n 3, 1) := by decide +kernel
theorem dX10_seen_24 : decode cX10_seen 24 = .ok (.invokevirtual 195, 3) := by decide +kernel
theorem dX10_seen_27 : decode cX10_seen 27 = .ok (.ifCond .ne 12, 3) := by decide +kernel
theorem dX10_seen_30 : decode cX10_seen 30 = .ok (.iload_n 2, 1) := by decide +kernel
theorem dX10_seen_31 : decode cX10_seen 31 = .ok (.ifCond .ne 5, 3) := by decide +kernel
theorem dX10_seen_34 : decode cX10_seen 34 = .ok (.iload_n 3, 1) := by decide +kernel
theorem dX10_seen_35 : decode cX10_seen 35 = .ok (.ireturn, 1) := by decide +kernel
theorem dX10_seen_36 : decode cX10_seen 36 = .ok (.iinc 2 (-1), 3) := by decide +kernel
theorem dX10_seen_39 : decode cX10_seen 39 = .ok (.iinc 3 1, 3) := by decide +kernel
theorem dX10_seen_42 : decode cX10_seen 42 = .ok (.goto (-28), 3) := by decide +kernel
theorem dX10_seen_45 : decode cX10_seen 45 = .ok (.bipush (-4), 2) := by decide +kernel
theorem dX10_seen_47 : decode cX10_seen 47 = .ok (.ireturn, 1) := by decide +kernel
theorem dX10_keepsIn_0 : decode cX10_keepsIn 0 = .ok (.iconst 0, 1) := by decide +kernel
theorem dX10_keepsIn_1 : decode cX10_keepsIn 1 = .ok (.istore_n 3, 1) := by decide +kernel
theorem dX10_keepsIn_2 : decode cX10_keepsIn 2 = .ok (.iload_n 3, 1) := by decide +kernel
theorem dX10_keepsIn_3 : decode cX10_keepsIn 3 = .ok (.bipush 61, 2) := by decide +kernel
theorem dX10_keepsIn_5 : decode cX10_keepsIn 5 = .ok (.if_icmp .ge 23, 3) := by decide +kernel
theorem dX10_keepsIn_8 : decode cX10_keepsIn 8 = .ok (.aload_n 1, 1) := by decide +kernel
theorem dX10_keepsIn_9 : decode cX10_keepsIn 9 = .ok (.bipush 61, 2) := by decide +kernel
theorem dX10_keepsIn_11 : decode cX10_keepsIn 11 = .ok (.iload_n 2, 1) := by decide +kernel
theorem dX10_keepsIn_12 : decode cX10_keepsIn 12 = .ok (.imul, 1) := by decide +kernel
theorem dX10_keepsIn_13 : decode cX10_keepsIn 13 = .ok (.iload_n 3, 1) := by decide +kernel
theorem dX10_keepsIn_14 : decode cX10_keepsIn 14 = .ok (.iadd, 1) := by decide +kernel
theorem dX10_keepsIn_15 : decode cX10_keepsIn 15 = .ok (.aload_n 0, 1) := by decide +kernel
theorem dX10_keepsIn_16 : decode cX10_keepsIn 16 = .ok (.getfield 7, 3) := by decide +kernel
theorem dX10_keepsIn_19 : decode cX10_keepsIn 19 = .ok (.iload_n 3, 1) := by decide +kernel
theorem dX10_keepsIn_20 : decode cX10_keepsIn 20 = .ok (.iaload, 1) := by decide +kernel
theorem dX10_keepsIn_21 : decode cX10_keepsIn 21 = .ok (.iastore, 1) := by decide +kernel
theorem dX10_keepsIn_22 : decode cX10_keepsIn 22 = .ok (.iinc 3 1, 3) := by decide +kernel
theorem dX10_keepsIn_25 : decode cX10_keepsIn 25 = .ok (.goto (-23), 3) := by decide +kernel
theorem dX10_keepsIn_28 : decode cX10_keepsIn 28 = .ok (.return_, 1) := by decide +kernel
theorem dX10_comesFrom_0 : decode cX10_comesFrom 0 = .ok (.iconst 0, 1) := by decide +kernel
theorem dX10_comesFrom_1 : decode cX10_comesFrom 1 = .ok (.istore_n 3, 1) := by decide +kernel
theorem dX10_comesFrom_2 : decode cX10_comesFrom 2 = .ok (.iload_n 3, 1) := by decide +kernel
theorem dX10_comesFrom_3 : decode cX10_comesFrom 3 = .ok (.bipush 61, 2) := by decide +kernel
theorem dX10_comesFrom_5 : decode cX10_comesFrom 5 = .ok (.if_icmp .ge 23, 3) := by decide +kernel
theorem dX10_comesFrom_8 : decode cX10_comesFrom 8 = .ok (.aload_n 0, 1) := by decide +kernel
theorem dX10_comesFrom_9 : decode cX10_comesFrom 9 = .ok (.getfield 7, 3) := by decide +kernel
theorem dX10_comesFrom_12 : decode cX10_comesFrom 12 = .ok (.iload_n 3, 1) := by decide +kernel
theorem dX10_comesFrom_13 : decode cX10_comesFrom 13 = .ok (.aload_n 1, 1) := by decide +kernel
theorem dX10_comesFrom_14 : decode cX10_comesFrom 14 = .ok (.bipush 61, 2) := by decide +kernel
theorem dX10_comesFrom_16 : decode cX10_comesFrom 16 = .ok (.iload_n 2, 1) := by decide +kernel
theorem dX10_comesFrom_17 : decode cX10_comesFrom 17 = .ok (.imul, 1) := by decide +kernel
theorem dX10_comesFrom_18 : decode cX10_comesFrom 18 = .ok (.iload_n 3, 1) := by decide +kernel
theorem dX10_comesFrom_19 : decode cX10_comesFrom 19 = .ok (.iadd, 1) := by decide +kernel
theorem dX10_comesFrom_20 : decode cX10_comesFrom 20 = .ok (.iaload, 1) := by decide +kernel
theorem dX10_comesFrom_21 : decode cX10_comesFrom 21 = .ok (.iastore, 1) := by decide +kernel
theorem dX10_comesFrom_22 : decode cX10_comesFrom 22 = .ok (.iinc 3 1, 3) := by decide +kernel
theorem dX10_comesFrom_25 : decode cX10_comesFrom 25 = .ok (.goto (-23), 3) := by decide +kernel
theorem dX10_comesFrom_28 : decode cX10_comesFrom 28 = .ok (.return_, 1) := by decide +kernel
theorem dX10_remembers_0 : decode cX10_remembers 0 = .ok (.aload_n 0, 1) := by decide +kernel
theorem dX10_remembers_1 : decode cX10_remembers 1 = .ok (.getfield 159, 3) := by decide +kernel
theorem dX10_remembers_4 : decode cX10_remembers 4 = .ok (.bipush 20, 2) := by decide +kernel
theorem dX10_remembers_6 : decode cX10_remembers 6 = .ok (.if_icmp .ne 43, 3) := by decide +kernel
theorem dX10_remembers_9 : decode cX10_remembers 9 = .ok (.iconst 0, 1) := by decide +kernel
theorem dX10_remembers_10 : decode cX10_remembers 10 = .ok (.istore_n 1, 1) := by decide +kernel
theorem dX10_remembers_11 : decode cX10_remembers 11 = .ok (.iload_n 1, 1) := by decide +kernel
theorem dX10_remembers_12 : decode cX10_remembers 12 = .ok (.sipush 1159, 3) := by decide +kernel
theorem dX10_remembers_15 : decode cX10_remembers 15 = .ok (.if_icmp .ge 24, 3) := by decide +kernel
theorem dX10_remembers_18 : decode cX10_remembers 18 = .ok (.aload_n 0, 1) := by decide +kernel
theorem dX10_remembers_19 : decode cX10_remembers 19 = .ok (.getfield 37, 3) := by decide +kernel
theorem dX10_remembers_22 : decode cX10_remembers 22 = .ok (.iload_n 1, 1) := by decide +kernel
theorem dX10_remembers_23 : decode cX10_remembers 23 = .ok (.aload_n 0, 1) := by decide +kernel
theorem dX10_remembers_24 : decode cX10_remembers 24 = .ok (.getfield 37, 3) := by decide +kernel
theorem dX10_remembers_27 : decode cX10_remembers 27 = .ok (.iload_n 1, 1) := by decide +kernel
theorem dX10_remembers_28 : decode cX10_remembers 28 = .ok (.bipush 61, 2) := by decide +kernel
theorem dX10_remembers_30 : decode cX10_remembers 30 = .ok (.iadd, 1) := by decide +kernel
theorem dX10_remembers_31 : decode cX10_remembers 31 = .ok (.iaload, 1) := by decide +kernel
theorem dX10_remembers_32 : decode cX10_remembers 32 = .ok (.iastore, 1) := by decide +kernel
theorem dX10_remembers_33 : decode cX10_remembers 33 = .ok (.iinc 1 1, 3) := by decide +kernel
theorem dX10_remembers_36 : decode cX10_remembers 36 = .ok (.goto (-25), 3) := by decide +kernel
theorem dX10_remembers_39 : decode cX10_remembers 39 = .ok (.aload_n 0, 1) := by decide +kernel
theorem dX10_remembers_40 : decode cX10_remembers 40 = .ok (.dup, 1) := by decide +kernel
theorem dX10_remembers_41 : decode cX10_remembers 41 = .ok (.getfield 159, 3) := by decide +kernel
theorem dX10_remembers_44 : decode cX10_remembers 44 = .ok (.iconst 1, 1) := by decide +kernel
theorem dX10_remembers_45 : decode cX10_remembers 45 = .ok (.isub, 1) := by decide +kernel
theorem dX10_remembers_46 : decode cX10_remembers 46 = .ok (.putfield 159, 3) := by decide +kernel
theorem dX10_remembers_49 : decode cX10_remembers 49 = .ok (.aload_n 0, 1) := by decide +kernel
theorem dX10_remembers_50 : decode cX10_remembers 50 = .ok (.aload_n 0, 1) := by decide +kernel
theorem dX10_remembers_51 : decode cX10_remembers 51 = .ok (.getfield 37, 3) := by decide +kernel
theorem dX10_remembers_54 : decode cX10_remembers 54 = .ok (.aload_n 0, 1) := by decide +kernel
theorem dX10_remembers_55 : decode cX10_remembers 55 = .ok (.getfield 159, 3) := by decide +kernel
theorem dX10_remembers_58 : decode cX10_remembers 58 = .ok (.invokevirtual 233, 3) := by decide +kernel
theorem dX10_remembers_61 : decode cX10_remembers 61 = .ok (.aload_n 0, 1) := by decide +kernel
theorem dX10_remembers_62 : decode cX10_remembers 62 = .ok (.dup, 1) := by decide +kernel
theorem dX10_remembers_63 : decode cX10_remembers 63 = .ok (.getfield 159, 3) := by decide +kernel
theorem dX10_remembers_66 : decode cX10_remembers 66 = .ok (.iconst 1, 1) := by decide +kernel
theorem dX10_remembers_67 : decode cX10_remembers 67 = .ok (.iadd, 1) := by decide +kernel
theorem dX10_remembers_68 : decode cX10_remembers 68 = .ok (.putfield 159, 3) := by decide +kernel
theorem dX10_remembers_71 : decode cX10_remembers 71 = .ok (.return_, 1) := by decide +kernel
theorem dX10_edits_0 : decode cX10_edits 0 = .ok (.aload_n 0, 1) := by decide +kernel
theorem dX10_edits_1 : decode cX10_edits 1 = .ok (.invokevirtual 237, 3) := by decide +kernel
theorem dX10_edits_4 : decode cX10_edits 4 = .ok (.aload_n 0, 1) := by decide +kernel
theorem dX10_edits_5 : decode cX10_edits 5 = .ok (.iconst 0, 1) := by decide +kernel
theorem dX10_edits_6 : decode cX10_edits 6 = .ok (.putfield 162, 3) := by decide +kernel
theorem dX10_edits_9 : decode cX10_edits 9 = .ok (.return_, 1) := by decide +kernel
theorem dX10_put_0 : decode cX10_put 0 = .ok (.aload_n 0, 1) := by decide +kernel
theorem dX10_put_1 : decode cX10_put 1 = .ok (.iload_n 1, 1) := by decide +kernel
theorem dX10_put_2 : decode cX10_put 2 = .ok (.invokevirtual 219, 3) := by decide +kernel
theorem dX10_put_5 : decode cX10_put 5 = .ok (.ifCond .eq 10, 3) := by decide +kernel
theorem dX10_put_8 : decode cX10_put 8 = .ok (.iload_n 2, 1) := by decide +kernel
theorem dX10_put_9 : decode cX10_put 9 = .ok (.invokestatic 98, 3) := by decide +kernel
theorem dX10_put_12 : decode cX10_put 12 = .ok (.ifCond .ne 5, 3) := by decide +kernel
theorem dX10_put_15 : decode cX10_put 15 = .ok (.iconst (-1), 1) := by decide +kernel
theorem dX10_put_16 : decode cX10_put 16 = .ok (.ireturn, 1) := by decide +kernel
theorem dX10_put_17 : decode cX10_put 17 = .ok (.aload_n 0, 1) := by decide +kernel
theorem dX10_put_18 : decode cX10_put 18 = .ok (.invokevirtual 240, 3) := by decide +kernel
theorem dX10_put_21 : decode cX10_put 21 = .ok (.aload_n 0, 1) := by decide +kernel
theorem dX10_put_22 : decode cX10_put 22 = .ok (.iload_n 1, 1) := by decide +kernel
theorem dX10_put_23 : decode cX10_put 23 = .ok (.invokevirtual 170, 3) := by decide +kernel
theorem dX10_put_26 : decode cX10_put 26 = .ok (.istore_n 3, 1) := by decide +kernel
theorem dX10_put_27 : decode cX10_put 27 = .ok (.aload_n 0, 1) := by decide +kernel
theorem dX10_put_28 : decode cX10_put 28 = .ok (.getfield 7, 3) := by decide +kernel
theorem dX10_put_31 : decode cX10_put 31 = .ok (.iload_n 1, 1) := by decide +kernel
theorem dX10_put_32 : decode cX10_put 32 = .ok (.iload_n 2, 1) := by decide +kernel
theorem dX10_put_33 : decode cX10_put 33 = .ok (.iastore, 1) := by decide +kernel
theorem dX10_put_34 : decode cX10_put 34 = .ok (.iload_n 3, 1) := by decide +kernel
theorem dX10_put_35 : decode cX10_put 35 = .ok (.ireturn, 1) := by decide +kernel
theorem dX10_comesIn_0 : decode cX10_comesIn 0 = .ok (.aload_n 0, 1) := by decide +kernel
theorem dX10_comesIn_1 : decode cX10_comesIn 1 = .ok (.invokevirtual 165, 3) := by decide +kernel
theorem dX10_comesIn_4 : decode cX10_comesIn 4 = .ok (.istore_n 3, 1) := by decide +kernel
theorem dX10_comesIn_5 : decode cX10_comesIn 5 = .ok (.iload_n 3, 1) := by decide +kernel
theorem dX10_comesIn_6 : decode cX10_comesIn 6 = .ok (.iload_n 1, 1) := by decide +kernel
theorem dX10_comesIn_7 : decode cX10_comesIn 7 = .ok (.if_icmp .le 23, 3) := by decide +kernel
theorem dX10_comesIn_10 : decode cX10_comesIn 10 = .ok (.aload_n 0, 1) := by decide +kernel
theorem dX10_comesIn_11 : decode cX10_comesIn 11 = .ok (.getfield 7, 3) := by decide +kernel
theorem dX10_comesIn_14 : decode cX10_comesIn 14 = .ok (.iload_n 3, 1) := by decide +kernel
theorem dX10_comesIn_15 : decode cX10_comesIn 15 = .ok (.aload_n 0, 1) := by decide +kernel
theorem dX10_comesIn_16 : decode cX10_comesIn 16 = .ok (.getfield 7, 3) := by decide +kernel
theorem dX10_comesIn_19 : decode cX10_comesIn 19 = .ok (.iload_n 3, 1) := by decide +kernel
theorem dX10_comesIn_20 : decode cX10_comesIn 20 = .ok (.iconst 1, 1) := by decide +kernel
theorem dX10_comesIn_21 : decode cX10_comesIn 21 = .ok (.isub, 1) := by decide +kernel
theorem dX10_comesIn_22 : decode cX10_comesIn 22 = .ok (.iaload, 1) := by decide +kernel
theorem dX10_comesIn_23 : decode cX10_comesIn 23 = .ok (.iastore, 1) := by decide +kernel
theorem dX10_comesIn_24 : decode cX10_comesIn 24 = .ok (.iinc 3 (-1), 3) := by decide +kernel
theorem dX10_comesIn_27 : decode cX10_comesIn 27 = .ok (.goto (-22), 3) := by decide +kernel
theorem dX10_comesIn_30 : decode cX10_comesIn 30 = .ok (.aload_n 0, 1) := by decide +kernel
theorem dX10_comesIn_31 : decode cX10_comesIn 31 = .ok (.getfield 7, 3) := by decide +kernel
theorem dX10_comesIn_34 : decode cX10_comesIn 34 = .ok (.iload_n 1, 1) := by decide +kernel
theorem dX10_comesIn_35 : decode cX10_comesIn 35 = .ok (.iload_n 2, 1) := by decide +kernel
theorem dX10_comesIn_36 : decode cX10_comesIn 36 = .ok (.iastore, 1) := by decide +kernel
theorem dX10_comesIn_37 : decode cX10_comesIn 37 = .ok (.aload_n 0, 1) := by decide +kernel
theorem dX10_comesIn_38 : decode cX10_comesIn 38 = .ok (.getfield 7, 3) := by decide +kernel
theorem dX10_comesIn_41 : decode cX10_comesIn 41 = .ok (.bipush 60, 2) := by decide +kernel
theorem dX10_comesIn_43 : decode cX10_comesIn 43 = .ok (.dup2, 1) := by decide +kernel
theorem dX10_comesIn_44 : decode cX10_comesIn 44 = .ok (.iaload, 1) := by decide +kernel
theorem dX10_comesIn_45 : decode cX10_comesIn 45 = .ok (.iconst 1, 1) := by decide +kernel
theorem dX10_comesIn_46 : decode cX10_comesIn 46 = .ok (.iadd, 1) := by decide +kernel
theorem dX10_comesIn_47 : decode cX10_comesIn 47 = .ok (.iastore, 1) := by decide +kernel
theorem dX10_comesIn_48 : decode cX10_comesIn 48 = .ok (.return_, 1) := by decide +kernel
theorem dX10_insert_0 : decode cX10_insert 0 = .ok (.aload_n 0, 1) := by decide +kernel
theorem dX10_insert_1 : decode cX10_insert 1 = .ok (.iload_n 1, 1) := by decide +kernel
theorem dX10_insert_2 : decode cX10_insert 2 = .ok (.invokevirtual 225, 3) := by decide +kernel
theorem dX10_insert_5 : decode cX10_insert 5 = .ok (.ifCond .eq 10, 3) := by decide +kernel
theorem dX10_insert_8 : decode cX10_insert 8 = .ok (.iload_n 2, 1) := by decide +kernel
theorem dX10_insert_9 : decode cX10_insert 9 = .ok (.invokestatic 98, 3) := by decide +kernel
theorem dX10_insert_12 : decode cX10_insert 12 = .ok (.ifCond .ne 5, 3) := by decide +kernel
theorem dX10_insert_15 : decode cX10_insert 15 = .ok (.iconst (-1), 1) := by decide +kernel
theorem dX10_insert_16 : decode cX10_insert 16 = .ok (.ireturn, 1) := by decide +kernel
theorem dX10_insert_17 : decode cX10_insert 17 = .ok (.aload_n 0, 1) := by decide +kernel
theorem dX10_insert_18 : decode cX10_insert 18 = .ok (.invokevirtual 165, 3) := by decide +kernel
theorem dX10_insert_21 : decode cX10_insert 21 = .ok (.bipush 60, 2) := by decide +kernel
theorem dX10_insert_23 : decode cX10_insert 23 = .ok (.if_icmp .ne 6, 3) := by decide +kernel
theorem dX10_insert_26 : decode cX10_insert 26 = .ok (.bipush (-3), 2) := by decide +kernel
theorem dX10_insert_28 : decode cX10_insert 28 = .ok (.ireturn, 1) := by decide +kernel
theorem dX10_insert_29 : decode cX10_insert 29 = .ok (.aload_n 0, 1) := by decide +kernel
theorem dX10_insert_30 : decode cX10_insert 30 = .ok (.invokevirtual 240, 3) := by decide +kernel
theorem dX10_insert_33 : decode cX10_insert 33 = .ok (.aload_n 0, 1) := by decide +kernel
theorem dX10_insert_34 : decode cX10_insert 34 = .ok (.iload_n 1, 1) := by decide +kernel
theorem dX10_insert_35 : decode cX10_insert 35 = .ok (.iload_n 2, 1) := by decide +kernel
theorem dX10_insert_36 : decode cX10_insert 36 = .ok (.invokevirtual 243, 3) := by decide +kernel
theorem dX10_insert_39 : decode cX10_insert 39 = .ok (.aload_n 0, 1) := by decide +kernel
theorem dX10_insert_40 : decode cX10_insert 40 = .ok (.invokevirtual 165, 3) := by decide +kernel
theorem dX10_insert_43 : decode cX10_insert 43 = .ok (.ireturn, 1) := by decide +kernel
theorem dX10_isPart_0 : decode cX10_isPart 0 = .ok (.iload_n 2, 1) := by decide +kernel
theorem dX10_isPart_1 : decode cX10_isPart 1 = .ok (.ifCond .le 25, 3) := by decide +kernel
theorem dX10_isPart_4 : decode cX10_isPart 4 = .ok (.iload_n 1, 1) := by decide +kernel
theorem dX10_isPart_5 : decode cX10_isPart 5 = .ok (.ifCond .lt 21, 3) := by decide +kernel
theorem dX10_isPart_8 : decode cX10_isPart 8 = .ok (.iload_n 1, 1) := by decide +kernel
theorem dX10_isPart_9 : decode cX10_isPart 9 = .ok (.i2l, 1) := by decide +kernel
theorem dX10_isPart_10 : decode cX10_isPart 10 = .ok (.iload_n 2, 1) := by decide +kernel
theorem dX10_isPart_11 : decode cX10_isPart 11 = .ok (.i2l, 1) := by decide +kernel
theorem dX10_isPart_12 : decode cX10_isPart 12 = .ok (.ladd, 1) := by decide +kernel
theorem dX10_isPart_13 : decode cX10_isPart 13 = .ok (.aload_n 0, 1) := by decide +kernel
theorem dX10_isPart_14 : decode cX10_isPart 14 = .ok (.invokevirtual 165, 3) := by decide +kernel
theorem dX10_isPart_17 : decode cX10_isPart 17 = .ok (.i2l, 1) := by decide +kernel
theorem dX10_isPart_18 : decode cX10_isPart 18 = .ok (.lcmp, 1) := by decide +kernel
theorem dX10_isPart_19 : decode cX10_isPart 19 = .ok (.ifCond .gt 7, 3) := by decide +kernel
theorem dX10_isPart_22 : decode cX10_isPart 22 = .ok (.iconst 1, 1) := by decide +kernel
theorem dX10_isPart_23 : decode cX10_isPart 23 = .ok (.goto 4, 3) := by decide +kernel
theorem dX10_isPart_26 : decode cX10_isPart 26 = .ok (.iconst 0, 1) := by decide +kernel
theorem dX10_isPart_27 : decode cX10_isPart 27 = .ok (.ireturn, 1) := by decide +kernel
theorem dX10_goes_0 : decode cX10_goes 0 = .ok (.iload_n 1, 1) := by decide +kernel
theorem dX10_goes_1 : decode cX10_goes 1 = .ok (.istore_n 3, 1) := by decide +kernel
theorem dX10_goes_2 : decode cX10_goes 2 = .ok (.iload_n 3, 1) := by decide +kernel
theorem dX10_goes_3 : decode cX10_goes 3 = .ok (.iload_n 2, 1) := by decide +kernel
theorem dX10_goes_4 : decode cX10_goes 4 = .ok (.iadd, 1) := by decide +kernel
theorem dX10_goes_5 : decode cX10_goes 5 = .ok (.aload_n 0, 1) := by decide +kernel
theorem dX10_goes_6 : decode cX10_goes 6 = .ok (.invokevirtual 165, 3) := by decide +kernel
theorem dX10_goes_9 : decode cX10_goes 9 = .ok (.if_icmp .ge 23, 3) := by decide +kernel
theorem dX10_goes_12 : decode cX10_goes 12 = .ok (.aload_n 0, 1) := by decide +kernel
theorem dX10_goes_13 : decode cX10_goes 13 = .ok (.getfield 7, 3) := by decide +kernel
theorem dX10_goes_16 : decode cX10_goes 16 = .ok (.iload_n 3, 1) := by decide +kernel
theorem dX10_goes_17 : decode cX10_goes 17 = .ok (.aload_n 0, 1) := by decide +kernel
theorem dX10_goes_18 : decode cX10_goes 18 = .ok (.getfield 7, 3) := by decide +kernel
theorem dX10_goes_21 : decode cX10_goes 21 = .ok (.iload_n 3, 1) := by decide +kernel
theorem dX10_goes_22 : decode cX10_goes 22 = .ok (.iload_n 2, 1) := by decide +kernel
theorem dX10_goes_23 : decode cX10_goes 23 = .ok (.iadd, 1) := by decide +kernel
theorem dX10_goes_24 : decode cX10_goes 24 = .ok (.iaload, 1) := by decide +kernel
theorem dX10_goes_25 : decode cX10_goes 25 = .ok (.iastore, 1) := by decide +kernel
theorem dX10_goes_26 : decode cX10_goes 26 = .ok (.iinc 3 1, 3) := by decide +kernel
theorem dX10_goes_29 : decode cX10_goes 29 = .ok (.goto (-27), 3) := by decide +kernel
theorem dX10_goes_32 : decode cX10_goes 32 = .ok (.aload_n 0, 1) := by decide +kernel
theorem dX10_goes_33 : decode cX10_goes 33 = .ok (.getfield 7, 3) := by decide +kernel
theorem dX10_goes_36 : decode cX10_goes 36 = .ok (.bipush 60, 2) := by decide +kernel
theorem dX10_goes_38 : decode cX10_goes 38 = .ok (.dup2, 1) := by decide +kernel
theorem dX10_goes_39 : decode cX10_goes 39 = .ok (.iaload, 1) := by decide +kernel
theorem dX10_goes_40 : decode cX10_goes 40 = .ok (.iload_n 2, 1) := by decide +kernel
theorem dX10_goes_41 : decode cX10_goes 41 = .ok (.isub, 1) := by decide +kernel
theorem dX10_goes_42 : decode cX10_goes 42 = .ok (.iastore, 1) := by decide +kernel
theorem dX10_goes_43 : decode cX10_goes 43 = .ok (.return_, 1) := by decide +kernel
theorem dX10_drop_0 : decode cX10_drop 0 = .ok (.aload_n 0, 1) := by decide +kernel
theorem dX10_drop_1 : decode cX10_drop 1 = .ok (.iload_n 1, 1) := by decide +kernel
theorem dX10_drop_2 : decode cX10_drop 2 = .ok (.iload_n 2, 1) := by decide +kernel
theorem dX10_drop_3 : decode cX10_drop 3 = .ok (.invokevirtual 246, 3) := by decide +kernel
theorem dX10_drop_6 : decode cX10_drop 6 = .ok (.ifCond .ne 5, 3) := by decide +kernel
theorem dX10_drop_9 : decode cX10_drop 9 = .ok (.iconst (-1), 1) := by decide +kernel
theorem dX10_drop_10 : decode cX10_drop 10 = .ok (.ireturn, 1) := by decide +kernel
theorem dX10_drop_11 : decode cX10_drop 11 = .ok (.aload_n 0, 1) := by decide +kernel
theorem dX10_drop_12 : decode cX10_drop 12 = .ok (.invokevirtual 240, 3) := by decide +kernel
theorem dX10_drop_15 : decode cX10_drop 15 = .ok (.aload_n 0, 1) := by decide +kernel
theorem dX10_drop_16 : decode cX10_drop 16 = .ok (.iload_n 1, 1) := by decide +kernel
theorem dX10_drop_17 : decode cX10_drop 17 = .ok (.iload_n 2, 1) := by decide +kernel
theorem dX10_drop_18 : decode cX10_drop 18 = .ok (.invokevirtual 249, 3) := by decide +kernel
theorem dX10_drop_21 : decode cX10_drop 21 = .ok (.aload_n 0, 1) := by decide +kernel
theorem dX10_drop_22 : decode cX10_drop 22 = .ok (.invokevirtual 165, 3) := by decide +kernel
theorem dX10_drop_25 : decode cX10_drop 25 = .ok (.ireturn, 1) := by decide +kernel
theorem dX10_lifts_0 : decode cX10_lifts 0 = .ok (.iconst 0, 1) := by decide +kernel
theorem dX10_lifts_1 : decode cX10_lifts 1 = .ok (.istore_n 3, 1) := by decide +kernel
theorem dX10_lifts_2 : decode cX10_lifts 2 = .ok (.iload_n 3, 1) := by decide +kernel
theorem dX10_lifts_3 : decode cX10_lifts 3 = .ok (.iload_n 2, 1) := by decide +kernel
theorem dX10_lifts_4 : decode cX10_lifts 4 = .ok (.if_icmp .ge 23, 3) := by decide +kernel
theorem dX10_lifts_7 : decode cX10_lifts 7 = .ok (.aload_n 0, 1) := by decide +kernel
theorem dX10_lifts_8 : decode cX10_lifts 8 = .ok (.getfield 43, 3) := by decide +kernel
theorem dX10_lifts_11 : decode cX10_lifts 11 = .ok (.iload_n 3, 1) := by decide +kernel
theorem dX10_lifts_12 : decode cX10_lifts 12 = .ok (.aload_n 0, 1) := by decide +kernel
theorem dX10_lifts_13 : decode cX10_lifts 13 = .ok (.getfield 7, 3) := by decide +kernel
theorem dX10_lifts_16 : decode cX10_lifts 16 = .ok (.iload_n 1, 1) := by decide +kernel
theorem dX10_lifts_17 : decode cX10_lifts 17 = .ok (.iload_n 3, 1) := by decide +kernel
theorem dX10_lifts_18 : decode cX10_lifts 18 = .ok (.iadd, 1) := by decide +kernel
theorem dX10_lifts_19 : decode cX10_lifts 19 = .ok (.iaload, 1) := by decide +kernel
theorem dX10_lifts_20 : decode cX10_lifts 20 = .ok (.iastore, 1) := by decide +kernel
theorem dX10_lifts_21 : decode cX10_lifts 21 = .ok (.iinc 3 1, 3) := by decide +kernel
theorem dX10_lifts_24 : decode cX10_lifts 24 = .ok (.goto (-22), 3) := by decide +kernel
theorem dX10_lifts_27 : decode cX10_lifts 27 = .ok (.return_, 1) := by decide +kernel
theorem dX10_laysDown_0 : decode cX10_laysDown 0 = .ok (.iconst 0, 1) := by decide +kernel
theorem dX10_laysDown_1 : decode cX10_laysDown 1 = .ok (.istore_n 3, 1) := by decide +kernel
theorem dX10_laysDown_2 : decode cX10_laysDown 2 = .ok (.iload_n 3, 1) := by decide +kernel
theorem dX10_laysDown_3 : decode cX10_laysDown 3 = .ok (.iload_n 1, 1) := by decide +kernel
theorem dX10_laysDown_4 : decode cX10_laysDown 4 = .ok (.if_icmp .ge 22, 3) := by decide +kernel
theorem dX10_laysDown_7 : decode cX10_laysDown 7 = .ok (.aload_n 0, 1) := by decide +kernel
theorem dX10_laysDown_8 : decode cX10_laysDown 8 = .ok (.iload_n 2, 1) := by decide +kernel
theorem dX10_laysDown_9 : decode cX10_laysDown 9 = .ok (.iload_n 3, 1) := by decide +kernel
theorem dX10_laysDown_10 : decode cX10_laysDown 10 = .ok (.iadd, 1) := by decide +kernel
theorem dX10_laysDown_11 : decode cX10_laysDown 11 = .ok (.aload_n 0, 1) := by decide +kernel
theorem dX10_laysDown_12 : decode cX10_laysDown 12 = .ok (.getfield 43, 3) := by decide +kernel
theorem dX10_laysDown_15 : decode cX10_laysDown 15 = .ok (.iload_n 3, 1) := by decide +kernel
theorem dX10_laysDown_16 : decode cX10_laysDown 16 = .ok (.iaload, 1) := by decide +kernel
theorem dX10_laysDown_17 : decode cX10_laysDown 17 = .ok (.invokevirtual 243, 3) := by decide +kernel
theorem dX10_laysDown_20 : decode cX10_laysDown 20 = .ok (.iinc 3 1, 3) := by decide +kernel
theorem dX10_laysDown_23 : decode cX10_laysDown 23 = .ok (.goto (-21), 3) := by decide +kernel
theorem dX10_laysDown_26 : decode cX10_laysDown 26 = .ok (.return_, 1) := by decide +kernel
theorem dX10_move_0 : decode cX10_move 0 = .ok (.aload_n 0, 1) := by decide +kernel
theorem dX10_move_1 : decode cX10_move 1 = .ok (.iload_n 1, 1) := by decide +kernel
theorem dX10_move_2 : decode cX10_move 2 = .ok (.iload_n 2, 1) := by decide +kernel
theorem dX10_move_3 : decode cX10_move 3 = .ok (.invokevirtual 246, 3) := by decide +kernel
theorem dX10_move_6 : decode cX10_move 6 = .ok (.ifCond .eq 23, 3) := by decide +kernel
theorem dX10_move_9 : decode cX10_move 9 = .ok (.aload_n 0, 1) := by decide +kernel
theorem dX10_move_10 : decode cX10_move 10 = .ok (.iload_n 3, 1) := by decide +kernel
theorem dX10_move_11 : decode cX10_move 11 = .ok (.invokevirtual 225, 3) := by decide +kernel
theorem dX10_move_14 : decode cX10_move 14 = .ok (.ifCond .eq 15, 3) := by decide +kernel
theorem dX10_move_17 : decode cX10_move 17 = .ok (.iload_n 3, 1) := by decide +kernel
theorem dX10_move_18 : decode cX10_move 18 = .ok (.iload_n 1, 1) := by decide +kernel
theorem dX10_move_19 : decode cX10_move 19 = .ok (.if_icmp .le 12, 3) := by decide +kernel
theorem dX10_move_22 : decode cX10_move 22 = .ok (.iload_n 3, 1) := by decide +kernel
theorem dX10_move_23 : decode cX10_move 23 = .ok (.iload_n 1, 1) := by decide +kernel
theorem dX10_move_24 : decode cX10_move 24 = .ok (.iload_n 2, 1) := by decide +kernel
theorem dX10_move_25 : decode cX10_move 25 = .ok (.iadd, 1) := by decide +kernel
theorem dX10_move_26 : decode cX10_move 26 = .ok (.if_icmp .ge 5, 3) := by decide +kernel
theorem dX10_move_29 : decode cX10_move 29 = .ok (.iconst (-1), 1) := by decide +kernel
theorem dX10_move_30 : decode cX10_move 30 = .ok (.ireturn, 1) := by decide +kernel
theorem dX10_move_31 : decode cX10_move 31 = .ok (.aload_n 0, 1) := by decide +kernel
theorem dX10_move_32 : decode cX10_move 32 = .ok (.invokevirtual 240, 3) := by decide +kernel
theorem dX10_move_35 : decode cX10_move 35 = .ok (.aload_n 0, 1) := by decide +kernel
theorem dX10_move_36 : decode cX10_move 36 = .ok (.iload_n 1, 1) := by decide +kernel
theorem dX10_move_37 : decode cX10_move 37 = .ok (.iload_n 2, 1) := by decide +kernel
theorem dX10_move_38 : decode cX10_move 38 = .ok (.invokevirtual 252, 3) := by decide +kernel
theorem dX10_move_41 : decode cX10_move 41 = .ok (.aload_n 0, 1) := by decide +kernel
theorem dX10_move_42 : decode cX10_move 42 = .ok (.iload_n 1, 1) := by decide +kernel
theorem dX10_move_43 : decode cX10_move 43 = .ok (.iload_n 2, 1) := by decide +kernel
theorem dX10_move_44 : decode cX10_move 44 = .ok (.invokevirtual 249, 3) := by decide +kernel
theorem dX10_move_47 : decode cX10_move 47 = .ok (.aload_n 0, 1) := by decide +kernel
theorem dX10_move_48 : decode cX10_move 48 = .ok (.iload_n 2, 1) := by decide +kernel
theorem dX10_move_49 : decode cX10_move 49 = .ok (.iload_n 3, 1) := by decide +kernel
theorem dX10_move_50 : decode cX10_move 50 = .ok (.iload_n 1, 1) := by decide +kernel
theorem dX10_move_51 : decode cX10_move 51 = .ok (.if_icmp .le 9, 3) := by decide +kernel
theorem dX10_move_54 : decode cX10_move 54 = .ok (.iload_n 3, 1) := by decide +kernel
theorem dX10_move_55 : decode cX10_move 55 = .ok (.iload_n 2, 1) := by decide +kernel
theorem dX10_move_56 : decode cX10_move 56 = .ok (.isub, 1) := by decide +kernel
theorem dX10_move_57 : decode cX10_move 57 = .ok (.goto 4, 3) := by decide +kernel
theorem dX10_move_60 : decode cX10_move 60 = .ok (.iload_n 3, 1) := by decide +kernel
theorem dX10_move_61 : decode cX10_move 61 = .ok (.invokevirtual 255, 3) := by decide +kernel
theorem dX10_move_64 : decode cX10_move 64 = .ok (.iconst 1, 1) := by decide +kernel
theorem dX10_move_65 : decode cX10_move 65 = .ok (.ireturn, 1) := by decide +kernel
theorem dX10_copy_0 : decode cX10_copy 0 = .ok (.aload_n 0, 1) := by decide +kernel
theorem dX10_copy_1 : decode cX10_copy 1 = .ok (.iload_n 1, 1) := by decide +kernel
theorem dX10_copy_2 : decode cX10_copy 2 = .ok (.iload_n 2, 1) := by decide +kernel
theorem dX10_copy_3 : decode cX10_copy 3 = .ok (.invokevirtual 246, 3) := by decide +kernel
theorem dX10_copy_6 : decode cX10_copy 6 = .ok (.ifCond .eq 11, 3) := by decide +kernel
theorem dX10_copy_9 : decode cX10_copy 9 = .ok (.aload_n 0, 1) := by decide +kernel
theorem dX10_copy_10 : decode cX10_copy 10 = .ok (.iload_n 3, 1) := by decide +kernel
theorem dX10_copy_11 : decode cX10_copy 11 = .ok (.invokevirtual 225, 3) := by decide +kernel
theorem dX10_copy_14 : decode cX10_copy 14 = .ok (.ifCond .ne 5, 3) := by decide +kernel
theorem dX10_copy_17 : decode cX10_copy 17 = .ok (.iconst (-1), 1) := by decide +kernel
theorem dX10_copy_18 : decode cX10_copy 18 = .ok (.ireturn, 1) := by decide +kernel
theorem dX10_copy_19 : decode cX10_copy 19 = .ok (.aload_n 0, 1) := by decide +kernel
theorem dX10_copy_20 : decode cX10_copy 20 = .ok (.invokevirtual 165, 3) := by decide +kernel
theorem dX10_copy_23 : decode cX10_copy 23 = .ok (.iload_n 2, 1) := by decide +kernel
theorem dX10_copy_24 : decode cX10_copy 24 = .ok (.iadd, 1) := by decide +kernel
theorem dX10_copy_25 : decode cX10_copy 25 = .ok (.bipush 60, 2) := by decide +kernel
theorem dX10_copy_27 : decode cX10_copy 27 = .ok (.if_icmp .le 6, 3) := by decide +kernel
theorem dX10_copy_30 : decode cX10_copy 30 = .ok (.bipush (-3), 2) := by decide +kernel
theorem dX10_copy_32 : decode cX10_copy 32 = .ok (.ireturn, 1) := by decide +kernel
theorem dX10_copy_33 : decode cX10_copy 33 = .ok (.aload_n 0, 1) := by decide +kernel
theorem dX10_copy_34 : decode cX10_copy 34 = .ok (.invokevirtual 240, 3) := by decide +kernel
theorem dX10_copy_37 : decode cX10_copy 37 = .ok (.aload_n 0, 1) := by decide +kernel
theorem dX10_copy_38 : decode cX10_copy 38 = .ok (.iload_n 1, 1) := by decide +kernel
theorem dX10_copy_39 : decode cX10_copy 39 = .ok (.iload_n 2, 1) := by decide +kernel
theorem dX10_copy_40 : decode cX10_copy 40 = .ok (.invokevirtual 252, 3) := by decide +kernel
theorem dX10_copy_43 : decode cX10_copy 43 = .ok (.aload_n 0, 1) := by decide +kernel
theorem dX10_copy_44 : decode cX10_copy 44 = .ok (.iload_n 2, 1) := by decide +kernel
theorem dX10_copy_45 : decode cX10_copy 45 = .ok (.iload_n 3, 1) := by decide +kernel
theorem dX10_copy_46 : decode cX10_copy 46 = .ok (.invokevirtual 255, 3) := by decide +kernel
theorem dX10_copy_49 : decode cX10_copy 49 = .ok (.aload_n 0, 1) := by decide +kernel
theorem dX10_copy_50 : decode cX10_copy 50 = .ok (.invokevirtual 165, 3) := by decide +kernel
theorem dX10_copy_53 : decode cX10_copy 53 = .ok (.ireturn, 1) := by decide +kernel
theorem dX10_turned_0 : decode cX10_turned 0 = .ok (.iload_n 0, 1) := by decide +kernel
theorem dX10_turned_1 : decode cX10_turned 1 = .ok (.lookupswitch 77 #[(40, 59), (41, 62), (91, 65), (93, 68), (123, 71), (125, 74)], 59) := by decide +kernel
theorem dX10_turned_60 : decode cX10_turned 60 = .ok (.bipush 41, 2) := by decide +kernel
theorem dX10_turned_62 : decode cX10_turned 62 = .ok (.ireturn, 1) := by decide +kernel
theorem dX10_turned_63 : decode cX10_turned 63 = .ok (.bipush 40, 2) := by decide +kernel
theorem dX10_turned_65 : decode cX10_turned 65 = .ok (.ireturn, 1) := by decide +kernel
theorem dX10_turned_66 : decode cX10_turned 66 = .ok (.bipush 93, 2) := by decide +kernel
theorem dX10_turned_68 : decode cX10_turned 68 = .ok (.ireturn, 1) := by decide +kernel
theorem dX10_turned_69 : decode cX10_turned 69 = .ok (.bipush 91, 2) := by decide +kernel
theorem dX10_turned_71 : decode cX10_turned 71 = .ok (.ireturn, 1) := by decide +kernel
theorem dX10_turned_72 : decode cX10_turned 72 = .ok (.bipush 125, 2) := by decide +kernel
theorem dX10_turned_74 : decode cX10_turned 74 = .ok (.ireturn, 1) := by decide +kernel
theorem dX10_turned_75 : decode cX10_turned 75 = .ok (.bipush 123, 2) := by decide +kernel
theorem dX10_turned_77 : decode cX10_turned 77 = .ok (.ireturn, 1) := by decide +kernel
theorem dX10_turned_78 : decode cX10_turned 78 = .ok (.iload_n 0, 1) := by decide +kernel
theorem dX10_turned_79 : decode cX10_turned 79 = .ok (.ireturn, 1) := by decide +kernel
theorem dX10_turn_0 : decode cX10_turn 0 = .ok (.aload_n 0, 1) := by decide +kernel
theorem dX10_turn_1 : decode cX10_turn 1 = .ok (.iload_n 1, 1) := by decide +kernel
theorem dX10_turn_2 : decode cX10_turn 2 = .ok (.iload_n 2, 1) := by decide +kernel
theorem dX10_turn_3 : decode cX10_turn 3 = .ok (.invokevirtual 246, 3) := by decide +kernel
theorem dX10_turn_6 : decode cX10_turn 6 = .ok (.ifCond .ne 5, 3) := by decide +kernel
theorem dX10_turn_9 : decode cX10_turn 9 = .ok (.iconst (-1), 1) := by decide +kernel
theorem dX10_turn_10 : decode cX10_turn 10 = .ok (.ireturn, 1) := by decide +kernel
theorem dX10_turn_11 : decode cX10_turn 11 = .ok (.aload_n 0, 1) := by decide +kernel
theorem dX10_turn_12 : decode cX10_turn 12 = .ok (.invokevirtual 240, 3) := by decide +kernel
theorem dX10_turn_15 : decode cX10_turn 15 = .ok (.aload_n 0, 1) := by decide +kernel
theorem dX10_turn_16 : decode cX10_turn 16 = .ok (.iload_n 1, 1) := by decide +kernel
theorem dX10_turn_17 : decode cX10_turn 17 = .ok (.iload_n 2, 1) := by decide +kernel
theorem dX10_turn_18 : decode cX10_turn 18 = .ok (.invokevirtual 252, 3) := by decide +kernel
theorem dX10_turn_21 : decode cX10_turn 21 = .ok (.iconst 0, 1) := by decide +kernel
theorem dX10_turn_22 : decode cX10_turn 22 = .ok (.istore_n 3, 1) := by decide +kernel
theorem dX10_turn_23 : decode cX10_turn 23 = .ok (.iconst 0, 1) := by decide +kernel
theorem dX10_turn_24 : decode cX10_turn 24 = .ok (.istore 4, 2) := by decide +kernel
theorem dX10_turn_26 : decode cX10_turn 26 = .ok (.iload 4, 2) := by decide +kernel
theorem dX10_turn_28 : decode cX10_turn 28 = .ok (.iload_n 2, 1) := by decide +kernel
theorem dX10_turn_29 : decode cX10_turn 29 = .ok (.if_icmp .ge 58, 3) := by decide +kernel
theorem dX10_turn_32 : decode cX10_turn 32 = .ok (.aload_n 0, 1) := by decide +kernel
theorem dX10_turn_33 : decode cX10_turn 33 = .ok (.getfield 43, 3) := by decide +kernel
theorem dX10_turn_36 : decode cX10_turn 36 = .ok (.iload_n 2, 1) := by decide +kernel
theorem dX10_turn_37 : decode cX10_turn 37 = .ok (.iconst 1, 1) := by decide +kernel
theorem dX10_turn_38 : decode cX10_turn 38 = .ok (.isub, 1) := by decide +kernel
theorem dX10_turn_39 : decode cX10_turn 39 = .ok (.iload 4, 2) := by decide +kernel
theorem dX10_turn_41 : decode cX10_turn 41 = .ok (.isub, 1) := by decide +kernel
theorem dX10_turn_42 : decode cX10_turn 42 = .ok (.iaload, 1) := by decide +kernel
theorem dX10_turn_43 : decode cX10_turn 43 = .ok (.sipush 128, 3) := by decide +kernel
theorem dX10_turn_46 : decode cX10_turn 46 = .ok (.irem, 1) := by decide +kernel
theorem dX10_turn_47 : decode cX10_turn 47 = .ok (.istore 5, 2) := by decide +kernel
theorem dX10_turn_49 : decode cX10_turn 49 = .ok (.iload_n 3, 1) := by decide +kernel
theorem dX10_turn_50 : decode cX10_turn 50 = .ok (.iload 5, 2) := by decide +kernel
theorem dX10_turn_52 : decode cX10_turn 52 = .ok (.invokestatic 78, 3) := by decide +kernel
theorem dX10_turn_55 : decode cX10_turn 55 = .ok (.bipush (-4), 2) := by decide +kernel
theorem dX10_turn_57 : decode cX10_turn 57 = .ok (.if_icmp .ne 7, 3) := by decide +kernel
theorem dX10_turn_60 : decode cX10_turn 60 = .ok (.iconst 0, 1) := by decide +kernel
theorem dX10_turn_61 : decode cX10_turn 61 = .ok (.goto 4, 3) := by decide +kernel
theorem dX10_turn_64 : decode cX10_turn 64 = .ok (.iconst 1, 1) := by decide +kernel
theorem dX10_turn_65 : decode cX10_turn 65 = .ok (.iadd, 1) := by decide +kernel
theorem dX10_turn_66 : decode cX10_turn 66 = .ok (.istore_n 3, 1) := by decide +kernel
theorem dX10_turn_67 : decode cX10_turn 67 = .ok (.aload_n 0, 1) := by decide +kernel
theorem dX10_turn_68 : decode cX10_turn 68 = .ok (.getfield 7, 3) := by decide +kernel
theorem dX10_turn_71 : decode cX10_turn 71 = .ok (.iload_n 1, 1) := by decide +kernel
theorem dX10_turn_72 : decode cX10_turn 72 = .ok (.iload 4, 2) := by decide +kernel
theorem dX10_turn_74 : decode cX10_turn 74 = .ok (.iadd, 1) := by decide +kernel
theorem dX10_turn_75 : decode cX10_turn 75 = .ok (.iload 5, 2) := by decide +kernel
theorem dX10_turn_77 : decode cX10_turn 77 = .ok (.invokestatic 258, 3) := by decide +kernel
theorem dX10_turn_80 : decode cX10_turn 80 = .ok (.iastore, 1) := by decide +kernel
theorem dX10_turn_81 : decode cX10_turn 81 = .ok (.iinc 4 1, 3) := by decide +kernel
theorem dX10_turn_84 : decode cX10_turn 84 = .ok (.goto (-58), 3) := by decide +kernel
theorem dX10_turn_87 : decode cX10_turn 87 = .ok (.iload_n 3, 1) := by decide +kernel
theorem dX10_turn_88 : decode cX10_turn 88 = .ok (.ireturn, 1) := by decide +kernel
theorem dX10_mark_0 : decode cX10_mark 0 = .ok (.aload_n 0, 1) := by decide +kernel
theorem dX10_mark_1 : decode cX10_mark 1 = .ok (.iload_n 1, 1) := by decide +kernel
theorem dX10_mark_2 : decode cX10_mark 2 = .ok (.invokevirtual 219, 3) := by decide +kernel
theorem dX10_mark_5 : decode cX10_mark 5 = .ok (.ifCond .eq 24, 3) := by decide +kernel
theorem dX10_mark_8 : decode cX10_mark 8 = .ok (.aload_n 0, 1) := by decide +kernel
theorem dX10_mark_9 : decode cX10_mark 9 = .ok (.iload_n 1, 1) := by decide +kernel
theorem dX10_mark_10 : decode cX10_mark 10 = .ok (.invokevirtual 170, 3) := by decide +kernel
theorem dX10_mark_13 : decode cX10_mark 13 = .ok (.invokestatic 142, 3) := by decide +kernel
theorem dX10_mark_16 : decode cX10_mark 16 = .ok (.ifCond .eq 13, 3) := by decide +kernel
theorem dX10_mark_19 : decode cX10_mark 19 = .ok (.iload_n 2, 1) := by decide +kernel
theorem dX10_mark_20 : decode cX10_mark 20 = .ok (.i2l, 1) := by decide +kernel
theorem dX10_mark_21 : decode cX10_mark 21 = .ok (.lconst 0, 1) := by decide +kernel
theorem dX10_mark_22 : decode cX10_mark 22 = .ok (.lconst 1, 1) := by decide +kernel
theorem dX10_mark_23 : decode cX10_mark 23 = .ok (.invokestatic 61, 3) := by decide +kernel
theorem dX10_mark_26 : decode cX10_mark 26 = .ok (.ifCond .ne 5, 3) := by decide +kernel
theorem dX10_mark_29 : decode cX10_mark 29 = .ok (.iconst (-1), 1) := by decide +kernel
theorem dX10_mark_30 : decode cX10_mark 30 = .ok (.ireturn, 1) := by decide +kernel
theorem dX10_mark_31 : decode cX10_mark 31 = .ok (.aload_n 0, 1) := by decide +kernel
theorem dX10_mark_32 : decode cX10_mark 32 = .ok (.invokevirtual 240, 3) := by decide +kernel
theorem dX10_mark_35 : decode cX10_mark 35 = .ok (.aload_n 0, 1) := by decide +kernel
theorem dX10_mark_36 : decode cX10_mark 36 = .ok (.iload_n 1, 1) := by decide +kernel
theorem dX10_mark_37 : decode cX10_mark 37 = .ok (.invokevirtual 180, 3) := by decide +kernel
theorem dX10_mark_40 : decode cX10_mark 40 = .ok (.ifCond .eq 7, 3) := by decide +kernel
theorem dX10_mark_43 : decode cX10_mark 43 = .ok (.iconst 1, 1) := by decide +kernel
theorem dX10_mark_44 : decode cX10_mark 44 = .ok (.goto 4, 3) := by decide +kernel
theorem dX10_mark_47 : decode cX10_mark 47 = .ok (.iconst 0, 1) := by decide +kernel
theorem dX10_mark_48 : decode cX10_mark 48 = .ok (.istore_n 3, 1) := by decide +kernel
theorem dX10_mark_49 : decode cX10_mark 49 = .ok (.aload_n 0, 1) := by decide +kernel
theorem dX10_mark_50 : decode cX10_mark 50 = .ok (.getfield 7, 3) := by decide +kernel
theorem dX10_mark_53 : decode cX10_mark 53 = .ok (.iload_n 1, 1) := by decide +kernel
theorem dX10_mark_54 : decode cX10_mark 54 = .ok (.aload_n 0, 1) := by decide +kernel
theorem dX10_mark_55 : decode cX10_mark 55 = .ok (.iload_n 1, 1) := by decide +kernel
theorem dX10_mark_56 : decode cX10_mark 56 = .ok (.invokevirtual 170, 3) := by decide +kernel
theorem dX10_mark_59 : decode cX10_mark 59 = .ok (.sipush 128, 3) := by decide +kernel
theorem dX10_mark_62 : decode cX10_mark 62 = .ok (.iload_n 2, 1) := by decide +kernel
theorem dX10_mark_63 : decode cX10_mark 63 = .ok (.imul, 1) := by decide +kernel
theorem dX10_mark_64 : decode cX10_mark 64 = .ok (.iadd, 1) := by decide +kernel
theorem dX10_mark_65 : decode cX10_mark 65 = .ok (.iastore, 1) := by decide +kernel
theorem dX10_mark_66 : decode cX10_mark 66 = .ok (.iload_n 3, 1) := by decide +kernel
theorem dX10_mark_67 : decode cX10_mark 67 = .ok (.ireturn, 1) := by decide +kernel
theorem dX10_drawn_0 : decode cX10_drawn 0 = .ok (.iload_n 0, 1) := by decide +kernel
theorem dX10_drawn_1 : decode cX10_drawn 1 = .ok (.tableswitch 71 0 7 #[47, 50, 53, 56, 59, 62, 65, 68], 47) := by decide +kernel
theorem dX10_drawn_48 : decode cX10_drawn 48 = .ok (.bipush 40, 2) := by decide +kernel
theorem dX10_drawn_50 : decode cX10_drawn 50 = .ok (.ireturn, 1) := by decide +kernel
theorem dX10_drawn_51 : decode cX10_drawn 51 = .ok (.bipush 41, 2) := by decide +kernel
theorem dX10_drawn_53 : decode cX10_drawn 53 = .ok (.ireturn, 1) := by decide +kernel
theorem dX10_drawn_54 : decode cX10_drawn 54 = .ok (.bipush 91, 2) := by decide +kernel
theorem dX10_drawn_56 : decode cX10_drawn 56 = .ok (.ireturn, 1) := by decide +kernel
theorem dX10_drawn_57 : decode cX10_drawn 57 = .ok (.bipush 93, 2) := by decide +kernel
theorem dX10_drawn_59 : decode cX10_drawn 59 = .ok (.ireturn, 1) := by decide +kernel
theorem dX10_drawn_60 : decode cX10_drawn 60 = .ok (.bipush 123, 2) := by decide +kernel
theorem dX10_drawn_62 : decode cX10_drawn 62 = .ok (.ireturn, 1) := by decide +kernel
theorem dX10_drawn_63 : decode cX10_drawn 63 = .ok (.bipush 125, 2) := by decide +kernel
theorem dX10_drawn_65 : decode cX10_drawn 65 = .ok (.ireturn, 1) := by decide +kernel
theorem dX10_drawn_66 : decode cX10_drawn 66 = .ok (.bipush 97, 2) := by decide +kernel
theorem dX10_drawn_68 : decode cX10_drawn 68 = .ok (.ireturn, 1) := by decide +kernel
theorem dX10_drawn_69 : decode cX10_drawn 69 = .ok (.bipush 122, 2) := by decide +kernel
theorem dX10_drawn_71 : decode cX10_drawn 71 = .ok (.ireturn, 1) := by decide +kernel
theorem dX10_drawn_72 : decode cX10_drawn 72 = .ok (.bipush 47, 2) := by decide +kernel
theorem dX10_drawn_74 : decode cX10_drawn 74 = .ok (.ireturn, 1) := by decide +kernel
theorem dX10_grow_0 : decode cX10_grow 0 = .ok (.iload_n 2, 1) := by decide +kernel
theorem dX10_grow_1 : decode cX10_grow 1 = .ok (.i2l, 1) := by decide +kernel
theorem dX10_grow_2 : decode cX10_grow 2 = .ok (.lconst 1, 1) := by decide +kernel
theorem dX10_grow_3 : decode cX10_grow 3 = .ok (.ldc2_w 261, 3) := by decide +kernel
theorem dX10_grow_6 : decode cX10_grow 6 = .ok (.invokestatic 61, 3) := by decide +kernel
theorem dX10_grow_9 : decode cX10_grow 9 = .ok (.ifCond .ne 5, 3) := by decide +kernel
theorem dX10_grow_12 : decode cX10_grow 12 = .ok (.iconst (-1), 1) := by decide +kernel
theorem dX10_grow_13 : decode cX10_grow 13 = .ok (.ireturn, 1) := by decide +kernel
theorem dX10_grow_14 : decode cX10_grow 14 = .ok (.aload_n 0, 1) := by decide +kernel
theorem dX10_grow_15 : decode cX10_grow 15 = .ok (.invokevirtual 240, 3) := by decide +kernel
theorem dX10_grow_18 : decode cX10_grow 18 = .ok (.iload_n 1, 1) := by decide +kernel
theorem dX10_grow_19 : decode cX10_grow 19 = .ok (.istore_n 3, 1) := by decide +kernel
theorem dX10_grow_20 : decode cX10_grow 20 = .ok (.iconst 0, 1) := by decide +kernel
theorem dX10_grow_21 : decode cX10_grow 21 = .ok (.istore 4, 2) := by decide +kernel
theorem dX10_grow_23 : decode cX10_grow 23 = .ok (.iload 4, 2) := by decide +kernel
theorem dX10_grow_25 : decode cX10_grow 25 = .ok (.iload_n 2, 1) := by decide +kernel
theorem dX10_grow_26 : decode cX10_grow 26 = .ok (.if_icmp .ge 62, 3) := by decide +kernel
theorem dX10_grow_29 : decode cX10_grow 29 = .ok (.aload_n 0, 1) := by decide +kernel
theorem dX10_grow_30 : decode cX10_grow 30 = .ok (.invokevirtual 165, 3) := by decide +kernel
theorem dX10_grow_33 : decode cX10_grow 33 = .ok (.bipush 60, 2) := by decide +kernel
theorem dX10_grow_35 : decode cX10_grow 35 = .ok (.if_icmp .ge 53, 3) := by decide +kernel
theorem dX10_grow_38 : decode cX10_grow 38 = .ok (.iload_n 3, 1) := by decide +kernel
theorem dX10_grow_39 : decode cX10_grow 39 = .ok (.ldc_w 263, 3) := by decide +kernel
theorem dX10_grow_42 : decode cX10_grow 42 = .ok (.imul, 1) := by decide +kernel
theorem dX10_grow_43 : decode cX10_grow 43 = .ok (.sipush 12345, 3) := by decide +kernel
theorem dX10_grow_46 : decode cX10_grow 46 = .ok (.iadd, 1) := by decide +kernel
theorem dX10_grow_47 : decode cX10_grow 47 = .ok (.istore_n 3, 1) := by decide +kernel
theorem dX10_grow_48 : decode cX10_grow 48 = .ok (.iload_n 3, 1) := by decide +kernel
theorem dX10_grow_49 : decode cX10_grow 49 = .ok (.bipush 16, 2) := by decide +kernel
theorem dX10_grow_51 : decode cX10_grow 51 = .ok (.ishr, 1) := by decide +kernel
theorem dX10_grow_52 : decode cX10_grow 52 = .ok (.sipush 32767, 3) := by decide +kernel
theorem dX10_grow_55 : decode cX10_grow 55 = .ok (.iand, 1) := by decide +kernel
theorem dX10_grow_56 : decode cX10_grow 56 = .ok (.istore 5, 2) := by decide +kernel
theorem dX10_grow_58 : decode cX10_grow 58 = .ok (.aload_n 0, 1) := by decide +kernel
theorem dX10_grow_59 : decode cX10_grow 59 = .ok (.iload 5, 2) := by decide +kernel
theorem dX10_grow_61 : decode cX10_grow 61 = .ok (.aload_n 0, 1) := by decide +kernel
theorem dX10_grow_62 : decode cX10_grow 62 = .ok (.invokevirtual 165, 3) := by decide +kernel
theorem dX10_grow_65 : decode cX10_grow 65 = .ok (.iconst 1, 1) := by decide +kernel
theorem dX10_grow_66 : decode cX10_grow 66 = .ok (.iadd, 1) := by decide +kernel
theorem dX10_grow_67 : decode cX10_grow 67 = .ok (.irem, 1) := by decide +kernel
theorem dX10_grow_68 : decode cX10_grow 68 = .ok (.iload 5, 2) := by decide +kernel
theorem dX10_grow_70 : decode cX10_grow 70 = .ok (.bipush 64, 2) := by decide +kernel
theorem dX10_grow_72 : decode cX10_grow 72 = .ok (.idiv, 1) := by decide +kernel
theorem dX10_grow_73 : decode cX10_grow 73 = .ok (.bipush 9, 2) := by decide +kernel
theorem dX10_grow_75 : decode cX10_grow 75 = .ok (.irem, 1) := by decide +kernel
theorem dX10_grow_76 : decode cX10_grow 76 = .ok (.invokestatic 264, 3) := by decide +kernel
theorem dX10_grow_79 : decode cX10_grow 79 = .ok (.invokevirtual 243, 3) := by decide +kernel
theorem dX10_grow_82 : decode cX10_grow 82 = .ok (.iinc 4 1, 3) := by decide +kernel
theorem dX10_grow_85 : decode cX10_grow 85 = .ok (.goto (-62), 3) := by decide +kernel
theorem dX10_grow_88 : decode cX10_grow 88 = .ok (.iload 4, 2) := by decide +kernel
theorem dX10_grow_90 : decode cX10_grow 90 = .ok (.ireturn, 1) := by decide +kernel
theorem dX10_undo_0 : decode cX10_undo 0 = .ok (.aload_n 0, 1) := by decide +kernel
theorem dX10_undo_1 : decode cX10_undo 1 = .ok (.getfield 159, 3) := by decide +kernel
theorem dX10_undo_4 : decode cX10_undo 4 = .ok (.ifCond .ne 6, 3) := by decide +kernel
theorem dX10_undo_7 : decode cX10_undo 7 = .ok (.bipush (-2), 2) := by decide +kernel
theorem dX10_undo_9 : decode cX10_undo 9 = .ok (.ireturn, 1) := by decide +kernel
theorem dX10_undo_10 : decode cX10_undo 10 = .ok (.aload_n 0, 1) := by decide +kernel
theorem dX10_undo_11 : decode cX10_undo 11 = .ok (.aload_n 0, 1) := by decide +kernel
theorem dX10_undo_12 : decode cX10_undo 12 = .ok (.getfield 40, 3) := by decide +kernel
theorem dX10_undo_15 : decode cX10_undo 15 = .ok (.aload_n 0, 1) := by decide +kernel
theorem dX10_undo_16 : decode cX10_undo 16 = .ok (.getfield 162, 3) := by decide +kernel
theorem dX10_undo_19 : decode cX10_undo 19 = .ok (.invokevirtual 233, 3) := by decide +kernel
theorem dX10_undo_22 : decode cX10_undo 22 = .ok (.aload_n 0, 1) := by decide +kernel
theorem dX10_undo_23 : decode cX10_undo 23 = .ok (.dup, 1) := by decide +kernel
theorem dX10_undo_24 : decode cX10_undo 24 = .ok (.getfield 162, 3) := by decide +kernel
theorem dX10_undo_27 : decode cX10_undo 27 = .ok (.iconst 1, 1) := by decide +kernel
theorem dX10_undo_28 : decode cX10_undo 28 = .ok (.iadd, 1) := by decide +kernel
theorem dX10_undo_29 : decode cX10_undo 29 = .ok (.putfield 162, 3) := by decide +kernel
theorem dX10_undo_32 : decode cX10_undo 32 = .ok (.aload_n 0, 1) := by decide +kernel
theorem dX10_undo_33 : decode cX10_undo 33 = .ok (.dup, 1) := by decide +kernel
theorem dX10_undo_34 : decode cX10_undo 34 = .ok (.getfield 159, 3) := by decide +kernel
theorem dX10_undo_37 : decode cX10_undo 37 = .ok (.iconst 1, 1) := by decide +kernel
theorem dX10_undo_38 : decode cX10_undo 38 = .ok (.isub, 1) := by decide +kernel
theorem dX10_undo_39 : decode cX10_undo 39 = .ok (.putfield 159, 3) := by decide +kernel
theorem dX10_undo_42 : decode cX10_undo 42 = .ok (.aload_n 0, 1) := by decide +kernel
theorem dX10_undo_43 : decode cX10_undo 43 = .ok (.aload_n 0, 1) := by decide +kernel
theorem dX10_undo_44 : decode cX10_undo 44 = .ok (.getfield 37, 3) := by decide +kernel
theorem dX10_undo_47 : decode cX10_undo 47 = .ok (.aload_n 0, 1) := by decide +kernel
theorem dX10_undo_48 : decode cX10_undo 48 = .ok (.getfield 159, 3) := by decide +kernel
theorem dX10_undo_51 : decode cX10_undo 51 = .ok (.invokevirtual 267, 3) := by decide +kernel
theorem dX10_undo_54 : decode cX10_undo 54 = .ok (.aload_n 0, 1) := by decide +kernel
theorem dX10_undo_55 : decode cX10_undo 55 = .ok (.invokevirtual 165, 3) := by decide +kernel
theorem dX10_undo_58 : decode cX10_undo 58 = .ok (.ireturn, 1) := by decide +kernel
theorem dX10_redo_0 : decode cX10_redo 0 = .ok (.aload_n 0, 1) := by decide +kernel
theorem dX10_redo_1 : decode cX10_redo 1 = .ok (.getfield 162, 3) := by decide +kernel
theorem dX10_redo_4 : decode cX10_redo 4 = .ok (.ifCond .ne 6, 3) := by decide +kernel
theorem dX10_redo_7 : decode cX10_redo 7 = .ok (.bipush (-2), 2) := by decide +kernel
theorem dX10_redo_9 : decode cX10_redo 9 = .ok (.ireturn, 1) := by decide +kernel
theorem dX10_redo_10 : decode cX10_redo 10 = .ok (.aload_n 0, 1) := by decide +kernel
theorem dX10_redo_11 : decode cX10_redo 11 = .ok (.invokevirtual 237, 3) := by decide +kernel
theorem dX10_redo_14 : decode cX10_redo 14 = .ok (.aload_n 0, 1) := by decide +kernel
theorem dX10_redo_15 : decode cX10_redo 15 = .ok (.dup, 1) := by decide +kernel
theorem dX10_redo_16 : decode cX10_redo 16 = .ok (.getfield 162, 3) := by decide +kernel
theorem dX10_redo_19 : decode cX10_redo 19 = .ok (.iconst 1, 1) := by decide +kernel
theorem dX10_redo_20 : decode cX10_redo 20 = .ok (.isub, 1) := by decide +kernel
theorem dX10_redo_21 : decode cX10_redo 21 = .ok (.putfield 162, 3) := by decide +kernel
theorem dX10_redo_24 : decode cX10_redo 24 = .ok (.aload_n 0, 1) := by decide +kernel
theorem dX10_redo_25 : decode cX10_redo 25 = .ok (.aload_n 0, 1) := by decide +kernel
theorem dX10_redo_26 : decode cX10_redo 26 = .ok (.getfield 40, 3) := by decide +kernel
theorem dX10_redo_29 : decode cX10_redo 29 = .ok (.aload_n 0, 1) := by decide +kernel
theorem dX10_redo_30 : decode cX10_redo 30 = .ok (.getfield 162, 3) := by decide +kernel
theorem dX10_redo_33 : decode cX10_redo 33 = .ok (.invokevirtual 267, 3) := by decide +kernel
theorem dX10_redo_36 : decode cX10_redo 36 = .ok (.aload_n 0, 1) := by decide +kernel
theorem dX10_redo_37 : decode cX10_redo 37 = .ok (.invokevirtual 165, 3) := by decide +kernel
theorem dX10_redo_40 : decode cX10_redo 40 = .ok (.ireturn, 1) := by decide +kernel
theorem dX10_keep_0 : decode cX10_keep 0 = .ok (.iload_n 1, 1) := by decide +kernel
theorem dX10_keep_1 : decode cX10_keep 1 = .ok (.i2l, 1) := by decide +kernel
theorem dX10_keep_2 : decode cX10_keep 2 = .ok (.lconst 0, 1) := by decide +kernel
theorem dX10_keep_3 : decode cX10_keep 3 = .ok (.lconst 1, 1) := by decide +kernel
theorem dX10_keep_4 : decode cX10_keep 4 = .ok (.invokestatic 61, 3) := by decide +kernel
theorem dX10_keep_7 : decode cX10_keep 7 = .ok (.ifCond .ne 5, 3) := by decide +kernel
theorem dX10_keep_10 : decode cX10_keep 10 = .ok (.iconst (-1), 1) := by decide +kernel
theorem dX10_keep_11 : decode cX10_keep 11 = .ok (.ireturn, 1) := by decide +kernel
theorem dX10_keep_12 : decode cX10_keep 12 = .ok (.aload_n 0, 1) := by decide +kernel
theorem dX10_keep_13 : decode cX10_keep 13 = .ok (.getfield 46, 3) := by decide +kernel
theorem dX10_keep_16 : decode cX10_keep 16 = .ok (.iload_n 1, 1) := by decide +kernel
theorem dX10_keep_17 : decode cX10_keep 17 = .ok (.baload, 1) := by decide +kernel
theorem dX10_keep_18 : decode cX10_keep 18 = .ok (.ifCond .eq 7, 3) := by decide +kernel
theorem dX10_keep_21 : decode cX10_keep 21 = .ok (.iconst 1, 1) := by decide +kernel
theorem dX10_keep_22 : decode cX10_keep 22 = .ok (.goto 4, 3) := by decide +kernel
theorem dX10_keep_25 : decode cX10_keep 25 = .ok (.iconst 0, 1) := by decide +kernel
theorem dX10_keep_26 : decode cX10_keep 26 = .ok (.istore_n 2, 1) := by decide +kernel
theorem dX10_keep_27 : decode cX10_keep 27 = .ok (.aload_n 0, 1) := by decide +kernel
theorem dX10_keep_28 : decode cX10_keep 28 = .ok (.iconst 0, 1) := by decide +kernel
theorem dX10_keep_29 : decode cX10_keep 29 = .ok (.bipush 61, 2) := by decide +kernel
theorem dX10_keep_31 : decode cX10_keep 31 = .ok (.iload_n 1, 1) := by decide +kernel
theorem dX10_keep_32 : decode cX10_keep 32 = .ok (.imul, 1) := by decide +kernel
theorem dX10_keep_33 : decode cX10_keep 33 = .ok (.bipush 61, 2) := by decide +kernel
theorem dX10_keep_35 : decode cX10_keep 35 = .ok (.iadd, 1) := by decide +kernel
theorem dX10_keep_36 : decode cX10_keep 36 = .ok (.invokevirtual 155, 3) := by decide +kernel
theorem dX10_keep_39 : decode cX10_keep 39 = .ok (.aload_n 0, 1) := by decide +kernel
theorem dX10_keep_40 : decode cX10_keep 40 = .ok (.getfield 46, 3) := by decide +kernel
theorem dX10_keep_43 : decode cX10_keep 43 = .ok (.iload_n 1, 1) := by decide +kernel
theorem dX10_keep_44 : decode cX10_keep 44 = .ok (.iconst 1, 1) := by decide +kernel
theorem dX10_keep_45 : decode cX10_keep 45 = .ok (.bastore, 1) := by decide +kernel
theorem dX10_keep_46 : decode cX10_keep 46 = .ok (.iload_n 2, 1) := by decide +kernel
theorem dX10_keep_47 : decode cX10_keep 47 = .ok (.ireturn, 1) := by decide +kernel
theorem dX10_back_0 : decode cX10_back 0 = .ok (.iload_n 1, 1) := by decide +kernel
theorem dX10_back_1 : decode cX10_back 1 = .ok (.i2l, 1) := by decide +kernel
theorem dX10_back_2 : decode cX10_back 2 = .ok (.lconst 0, 1) := by decide +kernel
theorem dX10_back_3 : decode cX10_back 3 = .ok (.lconst 1, 1) := by decide +kernel
theorem dX10_back_4 : decode cX10_back 4 = .ok (.invokestatic 61, 3) := by decide +kernel
theorem dX10_back_7 : decode cX10_back 7 = .ok (.ifCond .ne 5, 3) := by decide +kernel
theorem dX10_back_10 : decode cX10_back 10 = .ok (.iconst (-1), 1) := by decide +kernel
theorem dX10_back_11 : decode cX10_back 11 = .ok (.ireturn, 1) := by decide +kernel
theorem dX10_back_12 : decode cX10_back 12 = .ok (.aload_n 0, 1) := by decide +kernel
theorem dX10_back_13 : decode cX10_back 13 = .ok (.getfield 46, 3) := by decide +kernel
theorem dX10_back_16 : decode cX10_back 16 = .ok (.iload_n 1, 1) := by decide +kernel
theorem dX10_back_17 : decode cX10_back 17 = .ok (.baload, 1) := by decide +kernel
theorem dX10_back_18 : decode cX10_back 18 = .ok (.ifCond .ne 6, 3) := by decide +kernel
theorem dX10_back_21 : decode cX10_back 21 = .ok (.bipush (-2), 2) := by decide +kernel
theorem dX10_back_23 : decode cX10_back 23 = .ok (.ireturn, 1) := by decide +kernel
theorem dX10_back_24 : decode cX10_back 24 = .ok (.aload_n 0, 1) := by decide +kernel
theorem dX10_back_25 : decode cX10_back 25 = .ok (.bipush 61, 2) := by decide +kernel
theorem dX10_back_27 : decode cX10_back 27 = .ok (.iload_n 1, 1) := by decide +kernel
theorem dX10_back_28 : decode cX10_back 28 = .ok (.imul, 1) := by decide +kernel
theorem dX10_back_29 : decode cX10_back 29 = .ok (.bipush 61, 2) := by decide +kernel
theorem dX10_back_31 : decode cX10_back 31 = .ok (.iadd, 1) := by decide +kernel
theorem dX10_back_32 : decode cX10_back 32 = .ok (.iconst 0, 1) := by decide +kernel
theorem dX10_back_33 : decode cX10_back 33 = .ok (.invokevirtual 155, 3) := by decide +kernel
theorem dX10_back_36 : decode cX10_back 36 = .ok (.aload_n 0, 1) := by decide +kernel
theorem dX10_back_37 : decode cX10_back 37 = .ok (.iconst 0, 1) := by decide +kernel
theorem dX10_back_38 : decode cX10_back 38 = .ok (.putfield 159, 3) := by decide +kernel
theorem dX10_back_41 : decode cX10_back 41 = .ok (.aload_n 0, 1) := by decide +kernel
theorem dX10_back_42 : decode cX10_back 42 = .ok (.iconst 0, 1) := by decide +kernel
theorem dX10_back_43 : decode cX10_back 43 = .ok (.putfield 162, 3) := by decide +kernel
theorem dX10_back_46 : decode cX10_back 46 = .ok (.aload_n 0, 1) := by decide +kernel
theorem dX10_back_47 : decode cX10_back 47 = .ok (.invokevirtual 165, 3) := by decide +kernel
theorem dX10_back_50 : decode cX10_back 50 = .ok (.ireturn, 1) := by decide +kernel
theorem dX10_sheet_0 : decode cX10_sheet 0 = .ok (.iload_n 1, 1) := by decide +kernel
theorem dX10_sheet_1 : decode cX10_sheet 1 = .ok (.i2l, 1) := by decide +kernel
theorem dX10_sheet_2 : decode cX10_sheet 2 = .ok (.lconst 0, 1) := by decide +kernel
theorem dX10_sheet_3 : decode cX10_sheet 3 = .ok (.ldc2_w 228, 3) := by decide +kernel
theorem dX10_sheet_6 : decode cX10_sheet 6 = .ok (.invokestatic 61, 3) := by decide +kernel
theorem dX10_sheet_9 : decode cX10_sheet 9 = .ok (.ifCond .eq 21, 3) := by decide +kernel
theorem dX10_sheet_12 : decode cX10_sheet 12 = .ok (.iload_n 2, 1) := by decide +kernel
theorem dX10_sheet_13 : decode cX10_sheet 13 = .ok (.i2l, 1) := by decide +kernel
theorem dX10_sheet_14 : decode cX10_sheet 14 = .ok (.lconst 0, 1) := by decide +kernel
theorem dX10_sheet_15 : decode cX10_sheet 15 = .ok (.ldc2_w 168, 3) := by decide +kernel
theorem dX10_sheet_18 : decode cX10_sheet 18 = .ok (.invokestatic 61, 3) := by decide +kernel
theorem dX10_sheet_21 : decode cX10_sheet 21 = .ok (.ifCond .eq 9, 3) := by decide +kernel
theorem dX10_sheet_24 : decode cX10_sheet 24 = .ok (.iload_n 3, 1) := by decide +kernel
theorem dX10_sheet_25 : decode cX10_sheet 25 = .ok (.bipush 40, 2) := by decide +kernel
theorem dX10_sheet_27 : decode cX10_sheet 27 = .ok (.if_icmp .le 5, 3) := by decide +kernel
theorem dX10_sheet_30 : decode cX10_sheet 30 = .ok (.iconst (-1), 1) := by decide +kernel
theorem dX10_sheet_31 : decode cX10_sheet 31 = .ok (.ireturn, 1) := by decide +kernel
theorem dX10_sheet_32 : decode cX10_sheet 32 = .ok (.iload_n 3, 1) := by decide +kernel
theorem dX10_sheet_33 : decode cX10_sheet 33 = .ok (.ifCond .ge 6, 3) := by decide +kernel
theorem dX10_sheet_36 : decode cX10_sheet 36 = .ok (.bipush (-14), 2) := by decide +kernel
theorem dX10_sheet_38 : decode cX10_sheet 38 = .ok (.ireturn, 1) := by decide +kernel
theorem dX10_sheet_39 : decode cX10_sheet 39 = .ok (.aload_n 0, 1) := by decide +kernel
theorem dX10_sheet_40 : decode cX10_sheet 40 = .ok (.getfield 50, 3) := by decide +kernel
theorem dX10_sheet_43 : decode cX10_sheet 43 = .ok (.iload_n 1, 1) := by decide +kernel
theorem dX10_sheet_44 : decode cX10_sheet 44 = .ok (.iload_n 2, 1) := by decide +kernel
theorem dX10_sheet_45 : decode cX10_sheet 45 = .ok (.iastore, 1) := by decide +kernel
theorem dX10_sheet_46 : decode cX10_sheet 46 = .ok (.aload_n 0, 1) := by decide +kernel
theorem dX10_sheet_47 : decode cX10_sheet 47 = .ok (.getfield 53, 3) := by decide +kernel
theorem dX10_sheet_50 : decode cX10_sheet 50 = .ok (.iload_n 1, 1) := by decide +kernel
theorem dX10_sheet_51 : decode cX10_sheet 51 = .ok (.iload_n 3, 1) := by decide +kernel
theorem dX10_sheet_52 : decode cX10_sheet 52 = .ok (.iastore, 1) := by decide +kernel
theorem dX10_sheet_53 : decode cX10_sheet 53 = .ok (.iconst 0, 1) := by decide +kernel
theorem dX10_sheet_54 : decode cX10_sheet 54 = .ok (.istore 4, 2) := by decide +kernel
theorem dX10_sheet_56 : decode cX10_sheet 56 = .ok (.iload 4, 2) := by decide +kernel
theorem dX10_sheet_58 : decode cX10_sheet 58 = .ok (.bipush 40, 2) := by decide +kernel
theorem dX10_sheet_60 : decode cX10_sheet 60 = .ok (.if_icmp .ge 22, 3) := by decide +kernel
theorem dX10_sheet_63 : decode cX10_sheet 63 = .ok (.aload_n 0, 1) := by decide +kernel
theorem dX10_sheet_64 : decode cX10_sheet 64 = .ok (.getfield 56, 3) := by decide +kernel
theorem dX10_sheet_67 : decode cX10_sheet 67 = .ok (.bipush 40, 2) := by decide +kernel
theorem dX10_sheet_69 : decode cX10_sheet 69 = .ok (.iload_n 1, 1) := by decide +kernel
theorem dX10_sheet_70 : decode cX10_sheet 70 = .ok (.imul, 1) := by decide +kernel
theorem dX10_sheet_71 : decode cX10_sheet 71 = .ok (.iload 4, 2) := by decide +kernel
theorem dX10_sheet_73 : decode cX10_sheet 73 = .ok (.iadd, 1) := by decide +kernel
theorem dX10_sheet_74 : decode cX10_sheet 74 = .ok (.iconst 0, 1) := by decide +kernel
theorem dX10_sheet_75 : decode cX10_sheet 75 = .ok (.iastore, 1) := by decide +kernel
theorem dX10_sheet_76 : decode cX10_sheet 76 = .ok (.iinc 4 1, 3) := by decide +kernel
theorem dX10_sheet_79 : decode cX10_sheet 79 = .ok (.goto (-23), 3) := by decide +kernel
theorem dX10_sheet_82 : decode cX10_sheet 82 = .ok (.iconst 1, 1) := by decide +kernel
theorem dX10_sheet_83 : decode cX10_sheet 83 = .ok (.ireturn, 1) := by decide +kernel
theorem dX10_lay_0 : decode cX10_lay 0 = .ok (.iload_n 1, 1) := by decide +kernel
theorem dX10_lay_1 : decode cX10_lay 1 = .ok (.i2l, 1) := by decide +kernel
theorem dX10_lay_2 : decode cX10_lay 2 = .ok (.lconst 0, 1) := by decide +kernel
theorem dX10_lay_3 : decode cX10_lay 3 = .ok (.ldc2_w 228, 3) := by decide +kernel
theorem dX10_lay_6 : decode cX10_lay 6 = .ok (.invokestatic 61, 3) := by decide +kernel
theorem dX10_lay_9 : decode cX10_lay 9 = .ok (.ifCond .ne 5, 3) := by decide +kernel
theorem dX10_lay_12 : decode cX10_lay 12 = .ok (.iconst (-1), 1) := by decide +kernel
theorem dX10_lay_13 : decode cX10_lay 13 = .ok (.ireturn, 1) := by decide +kernel
theorem dX10_lay_14 : decode cX10_lay 14 = .ok (.aload_n 0, 1) := by decide +kernel
theorem dX10_lay_15 : decode cX10_lay 15 = .ok (.getfield 50, 3) := by decide +kernel
theorem dX10_lay_18 : decode cX10_lay 18 = .ok (.iload_n 1, 1) := by decide +kernel
theorem dX10_lay_19 : decode cX10_lay 19 = .ok (.iaload, 1) := by decide +kernel
theorem dX10_lay_20 : decode cX10_lay 20 = .ok (.bipush (-4), 2) := by decide +kernel
theorem dX10_lay_22 : decode cX10_lay 22 = .ok (.if_icmp .ne 6, 3) := by decide +kernel
theorem dX10_lay_25 : decode cX10_lay 25 = .ok (.bipush (-11), 2) := by decide +kernel
theorem dX10_lay_27 : decode cX10_lay 27 = .ok (.ireturn, 1) := by decide +kernel
theorem dX10_lay_28 : decode cX10_lay 28 = .ok (.iload_n 2, 1) := by decide +kernel
theorem dX10_lay_29 : decode cX10_lay 29 = .ok (.i2l, 1) := by decide +kernel
theorem dX10_lay_30 : decode cX10_lay 30 = .ok (.lconst 0, 1) := by decide +kernel
theorem dX10_lay_31 : decode cX10_lay 31 = .ok (.aload_n 0, 1) := by decide +kernel
theorem dX10_lay_32 : decode cX10_lay 32 = .ok (.getfield 53, 3) := by decide +kernel
theorem dX10_lay_35 : decode cX10_lay 35 = .ok (.iload_n 1, 1) := by decide +kernel
theorem dX10_lay_36 : decode cX10_lay 36 = .ok (.iaload, 1) := by decide +kernel
theorem dX10_lay_37 : decode cX10_lay 37 = .ok (.iconst 1, 1) := by decide +kernel
theorem dX10_lay_38 : decode cX10_lay 38 = .ok (.isub, 1) := by decide +kernel
theorem dX10_lay_39 : decode cX10_lay 39 = .ok (.i2l, 1) := by decide +kernel
theorem dX10_lay_40 : decode cX10_lay 40 = .ok (.invokestatic 61, 3) := by decide +kernel
theorem dX10_lay_43 : decode cX10_lay 43 = .ok (.ifCond .ne 6, 3) := by decide +kernel
theorem dX10_lay_46 : decode cX10_lay 46 = .ok (.bipush (-12), 2) := by decide +kernel
theorem dX10_lay_48 : decode cX10_lay 48 = .ok (.ireturn, 1) := by decide +kernel
theorem dX10_lay_49 : decode cX10_lay 49 = .ok (.aload_n 0, 1) := by decide +kernel
theorem dX10_lay_50 : decode cX10_lay 50 = .ok (.getfield 56, 3) := by decide +kernel
theorem dX10_lay_53 : decode cX10_lay 53 = .ok (.bipush 40, 2) := by decide +kernel
theorem dX10_lay_55 : decode cX10_lay 55 = .ok (.iload_n 1, 1) := by decide +kernel
theorem dX10_lay_56 : decode cX10_lay 56 = .ok (.imul, 1) := by decide +kernel
theorem dX10_lay_57 : decode cX10_lay 57 = .ok (.iload_n 2, 1) := by decide +kernel
theorem dX10_lay_58 : decode cX10_lay 58 = .ok (.iadd, 1) := by decide +kernel
theorem dX10_lay_59 : decode cX10_lay 59 = .ok (.aload_n 0, 1) := by decide +kernel
theorem dX10_lay_60 : decode cX10_lay 60 = .ok (.getfield 50, 3) := by decide +kernel
theorem dX10_lay_63 : decode cX10_lay 63 = .ok (.iload_n 1, 1) := by decide +kernel
theorem dX10_lay_64 : decode cX10_lay 64 = .ok (.iaload, 1) := by decide +kernel
theorem dX10_lay_65 : decode cX10_lay 65 = .ok (.ifCond .ne 13, 3) := by decide +kernel
theorem dX10_lay_68 : decode cX10_lay 68 = .ok (.iload_n 3, 1) := by decide +kernel
theorem dX10_lay_69 : decode cX10_lay 69 = .ok (.bipush 24, 2) := by decide +kernel
theorem dX10_lay_71 : decode cX10_lay 71 = .ok (.ishl, 1) := by decide +kernel
theorem dX10_lay_72 : decode cX10_lay 72 = .ok (.bipush 24, 2) := by decide +kernel
theorem dX10_lay_74 : decode cX10_lay 74 = .ok (.ishr, 1) := by decide +kernel
theorem dX10_lay_75 : decode cX10_lay 75 = .ok (.goto 24, 3) := by decide +kernel
theorem dX10_lay_78 : decode cX10_lay 78 = .ok (.aload_n 0, 1) := by decide +kernel
theorem dX10_lay_79 : decode cX10_lay 79 = .ok (.getfield 50, 3) := by decide +kernel
theorem dX10_lay_82 : decode cX10_lay 82 = .ok (.iload_n 1, 1) := by decide +kernel
theorem dX10_lay_83 : decode cX10_lay 83 = .ok (.iaload, 1) := by decide +kernel
theorem dX10_lay_84 : decode cX10_lay 84 = .ok (.iconst 1, 1) := by decide +kernel
theorem dX10_lay_85 : decode cX10_lay 85 = .ok (.if_icmp .ne 13, 3) := by decide +kernel
theorem dX10_lay_88 : decode cX10_lay 88 = .ok (.iload_n 3, 1) := by decide +kernel
theorem dX10_lay_89 : decode cX10_lay 89 = .ok (.bipush 16, 2) := by decide +kernel
theorem dX10_lay_91 : decode cX10_lay 91 = .ok (.ishl, 1) := by decide +kernel
theorem dX10_lay_92 : decode cX10_lay 92 = .ok (.bipush 16, 2) := by decide +kernel
theorem dX10_lay_94 : decode cX10_lay 94 = .ok (.ishr, 1) := by decide +kernel
theorem dX10_lay_95 : decode cX10_lay 95 = .ok (.goto 4, 3) := by decide +kernel
theorem dX10_lay_98 : decode cX10_lay 98 = .ok (.iload_n 3, 1) := by decide +kernel
theorem dX10_lay_99 : decode cX10_lay 99 = .ok (.iastore, 1) := by decide +kernel
theorem dX10_lay_100 : decode cX10_lay 100 = .ok (.iconst 1, 1) := by decide +kernel
theorem dX10_lay_101 : decode cX10_lay 101 = .ok (.ireturn, 1) := by decide +kernel
theorem dX10_read_0 : decode cX10_read 0 = .ok (.iload_n 1, 1) := by decide +kernel
theorem dX10_read_1 : decode cX10_read 1 = .ok (.i2l, 1) := by decide +kernel
theorem dX10_read_2 : decode cX10_read 2 = .ok (.lconst 0, 1) := by decide +kernel
theorem dX10_read_3 : decode cX10_read 3 = .ok (.ldc2_w 228, 3) := by decide +kernel
theorem dX10_read_6 : decode cX10_read 6 = .ok (.invokestatic 61, 3) := by decide +kernel
theorem dX10_read_9 : decode cX10_read 9 = .ok (.ifCond .eq 28, 3) := by decide +kernel
theorem dX10_read_12 : decode cX10_read 12 = .ok (.iload_n 2, 1) := by decide +kernel
theorem dX10_read_13 : decode cX10_read 13 = .ok (.i2l, 1) := by decide +kernel
theorem dX10_read_14 : decode cX10_read 14 = .ok (.lconst 0, 1) := by decide +kernel
theorem dX10_read_15 : decode cX10_read 15 = .ok (.ldc2_w 168, 3) := by decide +kernel
theorem dX10_read_18 : decode cX10_read 18 = .ok (.invokestatic 61, 3) := by decide +kernel
theorem dX10_read_21 : decode cX10_read 21 = .ok (.ifCond .eq 16, 3) := by decide +kernel
theorem dX10_read_24 : decode cX10_read 24 = .ok (.iload 4, 2) := by decide +kernel
theorem dX10_read_26 : decode cX10_read 26 = .ok (.i2l, 1) := by decide +kernel
theorem dX10_read_27 : decode cX10_read 27 = .ok (.lconst 0, 1) := by decide +kernel
theorem dX10_read_28 : decode cX10_read 28 = .ok (.ldc2_w 270, 3) := by decide +kernel
theorem dX10_read_31 : decode cX10_read 31 = .ok (.invokestatic 61, 3) := by decide +kernel
theorem dX10_read_34 : decode cX10_read 34 = .ok (.ifCond .ne 5, 3) := by decide +kernel
theorem dX10_read_37 : decode cX10_read 37 = .ok (.iconst (-1), 1) := by decide +kernel
theorem dX10_read_38 : decode cX10_read 38 = .ok (.ireturn, 1) := by decide +kernel
theorem dX10_read_39 : decode cX10_read 39 = .ok (.aload_n 0, 1) := by decide +kernel
theorem dX10_read_40 : decode cX10_read 40 = .ok (.iconst 0, 1) := by decide +kernel
theorem dX10_read_41 : decode cX10_read 41 = .ok (.sipush 244, 3) := by decide +kernel
theorem dX10_read_44 : decode cX10_read 44 = .ok (.invokevirtual 155, 3) := by decide +kernel
theorem dX10_read_47 : decode cX10_read 47 = .ok (.iconst 0, 1) := by decide +kernel
theorem dX10_read_48 : decode cX10_read 48 = .ok (.istore 5, 2) := by decide +kernel
theorem dX10_read_50 : decode cX10_read 50 = .ok (.iconst 0, 1) := by decide +kernel
theorem dX10_read_51 : decode cX10_read 51 = .ok (.istore 6, 2) := by decide +kernel
theorem dX10_read_53 : decode cX10_read 53 = .ok (.iload 6, 2) := by decide +kernel
theorem dX10_read_55 : decode cX10_read 55 = .ok (.iload 4, 2) := by decide +kernel
theorem dX10_read_57 : decode cX10_read 57 = .ok (.if_icmp .ge 137, 3) := by decide +kernel
theorem dX10_read_60 : decode cX10_read 60 = .ok (.iload 5, 2) := by decide +kernel
theorem dX10_read_62 : decode cX10_read 62 = .ok (.ifCond .ne 132, 3) := by decide +kernel
theorem dX10_read_65 : decode cX10_read 65 = .ok (.iload_n 3, 1) := by decide +kernel
theorem dX10_read_66 : decode cX10_read 66 = .ok (.i2l, 1) := by decide +kernel
theorem dX10_read_67 : decode cX10_read 67 = .ok (.iload 6, 2) := by decide +kernel
theorem dX10_read_69 : decode cX10_read 69 = .ok (.i2l, 1) := by decide +kernel
theorem dX10_read_70 : decode cX10_read 70 = .ok (.ladd, 1) := by decide +kernel
theorem dX10_read_71 : decode cX10_read 71 = .ok (.lstore 7, 2) := by decide +kernel
theorem dX10_read_73 : decode cX10_read 73 = .ok (.aload_n 0, 1) := by decide +kernel
theorem dX10_read_74 : decode cX10_read 74 = .ok (.getfield 50, 3) := by decide +kernel
theorem dX10_read_77 : decode cX10_read 77 = .ok (.iload_n 1, 1) := by decide +kernel
theorem dX10_read_78 : decode cX10_read 78 = .ok (.iaload, 1) := by decide +kernel
theorem dX10_read_79 : decode cX10_read 79 = .ok (.bipush (-4), 2) := by decide +kernel
theorem dX10_read_81 : decode cX10_read 81 = .ok (.if_icmp .ne 7, 3) := by decide +kernel
theorem dX10_read_84 : decode cX10_read 84 = .ok (.iconst 1, 1) := by decide +kernel
theorem dX10_read_85 : decode cX10_read 85 = .ok (.goto 40, 3) := by decide +kernel
theorem dX10_read_88 : decode cX10_read 88 = .ok (.aload_n 0, 1) := by decide +kernel
theorem dX10_read_89 : decode cX10_read 89 = .ok (.getfield 50, 3) := by decide +kernel
theorem dX10_read_92 : decode cX10_read 92 = .ok (.iload_n 1, 1) := by decide +kernel
theorem dX10_read_93 : decode cX10_read 93 = .ok (.iaload, 1) := by decide +kernel
theorem dX10_read_94 : decode cX10_read 94 = .ok (.iload_n 2, 1) := by decide +kernel
theorem dX10_read_95 : decode cX10_read 95 = .ok (.if_icmp .eq 7, 3) := by decide +kernel
theorem dX10_read_98 : decode cX10_read 98 = .ok (.iconst 3, 1) := by decide +kernel
theorem dX10_read_99 : decode cX10_read 99 = .ok (.goto 26, 3) := by decide +kernel
theorem dX10_read_102 : decode cX10_read 102 = .ok (.lload 7, 2) := by decide +kernel
theorem dX10_read_104 : decode cX10_read 104 = .ok (.lconst 0, 1) := by decide +kernel
theorem dX10_read_105 : decode cX10_read 105 = .ok (.aload_n 0, 1) := by decide +kernel
theorem dX10_read_106 : decode cX10_read 106 = .ok (.getfield 53, 3) := by decide +kernel
theorem dX10_read_109 : decode cX10_read 109 = .ok (.iload_n 1, 1) := by decide +kernel
theorem dX10_read_110 : decode cX10_read 110 = .ok (.iaload, 1) := by decide +kernel
theorem dX10_read_111 : decode cX10_read 111 = .ok (.iconst 1, 1) := by decide +kernel
theorem dX10_read_112 : decode cX10_read 112 = .ok (.isub, 1) := by decide +kernel
theorem dX10_read_113 : decode cX10_read 113 = .ok (.i2l, 1) := by decide +kernel
theorem dX10_read_114 : decode cX10_read 114 = .ok (.invokestatic 61, 3) := by decide +kernel
theorem dX10_read_117 : decode cX10_read 117 = .ok (.ifCond .ne 7, 3) := by decide +kernel
theorem dX10_read_120 : decode cX10_read 120 = .ok (.iconst 2, 1) := by decide +kernel
theorem dX10_read_121 : decode cX10_read 121 = .ok (.goto 4, 3) := by decide +kernel
theorem dX10_read_124 : decode cX10_read 124 = .ok (.iconst 0, 1) := by decide +kernel
theorem dX10_read_125 : decode cX10_read 125 = .ok (.istore 5, 2) := by decide +kernel
theorem dX10_read_127 : decode cX10_read 127 = .ok (.iload 5, 2) := by decide +kernel
theorem dX10_read_129 : decode cX10_read 129 = .ok (.ifCond .ne 62, 3) := by decide +kernel
theorem dX10_read_132 : decode cX10_read 132 = .ok (.aload_n 0, 1) := by decide +kernel
theorem dX10_read_133 : decode cX10_read 133 = .ok (.getfield 56, 3) := by decide +kernel
theorem dX10_read_136 : decode cX10_read 136 = .ok (.bipush 40, 2) := by decide +kernel
theorem dX10_read_138 : decode cX10_read 138 = .ok (.iload_n 1, 1) := by decide +kernel
theorem dX10_read_139 : decode cX10_read 139 = .ok (.imul, 1) := by decide +kernel
theorem dX10_read_140 : decode cX10_read 140 = .ok (.lload 7, 2) := by decide +kernel
theorem dX10_read_142 : decode cX10_read 142 = .ok (.l2i, 1) := by decide +kernel
theorem dX10_read_143 : decode cX10_read 143 = .ok (.iadd, 1) := by decide +kernel
theorem dX10_read_144 : decode cX10_read 144 = .ok (.iaload, 1) := by decide +kernel
theorem dX10_read_145 : decode cX10_read 145 = .ok (.istore 9, 2) := by decide +kernel
theorem dX10_read_147 : decode cX10_read 147 = .ok (.iload 9, 2) := by decide +kernel
theorem dX10_read_149 : decode cX10_read 149 = .ok (.invokestatic 98, 3) := by decide +kernel
theorem dX10_read_152 : decode cX10_read 152 = .ok (.ifCond .eq 12, 3) := by decide +kernel
theorem dX10_read_155 : decode cX10_read 155 = .ok (.aload_n 0, 1) := by decide +kernel
theorem dX10_read_156 : decode cX10_read 156 = .ok (.invokevirtual 165, 3) := by decide +kernel
theorem dX10_read_159 : decode cX10_read 159 = .ok (.bipush 60, 2) := by decide +kernel
theorem dX10_read_161 : decode cX10_read 161 = .ok (.if_icmp .ne 17, 3) := by decide +kernel
theorem dX10_read_164 : decode cX10_read 164 = .ok (.aload_n 0, 1) := by decide +kernel
theorem dX10_read_165 : decode cX10_read 165 = .ok (.sipush 244, 3) := by decide +kernel
theorem dX10_read_168 : decode cX10_read 168 = .ok (.iconst 0, 1) := by decide +kernel
theorem dX10_read_169 : decode cX10_read 169 = .ok (.invokevirtual 155, 3) := by decide +kernel
theorem dX10_read_172 : decode cX10_read 172 = .ok (.bipush (-20), 2) := by decide +kernel
theorem dX10_read_174 : decode cX10_read 174 = .ok (.iload 6, 2) := by decide +kernel
theorem dX10_read_176 : decode cX10_read 176 = .ok (.isub, 1) := by decide +kernel
theorem dX10_read_177 : decode cX10_read 177 = .ok (.ireturn, 1) := by decide +kernel
theorem dX10_read_178 : decode cX10_read 178 = .ok (.aload_n 0, 1) := by decide +kernel
theorem dX10_read_179 : decode cX10_read 179 = .ok (.aload_n 0, 1) := by decide +kernel
theorem dX10_read_180 : decode cX10_read 180 = .ok (.invokevirtual 165, 3) := by decide +kernel
theorem dX10_read_183 : decode cX10_read 183 = .ok (.iload 9, 2) := by decide +kernel
theorem dX10_read_185 : decode cX10_read 185 = .ok (.invokevirtual 243, 3) := by decide +kernel
theorem dX10_read_188 : decode cX10_read 188 = .ok (.iinc 6 1, 3) := by decide +kernel
theorem dX10_read_191 : decode cX10_read 191 = .ok (.goto (-138), 3) := by decide +kernel
theorem dX10_read_194 : decode cX10_read 194 = .ok (.aload_n 0, 1) := by decide +kernel
theorem dX10_read_195 : decode cX10_read 195 = .ok (.iconst 0, 1) := by decide +kernel
theorem dX10_read_196 : decode cX10_read 196 = .ok (.sipush 183, 3) := by decide +kernel
theorem dX10_read_199 : decode cX10_read 199 = .ok (.invokevirtual 155, 3) := by decide +kernel
theorem dX10_read_202 : decode cX10_read 202 = .ok (.aload_n 0, 1) := by decide +kernel
theorem dX10_read_203 : decode cX10_read 203 = .ok (.sipush 244, 3) := by decide +kernel
theorem dX10_read_206 : decode cX10_read 206 = .ok (.iconst 0, 1) := by decide +kernel
theorem dX10_read_207 : decode cX10_read 207 = .ok (.invokevirtual 155, 3) := by decide +kernel
theorem dX10_read_210 : decode cX10_read 210 = .ok (.aload_n 0, 1) := by decide +kernel
theorem dX10_read_211 : decode cX10_read 211 = .ok (.invokevirtual 240, 3) := by decide +kernel
theorem dX10_read_214 : decode cX10_read 214 = .ok (.aload_n 0, 1) := by decide +kernel
theorem dX10_read_215 : decode cX10_read 215 = .ok (.sipush 183, 3) := by decide +kernel
theorem dX10_read_218 : decode cX10_read 218 = .ok (.iconst 0, 1) := by decide +kernel
theorem dX10_read_219 : decode cX10_read 219 = .ok (.invokevirtual 155, 3) := by decide +kernel
theorem dX10_read_222 : decode cX10_read 222 = .ok (.aload_n 0, 1) := by decide +kernel
theorem dX10_read_223 : decode cX10_read 223 = .ok (.iload 5, 2) := by decide +kernel
theorem dX10_read_225 : decode cX10_read 225 = .ok (.putfield 272, 3) := by decide +kernel
theorem dX10_read_228 : decode cX10_read 228 = .ok (.iload 6, 2) := by decide +kernel
theorem dX10_read_230 : decode cX10_read 230 = .ok (.ireturn, 1) := by decide +kernel
theorem dX10_torn_0 : decode cX10_torn 0 = .ok (.aload_n 0, 1) := by decide +kernel
theorem dX10_torn_1 : decode cX10_torn 1 = .ok (.getfield 272, 3) := by decide +kernel
theorem dX10_torn_4 : decode cX10_torn 4 = .ok (.ireturn, 1) := by decide +kernel
theorem dX10_count_0 : decode cX10_count 0 = .ok (.iconst 0, 1) := by decide +kernel
theorem dX10_count_1 : decode cX10_count 1 = .ok (.istore_n 2, 1) := by decide +kernel
theorem dX10_count_2 : decode cX10_count 2 = .ok (.iconst 0, 1) := by decide +kernel
theorem dX10_count_3 : decode cX10_count 3 = .ok (.istore_n 3, 1) := by decide +kernel
theorem dX10_count_4 : decode cX10_count 4 = .ok (.iconst 0, 1) := by decide +kernel
theorem dX10_count_5 : decode cX10_count 5 = .ok (.istore 4, 2) := by decide +kernel
theorem dX10_count_7 : decode cX10_count 7 = .ok (.iload 4, 2) := by decide +kernel
theorem dX10_count_9 : decode cX10_count 9 = .ok (.aload_n 0, 1) := by decide +kernel
theorem dX10_count_10 : decode cX10_count 10 = .ok (.invokevirtual 165, 3) := by decide +kernel
theorem dX10_count_13 : decode cX10_count 13 = .ok (.if_icmp .ge 49, 3) := by decide +kernel
theorem dX10_count_16 : decode cX10_count 16 = .ok (.iload_n 2, 1) := by decide +kernel
theorem dX10_count_17 : decode cX10_count 17 = .ok (.aload_n 0, 1) := by decide +kernel
theorem dX10_count_18 : decode cX10_count 18 = .ok (.iload 4, 2) := by decide +kernel
theorem dX10_count_20 : decode cX10_count 20 = .ok (.invokevirtual 170, 3) := by decide +kernel
theorem dX10_count_23 : decode cX10_count 23 = .ok (.invokestatic 142, 3) := by decide +kernel
theorem dX10_count_26 : decode cX10_count 26 = .ok (.ifCond .eq 7, 3) := by decide +kernel
theorem dX10_count_29 : decode cX10_count 29 = .ok (.iconst 1, 1) := by decide +kernel
theorem dX10_count_30 : decode cX10_count 30 = .ok (.goto 4, 3) := by decide +kernel
theorem dX10_count_33 : decode cX10_count 33 = .ok (.iconst 0, 1) := by decide +kernel
theorem dX10_count_34 : decode cX10_count 34 = .ok (.iadd, 1) := by decide +kernel
theorem dX10_count_35 : decode cX10_count 35 = .ok (.istore_n 2, 1) := by decide +kernel
theorem dX10_count_36 : decode cX10_count 36 = .ok (.iload_n 3, 1) := by decide +kernel
theorem dX10_count_37 : decode cX10_count 37 = .ok (.aload_n 0, 1) := by decide +kernel
theorem dX10_count_38 : decode cX10_count 38 = .ok (.iload 4, 2) := by decide +kernel
theorem dX10_count_40 : decode cX10_count 40 = .ok (.invokevirtual 170, 3) := by decide +kernel
theorem dX10_count_43 : decode cX10_count 43 = .ok (.invokestatic 186, 3) := by decide +kernel
theorem dX10_count_46 : decode cX10_count 46 = .ok (.ifCond .eq 7, 3) := by decide +kernel
theorem dX10_count_49 : decode cX10_count 49 = .ok (.iconst 1, 1) := by decide +kernel
theorem dX10_count_50 : decode cX10_count 50 = .ok (.goto 4, 3) := by decide +kernel
theorem dX10_count_53 : decode cX10_count 53 = .ok (.iconst 0, 1) := by decide +kernel
theorem dX10_count_54 : decode cX10_count 54 = .ok (.iadd, 1) := by decide +kernel
theorem dX10_count_55 : decode cX10_count 55 = .ok (.istore_n 3, 1) := by decide +kernel
theorem dX10_count_56 : decode cX10_count 56 = .ok (.iinc 4 1, 3) := by decide +kernel
theorem dX10_count_59 : decode cX10_count 59 = .ok (.goto (-52), 3) := by decide +kernel
theorem dX10_count_62 : decode cX10_count 62 = .ok (.iload_n 1, 1) := by decide +kernel
theorem dX10_count_63 : decode cX10_count 63 = .ok (.tableswitch 95 0 4 #[33, 63, 68, 91, 93], 33) := by decide +kernel
theorem dX10_count_96 : decode cX10_count 96 = .ok (.aload_n 0, 1) := by decide +kernel
theorem dX10_count_97 : decode cX10_count 97 = .ok (.getfield 46, 3) := by decide +kernel
theorem dX10_count_100 : decode cX10_count 100 = .ok (.iconst 0, 1) := by decide +kernel
theorem dX10_count_101 : decode cX10_count 101 = .ok (.baload, 1) := by decide +kernel
theorem dX10_count_102 : decode cX10_count 102 = .ok (.ifCond .eq 7, 3) := by decide +kernel
theorem dX10_count_105 : decode cX10_count 105 = .ok (.iconst 1, 1) := by decide +kernel
theorem dX10_count_106 : decode cX10_count 106 = .ok (.goto 4, 3) := by decide +kernel
theorem dX10_count_109 : decode cX10_count 109 = .ok (.iconst 0, 1) := by decide +kernel
theorem dX10_count_110 : decode cX10_count 110 = .ok (.aload_n 0, 1) := by decide +kernel
theorem dX10_count_111 : decode cX10_count 111 = .ok (.getfield 46, 3) := by decide +kernel
theorem dX10_count_114 : decode cX10_count 114 = .ok (.iconst 1, 1) := by decide +kernel
theorem dX10_count_115 : decode cX10_count 115 = .ok (.baload, 1) := by decide +kernel
theorem dX10_count_116 : decode cX10_count 116 = .ok (.ifCond .eq 7, 3) := by decide +kernel
theorem dX10_count_119 : decode cX10_count 119 = .ok (.iconst 1, 1) := by decide +kernel
theorem dX10_count_120 : decode cX10_count 120 = .ok (.goto 4, 3) := by decide +kernel
theorem dX10_count_123 : decode cX10_count 123 = .ok (.iconst 0, 1) := by decide +kernel
theorem dX10_count_124 : decode cX10_count 124 = .ok (.iadd, 1) := by decide +kernel
theorem dX10_count_125 : decode cX10_count 125 = .ok (.ireturn, 1) := by decide +kernel
theorem dX10_count_126 : decode cX10_count 126 = .ok (.aload_n 0, 1) := by decide +kernel
theorem dX10_count_127 : decode cX10_count 127 = .ok (.getfield 65, 3) := by decide +kernel
theorem dX10_count_130 : decode cX10_count 130 = .ok (.ireturn, 1) := by decide +kernel
theorem dX10_count_131 : decode cX10_count 131 = .ok (.aload_n 0, 1) := by decide +kernel
theorem dX10_count_132 : decode cX10_count 132 = .ok (.getfield 50, 3) := by decide +kernel
theorem dX10_count_135 : decode cX10_count 135 = .ok (.iconst 0, 1) := by decide +kernel
theorem dX10_count_136 : decode cX10_count 136 = .ok (.iaload, 1) := by decide +kernel
theorem dX10_count_137 : decode cX10_count 137 = .ok (.bipush (-4), 2) := by decide +kernel
theorem dX10_count_139 : decode cX10_count 139 = .ok (.if_icmp .ne 8, 3) := by decide +kernel
theorem dX10_count_142 : decode cX10_count 142 = .ok (.bipush (-4), 2) := by decide +kernel
theorem dX10_count_144 : decode cX10_count 144 = .ok (.goto 9, 3) := by decide +kernel
theorem dX10_count_147 : decode cX10_count 147 = .ok (.aload_n 0, 1) := by decide +kernel
theorem dX10_count_148 : decode cX10_count 148 = .ok (.getfield 53, 3) := by decide +kernel
theorem dX10_count_151 : decode cX10_count 151 = .ok (.iconst 0, 1) := by decide +kernel
theorem dX10_count_152 : decode cX10_count 152 = .ok (.iaload, 1) := by decide +kernel
theorem dX10_count_153 : decode cX10_count 153 = .ok (.ireturn, 1) := by decide +kernel
theorem dX10_count_154 : decode cX10_count 154 = .ok (.iload_n 2, 1) := by decide +kernel
theorem dX10_count_155 : decode cX10_count 155 = .ok (.ireturn, 1) := by decide +kernel
theorem dX10_count_156 : decode cX10_count 156 = .ok (.iload_n 3, 1) := by decide +kernel
theorem dX10_count_157 : decode cX10_count 157 = .ok (.ireturn, 1) := by decide +kernel
theorem dX10_count_158 : decode cX10_count 158 = .ok (.iconst (-1), 1) := by decide +kernel
theorem dX10_count_159 : decode cX10_count 159 = .ok (.ireturn, 1) := by decide +kernel
end
section
theorem dL_law_0 : decode cL_law 0 = .ok (.new 7, 3) := by decide +kernel
theorem dL_law_3 : decode cL_law 3 = .ok (.dup, 1) := by decide +kernel
theorem dL_law_4 : decode cL_law 4 = .ok (.invokespecial 9, 3) := by decide +kernel
theorem dL_law_7 : decode cL_law 7 = .ok (.astore_n 1, 1) := by decide +kernel
theorem dL_law_8 : decode cL_law 8 = .ok (.new 10, 3) := by decide +kernel
theorem dL_law_11 : decode cL_law 11 = .ok (.dup, 1) := by decide +kernel
theorem dL_law_12 : decode cL_law 12 = .ok (.invokespecial 12, 3) := by decide +kernel
theorem dL_law_15 : decode cL_law 15 = .ok (.astore_n 2, 1) := by decide +kernel
theorem dL_law_16 : decode cL_law 16 = .ok (.iconst 0, 1) := by decide +kernel
theorem dL_law_17 : decode cL_law 17 = .ok (.istore_n 3, 1) := by decide +kernel
theorem dL_law_18 : decode cL_law 18 = .ok (.iload_n 3, 1) := by decide +kernel
theorem dL_law_19 : decode cL_law 19 = .ok (.aload_n 0, 1) := by decide +kernel
theorem dL_law_20 : decode cL_law 20 = .ok (.arraylength, 1) := by decide +kernel
theorem dL_law_21 : decode cL_law 21 = .ok (.iconst 5, 1) := by decide +kernel
theorem dL_law_22 : decode cL_law 22 = .ok (.isub, 1) := by decide +kernel
theorem dL_law_23 : decode cL_law 23 = .ok (.if_icmp .gt 1001, 3) := by decide +kernel
theorem dL_law_26 : decode cL_law 26 = .ok (.aload_n 0, 1) := by decide +kernel
theorem dL_law_27 : decode cL_law 27 = .ok (.iload_n 3, 1) := by decide +kernel
theorem dL_law_28 : decode cL_law 28 = .ok (.iaload, 1) := by decide +kernel
theorem dL_law_29 : decode cL_law 29 = .ok (.bipush 31, 2) := by decide +kernel
theorem dL_law_31 : decode cL_law 31 = .ok (.iand, 1) := by decide +kernel
theorem dL_law_32 : decode cL_law 32 = .ok (.tableswitch 986 0 29 #[136, 159, 182, 195, 208, 231, 254, 287, 320, 353, 376, 409, 432, 455, 488, 521, 554, 597, 640, 673, 706, 739, 752, 765, 788, 811, 854, 897, 950, 963], 136) := by decide +kernel
theorem dL_law_168 : decode cL_law 168 = .ok (.aload_n 1, 1) := by decide +kernel
theorem dL_law_169 : decode cL_law 169 = .ok (.aload_n 0, 1) := by decide +kernel
theorem dL_law_170 : decode cL_law 170 = .ok (.iload_n 3, 1) := by decide +kernel
theorem dL_law_171 : decode cL_law 171 = .ok (.iconst 1, 1) := by decide +kernel
theorem dL_law_172 : decode cL_law 172 = .ok (.iadd, 1) := by decide +kernel
theorem dL_law_173 : decode cL_law 173 = .ok (.iaload, 1) := by decide +kernel
theorem dL_law_174 : decode cL_law 174 = .ok (.invokevirtual 13, 3) := by decide +kernel
theorem dL_law_177 : decode cL_law 177 = .ok (.aload_n 2, 1) := by decide +kernel
theorem dL_law_178 : decode cL_law 178 = .ok (.aload_n 0, 1) := by decide +kernel
theorem dL_law_179 : decode cL_law 179 = .ok (.iload_n 3, 1) := by decide +kernel
theorem dL_law_180 : decode cL_law 180 = .ok (.iconst 1, 1) := by decide +kernel
theorem dL_law_181 : decode cL_law 181 = .ok (.iadd, 1) := by decide +kernel
theorem dL_law_182 : decode cL_law 182 = .ok (.iaload, 1) := by decide +kernel
theorem dL_law_183 : decode cL_law 183 = .ok (.invokevirtual 17, 3) := by decide +kernel
theorem dL_law_186 : decode cL_law 186 = .ok (.if_icmp .eq 832, 3) := by decide +kernel
theorem dL_law_189 : decode cL_law 189 = .ok (.iconst 0, 1) := by decide +kernel
theorem dL_law_190 : decode cL_law 190 = .ok (.ireturn, 1) := by decide +kernel
theorem dL_law_191 : decode cL_law 191 = .ok (.aload_n 1, 1) := by decide +kernel
theorem dL_law_192 : decode cL_law 192 = .ok (.aload_n 0, 1) := by decide +kernel
theorem dL_law_193 : decode cL_law 193 = .ok (.iload_n 3, 1) := by decide +kernel
theorem dL_law_194 : decode cL_law 194 = .ok (.iconst 1, 1) := by decide +kernel
theorem dL_law_195 : decode cL_law 195 = .ok (.iadd, 1) := by decide +kernel
theorem dL_law_196 : decode cL_law 196 = .ok (.iaload, 1) := by decide +kernel
theorem dL_law_197 : decode cL_law 197 = .ok (.invokevirtual 18, 3) := by decide +kernel
theorem dL_law_200 : decode cL_law 200 = .ok (.aload_n 2, 1) := by decide +kernel
theorem dL_law_201 : decode cL_law 201 = .ok (.aload_n 0, 1) := by decide +kernel
theorem dL_law_202 : decode cL_law 202 = .ok (.iload_n 3, 1) := by decide +kernel
theorem dL_law_203 : decode cL_law 203 = .ok (.iconst 1, 1) := by decide +kernel
theorem dL_law_204 : decode cL_law 204 = .ok (.iadd, 1) := by decide +kernel
theorem dL_law_205 : decode cL_law 205 = .ok (.iaload, 1) := by decide +kernel
theorem dL_law_206 : decode cL_law 206 = .ok (.invokevirtual 21, 3) := by decide +kernel
theorem dL_law_209 : decode cL_law 209 = .ok (.if_icmp .eq 809, 3) := by decide +kernel
theorem dL_law_212 : decode cL_law 212 = .ok (.iconst 0, 1) := by decide +kernel
theorem dL_law_213 : decode cL_law 213 = .ok (.ireturn, 1) := by decide +kernel
theorem dL_law_214 : decode cL_law 214 = .ok (.aload_n 1, 1) := by decide +kernel
theorem dL_law_215 : decode cL_law 215 = .ok (.invokevirtual 22, 3) := by decide +kernel
theorem dL_law_218 : decode cL_law 218 = .ok (.aload_n 2, 1) := by decide +kernel
theorem dL_law_219 : decode cL_law 219 = .ok (.invokevirtual 26, 3) := by decide +kernel
theorem dL_law_222 : decode cL_law 222 = .ok (.if_icmp .eq 796, 3) := by decide +kernel
theorem dL_law_225 : decode cL_law 225 = .ok (.iconst 0, 1) := by decide +kernel
theorem dL_law_226 : decode cL_law 226 = .ok (.ireturn, 1) := by decide +kernel
theorem dL_law_227 : decode cL_law 227 = .ok (.aload_n 1, 1) := by decide +kernel
theorem dL_law_228 : decode cL_law 228 = .ok (.invokevirtual 27, 3) := by decide +kernel
theorem dL_law_231 : decode cL_law 231 = .ok (.aload_n 2, 1) := by decide +kernel
theorem dL_law_232 : decode cL_law 232 = .ok (.invokevirtual 30, 3) := by decide +kernel
theorem dL_law_235 : decode cL_law 235 = .ok (.if_icmp .eq 783, 3) := by decide +kernel
theorem dL_law_238 : decode cL_law 238 = .ok (.iconst 0, 1) := by decide +kernel
theorem dL_law_239 : decode cL_law 239 = .ok (.ireturn, 1) := by decide +kernel
theorem dL_law_240 : decode cL_law 240 = .ok (.aload_n 1, 1) := by decide +kernel
theorem dL_law_241 : decode cL_law 241 = .ok (.aload_n 0, 1) := by decide +kernel
theorem dL_law_242 : decode cL_law 242 = .ok (.iload_n 3, 1) := by decide +kernel
theorem dL_law_243 : decode cL_law 243 = .ok (.iconst 1, 1) := by decide +kernel
theorem dL_law_244 : decode cL_law 244 = .ok (.iadd, 1) := by decide +kernel
theorem dL_law_245 : decode cL_law 245 = .ok (.iaload, 1) := by decide +kernel
theorem dL_law_246 : decode cL_law 246 = .ok (.invokevirtual 31, 3) := by decide +kernel
theorem dL_law_249 : decode cL_law 249 = .ok (.aload_n 2, 1) := by decide +kernel
theorem dL_law_250 : decode cL_law 250 = .ok (.aload_n 0, 1) := by decide +kernel
theorem dL_law_251 : decode cL_law 251 = .ok (.iload_n 3, 1) := by decide +kernel
theorem dL_law_252 : decode cL_law 252 = .ok (.iconst 1, 1) := by decide +kernel
theorem dL_law_253 : decode cL_law 253 = .ok (.iadd, 1) := by decide +kernel
theorem dL_law_254 : decode cL_law 254 = .ok (.iaload, 1) := by decide +kernel
theorem dL_law_255 : decode cL_law 255 = .ok (.invokevirtual 34, 3) := by decide +kernel
theorem dL_law_258 : decode cL_law 258 = .ok (.if_icmp .eq 760, 3) := by decide +kernel
theorem dL_law_261 : decode cL_law 261 = .ok (.iconst 0, 1) := by decide +kernel
theorem dL_law_262 : decode cL_law 262 = .ok (.ireturn, 1) := by decide +kernel
theorem dL_law_263 : decode cL_law 263 = .ok (.aload_n 1, 1) := by decide +kernel
theorem dL_law_264 : decode cL_law 264 = .ok (.aload_n 0, 1) := by decide +kernel
theorem dL_law_265 : decode cL_law 265 = .ok (.iload_n 3, 1) := by decide +kernel
theorem dL_law_266 : decode cL_law 266 = .ok (.iconst 1, 1) := by decide +kernel
theorem dL_law_267 : decode cL_law 267 = .ok (.iadd, 1) := by decide +kernel
theorem dL_law_268 : decode cL_law 268 = .ok (.iaload, 1) := by decide +kernel
theorem dL_law_269 : decode cL_law 269 = .ok (.invokevirtual 35, 3) := by decide +kernel
theorem dL_law_272 : decode cL_law 272 = .ok (.aload_n 2, 1) := by decide +kernel
theorem dL_law_273 : decode cL_law 273 = .ok (.aload_n 0, 1) := by decide +kernel
theorem dL_law_274 : decode cL_law 274 = .ok (.iload_n 3, 1) := by decide +kernel
theorem dL_law_275 : decode cL_law 275 = .ok (.iconst 1, 1) := by decide +kernel
theorem dL_law_276 : decode cL_law 276 = .ok (.iadd, 1) := by decide +kernel
theorem dL_law_277 : decode cL_law 277 = .ok (.iaload, 1) := by decide +kernel
theorem dL_law_278 : decode cL_law 278 = .ok (.invokevirtual 38, 3) := by decide +kernel
theorem dL_law_281 : decode cL_law 281 = .ok (.if_icmp .eq 737, 3) := by decide +kernel
theorem dL_law_284 : decode cL_law 284 = .ok (.iconst 0, 1) := by decide +kernel
theorem dL_law_285 : decode cL_law 285 = .ok (.ireturn, 1) := by decide +kernel
theorem dL_law_286 : decode cL_law 286 = .ok (.aload_n 1, 1) := by decide +kernel
theorem dL_law_287 : decode cL_law 287 = .ok (.aload_n 0, 1) := by decide +kernel
theorem dL_law_288 : decode cL_law 288 = .ok (.iload_n 3, 1) := by decide +kernel
theorem dL_law_289 : decode cL_law 289 = .ok (.iconst 1, 1) := by decide +kernel
theorem dL_law_290 : decode cL_law 290 = .ok (.iadd, 1) := by decide +kernel
theorem dL_law_291 : decode cL_law 291 = .ok (.iaload, 1) := by decide +kernel
theorem dL_law_292 : decode cL_law 292 = .ok (.aload_n 0, 1) := by decide +kernel
theorem dL_law_293 : decode cL_law 293 = .ok (.iload_n 3, 1) := by decide +kernel
theorem dL_law_294 : decode cL_law 294 = .ok (.iconst 2, 1) := by decide +kernel
theorem dL_law_295 : decode cL_law 295 = .ok (.iadd, 1) := by decide +kernel
theorem dL_law_296 : decode cL_law 296 = .ok (.iaload, 1) := by decide +kernel
theorem dL_law_297 : decode cL_law 297 = .ok (.invokevirtual 39, 3) := by decide +kernel
theorem dL_law_300 : decode cL_law 300 = .ok (.aload_n 2, 1) := by decide +kernel
theorem dL_law_301 : decode cL_law 301 = .ok (.aload_n 0, 1) := by decide +kernel
theorem dL_law_302 : decode cL_law 302 = .ok (.iload_n 3, 1) := by decide +kernel
theorem dL_law_303 : decode cL_law 303 = .ok (.iconst 1, 1) := by decide +kernel
theorem dL_law_304 : decode cL_law 304 = .ok (.iadd, 1) := by decide +kernel
theorem dL_law_305 : decode cL_law 305 = .ok (.iaload, 1) := by decide +kernel
theorem dL_law_306 : decode cL_law 306 = .ok (.aload_n 0, 1) := by decide +kernel
theorem dL_law_307 : decode cL_law 307 = .ok (.iload_n 3, 1) := by decide +kernel
theorem dL_law_308 : decode cL_law 308 = .ok (.iconst 2, 1) := by decide +kernel
theorem dL_law_309 : decode cL_law 309 = .ok (.iadd, 1) := by decide +kernel
theorem dL_law_310 : decode cL_law 310 = .ok (.iaload, 1) := by decide +kernel
theorem dL_law_311 : decode cL_law 311 = .ok (.invokevirtual 43, 3) := by decide +kernel
theorem dL_law_314 : decode cL_law 314 = .ok (.if_icmp .eq 704, 3) := by decide +kernel
theorem dL_law_317 : decode cL_law 317 = .ok (.iconst 0, 1) := by decide +kernel
theorem dL_law_318 : decode cL_law 318 = .ok (.ireturn, 1) := by decide +kernel
theorem dL_law_319 : decode cL_law 319 = .ok (.aload_n 1, 1) := by decide +kernel
theorem dL_law_320 : decode cL_law 320 = .ok (.aload_n 0, 1) := by decide +kernel
theorem dL_law_321 : decode cL_law 321 = .ok (.iload_n 3, 1) := by decide +kernel
theorem dL_law_322 : decode cL_law 322 = .ok (.iconst 1, 1) := by decide +kernel
theorem dL_law_323 : decode cL_law 323 = .ok (.iadd, 1) := by decide +kernel
theorem dL_law_324 : decode cL_law 324 = .ok (.iaload, 1) := by decide +kernel
theorem dL_law_325 : decode cL_law 325 = .ok (.aload_n 0, 1) := by decide +kernel
theorem dL_law_326 : decode cL_law 326 = .ok (.iload_n 3, 1) := by decide +kernel
theorem dL_law_327 : decode cL_law 327 = .ok (.iconst 2, 1) := by decide +kernel
theorem dL_law_328 : decode cL_law 328 = .ok (.iadd, 1) := by decide +kernel
theorem dL_law_329 : decode cL_law 329 = .ok (.iaload, 1) := by decide +kernel
theorem dL_law_330 : decode cL_law 330 = .ok (.invokevirtual 44, 3) := by decide +kernel
theorem dL_law_333 : decode cL_law 333 = .ok (.aload_n 2, 1) := by decide +kernel
theorem dL_law_334 : decode cL_law 334 = .ok (.aload_n 0, 1) := by decide +kernel
theorem dL_law_335 : decode cL_law 335 = .ok (.iload_n 3, 1) := by decide +kernel
theorem dL_law_336 : decode cL_law 336 = .ok (.iconst 1, 1) := by decide +kernel
theorem dL_law_337 : decode cL_law 337 = .ok (.iadd, 1) := by decide +kernel
theorem dL_law_338 : decode cL_law 338 = .ok (.iaload, 1) := by decide +kernel
theorem dL_law_339 : decode cL_law 339 = .ok (.aload_n 0, 1) := by decide +kernel
theorem dL_law_340 : decode cL_law 340 = .ok (.iload_n 3, 1) := by decide +kernel
theorem dL_law_341 : decode cL_law 341 = .ok (.iconst 2, 1) := by decide +kernel
theorem dL_law_342 : decode cL_law 342 = .ok (.iadd, 1) := by decide +kernel
theorem dL_law_343 : decode cL_law 343 = .ok (.iaload, 1) := by decide +kernel
theorem dL_law_344 : decode cL_law 344 = .ok (.invokevirtual 47, 3) := by decide +kernel
theorem dL_law_347 : decode cL_law 347 = .ok (.if_icmp .eq 671, 3) := by decide +kernel
theorem dL_law_350 : decode cL_law 350 = .ok (.iconst 0, 1) := by decide +kernel
theorem dL_law_351 : decode cL_law 351 = .ok (.ireturn, 1) := by decide +kernel
theorem dL_law_352 : decode cL_law 352 = .ok (.aload_n 1, 1) := by decide +kernel
theorem dL_law_353 : decode cL_law 353 = .ok (.aload_n 0, 1) := by decide +kernel
theorem dL_law_354 : decode cL_law 354 = .ok (.iload_n 3, 1) := by decide +kernel
theorem dL_law_355 : decode cL_law 355 = .ok (.iconst 1, 1) := by decide +kernel
theorem dL_law_356 : decode cL_law 356 = .ok (.iadd, 1) := by decide +kernel
theorem dL_law_357 : decode cL_law 357 = .ok (.iaload, 1) := by decide +kernel
theorem dL_law_358 : decode cL_law 358 = .ok (.aload_n 0, 1) := by decide +kernel
theorem dL_law_359 : decode cL_law 359 = .ok (.iload_n 3, 1) := by decide +kernel
theorem dL_law_360 : decode cL_law 360 = .ok (.iconst 2, 1) := by decide +kernel
theorem dL_law_361 : decode cL_law 361 = .ok (.iadd, 1) := by decide +kernel
theorem dL_law_362 : decode cL_law 362 = .ok (.iaload, 1) := by decide +kernel
theorem dL_law_363 : decode cL_law 363 = .ok (.invokevirtual 48, 3) := by decide +kernel
theorem dL_law_366 : decode cL_law 366 = .ok (.aload_n 2, 1) := by decide +kernel
theorem dL_law_367 : decode cL_law 367 = .ok (.aload_n 0, 1) := by decide +kernel
theorem dL_law_368 : decode cL_law 368 = .ok (.iload_n 3, 1) := by decide +kernel
theorem dL_law_369 : decode cL_law 369 = .ok (.iconst 1, 1) := by decide +kernel
theorem dL_law_370 : decode cL_law 370 = .ok (.iadd, 1) := by decide +kernel
theorem dL_law_371 : decode cL_law 371 = .ok (.iaload, 1) := by decide +kernel
theorem dL_law_372 : decode cL_law 372 = .ok (.aload_n 0, 1) := by decide +kernel
theorem dL_law_373 : decode cL_law 373 = .ok (.iload_n 3, 1) := by decide +kernel
theorem dL_law_374 : decode cL_law 374 = .ok (.iconst 2, 1) := by decide +kernel
theorem dL_law_375 : decode cL_law 375 = .ok (.iadd, 1) := by decide +kernel
theorem dL_law_376 : decode cL_law 376 = .ok (.iaload, 1) := by decide +kernel
theorem dL_law_377 : decode cL_law 377 = .ok (.invokevirtual 51, 3) := by decide +kernel
theorem dL_law_380 : decode cL_law 380 = .ok (.if_icmp .eq 638, 3) := by decide +kernel
theorem dL_law_383 : decode cL_law 383 = .ok (.iconst 0, 1) := by decide +kernel
theorem dL_law_384 : decode cL_law 384 = .ok (.ireturn, 1) := by decide +kernel
theorem dL_law_385 : decode cL_law 385 = .ok (.aload_n 1, 1) := by decide +kernel
theorem dL_law_386 : decode cL_law 386 = .ok (.aload_n 0, 1) := by decide +kernel
theorem dL_law_387 : decode cL_law 387 = .ok (.iload_n 3, 1) := by decide +kernel
theorem dL_law_388 : decode cL_law 388 = .ok (.iconst 1, 1) := by decide +kernel
theorem dL_law_389 : decode cL_law 389 = .ok (.iadd, 1) := by decide +kernel
theorem dL_law_390 : decode cL_law 390 = .ok (.iaload, 1) := by decide +kernel
theorem dL_law_391 : decode cL_law 391 = .ok (.invokevirtual 52, 3) := by decide +kernel
theorem dL_law_394 : decode cL_law 394 = .ok (.aload_n 2, 1) := by decide +kernel
theorem dL_law_395 : decode cL_law 395 = .ok (.aload_n 0, 1) := by decide +kernel
theorem dL_law_396 : decode cL_law 396 = .ok (.iload_n 3, 1) := by decide +kernel
theorem dL_law_397 : decode cL_law 397 = .ok (.iconst 1, 1) := by decide +kernel
theorem dL_law_398 : decode cL_law 398 = .ok (.iadd, 1) := by decide +kernel
theorem dL_law_399 : decode cL_law 399 = .ok (.iaload, 1) := by decide +kernel
theorem dL_law_400 : decode cL_law 400 = .ok (.invokevirtual 55, 3) := by decide +kernel
theorem dL_law_403 : decode cL_law 403 = .ok (.if_icmp .eq 615, 3) := by decide +kernel
theorem dL_law_406 : decode cL_law 406 = .ok (.iconst 0, 1) := by decide +kernel
theorem dL_law_407 : decode cL_law 407 = .ok (.ireturn, 1) := by decide +kernel
theorem dL_law_408 : decode cL_law 408 = .ok (.aload_n 1, 1) := by decide +kernel
theorem dL_law_409 : decode cL_law 409 = .ok (.aload_n 0, 1) := by decide +kernel
theorem dL_law_410 : decode cL_law 410 = .ok (.iload_n 3, 1) := by decide +kernel
theorem dL_law_411 : decode cL_law 411 = .ok (.iconst 1, 1) := by decide +kernel
theorem dL_law_412 : decode cL_law 412 = .ok (.iadd, 1) := by decide +kernel
theorem dL_law_413 : decode cL_law 413 = .ok (.iaload, 1) := by decide +kernel
theorem dL_law_414 : decode cL_law 414 = .ok (.aload_n 0, 1) := by decide +kernel
theorem dL_law_415 : decode cL_law 415 = .ok (.iload_n 3, 1) := by decide +kernel
theorem dL_law_416 : decode cL_law 416 = .ok (.iconst 2, 1) := by decide +kernel
theorem dL_law_417 : decode cL_law 417 = .ok (.iadd, 1) := by decide +kernel
theorem dL_law_418 : decode cL_law 418 = .ok (.iaload, 1) := by decide +kernel
theorem dL_law_419 : decode cL_law 419 = .ok (.invokevirtual 56, 3) := by decide +kernel
theorem dL_law_422 : decode cL_law 422 = .ok (.aload_n 2, 1) := by decide +kernel
theorem dL_law_423 : decode cL_law 423 = .ok (.aload_n 0, 1) := by decide +kernel
theorem dL_law_424 : decode cL_law 424 = .ok (.iload_n 3, 1) := by decide +kernel
theorem dL_law_425 : decode cL_law 425 = .ok (.iconst 1, 1) := by decide +kernel
theorem dL_law_426 : decode cL_law 426 = .ok (.iadd, 1) := by decide +kernel
theorem dL_law_427 : decode cL_law 427 = .ok (.iaload, 1) := by decide +kernel
theorem dL_law_428 : decode cL_law 428 = .ok (.aload_n 0, 1) := by decide +kernel
theorem dL_law_429 : decode cL_law 429 = .ok (.iload_n 3, 1) := by decide +kernel
theorem dL_law_430 : decode cL_law 430 = .ok (.iconst 2, 1) := by decide +kernel
theorem dL_law_431 : decode cL_law 431 = .ok (.iadd, 1) := by decide +kernel
theorem dL_law_432 : decode cL_law 432 = .ok (.iaload, 1) := by decide +kernel
theorem dL_law_433 : decode cL_law 433 = .ok (.invokevirtual 59, 3) := by decide +kernel
theorem dL_law_436 : decode cL_law 436 = .ok (.if_icmp .eq 582, 3) := by decide +kernel
theorem dL_law_439 : decode cL_law 439 = .ok (.iconst 0, 1) := by decide +kernel
theorem dL_law_440 : decode cL_law 440 = .ok (.ireturn, 1) := by decide +kernel
theorem dL_law_441 : decode cL_law 441 = .ok (.aload_n 1, 1) := by decide +kernel
theorem dL_law_442 : decode cL_law 442 = .ok (.aload_n 0, 1) := by decide +kernel
theorem dL_law_443 : decode cL_law 443 = .ok (.iload_n 3, 1) := by decide +kernel
theorem dL_law_444 : decode cL_law 444 = .ok (.iconst 1, 1) := by decide +kernel
theorem dL_law_445 : decode cL_law 445 = .ok (.iadd, 1) := by decide +kernel
theorem dL_law_446 : decode cL_law 446 = .ok (.iaload, 1) := by decide +kernel
theorem dL_law_447 : decode cL_law 447 = .ok (.invokevirtual 60, 3) := by decide +kernel
theorem dL_law_450 : decode cL_law 450 = .ok (.aload_n 2, 1) := by decide +kernel
theorem dL_law_451 : decode cL_law 451 = .ok (.aload_n 0, 1) := by decide +kernel
theorem dL_law_452 : decode cL_law 452 = .ok (.iload_n 3, 1) := by decide +kernel
theorem dL_law_453 : decode cL_law 453 = .ok (.iconst 1, 1) := by decide +kernel
theorem dL_law_454 : decode cL_law 454 = .ok (.iadd, 1) := by decide +kernel
theorem dL_law_455 : decode cL_law 455 = .ok (.iaload, 1) := by decide +kernel
theorem dL_law_456 : decode cL_law 456 = .ok (.invokevirtual 63, 3) := by decide +kernel
theorem dL_law_459 : decode cL_law 459 = .ok (.if_icmp .eq 559, 3) := by decide +kernel
theorem dL_law_462 : decode cL_law 462 = .ok (.iconst 0, 1) := by decide +kernel
theorem dL_law_463 : decode cL_law 463 = .ok (.ireturn, 1) := by decide +kernel
theorem dL_law_464 : decode cL_law 464 = .ok (.aload_n 1, 1) := by decide +kernel
theorem dL_law_465 : decode cL_law 465 = .ok (.aload_n 0, 1) := by decide +kernel
theorem dL_law_466 : decode cL_law 466 = .ok (.iload_n 3, 1) := by decide +kernel
theorem dL_law_467 : decode cL_law 467 = .ok (.iconst 1, 1) := by decide +kernel
theorem dL_law_468 : decode cL_law 468 = .ok (.iadd, 1) := by decide +kernel
theorem dL_law_469 : decode cL_law 469 = .ok (.iaload, 1) := by decide +kernel
theorem dL_law_470 : decode cL_law 470 = .ok (.invokevirtual 64, 3) := by decide +kernel
theorem dL_law_473 : decode cL_law 473 = .ok (.aload_n 2, 1) := by decide +kernel
theorem dL_law_474 : decode cL_law 474 = .ok (.aload_n 0, 1) := by decide +kernel
theorem dL_law_475 : decode cL_law 475 = .ok (.iload_n 3, 1) := by decide +kernel
theorem dL_law_476 : decode cL_law 476 = .ok (.iconst 1, 1) := by decide +kernel
theorem dL_law_477 : decode cL_law 477 = .ok (.iadd, 1) := by decide +kernel
theorem dL_law_478 : decode cL_law 478 = .ok (.iaload, 1) := by decide +kernel
theorem dL_law_479 : decode cL_law 479 = .ok (.invokevirtual 67, 3) := by decide +kernel
theorem dL_law_482 : decode cL_law 482 = .ok (.if_icmp .eq 536, 3) := by decide +kernel
theorem dL_law_485 : decode cL_law 485 = .ok (.iconst 0, 1) := by decide +kernel
theorem dL_law_486 : decode cL_law 486 = .ok (.ireturn, 1) := by decide +kernel
theorem dL_law_487 : decode cL_law 487 = .ok (.aload_n 1, 1) := by decide +kernel
theorem dL_law_488 : decode cL_law 488 = .ok (.aload_n 0, 1) := by decide +kernel
theorem dL_law_489 : decode cL_law 489 = .ok (.iload_n 3, 1) := by decide +kernel
theorem dL_law_490 : decode cL_law 490 = .ok (.iconst 1, 1) := by decide +kernel
theorem dL_law_491 : decode cL_law 491 = .ok (.iadd, 1) := by decide +kernel
theorem dL_law_492 : decode cL_law 492 = .ok (.iaload, 1) := by decide +kernel
theorem dL_law_493 : decode cL_law 493 = .ok (.aload_n 0, 1) := by decide +kernel
theorem dL_law_494 : decode cL_law 494 = .ok (.iload_n 3, 1) := by decide +kernel
theorem dL_law_495 : decode cL_law 495 = .ok (.iconst 2, 1) := by decide +kernel
theorem dL_law_496 : decode cL_law 496 = .ok (.iadd, 1) := by decide +kernel
theorem dL_law_497 : decode cL_law 497 = .ok (.iaload, 1) := by decide +kernel
theorem dL_law_498 : decode cL_law 498 = .ok (.invokevirtual 68, 3) := by decide +kernel
theorem dL_law_501 : decode cL_law 501 = .ok (.aload_n 2, 1) := by decide +kernel
theorem dL_law_502 : decode cL_law 502 = .ok (.aload_n 0, 1) := by decide +kernel
theorem dL_law_503 : decode cL_law 503 = .ok (.iload_n 3, 1) := by decide +kernel
theorem dL_law_504 : decode cL_law 504 = .ok (.iconst 1, 1) := by decide +kernel
theorem dL_law_505 : decode cL_law 505 = .ok (.iadd, 1) := by decide +kernel
theorem dL_law_506 : decode cL_law 506 = .ok (.iaload, 1) := by decide +kernel
theorem dL_law_507 : decode cL_law 507 = .ok (.aload_n 0, 1) := by decide +kernel
theorem dL_law_508 : decode cL_law 508 = .ok (.iload_n 3, 1) := by decide +kernel
theorem dL_law_509 : decode cL_law 509 = .ok (.iconst 2, 1) := by decide +kernel
theorem dL_law_510 : decode cL_law 510 = .ok (.iadd, 1) := by decide +kernel
theorem dL_law_511 : decode cL_law 511 = .ok (.iaload, 1) := by decide +kernel
theorem dL_law_512 : decode cL_law 512 = .ok (.invokevirtual 71, 3) := by decide +kernel
theorem dL_law_515 : decode cL_law 515 = .ok (.if_icmp .eq 503, 3) := by decide +kernel
theorem dL_law_518 : decode cL_law 518 = .ok (.iconst 0, 1) := by decide +kernel
theorem dL_law_519 : decode cL_law 519 = .ok (.ireturn, 1) := by decide +kernel
theorem dL_law_520 : decode cL_law 520 = .ok (.aload_n 1, 1) := by decide +kernel
theorem dL_law_521 : decode cL_law 521 = .ok (.aload_n 0, 1) := by decide +kernel
theorem dL_law_522 : decode cL_law 522 = .ok (.iload_n 3, 1) := by decide +kernel
theorem dL_law_523 : decode cL_law 523 = .ok (.iconst 1, 1) := by decide +kernel
theorem dL_law_524 : decode cL_law 524 = .ok (.iadd, 1) := by decide +kernel
theorem dL_law_525 : decode cL_law 525 = .ok (.iaload, 1) := by decide +kernel
theorem dL_law_526 : decode cL_law 526 = .ok (.aload_n 0, 1) := by decide +kernel
theorem dL_law_527 : decode cL_law 527 = .ok (.iload_n 3, 1) := by decide +kernel
theorem dL_law_528 : decode cL_law 528 = .ok (.iconst 2, 1) := by decide +kernel
theorem dL_law_529 : decode cL_law 529 = .ok (.iadd, 1) := by decide +kernel
theorem dL_law_530 : decode cL_law 530 = .ok (.iaload, 1) := by decide +kernel
theorem dL_law_531 : decode cL_law 531 = .ok (.invokevirtual 72, 3) := by decide +kernel
theorem dL_law_534 : decode cL_law 534 = .ok (.aload_n 2, 1) := by decide +kernel
theorem dL_law_535 : decode cL_law 535 = .ok (.aload_n 0, 1) := by decide +kernel
theorem dL_law_536 : decode cL_law 536 = .ok (.iload_n 3, 1) := by decide +kernel
theorem dL_law_537 : decode cL_law 537 = .ok (.iconst 1, 1) := by decide +kernel
theorem dL_law_538 : decode cL_law 538 = .ok (.iadd, 1) := by decide +kernel
theorem dL_law_539 : decode cL_law 539 = .ok (.iaload, 1) := by decide +kernel
theorem dL_law_540 : decode cL_law 540 = .ok (.aload_n 0, 1) := by decide +kernel
theorem dL_law_541 : decode cL_law 541 = .ok (.iload_n 3, 1) := by decide +kernel
theorem dL_law_542 : decode cL_law 542 = .ok (.iconst 2, 1) := by decide +kernel
theorem dL_law_543 : decode cL_law 543 = .ok (.iadd, 1) := by decide +kernel
theorem dL_law_544 : decode cL_law 544 = .ok (.iaload, 1) := by decide +kernel
theorem dL_law_545 : decode cL_law 545 = .ok (.invokevirtual 75, 3) := by decide +kernel
theorem dL_law_548 : decode cL_law 548 = .ok (.if_icmp .eq 470, 3) := by decide +kernel
theorem dL_law_551 : decode cL_law 551 = .ok (.iconst 0, 1) := by decide +kernel
theorem dL_law_552 : decode cL_law 552 = .ok (.ireturn, 1) := by decide +kernel
theorem dL_law_553 : decode cL_law 553 = .ok (.aload_n 1, 1) := by decide +kernel
theorem dL_law_554 : decode cL_law 554 = .ok (.aload_n 0, 1) := by decide +kernel
theorem dL_law_555 : decode cL_law 555 = .ok (.iload_n 3, 1) := by decide +kernel
theorem dL_law_556 : decode cL_law 556 = .ok (.iconst 1, 1) := by decide +kernel
theorem dL_law_557 : decode cL_law 557 = .ok (.iadd, 1) := by decide +kernel
theorem dL_law_558 : decode cL_law 558 = .ok (.iaload, 1) := by decide +kernel
theorem dL_law_559 : decode cL_law 559 = .ok (.aload_n 0, 1) := by decide +kernel
theorem dL_law_560 : decode cL_law 560 = .ok (.iload_n 3, 1) := by decide +kernel
theorem dL_law_561 : decode cL_law 561 = .ok (.iconst 2, 1) := by decide +kernel
theorem dL_law_562 : decode cL_law 562 = .ok (.iadd, 1) := by decide +kernel
theorem dL_law_563 : decode cL_law 563 = .ok (.iaload, 1) := by decide +kernel
theorem dL_law_564 : decode cL_law 564 = .ok (.invokevirtual 76, 3) := by decide +kernel
theorem dL_law_567 : decode cL_law 567 = .ok (.aload_n 2, 1) := by decide +kernel
theorem dL_law_568 : decode cL_law 568 = .ok (.aload_n 0, 1) := by decide +kernel
theorem dL_law_569 : decode cL_law 569 = .ok (.iload_n 3, 1) := by decide +kernel
theorem dL_law_570 : decode cL_law 570 = .ok (.iconst 1, 1) := by decide +kernel
theorem dL_law_571 : decode cL_law 571 = .ok (.iadd, 1) := by decide +kernel
theorem dL_law_572 : decode cL_law 572 = .ok (.iaload, 1) := by decide +kernel
theorem dL_law_573 : decode cL_law 573 = .ok (.aload_n 0, 1) := by decide +kernel
theorem dL_law_574 : decode cL_law 574 = .ok (.iload_n 3, 1) := by decide +kernel
theorem dL_law_575 : decode cL_law 575 = .ok (.iconst 2, 1) := by decide +kernel
theorem dL_law_576 : decode cL_law 576 = .ok (.iadd, 1) := by decide +kernel
theorem dL_law_577 : decode cL_law 577 = .ok (.iaload, 1) := by decide +kernel
theorem dL_law_578 : decode cL_law 578 = .ok (.invokevirtual 79, 3) := by decide +kernel
theorem dL_law_581 : decode cL_law 581 = .ok (.if_icmp .eq 437, 3) := by decide +kernel
theorem dL_law_584 : decode cL_law 584 = .ok (.iconst 0, 1) := by decide +kernel
theorem dL_law_585 : decode cL_law 585 = .ok (.ireturn, 1) := by decide +kernel
theorem dL_law_586 : decode cL_law 586 = .ok (.aload_n 1, 1) := by decide +kernel
theorem dL_law_587 : decode cL_law 587 = .ok (.aload_n 0, 1) := by decide +kernel
theorem dL_law_588 : decode cL_law 588 = .ok (.iload_n 3, 1) := by decide +kernel
theorem dL_law_589 : decode cL_law 589 = .ok (.iconst 1, 1) := by decide +kernel
theorem dL_law_590 : decode cL_law 590 = .ok (.iadd, 1) := by decide +kernel
theorem dL_law_591 : decode cL_law 591 = .ok (.iaload, 1) := by decide +kernel
theorem dL_law_592 : decode cL_law 592 = .ok (.aload_n 0, 1) := by decide +kernel
theorem dL_law_593 : decode cL_law 593 = .ok (.iload_n 3, 1) := by decide +kernel
theorem dL_law_594 : decode cL_law 594 = .ok (.iconst 2, 1) := by decide +kernel
theorem dL_law_595 : decode cL_law 595 = .ok (.iadd, 1) := by decide +kernel
theorem dL_law_596 : decode cL_law 596 = .ok (.iaload, 1) := by decide +kernel
theorem dL_law_597 : decode cL_law 597 = .ok (.aload_n 0, 1) := by decide +kernel
theorem dL_law_598 : decode cL_law 598 = .ok (.iload_n 3, 1) := by decide +kernel
theorem dL_law_599 : decode cL_law 599 = .ok (.iconst 3, 1) := by decide +kernel
theorem dL_law_600 : decode cL_law 600 = .ok (.iadd, 1) := by decide +kernel
theorem dL_law_601 : decode cL_law 601 = .ok (.iaload, 1) := by decide +kernel
theorem dL_law_602 : decode cL_law 602 = .ok (.invokevirtual 80, 3) := by decide +kernel
theorem dL_law_605 : decode cL_law 605 = .ok (.aload_n 2, 1) := by decide +kernel
theorem dL_law_606 : decode cL_law 606 = .ok (.aload_n 0, 1) := by decide +kernel
theorem dL_law_607 : decode cL_law 607 = .ok (.iload_n 3, 1) := by decide +kernel
theorem dL_law_608 : decode cL_law 608 = .ok (.iconst 1, 1) := by decide +kernel
theorem dL_law_609 : decode cL_law 609 = .ok (.iadd, 1) := by decide +kernel
theorem dL_law_610 : decode cL_law 610 = .ok (.iaload, 1) := by decide +kernel
theorem dL_law_611 : decode cL_law 611 = .ok (.aload_n 0, 1) := by decide +kernel
theorem dL_law_612 : decode cL_law 612 = .ok (.iload_n 3, 1) := by decide +kernel
theorem dL_law_613 : decode cL_law 613 = .ok (.iconst 2, 1) := by decide +kernel
theorem dL_law_614 : decode cL_law 614 = .ok (.iadd, 1) := by decide +kernel
theorem dL_law_615 : decode cL_law 615 = .ok (.iaload, 1) := by decide +kernel
theorem dL_law_616 : decode cL_law 616 = .ok (.aload_n 0, 1) := by decide +kernel
theorem dL_law_617 : decode cL_law 617 = .ok (.iload_n 3, 1) := by decide +kernel
theorem dL_law_618 : decode cL_law 618 = .ok (.iconst 3, 1) := by decide +kernel
theorem dL_law_619 : decode cL_law 619 = .ok (.iadd, 1) := by decide +kernel
theorem dL_law_620 : decode cL_law 620 = .ok (.iaload, 1) := by decide +kernel
theorem dL_law_621 : decode cL_law 621 = .ok (.invokevirtual 84, 3) := by decide +kernel
theorem dL_law_624 : decode cL_law 624 = .ok (.if_icmp .eq 394, 3) := by decide +kernel
theorem dL_law_627 : decode cL_law 627 = .ok (.iconst 0, 1) := by decide +kernel
theorem dL_law_628 : decode cL_law 628 = .ok (.ireturn, 1) := by decide +kernel
theorem dL_law_629 : decode cL_law 629 = .ok (.aload_n 1, 1) := by decide +kernel
theorem dL_law_630 : decode cL_law 630 = .ok (.aload_n 0, 1) := by decide +kernel
theorem dL_law_631 : decode cL_law 631 = .ok (.iload_n 3, 1) := by decide +kernel
theorem dL_law_632 : decode cL_law 632 = .ok (.iconst 1, 1) := by decide +kernel
theorem dL_law_633 : decode cL_law 633 = .ok (.iadd, 1) := by decide +kernel
theorem dL_law_634 : decode cL_law 634 = .ok (.iaload, 1) := by decide +kernel
theorem dL_law_635 : decode cL_law 635 = .ok (.aload_n 0, 1) := by decide +kernel
theorem dL_law_636 : decode cL_law 636 = .ok (.iload_n 3, 1) := by decide +kernel
theorem dL_law_637 : decode cL_law 637 = .ok (.iconst 2, 1) := by decide +kernel
theorem dL_law_638 : decode cL_law 638 = .ok (.iadd, 1) := by decide +kernel
theorem dL_law_639 : decode cL_law 639 = .ok (.iaload, 1) := by decide +kernel
theorem dL_law_640 : decode cL_law 640 = .ok (.aload_n 0, 1) := by decide +kernel
theorem dL_law_641 : decode cL_law 641 = .ok (.iload_n 3, 1) := by decide +kernel
theorem dL_law_642 : decode cL_law 642 = .ok (.iconst 3, 1) := by decide +kernel
theorem dL_law_643 : decode cL_law 643 = .ok (.iadd, 1) := by decide +kernel
theorem dL_law_644 : decode cL_law 644 = .ok (.iaload, 1) := by decide +kernel
theorem dL_law_645 : decode cL_law 645 = .ok (.invokevirtual 85, 3) := by decide +kernel
theorem dL_law_648 : decode cL_law 648 = .ok (.aload_n 2, 1) := by decide +kernel
theorem dL_law_649 : decode cL_law 649 = .ok (.aload_n 0, 1) := by decide +kernel
theorem dL_law_650 : decode cL_law 650 = .ok (.iload_n 3, 1) := by decide +kernel
theorem dL_law_651 : decode cL_law 651 = .ok (.iconst 1, 1) := by decide +kernel
theorem dL_law_652 : decode cL_law 652 = .ok (.iadd, 1) := by decide +kernel
theorem dL_law_653 : decode cL_law 653 = .ok (.iaload, 1) := by decide +kernel
theorem dL_law_654 : decode cL_law 654 = .ok (.aload_n 0, 1) := by decide +kernel
theorem dL_law_655 : decode cL_law 655 = .ok (.iload_n 3, 1) := by decide +kernel
theorem dL_law_656 : decode cL_law 656 = .ok (.iconst 2, 1) := by decide +kernel
theorem dL_law_657 : decode cL_law 657 = .ok (.iadd, 1) := by decide +kernel
theorem dL_law_658 : decode cL_law 658 = .ok (.iaload, 1) := by decide +kernel
theorem dL_law_659 : decode cL_law 659 = .ok (.aload_n 0, 1) := by decide +kernel
theorem dL_law_660 : decode cL_law 660 = .ok (.iload_n 3, 1) := by decide +kernel
theorem dL_law_661 : decode cL_law 661 = .ok (.iconst 3, 1) := by decide +kernel
theorem dL_law_662 : decode cL_law 662 = .ok (.iadd, 1) := by decide +kernel
theorem dL_law_663 : decode cL_law 663 = .ok (.iaload, 1) := by decide +kernel
theorem dL_law_664 : decode cL_law 664 = .ok (.invokevirtual 88, 3) := by decide +kernel
theorem dL_law_667 : decode cL_law 667 = .ok (.if_icmp .eq 351, 3) := by decide +kernel
theorem dL_law_670 : decode cL_law 670 = .ok (.iconst 0, 1) := by decide +kernel
theorem dL_law_671 : decode cL_law 671 = .ok (.ireturn, 1) := by decide +kernel
theorem dL_law_672 : decode cL_law 672 = .ok (.aload_n 1, 1) := by decide +kernel
theorem dL_law_673 : decode cL_law 673 = .ok (.aload_n 0, 1) := by decide +kernel
theorem dL_law_674 : decode cL_law 674 = .ok (.iload_n 3, 1) := by decide +kernel
theorem dL_law_675 : decode cL_law 675 = .ok (.iconst 1, 1) := by decide +kernel
theorem dL_law_676 : decode cL_law 676 = .ok (.iadd, 1) := by decide +kernel
theorem dL_law_677 : decode cL_law 677 = .ok (.iaload, 1) := by decide +kernel
theorem dL_law_678 : decode cL_law 678 = .ok (.aload_n 0, 1) := by decide +kernel
theorem dL_law_679 : decode cL_law 679 = .ok (.iload_n 3, 1) := by decide +kernel
theorem dL_law_680 : decode cL_law 680 = .ok (.iconst 2, 1) := by decide +kernel
theorem dL_law_681 : decode cL_law 681 = .ok (.iadd, 1) := by decide +kernel
theorem dL_law_682 : decode cL_law 682 = .ok (.iaload, 1) := by decide +kernel
theorem dL_law_683 : decode cL_law 683 = .ok (.invokevirtual 89, 3) := by decide +kernel
theorem dL_law_686 : decode cL_law 686 = .ok (.aload_n 2, 1) := by decide +kernel
theorem dL_law_687 : decode cL_law 687 = .ok (.aload_n 0, 1) := by decide +kernel
theorem dL_law_688 : decode cL_law 688 = .ok (.iload_n 3, 1) := by decide +kernel
theorem dL_law_689 : decode cL_law 689 = .ok (.iconst 1, 1) := by decide +kernel
theorem dL_law_690 : decode cL_law 690 = .ok (.iadd, 1) := by decide +kernel
theorem dL_law_691 : decode cL_law 691 = .ok (.iaload, 1) := by decide +kernel
theorem dL_law_692 : decode cL_law 692 = .ok (.aload_n 0, 1) := by decide +kernel
theorem dL_law_693 : decode cL_law 693 = .ok (.iload_n 3, 1) := by decide +kernel
theorem dL_law_694 : decode cL_law 694 = .ok (.iconst 2, 1) := by decide +kernel
theorem dL_law_695 : decode cL_law 695 = .ok (.iadd, 1) := by decide +kernel
theorem dL_law_696 : decode cL_law 696 = .ok (.iaload, 1) := by decide +kernel
theorem dL_law_697 : decode cL_law 697 = .ok (.invokevirtual 92, 3) := by decide +kernel
theorem dL_law_700 : decode cL_law 700 = .ok (.if_icmp .eq 318, 3) := by decide +kernel
theorem dL_law_703 : decode cL_law 703 = .ok (.iconst 0, 1) := by decide +kernel
theorem dL_law_704 : decode cL_law 704 = .ok (.ireturn, 1) := by decide +kernel
theorem dL_law_705 : decode cL_law 705 = .ok (.aload_n 1, 1) := by decide +kernel
theorem dL_law_706 : decode cL_law 706 = .ok (.aload_n 0, 1) := by decide +kernel
theorem dL_law_707 : decode cL_law 707 = .ok (.iload_n 3, 1) := by decide +kernel
theorem dL_law_708 : decode cL_law 708 = .ok (.iconst 1, 1) := by decide +kernel
theorem dL_law_709 : decode cL_law 709 = .ok (.iadd, 1) := by decide +kernel
theorem dL_law_710 : decode cL_law 710 = .ok (.iaload, 1) := by decide +kernel
theorem dL_law_711 : decode cL_law 711 = .ok (.aload_n 0, 1) := by decide +kernel
theorem dL_law_712 : decode cL_law 712 = .ok (.iload_n 3, 1) := by decide +kernel
theorem dL_law_713 : decode cL_law 713 = .ok (.iconst 2, 1) := by decide +kernel
theorem dL_law_714 : decode cL_law 714 = .ok (.iadd, 1) := by decide +kernel
theorem dL_law_715 : decode cL_law 715 = .ok (.iaload, 1) := by decide +kernel
theorem dL_law_716 : decode cL_law 716 = .ok (.invokevirtual 93, 3) := by decide +kernel
theorem dL_law_719 : decode cL_law 719 = .ok (.aload_n 2, 1) := by decide +kernel
theorem dL_law_720 : decode cL_law 720 = .ok (.aload_n 0, 1) := by decide +kernel
theorem dL_law_721 : decode cL_law 721 = .ok (.iload_n 3, 1) := by decide +kernel
theorem dL_law_722 : decode cL_law 722 = .ok (.iconst 1, 1) := by decide +kernel
theorem dL_law_723 : decode cL_law 723 = .ok (.iadd, 1) := by decide +kernel
theorem dL_law_724 : decode cL_law 724 = .ok (.iaload, 1) := by decide +kernel
theorem dL_law_725 : decode cL_law 725 = .ok (.aload_n 0, 1) := by decide +kernel
theorem dL_law_726 : decode cL_law 726 = .ok (.iload_n 3, 1) := by decide +kernel
theorem dL_law_727 : decode cL_law 727 = .ok (.iconst 2, 1) := by decide +kernel
theorem dL_law_728 : decode cL_law 728 = .ok (.iadd, 1) := by decide +kernel
theorem dL_law_729 : decode cL_law 729 = .ok (.iaload, 1) := by decide +kernel
theorem dL_law_730 : decode cL_law 730 = .ok (.invokevirtual 96, 3) := by decide +kernel
theorem dL_law_733 : decode cL_law 733 = .ok (.if_icmp .eq 285, 3) := by decide +kernel
theorem dL_law_736 : decode cL_law 736 = .ok (.iconst 0, 1) := by decide +kernel
theorem dL_law_737 : decode cL_law 737 = .ok (.ireturn, 1) := by decide +kernel
theorem dL_law_738 : decode cL_law 738 = .ok (.aload_n 1, 1) := by decide +kernel
theorem dL_law_739 : decode cL_law 739 = .ok (.aload_n 0, 1) := by decide +kernel
theorem dL_law_740 : decode cL_law 740 = .ok (.iload_n 3, 1) := by decide +kernel
theorem dL_law_741 : decode cL_law 741 = .ok (.iconst 1, 1) := by decide +kernel
theorem dL_law_742 : decode cL_law 742 = .ok (.iadd, 1) := by decide +kernel
theorem dL_law_743 : decode cL_law 743 = .ok (.iaload, 1) := by decide +kernel
theorem dL_law_744 : decode cL_law 744 = .ok (.aload_n 0, 1) := by decide +kernel
theorem dL_law_745 : decode cL_law 745 = .ok (.iload_n 3, 1) := by decide +kernel
theorem dL_law_746 : decode cL_law 746 = .ok (.iconst 2, 1) := by decide +kernel
theorem dL_law_747 : decode cL_law 747 = .ok (.iadd, 1) := by decide +kernel
theorem dL_law_748 : decode cL_law 748 = .ok (.iaload, 1) := by decide +kernel
theorem dL_law_749 : decode cL_law 749 = .ok (.invokevirtual 97, 3) := by decide +kernel
theorem dL_law_752 : decode cL_law 752 = .ok (.aload_n 2, 1) := by decide +kernel
theorem dL_law_753 : decode cL_law 753 = .ok (.aload_n 0, 1) := by decide +kernel
theorem dL_law_754 : decode cL_law 754 = .ok (.iload_n 3, 1) := by decide +kernel
theorem dL_law_755 : decode cL_law 755 = .ok (.iconst 1, 1) := by decide +kernel
theorem dL_law_756 : decode cL_law 756 = .ok (.iadd, 1) := by decide +kernel
theorem dL_law_757 : decode cL_law 757 = .ok (.iaload, 1) := by decide +kernel
theorem dL_law_758 : decode cL_law 758 = .ok (.aload_n 0, 1) := by decide +kernel
theorem dL_law_759 : decode cL_law 759 = .ok (.iload_n 3, 1) := by decide +kernel
theorem dL_law_760 : decode cL_law 760 = .ok (.iconst 2, 1) := by decide +kernel
theorem dL_law_761 : decode cL_law 761 = .ok (.iadd, 1) := by decide +kernel
theorem dL_law_762 : decode cL_law 762 = .ok (.iaload, 1) := by decide +kernel
theorem dL_law_763 : decode cL_law 763 = .ok (.invokevirtual 100, 3) := by decide +kernel
theorem dL_law_766 : decode cL_law 766 = .ok (.if_icmp .eq 252, 3) := by decide +kernel
theorem dL_law_769 : decode cL_law 769 = .ok (.iconst 0, 1) := by decide +kernel
theorem dL_law_770 : decode cL_law 770 = .ok (.ireturn, 1) := by decide +kernel
theorem dL_law_771 : decode cL_law 771 = .ok (.aload_n 1, 1) := by decide +kernel
theorem dL_law_772 : decode cL_law 772 = .ok (.invokevirtual 101, 3) := by decide +kernel
theorem dL_law_775 : decode cL_law 775 = .ok (.aload_n 2, 1) := by decide +kernel
theorem dL_law_776 : decode cL_law 776 = .ok (.invokevirtual 104, 3) := by decide +kernel
theorem dL_law_779 : decode cL_law 779 = .ok (.if_icmp .eq 239, 3) := by decide +kernel
theorem dL_law_782 : decode cL_law 782 = .ok (.iconst 0, 1) := by decide +kernel
theorem dL_law_783 : decode cL_law 783 = .ok (.ireturn, 1) := by decide +kernel
theorem dL_law_784 : decode cL_law 784 = .ok (.aload_n 1, 1) := by decide +kernel
theorem dL_law_785 : decode cL_law 785 = .ok (.invokevirtual 105, 3) := by decide +kernel
theorem dL_law_788 : decode cL_law 788 = .ok (.aload_n 2, 1) := by decide +kernel
theorem dL_law_789 : decode cL_law 789 = .ok (.invokevirtual 108, 3) := by decide +kernel
theorem dL_law_792 : decode cL_law 792 = .ok (.if_icmp .eq 226, 3) := by decide +kernel
theorem dL_law_795 : decode cL_law 795 = .ok (.iconst 0, 1) := by decide +kernel
theorem dL_law_796 : decode cL_law 796 = .ok (.ireturn, 1) := by decide +kernel
theorem dL_law_797 : decode cL_law 797 = .ok (.aload_n 1, 1) := by decide +kernel
theorem dL_law_798 : decode cL_law 798 = .ok (.aload_n 0, 1) := by decide +kernel
theorem dL_law_799 : decode cL_law 799 = .ok (.iload_n 3, 1) := by decide +kernel
theorem dL_law_800 : decode cL_law 800 = .ok (.iconst 1, 1) := by decide +kernel
theorem dL_law_801 : decode cL_law 801 = .ok (.iadd, 1) := by decide +kernel
theorem dL_law_802 : decode cL_law 802 = .ok (.iaload, 1) := by decide +kernel
theorem dL_law_803 : decode cL_law 803 = .ok (.invokevirtual 109, 3) := by decide +kernel
theorem dL_law_806 : decode cL_law 806 = .ok (.aload_n 2, 1) := by decide +kernel
theorem dL_law_807 : decode cL_law 807 = .ok (.aload_n 0, 1) := by decide +kernel
theorem dL_law_808 : decode cL_law 808 = .ok (.iload_n 3, 1) := by decide +kernel
theorem dL_law_809 : decode cL_law 809 = .ok (.iconst 1, 1) := by decide +kernel
theorem dL_law_810 : decode cL_law 810 = .ok (.iadd, 1) := by decide +kernel
theorem dL_law_811 : decode cL_law 811 = .ok (.iaload, 1) := by decide +kernel
theorem dL_law_812 : decode cL_law 812 = .ok (.invokevirtual 112, 3) := by decide +kernel
theorem dL_law_815 : decode cL_law 815 = .ok (.if_icmp .eq 203, 3) := by decide +kernel
theorem dL_law_818 : decode cL_law 818 = .ok (.iconst 0, 1) := by decide +kernel
theorem dL_law_819 : decode cL_law 819 = .ok (.ireturn, 1) := by decide +kernel
theorem dL_law_820 : decode cL_law 820 = .ok (.aload_n 1, 1) := by decide +kernel
theorem dL_law_821 : decode cL_law 821 = .ok (.aload_n 0, 1) := by decide +kernel
theorem dL_law_822 : decode cL_law 822 = .ok (.iload_n 3, 1) := by decide +kernel
theorem dL_law_823 : decode cL_law 823 = .ok (.iconst 1, 1) := by decide +kernel
theorem dL_law_824 : decode cL_law 824 = .ok (.iadd, 1) := by decide +kernel
theorem dL_law_825 : decode cL_law 825 = .ok (.iaload, 1) := by decide +kernel
theorem dL_law_826 : decode cL_law 826 = .ok (.invokevirtual 113, 3) := by decide +kernel
theorem dL_law_829 : decode cL_law 829 = .ok (.aload_n 2, 1) := by decide +kernel
theorem dL_law_830 : decode cL_law 830 = .ok (.aload_n 0, 1) := by decide +kernel
theorem dL_law_831 : decode cL_law 831 = .ok (.iload_n 3, 1) := by decide +kernel
theorem dL_law_832 : decode cL_law 832 = .ok (.iconst 1, 1) := by decide +kernel
theorem dL_law_833 : decode cL_law 833 = .ok (.iadd, 1) := by decide +kernel
theorem dL_law_834 : decode cL_law 834 = .ok (.iaload, 1) := by decide +kernel
theorem dL_law_835 : decode cL_law 835 = .ok (.invokevirtual 116, 3) := by decide +kernel
theorem dL_law_838 : decode cL_law 838 = .ok (.if_icmp .eq 180, 3) := by decide +kernel
theorem dL_law_841 : decode cL_law 841 = .ok (.iconst 0, 1) := by decide +kernel
theorem dL_law_842 : decode cL_law 842 = .ok (.ireturn, 1) := by decide +kernel
theorem dL_law_843 : decode cL_law 843 = .ok (.aload_n 1, 1) := by decide +kernel
theorem dL_law_844 : decode cL_law 844 = .ok (.aload_n 0, 1) := by decide +kernel
theorem dL_law_845 : decode cL_law 845 = .ok (.iload_n 3, 1) := by decide +kernel
theorem dL_law_846 : decode cL_law 846 = .ok (.iconst 1, 1) := by decide +kernel
theorem dL_law_847 : decode cL_law 847 = .ok (.iadd, 1) := by decide +kernel
theorem dL_law_848 : decode cL_law 848 = .ok (.iaload, 1) := by decide +kernel
theorem dL_law_849 : decode cL_law 849 = .ok (.aload_n 0, 1) := by decide +kernel
theorem dL_law_850 : decode cL_law 850 = .ok (.iload_n 3, 1) := by decide +kernel
theorem dL_law_851 : decode cL_law 851 = .ok (.iconst 2, 1) := by decide +kernel
theorem dL_law_852 : decode cL_law 852 = .ok (.iadd, 1) := by decide +kernel
theorem dL_law_853 : decode cL_law 853 = .ok (.iaload, 1) := by decide +kernel
theorem dL_law_854 : decode cL_law 854 = .ok (.aload_n 0, 1) := by decide +kernel
theorem dL_law_855 : decode cL_law 855 = .ok (.iload_n 3, 1) := by decide +kernel
theorem dL_law_856 : decode cL_law 856 = .ok (.iconst 3, 1) := by decide +kernel
theorem dL_law_857 : decode cL_law 857 = .ok (.iadd, 1) := by decide +kernel
theorem dL_law_858 : decode cL_law 858 = .ok (.iaload, 1) := by decide +kernel
theorem dL_law_859 : decode cL_law 859 = .ok (.invokevirtual 117, 3) := by decide +kernel
theorem dL_law_862 : decode cL_law 862 = .ok (.aload_n 2, 1) := by decide +kernel
theorem dL_law_863 : decode cL_law 863 = .ok (.aload_n 0, 1) := by decide +kernel
theorem dL_law_864 : decode cL_law 864 = .ok (.iload_n 3, 1) := by decide +kernel
theorem dL_law_865 : decode cL_law 865 = .ok (.iconst 1, 1) := by decide +kernel
theorem dL_law_866 : decode cL_law 866 = .ok (.iadd, 1) := by decide +kernel
theorem dL_law_867 : decode cL_law 867 = .ok (.iaload, 1) := by decide +kernel
theorem dL_law_868 : decode cL_law 868 = .ok (.aload_n 0, 1) := by decide +kernel
theorem dL_law_869 : decode cL_law 869 = .ok (.iload_n 3, 1) := by decide +kernel
theorem dL_law_870 : decode cL_law 870 = .ok (.iconst 2, 1) := by decide +kernel
theorem dL_law_871 : decode cL_law 871 = .ok (.iadd, 1) := by decide +kernel
theorem dL_law_872 : decode cL_law 872 = .ok (.iaload, 1) := by decide +kernel
theorem dL_law_873 : decode cL_law 873 = .ok (.aload_n 0, 1) := by decide +kernel
theorem dL_law_874 : decode cL_law 874 = .ok (.iload_n 3, 1) := by decide +kernel
theorem dL_law_875 : decode cL_law 875 = .ok (.iconst 3, 1) := by decide +kernel
theorem dL_law_876 : decode cL_law 876 = .ok (.iadd, 1) := by decide +kernel
theorem dL_law_877 : decode cL_law 877 = .ok (.iaload, 1) := by decide +kernel
theorem dL_law_878 : decode cL_law 878 = .ok (.invokevirtual 120, 3) := by decide +kernel
theorem dL_law_881 : decode cL_law 881 = .ok (.if_icmp .eq 137, 3) := by decide +kernel
theorem dL_law_884 : decode cL_law 884 = .ok (.iconst 0, 1) := by decide +kernel
theorem dL_law_885 : decode cL_law 885 = .ok (.ireturn, 1) := by decide +kernel
theorem dL_law_886 : decode cL_law 886 = .ok (.aload_n 1, 1) := by decide +kernel
theorem dL_law_887 : decode cL_law 887 = .ok (.aload_n 0, 1) := by decide +kernel
theorem dL_law_888 : decode cL_law 888 = .ok (.iload_n 3, 1) := by decide +kernel
theorem dL_law_889 : decode cL_law 889 = .ok (.iconst 1, 1) := by decide +kernel
theorem dL_law_890 : decode cL_law 890 = .ok (.iadd, 1) := by decide +kernel
theorem dL_law_891 : decode cL_law 891 = .ok (.iaload, 1) := by decide +kernel
theorem dL_law_892 : decode cL_law 892 = .ok (.aload_n 0, 1) := by decide +kernel
theorem dL_law_893 : decode cL_law 893 = .ok (.iload_n 3, 1) := by decide +kernel
theorem dL_law_894 : decode cL_law 894 = .ok (.iconst 2, 1) := by decide +kernel
theorem dL_law_895 : decode cL_law 895 = .ok (.iadd, 1) := by decide +kernel
theorem dL_law_896 : decode cL_law 896 = .ok (.iaload, 1) := by decide +kernel
theorem dL_law_897 : decode cL_law 897 = .ok (.aload_n 0, 1) := by decide +kernel
theorem dL_law_898 : decode cL_law 898 = .ok (.iload_n 3, 1) := by decide +kernel
theorem dL_law_899 : decode cL_law 899 = .ok (.iconst 3, 1) := by decide +kernel
theorem dL_law_900 : decode cL_law 900 = .ok (.iadd, 1) := by decide +kernel
theorem dL_law_901 : decode cL_law 901 = .ok (.iaload, 1) := by decide +kernel
theorem dL_law_902 : decode cL_law 902 = .ok (.invokevirtual 121, 3) := by decide +kernel
theorem dL_law_905 : decode cL_law 905 = .ok (.aload_n 2, 1) := by decide +kernel
theorem dL_law_906 : decode cL_law 906 = .ok (.aload_n 0, 1) := by decide +kernel
theorem dL_law_907 : decode cL_law 907 = .ok (.iload_n 3, 1) := by decide +kernel
theorem dL_law_908 : decode cL_law 908 = .ok (.iconst 1, 1) := by decide +kernel
theorem dL_law_909 : decode cL_law 909 = .ok (.iadd, 1) := by decide +kernel
theorem dL_law_910 : decode cL_law 910 = .ok (.iaload, 1) := by decide +kernel
theorem dL_law_911 : decode cL_law 911 = .ok (.aload_n 0, 1) := by decide +kernel
theorem dL_law_912 : decode cL_law 912 = .ok (.iload_n 3, 1) := by decide +kernel
theorem dL_law_913 : decode cL_law 913 = .ok (.iconst 2, 1) := by decide +kernel
theorem dL_law_914 : decode cL_law 914 = .ok (.iadd, 1) := by decide +kernel
theorem dL_law_915 : decode cL_law 915 = .ok (.iaload, 1) := by decide +kernel
theorem dL_law_916 : decode cL_law 916 = .ok (.aload_n 0, 1) := by decide +kernel
theorem dL_law_917 : decode cL_law 917 = .ok (.iload_n 3, 1) := by decide +kernel
theorem dL_law_918 : decode cL_law 918 = .ok (.iconst 3, 1) := by decide +kernel
theorem dL_law_919 : decode cL_law 919 = .ok (.iadd, 1) := by decide +kernel
theorem dL_law_920 : decode cL_law 920 = .ok (.iaload, 1) := by decide +kernel
theorem dL_law_921 : decode cL_law 921 = .ok (.invokevirtual 124, 3) := by decide +kernel
theorem dL_law_924 : decode cL_law 924 = .ok (.if_icmp .eq 94, 3) := by decide +kernel
theorem dL_law_927 : decode cL_law 927 = .ok (.iconst 0, 1) := by decide +kernel
theorem dL_law_928 : decode cL_law 928 = .ok (.ireturn, 1) := by decide +kernel
theorem dL_law_929 : decode cL_law 929 = .ok (.aload_n 1, 1) := by decide +kernel
theorem dL_law_930 : decode cL_law 930 = .ok (.aload_n 0, 1) := by decide +kernel
theorem dL_law_931 : decode cL_law 931 = .ok (.iload_n 3, 1) := by decide +kernel
theorem dL_law_932 : decode cL_law 932 = .ok (.iconst 1, 1) := by decide +kernel
theorem dL_law_933 : decode cL_law 933 = .ok (.iadd, 1) := by decide +kernel
theorem dL_law_934 : decode cL_law 934 = .ok (.iaload, 1) := by decide +kernel
theorem dL_law_935 : decode cL_law 935 = .ok (.aload_n 0, 1) := by decide +kernel
theorem dL_law_936 : decode cL_law 936 = .ok (.iload_n 3, 1) := by decide +kernel
theorem dL_law_937 : decode cL_law 937 = .ok (.iconst 2, 1) := by decide +kernel
theorem dL_law_938 : decode cL_law 938 = .ok (.iadd, 1) := by decide +kernel
theorem dL_law_939 : decode cL_law 939 = .ok (.iaload, 1) := by decide +kernel
theorem dL_law_940 : decode cL_law 940 = .ok (.aload_n 0, 1) := by decide +kernel
theorem dL_law_941 : decode cL_law 941 = .ok (.iload_n 3, 1) := by decide +kernel
theorem dL_law_942 : decode cL_law 942 = .ok (.iconst 3, 1) := by decide +kernel
theorem dL_law_943 : decode cL_law 943 = .ok (.iadd, 1) := by decide +kernel
theorem dL_law_944 : decode cL_law 944 = .ok (.iaload, 1) := by decide +kernel
theorem dL_law_945 : decode cL_law 945 = .ok (.aload_n 0, 1) := by decide +kernel
theorem dL_law_946 : decode cL_law 946 = .ok (.iload_n 3, 1) := by decide +kernel
theorem dL_law_947 : decode cL_law 947 = .ok (.iconst 4, 1) := by decide +kernel
theorem dL_law_948 : decode cL_law 948 = .ok (.iadd, 1) := by decide +kernel
theorem dL_law_949 : decode cL_law 949 = .ok (.iaload, 1) := by decide +kernel
theorem dL_law_950 : decode cL_law 950 = .ok (.invokevirtual 125, 3) := by decide +kernel
theorem dL_law_953 : decode cL_law 953 = .ok (.aload_n 2, 1) := by decide +kernel
theorem dL_law_954 : decode cL_law 954 = .ok (.aload_n 0, 1) := by decide +kernel
theorem dL_law_955 : decode cL_law 955 = .ok (.iload_n 3, 1) := by decide +kernel
theorem dL_law_956 : decode cL_law 956 = .ok (.iconst 1, 1) := by decide +kernel
theorem dL_law_957 : decode cL_law 957 = .ok (.iadd, 1) := by decide +kernel
theorem dL_law_958 : decode cL_law 958 = .ok (.iaload, 1) := by decide +kernel
theorem dL_law_959 : decode cL_law 959 = .ok (.aload_n 0, 1) := by decide +kernel
theorem dL_law_960 : decode cL_law 960 = .ok (.iload_n 3, 1) := by decide +kernel
theorem dL_law_961 : decode cL_law 961 = .ok (.iconst 2, 1) := by decide +kernel
theorem dL_law_962 : decode cL_law 962 = .ok (.iadd, 1) := by decide +kernel
theorem dL_law_963 : decode cL_law 963 = .ok (.iaload, 1) := by decide +kernel
theorem dL_law_964 : decode cL_law 964 = .ok (.aload_n 0, 1) := by decide +kernel
theorem dL_law_965 : decode cL_law 965 = .ok (.iload_n 3, 1) := by decide +kernel
theorem dL_law_966 : decode cL_law 966 = .ok (.iconst 3, 1) := by decide +kernel
theorem dL_law_967 : decode cL_law 967 = .ok (.iadd, 1) := by decide +kernel
theorem dL_law_968 : decode cL_law 968 = .ok (.iaload, 1) := by decide +kernel
theorem dL_law_969 : decode cL_law 969 = .ok (.aload_n 0, 1) := by decide +kernel
theorem dL_law_970 : decode cL_law 970 = .ok (.iload_n 3, 1) := by decide +kernel
theorem dL_law_971 : decode cL_law 971 = .ok (.iconst 4, 1) := by decide +kernel
theorem dL_law_972 : decode cL_law 972 = .ok (.iadd, 1) := by decide +kernel
theorem dL_law_973 : decode cL_law 973 = .ok (.iaload, 1) := by decide +kernel
theorem dL_law_974 : decode cL_law 974 = .ok (.invokevirtual 129, 3) := by decide +kernel
theorem dL_law_977 : decode cL_law 977 = .ok (.if_icmp .eq 41, 3) := by decide +kernel
theorem dL_law_980 : decode cL_law 980 = .ok (.iconst 0, 1) := by decide +kernel
theorem dL_law_981 : decode cL_law 981 = .ok (.ireturn, 1) := by decide +kernel
theorem dL_law_982 : decode cL_law 982 = .ok (.aload_n 1, 1) := by decide +kernel
theorem dL_law_983 : decode cL_law 983 = .ok (.invokevirtual 130, 3) := by decide +kernel
theorem dL_law_986 : decode cL_law 986 = .ok (.aload_n 2, 1) := by decide +kernel
theorem dL_law_987 : decode cL_law 987 = .ok (.invokevirtual 133, 3) := by decide +kernel
theorem dL_law_990 : decode cL_law 990 = .ok (.if_icmp .eq 28, 3) := by decide +kernel
theorem dL_law_993 : decode cL_law 993 = .ok (.iconst 0, 1) := by decide +kernel
theorem dL_law_994 : decode cL_law 994 = .ok (.ireturn, 1) := by decide +kernel
theorem dL_law_995 : decode cL_law 995 = .ok (.aload_n 1, 1) := by decide +kernel
theorem dL_law_996 : decode cL_law 996 = .ok (.aload_n 0, 1) := by decide +kernel
theorem dL_law_997 : decode cL_law 997 = .ok (.iload_n 3, 1) := by decide +kernel
theorem dL_law_998 : decode cL_law 998 = .ok (.iconst 1, 1) := by decide +kernel
theorem dL_law_999 : decode cL_law 999 = .ok (.iadd, 1) := by decide +kernel
theorem dL_law_1000 : decode cL_law 1000 = .ok (.iaload, 1) := by decide +kernel
theorem dL_law_1001 : decode cL_law 1001 = .ok (.invokevirtual 134, 3) := by decide +kernel
theorem dL_law_1004 : decode cL_law 1004 = .ok (.aload_n 2, 1) := by decide +kernel
theorem dL_law_1005 : decode cL_law 1005 = .ok (.aload_n 0, 1) := by decide +kernel
theorem dL_law_1006 : decode cL_law 1006 = .ok (.iload_n 3, 1) := by decide +kernel
theorem dL_law_1007 : decode cL_law 1007 = .ok (.iconst 1, 1) := by decide +kernel
theorem dL_law_1008 : decode cL_law 1008 = .ok (.iadd, 1) := by decide +kernel
theorem dL_law_1009 : decode cL_law 1009 = .ok (.iaload, 1) := by decide +kernel
theorem dL_law_1010 : decode cL_law 1010 = .ok (.invokevirtual 137, 3) := by decide +kernel
theorem dL_law_1013 : decode cL_law 1013 = .ok (.if_icmp .eq 5, 3) := by decide +kernel
theorem dL_law_1016 : decode cL_law 1016 = .ok (.iconst 0, 1) := by decide +kernel
theorem dL_law_1017 : decode cL_law 1017 = .ok (.ireturn, 1) := by decide +kernel
theorem dL_law_1018 : decode cL_law 1018 = .ok (.iinc 3 5, 3) := by decide +kernel
theorem dL_law_1021 : decode cL_law 1021 = .ok (.goto (-1003), 3) := by decide +kernel
theorem dL_law_1024 : decode cL_law 1024 = .ok (.iconst 1, 1) := by decide +kernel
theorem dL_law_1025 : decode cL_law 1025 = .ok (.ireturn, 1) := by decide +kernel
end
section
/-! numbers: an int of the machine by a whole number -/
def jI (z : Int) : Int32 := Int32.ofInt z
def jL (z : Int) : Int64 := Int64.ofInt z
theorem jI_toInt {z : Int} (h : -2147483648 ≤ z ∧ z < 2147483648) : (jI z).toInt = z := Int32.toInt_ofInt_of_le (by simpa using h.1) (by simpa using h.2)
theorem jL_toInt {z : Int} (h : -9223372036854775808 ≤ z ∧ z < 9223372036854775808) : (jL z).toInt = z := Int64.toInt_ofInt_of_le (by simpa using h.1) (by simpa using h.2)
theorem jI_of (x : Int32) : x = jI x.toInt := (Int32.ofInt_toInt x).symm
theorem jI_bd (x : Int32) : -2147483648 ≤ x.toInt ∧ x.toInt < 2147483648 := ⟨by simpa using Int32.le_toInt x, by simpa using Int32.toInt_lt x⟩
theorem jI_ex (x : Int32) : ∃ z : Int, x = jI z ∧ (-2147483648 ≤ z ∧ z < 2147483648) := ⟨x.toInt, jI_of x, jI_bd x⟩
theorem jI_add (a b : Int) : jI a + jI b = jI (a + b) := (Int32.ofInt_add a b).symm
theorem jI_sub (a b : Int) : jI a - jI b = jI (a - b) := (Int32.ofInt_sub a b).symm
theorem jI_mul (a b : Int) : jI a * jI b = jI (a * b) := (Int32.ofInt_mul a b).symm
theorem jI_neg (a : Int) : -jI a = jI (-a) := (Int32.ofInt_neg a).symm
theorem jL_add (a b : Int) : jL a + jL b = jL (a + b) := (Int64.ofInt_add a b).symm
theorem jI_lt {a b : Int} (ha : -2147483648 ≤ a ∧ a < 2147483648) (hb : -2147483648 ≤ b ∧ b < 2147483648) : jI a < jI b ↔ a < b := by
  rw [Int32.lt_iff_toInt_lt, jI_toInt ha, jI_toInt hb]
theorem jI_le {a b : Int} (ha : -2147483648 ≤ a ∧ a < 2147483648) (hb : -2147483648 ≤ b ∧ b < 2147483648) : jI a ≤ jI b ↔ a ≤ b := by
  rw [Int32.le_iff_toInt_le, jI_toInt ha, jI_toInt hb]
theorem jI_eq {a b : Int} (ha : -2147483648 ≤ a ∧ a < 2147483648) (hb : -2147483648 ≤ b ∧ b < 2147483648) : jI a = jI b ↔ a = b := by
  constructor
  · intro h
    have h1 := congrArg Int32.toInt h
    rwa [jI_toInt ha, jI_toInt hb] at h1
  · intro h; rw [h]
theorem jI_0 : jI 0 = 0 := rfl
theorem jL_lt {a b : Int} (ha : -9223372036854775808 ≤ a ∧ a < 9223372036854775808) (hb : -9223372036854775808 ≤ b ∧ b < 9223372036854775808) : jL a < jL b ↔ a < b := by
  rw [Int64.lt_iff_toInt_lt, jL_toInt ha, jL_toInt hb]
theorem jI_clamp {z : Int} (h : 0 ≤ z ∧ z < 2147483648) : (jI z).toNatClampNeg = z.toNat := by
  show (jI z).toInt.toNat = z.toNat
  rw [jI_toInt (by omega)]
theorem jI_in {z : Int} {n : Nat} (h : 0 ≤ z ∧ z < n) (hn : (n : Int) < 2147483648) : vp_in (jI z) n := by
  rw [vp_in_iff, jI_toInt (by omega)]
  exact h
theorem jI_nat (n : Nat) : Int32.ofNat n = jI n := by
  show Int32.ofNat n = Int32.ofInt (n : Int)
  exact Int32.ofInt_eq_ofNat.symm
theorem jI_nI (n : Nat) : nI n = jI n := jI_nat n
theorem jI_i2l {z : Int} (h : -2147483648 ≤ z ∧ z < 2147483648) : (jI z).toInt64 = jL z := by
  apply Int64.toInt_inj.mp
  rw [Int32.toInt_toInt64, jI_toInt h, jL_toInt (by omega)]
theorem jL_l2i (z : Int) : (jL z).toInt32 = jI z := Int64.toInt32_ofInt
theorem jI_div {a b : Int} (ha : 0 ≤ a ∧ a < 2147483648) (hb : 0 < b ∧ b < 2147483648) : jI a / jI b = jI (a / b) := by
  obtain ⟨n, rfl⟩ : ∃ n : Nat, a = n := ⟨a.toNat, by omega⟩
  obtain ⟨d, rfl⟩ : ∃ d : Nat, b = d := ⟨b.toNat, by omega⟩
  rw [← jI_nI, ← jI_nI, pk_div (by omega) (by omega) (by omega), jI_nI]
  rfl
theorem jI_rem {a b : Int} (ha : 0 ≤ a ∧ a < 2147483648) (hb : 0 < b ∧ b < 2147483648) : jI a - jI a / jI b * jI b = jI (a % b) := by
  obtain ⟨n, rfl⟩ : ∃ n : Nat, a = n := ⟨a.toNat, by omega⟩
  obtain ⟨d, rfl⟩ : ∃ d : Nat, b = d := ⟨b.toNat, by omega⟩
  rw [← jI_nI, ← jI_nI, pk_rem (by omega) (by omega) (by omega), jI_nI]
  rfl
theorem jI_tn (z : Int) : ((jI z).toBitVec.toNat : Int) = z % 4294967296 := by
  show (((BitVec.ofInt 32 z).toNat : Nat) : Int) = _
  rw [BitVec.toNat_ofInt]
  have h : (0 : Int) ≤ z % ((2 ^ 32 : Nat) : Int) := Int.emod_nonneg _ (by decide)
  omega
/-- the lowest bits -/
theorem jI_and (z : Int) {m : Int} (k : Nat) (hm : (jI m).toBitVec.toNat = 2 ^ k - 1) (hk : k ≤ 30) : jI z &&& jI m = jI (z % (2 ^ k : Nat)) := by
  rw [pk_and (jI z) k hm, jI_nI]
  congr 1
  have h := jI_tn z
  have hd : ((2 ^ k : Nat) : Int) ∣ 4294967296 := by
    have : (4294967296 : Int) = ((2 ^ k : Nat) : Int) * ((2 ^ (32 - k) : Nat) : Int) := by
      rw [← Int.natCast_mul, ← Nat.pow_add]
      have : k + (32 - k) = 32 := by omega
      rw [this]; rfl
    exact ⟨_, this⟩
  rw [Int.natCast_emod, h, Int.emod_emod_of_dvd _ hd]
theorem jI_and127 (z : Int) : jI z &&& jI 127 = jI (z % 128) := jI_and z 7 (by decide) (by decide)
theorem jI_and31 (z : Int) : jI z &&& jI 31 = jI (z % 32) := jI_and z 5 (by decide) (by decide)
theorem jI_and32767 (z : Int) : jI z &&& jI 32767 = jI (z % 32768) := jI_and z 15 (by decide) (by decide)
end
section
/-! the world: cells by number, at addresses ad; the words that hold everywhere; what lies outside -/
/-- where the law began, classes and slots, the array classes, the table of grown signs, the texts -/
abbrev JG : Type := Nat × va_G × (Nat → ClassId) × Nat × (Nat → Nat) × (Nat → Nat)
def tw : List Cond := lw_tbl.filter goodWord
theorem tw_of {w : Cond} (i : Nat) (h : lw_tbl[i]? = some w) (g : goodWord w = true) : w ∈ tw := List.mem_filter.mpr ⟨List.mem_of_getElem? h, g⟩
theorem tw_good : ∀ w ∈ tw, (w.onTables && w.keeps) = true ∨ ∃ ty, w = .arrayClass ty := fun _ h => good_of_word (List.mem_filter.mp h).2
theorem tw_in {c : Cond} (h : c ∈ tw) : GoodIn tw (c :: tw) := fun w hw => (List.mem_cons.mp hw).elim (fun e => by rw [e]; exact ⟨h, tw_good _ h⟩) (fun q => ⟨q, tw_good _ q⟩)
theorem tw_in1 {c a : Cond} {l : List Cond} (h : a ∈ tw) (hl : GoodIn tw l) : GoodIn tw (a :: l) := fun w hw => (List.mem_cons.mp hw).elim (fun e => by rw [e]; exact ⟨h, tw_good _ h⟩) (hl w)
def jA (Γ : JG) : Nat → Prop := fun q => Γ.1 ≤ q
def jtys (Γ : JG) : List (ClassId × FieldType) := [(Γ.2.2.1 0, .int), (Γ.2.2.1 1, .boolean), (Γ.2.2.1 2, .object RX3), (Γ.2.2.1 3, .object RX4)]
def jnest : List Cond := lw_tbl.filter (fun w => match w with | .fieldLinkNest _ _ _ _ _ _ => true | .methodLinkNest _ _ _ _ => true | _ => false)
def jgrown : List Int := [40, 41, 91, 93, 123, 125, 97, 122, 47]
def jlen : List Nat := [4, 3, 3]
def jbyt : List (List Int32) := [[109, 97, 114, 107], [114, 111, 119], [114, 101, 112]]
/-- what of the surroundings every method may rest on -/
def jenv (Γ : JG) (U : State) : Prop :=
  va_K Γ.2.1 vwCl (jtys Γ) U ∧ (∀ w ∈ jnest, va_Nw w U) ∧
  (va_Z RX9 "GROWN" "[C" (.ref Γ.2.2.2.1) (jA Γ) U U.heap ∧ va_T .char Γ.2.2.2.1 9 (fun j => .int (jI (jgrown.getD j 0))) (jA Γ) U U.heap) ∧
  (va_Z RJ0 "COMPACT_STRINGS" "Z" (.int 1) (jA Γ) U U.heap ∧ va_Zq RJ3 "SIOOBE_FORMATTER" "Ljava/util/function/BiFunction;" (jA Γ) U U.heap) ∧
  (vk_S 3 jlen jbyt Γ.2.2.2.2.1 Γ.2.2.2.2.2 (jA Γ) U U.heap ∧ vk_R RX7 93 "mark" (Γ.2.2.2.2.1 0) U ∧ vk_R RX7 103 "row" (Γ.2.2.2.2.1 1) U ∧ vk_R RX7 109 "\x72ep" (Γ.2.2.2.2.1 2) U) ∧
  (va_AO RX3 U ∧ va_AO RX4 U) ∧ Γ.1 ≤ U.heap.size
theorem jnest_warm {w : Cond} (hw : w ∈ jnest) {s U : State} (hW : s.WarmedH U.vm) (h : va_Nw w s) : va_Nw w U := by
  have h2 := (List.mem_filter.mp hw).2
  cases w <;> first | exact va_Nw.warmF hW h | exact va_Nw.warmM hW h | (simp at h2; done)
theorem jnest_same {w : Cond} (hw : w ∈ jnest) {s U : State} (hv : s.vm = U.vm) (h : va_Nw w s) : va_Nw w U := by
  have h2 := (List.mem_filter.mp hw).2
  cases w <;> first | exact va_Nw.same rfl hv h | (simp at h2; done)
theorem jenv_step {Γ : JG} {s U : State} (h : jenv Γ s) (hW : s.WarmedH U.vm) (hk : ∀ q : Nat, q < s.heap.size → ¬ jA Γ q → U.heap[q]? = s.heap[q]?) (hz : s.heap.size ≤ U.heap.size) : jenv Γ U := by
  obtain ⟨h1, h2, ⟨h3, h4⟩, ⟨h5, h6⟩, ⟨h7, h8, h9, h10⟩, ⟨h11, h12⟩, h13⟩ := h
  have hv := hW.alike
  exact ⟨va_K.moved hv h1, fun w hw => jnest_warm hw hW (h2 w hw), ⟨va_Z.moved hv (h3.kept hk), va_T.moved hv (h4.kept hk)⟩, ⟨va_Z.moved hv (h5.kept hk), va_Zq.moved hv (h6.kept hk)⟩, ⟨vk_S.moved hv (h7.kept hk), h8.warm hW, h9.warm hW, h10.warm hW⟩, ⟨va_AO.moved hv h11, va_AO.moved hv h12⟩, Nat.le_trans h13 hz⟩
theorem jenv_same {Γ : JG} {s U : State} (h : jenv Γ s) (hv : s.vm = U.vm) (hh : U.heap = s.heap) : jenv Γ U := by
  obtain ⟨h1, h2, ⟨h3, h4⟩, ⟨h5, h6⟩, ⟨h7, h8, h9, h10⟩, ⟨h11, h12⟩, h13⟩ := h
  have hva : s.vm.Alike U.vm := by rw [hv]; exact Vm.Alike.refl _
  unfold jenv
  rw [hh]
  exact ⟨va_K.moved hva h1, fun w hw => jnest_same hw hv (h2 w hw), ⟨va_Z.moved hva h3, va_T.moved hva h4⟩, ⟨va_Z.moved hva h5, va_Zq.moved hva h6⟩, ⟨vk_S.moved hva h7, h8.same hv.symm, h9.same hv.symm, h10.same hv.symm⟩, ⟨va_AO.moved hva h11, va_AO.moved hva h12⟩, h13⟩
/-- the cells, as the kit's list -/
def jws (ad : Nat → Nat) (N : Nat) (E : Nat → va_E) : va_W := (List.range N).map (fun i => (ad i, E i))
theorem jws_get {ad : Nat → Nat} {N : Nat} {E : Nat → va_E} {i : Nat} (h : i < N) : (jws ad N E)[i]? = some (ad i, E i) := by
  simp [jws, h]
theorem jws_set {ad : Nat → Nat} {N : Nat} {E : Nat → va_E} {k : Nat} (hk : k < N) (e : va_E) : (jws ad N E).set k (ad k, e) = jws ad N (va_up E k e) := by
  apply List.ext_getElem?
  intro i
  by_cases hi : i = k
  · subst hi
    rw [List.getElem?_set_self (by simp [jws, hk]), jws_get hk]
    simp [va_up]
  · rw [List.getElem?_set_ne (Ne.symm hi)]
    by_cases hN : i < N
    · rw [jws_get hN, jws_get hN]
      simp [va_up, hi]
    · rw [List.getElem?_eq_none (by simp [jws]; omega), List.getElem?_eq_none (by simp [jws]; omega)]
theorem jws_push {ad : Nat → Nat} {N : Nat} {E : Nat → va_E} (q : Nat) (e : va_E) : jws ad N E ++ [(q, e)] = jws (va_up ad N q) (N + 1) (va_up E N e) := by
  unfold jws
  rw [List.range_succ, List.map_append]
  congr 1
  · apply List.map_congr_left
    intro i hi
    have hne : i ≠ N := Nat.ne_of_lt (List.mem_range.mp hi)
    simp [va_up, hne]
  · simp [va_up]
def jw (Γ : JG) (ad : Nat → Nat) (N : Nat) (E : Nat → va_E) (H : Heap) : Prop := va_P Γ.2.1 vwCl (jws ad N E) H ∧ va_D (jA Γ) (jws ad N E)
/-- the locals, by their places -/
def lqa : Nat → List (Option Value) → List (Nat × Value)
  | _, [] => []
  | i, none :: r => lqa (i + 1) r
  | i, some v :: r => (i, v) :: lqa (i + 1) r
theorem lqa_mem : ∀ (L : List (Option Value)) (k i : Nat) (v : Value), (i, v) ∈ lqa k L ↔ (k ≤ i ∧ L[i - k]? = some (some v))
  | [], k, i, v => by simp [lqa]
  | none :: r, k, i, v => by
    rw [lqa, lqa_mem r (k + 1) i v]
    constructor
    · rintro ⟨h1, h2⟩
      refine ⟨by omega, ?_⟩
      rw [show i - k = (i - (k + 1)) + 1 by omega, List.getElem?_cons_succ]
      exact h2
    · rintro ⟨h1, h2⟩
      by_cases hk : i = k
      · subst hk
        simp at h2
      · refine ⟨by omega, ?_⟩
        rw [show i - k = (i - (k + 1)) + 1 by omega, List.getElem?_cons_succ] at h2
        exact h2
  | some w :: r, k, i, v => by
    rw [lqa, List.mem_cons, lqa_mem r (k + 1) i v]
    constructor
    · rintro (h | ⟨h1, h2⟩)
      · cases h
        simp
      · refine ⟨by omega, ?_⟩
        rw [show i - k = (i - (k + 1)) + 1 by omega, List.getElem?_cons_succ]
        exact h2
    · rintro ⟨h1, h2⟩
      by_cases hk : i = k
      · subst hk
        simp at h2
        subst h2
        exact Or.inl rfl
      · refine Or.inr ⟨by omega, ?_⟩
        rw [show i - k = (i - (k + 1)) + 1 by omega, List.getElem?_cons_succ] at h2
        exact h2
def lq (ls : Array Slot) (nL : Nat) (L : List (Option Value)) : Prop := lv_has ls nL (lqa 0 L)
theorem lq_at {ls : Array Slot} {nL : Nat} {L : List (Option Value)} (h : lq ls nL L) {i : Nat} {v : Value} (hv : L[i]? = some (some v)) : ls[i]? = some (.val v) := h.2.2 (i, v) ((lqa_mem L 0 i v).mpr ⟨Nat.zero_le _, hv⟩)
/-- the slot ahead of a place holds no value of two slots -/
def lqc (L : List (Option Value)) (i : Nat) : Bool := match L[i - 1]? with
  | some (some v) => decide (v.category = 1)
  | _ => true
theorem lq_set1 {ls : Array Slot} {nL : Nat} {L : List (Option Value)} {i : Nat} {v : Value} (hc : lqc L i = true) (h : lv_has ls nL ((i, v) :: (lqa 0 L).filter (fun q => !(q.1 == i) && !(q.1 + 1 == i && q.2.category == 2)))) : lq ls nL (L.set i (some v)) := by
  refine ⟨h.1, h.2.1, fun q hq => h.2.2 q ?_⟩
  obtain ⟨j, w⟩ := q
  obtain ⟨-, h2⟩ := (lqa_mem _ 0 j w).mp hq
  rw [Nat.sub_zero] at h2
  by_cases hj : j = i
  · subst hj
    have hl : j < L.length := by
      have := (List.getElem?_eq_some_iff.mp h2).1
      simpa using this
    rw [List.getElem?_set_self hl] at h2
    cases h2
    exact List.mem_cons_self
  · rw [List.getElem?_set_ne (Ne.symm hj)] at h2
    refine List.mem_cons_of_mem _ (List.mem_filter.mpr ⟨(lqa_mem L 0 j w).mpr ⟨Nat.zero_le _, h2⟩, ?_⟩)
    by_cases hj2 : j + 1 = i
    · have e : i - 1 = j := by omega
      rw [lqc, e, h2] at hc
      have hc' : w.category = 1 := by simpa using hc
      simp [hj, hc']
    · simp [hj, hj2]
theorem lq_set2 {ls : Array Slot} {nL : Nat} {L : List (Option Value)} {i : Nat} {v : Value} (hc : lqc L i = true) (h : lv_has ls nL ((i, v) :: (lqa 0 L).filter (fun q => !(q.1 == i) && (!(q.1 == i + 1) && !(q.1 + 1 == i && q.2.category == 2))))) : lq ls nL ((L.set i (some v)).set (i + 1) none) := by
  refine ⟨h.1, h.2.1, fun q hq => h.2.2 q ?_⟩
  obtain ⟨j, w⟩ := q
  obtain ⟨-, h2⟩ := (lqa_mem _ 0 j w).mp hq
  rw [Nat.sub_zero] at h2
  by_cases hj1 : j = i + 1
  · subst hj1
    by_cases hl : i + 1 < (L.set i (some v)).length
    · rw [List.getElem?_set_self hl] at h2
      cases h2
    · rw [List.getElem?_eq_none (by simpa using hl)] at h2
      cases h2
  rw [List.getElem?_set_ne (Ne.symm hj1)] at h2
  by_cases hj : j = i
  · subst hj
    have hl : j < L.length := by
      have := (List.getElem?_eq_some_iff.mp h2).1
      simpa using this
    rw [List.getElem?_set_self hl] at h2
    cases h2
    exact List.mem_cons_self
  · rw [List.getElem?_set_ne (Ne.symm hj)] at h2
    refine List.mem_cons_of_mem _ (List.mem_filter.mpr ⟨(lqa_mem L 0 j w).mpr ⟨Nat.zero_le _, h2⟩, ?_⟩)
    by_cases hj2 : j + 1 = i
    · have e : i - 1 = j := by omega
      rw [lqc, e, h2] at hc
      have hc' : w.category = 1 := by simpa using hc
      simp [hj, hj1, hc']
    · simp [hj, hj1, hj2]
end
section
/-! the judgement: from any state that the numbers picture, the machine comes to Q -/
abbrev JO : Type := Program × Env × Room × State × MethodId × Array Value × List Frame × Method × Code × (State → Prop)
def J (l : Launch) (Γ : JG) (Ω : JO) (nL : Nat) (ad : Nat → Nat) (N k n : Nat) (E : Nat → va_E) (pc : Nat) (L : List (Option Value)) (st : List Value) : Prop :=
  ∀ (H : Heap) (locs : List Loc) (ls : Array Slot), lq ls nL L → jw Γ ad N E H → va_S (jA Γ) Ω.2.2.2.1.heap H locs →
    W Ω.1 l Ω.2.1 Ω.2.2.1 Ω.2.2.2.1 Ω.2.2.2.2.1 Ω.2.2.2.2.2.1 Ω.2.2.2.2.2.2.1 Ω.2.2.2.2.2.2.2.1 Ω.2.2.2.2.2.2.2.2.1 H locs k n Ω.2.2.2.2.2.2.2.2.2 (F0 Ω.2.2.2.2.1 pc ls st)
/-- what a method's surroundings are -/
def JX (Γ : JG) (Ω : JO) (own : String) (cc : ByteArray) (nL fr rc rs lo : Nat) : Prop :=
  Ω.1.tables.exec = Jvm.exec ∧ Ω.2.2.2.2.2.2.2.2.1.code = cc ∧ Ω.2.2.2.2.2.2.2.2.1.maxLocals = nL ∧ Ω.2.2.2.1.vm.findClass own = some Ω.2.2.2.2.1.cls ∧ (∀ w ∈ tw, w.before Ω.2.2.2.2.2.1 Ω.2.2.2.1 = true) ∧ jenv Γ Ω.2.2.2.1 ∧ Ω.2.2.1 = { frames := fr, cells := rc, slots := rs, locals := lo }
def JC (Γ : JG) (ad : Nat → Nat) (N : Nat) (post : Option Value → (Nat → va_E) → Prop) : Array Value → State → Outcome → State → Prop := fun _ st oc t =>
  (∃ (rv : Option Value) (E : Nat → va_E), oc = .returned rv ∧ post rv E ∧ jw Γ ad N E t.heap) ∧ va_F (jA Γ) st t
def JR (Γ : JG) (Ω : JO) (ret : Option FieldType) (mc ms : Nat) (ad : Nat → Nat) (N : Nat) (post : Option Value → (Nat → va_E) → Prop) : Prop :=
  Ω.2.2.2.2.2.2.2.2.2 = MQ Ω.2.2.2.2.2.2.1 (JC Γ ad N post) Ω.2.2.2.2.2.1 Ω.2.2.2.1 mc ms (jA Γ) ∧ Ω.2.2.2.2.2.2.2.1.sig.returnType = ret ∧ Ω.2.2.2.2.2.2.2.1.locks = false
/-- a method's contract -/
def JM (l : Launch) (Γ : JG) (y : MethodName) (cc : ByteArray) (nL : Nat) (ret : Option FieldType) (fr lo mc ms : Nat) (ad : Nat → Nat) (N : Nat) (E : Nat → va_E) (av : List Value) (post : Option Value → (Nat → va_E) → Prop) : Prop :=
  Met l y (.code y cc nL ret :: tw) { frames := fr, cells := mc, slots := ms, locals := lo } (va_Pc av (fun U => jenv Γ U ∧ jw Γ ad N E U.heap)) (JC Γ ad (N + mc) post) mc ms (jA Γ)
theorem JM_intro {l : Launch} {Γ : JG} {y : MethodName} {cc : ByteArray} {nL : Nat} {ret : Option FieldType} {fr lo mc ms : Nat} {ad : Nat → Nat} {N : Nat} {E : Nat → va_E} {av : List Value} {post : Option Value → (Nat → va_E) → Prop} {own : String}
    (L0 : List (Option Value)) (hy : plainName y.cls = true) (ho : y.cls = own) (hL : lqa 0 L0 = lv_args 0 av) (hn : (lg_sl av).length ≤ nL)
    (body : ∀ Ω : JO, JX Γ Ω own cc nL fr mc ms lo → JR Γ Ω ret mc ms ad (N + mc) post → (y.name = "<init>" → Ω.2.2.2.2.2.2.2.1.name = "<init>") → J l Γ Ω nL ad N 0 0 E 0 L0 []) : JM l Γ y cc nL ret fr lo mc ms ad N E av post := by
  refine Met.ofW (cc := cc) (maxL := nL) (ret := ret) hy rfl ?_
  intro p e s m args below meth c s₁ B hml hv
  obtain ⟨rfl, henv, hw⟩ := hv
  have hts := atoms_spec (ws := .code y cc nL ret :: tw) B.pre
  have hnm := name_of_methodNamed B.named B.method
  have hown : s.vm.findClass own = some m.cls := by rw [← ho]; exact findClass_of_methodNamed B.named
  have hb := body (p, e, { frames := fr, cells := mc, slots := ms, locals := lo }, s, m, av.toArray, below, meth, c, MQ below (JC Γ ad (N + mc) post) av.toArray s mc ms (jA Γ))
    ⟨B.exec, B.bytes, hml, hown, fun w hw => hts w (List.mem_cons_of_mem _ hw), henv, rfl⟩ ⟨rfl, B.returns, B.notSynchronized⟩ (fun h => hnm.1.trans h)
  rw [lg_entry_eq]
  have hl := lv_entry av (n := nL) hn
  rw [← hL] at hl
  exact hb s.heap [] _ hl hw va_S.rf
/-- .. of a method that makes cells: they get the next addresses -/
def JMA (l : Launch) (Γ : JG) (y : MethodName) (cc : ByteArray) (nL : Nat) (ret : Option FieldType) (fr lo mc ms : Nat) (ad : Nat → Nat) (N : Nat) (E : Nat → va_E) (av : List Value) (post : Option Value → (Nat → va_E) → Prop) : Prop :=
  Met l y (.code y cc nL ret :: tw) { frames := fr, cells := mc, slots := ms, locals := lo } (va_Pc av (fun U => jenv Γ U ∧ jw Γ ad N E U.heap ∧ ∀ j, N ≤ j → ad j = U.heap.size + (j - N))) (JC Γ ad (N + mc) post) mc ms (jA Γ)
theorem JMA_intro {l : Launch} {Γ : JG} {y : MethodName} {cc : ByteArray} {nL : Nat} {ret : Option FieldType} {fr lo mc ms : Nat} {ad : Nat → Nat} {N : Nat} {E : Nat → va_E} {av : List Value} {post : Option Value → (Nat → va_E) → Prop} {own : String}
    (L0 : List (Option Value)) (hy : plainName y.cls = true) (ho : y.cls = own) (hL : lqa 0 L0 = lv_args 0 av) (hn : (lg_sl av).length ≤ nL)
    (body : ∀ Ω : JO, JX Γ Ω own cc nL fr mc ms lo → JR Γ Ω ret mc ms ad (N + mc) post → (y.name = "<init>" → Ω.2.2.2.2.2.2.2.1.name = "<init>") → (∀ j, N ≤ j → ad j = Ω.2.2.2.1.heap.size + (j - N)) → J l Γ Ω nL ad N 0 0 E 0 L0 []) : JMA l Γ y cc nL ret fr lo mc ms ad N E av post := by
  refine Met.ofW (cc := cc) (maxL := nL) (ret := ret) hy rfl ?_
  intro p e s m args below meth c s₁ B hml hv
  obtain ⟨rfl, henv, hw, had⟩ := hv
  have hts := atoms_spec (ws := .code y cc nL ret :: tw) B.pre
  have hnm := name_of_methodNamed B.named B.method
  have hown : s.vm.findClass own = some m.cls := by rw [← ho]; exact findClass_of_methodNamed B.named
  have hb := body (p, e, { frames := fr, cells := mc, slots := ms, locals := lo }, s, m, av.toArray, below, meth, c, MQ below (JC Γ ad (N + mc) post) av.toArray s mc ms (jA Γ))
    ⟨B.exec, B.bytes, hml, hown, fun w hw => hts w (List.mem_cons_of_mem _ hw), henv, rfl⟩ ⟨rfl, B.returns, B.notSynchronized⟩ (fun h => hnm.1.trans h) had
  rw [lg_entry_eq]
  have hl := lv_entry av (n := nL) hn
  rw [← hL] at hl
  exact hb s.heap [] _ hl hw va_S.rf
section JRules
variable {l : Launch} {Γ : JG} {Ω : JO} {nL : Nat} {ad : Nat → Nat} {N k n : Nat} {E : Nat → va_E} {pc q : Nat} {L : List (Option Value)} {st : List Value} {own : String} {cc : ByteArray} {fr rc rs lo : Nat}
theorem J_iconst (X : JX Γ Ω own cc nL fr rc rs lo) {z : Int} (hd : decode cc pc = .ok (.iconst z, 1)) (hq : pc + 1 = q) (kk : J l Γ Ω nL ad N k n E q L (.int (jI z) :: st)) : J l Γ Ω nL ad N k n E pc L st := by
  subst hq
  exact fun H locs ls hl hw hS => lv_iconst X.1 X.2.1 hd rfl (kk H locs ls hl hw hS)
theorem J_bipush (X : JX Γ Ω own cc nL fr rc rs lo) {z : Int} (hd : decode cc pc = .ok (.bipush z, 2)) (hq : pc + 2 = q) (hz : (Int8.ofInt z).toInt32 = jI z) (kk : J l Γ Ω nL ad N k n E q L (.int (jI z) :: st)) : J l Γ Ω nL ad N k n E pc L st := by
  subst hq
  exact fun H locs ls hl hw hS => lv_bipush X.1 X.2.1 hd hz (kk H locs ls hl hw hS)
theorem J_sipush (X : JX Γ Ω own cc nL fr rc rs lo) {z : Int} (hd : decode cc pc = .ok (.sipush z, 3)) (hq : pc + 3 = q) (hz : (Int16.ofInt z).toInt32 = jI z) (kk : J l Γ Ω nL ad N k n E q L (.int (jI z) :: st)) : J l Γ Ω nL ad N k n E pc L st := by
  subst hq
  exact fun H locs ls hl hw hS => lv_sipush X.1 X.2.1 hd hz (kk H locs ls hl hw hS)
theorem J_lconst (X : JX Γ Ω own cc nL fr rc rs lo) {z : Fin 2} {v : Int} (hd : decode cc pc = .ok (.lconst z, 1)) (hv : Int64.ofNat (z : Nat) = jL v) (hq : pc + 1 = q) (kk : J l Γ Ω nL ad N k n E q L (.long (jL v) :: st)) : J l Γ Ω nL ad N k n E pc L st := by
  subst hq
  exact fun H locs ls hl hw hS => lv_lconst X.1 X.2.1 hd hv (kk H locs ls hl hw hS)
theorem J_iload_n (X : JX Γ Ω own cc nL fr rc rs lo) {j : Fin 4} {x : Int32} (hd : decode cc pc = .ok (.iload_n j, 1)) (hl0 : L[(j : Nat)]? = some (some (.int x))) (hq : pc + 1 = q) (kk : J l Γ Ω nL ad N k n E q L (.int x :: st)) : J l Γ Ω nL ad N k n E pc L st := by
  subst hq
  exact fun H locs ls hl hw hS => lv_iload_n X.1 X.2.1 hd rfl (lq_at hl hl0) (kk H locs ls hl hw hS)
theorem J_iload (X : JX Γ Ω own cc nL fr rc rs lo) {j : Nat} {x : Int32} (hd : decode cc pc = .ok (.iload j, 2)) (hl0 : L[j]? = some (some (.int x))) (hq : pc + 2 = q) (kk : J l Γ Ω nL ad N k n E q L (.int x :: st)) : J l Γ Ω nL ad N k n E pc L st := by
  subst hq
  exact fun H locs ls hl hw hS => lv_iload X.1 X.2.1 hd (lq_at hl hl0) (kk H locs ls hl hw hS)
theorem J_lload_n (X : JX Γ Ω own cc nL fr rc rs lo) {j : Fin 4} {x : Int64} (hd : decode cc pc = .ok (.lload_n j, 1)) (hl0 : L[(j : Nat)]? = some (some (.long x))) (hq : pc + 1 = q) (kk : J l Γ Ω nL ad N k n E q L (.long x :: st)) : J l Γ Ω nL ad N k n E pc L st := by
  subst hq
  exact fun H locs ls hl hw hS => lv_lload_n X.1 X.2.1 hd rfl (lq_at hl hl0) (kk H locs ls hl hw hS)
theorem J_lload (X : JX Γ Ω own cc nL fr rc rs lo) {j : Nat} {x : Int64} (hd : decode cc pc = .ok (.lload j, 2)) (hl0 : L[j]? = some (some (.long x))) (hq : pc + 2 = q) (kk : J l Γ Ω nL ad N k n E q L (.long x :: st)) : J l Γ Ω nL ad N k n E pc L st := by
  subst hq
  exact fun H locs ls hl hw hS => lv_lload X.1 X.2.1 hd (lq_at hl hl0) (kk H locs ls hl hw hS)
theorem J_aload_n (X : JX Γ Ω own cc nL fr rc rs lo) {j : Fin 4} {x : Nat} (hd : decode cc pc = .ok (.aload_n j, 1)) (hl0 : L[(j : Nat)]? = some (some (.ref x))) (hq : pc + 1 = q) (kk : J l Γ Ω nL ad N k n E q L (.ref x :: st)) : J l Γ Ω nL ad N k n E pc L st := by
  subst hq
  exact fun H locs ls hl hw hS => lv_aload_n X.1 X.2.1 hd rfl (lq_at hl hl0) (kk H locs ls hl hw hS)
theorem J_aload (X : JX Γ Ω own cc nL fr rc rs lo) {j : Nat} {x : Nat} (hd : decode cc pc = .ok (.aload j, 2)) (hl0 : L[j]? = some (some (.ref x))) (hq : pc + 2 = q) (kk : J l Γ Ω nL ad N k n E q L (.ref x :: st)) : J l Γ Ω nL ad N k n E pc L st := by
  subst hq
  exact fun H locs ls hl hw hS => lv_aload X.1 X.2.1 hd (lq_at hl hl0) (kk H locs ls hl hw hS)
theorem J_istore_n (X : JX Γ Ω own cc nL fr rc rs lo) {j : Fin 4} {x : Int32} (hd : decode cc pc = .ok (.istore_n j, 1)) (hj : (j : Nat) < nL) (hc : lqc L (j : Nat) = true) (hq : pc + 1 = q) (kk : J l Γ Ω nL ad N k n E q (L.set (j : Nat) (some (.int x))) st) : J l Γ Ω nL ad N k n E pc L (.int x :: st) := by
  subst hq
  exact fun H locs ls hl hw hS => lv_istore_n X.1 X.2.1 hd rfl hl hj rfl (fun ls' hl' => kk H locs ls' (lq_set1 hc hl') hw hS)
theorem J_istore (X : JX Γ Ω own cc nL fr rc rs lo) {j : Nat} {x : Int32} (hd : decode cc pc = .ok (.istore j, 2)) (hj : j < nL) (hc : lqc L j = true) (hq : pc + 2 = q) (kk : J l Γ Ω nL ad N k n E q (L.set j (some (.int x))) st) : J l Γ Ω nL ad N k n E pc L (.int x :: st) := by
  subst hq
  exact fun H locs ls hl hw hS => lv_istore X.1 X.2.1 hd hl hj rfl (fun ls' hl' => kk H locs ls' (lq_set1 hc hl') hw hS)
theorem J_lstore (X : JX Γ Ω own cc nL fr rc rs lo) {j : Nat} {x : Int64} (hd : decode cc pc = .ok (.lstore j, 2)) (hj : j + 1 < nL) (hc : lqc L j = true) (hq : pc + 2 = q) (kk : J l Γ Ω nL ad N k n E q ((L.set j (some (.long x))).set (j + 1) none) st) : J l Γ Ω nL ad N k n E pc L (.long x :: st) := by
  subst hq
  exact fun H locs ls hl hw hS => lv_lstore X.1 X.2.1 hd hl hj rfl (fun ls' hl' => kk H locs ls' (lq_set2 hc hl') hw hS)
theorem J_astore_n (X : JX Γ Ω own cc nL fr rc rs lo) {j : Fin 4} {x : Nat} (hd : decode cc pc = .ok (.astore_n j, 1)) (hj : (j : Nat) < nL) (hc : lqc L (j : Nat) = true) (hq : pc + 1 = q) (kk : J l Γ Ω nL ad N k n E q (L.set (j : Nat) (some (.ref x))) st) : J l Γ Ω nL ad N k n E pc L (.ref x :: st) := by
  subst hq
  exact fun H locs ls hl hw hS => lv_astore_n X.1 X.2.1 hd rfl hl hj rfl (fun ls' hl' => kk H locs ls' (lq_set1 hc hl') hw hS)
theorem J_astore (X : JX Γ Ω own cc nL fr rc rs lo) {j : Nat} {x : Nat} (hd : decode cc pc = .ok (.astore j, 2)) (hj : j < nL) (hc : lqc L j = true) (hq : pc + 2 = q) (kk : J l Γ Ω nL ad N k n E q (L.set j (some (.ref x))) st) : J l Γ Ω nL ad N k n E pc L (.ref x :: st) := by
  subst hq
  exact fun H locs ls hl hw hS => lv_astore X.1 X.2.1 hd hl hj rfl (fun ls' hl' => kk H locs ls' (lq_set1 hc hl') hw hS)
theorem J_iinc (X : JX Γ Ω own cc nL fr rc rs lo) {j : Nat} {z x : Int} (hd : decode cc pc = .ok (.iinc j z, 3)) (hl0 : L[j]? = some (some (.int (jI x)))) (hj : j < nL) (hc : lqc L j = true) (hq : pc + 3 = q) (kk : J l Γ Ω nL ad N k n E q (L.set j (some (.int (jI (x + z))))) st) : J l Γ Ω nL ad N k n E pc L st := by
  subst hq
  intro H locs ls hl hw hS
  obtain ⟨i0, hi0⟩ := List.getElem?_of_mem ((lqa_mem L 0 j (.int (jI x))).mpr ⟨Nat.zero_le _, hl0⟩)
  exact lv_iinc X.1 X.2.1 hd hl hi0 (show jI x + Int32.ofInt z = jI (x + z) from jI_add x z) hj rfl (fun ls' hl' => kk H locs ls' (lq_set1 hc hl') hw hS)
theorem J_iadd (X : JX Γ Ω own cc nL fr rc rs lo) {a b : Int} (hd : decode cc pc = .ok (.iadd, 1)) (hq : pc + 1 = q) (kk : J l Γ Ω nL ad N k n E q L (.int (jI (a + b)) :: st)) : J l Γ Ω nL ad N k n E pc L (.int (jI b) :: .int (jI a) :: st) := by
  subst hq
  exact fun H locs ls hl hw hS => lv_iadd X.1 X.2.1 hd (by rw [jI_add]; exact kk H locs ls hl hw hS)
theorem J_isub (X : JX Γ Ω own cc nL fr rc rs lo) {a b : Int} (hd : decode cc pc = .ok (.isub, 1)) (hq : pc + 1 = q) (kk : J l Γ Ω nL ad N k n E q L (.int (jI (a - b)) :: st)) : J l Γ Ω nL ad N k n E pc L (.int (jI b) :: .int (jI a) :: st) := by
  subst hq
  exact fun H locs ls hl hw hS => lv_isub X.1 X.2.1 hd (by rw [jI_sub]; exact kk H locs ls hl hw hS)
theorem J_imul (X : JX Γ Ω own cc nL fr rc rs lo) {a b : Int} (hd : decode cc pc = .ok (.imul, 1)) (hq : pc + 1 = q) (kk : J l Γ Ω nL ad N k n E q L (.int (jI (a * b)) :: st)) : J l Γ Ω nL ad N k n E pc L (.int (jI b) :: .int (jI a) :: st) := by
  subst hq
  exact fun H locs ls hl hw hS => lv_imul X.1 X.2.1 hd (by rw [jI_mul]; exact kk H locs ls hl hw hS)
theorem J_idiv (X : JX Γ Ω own cc nL fr rc rs lo) {a b : Int} (hd : decode cc pc = .ok (.idiv, 1)) (hq : pc + 1 = q) (ha : 0 ≤ a ∧ a < 2147483648) (hb : 0 < b ∧ b < 2147483648) (kk : J l Γ Ω nL ad N k n E q L (.int (jI (a / b)) :: st)) : J l Γ Ω nL ad N k n E pc L (.int (jI b) :: .int (jI a) :: st) := by
  subst hq
  refine fun H locs ls hl hw hS => lv_idiv X.1 X.2.1 hd ?_ (by rw [jI_div ha hb]; exact kk H locs ls hl hw hS)
  rw [← jI_0, jI_eq (by omega) (by omega)]; omega
theorem J_irem (X : JX Γ Ω own cc nL fr rc rs lo) {a b : Int} (hd : decode cc pc = .ok (.irem, 1)) (hq : pc + 1 = q) (ha : 0 ≤ a ∧ a < 2147483648) (hb : 0 < b ∧ b < 2147483648) (kk : J l Γ Ω nL ad N k n E q L (.int (jI (a % b)) :: st)) : J l Γ Ω nL ad N k n E pc L (.int (jI b) :: .int (jI a) :: st) := by
  subst hq
  refine fun H locs ls hl hw hS => lv_irem X.1 X.2.1 hd ?_ (by rw [jI_rem ha hb]; exact kk H locs ls hl hw hS)
  rw [← jI_0, jI_eq (by omega) (by omega)]; omega
/-- masks, shifts: whatever the two give -/
theorem J_iand (X : JX Γ Ω own cc nL fr rc rs lo) {a b v : Int} (hd : decode cc pc = .ok (.iand, 1)) (hq : pc + 1 = q) (hv : jI a &&& jI b = jI v) (kk : J l Γ Ω nL ad N k n E q L (.int (jI v) :: st)) : J l Γ Ω nL ad N k n E pc L (.int (jI b) :: .int (jI a) :: st) := by
  subst hq
  exact fun H locs ls hl hw hS => lv_iand X.1 X.2.1 hd (by rw [hv]; exact kk H locs ls hl hw hS)
theorem J_ior (X : JX Γ Ω own cc nL fr rc rs lo) {a b v : Int} (hd : decode cc pc = .ok (.ior, 1)) (hq : pc + 1 = q) (hv : jI a ||| jI b = jI v) (kk : J l Γ Ω nL ad N k n E q L (.int (jI v) :: st)) : J l Γ Ω nL ad N k n E pc L (.int (jI b) :: .int (jI a) :: st) := by
  subst hq
  exact fun H locs ls hl hw hS => lv_ior X.1 X.2.1 hd (by rw [hv]; exact kk H locs ls hl hw hS)
theorem J_ishl (X : JX Γ Ω own cc nL fr rc rs lo) {x y v : Int32} (hd : decode cc pc = .ok (.ishl, 1)) (hq : pc + 1 = q) (hv : x <<< (y &&& 31) = v) (kk : J l Γ Ω nL ad N k n E q L (.int v :: st)) : J l Γ Ω nL ad N k n E pc L (.int y :: .int x :: st) := by
  subst hq
  exact fun H locs ls hl hw hS => lv_ishl X.1 X.2.1 hd (by rw [hv]; exact kk H locs ls hl hw hS)
theorem J_ishr (X : JX Γ Ω own cc nL fr rc rs lo) {x y v : Int32} (hd : decode cc pc = .ok (.ishr, 1)) (hq : pc + 1 = q) (hv : x >>> (y &&& 31) = v) (kk : J l Γ Ω nL ad N k n E q L (.int v :: st)) : J l Γ Ω nL ad N k n E pc L (.int y :: .int x :: st) := by
  subst hq
  exact fun H locs ls hl hw hS => lv_ishr X.1 X.2.1 hd (by rw [hv]; exact kk H locs ls hl hw hS)
theorem J_i2l (X : JX Γ Ω own cc nL fr rc rs lo) {a : Int} (hd : decode cc pc = .ok (.i2l, 1)) (hq : pc + 1 = q) (ha : -2147483648 ≤ a ∧ a < 2147483648) (kk : J l Γ Ω nL ad N k n E q L (.long (jL a) :: st)) : J l Γ Ω nL ad N k n E pc L (.int (jI a) :: st) := by
  subst hq
  exact fun H locs ls hl hw hS => lv_i2l X.1 X.2.1 hd (jI_i2l ha) (kk H locs ls hl hw hS)
theorem J_l2i (X : JX Γ Ω own cc nL fr rc rs lo) {a : Int} (hd : decode cc pc = .ok (.l2i, 1)) (hq : pc + 1 = q) (kk : J l Γ Ω nL ad N k n E q L (.int (jI a) :: st)) : J l Γ Ω nL ad N k n E pc L (.long (jL a) :: st) := by
  subst hq
  exact fun H locs ls hl hw hS => lv_l2i X.1 X.2.1 hd (jL_l2i a) (kk H locs ls hl hw hS)
theorem J_ladd (X : JX Γ Ω own cc nL fr rc rs lo) {a b : Int} (hd : decode cc pc = .ok (.ladd, 1)) (hq : pc + 1 = q) (kk : J l Γ Ω nL ad N k n E q L (.long (jL (a + b)) :: st)) : J l Γ Ω nL ad N k n E pc L (.long (jL b) :: .long (jL a) :: st) := by
  subst hq
  exact fun H locs ls hl hw hS => lv_ladd X.1 X.2.1 hd (by rw [jL_add]; exact kk H locs ls hl hw hS)
theorem J_i2b (X : JX Γ Ω own cc nL fr rc rs lo) {x v : Int32} (hd : decode cc pc = .ok (.i2b, 1)) (hq : pc + 1 = q) (hv : x.toInt8.toInt32 = v) (kk : J l Γ Ω nL ad N k n E q L (.int v :: st)) : J l Γ Ω nL ad N k n E pc L (.int x :: st) := by
  subst hq
  exact fun H locs ls hl hw hS => lv_i2b X.1 X.2.1 hd hv (kk H locs ls hl hw hS)
theorem J_i2s (X : JX Γ Ω own cc nL fr rc rs lo) {x v : Int32} (hd : decode cc pc = .ok (.i2s, 1)) (hq : pc + 1 = q) (hv : x.toInt16.toInt32 = v) (kk : J l Γ Ω nL ad N k n E q L (.int v :: st)) : J l Γ Ω nL ad N k n E pc L (.int x :: st) := by
  subst hq
  exact fun H locs ls hl hw hS => lv_i2s X.1 X.2.1 hd hv (kk H locs ls hl hw hS)
theorem J_i2c (X : JX Γ Ω own cc nL fr rc rs lo) {x v : Int32} (hd : decode cc pc = .ok (.i2c, 1)) (hq : pc + 1 = q) (hv : (x.toUInt32 % 65536).toInt32 = v) (kk : J l Γ Ω nL ad N k n E q L (.int v :: st)) : J l Γ Ω nL ad N k n E pc L (.int x :: st) := by
  subst hq
  exact fun H locs ls hl hw hS => lv_i2c X.1 X.2.1 hd hv (kk H locs ls hl hw hS)
theorem J_dup (X : JX Γ Ω own cc nL fr rc rs lo) {v : Value} (hd : decode cc pc = .ok (.dup, 1)) (hv : v.category = 1) (hq : pc + 1 = q) (kk : J l Γ Ω nL ad N k n E q L (v :: v :: st)) : J l Γ Ω nL ad N k n E pc L (v :: st) := by
  subst hq
  exact fun H locs ls hl hw hS => lv_dup X.1 X.2.1 hd hv (kk H locs ls hl hw hS)
theorem J_dup2 (X : JX Γ Ω own cc nL fr rc rs lo) {v w : Value} (hd : decode cc pc = .ok (.dup2, 1)) (hv : v.category = 1) (hw0 : w.category = 1) (hq : pc + 1 = q) (kk : J l Γ Ω nL ad N k n E q L (v :: w :: v :: w :: st)) : J l Γ Ω nL ad N k n E pc L (v :: w :: st) := by
  subst hq
  exact fun H locs ls hl hw hS => lv_dup2_11 X.1 X.2.1 hd hv hw0 (kk H locs ls hl hw hS)
theorem J_pop (X : JX Γ Ω own cc nL fr rc rs lo) {v : Value} (hd : decode cc pc = .ok (.pop, 1)) (hv : v.category = 1) (hq : pc + 1 = q) (kk : J l Γ Ω nL ad N k n E q L st) : J l Γ Ω nL ad N k n E pc L (v :: st) := by
  subst hq
  exact fun H locs ls hl hw hS => lv_pop X.1 X.2.1 hd hv (kk H locs ls hl hw hS)
theorem J_goto (X : JX Γ Ω own cc nL fr rc rs lo) {off : Int} (hd : decode cc pc = .ok (.goto off, 3)) (hq : (pc : Int) + off = (q : Int)) (kk : J l Γ Ω nL ad N k n E q L st) : J l Γ Ω nL ad N k n E pc L st :=
  fun H locs ls hl hw hS => lv_goto X.1 X.2.1 hd hq (kk H locs ls hl hw hS)
theorem J_ldc (X : JX Γ Ω own cc nL fr rc rs lo) {idx : Nat} {v : Int32} (hd : decode cc pc = .ok (.ldc idx, 2)) (hw0 : Cond.constant own idx v ∈ tw) (hq : pc + 2 = q) (kk : J l Γ Ω nL ad N k n E q L (.int v :: st)) : J l Γ Ω nL ad N k n E pc L st := by
  subst hq
  exact fun H locs ls hl hw hS => lv_ldc X.1 X.2.1 X.2.2.2.1 (X.2.2.2.2.1 _ hw0) hd (kk H locs ls hl hw hS)
theorem J_ldcw (X : JX Γ Ω own cc nL fr rc rs lo) {idx : Nat} {v : Int32} (hd : decode cc pc = .ok (.ldc_w idx, 3)) (hw0 : Cond.constant own idx v ∈ tw) (hq : pc + 3 = q) (kk : J l Γ Ω nL ad N k n E q L (.int v :: st)) : J l Γ Ω nL ad N k n E pc L st := by
  subst hq
  exact fun H locs ls hl hw hS => lv_ldcw X.1 X.2.1 X.2.2.2.1 (X.2.2.2.2.1 _ hw0) hd (kk H locs ls hl hw hS)
theorem J_ldc2 (X : JX Γ Ω own cc nL fr rc rs lo) {idx : Nat} {v : Int64} (hd : decode cc pc = .ok (.ldc2_w idx, 3)) (hw0 : Cond.constantLong own idx v ∈ tw) (hq : pc + 3 = q) (kk : J l Γ Ω nL ad N k n E q L (.long v :: st)) : J l Γ Ω nL ad N k n E pc L st := by
  subst hq
  exact fun H locs ls hl hw hS => lv_ldc2 X.1 X.2.1 X.2.2.2.1 (X.2.2.2.2.1 _ hw0) hd (kk H locs ls hl hw hS)
/-- weaker locals, weaker counts -/
theorem J_widen {k' n' : Nat} (h1 : k ≤ k') (h2 : n ≤ n') (kk : J l Γ Ω nL ad N k' n' E pc L st) : J l Γ Ω nL ad N k n E pc L st :=
  fun H locs ls hl hw hS => W.widen h1 h2 (kk H locs ls hl hw hS)
theorem J_loc {L' : List (Option Value)} (h : ∀ (i : Nat) (v : Value), L'[i]? = some (some v) → L[i]? = some (some v)) (kk : J l Γ Ω nL ad N k n E pc L' st) : J l Γ Ω nL ad N k n E pc L st := by
  intro H locs ls hl hw hS
  refine kk H locs ls ⟨hl.1, hl.2.1, fun x hx => ?_⟩ hw hS
  obtain ⟨i, v⟩ := x
  obtain ⟨-, h2⟩ := (lqa_mem _ 0 i v).mp hx
  exact lq_at hl (h i v h2)
end JRules
end
section
/-! branches, ends, heap -/
def bI (p : Prop) [Decidable p] : Int := if p then 1 else 0
theorem bI_t {p : Prop} [Decidable p] (h : p) : bI p = 1 := if_pos h
theorem bI_f {p : Prop} [Decidable p] (h : ¬ p) : bI p = 0 := if_neg h
theorem bI_bd (p : Prop) [Decidable p] : bI p = 0 ∨ bI p = 1 := by unfold bI; split <;> simp
theorem bI_iff {p r : Prop} [Decidable p] [Decidable r] (h : p ↔ r) : bI p = bI r := by unfold bI; simp [h]
/-- a class of the table -/
def jcl (ci : Nat) (C : String) (T : u_T) (M : Nat) : Prop := vwCl[ci]? = some (C, T, M) ∧ (∀ w ∈ u_ws C T M, w ∈ tw) ∧ (∃ ty0 : Nat → FieldType, ∀ k, k < M → parseFieldDescriptor (T k).2.2.1 = some (ty0 k)) ∧ ∀ a, a < M → ∀ b, b < M → a ≠ b → (T a).2.1 ≠ (T b).2.1
/-- a field that a pool entry names -/
def jfl (own : String) (idx ci : Nat) (C : String) (T : u_T) (M k : Nat) : Prop := (Cond.fieldLink own idx (T k).1 (T k).2.1 (T k).2.2.1 ∈ tw ∨ ∃ host, Cond.fieldLinkNest own idx (T k).1 (T k).2.1 (T k).2.2.1 host ∈ jnest) ∧ jcl ci C T M ∧ k < M
/-- an array of ints, of booleans, of references -/
abbrev aI (Γ : JG) (n : Nat) (f : Int → Int) : va_E := .inl (Γ.2.2.1 0, n, .inl (fun j : Nat => jI (f (j : Int))))
abbrev aZ (Γ : JG) (n : Nat) (f : Int → Int) : va_E := .inl (Γ.2.2.1 1, n, .inl (fun j : Nat => jI (f (j : Int))))
abbrev aR (Γ : JG) (c : Nat) (n : Nat) (f : Nat → Option Nat) : va_E := .inl (Γ.2.2.1 c, n, .inr (.inr (.inr (.inr f))))
abbrev iu (f : Int → Int) (i v : Int) : Int → Int := fun j => if j = i then v else f j
theorem iu_upd {f : Int → Int} {i v : Int} (hi : 0 ≤ i) : upd (fun j : Nat => jI (f (j : Int))) i.toNat (jI v) = fun j : Nat => jI (iu f i v (j : Int)) := by
  funext j
  by_cases h : j = i.toNat
  · subst h
    have : ((i.toNat : Nat) : Int) = i := by omega
    simp [upd, iu, this]
  · have h2 : ¬ ((j : Nat) : Int) = i := by omega
    simp [upd, iu, h, h2]
section JBranch
variable {l : Launch} {Γ : JG} {Ω : JO} {nL : Nat} {ad : Nat → Nat} {N k n : Nat} {E : Nat → va_E} {pc q : Nat} {L : List (Option Value)} {st : List Value} {own : String} {cc : ByteArray} {fr rc rs lo : Nat}
theorem J_if_eq (X : JX Γ Ω own cc nL fr rc rs lo) {a off : Int} {tgt : Nat} (hd : decode cc pc = .ok (.ifCond .eq off, 3)) (ht : (pc : Int) + off = (tgt : Int)) (hq : pc + 3 = q) (ha : -2147483648 ≤ a ∧ a < 2147483648) (kt : a = 0 → J l Γ Ω nL ad N k n E tgt L st) (kf : ¬ a = 0 → J l Γ Ω nL ad N k n E q L st) : J l Γ Ω nL ad N k n E pc L (.int (jI a) :: st) := by
  subst hq
  exact fun H locs ls hl hw hS => lv_if_eq X.1 X.2.1 hd ht (fun h => kt ((jI_eq (a := a) (b := 0) ha (by omega)).mp h) H locs ls hl hw hS) (fun h => kf (fun e => h ((jI_eq (a := a) (b := 0) ha (by omega)).mpr e)) H locs ls hl hw hS)
theorem J_if_ne (X : JX Γ Ω own cc nL fr rc rs lo) {a off : Int} {tgt : Nat} (hd : decode cc pc = .ok (.ifCond .ne off, 3)) (ht : (pc : Int) + off = (tgt : Int)) (hq : pc + 3 = q) (ha : -2147483648 ≤ a ∧ a < 2147483648) (kt : ¬ a = 0 → J l Γ Ω nL ad N k n E tgt L st) (kf : a = 0 → J l Γ Ω nL ad N k n E q L st) : J l Γ Ω nL ad N k n E pc L (.int (jI a) :: st) := by
  subst hq
  exact fun H locs ls hl hw hS => lv_if_ne X.1 X.2.1 hd ht (fun h => kt (fun e => h ((jI_eq (a := a) (b := 0) ha (by omega)).mpr e)) H locs ls hl hw hS) (fun h => kf ((jI_eq (a := a) (b := 0) ha (by omega)).mp h) H locs ls hl hw hS)
theorem J_if_lt (X : JX Γ Ω own cc nL fr rc rs lo) {a off : Int} {tgt : Nat} (hd : decode cc pc = .ok (.ifCond .lt off, 3)) (ht : (pc : Int) + off = (tgt : Int)) (hq : pc + 3 = q) (ha : -2147483648 ≤ a ∧ a < 2147483648) (kt : a < 0 → J l Γ Ω nL ad N k n E tgt L st) (kf : ¬ a < 0 → J l Γ Ω nL ad N k n E q L st) : J l Γ Ω nL ad N k n E pc L (.int (jI a) :: st) := by
  subst hq
  exact fun H locs ls hl hw hS => lv_if_lt X.1 X.2.1 hd ht (fun h => kt ((jI_lt (a := a) (b := 0) ha (by omega)).mp h) H locs ls hl hw hS) (fun h => kf (fun e => h ((jI_lt (a := a) (b := 0) ha (by omega)).mpr e)) H locs ls hl hw hS)
theorem J_if_ge (X : JX Γ Ω own cc nL fr rc rs lo) {a off : Int} {tgt : Nat} (hd : decode cc pc = .ok (.ifCond .ge off, 3)) (ht : (pc : Int) + off = (tgt : Int)) (hq : pc + 3 = q) (ha : -2147483648 ≤ a ∧ a < 2147483648) (kt : 0 ≤ a → J l Γ Ω nL ad N k n E tgt L st) (kf : ¬ 0 ≤ a → J l Γ Ω nL ad N k n E q L st) : J l Γ Ω nL ad N k n E pc L (.int (jI a) :: st) := by
  subst hq
  exact fun H locs ls hl hw hS => lv_if_ge X.1 X.2.1 hd ht (fun h => kt ((jI_le (a := 0) (b := a) (by omega) ha).mp h) H locs ls hl hw hS) (fun h => kf (fun e => h ((jI_le (a := 0) (b := a) (by omega) ha).mpr e)) H locs ls hl hw hS)
theorem J_if_gt (X : JX Γ Ω own cc nL fr rc rs lo) {a off : Int} {tgt : Nat} (hd : decode cc pc = .ok (.ifCond .gt off, 3)) (ht : (pc : Int) + off = (tgt : Int)) (hq : pc + 3 = q) (ha : -2147483648 ≤ a ∧ a < 2147483648) (kt : 0 < a → J l Γ Ω nL ad N k n E tgt L st) (kf : ¬ 0 < a → J l Γ Ω nL ad N k n E q L st) : J l Γ Ω nL ad N k n E pc L (.int (jI a) :: st) := by
  subst hq
  exact fun H locs ls hl hw hS => lv_if_gt X.1 X.2.1 hd ht (fun h => kt ((jI_lt (a := 0) (b := a) (by omega) ha).mp h) H locs ls hl hw hS) (fun h => kf (fun e => h ((jI_lt (a := 0) (b := a) (by omega) ha).mpr e)) H locs ls hl hw hS)
theorem J_if_le (X : JX Γ Ω own cc nL fr rc rs lo) {a off : Int} {tgt : Nat} (hd : decode cc pc = .ok (.ifCond .le off, 3)) (ht : (pc : Int) + off = (tgt : Int)) (hq : pc + 3 = q) (ha : -2147483648 ≤ a ∧ a < 2147483648) (kt : a ≤ 0 → J l Γ Ω nL ad N k n E tgt L st) (kf : ¬ a ≤ 0 → J l Γ Ω nL ad N k n E q L st) : J l Γ Ω nL ad N k n E pc L (.int (jI a) :: st) := by
  subst hq
  exact fun H locs ls hl hw hS => lv_if_le X.1 X.2.1 hd ht (fun h => kt ((jI_le (a := a) (b := 0) ha (by omega)).mp h) H locs ls hl hw hS) (fun h => kf (fun e => h ((jI_le (a := a) (b := 0) ha (by omega)).mpr e)) H locs ls hl hw hS)
theorem J_icmp_eq (X : JX Γ Ω own cc nL fr rc rs lo) {a b off : Int} {tgt : Nat} (hd : decode cc pc = .ok (.if_icmp .eq off, 3)) (ht : (pc : Int) + off = (tgt : Int)) (hq : pc + 3 = q) (ha : -2147483648 ≤ a ∧ a < 2147483648) (hb : -2147483648 ≤ b ∧ b < 2147483648) (kt : a = b → J l Γ Ω nL ad N k n E tgt L st) (kf : ¬ a = b → J l Γ Ω nL ad N k n E q L st) : J l Γ Ω nL ad N k n E pc L (.int (jI b) :: .int (jI a) :: st) := by
  subst hq
  exact fun H locs ls hl hw hS => lv_icmp_eq X.1 X.2.1 hd ht (fun h => kt ((jI_eq ha hb).mp h) H locs ls hl hw hS) (fun h => kf (fun e => h ((jI_eq ha hb).mpr e)) H locs ls hl hw hS)
theorem J_icmp_ne (X : JX Γ Ω own cc nL fr rc rs lo) {a b off : Int} {tgt : Nat} (hd : decode cc pc = .ok (.if_icmp .ne off, 3)) (ht : (pc : Int) + off = (tgt : Int)) (hq : pc + 3 = q) (ha : -2147483648 ≤ a ∧ a < 2147483648) (hb : -2147483648 ≤ b ∧ b < 2147483648) (kt : ¬ a = b → J l Γ Ω nL ad N k n E tgt L st) (kf : a = b → J l Γ Ω nL ad N k n E q L st) : J l Γ Ω nL ad N k n E pc L (.int (jI b) :: .int (jI a) :: st) := by
  subst hq
  exact fun H locs ls hl hw hS => lv_icmp_ne X.1 X.2.1 hd ht (fun h => kt (fun e => h ((jI_eq ha hb).mpr e)) H locs ls hl hw hS) (fun h => kf ((jI_eq ha hb).mp h) H locs ls hl hw hS)
theorem J_icmp_lt (X : JX Γ Ω own cc nL fr rc rs lo) {a b off : Int} {tgt : Nat} (hd : decode cc pc = .ok (.if_icmp .lt off, 3)) (ht : (pc : Int) + off = (tgt : Int)) (hq : pc + 3 = q) (ha : -2147483648 ≤ a ∧ a < 2147483648) (hb : -2147483648 ≤ b ∧ b < 2147483648) (kt : a < b → J l Γ Ω nL ad N k n E tgt L st) (kf : ¬ a < b → J l Γ Ω nL ad N k n E q L st) : J l Γ Ω nL ad N k n E pc L (.int (jI b) :: .int (jI a) :: st) := by
  subst hq
  exact fun H locs ls hl hw hS => lv_icmp_lt X.1 X.2.1 hd ht (fun h => kt ((jI_lt ha hb).mp h) H locs ls hl hw hS) (fun h => kf (fun e => h ((jI_lt ha hb).mpr e)) H locs ls hl hw hS)
theorem J_icmp_ge (X : JX Γ Ω own cc nL fr rc rs lo) {a b off : Int} {tgt : Nat} (hd : decode cc pc = .ok (.if_icmp .ge off, 3)) (ht : (pc : Int) + off = (tgt : Int)) (hq : pc + 3 = q) (ha : -2147483648 ≤ a ∧ a < 2147483648) (hb : -2147483648 ≤ b ∧ b < 2147483648) (kt : b ≤ a → J l Γ Ω nL ad N k n E tgt L st) (kf : ¬ b ≤ a → J l Γ Ω nL ad N k n E q L st) : J l Γ Ω nL ad N k n E pc L (.int (jI b) :: .int (jI a) :: st) := by
  subst hq
  exact fun H locs ls hl hw hS => lv_icmp_ge X.1 X.2.1 hd ht (fun h => kt ((jI_le hb ha).mp h) H locs ls hl hw hS) (fun h => kf (fun e => h ((jI_le hb ha).mpr e)) H locs ls hl hw hS)
theorem J_icmp_gt (X : JX Γ Ω own cc nL fr rc rs lo) {a b off : Int} {tgt : Nat} (hd : decode cc pc = .ok (.if_icmp .gt off, 3)) (ht : (pc : Int) + off = (tgt : Int)) (hq : pc + 3 = q) (ha : -2147483648 ≤ a ∧ a < 2147483648) (hb : -2147483648 ≤ b ∧ b < 2147483648) (kt : b < a → J l Γ Ω nL ad N k n E tgt L st) (kf : ¬ b < a → J l Γ Ω nL ad N k n E q L st) : J l Γ Ω nL ad N k n E pc L (.int (jI b) :: .int (jI a) :: st) := by
  subst hq
  exact fun H locs ls hl hw hS => lv_icmp_gt X.1 X.2.1 hd ht (fun h => kt ((jI_lt hb ha).mp h) H locs ls hl hw hS) (fun h => kf (fun e => h ((jI_lt hb ha).mpr e)) H locs ls hl hw hS)
theorem J_icmp_le (X : JX Γ Ω own cc nL fr rc rs lo) {a b off : Int} {tgt : Nat} (hd : decode cc pc = .ok (.if_icmp .le off, 3)) (ht : (pc : Int) + off = (tgt : Int)) (hq : pc + 3 = q) (ha : -2147483648 ≤ a ∧ a < 2147483648) (hb : -2147483648 ≤ b ∧ b < 2147483648) (kt : a ≤ b → J l Γ Ω nL ad N k n E tgt L st) (kf : ¬ a ≤ b → J l Γ Ω nL ad N k n E q L st) : J l Γ Ω nL ad N k n E pc L (.int (jI b) :: .int (jI a) :: st) := by
  subst hq
  exact fun H locs ls hl hw hS => lv_icmp_le X.1 X.2.1 hd ht (fun h => kt ((jI_le ha hb).mp h) H locs ls hl hw hS) (fun h => kf (fun e => h ((jI_le ha hb).mpr e)) H locs ls hl hw hS)
theorem J_if_eqB (X : JX Γ Ω own cc nL fr rc rs lo) {p : Prop} [Decidable p] {off : Int} {tgt : Nat} (hd : decode cc pc = .ok (.ifCond .eq off, 3)) (ht : (pc : Int) + off = (tgt : Int)) (hq : pc + 3 = q) (kt : ¬ p → J l Γ Ω nL ad N k n E tgt L st) (kf : p → J l Γ Ω nL ad N k n E q L st) : J l Γ Ω nL ad N k n E pc L (.int (jI (bI p)) :: st) := by
  have hb := bI_bd p
  refine J_if_eq X hd ht hq (by omega) (fun h => kt (fun e => ?_)) (fun h => kf ?_)
  · rw [bI_t e] at h; omega
  · by_cases e : p
    · exact e
    · exact absurd (bI_f e) h
theorem J_if_neB (X : JX Γ Ω own cc nL fr rc rs lo) {p : Prop} [Decidable p] {off : Int} {tgt : Nat} (hd : decode cc pc = .ok (.ifCond .ne off, 3)) (ht : (pc : Int) + off = (tgt : Int)) (hq : pc + 3 = q) (kt : p → J l Γ Ω nL ad N k n E tgt L st) (kf : ¬ p → J l Γ Ω nL ad N k n E q L st) : J l Γ Ω nL ad N k n E pc L (.int (jI (bI p)) :: st) := by
  have hb := bI_bd p
  refine J_if_ne X hd ht hq (by omega) (fun h => kt ?_) (fun h => kf (fun e => ?_))
  · by_cases e : p
    · exact e
    · exact absurd (bI_f e) h
  · rw [bI_t e] at h; omega
theorem J_tableIn (X : JX Γ Ω own cc nL fr rc rs lo) {a v dflt lo0 hi0 off : Int} {offs : Array Int} {len tgt : Nat} (hd : decode cc pc = .ok (.tableswitch dflt lo0 hi0 offs, len)) (hz : a = v) (h1 : lo0 ≤ v ∧ v ≤ hi0 ∧ -2147483648 ≤ v ∧ v < 2147483648) (ho : offs[(v - lo0).toNat]? = some off) (ht : (pc : Int) + off = (tgt : Int)) (kk : J l Γ Ω nL ad N k n E tgt L st) : J l Γ Ω nL ad N k n E pc L (.int (jI a) :: st) := by
  subst hz
  refine fun H locs ls hl hw hS => lv_tableIn X.1 X.2.1 hd ?_ ?_ (off := off) ?_ ht (kk H locs ls hl hw hS) <;> rw [jI_toInt h1.2.2]
  · omega
  · omega
  · exact ho
theorem J_tableOut (X : JX Γ Ω own cc nL fr rc rs lo) {a dflt lo0 hi0 : Int} {offs : Array Int} {len tgt : Nat} (hd : decode cc pc = .ok (.tableswitch dflt lo0 hi0 offs, len)) (ha : -2147483648 ≤ a ∧ a < 2147483648) (h1 : a < lo0 ∨ hi0 < a) (ht : (pc : Int) + dflt = (tgt : Int)) (kk : J l Γ Ω nL ad N k n E tgt L st) : J l Γ Ω nL ad N k n E pc L (.int (jI a) :: st) := by
  refine fun H locs ls hl hw hS => lv_tableOut X.1 X.2.1 hd ?_ ht (kk H locs ls hl hw hS)
  rw [jI_toInt ha]; exact h1
theorem J_lookup (X : JX Γ Ω own cc nL fr rc rs lo) {a dflt off : Int} {ps : Array (Int × Int)} {len tgt : Nat} (hd : decode cc pc = .ok (.lookupswitch dflt ps, len)) (hp : (ps.toList.zip (ps.toList.drop 1)).all (fun (a, next) => a.1 < next.1) = true) (ha : -2147483648 ≤ a ∧ a < 2147483648) (ho : Op.lookupswitch.offset ps.toList dflt a = off) (ht : (pc : Int) + off = (tgt : Int)) (kk : J l Γ Ω nL ad N k n E tgt L st) : J l Γ Ω nL ad N k n E pc L (.int (jI a) :: st) := by
  refine fun H locs ls hl hw hS => lv_lookup X.1 X.2.1 hd hp (off := off) ?_ ht (kk H locs ls hl hw hS)
  rw [jI_toInt ha]; exact ho
theorem J_lcmp (X : JX Γ Ω own cc nL fr rc rs lo) {a b : Int} (hd : decode cc pc = .ok (.lcmp, 1)) (hq : pc + 1 = q) (ha : -9223372036854775808 ≤ a ∧ a < 9223372036854775808) (hb : -9223372036854775808 ≤ b ∧ b < 9223372036854775808) (kk : ∀ w : Int, ((w = 1 ∧ b < a) ∨ (w = 0 ∧ a = b) ∨ (w = -1 ∧ a < b)) → J l Γ Ω nL ad N k n E q L (.int (jI w) :: st)) : J l Γ Ω nL ad N k n E pc L (.long (jL b) :: .long (jL a) :: st) := by
  subst hq
  intro H locs ls hl hw hS
  refine W.lcmp X.1 X.2.1 hd ?_
  have e : lg_cmp (jL a) (jL b) = jI (if b < a then 1 else if a = b then 0 else -1) := by
    unfold lg_cmp
    have h1 : (jL a > jL b) ↔ b < a := jL_lt hb ha
    by_cases c1 : b < a
    · rw [if_pos (h1.mpr c1), if_pos c1]; rfl
    · rw [if_neg (fun z => c1 (h1.mp z)), if_neg c1]
      by_cases c2 : a = b
      · subst c2
        rw [if_pos rfl, if_pos rfl]; rfl
      · rw [if_neg (fun z => c2 ?_), if_neg c2]; rfl
        have := congrArg Int64.toInt z
        rwa [jL_toInt ha, jL_toInt hb] at this
  rw [e]
  refine kk _ ?_ H locs ls hl hw hS
  by_cases c1 : b < a
  · rw [if_pos c1]; exact Or.inl ⟨rfl, c1⟩
  · rw [if_neg c1]
    by_cases c2 : a = b
    · rw [if_pos c2]; exact Or.inr (Or.inl ⟨rfl, c2⟩)
    · rw [if_neg c2]; exact Or.inr (Or.inr ⟨rfl, by omega⟩)
theorem J_iret (X : JX Γ Ω own cc nL fr rc rs lo) {mc ms : Nat} {post : Option Value → (Nat → va_E) → Prop} {x : Int32} (R : JR Γ Ω (some .int) mc ms ad N post) (hd : decode cc pc = .ok (.ireturn, 1)) (hp : post (some (.int x)) E) : J l Γ Ω nL ad N mc ms E pc L [.int x] := by
  intro H locs ls hl hw hS
  obtain ⟨h1, h2, h3⟩ := R
  rw [h1]
  exact W.iret X.1 X.2.1 h2 (fun t ht _ => ⟨⟨_, E, rfl, hp, by rw [ht]; exact hw⟩, hS.F ht⟩) hS.2.2 hd h3
theorem J_zret (X : JX Γ Ω own cc nL fr rc rs lo) {mc ms : Nat} {post : Option Value → (Nat → va_E) → Prop} {x : Int32} {ty : FieldType} (R : JR Γ Ω (some ty) mc ms ad N post) (hd : decode cc pc = .ok (.ireturn, 1)) (hn : narrow ty (.int x) = .int x) (hp : post (some (.int x)) E) : J l Γ Ω nL ad N mc ms E pc L [.int x] := by
  intro H locs ls hl hw hS
  obtain ⟨h1, h2, h3⟩ := R
  rw [h1]
  exact W.zret X.1 X.2.1 h2 hn (fun t ht _ => ⟨⟨_, E, rfl, hp, by rw [ht]; exact hw⟩, hS.F ht⟩) hS.2.2 hd h3
theorem J_vret (X : JX Γ Ω own cc nL fr rc rs lo) {mc ms : Nat} {post : Option Value → (Nat → va_E) → Prop} (R : JR Γ Ω none mc ms ad N post) (hd : decode cc pc = .ok (.return_, 1)) (hp : post none E) : J l Γ Ω nL ad N mc ms E pc L [] := by
  intro H locs ls hl hw hS
  obtain ⟨h1, h2, h3⟩ := R
  rw [h1]
  exact W.vret X.1 X.2.1 h2 (fun t ht _ => ⟨⟨_, E, rfl, hp, by rw [ht]; exact hw⟩, hS.F ht⟩) hS.2.2 hd h3
theorem J_aret (X : JX Γ Ω own cc nL fr rc rs lo) {mc ms a : Nat} {C : String} {post : Option Value → (Nat → va_E) → Prop} (R : JR Γ Ω (some (.object C)) mc ms ad N post) (hd : decode cc pc = .ok (.areturn, 1)) (hp : post (some (.ref a)) E) : J l Γ Ω nL ad N mc ms E pc L [.ref a] := by
  intro H locs ls hl hw hS
  obtain ⟨h1, h2, h3⟩ := R
  rw [h1]
  exact W.aret X.1 X.2.1 h2 (Or.inl ⟨_, rfl⟩) (Or.inr ⟨_, rfl⟩) (fun t ht _ => ⟨⟨_, E, rfl, hp, by rw [ht]; exact hw⟩, hS.F ht⟩) hS.2.2 hd h3
theorem nrw_z {b : Int} (h : b = 0 ∨ b = 1) : narrow .boolean (.int (jI b)) = .int (jI b) := by
  rcases h with rfl | rfl <;> rfl
end JBranch
section JHeap
variable {l : Launch} {Γ : JG} {Ω : JO} {nL : Nat} {ad : Nat → Nat} {N k n : Nat} {E : Nat → va_E} {pc q : Nat} {L : List (Option Value)} {st : List Value} {own : String} {cc : ByteArray} {fr rc rs lo : Nat}
theorem jup_self {E : Nat → va_E} {i : Nat} {e : va_E} : va_up E i e i = e := by simp [va_up]
theorem jup_ne {E : Nat → va_E} {i : Nat} {e : va_E} : ∀ j, j ≠ i → va_up E i e j = E j := fun j h => by simp [va_up, h]
theorem jat {i : Nat} (hi : i < N) {e : va_E} (he : E i = e) : (jws ad N E)[i]? = some (ad i, e) := by rw [jws_get hi, he]
theorem jset {H : Heap} {i : Nat} (hi : i < N) {e : va_E} (h1 : va_P Γ.2.1 vwCl ((jws ad N E).set i (ad i, e)) H) (h2 : va_D (jA Γ) ((jws ad N E).set i (ad i, e))) : jw Γ ad N (va_up E i e) H := by
  rw [jws_set hi] at h1 h2
  exact ⟨h1, h2⟩
theorem J_get (X : JX Γ Ω own cc nL fr rc rs lo) {idx ci M f i : Nat} {C : String} {T : u_T} {fs : List Value} {v : Value} (hd : decode cc pc = .ok (.getfield idx, 3)) (hf : jfl own idx ci C T M f) (he : E i = .inr (ci, fs)) (hi : i < N) (hv : fs[f]? = some v) (hq : pc + 3 = q) (kk : J l Γ Ω nL ad N k n E q L (v :: st)) : J l Γ Ω nL ad N k n E pc L (.ref (ad i) :: st) := by
  subst hq
  intro H locs ls hl hw hS
  obtain ⟨hx, hb, hml, hown, hts, henv, hR⟩ := X
  obtain ⟨hlk, ⟨hc, hin, -, -⟩, hM⟩ := hf
  rcases hlk with h | ⟨host, h⟩
  · exact va_get (q0 := i) hx hb hts hin hown henv.1 hw.1 (he := jat hi he) hc f hM (hts _ h) (fun _ z => z) hv hd (kk H locs ls hl hw hS)
  · exact va_getN (q0 := i) hx hb hts hin hown henv.1 hw.1 (he := jat hi he) hc f hM (va_Nw.use rfl (henv.2.1 _ h)) (fun _ z => z) hv hd (kk H locs ls hl hw hS)
theorem J_put (X : JX Γ Ω own cc nL fr rc rs lo) {idx ci M f i : Nat} {C : String} {T : u_T} {fs : List Value} {v : Value} {ty : FieldType} (hd : decode cc pc = .ok (.putfield idx, 3)) (hf : jfl own idx ci C T M f) (hfin : (T f).2.2.2 = false) (hty : parseFieldDescriptor (T f).2.2.1 = some ty) (hn : narrow ty v = v) (hfit : fits ty v = true) (he : E i = .inr (ci, fs)) (hi : i < N) (hlen : f < fs.length) (hq : pc + 3 = q) (kk : ∀ E' : Nat → va_E, E' i = .inr (ci, fs.set f v) → (∀ j, j ≠ i → E' j = E j) → J l Γ Ω nL ad N k n E' q L st) : J l Γ Ω nL ad N k n E pc L (v :: .ref (ad i) :: st) := by
  subst hq
  intro H locs ls hl hw hS
  obtain ⟨hx, hb, hml, hown, hts, henv, hR⟩ := X
  obtain ⟨hlk, ⟨hc, hin, ⟨ty0, hty0⟩, hnm⟩, hM⟩ := hf
  rcases hlk with h | ⟨host, h⟩
  · exact va_put (q0 := i) hx hb hts hin ty0 hty0 hnm hown henv.1 hw.1 hw.2 hS (he := jat hi he) hc f hM (hts _ h) (fun _ z => z) hfin hty hn hfit hlen hd (fun H1 locs1 p1 d1 s1 => kk _ jup_self jup_ne H1 locs1 ls hl (jset hi p1 d1) s1)
  · exact va_putN (q0 := i) hx hb hts hin ty0 hty0 hnm hown henv.1 hw.1 hw.2 hS (he := jat hi he) hc f hM (va_Nw.use rfl (henv.2.1 _ h)) (fun _ z => z) hfin hty hn hfit hlen hd (fun H1 locs1 p1 d1 s1 => kk _ jup_self jup_ne H1 locs1 ls hl (jset hi p1 d1) s1)
theorem J_putF (X : JX Γ Ω own cc nL fr rc rs lo) {idx ci M f i : Nat} {C : String} {T : u_T} {fs : List Value} {v : Value} {ty : FieldType} (hd : decode cc pc = .ok (.putfield idx, 3)) (hf : Cond.fieldLink own idx (T f).1 (T f).2.1 (T f).2.2.1 ∈ tw ∧ jcl ci C T M ∧ f < M) (hfin : (T f).2.2.2 = true) (hinit : Ω.2.2.2.2.2.2.2.1.name = "<init>") (hdecl : (T f).1 = own) (hty : parseFieldDescriptor (T f).2.2.1 = some ty) (hn : narrow ty v = v) (hfit : fits ty v = true) (he : E i = .inr (ci, fs)) (hi : i < N) (hlen : f < fs.length) (hq : pc + 3 = q) (kk : ∀ E' : Nat → va_E, E' i = .inr (ci, fs.set f v) → (∀ j, j ≠ i → E' j = E j) → J l Γ Ω nL ad N k n E' q L st) : J l Γ Ω nL ad N k n E pc L (v :: .ref (ad i) :: st) := by
  subst hq
  intro H locs ls hl hw hS
  obtain ⟨hx, hb, hml, hown, hts, henv, hR⟩ := X
  obtain ⟨h, ⟨hc, hin, ⟨ty0, hty0⟩, hnm⟩, hM⟩ := hf
  exact va_putF (q0 := i) hx hb hts hin ty0 hty0 hnm hown henv.1 hw.1 hw.2 hS (he := jat hi he) hc f hM (hts _ h) (fun _ z => z) hfin hinit hdecl hty hn hfit hlen hd (fun H1 locs1 p1 d1 s1 => kk _ jup_self jup_ne H1 locs1 ls hl (jset hi p1 d1) s1)
theorem J_iald (X : JX Γ Ω own cc nL fr rc rs lo) {i M : Nat} {f : Int → Int} {z : Int} (hd : decode cc pc = .ok (.iaload, 1)) (he : E i = aI Γ M f) (hi : i < N) (hz : 0 ≤ z ∧ z < (M : Int)) (hM : (M : Int) < 2147483648) (hq : pc + 1 = q) (kk : J l Γ Ω nL ad N k n E q L (.int (jI (f z)) :: st)) : J l Γ Ω nL ad N k n E pc L (.int (jI z) :: .ref (ad i) :: st) := by
  subst hq
  intro H locs ls hl hw hS
  refine va_iald X.1 X.2.1 X.2.2.2.2.2.1.1 hw.1 i 0 (jat hi he) rfl (jI_in hz hM) hd ?_
  rw [jI_clamp (by omega), show ((z.toNat : Nat) : Int) = z by omega]
  exact kk H locs ls hl hw hS
theorem J_zald (X : JX Γ Ω own cc nL fr rc rs lo) {i M : Nat} {f : Int → Int} {z : Int} (hd : decode cc pc = .ok (.baload, 1)) (he : E i = aZ Γ M f) (hi : i < N) (hz : 0 ≤ z ∧ z < (M : Int)) (hM : (M : Int) < 2147483648) (hq : pc + 1 = q) (kk : J l Γ Ω nL ad N k n E q L (.int (jI (f z)) :: st)) : J l Γ Ω nL ad N k n E pc L (.int (jI z) :: .ref (ad i) :: st) := by
  subst hq
  intro H locs ls hl hw hS
  refine va_zald X.1 X.2.1 X.2.2.2.2.2.1.1 hw.1 i 1 (jat hi he) rfl (jI_in hz hM) hd ?_
  rw [jI_clamp (by omega), show ((z.toNat : Nat) : Int) = z by omega]
  exact kk H locs ls hl hw hS
theorem J_iast (X : JX Γ Ω own cc nL fr rc rs lo) {i M : Nat} {f : Int → Int} {z v : Int} (hd : decode cc pc = .ok (.iastore, 1)) (he : E i = aI Γ M f) (hi : i < N) (hz : 0 ≤ z ∧ z < (M : Int)) (hM : (M : Int) < 2147483648) (hq : pc + 1 = q) (kk : ∀ E' : Nat → va_E, E' i = aI Γ M (iu f z v) → (∀ j, j ≠ i → E' j = E j) → J l Γ Ω nL ad N k n E' q L st) : J l Γ Ω nL ad N k n E pc L (.int (jI v) :: .int (jI z) :: .ref (ad i) :: st) := by
  subst hq
  intro H locs ls hl hw hS
  refine va_iast X.1 X.2.1 X.2.2.2.2.2.1.1 hw.1 hw.2 hS i 0 (jat hi he) rfl (jI_in hz hM) hd (fun H1 locs1 p1 d1 s1 => ?_)
  rw [jI_clamp (by omega), iu_upd hz.1] at p1 d1
  exact kk _ jup_self jup_ne H1 locs1 ls hl (jset hi p1 d1) s1
end JHeap
end
section
/-! more of the heap, what is made, calls -/
section JMore
variable {l : Launch} {Γ : JG} {Ω : JO} {nL : Nat} {ad : Nat → Nat} {N k n : Nat} {E : Nat → va_E} {pc q : Nat} {L : List (Option Value)} {st : List Value} {own : String} {cc : ByteArray} {fr rc rs lo : Nat}
theorem vp_narZ {b : Int} (h : b = 0 ∨ b = 1) : vp_nar .boolean (jI b) = jI b := by
  rcases h with rfl | rfl <;> rfl
theorem J_zast (X : JX Γ Ω own cc nL fr rc rs lo) {i M : Nat} {f : Int → Int} {z v : Int} (hd : decode cc pc = .ok (.bastore, 1)) (he : E i = aZ Γ M f) (hi : i < N) (hz : 0 ≤ z ∧ z < (M : Int)) (hM : (M : Int) < 2147483648) (hv : v = 0 ∨ v = 1) (hq : pc + 1 = q) (kk : ∀ E' : Nat → va_E, E' i = aZ Γ M (iu f z v) → (∀ j, j ≠ i → E' j = E j) → J l Γ Ω nL ad N k n E' q L st) : J l Γ Ω nL ad N k n E pc L (.int (jI v) :: .int (jI z) :: .ref (ad i) :: st) := by
  subst hq
  intro H locs ls hl hw hS
  refine va_zast X.1 X.2.1 X.2.2.2.2.2.1.1 hw.1 hw.2 hS i 1 (jat hi he) rfl (jI_in hz hM) hd (fun H1 locs1 p1 d1 s1 => ?_)
  rw [vp_narZ hv, jI_clamp (by omega), iu_upd hz.1] at p1 d1
  exact kk _ jup_self jup_ne H1 locs1 ls hl (jset hi p1 d1) s1
/-- the class of the elements of an array of references -/
def jRC (c : Nat) (ci : Nat) (C : String) : Prop := (c = 2 ∧ ci = 3 ∧ C = RX3) ∨ (c = 3 ∧ ci = 4 ∧ C = RX4)
theorem J_aald (X : JX Γ Ω own cc nL fr rc rs lo) {i M c a : Nat} {f : Nat → Option Nat} {z : Int} (hd : decode cc pc = .ok (.aaload, 1)) (hc : c = 2 ∨ c = 3) (he : E i = aR Γ c M f) (hi : i < N) (hz : 0 ≤ z ∧ z < (M : Int)) (hM : (M : Int) < 2147483648) (hv : f z.toNat = some a) (hq : pc + 1 = q) (kk : J l Γ Ω nL ad N k n E q L (.ref a :: st)) : J l Γ Ω nL ad N k n E pc L (.int (jI z) :: .ref (ad i) :: st) := by
  subst hq
  intro H locs ls hl hw hS
  rcases hc with rfl | rfl
  · refine va_aldq X.1 X.2.1 X.2.2.2.2.2.1.1 hw.1 i 2 (jat hi he) rfl (jI_in hz hM) hd ?_
    rw [jI_clamp (by omega), hv]
    exact kk H locs ls hl hw hS
  · refine va_aldq X.1 X.2.1 X.2.2.2.2.2.1.1 hw.1 i 3 (jat hi he) rfl (jI_in hz hM) hd ?_
    rw [jI_clamp (by omega), hv]
    exact kk H locs ls hl hw hS
theorem J_aast (X : JX Γ Ω own cc nL fr rc rs lo) {i j M c ci : Nat} {C : String} {T : u_T} {M' : Nat} {fs : List Value} {f : Nat → Option Nat} {z : Int} (hd : decode cc pc = .ok (.aastore, 1)) (hc : c = 2 ∨ c = 3) (he : E i = aR Γ c M f) (hi : i < N) (hej : E j = .inr (ci, fs)) (hj : j < N) (hcl : vwCl[ci]? = some (C, T, M')) (hC : (jtys Γ)[c]? = some (Γ.2.2.1 c, .object C)) (hz : 0 ≤ z ∧ z < (M : Int)) (hM : (M : Int) < 2147483648) (hq : pc + 1 = q) (kk : ∀ E' : Nat → va_E, E' i = aR Γ c M (va_up f z.toNat (some (ad j))) → (∀ j, j ≠ i → E' j = E j) → J l Γ Ω nL ad N k n E' q L st) : J l Γ Ω nL ad N k n E pc L (.ref (ad j) :: .int (jI z) :: .ref (ad i) :: st) := by
  subst hq
  intro H locs ls hl hw hS
  refine va_astq X.1 X.2.1 X.2.2.2.2.2.1.1 hw.1 hw.2 hS i c j ci (jat hi he) hC (jat hj hej) hcl (jI_in hz hM) hd (fun H1 locs1 p1 d1 s1 => ?_)
  rw [jI_clamp (by omega)] at p1 d1
  exact kk _ jup_self jup_ne H1 locs1 ls hl (jset hi p1 d1) s1
theorem J_objInit (X : JX Γ Ω own cc nL fr rc rs lo) {idx a : Nat} (hd : decode cc pc = .ok (.invokespecial idx, 3)) (h1 : Cond.methodLink own idx objectInit ∈ tw) (h2 : Cond.instanceMethod objectInit ∈ tw) (h3 : Cond.code objectInit ⟨#[0xb1]⟩ 1 none ∈ tw) (hf : 1 ≤ fr) (hlo : (st.map fun v => v.category).sum + 12 ≤ lo) (hq : pc + 3 = q) (kk : J l Γ Ω nL ad N k n E q L st) : J l Γ Ω nL ad N k n E pc L (.ref a :: st) := by
  subst hq
  intro H locs ls hl hw hS
  obtain ⟨hx, hb, hml, hown, hts, henv, hR⟩ := X
  exact W.objInit hx hb hown (hts _ h1) (hts _ h2) (hts _ h3) rfl (by rw [hml]; exact hl.1) rfl hd (by rw [hR]; exact hf) (by rw [hR]; show 2 * 0 + _ + 12 ≤ lo; omega) (kk H locs ls hl hw hS)
theorem jw_push {H H1 : Heap} {e : va_E} (hw : jw Γ ad N E H) (o1 : ∀ q, q < H.size → H1[q]? = H[q]?) (ha : ad N = H.size) (hA : jA Γ (ad N)) (he : va_at Γ.2.1 vwCl (ad N, e) H1) : jw Γ ad (N + 1) (va_up E N e) H1 := by
  have e1 : jws ad (N + 1) (va_up E N e) = jws ad N E ++ [(ad N, e)] := by
    rw [jws_push]
    congr 1
    funext j
    by_cases h : j = N
    · subst h; simp [va_up]
    · simp [va_up, h]
  refine ⟨?_, ?_⟩
  · rw [e1]
    refine (hw.1.kept (fun k x hx => o1 x.1 ((hw.1 k x hx).lt))).app (fun k x hx => ?_)
    have hz : k < 1 := (List.getElem?_eq_some_iff.mp hx).1
    rw [show k = 0 by omega] at hx
    cases hx
    exact he
  · rw [e1]
    exact hw.2.push hw.1 ha hA
/-- the heap's size, by the cells that were made -/
theorem jsize {N0 : Nat} {H : Heap} {locs : List Loc} {T : State} (hT : T.heap = H) (X0 : Stand Ω.1 l Ω.2.1 Ω.2.2.1 Ω.2.2.2.1 Ω.2.2.2.2.1 Ω.2.2.2.2.2.1 Ω.2.2.2.2.2.2.1 Ω.2.2.2.2.2.2.2.1 Ω.2.2.2.2.2.2.2.2.1 T locs k n) (hS : va_S (jA Γ) Ω.2.2.2.1.heap H locs) (hw : jw Γ ad N E H) (had : ∀ j, N0 ≤ j → ad j = Ω.2.2.2.1.heap.size + (j - N0)) (hN : N = N0 + k) : H.size = Ω.2.2.2.1.heap.size + k := by
  have h1 := X0.heapSize
  rw [hT] at h1
  have h2 : Ω.2.2.2.1.heap.size + k ≤ H.size := by
    cases k with
    | zero => exact hS.1
    | succ k' =>
      have h3 := (hw.1 (N - 1) _ (jws_get (by omega))).lt
      have h4 := had (N - 1) (by omega)
      have h5 : ad (N - 1) < H.size := h3
      omega
  omega
theorem W_size {p : Program} {e : Env} {R : Room} {s : State} {m : MethodId} {args : Array Value} {below : List Frame} {meth : Method} {c : Code} {H : Heap} {locs : List Loc} {cells slots z : Nat} {Q : State → Prop} {g : JFrame} (h : ∀ T : State, T.heap = H → Stand p l e R s m args below meth c T locs cells slots → H.size = z) (kk : H.size = z → W p l e R s m args below meth c H locs cells slots Q g) : W p l e R s m args below meth c H locs cells slots Q g := fun T hT X => kk (h T hT X) T hT X
theorem J_new (X : JX Γ Ω own cc nL fr rc rs lo) {idx ci M N0 : Nat} {C : String} {T : u_T} (ty : Nat → FieldType) (fs : List Value) (hd : decode cc pc = .ok (.new idx, 3)) (hcl : Cond.classLink own idx C ∈ tw ∧ Cond.instantiable C M ∈ tw ∧ Cond.initialized C ∈ tw) (hj : jcl ci C T M) (hty : ∀ k, k < M → parseFieldDescriptor (T k).2.2.1 = some (ty k)) (hfs : ∀ j, j < M → defaultValue (ty j) = vp_V fs j) (hrc : k + 1 ≤ rc) (hrs : n + M ≤ rs) (had : ∀ j, N0 ≤ j → ad j = Ω.2.2.2.1.heap.size + (j - N0)) (hN : N = N0 + k) (hq : pc + 3 = q)
    (kk : ∀ E' : Nat → va_E, E' N = .inr (ci, fs) → (∀ j, j ≠ N → E' j = E j) → J l Γ Ω nL ad (N + 1) (k + 1) (n + M) E' q L (.ref (ad N) :: st)) : J l Γ Ω nL ad N k n E pc L st := by
  subst hq
  intro H locs ls hl hw hS
  obtain ⟨hx, hb, hml, hown, hts, henv, hR⟩ := X
  obtain ⟨hc, hin, -, -⟩ := hj
  have hKn := henv.1.1 ci _ hc
  refine W_size (fun T0 hT X0 => jsize hT X0 hS hw had hN) (fun hsz => ?_)
  have hadN : ad N = H.size := by rw [hsz, had N (by omega)]; omega
  refine W.newcK hx hb hown (hts _ hcl.1) (hts _ hcl.2.1) (hts _ hcl.2.2) rfl hd (by rw [hR]; exact hrc) (by rw [hR]; exact hrs) hKn.2.1 rfl (fun H1 kC hkC e1 z1 o1 => ?_)
  rw [← hadN] at e1 ⊢
  refine kk _ jup_self jup_ne H1 locs ls hl (jw_push hw o1 hadN ?_ ⟨_, hc, (u_born ty hts hin hKn hkC e1 hty).to hfs⟩) ⟨Nat.le_trans hS.1 (by omega), fun x h1 h2 => (o1 x (Nat.lt_of_lt_of_le h1 hS.1)).trans (hS.2.1 x h1 h2), hS.2.2⟩
  show Γ.1 ≤ ad N
  have := henv.2.2.2.2.2.2
  omega
theorem jarr (henv : jenv Γ Ω.2.2.2.1) {c : Nat} {cA : ClassId} {ty : FieldType} (hc : (jtys Γ)[c]? = some (Γ.2.2.1 c, ty)) (hty : ty = .int ∨ ty = .boolean) (h : Ω.2.2.2.1.vm.findClass ("[" ++ ty.toString) = some cA) : cA = Γ.2.2.1 c := by
  have h1 := (henv.1.2 c _ hc).2
  rcases hty with rfl | rfl <;> exact Option.some.inj (h.symm.trans h1)
theorem J_newI (X : JX Γ Ω own cc nL fr rc rs lo) {N0 : Nat} {z : Int} (M : Nat) (hd : decode cc pc = .ok (.newarray .int, 2)) (hw0 : Cond.arrayClass .int ∈ tw) (hz : z = (M : Int)) (hM : M ≤ 100000) (hrc : k + 1 ≤ rc) (hrs : n + M ≤ rs) (had : ∀ j, N0 ≤ j → ad j = Ω.2.2.2.1.heap.size + (j - N0)) (hN : N = N0 + k) (hq : pc + 2 = q)
    (kk : ∀ E' : Nat → va_E, E' N = aI Γ M (fun _ => 0) → (∀ j, j ≠ N → E' j = E j) → J l Γ Ω nL ad (N + 1) (k + 1) (n + M) E' q L (.ref (ad N) :: st)) : J l Γ Ω nL ad N k n E pc L (.int (jI z) :: st) := by
  subst hq; subst hz
  intro H locs ls hl hw hS
  obtain ⟨hx, hb, hml, hown, hts, henv, hR⟩ := X
  refine W_size (fun T0 hT X0 => jsize hT X0 hS hw had hN) (fun hsz => ?_)
  have hadN : ad N = H.size := by rw [hsz, had N (by omega)]; omega
  refine va_newaK (atype := .int) (N := M) hx hb (hts _ hw0) rfl hd rfl ?_ ?_ ?_ (by rw [hR]; exact hrc) (by rw [hR]; exact hrs) rfl (fun H1 cA e1 z1 o1 hAr hNm => ?_)
  · rw [← jI_0, jI_lt (by omega) (by omega)]; omega
  · rw [jI_clamp (by omega)]; omega
  · show M * 4 ≤ 536870912; omega
  · have hcA := jarr henv (c := 0) rfl (Or.inl rfl) hNm
    rw [← hadN] at e1 ⊢
    rw [hcA] at e1
    refine kk _ jup_self jup_ne H1 locs ls hl (jw_push hw o1 hadN ?_ ?_) ⟨Nat.le_trans hS.1 (by omega), fun x h1 h2 => (o1 x (Nat.lt_of_lt_of_le h1 hS.1)).trans (hS.2.1 x h1 h2), hS.2.2⟩
    · show Γ.1 ≤ ad N
      have := henv.2.2.2.2.2.2
      omega
    · exact e1
theorem J_newZ (X : JX Γ Ω own cc nL fr rc rs lo) {N0 : Nat} {z : Int} (M : Nat) (hd : decode cc pc = .ok (.newarray .boolean, 2)) (hw0 : Cond.arrayClass .boolean ∈ tw) (hz : z = (M : Int)) (hM : M ≤ 100000) (hrc : k + 1 ≤ rc) (hrs : n + M ≤ rs) (had : ∀ j, N0 ≤ j → ad j = Ω.2.2.2.1.heap.size + (j - N0)) (hN : N = N0 + k) (hq : pc + 2 = q)
    (kk : ∀ E' : Nat → va_E, E' N = aZ Γ M (fun _ => 0) → (∀ j, j ≠ N → E' j = E j) → J l Γ Ω nL ad (N + 1) (k + 1) (n + M) E' q L (.ref (ad N) :: st)) : J l Γ Ω nL ad N k n E pc L (.int (jI z) :: st) := by
  subst hq; subst hz
  intro H locs ls hl hw hS
  obtain ⟨hx, hb, hml, hown, hts, henv, hR⟩ := X
  refine W_size (fun T0 hT X0 => jsize hT X0 hS hw had hN) (fun hsz => ?_)
  have hadN : ad N = H.size := by rw [hsz, had N (by omega)]; omega
  refine va_newaK (atype := .boolean) (N := M) hx hb (hts _ hw0) rfl hd rfl ?_ ?_ ?_ (by rw [hR]; exact hrc) (by rw [hR]; exact hrs) rfl (fun H1 cA e1 z1 o1 hAr hNm => ?_)
  · rw [← jI_0, jI_lt (by omega) (by omega)]; omega
  · rw [jI_clamp (by omega)]; omega
  · show M * 1 ≤ 536870912; omega
  · have hcA := jarr henv (c := 1) rfl (Or.inr rfl) hNm
    rw [← hadN] at e1 ⊢
    rw [hcA] at e1
    refine kk _ jup_self jup_ne H1 locs ls hl (jw_push hw o1 hadN ?_ ?_) ⟨Nat.le_trans hS.1 (by omega), fun x h1 h2 => (o1 x (Nat.lt_of_lt_of_le h1 hS.1)).trans (hS.2.1 x h1 h2), hS.2.2⟩
    · show Γ.1 ≤ ad N
      have := henv.2.2.2.2.2.2
      omega
    · exact e1
theorem J_anew (X : JX Γ Ω own cc nL fr rc rs lo) {N0 idx : Nat} {z : Int} {C : String} (c M : Nat) (hd : decode cc pc = .ok (.anewarray idx, 3)) (hlk : Cond.classLink own idx C ∈ tw) (hC : (c = 2 ∧ C = RX3) ∨ (c = 3 ∧ C = RX4)) (hz : z = (M : Int)) (hM : M ≤ 100000) (hrc : k + 1 ≤ rc) (hrs : n + M ≤ rs) (had : ∀ j, N0 ≤ j → ad j = Ω.2.2.2.1.heap.size + (j - N0)) (hN : N = N0 + k) (hq : pc + 3 = q)
    (kk : ∀ E' : Nat → va_E, E' N = aR Γ c M (fun _ => none) → (∀ j, j ≠ N → E' j = E j) → J l Γ Ω nL ad (N + 1) (k + 1) (n + M) E' q L (.ref (ad N) :: st)) : J l Γ Ω nL ad N k n E pc L (.int (jI z) :: st) := by
  subst hq; subst hz
  intro H locs ls hl hw hS
  obtain ⟨hx, hb, hml, hown, hts, henv, hR⟩ := X
  have hover : (Cond.arrayOver (.object C)).before Ω.2.2.2.2.2.1 Ω.2.2.2.1 = true := by
    rcases hC with ⟨-, rfl⟩ | ⟨-, rfl⟩
    · exact va_AO.use henv.2.2.2.2.2.1.1
    · exact va_AO.use henv.2.2.2.2.2.1.2
  have hcA : ∀ cA : ClassId, Ω.2.2.2.1.vm.findClass ("[" ++ (FieldType.object C).toString) = some cA → cA = Γ.2.2.1 c := by
    intro cA h
    rcases hC with ⟨rfl, rfl⟩ | ⟨rfl, rfl⟩
    · obtain ⟨-, -, -, -, -, h1⟩ := (henv.1.2 2 _ rfl).2
      exact Option.some.inj (h.symm.trans h1)
    · obtain ⟨-, -, -, -, -, h1⟩ := (henv.1.2 3 _ rfl).2
      exact Option.some.inj (h.symm.trans h1)
  refine W_size (fun T0 hT X0 => jsize hT X0 hS hw had hN) (fun hsz => ?_)
  have hadN : ad N = H.size := by rw [hsz, had N (by omega)]; omega
  have hcl : (jI (M : Int)).toNatClampNeg = M := by rw [jI_clamp (by omega)]; omega
  refine W.anew hx hb hown (hts _ hlk) hover rfl hd rfl ?_ ?_ (by rw [hR]; exact hrc) (by rw [hR, hcl]; exact hrs) (fun cA kA comp f1 f2 f3 f4 => ?_)
  · rw [← jI_0, jI_lt (by omega) (by omega)]; omega
  · rw [hcl]; omega
  · rw [hcl]
    generalize hH1 : H.push ({ cls := cA, slots := Array.replicate M .null, vm := .none } : Cell) = H1
    have z1 : H1.size = H.size + 1 := by rw [← hH1, Array.size_push]
    have e1 : H1[H.size]? = some (arrV cA M (fun _ => .null)) := by rw [← hH1, Array.getElem?_push_size, ← arrV_new]
    have o1 : ∀ q : Nat, q < H.size → H1[q]? = H[q]? := fun q hq => by rw [← hH1, Array.getElem?_push, if_neg (Nat.ne_of_lt hq)]
    rw [← hadN, hcA cA f1] at e1
    have kq := kk _ jup_self jup_ne H1 locs ls hl (jw_push hw o1 hadN (by
      show Γ.1 ≤ ad N
      have := henv.2.2.2.2.2.2
      omega) e1) ⟨Nat.le_trans hS.1 (by omega), fun x h1 h2 => (o1 x (Nat.lt_of_lt_of_le h1 hS.1)).trans (hS.2.1 x h1 h2), hS.2.2⟩
    rw [hadN] at kq
    exact kq
/-- n places of f from sp on, laid into g from dp on -/
abbrev icp (f g : Int → Int) (sp dp m : Int) : Int → Int := fun j => if dp ≤ j ∧ j < dp + m then f (sp + (j - dp)) else g j
theorem icp_cpy {f g : Int → Int} {sp dp m : Int} (h1 : 0 ≤ sp) (h2 : 0 ≤ dp) (h3 : 0 ≤ m) : va_cpy (fun j : Nat => jI (f (j : Int))) (fun j : Nat => jI (g (j : Int))) sp.toNat dp.toNat m.toNat = fun j : Nat => jI (icp f g sp dp m (j : Int)) := by
  funext j
  simp only [va_cpy, icp]
  by_cases h : dp ≤ (j : Int) ∧ (j : Int) < dp + m
  · rw [if_pos h, if_pos (by omega)]
    have : ((sp.toNat + (j - dp.toNat) : Nat) : Int) = sp + ((j : Int) - dp) := by omega
    rw [this]
  · rw [if_neg h, if_neg (by omega)]
theorem J_copy (X : JX Γ Ω own cc nL fr rc rs lo) {idx i j M M' : Nat} {f g : Int → Int} {sp dp m : Int} (hd : decode cc pc = .ok (.invokestatic idx, 3)) (hlk : Cond.methodLink own idx arraycopyName ∈ tw) (hwd : Cond.native arraycopyName ∈ tw ∧ Cond.static arraycopyName ∈ tw ∧ Cond.initialized "java/lang/System" ∈ tw) (hi : E i = aI Γ M f) (hiN : i < N) (hj : E j = aI Γ M' g) (hjN : j < N) (hs : 0 ≤ sp ∧ sp + m ≤ (M : Int)) (hdp : 0 ≤ dp ∧ dp + m ≤ (M' : Int)) (hm : 0 ≤ m) (hM : (M : Int) < 2147483648 ∧ (M' : Int) < 2147483648) (hf : 1 ≤ fr) (hlo : (st.map fun v => v.category).sum + (nativeFrameWords "java/lang/System" "arraycopy" 5 + 11) ≤ lo) (hq : pc + 3 = q)
    (kk : ∀ E' : Nat → va_E, E' j = aI Γ M' (icp f g sp dp m) → (∀ x, x ≠ j → E' x = E x) → J l Γ Ω nL ad N k n E' q L st) : J l Γ Ω nL ad N k n E pc L (.int (jI m) :: .int (jI dp) :: .ref (ad j) :: .int (jI sp) :: .ref (ad i) :: st) := by
  subst hq
  intro H locs ls hl hw hS
  obtain ⟨hx, hb, hml, hown, hts, henv, hR⟩ := X
  have nn : ∀ z : Int, 0 ≤ z → z < 2147483648 → ¬ jI z < 0 := fun z h0 h1 => by rw [← jI_0, jI_lt (by omega) (by omega)]; omega
  refine va_copyi hx hb (by rw [hml]; exact hl.1.symm) hown (hts _ hlk) (hts _ hwd.1) (hts _ hwd.2.1) (hts _ hwd.2.2) henv.1 hw.1 hw.2 hS i j 0 0 (jat hiN hi) (jat hjN hj) (ty := .int) rfl rfl rfl (nn sp (by omega) (by omega)) (nn dp (by omega) (by omega)) (nn m (by omega) (by omega)) ?_ ?_ (fun _ _ => rfl) (by rw [hR]; exact hf) (by rw [hR]; exact hlo) hd (fun H1 locs1 p1 d1 s1 => ?_)
  · rw [jI_clamp (by omega), jI_clamp (by omega)]; omega
  · rw [jI_clamp (by omega), jI_clamp (by omega)]; omega
  · rw [jI_clamp (by omega), jI_clamp (by omega), jI_clamp (by omega), icp_cpy (by omega) (by omega) (by omega)] at p1 d1
    exact kk _ jup_self jup_ne H1 locs1 ls hl (jset hjN p1 d1) s1
theorem J_max (X : JX Γ Ω own cc nL fr rc rs lo) {idx : Nat} {a b : Int} (hd : decode cc pc = .ok (.invokestatic idx, 3)) (hlk : Cond.methodLink own idx Lib.Math.max.name ∈ tw) (hwd : Cond.static Lib.Math.max.name ∈ tw ∧ Cond.initialized "java/lang/Math" ∈ tw ∧ Cond.code Lib.Math.max.name Lib.Math.max.code 2 (some .int) ∈ tw) (ha : -2147483648 ≤ a ∧ a < 2147483648) (hb0 : -2147483648 ≤ b ∧ b < 2147483648) (hf : 1 ≤ fr) (hlo : (st.map fun v => v.category).sum + 13 ≤ lo) (hk : k ≤ rc) (hn : n ≤ rs) (hq : pc + 3 = q) (kk : J l Γ Ω nL ad N k n E q L (.int (jI (if a < b then b else a)) :: st)) : J l Γ Ω nL ad N k n E pc L (.int (jI b) :: .int (jI a) :: st) := by
  subst hq
  intro H locs ls hl hw hS
  obtain ⟨hx, hb, hml, hown, hts, henv, hR⟩ := X
  refine va_mmax hx hb (by rw [hml]; exact hl.1.symm) hown (hts _ hlk) (hts _ hwd.1) (hts _ hwd.2.1) (hts _ hwd.2.2) (by rw [hR]; exact hf) (by rw [hR]; exact hlo) (by rw [hR]; exact hk) (by rw [hR]; exact hn) hd ?_
  have e : (if jI a < jI b then jI b else jI a) = jI (if a < b then b else a) := by
    by_cases h : a < b
    · rw [if_pos h, if_pos ((jI_lt ha hb0).mpr h)]
    · rw [if_neg h, if_neg (fun z => h ((jI_lt ha hb0).mp z))]
  rw [e]
  exact kk H locs ls hl hw hS
theorem J_min (X : JX Γ Ω own cc nL fr rc rs lo) {idx : Nat} {a b : Int} (hd : decode cc pc = .ok (.invokestatic idx, 3)) (hlk : Cond.methodLink own idx Lib.Math.min.name ∈ tw) (hwd : Cond.static Lib.Math.min.name ∈ tw ∧ Cond.initialized "java/lang/Math" ∈ tw ∧ Cond.code Lib.Math.min.name Lib.Math.min.code 2 (some .int) ∈ tw) (ha : -2147483648 ≤ a ∧ a < 2147483648) (hb0 : -2147483648 ≤ b ∧ b < 2147483648) (hf : 1 ≤ fr) (hlo : (st.map fun v => v.category).sum + 13 ≤ lo) (hk : k ≤ rc) (hn : n ≤ rs) (hq : pc + 3 = q) (kk : J l Γ Ω nL ad N k n E q L (.int (jI (if b < a then b else a)) :: st)) : J l Γ Ω nL ad N k n E pc L (.int (jI b) :: .int (jI a) :: st) := by
  subst hq
  intro H locs ls hl hw hS
  obtain ⟨hx, hb, hml, hown, hts, henv, hR⟩ := X
  refine va_mmin hx hb (by rw [hml]; exact hl.1.symm) hown (hts _ hlk) (hts _ hwd.1) (hts _ hwd.2.1) (hts _ hwd.2.2) (by rw [hR]; exact hf) (by rw [hR]; exact hlo) (by rw [hR]; exact hk) (by rw [hR]; exact hn) hd ?_
  have e : (if jI b < jI a then jI b else jI a) = jI (if b < a then b else a) := by
    by_cases h : b < a
    · rw [if_pos h, if_pos ((jI_lt hb0 ha).mpr h)]
    · rw [if_neg h, if_neg (fun z => h ((jI_lt hb0 ha).mp z))]
  rw [e]
  exact kk H locs ls hl hw hS
/-- the table of grown signs -/
theorem J_grown (X : JX Γ Ω RX9 cc nL fr rc rs lo) {idx : Nat} (hd : decode cc pc = .ok (.getstatic idx, 3)) (hlk : Cond.fieldLink RX9 idx RX9 "GROWN" "[C" ∈ tw) (hq : pc + 3 = q) (kk : J l Γ Ω nL ad N k n E q L (.ref Γ.2.2.2.1 :: st)) : J l Γ Ω nL ad N k n E pc L st := by
  subst hq
  intro H locs ls hl hw hS
  obtain ⟨hx, hb, hml, hown, hts, henv, hR⟩ := X
  exact va_gets hx hb henv.2.2.1.1 hS hown (hts _ hlk) (fun _ z => z) hd (kk H locs ls hl hw hS)
theorem J_grownAt (X : JX Γ Ω own cc nL fr rc rs lo) {z : Int} (hd : decode cc pc = .ok (.caload, 1)) (hz : 0 ≤ z ∧ z < 9) (hq : pc + 1 = q) (kk : J l Γ Ω nL ad N k n E q L (.int (jI (jgrown.getD z.toNat 0)) :: st)) : J l Γ Ω nL ad N k n E pc L (.int (jI z) :: .ref Γ.2.2.2.1 :: st) := by
  subst hq
  intro H locs ls hl hw hS
  obtain ⟨hx, hb, hml, hown, hts, henv, hR⟩ := X
  refine va_tc hx hb henv.2.2.1.2 hS (jI_in (n := 9) (by omega) (by decide)) (v := .int (jI (jgrown.getD z.toNat 0))) ?_ hd (kk H locs ls hl hw hS)
  rw [jI_clamp (by omega)]
end JMore
section JCalls
variable {l : Launch} {Γ : JG} {Ω : JO} {nL : Nat} {ad : Nat → Nat} {N k n : Nat} {E : Nat → va_E} {pc q : Nat} {L : List (Option Value)} {st rest : List Value} {own : String} {cc : ByteArray} {fr rc rs lo : Nat}
variable {y : MethodName} {cy : ByteArray} {nLy fry loy mc ms idx na : Nat} {ret : Option FieldType} {av : List Value} {post : Option Value → (Nat → va_E) → Prop}
/-- a call's way: any state that the numbers picture goes on behind the call -/
def JRun (l : Launch) (Γ : JG) (Ω : JO) (nL : Nat) (ad : Nat → Nat) (N k n : Nat) (E : Nat → va_E) (pc : Nat) (L : List (Option Value)) (st rest : List Value) (mc ms : Nat) (post : Option Value → (Nat → va_E) → Prop) : Prop :=
  ∀ (H : Heap) (locs : List Loc) (ls : Array Slot), lq ls nL L → jw Γ ad N E H → va_S (jA Γ) Ω.2.2.2.1.heap H locs → ∃ a : Array Value,
    va_Run Ω.1 l Ω.2.1 Ω.2.2.1 Ω.2.2.2.1 Ω.2.2.2.2.1 Ω.2.2.2.2.2.1 Ω.2.2.2.2.2.2.1 Ω.2.2.2.2.2.2.2.1 Ω.2.2.2.2.2.2.2.2.1 H locs k n mc ms (F0 Ω.2.2.2.2.1 pc ls st) rest (JC Γ ad (N + mc) post a) (jA Γ)
theorem J_call (r : JRun l Γ Ω nL ad N k n E pc L st rest mc ms post) (hq : pc + 3 = q) (kk : ∀ (rv : Option Value) (E' : Nat → va_E), post rv E' → J l Γ Ω nL ad (N + mc) (k + mc) (n + ms) E' q L (rv.toList ++ rest)) : J l Γ Ω nL ad N k n E pc L st := by
  subst hq
  intro H locs ls hl hw hS T hT X0
  obtain ⟨a, hr⟩ := r H locs ls hl hw hS
  obtain ⟨v, st₀, t, T', L1, h0, X', hL, e1, e2, ⟨⟨rv, E', hv, hp, hw'⟩, hz, hk⟩, step⟩ := hr T hT X0
  cases hv
  rw [h0] at hz hk
  obtain ⟨t2, a1, b1⟩ := kk _ E' hp T'.heap (locs ++ L1) ls hl (by rw [e1]; exact hw')
    ⟨Nat.le_trans hS.1 (by rw [e1]; exact hz), fun q h1 h2 => by rw [e1, hk q (Nat.lt_of_lt_of_le h1 hS.1) h2]; exact hS.2.1 q h1 h2, fun q hq => by
      rcases List.mem_append.mp hq with h | h
      · exact hS.2.2 q h
      · exact hL q h⟩ T' rfl X'
  exact ⟨t2, step t2 a1, b1⟩
/-- a method that a pool entry names: by its receiver's class, a constructor, a static one -/
def okB (y : MethodName) (cy : ByteArray) (nLy : Nat) (ret : Option FieldType) (na : Nat) : Prop := Cond.code y cy nLy ret ∈ tw ∧ Cond.initialized y.cls ∈ tw ∧ y.cls ≠ "java/lang/invoke/MethodHandle" ∧ y.cls ≠ "java/lang/invoke/VarHandle" ∧ (parseMethodDescriptor y.desc).map (fun d => d.parameters.length) = some na
def okV (own : String) (idx : Nat) (y : MethodName) (cy : ByteArray) (nLy : Nat) (ret : Option FieldType) (na : Nat) : Prop := okB y cy nLy ret na ∧ Cond.methodLink own idx y ∈ tw ∧ Cond.instanceMethod y ∈ tw ∧ Cond.selects y.cls y y ∈ tw
def okI (own : String) (idx : Nat) (y : MethodName) (cy : ByteArray) (nLy : Nat) (na : Nat) : Prop := okB y cy nLy none na ∧ (Cond.methodLink own idx y ∈ tw ∨ ∃ host, Cond.methodLinkNest own idx y host ∈ jnest) ∧ Cond.instanceMethod y ∈ tw ∧ y.name = "<init>"
def okS (own : String) (idx : Nat) (y : MethodName) (cy : ByteArray) (nLy : Nat) (ret : Option FieldType) (na : Nat) : Prop := okB y cy nLy ret na ∧ (Cond.methodLink own idx y ∈ tw ∨ ∃ host, Cond.methodLinkNest own idx y host ∈ jnest) ∧ Cond.static y ∈ tw
theorem jcallB {R : Room} {s : State} {args : Array Value} (ht : ∀ w ∈ tw, w.before args s = true) (hok : okB y cy nLy ret na) (hl : (Cond.methodLink own idx y).before args s = true) (hR : fry + 1 ≤ R.frames ∧ 8 + (nLy + 11) + loy ≤ R.locals) : CallB R s args own idx y cy nLy ret (.code y cy nLy ret :: tw) { frames := fry, cells := mc, slots := ms, locals := loy } mc ms na :=
  callB_of na ht (tw_in hok.1) rfl rfl rfl (ht _ hok.2.1) hl ⟨hok.2.2.1, hok.2.2.2.1, hok.2.2.2.2⟩ hR
theorem jcallN {R : Room} {s : State} {args : Array Value} {host : String} (ht : ∀ w ∈ tw, w.before args s = true) (hok : okB y cy nLy ret na) (hl : va_Nw (.methodLinkNest own idx y host) s) (hR : fry + 1 ≤ R.frames ∧ 8 + (nLy + 11) + loy ≤ R.locals) : va_CN R s args own idx y host cy nLy ret (.code y cy nLy ret :: tw) { frames := fry, cells := mc, slots := ms, locals := loy } mc ms na :=
  va_cnB na ht (tw_in hok.1) rfl rfl rfl hl (ht _ hok.2.1) ⟨hok.2.2.1, hok.2.2.2.1, hok.2.2.2.2⟩ hR
theorem jpre {H : Heap} {locs : List Loc} (henv : jenv Γ Ω.2.2.2.1) (hw : jw Γ ad N E H) (hS : va_S (jA Γ) Ω.2.2.2.1.heap H locs) : PreS Ω.2.2.2.1 H (va_Pc av (fun U => jenv Γ U ∧ jw Γ ad N E U.heap)) av :=
  ⟨fun _ U g mk h => ⟨h.1, jenv_same h.2.1 rfl rfl, h.2.2⟩, fun U hU hW => ⟨rfl, jenv_step henv hW (by rw [hU]; exact hS.2.1) (by rw [hU]; exact hS.1), by rw [hU]; exact hw⟩⟩
theorem jrV (X : JX Γ Ω own cc nL fr rc rs lo) {ci i M : Nat} {C : String} {T : u_T} {fs : List Value} {As : List Value} (hok : okV own idx y cy nLy ret na) (hd : decode cc pc = .ok (.invokevirtual idx, 3)) (hM : JM l Γ y cy nLy ret fry loy mc ms ad N E (.ref (ad i) :: As) post) (he : E i = .inr (ci, fs)) (hi : i < N) (hc : vwCl[ci]? = some (C, T, M)) (hC : y.cls = C) (hst : st = As.reverse ++ .ref (ad i) :: rest) (hna : As.length = na) (hsum : (rest.map fun v => v.category).sum ≤ 8) (hR : fry + 1 ≤ fr ∧ 8 + (nLy + 11) + loy ≤ lo ∧ k + mc ≤ rc ∧ n + ms ≤ rs) : JRun l Γ Ω nL ad N k n E pc L st rest mc ms post := by
  intro H locs ls hl hw hS
  obtain ⟨hx, hb, hml, hown, hts, henv, hRm⟩ := X
  obtain ⟨hok, h1, h2, h3⟩ := hok
  have hp := jpre (av := .ref (ad i) :: As) henv hw hS
  refine ⟨_, va_runV (As := As) (rest := rest) (C := y.cls) ⟨hx, hb, hml, hown, hts⟩ hM ⟨jcallB hts hok (hts _ h1) (by rw [hRm]; exact ⟨hR.1, hR.2.1⟩), hts _ h2, hts _ h3⟩ ⟨hp.1, ?_, hp.2⟩ rfl hna hl.1 hst (lv_room hsum) hd (by rw [hRm]; exact hR.2.2)⟩
  rw [hC]
  exact va_recv henv.1 hw.1 hc (jat hi he)
theorem jrS (X : JX Γ Ω own cc nL fr rc rs lo) (hok : okS own idx y cy nLy ret na) (hd : decode cc pc = .ok (.invokestatic idx, 3)) (hM : JM l Γ y cy nLy ret fry loy mc ms ad N E av post) (hst : st = av.reverse ++ rest) (hna : av.length = na) (hsum : (rest.map fun v => v.category).sum ≤ 8) (hR : fry + 1 ≤ fr ∧ 8 + (nLy + 11) + loy ≤ lo ∧ k + mc ≤ rc ∧ n + ms ≤ rs) : JRun l Γ Ω nL ad N k n E pc L st rest mc ms post := by
  intro H locs ls hl hw hS
  obtain ⟨hx, hb, hml, hown, hts, henv, hRm⟩ := X
  obtain ⟨hok, h1, h2⟩ := hok
  have hp := jpre (av := av) henv hw hS
  rcases h1 with h1 | ⟨host, h1⟩
  · exact ⟨_, va_runS (As := av) (rest := rest) ⟨hx, hb, hml, hown, hts⟩ hM ⟨jcallB hts hok (hts _ h1) (by rw [hRm]; exact ⟨hR.1, hR.2.1⟩), hts _ h2⟩ hp rfl hna hl.1 hst (lv_room hsum) hd (by rw [hRm]; exact hR.2.2)⟩
  · exact ⟨_, va_runSN (As := av) (rest := rest) ⟨hx, hb, hml, hown, hts⟩ hM ⟨jcallN hts hok (henv.2.1 _ h1) (by rw [hRm]; exact ⟨hR.1, hR.2.1⟩), hts _ h2, trivial⟩ hp rfl hna hl.1 hst (lv_room hsum) hd (by rw [hRm]; exact hR.2.2)⟩
/-- a constructor that makes cells -/
theorem jrI (X : JX Γ Ω own cc nL fr rc rs lo) {i N0 : Nat} {As : List Value} (hok : okI own idx y cy nLy na) (hd : decode cc pc = .ok (.invokespecial idx, 3)) (hM : JMA l Γ y cy nLy none fry loy mc ms ad N E (.ref (ad i) :: As) post) (had : ∀ j, N0 ≤ j → ad j = Ω.2.2.2.1.heap.size + (j - N0)) (hN : N = N0 + k) (hst : st = As.reverse ++ .ref (ad i) :: rest) (hna : As.length = na) (hsum : (rest.map fun v => v.category).sum ≤ 8) (hR : fry + 1 ≤ fr ∧ 8 + (nLy + 11) + loy ≤ lo ∧ k + mc ≤ rc ∧ n + ms ≤ rs) (hq : pc + 3 = q) (kk : ∀ (rv : Option Value) (E' : Nat → va_E), post rv E' → J l Γ Ω nL ad (N + mc) (k + mc) (n + ms) E' q L (rv.toList ++ rest)) : J l Γ Ω nL ad N k n E pc L st := by
  intro H locs ls hl hw hS T0 hT X0
  have hsz := jsize hT X0 hS hw had hN
  obtain ⟨hx, hb, hml, hown, hts, henv, hRm⟩ := X
  obtain ⟨hok, h1, h2, h3⟩ := hok
  have hp : PreS Ω.2.2.2.1 H (va_Pc (.ref (ad i) :: As) (fun U => jenv Γ U ∧ jw Γ ad N E U.heap ∧ ∀ j, N ≤ j → ad j = U.heap.size + (j - N))) (.ref (ad i) :: As) := by
    refine ⟨fun _ U g mk h => ⟨h.1, jenv_same h.2.1 rfl rfl, h.2.2⟩, fun U hU hW => ⟨rfl, jenv_step henv hW (by rw [hU]; exact hS.2.1) (by rw [hU]; exact hS.1), by rw [hU]; exact hw, fun j hj => ?_⟩⟩
    rw [hU, hsz, had j (by omega)]
    omega
  have hrun : ∃ a : Array Value, va_Run Ω.1 l Ω.2.1 Ω.2.2.1 Ω.2.2.2.1 Ω.2.2.2.2.1 Ω.2.2.2.2.2.1 Ω.2.2.2.2.2.2.1 Ω.2.2.2.2.2.2.2.1 Ω.2.2.2.2.2.2.2.2.1 H locs k n mc ms (F0 Ω.2.2.2.2.1 pc ls st) rest (JC Γ ad (N + mc) post a) (jA Γ) := by
    rcases h1 with h1 | ⟨host, h1⟩
    · exact ⟨_, va_runI (As := As) (rest := rest) ⟨hx, hb, hml, hown, hts⟩ hM ⟨jcallB hts hok (hts _ h1) (by rw [hRm]; exact ⟨hR.1, hR.2.1⟩), h3, hts _ h2⟩ hp rfl hna hl.1 hst (lv_room hsum) hd (by rw [hRm]; exact hR.2.2)⟩
    · exact ⟨_, va_runIN (As := As) (rest := rest) ⟨hx, hb, hml, hown, hts⟩ hM ⟨jcallN hts hok (henv.2.1 _ h1) (by rw [hRm]; exact ⟨hR.1, hR.2.1⟩), h3, hts _ h2⟩ hp rfl hna hl.1 hst (lv_room hsum) hd (by rw [hRm]; exact hR.2.2)⟩
  obtain ⟨a, hr⟩ := hrun
  obtain ⟨v, st₀, t, T', L1, h0, X', hL, e1, e2, ⟨⟨rv, E', hv, hp', hw'⟩, hz, hk⟩, step⟩ := hr T0 hT X0
  subst hq
  cases hv
  rw [h0] at hz hk
  obtain ⟨t2, a1, b1⟩ := kk _ E' hp' T'.heap (locs ++ L1) ls hl (by rw [e1]; exact hw')
    ⟨Nat.le_trans hS.1 (by rw [e1]; exact hz), fun q h1 h2 => by rw [e1, hk q (Nat.lt_of_lt_of_le h1 hS.1) h2]; exact hS.2.1 q h1 h2, fun q hq => by
      rcases List.mem_append.mp hq with h | h
      · exact hS.2.2 q h
      · exact hL q h⟩ T' rfl X'
  exact ⟨t2, step t2 a1, b1⟩
/-- what a method answers: a number and nothing changed; a number and a new world; nothing and a new world; a cell -/
def pP (v : Int) (E : Nat → va_E) : Option Value → (Nat → va_E) → Prop := fun rv E' => rv = some (.int (jI v)) ∧ E' = E
def pI (P : Int → (Nat → va_E) → Prop) : Option Value → (Nat → va_E) → Prop := fun rv E' => ∃ z : Int, rv = some (.int (jI z)) ∧ P z E'
def pV (P : (Nat → va_E) → Prop) : Option Value → (Nat → va_E) → Prop := fun rv E' => rv = none ∧ P E'
def pR (a : Nat) (P : (Nat → va_E) → Prop) : Option Value → (Nat → va_E) → Prop := fun rv E' => rv = some (.ref a) ∧ P E'
theorem J_callP {v : Int} (r : JRun l Γ Ω nL ad N k n E pc L st rest 0 0 (pP v E)) (hq : pc + 3 = q) (kk : J l Γ Ω nL ad N k n E q L (.int (jI v) :: rest)) : J l Γ Ω nL ad N k n E pc L st :=
  J_call r hq (fun rv E' h => by obtain ⟨rfl, rfl⟩ := h; exact kk)
theorem J_callI {P : Int → (Nat → va_E) → Prop} (r : JRun l Γ Ω nL ad N k n E pc L st rest 0 0 (pI P)) (hq : pc + 3 = q) (kk : ∀ (z : Int) (E' : Nat → va_E), P z E' → J l Γ Ω nL ad N k n E' q L (.int (jI z) :: rest)) : J l Γ Ω nL ad N k n E pc L st :=
  J_call r hq (fun rv E' h => by obtain ⟨z, rfl, h⟩ := h; exact kk z E' h)
theorem J_callV {P : (Nat → va_E) → Prop} (r : JRun l Γ Ω nL ad N k n E pc L st rest 0 0 (pV P)) (hq : pc + 3 = q) (kk : ∀ E' : Nat → va_E, P E' → J l Γ Ω nL ad N k n E' q L rest) : J l Γ Ω nL ad N k n E pc L st :=
  J_call r hq (fun rv E' h => by obtain ⟨rfl, h⟩ := h; exact kk E' h)
theorem J_callR {a : Nat} {P : (Nat → va_E) → Prop} (r : JRun l Γ Ω nL ad N k n E pc L st rest 0 0 (pR a P)) (hq : pc + 3 = q) (kk : ∀ E' : Nat → va_E, P E' → J l Γ Ω nL ad N k n E' q L (.ref a :: rest)) : J l Γ Ω nL ad N k n E pc L st :=
  J_call r hq (fun rv E' h => by obtain ⟨rfl, h⟩ := h; exact kk E' h)
end JCalls
end
section
/-! the words of the tables that the methods rest on, by their places; fields and methods by pool entries -/
theorem inRX0 : ∀ w ∈ u_ws RX0 TX0 5, w ∈ tw := by
  intro w hw
  obtain ⟨k, hk, rfl⟩ := List.mem_map.mp hw
  have hk := List.mem_range.mp hk
  match k, hk with
  | 0, _ => exact tw_of 132 (by decide +kernel) (by decide +kernel)
  | 1, _ => exact tw_of 134 (by decide +kernel) (by decide +kernel)
  | 2, _ => exact tw_of 136 (by decide +kernel) (by decide +kernel)
  | 3, _ => exact tw_of 138 (by decide +kernel) (by decide +kernel)
  | 4, _ => exact tw_of 140 (by decide +kernel) (by decide +kernel)
  | k + 5, h => exact absurd h (by omega)
theorem clRX0 : jcl 0 RX0 TX0 5 := ⟨rfl, inRX0, ⟨tyX0, tyX0_ok⟩, nmX0⟩
theorem inRX1 : ∀ w ∈ u_ws RX1 TX1 8, w ∈ tw := by
  intro w hw
  obtain ⟨k, hk, rfl⟩ := List.mem_map.mp hw
  have hk := List.mem_range.mp hk
  match k, hk with
  | 0, _ => exact tw_of 236 (by decide +kernel) (by decide +kernel)
  | 1, _ => exact tw_of 238 (by decide +kernel) (by decide +kernel)
  | 2, _ => exact tw_of 240 (by decide +kernel) (by decide +kernel)
  | 3, _ => exact tw_of 242 (by decide +kernel) (by decide +kernel)
  | 4, _ => exact tw_of 244 (by decide +kernel) (by decide +kernel)
  | 5, _ => exact tw_of 246 (by decide +kernel) (by decide +kernel)
  | 6, _ => exact tw_of 248 (by decide +kernel) (by decide +kernel)
  | 7, _ => exact tw_of 250 (by decide +kernel) (by decide +kernel)
  | k + 8, h => exact absurd h (by omega)
theorem clRX1 : jcl 1 RX1 TX1 8 := ⟨rfl, inRX1, ⟨tyX1, tyX1_ok⟩, nmX1⟩
theorem inRX2 : ∀ w ∈ u_ws RX2 TX2 4, w ∈ tw := by
  intro w hw
  obtain ⟨k, hk, rfl⟩ := List.mem_map.mp hw
  have hk := List.mem_range.mp hk
  match k, hk with
  | 0, _ => exact tw_of 268 (by decide +kernel) (by decide +kernel)
  | 1, _ => exact tw_of 270 (by decide +kernel) (by decide +kernel)
  | 2, _ => exact tw_of 272 (by decide +kernel) (by decide +kernel)
  | 3, _ => exact tw_of 274 (by decide +kernel) (by decide +kernel)
  | k + 4, h => exact absurd h (by omega)
theorem clRX2 : jcl 2 RX2 TX2 4 := ⟨rfl, inRX2, ⟨tyX2, tyX2_ok⟩, nmX2⟩
theorem inRX3 : ∀ w ∈ u_ws RX3 TX3 2, w ∈ tw := by
  intro w hw
  obtain ⟨k, hk, rfl⟩ := List.mem_map.mp hw
  have hk := List.mem_range.mp hk
  match k, hk with
  | 0, _ => exact tw_of 179 (by decide +kernel) (by decide +kernel)
  | 1, _ => exact tw_of 181 (by decide +kernel) (by decide +kernel)
  | k + 2, h => exact absurd h (by omega)
theorem clRX3 : jcl 3 RX3 TX3 2 := ⟨rfl, inRX3, ⟨tyX3, tyX3_ok⟩, nmX3⟩
theorem inRX4 : ∀ w ∈ u_ws RX4 TX4 4, w ∈ tw := by
  intro w hw
  obtain ⟨k, hk, rfl⟩ := List.mem_map.mp hw
  have hk := List.mem_range.mp hk
  match k, hk with
  | 0, _ => exact tw_of 294 (by decide +kernel) (by decide +kernel)
  | 1, _ => exact tw_of 296 (by decide +kernel) (by decide +kernel)
  | 2, _ => exact tw_of 298 (by decide +kernel) (by decide +kernel)
  | 3, _ => exact tw_of 300 (by decide +kernel) (by decide +kernel)
  | k + 4, h => exact absurd h (by omega)
theorem clRX4 : jcl 4 RX4 TX4 4 := ⟨rfl, inRX4, ⟨tyX4, tyX4_ok⟩, nmX4⟩
theorem inRX6 : ∀ w ∈ u_ws RX6 TX6 2, w ∈ tw := by
  intro w hw
  obtain ⟨k, hk, rfl⟩ := List.mem_map.mp hw
  have hk := List.mem_range.mp hk
  match k, hk with
  | 0, _ => exact tw_of 113 (by decide +kernel) (by decide +kernel)
  | 1, _ => exact tw_of 115 (by decide +kernel) (by decide +kernel)
  | k + 2, h => exact absurd h (by omega)
theorem clRX6 : jcl 5 RX6 TX6 2 := ⟨rfl, inRX6, ⟨tyX6, tyX6_ok⟩, nmX6⟩
theorem inRX7 : ∀ w ∈ u_ws RX7 TX7 8, w ∈ tw := by
  intro w hw
  obtain ⟨k, hk, rfl⟩ := List.mem_map.mp hw
  have hk := List.mem_range.mp hk
  match k, hk with
  | 0, _ => exact tw_of 195 (by decide +kernel) (by decide +kernel)
  | 1, _ => exact tw_of 197 (by decide +kernel) (by decide +kernel)
  | 2, _ => exact tw_of 199 (by decide +kernel) (by decide +kernel)
  | 3, _ => exact tw_of 201 (by decide +kernel) (by decide +kernel)
  | 4, _ => exact tw_of 203 (by decide +kernel) (by decide +kernel)
  | 5, _ => exact tw_of 205 (by decide +kernel) (by decide +kernel)
  | 6, _ => exact tw_of 207 (by decide +kernel) (by decide +kernel)
  | 7, _ => exact tw_of 209 (by decide +kernel) (by decide +kernel)
  | k + 8, h => exact absurd h (by omega)
theorem clRX7 : jcl 6 RX7 TX7 8 := ⟨rfl, inRX7, ⟨tyX7, tyX7_ok⟩, nmX7⟩
theorem inRX8 : ∀ w ∈ u_ws RX8 TX8 6, w ∈ tw := by
  intro w hw
  obtain ⟨k, hk, rfl⟩ := List.mem_map.mp hw
  have hk := List.mem_range.mp hk
  match k, hk with
  | 0, _ => exact tw_of 155 (by decide +kernel) (by decide +kernel)
  | 1, _ => exact tw_of 157 (by decide +kernel) (by decide +kernel)
  | 2, _ => exact tw_of 159 (by decide +kernel) (by decide +kernel)
  | 3, _ => exact tw_of 161 (by decide +kernel) (by decide +kernel)
  | 4, _ => exact tw_of 163 (by decide +kernel) (by decide +kernel)
  | 5, _ => exact tw_of 165 (by decide +kernel) (by decide +kernel)
  | k + 6, h => exact absurd h (by omega)
theorem clRX8 : jcl 7 RX8 TX8 6 := ⟨rfl, inRX8, ⟨tyX8, tyX8_ok⟩, nmX8⟩
theorem inRX9 : ∀ w ∈ u_ws RX9 TX9 9, w ∈ tw := by
  intro w hw
  obtain ⟨k, hk, rfl⟩ := List.mem_map.mp hw
  have hk := List.mem_range.mp hk
  match k, hk with
  | 0, _ => exact tw_of 312 (by decide +kernel) (by decide +kernel)
  | 1, _ => exact tw_of 314 (by decide +kernel) (by decide +kernel)
  | 2, _ => exact tw_of 316 (by decide +kernel) (by decide +kernel)
  | 3, _ => exact tw_of 318 (by decide +kernel) (by decide +kernel)
  | 4, _ => exact tw_of 320 (by decide +kernel) (by decide +kernel)
  | 5, _ => exact tw_of 322 (by decide +kernel) (by decide +kernel)
  | 6, _ => exact tw_of 324 (by decide +kernel) (by decide +kernel)
  | 7, _ => exact tw_of 326 (by decide +kernel) (by decide +kernel)
  | 8, _ => exact tw_of 328 (by decide +kernel) (by decide +kernel)
  | k + 9, h => exact absurd h (by omega)
theorem clRX9 : jcl 8 RX9 TX9 9 := ⟨rfl, inRX9, ⟨tyX9, tyX9_ok⟩, nmX9⟩
theorem inRX10 : ∀ w ∈ u_ws RX10 TX10 31, w ∈ tw := by
  intro w hw
  obtain ⟨k, hk, rfl⟩ := List.mem_map.mp hw
  have hk := List.mem_range.mp hk
  match k, hk with
  | 0, _ => exact tw_of 895 (by decide +kernel) (by decide +kernel)
  | 1, _ => exact tw_of 897 (by decide +kernel) (by decide +kernel)
  | 2, _ => exact tw_of 899 (by decide +kernel) (by decide +kernel)
  | 3, _ => exact tw_of 901 (by decide +kernel) (by decide +kernel)
  | 4, _ => exact tw_of 903 (by decide +kernel) (by decide +kernel)
  | 5, _ => exact tw_of 905 (by decide +kernel) (by decide +kernel)
  | 6, _ => exact tw_of 907 (by decide +kernel) (by decide +kernel)
  | 7, _ => exact tw_of 909 (by decide +kernel) (by decide +kernel)
  | 8, _ => exact tw_of 911 (by decide +kernel) (by decide +kernel)
  | 9, _ => exact tw_of 913 (by decide +kernel) (by decide +kernel)
  | 10, _ => exact tw_of 915 (by decide +kernel) (by decide +kernel)
  | 11, _ => exact tw_of 917 (by decide +kernel) (by decide +kernel)
  | 12, _ => exact tw_of 919 (by decide +kernel) (by decide +kernel)
  | 13, _ => exact tw_of 921 (by decide +kernel) (by decide +kernel)
  | 14, _ => exact tw_of 923 (by decide +kernel) (by decide +kernel)
  | 15, _ => exact tw_of 925 (by decide +kernel) (by decide +kernel)
  | 16, _ => exact tw_of 927 (by decide +kernel) (by decide +kernel)
  | 17, _ => exact tw_of 929 (by decide +kernel) (by decide +kernel)
  | 18, _ => exact tw_of 931 (by decide +kernel) (by decide +kernel)
  | 19, _ => exact tw_of 933 (by decide +kernel) (by decide +kernel)
  | 20, _ => exact tw_of 935 (by decide +kernel) (by decide +kernel)
  | 21, _ => exact tw_of 937 (by decide +kernel) (by decide +kernel)
  | 22, _ => exact tw_of 939 (by decide +kernel) (by decide +kernel)
  | 23, _ => exact tw_of 941 (by decide +kernel) (by decide +kernel)
  | 24, _ => exact tw_of 943 (by decide +kernel) (by decide +kernel)
  | 25, _ => exact tw_of 945 (by decide +kernel) (by decide +kernel)
  | 26, _ => exact tw_of 947 (by decide +kernel) (by decide +kernel)
  | 27, _ => exact tw_of 949 (by decide +kernel) (by decide +kernel)
  | 28, _ => exact tw_of 951 (by decide +kernel) (by decide +kernel)
  | 29, _ => exact tw_of 953 (by decide +kernel) (by decide +kernel)
  | 30, _ => exact tw_of 955 (by decide +kernel) (by decide +kernel)
  | k + 31, h => exact absurd h (by omega)
theorem clRX10 : jcl 9 RX10 TX10 31 := ⟨rfl, inRX10, ⟨tyX10, tyX10_ok⟩, nmX10⟩
theorem fX6_9 : jfl RX6 9 5 RX6 TX6 2 0 := ⟨Or.inl (tw_of 106 (by decide +kernel) (by decide +kernel)), clRX6, by decide⟩
theorem gX6_9 : Cond.fieldLink RX6 9 (TX6 0).1 (TX6 0).2.1 (TX6 0).2.2.1 ∈ tw ∧ jcl 5 RX6 TX6 2 ∧ 0 < 2 := ⟨tw_of 106 (by decide +kernel) (by decide +kernel), clRX6, by decide⟩
theorem fX8_30 : jfl RX8 30 5 RX6 TX6 2 0 := ⟨Or.inr ⟨"FoldKeeper", List.mem_filter.mpr ⟨List.mem_of_getElem? (i := 107) (by decide +kernel), rfl⟩⟩, clRX6, by decide⟩
theorem fX7_124 : jfl RX7 124 5 RX6 TX6 2 0 := ⟨Or.inr ⟨"FoldKeeper", List.mem_filter.mpr ⟨List.mem_of_getElem? (i := 108) (by decide +kernel), rfl⟩⟩, clRX6, by decide⟩
theorem fX6_15 : jfl RX6 15 5 RX6 TX6 2 1 := ⟨Or.inl (tw_of 109 (by decide +kernel) (by decide +kernel)), clRX6, by decide⟩
theorem gX6_15 : Cond.fieldLink RX6 15 (TX6 1).1 (TX6 1).2.1 (TX6 1).2.2.1 ∈ tw ∧ jcl 5 RX6 TX6 2 ∧ 1 < 2 := ⟨tw_of 109 (by decide +kernel) (by decide +kernel), clRX6, by decide⟩
theorem fX9_58 : jfl RX9 58 5 RX6 TX6 2 1 := ⟨Or.inr ⟨"FoldKeeper", List.mem_filter.mpr ⟨List.mem_of_getElem? (i := 110) (by decide +kernel), rfl⟩⟩, clRX6, by decide⟩
theorem fX7_68 : jfl RX7 68 5 RX6 TX6 2 1 := ⟨Or.inr ⟨"FoldKeeper", List.mem_filter.mpr ⟨List.mem_of_getElem? (i := 111) (by decide +kernel), rfl⟩⟩, clRX6, by decide⟩
theorem fX8_27 : jfl RX8 27 5 RX6 TX6 2 1 := ⟨Or.inr ⟨"FoldKeeper", List.mem_filter.mpr ⟨List.mem_of_getElem? (i := 112) (by decide +kernel), rfl⟩⟩, clRX6, by decide⟩
theorem fX0_9 : jfl RX0 9 0 RX0 TX0 5 0 := ⟨Or.inl (tw_of 125 (by decide +kernel) (by decide +kernel)), clRX0, by decide⟩
theorem gX0_9 : Cond.fieldLink RX0 9 (TX0 0).1 (TX0 0).2.1 (TX0 0).2.2.1 ∈ tw ∧ jcl 0 RX0 TX0 5 ∧ 0 < 5 := ⟨tw_of 125 (by decide +kernel) (by decide +kernel), clRX0, by decide⟩
theorem fX9_95 : jfl RX9 95 0 RX0 TX0 5 0 := ⟨Or.inr ⟨"FoldKeeper", List.mem_filter.mpr ⟨List.mem_of_getElem? (i := 126) (by decide +kernel), rfl⟩⟩, clRX0, by decide⟩
theorem fX0_15 : jfl RX0 15 0 RX0 TX0 5 1 := ⟨Or.inl (tw_of 127 (by decide +kernel) (by decide +kernel)), clRX0, by decide⟩
theorem gX0_15 : Cond.fieldLink RX0 15 (TX0 1).1 (TX0 1).2.1 (TX0 1).2.2.1 ∈ tw ∧ jcl 0 RX0 TX0 5 ∧ 1 < 5 := ⟨tw_of 127 (by decide +kernel) (by decide +kernel), clRX0, by decide⟩
theorem fX9_79 : jfl RX9 79 0 RX0 TX0 5 1 := ⟨Or.inr ⟨"FoldKeeper", List.mem_filter.mpr ⟨List.mem_of_getElem? (i := 128) (by decide +kernel), rfl⟩⟩, clRX0, by decide⟩
theorem fX0_18 : jfl RX0 18 0 RX0 TX0 5 2 := ⟨Or.inl (tw_of 129 (by decide +kernel) (by decide +kernel)), clRX0, by decide⟩
theorem gX0_18 : Cond.fieldLink RX0 18 (TX0 2).1 (TX0 2).2.1 (TX0 2).2.2.1 ∈ tw ∧ jcl 0 RX0 TX0 5 ∧ 2 < 5 := ⟨tw_of 129 (by decide +kernel) (by decide +kernel), clRX0, by decide⟩
theorem fX0_21 : jfl RX0 21 0 RX0 TX0 5 3 := ⟨Or.inl (tw_of 130 (by decide +kernel) (by decide +kernel)), clRX0, by decide⟩
theorem gX0_21 : Cond.fieldLink RX0 21 (TX0 3).1 (TX0 3).2.1 (TX0 3).2.2.1 ∈ tw ∧ jcl 0 RX0 TX0 5 ∧ 3 < 5 := ⟨tw_of 130 (by decide +kernel) (by decide +kernel), clRX0, by decide⟩
theorem fX0_24 : jfl RX0 24 0 RX0 TX0 5 4 := ⟨Or.inl (tw_of 131 (by decide +kernel) (by decide +kernel)), clRX0, by decide⟩
theorem gX0_24 : Cond.fieldLink RX0 24 (TX0 4).1 (TX0 4).2.1 (TX0 4).2.2.1 ∈ tw ∧ jcl 0 RX0 TX0 5 ∧ 4 < 5 := ⟨tw_of 131 (by decide +kernel) (by decide +kernel), clRX0, by decide⟩
theorem fX8_10 : jfl RX8 10 7 RX8 TX8 6 0 := ⟨Or.inl (tw_of 143 (by decide +kernel) (by decide +kernel)), clRX8, by decide⟩
theorem gX8_10 : Cond.fieldLink RX8 10 (TX8 0).1 (TX8 0).2.1 (TX8 0).2.2.1 ∈ tw ∧ jcl 7 RX8 TX8 6 ∧ 0 < 6 := ⟨tw_of 143 (by decide +kernel) (by decide +kernel), clRX8, by decide⟩
theorem fX7_18 : jfl RX7 18 7 RX8 TX8 6 0 := ⟨Or.inr ⟨"FoldKeeper", List.mem_filter.mpr ⟨List.mem_of_getElem? (i := 144) (by decide +kernel), rfl⟩⟩, clRX8, by decide⟩
theorem fX8_19 : jfl RX8 19 7 RX8 TX8 6 1 := ⟨Or.inl (tw_of 145 (by decide +kernel) (by decide +kernel)), clRX8, by decide⟩
theorem gX8_19 : Cond.fieldLink RX8 19 (TX8 1).1 (TX8 1).2.1 (TX8 1).2.2.1 ∈ tw ∧ jcl 7 RX8 TX8 6 ∧ 1 < 6 := ⟨tw_of 145 (by decide +kernel) (by decide +kernel), clRX8, by decide⟩
theorem fX7_23 : jfl RX7 23 7 RX8 TX8 6 1 := ⟨Or.inr ⟨"FoldKeeper", List.mem_filter.mpr ⟨List.mem_of_getElem? (i := 146) (by decide +kernel), rfl⟩⟩, clRX8, by decide⟩
theorem fX7_46 : jfl RX7 46 7 RX8 TX8 6 2 := ⟨Or.inr ⟨"FoldKeeper", List.mem_filter.mpr ⟨List.mem_of_getElem? (i := 147) (by decide +kernel), rfl⟩⟩, clRX8, by decide⟩
theorem fX8_37 : jfl RX8 37 7 RX8 TX8 6 2 := ⟨Or.inl (tw_of 148 (by decide +kernel) (by decide +kernel)), clRX8, by decide⟩
theorem gX8_37 : Cond.fieldLink RX8 37 (TX8 2).1 (TX8 2).2.1 (TX8 2).2.2.1 ∈ tw ∧ jcl 7 RX8 TX8 6 ∧ 2 < 6 := ⟨tw_of 148 (by decide +kernel) (by decide +kernel), clRX8, by decide⟩
theorem fX7_58 : jfl RX7 58 7 RX8 TX8 6 3 := ⟨Or.inr ⟨"FoldKeeper", List.mem_filter.mpr ⟨List.mem_of_getElem? (i := 149) (by decide +kernel), rfl⟩⟩, clRX8, by decide⟩
theorem fX8_34 : jfl RX8 34 7 RX8 TX8 6 3 := ⟨Or.inl (tw_of 150 (by decide +kernel) (by decide +kernel)), clRX8, by decide⟩
theorem gX8_34 : Cond.fieldLink RX8 34 (TX8 3).1 (TX8 3).2.1 (TX8 3).2.2.1 ∈ tw ∧ jcl 7 RX8 TX8 6 ∧ 3 < 6 := ⟨tw_of 150 (by decide +kernel) (by decide +kernel), clRX8, by decide⟩
theorem fX8_23 : jfl RX8 23 7 RX8 TX8 6 4 := ⟨Or.inl (tw_of 151 (by decide +kernel) (by decide +kernel)), clRX8, by decide⟩
theorem gX8_23 : Cond.fieldLink RX8 23 (TX8 4).1 (TX8 4).2.1 (TX8 4).2.2.1 ∈ tw ∧ jcl 7 RX8 TX8 6 ∧ 4 < 6 := ⟨tw_of 151 (by decide +kernel) (by decide +kernel), clRX8, by decide⟩
theorem fX7_114 : jfl RX7 114 7 RX8 TX8 6 4 := ⟨Or.inr ⟨"FoldKeeper", List.mem_filter.mpr ⟨List.mem_of_getElem? (i := 152) (by decide +kernel), rfl⟩⟩, clRX8, by decide⟩
theorem fX8_62 : jfl RX8 62 7 RX8 TX8 6 5 := ⟨Or.inl (tw_of 153 (by decide +kernel) (by decide +kernel)), clRX8, by decide⟩
theorem gX8_62 : Cond.fieldLink RX8 62 (TX8 5).1 (TX8 5).2.1 (TX8 5).2.2.1 ∈ tw ∧ jcl 7 RX8 TX8 6 ∧ 5 < 6 := ⟨tw_of 153 (by decide +kernel) (by decide +kernel), clRX8, by decide⟩
theorem fX7_111 : jfl RX7 111 7 RX8 TX8 6 5 := ⟨Or.inr ⟨"FoldKeeper", List.mem_filter.mpr ⟨List.mem_of_getElem? (i := 154) (by decide +kernel), rfl⟩⟩, clRX8, by decide⟩
theorem fX3_9 : jfl RX3 9 3 RX3 TX3 2 0 := ⟨Or.inl (tw_of 174 (by decide +kernel) (by decide +kernel)), clRX3, by decide⟩
theorem gX3_9 : Cond.fieldLink RX3 9 (TX3 0).1 (TX3 0).2.1 (TX3 0).2.2.1 ∈ tw ∧ jcl 3 RX3 TX3 2 ∧ 0 < 2 := ⟨tw_of 174 (by decide +kernel) (by decide +kernel), clRX3, by decide⟩
theorem fX3_15 : jfl RX3 15 3 RX3 TX3 2 1 := ⟨Or.inl (tw_of 175 (by decide +kernel) (by decide +kernel)), clRX3, by decide⟩
theorem gX3_15 : Cond.fieldLink RX3 15 (TX3 1).1 (TX3 1).2.1 (TX3 1).2.2.1 ∈ tw ∧ jcl 3 RX3 TX3 2 ∧ 1 < 2 := ⟨tw_of 175 (by decide +kernel) (by decide +kernel), clRX3, by decide⟩
theorem fX1_41 : jfl RX1 41 3 RX3 TX3 2 1 := ⟨Or.inr ⟨"FoldKeeper", List.mem_filter.mpr ⟨List.mem_of_getElem? (i := 176) (by decide +kernel), rfl⟩⟩, clRX3, by decide⟩
theorem fX9_102 : jfl RX9 102 3 RX3 TX3 2 1 := ⟨Or.inr ⟨"FoldKeeper", List.mem_filter.mpr ⟨List.mem_of_getElem? (i := 177) (by decide +kernel), rfl⟩⟩, clRX3, by decide⟩
theorem fX7_121 : jfl RX7 121 3 RX3 TX3 2 1 := ⟨Or.inr ⟨"FoldKeeper", List.mem_filter.mpr ⟨List.mem_of_getElem? (i := 178) (by decide +kernel), rfl⟩⟩, clRX3, by decide⟩
theorem fX7_12 : jfl RX7 12 6 RX7 TX7 8 0 := ⟨Or.inl (tw_of 184 (by decide +kernel) (by decide +kernel)), clRX7, by decide⟩
theorem gX7_12 : Cond.fieldLink RX7 12 (TX7 0).1 (TX7 0).2.1 (TX7 0).2.2.1 ∈ tw ∧ jcl 6 RX7 TX7 8 ∧ 0 < 8 := ⟨tw_of 184 (by decide +kernel) (by decide +kernel), clRX7, by decide⟩
theorem fX9_16 : jfl RX9 16 6 RX7 TX7 8 1 := ⟨Or.inr ⟨"FoldKeeper", List.mem_filter.mpr ⟨List.mem_of_getElem? (i := 185) (by decide +kernel), rfl⟩⟩, clRX7, by decide⟩
theorem fX7_22 : jfl RX7 22 6 RX7 TX7 8 1 := ⟨Or.inl (tw_of 186 (by decide +kernel) (by decide +kernel)), clRX7, by decide⟩
theorem gX7_22 : Cond.fieldLink RX7 22 (TX7 1).1 (TX7 1).2.1 (TX7 1).2.2.1 ∈ tw ∧ jcl 6 RX7 TX7 8 ∧ 1 < 8 := ⟨tw_of 186 (by decide +kernel) (by decide +kernel), clRX7, by decide⟩
theorem fX7_27 : jfl RX7 27 6 RX7 TX7 8 2 := ⟨Or.inl (tw_of 187 (by decide +kernel) (by decide +kernel)), clRX7, by decide⟩
theorem gX7_27 : Cond.fieldLink RX7 27 (TX7 2).1 (TX7 2).2.1 (TX7 2).2.2.1 ∈ tw ∧ jcl 6 RX7 TX7 8 ∧ 2 < 8 := ⟨tw_of 187 (by decide +kernel) (by decide +kernel), clRX7, by decide⟩
theorem fX9_75 : jfl RX9 75 6 RX7 TX7 8 2 := ⟨Or.inr ⟨"FoldKeeper", List.mem_filter.mpr ⟨List.mem_of_getElem? (i := 188) (by decide +kernel), rfl⟩⟩, clRX7, by decide⟩
theorem fX7_31 : jfl RX7 31 6 RX7 TX7 8 3 := ⟨Or.inl (tw_of 189 (by decide +kernel) (by decide +kernel)), clRX7, by decide⟩
theorem gX7_31 : Cond.fieldLink RX7 31 (TX7 3).1 (TX7 3).2.1 (TX7 3).2.2.1 ∈ tw ∧ jcl 6 RX7 TX7 8 ∧ 3 < 8 := ⟨tw_of 189 (by decide +kernel) (by decide +kernel), clRX7, by decide⟩
theorem fX9_84 : jfl RX9 84 6 RX7 TX7 8 3 := ⟨Or.inr ⟨"FoldKeeper", List.mem_filter.mpr ⟨List.mem_of_getElem? (i := 190) (by decide +kernel), rfl⟩⟩, clRX7, by decide⟩
theorem fX7_35 : jfl RX7 35 6 RX7 TX7 8 4 := ⟨Or.inl (tw_of 191 (by decide +kernel) (by decide +kernel)), clRX7, by decide⟩
theorem gX7_35 : Cond.fieldLink RX7 35 (TX7 4).1 (TX7 4).2.1 (TX7 4).2.2.1 ∈ tw ∧ jcl 6 RX7 TX7 8 ∧ 4 < 8 := ⟨tw_of 191 (by decide +kernel) (by decide +kernel), clRX7, by decide⟩
theorem fX7_50 : jfl RX7 50 6 RX7 TX7 8 5 := ⟨Or.inl (tw_of 192 (by decide +kernel) (by decide +kernel)), clRX7, by decide⟩
theorem gX7_50 : Cond.fieldLink RX7 50 (TX7 5).1 (TX7 5).2.1 (TX7 5).2.2.1 ∈ tw ∧ jcl 6 RX7 TX7 8 ∧ 5 < 8 := ⟨tw_of 192 (by decide +kernel) (by decide +kernel), clRX7, by decide⟩
theorem fX7_99 : jfl RX7 99 6 RX7 TX7 8 6 := ⟨Or.inl (tw_of 193 (by decide +kernel) (by decide +kernel)), clRX7, by decide⟩
theorem gX7_99 : Cond.fieldLink RX7 99 (TX7 6).1 (TX7 6).2.1 (TX7 6).2.2.1 ∈ tw ∧ jcl 6 RX7 TX7 8 ∧ 6 < 8 := ⟨tw_of 193 (by decide +kernel) (by decide +kernel), clRX7, by decide⟩
theorem fX7_90 : jfl RX7 90 6 RX7 TX7 8 7 := ⟨Or.inl (tw_of 194 (by decide +kernel) (by decide +kernel)), clRX7, by decide⟩
theorem gX7_90 : Cond.fieldLink RX7 90 (TX7 7).1 (TX7 7).2.1 (TX7 7).2.2.1 ∈ tw ∧ jcl 6 RX7 TX7 8 ∧ 7 < 8 := ⟨tw_of 194 (by decide +kernel) (by decide +kernel), clRX7, by decide⟩
theorem fX1_12 : jfl RX1 12 1 RX1 TX1 8 0 := ⟨Or.inl (tw_of 221 (by decide +kernel) (by decide +kernel)), clRX1, by decide⟩
theorem gX1_12 : Cond.fieldLink RX1 12 (TX1 0).1 (TX1 0).2.1 (TX1 0).2.2.1 ∈ tw ∧ jcl 1 RX1 TX1 8 ∧ 0 < 8 := ⟨tw_of 221 (by decide +kernel) (by decide +kernel), clRX1, by decide⟩
theorem fX9_28 : jfl RX9 28 1 RX1 TX1 8 0 := ⟨Or.inr ⟨"FoldKeeper", List.mem_filter.mpr ⟨List.mem_of_getElem? (i := 222) (by decide +kernel), rfl⟩⟩, clRX1, by decide⟩
theorem fX1_18 : jfl RX1 18 1 RX1 TX1 8 1 := ⟨Or.inl (tw_of 223 (by decide +kernel) (by decide +kernel)), clRX1, by decide⟩
theorem gX1_18 : Cond.fieldLink RX1 18 (TX1 1).1 (TX1 1).2.1 (TX1 1).2.2.1 ∈ tw ∧ jcl 1 RX1 TX1 8 ∧ 1 < 8 := ⟨tw_of 223 (by decide +kernel) (by decide +kernel), clRX1, by decide⟩
theorem fX9_134 : jfl RX9 134 1 RX1 TX1 8 1 := ⟨Or.inr ⟨"FoldKeeper", List.mem_filter.mpr ⟨List.mem_of_getElem? (i := 224) (by decide +kernel), rfl⟩⟩, clRX1, by decide⟩
theorem fX1_22 : jfl RX1 22 1 RX1 TX1 8 2 := ⟨Or.inl (tw_of 225 (by decide +kernel) (by decide +kernel)), clRX1, by decide⟩
theorem gX1_22 : Cond.fieldLink RX1 22 (TX1 2).1 (TX1 2).2.1 (TX1 2).2.2.1 ∈ tw ∧ jcl 1 RX1 TX1 8 ∧ 2 < 8 := ⟨tw_of 225 (by decide +kernel) (by decide +kernel), clRX1, by decide⟩
theorem fX9_137 : jfl RX9 137 1 RX1 TX1 8 2 := ⟨Or.inr ⟨"FoldKeeper", List.mem_filter.mpr ⟨List.mem_of_getElem? (i := 226) (by decide +kernel), rfl⟩⟩, clRX1, by decide⟩
theorem fX1_25 : jfl RX1 25 1 RX1 TX1 8 3 := ⟨Or.inl (tw_of 227 (by decide +kernel) (by decide +kernel)), clRX1, by decide⟩
theorem gX1_25 : Cond.fieldLink RX1 25 (TX1 3).1 (TX1 3).2.1 (TX1 3).2.2.1 ∈ tw ∧ jcl 1 RX1 TX1 8 ∧ 3 < 8 := ⟨tw_of 227 (by decide +kernel) (by decide +kernel), clRX1, by decide⟩
theorem fX1_28 : jfl RX1 28 1 RX1 TX1 8 4 := ⟨Or.inl (tw_of 228 (by decide +kernel) (by decide +kernel)), clRX1, by decide⟩
theorem gX1_28 : Cond.fieldLink RX1 28 (TX1 4).1 (TX1 4).2.1 (TX1 4).2.2.1 ∈ tw ∧ jcl 1 RX1 TX1 8 ∧ 4 < 8 := ⟨tw_of 228 (by decide +kernel) (by decide +kernel), clRX1, by decide⟩
theorem fX9_128 : jfl RX9 128 1 RX1 TX1 8 4 := ⟨Or.inr ⟨"FoldKeeper", List.mem_filter.mpr ⟨List.mem_of_getElem? (i := 229) (by decide +kernel), rfl⟩⟩, clRX1, by decide⟩
theorem fX1_31 : jfl RX1 31 1 RX1 TX1 8 5 := ⟨Or.inl (tw_of 230 (by decide +kernel) (by decide +kernel)), clRX1, by decide⟩
theorem gX1_31 : Cond.fieldLink RX1 31 (TX1 5).1 (TX1 5).2.1 (TX1 5).2.2.1 ∈ tw ∧ jcl 1 RX1 TX1 8 ∧ 5 < 8 := ⟨tw_of 230 (by decide +kernel) (by decide +kernel), clRX1, by decide⟩
theorem fX9_105 : jfl RX9 105 1 RX1 TX1 8 5 := ⟨Or.inr ⟨"FoldKeeper", List.mem_filter.mpr ⟨List.mem_of_getElem? (i := 231) (by decide +kernel), rfl⟩⟩, clRX1, by decide⟩
theorem fX1_34 : jfl RX1 34 1 RX1 TX1 8 6 := ⟨Or.inl (tw_of 232 (by decide +kernel) (by decide +kernel)), clRX1, by decide⟩
theorem gX1_34 : Cond.fieldLink RX1 34 (TX1 6).1 (TX1 6).2.1 (TX1 6).2.2.1 ∈ tw ∧ jcl 1 RX1 TX1 8 ∧ 6 < 8 := ⟨tw_of 232 (by decide +kernel) (by decide +kernel), clRX1, by decide⟩
theorem fX9_131 : jfl RX9 131 1 RX1 TX1 8 6 := ⟨Or.inr ⟨"FoldKeeper", List.mem_filter.mpr ⟨List.mem_of_getElem? (i := 233) (by decide +kernel), rfl⟩⟩, clRX1, by decide⟩
theorem fX1_37 : jfl RX1 37 1 RX1 TX1 8 7 := ⟨Or.inl (tw_of 234 (by decide +kernel) (by decide +kernel)), clRX1, by decide⟩
theorem gX1_37 : Cond.fieldLink RX1 37 (TX1 7).1 (TX1 7).2.1 (TX1 7).2.2.1 ∈ tw ∧ jcl 1 RX1 TX1 8 ∧ 7 < 8 := ⟨tw_of 234 (by decide +kernel) (by decide +kernel), clRX1, by decide⟩
theorem fX9_150 : jfl RX9 150 1 RX1 TX1 8 7 := ⟨Or.inr ⟨"FoldKeeper", List.mem_filter.mpr ⟨List.mem_of_getElem? (i := 235) (by decide +kernel), rfl⟩⟩, clRX1, by decide⟩
theorem fX2_13 : jfl RX2 13 2 RX2 TX2 4 0 := ⟨Or.inl (tw_of 262 (by decide +kernel) (by decide +kernel)), clRX2, by decide⟩
theorem gX2_13 : Cond.fieldLink RX2 13 (TX2 0).1 (TX2 0).2.1 (TX2 0).2.2.1 ∈ tw ∧ jcl 2 RX2 TX2 4 ∧ 0 < 4 := ⟨tw_of 262 (by decide +kernel) (by decide +kernel), clRX2, by decide⟩
theorem fX2_25 : jfl RX2 25 2 RX2 TX2 4 1 := ⟨Or.inl (tw_of 263 (by decide +kernel) (by decide +kernel)), clRX2, by decide⟩
theorem gX2_25 : Cond.fieldLink RX2 25 (TX2 1).1 (TX2 1).2.1 (TX2 1).2.2.1 ∈ tw ∧ jcl 2 RX2 TX2 4 ∧ 1 < 4 := ⟨tw_of 263 (by decide +kernel) (by decide +kernel), clRX2, by decide⟩
theorem fX2_22 : jfl RX2 22 2 RX2 TX2 4 2 := ⟨Or.inl (tw_of 264 (by decide +kernel) (by decide +kernel)), clRX2, by decide⟩
theorem gX2_22 : Cond.fieldLink RX2 22 (TX2 2).1 (TX2 2).2.1 (TX2 2).2.2.1 ∈ tw ∧ jcl 2 RX2 TX2 4 ∧ 2 < 4 := ⟨tw_of 264 (by decide +kernel) (by decide +kernel), clRX2, by decide⟩
theorem fX9_112 : jfl RX9 112 2 RX2 TX2 4 2 := ⟨Or.inr ⟨"FoldKeeper", List.mem_filter.mpr ⟨List.mem_of_getElem? (i := 265) (by decide +kernel), rfl⟩⟩, clRX2, by decide⟩
theorem fX2_18 : jfl RX2 18 2 RX2 TX2 4 3 := ⟨Or.inl (tw_of 266 (by decide +kernel) (by decide +kernel)), clRX2, by decide⟩
theorem gX2_18 : Cond.fieldLink RX2 18 (TX2 3).1 (TX2 3).2.1 (TX2 3).2.2.1 ∈ tw ∧ jcl 2 RX2 TX2 4 ∧ 3 < 4 := ⟨tw_of 266 (by decide +kernel) (by decide +kernel), clRX2, by decide⟩
theorem fX9_115 : jfl RX9 115 2 RX2 TX2 4 3 := ⟨Or.inr ⟨"FoldKeeper", List.mem_filter.mpr ⟨List.mem_of_getElem? (i := 267) (by decide +kernel), rfl⟩⟩, clRX2, by decide⟩
theorem fX4_9 : jfl RX4 9 4 RX4 TX4 4 0 := ⟨Or.inl (tw_of 286 (by decide +kernel) (by decide +kernel)), clRX4, by decide⟩
theorem gX4_9 : Cond.fieldLink RX4 9 (TX4 0).1 (TX4 0).2.1 (TX4 0).2.2.1 ∈ tw ∧ jcl 4 RX4 TX4 4 ∧ 0 < 4 := ⟨tw_of 286 (by decide +kernel) (by decide +kernel), clRX4, by decide⟩
theorem fX9_253 : jfl RX9 253 4 RX4 TX4 4 0 := ⟨Or.inr ⟨"FoldKeeper", List.mem_filter.mpr ⟨List.mem_of_getElem? (i := 287) (by decide +kernel), rfl⟩⟩, clRX4, by decide⟩
theorem fX4_15 : jfl RX4 15 4 RX4 TX4 4 1 := ⟨Or.inl (tw_of 288 (by decide +kernel) (by decide +kernel)), clRX4, by decide⟩
theorem gX4_15 : Cond.fieldLink RX4 15 (TX4 1).1 (TX4 1).2.1 (TX4 1).2.2.1 ∈ tw ∧ jcl 4 RX4 TX4 4 ∧ 1 < 4 := ⟨tw_of 288 (by decide +kernel) (by decide +kernel), clRX4, by decide⟩
theorem fX9_259 : jfl RX9 259 4 RX4 TX4 4 1 := ⟨Or.inr ⟨"FoldKeeper", List.mem_filter.mpr ⟨List.mem_of_getElem? (i := 289) (by decide +kernel), rfl⟩⟩, clRX4, by decide⟩
theorem fX4_19 : jfl RX4 19 4 RX4 TX4 4 2 := ⟨Or.inl (tw_of 290 (by decide +kernel) (by decide +kernel)), clRX4, by decide⟩
theorem gX4_19 : Cond.fieldLink RX4 19 (TX4 2).1 (TX4 2).2.1 (TX4 2).2.2.1 ∈ tw ∧ jcl 4 RX4 TX4 4 ∧ 2 < 4 := ⟨tw_of 290 (by decide +kernel) (by decide +kernel), clRX4, by decide⟩
theorem fX9_244 : jfl RX9 244 4 RX4 TX4 4 2 := ⟨Or.inr ⟨"FoldKeeper", List.mem_filter.mpr ⟨List.mem_of_getElem? (i := 291) (by decide +kernel), rfl⟩⟩, clRX4, by decide⟩
theorem fX4_23 : jfl RX4 23 4 RX4 TX4 4 3 := ⟨Or.inl (tw_of 292 (by decide +kernel) (by decide +kernel)), clRX4, by decide⟩
theorem gX4_23 : Cond.fieldLink RX4 23 (TX4 3).1 (TX4 3).2.1 (TX4 3).2.2.1 ∈ tw ∧ jcl 4 RX4 TX4 4 ∧ 3 < 4 := ⟨tw_of 292 (by decide +kernel) (by decide +kernel), clRX4, by decide⟩
theorem fX9_263 : jfl RX9 263 4 RX4 TX4 4 3 := ⟨Or.inr ⟨"FoldKeeper", List.mem_filter.mpr ⟨List.mem_of_getElem? (i := 293) (by decide +kernel), rfl⟩⟩, clRX4, by decide⟩
theorem fX9_10 : jfl RX9 10 8 RX9 TX9 9 0 := ⟨Or.inl (tw_of 303 (by decide +kernel) (by decide +kernel)), clRX9, by decide⟩
theorem gX9_10 : Cond.fieldLink RX9 10 (TX9 0).1 (TX9 0).2.1 (TX9 0).2.2.1 ∈ tw ∧ jcl 8 RX9 TX9 9 ∧ 0 < 9 := ⟨tw_of 303 (by decide +kernel) (by decide +kernel), clRX9, by decide⟩
theorem fX9_20 : jfl RX9 20 8 RX9 TX9 9 1 := ⟨Or.inl (tw_of 304 (by decide +kernel) (by decide +kernel)), clRX9, by decide⟩
theorem gX9_20 : Cond.fieldLink RX9 20 (TX9 1).1 (TX9 1).2.1 (TX9 1).2.2.1 ∈ tw ∧ jcl 8 RX9 TX9 9 ∧ 1 < 9 := ⟨tw_of 304 (by decide +kernel) (by decide +kernel), clRX9, by decide⟩
theorem fX9_24 : jfl RX9 24 8 RX9 TX9 9 2 := ⟨Or.inl (tw_of 305 (by decide +kernel) (by decide +kernel)), clRX9, by decide⟩
theorem gX9_24 : Cond.fieldLink RX9 24 (TX9 2).1 (TX9 2).2.1 (TX9 2).2.2.1 ∈ tw ∧ jcl 8 RX9 TX9 9 ∧ 2 < 9 := ⟨tw_of 305 (by decide +kernel) (by decide +kernel), clRX9, by decide⟩
theorem fX9_32 : jfl RX9 32 8 RX9 TX9 9 3 := ⟨Or.inl (tw_of 306 (by decide +kernel) (by decide +kernel)), clRX9, by decide⟩
theorem gX9_32 : Cond.fieldLink RX9 32 (TX9 3).1 (TX9 3).2.1 (TX9 3).2.2.1 ∈ tw ∧ jcl 8 RX9 TX9 9 ∧ 3 < 9 := ⟨tw_of 306 (by decide +kernel) (by decide +kernel), clRX9, by decide⟩
theorem fX9_36 : jfl RX9 36 8 RX9 TX9 9 4 := ⟨Or.inl (tw_of 307 (by decide +kernel) (by decide +kernel)), clRX9, by decide⟩
theorem gX9_36 : Cond.fieldLink RX9 36 (TX9 4).1 (TX9 4).2.1 (TX9 4).2.2.1 ∈ tw ∧ jcl 8 RX9 TX9 9 ∧ 4 < 9 := ⟨tw_of 307 (by decide +kernel) (by decide +kernel), clRX9, by decide⟩
theorem fX9_42 : jfl RX9 42 8 RX9 TX9 9 5 := ⟨Or.inl (tw_of 308 (by decide +kernel) (by decide +kernel)), clRX9, by decide⟩
theorem gX9_42 : Cond.fieldLink RX9 42 (TX9 5).1 (TX9 5).2.1 (TX9 5).2.2.1 ∈ tw ∧ jcl 8 RX9 TX9 9 ∧ 5 < 9 := ⟨tw_of 308 (by decide +kernel) (by decide +kernel), clRX9, by decide⟩
theorem fX9_47 : jfl RX9 47 8 RX9 TX9 9 6 := ⟨Or.inl (tw_of 309 (by decide +kernel) (by decide +kernel)), clRX9, by decide⟩
theorem gX9_47 : Cond.fieldLink RX9 47 (TX9 6).1 (TX9 6).2.1 (TX9 6).2.2.1 ∈ tw ∧ jcl 8 RX9 TX9 9 ∧ 6 < 9 := ⟨tw_of 309 (by decide +kernel) (by decide +kernel), clRX9, by decide⟩
theorem fX9_53 : jfl RX9 53 8 RX9 TX9 9 7 := ⟨Or.inl (tw_of 310 (by decide +kernel) (by decide +kernel)), clRX9, by decide⟩
theorem gX9_53 : Cond.fieldLink RX9 53 (TX9 7).1 (TX9 7).2.1 (TX9 7).2.2.1 ∈ tw ∧ jcl 8 RX9 TX9 9 ∧ 7 < 9 := ⟨tw_of 310 (by decide +kernel) (by decide +kernel), clRX9, by decide⟩
theorem fX9_256 : jfl RX9 256 8 RX9 TX9 9 8 := ⟨Or.inl (tw_of 311 (by decide +kernel) (by decide +kernel)), clRX9, by decide⟩
theorem gX9_256 : Cond.fieldLink RX9 256 (TX9 8).1 (TX9 8).2.1 (TX9 8).2.2.1 ∈ tw ∧ jcl 8 RX9 TX9 9 ∧ 8 < 9 := ⟨tw_of 311 (by decide +kernel) (by decide +kernel), clRX9, by decide⟩
theorem sJ0_38 : Cond.fieldLink RJ0 38 "java/lang/String" "COMPACT_STRINGS" "Z" ∈ tw := tw_of 459 (by decide +kernel) (by decide +kernel)
theorem sJ0_1053 : Cond.fieldLink RJ0 1053 "jdk/internal/util/Preconditions" "SIOOBE_FORMATTER" "Ljava/util/function/BiFunction;" ∈ tw := tw_of 475 (by decide +kernel) (by decide +kernel)
theorem sJ2_44 : Cond.fieldLink RJ2 44 "java/lang/StringUTF16" "$assertionsDisabled" "Z" ∈ tw := tw_of 493 (by decide +kernel) (by decide +kernel)
theorem sJ2_59 : Cond.fieldLink RJ2 59 "java/lang/StringUTF16" "HI_BYTE_SHIFT" "I" ∈ tw := tw_of 495 (by decide +kernel) (by decide +kernel)
theorem sJ2_63 : Cond.fieldLink RJ2 63 "java/lang/StringUTF16" "LO_BYTE_SHIFT" "I" ∈ tw := tw_of 497 (by decide +kernel) (by decide +kernel)
theorem sX9_221 : Cond.fieldLink RX9 221 "FoldKeeper" "GROWN" "[C" ∈ tw := tw_of 784 (by decide +kernel) (by decide +kernel)
theorem fX10_7 : jfl RX10 7 9 RX10 TX10 31 0 := ⟨Or.inl (tw_of 864 (by decide +kernel) (by decide +kernel)), clRX10, by decide⟩
theorem gX10_7 : Cond.fieldLink RX10 7 (TX10 0).1 (TX10 0).2.1 (TX10 0).2.2.1 ∈ tw ∧ jcl 9 RX10 TX10 31 ∧ 0 < 31 := ⟨tw_of 864 (by decide +kernel) (by decide +kernel), clRX10, by decide⟩
theorem fX10_13 : jfl RX10 13 9 RX10 TX10 31 1 := ⟨Or.inl (tw_of 865 (by decide +kernel) (by decide +kernel)), clRX10, by decide⟩
theorem gX10_13 : Cond.fieldLink RX10 13 (TX10 1).1 (TX10 1).2.1 (TX10 1).2.2.1 ∈ tw ∧ jcl 9 RX10 TX10 31 ∧ 1 < 31 := ⟨tw_of 865 (by decide +kernel) (by decide +kernel), clRX10, by decide⟩
theorem fX10_65 : jfl RX10 65 9 RX10 TX10 31 2 := ⟨Or.inl (tw_of 866 (by decide +kernel) (by decide +kernel)), clRX10, by decide⟩
theorem gX10_65 : Cond.fieldLink RX10 65 (TX10 2).1 (TX10 2).2.1 (TX10 2).2.2.1 ∈ tw ∧ jcl 9 RX10 TX10 31 ∧ 2 < 31 := ⟨tw_of 866 (by decide +kernel) (by decide +kernel), clRX10, by decide⟩
theorem fX10_152 : jfl RX10 152 9 RX10 TX10 31 3 := ⟨Or.inl (tw_of 867 (by decide +kernel) (by decide +kernel)), clRX10, by decide⟩
theorem gX10_152 : Cond.fieldLink RX10 152 (TX10 3).1 (TX10 3).2.1 (TX10 3).2.2.1 ∈ tw ∧ jcl 9 RX10 TX10 31 ∧ 3 < 31 := ⟨tw_of 867 (by decide +kernel) (by decide +kernel), clRX10, by decide⟩
theorem fX10_69 : jfl RX10 69 9 RX10 TX10 31 4 := ⟨Or.inl (tw_of 868 (by decide +kernel) (by decide +kernel)), clRX10, by decide⟩
theorem gX10_69 : Cond.fieldLink RX10 69 (TX10 4).1 (TX10 4).2.1 (TX10 4).2.2.1 ∈ tw ∧ jcl 9 RX10 TX10 31 ∧ 4 < 31 := ⟨tw_of 868 (by decide +kernel) (by decide +kernel), clRX10, by decide⟩
theorem fX10_75 : jfl RX10 75 9 RX10 TX10 31 5 := ⟨Or.inl (tw_of 869 (by decide +kernel) (by decide +kernel)), clRX10, by decide⟩
theorem gX10_75 : Cond.fieldLink RX10 75 (TX10 5).1 (TX10 5).2.1 (TX10 5).2.2.1 ∈ tw ∧ jcl 9 RX10 TX10 31 ∧ 5 < 31 := ⟨tw_of 869 (by decide +kernel) (by decide +kernel), clRX10, by decide⟩
theorem fX10_89 : jfl RX10 89 9 RX10 TX10 31 6 := ⟨Or.inl (tw_of 870 (by decide +kernel) (by decide +kernel)), clRX10, by decide⟩
theorem gX10_89 : Cond.fieldLink RX10 89 (TX10 6).1 (TX10 6).2.1 (TX10 6).2.2.1 ∈ tw ∧ jcl 9 RX10 TX10 31 ∧ 6 < 31 := ⟨tw_of 870 (by decide +kernel) (by decide +kernel), clRX10, by decide⟩
theorem fX10_72 : jfl RX10 72 9 RX10 TX10 31 7 := ⟨Or.inl (tw_of 871 (by decide +kernel) (by decide +kernel)), clRX10, by decide⟩
theorem gX10_72 : Cond.fieldLink RX10 72 (TX10 7).1 (TX10 7).2.1 (TX10 7).2.2.1 ∈ tw ∧ jcl 9 RX10 TX10 31 ∧ 7 < 31 := ⟨tw_of 871 (by decide +kernel) (by decide +kernel), clRX10, by decide⟩
theorem fX10_86 : jfl RX10 86 9 RX10 TX10 31 8 := ⟨Or.inl (tw_of 872 (by decide +kernel) (by decide +kernel)), clRX10, by decide⟩
theorem gX10_86 : Cond.fieldLink RX10 86 (TX10 8).1 (TX10 8).2.1 (TX10 8).2.2.1 ∈ tw ∧ jcl 9 RX10 TX10 31 ∧ 8 < 31 := ⟨tw_of 872 (by decide +kernel) (by decide +kernel), clRX10, by decide⟩
theorem fX10_109 : jfl RX10 109 9 RX10 TX10 31 9 := ⟨Or.inl (tw_of 873 (by decide +kernel) (by decide +kernel)), clRX10, by decide⟩
theorem gX10_109 : Cond.fieldLink RX10 109 (TX10 9).1 (TX10 9).2.1 (TX10 9).2.2.1 ∈ tw ∧ jcl 9 RX10 TX10 31 ∧ 9 < 31 := ⟨tw_of 873 (by decide +kernel) (by decide +kernel), clRX10, by decide⟩
theorem fX10_139 : jfl RX10 139 9 RX10 TX10 31 10 := ⟨Or.inl (tw_of 874 (by decide +kernel) (by decide +kernel)), clRX10, by decide⟩
theorem gX10_139 : Cond.fieldLink RX10 139 (TX10 10).1 (TX10 10).2.1 (TX10 10).2.2.1 ∈ tw ∧ jcl 9 RX10 TX10 31 ∧ 10 < 31 := ⟨tw_of 874 (by decide +kernel) (by decide +kernel), clRX10, by decide⟩
theorem fX10_119 : jfl RX10 119 9 RX10 TX10 31 11 := ⟨Or.inl (tw_of 875 (by decide +kernel) (by decide +kernel)), clRX10, by decide⟩
theorem gX10_119 : Cond.fieldLink RX10 119 (TX10 11).1 (TX10 11).2.1 (TX10 11).2.2.1 ∈ tw ∧ jcl 9 RX10 TX10 31 ∧ 11 < 31 := ⟨tw_of 875 (by decide +kernel) (by decide +kernel), clRX10, by decide⟩
theorem fX10_102 : jfl RX10 102 9 RX10 TX10 31 12 := ⟨Or.inl (tw_of 876 (by decide +kernel) (by decide +kernel)), clRX10, by decide⟩
theorem gX10_102 : Cond.fieldLink RX10 102 (TX10 12).1 (TX10 12).2.1 (TX10 12).2.2.1 ∈ tw ∧ jcl 9 RX10 TX10 31 ∧ 12 < 31 := ⟨tw_of 876 (by decide +kernel) (by decide +kernel), clRX10, by decide⟩
theorem fX10_95 : jfl RX10 95 9 RX10 TX10 31 13 := ⟨Or.inl (tw_of 877 (by decide +kernel) (by decide +kernel)), clRX10, by decide⟩
theorem gX10_95 : Cond.fieldLink RX10 95 (TX10 13).1 (TX10 13).2.1 (TX10 13).2.2.1 ∈ tw ∧ jcl 9 RX10 TX10 31 ∧ 13 < 31 := ⟨tw_of 877 (by decide +kernel) (by decide +kernel), clRX10, by decide⟩
theorem fX10_16 : jfl RX10 16 9 RX10 TX10 31 14 := ⟨Or.inl (tw_of 878 (by decide +kernel) (by decide +kernel)), clRX10, by decide⟩
theorem gX10_16 : Cond.fieldLink RX10 16 (TX10 14).1 (TX10 14).2.1 (TX10 14).2.2.1 ∈ tw ∧ jcl 9 RX10 TX10 31 ∧ 14 < 31 := ⟨tw_of 878 (by decide +kernel) (by decide +kernel), clRX10, by decide⟩
theorem fX10_19 : jfl RX10 19 9 RX10 TX10 31 15 := ⟨Or.inl (tw_of 879 (by decide +kernel) (by decide +kernel)), clRX10, by decide⟩
theorem gX10_19 : Cond.fieldLink RX10 19 (TX10 15).1 (TX10 15).2.1 (TX10 15).2.2.1 ∈ tw ∧ jcl 9 RX10 TX10 31 ∧ 15 < 31 := ⟨tw_of 879 (by decide +kernel) (by decide +kernel), clRX10, by decide⟩
theorem fX10_22 : jfl RX10 22 9 RX10 TX10 31 16 := ⟨Or.inl (tw_of 880 (by decide +kernel) (by decide +kernel)), clRX10, by decide⟩
theorem gX10_22 : Cond.fieldLink RX10 22 (TX10 16).1 (TX10 16).2.1 (TX10 16).2.2.1 ∈ tw ∧ jcl 9 RX10 TX10 31 ∧ 16 < 31 := ⟨tw_of 880 (by decide +kernel) (by decide +kernel), clRX10, by decide⟩
theorem fX10_25 : jfl RX10 25 9 RX10 TX10 31 17 := ⟨Or.inl (tw_of 881 (by decide +kernel) (by decide +kernel)), clRX10, by decide⟩
theorem gX10_25 : Cond.fieldLink RX10 25 (TX10 17).1 (TX10 17).2.1 (TX10 17).2.2.1 ∈ tw ∧ jcl 9 RX10 TX10 31 ∧ 17 < 31 := ⟨tw_of 881 (by decide +kernel) (by decide +kernel), clRX10, by decide⟩
theorem fX10_28 : jfl RX10 28 9 RX10 TX10 31 18 := ⟨Or.inl (tw_of 882 (by decide +kernel) (by decide +kernel)), clRX10, by decide⟩
theorem gX10_28 : Cond.fieldLink RX10 28 (TX10 18).1 (TX10 18).2.1 (TX10 18).2.2.1 ∈ tw ∧ jcl 9 RX10 TX10 31 ∧ 18 < 31 := ⟨tw_of 882 (by decide +kernel) (by decide +kernel), clRX10, by decide⟩
theorem fX10_31 : jfl RX10 31 9 RX10 TX10 31 19 := ⟨Or.inl (tw_of 883 (by decide +kernel) (by decide +kernel)), clRX10, by decide⟩
theorem gX10_31 : Cond.fieldLink RX10 31 (TX10 19).1 (TX10 19).2.1 (TX10 19).2.2.1 ∈ tw ∧ jcl 9 RX10 TX10 31 ∧ 19 < 31 := ⟨tw_of 883 (by decide +kernel) (by decide +kernel), clRX10, by decide⟩
theorem fX10_34 : jfl RX10 34 9 RX10 TX10 31 20 := ⟨Or.inl (tw_of 884 (by decide +kernel) (by decide +kernel)), clRX10, by decide⟩
theorem gX10_34 : Cond.fieldLink RX10 34 (TX10 20).1 (TX10 20).2.1 (TX10 20).2.2.1 ∈ tw ∧ jcl 9 RX10 TX10 31 ∧ 20 < 31 := ⟨tw_of 884 (by decide +kernel) (by decide +kernel), clRX10, by decide⟩
theorem fX10_37 : jfl RX10 37 9 RX10 TX10 31 21 := ⟨Or.inl (tw_of 885 (by decide +kernel) (by decide +kernel)), clRX10, by decide⟩
theorem gX10_37 : Cond.fieldLink RX10 37 (TX10 21).1 (TX10 21).2.1 (TX10 21).2.2.1 ∈ tw ∧ jcl 9 RX10 TX10 31 ∧ 21 < 31 := ⟨tw_of 885 (by decide +kernel) (by decide +kernel), clRX10, by decide⟩
theorem fX10_40 : jfl RX10 40 9 RX10 TX10 31 22 := ⟨Or.inl (tw_of 886 (by decide +kernel) (by decide +kernel)), clRX10, by decide⟩
theorem gX10_40 : Cond.fieldLink RX10 40 (TX10 22).1 (TX10 22).2.1 (TX10 22).2.2.1 ∈ tw ∧ jcl 9 RX10 TX10 31 ∧ 22 < 31 := ⟨tw_of 886 (by decide +kernel) (by decide +kernel), clRX10, by decide⟩
theorem fX10_159 : jfl RX10 159 9 RX10 TX10 31 23 := ⟨Or.inl (tw_of 887 (by decide +kernel) (by decide +kernel)), clRX10, by decide⟩
theorem gX10_159 : Cond.fieldLink RX10 159 (TX10 23).1 (TX10 23).2.1 (TX10 23).2.2.1 ∈ tw ∧ jcl 9 RX10 TX10 31 ∧ 23 < 31 := ⟨tw_of 887 (by decide +kernel) (by decide +kernel), clRX10, by decide⟩
theorem fX10_162 : jfl RX10 162 9 RX10 TX10 31 24 := ⟨Or.inl (tw_of 888 (by decide +kernel) (by decide +kernel)), clRX10, by decide⟩
theorem gX10_162 : Cond.fieldLink RX10 162 (TX10 24).1 (TX10 24).2.1 (TX10 24).2.2.1 ∈ tw ∧ jcl 9 RX10 TX10 31 ∧ 24 < 31 := ⟨tw_of 888 (by decide +kernel) (by decide +kernel), clRX10, by decide⟩
theorem fX10_43 : jfl RX10 43 9 RX10 TX10 31 25 := ⟨Or.inl (tw_of 889 (by decide +kernel) (by decide +kernel)), clRX10, by decide⟩
theorem gX10_43 : Cond.fieldLink RX10 43 (TX10 25).1 (TX10 25).2.1 (TX10 25).2.2.1 ∈ tw ∧ jcl 9 RX10 TX10 31 ∧ 25 < 31 := ⟨tw_of 889 (by decide +kernel) (by decide +kernel), clRX10, by decide⟩
theorem fX10_46 : jfl RX10 46 9 RX10 TX10 31 26 := ⟨Or.inl (tw_of 890 (by decide +kernel) (by decide +kernel)), clRX10, by decide⟩
theorem gX10_46 : Cond.fieldLink RX10 46 (TX10 26).1 (TX10 26).2.1 (TX10 26).2.2.1 ∈ tw ∧ jcl 9 RX10 TX10 31 ∧ 26 < 31 := ⟨tw_of 890 (by decide +kernel) (by decide +kernel), clRX10, by decide⟩
theorem fX10_50 : jfl RX10 50 9 RX10 TX10 31 27 := ⟨Or.inl (tw_of 891 (by decide +kernel) (by decide +kernel)), clRX10, by decide⟩
theorem gX10_50 : Cond.fieldLink RX10 50 (TX10 27).1 (TX10 27).2.1 (TX10 27).2.2.1 ∈ tw ∧ jcl 9 RX10 TX10 31 ∧ 27 < 31 := ⟨tw_of 891 (by decide +kernel) (by decide +kernel), clRX10, by decide⟩
theorem fX10_53 : jfl RX10 53 9 RX10 TX10 31 28 := ⟨Or.inl (tw_of 892 (by decide +kernel) (by decide +kernel)), clRX10, by decide⟩
theorem gX10_53 : Cond.fieldLink RX10 53 (TX10 28).1 (TX10 28).2.1 (TX10 28).2.2.1 ∈ tw ∧ jcl 9 RX10 TX10 31 ∧ 28 < 31 := ⟨tw_of 892 (by decide +kernel) (by decide +kernel), clRX10, by decide⟩
theorem fX10_56 : jfl RX10 56 9 RX10 TX10 31 29 := ⟨Or.inl (tw_of 893 (by decide +kernel) (by decide +kernel)), clRX10, by decide⟩
theorem gX10_56 : Cond.fieldLink RX10 56 (TX10 29).1 (TX10 29).2.1 (TX10 29).2.2.1 ∈ tw ∧ jcl 9 RX10 TX10 31 ∧ 29 < 31 := ⟨tw_of 893 (by decide +kernel) (by decide +kernel), clRX10, by decide⟩
theorem fX10_272 : jfl RX10 272 9 RX10 TX10 31 30 := ⟨Or.inl (tw_of 894 (by decide +kernel) (by decide +kernel)), clRX10, by decide⟩
theorem gX10_272 : Cond.fieldLink RX10 272 (TX10 30).1 (TX10 30).2.1 (TX10 30).2.2.1 ∈ tw ∧ jcl 9 RX10 TX10 31 ∧ 30 < 31 := ⟨tw_of 894 (by decide +kernel) (by decide +kernel), clRX10, by decide⟩
theorem sJ0_9 : Cond.fieldLink RJ0 9 "java/lang/String" "value" "[B" ∈ tw := tw_of 1266 (by decide +kernel) (by decide +kernel)
theorem sJ0_15 : Cond.fieldLink RJ0 15 "java/lang/String" "coder" "B" ∈ tw := tw_of 1267 (by decide +kernel) (by decide +kernel)
theorem B_X9_init : okB yX9_init cX9_init 2 none 0 := ⟨tw_of 84 (by decide +kernel) (by decide +kernel), tw_of 63 (by decide +kernel) (by decide +kernel), by decide +kernel, by decide +kernel, by decide +kernel⟩
theorem mL_9 : okI RL 9 yX9_init cX9_init 2 0 := ⟨B_X9_init, Or.inl (tw_of 82 (by decide +kernel) (by decide +kernel)), tw_of 83 (by decide +kernel) (by decide +kernel), rfl⟩
theorem mX9_1 : Cond.methodLink RX9 1 objectInit ∈ tw := tw_of 85 (by decide +kernel) (by decide +kernel)
theorem B_X7_init : okB yX7_init cX7_init 1 none 0 := ⟨tw_of 92 (by decide +kernel) (by decide +kernel), tw_of 64 (by decide +kernel) (by decide +kernel), by decide +kernel, by decide +kernel, by decide +kernel⟩
theorem mX9_9 : okI RX9 9 yX7_init cX7_init 1 0 := ⟨B_X7_init, Or.inl (tw_of 90 (by decide +kernel) (by decide +kernel)), tw_of 91 (by decide +kernel) (by decide +kernel), rfl⟩
theorem mX7_3 : Cond.methodLink RX7 3 objectInit ∈ tw := tw_of 93 (by decide +kernel) (by decide +kernel)
theorem B_X8_init : okB yX8_init cX8_init 1 none 0 := ⟨tw_of 98 (by decide +kernel) (by decide +kernel), tw_of 65 (by decide +kernel) (by decide +kernel), by decide +kernel, by decide +kernel, by decide +kernel⟩
theorem mX7_11 : okI RX7 11 yX8_init cX8_init 1 0 := ⟨B_X8_init, Or.inl (tw_of 96 (by decide +kernel) (by decide +kernel)), tw_of 97 (by decide +kernel) (by decide +kernel), rfl⟩
theorem mX8_1 : Cond.methodLink RX8 1 objectInit ∈ tw := tw_of 99 (by decide +kernel) (by decide +kernel)
theorem B_X6_init : okB yX6_init cX6_init 1 none 0 := ⟨tw_of 104 (by decide +kernel) (by decide +kernel), tw_of 66 (by decide +kernel) (by decide +kernel), by decide +kernel, by decide +kernel, by decide +kernel⟩
theorem mX8_9 : okI RX8 9 yX6_init cX6_init 1 0 := ⟨B_X6_init, Or.inl (tw_of 102 (by decide +kernel) (by decide +kernel)), tw_of 103 (by decide +kernel) (by decide +kernel), rfl⟩
theorem mX6_3 : Cond.methodLink RX6 3 objectInit ∈ tw := tw_of 105 (by decide +kernel) (by decide +kernel)
theorem B_X0_init : okB yX0_init cX0_init 1 none 0 := ⟨tw_of 123 (by decide +kernel) (by decide +kernel), tw_of 67 (by decide +kernel) (by decide +kernel), by decide +kernel, by decide +kernel, by decide +kernel⟩
theorem mX8_18 : okI RX8 18 yX0_init cX0_init 1 0 := ⟨B_X0_init, Or.inr ⟨"FoldKeeper", List.mem_filter.mpr ⟨List.mem_of_getElem? (i := 121) (by decide +kernel), rfl⟩⟩, tw_of 122 (by decide +kernel) (by decide +kernel), rfl⟩
theorem mX0_3 : Cond.methodLink RX0 3 objectInit ∈ tw := tw_of 124 (by decide +kernel) (by decide +kernel)
theorem B_X3_init : okB yX3_init cX3_init 1 none 0 := ⟨tw_of 172 (by decide +kernel) (by decide +kernel), tw_of 68 (by decide +kernel) (by decide +kernel), by decide +kernel, by decide +kernel, by decide +kernel⟩
theorem mX7_30 : okI RX7 30 yX3_init cX3_init 1 0 := ⟨B_X3_init, Or.inl (tw_of 170 (by decide +kernel) (by decide +kernel)), tw_of 171 (by decide +kernel) (by decide +kernel), rfl⟩
theorem mX3_3 : Cond.methodLink RX3 3 objectInit ∈ tw := tw_of 173 (by decide +kernel) (by decide +kernel)
theorem B_X1_init : okB yX1_init cX1_init 1 none 0 := ⟨tw_of 217 (by decide +kernel) (by decide +kernel), tw_of 69 (by decide +kernel) (by decide +kernel), by decide +kernel, by decide +kernel, by decide +kernel⟩
theorem mX9_23 : okI RX9 23 yX1_init cX1_init 1 0 := ⟨B_X1_init, Or.inl (tw_of 215 (by decide +kernel) (by decide +kernel)), tw_of 216 (by decide +kernel) (by decide +kernel), rfl⟩
theorem mX1_3 : Cond.methodLink RX1 3 objectInit ∈ tw := tw_of 218 (by decide +kernel) (by decide +kernel)
theorem mX1_11 : okI RX1 11 yX3_init cX3_init 1 0 := ⟨B_X3_init, Or.inl (tw_of 220 (by decide +kernel) (by decide +kernel)), tw_of 171 (by decide +kernel) (by decide +kernel), rfl⟩
theorem B_X2_init : okB yX2_init cX2_init 2 none 0 := ⟨tw_of 257 (by decide +kernel) (by decide +kernel), tw_of 70 (by decide +kernel) (by decide +kernel), by decide +kernel, by decide +kernel, by decide +kernel⟩
theorem mX9_35 : okI RX9 35 yX2_init cX2_init 2 0 := ⟨B_X2_init, Or.inl (tw_of 255 (by decide +kernel) (by decide +kernel)), tw_of 256 (by decide +kernel) (by decide +kernel), rfl⟩
theorem mX2_3 : Cond.methodLink RX2 3 objectInit ∈ tw := tw_of 258 (by decide +kernel) (by decide +kernel)
theorem mX2_17 : okI RX2 17 yX3_init cX3_init 1 0 := ⟨B_X3_init, Or.inl (tw_of 261 (by decide +kernel) (by decide +kernel)), tw_of 171 (by decide +kernel) (by decide +kernel), rfl⟩
theorem mX9_46 : okI RX9 46 yX3_init cX3_init 1 0 := ⟨B_X3_init, Or.inl (tw_of 278 (by decide +kernel) (by decide +kernel)), tw_of 171 (by decide +kernel) (by decide +kernel), rfl⟩
theorem B_X4_init : okB yX4_init cX4_init 1 none 0 := ⟨tw_of 284 (by decide +kernel) (by decide +kernel), tw_of 71 (by decide +kernel) (by decide +kernel), by decide +kernel, by decide +kernel, by decide +kernel⟩
theorem mX9_57 : okI RX9 57 yX4_init cX4_init 1 0 := ⟨B_X4_init, Or.inl (tw_of 282 (by decide +kernel) (by decide +kernel)), tw_of 283 (by decide +kernel) (by decide +kernel), rfl⟩
theorem mX4_3 : Cond.methodLink RX4 3 objectInit ∈ tw := tw_of 285 (by decide +kernel) (by decide +kernel)
theorem B_X9_feed : okB yX9_feed cX9_feed 2 (some .int) 1 := ⟨tw_of 334 (by decide +kernel) (by decide +kernel), tw_of 63 (by decide +kernel) (by decide +kernel), by decide +kernel, by decide +kernel, by decide +kernel⟩
theorem mL_13 : okV RL 13 yX9_feed cX9_feed 2 (some .int) 1 := ⟨B_X9_feed, tw_of 331 (by decide +kernel) (by decide +kernel), tw_of 332 (by decide +kernel) (by decide +kernel), tw_of 333 (by decide +kernel) (by decide +kernel)⟩
theorem B_X6_append : okB yX6_append cX6_append 2 none 1 := ⟨tw_of 338 (by decide +kernel) (by decide +kernel), tw_of 66 (by decide +kernel) (by decide +kernel), by decide +kernel, by decide +kernel, by decide +kernel⟩
theorem mX9_64 : okV RX9 64 yX6_append cX6_append 2 none 1 := ⟨B_X6_append, tw_of 335 (by decide +kernel) (by decide +kernel), tw_of 336 (by decide +kernel) (by decide +kernel), tw_of 337 (by decide +kernel) (by decide +kernel)⟩
theorem B_X9_end : okB yX9_end cX9_end 3 (some .int) 1 := ⟨tw_of 342 (by decide +kernel) (by decide +kernel), tw_of 63 (by decide +kernel) (by decide +kernel), by decide +kernel, by decide +kernel, by decide +kernel⟩
theorem mL_18 : okV RL 18 yX9_end cX9_end 3 (some .int) 1 := ⟨B_X9_end, tw_of 339 (by decide +kernel) (by decide +kernel), tw_of 340 (by decide +kernel) (by decide +kernel), tw_of 341 (by decide +kernel) (by decide +kernel)⟩
theorem B_X6_shorten : okB yX6_shorten cX6_shorten 2 none 1 := ⟨tw_of 346 (by decide +kernel) (by decide +kernel), tw_of 66 (by decide +kernel) (by decide +kernel), by decide +kernel, by decide +kernel, by decide +kernel⟩
theorem mX9_68 : okV RX9 68 yX6_shorten cX6_shorten 2 none 1 := ⟨B_X6_shorten, tw_of 343 (by decide +kernel) (by decide +kernel), tw_of 344 (by decide +kernel) (by decide +kernel), tw_of 345 (by decide +kernel) (by decide +kernel)⟩
theorem B_X9_text : okB yX9_text cX9_text 3 (some .int) 0 := ⟨tw_of 350 (by decide +kernel) (by decide +kernel), tw_of 63 (by decide +kernel) (by decide +kernel), by decide +kernel, by decide +kernel, by decide +kernel⟩
theorem mL_22 : okV RL 22 yX9_text cX9_text 3 (some .int) 0 := ⟨B_X9_text, tw_of 347 (by decide +kernel) (by decide +kernel), tw_of 348 (by decide +kernel) (by decide +kernel), tw_of 349 (by decide +kernel) (by decide +kernel)⟩
theorem B_X7_takeText : okB yX7_takeText cX7_takeText 2 (some .boolean) 0 := ⟨tw_of 354 (by decide +kernel) (by decide +kernel), tw_of 64 (by decide +kernel) (by decide +kernel), by decide +kernel, by decide +kernel, by decide +kernel⟩
theorem mX9_71 : okV RX9 71 yX7_takeText cX7_takeText 2 (some .boolean) 0 := ⟨B_X7_takeText, tw_of 351 (by decide +kernel) (by decide +kernel), tw_of 352 (by decide +kernel) (by decide +kernel), tw_of 353 (by decide +kernel) (by decide +kernel)⟩
theorem B_X7_restart : okB yX7_restart cX7_restart 2 none 0 := ⟨tw_of 358 (by decide +kernel) (by decide +kernel), tw_of 64 (by decide +kernel) (by decide +kernel), by decide +kernel, by decide +kernel, by decide +kernel⟩
theorem mX7_39 : okV RX7 39 yX7_restart cX7_restart 2 none 0 := ⟨B_X7_restart, tw_of 355 (by decide +kernel) (by decide +kernel), tw_of 357 (by decide +kernel) (by decide +kernel), tw_of 0 (by decide +kernel) (by decide +kernel)⟩
theorem B_X0_restart : okB yX0_restart cX0_restart 1 none 0 := ⟨tw_of 362 (by decide +kernel) (by decide +kernel), tw_of 67 (by decide +kernel) (by decide +kernel), by decide +kernel, by decide +kernel, by decide +kernel⟩
theorem mX7_73 : okV RX7 73 yX0_restart cX0_restart 1 none 0 := ⟨B_X0_restart, tw_of 359 (by decide +kernel) (by decide +kernel), tw_of 360 (by decide +kernel) (by decide +kernel), tw_of 361 (by decide +kernel) (by decide +kernel)⟩
theorem B_X8_restart : okB yX8_restart cX8_restart 1 none 0 := ⟨tw_of 366 (by decide +kernel) (by decide +kernel), tw_of 65 (by decide +kernel) (by decide +kernel), by decide +kernel, by decide +kernel, by decide +kernel⟩
theorem mX7_74 : okV RX7 74 yX8_restart cX8_restart 1 none 0 := ⟨B_X8_restart, tw_of 363 (by decide +kernel) (by decide +kernel), tw_of 364 (by decide +kernel) (by decide +kernel), tw_of 365 (by decide +kernel) (by decide +kernel)⟩
theorem B_X3_clear : okB yX3_clear cX3_clear 1 none 0 := ⟨tw_of 370 (by decide +kernel) (by decide +kernel), tw_of 68 (by decide +kernel) (by decide +kernel), by decide +kernel, by decide +kernel, by decide +kernel⟩
theorem mX7_75 : okV RX7 75 yX3_clear cX3_clear 1 none 0 := ⟨B_X3_clear, tw_of 367 (by decide +kernel) (by decide +kernel), tw_of 368 (by decide +kernel) (by decide +kernel), tw_of 369 (by decide +kernel) (by decide +kernel)⟩
theorem B_X8_advance : okB yX8_advance cX8_advance 2 (some .boolean) 0 := ⟨tw_of 374 (by decide +kernel) (by decide +kernel), tw_of 65 (by decide +kernel) (by decide +kernel), by decide +kernel, by decide +kernel, by decide +kernel⟩
theorem mX7_42 : okV RX7 42 yX8_advance cX8_advance 2 (some .boolean) 0 := ⟨B_X8_advance, tw_of 371 (by decide +kernel) (by decide +kernel), tw_of 372 (by decide +kernel) (by decide +kernel), tw_of 373 (by decide +kernel) (by decide +kernel)⟩
theorem B_X5_isLetter : okB yX5_isLetter cX5_isLetter 1 (some .boolean) 1 := ⟨tw_of 377 (by decide +kernel) (by decide +kernel), tw_of 73 (by decide +kernel) (by decide +kernel), by decide +kernel, by decide +kernel, by decide +kernel⟩
theorem mX8_40 : okS RX8 40 yX5_isLetter cX5_isLetter 1 (some .boolean) 1 := ⟨B_X5_isLetter, Or.inl (tw_of 375 (by decide +kernel) (by decide +kernel)), tw_of 376 (by decide +kernel) (by decide +kernel)⟩
theorem B_X8_passName : okB yX8_passName cX8_passName 1 (some .boolean) 0 := ⟨tw_of 381 (by decide +kernel) (by decide +kernel), tw_of 65 (by decide +kernel) (by decide +kernel), by decide +kernel, by decide +kernel, by decide +kernel⟩
theorem mX8_46 : okV RX8 46 yX8_passName cX8_passName 1 (some .boolean) 0 := ⟨B_X8_passName, tw_of 378 (by decide +kernel) (by decide +kernel), tw_of 380 (by decide +kernel) (by decide +kernel), tw_of 1 (by decide +kernel) (by decide +kernel)⟩
theorem B_X8_isFigure : okB yX8_isFigure cX8_isFigure 1 (some .boolean) 1 := ⟨tw_of 384 (by decide +kernel) (by decide +kernel), tw_of 65 (by decide +kernel) (by decide +kernel), by decide +kernel, by decide +kernel, by decide +kernel⟩
theorem mX8_50 : okS RX8 50 yX8_isFigure cX8_isFigure 1 (some .boolean) 1 := ⟨B_X8_isFigure, Or.inl (tw_of 382 (by decide +kernel) (by decide +kernel)), tw_of 383 (by decide +kernel) (by decide +kernel)⟩
theorem B_X8_passNumber : okB yX8_passNumber cX8_passNumber 1 (some .boolean) 0 := ⟨tw_of 388 (by decide +kernel) (by decide +kernel), tw_of 65 (by decide +kernel) (by decide +kernel), by decide +kernel, by decide +kernel, by decide +kernel⟩
theorem mX8_53 : okV RX8 53 yX8_passNumber cX8_passNumber 1 (some .boolean) 0 := ⟨B_X8_passNumber, tw_of 385 (by decide +kernel) (by decide +kernel), tw_of 387 (by decide +kernel) (by decide +kernel), tw_of 2 (by decide +kernel) (by decide +kernel)⟩
theorem B_X0_stopAt : okB yX0_stopAt cX0_stopAt 3 (some .boolean) 2 := ⟨tw_of 392 (by decide +kernel) (by decide +kernel), tw_of 67 (by decide +kernel) (by decide +kernel), by decide +kernel, by decide +kernel, by decide +kernel⟩
theorem mX8_65 : okV RX8 65 yX0_stopAt cX0_stopAt 3 (some .boolean) 2 := ⟨B_X0_stopAt, tw_of 389 (by decide +kernel) (by decide +kernel), tw_of 390 (by decide +kernel) (by decide +kernel), tw_of 391 (by decide +kernel) (by decide +kernel)⟩
theorem B_X8_passQuote : okB yX8_passQuote cX8_passQuote 2 (some .boolean) 0 := ⟨tw_of 396 (by decide +kernel) (by decide +kernel), tw_of 65 (by decide +kernel) (by decide +kernel), by decide +kernel, by decide +kernel, by decide +kernel⟩
theorem mX8_56 : okV RX8 56 yX8_passQuote cX8_passQuote 2 (some .boolean) 0 := ⟨B_X8_passQuote, tw_of 393 (by decide +kernel) (by decide +kernel), tw_of 395 (by decide +kernel) (by decide +kernel), tw_of 3 (by decide +kernel) (by decide +kernel)⟩
theorem B_X5_isSign : okB yX5_isSign cX5_isSign 1 (some .boolean) 1 := ⟨tw_of 399 (by decide +kernel) (by decide +kernel), tw_of 73 (by decide +kernel) (by decide +kernel), by decide +kernel, by decide +kernel, by decide +kernel⟩
theorem mX8_69 : okS RX8 69 yX5_isSign cX5_isSign 1 (some .boolean) 1 := ⟨B_X5_isSign, Or.inl (tw_of 397 (by decide +kernel) (by decide +kernel)), tw_of 398 (by decide +kernel) (by decide +kernel)⟩
theorem B_X5_isBracket : okB yX5_isBracket cX5_isBracket 1 (some .boolean) 1 := ⟨tw_of 402 (by decide +kernel) (by decide +kernel), tw_of 73 (by decide +kernel) (by decide +kernel), by decide +kernel, by decide +kernel, by decide +kernel⟩
theorem mX5_9 : okS RX5 9 yX5_isBracket cX5_isBracket 1 (some .boolean) 1 := ⟨B_X5_isBracket, Or.inl (tw_of 400 (by decide +kernel) (by decide +kernel)), tw_of 401 (by decide +kernel) (by decide +kernel)⟩
theorem B_X5_opens : okB yX5_opens cX5_opens 1 (some .boolean) 1 := ⟨tw_of 405 (by decide +kernel) (by decide +kernel), tw_of 73 (by decide +kernel) (by decide +kernel), by decide +kernel, by decide +kernel, by decide +kernel⟩
theorem mX5_18 : okS RX5 18 yX5_opens cX5_opens 1 (some .boolean) 1 := ⟨B_X5_opens, Or.inl (tw_of 403 (by decide +kernel) (by decide +kernel)), tw_of 404 (by decide +kernel) (by decide +kernel)⟩
theorem B_X5_closes : okB yX5_closes cX5_closes 1 (some .boolean) 1 := ⟨tw_of 408 (by decide +kernel) (by decide +kernel), tw_of 73 (by decide +kernel) (by decide +kernel), by decide +kernel, by decide +kernel, by decide +kernel⟩
theorem mX5_21 : okS RX5 21 yX5_closes cX5_closes 1 (some .boolean) 1 := ⟨B_X5_closes, Or.inl (tw_of 406 (by decide +kernel) (by decide +kernel)), tw_of 407 (by decide +kernel) (by decide +kernel)⟩
theorem mX5_15 : okS RX5 15 yX5_isLetter cX5_isLetter 1 (some .boolean) 1 := ⟨B_X5_isLetter, Or.inl (tw_of 409 (by decide +kernel) (by decide +kernel)), tw_of 376 (by decide +kernel) (by decide +kernel)⟩
theorem B_X0_stopInQuote : okB yX0_stopInQuote cX0_stopInQuote 4 (some .boolean) 3 := ⟨tw_of 413 (by decide +kernel) (by decide +kernel), tw_of 67 (by decide +kernel) (by decide +kernel), by decide +kernel, by decide +kernel, by decide +kernel⟩
theorem mX8_72 : okV RX8 72 yX0_stopInQuote cX0_stopInQuote 4 (some .boolean) 3 := ⟨B_X0_stopInQuote, tw_of 410 (by decide +kernel) (by decide +kernel), tw_of 411 (by decide +kernel) (by decide +kernel), tw_of 412 (by decide +kernel) (by decide +kernel)⟩
theorem mX0_27 : okV RX0 27 yX0_stopAt cX0_stopAt 3 (some .boolean) 2 := ⟨B_X0_stopAt, tw_of 414 (by decide +kernel) (by decide +kernel), tw_of 390 (by decide +kernel) (by decide +kernel), tw_of 391 (by decide +kernel) (by decide +kernel)⟩
theorem B_X8_passSemicolon : okB yX8_passSemicolon cX8_passSemicolon 2 (some .boolean) 1 := ⟨tw_of 418 (by decide +kernel) (by decide +kernel), tw_of 65 (by decide +kernel) (by decide +kernel), by decide +kernel, by decide +kernel, by decide +kernel⟩
theorem mX8_59 : okV RX8 59 yX8_passSemicolon cX8_passSemicolon 2 (some .boolean) 1 := ⟨B_X8_passSemicolon, tw_of 415 (by decide +kernel) (by decide +kernel), tw_of 417 (by decide +kernel) (by decide +kernel), tw_of 4 (by decide +kernel) (by decide +kernel)⟩
theorem B_X7_takeMarks : okB yX7_takeMarks cX7_takeMarks 2 (some .boolean) 0 := ⟨tw_of 422 (by decide +kernel) (by decide +kernel), tw_of 64 (by decide +kernel) (by decide +kernel), by decide +kernel, by decide +kernel, by decide +kernel⟩
theorem mX7_53 : okV RX7 53 yX7_takeMarks cX7_takeMarks 2 (some .boolean) 0 := ⟨B_X7_takeMarks, tw_of 419 (by decide +kernel) (by decide +kernel), tw_of 421 (by decide +kernel) (by decide +kernel), tw_of 5 (by decide +kernel) (by decide +kernel)⟩
theorem B_X3_hasSign : okB yX3_hasSign cX3_hasSign 2 (some .boolean) 1 := ⟨tw_of 426 (by decide +kernel) (by decide +kernel), tw_of 68 (by decide +kernel) (by decide +kernel), by decide +kernel, by decide +kernel, by decide +kernel⟩
theorem mX7_135 : okV RX7 135 yX3_hasSign cX3_hasSign 2 (some .boolean) 1 := ⟨B_X3_hasSign, tw_of 423 (by decide +kernel) (by decide +kernel), tw_of 424 (by decide +kernel) (by decide +kernel), tw_of 425 (by decide +kernel) (by decide +kernel)⟩
theorem B_X3_byteAt : okB yX3_byteAt cX3_byteAt 2 (some .int) 1 := ⟨tw_of 430 (by decide +kernel) (by decide +kernel), tw_of 68 (by decide +kernel) (by decide +kernel), by decide +kernel, by decide +kernel, by decide +kernel⟩
theorem mX7_138 : okV RX7 138 yX3_byteAt cX3_byteAt 2 (some .int) 1 := ⟨B_X3_byteAt, tw_of 427 (by decide +kernel) (by decide +kernel), tw_of 428 (by decide +kernel) (by decide +kernel), tw_of 429 (by decide +kernel) (by decide +kernel)⟩
theorem mX7_142 : okS RX7 142 yX5_opens cX5_opens 1 (some .boolean) 1 := ⟨B_X5_opens, Or.inl (tw_of 431 (by decide +kernel) (by decide +kernel)), tw_of 404 (by decide +kernel) (by decide +kernel)⟩
theorem mX7_61 : okV RX7 61 yX0_stopAt cX0_stopAt 3 (some .boolean) 2 := ⟨B_X0_stopAt, tw_of 432 (by decide +kernel) (by decide +kernel), tw_of 390 (by decide +kernel) (by decide +kernel), tw_of 391 (by decide +kernel) (by decide +kernel)⟩
theorem B_X3_setMark : okB yX3_setMark cX3_setMark 3 none 2 := ⟨tw_of 436 (by decide +kernel) (by decide +kernel), tw_of 68 (by decide +kernel) (by decide +kernel), by decide +kernel, by decide +kernel, by decide +kernel⟩
theorem mX7_147 : okV RX7 147 yX3_setMark cX3_setMark 3 none 2 := ⟨B_X3_setMark, tw_of 433 (by decide +kernel) (by decide +kernel), tw_of 434 (by decide +kernel) (by decide +kernel), tw_of 435 (by decide +kernel) (by decide +kernel)⟩
theorem mX3_23 : okV RX3 23 yX3_byteAt cX3_byteAt 2 (some .int) 1 := ⟨B_X3_byteAt, tw_of 437 (by decide +kernel) (by decide +kernel), tw_of 428 (by decide +kernel) (by decide +kernel), tw_of 429 (by decide +kernel) (by decide +kernel)⟩
theorem B_X7_takeToken : okB yX7_takeToken cX7_takeToken 1 (some .boolean) 0 := ⟨tw_of 441 (by decide +kernel) (by decide +kernel), tw_of 64 (by decide +kernel) (by decide +kernel), by decide +kernel, by decide +kernel, by decide +kernel⟩
theorem mX7_65 : okV RX7 65 yX7_takeToken cX7_takeToken 1 (some .boolean) 0 := ⟨B_X7_takeToken, tw_of 438 (by decide +kernel) (by decide +kernel), tw_of 440 (by decide +kernel) (by decide +kernel), tw_of 6 (by decide +kernel) (by decide +kernel)⟩
theorem B_X7_takeName : okB yX7_takeName cX7_takeName 1 (some .boolean) 0 := ⟨tw_of 445 (by decide +kernel) (by decide +kernel), tw_of 64 (by decide +kernel) (by decide +kernel), by decide +kernel, by decide +kernel, by decide +kernel⟩
theorem mX7_78 : okV RX7 78 yX7_takeName cX7_takeName 1 (some .boolean) 0 := ⟨B_X7_takeName, tw_of 442 (by decide +kernel) (by decide +kernel), tw_of 444 (by decide +kernel) (by decide +kernel), tw_of 7 (by decide +kernel) (by decide +kernel)⟩
theorem B_X8_isName : okB yX8_isName cX8_isName 3 (some .boolean) 1 := ⟨tw_of 450 (by decide +kernel) (by decide +kernel), tw_of 65 (by decide +kernel) (by decide +kernel), by decide +kernel, by decide +kernel, by decide +kernel⟩
theorem mX7_95 : okV RX7 95 yX8_isName cX8_isName 3 (some .boolean) 1 := ⟨B_X8_isName, tw_of 447 (by decide +kernel) (by decide +kernel), tw_of 448 (by decide +kernel) (by decide +kernel), tw_of 449 (by decide +kernel) (by decide +kernel)⟩
theorem B_J0_length_8abf5 : okB yJ0_length_8abf5 cJ0_length_8abf5 1 (some .int) 0 := ⟨tw_of 454 (by decide +kernel) (by decide +kernel), tw_of 74 (by decide +kernel) (by decide +kernel), by decide +kernel, by decide +kernel, by decide +kernel⟩
theorem mX8_76 : okV RX8 76 yJ0_length_8abf5 cJ0_length_8abf5 1 (some .int) 0 := ⟨B_J0_length_8abf5, tw_of 451 (by decide +kernel) (by decide +kernel), tw_of 452 (by decide +kernel) (by decide +kernel), tw_of 453 (by decide +kernel) (by decide +kernel)⟩
theorem B_J0_coder_7d493 : okB yJ0_coder_7d493 cJ0_coder_7d493 1 (some .byte) 0 := ⟨tw_of 458 (by decide +kernel) (by decide +kernel), tw_of 74 (by decide +kernel) (by decide +kernel), by decide +kernel, by decide +kernel, by decide +kernel⟩
end
section
theorem mJ0_335 : okV RJ0 335 yJ0_coder_7d493 cJ0_coder_7d493 1 (some .byte) 0 := ⟨B_J0_coder_7d493, tw_of 455 (by decide +kernel) (by decide +kernel), tw_of 456 (by decide +kernel) (by decide +kernel), tw_of 457 (by decide +kernel) (by decide +kernel)⟩
theorem B_J0_charAt_5068e : okB yJ0_charAt_5068e cJ0_charAt_5068e 2 (some .char) 1 := ⟨tw_of 464 (by decide +kernel) (by decide +kernel), tw_of 74 (by decide +kernel) (by decide +kernel), by decide +kernel, by decide +kernel, by decide +kernel⟩
theorem mX8_81 : okV RX8 81 yJ0_charAt_5068e cJ0_charAt_5068e 2 (some .char) 1 := ⟨B_J0_charAt_5068e, tw_of 461 (by decide +kernel) (by decide +kernel), tw_of 462 (by decide +kernel) (by decide +kernel), tw_of 463 (by decide +kernel) (by decide +kernel)⟩
theorem B_J0_isLatin1_aae02 : okB yJ0_isLatin1_aae02 cJ0_isLatin1_aae02 1 (some .boolean) 0 := ⟨tw_of 468 (by decide +kernel) (by decide +kernel), tw_of 74 (by decide +kernel) (by decide +kernel), by decide +kernel, by decide +kernel, by decide +kernel⟩
theorem mJ0_492 : okV RJ0 492 yJ0_isLatin1_aae02 cJ0_isLatin1_aae02 1 (some .boolean) 0 := ⟨B_J0_isLatin1_aae02, tw_of 465 (by decide +kernel) (by decide +kernel), tw_of 466 (by decide +kernel) (by decide +kernel), tw_of 467 (by decide +kernel) (by decide +kernel)⟩
theorem B_J1_charAt_3b067 : okB yJ1_charAt_3b067 cJ1_charAt_3b067 2 (some .char) 2 := ⟨tw_of 471 (by decide +kernel) (by decide +kernel), tw_of 75 (by decide +kernel) (by decide +kernel), by decide +kernel, by decide +kernel, by decide +kernel⟩
theorem mJ0_495 : okS RJ0 495 yJ1_charAt_3b067 cJ1_charAt_3b067 2 (some .char) 2 := ⟨B_J1_charAt_3b067, Or.inl (tw_of 469 (by decide +kernel) (by decide +kernel)), tw_of 470 (by decide +kernel) (by decide +kernel)⟩
theorem B_J0_checkIndex_df160 : okB yJ0_checkIndex_df160 cJ0_checkIndex_df160 2 none 2 := ⟨tw_of 474 (by decide +kernel) (by decide +kernel), tw_of 74 (by decide +kernel) (by decide +kernel), by decide +kernel, by decide +kernel, by decide +kernel⟩
theorem mJ1_9 : okS RJ1 9 yJ0_checkIndex_df160 cJ0_checkIndex_df160 2 none 2 := ⟨B_J0_checkIndex_df160, Or.inl (tw_of 472 (by decide +kernel) (by decide +kernel)), tw_of 473 (by decide +kernel) (by decide +kernel)⟩
theorem B_J3_checkIndex_8e157 : okB yJ3_checkIndex_8e157 cJ3_checkIndex_8e157 3 (some .int) 3 := ⟨tw_of 479 (by decide +kernel) (by decide +kernel), tw_of 76 (by decide +kernel) (by decide +kernel), by decide +kernel, by decide +kernel, by decide +kernel⟩
theorem mJ0_1059 : okS RJ0 1059 yJ3_checkIndex_8e157 cJ3_checkIndex_8e157 3 (some .int) 3 := ⟨B_J3_checkIndex_8e157, Or.inl (tw_of 477 (by decide +kernel) (by decide +kernel)), tw_of 478 (by decide +kernel) (by decide +kernel)⟩
theorem B_J2_charAt_3b067 : okB yJ2_charAt_3b067 cJ2_charAt_3b067 2 (some .char) 2 := ⟨tw_of 482 (by decide +kernel) (by decide +kernel), tw_of 77 (by decide +kernel) (by decide +kernel), by decide +kernel, by decide +kernel, by decide +kernel⟩
theorem mJ0_498 : okS RJ0 498 yJ2_charAt_3b067 cJ2_charAt_3b067 2 (some .char) 2 := ⟨B_J2_charAt_3b067, Or.inl (tw_of 480 (by decide +kernel) (by decide +kernel)), tw_of 481 (by decide +kernel) (by decide +kernel)⟩
theorem B_J2_checkIndex_2214a : okB yJ2_checkIndex_2214a cJ2_checkIndex_2214a 2 none 2 := ⟨tw_of 485 (by decide +kernel) (by decide +kernel), tw_of 77 (by decide +kernel) (by decide +kernel), by decide +kernel, by decide +kernel, by decide +kernel⟩
theorem mJ2_67 : okS RJ2 67 yJ2_checkIndex_2214a cJ2_checkIndex_2214a 2 none 2 := ⟨B_J2_checkIndex_2214a, Or.inl (tw_of 483 (by decide +kernel) (by decide +kernel)), tw_of 484 (by decide +kernel) (by decide +kernel)⟩
theorem B_J2_length_9d52b : okB yJ2_length_9d52b cJ2_length_9d52b 1 (some .int) 1 := ⟨tw_of 488 (by decide +kernel) (by decide +kernel), tw_of 77 (by decide +kernel) (by decide +kernel), by decide +kernel, by decide +kernel, by decide +kernel⟩
theorem mJ2_48 : okS RJ2 48 yJ2_length_9d52b cJ2_length_9d52b 1 (some .int) 1 := ⟨B_J2_length_9d52b, Or.inl (tw_of 486 (by decide +kernel) (by decide +kernel)), tw_of 487 (by decide +kernel) (by decide +kernel)⟩
theorem mJ2_414 : okS RJ2 414 yJ0_checkIndex_df160 cJ0_checkIndex_df160 2 none 2 := ⟨B_J0_checkIndex_df160, Or.inl (tw_of 489 (by decide +kernel) (by decide +kernel)), tw_of 473 (by decide +kernel) (by decide +kernel)⟩
theorem B_J2_getChar_3b067 : okB yJ2_getChar_3b067 cJ2_getChar_3b067 2 (some .char) 2 := ⟨tw_of 492 (by decide +kernel) (by decide +kernel), tw_of 77 (by decide +kernel) (by decide +kernel), by decide +kernel, by decide +kernel, by decide +kernel⟩
theorem mJ2_71 : okS RJ2 71 yJ2_getChar_3b067 cJ2_getChar_3b067 2 (some .char) 2 := ⟨B_J2_getChar_3b067, Or.inl (tw_of 490 (by decide +kernel) (by decide +kernel)), tw_of 491 (by decide +kernel) (by decide +kernel)⟩
theorem B_X7_goOnWith : okB yX7_goOnWith cX7_goOnWith 2 (some .boolean) 1 := ⟨tw_of 503 (by decide +kernel) (by decide +kernel), tw_of 64 (by decide +kernel) (by decide +kernel), by decide +kernel, by decide +kernel, by decide +kernel⟩
theorem mX7_105 : okV RX7 105 yX7_goOnWith cX7_goOnWith 2 (some .boolean) 1 := ⟨B_X7_goOnWith, tw_of 500 (by decide +kernel) (by decide +kernel), tw_of 502 (by decide +kernel) (by decide +kernel), tw_of 8 (by decide +kernel) (by decide +kernel)⟩
theorem B_X0_tokenTaken : okB yX0_tokenTaken cX0_tokenTaken 1 none 0 := ⟨tw_of 507 (by decide +kernel) (by decide +kernel), tw_of 67 (by decide +kernel) (by decide +kernel), by decide +kernel, by decide +kernel, by decide +kernel⟩
theorem mX7_132 : okV RX7 132 yX0_tokenTaken cX0_tokenTaken 1 none 0 := ⟨B_X0_tokenTaken, tw_of 504 (by decide +kernel) (by decide +kernel), tw_of 505 (by decide +kernel) (by decide +kernel), tw_of 506 (by decide +kernel) (by decide +kernel)⟩
theorem B_X7_takeNumber : okB yX7_takeNumber cX7_takeNumber 3 (some .boolean) 0 := ⟨tw_of 512 (by decide +kernel) (by decide +kernel), tw_of 64 (by decide +kernel) (by decide +kernel), by decide +kernel, by decide +kernel, by decide +kernel⟩
theorem mX7_81 : okV RX7 81 yX7_takeNumber cX7_takeNumber 3 (some .boolean) 0 := ⟨B_X7_takeNumber, tw_of 509 (by decide +kernel) (by decide +kernel), tw_of 511 (by decide +kernel) (by decide +kernel), tw_of 9 (by decide +kernel) (by decide +kernel)⟩
theorem B_X7_takeQuote : okB yX7_takeQuote cX7_takeQuote 5 (some .boolean) 0 := ⟨tw_of 516 (by decide +kernel) (by decide +kernel), tw_of 64 (by decide +kernel) (by decide +kernel), by decide +kernel, by decide +kernel, by decide +kernel⟩
theorem mX7_84 : okV RX7 84 yX7_takeQuote cX7_takeQuote 5 (some .boolean) 0 := ⟨B_X7_takeQuote, tw_of 513 (by decide +kernel) (by decide +kernel), tw_of 515 (by decide +kernel) (by decide +kernel), tw_of 10 (by decide +kernel) (by decide +kernel)⟩
theorem B_X3_room : okB yX3_room cX3_room 1 (some .int) 0 := ⟨tw_of 520 (by decide +kernel) (by decide +kernel), tw_of 68 (by decide +kernel) (by decide +kernel), by decide +kernel, by decide +kernel, by decide +kernel⟩
theorem mX7_117 : okV RX7 117 yX3_room cX3_room 1 (some .int) 0 := ⟨B_X3_room, tw_of 517 (by decide +kernel) (by decide +kernel), tw_of 518 (by decide +kernel) (by decide +kernel), tw_of 519 (by decide +kernel) (by decide +kernel)⟩
theorem B_X3_bringIn : okB yX3_bringIn cX3_bringIn 3 none 2 := ⟨tw_of 524 (by decide +kernel) (by decide +kernel), tw_of 68 (by decide +kernel) (by decide +kernel), by decide +kernel, by decide +kernel, by decide +kernel⟩
theorem mX7_128 : okV RX7 128 yX3_bringIn cX3_bringIn 3 none 2 := ⟨B_X3_bringIn, tw_of 521 (by decide +kernel) (by decide +kernel), tw_of 522 (by decide +kernel) (by decide +kernel), tw_of 523 (by decide +kernel) (by decide +kernel)⟩
theorem B_X3_openGap : okB yX3_openGap cX3_openGap 3 none 2 := ⟨tw_of 528 (by decide +kernel) (by decide +kernel), tw_of 68 (by decide +kernel) (by decide +kernel), by decide +kernel, by decide +kernel, by decide +kernel⟩
theorem mX3_33 : okV RX3 33 yX3_openGap cX3_openGap 3 none 2 := ⟨B_X3_openGap, tw_of 525 (by decide +kernel) (by decide +kernel), tw_of 527 (by decide +kernel) (by decide +kernel), tw_of 11 (by decide +kernel) (by decide +kernel)⟩
theorem mX3_27 : Cond.methodLink RX3 27 arraycopyName ∈ tw := tw_of 529 (by decide +kernel) (by decide +kernel)
theorem B_X0_lineTaken : okB yX0_lineTaken cX0_lineTaken 1 none 0 := ⟨tw_of 535 (by decide +kernel) (by decide +kernel), tw_of 67 (by decide +kernel) (by decide +kernel), by decide +kernel, by decide +kernel, by decide +kernel⟩
theorem mX7_87 : okV RX7 87 yX0_lineTaken cX0_lineTaken 1 none 0 := ⟨B_X0_lineTaken, tw_of 532 (by decide +kernel) (by decide +kernel), tw_of 533 (by decide +kernel) (by decide +kernel), tw_of 534 (by decide +kernel) (by decide +kernel)⟩
theorem B_X3_become : okB yX3_become cX3_become 2 none 1 := ⟨tw_of 539 (by decide +kernel) (by decide +kernel), tw_of 68 (by decide +kernel) (by decide +kernel), by decide +kernel, by decide +kernel, by decide +kernel⟩
theorem mX9_87 : okV RX9 87 yX3_become cX3_become 2 none 1 := ⟨B_X3_become, tw_of 536 (by decide +kernel) (by decide +kernel), tw_of 537 (by decide +kernel) (by decide +kernel), tw_of 538 (by decide +kernel) (by decide +kernel)⟩
theorem B_X9_startedAnew : okB yX9_startedAnew cX9_startedAnew 1 (some .int) 0 := ⟨tw_of 543 (by decide +kernel) (by decide +kernel), tw_of 63 (by decide +kernel) (by decide +kernel), by decide +kernel, by decide +kernel, by decide +kernel⟩
theorem mX9_91 : okV RX9 91 yX9_startedAnew cX9_startedAnew 1 (some .int) 0 := ⟨B_X9_startedAnew, tw_of 540 (by decide +kernel) (by decide +kernel), tw_of 542 (by decide +kernel) (by decide +kernel), tw_of 12 (by decide +kernel) (by decide +kernel)⟩
theorem B_X2_restart : okB yX2_restart cX2_restart 2 none 1 := ⟨tw_of 547 (by decide +kernel) (by decide +kernel), tw_of 70 (by decide +kernel) (by decide +kernel), by decide +kernel, by decide +kernel, by decide +kernel⟩
theorem mX9_273 : okV RX9 273 yX2_restart cX2_restart 2 none 1 := ⟨B_X2_restart, tw_of 544 (by decide +kernel) (by decide +kernel), tw_of 545 (by decide +kernel) (by decide +kernel), tw_of 546 (by decide +kernel) (by decide +kernel)⟩
theorem B_X2_present : okB yX2_present cX2_present 1 (some (.object "FoldKeeper$Row")) 0 := ⟨tw_of 551 (by decide +kernel) (by decide +kernel), tw_of 70 (by decide +kernel) (by decide +kernel), by decide +kernel, by decide +kernel, by decide +kernel⟩
theorem mX2_28 : okV RX2 28 yX2_present cX2_present 1 (some (.object "FoldKeeper$Row")) 0 := ⟨B_X2_present, tw_of 548 (by decide +kernel) (by decide +kernel), tw_of 550 (by decide +kernel) (by decide +kernel), tw_of 13 (by decide +kernel) (by decide +kernel)⟩
theorem mX2_32 : okV RX2 32 yX3_become cX3_become 2 none 1 := ⟨B_X3_become, tw_of 552 (by decide +kernel) (by decide +kernel), tw_of 537 (by decide +kernel) (by decide +kernel), tw_of 538 (by decide +kernel) (by decide +kernel)⟩
theorem B_X1_survey : okB yX1_survey cX1_survey 2 none 0 := ⟨tw_of 556 (by decide +kernel) (by decide +kernel), tw_of 69 (by decide +kernel) (by decide +kernel), by decide +kernel, by decide +kernel, by decide +kernel⟩
theorem mX9_229 : okV RX9 229 yX1_survey cX1_survey 2 none 0 := ⟨B_X1_survey, tw_of 553 (by decide +kernel) (by decide +kernel), tw_of 554 (by decide +kernel) (by decide +kernel), tw_of 555 (by decide +kernel) (by decide +kernel)⟩
theorem B_X1_pairUp : okB yX1_pairUp cX1_pairUp 6 none 2 := ⟨tw_of 560 (by decide +kernel) (by decide +kernel), tw_of 69 (by decide +kernel) (by decide +kernel), by decide +kernel, by decide +kernel, by decide +kernel⟩
theorem mX1_45 : okV RX1 45 yX1_pairUp cX1_pairUp 6 none 2 := ⟨B_X1_pairUp, tw_of 557 (by decide +kernel) (by decide +kernel), tw_of 559 (by decide +kernel) (by decide +kernel), tw_of 14 (by decide +kernel) (by decide +kernel)⟩
theorem mX1_55 : okV RX1 55 yX3_byteAt cX3_byteAt 2 (some .int) 1 := ⟨B_X3_byteAt, tw_of 561 (by decide +kernel) (by decide +kernel), tw_of 428 (by decide +kernel) (by decide +kernel), tw_of 429 (by decide +kernel) (by decide +kernel)⟩
theorem B_X1_isOf : okB yX1_isOf cX1_isOf 2 (some .boolean) 2 := ⟨tw_of 564 (by decide +kernel) (by decide +kernel), tw_of 69 (by decide +kernel) (by decide +kernel), by decide +kernel, by decide +kernel, by decide +kernel⟩
theorem mX1_59 : okS RX1 59 yX1_isOf cX1_isOf 2 (some .boolean) 2 := ⟨B_X1_isOf, Or.inl (tw_of 562 (by decide +kernel) (by decide +kernel)), tw_of 563 (by decide +kernel) (by decide +kernel)⟩
theorem mX1_69 : okS RX1 69 yX5_isBracket cX5_isBracket 1 (some .boolean) 1 := ⟨B_X5_isBracket, Or.inl (tw_of 565 (by decide +kernel) (by decide +kernel)), tw_of 401 (by decide +kernel) (by decide +kernel)⟩
theorem B_X5_kindOf : okB yX5_kindOf cX5_kindOf 1 (some .int) 1 := ⟨tw_of 568 (by decide +kernel) (by decide +kernel), tw_of 73 (by decide +kernel) (by decide +kernel), by decide +kernel, by decide +kernel, by decide +kernel⟩
theorem mX1_72 : okS RX1 72 yX5_kindOf cX5_kindOf 1 (some .int) 1 := ⟨B_X5_kindOf, Or.inl (tw_of 566 (by decide +kernel) (by decide +kernel)), tw_of 567 (by decide +kernel) (by decide +kernel)⟩
theorem mX1_63 : okS RX1 63 yX5_opens cX5_opens 1 (some .boolean) 1 := ⟨B_X5_opens, Or.inl (tw_of 569 (by decide +kernel) (by decide +kernel)), tw_of 404 (by decide +kernel) (by decide +kernel)⟩
theorem B_X1_countAlong : okB yX1_countAlong cX1_countAlong 3 none 0 := ⟨tw_of 573 (by decide +kernel) (by decide +kernel), tw_of 69 (by decide +kernel) (by decide +kernel), by decide +kernel, by decide +kernel, by decide +kernel⟩
theorem mX1_49 : okV RX1 49 yX1_countAlong cX1_countAlong 3 none 0 := ⟨B_X1_countAlong, tw_of 570 (by decide +kernel) (by decide +kernel), tw_of 572 (by decide +kernel) (by decide +kernel), tw_of 15 (by decide +kernel) (by decide +kernel)⟩
theorem B_X9_oneIf : okB yX9_oneIf cX9_oneIf 1 (some .int) 1 := ⟨tw_of 576 (by decide +kernel) (by decide +kernel), tw_of 63 (by decide +kernel) (by decide +kernel), by decide +kernel, by decide +kernel, by decide +kernel⟩
theorem mX1_75 : okS RX1 75 yX9_oneIf cX9_oneIf 1 (some .int) 1 := ⟨B_X9_oneIf, Or.inr ⟨"FoldKeeper", List.mem_filter.mpr ⟨List.mem_of_getElem? (i := 574) (by decide +kernel), rfl⟩⟩, tw_of 575 (by decide +kernel) (by decide +kernel)⟩
theorem mX1_79 : okS RX1 79 yX5_closes cX5_closes 1 (some .boolean) 1 := ⟨B_X5_closes, Or.inl (tw_of 577 (by decide +kernel) (by decide +kernel)), tw_of 407 (by decide +kernel) (by decide +kernel)⟩
theorem B_X1_nest : okB yX1_nest cX1_nest 5 none 0 := ⟨tw_of 581 (by decide +kernel) (by decide +kernel), tw_of 69 (by decide +kernel) (by decide +kernel), by decide +kernel, by decide +kernel, by decide +kernel⟩
theorem mX1_52 : okV RX1 52 yX1_nest cX1_nest 5 none 0 := ⟨B_X1_nest, tw_of 578 (by decide +kernel) (by decide +kernel), tw_of 580 (by decide +kernel) (by decide +kernel), tw_of 16 (by decide +kernel) (by decide +kernel)⟩
theorem B_X1_isFolded : okB yX1_isFolded cX1_isFolded 3 (some .boolean) 1 := ⟨tw_of 585 (by decide +kernel) (by decide +kernel), tw_of 69 (by decide +kernel) (by decide +kernel), by decide +kernel, by decide +kernel, by decide +kernel⟩
theorem mX1_82 : okV RX1 82 yX1_isFolded cX1_isFolded 3 (some .boolean) 1 := ⟨B_X1_isFolded, tw_of 582 (by decide +kernel) (by decide +kernel), tw_of 584 (by decide +kernel) (by decide +kernel), tw_of 17 (by decide +kernel) (by decide +kernel)⟩
theorem B_X3_markedAt : okB yX3_markedAt cX3_markedAt 2 (some .boolean) 1 := ⟨tw_of 589 (by decide +kernel) (by decide +kernel), tw_of 68 (by decide +kernel) (by decide +kernel), by decide +kernel, by decide +kernel, by decide +kernel⟩
theorem mX1_85 : okV RX1 85 yX3_markedAt cX3_markedAt 2 (some .boolean) 1 := ⟨B_X3_markedAt, tw_of 586 (by decide +kernel) (by decide +kernel), tw_of 587 (by decide +kernel) (by decide +kernel), tw_of 588 (by decide +kernel) (by decide +kernel)⟩
theorem B_X9_fault : okB yX9_fault cX9_fault 1 (some .int) 0 := ⟨tw_of 594 (by decide +kernel) (by decide +kernel), tw_of 63 (by decide +kernel) (by decide +kernel), by decide +kernel, by decide +kernel, by decide +kernel⟩
theorem mL_27 : okV RL 27 yX9_fault cX9_fault 1 (some .int) 0 := ⟨B_X9_fault, tw_of 591 (by decide +kernel) (by decide +kernel), tw_of 592 (by decide +kernel) (by decide +kernel), tw_of 593 (by decide +kernel) (by decide +kernel)⟩
theorem B_X9_reason : okB yX9_reason cX9_reason 2 (some .int) 1 := ⟨tw_of 598 (by decide +kernel) (by decide +kernel), tw_of 63 (by decide +kernel) (by decide +kernel), by decide +kernel, by decide +kernel, by decide +kernel⟩
theorem mL_31 : okV RL 31 yX9_reason cX9_reason 2 (some .int) 1 := ⟨B_X9_reason, tw_of 595 (by decide +kernel) (by decide +kernel), tw_of 596 (by decide +kernel) (by decide +kernel), tw_of 597 (by decide +kernel) (by decide +kernel)⟩
theorem B_X0_part : okB yX0_part cX0_part 2 (some .int) 1 := ⟨tw_of 602 (by decide +kernel) (by decide +kernel), tw_of 67 (by decide +kernel) (by decide +kernel), by decide +kernel, by decide +kernel, by decide +kernel⟩
theorem mX9_98 : okV RX9 98 yX0_part cX0_part 2 (some .int) 1 := ⟨B_X0_part, tw_of 599 (by decide +kernel) (by decide +kernel), tw_of 600 (by decide +kernel) (by decide +kernel), tw_of 601 (by decide +kernel) (by decide +kernel)⟩
theorem B_X9_rule : okB yX9_rule cX9_rule 2 (some .int) 1 := ⟨tw_of 606 (by decide +kernel) (by decide +kernel), tw_of 63 (by decide +kernel) (by decide +kernel), by decide +kernel, by decide +kernel, by decide +kernel⟩
theorem mL_35 : okV RL 35 yX9_rule cX9_rule 2 (some .int) 1 := ⟨B_X9_rule, tw_of 603 (by decide +kernel) (by decide +kernel), tw_of 604 (by decide +kernel) (by decide +kernel), tw_of 605 (by decide +kernel) (by decide +kernel)⟩
theorem B_X1_tally : okB yX1_tally cX1_tally 4 (some .int) 1 := ⟨tw_of 610 (by decide +kernel) (by decide +kernel), tw_of 69 (by decide +kernel) (by decide +kernel), by decide +kernel, by decide +kernel, by decide +kernel⟩
theorem mX9_109 : okV RX9 109 yX1_tally cX1_tally 4 (some .int) 1 := ⟨B_X1_tally, tw_of 607 (by decide +kernel) (by decide +kernel), tw_of 608 (by decide +kernel) (by decide +kernel), tw_of 609 (by decide +kernel) (by decide +kernel)⟩
theorem B_X1_belongsTo : okB yX1_belongsTo cX1_belongsTo 3 (some .boolean) 2 := ⟨tw_of 614 (by decide +kernel) (by decide +kernel), tw_of 69 (by decide +kernel) (by decide +kernel), by decide +kernel, by decide +kernel, by decide +kernel⟩
theorem mX1_88 : okV RX1 88 yX1_belongsTo cX1_belongsTo 3 (some .boolean) 2 := ⟨B_X1_belongsTo, tw_of 611 (by decide +kernel) (by decide +kernel), tw_of 613 (by decide +kernel) (by decide +kernel), tw_of 18 (by decide +kernel) (by decide +kernel)⟩
theorem B_X1_isBare : okB yX1_isBare cX1_isBare 2 (some .boolean) 1 := ⟨tw_of 618 (by decide +kernel) (by decide +kernel), tw_of 69 (by decide +kernel) (by decide +kernel), by decide +kernel, by decide +kernel, by decide +kernel⟩
theorem mX1_91 : okV RX1 91 yX1_isBare cX1_isBare 2 (some .boolean) 1 := ⟨B_X1_isBare, tw_of 615 (by decide +kernel) (by decide +kernel), tw_of 617 (by decide +kernel) (by decide +kernel), tw_of 19 (by decide +kernel) (by decide +kernel)⟩
theorem B_X1_clashes : okB yX1_clashes cX1_clashes 3 (some .boolean) 1 := ⟨tw_of 622 (by decide +kernel) (by decide +kernel), tw_of 69 (by decide +kernel) (by decide +kernel), by decide +kernel, by decide +kernel, by decide +kernel⟩
theorem mX1_94 : okV RX1 94 yX1_clashes cX1_clashes 3 (some .boolean) 1 := ⟨B_X1_clashes, tw_of 619 (by decide +kernel) (by decide +kernel), tw_of 620 (by decide +kernel) (by decide +kernel), tw_of 621 (by decide +kernel) (by decide +kernel)⟩
theorem B_X1_greatestLevel : okB yX1_greatestLevel cX1_greatestLevel 3 (some .int) 0 := ⟨tw_of 626 (by decide +kernel) (by decide +kernel), tw_of 69 (by decide +kernel) (by decide +kernel), by decide +kernel, by decide +kernel, by decide +kernel⟩
theorem mX9_118 : okV RX9 118 yX1_greatestLevel cX1_greatestLevel 3 (some .int) 0 := ⟨B_X1_greatestLevel, tw_of 623 (by decide +kernel) (by decide +kernel), tw_of 624 (by decide +kernel) (by decide +kernel), tw_of 625 (by decide +kernel) (by decide +kernel)⟩
theorem mX1_97 : Cond.methodLink RX1 97 Lib.Math.max.name ∈ tw := tw_of 627 (by decide +kernel) (by decide +kernel)
theorem B_X9_sign : okB yX9_sign cX9_sign 3 (some .int) 2 := ⟨tw_of 633 (by decide +kernel) (by decide +kernel), tw_of 63 (by decide +kernel) (by decide +kernel), by decide +kernel, by decide +kernel, by decide +kernel⟩
theorem mL_39 : okV RL 39 yX9_sign cX9_sign 3 (some .int) 2 := ⟨B_X9_sign, tw_of 630 (by decide +kernel) (by decide +kernel), tw_of 631 (by decide +kernel) (by decide +kernel), tw_of 632 (by decide +kernel) (by decide +kernel)⟩
theorem mX9_121 : okV RX9 121 yX3_hasSign cX3_hasSign 2 (some .boolean) 1 := ⟨B_X3_hasSign, tw_of 634 (by decide +kernel) (by decide +kernel), tw_of 424 (by decide +kernel) (by decide +kernel), tw_of 425 (by decide +kernel) (by decide +kernel)⟩
theorem mX9_125 : okV RX9 125 yX3_byteAt cX3_byteAt 2 (some .int) 1 := ⟨B_X3_byteAt, tw_of 635 (by decide +kernel) (by decide +kernel), tw_of 428 (by decide +kernel) (by decide +kernel), tw_of 429 (by decide +kernel) (by decide +kernel)⟩
theorem mX9_140 : okV RX9 140 yX1_clashes cX1_clashes 3 (some .boolean) 1 := ⟨B_X1_clashes, tw_of 636 (by decide +kernel) (by decide +kernel), tw_of 620 (by decide +kernel) (by decide +kernel), tw_of 621 (by decide +kernel) (by decide +kernel)⟩
theorem mX9_143 : okS RX9 143 yX9_oneIf cX9_oneIf 1 (some .int) 1 := ⟨B_X9_oneIf, Or.inl (tw_of 637 (by decide +kernel) (by decide +kernel)), tw_of 575 (by decide +kernel) (by decide +kernel)⟩
theorem mX9_147 : okV RX9 147 yX3_markedAt cX3_markedAt 2 (some .boolean) 1 := ⟨B_X3_markedAt, tw_of 638 (by decide +kernel) (by decide +kernel), tw_of 587 (by decide +kernel) (by decide +kernel), tw_of 588 (by decide +kernel) (by decide +kernel)⟩
theorem B_X9_low : okB yX9_low cX9_low 3 (some .int) 2 := ⟨tw_of 642 (by decide +kernel) (by decide +kernel), tw_of 63 (by decide +kernel) (by decide +kernel), by decide +kernel, by decide +kernel, by decide +kernel⟩
theorem mL_44 : okV RL 44 yX9_low cX9_low 3 (some .int) 2 := ⟨B_X9_low, tw_of 639 (by decide +kernel) (by decide +kernel), tw_of 640 (by decide +kernel) (by decide +kernel), tw_of 641 (by decide +kernel) (by decide +kernel)⟩
theorem B_X3_hasPlace : okB yX3_hasPlace cX3_hasPlace 2 (some .boolean) 1 := ⟨tw_of 646 (by decide +kernel) (by decide +kernel), tw_of 68 (by decide +kernel) (by decide +kernel), by decide +kernel, by decide +kernel, by decide +kernel⟩
theorem mX9_153 : okV RX9 153 yX3_hasPlace cX3_hasPlace 2 (some .boolean) 1 := ⟨B_X3_hasPlace, tw_of 643 (by decide +kernel) (by decide +kernel), tw_of 644 (by decide +kernel) (by decide +kernel), tw_of 645 (by decide +kernel) (by decide +kernel)⟩
theorem B_X1_leastDepth : okB yX1_leastDepth cX1_leastDepth 5 (some .int) 2 := ⟨tw_of 650 (by decide +kernel) (by decide +kernel), tw_of 69 (by decide +kernel) (by decide +kernel), by decide +kernel, by decide +kernel, by decide +kernel⟩
theorem mX9_156 : okV RX9 156 yX1_leastDepth cX1_leastDepth 5 (some .int) 2 := ⟨B_X1_leastDepth, tw_of 647 (by decide +kernel) (by decide +kernel), tw_of 648 (by decide +kernel) (by decide +kernel), tw_of 649 (by decide +kernel) (by decide +kernel)⟩
theorem mX1_103 : Cond.methodLink RX1 103 Lib.Math.min.name ∈ tw := tw_of 651 (by decide +kernel) (by decide +kernel)
theorem B_X9_around : okB yX9_around cX9_around 3 (some .int) 2 := ⟨tw_of 657 (by decide +kernel) (by decide +kernel), tw_of 63 (by decide +kernel) (by decide +kernel), by decide +kernel, by decide +kernel, by decide +kernel⟩
theorem mL_48 : okV RL 48 yX9_around cX9_around 3 (some .int) 2 := ⟨B_X9_around, tw_of 654 (by decide +kernel) (by decide +kernel), tw_of 655 (by decide +kernel) (by decide +kernel), tw_of 656 (by decide +kernel) (by decide +kernel)⟩
theorem B_X1_innermostAround : okB yX1_innermostAround cX1_innermostAround 5 (some .int) 2 := ⟨tw_of 661 (by decide +kernel) (by decide +kernel), tw_of 69 (by decide +kernel) (by decide +kernel), by decide +kernel, by decide +kernel, by decide +kernel⟩
theorem mX9_160 : okV RX9 160 yX1_innermostAround cX1_innermostAround 5 (some .int) 2 := ⟨B_X1_innermostAround, tw_of 658 (by decide +kernel) (by decide +kernel), tw_of 659 (by decide +kernel) (by decide +kernel), tw_of 660 (by decide +kernel) (by decide +kernel)⟩
theorem B_X9_whole : okB yX9_whole cX9_whole 2 (some .int) 1 := ⟨tw_of 665 (by decide +kernel) (by decide +kernel), tw_of 63 (by decide +kernel) (by decide +kernel), by decide +kernel, by decide +kernel, by decide +kernel⟩
theorem mL_52 : okV RL 52 yX9_whole cX9_whole 2 (some .int) 1 := ⟨B_X9_whole, tw_of 662 (by decide +kernel) (by decide +kernel), tw_of 663 (by decide +kernel) (by decide +kernel), tw_of 664 (by decide +kernel) (by decide +kernel)⟩
theorem B_X1_wholeTill : okB yX1_wholeTill cX1_wholeTill 3 (some .int) 1 := ⟨tw_of 669 (by decide +kernel) (by decide +kernel), tw_of 69 (by decide +kernel) (by decide +kernel), by decide +kernel, by decide +kernel, by decide +kernel⟩
theorem mX9_163 : okV RX9 163 yX1_wholeTill cX1_wholeTill 3 (some .int) 1 := ⟨B_X1_wholeTill, tw_of 666 (by decide +kernel) (by decide +kernel), tw_of 667 (by decide +kernel) (by decide +kernel), tw_of 668 (by decide +kernel) (by decide +kernel)⟩
theorem B_X9_bare : okB yX9_bare cX9_bare 3 (some .int) 2 := ⟨tw_of 673 (by decide +kernel) (by decide +kernel), tw_of 63 (by decide +kernel) (by decide +kernel), by decide +kernel, by decide +kernel, by decide +kernel⟩
theorem mL_56 : okV RL 56 yX9_bare cX9_bare 3 (some .int) 2 := ⟨B_X9_bare, tw_of 670 (by decide +kernel) (by decide +kernel), tw_of 671 (by decide +kernel) (by decide +kernel), tw_of 672 (by decide +kernel) (by decide +kernel)⟩
theorem B_X1_nextBare : okB yX1_nextBare cX1_nextBare 3 (some .int) 1 := ⟨tw_of 677 (by decide +kernel) (by decide +kernel), tw_of 69 (by decide +kernel) (by decide +kernel), by decide +kernel, by decide +kernel, by decide +kernel⟩
theorem mX9_166 : okV RX9 166 yX1_nextBare cX1_nextBare 3 (some .int) 1 := ⟨B_X1_nextBare, tw_of 674 (by decide +kernel) (by decide +kernel), tw_of 675 (by decide +kernel) (by decide +kernel), tw_of 676 (by decide +kernel) (by decide +kernel)⟩
theorem B_X1_lastBare : okB yX1_lastBare cX1_lastBare 3 (some .int) 1 := ⟨tw_of 681 (by decide +kernel) (by decide +kernel), tw_of 69 (by decide +kernel) (by decide +kernel), by decide +kernel, by decide +kernel, by decide +kernel⟩
theorem mX9_169 : okV RX9 169 yX1_lastBare cX1_lastBare 3 (some .int) 1 := ⟨B_X1_lastBare, tw_of 678 (by decide +kernel) (by decide +kernel), tw_of 679 (by decide +kernel) (by decide +kernel), tw_of 680 (by decide +kernel) (by decide +kernel)⟩
theorem B_X9_longest : okB yX9_longest cX9_longest 3 (some .int) 1 := ⟨tw_of 685 (by decide +kernel) (by decide +kernel), tw_of 63 (by decide +kernel) (by decide +kernel), by decide +kernel, by decide +kernel, by decide +kernel⟩
theorem mL_60 : okV RL 60 yX9_longest cX9_longest 3 (some .int) 1 := ⟨B_X9_longest, tw_of 682 (by decide +kernel) (by decide +kernel), tw_of 683 (by decide +kernel) (by decide +kernel), tw_of 684 (by decide +kernel) (by decide +kernel)⟩
theorem B_X1_longestFrom : okB yX1_longestFrom cX1_longestFrom 5 (some .int) 0 := ⟨tw_of 689 (by decide +kernel) (by decide +kernel), tw_of 69 (by decide +kernel) (by decide +kernel), by decide +kernel, by decide +kernel, by decide +kernel⟩
theorem mX9_172 : okV RX9 172 yX1_longestFrom cX1_longestFrom 5 (some .int) 0 := ⟨B_X1_longestFrom, tw_of 686 (by decide +kernel) (by decide +kernel), tw_of 687 (by decide +kernel) (by decide +kernel), tw_of 688 (by decide +kernel) (by decide +kernel)⟩
theorem mX1_106 : okV RX1 106 yX1_wholeTill cX1_wholeTill 3 (some .int) 1 := ⟨B_X1_wholeTill, tw_of 690 (by decide +kernel) (by decide +kernel), tw_of 667 (by decide +kernel) (by decide +kernel), tw_of 668 (by decide +kernel) (by decide +kernel)⟩
theorem B_X9_seen : okB yX9_seen cX9_seen 2 (some .int) 1 := ⟨tw_of 694 (by decide +kernel) (by decide +kernel), tw_of 63 (by decide +kernel) (by decide +kernel), by decide +kernel, by decide +kernel, by decide +kernel⟩
theorem mL_64 : okV RL 64 yX9_seen cX9_seen 2 (some .int) 1 := ⟨B_X9_seen, tw_of 691 (by decide +kernel) (by decide +kernel), tw_of 692 (by decide +kernel) (by decide +kernel), tw_of 693 (by decide +kernel) (by decide +kernel)⟩
theorem B_X1_seenAt : okB yX1_seenAt cX1_seenAt 4 (some .int) 1 := ⟨tw_of 698 (by decide +kernel) (by decide +kernel), tw_of 69 (by decide +kernel) (by decide +kernel), by decide +kernel, by decide +kernel, by decide +kernel⟩
theorem mX9_175 : okV RX9 175 yX1_seenAt cX1_seenAt 4 (some .int) 1 := ⟨B_X1_seenAt, tw_of 695 (by decide +kernel) (by decide +kernel), tw_of 696 (by decide +kernel) (by decide +kernel), tw_of 697 (by decide +kernel) (by decide +kernel)⟩
theorem B_X9_put : okB yX9_put cX9_put 4 (some .int) 2 := ⟨tw_of 702 (by decide +kernel) (by decide +kernel), tw_of 63 (by decide +kernel) (by decide +kernel), by decide +kernel, by decide +kernel, by decide +kernel⟩
theorem mL_68 : okV RL 68 yX9_put cX9_put 4 (some .int) 2 := ⟨B_X9_put, tw_of 699 (by decide +kernel) (by decide +kernel), tw_of 700 (by decide +kernel) (by decide +kernel), tw_of 701 (by decide +kernel) (by decide +kernel)⟩
theorem mX9_178 : okS RX9 178 yX5_isSign cX5_isSign 1 (some .boolean) 1 := ⟨B_X5_isSign, Or.inl (tw_of 703 (by decide +kernel) (by decide +kernel)), tw_of 398 (by decide +kernel) (by decide +kernel)⟩
theorem B_X3_setByte : okB yX3_setByte cX3_setByte 3 none 2 := ⟨tw_of 707 (by decide +kernel) (by decide +kernel), tw_of 68 (by decide +kernel) (by decide +kernel), by decide +kernel, by decide +kernel, by decide +kernel⟩
theorem mX9_183 : okV RX9 183 yX3_setByte cX3_setByte 3 none 2 := ⟨B_X3_setByte, tw_of 704 (by decide +kernel) (by decide +kernel), tw_of 705 (by decide +kernel) (by decide +kernel), tw_of 706 (by decide +kernel) (by decide +kernel)⟩
theorem B_X9_edited : okB yX9_edited cX9_edited 2 (some .int) 1 := ⟨tw_of 711 (by decide +kernel) (by decide +kernel), tw_of 63 (by decide +kernel) (by decide +kernel), by decide +kernel, by decide +kernel, by decide +kernel⟩
theorem mX9_187 : okV RX9 187 yX9_edited cX9_edited 2 (some .int) 1 := ⟨B_X9_edited, tw_of 708 (by decide +kernel) (by decide +kernel), tw_of 710 (by decide +kernel) (by decide +kernel), tw_of 20 (by decide +kernel) (by decide +kernel)⟩
theorem B_X2_add : okB yX2_add cX2_add 2 none 1 := ⟨tw_of 715 (by decide +kernel) (by decide +kernel), tw_of 70 (by decide +kernel) (by decide +kernel), by decide +kernel, by decide +kernel, by decide +kernel⟩
theorem mX9_270 : okV RX9 270 yX2_add cX2_add 2 none 1 := ⟨B_X2_add, tw_of 712 (by decide +kernel) (by decide +kernel), tw_of 713 (by decide +kernel) (by decide +kernel), tw_of 714 (by decide +kernel) (by decide +kernel)⟩
theorem B_X9_insert : okB yX9_insert cX9_insert 3 (some .int) 2 := ⟨tw_of 719 (by decide +kernel) (by decide +kernel), tw_of 63 (by decide +kernel) (by decide +kernel), by decide +kernel, by decide +kernel, by decide +kernel⟩
theorem mL_72 : okV RL 72 yX9_insert cX9_insert 3 (some .int) 2 := ⟨B_X9_insert, tw_of 716 (by decide +kernel) (by decide +kernel), tw_of 717 (by decide +kernel) (by decide +kernel), tw_of 718 (by decide +kernel) (by decide +kernel)⟩
theorem mX9_190 : okV RX9 190 yX3_room cX3_room 1 (some .int) 0 := ⟨B_X3_room, tw_of 720 (by decide +kernel) (by decide +kernel), tw_of 518 (by decide +kernel) (by decide +kernel), tw_of 519 (by decide +kernel) (by decide +kernel)⟩
theorem mX9_193 : okV RX9 193 yX3_bringIn cX3_bringIn 3 none 2 := ⟨B_X3_bringIn, tw_of 721 (by decide +kernel) (by decide +kernel), tw_of 522 (by decide +kernel) (by decide +kernel), tw_of 523 (by decide +kernel) (by decide +kernel)⟩
theorem B_X9_drop : okB yX9_drop cX9_drop 3 (some .int) 2 := ⟨tw_of 725 (by decide +kernel) (by decide +kernel), tw_of 63 (by decide +kernel) (by decide +kernel), by decide +kernel, by decide +kernel, by decide +kernel⟩
theorem mL_76 : okV RL 76 yX9_drop cX9_drop 3 (some .int) 2 := ⟨B_X9_drop, tw_of 722 (by decide +kernel) (by decide +kernel), tw_of 723 (by decide +kernel) (by decide +kernel), tw_of 724 (by decide +kernel) (by decide +kernel)⟩
theorem B_X3_hasPart : okB yX3_hasPart cX3_hasPart 3 (some .boolean) 2 := ⟨tw_of 729 (by decide +kernel) (by decide +kernel), tw_of 68 (by decide +kernel) (by decide +kernel), by decide +kernel, by decide +kernel, by decide +kernel⟩
theorem mX9_196 : okV RX9 196 yX3_hasPart cX3_hasPart 3 (some .boolean) 2 := ⟨B_X3_hasPart, tw_of 726 (by decide +kernel) (by decide +kernel), tw_of 727 (by decide +kernel) (by decide +kernel), tw_of 728 (by decide +kernel) (by decide +kernel)⟩
theorem mX3_19 : okV RX3 19 yX3_hasSign cX3_hasSign 2 (some .boolean) 1 := ⟨B_X3_hasSign, tw_of 730 (by decide +kernel) (by decide +kernel), tw_of 424 (by decide +kernel) (by decide +kernel), tw_of 425 (by decide +kernel) (by decide +kernel)⟩
theorem B_X3_takeOut : okB yX3_takeOut cX3_takeOut 3 none 2 := ⟨tw_of 734 (by decide +kernel) (by decide +kernel), tw_of 68 (by decide +kernel) (by decide +kernel), by decide +kernel, by decide +kernel, by decide +kernel⟩
theorem mX9_200 : okV RX9 200 yX3_takeOut cX3_takeOut 3 none 2 := ⟨B_X3_takeOut, tw_of 731 (by decide +kernel) (by decide +kernel), tw_of 732 (by decide +kernel) (by decide +kernel), tw_of 733 (by decide +kernel) (by decide +kernel)⟩
theorem B_X9_move : okB yX9_move cX9_move 4 (some .int) 3 := ⟨tw_of 738 (by decide +kernel) (by decide +kernel), tw_of 63 (by decide +kernel) (by decide +kernel), by decide +kernel, by decide +kernel, by decide +kernel⟩
theorem mL_80 : okV RL 80 yX9_move cX9_move 4 (some .int) 3 := ⟨B_X9_move, tw_of 735 (by decide +kernel) (by decide +kernel), tw_of 736 (by decide +kernel) (by decide +kernel), tw_of 737 (by decide +kernel) (by decide +kernel)⟩
theorem B_X3_shift : okB yX3_shift cX3_shift 4 none 3 := ⟨tw_of 742 (by decide +kernel) (by decide +kernel), tw_of 68 (by decide +kernel) (by decide +kernel), by decide +kernel, by decide +kernel, by decide +kernel⟩
theorem mX9_203 : okV RX9 203 yX3_shift cX3_shift 4 none 3 := ⟨B_X3_shift, tw_of 739 (by decide +kernel) (by decide +kernel), tw_of 740 (by decide +kernel) (by decide +kernel), tw_of 741 (by decide +kernel) (by decide +kernel)⟩
theorem B_X3_swapParts : okB yX3_swapParts cX3_swapParts 4 none 3 := ⟨tw_of 746 (by decide +kernel) (by decide +kernel), tw_of 68 (by decide +kernel) (by decide +kernel), by decide +kernel, by decide +kernel, by decide +kernel⟩
theorem mX3_37 : okV RX3 37 yX3_swapParts cX3_swapParts 4 none 3 := ⟨B_X3_swapParts, tw_of 743 (by decide +kernel) (by decide +kernel), tw_of 745 (by decide +kernel) (by decide +kernel), tw_of 21 (by decide +kernel) (by decide +kernel)⟩
theorem B_X3_reverse : okB yX3_reverse cX3_reverse 6 none 2 := ⟨tw_of 750 (by decide +kernel) (by decide +kernel), tw_of 68 (by decide +kernel) (by decide +kernel), by decide +kernel, by decide +kernel, by decide +kernel⟩
theorem mX3_41 : okV RX3 41 yX3_reverse cX3_reverse 6 none 2 := ⟨B_X3_reverse, tw_of 747 (by decide +kernel) (by decide +kernel), tw_of 749 (by decide +kernel) (by decide +kernel), tw_of 22 (by decide +kernel) (by decide +kernel)⟩
theorem B_X9_copy : okB yX9_copy cX9_copy 4 (some .int) 3 := ⟨tw_of 754 (by decide +kernel) (by decide +kernel), tw_of 63 (by decide +kernel) (by decide +kernel), by decide +kernel, by decide +kernel, by decide +kernel⟩
theorem mL_85 : okV RL 85 yX9_copy cX9_copy 4 (some .int) 3 := ⟨B_X9_copy, tw_of 751 (by decide +kernel) (by decide +kernel), tw_of 752 (by decide +kernel) (by decide +kernel), tw_of 753 (by decide +kernel) (by decide +kernel)⟩
theorem B_X3_repeat : okB yX3_repeat cX3_repeat 6 none 3 := ⟨tw_of 758 (by decide +kernel) (by decide +kernel), tw_of 68 (by decide +kernel) (by decide +kernel), by decide +kernel, by decide +kernel, by decide +kernel⟩
theorem mX9_207 : okV RX9 207 yX3_repeat cX3_repeat 6 none 3 := ⟨B_X3_repeat, tw_of 755 (by decide +kernel) (by decide +kernel), tw_of 756 (by decide +kernel) (by decide +kernel), tw_of 757 (by decide +kernel) (by decide +kernel)⟩
theorem B_X9_turn : okB yX9_turn cX9_turn 3 (some .int) 2 := ⟨tw_of 762 (by decide +kernel) (by decide +kernel), tw_of 63 (by decide +kernel) (by decide +kernel), by decide +kernel, by decide +kernel, by decide +kernel⟩
theorem mL_89 : okV RL 89 yX9_turn cX9_turn 3 (some .int) 2 := ⟨B_X9_turn, tw_of 759 (by decide +kernel) (by decide +kernel), tw_of 760 (by decide +kernel) (by decide +kernel), tw_of 761 (by decide +kernel) (by decide +kernel)⟩
theorem B_X3_turnAbout : okB yX3_turnAbout cX3_turnAbout 6 (some .int) 2 := ⟨tw_of 766 (by decide +kernel) (by decide +kernel), tw_of 68 (by decide +kernel) (by decide +kernel), by decide +kernel, by decide +kernel, by decide +kernel⟩
theorem mX9_210 : okV RX9 210 yX3_turnAbout cX3_turnAbout 6 (some .int) 2 := ⟨B_X3_turnAbout, tw_of 763 (by decide +kernel) (by decide +kernel), tw_of 764 (by decide +kernel) (by decide +kernel), tw_of 765 (by decide +kernel) (by decide +kernel)⟩
theorem mX3_44 : okS RX3 44 yX5_isBracket cX5_isBracket 1 (some .boolean) 1 := ⟨B_X5_isBracket, Or.inl (tw_of 767 (by decide +kernel) (by decide +kernel)), tw_of 401 (by decide +kernel) (by decide +kernel)⟩
theorem mX3_49 : okS RX3 49 yX9_oneIf cX9_oneIf 1 (some .int) 1 := ⟨B_X9_oneIf, Or.inr ⟨"FoldKeeper", List.mem_filter.mpr ⟨List.mem_of_getElem? (i := 768) (by decide +kernel), rfl⟩⟩, tw_of 575 (by decide +kernel) (by decide +kernel)⟩
theorem B_X5_turned : okB yX5_turned cX5_turned 1 (some .int) 1 := ⟨tw_of 771 (by decide +kernel) (by decide +kernel), tw_of 73 (by decide +kernel) (by decide +kernel), by decide +kernel, by decide +kernel, by decide +kernel⟩
theorem mX3_53 : okS RX3 53 yX5_turned cX5_turned 1 (some .int) 1 := ⟨B_X5_turned, Or.inl (tw_of 769 (by decide +kernel) (by decide +kernel)), tw_of 770 (by decide +kernel) (by decide +kernel)⟩
theorem mX3_56 : okV RX3 56 yX3_setByte cX3_setByte 3 none 2 := ⟨B_X3_setByte, tw_of 772 (by decide +kernel) (by decide +kernel), tw_of 705 (by decide +kernel) (by decide +kernel), tw_of 706 (by decide +kernel) (by decide +kernel)⟩
theorem B_X9_mark : okB yX9_mark cX9_mark 4 (some .int) 2 := ⟨tw_of 776 (by decide +kernel) (by decide +kernel), tw_of 63 (by decide +kernel) (by decide +kernel), by decide +kernel, by decide +kernel, by decide +kernel⟩
theorem mL_93 : okV RL 93 yX9_mark cX9_mark 4 (some .int) 2 := ⟨B_X9_mark, tw_of 773 (by decide +kernel) (by decide +kernel), tw_of 774 (by decide +kernel) (by decide +kernel), tw_of 775 (by decide +kernel) (by decide +kernel)⟩
theorem mX9_213 : okS RX9 213 yX5_opens cX5_opens 1 (some .boolean) 1 := ⟨B_X5_opens, Or.inl (tw_of 777 (by decide +kernel) (by decide +kernel)), tw_of 404 (by decide +kernel) (by decide +kernel)⟩
theorem mX9_216 : okV RX9 216 yX3_setMark cX3_setMark 3 none 2 := ⟨B_X3_setMark, tw_of 778 (by decide +kernel) (by decide +kernel), tw_of 434 (by decide +kernel) (by decide +kernel), tw_of 435 (by decide +kernel) (by decide +kernel)⟩
theorem B_X9_grow : okB yX9_grow cX9_grow 6 (some .int) 2 := ⟨tw_of 782 (by decide +kernel) (by decide +kernel), tw_of 63 (by decide +kernel) (by decide +kernel), by decide +kernel, by decide +kernel, by decide +kernel⟩
theorem mL_97 : okV RL 97 yX9_grow cX9_grow 6 (some .int) 2 := ⟨B_X9_grow, tw_of 779 (by decide +kernel) (by decide +kernel), tw_of 780 (by decide +kernel) (by decide +kernel), tw_of 781 (by decide +kernel) (by decide +kernel)⟩
theorem B_X9_undo : okB yX9_undo cX9_undo 1 (some .int) 0 := ⟨tw_of 789 (by decide +kernel) (by decide +kernel), tw_of 63 (by decide +kernel) (by decide +kernel), by decide +kernel, by decide +kernel, by decide +kernel⟩
theorem mL_101 : okV RL 101 yX9_undo cX9_undo 1 (some .int) 0 := ⟨B_X9_undo, tw_of 786 (by decide +kernel) (by decide +kernel), tw_of 787 (by decide +kernel) (by decide +kernel), tw_of 788 (by decide +kernel) (by decide +kernel)⟩
theorem B_X2_stepBack : okB yX2_stepBack cX2_stepBack 1 (some (.object "FoldKeeper$Row")) 0 := ⟨tw_of 793 (by decide +kernel) (by decide +kernel), tw_of 70 (by decide +kernel) (by decide +kernel), by decide +kernel, by decide +kernel, by decide +kernel⟩
theorem mX9_225 : okV RX9 225 yX2_stepBack cX2_stepBack 1 (some (.object "FoldKeeper$Row")) 0 := ⟨B_X2_stepBack, tw_of 790 (by decide +kernel) (by decide +kernel), tw_of 791 (by decide +kernel) (by decide +kernel), tw_of 792 (by decide +kernel) (by decide +kernel)⟩
theorem B_X9_redo : okB yX9_redo cX9_redo 1 (some .int) 0 := ⟨tw_of 797 (by decide +kernel) (by decide +kernel), tw_of 63 (by decide +kernel) (by decide +kernel), by decide +kernel, by decide +kernel, by decide +kernel⟩
theorem mL_105 : okV RL 105 yX9_redo cX9_redo 1 (some .int) 0 := ⟨B_X9_redo, tw_of 794 (by decide +kernel) (by decide +kernel), tw_of 795 (by decide +kernel) (by decide +kernel), tw_of 796 (by decide +kernel) (by decide +kernel)⟩
theorem B_X2_stepOn : okB yX2_stepOn cX2_stepOn 1 (some (.object "FoldKeeper$Row")) 0 := ⟨tw_of 801 (by decide +kernel) (by decide +kernel), tw_of 70 (by decide +kernel) (by decide +kernel), by decide +kernel, by decide +kernel, by decide +kernel⟩
theorem mX9_232 : okV RX9 232 yX2_stepOn cX2_stepOn 1 (some (.object "FoldKeeper$Row")) 0 := ⟨B_X2_stepOn, tw_of 798 (by decide +kernel) (by decide +kernel), tw_of 799 (by decide +kernel) (by decide +kernel), tw_of 800 (by decide +kernel) (by decide +kernel)⟩
theorem B_X9_keep : okB yX9_keep cX9_keep 3 (some .int) 1 := ⟨tw_of 805 (by decide +kernel) (by decide +kernel), tw_of 63 (by decide +kernel) (by decide +kernel), by decide +kernel, by decide +kernel, by decide +kernel⟩
theorem mL_109 : okV RL 109 yX9_keep cX9_keep 3 (some .int) 1 := ⟨B_X9_keep, tw_of 802 (by decide +kernel) (by decide +kernel), tw_of 803 (by decide +kernel) (by decide +kernel), tw_of 804 (by decide +kernel) (by decide +kernel)⟩
theorem B_X9_back : okB yX9_back cX9_back 2 (some .int) 1 := ⟨tw_of 809 (by decide +kernel) (by decide +kernel), tw_of 63 (by decide +kernel) (by decide +kernel), by decide +kernel, by decide +kernel, by decide +kernel⟩
theorem mL_113 : okV RL 113 yX9_back cX9_back 2 (some .int) 1 := ⟨B_X9_back, tw_of 806 (by decide +kernel) (by decide +kernel), tw_of 807 (by decide +kernel) (by decide +kernel), tw_of 808 (by decide +kernel) (by decide +kernel)⟩
theorem B_X9_sheet : okB yX9_sheet cX9_sheet 4 (some .int) 3 := ⟨tw_of 813 (by decide +kernel) (by decide +kernel), tw_of 63 (by decide +kernel) (by decide +kernel), by decide +kernel, by decide +kernel, by decide +kernel⟩
theorem mL_117 : okV RL 117 yX9_sheet cX9_sheet 4 (some .int) 3 := ⟨B_X9_sheet, tw_of 810 (by decide +kernel) (by decide +kernel), tw_of 811 (by decide +kernel) (by decide +kernel), tw_of 812 (by decide +kernel) (by decide +kernel)⟩
theorem B_X9_hasSheet : okB yX9_hasSheet cX9_hasSheet 1 (some .boolean) 1 := ⟨tw_of 816 (by decide +kernel) (by decide +kernel), tw_of 63 (by decide +kernel) (by decide +kernel), by decide +kernel, by decide +kernel, by decide +kernel⟩
theorem mX9_235 : okS RX9 235 yX9_hasSheet cX9_hasSheet 1 (some .boolean) 1 := ⟨B_X9_hasSheet, Or.inl (tw_of 814 (by decide +kernel) (by decide +kernel)), tw_of 815 (by decide +kernel) (by decide +kernel)⟩
theorem B_X9_isLane : okB yX9_isLane cX9_isLane 1 (some .boolean) 1 := ⟨tw_of 819 (by decide +kernel) (by decide +kernel), tw_of 63 (by decide +kernel) (by decide +kernel), by decide +kernel, by decide +kernel, by decide +kernel⟩
theorem mX9_238 : okS RX9 238 yX9_isLane cX9_isLane 1 (some .boolean) 1 := ⟨B_X9_isLane, Or.inl (tw_of 817 (by decide +kernel) (by decide +kernel)), tw_of 818 (by decide +kernel) (by decide +kernel)⟩
theorem B_X4_makeNew : okB yX4_makeNew cX4_makeNew 4 none 2 := ⟨tw_of 823 (by decide +kernel) (by decide +kernel), tw_of 71 (by decide +kernel) (by decide +kernel), by decide +kernel, by decide +kernel, by decide +kernel⟩
theorem mX9_241 : okV RX9 241 yX4_makeNew cX4_makeNew 4 none 2 := ⟨B_X4_makeNew, tw_of 820 (by decide +kernel) (by decide +kernel), tw_of 821 (by decide +kernel) (by decide +kernel), tw_of 822 (by decide +kernel) (by decide +kernel)⟩
theorem B_X9_lay : okB yX9_lay cX9_lay 5 (some .int) 3 := ⟨tw_of 827 (by decide +kernel) (by decide +kernel), tw_of 63 (by decide +kernel) (by decide +kernel), by decide +kernel, by decide +kernel, by decide +kernel⟩
theorem mL_121 : okV RL 121 yX9_lay cX9_lay 5 (some .int) 3 := ⟨B_X9_lay, tw_of 824 (by decide +kernel) (by decide +kernel), tw_of 825 (by decide +kernel) (by decide +kernel), tw_of 826 (by decide +kernel) (by decide +kernel)⟩
theorem B_X4_faultAt : okB yX4_faultAt cX4_faultAt 3 (some .int) 2 := ⟨tw_of 831 (by decide +kernel) (by decide +kernel), tw_of 71 (by decide +kernel) (by decide +kernel), by decide +kernel, by decide +kernel, by decide +kernel⟩
theorem mX9_247 : okV RX9 247 yX4_faultAt cX4_faultAt 3 (some .int) 2 := ⟨B_X4_faultAt, tw_of 828 (by decide +kernel) (by decide +kernel), tw_of 829 (by decide +kernel) (by decide +kernel), tw_of 830 (by decide +kernel) (by decide +kernel)⟩
theorem B_X4_setCell : okB yX4_setCell cX4_setCell 3 none 2 := ⟨tw_of 835 (by decide +kernel) (by decide +kernel), tw_of 71 (by decide +kernel) (by decide +kernel), by decide +kernel, by decide +kernel, by decide +kernel⟩
theorem mX9_250 : okV RX9 250 yX4_setCell cX4_setCell 3 none 2 := ⟨B_X4_setCell, tw_of 832 (by decide +kernel) (by decide +kernel), tw_of 833 (by decide +kernel) (by decide +kernel), tw_of 834 (by decide +kernel) (by decide +kernel)⟩
theorem B_X9_read : okB yX9_read cX9_read 9 (some .int) 4 := ⟨tw_of 839 (by decide +kernel) (by decide +kernel), tw_of 63 (by decide +kernel) (by decide +kernel), by decide +kernel, by decide +kernel, by decide +kernel⟩
theorem mL_125 : okV RL 125 yX9_read cX9_read 9 (some .int) 4 := ⟨B_X9_read, tw_of 836 (by decide +kernel) (by decide +kernel), tw_of 837 (by decide +kernel) (by decide +kernel), tw_of 838 (by decide +kernel) (by decide +kernel)⟩
theorem B_X9_torn : okB yX9_torn cX9_torn 1 (some .int) 0 := ⟨tw_of 843 (by decide +kernel) (by decide +kernel), tw_of 63 (by decide +kernel) (by decide +kernel), by decide +kernel, by decide +kernel, by decide +kernel⟩
theorem mL_130 : okV RL 130 yX9_torn cX9_torn 1 (some .int) 0 := ⟨B_X9_torn, tw_of 840 (by decide +kernel) (by decide +kernel), tw_of 841 (by decide +kernel) (by decide +kernel), tw_of 842 (by decide +kernel) (by decide +kernel)⟩
theorem B_X9_count : okB yX9_count cX9_count 2 (some .int) 1 := ⟨tw_of 847 (by decide +kernel) (by decide +kernel), tw_of 63 (by decide +kernel) (by decide +kernel), by decide +kernel, by decide +kernel, by decide +kernel⟩
theorem mL_134 : okV RL 134 yX9_count cX9_count 2 (some .int) 1 := ⟨B_X9_count, tw_of 844 (by decide +kernel) (by decide +kernel), tw_of 845 (by decide +kernel) (by decide +kernel), tw_of 846 (by decide +kernel) (by decide +kernel)⟩
theorem B_X3_openingSigns : okB yX3_openingSigns cX3_openingSigns 3 (some .int) 0 := ⟨tw_of 851 (by decide +kernel) (by decide +kernel), tw_of 68 (by decide +kernel) (by decide +kernel), by decide +kernel, by decide +kernel, by decide +kernel⟩
theorem mX9_264 : okV RX9 264 yX3_openingSigns cX3_openingSigns 3 (some .int) 0 := ⟨B_X3_openingSigns, tw_of 848 (by decide +kernel) (by decide +kernel), tw_of 849 (by decide +kernel) (by decide +kernel), tw_of 850 (by decide +kernel) (by decide +kernel)⟩
theorem mX3_59 : okS RX3 59 yX5_opens cX5_opens 1 (some .boolean) 1 := ⟨B_X5_opens, Or.inl (tw_of 852 (by decide +kernel) (by decide +kernel)), tw_of 404 (by decide +kernel) (by decide +kernel)⟩
theorem B_X3_closingSigns : okB yX3_closingSigns cX3_closingSigns 3 (some .int) 0 := ⟨tw_of 856 (by decide +kernel) (by decide +kernel), tw_of 68 (by decide +kernel) (by decide +kernel), by decide +kernel, by decide +kernel, by decide +kernel⟩
theorem mX9_267 : okV RX9 267 yX3_closingSigns cX3_closingSigns 3 (some .int) 0 := ⟨B_X3_closingSigns, tw_of 853 (by decide +kernel) (by decide +kernel), tw_of 854 (by decide +kernel) (by decide +kernel), tw_of 855 (by decide +kernel) (by decide +kernel)⟩
theorem mX3_62 : okS RX3 62 yX5_closes cX5_closes 1 (some .boolean) 1 := ⟨B_X5_closes, Or.inl (tw_of 857 (by decide +kernel) (by decide +kernel)), tw_of 407 (by decide +kernel) (by decide +kernel)⟩
theorem B_X10_init : okB yX10_init cX10_init 1 none 0 := ⟨tw_of 862 (by decide +kernel) (by decide +kernel), tw_of 72 (by decide +kernel) (by decide +kernel), by decide +kernel, by decide +kernel, by decide +kernel⟩
theorem mL_12 : okI RL 12 yX10_init cX10_init 1 0 := ⟨B_X10_init, Or.inl (tw_of 860 (by decide +kernel) (by decide +kernel)), tw_of 861 (by decide +kernel) (by decide +kernel), rfl⟩
theorem mX10_1 : Cond.methodLink RX10 1 objectInit ∈ tw := tw_of 863 (by decide +kernel) (by decide +kernel)
theorem B_X10_feed : okB yX10_feed cX10_feed 2 (some .int) 1 := ⟨tw_of 961 (by decide +kernel) (by decide +kernel), tw_of 72 (by decide +kernel) (by decide +kernel), by decide +kernel, by decide +kernel, by decide +kernel⟩
theorem mL_17 : okV RL 17 yX10_feed cX10_feed 2 (some .int) 1 := ⟨B_X10_feed, tw_of 958 (by decide +kernel) (by decide +kernel), tw_of 959 (by decide +kernel) (by decide +kernel), tw_of 960 (by decide +kernel) (by decide +kernel)⟩
theorem B_X10_in : okB yX10_in cX10_in 6 (some .boolean) 3 := ⟨tw_of 965 (by decide +kernel) (by decide +kernel), tw_of 72 (by decide +kernel) (by decide +kernel), by decide +kernel, by decide +kernel, by decide +kernel⟩
theorem mX10_61 : okS RX10 61 yX10_in cX10_in 6 (some .boolean) 3 := ⟨B_X10_in, Or.inl (tw_of 963 (by decide +kernel) (by decide +kernel)), tw_of 964 (by decide +kernel) (by decide +kernel)⟩
theorem B_X10_end : okB yX10_end cX10_end 3 (some .int) 1 := ⟨tw_of 969 (by decide +kernel) (by decide +kernel), tw_of 72 (by decide +kernel) (by decide +kernel), by decide +kernel, by decide +kernel, by decide +kernel⟩
theorem mL_21 : okV RL 21 yX10_end cX10_end 3 (some .int) 1 := ⟨B_X10_end, tw_of 966 (by decide +kernel) (by decide +kernel), tw_of 967 (by decide +kernel) (by decide +kernel), tw_of 968 (by decide +kernel) (by decide +kernel)⟩
theorem B_X10_text : okB yX10_text cX10_text 2 (some .int) 0 := ⟨tw_of 973 (by decide +kernel) (by decide +kernel), tw_of 72 (by decide +kernel) (by decide +kernel), by decide +kernel, by decide +kernel, by decide +kernel⟩
theorem mL_26 : okV RL 26 yX10_text cX10_text 2 (some .int) 0 := ⟨B_X10_text, tw_of 970 (by decide +kernel) (by decide +kernel), tw_of 971 (by decide +kernel) (by decide +kernel), tw_of 972 (by decide +kernel) (by decide +kernel)⟩
theorem B_X10_readsOn : okB yX10_readsOn cX10_readsOn 2 none 0 := ⟨tw_of 977 (by decide +kernel) (by decide +kernel), tw_of 72 (by decide +kernel) (by decide +kernel), by decide +kernel, by decide +kernel, by decide +kernel⟩
theorem mX10_122 : okV RX10 122 yX10_readsOn cX10_readsOn 2 none 0 := ⟨B_X10_readsOn, tw_of 974 (by decide +kernel) (by decide +kernel), tw_of 976 (by decide +kernel) (by decide +kernel), tw_of 23 (by decide +kernel) (by decide +kernel)⟩
theorem B_X10_byteAt : okB yX10_byteAt cX10_byteAt 2 (some .int) 1 := ⟨tw_of 981 (by decide +kernel) (by decide +kernel), tw_of 72 (by decide +kernel) (by decide +kernel), by decide +kernel, by decide +kernel, by decide +kernel⟩
theorem mX10_92 : okV RX10 92 yX10_byteAt cX10_byteAt 2 (some .int) 1 := ⟨B_X10_byteAt, tw_of 978 (by decide +kernel) (by decide +kernel), tw_of 980 (by decide +kernel) (by decide +kernel), tw_of 24 (by decide +kernel) (by decide +kernel)⟩
theorem B_X10_fails : okB yX10_fails cX10_fails 2 none 1 := ⟨tw_of 989 (by decide +kernel) (by decide +kernel), tw_of 72 (by decide +kernel) (by decide +kernel), by decide +kernel, by decide +kernel, by decide +kernel⟩
theorem mX10_105 : okV RX10 105 yX10_fails cX10_fails 2 none 1 := ⟨B_X10_fails, tw_of 986 (by decide +kernel) (by decide +kernel), tw_of 988 (by decide +kernel) (by decide +kernel), tw_of 25 (by decide +kernel) (by decide +kernel)⟩
theorem B_X10_quoteRead : okB yX10_quoteRead cX10_quoteRead 1 none 0 := ⟨tw_of 993 (by decide +kernel) (by decide +kernel), tw_of 72 (by decide +kernel) (by decide +kernel), by decide +kernel, by decide +kernel, by decide +kernel⟩
theorem mX10_116 : okV RX10 116 yX10_quoteRead cX10_quoteRead 1 none 0 := ⟨B_X10_quoteRead, tw_of 990 (by decide +kernel) (by decide +kernel), tw_of 992 (by decide +kernel) (by decide +kernel), tw_of 26 (by decide +kernel) (by decide +kernel)⟩
theorem B_X10_isSign : okB yX10_isSign cX10_isSign 1 (some .boolean) 1 := ⟨tw_of 996 (by decide +kernel) (by decide +kernel), tw_of 72 (by decide +kernel) (by decide +kernel), by decide +kernel, by decide +kernel, by decide +kernel⟩
theorem mX10_98 : okS RX10 98 yX10_isSign cX10_isSign 1 (some .boolean) 1 := ⟨B_X10_isSign, Or.inl (tw_of 994 (by decide +kernel) (by decide +kernel)), tw_of 995 (by decide +kernel) (by decide +kernel)⟩
theorem B_X10_kindOf : okB yX10_kindOf cX10_kindOf 1 (some .int) 1 := ⟨tw_of 999 (by decide +kernel) (by decide +kernel), tw_of 72 (by decide +kernel) (by decide +kernel), by decide +kernel, by decide +kernel, by decide +kernel⟩
theorem mX10_78 : okS RX10 78 yX10_kindOf cX10_kindOf 1 (some .int) 1 := ⟨B_X10_kindOf, Or.inl (tw_of 997 (by decide +kernel) (by decide +kernel)), tw_of 998 (by decide +kernel) (by decide +kernel)⟩
theorem B_X10_readLine : okB yX10_readLine cX10_readLine 3 none 0 := ⟨tw_of 1003 (by decide +kernel) (by decide +kernel), tw_of 72 (by decide +kernel) (by decide +kernel), by decide +kernel, by decide +kernel, by decide +kernel⟩
theorem mX10_145 : okV RX10 145 yX10_readLine cX10_readLine 3 none 0 := ⟨B_X10_readLine, tw_of 1000 (by decide +kernel) (by decide +kernel), tw_of 1002 (by decide +kernel) (by decide +kernel), tw_of 27 (by decide +kernel) (by decide +kernel)⟩
theorem B_X10_nameHere : okB yX10_nameHere cX10_nameHere 4 (some .int) 0 := ⟨tw_of 1007 (by decide +kernel) (by decide +kernel), tw_of 72 (by decide +kernel) (by decide +kernel), by decide +kernel, by decide +kernel, by decide +kernel⟩
theorem mX10_128 : okV RX10 128 yX10_nameHere cX10_nameHere 4 (some .int) 0 := ⟨B_X10_nameHere, tw_of 1004 (by decide +kernel) (by decide +kernel), tw_of 1006 (by decide +kernel) (by decide +kernel), tw_of 28 (by decide +kernel) (by decide +kernel)⟩
theorem B_X10_takes : okB yX10_takes cX10_takes 1 none 0 := ⟨tw_of 1011 (by decide +kernel) (by decide +kernel), tw_of 72 (by decide +kernel) (by decide +kernel), by decide +kernel, by decide +kernel, by decide +kernel⟩
theorem mX10_125 : okV RX10 125 yX10_takes cX10_takes 1 none 0 := ⟨B_X10_takes, tw_of 1008 (by decide +kernel) (by decide +kernel), tw_of 1010 (by decide +kernel) (by decide +kernel), tw_of 29 (by decide +kernel) (by decide +kernel)⟩
theorem B_X10_signsRead : okB yX10_signsRead cX10_signsRead 5 none 1 := ⟨tw_of 1015 (by decide +kernel) (by decide +kernel), tw_of 72 (by decide +kernel) (by decide +kernel), by decide +kernel, by decide +kernel, by decide +kernel⟩
theorem mX10_132 : okV RX10 132 yX10_signsRead cX10_signsRead 5 none 1 := ⟨B_X10_signsRead, tw_of 1012 (by decide +kernel) (by decide +kernel), tw_of 1014 (by decide +kernel) (by decide +kernel), tw_of 30 (by decide +kernel) (by decide +kernel)⟩
theorem B_X10_numberRead : okB yX10_numberRead cX10_numberRead 4 (some .int) 2 := ⟨tw_of 1019 (by decide +kernel) (by decide +kernel), tw_of 72 (by decide +kernel) (by decide +kernel), by decide +kernel, by decide +kernel, by decide +kernel⟩
theorem mX10_135 : okV RX10 135 yX10_numberRead cX10_numberRead 4 (some .int) 2 := ⟨B_X10_numberRead, tw_of 1016 (by decide +kernel) (by decide +kernel), tw_of 1018 (by decide +kernel) (by decide +kernel), tw_of 31 (by decide +kernel) (by decide +kernel)⟩
theorem B_X10_isWhole : okB yX10_isWhole cX10_isWhole 4 (some .boolean) 0 := ⟨tw_of 1023 (by decide +kernel) (by decide +kernel), tw_of 72 (by decide +kernel) (by decide +kernel), by decide +kernel, by decide +kernel, by decide +kernel⟩
theorem mX10_148 : okV RX10 148 yX10_isWhole cX10_isWhole 4 (some .boolean) 0 := ⟨B_X10_isWhole, tw_of 1020 (by decide +kernel) (by decide +kernel), tw_of 1022 (by decide +kernel) (by decide +kernel), tw_of 32 (by decide +kernel) (by decide +kernel)⟩
theorem B_X10_isOpen : okB yX10_isOpen cX10_isOpen 1 (some .boolean) 1 := ⟨tw_of 1026 (by decide +kernel) (by decide +kernel), tw_of 72 (by decide +kernel) (by decide +kernel), by decide +kernel, by decide +kernel, by decide +kernel⟩
theorem mX10_142 : okS RX10 142 yX10_isOpen cX10_isOpen 1 (some .boolean) 1 := ⟨B_X10_isOpen, Or.inl (tw_of 1024 (by decide +kernel) (by decide +kernel)), tw_of 1025 (by decide +kernel) (by decide +kernel)⟩
theorem B_X10_copies : okB yX10_copies cX10_copies 4 none 2 := ⟨tw_of 1030 (by decide +kernel) (by decide +kernel), tw_of 72 (by decide +kernel) (by decide +kernel), by decide +kernel, by decide +kernel, by decide +kernel⟩
theorem mX10_155 : okV RX10 155 yX10_copies cX10_copies 4 none 2 := ⟨B_X10_copies, tw_of 1027 (by decide +kernel) (by decide +kernel), tw_of 1029 (by decide +kernel) (by decide +kernel), tw_of 33 (by decide +kernel) (by decide +kernel)⟩
theorem B_X10_many : okB yX10_many cX10_many 1 (some .int) 0 := ⟨tw_of 1034 (by decide +kernel) (by decide +kernel), tw_of 72 (by decide +kernel) (by decide +kernel), by decide +kernel, by decide +kernel, by decide +kernel⟩
theorem mX10_165 : okV RX10 165 yX10_many cX10_many 1 (some .int) 0 := ⟨B_X10_many, tw_of 1031 (by decide +kernel) (by decide +kernel), tw_of 1033 (by decide +kernel) (by decide +kernel), tw_of 34 (by decide +kernel) (by decide +kernel)⟩
theorem B_X10_fault : okB yX10_fault cX10_fault 1 (some .int) 0 := ⟨tw_of 1038 (by decide +kernel) (by decide +kernel), tw_of 72 (by decide +kernel) (by decide +kernel), by decide +kernel, by decide +kernel, by decide +kernel⟩
theorem mL_30 : okV RL 30 yX10_fault cX10_fault 1 (some .int) 0 := ⟨B_X10_fault, tw_of 1035 (by decide +kernel) (by decide +kernel), tw_of 1036 (by decide +kernel) (by decide +kernel), tw_of 1037 (by decide +kernel) (by decide +kernel)⟩
theorem B_X10_reason : okB yX10_reason cX10_reason 2 (some .int) 1 := ⟨tw_of 1042 (by decide +kernel) (by decide +kernel), tw_of 72 (by decide +kernel) (by decide +kernel), by decide +kernel, by decide +kernel, by decide +kernel⟩
theorem mL_34 : okV RL 34 yX10_reason cX10_reason 2 (some .int) 1 := ⟨B_X10_reason, tw_of 1039 (by decide +kernel) (by decide +kernel), tw_of 1040 (by decide +kernel) (by decide +kernel), tw_of 1041 (by decide +kernel) (by decide +kernel)⟩
theorem B_X10_rule : okB yX10_rule cX10_rule 2 (some .int) 1 := ⟨tw_of 1047 (by decide +kernel) (by decide +kernel), tw_of 72 (by decide +kernel) (by decide +kernel), by decide +kernel, by decide +kernel, by decide +kernel⟩
theorem mL_38 : okV RL 38 yX10_rule cX10_rule 2 (some .int) 1 := ⟨B_X10_rule, tw_of 1044 (by decide +kernel) (by decide +kernel), tw_of 1045 (by decide +kernel) (by decide +kernel), tw_of 1046 (by decide +kernel) (by decide +kernel)⟩
theorem B_X10_linesTo : okB yX10_linesTo cX10_linesTo 4 (some .int) 1 := ⟨tw_of 1051 (by decide +kernel) (by decide +kernel), tw_of 72 (by decide +kernel) (by decide +kernel), by decide +kernel, by decide +kernel, by decide +kernel⟩
theorem mX10_208 : okV RX10 208 yX10_linesTo cX10_linesTo 4 (some .int) 1 := ⟨B_X10_linesTo, tw_of 1048 (by decide +kernel) (by decide +kernel), tw_of 1050 (by decide +kernel) (by decide +kernel), tw_of 35 (by decide +kernel) (by decide +kernel)⟩
theorem B_X10_signAt : okB yX10_signAt cX10_signAt 2 (some .int) 1 := ⟨tw_of 1055 (by decide +kernel) (by decide +kernel), tw_of 72 (by decide +kernel) (by decide +kernel), by decide +kernel, by decide +kernel, by decide +kernel⟩
theorem mX10_170 : okV RX10 170 yX10_signAt cX10_signAt 2 (some .int) 1 := ⟨B_X10_signAt, tw_of 1052 (by decide +kernel) (by decide +kernel), tw_of 1054 (by decide +kernel) (by decide +kernel), tw_of 36 (by decide +kernel) (by decide +kernel)⟩
theorem B_X10_greatestLevel : okB yX10_greatestLevel cX10_greatestLevel 3 (some .int) 0 := ⟨tw_of 1059 (by decide +kernel) (by decide +kernel), tw_of 72 (by decide +kernel) (by decide +kernel), by decide +kernel, by decide +kernel, by decide +kernel⟩
theorem mX10_211 : okV RX10 211 yX10_greatestLevel cX10_greatestLevel 3 (some .int) 0 := ⟨B_X10_greatestLevel, tw_of 1056 (by decide +kernel) (by decide +kernel), tw_of 1058 (by decide +kernel) (by decide +kernel), tw_of 37 (by decide +kernel) (by decide +kernel)⟩
theorem B_X10_findsAll : okB yX10_findsAll cX10_findsAll 2 none 0 := ⟨tw_of 1063 (by decide +kernel) (by decide +kernel), tw_of 72 (by decide +kernel) (by decide +kernel), by decide +kernel, by decide +kernel, by decide +kernel⟩
theorem mX10_198 : okV RX10 198 yX10_findsAll cX10_findsAll 2 none 0 := ⟨B_X10_findsAll, tw_of 1060 (by decide +kernel) (by decide +kernel), tw_of 1062 (by decide +kernel) (by decide +kernel), tw_of 38 (by decide +kernel) (by decide +kernel)⟩
theorem B_X10_finds : okB yX10_finds cX10_finds 7 none 2 := ⟨tw_of 1067 (by decide +kernel) (by decide +kernel), tw_of 72 (by decide +kernel) (by decide +kernel), by decide +kernel, by decide +kernel, by decide +kernel⟩
theorem mX10_173 : okV RX10 173 yX10_finds cX10_finds 7 none 2 := ⟨B_X10_finds, tw_of 1064 (by decide +kernel) (by decide +kernel), tw_of 1066 (by decide +kernel) (by decide +kernel), tw_of 39 (by decide +kernel) (by decide +kernel)⟩
theorem B_X10_levelOf : okB yX10_levelOf cX10_levelOf 4 (some .int) 1 := ⟨tw_of 1071 (by decide +kernel) (by decide +kernel), tw_of 72 (by decide +kernel) (by decide +kernel), by decide +kernel, by decide +kernel, by decide +kernel⟩
theorem mX10_205 : okV RX10 205 yX10_levelOf cX10_levelOf 4 (some .int) 1 := ⟨B_X10_levelOf, tw_of 1068 (by decide +kernel) (by decide +kernel), tw_of 1070 (by decide +kernel) (by decide +kernel), tw_of 40 (by decide +kernel) (by decide +kernel)⟩
theorem B_X10_counted : okB yX10_counted cX10_counted 4 (some .int) 1 := ⟨tw_of 1076 (by decide +kernel) (by decide +kernel), tw_of 72 (by decide +kernel) (by decide +kernel), by decide +kernel, by decide +kernel, by decide +kernel⟩
theorem mX10_216 : okV RX10 216 yX10_counted cX10_counted 4 (some .int) 1 := ⟨B_X10_counted, tw_of 1073 (by decide +kernel) (by decide +kernel), tw_of 1075 (by decide +kernel) (by decide +kernel), tw_of 41 (by decide +kernel) (by decide +kernel)⟩
theorem B_X10_isCounted : okB yX10_isCounted cX10_isCounted 3 (some .boolean) 2 := ⟨tw_of 1080 (by decide +kernel) (by decide +kernel), tw_of 72 (by decide +kernel) (by decide +kernel), by decide +kernel, by decide +kernel, by decide +kernel⟩
theorem mX10_201 : okV RX10 201 yX10_isCounted cX10_isCounted 3 (some .boolean) 2 := ⟨B_X10_isCounted, tw_of 1077 (by decide +kernel) (by decide +kernel), tw_of 1079 (by decide +kernel) (by decide +kernel), tw_of 42 (by decide +kernel) (by decide +kernel)⟩
theorem B_X10_isFirst : okB yX10_isFirst cX10_isFirst 2 (some .boolean) 1 := ⟨tw_of 1084 (by decide +kernel) (by decide +kernel), tw_of 72 (by decide +kernel) (by decide +kernel), by decide +kernel, by decide +kernel, by decide +kernel⟩
theorem mX10_177 : okV RX10 177 yX10_isFirst cX10_isFirst 2 (some .boolean) 1 := ⟨B_X10_isFirst, tw_of 1081 (by decide +kernel) (by decide +kernel), tw_of 1083 (by decide +kernel) (by decide +kernel), tw_of 43 (by decide +kernel) (by decide +kernel)⟩
theorem B_X10_isBare : okB yX10_isBare cX10_isBare 2 (some .boolean) 1 := ⟨tw_of 1088 (by decide +kernel) (by decide +kernel), tw_of 72 (by decide +kernel) (by decide +kernel), by decide +kernel, by decide +kernel, by decide +kernel⟩
theorem mX10_189 : okV RX10 189 yX10_isBare cX10_isBare 2 (some .boolean) 1 := ⟨B_X10_isBare, tw_of 1085 (by decide +kernel) (by decide +kernel), tw_of 1087 (by decide +kernel) (by decide +kernel), tw_of 44 (by decide +kernel) (by decide +kernel)⟩
theorem B_X10_isClashing : okB yX10_isClashing cX10_isClashing 2 (some .boolean) 1 := ⟨tw_of 1092 (by decide +kernel) (by decide +kernel), tw_of 72 (by decide +kernel) (by decide +kernel), by decide +kernel, by decide +kernel, by decide +kernel⟩
theorem mX10_192 : okV RX10 192 yX10_isClashing cX10_isClashing 2 (some .boolean) 1 := ⟨B_X10_isClashing, tw_of 1089 (by decide +kernel) (by decide +kernel), tw_of 1091 (by decide +kernel) (by decide +kernel), tw_of 45 (by decide +kernel) (by decide +kernel)⟩
theorem B_X10_isFolded : okB yX10_isFolded cX10_isFolded 4 (some .boolean) 1 := ⟨tw_of 1096 (by decide +kernel) (by decide +kernel), tw_of 72 (by decide +kernel) (by decide +kernel), by decide +kernel, by decide +kernel, by decide +kernel⟩
theorem mX10_183 : okV RX10 183 yX10_isFolded cX10_isFolded 4 (some .boolean) 1 := ⟨B_X10_isFolded, tw_of 1093 (by decide +kernel) (by decide +kernel), tw_of 1095 (by decide +kernel) (by decide +kernel), tw_of 46 (by decide +kernel) (by decide +kernel)⟩
theorem B_X10_isMarked : okB yX10_isMarked cX10_isMarked 2 (some .boolean) 1 := ⟨tw_of 1100 (by decide +kernel) (by decide +kernel), tw_of 72 (by decide +kernel) (by decide +kernel), by decide +kernel, by decide +kernel, by decide +kernel⟩
theorem mX10_180 : okV RX10 180 yX10_isMarked cX10_isMarked 2 (some .boolean) 1 := ⟨B_X10_isMarked, tw_of 1097 (by decide +kernel) (by decide +kernel), tw_of 1099 (by decide +kernel) (by decide +kernel), tw_of 47 (by decide +kernel) (by decide +kernel)⟩
theorem B_X10_isHidden : okB yX10_isHidden cX10_isHidden 4 (some .boolean) 1 := ⟨tw_of 1104 (by decide +kernel) (by decide +kernel), tw_of 72 (by decide +kernel) (by decide +kernel), by decide +kernel, by decide +kernel, by decide +kernel⟩
theorem mX10_195 : okV RX10 195 yX10_isHidden cX10_isHidden 4 (some .boolean) 1 := ⟨B_X10_isHidden, tw_of 1101 (by decide +kernel) (by decide +kernel), tw_of 1103 (by decide +kernel) (by decide +kernel), tw_of 48 (by decide +kernel) (by decide +kernel)⟩
theorem B_X10_sign : okB yX10_sign cX10_sign 3 (some .int) 2 := ⟨tw_of 1108 (by decide +kernel) (by decide +kernel), tw_of 72 (by decide +kernel) (by decide +kernel), by decide +kernel, by decide +kernel, by decide +kernel⟩
theorem mL_43 : okV RL 43 yX10_sign cX10_sign 3 (some .int) 2 := ⟨B_X10_sign, tw_of 1105 (by decide +kernel) (by decide +kernel), tw_of 1106 (by decide +kernel) (by decide +kernel), tw_of 1107 (by decide +kernel) (by decide +kernel)⟩
theorem B_X10_isThere : okB yX10_isThere cX10_isThere 2 (some .boolean) 1 := ⟨tw_of 1112 (by decide +kernel) (by decide +kernel), tw_of 72 (by decide +kernel) (by decide +kernel), by decide +kernel, by decide +kernel, by decide +kernel⟩
theorem mX10_219 : okV RX10 219 yX10_isThere cX10_isThere 2 (some .boolean) 1 := ⟨B_X10_isThere, tw_of 1109 (by decide +kernel) (by decide +kernel), tw_of 1111 (by decide +kernel) (by decide +kernel), tw_of 49 (by decide +kernel) (by decide +kernel)⟩
theorem B_X10_depthAt : okB yX10_depthAt cX10_depthAt 4 (some .int) 1 := ⟨tw_of 1116 (by decide +kernel) (by decide +kernel), tw_of 72 (by decide +kernel) (by decide +kernel), by decide +kernel, by decide +kernel, by decide +kernel⟩
theorem mX10_222 : okV RX10 222 yX10_depthAt cX10_depthAt 4 (some .int) 1 := ⟨B_X10_depthAt, tw_of 1113 (by decide +kernel) (by decide +kernel), tw_of 1115 (by decide +kernel) (by decide +kernel), tw_of 50 (by decide +kernel) (by decide +kernel)⟩
theorem B_X10_isClose : okB yX10_isClose cX10_isClose 1 (some .boolean) 1 := ⟨tw_of 1119 (by decide +kernel) (by decide +kernel), tw_of 72 (by decide +kernel) (by decide +kernel), by decide +kernel, by decide +kernel, by decide +kernel⟩
theorem mX10_186 : okS RX10 186 yX10_isClose cX10_isClose 1 (some .boolean) 1 := ⟨B_X10_isClose, Or.inl (tw_of 1117 (by decide +kernel) (by decide +kernel)), tw_of 1118 (by decide +kernel) (by decide +kernel)⟩
theorem B_X10_low : okB yX10_low cX10_low 5 (some .int) 2 := ⟨tw_of 1123 (by decide +kernel) (by decide +kernel), tw_of 72 (by decide +kernel) (by decide +kernel), by decide +kernel, by decide +kernel, by decide +kernel⟩
theorem mL_47 : okV RL 47 yX10_low cX10_low 5 (some .int) 2 := ⟨B_X10_low, tw_of 1120 (by decide +kernel) (by decide +kernel), tw_of 1121 (by decide +kernel) (by decide +kernel), tw_of 1122 (by decide +kernel) (by decide +kernel)⟩
theorem B_X10_isPlace : okB yX10_isPlace cX10_isPlace 2 (some .boolean) 1 := ⟨tw_of 1127 (by decide +kernel) (by decide +kernel), tw_of 72 (by decide +kernel) (by decide +kernel), by decide +kernel, by decide +kernel, by decide +kernel⟩
theorem mX10_225 : okV RX10 225 yX10_isPlace cX10_isPlace 2 (some .boolean) 1 := ⟨B_X10_isPlace, tw_of 1124 (by decide +kernel) (by decide +kernel), tw_of 1126 (by decide +kernel) (by decide +kernel), tw_of 51 (by decide +kernel) (by decide +kernel)⟩
theorem B_X10_around : okB yX10_around cX10_around 5 (some .int) 2 := ⟨tw_of 1131 (by decide +kernel) (by decide +kernel), tw_of 72 (by decide +kernel) (by decide +kernel), by decide +kernel, by decide +kernel, by decide +kernel⟩
theorem mL_51 : okV RL 51 yX10_around cX10_around 5 (some .int) 2 := ⟨B_X10_around, tw_of 1128 (by decide +kernel) (by decide +kernel), tw_of 1129 (by decide +kernel) (by decide +kernel), tw_of 1130 (by decide +kernel) (by decide +kernel)⟩
theorem B_X10_whole : okB yX10_whole cX10_whole 2 (some .int) 1 := ⟨tw_of 1136 (by decide +kernel) (by decide +kernel), tw_of 72 (by decide +kernel) (by decide +kernel), by decide +kernel, by decide +kernel, by decide +kernel⟩
theorem mL_55 : okV RL 55 yX10_whole cX10_whole 2 (some .int) 1 := ⟨B_X10_whole, tw_of 1133 (by decide +kernel) (by decide +kernel), tw_of 1134 (by decide +kernel) (by decide +kernel), tw_of 1135 (by decide +kernel) (by decide +kernel)⟩
theorem B_X10_wholeFrom : okB yX10_wholeFrom cX10_wholeFrom 5 (some .int) 1 := ⟨tw_of 1140 (by decide +kernel) (by decide +kernel), tw_of 72 (by decide +kernel) (by decide +kernel), by decide +kernel, by decide +kernel, by decide +kernel⟩
theorem mX10_230 : okV RX10 230 yX10_wholeFrom cX10_wholeFrom 5 (some .int) 1 := ⟨B_X10_wholeFrom, tw_of 1137 (by decide +kernel) (by decide +kernel), tw_of 1139 (by decide +kernel) (by decide +kernel), tw_of 52 (by decide +kernel) (by decide +kernel)⟩
theorem B_X10_bare : okB yX10_bare cX10_bare 6 (some .int) 2 := ⟨tw_of 1144 (by decide +kernel) (by decide +kernel), tw_of 72 (by decide +kernel) (by decide +kernel), by decide +kernel, by decide +kernel, by decide +kernel⟩
theorem mL_59 : okV RL 59 yX10_bare cX10_bare 6 (some .int) 2 := ⟨B_X10_bare, tw_of 1141 (by decide +kernel) (by decide +kernel), tw_of 1142 (by decide +kernel) (by decide +kernel), tw_of 1143 (by decide +kernel) (by decide +kernel)⟩
theorem B_X10_longest : okB yX10_longest cX10_longest 6 (some .int) 1 := ⟨tw_of 1148 (by decide +kernel) (by decide +kernel), tw_of 72 (by decide +kernel) (by decide +kernel), by decide +kernel, by decide +kernel, by decide +kernel⟩
theorem mL_63 : okV RL 63 yX10_longest cX10_longest 6 (some .int) 1 := ⟨B_X10_longest, tw_of 1145 (by decide +kernel) (by decide +kernel), tw_of 1146 (by decide +kernel) (by decide +kernel), tw_of 1147 (by decide +kernel) (by decide +kernel)⟩
theorem B_X10_seen : okB yX10_seen cX10_seen 4 (some .int) 1 := ⟨tw_of 1152 (by decide +kernel) (by decide +kernel), tw_of 72 (by decide +kernel) (by decide +kernel), by decide +kernel, by decide +kernel, by decide +kernel⟩
theorem mL_67 : okV RL 67 yX10_seen cX10_seen 4 (some .int) 1 := ⟨B_X10_seen, tw_of 1149 (by decide +kernel) (by decide +kernel), tw_of 1150 (by decide +kernel) (by decide +kernel), tw_of 1151 (by decide +kernel) (by decide +kernel)⟩
theorem B_X10_put : okB yX10_put cX10_put 4 (some .int) 2 := ⟨tw_of 1156 (by decide +kernel) (by decide +kernel), tw_of 72 (by decide +kernel) (by decide +kernel), by decide +kernel, by decide +kernel, by decide +kernel⟩
theorem mL_71 : okV RL 71 yX10_put cX10_put 4 (some .int) 2 := ⟨B_X10_put, tw_of 1153 (by decide +kernel) (by decide +kernel), tw_of 1154 (by decide +kernel) (by decide +kernel), tw_of 1155 (by decide +kernel) (by decide +kernel)⟩
theorem B_X10_edits : okB yX10_edits cX10_edits 1 none 0 := ⟨tw_of 1160 (by decide +kernel) (by decide +kernel), tw_of 72 (by decide +kernel) (by decide +kernel), by decide +kernel, by decide +kernel, by decide +kernel⟩
theorem mX10_240 : okV RX10 240 yX10_edits cX10_edits 1 none 0 := ⟨B_X10_edits, tw_of 1157 (by decide +kernel) (by decide +kernel), tw_of 1159 (by decide +kernel) (by decide +kernel), tw_of 53 (by decide +kernel) (by decide +kernel)⟩
theorem B_X10_remembers : okB yX10_remembers cX10_remembers 2 none 0 := ⟨tw_of 1164 (by decide +kernel) (by decide +kernel), tw_of 72 (by decide +kernel) (by decide +kernel), by decide +kernel, by decide +kernel, by decide +kernel⟩
theorem mX10_237 : okV RX10 237 yX10_remembers cX10_remembers 2 none 0 := ⟨B_X10_remembers, tw_of 1161 (by decide +kernel) (by decide +kernel), tw_of 1163 (by decide +kernel) (by decide +kernel), tw_of 54 (by decide +kernel) (by decide +kernel)⟩
theorem B_X10_keepsIn : okB yX10_keepsIn cX10_keepsIn 4 none 2 := ⟨tw_of 1168 (by decide +kernel) (by decide +kernel), tw_of 72 (by decide +kernel) (by decide +kernel), by decide +kernel, by decide +kernel, by decide +kernel⟩
theorem mX10_233 : okV RX10 233 yX10_keepsIn cX10_keepsIn 4 none 2 := ⟨B_X10_keepsIn, tw_of 1165 (by decide +kernel) (by decide +kernel), tw_of 1167 (by decide +kernel) (by decide +kernel), tw_of 55 (by decide +kernel) (by decide +kernel)⟩
theorem B_X10_insert : okB yX10_insert cX10_insert 3 (some .int) 2 := ⟨tw_of 1172 (by decide +kernel) (by decide +kernel), tw_of 72 (by decide +kernel) (by decide +kernel), by decide +kernel, by decide +kernel, by decide +kernel⟩
theorem mL_75 : okV RL 75 yX10_insert cX10_insert 3 (some .int) 2 := ⟨B_X10_insert, tw_of 1169 (by decide +kernel) (by decide +kernel), tw_of 1170 (by decide +kernel) (by decide +kernel), tw_of 1171 (by decide +kernel) (by decide +kernel)⟩
theorem B_X10_comesIn : okB yX10_comesIn cX10_comesIn 4 none 2 := ⟨tw_of 1176 (by decide +kernel) (by decide +kernel), tw_of 72 (by decide +kernel) (by decide +kernel), by decide +kernel, by decide +kernel, by decide +kernel⟩
theorem mX10_243 : okV RX10 243 yX10_comesIn cX10_comesIn 4 none 2 := ⟨B_X10_comesIn, tw_of 1173 (by decide +kernel) (by decide +kernel), tw_of 1175 (by decide +kernel) (by decide +kernel), tw_of 56 (by decide +kernel) (by decide +kernel)⟩
theorem B_X10_drop : okB yX10_drop cX10_drop 3 (some .int) 2 := ⟨tw_of 1180 (by decide +kernel) (by decide +kernel), tw_of 72 (by decide +kernel) (by decide +kernel), by decide +kernel, by decide +kernel, by decide +kernel⟩
theorem mL_79 : okV RL 79 yX10_drop cX10_drop 3 (some .int) 2 := ⟨B_X10_drop, tw_of 1177 (by decide +kernel) (by decide +kernel), tw_of 1178 (by decide +kernel) (by decide +kernel), tw_of 1179 (by decide +kernel) (by decide +kernel)⟩
theorem B_X10_isPart : okB yX10_isPart cX10_isPart 3 (some .boolean) 2 := ⟨tw_of 1184 (by decide +kernel) (by decide +kernel), tw_of 72 (by decide +kernel) (by decide +kernel), by decide +kernel, by decide +kernel, by decide +kernel⟩
theorem mX10_246 : okV RX10 246 yX10_isPart cX10_isPart 3 (some .boolean) 2 := ⟨B_X10_isPart, tw_of 1181 (by decide +kernel) (by decide +kernel), tw_of 1183 (by decide +kernel) (by decide +kernel), tw_of 57 (by decide +kernel) (by decide +kernel)⟩
theorem B_X10_goes : okB yX10_goes cX10_goes 4 none 2 := ⟨tw_of 1188 (by decide +kernel) (by decide +kernel), tw_of 72 (by decide +kernel) (by decide +kernel), by decide +kernel, by decide +kernel, by decide +kernel⟩
theorem mX10_249 : okV RX10 249 yX10_goes cX10_goes 4 none 2 := ⟨B_X10_goes, tw_of 1185 (by decide +kernel) (by decide +kernel), tw_of 1187 (by decide +kernel) (by decide +kernel), tw_of 58 (by decide +kernel) (by decide +kernel)⟩
theorem B_X10_move : okB yX10_move cX10_move 4 (some .int) 3 := ⟨tw_of 1192 (by decide +kernel) (by decide +kernel), tw_of 72 (by decide +kernel) (by decide +kernel), by decide +kernel, by decide +kernel, by decide +kernel⟩
theorem mL_84 : okV RL 84 yX10_move cX10_move 4 (some .int) 3 := ⟨B_X10_move, tw_of 1189 (by decide +kernel) (by decide +kernel), tw_of 1190 (by decide +kernel) (by decide +kernel), tw_of 1191 (by decide +kernel) (by decide +kernel)⟩
theorem B_X10_lifts : okB yX10_lifts cX10_lifts 4 none 2 := ⟨tw_of 1196 (by decide +kernel) (by decide +kernel), tw_of 72 (by decide +kernel) (by decide +kernel), by decide +kernel, by decide +kernel, by decide +kernel⟩
theorem mX10_252 : okV RX10 252 yX10_lifts cX10_lifts 4 none 2 := ⟨B_X10_lifts, tw_of 1193 (by decide +kernel) (by decide +kernel), tw_of 1195 (by decide +kernel) (by decide +kernel), tw_of 59 (by decide +kernel) (by decide +kernel)⟩
theorem B_X10_laysDown : okB yX10_laysDown cX10_laysDown 4 none 2 := ⟨tw_of 1200 (by decide +kernel) (by decide +kernel), tw_of 72 (by decide +kernel) (by decide +kernel), by decide +kernel, by decide +kernel, by decide +kernel⟩
theorem mX10_255 : okV RX10 255 yX10_laysDown cX10_laysDown 4 none 2 := ⟨B_X10_laysDown, tw_of 1197 (by decide +kernel) (by decide +kernel), tw_of 1199 (by decide +kernel) (by decide +kernel), tw_of 60 (by decide +kernel) (by decide +kernel)⟩
theorem B_X10_copy : okB yX10_copy cX10_copy 4 (some .int) 3 := ⟨tw_of 1204 (by decide +kernel) (by decide +kernel), tw_of 72 (by decide +kernel) (by decide +kernel), by decide +kernel, by decide +kernel, by decide +kernel⟩
theorem mL_88 : okV RL 88 yX10_copy cX10_copy 4 (some .int) 3 := ⟨B_X10_copy, tw_of 1201 (by decide +kernel) (by decide +kernel), tw_of 1202 (by decide +kernel) (by decide +kernel), tw_of 1203 (by decide +kernel) (by decide +kernel)⟩
theorem B_X10_turn : okB yX10_turn cX10_turn 6 (some .int) 2 := ⟨tw_of 1208 (by decide +kernel) (by decide +kernel), tw_of 72 (by decide +kernel) (by decide +kernel), by decide +kernel, by decide +kernel, by decide +kernel⟩
theorem mL_92 : okV RL 92 yX10_turn cX10_turn 6 (some .int) 2 := ⟨B_X10_turn, tw_of 1205 (by decide +kernel) (by decide +kernel), tw_of 1206 (by decide +kernel) (by decide +kernel), tw_of 1207 (by decide +kernel) (by decide +kernel)⟩
theorem B_X10_turned : okB yX10_turned cX10_turned 1 (some .int) 1 := ⟨tw_of 1211 (by decide +kernel) (by decide +kernel), tw_of 72 (by decide +kernel) (by decide +kernel), by decide +kernel, by decide +kernel, by decide +kernel⟩
theorem mX10_258 : okS RX10 258 yX10_turned cX10_turned 1 (some .int) 1 := ⟨B_X10_turned, Or.inl (tw_of 1209 (by decide +kernel) (by decide +kernel)), tw_of 1210 (by decide +kernel) (by decide +kernel)⟩
theorem B_X10_mark : okB yX10_mark cX10_mark 4 (some .int) 2 := ⟨tw_of 1215 (by decide +kernel) (by decide +kernel), tw_of 72 (by decide +kernel) (by decide +kernel), by decide +kernel, by decide +kernel, by decide +kernel⟩
theorem mL_96 : okV RL 96 yX10_mark cX10_mark 4 (some .int) 2 := ⟨B_X10_mark, tw_of 1212 (by decide +kernel) (by decide +kernel), tw_of 1213 (by decide +kernel) (by decide +kernel), tw_of 1214 (by decide +kernel) (by decide +kernel)⟩
theorem B_X10_grow : okB yX10_grow cX10_grow 6 (some .int) 2 := ⟨tw_of 1219 (by decide +kernel) (by decide +kernel), tw_of 72 (by decide +kernel) (by decide +kernel), by decide +kernel, by decide +kernel, by decide +kernel⟩
theorem mL_100 : okV RL 100 yX10_grow cX10_grow 6 (some .int) 2 := ⟨B_X10_grow, tw_of 1216 (by decide +kernel) (by decide +kernel), tw_of 1217 (by decide +kernel) (by decide +kernel), tw_of 1218 (by decide +kernel) (by decide +kernel)⟩
theorem B_X10_drawn : okB yX10_drawn cX10_drawn 1 (some .int) 1 := ⟨tw_of 1224 (by decide +kernel) (by decide +kernel), tw_of 72 (by decide +kernel) (by decide +kernel), by decide +kernel, by decide +kernel, by decide +kernel⟩
theorem mX10_264 : okS RX10 264 yX10_drawn cX10_drawn 1 (some .int) 1 := ⟨B_X10_drawn, Or.inl (tw_of 1222 (by decide +kernel) (by decide +kernel)), tw_of 1223 (by decide +kernel) (by decide +kernel)⟩
theorem B_X10_undo : okB yX10_undo cX10_undo 1 (some .int) 0 := ⟨tw_of 1228 (by decide +kernel) (by decide +kernel), tw_of 72 (by decide +kernel) (by decide +kernel), by decide +kernel, by decide +kernel, by decide +kernel⟩
theorem mL_104 : okV RL 104 yX10_undo cX10_undo 1 (some .int) 0 := ⟨B_X10_undo, tw_of 1225 (by decide +kernel) (by decide +kernel), tw_of 1226 (by decide +kernel) (by decide +kernel), tw_of 1227 (by decide +kernel) (by decide +kernel)⟩
theorem B_X10_comesFrom : okB yX10_comesFrom cX10_comesFrom 4 none 2 := ⟨tw_of 1232 (by decide +kernel) (by decide +kernel), tw_of 72 (by decide +kernel) (by decide +kernel), by decide +kernel, by decide +kernel, by decide +kernel⟩
theorem mX10_267 : okV RX10 267 yX10_comesFrom cX10_comesFrom 4 none 2 := ⟨B_X10_comesFrom, tw_of 1229 (by decide +kernel) (by decide +kernel), tw_of 1231 (by decide +kernel) (by decide +kernel), tw_of 61 (by decide +kernel) (by decide +kernel)⟩
theorem B_X10_redo : okB yX10_redo cX10_redo 1 (some .int) 0 := ⟨tw_of 1236 (by decide +kernel) (by decide +kernel), tw_of 72 (by decide +kernel) (by decide +kernel), by decide +kernel, by decide +kernel, by decide +kernel⟩
theorem mL_108 : okV RL 108 yX10_redo cX10_redo 1 (some .int) 0 := ⟨B_X10_redo, tw_of 1233 (by decide +kernel) (by decide +kernel), tw_of 1234 (by decide +kernel) (by decide +kernel), tw_of 1235 (by decide +kernel) (by decide +kernel)⟩
theorem B_X10_keep : okB yX10_keep cX10_keep 3 (some .int) 1 := ⟨tw_of 1240 (by decide +kernel) (by decide +kernel), tw_of 72 (by decide +kernel) (by decide +kernel), by decide +kernel, by decide +kernel, by decide +kernel⟩
theorem mL_112 : okV RL 112 yX10_keep cX10_keep 3 (some .int) 1 := ⟨B_X10_keep, tw_of 1237 (by decide +kernel) (by decide +kernel), tw_of 1238 (by decide +kernel) (by decide +kernel), tw_of 1239 (by decide +kernel) (by decide +kernel)⟩
theorem B_X10_back : okB yX10_back cX10_back 2 (some .int) 1 := ⟨tw_of 1244 (by decide +kernel) (by decide +kernel), tw_of 72 (by decide +kernel) (by decide +kernel), by decide +kernel, by decide +kernel, by decide +kernel⟩
theorem mL_116 : okV RL 116 yX10_back cX10_back 2 (some .int) 1 := ⟨B_X10_back, tw_of 1241 (by decide +kernel) (by decide +kernel), tw_of 1242 (by decide +kernel) (by decide +kernel), tw_of 1243 (by decide +kernel) (by decide +kernel)⟩
theorem B_X10_sheet : okB yX10_sheet cX10_sheet 5 (some .int) 3 := ⟨tw_of 1248 (by decide +kernel) (by decide +kernel), tw_of 72 (by decide +kernel) (by decide +kernel), by decide +kernel, by decide +kernel, by decide +kernel⟩
theorem mL_120 : okV RL 120 yX10_sheet cX10_sheet 5 (some .int) 3 := ⟨B_X10_sheet, tw_of 1245 (by decide +kernel) (by decide +kernel), tw_of 1246 (by decide +kernel) (by decide +kernel), tw_of 1247 (by decide +kernel) (by decide +kernel)⟩
theorem B_X10_lay : okB yX10_lay cX10_lay 4 (some .int) 3 := ⟨tw_of 1252 (by decide +kernel) (by decide +kernel), tw_of 72 (by decide +kernel) (by decide +kernel), by decide +kernel, by decide +kernel, by decide +kernel⟩
theorem mL_124 : okV RL 124 yX10_lay cX10_lay 4 (some .int) 3 := ⟨B_X10_lay, tw_of 1249 (by decide +kernel) (by decide +kernel), tw_of 1250 (by decide +kernel) (by decide +kernel), tw_of 1251 (by decide +kernel) (by decide +kernel)⟩
theorem B_X10_read : okB yX10_read cX10_read 10 (some .int) 4 := ⟨tw_of 1256 (by decide +kernel) (by decide +kernel), tw_of 72 (by decide +kernel) (by decide +kernel), by decide +kernel, by decide +kernel, by decide +kernel⟩
theorem mL_129 : okV RL 129 yX10_read cX10_read 10 (some .int) 4 := ⟨B_X10_read, tw_of 1253 (by decide +kernel) (by decide +kernel), tw_of 1254 (by decide +kernel) (by decide +kernel), tw_of 1255 (by decide +kernel) (by decide +kernel)⟩
theorem B_X10_torn : okB yX10_torn cX10_torn 1 (some .int) 0 := ⟨tw_of 1261 (by decide +kernel) (by decide +kernel), tw_of 72 (by decide +kernel) (by decide +kernel), by decide +kernel, by decide +kernel, by decide +kernel⟩
theorem mL_133 : okV RL 133 yX10_torn cX10_torn 1 (some .int) 0 := ⟨B_X10_torn, tw_of 1258 (by decide +kernel) (by decide +kernel), tw_of 1259 (by decide +kernel) (by decide +kernel), tw_of 1260 (by decide +kernel) (by decide +kernel)⟩
theorem B_X10_count : okB yX10_count cX10_count 5 (some .int) 1 := ⟨tw_of 1265 (by decide +kernel) (by decide +kernel), tw_of 72 (by decide +kernel) (by decide +kernel), by decide +kernel, by decide +kernel, by decide +kernel⟩
theorem mL_137 : okV RL 137 yX10_count cX10_count 5 (some .int) 1 := ⟨B_X10_count, tw_of 1262 (by decide +kernel) (by decide +kernel), tw_of 1263 (by decide +kernel) (by decide +kernel), tw_of 1264 (by decide +kernel) (by decide +kernel)⟩
theorem nL_7 : Cond.classLink RL 7 RX9 ∈ tw := tw_of 80 (by decide +kernel) (by decide +kernel)
theorem nX9_7 : Cond.classLink RX9 7 RX7 ∈ tw := tw_of 88 (by decide +kernel) (by decide +kernel)
theorem nX7_9 : Cond.classLink RX7 9 RX8 ∈ tw := tw_of 94 (by decide +kernel) (by decide +kernel)
theorem nX8_7 : Cond.classLink RX8 7 RX6 ∈ tw := tw_of 100 (by decide +kernel) (by decide +kernel)
theorem nX8_16 : Cond.classLink RX8 16 RX0 ∈ tw := tw_of 119 (by decide +kernel) (by decide +kernel)
theorem nX7_28 : Cond.classLink RX7 28 RX3 ∈ tw := tw_of 168 (by decide +kernel) (by decide +kernel)
theorem nX9_21 : Cond.classLink RX9 21 RX1 ∈ tw := tw_of 213 (by decide +kernel) (by decide +kernel)
theorem nX1_9 : Cond.classLink RX1 9 RX3 ∈ tw := tw_of 219 (by decide +kernel) (by decide +kernel)
theorem nX9_33 : Cond.classLink RX9 33 RX2 ∈ tw := tw_of 253 (by decide +kernel) (by decide +kernel)
theorem nX2_11 : Cond.classLink RX2 11 RX3 ∈ tw := tw_of 259 (by decide +kernel) (by decide +kernel)
theorem nX9_40 : Cond.classLink RX9 40 RX3 ∈ tw := tw_of 277 (by decide +kernel) (by decide +kernel)
theorem nX9_51 : Cond.classLink RX9 51 RX4 ∈ tw := tw_of 279 (by decide +kernel) (by decide +kernel)
theorem kX9_220 : Cond.constant RX9 220 (jI 1103515245) ∈ tw := tw_of 783 (by decide +kernel) (by decide +kernel)
theorem nL_10 : Cond.classLink RL 10 RX10 ∈ tw := tw_of 858 (by decide +kernel) (by decide +kernel)
theorem kX10_59 : Cond.constantLong RX10 59 (jL 127) ∈ tw := tw_of 962 (by decide +kernel) (by decide +kernel)
theorem kX10_82 : Cond.constantLong RX10 82 (jL 97) ∈ tw := tw_of 982 (by decide +kernel) (by decide +kernel)
theorem kX10_84 : Cond.constantLong RX10 84 (jL 122) ∈ tw := tw_of 983 (by decide +kernel) (by decide +kernel)
theorem kX10_112 : Cond.constantLong RX10 112 (jL 48) ∈ tw := tw_of 984 (by decide +kernel) (by decide +kernel)
theorem kX10_114 : Cond.constantLong RX10 114 (jL 57) ∈ tw := tw_of 985 (by decide +kernel) (by decide +kernel)
theorem kX10_168 : Cond.constantLong RX10 168 (jL 2) ∈ tw := tw_of 1043 (by decide +kernel) (by decide +kernel)
theorem kX10_214 : Cond.constantLong RX10 214 (jL 7) ∈ tw := tw_of 1072 (by decide +kernel) (by decide +kernel)
theorem kX10_228 : Cond.constantLong RX10 228 (jL 3) ∈ tw := tw_of 1132 (by decide +kernel) (by decide +kernel)
theorem kX10_261 : Cond.constantLong RX10 261 (jL 30) ∈ tw := tw_of 1220 (by decide +kernel) (by decide +kernel)
theorem kX10_263 : Cond.constant RX10 263 (jI 1103515245) ∈ tw := tw_of 1221 (by decide +kernel) (by decide +kernel)
theorem kX10_270 : Cond.constantLong RX10 270 (jL 40) ∈ tw := tw_of 1257 (by decide +kernel) (by decide +kernel)
theorem iRX9 : Cond.instantiable RX9 9 ∈ tw ∧ Cond.initialized RX9 ∈ tw := ⟨tw_of 81 (by decide +kernel) (by decide +kernel), tw_of 63 (by decide +kernel) (by decide +kernel)⟩
theorem iRX7 : Cond.instantiable RX7 8 ∈ tw ∧ Cond.initialized RX7 ∈ tw := ⟨tw_of 89 (by decide +kernel) (by decide +kernel), tw_of 64 (by decide +kernel) (by decide +kernel)⟩
theorem iRX8 : Cond.instantiable RX8 6 ∈ tw ∧ Cond.initialized RX8 ∈ tw := ⟨tw_of 95 (by decide +kernel) (by decide +kernel), tw_of 65 (by decide +kernel) (by decide +kernel)⟩
theorem iRX6 : Cond.instantiable RX6 2 ∈ tw ∧ Cond.initialized RX6 ∈ tw := ⟨tw_of 101 (by decide +kernel) (by decide +kernel), tw_of 66 (by decide +kernel) (by decide +kernel)⟩
theorem iRX0 : Cond.instantiable RX0 5 ∈ tw ∧ Cond.initialized RX0 ∈ tw := ⟨tw_of 120 (by decide +kernel) (by decide +kernel), tw_of 67 (by decide +kernel) (by decide +kernel)⟩
theorem iRX3 : Cond.instantiable RX3 2 ∈ tw ∧ Cond.initialized RX3 ∈ tw := ⟨tw_of 169 (by decide +kernel) (by decide +kernel), tw_of 68 (by decide +kernel) (by decide +kernel)⟩
theorem iRX1 : Cond.instantiable RX1 8 ∈ tw ∧ Cond.initialized RX1 ∈ tw := ⟨tw_of 214 (by decide +kernel) (by decide +kernel), tw_of 69 (by decide +kernel) (by decide +kernel)⟩
theorem iRX2 : Cond.instantiable RX2 4 ∈ tw ∧ Cond.initialized RX2 ∈ tw := ⟨tw_of 254 (by decide +kernel) (by decide +kernel), tw_of 70 (by decide +kernel) (by decide +kernel)⟩
theorem iRX4 : Cond.instantiable RX4 4 ∈ tw ∧ Cond.initialized RX4 ∈ tw := ⟨tw_of 281 (by decide +kernel) (by decide +kernel), tw_of 71 (by decide +kernel) (by decide +kernel)⟩
theorem iRX10 : Cond.instantiable RX10 31 ∈ tw ∧ Cond.initialized RX10 ∈ tw := ⟨tw_of 859 (by decide +kernel) (by decide +kernel), tw_of 72 (by decide +kernel) (by decide +kernel)⟩
theorem wArrI : Cond.arrayClass .int ∈ tw := tw_of 118 (by decide +kernel) (by decide +kernel)
theorem wArrZ : Cond.arrayClass .boolean ∈ tw := tw_of 212 (by decide +kernel) (by decide +kernel)
theorem wObj1 : Cond.instanceMethod objectInit ∈ tw := tw_of 86 (by decide +kernel) (by decide +kernel)
theorem wObj2 : Cond.code objectInit ⟨#[0xb1]⟩ 1 none ∈ tw := tw_of 87 (by decide +kernel) (by decide +kernel)
theorem wCopy : Cond.native arraycopyName ∈ tw ∧ Cond.static arraycopyName ∈ tw ∧ Cond.initialized "java/lang/System" ∈ tw := ⟨tw_of 531 (by decide +kernel) (by decide +kernel), tw_of 530 (by decide +kernel) (by decide +kernel), tw_of 78 (by decide +kernel) (by decide +kernel)⟩
theorem wMath_max : Cond.static Lib.Math.max.name ∈ tw ∧ Cond.initialized "java/lang/Math" ∈ tw ∧ Cond.code Lib.Math.max.name Lib.Math.max.code 2 (some .int) ∈ tw := ⟨tw_of 628 (by decide +kernel) (by decide +kernel), tw_of 79 (by decide +kernel) (by decide +kernel), tw_of 629 (by decide +kernel) (by decide +kernel)⟩
theorem wMath_min : Cond.static Lib.Math.min.name ∈ tw ∧ Cond.initialized "java/lang/Math" ∈ tw ∧ Cond.code Lib.Math.min.name Lib.Math.min.code 2 (some .int) ∈ tw := ⟨tw_of 652 (by decide +kernel) (by decide +kernel), tw_of 79 (by decide +kernel) (by decide +kernel), tw_of 653 (by decide +kernel) (by decide +kernel)⟩
end
section
/-! what signs are -/
abbrev opn (c : Int) : Prop := c = 40 ∨ c = 91 ∨ c = 123
abbrev clo (c : Int) : Prop := c = 41 ∨ c = 93 ∨ c = 125
abbrev brk (c : Int) : Prop := opn c ∨ clo c
abbrev ltr (c : Int) : Prop := 97 ≤ c ∧ c ≤ 122
abbrev fig (c : Int) : Prop := 48 ≤ c ∧ c ≤ 57
abbrev sgn (c : Int) : Prop := brk c ∨ ltr c ∨ c = 47
def knd (c : Int) : Int := if c = 40 ∨ c = 41 then 0 else if c = 91 ∨ c = 93 then 1 else if c = 123 ∨ c = 125 then 2 else -4
def trn (c : Int) : Int := if c = 40 then 41 else if c = 41 then 40 else if c = 91 then 93 else if c = 93 then 91 else if c = 123 then 125 else if c = 125 then 123 else c
theorem knd_brk (c : Int) : (knd c ≠ -4) ↔ brk c := by unfold knd; split <;> (try split) <;> (try split) <;> omega
theorem knd_bd (c : Int) : knd c = -4 ∨ knd c = 0 ∨ knd c = 1 ∨ knd c = 2 := by unfold knd; split <;> (try split) <;> (try split) <;> omega
theorem fit_z {b : Int} (h : b = 0 ∨ b = 1) : fits .boolean (.int (jI b)) = true := by
  rcases h with rfl | rfl <;> rfl
theorem jI_and128 {z : Int} (h : 0 ≤ z ∧ z < 256) : jI z &&& jI 128 = jI (if 128 ≤ z then 128 else 0) := by
  have key : ∀ n : Nat, n < 256 → jI (n : Int) &&& jI 128 = jI (if 128 ≤ (n : Int) then 128 else 0) := by decide +kernel
  have := key z.toNat (by omega)
  rwa [show ((z.toNat : Nat) : Int) = z by omega] at this
theorem jI_or128 {z : Int} (h : 0 ≤ z ∧ z < 128) : jI z ||| jI 128 = jI (z + 128) := by
  have key : ∀ n : Nat, n < 128 → jI (n : Int) ||| jI 128 = jI ((n : Int) + 128) := by decide +kernel
  have := key z.toNat (by omega)
  rwa [show ((z.toNat : Nat) : Int) = z by omega] at this
theorem J_kill {l : Launch} {Γ : JG} {Ω : JO} {nL : Nat} {ad : Nat → Nat} {N k n : Nat} {E : Nat → va_E} {pc : Nat} {L : List (Option Value)} {st : List Value} (i : Nat) (kk : J l Γ Ω nL ad N k n E pc (L.set i none) st) : J l Γ Ω nL ad N k n E pc L st := by
  refine J_loc (fun j v h => ?_) kk
  by_cases hj : j = i
  · subst hj
    by_cases hl : j < L.length
    · rw [List.getElem?_set_self hl] at h; cases h
    · rw [List.getElem?_eq_none (by simp; omega)] at h; cases h
  · rwa [List.getElem?_set_ne (Ne.symm hj)] at h
/-- sums along a row -/
def sm (g : Int → Int) : Nat → Int
  | 0 => 0
  | k + 1 => sm g k + g (k : Int)
abbrev smI (g : Int → Int) (i : Int) : Int := sm g i.toNat
theorem smI_0 (g : Int → Int) : smI g 0 = 0 := rfl
theorem smI_succ (g : Int → Int) {i : Int} (h : 0 ≤ i) : smI g (i + 1) = smI g i + g i := by
  show sm g (i + 1).toNat = _
  rw [show (i + 1).toNat = i.toNat + 1 by omega, sm, show ((i.toNat : Nat) : Int) = i by omega]
theorem sm_congr {g g' : Int → Int} : ∀ (k : Nat), (∀ j : Int, 0 ≤ j → j < k → g j = g' j) → sm g k = sm g' k
  | 0, _ => rfl
  | k + 1, h => by rw [sm, sm, sm_congr k (fun j h0 h1 => h j h0 (by omega)), h k (by omega) (by omega)]
theorem sm_bd {g : Int → Int} {lo hi : Int} (h : ∀ j : Int, lo ≤ g j ∧ g j ≤ hi) : ∀ k : Nat, lo * k ≤ sm g k ∧ sm g k ≤ hi * k
  | 0 => by simp [sm]
  | k + 1 => by
    have h1 := sm_bd h k
    have h2 := h k
    rw [sm]
    have e1 : lo * ((k + 1 : Nat) : Int) = lo * k + lo := by rw [Int.natCast_add, Int.mul_add]; simp
    have e2 : hi * ((k + 1 : Nat) : Int) = hi * k + hi := by rw [Int.natCast_add, Int.mul_add]; simp
    omega
theorem smB_bd {g : Int → Int} (h : ∀ j : Int, g j = 0 ∨ g j = 1) {i : Int} (hi : 0 ≤ i) : 0 ≤ smI g i ∧ smI g i ≤ i := by
  have := sm_bd (g := g) (lo := 0) (hi := 1) (fun j => by have := h j; omega) i.toNat
  have e : smI g i = sm g i.toNat := rfl
  omega
abbrev rv (f : Int → Int) (a b : Int) : Int → Int := fun t => if a ≤ t ∧ t < b then f (a + b - 1 - t) else f t
/-- two parts side by side change places -/
abbrev sw (f : Int → Int) (a m b : Int) : Int → Int := fun t => if a ≤ t ∧ t < a + (b - m) then f (t + (m - a)) else if a + (b - m) ≤ t ∧ t < b then f (t - (b - m)) else f t
theorem rv3 (f : Int → Int) {a m b : Int} (h : a ≤ m ∧ m ≤ b) : rv (rv (rv f a m) m b) a b = sw f a m b := by
  funext t
  simp only [rv, sw]
  repeat' split
  all_goals first | rfl | (exfalso; omega) | (congr 1; omega)
/-- what a cell of a lane keeps of a number -/
def lanev (la v : Int) : Int := if la = 0 then v.bmod 256 else if la = 1 then v.bmod 65536 else v
theorem jI_i2b (v : Int) : (jI v).toInt8.toInt32 = jI (v.bmod 256) := by
  rw [show (jI v).toInt8 = Int8.ofInt v from Int32.toInt8_ofInt]
  apply Int32.toInt_inj.mp
  have h : -128 ≤ v.bmod 256 ∧ v.bmod 256 < 128 := ⟨by have := Int.le_bmod (x := v) (m := 256) (by decide); omega, by have := Int.bmod_lt (x := v) (m := 256) (by decide); omega⟩
  rw [Int8.toInt_toInt32, Int8.toInt_ofInt, jI_toInt (by omega)]
theorem jI_i2s (v : Int) : (jI v).toInt16.toInt32 = jI (v.bmod 65536) := by
  rw [show (jI v).toInt16 = Int16.ofInt v from Int32.toInt16_ofInt]
  apply Int32.toInt_inj.mp
  have h : -32768 ≤ v.bmod 65536 ∧ v.bmod 65536 < 32768 := ⟨by have := Int.le_bmod (x := v) (m := 65536) (by decide); omega, by have := Int.bmod_lt (x := v) (m := 65536) (by decide); omega⟩
  rw [Int16.toInt_toInt32, Int16.toInt_ofInt, jI_toInt (by omega)]
end
section
/-! brackets that belong together: the heap, and what follows from it -/
abbrev isK (c kd : Int) : Prop := brk c ∧ (kd = 3 ∨ knd c = kd)
def pstep (kd c i : Int) (s : Int × (Int → Int) × (Int → Int)) : Int × (Int → Int) × (Int → Int) :=
  if isK c kd then (if opn c then (s.1 + 1, iu s.2.1 s.1 i, s.2.2) else if 0 < s.1 then (s.1 - 1, s.2.1, iu (iu s.2.2 i (s.2.1 (s.1 - 1))) (s.2.1 (s.1 - 1)) i) else s) else s
def pst (kd : Int) (f : Int → Int) : Nat → Int × (Int → Int) × (Int → Int)
  | 0 => (0, fun _ => 0, fun _ => -4)
  | k + 1 => pstep kd (f (k : Int) % 128) (k : Int) (pst kd f k)
abbrev psI (kd : Int) (f : Int → Int) (i : Int) : Int × (Int → Int) × (Int → Int) := pst kd f i.toNat
theorem psI_succ (kd : Int) (f : Int → Int) {i : Int} (h : 0 ≤ i) : psI kd f (i + 1) = pstep kd (f i % 128) i (psI kd f i) := by
  show pst kd f (i + 1).toNat = _
  rw [show (i + 1).toNat = i.toNat + 1 by omega, pst, show ((i.toNat : Nat) : Int) = i by omega]
/-- the partner, by brackets of a kind (3: all) -/
abbrev prt (kd : Int) (f : Int → Int) (n : Int) : Int → Int := (psI kd f n).2.2
theorem pst_congr {kd : Int} {f f' : Int → Int} : ∀ (k : Nat), (∀ j : Int, 0 ≤ j → j < k → f j % 128 = f' j % 128) → pst kd f k = pst kd f' k
  | 0, _ => rfl
  | k + 1, h => by rw [pst, pst, pst_congr k (fun j h0 h1 => h j h0 (by omega)), h k (by omega) (by omega)]
def PI (kd : Int) (c : Int → Int) (i : Int) (top : Int) (hp to : Int → Int) : Prop :=
  (0 ≤ top ∧ top ≤ i) ∧
  (∀ t, 0 ≤ t → t < top → (0 ≤ hp t ∧ hp t < i ∧ to (hp t) = -4 ∧ isK (c (hp t)) kd ∧ opn (c (hp t)))) ∧
  (∀ t u, 0 ≤ t → t < u → u < top → hp t < hp u) ∧
  (∀ j, to j ≠ -4 → (0 ≤ j ∧ j < i ∧ 0 ≤ to j ∧ to j < i ∧ to j ≠ j ∧ to (to j) = j ∧ isK (c j) kd ∧ ((j < to j ∧ opn (c j)) ∨ (to j < j ∧ clo (c j))))) ∧
  (∀ j k, to j ≠ -4 → j < k → k < to j → isK (c k) kd → (to k ≠ -4 ∧ j < to k ∧ to k < to j)) ∧
  (∀ t k, 0 ≤ t → t < top → hp t < k → k < i → isK (c k) kd → ((to k ≠ -4 ∧ hp t < to k) ∨ (∃ u, t < u ∧ u < top ∧ hp u = k)))
theorem PI_0 (kd : Int) (c hp : Int → Int) : PI kd c 0 0 hp (fun _ => -4) := by
  refine ⟨by omega, fun t h1 h2 => by omega, fun t u h1 h2 h3 => by omega, fun j h => absurd rfl h, fun j k h => absurd rfl h, fun t k h1 h2 => by omega⟩
theorem PI_skip {kd : Int} {c : Int → Int} {i top : Int} {hp to : Int → Int} (h : PI kd c i top hp to) (hn : ¬ isK (c i) kd ∨ top = 0) : PI kd c (i + 1) top hp to := by
  obtain ⟨h1, h2, h3, h4, h5, h6⟩ := h
  refine ⟨by omega, fun t a b => ?_, h3, fun j hj => ?_, h5, fun t k a b g1 g2 g3 => ?_⟩
  · obtain ⟨q1, q2, q3⟩ := h2 t a b
    exact ⟨q1, by omega, q3⟩
  · obtain ⟨q1, q2, q3, q4, q5⟩ := h4 j hj
    exact ⟨q1, by omega, q3, by omega, q5⟩
  · by_cases hk : k = i
    · subst hk
      rcases hn with hn | hn
      · exact absurd g3 hn
      · omega
    · exact h6 t k a b g1 (by omega) g3
theorem PI_push {kd : Int} {c : Int → Int} {i top : Int} {hp to : Int → Int} (h : PI kd c i top hp to) (hi : 0 ≤ i) (hk : isK (c i) kd) (ho : opn (c i)) : PI kd c (i + 1) (top + 1) (iu hp top i) to := by
  obtain ⟨h1, h2, h3, h4, h5, h6⟩ := h
  have hti : to i = -4 := by
    by_cases q : to i = -4
    · exact q
    · have := (h4 i q).2.1; omega
  refine ⟨by omega, fun t a b => ?_, fun t u a b g => ?_, fun j hj => ?_, h5, fun t k a b g1 g2 g3 => ?_⟩
  · by_cases ht : t = top
    · subst ht
      simp only [iu, if_true]
      exact ⟨hi, by omega, hti, hk, ho⟩
    · simp only [iu, if_neg ht]
      obtain ⟨q1, q2, q3⟩ := h2 t a (by omega)
      exact ⟨q1, by omega, q3⟩
  · have ht : t ≠ top := by omega
    simp only [iu, if_neg ht]
    by_cases hu : u = top
    · subst hu
      rw [if_pos rfl]
      exact (h2 t a (by omega)).2.1
    · rw [if_neg hu]
      exact h3 t u a b (by omega)
  · obtain ⟨q1, q2, q3, q4, q5⟩ := h4 j hj
    exact ⟨q1, by omega, q3, by omega, q5⟩
  · by_cases ht : t = top
    · subst ht
      simp only [iu, if_true] at g1
      omega
    · simp only [iu, if_neg ht] at g1 ⊢
      by_cases hki : k = i
      · subst hki
        exact Or.inr ⟨top, by omega, by omega, by simp⟩
      · rcases h6 t k a (by omega) g1 (by omega) g3 with q | ⟨u, u1, u2, u3⟩
        · exact Or.inl q
        · refine Or.inr ⟨u, u1, by omega, ?_⟩
          rw [if_neg (by omega)]
          exact u3
theorem PI_pop {kd : Int} {c : Int → Int} {i top : Int} {hp to : Int → Int} (h : PI kd c i top hp to) (hi : 0 ≤ i) (hk : isK (c i) kd) (ho : clo (c i)) (ht : 0 < top) : PI kd c (i + 1) (top - 1) hp (iu (iu to i (hp (top - 1))) (hp (top - 1)) i) := by
  obtain ⟨h1, h2, h3, h4, h5, h6⟩ := h
  obtain ⟨o1, o2, o3, o4, o5⟩ := h2 (top - 1) (by omega) (by omega)
  have hsn := h6 (top - 1)
  generalize hpo : hp (top - 1) = o at o1 o2 o3 o4 o5 hsn ⊢
  have hti : to i = -4 := by
    by_cases q : to i = -4
    · exact q
    · have := (h4 i q).2.1; omega
  have eo : iu (iu to i o) o i o = i := by simp
  have ei : iu (iu to i o) o i i = o := by
    have hio : ¬ i = o := by omega
    show (if i = o then i else if i = i then o else to i) = o
    rw [if_neg hio, if_pos rfl]
  have en : ∀ j, j ≠ o → j ≠ i → iu (iu to i o) o i j = to j := fun j a b => by
    show (if j = o then i else if j = i then o else to j) = to j
    rw [if_neg a, if_neg b]
  have hlt : ∀ t, 0 ≤ t → t < top - 1 → hp t < o := fun t a b => by
    rw [← hpo]; exact h3 t (top - 1) a b (by omega)
  have hno : ∀ j, to j ≠ -4 → j ≠ o ∧ j ≠ i ∧ to j ≠ o ∧ to j ≠ i := fun j hj => by
    obtain ⟨q1, q2, q3, q4, q5, q6, -⟩ := h4 j hj
    refine ⟨fun e => hj (by rw [e]; exact o3), fun e => by omega, fun e => ?_, fun e => by omega⟩
    rw [e, o3] at q6
    omega
  generalize iu (iu to i o) o i = to' at eo ei en ⊢
  refine ⟨by omega, fun t a b => ?_, fun t u a b g => h3 t u a b (by omega), fun j hj => ?_, fun j k hj a b g => ?_, fun t k a b g1 g2 g3 => ?_⟩
  · obtain ⟨q1, q2, q3, q4⟩ := h2 t a (by omega)
    have := hlt t a b
    refine ⟨q1, by omega, ?_, q4⟩
    rw [en (hp t) (by omega) (by omega)]
    exact q3
  · by_cases hjo : j = o
    · subst hjo
      rw [eo, ei]
      exact ⟨o1, by omega, hi, by omega, by omega, rfl, o4, Or.inl ⟨o2, o5⟩⟩
    · by_cases hji : j = i
      · subst hji
        rw [ei, eo]
        exact ⟨hi, by omega, o1, by omega, by omega, rfl, hk, Or.inr ⟨o2, ho⟩⟩
      · rw [en j hjo hji] at hj ⊢
        obtain ⟨q1, q2, q3, q4, q5, q6, q7⟩ := h4 j hj
        obtain ⟨-, -, r1, r2⟩ := hno j hj
        rw [en (to j) r1 r2]
        exact ⟨q1, by omega, q3, by omega, q5, q6, q7⟩
  · by_cases hjo : j = o
    · subst hjo
      rw [eo] at b
      rcases hsn k (by omega) (by omega) a b g with ⟨q1, q2⟩ | ⟨u, u1, u2, -⟩
      · obtain ⟨r1, r2, -⟩ := hno k q1
        have := (h4 k q1).2.2.2.1
        rw [en k r1 r2, eo]
        exact ⟨q1, q2, this⟩
      · omega
    · by_cases hji : j = i
      · subst hji
        rw [ei] at b
        omega
      · rw [en j hjo hji] at hj b
        have hq := h5 j k hj a b g
        obtain ⟨r1, r2, -⟩ := hno k hq.1
        rw [en k r1 r2, en j hjo hji]
        exact hq
  · by_cases hki : k = i
    · subst hki
      rw [ei]
      have := hlt t a b
      exact Or.inl ⟨by omega, this⟩
    · by_cases hko : k = o
      · subst hko
        rw [eo]
        exact Or.inl ⟨by omega, by omega⟩
      · rw [en k hko hki]
        rcases h6 t k a (by omega) g1 (by omega) g3 with q | ⟨u, u1, u2, u3⟩
        · exact Or.inl q
        · refine Or.inr ⟨u, u1, ?_, u3⟩
          by_cases hu : u = top - 1
          · rw [hu, hpo] at u3
            omega
          · omega
theorem PI_at (kd : Int) (f : Int → Int) : ∀ k : Nat, PI kd (fun j => f j % 128) k (pst kd f k).1 (pst kd f k).2.1 (pst kd f k).2.2
  | 0 => PI_0 kd _ _
  | k + 1 => by
    have ih := PI_at kd f k
    rw [pst]
    unfold pstep
    have e : ((k + 1 : Nat) : Int) = (k : Int) + 1 := by omega
    rw [e]
    by_cases h1 : isK (f (k : Int) % 128) kd
    · rw [if_pos h1]
      by_cases h2 : opn (f (k : Int) % 128)
      · rw [if_pos h2]
        exact PI_push ih (by omega) h1 h2
      · rw [if_neg h2]
        by_cases h3 : 0 < (pst kd f k).1
        · rw [if_pos h3]
          exact PI_pop ih (by omega) h1 (h1.1.resolve_left h2) h3
        · rw [if_neg h3]
          exact PI_skip ih (Or.inr (by have := ih.1; omega))
    · rw [if_neg h1]
      exact PI_skip ih (Or.inl h1)
theorem PI_I (kd : Int) (f : Int → Int) {i : Int} (h : 0 ≤ i) : PI kd (fun j => f j % 128) i (psI kd f i).1 (psI kd f i).2.1 (psI kd f i).2.2 := by
  have := PI_at kd f i.toNat
  rwa [show ((i.toNat : Nat) : Int) = i by omega] at this
/-- what is known of a partner -/
theorem prt_of {kd : Int} {f : Int → Int} {n j : Int} (hn : 0 ≤ n) (h : prt kd f n j ≠ -4) : 0 ≤ j ∧ j < n ∧ 0 ≤ prt kd f n j ∧ prt kd f n j < n ∧ prt kd f n j ≠ j ∧ prt kd f n (prt kd f n j) = j ∧ isK (f j % 128) kd ∧ ((j < prt kd f n j ∧ opn (f j % 128)) ∨ (prt kd f n j < j ∧ clo (f j % 128))) := (PI_I kd f hn).2.2.2.1 j h
theorem prt_bd {kd : Int} {f : Int → Int} {n : Int} (hn : 0 ≤ n) (j : Int) : prt kd f n j = -4 ∨ (0 ≤ prt kd f n j ∧ prt kd f n j < n) := by
  by_cases h : prt kd f n j = -4
  · exact Or.inl h
  · have := prt_of hn h
    exact Or.inr ⟨this.2.2.1, this.2.2.2.1⟩
theorem prt_nest {kd : Int} {f : Int → Int} {n j k : Int} (hn : 0 ≤ n) (h : prt kd f n j ≠ -4) (h1 : j < k) (h2 : k < prt kd f n j) (hk : isK (f k % 128) kd) : prt kd f n k ≠ -4 ∧ j < prt kd f n k ∧ prt kd f n k < prt kd f n j := (PI_I kd f hn).2.2.2.2.1 j k h h1 h2 hk
/-- counts of those that lie around -/
abbrev cA (p : Int → Int) (Q : Int → Prop) [DecidablePred Q] (i : Int) : Int := smI (fun k => bI (i ≤ p k ∧ Q k)) i
abbrev cB (p : Int → Int) (Q : Int → Prop) [DecidablePred Q] (i : Int) : Int := smI (fun k => bI (i < p k ∧ Q k)) i
theorem sm_one (p : Int) (w : Int) : ∀ k : Nat, sm (fun j => if j = p then w else 0) k = if 0 ≤ p ∧ p < k then w else 0
  | 0 => by rw [if_neg (by omega)]; rfl
  | k + 1 => by
    rw [sm, sm_one p w k]
    by_cases h : (k : Int) = p
    · rw [if_neg (by omega), if_pos h, if_pos (by omega)]; omega
    · rw [if_neg h]
      by_cases h2 : 0 ≤ p ∧ p < k
      · rw [if_pos h2, if_pos (by omega)]; omega
      · rw [if_neg h2, if_neg (by omega)]; omega
theorem sm_add (g g' : Int → Int) : ∀ k : Nat, sm (fun j => g j + g' j) k = sm g k + sm g' k
  | 0 => rfl
  | k + 1 => by rw [sm, sm, sm, sm_add g g' k]; omega
theorem cB_cA (p : Int → Int) (Q : Int → Prop) [DecidablePred Q] {i : Int} (h : 0 ≤ i) : cA p Q (i + 1) = cB p Q i + bI (i < p i ∧ Q i) := by
  show smI _ (i + 1) = _
  rw [smI_succ _ h]
  congr 1
theorem cA_cB (p : Int → Int) (Q : Int → Prop) [DecidablePred Q] {i : Int} (h : 0 ≤ i) (inv : ∀ k, 0 ≤ k → k < i → (p k = i ↔ k = p i)) : cA p Q i = cB p Q i + (if 0 ≤ p i ∧ p i < i ∧ Q (p i) then 1 else 0) := by
  have e : cA p Q i = sm (fun k => bI (i < p k ∧ Q k) + (if k = p i then bI (Q (p i)) else 0)) i.toNat := by
    refine sm_congr _ (fun k h0 h1 => ?_)
    have hi := inv k h0 (by omega)
    by_cases hk : k = p i
    · rw [if_pos hk]
      have hp := hi.mpr hk
      unfold bI
      rw [← hk, hp]
      by_cases hQ : Q k
      · rw [if_pos ⟨by omega, hQ⟩, if_neg (by omega), if_pos hQ]; rfl
      · rw [if_neg (fun z => hQ z.2), if_neg (fun z => hQ z.2), if_neg hQ]; rfl
    · rw [if_neg hk]
      have hp : p k ≠ i := fun z => hk (hi.mp z)
      rw [bI_iff (show (i ≤ p k ∧ Q k) ↔ (i < p k ∧ Q k) by constructor <;> (rintro ⟨a, b⟩; exact ⟨by omega, b⟩))]
      omega
  rw [e, sm_add, sm_one]
  congr 1
  unfold bI
  by_cases h1 : 0 ≤ p i ∧ p i < i
  · by_cases hQ : Q (p i)
    · rw [if_pos (by omega), if_pos hQ, if_pos ⟨h1.1, h1.2, hQ⟩]
    · rw [if_pos (by omega), if_neg hQ, if_neg (fun z => hQ z.2.2)]
  · rw [if_neg (by omega), if_neg (fun z => h1 ⟨z.1, z.2.1⟩)]
theorem sm_pos {g : Int → Int} (hg : ∀ j, g j = 0 ∨ g j = 1) : ∀ k : Nat, (0 < sm g k ↔ ∃ j : Int, 0 ≤ j ∧ j < k ∧ g j = 1)
  | 0 => by
    constructor
    · intro h; simp [sm] at h
    · rintro ⟨j, h1, h2, -⟩; omega
  | k + 1 => by
    have ih := sm_pos hg k
    have h0 := (sm_bd (g := g) (lo := 0) (hi := 1) (fun j => by have := hg j; omega) k).1
    rw [sm]
    constructor
    · intro h
      rcases hg k with q | q
      · obtain ⟨j, a, b, c⟩ := ih.mp (by omega)
        exact ⟨j, a, by omega, c⟩
      · exact ⟨k, by omega, by omega, q⟩
    · rintro ⟨j, a, b, c⟩
      by_cases hj : j = k
      · subst hj
        rw [c]; omega
      · have := ih.mpr ⟨j, a, by omega, c⟩
        have := hg k
        omega
end
section
set_option maxRecDepth 100000 in
set_option maxHeartbeats 4000000 in
theorem c_X5_opens {l : Launch} {Γ : JG} {ad : Nat → Nat} {E : Nat → va_E} {c : Int} (hc : -2147483648 ≤ c ∧ c < 2147483648) : JM l Γ yX5_opens cX5_opens 1 (some .boolean) 0 0 0 0 ad 95 E [.int (jI c)] (pP (bI (opn c)) E) := by
  refine JM_intro (own := RX5) [some (.int (jI c))] rfl rfl rfl (Nat.le_of_ble_eq_true rfl) ?_
  intro Ω X R hin
  refine J_iload_n (q := 1) X dX5_opens_0 rfl rfl ?_
  refine J_bipush (q := 3) X dX5_opens_1 rfl (by decide) ?_
  refine J_icmp_eq (q := 6) (tgt := 18) X dX5_opens_3 (by decide) rfl (by omega) (by omega) (fun c3 => ?_) (fun c3 => ?_)
  · refine J_iconst (q := 19) X dX5_opens_18 rfl ?_
    refine J_goto (q := 23) X dX5_opens_19 (by decide) ?_
    refine J_zret X R dX5_opens_23 (nrw_z (by omega)) ?_
    exact ⟨by unfold bI; first | (rw [if_pos (by omega)]; done) | (rw [if_neg (by omega)]; done), rfl⟩
  · refine J_iload_n (q := 7) X dX5_opens_6 rfl rfl ?_
    refine J_bipush (q := 9) X dX5_opens_7 rfl (by decide) ?_
    refine J_icmp_eq (q := 12) (tgt := 18) X dX5_opens_9 (by decide) rfl (by omega) (by omega) (fun c9 => ?_) (fun c9 => ?_)
    · refine J_iconst (q := 19) X dX5_opens_18 rfl ?_
      refine J_goto (q := 23) X dX5_opens_19 (by decide) ?_
      refine J_zret X R dX5_opens_23 (nrw_z (by omega)) ?_
      exact ⟨by unfold bI; first | (rw [if_pos (by omega)]; done) | (rw [if_neg (by omega)]; done), rfl⟩
    · refine J_iload_n (q := 13) X dX5_opens_12 rfl rfl ?_
      refine J_bipush (q := 15) X dX5_opens_13 rfl (by decide) ?_
      refine J_icmp_ne (q := 18) (tgt := 22) X dX5_opens_15 (by decide) rfl (by omega) (by omega) (fun c15 => ?_) (fun c15 => ?_)
      · refine J_iconst (q := 23) X dX5_opens_22 rfl ?_
        refine J_zret X R dX5_opens_23 (nrw_z (by omega)) ?_
        exact ⟨by unfold bI; first | (rw [if_pos (by omega)]; done) | (rw [if_neg (by omega)]; done), rfl⟩
      · refine J_iconst (q := 19) X dX5_opens_18 rfl ?_
        refine J_goto (q := 23) X dX5_opens_19 (by decide) ?_
        refine J_zret X R dX5_opens_23 (nrw_z (by omega)) ?_
        exact ⟨by unfold bI; first | (rw [if_pos (by omega)]; done) | (rw [if_neg (by omega)]; done), rfl⟩

set_option maxRecDepth 100000 in
set_option maxHeartbeats 4000000 in
theorem c_X5_closes {l : Launch} {Γ : JG} {ad : Nat → Nat} {E : Nat → va_E} {c : Int} (hc : -2147483648 ≤ c ∧ c < 2147483648) : JM l Γ yX5_closes cX5_closes 1 (some .boolean) 0 0 0 0 ad 95 E [.int (jI c)] (pP (bI (clo c)) E) := by
  refine JM_intro (own := RX5) [some (.int (jI c))] rfl rfl rfl (Nat.le_of_ble_eq_true rfl) ?_
  intro Ω X R hin
  refine J_iload_n (q := 1) X dX5_closes_0 rfl rfl ?_
  refine J_bipush (q := 3) X dX5_closes_1 rfl (by decide) ?_
  refine J_icmp_eq (q := 6) (tgt := 18) X dX5_closes_3 (by decide) rfl (by omega) (by omega) (fun c3 => ?_) (fun c3 => ?_)
  · refine J_iconst (q := 19) X dX5_closes_18 rfl ?_
    refine J_goto (q := 23) X dX5_closes_19 (by decide) ?_
    refine J_zret X R dX5_closes_23 (nrw_z (by omega)) ?_
    exact ⟨by unfold bI; first | (rw [if_pos (by omega)]; done) | (rw [if_neg (by omega)]; done), rfl⟩
  · refine J_iload_n (q := 7) X dX5_closes_6 rfl rfl ?_
    refine J_bipush (q := 9) X dX5_closes_7 rfl (by decide) ?_
    refine J_icmp_eq (q := 12) (tgt := 18) X dX5_closes_9 (by decide) rfl (by omega) (by omega) (fun c9 => ?_) (fun c9 => ?_)
    · refine J_iconst (q := 19) X dX5_closes_18 rfl ?_
      refine J_goto (q := 23) X dX5_closes_19 (by decide) ?_
      refine J_zret X R dX5_closes_23 (nrw_z (by omega)) ?_
      exact ⟨by unfold bI; first | (rw [if_pos (by omega)]; done) | (rw [if_neg (by omega)]; done), rfl⟩
    · refine J_iload_n (q := 13) X dX5_closes_12 rfl rfl ?_
      refine J_bipush (q := 15) X dX5_closes_13 rfl (by decide) ?_
      refine J_icmp_ne (q := 18) (tgt := 22) X dX5_closes_15 (by decide) rfl (by omega) (by omega) (fun c15 => ?_) (fun c15 => ?_)
      · refine J_iconst (q := 23) X dX5_closes_22 rfl ?_
        refine J_zret X R dX5_closes_23 (nrw_z (by omega)) ?_
        exact ⟨by unfold bI; first | (rw [if_pos (by omega)]; done) | (rw [if_neg (by omega)]; done), rfl⟩
      · refine J_iconst (q := 19) X dX5_closes_18 rfl ?_
        refine J_goto (q := 23) X dX5_closes_19 (by decide) ?_
        refine J_zret X R dX5_closes_23 (nrw_z (by omega)) ?_
        exact ⟨by unfold bI; first | (rw [if_pos (by omega)]; done) | (rw [if_neg (by omega)]; done), rfl⟩

set_option maxRecDepth 100000 in
set_option maxHeartbeats 4000000 in
theorem c_X5_isBracket {l : Launch} {Γ : JG} {ad : Nat → Nat} {E : Nat → va_E} {c : Int} (hc : -2147483648 ≤ c ∧ c < 2147483648) : JM l Γ yX5_isBracket cX5_isBracket 1 (some .boolean) 1 20 0 0 ad 95 E [.int (jI c)] (pP (bI (brk c)) E) := by
  refine JM_intro (own := RX5) [some (.int (jI c))] rfl rfl rfl (Nat.le_of_ble_eq_true rfl) ?_
  intro Ω X R hin
  refine J_iload_n (q := 1) X dX5_isBracket_0 rfl rfl ?_
  refine J_callP (q := 4) (jrS X mX5_18 dX5_isBracket_1 (c_X5_opens (by omega)) rfl rfl (Nat.le_of_ble_eq_true rfl) (by decide)) rfl ?_
  refine J_if_neB (q := 7) (tgt := 14) X dX5_isBracket_4 (by decide) rfl (fun c4 => ?_) (fun c4 => ?_)
  · refine J_iconst (q := 15) X dX5_isBracket_14 rfl ?_
    refine J_goto (q := 19) X dX5_isBracket_15 (by decide) ?_
    refine J_zret X R dX5_isBracket_19 (nrw_z (by omega)) ?_
    exact ⟨by unfold bI; first | (rw [if_pos (by omega)]; done) | (rw [if_neg (by omega)]; done), rfl⟩
  · refine J_iload_n (q := 8) X dX5_isBracket_7 rfl rfl ?_
    refine J_callP (q := 11) (jrS X mX5_21 dX5_isBracket_8 (c_X5_closes (by omega)) rfl rfl (Nat.le_of_ble_eq_true rfl) (by decide)) rfl ?_
    refine J_if_eqB (q := 14) (tgt := 18) X dX5_isBracket_11 (by decide) rfl (fun c11 => ?_) (fun c11 => ?_)
    · refine J_iconst (q := 19) X dX5_isBracket_18 rfl ?_
      refine J_zret X R dX5_isBracket_19 (nrw_z (by omega)) ?_
      exact ⟨by unfold bI; first | (rw [if_pos (by omega)]; done) | (rw [if_neg (by omega)]; done), rfl⟩
    · refine J_iconst (q := 15) X dX5_isBracket_14 rfl ?_
      refine J_goto (q := 19) X dX5_isBracket_15 (by decide) ?_
      refine J_zret X R dX5_isBracket_19 (nrw_z (by omega)) ?_
      exact ⟨by unfold bI; first | (rw [if_pos (by omega)]; done) | (rw [if_neg (by omega)]; done), rfl⟩

set_option maxRecDepth 100000 in
set_option maxHeartbeats 4000000 in
theorem c_X5_isLetter {l : Launch} {Γ : JG} {ad : Nat → Nat} {E : Nat → va_E} {c : Int} (hc : -2147483648 ≤ c ∧ c < 2147483648) : JM l Γ yX5_isLetter cX5_isLetter 1 (some .boolean) 0 0 0 0 ad 95 E [.int (jI c)] (pP (bI (ltr c)) E) := by
  refine JM_intro (own := RX5) [some (.int (jI c))] rfl rfl rfl (Nat.le_of_ble_eq_true rfl) ?_
  intro Ω X R hin
  refine J_iload_n (q := 1) X dX5_isLetter_0 rfl rfl ?_
  refine J_bipush (q := 3) X dX5_isLetter_1 rfl (by decide) ?_
  refine J_icmp_lt (q := 6) (tgt := 16) X dX5_isLetter_3 (by decide) rfl (by omega) (by omega) (fun c3 => ?_) (fun c3 => ?_)
  · refine J_iconst (q := 17) X dX5_isLetter_16 rfl ?_
    refine J_zret X R dX5_isLetter_17 (nrw_z (by omega)) ?_
    exact ⟨by unfold bI; first | (rw [if_pos (by omega)]; done) | (rw [if_neg (by omega)]; done), rfl⟩
  · refine J_iload_n (q := 7) X dX5_isLetter_6 rfl rfl ?_
    refine J_bipush (q := 9) X dX5_isLetter_7 rfl (by decide) ?_
    refine J_icmp_gt (q := 12) (tgt := 16) X dX5_isLetter_9 (by decide) rfl (by omega) (by omega) (fun c9 => ?_) (fun c9 => ?_)
    · refine J_iconst (q := 17) X dX5_isLetter_16 rfl ?_
      refine J_zret X R dX5_isLetter_17 (nrw_z (by omega)) ?_
      exact ⟨by unfold bI; first | (rw [if_pos (by omega)]; done) | (rw [if_neg (by omega)]; done), rfl⟩
    · refine J_iconst (q := 13) X dX5_isLetter_12 rfl ?_
      refine J_goto (q := 17) X dX5_isLetter_13 (by decide) ?_
      refine J_zret X R dX5_isLetter_17 (nrw_z (by omega)) ?_
      exact ⟨by unfold bI; first | (rw [if_pos (by omega)]; done) | (rw [if_neg (by omega)]; done), rfl⟩

set_option maxRecDepth 100000 in
set_option maxHeartbeats 4000000 in
theorem c_X5_isSign {l : Launch} {Γ : JG} {ad : Nat → Nat} {E : Nat → va_E} {c : Int} (hc : -2147483648 ≤ c ∧ c < 2147483648) : JM l Γ yX5_isSign cX5_isSign 1 (some .boolean) 2 40 0 0 ad 95 E [.int (jI c)] (pP (bI (sgn c)) E) := by
  refine JM_intro (own := RX5) [some (.int (jI c))] rfl rfl rfl (Nat.le_of_ble_eq_true rfl) ?_
  intro Ω X R hin
  refine J_iload_n (q := 1) X dX5_isSign_0 rfl rfl ?_
  refine J_callP (q := 4) (jrS X mX5_9 dX5_isSign_1 (c_X5_isBracket (by omega)) rfl rfl (Nat.le_of_ble_eq_true rfl) (by decide)) rfl ?_
  refine J_if_neB (q := 7) (tgt := 20) X dX5_isSign_4 (by decide) rfl (fun c4 => ?_) (fun c4 => ?_)
  · refine J_iconst (q := 21) X dX5_isSign_20 rfl ?_
    refine J_goto (q := 25) X dX5_isSign_21 (by decide) ?_
    refine J_zret X R dX5_isSign_25 (nrw_z (by omega)) ?_
    exact ⟨by unfold bI; first | (rw [if_pos (by omega)]; done) | (rw [if_neg (by omega)]; done), rfl⟩
  · refine J_iload_n (q := 8) X dX5_isSign_7 rfl rfl ?_
    refine J_callP (q := 11) (jrS X mX5_15 dX5_isSign_8 (c_X5_isLetter (by omega)) rfl rfl (Nat.le_of_ble_eq_true rfl) (by decide)) rfl ?_
    refine J_if_neB (q := 14) (tgt := 20) X dX5_isSign_11 (by decide) rfl (fun c11 => ?_) (fun c11 => ?_)
    · refine J_iconst (q := 21) X dX5_isSign_20 rfl ?_
      refine J_goto (q := 25) X dX5_isSign_21 (by decide) ?_
      refine J_zret X R dX5_isSign_25 (nrw_z (by omega)) ?_
      exact ⟨by unfold bI; first | (rw [if_pos (by omega)]; done) | (rw [if_neg (by omega)]; done), rfl⟩
    · refine J_iload_n (q := 15) X dX5_isSign_14 rfl rfl ?_
      refine J_bipush (q := 17) X dX5_isSign_15 rfl (by decide) ?_
      refine J_icmp_ne (q := 20) (tgt := 24) X dX5_isSign_17 (by decide) rfl (by omega) (by omega) (fun c17 => ?_) (fun c17 => ?_)
      · refine J_iconst (q := 25) X dX5_isSign_24 rfl ?_
        refine J_zret X R dX5_isSign_25 (nrw_z (by omega)) ?_
        exact ⟨by unfold bI; first | (rw [if_pos (by omega)]; done) | (rw [if_neg (by omega)]; done), rfl⟩
      · refine J_iconst (q := 21) X dX5_isSign_20 rfl ?_
        refine J_goto (q := 25) X dX5_isSign_21 (by decide) ?_
        refine J_zret X R dX5_isSign_25 (nrw_z (by omega)) ?_
        exact ⟨by unfold bI; first | (rw [if_pos (by omega)]; done) | (rw [if_neg (by omega)]; done), rfl⟩

set_option maxRecDepth 100000 in
set_option maxHeartbeats 4000000 in
theorem c_X8_isFigure {l : Launch} {Γ : JG} {ad : Nat → Nat} {E : Nat → va_E} {c : Int} (hc : -2147483648 ≤ c ∧ c < 2147483648) : JM l Γ yX8_isFigure cX8_isFigure 1 (some .boolean) 0 0 0 0 ad 95 E [.int (jI c)] (pP (bI (fig c)) E) := by
  refine JM_intro (own := RX8) [some (.int (jI c))] rfl rfl rfl (Nat.le_of_ble_eq_true rfl) ?_
  intro Ω X R hin
  refine J_iload_n (q := 1) X dX8_isFigure_0 rfl rfl ?_
  refine J_bipush (q := 3) X dX8_isFigure_1 rfl (by decide) ?_
  refine J_icmp_lt (q := 6) (tgt := 16) X dX8_isFigure_3 (by decide) rfl (by omega) (by omega) (fun c3 => ?_) (fun c3 => ?_)
  · refine J_iconst (q := 17) X dX8_isFigure_16 rfl ?_
    refine J_zret X R dX8_isFigure_17 (nrw_z (by omega)) ?_
    exact ⟨by unfold bI; first | (rw [if_pos (by omega)]; done) | (rw [if_neg (by omega)]; done), rfl⟩
  · refine J_iload_n (q := 7) X dX8_isFigure_6 rfl rfl ?_
    refine J_bipush (q := 9) X dX8_isFigure_7 rfl (by decide) ?_
    refine J_icmp_gt (q := 12) (tgt := 16) X dX8_isFigure_9 (by decide) rfl (by omega) (by omega) (fun c9 => ?_) (fun c9 => ?_)
    · refine J_iconst (q := 17) X dX8_isFigure_16 rfl ?_
      refine J_zret X R dX8_isFigure_17 (nrw_z (by omega)) ?_
      exact ⟨by unfold bI; first | (rw [if_pos (by omega)]; done) | (rw [if_neg (by omega)]; done), rfl⟩
    · refine J_iconst (q := 13) X dX8_isFigure_12 rfl ?_
      refine J_goto (q := 17) X dX8_isFigure_13 (by decide) ?_
      refine J_zret X R dX8_isFigure_17 (nrw_z (by omega)) ?_
      exact ⟨by unfold bI; first | (rw [if_pos (by omega)]; done) | (rw [if_neg (by omega)]; done), rfl⟩

set_option maxRecDepth 100000 in
set_option maxHeartbeats 4000000 in
theorem c_X9_hasSheet {l : Launch} {Γ : JG} {ad : Nat → Nat} {E : Nat → va_E} {k : Int} (hk : -2147483648 ≤ k ∧ k < 2147483648) : JM l Γ yX9_hasSheet cX9_hasSheet 1 (some .boolean) 0 0 0 0 ad 95 E [.int (jI k)] (pP (bI (0 ≤ k ∧ k < 4)) E) := by
  refine JM_intro (own := RX9) [some (.int (jI k))] rfl rfl rfl (Nat.le_of_ble_eq_true rfl) ?_
  intro Ω X R hin
  refine J_iload_n (q := 1) X dX9_hasSheet_0 rfl rfl ?_
  refine J_if_lt (q := 4) (tgt := 13) X dX9_hasSheet_1 (by decide) rfl (by omega) (fun c1 => ?_) (fun c1 => ?_)
  · refine J_iconst (q := 14) X dX9_hasSheet_13 rfl ?_
    refine J_zret X R dX9_hasSheet_14 (nrw_z (by omega)) ?_
    exact ⟨by unfold bI; first | (rw [if_pos (by omega)]; done) | (rw [if_neg (by omega)]; done), rfl⟩
  · refine J_iload_n (q := 5) X dX9_hasSheet_4 rfl rfl ?_
    refine J_iconst (q := 6) X dX9_hasSheet_5 rfl ?_
    refine J_icmp_ge (q := 9) (tgt := 13) X dX9_hasSheet_6 (by decide) rfl (by omega) (by omega) (fun c6 => ?_) (fun c6 => ?_)
    · refine J_iconst (q := 14) X dX9_hasSheet_13 rfl ?_
      refine J_zret X R dX9_hasSheet_14 (nrw_z (by omega)) ?_
      exact ⟨by unfold bI; first | (rw [if_pos (by omega)]; done) | (rw [if_neg (by omega)]; done), rfl⟩
    · refine J_iconst (q := 10) X dX9_hasSheet_9 rfl ?_
      refine J_goto (q := 14) X dX9_hasSheet_10 (by decide) ?_
      refine J_zret X R dX9_hasSheet_14 (nrw_z (by omega)) ?_
      exact ⟨by unfold bI; first | (rw [if_pos (by omega)]; done) | (rw [if_neg (by omega)]; done), rfl⟩

set_option maxRecDepth 100000 in
set_option maxHeartbeats 4000000 in
theorem c_X9_isLane {l : Launch} {Γ : JG} {ad : Nat → Nat} {E : Nat → va_E} {k : Int} (hk : -2147483648 ≤ k ∧ k < 2147483648) : JM l Γ yX9_isLane cX9_isLane 1 (some .boolean) 0 0 0 0 ad 95 E [.int (jI k)] (pP (bI (0 ≤ k ∧ k < 3)) E) := by
  refine JM_intro (own := RX9) [some (.int (jI k))] rfl rfl rfl (Nat.le_of_ble_eq_true rfl) ?_
  intro Ω X R hin
  refine J_iload_n (q := 1) X dX9_isLane_0 rfl rfl ?_
  refine J_if_lt (q := 4) (tgt := 13) X dX9_isLane_1 (by decide) rfl (by omega) (fun c1 => ?_) (fun c1 => ?_)
  · refine J_iconst (q := 14) X dX9_isLane_13 rfl ?_
    refine J_zret X R dX9_isLane_14 (nrw_z (by omega)) ?_
    exact ⟨by unfold bI; first | (rw [if_pos (by omega)]; done) | (rw [if_neg (by omega)]; done), rfl⟩
  · refine J_iload_n (q := 5) X dX9_isLane_4 rfl rfl ?_
    refine J_iconst (q := 6) X dX9_isLane_5 rfl ?_
    refine J_icmp_ge (q := 9) (tgt := 13) X dX9_isLane_6 (by decide) rfl (by omega) (by omega) (fun c6 => ?_) (fun c6 => ?_)
    · refine J_iconst (q := 14) X dX9_isLane_13 rfl ?_
      refine J_zret X R dX9_isLane_14 (nrw_z (by omega)) ?_
      exact ⟨by unfold bI; first | (rw [if_pos (by omega)]; done) | (rw [if_neg (by omega)]; done), rfl⟩
    · refine J_iconst (q := 10) X dX9_isLane_9 rfl ?_
      refine J_goto (q := 14) X dX9_isLane_10 (by decide) ?_
      refine J_zret X R dX9_isLane_14 (nrw_z (by omega)) ?_
      exact ⟨by unfold bI; first | (rw [if_pos (by omega)]; done) | (rw [if_neg (by omega)]; done), rfl⟩

set_option maxRecDepth 100000 in
set_option maxHeartbeats 4000000 in
theorem c_X5_kindOf {l : Launch} {Γ : JG} {ad : Nat → Nat} {E : Nat → va_E} {c : Int} (hc : -2147483648 ≤ c ∧ c < 2147483648) : JM l Γ yX5_kindOf cX5_kindOf 1 (some .int) 0 0 0 0 ad 95 E [.int (jI c)] (pP (knd c) E) := by
  refine JM_intro (own := RX5) [some (.int (jI c))] rfl rfl rfl (Nat.le_of_ble_eq_true rfl) ?_
  intro Ω X R hin
  refine J_iload_n (q := 1) X dX5_kindOf_0 rfl rfl ?_
  rcases (show (c ≠ 40 ∧ c ≠ 41 ∧ c ≠ 91 ∧ c ≠ 93 ∧ c ≠ 123 ∧ c ≠ 125) ∨ c = 40 ∨ c = 41 ∨ c = 91 ∨ c = 93 ∨ c = 123 ∨ c = 125 by omega) with hsw | hsw | hsw | hsw | hsw | hsw | hsw
  · refine J_lookup (tgt := 66) (off := 65) X dX5_kindOf_1 (by decide) (by omega) (by simp only [Op.lookupswitch.offset_cons, Op.lookupswitch.offset]; first | (repeat rw [if_neg (by omega)]) | simp; done) (by decide) ?_
    refine J_bipush (q := 68) X dX5_kindOf_66 rfl (by decide) ?_
    refine J_iret X R dX5_kindOf_68 ?_
    exact ⟨by unfold knd; first | (rw [if_pos (by omega)]; done) | (rw [if_neg (by omega), if_pos (by omega)]; done) | (rw [if_neg (by omega), if_neg (by omega), if_pos (by omega)]; done) | (rw [if_neg (by omega), if_neg (by omega), if_neg (by omega)]; done), rfl⟩
  · refine J_lookup (tgt := 60) (off := 59) X dX5_kindOf_1 (by decide) (by omega) (by rw [hsw]; decide) (by decide) ?_
    refine J_iconst (q := 61) X dX5_kindOf_60 rfl ?_
    refine J_iret X R dX5_kindOf_61 ?_
    exact ⟨by unfold knd; first | (rw [if_pos (by omega)]; done) | (rw [if_neg (by omega), if_pos (by omega)]; done) | (rw [if_neg (by omega), if_neg (by omega), if_pos (by omega)]; done) | (rw [if_neg (by omega), if_neg (by omega), if_neg (by omega)]; done), rfl⟩
  · refine J_lookup (tgt := 60) (off := 59) X dX5_kindOf_1 (by decide) (by omega) (by rw [hsw]; decide) (by decide) ?_
    refine J_iconst (q := 61) X dX5_kindOf_60 rfl ?_
    refine J_iret X R dX5_kindOf_61 ?_
    exact ⟨by unfold knd; first | (rw [if_pos (by omega)]; done) | (rw [if_neg (by omega), if_pos (by omega)]; done) | (rw [if_neg (by omega), if_neg (by omega), if_pos (by omega)]; done) | (rw [if_neg (by omega), if_neg (by omega), if_neg (by omega)]; done), rfl⟩
  · refine J_lookup (tgt := 62) (off := 61) X dX5_kindOf_1 (by decide) (by omega) (by rw [hsw]; decide) (by decide) ?_
    refine J_iconst (q := 63) X dX5_kindOf_62 rfl ?_
    refine J_iret X R dX5_kindOf_63 ?_
    exact ⟨by unfold knd; first | (rw [if_pos (by omega)]; done) | (rw [if_neg (by omega), if_pos (by omega)]; done) | (rw [if_neg (by omega), if_neg (by omega), if_pos (by omega)]; done) | (rw [if_neg (by omega), if_neg (by omega), if_neg (by omega)]; done), rfl⟩
  · refine J_lookup (tgt := 62) (off := 61) X dX5_kindOf_1 (by decide) (by omega) (by rw [hsw]; decide) (by decide) ?_
    refine J_iconst (q := 63) X dX5_kindOf_62 rfl ?_
    refine J_iret X R dX5_kindOf_63 ?_
    exact ⟨by unfold knd; first | (rw [if_pos (by omega)]; done) | (rw [if_neg (by omega), if_pos (by omega)]; done) | (rw [if_neg (by omega), if_neg (by omega), if_pos (by omega)]; done) | (rw [if_neg (by omega), if_neg (by omega), if_neg (by omega)]; done), rfl⟩
  · refine J_lookup (tgt := 64) (off := 63) X dX5_kindOf_1 (by decide) (by omega) (by rw [hsw]; decide) (by decide) ?_
    refine J_iconst (q := 65) X dX5_kindOf_64 rfl ?_
    refine J_iret X R dX5_kindOf_65 ?_
    exact ⟨by unfold knd; first | (rw [if_pos (by omega)]; done) | (rw [if_neg (by omega), if_pos (by omega)]; done) | (rw [if_neg (by omega), if_neg (by omega), if_pos (by omega)]; done) | (rw [if_neg (by omega), if_neg (by omega), if_neg (by omega)]; done), rfl⟩
  · refine J_lookup (tgt := 64) (off := 63) X dX5_kindOf_1 (by decide) (by omega) (by rw [hsw]; decide) (by decide) ?_
    refine J_iconst (q := 65) X dX5_kindOf_64 rfl ?_
    refine J_iret X R dX5_kindOf_65 ?_
    exact ⟨by unfold knd; first | (rw [if_pos (by omega)]; done) | (rw [if_neg (by omega), if_pos (by omega)]; done) | (rw [if_neg (by omega), if_neg (by omega), if_pos (by omega)]; done) | (rw [if_neg (by omega), if_neg (by omega), if_neg (by omega)]; done), rfl⟩

set_option maxRecDepth 100000 in
set_option maxHeartbeats 4000000 in
theorem c_X5_turned {l : Launch} {Γ : JG} {ad : Nat → Nat} {E : Nat → va_E} {c : Int} (hc : -2147483648 ≤ c ∧ c < 2147483648) : JM l Γ yX5_turned cX5_turned 1 (some .int) 0 0 0 0 ad 95 E [.int (jI c)] (pP (trn c) E) := by
  refine JM_intro (own := RX5) [some (.int (jI c))] rfl rfl rfl (Nat.le_of_ble_eq_true rfl) ?_
  intro Ω X R hin
  refine J_iload_n (q := 1) X dX5_turned_0 rfl rfl ?_
  rcases (show (c ≠ 40 ∧ c ≠ 41 ∧ c ≠ 91 ∧ c ≠ 93 ∧ c ≠ 123 ∧ c ≠ 125) ∨ c = 40 ∨ c = 41 ∨ c = 91 ∨ c = 93 ∨ c = 123 ∨ c = 125 by omega) with hsw | hsw | hsw | hsw | hsw | hsw | hsw
  · refine J_lookup (tgt := 78) (off := 77) X dX5_turned_1 (by decide) (by omega) (by simp only [Op.lookupswitch.offset_cons, Op.lookupswitch.offset]; first | (repeat rw [if_neg (by omega)]) | simp; done) (by decide) ?_
    refine J_iload_n (q := 79) X dX5_turned_78 rfl rfl ?_
    refine J_iret X R dX5_turned_79 ?_
    exact ⟨by unfold trn; repeat (first | (rw [if_pos (by omega)]; done) | rw [if_neg (by omega)]), rfl⟩
  · refine J_lookup (tgt := 60) (off := 59) X dX5_turned_1 (by decide) (by omega) (by rw [hsw]; decide) (by decide) ?_
    refine J_bipush (q := 62) X dX5_turned_60 rfl (by decide) ?_
    refine J_iret X R dX5_turned_62 ?_
    exact ⟨by unfold trn; repeat (first | (rw [if_pos (by omega)]; done) | rw [if_neg (by omega)]), rfl⟩
  · refine J_lookup (tgt := 63) (off := 62) X dX5_turned_1 (by decide) (by omega) (by rw [hsw]; decide) (by decide) ?_
    refine J_bipush (q := 65) X dX5_turned_63 rfl (by decide) ?_
    refine J_iret X R dX5_turned_65 ?_
    exact ⟨by unfold trn; repeat (first | (rw [if_pos (by omega)]; done) | rw [if_neg (by omega)]), rfl⟩
  · refine J_lookup (tgt := 66) (off := 65) X dX5_turned_1 (by decide) (by omega) (by rw [hsw]; decide) (by decide) ?_
    refine J_bipush (q := 68) X dX5_turned_66 rfl (by decide) ?_
    refine J_iret X R dX5_turned_68 ?_
    exact ⟨by unfold trn; repeat (first | (rw [if_pos (by omega)]; done) | rw [if_neg (by omega)]), rfl⟩
  · refine J_lookup (tgt := 69) (off := 68) X dX5_turned_1 (by decide) (by omega) (by rw [hsw]; decide) (by decide) ?_
    refine J_bipush (q := 71) X dX5_turned_69 rfl (by decide) ?_
    refine J_iret X R dX5_turned_71 ?_
    exact ⟨by unfold trn; repeat (first | (rw [if_pos (by omega)]; done) | rw [if_neg (by omega)]), rfl⟩
  · refine J_lookup (tgt := 72) (off := 71) X dX5_turned_1 (by decide) (by omega) (by rw [hsw]; decide) (by decide) ?_
    refine J_bipush (q := 74) X dX5_turned_72 rfl (by decide) ?_
    refine J_iret X R dX5_turned_74 ?_
    exact ⟨by unfold trn; repeat (first | (rw [if_pos (by omega)]; done) | rw [if_neg (by omega)]), rfl⟩
  · refine J_lookup (tgt := 75) (off := 74) X dX5_turned_1 (by decide) (by omega) (by rw [hsw]; decide) (by decide) ?_
    refine J_bipush (q := 77) X dX5_turned_75 rfl (by decide) ?_
    refine J_iret X R dX5_turned_77 ?_
    exact ⟨by unfold trn; repeat (first | (rw [if_pos (by omega)]; done) | rw [if_neg (by omega)]), rfl⟩

set_option maxRecDepth 100000 in
set_option maxHeartbeats 4000000 in
theorem c_X9_oneIf {l : Launch} {Γ : JG} {ad : Nat → Nat} {E : Nat → va_E} {x : Int} (hx : x = 0 ∨ x = 1) : JM l Γ yX9_oneIf cX9_oneIf 1 (some .int) 0 0 0 0 ad 95 E [.int (jI x)] (pP x E) := by
  refine JM_intro (own := RX9) [some (.int (jI x))] rfl rfl rfl (Nat.le_of_ble_eq_true rfl) ?_
  intro Ω X R hin
  refine J_iload_n (q := 1) X dX9_oneIf_0 rfl rfl ?_
  refine J_if_eq (q := 4) (tgt := 8) X dX9_oneIf_1 (by decide) rfl (by omega) (fun c1 => ?_) (fun c1 => ?_)
  · refine J_iconst (q := 9) X dX9_oneIf_8 rfl ?_
    refine J_iret X R dX9_oneIf_9 ?_
    first | exact ⟨by rw [show x = 0 by omega], rfl⟩ | exact ⟨by rw [show x = 1 by omega], rfl⟩
  · refine J_iconst (q := 5) X dX9_oneIf_4 rfl ?_
    refine J_goto (q := 9) X dX9_oneIf_5 (by decide) ?_
    refine J_iret X R dX9_oneIf_9 ?_
    first | exact ⟨by rw [show x = 0 by omega], rfl⟩ | exact ⟨by rw [show x = 1 by omega], rfl⟩
end
section
set_option maxRecDepth 100000 in
set_option maxHeartbeats 4000000 in
theorem c_X3_hasSign {l : Launch} {Γ : JG} {ad : Nat → Nat} {E : Nat → va_E} {r c : Nat} {n : Int} {f : Int → Int} {i : Int}  (hR : E r = .inr (3, [.ref (ad c), .int (jI n)])) (hC : E c = aI Γ 60 f) (hr : r < 95 ∧ c < 95 ∧ r ≠ c) (hn : 0 ≤ n ∧ n ≤ 60) (hi : -2147483648 ≤ i ∧ i < 2147483648) : JM l Γ yX3_hasSign cX3_hasSign 2 (some .boolean) 0 0 0 0 ad 95 E [.ref (ad r), .int (jI i)] (pP (bI (0 ≤ i ∧ i < n)) E) := by
  refine JM_intro (own := RX3) [some (.ref (ad r)), some (.int (jI i))] rfl rfl rfl (Nat.le_of_ble_eq_true rfl) ?_
  intro Ω X R hin
  refine J_iload_n (q := 1) X dX3_hasSign_0 rfl rfl ?_
  refine J_if_lt (q := 4) (tgt := 16) X dX3_hasSign_1 (by decide) rfl (by omega) (fun c1 => ?_) (fun c1 => ?_)
  · refine J_iconst (q := 17) X dX3_hasSign_16 rfl ?_
    refine J_zret X R dX3_hasSign_17 (nrw_z (by omega)) ?_
    exact ⟨by unfold bI; first | (rw [if_pos (by omega)]; done) | (rw [if_neg (by omega)]; done), rfl⟩
  · refine J_iload_n (q := 5) X dX3_hasSign_4 rfl rfl ?_
    refine J_aload_n (q := 6) X dX3_hasSign_5 rfl rfl ?_
    refine J_get (q := 9) X dX3_hasSign_6 fX3_15 hR (by omega) rfl rfl ?_
    refine J_icmp_ge (q := 12) (tgt := 16) X dX3_hasSign_9 (by decide) rfl (by omega) (by omega) (fun c9 => ?_) (fun c9 => ?_)
    · refine J_iconst (q := 17) X dX3_hasSign_16 rfl ?_
      refine J_zret X R dX3_hasSign_17 (nrw_z (by omega)) ?_
      exact ⟨by unfold bI; first | (rw [if_pos (by omega)]; done) | (rw [if_neg (by omega)]; done), rfl⟩
    · refine J_iconst (q := 13) X dX3_hasSign_12 rfl ?_
      refine J_goto (q := 17) X dX3_hasSign_13 (by decide) ?_
      refine J_zret X R dX3_hasSign_17 (nrw_z (by omega)) ?_
      exact ⟨by unfold bI; first | (rw [if_pos (by omega)]; done) | (rw [if_neg (by omega)]; done), rfl⟩

set_option maxRecDepth 100000 in
set_option maxHeartbeats 4000000 in
theorem c_X3_hasPlace {l : Launch} {Γ : JG} {ad : Nat → Nat} {E : Nat → va_E} {r c : Nat} {n : Int} {f : Int → Int} {i : Int}  (hR : E r = .inr (3, [.ref (ad c), .int (jI n)])) (hC : E c = aI Γ 60 f) (hr : r < 95 ∧ c < 95 ∧ r ≠ c) (hn : 0 ≤ n ∧ n ≤ 60) (hi : -2147483648 ≤ i ∧ i < 2147483648) : JM l Γ yX3_hasPlace cX3_hasPlace 2 (some .boolean) 0 0 0 0 ad 95 E [.ref (ad r), .int (jI i)] (pP (bI (0 ≤ i ∧ i ≤ n)) E) := by
  refine JM_intro (own := RX3) [some (.ref (ad r)), some (.int (jI i))] rfl rfl rfl (Nat.le_of_ble_eq_true rfl) ?_
  intro Ω X R hin
  refine J_iload_n (q := 1) X dX3_hasPlace_0 rfl rfl ?_
  refine J_if_lt (q := 4) (tgt := 16) X dX3_hasPlace_1 (by decide) rfl (by omega) (fun c1 => ?_) (fun c1 => ?_)
  · refine J_iconst (q := 17) X dX3_hasPlace_16 rfl ?_
    refine J_zret X R dX3_hasPlace_17 (nrw_z (by omega)) ?_
    exact ⟨by unfold bI; first | (rw [if_pos (by omega)]; done) | (rw [if_neg (by omega)]; done), rfl⟩
  · refine J_iload_n (q := 5) X dX3_hasPlace_4 rfl rfl ?_
    refine J_aload_n (q := 6) X dX3_hasPlace_5 rfl rfl ?_
    refine J_get (q := 9) X dX3_hasPlace_6 fX3_15 hR (by omega) rfl rfl ?_
    refine J_icmp_gt (q := 12) (tgt := 16) X dX3_hasPlace_9 (by decide) rfl (by omega) (by omega) (fun c9 => ?_) (fun c9 => ?_)
    · refine J_iconst (q := 17) X dX3_hasPlace_16 rfl ?_
      refine J_zret X R dX3_hasPlace_17 (nrw_z (by omega)) ?_
      exact ⟨by unfold bI; first | (rw [if_pos (by omega)]; done) | (rw [if_neg (by omega)]; done), rfl⟩
    · refine J_iconst (q := 13) X dX3_hasPlace_12 rfl ?_
      refine J_goto (q := 17) X dX3_hasPlace_13 (by decide) ?_
      refine J_zret X R dX3_hasPlace_17 (nrw_z (by omega)) ?_
      exact ⟨by unfold bI; first | (rw [if_pos (by omega)]; done) | (rw [if_neg (by omega)]; done), rfl⟩

set_option maxRecDepth 100000 in
set_option maxHeartbeats 4000000 in
theorem c_X3_hasPart {l : Launch} {Γ : JG} {ad : Nat → Nat} {E : Nat → va_E} {r c : Nat} {n : Int} {f : Int → Int} {i m : Int}  (hR : E r = .inr (3, [.ref (ad c), .int (jI n)])) (hC : E c = aI Γ 60 f) (hr : r < 95 ∧ c < 95 ∧ r ≠ c) (hn : 0 ≤ n ∧ n ≤ 60) (hi : -2147483648 ≤ i ∧ i < 2147483648) (hm : -2147483648 ≤ m ∧ m < 2147483648) : JM l Γ yX3_hasPart cX3_hasPart 3 (some .boolean) 1 21 0 0 ad 95 E [.ref (ad r), .int (jI i), .int (jI m)] (pP (bI (0 ≤ i ∧ i < n ∧ 1 ≤ m ∧ m ≤ n - i)) E) := by
  refine JM_intro (own := RX3) [some (.ref (ad r)), some (.int (jI i)), some (.int (jI m))] rfl rfl rfl (Nat.le_of_ble_eq_true rfl) ?_
  intro Ω X R hin
  refine J_aload_n (q := 1) X dX3_hasPart_0 rfl rfl ?_
  refine J_iload_n (q := 2) X dX3_hasPart_1 rfl rfl ?_
  refine J_callP (q := 5) (jrV X mX3_19 dX3_hasPart_2 (c_X3_hasSign hR hC (by omega) (by omega) (by omega)) hR (by omega) rfl rfl rfl rfl (Nat.le_of_ble_eq_true rfl) (by decide)) rfl ?_
  refine J_if_eqB (q := 8) (tgt := 27) X dX3_hasPart_5 (by decide) rfl (fun c5 => ?_) (fun c5 => ?_)
  · refine J_iconst (q := 28) X dX3_hasPart_27 rfl ?_
    refine J_zret X R dX3_hasPart_28 (nrw_z (by omega)) ?_
    exact ⟨by unfold bI; first | (rw [if_pos (by omega)]; done) | (rw [if_neg (by omega)]; done), rfl⟩
  · refine J_iload_n (q := 9) X dX3_hasPart_8 rfl rfl ?_
    refine J_iconst (q := 10) X dX3_hasPart_9 rfl ?_
    refine J_icmp_lt (q := 13) (tgt := 27) X dX3_hasPart_10 (by decide) rfl (by omega) (by omega) (fun c10 => ?_) (fun c10 => ?_)
    · refine J_iconst (q := 28) X dX3_hasPart_27 rfl ?_
      refine J_zret X R dX3_hasPart_28 (nrw_z (by omega)) ?_
      exact ⟨by unfold bI; first | (rw [if_pos (by omega)]; done) | (rw [if_neg (by omega)]; done), rfl⟩
    · refine J_iload_n (q := 14) X dX3_hasPart_13 rfl rfl ?_
      refine J_aload_n (q := 15) X dX3_hasPart_14 rfl rfl ?_
      refine J_get (q := 18) X dX3_hasPart_15 fX3_15 hR (by omega) rfl rfl ?_
      refine J_iload_n (q := 19) X dX3_hasPart_18 rfl rfl ?_
      refine J_isub (q := 20) X dX3_hasPart_19 rfl ?_
      refine J_icmp_gt (q := 23) (tgt := 27) X dX3_hasPart_20 (by decide) rfl (by omega) (by omega) (fun c20 => ?_) (fun c20 => ?_)
      · refine J_iconst (q := 28) X dX3_hasPart_27 rfl ?_
        refine J_zret X R dX3_hasPart_28 (nrw_z (by omega)) ?_
        exact ⟨by unfold bI; first | (rw [if_pos (by omega)]; done) | (rw [if_neg (by omega)]; done), rfl⟩
      · refine J_iconst (q := 24) X dX3_hasPart_23 rfl ?_
        refine J_goto (q := 28) X dX3_hasPart_24 (by decide) ?_
        refine J_zret X R dX3_hasPart_28 (nrw_z (by omega)) ?_
        exact ⟨by unfold bI; first | (rw [if_pos (by omega)]; done) | (rw [if_neg (by omega)]; done), rfl⟩

set_option maxRecDepth 100000 in
set_option maxHeartbeats 4000000 in
theorem c_X3_room {l : Launch} {Γ : JG} {ad : Nat → Nat} {E : Nat → va_E} {r c : Nat} {n : Int} {f : Int → Int}  (hR : E r = .inr (3, [.ref (ad c), .int (jI n)])) (hC : E c = aI Γ 60 f) (hr : r < 95 ∧ c < 95 ∧ r ≠ c) (hn : 0 ≤ n ∧ n ≤ 60) : JM l Γ yX3_room cX3_room 1 (some .int) 0 0 0 0 ad 95 E [.ref (ad r)] (pP (60 - n) E) := by
  refine JM_intro (own := RX3) [some (.ref (ad r))] rfl rfl rfl (Nat.le_of_ble_eq_true rfl) ?_
  intro Ω X R hin
  refine J_bipush (q := 2) X dX3_room_0 rfl (by decide) ?_
  refine J_aload_n (q := 3) X dX3_room_2 rfl rfl ?_
  refine J_get (q := 6) X dX3_room_3 fX3_15 hR (by omega) rfl rfl ?_
  refine J_isub (q := 7) X dX3_room_6 rfl ?_
  refine J_iret X R dX3_room_7 ?_
  exact ⟨rfl, rfl⟩

set_option maxRecDepth 100000 in
set_option maxHeartbeats 4000000 in
theorem c_X3_byteAt {l : Launch} {Γ : JG} {ad : Nat → Nat} {E : Nat → va_E} {r c : Nat} {n : Int} {f : Int → Int} {i : Int}  (hR : E r = .inr (3, [.ref (ad c), .int (jI n)])) (hC : E c = aI Γ 60 f) (hr : r < 95 ∧ c < 95 ∧ r ≠ c) (hn : 0 ≤ n ∧ n ≤ 60) (hi : 0 ≤ i ∧ i < 60) : JM l Γ yX3_byteAt cX3_byteAt 2 (some .int) 0 0 0 0 ad 95 E [.ref (ad r), .int (jI i)] (pP (f i % 128) E) := by
  refine JM_intro (own := RX3) [some (.ref (ad r)), some (.int (jI i))] rfl rfl rfl (Nat.le_of_ble_eq_true rfl) ?_
  intro Ω X R hin
  refine J_aload_n (q := 1) X dX3_byteAt_0 rfl rfl ?_
  refine J_get (q := 4) X dX3_byteAt_1 fX3_9 hR (by omega) rfl rfl ?_
  refine J_iload_n (q := 5) X dX3_byteAt_4 rfl rfl ?_
  refine J_iald (q := 6) X dX3_byteAt_5 hC (by omega) (by omega) (by decide) rfl ?_
  refine J_bipush (q := 8) X dX3_byteAt_6 rfl (by decide) ?_
  refine J_iand (q := 9) X dX3_byteAt_8 rfl (jI_and127 _) ?_
  refine J_iret X R dX3_byteAt_9 ?_
  exact ⟨rfl, rfl⟩

set_option maxRecDepth 100000 in
set_option maxHeartbeats 4000000 in
theorem c_X3_markedAt {l : Launch} {Γ : JG} {ad : Nat → Nat} {E : Nat → va_E} {r c : Nat} {n : Int} {f : Int → Int} {i : Int}  (hR : E r = .inr (3, [.ref (ad c), .int (jI n)])) (hC : E c = aI Γ 60 f) (hr : r < 95 ∧ c < 95 ∧ r ≠ c) (hn : 0 ≤ n ∧ n ≤ 60) (hi : 0 ≤ i ∧ i < 60) (hf : 0 ≤ f i ∧ f i < 256) : JM l Γ yX3_markedAt cX3_markedAt 2 (some .boolean) 0 0 0 0 ad 95 E [.ref (ad r), .int (jI i)] (pP (bI (128 ≤ f i)) E) := by
  refine JM_intro (own := RX3) [some (.ref (ad r)), some (.int (jI i))] rfl rfl rfl (Nat.le_of_ble_eq_true rfl) ?_
  intro Ω X R hin
  refine J_aload_n (q := 1) X dX3_markedAt_0 rfl rfl ?_
  refine J_get (q := 4) X dX3_markedAt_1 fX3_9 hR (by omega) rfl rfl ?_
  refine J_iload_n (q := 5) X dX3_markedAt_4 rfl rfl ?_
  refine J_iald (q := 6) X dX3_markedAt_5 hC (by omega) (by omega) (by decide) rfl ?_
  refine J_sipush (q := 9) X dX3_markedAt_6 rfl (by decide) ?_
  refine J_iand (q := 10) X dX3_markedAt_9 rfl (jI_and128 hf) ?_
  have hsp : (if 128 ≤ f i then (128 : Int) else 0) = 0 ∨ (if 128 ≤ f i then (128 : Int) else 0) = 128 := by split <;> simp
  refine J_if_eq (q := 13) (tgt := 17) X dX3_markedAt_10 (by decide) rfl (by omega) (fun c10 => ?_) (fun c10 => ?_)
  · refine J_iconst (q := 18) X dX3_markedAt_17 rfl ?_
    refine J_zret X R dX3_markedAt_18 (nrw_z (by omega)) ?_
    exact ⟨by unfold bI; split at c10 <;> first | (rw [if_pos (by omega)]; done) | (rw [if_neg (by omega)]; done) | omega, rfl⟩
  · refine J_iconst (q := 14) X dX3_markedAt_13 rfl ?_
    refine J_goto (q := 18) X dX3_markedAt_14 (by decide) ?_
    refine J_zret X R dX3_markedAt_18 (nrw_z (by omega)) ?_
    exact ⟨by unfold bI; split at c10 <;> first | (rw [if_pos (by omega)]; done) | (rw [if_neg (by omega)]; done) | omega, rfl⟩

set_option maxRecDepth 100000 in
set_option maxHeartbeats 4000000 in
theorem c_X3_setByte {l : Launch} {Γ : JG} {ad : Nat → Nat} {E : Nat → va_E} {r c : Nat} {n : Int} {f : Int → Int} {i v : Int}  (hR : E r = .inr (3, [.ref (ad c), .int (jI n)])) (hC : E c = aI Γ 60 f) (hr : r < 95 ∧ c < 95 ∧ r ≠ c) (hn : 0 ≤ n ∧ n ≤ 60) (hi : 0 ≤ i ∧ i < 60) : JM l Γ yX3_setByte cX3_setByte 3 none 0 0 0 0 ad 95 E [.ref (ad r), .int (jI i), .int (jI v)] (pV (fun E' => E' c = aI Γ 60 (iu f i v) ∧ ∀ j : Nat, j ≠ c → E' j = E j)) := by
  refine JM_intro (own := RX3) [some (.ref (ad r)), some (.int (jI i)), some (.int (jI v))] rfl rfl rfl (Nat.le_of_ble_eq_true rfl) ?_
  intro Ω X R hin
  obtain ⟨E0, hE0⟩ : ∃ E0 : Nat → va_E, E0 = E := ⟨_, rfl⟩
  have hF : ∀ j : Nat, j ≠ c → E j = E0 j := fun _ _ => by rw [hE0]
  refine J_aload_n (q := 1) X dX3_setByte_0 rfl rfl ?_
  refine J_get (q := 4) X dX3_setByte_1 fX3_9 hR (by omega) rfl rfl ?_
  refine J_iload_n (q := 5) X dX3_setByte_4 rfl rfl ?_
  refine J_iload_n (q := 6) X dX3_setByte_5 rfl rfl ?_
  refine J_iast (q := 7) X dX3_setByte_6 hC (by omega) (by omega) (by decide) rfl (fun E6 hk6 hs6 => ?_)
  replace hC := hk6
  replace hR := (hs6 r (by omega)).trans hR
  replace hF : ∀ j : Nat, j ≠ c → E6 j = E0 j := fun j hj => (hs6 j (by omega)).trans (hF j hj)
  refine J_vret X R dX3_setByte_7 ?_
  rw [hE0] at hF
  exact ⟨rfl, hC, hF⟩

set_option maxRecDepth 100000 in
set_option maxHeartbeats 4000000 in
theorem c_X3_setMark {l : Launch} {Γ : JG} {ad : Nat → Nat} {E : Nat → va_E} {r c : Nat} {n : Int} {f : Int → Int} {i x : Int}  (hR : E r = .inr (3, [.ref (ad c), .int (jI n)])) (hC : E c = aI Γ 60 f) (hr : r < 95 ∧ c < 95 ∧ r ≠ c) (hn : 0 ≤ n ∧ n ≤ 60) (hi : 0 ≤ i ∧ i < 60) (hx : x = 0 ∨ x = 1) : JM l Γ yX3_setMark cX3_setMark 3 none 1 21 0 0 ad 95 E [.ref (ad r), .int (jI i), .int (jI x)] (pV (fun E' => E' c = aI Γ 60 (iu f i (f i % 128 + 128 * x)) ∧ ∀ j : Nat, j ≠ c → E' j = E j)) := by
  refine JM_intro (own := RX3) [some (.ref (ad r)), some (.int (jI i)), some (.int (jI x))] rfl rfl rfl (Nat.le_of_ble_eq_true rfl) ?_
  intro Ω X R hin
  obtain ⟨E0, hE0⟩ : ∃ E0 : Nat → va_E, E0 = E := ⟨_, rfl⟩
  have hF : ∀ j : Nat, j ≠ c → E j = E0 j := fun _ _ => by rw [hE0]
  refine J_aload_n (q := 1) X dX3_setMark_0 rfl rfl ?_
  refine J_get (q := 4) X dX3_setMark_1 fX3_9 hR (by omega) rfl rfl ?_
  refine J_iload_n (q := 5) X dX3_setMark_4 rfl rfl ?_
  refine J_iload_n (q := 6) X dX3_setMark_5 rfl rfl ?_
  refine J_if_eq (q := 9) (tgt := 21) X dX3_setMark_6 (by decide) rfl (by omega) (fun c6 => ?_) (fun c6 => ?_)
  · refine J_aload_n (q := 22) X dX3_setMark_21 rfl rfl ?_
    refine J_iload_n (q := 23) X dX3_setMark_22 rfl rfl ?_
    refine J_callP (q := 26) (jrV X mX3_23 dX3_setMark_23 (c_X3_byteAt hR hC (by omega) (by omega) (by omega)) hR (by omega) rfl rfl rfl rfl (Nat.le_of_ble_eq_true rfl) (by decide)) rfl ?_
    refine J_iast (q := 27) X dX3_setMark_26 hC (by omega) (by omega) (by decide) rfl (fun E26 hk26 hs26 => ?_)
    replace hC := hk26
    replace hR := (hs26 r (by omega)).trans hR
    replace hF : ∀ j : Nat, j ≠ c → E26 j = E0 j := fun j hj => (hs26 j (by omega)).trans (hF j hj)
    refine J_vret X R dX3_setMark_27 ?_
    rw [hE0] at hF
    refine ⟨rfl, ?_, hF⟩
    first | (rw [show f i % 128 + 128 * x = f i % 128 by omega]; exact hC) | (rw [show f i % 128 + 128 * x = f i % 128 + 128 by omega]; exact hC)
  · refine J_aload_n (q := 10) X dX3_setMark_9 rfl rfl ?_
    refine J_iload_n (q := 11) X dX3_setMark_10 rfl rfl ?_
    refine J_callP (q := 14) (jrV X mX3_23 dX3_setMark_11 (c_X3_byteAt hR hC (by omega) (by omega) (by omega)) hR (by omega) rfl rfl rfl rfl (Nat.le_of_ble_eq_true rfl) (by decide)) rfl ?_
    refine J_sipush (q := 17) X dX3_setMark_14 rfl (by decide) ?_
    refine J_ior (q := 18) X dX3_setMark_17 rfl (jI_or128 (by omega)) ?_
    refine J_goto (q := 26) X dX3_setMark_18 (by decide) ?_
    refine J_iast (q := 27) X dX3_setMark_26 hC (by omega) (by omega) (by decide) rfl (fun E26 hk26 hs26 => ?_)
    replace hC := hk26
    replace hR := (hs26 r (by omega)).trans hR
    replace hF : ∀ j : Nat, j ≠ c → E26 j = E0 j := fun j hj => (hs26 j (by omega)).trans (hF j hj)
    refine J_vret X R dX3_setMark_27 ?_
    rw [hE0] at hF
    refine ⟨rfl, ?_, hF⟩
    first | (rw [show f i % 128 + 128 * x = f i % 128 by omega]; exact hC) | (rw [show f i % 128 + 128 * x = f i % 128 + 128 by omega]; exact hC)

set_option maxRecDepth 100000 in
set_option maxHeartbeats 4000000 in
theorem c_X3_become {l : Launch} {Γ : JG} {ad : Nat → Nat} {E : Nat → va_E} {r c : Nat} {n : Int} {f : Int → Int} {r2 c2 : Nat} {n2 : Int} {f2 : Int → Int} (hR : E r = .inr (3, [.ref (ad c), .int (jI n)])) (hC : E c = aI Γ 60 f) (hS : E r2 = .inr (3, [.ref (ad c2), .int (jI n2)])) (hD : E c2 = aI Γ 60 f2) (hr : r < 95 ∧ c < 95 ∧ r ≠ c ∧ r2 < 95 ∧ c2 < 95 ∧ r2 ≠ r ∧ c2 ≠ c ∧ r ≠ c2 ∧ c ≠ r2) (hn2 : 0 ≤ n2 ∧ n2 ≤ 60) : JM l Γ yX3_become cX3_become 2 none 1 48 0 0 ad 95 E [.ref (ad r), .ref (ad r2)] (pV (fun E' => E' r = .inr (3, [.ref (ad c), .int (jI (n2))]) ∧ E' c = aI Γ 60 (icp f2 f 0 0 n2) ∧ ∀ j : Nat, j ≠ r ∧ j ≠ c → E' j = E j)) := by
  refine JM_intro (own := RX3) [some (.ref (ad r)), some (.ref (ad r2))] rfl rfl rfl (Nat.le_of_ble_eq_true rfl) ?_
  intro Ω X R hin
  obtain ⟨E0, hE0⟩ : ∃ E0 : Nat → va_E, E0 = E := ⟨_, rfl⟩
  have hF : ∀ j : Nat, j ≠ r ∧ j ≠ c → E j = E0 j := fun _ _ => by rw [hE0]
  refine J_aload_n (q := 1) X dX3_become_0 rfl rfl ?_
  refine J_aload_n (q := 2) X dX3_become_1 rfl rfl ?_
  refine J_get (q := 5) X dX3_become_2 fX3_15 hS (by omega) rfl rfl ?_
  refine J_put (q := 8) (ty := .int) X dX3_become_5 fX3_15 rfl (by decide +kernel) rfl rfl hR (by omega) (Nat.le_of_ble_eq_true rfl) rfl (fun E5 hk5 hs5 => ?_)
  replace hR : E5 r = .inr (3, [.ref (ad c), .int (jI _)]) := hk5
  replace hC := (hs5 c (by omega)).trans hC
  replace hS := (hs5 r2 (by omega)).trans hS
  replace hD := (hs5 c2 (by omega)).trans hD
  replace hF : ∀ j : Nat, j ≠ r ∧ j ≠ c → E5 j = E0 j := fun j hj => (hs5 j (by omega)).trans (hF j hj)
  refine J_aload_n (q := 9) X dX3_become_8 rfl rfl ?_
  refine J_get (q := 12) X dX3_become_9 fX3_9 hS (by omega) rfl rfl ?_
  refine J_iconst (q := 13) X dX3_become_12 rfl ?_
  refine J_aload_n (q := 14) X dX3_become_13 rfl rfl ?_
  refine J_get (q := 17) X dX3_become_14 fX3_9 hR (by omega) rfl rfl ?_
  refine J_iconst (q := 18) X dX3_become_17 rfl ?_
  refine J_aload_n (q := 19) X dX3_become_18 rfl rfl ?_
  refine J_get (q := 22) X dX3_become_19 fX3_15 hR (by omega) rfl rfl ?_
  refine J_copy (q := 25) X dX3_become_22 mX3_27 wCopy hD (by omega) hC (by omega) (by omega) (by omega) (by omega) (by decide) (by decide) (Nat.le_of_ble_eq_true rfl) rfl (fun E22 hk22 hs22 => ?_)
  replace hC := hk22
  replace hR := (hs22 r (by omega)).trans hR
  replace hS := (hs22 r2 (by omega)).trans hS
  replace hD := (hs22 c2 (by omega)).trans hD
  replace hF : ∀ j : Nat, j ≠ r ∧ j ≠ c → E22 j = E0 j := fun j hj => (hs22 j (by omega)).trans (hF j hj)
  refine J_vret X R dX3_become_25 ?_
  rw [hE0] at hF
  exact ⟨rfl, hR, hC, hF⟩

set_option maxRecDepth 100000 in
set_option maxHeartbeats 4000000 in
theorem c_X3_clear {l : Launch} {Γ : JG} {ad : Nat → Nat} {E : Nat → va_E} {r c : Nat} {n : Int} {f : Int → Int}  (hR : E r = .inr (3, [.ref (ad c), .int (jI n)])) (hC : E c = aI Γ 60 f) (hr : r < 95 ∧ c < 95 ∧ r ≠ c) (hn : 0 ≤ n ∧ n ≤ 60) : JM l Γ yX3_clear cX3_clear 1 none 0 0 0 0 ad 95 E [.ref (ad r)] (pV (fun E' => E' r = .inr (3, [.ref (ad c), .int (jI 0)]) ∧ ∀ j : Nat, j ≠ r → E' j = E j)) := by
  refine JM_intro (own := RX3) [some (.ref (ad r))] rfl rfl rfl (Nat.le_of_ble_eq_true rfl) ?_
  intro Ω X R hin
  obtain ⟨E0, hE0⟩ : ∃ E0 : Nat → va_E, E0 = E := ⟨_, rfl⟩
  have hF : ∀ j : Nat, j ≠ r → E j = E0 j := fun _ _ => by rw [hE0]
  refine J_aload_n (q := 1) X dX3_clear_0 rfl rfl ?_
  refine J_iconst (q := 2) X dX3_clear_1 rfl ?_
  refine J_put (q := 5) (ty := .int) X dX3_clear_2 fX3_15 rfl (by decide +kernel) rfl rfl hR (by omega) (Nat.le_of_ble_eq_true rfl) rfl (fun E2 hk2 hs2 => ?_)
  replace hR : E2 r = .inr (3, [.ref (ad c), .int (jI _)]) := hk2
  replace hC := (hs2 c (by omega)).trans hC
  replace hF : ∀ j : Nat, j ≠ r → E2 j = E0 j := fun j hj => (hs2 j (by omega)).trans (hF j hj)
  refine J_vret X R dX3_clear_5 ?_
  rw [hE0] at hF
  exact ⟨rfl, hR, hF⟩

set_option maxRecDepth 100000 in
set_option maxHeartbeats 4000000 in
theorem c_X3_openGap {l : Launch} {Γ : JG} {ad : Nat → Nat} {E : Nat → va_E} {r c : Nat} {n : Int} {f : Int → Int} {p m : Int}  (hR : E r = .inr (3, [.ref (ad c), .int (jI n)])) (hC : E c = aI Γ 60 f) (hr : r < 95 ∧ c < 95 ∧ r ≠ c) (hn : 0 ≤ n ∧ n ≤ 60) (hp : 0 ≤ p ∧ p ≤ n ∧ 0 ≤ m ∧ n + m ≤ 60) : JM l Γ yX3_openGap cX3_openGap 3 none 1 48 0 0 ad 95 E [.ref (ad r), .int (jI p), .int (jI m)] (pV (fun E' => E' r = .inr (3, [.ref (ad c), .int (jI (n + m))]) ∧ E' c = aI Γ 60 (icp f f p (p + m) (n - p)) ∧ ∀ j : Nat, j ≠ r ∧ j ≠ c → E' j = E j)) := by
  refine JM_intro (own := RX3) [some (.ref (ad r)), some (.int (jI p)), some (.int (jI m))] rfl rfl rfl (Nat.le_of_ble_eq_true rfl) ?_
  intro Ω X R hin
  obtain ⟨E0, hE0⟩ : ∃ E0 : Nat → va_E, E0 = E := ⟨_, rfl⟩
  have hF : ∀ j : Nat, j ≠ r ∧ j ≠ c → E j = E0 j := fun _ _ => by rw [hE0]
  refine J_aload_n (q := 1) X dX3_openGap_0 rfl rfl ?_
  refine J_get (q := 4) X dX3_openGap_1 fX3_9 hR (by omega) rfl rfl ?_
  refine J_iload_n (q := 5) X dX3_openGap_4 rfl rfl ?_
  refine J_aload_n (q := 6) X dX3_openGap_5 rfl rfl ?_
  refine J_get (q := 9) X dX3_openGap_6 fX3_9 hR (by omega) rfl rfl ?_
  refine J_iload_n (q := 10) X dX3_openGap_9 rfl rfl ?_
  refine J_iload_n (q := 11) X dX3_openGap_10 rfl rfl ?_
  refine J_iadd (q := 12) X dX3_openGap_11 rfl ?_
  refine J_aload_n (q := 13) X dX3_openGap_12 rfl rfl ?_
  refine J_get (q := 16) X dX3_openGap_13 fX3_15 hR (by omega) rfl rfl ?_
  refine J_iload_n (q := 17) X dX3_openGap_16 rfl rfl ?_
  refine J_isub (q := 18) X dX3_openGap_17 rfl ?_
  refine J_copy (q := 21) X dX3_openGap_18 mX3_27 wCopy hC (by omega) hC (by omega) (by omega) (by omega) (by omega) (by decide) (by decide) (Nat.le_of_ble_eq_true rfl) rfl (fun E18 hk18 hs18 => ?_)
  replace hC := hk18
  replace hR := (hs18 r (by omega)).trans hR
  replace hF : ∀ j : Nat, j ≠ r ∧ j ≠ c → E18 j = E0 j := fun j hj => (hs18 j (by omega)).trans (hF j hj)
  refine J_aload_n (q := 22) X dX3_openGap_21 rfl rfl ?_
  refine J_dup (q := 23) X dX3_openGap_22 rfl rfl ?_
  refine J_get (q := 26) X dX3_openGap_23 fX3_15 hR (by omega) rfl rfl ?_
  refine J_iload_n (q := 27) X dX3_openGap_26 rfl rfl ?_
  refine J_iadd (q := 28) X dX3_openGap_27 rfl ?_
  refine J_put (q := 31) (ty := .int) X dX3_openGap_28 fX3_15 rfl (by decide +kernel) rfl rfl hR (by omega) (Nat.le_of_ble_eq_true rfl) rfl (fun E28 hk28 hs28 => ?_)
  replace hR : E28 r = .inr (3, [.ref (ad c), .int (jI _)]) := hk28
  replace hC := (hs28 c (by omega)).trans hC
  replace hF : ∀ j : Nat, j ≠ r ∧ j ≠ c → E28 j = E0 j := fun j hj => (hs28 j (by omega)).trans (hF j hj)
  refine J_vret X R dX3_openGap_31 ?_
  rw [hE0] at hF
  exact ⟨rfl, hR, hC, hF⟩

set_option maxRecDepth 100000 in
set_option maxHeartbeats 4000000 in
theorem c_X3_bringIn {l : Launch} {Γ : JG} {ad : Nat → Nat} {E : Nat → va_E} {r c : Nat} {n : Int} {f : Int → Int} {p v : Int}  (hR : E r = .inr (3, [.ref (ad c), .int (jI n)])) (hC : E c = aI Γ 60 f) (hr : r < 95 ∧ c < 95 ∧ r ≠ c) (hn : 0 ≤ n ∧ n ≤ 60) (hp : 0 ≤ p ∧ p ≤ n ∧ n < 60) : JM l Γ yX3_bringIn cX3_bringIn 3 none 2 70 0 0 ad 95 E [.ref (ad r), .int (jI p), .int (jI v)] (pV (fun E' => E' r = .inr (3, [.ref (ad c), .int (jI (n + 1))]) ∧ E' c = aI Γ 60 (iu (icp f f p (p + 1) (n - p)) p v) ∧ ∀ j : Nat, j ≠ r ∧ j ≠ c → E' j = E j)) := by
  refine JM_intro (own := RX3) [some (.ref (ad r)), some (.int (jI p)), some (.int (jI v))] rfl rfl rfl (Nat.le_of_ble_eq_true rfl) ?_
  intro Ω X R hin
  obtain ⟨E0, hE0⟩ : ∃ E0 : Nat → va_E, E0 = E := ⟨_, rfl⟩
  have hF : ∀ j : Nat, j ≠ r ∧ j ≠ c → E j = E0 j := fun _ _ => by rw [hE0]
  refine J_aload_n (q := 1) X dX3_bringIn_0 rfl rfl ?_
  refine J_iload_n (q := 2) X dX3_bringIn_1 rfl rfl ?_
  refine J_iconst (q := 3) X dX3_bringIn_2 rfl ?_
  refine J_callV (q := 6) (jrV X mX3_33 dX3_bringIn_3 (c_X3_openGap hR hC (by omega) (by omega) (by omega)) hR (by omega) rfl rfl rfl rfl (Nat.le_of_ble_eq_true rfl) (by decide)) rfl (fun E3 hp3 => ?_)
  obtain ⟨kR, kC, hs3⟩ := hp3
  replace hR := kR
  replace hC := kC
  replace hF : ∀ j : Nat, j ≠ r ∧ j ≠ c → E3 j = E0 j := fun j hj => (hs3 j (by omega)).trans (hF j hj)
  refine J_aload_n (q := 7) X dX3_bringIn_6 rfl rfl ?_
  refine J_get (q := 10) X dX3_bringIn_7 fX3_9 hR (by omega) rfl rfl ?_
  refine J_iload_n (q := 11) X dX3_bringIn_10 rfl rfl ?_
  refine J_iload_n (q := 12) X dX3_bringIn_11 rfl rfl ?_
  refine J_iast (q := 13) X dX3_bringIn_12 hC (by omega) (by omega) (by decide) rfl (fun E12 hk12 hs12 => ?_)
  replace hC := hk12
  replace hR := (hs12 r (by omega)).trans hR
  replace hF : ∀ j : Nat, j ≠ r ∧ j ≠ c → E12 j = E0 j := fun j hj => (hs12 j (by omega)).trans (hF j hj)
  refine J_vret X R dX3_bringIn_13 ?_
  rw [hE0] at hF
  exact ⟨rfl, hR, hC, hF⟩

set_option maxRecDepth 100000 in
set_option maxHeartbeats 4000000 in
theorem c_X3_takeOut {l : Launch} {Γ : JG} {ad : Nat → Nat} {E : Nat → va_E} {r c : Nat} {n : Int} {f : Int → Int} {a m : Int}  (hR : E r = .inr (3, [.ref (ad c), .int (jI n)])) (hC : E c = aI Γ 60 f) (hr : r < 95 ∧ c < 95 ∧ r ≠ c) (hn : 0 ≤ n ∧ n ≤ 60) (ha : 0 ≤ a ∧ 0 ≤ m ∧ a + m ≤ n) : JM l Γ yX3_takeOut cX3_takeOut 3 none 1 48 0 0 ad 95 E [.ref (ad r), .int (jI a), .int (jI m)] (pV (fun E' => E' r = .inr (3, [.ref (ad c), .int (jI (n - m))]) ∧ E' c = aI Γ 60 (icp f f (a + m) a (n - a - m)) ∧ ∀ j : Nat, j ≠ r ∧ j ≠ c → E' j = E j)) := by
  refine JM_intro (own := RX3) [some (.ref (ad r)), some (.int (jI a)), some (.int (jI m))] rfl rfl rfl (Nat.le_of_ble_eq_true rfl) ?_
  intro Ω X R hin
  obtain ⟨E0, hE0⟩ : ∃ E0 : Nat → va_E, E0 = E := ⟨_, rfl⟩
  have hF : ∀ j : Nat, j ≠ r ∧ j ≠ c → E j = E0 j := fun _ _ => by rw [hE0]
  refine J_aload_n (q := 1) X dX3_takeOut_0 rfl rfl ?_
  refine J_get (q := 4) X dX3_takeOut_1 fX3_9 hR (by omega) rfl rfl ?_
  refine J_iload_n (q := 5) X dX3_takeOut_4 rfl rfl ?_
  refine J_iload_n (q := 6) X dX3_takeOut_5 rfl rfl ?_
  refine J_iadd (q := 7) X dX3_takeOut_6 rfl ?_
  refine J_aload_n (q := 8) X dX3_takeOut_7 rfl rfl ?_
  refine J_get (q := 11) X dX3_takeOut_8 fX3_9 hR (by omega) rfl rfl ?_
  refine J_iload_n (q := 12) X dX3_takeOut_11 rfl rfl ?_
  refine J_aload_n (q := 13) X dX3_takeOut_12 rfl rfl ?_
  refine J_get (q := 16) X dX3_takeOut_13 fX3_15 hR (by omega) rfl rfl ?_
  refine J_iload_n (q := 17) X dX3_takeOut_16 rfl rfl ?_
  refine J_isub (q := 18) X dX3_takeOut_17 rfl ?_
  refine J_iload_n (q := 19) X dX3_takeOut_18 rfl rfl ?_
  refine J_isub (q := 20) X dX3_takeOut_19 rfl ?_
  refine J_copy (q := 23) X dX3_takeOut_20 mX3_27 wCopy hC (by omega) hC (by omega) (by omega) (by omega) (by omega) (by decide) (by decide) (Nat.le_of_ble_eq_true rfl) rfl (fun E20 hk20 hs20 => ?_)
  replace hC := hk20
  replace hR := (hs20 r (by omega)).trans hR
  replace hF : ∀ j : Nat, j ≠ r ∧ j ≠ c → E20 j = E0 j := fun j hj => (hs20 j (by omega)).trans (hF j hj)
  refine J_aload_n (q := 24) X dX3_takeOut_23 rfl rfl ?_
  refine J_dup (q := 25) X dX3_takeOut_24 rfl rfl ?_
  refine J_get (q := 28) X dX3_takeOut_25 fX3_15 hR (by omega) rfl rfl ?_
  refine J_iload_n (q := 29) X dX3_takeOut_28 rfl rfl ?_
  refine J_isub (q := 30) X dX3_takeOut_29 rfl ?_
  refine J_put (q := 33) (ty := .int) X dX3_takeOut_30 fX3_15 rfl (by decide +kernel) rfl rfl hR (by omega) (Nat.le_of_ble_eq_true rfl) rfl (fun E30 hk30 hs30 => ?_)
  replace hR : E30 r = .inr (3, [.ref (ad c), .int (jI _)]) := hk30
  replace hC := (hs30 c (by omega)).trans hC
  replace hF : ∀ j : Nat, j ≠ r ∧ j ≠ c → E30 j = E0 j := fun j hj => (hs30 j (by omega)).trans (hF j hj)
  refine J_vret X R dX3_takeOut_33 ?_
  rw [hE0] at hF
  exact ⟨rfl, hR, hC, hF⟩

set_option maxRecDepth 100000 in
set_option maxHeartbeats 4000000 in
theorem c_X3_reverse {l : Launch} {Γ : JG} {ad : Nat → Nat} {E : Nat → va_E} {r c : Nat} {n : Int} {f : Int → Int} {a b : Int}  (hR : E r = .inr (3, [.ref (ad c), .int (jI n)])) (hC : E c = aI Γ 60 f) (hr : r < 95 ∧ c < 95 ∧ r ≠ c) (hn : 0 ≤ n ∧ n ≤ 60) (ha : 0 ≤ a ∧ a ≤ b ∧ b ≤ 60) : JM l Γ yX3_reverse cX3_reverse 6 none 0 0 0 0 ad 95 E [.ref (ad r), .int (jI a), .int (jI b)] (pV (fun E' => E' c = aI Γ 60 (rv f a b) ∧ ∀ j : Nat, j ≠ c → E' j = E j)) := by
  refine JM_intro (own := RX3) [some (.ref (ad r)), some (.int (jI a)), some (.int (jI b)), none, none, none] rfl rfl rfl (Nat.le_of_ble_eq_true rfl) ?_
  intro Ω X R hin
  obtain ⟨E0, hE0⟩ : ∃ E0 : Nat → va_E, E0 = E := ⟨_, rfl⟩
  have hF : ∀ j : Nat, j ≠ c → E j = E0 j := fun _ _ => by rw [hE0]
  refine J_iload_n (q := 1) X dX3_reverse_0 rfl rfl ?_
  refine J_iconst (q := 2) X dX3_reverse_1 rfl ?_
  refine J_isub (q := 3) X dX3_reverse_2 rfl ?_
  refine J_istore_n (q := 4) X dX3_reverse_3 (by decide) rfl rfl ?_
  refine J_iload_n (q := 5) X dX3_reverse_4 rfl rfl ?_
  refine J_istore (q := 7) X dX3_reverse_5 (by decide) rfl rfl ?_
  have lp7 : ∀ (m : Nat) (i jj : Int) (g : Int → Int) (E : Nat → va_E) (hi : a ≤ i ∧ i + jj = a + b - 1 ∧ i ≤ jj + 1) (hg : ∀ t : Int, g t = if (a ≤ t ∧ t < i) ∨ (jj < t ∧ t < b) then f (a + b - 1 - t) else f t) (hR : E r = .inr (3, [.ref (ad c), .int (jI n)])) (hC : E c = aI Γ 60 g) (hF : ∀ j : Nat, j ≠ c → E j = E0 j) (hm : jj - i + 2 ≤ (m : Int)), J l Γ Ω 6 ad 95 0 0 E 7 [some (.ref (ad r)), some (.int (jI a)), some (.int (jI b)), some (.int (jI jj)), some (.int (jI i)), none] [] := by
    intro m
    induction m with
    | zero => intro i jj g E hi hg hR hC hF hm; exfalso; omega
    | succ m ih7 =>
      intro i jj g E hi hg hR hC hF hm
      refine J_iload (q := 9) X dX3_reverse_7 rfl rfl ?_
      refine J_iload_n (q := 10) X dX3_reverse_9 rfl rfl ?_
      refine J_icmp_ge (q := 13) (tgt := 52) X dX3_reverse_10 (by decide) rfl (by omega) (by omega) (fun c10 => ?_) (fun c10 => ?_)
      · refine J_vret X R dX3_reverse_52 ?_
        rw [hE0] at hF
        have hge : g = rv f a b := by
          funext t
          rw [hg t]
          simp only [rv]
          repeat' split
          all_goals first | rfl | (exfalso; omega) | (congr 1; omega)
        rw [hge] at hC
        exact ⟨rfl, hC, hF⟩
      · refine J_aload_n (q := 14) X dX3_reverse_13 rfl rfl ?_
        refine J_get (q := 17) X dX3_reverse_14 fX3_9 hR (by omega) rfl rfl ?_
        refine J_iload (q := 19) X dX3_reverse_17 rfl rfl ?_
        refine J_iald (q := 20) X dX3_reverse_19 hC (by omega) (by omega) (by decide) rfl ?_
        refine J_istore (q := 22) X dX3_reverse_20 (by decide) rfl rfl ?_
        refine J_aload_n (q := 23) X dX3_reverse_22 rfl rfl ?_
        refine J_get (q := 26) X dX3_reverse_23 fX3_9 hR (by omega) rfl rfl ?_
        refine J_iload (q := 28) X dX3_reverse_26 rfl rfl ?_
        refine J_aload_n (q := 29) X dX3_reverse_28 rfl rfl ?_
        refine J_get (q := 32) X dX3_reverse_29 fX3_9 hR (by omega) rfl rfl ?_
        refine J_iload_n (q := 33) X dX3_reverse_32 rfl rfl ?_
        refine J_iald (q := 34) X dX3_reverse_33 hC (by omega) (by omega) (by decide) rfl ?_
        refine J_iast (q := 35) X dX3_reverse_34 hC (by omega) (by omega) (by decide) rfl (fun E34 hk34 hs34 => ?_)
        replace hC := hk34
        replace hR := (hs34 r (by omega)).trans hR
        replace hF : ∀ j : Nat, j ≠ c → E34 j = E0 j := fun j hj => (hs34 j (by omega)).trans (hF j hj)
        refine J_aload_n (q := 36) X dX3_reverse_35 rfl rfl ?_
        refine J_get (q := 39) X dX3_reverse_36 fX3_9 hR (by omega) rfl rfl ?_
        refine J_iload_n (q := 40) X dX3_reverse_39 rfl rfl ?_
        refine J_iload (q := 42) X dX3_reverse_40 rfl rfl ?_
        refine J_iast (q := 43) X dX3_reverse_42 hC (by omega) (by omega) (by decide) rfl (fun E42 hk42 hs42 => ?_)
        replace hC := hk42
        replace hR := (hs42 r (by omega)).trans hR
        replace hF : ∀ j : Nat, j ≠ c → E42 j = E0 j := fun j hj => (hs42 j (by omega)).trans (hF j hj)
        refine J_iinc (q := 46) X dX3_reverse_43 rfl (by decide) rfl rfl ?_
        refine J_iinc (q := 49) X dX3_reverse_46 rfl (by decide) rfl rfl ?_
        refine J_goto (q := 7) X dX3_reverse_49 (by decide) ?_
        refine J_kill 5 ?_
        refine ih7 _ _ _ _ (by omega) (fun t => ?_) hR hC hF (by omega)
        have hgi : g i = f i := by rw [hg i, if_neg (by omega)]
        have hgj : g jj = f jj := by rw [hg jj, if_neg (by omega)]
        simp only [iu, hgi, hgj, hg t]
        repeat' split
        all_goals first | rfl | (exfalso; omega) | (congr 1; omega)
  exact lp7 100 _ _ f E (by omega) (fun t => by rw [if_neg (by omega)]) hR hC hF (by omega)

set_option maxRecDepth 100000 in
set_option maxHeartbeats 4000000 in
theorem c_X3_swapParts {l : Launch} {Γ : JG} {ad : Nat → Nat} {E : Nat → va_E} {r c : Nat} {n : Int} {f : Int → Int} {a m b : Int}  (hR : E r = .inr (3, [.ref (ad c), .int (jI n)])) (hC : E c = aI Γ 60 f) (hr : r < 95 ∧ c < 95 ∧ r ≠ c) (hn : 0 ≤ n ∧ n ≤ 60) (ha : 0 ≤ a ∧ a ≤ m ∧ m ≤ b ∧ b ≤ 60) : JM l Γ yX3_swapParts cX3_swapParts 4 none 1 25 0 0 ad 95 E [.ref (ad r), .int (jI a), .int (jI m), .int (jI b)] (pV (fun E' => E' c = aI Γ 60 (sw f a m b) ∧ ∀ j : Nat, j ≠ c → E' j = E j)) := by
  refine JM_intro (own := RX3) [some (.ref (ad r)), some (.int (jI a)), some (.int (jI m)), some (.int (jI b))] rfl rfl rfl (Nat.le_of_ble_eq_true rfl) ?_
  intro Ω X R hin
  obtain ⟨E0, hE0⟩ : ∃ E0 : Nat → va_E, E0 = E := ⟨_, rfl⟩
  have hF : ∀ j : Nat, j ≠ c → E j = E0 j := fun _ _ => by rw [hE0]
  refine J_aload_n (q := 1) X dX3_swapParts_0 rfl rfl ?_
  refine J_iload_n (q := 2) X dX3_swapParts_1 rfl rfl ?_
  refine J_iload_n (q := 3) X dX3_swapParts_2 rfl rfl ?_
  refine J_callV (q := 6) (jrV X mX3_41 dX3_swapParts_3 (c_X3_reverse hR hC (by omega) (by omega) (by omega)) hR (by omega) rfl rfl rfl rfl (Nat.le_of_ble_eq_true rfl) (by decide)) rfl (fun E3 hp3 => ?_)
  obtain ⟨kC, hs3⟩ := hp3
  replace hC := kC
  replace hR := (hs3 r (by omega)).trans hR
  replace hF : ∀ j : Nat, j ≠ c → E3 j = E0 j := fun j hj => (hs3 j (by omega)).trans (hF j hj)
  refine J_aload_n (q := 7) X dX3_swapParts_6 rfl rfl ?_
  refine J_iload_n (q := 8) X dX3_swapParts_7 rfl rfl ?_
  refine J_iload_n (q := 9) X dX3_swapParts_8 rfl rfl ?_
  refine J_callV (q := 12) (jrV X mX3_41 dX3_swapParts_9 (c_X3_reverse hR hC (by omega) (by omega) (by omega)) hR (by omega) rfl rfl rfl rfl (Nat.le_of_ble_eq_true rfl) (by decide)) rfl (fun E9 hp9 => ?_)
  obtain ⟨kC, hs9⟩ := hp9
  replace hC := kC
  replace hR := (hs9 r (by omega)).trans hR
  replace hF : ∀ j : Nat, j ≠ c → E9 j = E0 j := fun j hj => (hs9 j (by omega)).trans (hF j hj)
  refine J_aload_n (q := 13) X dX3_swapParts_12 rfl rfl ?_
  refine J_iload_n (q := 14) X dX3_swapParts_13 rfl rfl ?_
  refine J_iload_n (q := 15) X dX3_swapParts_14 rfl rfl ?_
  refine J_callV (q := 18) (jrV X mX3_41 dX3_swapParts_15 (c_X3_reverse hR hC (by omega) (by omega) (by omega)) hR (by omega) rfl rfl rfl rfl (Nat.le_of_ble_eq_true rfl) (by decide)) rfl (fun E15 hp15 => ?_)
  obtain ⟨kC, hs15⟩ := hp15
  replace hC := kC
  replace hR := (hs15 r (by omega)).trans hR
  replace hF : ∀ j : Nat, j ≠ c → E15 j = E0 j := fun j hj => (hs15 j (by omega)).trans (hF j hj)
  refine J_vret X R dX3_swapParts_18 ?_
  rw [hE0] at hF
  rw [rv3 f (by omega)] at hC
  exact ⟨rfl, hC, hF⟩

set_option maxRecDepth 100000 in
set_option maxHeartbeats 4000000 in
theorem c_X3_shift {l : Launch} {Γ : JG} {ad : Nat → Nat} {E : Nat → va_E} {r c : Nat} {n : Int} {f : Int → Int} {a m p : Int}  (hR : E r = .inr (3, [.ref (ad c), .int (jI n)])) (hC : E c = aI Γ 60 f) (hr : r < 95 ∧ c < 95 ∧ r ≠ c) (hn : 0 ≤ n ∧ n ≤ 60) (ha : 0 ≤ a ∧ 1 ≤ m ∧ a + m ≤ n ∧ 0 ≤ p ∧ p ≤ n ∧ (p ≤ a ∨ a + m ≤ p)) : JM l Γ yX3_shift cX3_shift 4 none 2 48 0 0 ad 95 E [.ref (ad r), .int (jI a), .int (jI m), .int (jI p)] (pV (fun E' => E' c = aI Γ 60 (if p ≤ a then sw f p a (a + m) else sw f a (a + m) p) ∧ ∀ j : Nat, j ≠ c → E' j = E j)) := by
  refine JM_intro (own := RX3) [some (.ref (ad r)), some (.int (jI a)), some (.int (jI m)), some (.int (jI p))] rfl rfl rfl (Nat.le_of_ble_eq_true rfl) ?_
  intro Ω X R hin
  obtain ⟨E0, hE0⟩ : ∃ E0 : Nat → va_E, E0 = E := ⟨_, rfl⟩
  have hF : ∀ j : Nat, j ≠ c → E j = E0 j := fun _ _ => by rw [hE0]
  refine J_iload_n (q := 1) X dX3_shift_0 rfl rfl ?_
  refine J_iload_n (q := 2) X dX3_shift_1 rfl rfl ?_
  refine J_icmp_gt (q := 5) (tgt := 17) X dX3_shift_2 (by decide) rfl (by omega) (by omega) (fun c2 => ?_) (fun c2 => ?_)
  · refine J_aload_n (q := 18) X dX3_shift_17 rfl rfl ?_
    refine J_iload_n (q := 19) X dX3_shift_18 rfl rfl ?_
    refine J_iload_n (q := 20) X dX3_shift_19 rfl rfl ?_
    refine J_iload_n (q := 21) X dX3_shift_20 rfl rfl ?_
    refine J_iadd (q := 22) X dX3_shift_21 rfl ?_
    refine J_iload_n (q := 23) X dX3_shift_22 rfl rfl ?_
    refine J_callV (q := 26) (jrV X mX3_37 dX3_shift_23 (c_X3_swapParts hR hC (by omega) (by omega) (by omega)) hR (by omega) rfl rfl rfl rfl (Nat.le_of_ble_eq_true rfl) (by decide)) rfl (fun E23 hp23 => ?_)
    obtain ⟨kC, hs23⟩ := hp23
    replace hC := kC
    replace hR := (hs23 r (by omega)).trans hR
    replace hF : ∀ j : Nat, j ≠ c → E23 j = E0 j := fun j hj => (hs23 j (by omega)).trans (hF j hj)
    refine J_vret X R dX3_shift_26 ?_
    rw [hE0] at hF
    first | (rw [if_pos (by omega)]; exact ⟨rfl, hC, hF⟩) | (rw [if_neg (by omega)]; exact ⟨rfl, hC, hF⟩)
  · refine J_aload_n (q := 6) X dX3_shift_5 rfl rfl ?_
    refine J_iload_n (q := 7) X dX3_shift_6 rfl rfl ?_
    refine J_iload_n (q := 8) X dX3_shift_7 rfl rfl ?_
    refine J_iload_n (q := 9) X dX3_shift_8 rfl rfl ?_
    refine J_iload_n (q := 10) X dX3_shift_9 rfl rfl ?_
    refine J_iadd (q := 11) X dX3_shift_10 rfl ?_
    refine J_callV (q := 14) (jrV X mX3_37 dX3_shift_11 (c_X3_swapParts hR hC (by omega) (by omega) (by omega)) hR (by omega) rfl rfl rfl rfl (Nat.le_of_ble_eq_true rfl) (by decide)) rfl (fun E11 hp11 => ?_)
    obtain ⟨kC, hs11⟩ := hp11
    replace hC := kC
    replace hR := (hs11 r (by omega)).trans hR
    replace hF : ∀ j : Nat, j ≠ c → E11 j = E0 j := fun j hj => (hs11 j (by omega)).trans (hF j hj)
    refine J_goto (q := 26) X dX3_shift_14 (by decide) ?_
    refine J_vret X R dX3_shift_26 ?_
    rw [hE0] at hF
    first | (rw [if_pos (by omega)]; exact ⟨rfl, hC, hF⟩) | (rw [if_neg (by omega)]; exact ⟨rfl, hC, hF⟩)

set_option maxRecDepth 100000 in
set_option maxHeartbeats 4000000 in
theorem c_X3_repeat {l : Launch} {Γ : JG} {ad : Nat → Nat} {E : Nat → va_E} {r c : Nat} {n : Int} {f : Int → Int} {a m p : Int}  (hR : E r = .inr (3, [.ref (ad c), .int (jI n)])) (hC : E c = aI Γ 60 f) (hr : r < 95 ∧ c < 95 ∧ r ≠ c) (hn : 0 ≤ n ∧ n ≤ 60) (ha : 0 ≤ a ∧ 1 ≤ m ∧ a + m ≤ n ∧ 0 ≤ p ∧ p ≤ n ∧ n + m ≤ 60) : JM l Γ yX3_repeat cX3_repeat 6 none 2 70 0 0 ad 95 E [.ref (ad r), .int (jI a), .int (jI m), .int (jI p)] (pV (fun E' => E' r = .inr (3, [.ref (ad c), .int (jI (n + m))]) ∧ E' c = aI Γ 60 (fun t => if t < p then f t else if t < p + m then f (a + (t - p)) else if t < n + m then f (t - m) else f t) ∧ ∀ j : Nat, j ≠ r ∧ j ≠ c → E' j = E j)) := by
  refine JM_intro (own := RX3) [some (.ref (ad r)), some (.int (jI a)), some (.int (jI m)), some (.int (jI p)), none, none] rfl rfl rfl (Nat.le_of_ble_eq_true rfl) ?_
  intro Ω X R hin
  obtain ⟨E0, hE0⟩ : ∃ E0 : Nat → va_E, E0 = E := ⟨_, rfl⟩
  have hF : ∀ j : Nat, j ≠ r ∧ j ≠ c → E j = E0 j := fun _ _ => by rw [hE0]
  refine J_aload_n (q := 1) X dX3_repeat_0 rfl rfl ?_
  refine J_iload_n (q := 2) X dX3_repeat_1 rfl rfl ?_
  refine J_iload_n (q := 3) X dX3_repeat_2 rfl rfl ?_
  refine J_callV (q := 6) (jrV X mX3_33 dX3_repeat_3 (c_X3_openGap hR hC (by omega) (by omega) (by omega)) hR (by omega) rfl rfl rfl rfl (Nat.le_of_ble_eq_true rfl) (by decide)) rfl (fun E3 hp3 => ?_)
  obtain ⟨kR, kC, hs3⟩ := hp3
  replace hR := kR
  replace hC := kC
  replace hF : ∀ j : Nat, j ≠ r ∧ j ≠ c → E3 j = E0 j := fun j hj => (hs3 j (by omega)).trans (hF j hj)
  refine J_iconst (q := 7) X dX3_repeat_6 rfl ?_
  refine J_istore (q := 9) X dX3_repeat_7 (by decide) rfl rfl ?_
  have lp9 : ∀ (mm : Nat) (i : Int) (g : Int → Int) (E : Nat → va_E) (hi : 0 ≤ i ∧ i ≤ m) (hg : ∀ t : Int, g t = if t < p then f t else if t < p + i then f (a + (t - p)) else if t < p + m then f t else if t < n + m then f (t - m) else f t) (hR : E r = .inr (3, [.ref (ad c), .int (jI (n + m))])) (hC : E c = aI Γ 60 g) (hF : ∀ j : Nat, j ≠ r ∧ j ≠ c → E j = E0 j) (hm : m - i + 1 ≤ (mm : Int)), J l Γ Ω 6 ad 95 0 0 E 9 [some (.ref (ad r)), some (.int (jI a)), some (.int (jI m)), some (.int (jI p)), some (.int (jI i)), none] [] := by
    intro mm
    induction mm with
    | zero => intro i g E hi hg hR hC hF hm; exfalso; omega
    | succ mm ih9 =>
      intro i g E hi hg hR hC hF hm
      refine J_iload (q := 11) X dX3_repeat_9 rfl rfl ?_
      refine J_iload_n (q := 12) X dX3_repeat_11 rfl rfl ?_
      refine J_icmp_ge (q := 15) (tgt := 60) X dX3_repeat_12 (by decide) rfl (by omega) (by omega) (fun c12 => ?_) (fun c12 => ?_)
      · refine J_vret X R dX3_repeat_60 ?_
        rw [hE0] at hF
        have hge : g = fun t => if t < p then f t else if t < p + m then f (a + (t - p)) else if t < n + m then f (t - m) else f t := by
          funext t
          rw [hg t]
          repeat' split
          all_goals first | rfl | (exfalso; omega) | (congr 1; omega)
        rw [hge] at hC
        exact ⟨rfl, hR, hC, hF⟩
      · refine J_iload_n (q := 16) X dX3_repeat_15 rfl rfl ?_
        refine J_iload (q := 18) X dX3_repeat_16 rfl rfl ?_
        refine J_iadd (q := 19) X dX3_repeat_18 rfl ?_
        refine J_iload_n (q := 20) X dX3_repeat_19 rfl rfl ?_
        refine J_icmp_ge (q := 23) (tgt := 30) X dX3_repeat_20 (by decide) rfl (by omega) (by omega) (fun c20 => ?_) (fun c20 => ?_)
        · refine J_iload_n (q := 31) X dX3_repeat_30 rfl rfl ?_
          refine J_iload (q := 33) X dX3_repeat_31 rfl rfl ?_
          refine J_iadd (q := 34) X dX3_repeat_33 rfl ?_
          refine J_iload_n (q := 35) X dX3_repeat_34 rfl rfl ?_
          refine J_iadd (q := 36) X dX3_repeat_35 rfl ?_
          refine J_istore (q := 38) X dX3_repeat_36 (by decide) rfl rfl ?_
          refine J_aload_n (q := 39) X dX3_repeat_38 rfl rfl ?_
          refine J_get (q := 42) X dX3_repeat_39 fX3_9 hR (by omega) rfl rfl ?_
          refine J_iload_n (q := 43) X dX3_repeat_42 rfl rfl ?_
          refine J_iload (q := 45) X dX3_repeat_43 rfl rfl ?_
          refine J_iadd (q := 46) X dX3_repeat_45 rfl ?_
          refine J_aload_n (q := 47) X dX3_repeat_46 rfl rfl ?_
          refine J_get (q := 50) X dX3_repeat_47 fX3_9 hR (by omega) rfl rfl ?_
          refine J_iload (q := 52) X dX3_repeat_50 rfl rfl ?_
          refine J_iald (q := 53) X dX3_repeat_52 hC (by omega) (by omega) (by decide) rfl ?_
          refine J_iast (q := 54) X dX3_repeat_53 hC (by omega) (by omega) (by decide) rfl (fun E53 hk53 hs53 => ?_)
          replace hC := hk53
          replace hR := (hs53 r (by omega)).trans hR
          replace hF : ∀ j : Nat, j ≠ r ∧ j ≠ c → E53 j = E0 j := fun j hj => (hs53 j (by omega)).trans (hF j hj)
          refine J_iinc (q := 57) X dX3_repeat_54 rfl (by decide) rfl rfl ?_
          refine J_goto (q := 9) X dX3_repeat_57 (by decide) ?_
          refine J_kill 5 ?_
          refine ih9 _ _ _ (by omega) (fun t => ?_) hR hC hF (by omega)
          simp only [iu, hg]
          repeat' split
          all_goals first | rfl | (exfalso; omega) | (congr 1; omega)
        · refine J_iload_n (q := 24) X dX3_repeat_23 rfl rfl ?_
          refine J_iload (q := 26) X dX3_repeat_24 rfl rfl ?_
          refine J_iadd (q := 27) X dX3_repeat_26 rfl ?_
          refine J_goto (q := 36) X dX3_repeat_27 (by decide) ?_
          refine J_istore (q := 38) X dX3_repeat_36 (by decide) rfl rfl ?_
          refine J_aload_n (q := 39) X dX3_repeat_38 rfl rfl ?_
          refine J_get (q := 42) X dX3_repeat_39 fX3_9 hR (by omega) rfl rfl ?_
          refine J_iload_n (q := 43) X dX3_repeat_42 rfl rfl ?_
          refine J_iload (q := 45) X dX3_repeat_43 rfl rfl ?_
          refine J_iadd (q := 46) X dX3_repeat_45 rfl ?_
          refine J_aload_n (q := 47) X dX3_repeat_46 rfl rfl ?_
          refine J_get (q := 50) X dX3_repeat_47 fX3_9 hR (by omega) rfl rfl ?_
          refine J_iload (q := 52) X dX3_repeat_50 rfl rfl ?_
          refine J_iald (q := 53) X dX3_repeat_52 hC (by omega) (by omega) (by decide) rfl ?_
          refine J_iast (q := 54) X dX3_repeat_53 hC (by omega) (by omega) (by decide) rfl (fun E53 hk53 hs53 => ?_)
          replace hC := hk53
          replace hR := (hs53 r (by omega)).trans hR
          replace hF : ∀ j : Nat, j ≠ r ∧ j ≠ c → E53 j = E0 j := fun j hj => (hs53 j (by omega)).trans (hF j hj)
          refine J_iinc (q := 57) X dX3_repeat_54 rfl (by decide) rfl rfl ?_
          refine J_goto (q := 9) X dX3_repeat_57 (by decide) ?_
          refine J_kill 5 ?_
          refine ih9 _ _ _ (by omega) (fun t => ?_) hR hC hF (by omega)
          simp only [iu, hg]
          repeat' split
          all_goals first | rfl | (exfalso; omega) | (congr 1; omega)
  refine lp9 100 _ _ _ (by omega) (fun t => ?_) hR hC hF (by omega)
  simp only [icp]
  repeat' split
  all_goals first | rfl | (exfalso; omega) | (congr 1; omega)

set_option maxRecDepth 100000 in
set_option maxHeartbeats 4000000 in
theorem c_X3_openingSigns {l : Launch} {Γ : JG} {ad : Nat → Nat} {E : Nat → va_E} {r c : Nat} {n : Int} {f : Int → Int}  (hR : E r = .inr (3, [.ref (ad c), .int (jI n)])) (hC : E c = aI Γ 60 f) (hr : r < 95 ∧ c < 95 ∧ r ≠ c) (hn : 0 ≤ n ∧ n ≤ 60) : JM l Γ yX3_openingSigns cX3_openingSigns 3 (some .int) 1 21 0 0 ad 95 E [.ref (ad r)] (pP (smI (fun j => bI (opn (f j % 128))) n) E) := by
  refine JM_intro (own := RX3) [some (.ref (ad r)), none, none] rfl rfl rfl (Nat.le_of_ble_eq_true rfl) ?_
  intro Ω X R hin
  refine J_iconst (q := 1) X dX3_openingSigns_0 rfl ?_
  refine J_istore_n (q := 2) X dX3_openingSigns_1 (by decide) rfl rfl ?_
  refine J_iconst (q := 3) X dX3_openingSigns_2 rfl ?_
  refine J_istore_n (q := 4) X dX3_openingSigns_3 (by decide) rfl rfl ?_
  have lp4 : ∀ (m : Nat) (i : Int) (hi : 0 ≤ i ∧ i ≤ n) (hm : n - i + 1 ≤ (m : Int)), J l Γ Ω 3 ad 95 0 0 E 4 [some (.ref (ad r)), some (.int (jI (smI (fun j => bI (opn (f j % 128))) i))), some (.int (jI i))] [] := by
    intro m
    induction m with
    | zero => intro i hi hm; exfalso; omega
    | succ m ih4 =>
      intro i hi hm
      refine J_iload_n (q := 5) X dX3_openingSigns_4 rfl rfl ?_
      refine J_aload_n (q := 6) X dX3_openingSigns_5 rfl rfl ?_
      refine J_get (q := 9) X dX3_openingSigns_6 fX3_15 hR (by omega) rfl rfl ?_
      refine J_icmp_ge (q := 12) (tgt := 32) X dX3_openingSigns_9 (by decide) rfl (by omega) (by omega) (fun c9 => ?_) (fun c9 => ?_)
      · refine J_iload_n (q := 33) X dX3_openingSigns_32 rfl rfl ?_
        refine J_iret X R dX3_openingSigns_33 ?_
        exact ⟨by rw [show i = n by omega], rfl⟩
      · refine J_iload_n (q := 13) X dX3_openingSigns_12 rfl rfl ?_
        refine J_aload_n (q := 14) X dX3_openingSigns_13 rfl rfl ?_
        refine J_iload_n (q := 15) X dX3_openingSigns_14 rfl rfl ?_
        refine J_callP (q := 18) (jrV X mX3_23 dX3_openingSigns_15 (c_X3_byteAt hR hC (by omega) (by omega) (by omega)) hR (by omega) rfl rfl rfl rfl (Nat.le_of_ble_eq_true rfl) (by decide)) rfl ?_
        refine J_callP (q := 21) (jrS X mX3_59 dX3_openingSigns_18 (c_X5_opens (by omega)) rfl rfl (Nat.le_of_ble_eq_true rfl) (by decide)) rfl ?_
        refine J_callP (q := 24) (jrS X mX3_49 dX3_openingSigns_21 (c_X9_oneIf (by first | omega | exact bI_bd _)) rfl rfl (Nat.le_of_ble_eq_true rfl) (by decide)) rfl ?_
        refine J_iadd (q := 25) X dX3_openingSigns_24 rfl ?_
        refine J_istore_n (q := 26) X dX3_openingSigns_25 (by decide) rfl rfl ?_
        refine J_iinc (q := 29) X dX3_openingSigns_26 rfl (by decide) rfl rfl ?_
        refine J_goto (q := 4) X dX3_openingSigns_29 (by decide) ?_
        rw [← smI_succ (fun j => bI (opn (f j % 128))) (by omega : (0:Int) ≤ i)]
        exact ih4 _ (by omega) (by omega)
  exact lp4 100 0 (by omega) (by omega)

set_option maxRecDepth 100000 in
set_option maxHeartbeats 4000000 in
theorem c_X3_closingSigns {l : Launch} {Γ : JG} {ad : Nat → Nat} {E : Nat → va_E} {r c : Nat} {n : Int} {f : Int → Int}  (hR : E r = .inr (3, [.ref (ad c), .int (jI n)])) (hC : E c = aI Γ 60 f) (hr : r < 95 ∧ c < 95 ∧ r ≠ c) (hn : 0 ≤ n ∧ n ≤ 60) : JM l Γ yX3_closingSigns cX3_closingSigns 3 (some .int) 1 21 0 0 ad 95 E [.ref (ad r)] (pP (smI (fun j => bI (clo (f j % 128))) n) E) := by
  refine JM_intro (own := RX3) [some (.ref (ad r)), none, none] rfl rfl rfl (Nat.le_of_ble_eq_true rfl) ?_
  intro Ω X R hin
  refine J_iconst (q := 1) X dX3_closingSigns_0 rfl ?_
  refine J_istore_n (q := 2) X dX3_closingSigns_1 (by decide) rfl rfl ?_
  refine J_iconst (q := 3) X dX3_closingSigns_2 rfl ?_
  refine J_istore_n (q := 4) X dX3_closingSigns_3 (by decide) rfl rfl ?_
  have lp4 : ∀ (m : Nat) (i : Int) (hi : 0 ≤ i ∧ i ≤ n) (hm : n - i + 1 ≤ (m : Int)), J l Γ Ω 3 ad 95 0 0 E 4 [some (.ref (ad r)), some (.int (jI (smI (fun j => bI (clo (f j % 128))) i))), some (.int (jI i))] [] := by
    intro m
    induction m with
    | zero => intro i hi hm; exfalso; omega
    | succ m ih4 =>
      intro i hi hm
      refine J_iload_n (q := 5) X dX3_closingSigns_4 rfl rfl ?_
      refine J_aload_n (q := 6) X dX3_closingSigns_5 rfl rfl ?_
      refine J_get (q := 9) X dX3_closingSigns_6 fX3_15 hR (by omega) rfl rfl ?_
      refine J_icmp_ge (q := 12) (tgt := 32) X dX3_closingSigns_9 (by decide) rfl (by omega) (by omega) (fun c9 => ?_) (fun c9 => ?_)
      · refine J_iload_n (q := 33) X dX3_closingSigns_32 rfl rfl ?_
        refine J_iret X R dX3_closingSigns_33 ?_
        exact ⟨by rw [show i = n by omega], rfl⟩
      · refine J_iload_n (q := 13) X dX3_closingSigns_12 rfl rfl ?_
        refine J_aload_n (q := 14) X dX3_closingSigns_13 rfl rfl ?_
        refine J_iload_n (q := 15) X dX3_closingSigns_14 rfl rfl ?_
        refine J_callP (q := 18) (jrV X mX3_23 dX3_closingSigns_15 (c_X3_byteAt hR hC (by omega) (by omega) (by omega)) hR (by omega) rfl rfl rfl rfl (Nat.le_of_ble_eq_true rfl) (by decide)) rfl ?_
        refine J_callP (q := 21) (jrS X mX3_62 dX3_closingSigns_18 (c_X5_closes (by omega)) rfl rfl (Nat.le_of_ble_eq_true rfl) (by decide)) rfl ?_
        refine J_callP (q := 24) (jrS X mX3_49 dX3_closingSigns_21 (c_X9_oneIf (by first | omega | exact bI_bd _)) rfl rfl (Nat.le_of_ble_eq_true rfl) (by decide)) rfl ?_
        refine J_iadd (q := 25) X dX3_closingSigns_24 rfl ?_
        refine J_istore_n (q := 26) X dX3_closingSigns_25 (by decide) rfl rfl ?_
        refine J_iinc (q := 29) X dX3_closingSigns_26 rfl (by decide) rfl rfl ?_
        refine J_goto (q := 4) X dX3_closingSigns_29 (by decide) ?_
        rw [← smI_succ (fun j => bI (clo (f j % 128))) (by omega : (0:Int) ≤ i)]
        exact ih4 _ (by omega) (by omega)
  exact lp4 100 0 (by omega) (by omega)
end
section
set_option maxRecDepth 100000 in
set_option maxHeartbeats 4000000 in
theorem c_X3_turnAbout {l : Launch} {Γ : JG} {ad : Nat → Nat} {E : Nat → va_E} {r c : Nat} {n : Int} {f : Int → Int} {a m : Int}  (hR : E r = .inr (3, [.ref (ad c), .int (jI n)])) (hC : E c = aI Γ 60 f) (hr : r < 95 ∧ c < 95 ∧ r ≠ c) (hn : 0 ≤ n ∧ n ≤ 60) (ha : 0 ≤ a ∧ 1 ≤ m ∧ a + m ≤ n) : JM l Γ yX3_turnAbout cX3_turnAbout 6 (some .int) 2 40 0 0 ad 95 E [.ref (ad r), .int (jI a), .int (jI m)] (pI (fun z E' => z = smI (fun j => bI (brk (rv f a (a + m) (a + j) % 128))) m ∧ E' c = aI Γ 60 (fun t => if a ≤ t ∧ t < a + m then trn (f (a + (a + m) - 1 - t) % 128) else f t) ∧ ∀ j : Nat, j ≠ c → E' j = E j)) := by
  refine JM_intro (own := RX3) [some (.ref (ad r)), some (.int (jI a)), some (.int (jI m)), none, none, none] rfl rfl rfl (Nat.le_of_ble_eq_true rfl) ?_
  intro Ω X R hin
  obtain ⟨E0, hE0⟩ : ∃ E0 : Nat → va_E, E0 = E := ⟨_, rfl⟩
  have hF : ∀ j : Nat, j ≠ c → E j = E0 j := fun _ _ => by rw [hE0]
  refine J_aload_n (q := 1) X dX3_turnAbout_0 rfl rfl ?_
  refine J_iload_n (q := 2) X dX3_turnAbout_1 rfl rfl ?_
  refine J_iload_n (q := 3) X dX3_turnAbout_2 rfl rfl ?_
  refine J_iload_n (q := 4) X dX3_turnAbout_3 rfl rfl ?_
  refine J_iadd (q := 5) X dX3_turnAbout_4 rfl ?_
  refine J_callV (q := 8) (jrV X mX3_41 dX3_turnAbout_5 (c_X3_reverse hR hC (by omega) (by omega) (by omega)) hR (by omega) rfl rfl rfl rfl (Nat.le_of_ble_eq_true rfl) (by decide)) rfl (fun E5 hp5 => ?_)
  obtain ⟨kC, hs5⟩ := hp5
  replace hC := kC
  replace hR := (hs5 r (by omega)).trans hR
  replace hF : ∀ j : Nat, j ≠ c → E5 j = E0 j := fun j hj => (hs5 j (by omega)).trans (hF j hj)
  refine J_iconst (q := 9) X dX3_turnAbout_8 rfl ?_
  refine J_istore_n (q := 10) X dX3_turnAbout_9 (by decide) rfl rfl ?_
  refine J_iload_n (q := 11) X dX3_turnAbout_10 rfl rfl ?_
  refine J_istore (q := 13) X dX3_turnAbout_11 (by decide) rfl rfl ?_
  have lp13 : ∀ (mm : Nat) (i : Int) (g : Int → Int) (E : Nat → va_E) (hi : a ≤ i ∧ i ≤ a + m) (hg : ∀ t : Int, g t = if a ≤ t ∧ t < i then trn (f (a + (a + m) - 1 - t) % 128) else rv f a (a + m) t) (hR : E r = .inr (3, [.ref (ad c), .int (jI n)])) (hC : E c = aI Γ 60 g) (hF : ∀ j : Nat, j ≠ c → E j = E0 j) (hm : a + m - i + 1 ≤ (mm : Int)), J l Γ Ω 6 ad 95 0 0 E 13 [some (.ref (ad r)), some (.int (jI a)), some (.int (jI m)), some (.int (jI (smI (fun j => bI (brk (rv f a (a + m) (a + j) % 128))) (i - a)))), some (.int (jI i)), none] [] := by
    intro mm
    induction mm with
    | zero => intro i g E hi hg hR hC hF hm; exfalso; omega
    | succ mm ih13 =>
      intro i g E hi hg hR hC hF hm
      have hgi : g i = rv f a (a + m) i := by rw [hg i, if_neg (by omega)]
      refine J_iload (q := 15) X dX3_turnAbout_13 rfl rfl ?_
      refine J_iload_n (q := 16) X dX3_turnAbout_15 rfl rfl ?_
      refine J_iload_n (q := 17) X dX3_turnAbout_16 rfl rfl ?_
      refine J_iadd (q := 18) X dX3_turnAbout_17 rfl ?_
      refine J_icmp_ge (q := 21) (tgt := 57) X dX3_turnAbout_18 (by decide) rfl (by omega) (by omega) (fun c18 => ?_) (fun c18 => ?_)
      · refine J_iload_n (q := 58) X dX3_turnAbout_57 rfl rfl ?_
        refine J_iret X R dX3_turnAbout_58 ?_
        rw [hE0] at hF
        have hge : g = fun t => if a ≤ t ∧ t < a + m then trn (f (a + (a + m) - 1 - t) % 128) else f t := by
          funext t
          rw [hg t]
          simp only [rv]
          repeat' split
          all_goals first | rfl | (exfalso; omega)
        rw [hge] at hC
        exact ⟨_, rfl, by rw [show i - a = m by omega], hC, hF⟩
      · refine J_aload_n (q := 22) X dX3_turnAbout_21 rfl rfl ?_
        refine J_iload (q := 24) X dX3_turnAbout_22 rfl rfl ?_
        refine J_callP (q := 27) (jrV X mX3_23 dX3_turnAbout_24 (c_X3_byteAt hR hC (by omega) (by omega) (by omega)) hR (by omega) rfl rfl rfl rfl (Nat.le_of_ble_eq_true rfl) (by decide)) rfl ?_
        refine J_istore (q := 29) X dX3_turnAbout_27 (by decide) rfl rfl ?_
        refine J_iload_n (q := 30) X dX3_turnAbout_29 rfl rfl ?_
        refine J_iload (q := 32) X dX3_turnAbout_30 rfl rfl ?_
        refine J_callP (q := 35) (jrS X mX3_44 dX3_turnAbout_32 (c_X5_isBracket (by omega)) rfl rfl (Nat.le_of_ble_eq_true rfl) (by decide)) rfl ?_
        refine J_callP (q := 38) (jrS X mX3_49 dX3_turnAbout_35 (c_X9_oneIf (by first | omega | exact bI_bd _)) rfl rfl (Nat.le_of_ble_eq_true rfl) (by decide)) rfl ?_
        refine J_iadd (q := 39) X dX3_turnAbout_38 rfl ?_
        refine J_istore_n (q := 40) X dX3_turnAbout_39 (by decide) rfl rfl ?_
        refine J_aload_n (q := 41) X dX3_turnAbout_40 rfl rfl ?_
        refine J_iload (q := 43) X dX3_turnAbout_41 rfl rfl ?_
        refine J_iload (q := 45) X dX3_turnAbout_43 rfl rfl ?_
        refine J_callP (q := 48) (jrS X mX3_53 dX3_turnAbout_45 (c_X5_turned (by omega)) rfl rfl (Nat.le_of_ble_eq_true rfl) (by decide)) rfl ?_
        refine J_callV (q := 51) (jrV X mX3_56 dX3_turnAbout_48 (c_X3_setByte hR hC (by omega) (by omega) (by omega)) hR (by omega) rfl rfl rfl rfl (Nat.le_of_ble_eq_true rfl) (by decide)) rfl (fun E48 hp48 => ?_)
        obtain ⟨kC, hs48⟩ := hp48
        replace hC := kC
        replace hR := (hs48 r (by omega)).trans hR
        replace hF : ∀ j : Nat, j ≠ c → E48 j = E0 j := fun j hj => (hs48 j (by omega)).trans (hF j hj)
        refine J_iinc (q := 54) X dX3_turnAbout_51 rfl (by decide) rfl rfl ?_
        refine J_goto (q := 13) X dX3_turnAbout_54 (by decide) ?_
        refine J_kill 5 ?_
        rw [hgi, show smI (fun j => bI (brk (rv f a (a + m) (a + j) % 128))) (i - a) + bI (brk (rv f a (a + m) i % 128)) = smI (fun j => bI (brk (rv f a (a + m) (a + j) % 128))) (i + 1 - a) by rw [show i + 1 - a = (i - a) + 1 by omega, smI_succ _ (by omega)]; simp only [show a + (i - a) = i by omega]]
        refine ih13 _ _ _ (by omega) (fun t => ?_) hR hC hF (by omega)
        have hri : rv f a (a + m) i = f (a + (a + m) - 1 - i) := by simp only [rv]; rw [if_pos (by omega)]
        simp only [iu, hgi, hri, hg t]
        repeat' split
        all_goals first | rfl | (exfalso; omega) | (subst_vars; rfl) | (rename_i h1 h2; rw [h1])
  exact (by rw [show (0 : Int) = smI (fun j => bI (brk (rv f a (a + m) (a + j) % 128))) (a - a) by rw [Int.sub_self]; rfl]; exact lp13 100 _ _ _ (by omega) (fun t => by rw [if_neg (by omega)]) hR hC hF (by omega))

set_option maxRecDepth 100000 in
set_option maxHeartbeats 4000000 in
theorem c_X6_append {l : Launch} {Γ : JG} {ad : Nat → Nat} {E : Nat → va_E} {tl : Int} {tb : Int → Int} {v : Int} (hT : E 3 = .inr (5, [.ref (ad 4), .int (jI tl)])) (hY : E 4 = aI Γ 160 tb) (ht : 0 ≤ tl ∧ tl < 160) : JM l Γ yX6_append cX6_append 2 none 0 0 0 0 ad 95 E [.ref (ad 3), .int (jI v)] (pV (fun E' => E' 3 = .inr (5, [.ref (ad 4), .int (jI (tl + 1))]) ∧ E' 4 = aI Γ 160 (iu tb tl v) ∧ ∀ j : Nat, j ≠ 3 ∧ j ≠ 4 → E' j = E j)) := by
  refine JM_intro (own := RX6) [some (.ref (ad 3)), some (.int (jI v))] rfl rfl rfl (Nat.le_of_ble_eq_true rfl) ?_
  intro Ω X R hin
  obtain ⟨E0, hE0⟩ : ∃ E0 : Nat → va_E, E0 = E := ⟨_, rfl⟩
  have hF : ∀ j : Nat, j ≠ 3 ∧ j ≠ 4 → E j = E0 j := fun _ _ => by rw [hE0]
  refine J_aload_n (q := 1) X dX6_append_0 rfl rfl ?_
  refine J_get (q := 4) X dX6_append_1 fX6_9 hT (by omega) rfl rfl ?_
  refine J_aload_n (q := 5) X dX6_append_4 rfl rfl ?_
  refine J_get (q := 8) X dX6_append_5 fX6_15 hT (by omega) rfl rfl ?_
  refine J_iload_n (q := 9) X dX6_append_8 rfl rfl ?_
  refine J_iast (q := 10) X dX6_append_9 hY (by omega) (by omega) (by decide) rfl (fun E9 hk9 hs9 => ?_)
  replace hY := hk9
  replace hT := (hs9 3 (by omega)).trans hT
  replace hF : ∀ j : Nat, j ≠ 3 ∧ j ≠ 4 → E9 j = E0 j := fun j hj => (hs9 j (by omega)).trans (hF j hj)
  refine J_aload_n (q := 11) X dX6_append_10 rfl rfl ?_
  refine J_dup (q := 12) X dX6_append_11 rfl rfl ?_
  refine J_get (q := 15) X dX6_append_12 fX6_15 hT (by omega) rfl rfl ?_
  refine J_iconst (q := 16) X dX6_append_15 rfl ?_
  refine J_iadd (q := 17) X dX6_append_16 rfl ?_
  refine J_put (q := 20) (ty := .int) X dX6_append_17 fX6_15 rfl (by decide +kernel) rfl rfl hT (by omega) (Nat.le_of_ble_eq_true rfl) rfl (fun E17 hk17 hs17 => ?_)
  replace hT : E17 3 = .inr (5, [.ref (ad 4), .int (jI _)]) := hk17
  replace hY := (hs17 4 (by omega)).trans hY
  replace hF : ∀ j : Nat, j ≠ 3 ∧ j ≠ 4 → E17 j = E0 j := fun j hj => (hs17 j (by omega)).trans (hF j hj)
  refine J_vret X R dX6_append_20 ?_
  rw [hE0] at hF
  exact ⟨rfl, hT, hY, hF⟩

set_option maxRecDepth 100000 in
set_option maxHeartbeats 4000000 in
theorem c_X6_shorten {l : Launch} {Γ : JG} {ad : Nat → Nat} {E : Nat → va_E} {tl : Int} {tb : Int → Int} {v : Int} (hT : E 3 = .inr (5, [.ref (ad 4), .int (jI tl)])) (hY : E 4 = aI Γ 160 tb) : JM l Γ yX6_shorten cX6_shorten 2 none 0 0 0 0 ad 95 E [.ref (ad 3), .int (jI v)] (pV (fun E' => E' 3 = .inr (5, [.ref (ad 4), .int (jI v)]) ∧ ∀ j : Nat, j ≠ 3 → E' j = E j)) := by
  refine JM_intro (own := RX6) [some (.ref (ad 3)), some (.int (jI v))] rfl rfl rfl (Nat.le_of_ble_eq_true rfl) ?_
  intro Ω X R hin
  obtain ⟨E0, hE0⟩ : ∃ E0 : Nat → va_E, E0 = E := ⟨_, rfl⟩
  have hF : ∀ j : Nat, j ≠ 3 → E j = E0 j := fun _ _ => by rw [hE0]
  refine J_aload_n (q := 1) X dX6_shorten_0 rfl rfl ?_
  refine J_iload_n (q := 2) X dX6_shorten_1 rfl rfl ?_
  refine J_put (q := 5) (ty := .int) X dX6_shorten_2 fX6_15 rfl (by decide +kernel) rfl rfl hT (by omega) (Nat.le_of_ble_eq_true rfl) rfl (fun E2 hk2 hs2 => ?_)
  replace hT : E2 3 = .inr (5, [.ref (ad 4), .int (jI _)]) := hk2
  replace hY := (hs2 4 (by omega)).trans hY
  replace hF : ∀ j : Nat, j ≠ 3 → E2 j = E0 j := fun j hj => (hs2 j (by omega)).trans (hF j hj)
  refine J_vret X R dX6_shorten_5 ?_
  rw [hE0] at hF
  exact ⟨rfl, hT, hF⟩

set_option maxRecDepth 100000 in
set_option maxHeartbeats 4000000 in
theorem c_X0_restart {l : Launch} {Γ : JG} {ad : Nat → Nat} {E : Nat → va_E} {b0 b1 b2 b3 b4 : Int} (hB : E 5 = .inr (0, [.int (jI b0), .int (jI b1), .int (jI b2), .int (jI b3), .int (jI b4)])) : JM l Γ yX0_restart cX0_restart 1 none 0 0 0 0 ad 95 E [.ref (ad 5)] (pV (fun E' => E' 5 = .inr (0, [.int (jI 0), .int (jI 0), .int (jI 0), .int (jI 0), .int (jI (-4))]) ∧ ∀ j : Nat, j ≠ 5 → E' j = E j)) := by
  refine JM_intro (own := RX0) [some (.ref (ad 5))] rfl rfl rfl (Nat.le_of_ble_eq_true rfl) ?_
  intro Ω X R hin
  obtain ⟨E0, hE0⟩ : ∃ E0 : Nat → va_E, E0 = E := ⟨_, rfl⟩
  have hF : ∀ j : Nat, j ≠ 5 → E j = E0 j := fun _ _ => by rw [hE0]
  refine J_aload_n (q := 1) X dX0_restart_0 rfl rfl ?_
  refine J_iconst (q := 2) X dX0_restart_1 rfl ?_
  refine J_put (q := 5) (ty := .int) X dX0_restart_2 fX0_9 rfl (by decide +kernel) rfl rfl hB (by omega) (Nat.le_of_ble_eq_true rfl) rfl (fun E2 hk2 hs2 => ?_)
  replace hB : E2 5 = .inr (0, [.int (jI _), .int (jI _), .int (jI _), .int (jI _), .int (jI _)]) := hk2
  replace hF : ∀ j : Nat, j ≠ 5 → E2 j = E0 j := fun j hj => (hs2 j (by omega)).trans (hF j hj)
  refine J_aload_n (q := 6) X dX0_restart_5 rfl rfl ?_
  refine J_iconst (q := 7) X dX0_restart_6 rfl ?_
  refine J_put (q := 10) (ty := .int) X dX0_restart_7 fX0_15 rfl (by decide +kernel) rfl rfl hB (by omega) (Nat.le_of_ble_eq_true rfl) rfl (fun E7 hk7 hs7 => ?_)
  replace hB : E7 5 = .inr (0, [.int (jI _), .int (jI _), .int (jI _), .int (jI _), .int (jI _)]) := hk7
  replace hF : ∀ j : Nat, j ≠ 5 → E7 j = E0 j := fun j hj => (hs7 j (by omega)).trans (hF j hj)
  refine J_aload_n (q := 11) X dX0_restart_10 rfl rfl ?_
  refine J_iconst (q := 12) X dX0_restart_11 rfl ?_
  refine J_put (q := 15) (ty := .int) X dX0_restart_12 fX0_18 rfl (by decide +kernel) rfl rfl hB (by omega) (Nat.le_of_ble_eq_true rfl) rfl (fun E12 hk12 hs12 => ?_)
  replace hB : E12 5 = .inr (0, [.int (jI _), .int (jI _), .int (jI _), .int (jI _), .int (jI _)]) := hk12
  replace hF : ∀ j : Nat, j ≠ 5 → E12 j = E0 j := fun j hj => (hs12 j (by omega)).trans (hF j hj)
  refine J_aload_n (q := 16) X dX0_restart_15 rfl rfl ?_
  refine J_iconst (q := 17) X dX0_restart_16 rfl ?_
  refine J_put (q := 20) (ty := .int) X dX0_restart_17 fX0_21 rfl (by decide +kernel) rfl rfl hB (by omega) (Nat.le_of_ble_eq_true rfl) rfl (fun E17 hk17 hs17 => ?_)
  replace hB : E17 5 = .inr (0, [.int (jI _), .int (jI _), .int (jI _), .int (jI _), .int (jI _)]) := hk17
  replace hF : ∀ j : Nat, j ≠ 5 → E17 j = E0 j := fun j hj => (hs17 j (by omega)).trans (hF j hj)
  refine J_aload_n (q := 21) X dX0_restart_20 rfl rfl ?_
  refine J_bipush (q := 23) X dX0_restart_21 rfl (by decide) ?_
  refine J_put (q := 26) (ty := .int) X dX0_restart_23 fX0_24 rfl (by decide +kernel) rfl rfl hB (by omega) (Nat.le_of_ble_eq_true rfl) rfl (fun E23 hk23 hs23 => ?_)
  replace hB : E23 5 = .inr (0, [.int (jI _), .int (jI _), .int (jI _), .int (jI _), .int (jI _)]) := hk23
  replace hF : ∀ j : Nat, j ≠ 5 → E23 j = E0 j := fun j hj => (hs23 j (by omega)).trans (hF j hj)
  refine J_vret X R dX0_restart_26 ?_
  rw [hE0] at hF
  exact ⟨rfl, hB, hF⟩

set_option maxRecDepth 100000 in
set_option maxHeartbeats 4000000 in
theorem c_X0_tokenTaken {l : Launch} {Γ : JG} {ad : Nat → Nat} {E : Nat → va_E} {b0 b1 b2 b3 b4 : Int} (hB : E 5 = .inr (0, [.int (jI b0), .int (jI b1), .int (jI b2), .int (jI b3), .int (jI b4)])) : JM l Γ yX0_tokenTaken cX0_tokenTaken 1 none 0 0 0 0 ad 95 E [.ref (ad 5)] (pV (fun E' => E' 5 = .inr (0, [.int (jI b0), .int (jI b1), .int (jI b2), .int (jI (b3 + 1)), .int (jI b4)]) ∧ ∀ j : Nat, j ≠ 5 → E' j = E j)) := by
  refine JM_intro (own := RX0) [some (.ref (ad 5))] rfl rfl rfl (Nat.le_of_ble_eq_true rfl) ?_
  intro Ω X R hin
  obtain ⟨E0, hE0⟩ : ∃ E0 : Nat → va_E, E0 = E := ⟨_, rfl⟩
  have hF : ∀ j : Nat, j ≠ 5 → E j = E0 j := fun _ _ => by rw [hE0]
  refine J_aload_n (q := 1) X dX0_tokenTaken_0 rfl rfl ?_
  refine J_dup (q := 2) X dX0_tokenTaken_1 rfl rfl ?_
  refine J_get (q := 5) X dX0_tokenTaken_2 fX0_21 hB (by omega) rfl rfl ?_
  refine J_iconst (q := 6) X dX0_tokenTaken_5 rfl ?_
  refine J_iadd (q := 7) X dX0_tokenTaken_6 rfl ?_
  refine J_put (q := 10) (ty := .int) X dX0_tokenTaken_7 fX0_21 rfl (by decide +kernel) rfl rfl hB (by omega) (Nat.le_of_ble_eq_true rfl) rfl (fun E7 hk7 hs7 => ?_)
  replace hB : E7 5 = .inr (0, [.int (jI _), .int (jI _), .int (jI _), .int (jI _), .int (jI _)]) := hk7
  replace hF : ∀ j : Nat, j ≠ 5 → E7 j = E0 j := fun j hj => (hs7 j (by omega)).trans (hF j hj)
  refine J_vret X R dX0_tokenTaken_10 ?_
  rw [hE0] at hF
  exact ⟨rfl, hB, hF⟩

set_option maxRecDepth 100000 in
set_option maxHeartbeats 4000000 in
theorem c_X0_lineTaken {l : Launch} {Γ : JG} {ad : Nat → Nat} {E : Nat → va_E} {b0 b1 b2 b3 b4 : Int} (hB : E 5 = .inr (0, [.int (jI b0), .int (jI b1), .int (jI b2), .int (jI b3), .int (jI b4)])) : JM l Γ yX0_lineTaken cX0_lineTaken 1 none 0 0 0 0 ad 95 E [.ref (ad 5)] (pV (fun E' => E' 5 = .inr (0, [.int (jI b0), .int (jI b1), .int (jI (b2 + 1)), .int (jI 0), .int (jI b4)]) ∧ ∀ j : Nat, j ≠ 5 → E' j = E j)) := by
  refine JM_intro (own := RX0) [some (.ref (ad 5))] rfl rfl rfl (Nat.le_of_ble_eq_true rfl) ?_
  intro Ω X R hin
  obtain ⟨E0, hE0⟩ : ∃ E0 : Nat → va_E, E0 = E := ⟨_, rfl⟩
  have hF : ∀ j : Nat, j ≠ 5 → E j = E0 j := fun _ _ => by rw [hE0]
  refine J_aload_n (q := 1) X dX0_lineTaken_0 rfl rfl ?_
  refine J_dup (q := 2) X dX0_lineTaken_1 rfl rfl ?_
  refine J_get (q := 5) X dX0_lineTaken_2 fX0_18 hB (by omega) rfl rfl ?_
  refine J_iconst (q := 6) X dX0_lineTaken_5 rfl ?_
  refine J_iadd (q := 7) X dX0_lineTaken_6 rfl ?_
  refine J_put (q := 10) (ty := .int) X dX0_lineTaken_7 fX0_18 rfl (by decide +kernel) rfl rfl hB (by omega) (Nat.le_of_ble_eq_true rfl) rfl (fun E7 hk7 hs7 => ?_)
  replace hB : E7 5 = .inr (0, [.int (jI _), .int (jI _), .int (jI _), .int (jI _), .int (jI _)]) := hk7
  replace hF : ∀ j : Nat, j ≠ 5 → E7 j = E0 j := fun j hj => (hs7 j (by omega)).trans (hF j hj)
  refine J_aload_n (q := 11) X dX0_lineTaken_10 rfl rfl ?_
  refine J_iconst (q := 12) X dX0_lineTaken_11 rfl ?_
  refine J_put (q := 15) (ty := .int) X dX0_lineTaken_12 fX0_21 rfl (by decide +kernel) rfl rfl hB (by omega) (Nat.le_of_ble_eq_true rfl) rfl (fun E12 hk12 hs12 => ?_)
  replace hB : E12 5 = .inr (0, [.int (jI _), .int (jI _), .int (jI _), .int (jI _), .int (jI _)]) := hk12
  replace hF : ∀ j : Nat, j ≠ 5 → E12 j = E0 j := fun j hj => (hs12 j (by omega)).trans (hF j hj)
  refine J_vret X R dX0_lineTaken_15 ?_
  rw [hE0] at hF
  exact ⟨rfl, hB, hF⟩

set_option maxRecDepth 100000 in
set_option maxHeartbeats 4000000 in
theorem c_X0_stopAt {l : Launch} {Γ : JG} {ad : Nat → Nat} {E : Nat → va_E} {b0 b1 b2 b3 b4 : Int} {v w : Int} (hB : E 5 = .inr (0, [.int (jI b0), .int (jI b1), .int (jI b2), .int (jI b3), .int (jI b4)])) : JM l Γ yX0_stopAt cX0_stopAt 3 (some .boolean) 0 0 0 0 ad 95 E [.ref (ad 5), .int (jI v), .int (jI w)] (pI (fun z E' => z = 0 ∧ E' 5 = .inr (0, [.int (jI v), .int (jI w), .int (jI b2), .int (jI b3), .int (jI b4)]) ∧ ∀ j : Nat, j ≠ 5 → E' j = E j)) := by
  refine JM_intro (own := RX0) [some (.ref (ad 5)), some (.int (jI v)), some (.int (jI w))] rfl rfl rfl (Nat.le_of_ble_eq_true rfl) ?_
  intro Ω X R hin
  obtain ⟨E0, hE0⟩ : ∃ E0 : Nat → va_E, E0 = E := ⟨_, rfl⟩
  have hF : ∀ j : Nat, j ≠ 5 → E j = E0 j := fun _ _ => by rw [hE0]
  refine J_aload_n (q := 1) X dX0_stopAt_0 rfl rfl ?_
  refine J_iload_n (q := 2) X dX0_stopAt_1 rfl rfl ?_
  refine J_put (q := 5) (ty := .int) X dX0_stopAt_2 fX0_9 rfl (by decide +kernel) rfl rfl hB (by omega) (Nat.le_of_ble_eq_true rfl) rfl (fun E2 hk2 hs2 => ?_)
  replace hB : E2 5 = .inr (0, [.int (jI _), .int (jI _), .int (jI _), .int (jI _), .int (jI _)]) := hk2
  replace hF : ∀ j : Nat, j ≠ 5 → E2 j = E0 j := fun j hj => (hs2 j (by omega)).trans (hF j hj)
  refine J_aload_n (q := 6) X dX0_stopAt_5 rfl rfl ?_
  refine J_iload_n (q := 7) X dX0_stopAt_6 rfl rfl ?_
  refine J_put (q := 10) (ty := .int) X dX0_stopAt_7 fX0_15 rfl (by decide +kernel) rfl rfl hB (by omega) (Nat.le_of_ble_eq_true rfl) rfl (fun E7 hk7 hs7 => ?_)
  replace hB : E7 5 = .inr (0, [.int (jI _), .int (jI _), .int (jI _), .int (jI _), .int (jI _)]) := hk7
  replace hF : ∀ j : Nat, j ≠ 5 → E7 j = E0 j := fun j hj => (hs7 j (by omega)).trans (hF j hj)
  refine J_iconst (q := 11) X dX0_stopAt_10 rfl ?_
  refine J_zret X R dX0_stopAt_11 (nrw_z (by omega)) ?_
  rw [hE0] at hF
  exact ⟨0, rfl, rfl, hB, hF⟩

set_option maxRecDepth 100000 in
set_option maxHeartbeats 4000000 in
theorem c_X0_stopInQuote {l : Launch} {Γ : JG} {ad : Nat → Nat} {E : Nat → va_E} {b0 b1 b2 b3 b4 : Int} {v w u : Int} (hB : E 5 = .inr (0, [.int (jI b0), .int (jI b1), .int (jI b2), .int (jI b3), .int (jI b4)])) : JM l Γ yX0_stopInQuote cX0_stopInQuote 4 (some .boolean) 1 22 0 0 ad 95 E [.ref (ad 5), .int (jI v), .int (jI w), .int (jI u)] (pI (fun z E' => z = 0 ∧ E' 5 = .inr (0, [.int (jI v), .int (jI w), .int (jI b2), .int (jI b3), .int (jI u)]) ∧ ∀ j : Nat, j ≠ 5 → E' j = E j)) := by
  refine JM_intro (own := RX0) [some (.ref (ad 5)), some (.int (jI v)), some (.int (jI w)), some (.int (jI u))] rfl rfl rfl (Nat.le_of_ble_eq_true rfl) ?_
  intro Ω X R hin
  obtain ⟨E0, hE0⟩ : ∃ E0 : Nat → va_E, E0 = E := ⟨_, rfl⟩
  have hF : ∀ j : Nat, j ≠ 5 → E j = E0 j := fun _ _ => by rw [hE0]
  refine J_aload_n (q := 1) X dX0_stopInQuote_0 rfl rfl ?_
  refine J_iload_n (q := 2) X dX0_stopInQuote_1 rfl rfl ?_
  refine J_put (q := 5) (ty := .int) X dX0_stopInQuote_2 fX0_24 rfl (by decide +kernel) rfl rfl hB (by omega) (Nat.le_of_ble_eq_true rfl) rfl (fun E2 hk2 hs2 => ?_)
  replace hB : E2 5 = .inr (0, [.int (jI _), .int (jI _), .int (jI _), .int (jI _), .int (jI _)]) := hk2
  replace hF : ∀ j : Nat, j ≠ 5 → E2 j = E0 j := fun j hj => (hs2 j (by omega)).trans (hF j hj)
  refine J_aload_n (q := 6) X dX0_stopInQuote_5 rfl rfl ?_
  refine J_iload_n (q := 7) X dX0_stopInQuote_6 rfl rfl ?_
  refine J_iload_n (q := 8) X dX0_stopInQuote_7 rfl rfl ?_
  refine J_callI (q := 11) (jrV X mX0_27 dX0_stopInQuote_8 (c_X0_stopAt hB) hB (by omega) rfl rfl rfl rfl (Nat.le_of_ble_eq_true rfl) (by decide)) rfl (fun z8 E8 hp8 => ?_)
  obtain ⟨hz8, kB, hs8⟩ := hp8
  replace hB := kB
  replace hF : ∀ j : Nat, j ≠ 5 → E8 j = E0 j := fun j hj => (hs8 j (by omega)).trans (hF j hj)
  refine J_zret X R dX0_stopInQuote_11 (nrw_z (by omega)) ?_
  rw [hE0] at hF
  exact ⟨z8, rfl, hz8, hB, hF⟩

set_option maxRecDepth 100000 in
set_option maxHeartbeats 4000000 in
theorem c_X0_part {l : Launch} {Γ : JG} {ad : Nat → Nat} {E : Nat → va_E} {b0 b1 b2 b3 b4 : Int} {w : Int} (hB : E 5 = .inr (0, [.int (jI b0), .int (jI b1), .int (jI b2), .int (jI b3), .int (jI b4)])) (hw : 0 ≤ w ∧ w ≤ 2) (hb : 0 ≤ b0 ∧ b0 ≤ 6) : JM l Γ yX0_part cX0_part 2 (some .int) 0 0 0 0 ad 95 E [.ref (ad 5), .int (jI w)] (pP (if b0 = 0 ∨ b0 = 6 then -4 else if w = 0 then b2 else if w = 1 then b3 else b4) E) := by
  refine JM_intro (own := RX0) [some (.ref (ad 5)), some (.int (jI w))] rfl rfl rfl (Nat.le_of_ble_eq_true rfl) ?_
  intro Ω X R hin
  refine J_aload_n (q := 1) X dX0_part_0 rfl rfl ?_
  refine J_get (q := 4) X dX0_part_1 fX0_9 hB (by omega) rfl rfl ?_
  refine J_if_eq (q := 7) (tgt := 16) X dX0_part_4 (by decide) rfl (by omega) (fun c4 => ?_) (fun c4 => ?_)
  · refine J_bipush (q := 18) X dX0_part_16 rfl (by decide) ?_
    refine J_iret X R dX0_part_18 ?_
    exact ⟨by first | (rw [if_pos (by omega)]; done) | (rw [if_neg (by omega), if_pos (by omega)]; done) | (rw [if_neg (by omega), if_neg (by omega), if_pos (by omega)]; done) | (rw [if_neg (by omega), if_neg (by omega), if_neg (by omega)]; done), rfl⟩
  · refine J_aload_n (q := 8) X dX0_part_7 rfl rfl ?_
    refine J_get (q := 11) X dX0_part_8 fX0_9 hB (by omega) rfl rfl ?_
    refine J_bipush (q := 13) X dX0_part_11 rfl (by decide) ?_
    refine J_icmp_ne (q := 16) (tgt := 19) X dX0_part_13 (by decide) rfl (by omega) (by omega) (fun c13 => ?_) (fun c13 => ?_)
    · refine J_iload_n (q := 20) X dX0_part_19 rfl rfl ?_
      rcases (show (w ≠ 0 ∧ w ≠ 1) ∨ w = 0 ∨ w = 1 by omega) with hsw | hsw | hsw
      · refine J_lookup (tgt := 58) (off := 38) X dX0_part_20 (by decide) (by omega) (by simp only [Op.lookupswitch.offset_cons, Op.lookupswitch.offset]; first | (repeat rw [if_neg (by omega)]) | simp; done) (by decide) ?_
        refine J_aload_n (q := 59) X dX0_part_58 rfl rfl ?_
        refine J_get (q := 62) X dX0_part_59 fX0_24 hB (by omega) rfl rfl ?_
        refine J_iret X R dX0_part_62 ?_
        exact ⟨by first | (rw [if_pos (by omega)]; done) | (rw [if_neg (by omega), if_pos (by omega)]; done) | (rw [if_neg (by omega), if_neg (by omega), if_pos (by omega)]; done) | (rw [if_neg (by omega), if_neg (by omega), if_neg (by omega)]; done), rfl⟩
      · refine J_lookup (tgt := 48) (off := 28) X dX0_part_20 (by decide) (by omega) (by rw [hsw]; decide) (by decide) ?_
        refine J_aload_n (q := 49) X dX0_part_48 rfl rfl ?_
        refine J_get (q := 52) X dX0_part_49 fX0_18 hB (by omega) rfl rfl ?_
        refine J_iret X R dX0_part_52 ?_
        exact ⟨by first | (rw [if_pos (by omega)]; done) | (rw [if_neg (by omega), if_pos (by omega)]; done) | (rw [if_neg (by omega), if_neg (by omega), if_pos (by omega)]; done) | (rw [if_neg (by omega), if_neg (by omega), if_neg (by omega)]; done), rfl⟩
      · refine J_lookup (tgt := 53) (off := 33) X dX0_part_20 (by decide) (by omega) (by rw [hsw]; decide) (by decide) ?_
        refine J_aload_n (q := 54) X dX0_part_53 rfl rfl ?_
        refine J_get (q := 57) X dX0_part_54 fX0_21 hB (by omega) rfl rfl ?_
        refine J_iret X R dX0_part_57 ?_
        exact ⟨by first | (rw [if_pos (by omega)]; done) | (rw [if_neg (by omega), if_pos (by omega)]; done) | (rw [if_neg (by omega), if_neg (by omega), if_pos (by omega)]; done) | (rw [if_neg (by omega), if_neg (by omega), if_neg (by omega)]; done), rfl⟩
    · refine J_bipush (q := 18) X dX0_part_16 rfl (by decide) ?_
      refine J_iret X R dX0_part_18 ?_
      exact ⟨by first | (rw [if_pos (by omega)]; done) | (rw [if_neg (by omega), if_pos (by omega)]; done) | (rw [if_neg (by omega), if_neg (by omega), if_pos (by omega)]; done) | (rw [if_neg (by omega), if_neg (by omega), if_neg (by omega)]; done), rfl⟩

set_option maxRecDepth 100000 in
set_option maxHeartbeats 4000000 in
theorem c_X4_makeNew {l : Launch} {Γ : JG} {ad : Nat → Nat} {E : Nat → va_E} {r c : Nat} {th la n : Int} {f : Int → Int} {k m : Int} (hS : E r = .inr (4, [.ref (ad c), .int (jI th), .int (jI la), .int (jI n)])) (hC : E c = aI Γ 40 f) (hr : r < 95 ∧ c < 95 ∧ r ≠ c) (hm : 0 ≤ m ∧ m ≤ 40) : JM l Γ yX4_makeNew cX4_makeNew 4 none 0 0 0 0 ad 95 E [.ref (ad r), .int (jI k), .int (jI m)] (pV (fun E' => E' r = .inr (4, [.ref (ad c), .int (jI 1), .int (jI k), .int (jI m)]) ∧ E' c = aI Γ 40 (fun t => if 0 ≤ t ∧ t < m then 0 else f t) ∧ ∀ j : Nat, j ≠ r ∧ j ≠ c → E' j = E j)) := by
  refine JM_intro (own := RX4) [some (.ref (ad r)), some (.int (jI k)), some (.int (jI m)), none] rfl rfl rfl (Nat.le_of_ble_eq_true rfl) ?_
  intro Ω X R hin
  obtain ⟨E0, hE0⟩ : ∃ E0 : Nat → va_E, E0 = E := ⟨_, rfl⟩
  have hF : ∀ j : Nat, j ≠ r ∧ j ≠ c → E j = E0 j := fun _ _ => by rw [hE0]
  refine J_aload_n (q := 1) X dX4_makeNew_0 rfl rfl ?_
  refine J_iconst (q := 2) X dX4_makeNew_1 rfl ?_
  refine J_put (q := 5) (ty := .boolean) X dX4_makeNew_2 fX4_15 rfl (by decide +kernel) (nrw_z (by omega)) (fit_z (by omega)) hS (by omega) (Nat.le_of_ble_eq_true rfl) rfl (fun E2 hk2 hs2 => ?_)
  replace hS : E2 r = .inr (4, [.ref (ad c), .int (jI _), .int (jI _), .int (jI _)]) := hk2
  replace hC := (hs2 c (by omega)).trans hC
  replace hF : ∀ j : Nat, j ≠ r ∧ j ≠ c → E2 j = E0 j := fun j hj => (hs2 j (by omega)).trans (hF j hj)
  refine J_aload_n (q := 6) X dX4_makeNew_5 rfl rfl ?_
  refine J_iload_n (q := 7) X dX4_makeNew_6 rfl rfl ?_
  refine J_put (q := 10) (ty := .int) X dX4_makeNew_7 fX4_19 rfl (by decide +kernel) rfl rfl hS (by omega) (Nat.le_of_ble_eq_true rfl) rfl (fun E7 hk7 hs7 => ?_)
  replace hS : E7 r = .inr (4, [.ref (ad c), .int (jI _), .int (jI _), .int (jI _)]) := hk7
  replace hC := (hs7 c (by omega)).trans hC
  replace hF : ∀ j : Nat, j ≠ r ∧ j ≠ c → E7 j = E0 j := fun j hj => (hs7 j (by omega)).trans (hF j hj)
  refine J_aload_n (q := 11) X dX4_makeNew_10 rfl rfl ?_
  refine J_iload_n (q := 12) X dX4_makeNew_11 rfl rfl ?_
  refine J_put (q := 15) (ty := .int) X dX4_makeNew_12 fX4_23 rfl (by decide +kernel) rfl rfl hS (by omega) (Nat.le_of_ble_eq_true rfl) rfl (fun E12 hk12 hs12 => ?_)
  replace hS : E12 r = .inr (4, [.ref (ad c), .int (jI _), .int (jI _), .int (jI _)]) := hk12
  replace hC := (hs12 c (by omega)).trans hC
  replace hF : ∀ j : Nat, j ≠ r ∧ j ≠ c → E12 j = E0 j := fun j hj => (hs12 j (by omega)).trans (hF j hj)
  refine J_iconst (q := 16) X dX4_makeNew_15 rfl ?_
  refine J_istore_n (q := 17) X dX4_makeNew_16 (by decide) rfl rfl ?_
  have lp17 : ∀ (mm : Nat) (i : Int) (g : Int → Int) (E : Nat → va_E) (hi : 0 ≤ i ∧ i ≤ m) (hg : ∀ t : Int, g t = if 0 ≤ t ∧ t < i then 0 else f t) (hS : E r = .inr (4, [.ref (ad c), .int (jI 1), .int (jI k), .int (jI m)])) (hC : E c = aI Γ 40 g) (hF : ∀ j : Nat, j ≠ r ∧ j ≠ c → E j = E0 j) (hmm : m - i + 1 ≤ (mm : Int)), J l Γ Ω 4 ad 95 0 0 E 17 [some (.ref (ad r)), some (.int (jI k)), some (.int (jI m)), some (.int (jI i))] [] := by
    intro mm
    induction mm with
    | zero => intro i g E hi hg hS hC hF hmm; exfalso; omega
    | succ mm ih17 =>
      intro i g E hi hg hS hC hF hmm
      refine J_iload_n (q := 18) X dX4_makeNew_17 rfl rfl ?_
      refine J_iload_n (q := 19) X dX4_makeNew_18 rfl rfl ?_
      refine J_icmp_ge (q := 22) (tgt := 35) X dX4_makeNew_19 (by decide) rfl (by omega) (by omega) (fun c19 => ?_) (fun c19 => ?_)
      · refine J_vret X R dX4_makeNew_35 ?_
        rw [hE0] at hF
        have hge : g = fun t => if 0 ≤ t ∧ t < m then 0 else f t := by
          funext t
          rw [hg t, show i = m by omega]
        rw [hge] at hC
        exact ⟨rfl, hS, hC, hF⟩
      · refine J_aload_n (q := 23) X dX4_makeNew_22 rfl rfl ?_
        refine J_get (q := 26) X dX4_makeNew_23 fX4_9 hS (by omega) rfl rfl ?_
        refine J_iload_n (q := 27) X dX4_makeNew_26 rfl rfl ?_
        refine J_iconst (q := 28) X dX4_makeNew_27 rfl ?_
        refine J_iast (q := 29) X dX4_makeNew_28 hC (by omega) (by omega) (by decide) rfl (fun E28 hk28 hs28 => ?_)
        replace hC := hk28
        replace hS := (hs28 r (by omega)).trans hS
        replace hF : ∀ j : Nat, j ≠ r ∧ j ≠ c → E28 j = E0 j := fun j hj => (hs28 j (by omega)).trans (hF j hj)
        refine J_iinc (q := 32) X dX4_makeNew_29 rfl (by decide) rfl rfl ?_
        refine J_goto (q := 17) X dX4_makeNew_32 (by decide) ?_
        refine ih17 _ _ _ (by omega) (fun t => ?_) hS hC hF (by omega)
        simp only [iu, hg t]
        repeat' split
        all_goals first | rfl | (exfalso; omega)
  exact lp17 100 _ f _ (by omega) (fun t => by rw [if_neg (by omega)]) hS hC hF (by omega)

set_option maxRecDepth 100000 in
set_option maxHeartbeats 4000000 in
theorem c_X4_faultAt {l : Launch} {Γ : JG} {ad : Nat → Nat} {E : Nat → va_E} {r c : Nat} {th la n : Int} {f : Int → Int} {w i : Int} (hS : E r = .inr (4, [.ref (ad c), .int (jI th), .int (jI la), .int (jI n)])) (hC : E c = aI Γ 40 f) (hr : r < 95 ∧ c < 95 ∧ r ≠ c) (hth : th = 0 ∨ th = 1) (hla : 0 ≤ la ∧ la ≤ 2) (hn : 0 ≤ n ∧ n ≤ 40) (hw : -2147483648 ≤ w ∧ w < 2147483648) (hi : -2147483648 ≤ i ∧ i < 2147483648) : JM l Γ yX4_faultAt cX4_faultAt 3 (some .int) 0 0 0 0 ad 95 E [.ref (ad r), .int (jI w), .int (jI i)] (pP (if th = 0 then 1 else if w ≠ la then 3 else if i < 0 ∨ n ≤ i then 2 else 0) E) := by
  refine JM_intro (own := RX4) [some (.ref (ad r)), some (.int (jI w)), some (.int (jI i))] rfl rfl rfl (Nat.le_of_ble_eq_true rfl) ?_
  intro Ω X R hin
  refine J_aload_n (q := 1) X dX4_faultAt_0 rfl rfl ?_
  refine J_get (q := 4) X dX4_faultAt_1 fX4_15 hS (by omega) rfl rfl ?_
  refine J_if_ne (q := 7) (tgt := 9) X dX4_faultAt_4 (by decide) rfl (by omega) (fun c4 => ?_) (fun c4 => ?_)
  · refine J_iload_n (q := 10) X dX4_faultAt_9 rfl rfl ?_
    refine J_aload_n (q := 11) X dX4_faultAt_10 rfl rfl ?_
    refine J_get (q := 14) X dX4_faultAt_11 fX4_19 hS (by omega) rfl rfl ?_
    refine J_icmp_eq (q := 17) (tgt := 19) X dX4_faultAt_14 (by decide) rfl (by omega) (by omega) (fun c14 => ?_) (fun c14 => ?_)
    · refine J_iload_n (q := 20) X dX4_faultAt_19 rfl rfl ?_
      refine J_if_lt (q := 23) (tgt := 31) X dX4_faultAt_20 (by decide) rfl (by omega) (fun c20 => ?_) (fun c20 => ?_)
      · refine J_iconst (q := 32) X dX4_faultAt_31 rfl ?_
        refine J_goto (q := 36) X dX4_faultAt_32 (by decide) ?_
        refine J_iret X R dX4_faultAt_36 ?_
        exact ⟨by repeat (first | (rw [if_pos (by omega)]; done) | rw [if_neg (by omega)]), rfl⟩
      · refine J_iload_n (q := 24) X dX4_faultAt_23 rfl rfl ?_
        refine J_aload_n (q := 25) X dX4_faultAt_24 rfl rfl ?_
        refine J_get (q := 28) X dX4_faultAt_25 fX4_23 hS (by omega) rfl rfl ?_
        refine J_icmp_lt (q := 31) (tgt := 35) X dX4_faultAt_28 (by decide) rfl (by omega) (by omega) (fun c28 => ?_) (fun c28 => ?_)
        · refine J_iconst (q := 36) X dX4_faultAt_35 rfl ?_
          refine J_iret X R dX4_faultAt_36 ?_
          exact ⟨by repeat (first | (rw [if_pos (by omega)]; done) | rw [if_neg (by omega)]), rfl⟩
        · refine J_iconst (q := 32) X dX4_faultAt_31 rfl ?_
          refine J_goto (q := 36) X dX4_faultAt_32 (by decide) ?_
          refine J_iret X R dX4_faultAt_36 ?_
          exact ⟨by repeat (first | (rw [if_pos (by omega)]; done) | rw [if_neg (by omega)]), rfl⟩
    · refine J_iconst (q := 18) X dX4_faultAt_17 rfl ?_
      refine J_iret X R dX4_faultAt_18 ?_
      exact ⟨by repeat (first | (rw [if_pos (by omega)]; done) | rw [if_neg (by omega)]), rfl⟩
  · refine J_iconst (q := 8) X dX4_faultAt_7 rfl ?_
    refine J_iret X R dX4_faultAt_8 ?_
    exact ⟨by repeat (first | (rw [if_pos (by omega)]; done) | rw [if_neg (by omega)]), rfl⟩

set_option maxRecDepth 100000 in
set_option maxHeartbeats 4000000 in
theorem c_X4_setCell {l : Launch} {Γ : JG} {ad : Nat → Nat} {E : Nat → va_E} {r c : Nat} {th la n : Int} {f : Int → Int} {i v : Int} (hS : E r = .inr (4, [.ref (ad c), .int (jI th), .int (jI la), .int (jI n)])) (hC : E c = aI Γ 40 f) (hr : r < 95 ∧ c < 95 ∧ r ≠ c) (hth : th = 0 ∨ th = 1) (hla : 0 ≤ la ∧ la ≤ 2) (hn : 0 ≤ n ∧ n ≤ 40) (hi : 0 ≤ i ∧ i < 40) : JM l Γ yX4_setCell cX4_setCell 3 none 0 0 0 0 ad 95 E [.ref (ad r), .int (jI i), .int (jI v)] (pV (fun E' => E' c = aI Γ 40 (iu f i (lanev la v)) ∧ ∀ j : Nat, j ≠ c → E' j = E j)) := by
  refine JM_intro (own := RX4) [some (.ref (ad r)), some (.int (jI i)), some (.int (jI v))] rfl rfl rfl (Nat.le_of_ble_eq_true rfl) ?_
  intro Ω X R hin
  obtain ⟨E0, hE0⟩ : ∃ E0 : Nat → va_E, E0 = E := ⟨_, rfl⟩
  have hF : ∀ j : Nat, j ≠ c → E j = E0 j := fun _ _ => by rw [hE0]
  refine J_aload_n (q := 1) X dX4_setCell_0 rfl rfl ?_
  refine J_get (q := 4) X dX4_setCell_1 fX4_19 hS (by omega) rfl rfl ?_
  rcases (show (la ≠ 0 ∧ la ≠ 1) ∨ la = 0 ∨ la = 1 by omega) with hsw | hsw | hsw
  · refine J_lookup (tgt := 54) (off := 50) X dX4_setCell_4 (by decide) (by omega) (by simp only [Op.lookupswitch.offset_cons, Op.lookupswitch.offset]; first | (repeat rw [if_neg (by omega)]) | simp; done) (by decide) ?_
    refine J_aload_n (q := 55) X dX4_setCell_54 rfl rfl ?_
    refine J_get (q := 58) X dX4_setCell_55 fX4_9 hS (by omega) rfl rfl ?_
    refine J_iload_n (q := 59) X dX4_setCell_58 rfl rfl ?_
    refine J_iload_n (q := 60) X dX4_setCell_59 rfl rfl ?_
    refine J_iast (q := 61) X dX4_setCell_60 hC (by omega) (by omega) (by decide) rfl (fun E60 hk60 hs60 => ?_)
    replace hC := hk60
    replace hS := (hs60 r (by omega)).trans hS
    replace hF : ∀ j : Nat, j ≠ c → E60 j = E0 j := fun j hj => (hs60 j (by omega)).trans (hF j hj)
    refine J_vret X R dX4_setCell_61 ?_
    rw [hE0] at hF
    refine ⟨rfl, ?_, hF⟩
    unfold lanev
    first | (rw [if_pos (by omega)]; exact hC) | (rw [if_neg (by omega), if_pos (by omega)]; exact hC) | (rw [if_neg (by omega), if_neg (by omega)]; exact hC)
  · refine J_lookup (tgt := 32) (off := 28) X dX4_setCell_4 (by decide) (by omega) (by rw [hsw]; decide) (by decide) ?_
    refine J_aload_n (q := 33) X dX4_setCell_32 rfl rfl ?_
    refine J_get (q := 36) X dX4_setCell_33 fX4_9 hS (by omega) rfl rfl ?_
    refine J_iload_n (q := 37) X dX4_setCell_36 rfl rfl ?_
    refine J_iload_n (q := 38) X dX4_setCell_37 rfl rfl ?_
    refine J_i2b (q := 39) X dX4_setCell_38 rfl (jI_i2b v) ?_
    refine J_iast (q := 40) X dX4_setCell_39 hC (by omega) (by omega) (by decide) rfl (fun E39 hk39 hs39 => ?_)
    replace hC := hk39
    replace hS := (hs39 r (by omega)).trans hS
    replace hF : ∀ j : Nat, j ≠ c → E39 j = E0 j := fun j hj => (hs39 j (by omega)).trans (hF j hj)
    refine J_goto (q := 61) X dX4_setCell_40 (by decide) ?_
    refine J_vret X R dX4_setCell_61 ?_
    rw [hE0] at hF
    refine ⟨rfl, ?_, hF⟩
    unfold lanev
    first | (rw [if_pos (by omega)]; exact hC) | (rw [if_neg (by omega), if_pos (by omega)]; exact hC) | (rw [if_neg (by omega), if_neg (by omega)]; exact hC)
  · refine J_lookup (tgt := 43) (off := 39) X dX4_setCell_4 (by decide) (by omega) (by rw [hsw]; decide) (by decide) ?_
    refine J_aload_n (q := 44) X dX4_setCell_43 rfl rfl ?_
    refine J_get (q := 47) X dX4_setCell_44 fX4_9 hS (by omega) rfl rfl ?_
    refine J_iload_n (q := 48) X dX4_setCell_47 rfl rfl ?_
    refine J_iload_n (q := 49) X dX4_setCell_48 rfl rfl ?_
    refine J_i2s (q := 50) X dX4_setCell_49 rfl (jI_i2s v) ?_
    refine J_iast (q := 51) X dX4_setCell_50 hC (by omega) (by omega) (by decide) rfl (fun E50 hk50 hs50 => ?_)
    replace hC := hk50
    replace hS := (hs50 r (by omega)).trans hS
    replace hF : ∀ j : Nat, j ≠ c → E50 j = E0 j := fun j hj => (hs50 j (by omega)).trans (hF j hj)
    refine J_goto (q := 61) X dX4_setCell_51 (by decide) ?_
    refine J_vret X R dX4_setCell_61 ?_
    rw [hE0] at hF
    refine ⟨rfl, ?_, hF⟩
    unfold lanev
    first | (rw [if_pos (by omega)]; exact hC) | (rw [if_neg (by omega), if_pos (by omega)]; exact hC) | (rw [if_neg (by omega), if_neg (by omega)]; exact hC)
end
section
theorem zz_probe : (1:Nat) = 1 := rfl
end
